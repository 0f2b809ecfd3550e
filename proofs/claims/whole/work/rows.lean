section
-- ===== PART A: goes FIRST, ahead of the names: the tables' words, and 'selects' of the private methods out of them =====
/-- a private method of a class that the tables say can be made, by its rows of tables_1 -/
def lw_okq (q : MethodName × Nat) : Prop := (q.1.cls ≠ "java/lang/invoke/MethodHandle" ∧ q.1.cls ≠ "java/lang/invoke/VarHandle") ∧ Cond.instantiable q.1.cls q.2 ∈ tables_1 ∧ Cond.privateMethod q.1 ∈ tables_1 ∧ Cond.instanceMethod q.1 ∈ tables_1
theorem lw_p0 : lw_okq (⟨"PayPromise$Reader", "look", "()I"⟩, 5) := ⟨⟨by decide +kernel, by decide +kernel⟩, List.mem_of_getElem? (i := 32) (by decide +kernel), List.mem_of_getElem? (i := 309) (by decide +kernel), List.mem_of_getElem? (i := 310) (by decide +kernel)⟩
theorem lw_p1 : lw_okq (⟨"PayPromise$Reader", "readPaid", "(LPayPromise$Rules;)V"⟩, 5) := ⟨⟨by decide +kernel, by decide +kernel⟩, List.mem_of_getElem? (i := 32) (by decide +kernel), List.mem_of_getElem? (i := 313) (by decide +kernel), List.mem_of_getElem? (i := 314) (by decide +kernel)⟩
theorem lw_p2 : lw_okq (⟨"PayPromise$Reader", "take", "(I)Z"⟩, 5) := ⟨⟨by decide +kernel, by decide +kernel⟩, List.mem_of_getElem? (i := 32) (by decide +kernel), List.mem_of_getElem? (i := 317) (by decide +kernel), List.mem_of_getElem? (i := 318) (by decide +kernel)⟩
theorem lw_p3 : lw_okq (⟨"PayPromise$Reader", "fail", "(I)Z"⟩, 5) := ⟨⟨by decide +kernel, by decide +kernel⟩, List.mem_of_getElem? (i := 32) (by decide +kernel), List.mem_of_getElem? (i := 321) (by decide +kernel), List.mem_of_getElem? (i := 322) (by decide +kernel)⟩
theorem lw_p4 : lw_okq (⟨"PayPromise$Reader", "readTerms", "(LPayPromise$Rules;I)Z"⟩, 5) := ⟨⟨by decide +kernel, by decide +kernel⟩, List.mem_of_getElem? (i := 32) (by decide +kernel), List.mem_of_getElem? (i := 325) (by decide +kernel), List.mem_of_getElem? (i := 326) (by decide +kernel)⟩
theorem lw_p5 : lw_okq (⟨"PayPromise$Reader", "readBenefit", "(LPayPromise$Rules;)Z"⟩, 5) := ⟨⟨by decide +kernel, by decide +kernel⟩, List.mem_of_getElem? (i := 32) (by decide +kernel), List.mem_of_getElem? (i := 336) (by decide +kernel), List.mem_of_getElem? (i := 337) (by decide +kernel)⟩
theorem lw_p6 : lw_okq (⟨"PayPromise$Reader", "readNumber", "(II)I"⟩, 5) := ⟨⟨by decide +kernel, by decide +kernel⟩, List.mem_of_getElem? (i := 32) (by decide +kernel), List.mem_of_getElem? (i := 340) (by decide +kernel), List.mem_of_getElem? (i := 341) (by decide +kernel)⟩
theorem lw_p7 : lw_okq (⟨"PayPromise$Reader", "isDigit", "(I)Z"⟩, 5) := ⟨⟨by decide +kernel, by decide +kernel⟩, List.mem_of_getElem? (i := 32) (by decide +kernel), List.mem_of_getElem? (i := 344) (by decide +kernel), List.mem_of_getElem? (i := 345) (by decide +kernel)⟩
theorem lw_p8 : lw_okq (⟨"PayPromise$Reader", "readRule", "(LPayPromise$Rules;)Z"⟩, 5) := ⟨⟨by decide +kernel, by decide +kernel⟩, List.mem_of_getElem? (i := 32) (by decide +kernel), List.mem_of_getElem? (i := 348) (by decide +kernel), List.mem_of_getElem? (i := 349) (by decide +kernel)⟩
theorem lw_p9 : lw_okq (⟨"PayPromise$Reader", "readSegments", "(LPayPromise$Rules;I)Z"⟩, 5) := ⟨⟨by decide +kernel, by decide +kernel⟩, List.mem_of_getElem? (i := 32) (by decide +kernel), List.mem_of_getElem? (i := 359) (by decide +kernel), List.mem_of_getElem? (i := 360) (by decide +kernel)⟩
theorem lw_p10 : lw_okq (⟨"PayPromise$Reader", "readSegment", "(LPayPromise$Rules;III)Z"⟩, 5) := ⟨⟨by decide +kernel, by decide +kernel⟩, List.mem_of_getElem? (i := 32) (by decide +kernel), List.mem_of_getElem? (i := 363) (by decide +kernel), List.mem_of_getElem? (i := 364) (by decide +kernel)⟩
theorem lw_p11 : lw_okq (⟨"PayPromise", "line", "(I)LPayPromise$Line;"⟩, 11) := ⟨⟨by decide +kernel, by decide +kernel⟩, List.mem_of_getElem? (i := 24) (by decide +kernel), List.mem_of_getElem? (i := 385) (by decide +kernel), List.mem_of_getElem? (i := 386) (by decide +kernel)⟩
theorem lw_p12 : lw_okq (⟨"PayPromise", "fresh", "()LPayPromise$Lines;"⟩, 11) := ⟨⟨by decide +kernel, by decide +kernel⟩, List.mem_of_getElem? (i := 24) (by decide +kernel), List.mem_of_getElem? (i := 389) (by decide +kernel), List.mem_of_getElem? (i := 390) (by decide +kernel)⟩
theorem lw_p13 : lw_okq (⟨"PayPromise$Point", "addUp", "(LPayPromise$Rules;III)J"⟩, 3) := ⟨⟨by decide +kernel, by decide +kernel⟩, List.mem_of_getElem? (i := 56) (by decide +kernel), List.mem_of_getElem? (i := 406) (by decide +kernel), List.mem_of_getElem? (i := 407) (by decide +kernel)⟩
theorem lw_p14 : lw_okq (⟨"PayPromise$Lines", "straightFor", "(LPayPromise$Rules;LPayPromise$Point;I)I"⟩, 3) := ⟨⟨by decide +kernel, by decide +kernel⟩, List.mem_of_getElem? (i := 79) (by decide +kernel), List.mem_of_getElem? (i := 422) (by decide +kernel), List.mem_of_getElem? (i := 423) (by decide +kernel)⟩
theorem lw_p15 : lw_okq (⟨"PayPromise$Lines", "gainOfTerms", "(LPayPromise$Rules;I)J"⟩, 3) := ⟨⟨by decide +kernel, by decide +kernel⟩, List.mem_of_getElem? (i := 79) (by decide +kernel), List.mem_of_getElem? (i := 426) (by decide +kernel), List.mem_of_getElem? (i := 427) (by decide +kernel)⟩
def lw_privs_1 : List (MethodName × Nat) := [(⟨"PayPromise$Reader", "look", "()I"⟩, 5), (⟨"PayPromise$Reader", "readPaid", "(LPayPromise$Rules;)V"⟩, 5), (⟨"PayPromise$Reader", "take", "(I)Z"⟩, 5), (⟨"PayPromise$Reader", "fail", "(I)Z"⟩, 5), (⟨"PayPromise$Reader", "readTerms", "(LPayPromise$Rules;I)Z"⟩, 5), (⟨"PayPromise$Reader", "readBenefit", "(LPayPromise$Rules;)Z"⟩, 5), (⟨"PayPromise$Reader", "readNumber", "(II)I"⟩, 5), (⟨"PayPromise$Reader", "isDigit", "(I)Z"⟩, 5), (⟨"PayPromise$Reader", "readRule", "(LPayPromise$Rules;)Z"⟩, 5), (⟨"PayPromise$Reader", "readSegments", "(LPayPromise$Rules;I)Z"⟩, 5), (⟨"PayPromise$Reader", "readSegment", "(LPayPromise$Rules;III)Z"⟩, 5), (⟨"PayPromise", "line", "(I)LPayPromise$Line;"⟩, 11), (⟨"PayPromise", "fresh", "()LPayPromise$Lines;"⟩, 11), (⟨"PayPromise$Point", "addUp", "(LPayPromise$Rules;III)J"⟩, 3), (⟨"PayPromise$Lines", "straightFor", "(LPayPromise$Rules;LPayPromise$Point;I)I"⟩, 3), (⟨"PayPromise$Lines", "gainOfTerms", "(LPayPromise$Rules;I)J"⟩, 3)]
theorem lw_r1 : ∀ q ∈ lw_privs_1, lw_okq q := List.forall_mem_cons.mpr ⟨lw_p0, List.forall_mem_cons.mpr ⟨lw_p1, List.forall_mem_cons.mpr ⟨lw_p2, List.forall_mem_cons.mpr ⟨lw_p3, List.forall_mem_cons.mpr ⟨lw_p4, List.forall_mem_cons.mpr ⟨lw_p5, List.forall_mem_cons.mpr ⟨lw_p6, List.forall_mem_cons.mpr ⟨lw_p7, List.forall_mem_cons.mpr ⟨lw_p8, List.forall_mem_cons.mpr ⟨lw_p9, List.forall_mem_cons.mpr ⟨lw_p10, List.forall_mem_cons.mpr ⟨lw_p11, List.forall_mem_cons.mpr ⟨lw_p12, List.forall_mem_cons.mpr ⟨lw_p13, List.forall_mem_cons.mpr ⟨lw_p14, List.forall_mem_cons.mpr ⟨lw_p15, fun _ h => absurd h List.not_mem_nil⟩⟩⟩⟩⟩⟩⟩⟩⟩⟩⟩⟩⟩⟩⟩⟩
theorem lw_p16 : lw_okq (⟨"PayPromise$Line", "open", "(IJ)V"⟩, 8) := ⟨⟨by decide +kernel, by decide +kernel⟩, List.mem_of_getElem? (i := 88) (by decide +kernel), List.mem_of_getElem? (i := 444) (by decide +kernel), List.mem_of_getElem? (i := 445) (by decide +kernel)⟩
theorem lw_p17 : lw_okq (⟨"PayPromise$Line", "makeRoom", "()V"⟩, 8) := ⟨⟨by decide +kernel, by decide +kernel⟩, List.mem_of_getElem? (i := 88) (by decide +kernel), List.mem_of_getElem? (i := 448) (by decide +kernel), List.mem_of_getElem? (i := 449) (by decide +kernel)⟩
theorem lw_p18 : lw_okq (⟨"PayPromise$Line", "go", "(JI)V"⟩, 8) := ⟨⟨by decide +kernel, by decide +kernel⟩, List.mem_of_getElem? (i := 88) (by decide +kernel), List.mem_of_getElem? (i := 476) (by decide +kernel), List.mem_of_getElem? (i := 477) (by decide +kernel)⟩
theorem lw_p19 : lw_okq (⟨"PayPromise$Line", "cliffsIn", "(I)I"⟩, 8) := ⟨⟨by decide +kernel, by decide +kernel⟩, List.mem_of_getElem? (i := 88) (by decide +kernel), List.mem_of_getElem? (i := 487) (by decide +kernel), List.mem_of_getElem? (i := 488) (by decide +kernel)⟩
theorem lw_p20 : lw_okq (⟨"PayPromise$Line", "cliffInto", "(I)Z"⟩, 8) := ⟨⟨by decide +kernel, by decide +kernel⟩, List.mem_of_getElem? (i := 88) (by decide +kernel), List.mem_of_getElem? (i := 491) (by decide +kernel), List.mem_of_getElem? (i := 492) (by decide +kernel)⟩
theorem lw_p21 : lw_okq (⟨"PayPromise$Line", "gainInto", "(I)J"⟩, 8) := ⟨⟨by decide +kernel, by decide +kernel⟩, List.mem_of_getElem? (i := 88) (by decide +kernel), List.mem_of_getElem? (i := 495) (by decide +kernel), List.mem_of_getElem? (i := 496) (by decide +kernel)⟩
theorem lw_p22 : lw_okq (⟨"PayPromise$Line", "lastValue", "(I)J"⟩, 8) := ⟨⟨by decide +kernel, by decide +kernel⟩, List.mem_of_getElem? (i := 88) (by decide +kernel), List.mem_of_getElem? (i := 499) (by decide +kernel), List.mem_of_getElem? (i := 500) (by decide +kernel)⟩
theorem lw_p23 : lw_okq (⟨"PayPromise$Line", "valueIn", "(II)J"⟩, 8) := ⟨⟨by decide +kernel, by decide +kernel⟩, List.mem_of_getElem? (i := 88) (by decide +kernel), List.mem_of_getElem? (i := 507) (by decide +kernel), List.mem_of_getElem? (i := 508) (by decide +kernel)⟩
theorem lw_p24 : lw_okq (⟨"PayPromise$Line", "further", "(I)I"⟩, 8) := ⟨⟨by decide +kernel, by decide +kernel⟩, List.mem_of_getElem? (i := 88) (by decide +kernel), List.mem_of_getElem? (i := 511) (by decide +kernel), List.mem_of_getElem? (i := 512) (by decide +kernel)⟩
theorem lw_p25 : lw_okq (⟨"PayPromise", "isSegment", "(II)Z"⟩, 11) := ⟨⟨by decide +kernel, by decide +kernel⟩, List.mem_of_getElem? (i := 24) (by decide +kernel), List.mem_of_getElem? (i := 519) (by decide +kernel), List.mem_of_getElem? (i := 520) (by decide +kernel)⟩
theorem lw_p26 : lw_okq (⟨"PayPromise", "isAccount", "(I)Z"⟩, 11) := ⟨⟨by decide +kernel, by decide +kernel⟩, List.mem_of_getElem? (i := 24) (by decide +kernel), List.mem_of_getElem? (i := 523) (by decide +kernel), List.mem_of_getElem? (i := 524) (by decide +kernel)⟩
theorem lw_p27 : lw_okq (⟨"PayPromise", "isLine", "(I)Z"⟩, 11) := ⟨⟨by decide +kernel, by decide +kernel⟩, List.mem_of_getElem? (i := 24) (by decide +kernel), List.mem_of_getElem? (i := 531) (by decide +kernel), List.mem_of_getElem? (i := 532) (by decide +kernel)⟩
theorem lw_p28 : lw_okq (⟨"PayPromise$Line", "timesIn", "(IJ)I"⟩, 8) := ⟨⟨by decide +kernel, by decide +kernel⟩, List.mem_of_getElem? (i := 88) (by decide +kernel), List.mem_of_getElem? (i := 569) (by decide +kernel), List.mem_of_getElem? (i := 570) (by decide +kernel)⟩
theorem lw_p29 : lw_okq (⟨"PayPromise", "keptAt", "(I)J"⟩, 11) := ⟨⟨by decide +kernel, by decide +kernel⟩, List.mem_of_getElem? (i := 24) (by decide +kernel), List.mem_of_getElem? (i := 638) (by decide +kernel), List.mem_of_getElem? (i := 639) (by decide +kernel)⟩
theorem lw_p30 : lw_okq (⟨"PayPromise", "refuse", "(II)I"⟩, 11) := ⟨⟨by decide +kernel, by decide +kernel⟩, List.mem_of_getElem? (i := 24) (by decide +kernel), List.mem_of_getElem? (i := 683) (by decide +kernel), List.mem_of_getElem? (i := 684) (by decide +kernel)⟩
theorem lw_p31 : lw_okq (⟨"PayPromise", "mayBend", "(IIII)Z"⟩, 11) := ⟨⟨by decide +kernel, by decide +kernel⟩, List.mem_of_getElem? (i := 24) (by decide +kernel), List.mem_of_getElem? (i := 687) (by decide +kernel), List.mem_of_getElem? (i := 688) (by decide +kernel)⟩
def lw_privs_2 : List (MethodName × Nat) := [(⟨"PayPromise$Line", "open", "(IJ)V"⟩, 8), (⟨"PayPromise$Line", "makeRoom", "()V"⟩, 8), (⟨"PayPromise$Line", "go", "(JI)V"⟩, 8), (⟨"PayPromise$Line", "cliffsIn", "(I)I"⟩, 8), (⟨"PayPromise$Line", "cliffInto", "(I)Z"⟩, 8), (⟨"PayPromise$Line", "gainInto", "(I)J"⟩, 8), (⟨"PayPromise$Line", "lastValue", "(I)J"⟩, 8), (⟨"PayPromise$Line", "valueIn", "(II)J"⟩, 8), (⟨"PayPromise$Line", "further", "(I)I"⟩, 8), (⟨"PayPromise", "isSegment", "(II)Z"⟩, 11), (⟨"PayPromise", "isAccount", "(I)Z"⟩, 11), (⟨"PayPromise", "isLine", "(I)Z"⟩, 11), (⟨"PayPromise$Line", "timesIn", "(IJ)I"⟩, 8), (⟨"PayPromise", "keptAt", "(I)J"⟩, 11), (⟨"PayPromise", "refuse", "(II)I"⟩, 11), (⟨"PayPromise", "mayBend", "(IIII)Z"⟩, 11)]
theorem lw_r2 : ∀ q ∈ lw_privs_2, lw_okq q := List.forall_mem_cons.mpr ⟨lw_p16, List.forall_mem_cons.mpr ⟨lw_p17, List.forall_mem_cons.mpr ⟨lw_p18, List.forall_mem_cons.mpr ⟨lw_p19, List.forall_mem_cons.mpr ⟨lw_p20, List.forall_mem_cons.mpr ⟨lw_p21, List.forall_mem_cons.mpr ⟨lw_p22, List.forall_mem_cons.mpr ⟨lw_p23, List.forall_mem_cons.mpr ⟨lw_p24, List.forall_mem_cons.mpr ⟨lw_p25, List.forall_mem_cons.mpr ⟨lw_p26, List.forall_mem_cons.mpr ⟨lw_p27, List.forall_mem_cons.mpr ⟨lw_p28, List.forall_mem_cons.mpr ⟨lw_p29, List.forall_mem_cons.mpr ⟨lw_p30, List.forall_mem_cons.mpr ⟨lw_p31, fun _ h => absurd h List.not_mem_nil⟩⟩⟩⟩⟩⟩⟩⟩⟩⟩⟩⟩⟩⟩⟩⟩
theorem lw_p32 : lw_okq (⟨"PayPromise", "isMonth", "(I)Z"⟩, 11) := ⟨⟨by decide +kernel, by decide +kernel⟩, List.mem_of_getElem? (i := 24) (by decide +kernel), List.mem_of_getElem? (i := 738) (by decide +kernel), List.mem_of_getElem? (i := 739) (by decide +kernel)⟩
theorem lw_p33 : lw_okq (⟨"PayPromise$Speller", "put", "(I)V"⟩, 3) := ⟨⟨by decide +kernel, by decide +kernel⟩, List.mem_of_getElem? (i := 152) (by decide +kernel), List.mem_of_getElem? (i := 895) (by decide +kernel), List.mem_of_getElem? (i := 896) (by decide +kernel)⟩
theorem lw_p34 : lw_okq (⟨"PayPromise$Speller", "writeTerms", "(LPayPromise$Rules;I)V"⟩, 3) := ⟨⟨by decide +kernel, by decide +kernel⟩, List.mem_of_getElem? (i := 152) (by decide +kernel), List.mem_of_getElem? (i := 899) (by decide +kernel), List.mem_of_getElem? (i := 900) (by decide +kernel)⟩
theorem lw_p35 : lw_okq (⟨"PayPromise$Speller", "writeSegments", "(LPayPromise$Rules;I)V"⟩, 3) := ⟨⟨by decide +kernel, by decide +kernel⟩, List.mem_of_getElem? (i := 152) (by decide +kernel), List.mem_of_getElem? (i := 906) (by decide +kernel), List.mem_of_getElem? (i := 907) (by decide +kernel)⟩
theorem lw_p36 : lw_okq (⟨"PayPromise$Speller", "writeNumber", "(I)V"⟩, 3) := ⟨⟨by decide +kernel, by decide +kernel⟩, List.mem_of_getElem? (i := 152) (by decide +kernel), List.mem_of_getElem? (i := 910) (by decide +kernel), List.mem_of_getElem? (i := 911) (by decide +kernel)⟩
theorem lw_p37 : lw_okq (⟨"PayPromise$Line", "lowAtFirst", "(IJ)I"⟩, 8) := ⟨⟨by decide +kernel, by decide +kernel⟩, List.mem_of_getElem? (i := 88) (by decide +kernel), List.mem_of_getElem? (i := 936) (by decide +kernel), List.mem_of_getElem? (i := 937) (by decide +kernel)⟩
theorem lw_p38 : lw_okq (⟨"java/lang/Throwable", "fillInStackTrace", "(I)Ljava/lang/Throwable;"⟩, 6) := ⟨⟨by decide +kernel, by decide +kernel⟩, List.mem_of_getElem? (i := 997) (by decide +kernel), List.mem_of_getElem? (i := 995) (by decide +kernel), List.mem_of_getElem? (i := 996) (by decide +kernel)⟩
theorem lw_p39 : lw_okq (⟨"PayPromiseModel", "readDesk", "()I"⟩, 34) := ⟨⟨by decide +kernel, by decide +kernel⟩, List.mem_of_getElem? (i := 1027) (by decide +kernel), List.mem_of_getElem? (i := 1158) (by decide +kernel), List.mem_of_getElem? (i := 1159) (by decide +kernel)⟩
theorem lw_p40 : lw_okq (⟨"PayPromiseModel", "ahead", "()I"⟩, 34) := ⟨⟨by decide +kernel, by decide +kernel⟩, List.mem_of_getElem? (i := 1027) (by decide +kernel), List.mem_of_getElem? (i := 1162) (by decide +kernel), List.mem_of_getElem? (i := 1163) (by decide +kernel)⟩
theorem lw_p41 : lw_okq (⟨"PayPromiseModel", "here", "()I"⟩, 34) := ⟨⟨by decide +kernel, by decide +kernel⟩, List.mem_of_getElem? (i := 1027) (by decide +kernel), List.mem_of_getElem? (i := 1166) (by decide +kernel), List.mem_of_getElem? (i := 1167) (by decide +kernel)⟩
theorem lw_p42 : lw_okq (⟨"PayPromiseModel", "readSum", "(I)V"⟩, 34) := ⟨⟨by decide +kernel, by decide +kernel⟩, List.mem_of_getElem? (i := 1027) (by decide +kernel), List.mem_of_getElem? (i := 1170) (by decide +kernel), List.mem_of_getElem? (i := 1171) (by decide +kernel)⟩
theorem lw_p43 : lw_okq (⟨"PayPromiseModel", "must", "(I)V"⟩, 34) := ⟨⟨by decide +kernel, by decide +kernel⟩, List.mem_of_getElem? (i := 1027) (by decide +kernel), List.mem_of_getElem? (i := 1174) (by decide +kernel), List.mem_of_getElem? (i := 1175) (by decide +kernel)⟩
theorem lw_p44 : lw_okq (⟨"PayPromiseModel", "bad", "()V"⟩, 34) := ⟨⟨by decide +kernel, by decide +kernel⟩, List.mem_of_getElem? (i := 1027) (by decide +kernel), List.mem_of_getElem? (i := 1178) (by decide +kernel), List.mem_of_getElem? (i := 1179) (by decide +kernel)⟩
theorem lw_p45 : lw_okq (⟨"PayPromiseModel", "badAt", "(I)V"⟩, 34) := ⟨⟨by decide +kernel, by decide +kernel⟩, List.mem_of_getElem? (i := 1027) (by decide +kernel), List.mem_of_getElem? (i := 1182) (by decide +kernel), List.mem_of_getElem? (i := 1183) (by decide +kernel)⟩
theorem lw_p46 : lw_okq (⟨"PayPromiseModel", "takes", "(I)Z"⟩, 34) := ⟨⟨by decide +kernel, by decide +kernel⟩, List.mem_of_getElem? (i := 1027) (by decide +kernel), List.mem_of_getElem? (i := 1186) (by decide +kernel), List.mem_of_getElem? (i := 1187) (by decide +kernel)⟩
theorem lw_p47 : lw_okq (⟨"PayPromiseModel", "readTerm", "(II)V"⟩, 34) := ⟨⟨by decide +kernel, by decide +kernel⟩, List.mem_of_getElem? (i := 1027) (by decide +kernel), List.mem_of_getElem? (i := 1190) (by decide +kernel), List.mem_of_getElem? (i := 1191) (by decide +kernel)⟩
def lw_privs_3 : List (MethodName × Nat) := [(⟨"PayPromise", "isMonth", "(I)Z"⟩, 11), (⟨"PayPromise$Speller", "put", "(I)V"⟩, 3), (⟨"PayPromise$Speller", "writeTerms", "(LPayPromise$Rules;I)V"⟩, 3), (⟨"PayPromise$Speller", "writeSegments", "(LPayPromise$Rules;I)V"⟩, 3), (⟨"PayPromise$Speller", "writeNumber", "(I)V"⟩, 3), (⟨"PayPromise$Line", "lowAtFirst", "(IJ)I"⟩, 8), (⟨"java/lang/Throwable", "fillInStackTrace", "(I)Ljava/lang/Throwable;"⟩, 6), (⟨"PayPromiseModel", "readDesk", "()I"⟩, 34), (⟨"PayPromiseModel", "ahead", "()I"⟩, 34), (⟨"PayPromiseModel", "here", "()I"⟩, 34), (⟨"PayPromiseModel", "readSum", "(I)V"⟩, 34), (⟨"PayPromiseModel", "must", "(I)V"⟩, 34), (⟨"PayPromiseModel", "bad", "()V"⟩, 34), (⟨"PayPromiseModel", "badAt", "(I)V"⟩, 34), (⟨"PayPromiseModel", "takes", "(I)Z"⟩, 34), (⟨"PayPromiseModel", "readTerm", "(II)V"⟩, 34)]
theorem lw_r3 : ∀ q ∈ lw_privs_3, lw_okq q := List.forall_mem_cons.mpr ⟨lw_p32, List.forall_mem_cons.mpr ⟨lw_p33, List.forall_mem_cons.mpr ⟨lw_p34, List.forall_mem_cons.mpr ⟨lw_p35, List.forall_mem_cons.mpr ⟨lw_p36, List.forall_mem_cons.mpr ⟨lw_p37, List.forall_mem_cons.mpr ⟨lw_p38, List.forall_mem_cons.mpr ⟨lw_p39, List.forall_mem_cons.mpr ⟨lw_p40, List.forall_mem_cons.mpr ⟨lw_p41, List.forall_mem_cons.mpr ⟨lw_p42, List.forall_mem_cons.mpr ⟨lw_p43, List.forall_mem_cons.mpr ⟨lw_p44, List.forall_mem_cons.mpr ⟨lw_p45, List.forall_mem_cons.mpr ⟨lw_p46, List.forall_mem_cons.mpr ⟨lw_p47, fun _ h => absurd h List.not_mem_nil⟩⟩⟩⟩⟩⟩⟩⟩⟩⟩⟩⟩⟩⟩⟩⟩
theorem lw_p48 : lw_okq (⟨"PayPromiseModel", "number", "(II)I"⟩, 34) := ⟨⟨by decide +kernel, by decide +kernel⟩, List.mem_of_getElem? (i := 1027) (by decide +kernel), List.mem_of_getElem? (i := 1194) (by decide +kernel), List.mem_of_getElem? (i := 1195) (by decide +kernel)⟩
theorem lw_p49 : lw_okq (⟨"PayPromiseModel", "readRule", "()V"⟩, 34) := ⟨⟨by decide +kernel, by decide +kernel⟩, List.mem_of_getElem? (i := 1027) (by decide +kernel), List.mem_of_getElem? (i := 1201) (by decide +kernel), List.mem_of_getElem? (i := 1202) (by decide +kernel)⟩
theorem lw_p50 : lw_okq (⟨"PayPromiseModel", "deepBy", "(I)I"⟩, 34) := ⟨⟨by decide +kernel, by decide +kernel⟩, List.mem_of_getElem? (i := 1027) (by decide +kernel), List.mem_of_getElem? (i := 1205) (by decide +kernel), List.mem_of_getElem? (i := 1206) (by decide +kernel)⟩
theorem lw_p51 : lw_okq (⟨"PayPromiseModel", "readsSegment", "(I)V"⟩, 34) := ⟨⟨by decide +kernel, by decide +kernel⟩, List.mem_of_getElem? (i := 1027) (by decide +kernel), List.mem_of_getElem? (i := 1210) (by decide +kernel), List.mem_of_getElem? (i := 1211) (by decide +kernel)⟩
theorem lw_p52 : lw_okq (⟨"PayPromiseModel", "piecesOf", "(I)I"⟩, 34) := ⟨⟨by decide +kernel, by decide +kernel⟩, List.mem_of_getElem? (i := 1027) (by decide +kernel), List.mem_of_getElem? (i := 1226) (by decide +kernel), List.mem_of_getElem? (i := 1227) (by decide +kernel)⟩
theorem lw_p53 : lw_okq (⟨"PayPromiseModel", "laysPieces", "(I)V"⟩, 34) := ⟨⟨by decide +kernel, by decide +kernel⟩, List.mem_of_getElem? (i := 1027) (by decide +kernel), List.mem_of_getElem? (i := 1230) (by decide +kernel), List.mem_of_getElem? (i := 1231) (by decide +kernel)⟩
theorem lw_p54 : lw_okq (⟨"PayPromiseModel", "laysLine", "(I)V"⟩, 34) := ⟨⟨by decide +kernel, by decide +kernel⟩, List.mem_of_getElem? (i := 1027) (by decide +kernel), List.mem_of_getElem? (i := 1234) (by decide +kernel), List.mem_of_getElem? (i := 1235) (by decide +kernel)⟩
theorem lw_p55 : lw_okq (⟨"PayPromiseModel", "valueAt", "(II)J"⟩, 34) := ⟨⟨by decide +kernel, by decide +kernel⟩, List.mem_of_getElem? (i := 1027) (by decide +kernel), List.mem_of_getElem? (i := 1238) (by decide +kernel), List.mem_of_getElem? (i := 1239) (by decide +kernel)⟩
theorem lw_p56 : lw_okq (⟨"PayPromiseModel", "laysAccounts", "(I)V"⟩, 34) := ⟨⟨by decide +kernel, by decide +kernel⟩, List.mem_of_getElem? (i := 1027) (by decide +kernel), List.mem_of_getElem? (i := 1242) (by decide +kernel), List.mem_of_getElem? (i := 1243) (by decide +kernel)⟩
theorem lw_p57 : lw_okq (⟨"PayPromiseModel", "lineAt", "(II)J"⟩, 34) := ⟨⟨by decide +kernel, by decide +kernel⟩, List.mem_of_getElem? (i := 1027) (by decide +kernel), List.mem_of_getElem? (i := 1246) (by decide +kernel), List.mem_of_getElem? (i := 1247) (by decide +kernel)⟩
theorem lw_p58 : lw_okq (⟨"PayPromiseModel", "sumAt", "(II)J"⟩, 34) := ⟨⟨by decide +kernel, by decide +kernel⟩, List.mem_of_getElem? (i := 1027) (by decide +kernel), List.mem_of_getElem? (i := 1250) (by decide +kernel), List.mem_of_getElem? (i := 1251) (by decide +kernel)⟩
theorem lw_p59 : lw_okq (⟨"PayPromiseModel", "whichBy", "(IJ)I"⟩, 34) := ⟨⟨by decide +kernel, by decide +kernel⟩, List.mem_of_getElem? (i := 1027) (by decide +kernel), List.mem_of_getElem? (i := 1256) (by decide +kernel), List.mem_of_getElem? (i := 1257) (by decide +kernel)⟩
theorem lw_p60 : lw_okq (⟨"PayPromiseModel", "part", "(III)I"⟩, 34) := ⟨⟨by decide +kernel, by decide +kernel⟩, List.mem_of_getElem? (i := 1027) (by decide +kernel), List.mem_of_getElem? (i := 1260) (by decide +kernel), List.mem_of_getElem? (i := 1261) (by decide +kernel)⟩
theorem lw_p61 : lw_okq (⟨"PayPromiseModel", "beginOf", "(II)J"⟩, 34) := ⟨⟨by decide +kernel, by decide +kernel⟩, List.mem_of_getElem? (i := 1027) (by decide +kernel), List.mem_of_getElem? (i := 1264) (by decide +kernel), List.mem_of_getElem? (i := 1265) (by decide +kernel)⟩
theorem lw_p62 : lw_okq (⟨"PayPromiseModel", "step", "(I)J"⟩, 34) := ⟨⟨by decide +kernel, by decide +kernel⟩, List.mem_of_getElem? (i := 1027) (by decide +kernel), List.mem_of_getElem? (i := 1270) (by decide +kernel), List.mem_of_getElem? (i := 1271) (by decide +kernel)⟩
theorem lw_p63 : lw_okq (⟨"PayPromiseModel", "cliffsOf", "()I"⟩, 34) := ⟨⟨by decide +kernel, by decide +kernel⟩, List.mem_of_getElem? (i := 1027) (by decide +kernel), List.mem_of_getElem? (i := 1274) (by decide +kernel), List.mem_of_getElem? (i := 1275) (by decide +kernel)⟩
def lw_privs_4 : List (MethodName × Nat) := [(⟨"PayPromiseModel", "number", "(II)I"⟩, 34), (⟨"PayPromiseModel", "readRule", "()V"⟩, 34), (⟨"PayPromiseModel", "deepBy", "(I)I"⟩, 34), (⟨"PayPromiseModel", "readsSegment", "(I)V"⟩, 34), (⟨"PayPromiseModel", "piecesOf", "(I)I"⟩, 34), (⟨"PayPromiseModel", "laysPieces", "(I)V"⟩, 34), (⟨"PayPromiseModel", "laysLine", "(I)V"⟩, 34), (⟨"PayPromiseModel", "valueAt", "(II)J"⟩, 34), (⟨"PayPromiseModel", "laysAccounts", "(I)V"⟩, 34), (⟨"PayPromiseModel", "lineAt", "(II)J"⟩, 34), (⟨"PayPromiseModel", "sumAt", "(II)J"⟩, 34), (⟨"PayPromiseModel", "whichBy", "(IJ)I"⟩, 34), (⟨"PayPromiseModel", "part", "(III)I"⟩, 34), (⟨"PayPromiseModel", "beginOf", "(II)J"⟩, 34), (⟨"PayPromiseModel", "step", "(I)J"⟩, 34), (⟨"PayPromiseModel", "cliffsOf", "()I"⟩, 34)]
theorem lw_r4 : ∀ q ∈ lw_privs_4, lw_okq q := List.forall_mem_cons.mpr ⟨lw_p48, List.forall_mem_cons.mpr ⟨lw_p49, List.forall_mem_cons.mpr ⟨lw_p50, List.forall_mem_cons.mpr ⟨lw_p51, List.forall_mem_cons.mpr ⟨lw_p52, List.forall_mem_cons.mpr ⟨lw_p53, List.forall_mem_cons.mpr ⟨lw_p54, List.forall_mem_cons.mpr ⟨lw_p55, List.forall_mem_cons.mpr ⟨lw_p56, List.forall_mem_cons.mpr ⟨lw_p57, List.forall_mem_cons.mpr ⟨lw_p58, List.forall_mem_cons.mpr ⟨lw_p59, List.forall_mem_cons.mpr ⟨lw_p60, List.forall_mem_cons.mpr ⟨lw_p61, List.forall_mem_cons.mpr ⟨lw_p62, List.forall_mem_cons.mpr ⟨lw_p63, fun _ h => absurd h List.not_mem_nil⟩⟩⟩⟩⟩⟩⟩⟩⟩⟩⟩⟩⟩⟩⟩⟩
theorem lw_p64 : lw_okq (⟨"PayPromiseModel", "isAccount", "(I)Z"⟩, 34) := ⟨⟨by decide +kernel, by decide +kernel⟩, List.mem_of_getElem? (i := 1027) (by decide +kernel), List.mem_of_getElem? (i := 1282) (by decide +kernel), List.mem_of_getElem? (i := 1283) (by decide +kernel)⟩
theorem lw_p65 : lw_okq (⟨"PayPromiseModel", "isSegment", "(II)Z"⟩, 34) := ⟨⟨by decide +kernel, by decide +kernel⟩, List.mem_of_getElem? (i := 1027) (by decide +kernel), List.mem_of_getElem? (i := 1291) (by decide +kernel), List.mem_of_getElem? (i := 1292) (by decide +kernel)⟩
theorem lw_p66 : lw_okq (⟨"PayPromiseModel", "segmentAt", "(II)I"⟩, 34) := ⟨⟨by decide +kernel, by decide +kernel⟩, List.mem_of_getElem? (i := 1027) (by decide +kernel), List.mem_of_getElem? (i := 1295) (by decide +kernel), List.mem_of_getElem? (i := 1296) (by decide +kernel)⟩
theorem lw_p67 : lw_okq (⟨"PayPromiseModel", "isLine", "(I)Z"⟩, 34) := ⟨⟨by decide +kernel, by decide +kernel⟩, List.mem_of_getElem? (i := 1027) (by decide +kernel), List.mem_of_getElem? (i := 1303) (by decide +kernel), List.mem_of_getElem? (i := 1304) (by decide +kernel)⟩
theorem lw_p68 : lw_okq (⟨"PayPromiseModel", "isWage", "(I)Z"⟩, 34) := ⟨⟨by decide +kernel, by decide +kernel⟩, List.mem_of_getElem? (i := 1027) (by decide +kernel), List.mem_of_getElem? (i := 1308) (by decide +kernel), List.mem_of_getElem? (i := 1309) (by decide +kernel)⟩
theorem lw_p69 : lw_okq (⟨"PayPromiseModel", "pieceTo", "(I)I"⟩, 34) := ⟨⟨by decide +kernel, by decide +kernel⟩, List.mem_of_getElem? (i := 1027) (by decide +kernel), List.mem_of_getElem? (i := 1326) (by decide +kernel), List.mem_of_getElem? (i := 1327) (by decide +kernel)⟩
theorem lw_p70 : lw_okq (⟨"PayPromiseModel", "backFrom", "(I)I"⟩, 34) := ⟨⟨by decide +kernel, by decide +kernel⟩, List.mem_of_getElem? (i := 1027) (by decide +kernel), List.mem_of_getElem? (i := 1346) (by decide +kernel), List.mem_of_getElem? (i := 1347) (by decide +kernel)⟩
theorem lw_p71 : lw_okq (⟨"PayPromiseModel", "trapOf", "(I)I"⟩, 34) := ⟨⟨by decide +kernel, by decide +kernel⟩, List.mem_of_getElem? (i := 1027) (by decide +kernel), List.mem_of_getElem? (i := 1350) (by decide +kernel), List.mem_of_getElem? (i := 1351) (by decide +kernel)⟩
theorem lw_p72 : lw_okq (⟨"PayPromiseModel", "paidAt", "(I)J"⟩, 34) := ⟨⟨by decide +kernel, by decide +kernel⟩, List.mem_of_getElem? (i := 1027) (by decide +kernel), List.mem_of_getElem? (i := 1359) (by decide +kernel), List.mem_of_getElem? (i := 1360) (by decide +kernel)⟩
theorem lw_p73 : lw_okq (⟨"PayPromiseModel", "keptAt", "(I)J"⟩, 34) := ⟨⟨by decide +kernel, by decide +kernel⟩, List.mem_of_getElem? (i := 1027) (by decide +kernel), List.mem_of_getElem? (i := 1367) (by decide +kernel), List.mem_of_getElem? (i := 1368) (by decide +kernel)⟩
theorem lw_p74 : lw_okq (⟨"PayPromiseModel", "refuses", "(I)I"⟩, 34) := ⟨⟨by decide +kernel, by decide +kernel⟩, List.mem_of_getElem? (i := 1027) (by decide +kernel), List.mem_of_getElem? (i := 1405) (by decide +kernel), List.mem_of_getElem? (i := 1406) (by decide +kernel)⟩
theorem lw_p75 : lw_okq (⟨"PayPromiseModel", "isFromFor", "(III)Z"⟩, 34) := ⟨⟨by decide +kernel, by decide +kernel⟩, List.mem_of_getElem? (i := 1027) (by decide +kernel), List.mem_of_getElem? (i := 1409) (by decide +kernel), List.mem_of_getElem? (i := 1410) (by decide +kernel)⟩
theorem lw_p76 : lw_okq (⟨"PayPromiseModel", "paidIn", "(I)J"⟩, 34) := ⟨⟨by decide +kernel, by decide +kernel⟩, List.mem_of_getElem? (i := 1027) (by decide +kernel), List.mem_of_getElem? (i := 1423) (by decide +kernel), List.mem_of_getElem? (i := 1424) (by decide +kernel)⟩
theorem lw_p77 : lw_okq (⟨"PayPromiseModel", "dueBehind", "(I)J"⟩, 34) := ⟨⟨by decide +kernel, by decide +kernel⟩, List.mem_of_getElem? (i := 1027) (by decide +kernel), List.mem_of_getElem? (i := 1427) (by decide +kernel), List.mem_of_getElem? (i := 1428) (by decide +kernel)⟩
theorem lw_p78 : lw_okq (⟨"PayPromiseModel", "wagesOf", "(I)I"⟩, 34) := ⟨⟨by decide +kernel, by decide +kernel⟩, List.mem_of_getElem? (i := 1027) (by decide +kernel), List.mem_of_getElem? (i := 1431) (by decide +kernel), List.mem_of_getElem? (i := 1432) (by decide +kernel)⟩
theorem lw_p79 : lw_okq (⟨"PayPromiseModel", "due", "(II)J"⟩, 34) := ⟨⟨by decide +kernel, by decide +kernel⟩, List.mem_of_getElem? (i := 1027) (by decide +kernel), List.mem_of_getElem? (i := 1435) (by decide +kernel), List.mem_of_getElem? (i := 1436) (by decide +kernel)⟩
def lw_privs_5 : List (MethodName × Nat) := [(⟨"PayPromiseModel", "isAccount", "(I)Z"⟩, 34), (⟨"PayPromiseModel", "isSegment", "(II)Z"⟩, 34), (⟨"PayPromiseModel", "segmentAt", "(II)I"⟩, 34), (⟨"PayPromiseModel", "isLine", "(I)Z"⟩, 34), (⟨"PayPromiseModel", "isWage", "(I)Z"⟩, 34), (⟨"PayPromiseModel", "pieceTo", "(I)I"⟩, 34), (⟨"PayPromiseModel", "backFrom", "(I)I"⟩, 34), (⟨"PayPromiseModel", "trapOf", "(I)I"⟩, 34), (⟨"PayPromiseModel", "paidAt", "(I)J"⟩, 34), (⟨"PayPromiseModel", "keptAt", "(I)J"⟩, 34), (⟨"PayPromiseModel", "refuses", "(I)I"⟩, 34), (⟨"PayPromiseModel", "isFromFor", "(III)Z"⟩, 34), (⟨"PayPromiseModel", "paidIn", "(I)J"⟩, 34), (⟨"PayPromiseModel", "dueBehind", "(I)J"⟩, 34), (⟨"PayPromiseModel", "wagesOf", "(I)I"⟩, 34), (⟨"PayPromiseModel", "due", "(II)J"⟩, 34)]
theorem lw_r5 : ∀ q ∈ lw_privs_5, lw_okq q := List.forall_mem_cons.mpr ⟨lw_p64, List.forall_mem_cons.mpr ⟨lw_p65, List.forall_mem_cons.mpr ⟨lw_p66, List.forall_mem_cons.mpr ⟨lw_p67, List.forall_mem_cons.mpr ⟨lw_p68, List.forall_mem_cons.mpr ⟨lw_p69, List.forall_mem_cons.mpr ⟨lw_p70, List.forall_mem_cons.mpr ⟨lw_p71, List.forall_mem_cons.mpr ⟨lw_p72, List.forall_mem_cons.mpr ⟨lw_p73, List.forall_mem_cons.mpr ⟨lw_p74, List.forall_mem_cons.mpr ⟨lw_p75, List.forall_mem_cons.mpr ⟨lw_p76, List.forall_mem_cons.mpr ⟨lw_p77, List.forall_mem_cons.mpr ⟨lw_p78, List.forall_mem_cons.mpr ⟨lw_p79, fun _ h => absurd h List.not_mem_nil⟩⟩⟩⟩⟩⟩⟩⟩⟩⟩⟩⟩⟩⟩⟩⟩
theorem lw_p80 : lw_okq (⟨"PayPromiseModel", "paidWith", "(IJI)J"⟩, 34) := ⟨⟨by decide +kernel, by decide +kernel⟩, List.mem_of_getElem? (i := 1027) (by decide +kernel), List.mem_of_getElem? (i := 1480) (by decide +kernel), List.mem_of_getElem? (i := 1481) (by decide +kernel)⟩
theorem lw_p81 : lw_okq (⟨"PayPromiseModel", "spells", "(I)V"⟩, 34) := ⟨⟨by decide +kernel, by decide +kernel⟩, List.mem_of_getElem? (i := 1027) (by decide +kernel), List.mem_of_getElem? (i := 1535) (by decide +kernel), List.mem_of_getElem? (i := 1536) (by decide +kernel)⟩
theorem lw_p82 : lw_okq (⟨"PayPromiseModel", "says", "(I)V"⟩, 34) := ⟨⟨by decide +kernel, by decide +kernel⟩, List.mem_of_getElem? (i := 1027) (by decide +kernel), List.mem_of_getElem? (i := 1539) (by decide +kernel), List.mem_of_getElem? (i := 1540) (by decide +kernel)⟩
theorem lw_p83 : lw_okq (⟨"PayPromiseModel", "saysSum", "(I)V"⟩, 34) := ⟨⟨by decide +kernel, by decide +kernel⟩, List.mem_of_getElem? (i := 1027) (by decide +kernel), List.mem_of_getElem? (i := 1543) (by decide +kernel), List.mem_of_getElem? (i := 1544) (by decide +kernel)⟩
theorem lw_p84 : lw_okq (⟨"PayPromiseModel", "saysNumber", "(I)V"⟩, 34) := ⟨⟨by decide +kernel, by decide +kernel⟩, List.mem_of_getElem? (i := 1027) (by decide +kernel), List.mem_of_getElem? (i := 1547) (by decide +kernel), List.mem_of_getElem? (i := 1548) (by decide +kernel)⟩
theorem lw_p85 : lw_okq (⟨"PayPromiseModel", "extreme", "(Z)J"⟩, 34) := ⟨⟨by decide +kernel, by decide +kernel⟩, List.mem_of_getElem? (i := 1027) (by decide +kernel), List.mem_of_getElem? (i := 1560) (by decide +kernel), List.mem_of_getElem? (i := 1561) (by decide +kernel)⟩
theorem lw_p86 : lw_okq (⟨"PayPromiseModel", "firstWith", "(J)I"⟩, 34) := ⟨⟨by decide +kernel, by decide +kernel⟩, List.mem_of_getElem? (i := 1027) (by decide +kernel), List.mem_of_getElem? (i := 1565) (by decide +kernel), List.mem_of_getElem? (i := 1566) (by decide +kernel)⟩
theorem lw_p87 : lw_okq (⟨"PayPromiseModel", "steepest", "()I"⟩, 34) := ⟨⟨by decide +kernel, by decide +kernel⟩, List.mem_of_getElem? (i := 1027) (by decide +kernel), List.mem_of_getElem? (i := 1569) (by decide +kernel), List.mem_of_getElem? (i := 1570) (by decide +kernel)⟩
theorem lw_p88 : lw_okq (⟨"PayPromiseModel", "flatOnes", "()I"⟩, 34) := ⟨⟨by decide +kernel, by decide +kernel⟩, List.mem_of_getElem? (i := 1027) (by decide +kernel), List.mem_of_getElem? (i := 1573) (by decide +kernel), List.mem_of_getElem? (i := 1574) (by decide +kernel)⟩
theorem lw_p89 : lw_okq (⟨"PayPromiseModel", "traps", "(Z)I"⟩, 34) := ⟨⟨by decide +kernel, by decide +kernel⟩, List.mem_of_getElem? (i := 1027) (by decide +kernel), List.mem_of_getElem? (i := 1577) (by decide +kernel), List.mem_of_getElem? (i := 1578) (by decide +kernel)⟩
theorem lw_p90 : lw_okq (⟨"PayPromiseModel", "widest", "()I"⟩, 34) := ⟨⟨by decide +kernel, by decide +kernel⟩, List.mem_of_getElem? (i := 1027) (by decide +kernel), List.mem_of_getElem? (i := 1581) (by decide +kernel), List.mem_of_getElem? (i := 1582) (by decide +kernel)⟩
def lw_privs_6 : List (MethodName × Nat) := [(⟨"PayPromiseModel", "paidWith", "(IJI)J"⟩, 34), (⟨"PayPromiseModel", "spells", "(I)V"⟩, 34), (⟨"PayPromiseModel", "says", "(I)V"⟩, 34), (⟨"PayPromiseModel", "saysSum", "(I)V"⟩, 34), (⟨"PayPromiseModel", "saysNumber", "(I)V"⟩, 34), (⟨"PayPromiseModel", "extreme", "(Z)J"⟩, 34), (⟨"PayPromiseModel", "firstWith", "(J)I"⟩, 34), (⟨"PayPromiseModel", "steepest", "()I"⟩, 34), (⟨"PayPromiseModel", "flatOnes", "()I"⟩, 34), (⟨"PayPromiseModel", "traps", "(Z)I"⟩, 34), (⟨"PayPromiseModel", "widest", "()I"⟩, 34)]
theorem lw_r6 : ∀ q ∈ lw_privs_6, lw_okq q := List.forall_mem_cons.mpr ⟨lw_p80, List.forall_mem_cons.mpr ⟨lw_p81, List.forall_mem_cons.mpr ⟨lw_p82, List.forall_mem_cons.mpr ⟨lw_p83, List.forall_mem_cons.mpr ⟨lw_p84, List.forall_mem_cons.mpr ⟨lw_p85, List.forall_mem_cons.mpr ⟨lw_p86, List.forall_mem_cons.mpr ⟨lw_p87, List.forall_mem_cons.mpr ⟨lw_p88, List.forall_mem_cons.mpr ⟨lw_p89, List.forall_mem_cons.mpr ⟨lw_p90, fun _ h => absurd h List.not_mem_nil⟩⟩⟩⟩⟩⟩⟩⟩⟩⟩⟩
def lw_privs : List (MethodName × Nat) := lw_privs_1 ++ (lw_privs_2 ++ (lw_privs_3 ++ (lw_privs_4 ++ (lw_privs_5 ++ (lw_privs_6)))))
def lw_tbl : List Cond := k2_sels lw_privs ++ tables_1
theorem lw_privs_ok : ∀ q ∈ lw_privs, lw_okq q := by
  show ∀ q ∈ lw_privs_1 ++ (lw_privs_2 ++ (lw_privs_3 ++ (lw_privs_4 ++ (lw_privs_5 ++ (lw_privs_6))))), lw_okq q
  exact List.forall_mem_append.mpr ⟨lw_r1, List.forall_mem_append.mpr ⟨lw_r2, List.forall_mem_append.mpr ⟨lw_r3, List.forall_mem_append.mpr ⟨lw_r4, List.forall_mem_append.mpr ⟨lw_r5, lw_r6⟩⟩⟩⟩⟩
/-- the streams that the claim lets the run draw from -/
abbrev lw_cs : List Choice := [Jvm.Choice.named "NaN.bits"]
theorem lw_bits : nanBits ∈ lw_cs := by first | decide | exact List.mem_cons_self | simp [lw_cs, nanBits]
end
section
/-! own text, printed by wip/whole/gen/parts01.py: names of the program's classes, fields, methods -/
/-- a method: its name, code, locals, answer -/
abbrev Ys : Type := MethodName × ByteArray × Nat × Option FieldType
/-- an instruction of a method, its length, the place behind it -/
def At (Y : Ys) (pc : Nat) (i : Instr) (n pc' : Nat) : Prop := decode Y.2.1 pc = .ok (i, n) ∧ pc + n = pc'
/-- a jump: where it goes on, where it jumps to -/
def AtJ (Y : Ys) (pc : Nat) (i : Int → Instr) (pc' tg : Nat) : Prop := ∃ off : Int, decode Y.2.1 pc = .ok (i off, 3) ∧ pc + 3 = pc' ∧ (pc : Int) + off = (tg : Int)
def RX0 : String := "PayPromise$Bits"
def RX1 : String := "PayPromise$Line"
def TX1 : u_T := fun k => match k with
  | 0 => ("PayPromise$Line", "pieces", "I", false)
  | 1 => ("PayPromise$Line", "starts", "[I", false)
  | 2 => ("PayPromise$Line", "values", "[J", false)
  | 3 => ("PayPromise$Line", "gains", "[J", false)
  | 4 => ("PayPromise$Line", "endWage", "I", false)
  | 5 => ("PayPromise$Line", "endValue", "J", false)
  | 6 => ("PayPromise$Line", "alone", "Z", false)
  | _ => ("PayPromise$Line", "seat", "I", false)
def tyX1 : Nat → FieldType := fun k => match k with
  | 0 => .int
  | 1 => .array .int
  | 2 => .array .long
  | 3 => .array .long
  | 4 => .int
  | 5 => .long
  | 6 => .boolean
  | _ => .int
theorem nmX1 : ∀ a, a < 8 → ∀ b, b < 8 → a ≠ b → (TX1 a).2.1 ≠ (TX1 b).2.1 := by decide +kernel
theorem tyX1_ok : ∀ k, k < 8 → parseFieldDescriptor (TX1 k).2.2.1 = some (tyX1 k) := by decide +kernel
def RX2 : String := "PayPromise$Lines"
def TX2 : u_T := fun k => match k with
  | 0 => ("PayPromise$Lines", "all", "[LPayPromise$Line;", true)
  | 1 => ("PayPromise$Lines", "wagesOf", "[[I", true)
  | _ => ("PayPromise$Lines", "gains", "[J", true)
def tyX2 : Nat → FieldType := fun k => match k with
  | 0 => .array (.object "PayPromise$Line")
  | 1 => .array (.array .int)
  | _ => .array .long
theorem nmX2 : ∀ a, a < 3 → ∀ b, b < 3 → a ≠ b → (TX2 a).2.1 ≠ (TX2 b).2.1 := by decide +kernel
theorem tyX2_ok : ∀ k, k < 3 → parseFieldDescriptor (TX2 k).2.2.1 = some (tyX2 k) := by decide +kernel
def RX3 : String := "PayPromise$Point"
def TX3 : u_T := fun k => match k with
  | 0 => ("PayPromise$Point", "sums", "[J", true)
  | 1 => ("PayPromise$Point", "values", "[J", true)
  | _ => ("PayPromise$Point", "segments", "[I", true)
def tyX3 : Nat → FieldType := fun k => match k with
  | 0 => .array .long
  | 1 => .array .long
  | _ => .array .int
theorem nmX3 : ∀ a, a < 3 → ∀ b, b < 3 → a ≠ b → (TX3 a).2.1 ≠ (TX3 b).2.1 := by decide +kernel
theorem tyX3_ok : ∀ k, k < 3 → parseFieldDescriptor (TX3 k).2.2.1 = some (tyX3 k) := by decide +kernel
def RX4 : String := "PayPromise$Reader"
def TX4 : u_T := fun k => match k with
  | 0 => ("PayPromise$Reader", "tape", "[I", true)
  | 1 => ("PayPromise$Reader", "length", "I", false)
  | 2 => ("PayPromise$Reader", "place", "I", false)
  | 3 => ("PayPromise$Reader", "wrong", "I", false)
  | _ => ("PayPromise$Reader", "benefitTold", "Z", false)
def tyX4 : Nat → FieldType := fun k => match k with
  | 0 => .array .int
  | 1 => .int
  | 2 => .int
  | 3 => .int
  | _ => .boolean
theorem nmX4 : ∀ a, a < 5 → ∀ b, b < 5 → a ≠ b → (TX4 a).2.1 ≠ (TX4 b).2.1 := by decide +kernel
theorem tyX4_ok : ∀ k, k < 5 → parseFieldDescriptor (TX4 k).2.2.1 = some (tyX4 k) := by decide +kernel
def RX5 : String := "PayPromise$Rules"
def TX5 : u_T := fun k => match k with
  | 0 => ("PayPromise$Rules", "accounts", "I", false)
  | 1 => ("PayPromise$Rules", "benefit", "I", false)
  | 2 => ("PayPromise$Rules", "termCounts", "[I", true)
  | 3 => ("PayPromise$Rules", "terms", "[[I", true)
  | 4 => ("PayPromise$Rules", "signs", "[[I", true)
  | 5 => ("PayPromise$Rules", "depths", "[I", true)
  | 6 => ("PayPromise$Rules", "segmentCounts", "[I", true)
  | 7 => ("PayPromise$Rules", "froms", "[[I", true)
  | 8 => ("PayPromise$Rules", "ats", "[[I", true)
  | 9 => ("PayPromise$Rules", "slopes", "[[I", true)
  | _ => ("PayPromise$Rules", "bases", "[[J", true)
def tyX5 : Nat → FieldType := fun k => match k with
  | 0 => .int
  | 1 => .int
  | 2 => .array .int
  | 3 => .array (.array .int)
  | 4 => .array (.array .int)
  | 5 => .array .int
  | 6 => .array .int
  | 7 => .array (.array .int)
  | 8 => .array (.array .int)
  | 9 => .array (.array .int)
  | _ => .array (.array .long)
theorem nmX5 : ∀ a, a < 11 → ∀ b, b < 11 → a ≠ b → (TX5 a).2.1 ≠ (TX5 b).2.1 := by decide +kernel
theorem tyX5_ok : ∀ k, k < 11 → parseFieldDescriptor (TX5 k).2.2.1 = some (tyX5 k) := by decide +kernel
def RX6 : String := "PayPromise$Speller"
def TX6 : u_T := fun k => match k with
  | 0 => ("PayPromise$Speller", "written", "I", false)
  | 1 => ("PayPromise$Speller", "wanted", "I", false)
  | _ => ("PayPromise$Speller", "found", "I", false)
def tyX6 : Nat → FieldType := fun k => match k with
  | 0 => .int
  | 1 => .int
  | _ => .int
theorem nmX6 : ∀ a, a < 3 → ∀ b, b < 3 → a ≠ b → (TX6 a).2.1 ≠ (TX6 b).2.1 := by decide +kernel
theorem tyX6_ok : ∀ k, k < 3 → parseFieldDescriptor (TX6 k).2.2.1 = some (tyX6 k) := by decide +kernel
def RX7 : String := "PayPromise$Steps"
def RX8 : String := "PayPromise$Year"
def TX8 : u_T := fun k => match k with
  | 0 => ("PayPromise$Year", "wages", "[I", true)
  | _ => ("PayPromise$Year", "passed", "I", false)
def tyX8 : Nat → FieldType := fun k => match k with
  | 0 => .array .int
  | _ => .int
theorem nmX8 : ∀ a, a < 2 → ∀ b, b < 2 → a ≠ b → (TX8 a).2.1 ≠ (TX8 b).2.1 := by decide +kernel
theorem tyX8_ok : ∀ k, k < 2 → parseFieldDescriptor (TX8 k).2.2.1 = some (tyX8 k) := by decide +kernel
def RX9 : String := "PayPromise"
def TX9 : u_T := fun k => match k with
  | 0 => ("PayPromise", "reader", "LPayPromise$Reader;", true)
  | 1 => ("PayPromise", "point", "LPayPromise$Point;", true)
  | 2 => ("PayPromise", "lines", "LPayPromise$Lines;", true)
  | 3 => ("PayPromise", "between", "LPayPromise$Line;", true)
  | 4 => ("PayPromise", "months", "LPayPromise$Year;", true)
  | 5 => ("PayPromise", "speller", "LPayPromise$Speller;", true)
  | 6 => ("PayPromise", "refusals", "[I", true)
  | 7 => ("PayPromise", "rules", "LPayPromise$Rules;", false)
  | 8 => ("PayPromise", "draft", "LPayPromise$Rules;", false)
  | 9 => ("PayPromise", "hasDesk", "Z", false)
  | _ => ("PayPromise", "stale", "Z", false)
def tyX9 : Nat → FieldType := fun k => match k with
  | 0 => .object "PayPromise$Reader"
  | 1 => .object "PayPromise$Point"
  | 2 => .object "PayPromise$Lines"
  | 3 => .object "PayPromise$Line"
  | 4 => .object "PayPromise$Year"
  | 5 => .object "PayPromise$Speller"
  | 6 => .array .int
  | 7 => .object "PayPromise$Rules"
  | 8 => .object "PayPromise$Rules"
  | 9 => .boolean
  | _ => .boolean
theorem nmX9 : ∀ a, a < 11 → ∀ b, b < 11 → a ≠ b → (TX9 a).2.1 ≠ (TX9 b).2.1 := by decide +kernel
theorem tyX9_ok : ∀ k, k < 11 → parseFieldDescriptor (TX9 k).2.2.1 = some (tyX9 k) := by decide +kernel
def RX10 : String := "PayPromiseModel"
def TX10 : u_T := fun k => match k with
  | 0 => ("PayPromiseModel", "thrown", "I", false)
  | 1 => ("PayPromiseModel", "tape", "[I", true)
  | 2 => ("PayPromiseModel", "taped", "I", false)
  | 3 => ("PayPromiseModel", "at", "I", false)
  | 4 => ("PayPromiseModel", "wrong", "I", false)
  | 5 => ("PayPromiseModel", "readTerms", "[I", true)
  | 6 => ("PayPromiseModel", "terms", "[I", true)
  | 7 => ("PayPromiseModel", "readSign", "[I", true)
  | 8 => ("PayPromiseModel", "sign", "[I", true)
  | 9 => ("PayPromiseModel", "readWhat", "[I", true)
  | 10 => ("PayPromiseModel", "what", "[I", true)
  | 11 => ("PayPromiseModel", "readMany", "[I", true)
  | 12 => ("PayPromiseModel", "many", "[I", true)
  | 13 => ("PayPromiseModel", "readSegment", "[I", true)
  | 14 => ("PayPromiseModel", "segment", "[I", true)
  | 15 => ("PayPromiseModel", "readDeep", "[I", true)
  | 16 => ("PayPromiseModel", "deep", "[I", true)
  | 17 => ("PayPromiseModel", "readAccounts", "I", false)
  | 18 => ("PayPromiseModel", "readBenefit", "I", false)
  | 19 => ("PayPromiseModel", "accounts", "I", false)
  | 20 => ("PayPromiseModel", "benefit", "I", false)
  | 21 => ("PayPromiseModel", "hasBenefit", "Z", false)
  | 22 => ("PayPromiseModel", "isDesk", "Z", false)
  | 23 => ("PayPromiseModel", "refused", "[I", true)
  | 24 => ("PayPromiseModel", "wage", "[I", true)
  | 25 => ("PayPromiseModel", "months", "I", false)
  | 26 => ("PayPromiseModel", "is", "[J", true)
  | 27 => ("PayPromiseModel", "held", "I", false)
  | 28 => ("PayPromiseModel", "heldAt", "J", false)
  | 29 => ("PayPromiseModel", "line", "[J", true)
  | 30 => ("PayPromiseModel", "pieceFrom", "[I", true)
  | 31 => ("PayPromiseModel", "pieces", "I", false)
  | 32 => ("PayPromiseModel", "spelt", "[I", true)
  | _ => ("PayPromiseModel", "speltMany", "I", false)
def tyX10 : Nat → FieldType := fun k => match k with
  | 0 => .int
  | 1 => .array .int
  | 2 => .int
  | 3 => .int
  | 4 => .int
  | 5 => .array .int
  | 6 => .array .int
  | 7 => .array .int
  | 8 => .array .int
  | 9 => .array .int
  | 10 => .array .int
  | 11 => .array .int
  | 12 => .array .int
  | 13 => .array .int
  | 14 => .array .int
  | 15 => .array .int
  | 16 => .array .int
  | 17 => .int
  | 18 => .int
  | 19 => .int
  | 20 => .int
  | 21 => .boolean
  | 22 => .boolean
  | 23 => .array .int
  | 24 => .array .int
  | 25 => .int
  | 26 => .array .long
  | 27 => .int
  | 28 => .long
  | 29 => .array .long
  | 30 => .array .int
  | 31 => .int
  | 32 => .array .int
  | _ => .int
theorem nmX10 : ∀ a, a < 34 → ∀ b, b < 34 → a ≠ b → (TX10 a).2.1 ≠ (TX10 b).2.1 := by decide +kernel
theorem tyX10_ok : ∀ k, k < 34 → parseFieldDescriptor (TX10 k).2.2.1 = some (tyX10 k) := by decide +kernel
def RJx145de : String := "java/io/Serializable"
def RJx8e188 : String := "java/lang/Cloneable"
def RJxb160c : String := "java/lang/Comparable"
def RJxe99ae : String := "java/lang/Double"
def RJxf58ca : String := "java/lang/Float"
def RJ13 : String := "java/lang/Long"
def RJ9 : String := "java/lang/Math"
def RJxd2413 : String := "java/lang/Number"
def RJ0 : String := "java/lang/String"
def RJ10 : String := "java/lang/System"
def RJxfd54e : String := "java/lang/constant/Constable"
def RJx3cf43 : String := "java/lang/constant/ConstantDesc"
def RJ7 : String := "java/util/Arrays"
def RL : String := "PayPromiseLaw"
abbrev cX0_ofQuotient : ByteArray := prog_2_method_2_code
def yX0_ofQuotient : MethodName := ⟨RX0, "ofQuotient", "(JJ)J"⟩
abbrev YX0_ofQuotient : Ys := (yX0_ofQuotient, cX0_ofQuotient, 4, (some .long))
abbrev cX0_ofDouble : ByteArray := prog_2_method_3_code
def yX0_ofDouble : MethodName := ⟨RX0, "ofDouble", "(D)J"⟩
abbrev YX0_ofDouble : Ys := (yX0_ofDouble, cX0_ofDouble, 7, (some .long))
abbrev cX0_ofFloat : ByteArray := prog_2_method_4_code
def yX0_ofFloat : MethodName := ⟨RX0, "ofFloat", "(F)I"⟩
abbrev YX0_ofFloat : Ys := (yX0_ofFloat, cX0_ofFloat, 5, (some .int))
abbrev cX0_powerOf : ByteArray := prog_2_method_5_code
def yX0_powerOf : MethodName := ⟨RX0, "powerOf", "(D)I"⟩
abbrev YX0_powerOf : Ys := (yX0_powerOf, cX0_powerOf, 5, (some .int))
abbrev cX0_scaled : ByteArray := prog_2_method_6_code
def yX0_scaled : MethodName := ⟨RX0, "scaled", "(DI)D"⟩
abbrev YX0_scaled : Ys := (yX0_scaled, cX0_scaled, 6, (some .double))
abbrev cX1_init : ByteArray := prog_3_method_1_code
def yX1_init : MethodName := ⟨RX1, "<init>", "()V"⟩
abbrev YX1_init : Ys := (yX1_init, cX1_init, 1, none)
abbrev cX1_addStretch : ByteArray := prog_3_method_2_code
def yX1_addStretch : MethodName := ⟨RX1, "addStretch", "(IJJI)V"⟩
abbrev YX1_addStretch : Ys := (yX1_addStretch, cX1_addStretch, 7, none)
abbrev cX1_makeRoom : ByteArray := prog_3_method_3_code
def yX1_makeRoom : MethodName := ⟨RX1, "makeRoom", "()V"⟩
abbrev YX1_makeRoom : Ys := (yX1_makeRoom, cX1_makeRoom, 2, none)
abbrev cX1_open : ByteArray := prog_3_method_4_code
def yX1_open : MethodName := ⟨RX1, "open", "(IJ)V"⟩
abbrev YX1_open : Ys := (yX1_open, cX1_open, 4, none)
abbrev cX1_go : ByteArray := prog_3_method_5_code
def yX1_go : MethodName := ⟨RX1, "go", "(JI)V"⟩
abbrev YX1_go : Ys := (yX1_go, cX1_go, 5, none)
abbrev cX1_becomeDifference : ByteArray := prog_3_method_6_code
def yX1_becomeDifference : MethodName := ⟨RX1, "becomeDifference", "(LPayPromise$Line;LPayPromise$Line;)V"⟩
abbrev YX1_becomeDifference : Ys := (yX1_becomeDifference, cX1_becomeDifference, 9, none)
abbrev cX1_lastOf : ByteArray := prog_3_method_7_code
def yX1_lastOf : MethodName := ⟨RX1, "lastOf", "(I)I"⟩
abbrev YX1_lastOf : Ys := (yX1_lastOf, cX1_lastOf, 2, (some .int))
abbrev cX1_further : ByteArray := prog_3_method_8_code
def yX1_further : MethodName := ⟨RX1, "further", "(I)I"⟩
abbrev YX1_further : Ys := (yX1_further, cX1_further, 2, (some .int))
abbrev cX1_valueIn : ByteArray := prog_3_method_9_code
def yX1_valueIn : MethodName := ⟨RX1, "valueIn", "(II)J"⟩
abbrev YX1_valueIn : Ys := (yX1_valueIn, cX1_valueIn, 3, (some .long))
abbrev cX1_lastValue : ByteArray := prog_3_method_10_code
def yX1_lastValue : MethodName := ⟨RX1, "lastValue", "(I)J"⟩
abbrev YX1_lastValue : Ys := (yX1_lastValue, cX1_lastValue, 2, (some .long))
abbrev cX1_gainInto : ByteArray := prog_3_method_11_code
def yX1_gainInto : MethodName := ⟨RX1, "gainInto", "(I)J"⟩
abbrev YX1_gainInto : Ys := (yX1_gainInto, cX1_gainInto, 2, (some .long))
abbrev cX1_pieceOf : ByteArray := prog_3_method_12_code
def yX1_pieceOf : MethodName := ⟨RX1, "pieceOf", "(I)I"⟩
abbrev YX1_pieceOf : Ys := (yX1_pieceOf, cX1_pieceOf, 6, (some .int))
abbrev cX1_valueAt : ByteArray := prog_3_method_13_code
def yX1_valueAt : MethodName := ⟨RX1, "valueAt", "(I)J"⟩
abbrev YX1_valueAt : Ys := (yX1_valueAt, cX1_valueAt, 2, (some .long))
abbrev cX1_timesIn : ByteArray := prog_3_method_14_code
def yX1_timesIn : MethodName := ⟨RX1, "timesIn", "(IJ)I"⟩
abbrev YX1_timesIn : Ys := (yX1_timesIn, cX1_timesIn, 6, (some .int))
abbrev cX1_wagesWith : ByteArray := prog_3_method_15_code
def yX1_wagesWith : MethodName := ⟨RX1, "wagesWith", "(J)I"⟩
abbrev YX1_wagesWith : Ys := (yX1_wagesWith, cX1_wagesWith, 5, (some .int))
abbrev cX1_wageWith : ByteArray := prog_3_method_16_code
def yX1_wageWith : MethodName := ⟨RX1, "wageWith", "(JI)I"⟩
abbrev YX1_wageWith : Ys := (yX1_wageWith, cX1_wageWith, 8, (some .int))
abbrev cX1_leastNoLess : ByteArray := prog_3_method_17_code
def yX1_leastNoLess : MethodName := ⟨RX1, "leastNoLess", "(IJ)I"⟩
abbrev YX1_leastNoLess : Ys := (yX1_leastNoLess, cX1_leastNoLess, 7, (some .int))
abbrev cX1_greatestNoMore : ByteArray := prog_3_method_18_code
def yX1_greatestNoMore : MethodName := ⟨RX1, "greatestNoMore", "(J)I"⟩
abbrev YX1_greatestNoMore : Ys := (yX1_greatestNoMore, cX1_greatestNoMore, 5, (some .int))
abbrev cX1_greatestKeptNoMore : ByteArray := prog_3_method_19_code
def yX1_greatestKeptNoMore : MethodName := ⟨RX1, "greatestKeptNoMore", "(I)I"⟩
abbrev YX1_greatestKeptNoMore : Ys := (yX1_greatestKeptNoMore, cX1_greatestKeptNoMore, 6, (some .int))
abbrev cX1_nearestBelow : ByteArray := prog_3_method_20_code
def yX1_nearestBelow : MethodName := ⟨RX1, "nearestBelow", "(J)I"⟩
abbrev YX1_nearestBelow : Ys := (yX1_nearestBelow, cX1_nearestBelow, 8, (some .int))
abbrev cX1_cliffInto : ByteArray := prog_3_method_21_code
def yX1_cliffInto : MethodName := ⟨RX1, "cliffInto", "(I)Z"⟩
abbrev YX1_cliffInto : Ys := (yX1_cliffInto, cX1_cliffInto, 2, (some .boolean))
abbrev cX1_cliffsIn : ByteArray := prog_3_method_22_code
def yX1_cliffsIn : MethodName := ⟨RX1, "cliffsIn", "(I)I"⟩
abbrev YX1_cliffsIn : Ys := (yX1_cliffsIn, cX1_cliffsIn, 2, (some .int))
abbrev cX1_cliffs : ByteArray := prog_3_method_23_code
def yX1_cliffs : MethodName := ⟨RX1, "cliffs", "()I"⟩
abbrev YX1_cliffs : Ys := (yX1_cliffs, cX1_cliffs, 3, (some .int))
abbrev cX1_cliffWage : ByteArray := prog_3_method_24_code
def yX1_cliffWage : MethodName := ⟨RX1, "cliffWage", "(I)I"⟩
abbrev YX1_cliffWage : Ys := (yX1_cliffWage, cX1_cliffWage, 5, (some .int))
abbrev cX1_backFrom : ByteArray := prog_3_method_25_code
def yX1_backFrom : MethodName := ⟨RX1, "backFrom", "(I)I"⟩
abbrev YX1_backFrom : Ys := (yX1_backFrom, cX1_backFrom, 2, (some .int))
abbrev cX1_trapFrom : ByteArray := prog_3_method_26_code
def yX1_trapFrom : MethodName := ⟨RX1, "trapFrom", "(I)I"⟩
abbrev YX1_trapFrom : Ys := (yX1_trapFrom, cX1_trapFrom, 3, (some .int))
abbrev cX1_lowAtFirst : ByteArray := prog_3_method_27_code
def yX1_lowAtFirst : MethodName := ⟨RX1, "lowAtFirst", "(IJ)I"⟩
abbrev YX1_lowAtFirst : Ys := (yX1_lowAtFirst, cX1_lowAtFirst, 5, (some .int))
abbrev cX1_trappedWages : ByteArray := prog_3_method_28_code
def yX1_trappedWages : MethodName := ⟨RX1, "trappedWages", "()I"⟩
abbrev YX1_trappedWages : Ys := (yX1_trappedWages, cX1_trappedWages, 6, (some .int))
abbrev cX1_longestTrap : ByteArray := prog_3_method_29_code
def yX1_longestTrap : MethodName := ⟨RX1, "longestTrap", "()I"⟩
abbrev YX1_longestTrap : Ys := (yX1_longestTrap, cX1_longestTrap, 7, (some .int))
abbrev cX1_wageOfMost : ByteArray := prog_3_method_30_code
def yX1_wageOfMost : MethodName := ⟨RX1, "wageOfMost", "()I"⟩
abbrev YX1_wageOfMost : Ys := (yX1_wageOfMost, cX1_wageOfMost, 5, (some .int))
abbrev cX1_wageOfLeast : ByteArray := prog_3_method_31_code
def yX1_wageOfLeast : MethodName := ⟨RX1, "wageOfLeast", "()I"⟩
abbrev YX1_wageOfLeast : Ys := (yX1_wageOfLeast, cX1_wageOfLeast, 5, (some .int))
abbrev cX1_widest : ByteArray := prog_3_method_32_code
def yX1_widest : MethodName := ⟨RX1, "widest", "()I"⟩
abbrev YX1_widest : Ys := (yX1_widest, cX1_widest, 7, (some .int))
abbrev cX1_steepest : ByteArray := prog_3_method_33_code
def yX1_steepest : MethodName := ⟨RX1, "steepest", "()I"⟩
abbrev YX1_steepest : Ys := (yX1_steepest, cX1_steepest, 5, (some .int))
abbrev cX1_flatPieces : ByteArray := prog_3_method_34_code
def yX1_flatPieces : MethodName := ⟨RX1, "flatPieces", "()I"⟩
abbrev YX1_flatPieces : Ys := (yX1_flatPieces, cX1_flatPieces, 3, (some .int))
abbrev cX1_greatestPiece : ByteArray := prog_3_method_35_code
def yX1_greatestPiece : MethodName := ⟨RX1, "greatestPiece", "()I"⟩
abbrev YX1_greatestPiece : Ys := (yX1_greatestPiece, cX1_greatestPiece, 3, (some .int))
abbrev cX1_jumpCount : ByteArray := prog_3_method_36_code
def yX1_jumpCount : MethodName := ⟨RX1, "jumpCount", "()I"⟩
abbrev YX1_jumpCount : Ys := (yX1_jumpCount, cX1_jumpCount, 3, (some .int))
abbrev cX1_kinkCount : ByteArray := prog_3_method_37_code
def yX1_kinkCount : MethodName := ⟨RX1, "kinkCount", "(Z)I"⟩
abbrev YX1_kinkCount : Ys := (yX1_kinkCount, cX1_kinkCount, 4, (some .int))
abbrev cX1_signChanges : ByteArray := prog_3_method_38_code
def yX1_signChanges : MethodName := ⟨RX1, "signChanges", "()I"⟩
abbrev YX1_signChanges : Ys := (yX1_signChanges, cX1_signChanges, 4, (some .int))
abbrev cX2_init : ByteArray := prog_4_method_1_code
def yX2_init : MethodName := ⟨RX2, "<init>", "()V"⟩
abbrev YX2_init : Ys := (yX2_init, cX2_init, 2, none)
abbrev cX2_draw : ByteArray := prog_4_method_2_code
def yX2_draw : MethodName := ⟨RX2, "draw", "(LPayPromise$Rules;LPayPromise$Point;)V"⟩
abbrev YX2_draw : Ys := (yX2_draw, cX2_draw, 6, none)
abbrev cX2_straightFor : ByteArray := prog_4_method_3_code
def yX2_straightFor : MethodName := ⟨RX2, "straightFor", "(LPayPromise$Rules;LPayPromise$Point;I)I"⟩
abbrev YX2_straightFor : Ys := (yX2_straightFor, cX2_straightFor, 12, (some .int))
abbrev cX2_gainOfTerms : ByteArray := prog_4_method_4_code
def yX2_gainOfTerms : MethodName := ⟨RX2, "gainOfTerms", "(LPayPromise$Rules;I)J"⟩
abbrev YX2_gainOfTerms : Ys := (yX2_gainOfTerms, cX2_gainOfTerms, 7, (some .long))
abbrev cX2_reachIn : ByteArray := prog_4_method_5_code
def yX2_reachIn : MethodName := ⟨RX2, "reachIn", "(LPayPromise$Rules;IIJJ)J"⟩
abbrev YX2_reachIn : Ys := (yX2_reachIn, cX2_reachIn, 8, (some .long))
abbrev cX3_init : ByteArray := prog_5_method_1_code
def yX3_init : MethodName := ⟨RX3, "<init>", "()V"⟩
abbrev YX3_init : Ys := (yX3_init, cX3_init, 1, none)
abbrev cX3_reckon : ByteArray := prog_5_method_2_code
def yX3_reckon : MethodName := ⟨RX3, "reckon", "(LPayPromise$Rules;I)J"⟩
abbrev YX3_reckon : Ys := (yX3_reckon, cX3_reckon, 3, (some .long))
abbrev cX3_reckonHeld : ByteArray := prog_5_method_3_code
def yX3_reckonHeld : MethodName := ⟨RX3, "reckonHeld", "(LPayPromise$Rules;IIIJ)J"⟩
abbrev YX3_reckonHeld : Ys := (yX3_reckonHeld, cX3_reckonHeld, 13, (some .long))
abbrev cX3_addUp : ByteArray := prog_5_method_4_code
def yX3_addUp : MethodName := ⟨RX3, "addUp", "(LPayPromise$Rules;III)J"⟩
abbrev YX3_addUp : Ys := (yX3_addUp, cX3_addUp, 12, (some .long))
abbrev cX3_valueIn : ByteArray := prog_5_method_5_code
def yX3_valueIn : MethodName := ⟨RX3, "valueIn", "(LPayPromise$Rules;IIJ)J"⟩
abbrev YX3_valueIn : Ys := (yX3_valueIn, cX3_valueIn, 7, (some .long))
abbrev cX4_init : ByteArray := prog_6_method_1_code
def yX4_init : MethodName := ⟨RX4, "<init>", "()V"⟩
abbrev YX4_init : Ys := (yX4_init, cX4_init, 1, none)
abbrev cX4_append : ByteArray := prog_6_method_2_code
def yX4_append : MethodName := ⟨RX4, "append", "(I)V"⟩
abbrev YX4_append : Ys := (yX4_append, cX4_append, 4, none)
abbrev cX4_read : ByteArray := prog_6_method_3_code
def yX4_read : MethodName := ⟨RX4, "read", "(LPayPromise$Rules;)I"⟩
abbrev YX4_read : Ys := (yX4_read, cX4_read, 5, (some .int))
abbrev cX4_fail : ByteArray := prog_6_method_4_code
def yX4_fail : MethodName := ⟨RX4, "fail", "(I)Z"⟩
abbrev YX4_fail : Ys := (yX4_fail, cX4_fail, 2, (some .boolean))
abbrev cX4_look : ByteArray := prog_6_method_5_code
def yX4_look : MethodName := ⟨RX4, "look", "()I"⟩
abbrev YX4_look : Ys := (yX4_look, cX4_look, 1, (some .int))
abbrev cX4_take : ByteArray := prog_6_method_6_code
def yX4_take : MethodName := ⟨RX4, "take", "(I)Z"⟩
abbrev YX4_take : Ys := (yX4_take, cX4_take, 2, (some .boolean))
abbrev cX4_readBenefit : ByteArray := prog_6_method_7_code
def yX4_readBenefit : MethodName := ⟨RX4, "readBenefit", "(LPayPromise$Rules;)Z"⟩
abbrev YX4_readBenefit : Ys := (yX4_readBenefit, cX4_readBenefit, 3, (some .boolean))
abbrev cX4_readPaid : ByteArray := prog_6_method_8_code
def yX4_readPaid : MethodName := ⟨RX4, "readPaid", "(LPayPromise$Rules;)V"⟩
abbrev YX4_readPaid : Ys := (yX4_readPaid, cX4_readPaid, 2, none)
abbrev cX4_readRule : ByteArray := prog_6_method_9_code
def yX4_readRule : MethodName := ⟨RX4, "readRule", "(LPayPromise$Rules;)Z"⟩
abbrev YX4_readRule : Ys := (yX4_readRule, cX4_readRule, 4, (some .boolean))
abbrev cX4_readTerms : ByteArray := prog_6_method_10_code
def yX4_readTerms : MethodName := ⟨RX4, "readTerms", "(LPayPromise$Rules;I)Z"⟩
abbrev YX4_readTerms : Ys := (yX4_readTerms, cX4_readTerms, 7, (some .boolean))
abbrev cX4_termOf : ByteArray := prog_6_method_11_code
def yX4_termOf : MethodName := ⟨RX4, "termOf", "(II)I"⟩
abbrev YX4_termOf : Ys := (yX4_termOf, cX4_termOf, 2, (some .int))
abbrev cX4_readSegments : ByteArray := prog_6_method_12_code
def yX4_readSegments : MethodName := ⟨RX4, "readSegments", "(LPayPromise$Rules;I)Z"⟩
abbrev YX4_readSegments : Ys := (yX4_readSegments, cX4_readSegments, 6, (some .boolean))
abbrev cX4_readSegment : ByteArray := prog_6_method_13_code
def yX4_readSegment : MethodName := ⟨RX4, "readSegment", "(LPayPromise$Rules;III)Z"⟩
abbrev YX4_readSegment : Ys := (yX4_readSegment, cX4_readSegment, 8, (some .boolean))
abbrev cX4_readNumber : ByteArray := prog_6_method_14_code
def yX4_readNumber : MethodName := ⟨RX4, "readNumber", "(II)I"⟩
abbrev YX4_readNumber : Ys := (yX4_readNumber, cX4_readNumber, 5, (some .int))
abbrev cX4_isDigit : ByteArray := prog_6_method_15_code
def yX4_isDigit : MethodName := ⟨RX4, "isDigit", "(I)Z"⟩
abbrev YX4_isDigit : Ys := (yX4_isDigit, cX4_isDigit, 2, (some .boolean))
abbrev cX5_init : ByteArray := prog_7_method_1_code
def yX5_init : MethodName := ⟨RX5, "<init>", "()V"⟩
abbrev YX5_init : Ys := (yX5_init, cX5_init, 1, none)
abbrev cX5_clear : ByteArray := prog_7_method_2_code
def yX5_clear : MethodName := ⟨RX5, "clear", "()V"⟩
abbrev YX5_clear : Ys := (yX5_clear, cX5_clear, 1, none)
abbrev cX5_addTerm : ByteArray := prog_7_method_3_code
def yX5_addTerm : MethodName := ⟨RX5, "addTerm", "(III)V"⟩
abbrev YX5_addTerm : Ys := (yX5_addTerm, cX5_addTerm, 4, none)
abbrev cX5_addSegment : ByteArray := prog_7_method_4_code
def yX5_addSegment : MethodName := ⟨RX5, "addSegment", "(IIII)V"⟩
abbrev YX5_addSegment : Ys := (yX5_addSegment, cX5_addSegment, 6, none)
abbrev cX5_depthOfTerms : ByteArray := prog_7_method_5_code
def yX5_depthOfTerms : MethodName := ⟨RX5, "depthOfTerms", "(I)I"⟩
abbrev YX5_depthOfTerms : Ys := (yX5_depthOfTerms, cX5_depthOfTerms, 5, (some .int))
abbrev cX5_rowOfWhat : ByteArray := prog_7_method_6_code
def yX5_rowOfWhat : MethodName := ⟨RX5, "rowOfWhat", "(II)[I"⟩
abbrev YX5_rowOfWhat : Ys := (yX5_rowOfWhat, cX5_rowOfWhat, 3, (some (.array .int)))
abbrev cX5_mayStart : ByteArray := prog_7_method_7_code
def yX5_mayStart : MethodName := ⟨RX5, "mayStart", "(III)Z"⟩
abbrev YX5_mayStart : Ys := (yX5_mayStart, cX5_mayStart, 4, (some .boolean))
abbrev cX5_settle : ByteArray := prog_7_method_8_code
def yX5_settle : MethodName := ⟨RX5, "settle", "(I)V"⟩
abbrev YX5_settle : Ys := (yX5_settle, cX5_settle, 7, none)
abbrev cX5_segmentFor : ByteArray := prog_7_method_9_code
def yX5_segmentFor : MethodName := ⟨RX5, "segmentFor", "(IJ)I"⟩
abbrev YX5_segmentFor : Ys := (yX5_segmentFor, cX5_segmentFor, 5, (some .int))
abbrev cX6_init : ByteArray := prog_8_method_1_code
def yX6_init : MethodName := ⟨RX6, "<init>", "()V"⟩
abbrev YX6_init : Ys := (yX6_init, cX6_init, 1, none)
abbrev cX6_write : ByteArray := prog_8_method_2_code
def yX6_write : MethodName := ⟨RX6, "write", "(LPayPromise$Rules;II)I"⟩
abbrev YX6_write : Ys := (yX6_write, cX6_write, 4, (some .int))
abbrev cX6_put : ByteArray := prog_8_method_3_code
def yX6_put : MethodName := ⟨RX6, "put", "(I)V"⟩
abbrev YX6_put : Ys := (yX6_put, cX6_put, 2, none)
abbrev cX6_writeTerms : ByteArray := prog_8_method_4_code
def yX6_writeTerms : MethodName := ⟨RX6, "writeTerms", "(LPayPromise$Rules;I)V"⟩
abbrev YX6_writeTerms : Ys := (yX6_writeTerms, cX6_writeTerms, 4, none)
abbrev cX6_letterOf : ByteArray := prog_8_method_5_code
def yX6_letterOf : MethodName := ⟨RX6, "letterOf", "(I)I"⟩
abbrev YX6_letterOf : Ys := (yX6_letterOf, cX6_letterOf, 1, (some .int))
abbrev cX6_writeSegments : ByteArray := prog_8_method_6_code
def yX6_writeSegments : MethodName := ⟨RX6, "writeSegments", "(LPayPromise$Rules;I)V"⟩
abbrev YX6_writeSegments : Ys := (yX6_writeSegments, cX6_writeSegments, 4, none)
abbrev cX6_writeNumber : ByteArray := prog_8_method_7_code
def yX6_writeNumber : MethodName := ⟨RX6, "writeNumber", "(I)V"⟩
abbrev YX6_writeNumber : Ys := (yX6_writeNumber, cX6_writeNumber, 3, none)
abbrev cX7_firstNoLess : ByteArray := prog_9_method_2_code
def yX7_firstNoLess : MethodName := ⟨RX7, "firstNoLess", "(JJIJ)I"⟩
abbrev YX7_firstNoLess : Ys := (yX7_firstNoLess, cX7_firstNoLess, 7, (some .int))
abbrev cX7_lastNoMore : ByteArray := prog_9_method_3_code
def yX7_lastNoMore : MethodName := ⟨RX7, "lastNoMore", "(JJIJ)I"⟩
abbrev YX7_lastNoMore : Ys := (yX7_lastNoMore, cX7_lastNoMore, 7, (some .int))
abbrev cX7_nearestNoMore : ByteArray := prog_9_method_4_code
def yX7_nearestNoMore : MethodName := ⟨RX7, "nearestNoMore", "(JJIJ)I"⟩
abbrev YX7_nearestNoMore : Ys := (yX7_nearestNoMore, cX7_nearestNoMore, 7, (some .int))
abbrev cX8_init : ByteArray := prog_10_method_1_code
def yX8_init : MethodName := ⟨RX8, "<init>", "()V"⟩
abbrev YX8_init : Ys := (yX8_init, cX8_init, 1, none)
abbrev cX8_isFull : ByteArray := prog_10_method_2_code
def yX8_isFull : MethodName := ⟨RX8, "isFull", "()Z"⟩
abbrev YX8_isFull : Ys := (yX8_isFull, cX8_isFull, 1, (some .boolean))
abbrev cX8_wagesOf : ByteArray := prog_10_method_3_code
def yX8_wagesOf : MethodName := ⟨RX8, "wagesOf", "(I)I"⟩
abbrev YX8_wagesOf : Ys := (yX8_wagesOf, cX8_wagesOf, 4, (some .int))
abbrev cX8_due : ByteArray := prog_10_method_4_code
def yX8_due : MethodName := ⟨RX8, "due", "(LPayPromise$Line;II)J"⟩
abbrev YX8_due : Ys := (yX8_due, cX8_due, 6, (some .long))
abbrev cX8_paidOf : ByteArray := prog_10_method_5_code
def yX8_paidOf : MethodName := ⟨RX8, "paidOf", "(LPayPromise$Line;II)J"⟩
abbrev YX8_paidOf : Ys := (yX8_paidOf, cX8_paidOf, 3, (some .long))
abbrev cX8_paidIn : ByteArray := prog_10_method_6_code
def yX8_paidIn : MethodName := ⟨RX8, "paidIn", "(LPayPromise$Line;I)J"⟩
abbrev YX8_paidIn : Ys := (yX8_paidIn, cX8_paidIn, 4, (some .long))
abbrev cX8_paidBehind : ByteArray := prog_10_method_7_code
def yX8_paidBehind : MethodName := ⟨RX8, "paidBehind", "(LPayPromise$Line;II)J"⟩
abbrev YX8_paidBehind : Ys := (yX8_paidBehind, cX8_paidBehind, 5, (some .long))
abbrev cX8_paidAboveWage : ByteArray := prog_10_method_8_code
def yX8_paidAboveWage : MethodName := ⟨RX8, "paidAboveWage", "(LPayPromise$Line;)I"⟩
abbrev YX8_paidAboveWage : Ys := (yX8_paidAboveWage, cX8_paidAboveWage, 4, (some .int))
abbrev cX8_leastPaid : ByteArray := prog_10_method_9_code
def yX8_leastPaid : MethodName := ⟨RX8, "leastPaid", "(LPayPromise$Line;)I"⟩
abbrev YX8_leastPaid : Ys := (yX8_leastPaid, cX8_leastPaid, 4, (some .int))
abbrev cX8_leastNext : ByteArray := prog_10_method_10_code
def yX8_leastNext : MethodName := ⟨RX8, "leastNext", "(LPayPromise$Line;J)I"⟩
abbrev YX8_leastNext : Ys := (yX8_leastNext, cX8_leastNext, 8, (some .int))
abbrev cX8_leastEach : ByteArray := prog_10_method_11_code
def yX8_leastEach : MethodName := ⟨RX8, "leastEach", "(LPayPromise$Line;J)I"⟩
abbrev YX8_leastEach : Ys := (yX8_leastEach, cX8_leastEach, 7, (some .int))
abbrev cX8_leastMonths : ByteArray := prog_10_method_12_code
def yX8_leastMonths : MethodName := ⟨RX8, "leastMonths", "(LPayPromise$Line;IJ)I"⟩
abbrev YX8_leastMonths : Ys := (yX8_leastMonths, cX8_leastMonths, 7, (some .int))
abbrev cX9_init : ByteArray := prog_1_method_1_code
def yX9_init : MethodName := ⟨RX9, "<init>", "()V"⟩
abbrev YX9_init : Ys := (yX9_init, cX9_init, 1, none)
abbrev cX9_feed : ByteArray := prog_1_method_2_code
def yX9_feed : MethodName := ⟨RX9, "feed", "(IIIII)I"⟩
abbrev YX9_feed : Ys := (yX9_feed, cX9_feed, 7, (some .int))
abbrev cX9_end : ByteArray := prog_1_method_3_code
def yX9_end : MethodName := ⟨RX9, "end", "(I)Z"⟩
abbrev YX9_end : Ys := (yX9_end, cX9_end, 2, (some .boolean))
abbrev cX9_fault : ByteArray := prog_1_method_4_code
def yX9_fault : MethodName := ⟨RX9, "fault", "()I"⟩
abbrev YX9_fault : Ys := (yX9_fault, cX9_fault, 1, (some .int))
abbrev cX9_desk : ByteArray := prog_1_method_5_code
def yX9_desk : MethodName := ⟨RX9, "desk", "()I"⟩
abbrev YX9_desk : Ys := (yX9_desk, cX9_desk, 2, (some .int))
abbrev cX9_rule : ByteArray := prog_1_method_6_code
def yX9_rule : MethodName := ⟨RX9, "rule", "(I)I"⟩
abbrev YX9_rule : Ys := (yX9_rule, cX9_rule, 2, (some .int))
abbrev cX9_account : ByteArray := prog_1_method_7_code
def yX9_account : MethodName := ⟨RX9, "account", "(II)I"⟩
abbrev YX9_account : Ys := (yX9_account, cX9_account, 3, (some .int))
abbrev cX9_segment : ByteArray := prog_1_method_8_code
def yX9_segment : MethodName := ⟨RX9, "segment", "(III)I"⟩
abbrev YX9_segment : Ys := (yX9_segment, cX9_segment, 4, (some .int))
abbrev cX9_at : ByteArray := prog_1_method_9_code
def yX9_at : MethodName := ⟨RX9, "at", "(II)J"⟩
abbrev YX9_at : Ys := (yX9_at, cX9_at, 3, (some .long))
abbrev cX9_sum : ByteArray := prog_1_method_10_code
def yX9_sum : MethodName := ⟨RX9, "sum", "(II)J"⟩
abbrev YX9_sum : Ys := (yX9_sum, cX9_sum, 3, (some .long))
abbrev cX9_which : ByteArray := prog_1_method_11_code
def yX9_which : MethodName := ⟨RX9, "which", "(II)I"⟩
abbrev YX9_which : Ys := (yX9_which, cX9_which, 3, (some .int))
abbrev cX9_piece : ByteArray := prog_1_method_12_code
def yX9_piece : MethodName := ⟨RX9, "piece", "(III)J"⟩
abbrev YX9_piece : Ys := (yX9_piece, cX9_piece, 5, (some .long))
abbrev cX9_pieceAt : ByteArray := prog_1_method_13_code
def yX9_pieceAt : MethodName := ⟨RX9, "pieceAt", "(II)I"⟩
abbrev YX9_pieceAt : Ys := (yX9_pieceAt, cX9_pieceAt, 3, (some .int))
abbrev cX9_promised : ByteArray := prog_1_method_14_code
def yX9_promised : MethodName := ⟨RX9, "promised", "(JI)I"⟩
abbrev YX9_promised : Ys := (yX9_promised, cX9_promised, 4, (some .int))
abbrev cX9_exactly : ByteArray := prog_1_method_15_code
def yX9_exactly : MethodName := ⟨RX9, "exactly", "(JI)I"⟩
abbrev YX9_exactly : Ys := (yX9_exactly, cX9_exactly, 4, (some .int))
abbrev cX9_cliff : ByteArray := prog_1_method_16_code
def yX9_cliff : MethodName := ⟨RX9, "cliff", "(II)J"⟩
abbrev YX9_cliff : Ys := (yX9_cliff, cX9_cliff, 5, (some .long))
abbrev cX9_more : ByteArray := prog_1_method_17_code
def yX9_more : MethodName := ⟨RX9, "more", "(I)J"⟩
abbrev YX9_more : Ys := (yX9_more, cX9_more, 2, (some .long))
abbrev cX9_average : ByteArray := prog_1_method_18_code
def yX9_average : MethodName := ⟨RX9, "average", "(I)J"⟩
abbrev YX9_average : Ys := (yX9_average, cX9_average, 2, (some .long))
abbrev cX9_rate : ByteArray := prog_1_method_19_code
def yX9_rate : MethodName := ⟨RX9, "rate", "(I)I"⟩
abbrev YX9_rate : Ys := (yX9_rate, cX9_rate, 2, (some .int))
abbrev cX9_jumps : ByteArray := prog_1_method_20_code
def yX9_jumps : MethodName := ⟨RX9, "jumps", "(I)I"⟩
abbrev YX9_jumps : Ys := (yX9_jumps, cX9_jumps, 2, (some .int))
abbrev cX9_bend : ByteArray := prog_1_method_21_code
def yX9_bend : MethodName := ⟨RX9, "bend", "(IIII)I"⟩
abbrev YX9_bend : Ys := (yX9_bend, cX9_bend, 7, (some .int))
abbrev cX9_benefit : ByteArray := prog_1_method_22_code
def yX9_benefit : MethodName := ⟨RX9, "benefit", "(I)I"⟩
abbrev YX9_benefit : Ys := (yX9_benefit, cX9_benefit, 3, (some .int))
abbrev cX9_month : ByteArray := prog_1_method_23_code
def yX9_month : MethodName := ⟨RX9, "month", "(I)J"⟩
abbrev YX9_month : Ys := (yX9_month, cX9_month, 2, (some .long))
abbrev cX9_takeBack : ByteArray := prog_1_method_24_code
def yX9_takeBack : MethodName := ⟨RX9, "takeBack", "()I"⟩
abbrev YX9_takeBack : Ys := (yX9_takeBack, cX9_takeBack, 1, (some .int))
abbrev cX9_year : ByteArray := prog_1_method_25_code
def yX9_year : MethodName := ⟨RX9, "year", "(II)J"⟩
abbrev YX9_year : Ys := (yX9_year, cX9_year, 3, (some .long))
abbrev cX9_sofar : ByteArray := prog_1_method_26_code
def yX9_sofar : MethodName := ⟨RX9, "sofar", "(I)J"⟩
abbrev YX9_sofar : Ys := (yX9_sofar, cX9_sofar, 2, (some .long))
abbrev cX9_nextMonth : ByteArray := prog_1_method_27_code
def yX9_nextMonth : MethodName := ⟨RX9, "nextMonth", "(J)I"⟩
abbrev YX9_nextMonth : Ys := (yX9_nextMonth, cX9_nextMonth, 3, (some .int))
abbrev cX9_level : ByteArray := prog_1_method_28_code
def yX9_level : MethodName := ⟨RX9, "level", "(J)I"⟩
abbrev YX9_level : Ys := (yX9_level, cX9_level, 3, (some .int))
abbrev cX9_dueAhead : ByteArray := prog_1_method_29_code
def yX9_dueAhead : MethodName := ⟨RX9, "dueAhead", "()J"⟩
abbrev YX9_dueAhead : Ys := (yX9_dueAhead, cX9_dueAhead, 3, (some .long))
abbrev cX9_would : ByteArray := prog_1_method_30_code
def yX9_would : MethodName := ⟨RX9, "would", "(IIII)J"⟩
abbrev YX9_would : Ys := (yX9_would, cX9_would, 8, (some .long))
abbrev cX9_both : ByteArray := prog_1_method_31_code
def yX9_both : MethodName := ⟨RX9, "both", "(II)J"⟩
abbrev YX9_both : Ys := (yX9_both, cX9_both, 3, (some .long))
abbrev cX9_without : ByteArray := prog_1_method_32_code
def yX9_without : MethodName := ⟨RX9, "without", "(II)J"⟩
abbrev YX9_without : Ys := (yX9_without, cX9_without, 3, (some .long))
abbrev cX9_kept : ByteArray := prog_1_method_33_code
def yX9_kept : MethodName := ⟨RX9, "kept", "(I)J"⟩
abbrev YX9_kept : Ys := (yX9_kept, cX9_kept, 2, (some .long))
abbrev cX9_first : ByteArray := prog_1_method_34_code
def yX9_first : MethodName := ⟨RX9, "first", "(I)I"⟩
abbrev YX9_first : Ys := (yX9_first, cX9_first, 2, (some .int))
abbrev cX9_raise : ByteArray := prog_1_method_35_code
def yX9_raise : MethodName := ⟨RX9, "raise", "(IJ)I"⟩
abbrev YX9_raise : Ys := (yX9_raise, cX9_raise, 5, (some .int))
abbrev cX9_over : ByteArray := prog_1_method_36_code
def yX9_over : MethodName := ⟨RX9, "over", "(III)I"⟩
abbrev YX9_over : Ys := (yX9_over, cX9_over, 4, (some .int))
abbrev cX9_inKind : ByteArray := prog_1_method_37_code
def yX9_inKind : MethodName := ⟨RX9, "inKind", "(JI)I"⟩
abbrev YX9_inKind : Ys := (yX9_inKind, cX9_inKind, 5, (some .int))
abbrev cX9_through : ByteArray := prog_1_method_38_code
def yX9_through : MethodName := ⟨RX9, "through", "(II)J"⟩
abbrev YX9_through : Ys := (yX9_through, cX9_through, 7, (some .long))
abbrev cX9_crossings : ByteArray := prog_1_method_39_code
def yX9_crossings : MethodName := ⟨RX9, "crossings", "(III)J"⟩
abbrev YX9_crossings : Ys := (yX9_crossings, cX9_crossings, 5, (some .long))
abbrev cX9_kinks : ByteArray := prog_1_method_40_code
def yX9_kinks : MethodName := ⟨RX9, "kinks", "(II)I"⟩
abbrev YX9_kinks : Ys := (yX9_kinks, cX9_kinks, 3, (some .int))
abbrev cX9_until : ByteArray := prog_1_method_41_code
def yX9_until : MethodName := ⟨RX9, "until", "(IJ)I"⟩
abbrev YX9_until : Ys := (yX9_until, cX9_until, 4, (some .int))
abbrev cX9_free : ByteArray := prog_1_method_42_code
def yX9_free : MethodName := ⟨RX9, "free", "(I)I"⟩
abbrev YX9_free : Ys := (yX9_free, cX9_free, 2, (some .int))
abbrev cX9_putIn : ByteArray := prog_1_method_43_code
def yX9_putIn : MethodName := ⟨RX9, "putIn", "(III)J"⟩
abbrev YX9_putIn : Ys := (yX9_putIn, cX9_putIn, 4, (some .long))
abbrev cX9_spell : ByteArray := prog_1_method_44_code
def yX9_spell : MethodName := ⟨RX9, "spell", "(II)I"⟩
abbrev YX9_spell : Ys := (yX9_spell, cX9_spell, 3, (some .int))
abbrev cX9_status : ByteArray := prog_1_method_45_code
def yX9_status : MethodName := ⟨RX9, "status", "(I)I"⟩
abbrev YX9_status : Ys := (yX9_status, cX9_status, 2, (some .int))
abbrev cX9_most : ByteArray := prog_1_method_46_code
def yX9_most : MethodName := ⟨RX9, "most", "(I)J"⟩
abbrev YX9_most : Ys := (yX9_most, cX9_most, 3, (some .long))
abbrev cX9_count : ByteArray := prog_1_method_47_code
def yX9_count : MethodName := ⟨RX9, "count", "(I)I"⟩
abbrev YX9_count : Ys := (yX9_count, cX9_count, 4, (some .int))
abbrev cX9_isAccount : ByteArray := prog_1_method_48_code
def yX9_isAccount : MethodName := ⟨RX9, "isAccount", "(I)Z"⟩
abbrev YX9_isAccount : Ys := (yX9_isAccount, cX9_isAccount, 2, (some .boolean))
abbrev cX9_isLine : ByteArray := prog_1_method_49_code
def yX9_isLine : MethodName := ⟨RX9, "isLine", "(I)Z"⟩
abbrev YX9_isLine : Ys := (yX9_isLine, cX9_isLine, 2, (some .boolean))
abbrev cX9_isSegment : ByteArray := prog_1_method_50_code
def yX9_isSegment : MethodName := ⟨RX9, "isSegment", "(II)Z"⟩
abbrev YX9_isSegment : Ys := (yX9_isSegment, cX9_isSegment, 3, (some .boolean))
abbrev cX9_isMonth : ByteArray := prog_1_method_51_code
def yX9_isMonth : MethodName := ⟨RX9, "isMonth", "(I)Z"⟩
abbrev YX9_isMonth : Ys := (yX9_isMonth, cX9_isMonth, 2, (some .boolean))
abbrev cX9_isWage : ByteArray := prog_1_method_52_code
def yX9_isWage : MethodName := ⟨RX9, "isWage", "(I)Z"⟩
abbrev YX9_isWage : Ys := (yX9_isWage, cX9_isWage, 1, (some .boolean))
abbrev cX9_rowOf : ByteArray := prog_1_method_53_code
def yX9_rowOf : MethodName := ⟨RX9, "rowOf", "(I)I"⟩
abbrev YX9_rowOf : Ys := (yX9_rowOf, cX9_rowOf, 1, (some .int))
abbrev cX9_line : ByteArray := prog_1_method_54_code
def yX9_line : MethodName := ⟨RX9, "line", "(I)LPayPromise$Line;"⟩
abbrev YX9_line : Ys := (yX9_line, cX9_line, 2, (some (.object "PayPromise$Line")))
abbrev cX9_fresh : ByteArray := prog_1_method_55_code
def yX9_fresh : MethodName := ⟨RX9, "fresh", "()LPayPromise$Lines;"⟩
abbrev YX9_fresh : Ys := (yX9_fresh, cX9_fresh, 1, (some (.object "PayPromise$Lines")))
abbrev cX9_keptAt : ByteArray := prog_1_method_56_code
def yX9_keptAt : MethodName := ⟨RX9, "keptAt", "(I)J"⟩
abbrev YX9_keptAt : Ys := (yX9_keptAt, cX9_keptAt, 2, (some .long))
abbrev cX9_refuse : ByteArray := prog_1_method_57_code
def yX9_refuse : MethodName := ⟨RX9, "refuse", "(II)I"⟩
abbrev YX9_refuse : Ys := (yX9_refuse, cX9_refuse, 3, (some .int))
abbrev cX9_mayBend : ByteArray := prog_1_method_58_code
def yX9_mayBend : MethodName := ⟨RX9, "mayBend", "(IIII)Z"⟩
abbrev YX9_mayBend : Ys := (yX9_mayBend, cX9_mayBend, 5, (some .boolean))
abbrev cX9_bytesIn : ByteArray := prog_1_method_59_code
def yX9_bytesIn : MethodName := ⟨RX9, "bytesIn", "(I)I"⟩
abbrev YX9_bytesIn : Ys := (yX9_bytesIn, cX9_bytesIn, 3, (some .int))
abbrev cX10_in : ByteArray := prog_12_method_1_code
def yX10_in : MethodName := ⟨RX10, "in", "(JJJ)Z"⟩
abbrev YX10_in : Ys := (yX10_in, cX10_in, 6, (some .boolean))
abbrev cX10_init : ByteArray := prog_12_method_2_code
def yX10_init : MethodName := ⟨RX10, "<init>", "()V"⟩
abbrev YX10_init : Ys := (yX10_init, cX10_init, 1, none)
abbrev cX10_thrown : ByteArray := prog_12_method_3_code
def yX10_thrown : MethodName := ⟨RX10, "thrown", "()I"⟩
abbrev YX10_thrown : Ys := (yX10_thrown, cX10_thrown, 1, (some .int))
abbrev cX10_byteOf : ByteArray := prog_12_method_4_code
def yX10_byteOf : MethodName := ⟨RX10, "byteOf", "(IIIIII)I"⟩
abbrev YX10_byteOf : Ys := (yX10_byteOf, cX10_byteOf, 7, (some .int))
abbrev cX10_feed : ByteArray := prog_12_method_5_code
def yX10_feed : MethodName := ⟨RX10, "feed", "(IIIII)I"⟩
abbrev YX10_feed : Ys := (yX10_feed, cX10_feed, 9, (some .int))
abbrev cX10_end : ByteArray := prog_12_method_6_code
def yX10_end : MethodName := ⟨RX10, "end", "(I)Z"⟩
abbrev YX10_end : Ys := (yX10_end, cX10_end, 2, (some .boolean))
abbrev cX10_here : ByteArray := prog_12_method_7_code
def yX10_here : MethodName := ⟨RX10, "here", "()I"⟩
abbrev YX10_here : Ys := (yX10_here, cX10_here, 1, (some .int))
abbrev cX10_ahead : ByteArray := prog_12_method_8_code
def yX10_ahead : MethodName := ⟨RX10, "ahead", "()I"⟩
abbrev YX10_ahead : Ys := (yX10_ahead, cX10_ahead, 1, (some .int))
abbrev cX10_badAt : ByteArray := prog_12_method_9_code
def yX10_badAt : MethodName := ⟨RX10, "badAt", "(I)V"⟩
abbrev YX10_badAt : Ys := (yX10_badAt, cX10_badAt, 2, none)
abbrev cX10_bad : ByteArray := prog_12_method_10_code
def yX10_bad : MethodName := ⟨RX10, "bad", "()V"⟩
abbrev YX10_bad : Ys := (yX10_bad, cX10_bad, 1, none)
abbrev cX10_must : ByteArray := prog_12_method_11_code
def yX10_must : MethodName := ⟨RX10, "must", "(I)V"⟩
abbrev YX10_must : Ys := (yX10_must, cX10_must, 2, none)
abbrev cX10_takes : ByteArray := prog_12_method_12_code
def yX10_takes : MethodName := ⟨RX10, "takes", "(I)Z"⟩
abbrev YX10_takes : Ys := (yX10_takes, cX10_takes, 3, (some .boolean))
abbrev cX10_isDigit : ByteArray := prog_12_method_13_code
def yX10_isDigit : MethodName := ⟨RX10, "isDigit", "(I)Z"⟩
abbrev YX10_isDigit : Ys := (yX10_isDigit, cX10_isDigit, 1, (some .boolean))
abbrev cX10_number : ByteArray := prog_12_method_14_code
def yX10_number : MethodName := ⟨RX10, "number", "(II)I"⟩
abbrev YX10_number : Ys := (yX10_number, cX10_number, 5, (some .int))
abbrev cX10_readTerm : ByteArray := prog_12_method_15_code
def yX10_readTerm : MethodName := ⟨RX10, "readTerm", "(II)V"⟩
abbrev YX10_readTerm : Ys := (yX10_readTerm, cX10_readTerm, 6, none)
abbrev cX10_readSum : ByteArray := prog_12_method_16_code
def yX10_readSum : MethodName := ⟨RX10, "readSum", "(I)V"⟩
abbrev YX10_readSum : Ys := (yX10_readSum, cX10_readSum, 4, none)
abbrev cX10_deepBy : ByteArray := prog_12_method_17_code
def yX10_deepBy : MethodName := ⟨RX10, "deepBy", "(I)I"⟩
abbrev YX10_deepBy : Ys := (yX10_deepBy, cX10_deepBy, 5, (some .int))
abbrev cX10_readsSegment : ByteArray := prog_12_method_18_code
def yX10_readsSegment : MethodName := ⟨RX10, "readsSegment", "(I)V"⟩
abbrev YX10_readsSegment : Ys := (yX10_readsSegment, cX10_readsSegment, 6, none)
abbrev cX10_readRule : ByteArray := prog_12_method_19_code
def yX10_readRule : MethodName := ⟨RX10, "readRule", "()V"⟩
abbrev YX10_readRule : Ys := (yX10_readRule, cX10_readRule, 4, none)
abbrev cX10_readDesk : ByteArray := prog_12_method_20_code
def yX10_readDesk : MethodName := ⟨RX10, "readDesk", "()I"⟩
abbrev YX10_readDesk : Ys := (yX10_readDesk, cX10_readDesk, 3, (some .int))
abbrev cX10_fault : ByteArray := prog_12_method_21_code
def yX10_fault : MethodName := ⟨RX10, "fault", "()I"⟩
abbrev YX10_fault : Ys := (yX10_fault, cX10_fault, 1, (some .int))
abbrev cX10_copies : ByteArray := prog_12_method_22_code
def yX10_copies : MethodName := ⟨RX10, "copies", "([I[I)V"⟩
abbrev YX10_copies : Ys := (yX10_copies, cX10_copies, 3, none)
abbrev cX10_desk : ByteArray := prog_12_method_23_code
def yX10_desk : MethodName := ⟨RX10, "desk", "()I"⟩
abbrev YX10_desk : Ys := (yX10_desk, cX10_desk, 1, (some .int))
abbrev cX10_isAccount : ByteArray := prog_12_method_24_code
def yX10_isAccount : MethodName := ⟨RX10, "isAccount", "(I)Z"⟩
abbrev YX10_isAccount : Ys := (yX10_isAccount, cX10_isAccount, 2, (some .boolean))
abbrev cX10_isLine : ByteArray := prog_12_method_25_code
def yX10_isLine : MethodName := ⟨RX10, "isLine", "(I)Z"⟩
abbrev YX10_isLine : Ys := (yX10_isLine, cX10_isLine, 2, (some .boolean))
abbrev cX10_isWage : ByteArray := prog_12_method_26_code
def yX10_isWage : MethodName := ⟨RX10, "isWage", "(I)Z"⟩
abbrev YX10_isWage : Ys := (yX10_isWage, cX10_isWage, 2, (some .boolean))
abbrev cX10_isSegment : ByteArray := prog_12_method_27_code
def yX10_isSegment : MethodName := ⟨RX10, "isSegment", "(II)Z"⟩
abbrev YX10_isSegment : Ys := (yX10_isSegment, cX10_isSegment, 3, (some .boolean))
abbrev cX10_part : ByteArray := prog_12_method_28_code
def yX10_part : MethodName := ⟨RX10, "part", "(III)I"⟩
abbrev YX10_part : Ys := (yX10_part, cX10_part, 4, (some .int))
abbrev cX10_sumAt : ByteArray := prog_12_method_29_code
def yX10_sumAt : MethodName := ⟨RX10, "sumAt", "(II)J"⟩
abbrev YX10_sumAt : Ys := (yX10_sumAt, cX10_sumAt, 9, (some .long))
abbrev cX10_whichBy : ByteArray := prog_12_method_30_code
def yX10_whichBy : MethodName := ⟨RX10, "whichBy", "(IJ)I"⟩
abbrev YX10_whichBy : Ys := (yX10_whichBy, cX10_whichBy, 5, (some .int))
abbrev cX10_beginOf : ByteArray := prog_12_method_31_code
def yX10_beginOf : MethodName := ⟨RX10, "beginOf", "(II)J"⟩
abbrev YX10_beginOf : Ys := (yX10_beginOf, cX10_beginOf, 3, (some .long))
abbrev cX10_lineAt : ByteArray := prog_12_method_32_code
def yX10_lineAt : MethodName := ⟨RX10, "lineAt", "(II)J"⟩
abbrev YX10_lineAt : Ys := (yX10_lineAt, cX10_lineAt, 6, (some .long))
abbrev cX10_laysAccounts : ByteArray := prog_12_method_33_code
def yX10_laysAccounts : MethodName := ⟨RX10, "laysAccounts", "(I)V"⟩
abbrev YX10_laysAccounts : Ys := (yX10_laysAccounts, cX10_laysAccounts, 3, none)
abbrev cX10_paidAt : ByteArray := prog_12_method_34_code
def yX10_paidAt : MethodName := ⟨RX10, "paidAt", "(I)J"⟩
abbrev YX10_paidAt : Ys := (yX10_paidAt, cX10_paidAt, 2, (some .long))
abbrev cX10_valueAt : ByteArray := prog_12_method_35_code
def yX10_valueAt : MethodName := ⟨RX10, "valueAt", "(II)J"⟩
abbrev YX10_valueAt : Ys := (yX10_valueAt, cX10_valueAt, 3, (some .long))
abbrev cX10_keptAt : ByteArray := prog_12_method_36_code
def yX10_keptAt : MethodName := ⟨RX10, "keptAt", "(I)J"⟩
abbrev YX10_keptAt : Ys := (yX10_keptAt, cX10_keptAt, 2, (some .long))
abbrev cX10_laysLine : ByteArray := prog_12_method_37_code
def yX10_laysLine : MethodName := ⟨RX10, "laysLine", "(I)V"⟩
abbrev YX10_laysLine : Ys := (yX10_laysLine, cX10_laysLine, 3, none)
abbrev cX10_step : ByteArray := prog_12_method_38_code
def yX10_step : MethodName := ⟨RX10, "step", "(I)J"⟩
abbrev YX10_step : Ys := (yX10_step, cX10_step, 2, (some .long))
abbrev cX10_laysPieces : ByteArray := prog_12_method_39_code
def yX10_laysPieces : MethodName := ⟨RX10, "laysPieces", "(I)V"⟩
abbrev YX10_laysPieces : Ys := (yX10_laysPieces, cX10_laysPieces, 5, none)
abbrev cX10_pieceTo : ByteArray := prog_12_method_40_code
def yX10_pieceTo : MethodName := ⟨RX10, "pieceTo", "(I)I"⟩
abbrev YX10_pieceTo : Ys := (yX10_pieceTo, cX10_pieceTo, 2, (some .int))
abbrev cX10_cliffsOf : ByteArray := prog_12_method_41_code
def yX10_cliffsOf : MethodName := ⟨RX10, "cliffsOf", "()I"⟩
abbrev YX10_cliffsOf : Ys := (yX10_cliffsOf, cX10_cliffsOf, 3, (some .int))
abbrev cX10_piecesOf : ByteArray := prog_12_method_42_code
def yX10_piecesOf : MethodName := ⟨RX10, "piecesOf", "(I)I"⟩
abbrev YX10_piecesOf : Ys := (yX10_piecesOf, cX10_piecesOf, 2, (some .int))
abbrev cX10_rule : ByteArray := prog_12_method_43_code
def yX10_rule : MethodName := ⟨RX10, "rule", "(I)I"⟩
abbrev YX10_rule : Ys := (yX10_rule, cX10_rule, 2, (some .int))
abbrev cX10_account : ByteArray := prog_12_method_44_code
def yX10_account : MethodName := ⟨RX10, "account", "(II)I"⟩
abbrev YX10_account : Ys := (yX10_account, cX10_account, 3, (some .int))
abbrev cX10_segmentAt : ByteArray := prog_12_method_45_code
def yX10_segmentAt : MethodName := ⟨RX10, "segmentAt", "(II)I"⟩
abbrev YX10_segmentAt : Ys := (yX10_segmentAt, cX10_segmentAt, 3, (some .int))
abbrev cX10_segment : ByteArray := prog_12_method_46_code
def yX10_segment : MethodName := ⟨RX10, "segment", "(III)I"⟩
abbrev YX10_segment : Ys := (yX10_segment, cX10_segment, 6, (some .int))
abbrev cX10_at : ByteArray := prog_12_method_47_code
def yX10_at : MethodName := ⟨RX10, "at", "(II)J"⟩
abbrev YX10_at : Ys := (yX10_at, cX10_at, 3, (some .long))
abbrev cX10_sum : ByteArray := prog_12_method_48_code
def yX10_sum : MethodName := ⟨RX10, "sum", "(II)J"⟩
abbrev YX10_sum : Ys := (yX10_sum, cX10_sum, 3, (some .long))
abbrev cX10_which : ByteArray := prog_12_method_49_code
def yX10_which : MethodName := ⟨RX10, "which", "(II)I"⟩
abbrev YX10_which : Ys := (yX10_which, cX10_which, 3, (some .int))
abbrev cX10_piece : ByteArray := prog_12_method_50_code
def yX10_piece : MethodName := ⟨RX10, "piece", "(III)J"⟩
abbrev YX10_piece : Ys := (yX10_piece, cX10_piece, 5, (some .long))
abbrev cX10_pieceAt : ByteArray := prog_12_method_51_code
def yX10_pieceAt : MethodName := ⟨RX10, "pieceAt", "(II)I"⟩
abbrev YX10_pieceAt : Ys := (yX10_pieceAt, cX10_pieceAt, 4, (some .int))
abbrev cX10_promised : ByteArray := prog_12_method_52_code
def yX10_promised : MethodName := ⟨RX10, "promised", "(JI)I"⟩
abbrev YX10_promised : Ys := (yX10_promised, cX10_promised, 9, (some .int))
abbrev cX10_exactly : ByteArray := prog_12_method_53_code
def yX10_exactly : MethodName := ⟨RX10, "exactly", "(JI)I"⟩
abbrev YX10_exactly : Ys := (yX10_exactly, cX10_exactly, 6, (some .int))
abbrev cX10_backFrom : ByteArray := prog_12_method_54_code
def yX10_backFrom : MethodName := ⟨RX10, "backFrom", "(I)I"⟩
abbrev YX10_backFrom : Ys := (yX10_backFrom, cX10_backFrom, 3, (some .int))
abbrev cX10_trapOf : ByteArray := prog_12_method_55_code
def yX10_trapOf : MethodName := ⟨RX10, "trapOf", "(I)I"⟩
abbrev YX10_trapOf : Ys := (yX10_trapOf, cX10_trapOf, 3, (some .int))
abbrev cX10_cliff : ByteArray := prog_12_method_56_code
def yX10_cliff : MethodName := ⟨RX10, "cliff", "(II)J"⟩
abbrev YX10_cliff : Ys := (yX10_cliff, cX10_cliff, 5, (some .long))
abbrev cX10_more : ByteArray := prog_12_method_57_code
def yX10_more : MethodName := ⟨RX10, "more", "(I)J"⟩
abbrev YX10_more : Ys := (yX10_more, cX10_more, 2, (some .long))
abbrev cX10_average : ByteArray := prog_12_method_58_code
def yX10_average : MethodName := ⟨RX10, "average", "(I)J"⟩
abbrev YX10_average : Ys := (yX10_average, cX10_average, 2, (some .long))
abbrev cX10_rate : ByteArray := prog_12_method_59_code
def yX10_rate : MethodName := ⟨RX10, "rate", "(I)I"⟩
abbrev YX10_rate : Ys := (yX10_rate, cX10_rate, 4, (some .int))
abbrev cX10_jumps : ByteArray := prog_12_method_60_code
def yX10_jumps : MethodName := ⟨RX10, "jumps", "(I)I"⟩
abbrev YX10_jumps : Ys := (yX10_jumps, cX10_jumps, 7, (some .int))
abbrev cX10_refuses : ByteArray := prog_12_method_61_code
def yX10_refuses : MethodName := ⟨RX10, "refuses", "(I)I"⟩
abbrev YX10_refuses : Ys := (yX10_refuses, cX10_refuses, 2, (some .int))
abbrev cX10_isFromFor : ByteArray := prog_12_method_62_code
def yX10_isFromFor : MethodName := ⟨RX10, "isFromFor", "(III)Z"⟩
abbrev YX10_isFromFor : Ys := (yX10_isFromFor, cX10_isFromFor, 6, (some .boolean))
abbrev cX10_bend : ByteArray := prog_12_method_63_code
def yX10_bend : MethodName := ⟨RX10, "bend", "(IIII)I"⟩
abbrev YX10_bend : Ys := (yX10_bend, cX10_bend, 8, (some .int))
abbrev cX10_benefit : ByteArray := prog_12_method_64_code
def yX10_benefit : MethodName := ⟨RX10, "benefit", "(I)I"⟩
abbrev YX10_benefit : Ys := (yX10_benefit, cX10_benefit, 3, (some .int))
abbrev cX10_cutDown : ByteArray := prog_12_method_65_code
def yX10_cutDown : MethodName := ⟨RX10, "cutDown", "(JJ)J"⟩
abbrev YX10_cutDown : Ys := (yX10_cutDown, cX10_cutDown, 6, (some .long))
abbrev cX10_due : ByteArray := prog_12_method_66_code
def yX10_due : MethodName := ⟨RX10, "due", "(II)J"⟩
abbrev YX10_due : Ys := (yX10_due, cX10_due, 3, (some .long))
abbrev cX10_wagesOf : ByteArray := prog_12_method_67_code
def yX10_wagesOf : MethodName := ⟨RX10, "wagesOf", "(I)I"⟩
abbrev YX10_wagesOf : Ys := (yX10_wagesOf, cX10_wagesOf, 4, (some .int))
abbrev cX10_dueBehind : ByteArray := prog_12_method_68_code
def yX10_dueBehind : MethodName := ⟨RX10, "dueBehind", "(I)J"⟩
abbrev YX10_dueBehind : Ys := (yX10_dueBehind, cX10_dueBehind, 2, (some .long))
abbrev cX10_paidIn : ByteArray := prog_12_method_69_code
def yX10_paidIn : MethodName := ⟨RX10, "paidIn", "(I)J"⟩
abbrev YX10_paidIn : Ys := (yX10_paidIn, cX10_paidIn, 2, (some .long))
abbrev cX10_month : ByteArray := prog_12_method_70_code
def yX10_month : MethodName := ⟨RX10, "month", "(I)J"⟩
abbrev YX10_month : Ys := (yX10_month, cX10_month, 3, (some .long))
abbrev cX10_takeBack : ByteArray := prog_12_method_71_code
def yX10_takeBack : MethodName := ⟨RX10, "takeBack", "()I"⟩
abbrev YX10_takeBack : Ys := (yX10_takeBack, cX10_takeBack, 1, (some .int))
abbrev cX10_year : ByteArray := prog_12_method_72_code
def yX10_year : MethodName := ⟨RX10, "year", "(II)J"⟩
abbrev YX10_year : Ys := (yX10_year, cX10_year, 3, (some .long))
abbrev cX10_sofar : ByteArray := prog_12_method_73_code
def yX10_sofar : MethodName := ⟨RX10, "sofar", "(I)J"⟩
abbrev YX10_sofar : Ys := (yX10_sofar, cX10_sofar, 11, (some .long))
abbrev cX10_nextMonth : ByteArray := prog_12_method_74_code
def yX10_nextMonth : MethodName := ⟨RX10, "nextMonth", "(J)I"⟩
abbrev YX10_nextMonth : Ys := (yX10_nextMonth, cX10_nextMonth, 7, (some .int))
abbrev cX10_level : ByteArray := prog_12_method_75_code
def yX10_level : MethodName := ⟨RX10, "level", "(J)I"⟩
abbrev YX10_level : Ys := (yX10_level, cX10_level, 6, (some .int))
abbrev cX10_dueAhead : ByteArray := prog_12_method_76_code
def yX10_dueAhead : MethodName := ⟨RX10, "dueAhead", "()J"⟩
abbrev YX10_dueAhead : Ys := (yX10_dueAhead, cX10_dueAhead, 1, (some .long))
abbrev cX10_both : ByteArray := prog_12_method_77_code
def yX10_both : MethodName := ⟨RX10, "both", "(II)J"⟩
abbrev YX10_both : Ys := (yX10_both, cX10_both, 3, (some .long))
abbrev cX10_would : ByteArray := prog_12_method_78_code
def yX10_would : MethodName := ⟨RX10, "would", "(IIII)J"⟩
abbrev YX10_would : Ys := (yX10_would, cX10_would, 9, (some .long))
abbrev cX10_without : ByteArray := prog_12_method_79_code
def yX10_without : MethodName := ⟨RX10, "without", "(II)J"⟩
abbrev YX10_without : Ys := (yX10_without, cX10_without, 3, (some .long))
abbrev cX10_paidWith : ByteArray := prog_12_method_80_code
def yX10_paidWith : MethodName := ⟨RX10, "paidWith", "(IJI)J"⟩
abbrev YX10_paidWith : Ys := (yX10_paidWith, cX10_paidWith, 7, (some .long))
abbrev cX10_through : ByteArray := prog_12_method_81_code
def yX10_through : MethodName := ⟨RX10, "through", "(II)J"⟩
abbrev YX10_through : Ys := (yX10_through, cX10_through, 5, (some .long))
abbrev cX10_side : ByteArray := prog_12_method_82_code
def yX10_side : MethodName := ⟨RX10, "side", "(J)I"⟩
abbrev YX10_side : Ys := (yX10_side, cX10_side, 2, (some .int))
abbrev cX10_crossings : ByteArray := prog_12_method_83_code
def yX10_crossings : MethodName := ⟨RX10, "crossings", "(III)J"⟩
abbrev YX10_crossings : Ys := (yX10_crossings, cX10_crossings, 12, (some .long))
abbrev cX10_kinks : ByteArray := prog_12_method_84_code
def yX10_kinks : MethodName := ⟨RX10, "kinks", "(II)I"⟩
abbrev YX10_kinks : Ys := (yX10_kinks, cX10_kinks, 7, (some .int))
abbrev cX10_until : ByteArray := prog_12_method_85_code
def yX10_until : MethodName := ⟨RX10, "until", "(IJ)I"⟩
abbrev YX10_until : Ys := (yX10_until, cX10_until, 6, (some .int))
abbrev cX10_free : ByteArray := prog_12_method_86_code
def yX10_free : MethodName := ⟨RX10, "free", "(I)I"⟩
abbrev YX10_free : Ys := (yX10_free, cX10_free, 3, (some .int))
abbrev cX10_putIn : ByteArray := prog_12_method_87_code
def yX10_putIn : MethodName := ⟨RX10, "putIn", "(III)J"⟩
abbrev YX10_putIn : Ys := (yX10_putIn, cX10_putIn, 5, (some .long))
abbrev cX10_kept : ByteArray := prog_12_method_88_code
def yX10_kept : MethodName := ⟨RX10, "kept", "(I)J"⟩
abbrev YX10_kept : Ys := (yX10_kept, cX10_kept, 2, (some .long))
abbrev cX10_first : ByteArray := prog_12_method_89_code
def yX10_first : MethodName := ⟨RX10, "first", "(I)I"⟩
abbrev YX10_first : Ys := (yX10_first, cX10_first, 3, (some .int))
abbrev cX10_raise : ByteArray := prog_12_method_90_code
def yX10_raise : MethodName := ⟨RX10, "raise", "(IJ)I"⟩
abbrev YX10_raise : Ys := (yX10_raise, cX10_raise, 7, (some .int))
abbrev cX10_over : ByteArray := prog_12_method_91_code
def yX10_over : MethodName := ⟨RX10, "over", "(III)I"⟩
abbrev YX10_over : Ys := (yX10_over, cX10_over, 5, (some .int))
abbrev cX10_inKind : ByteArray := prog_12_method_92_code
def yX10_inKind : MethodName := ⟨RX10, "inKind", "(JI)I"⟩
abbrev YX10_inKind : Ys := (yX10_inKind, cX10_inKind, 6, (some .int))
abbrev cX10_says : ByteArray := prog_12_method_93_code
def yX10_says : MethodName := ⟨RX10, "says", "(I)V"⟩
abbrev YX10_says : Ys := (yX10_says, cX10_says, 2, none)
abbrev cX10_saysNumber : ByteArray := prog_12_method_94_code
def yX10_saysNumber : MethodName := ⟨RX10, "saysNumber", "(I)V"⟩
abbrev YX10_saysNumber : Ys := (yX10_saysNumber, cX10_saysNumber, 3, none)
abbrev cX10_saysSum : ByteArray := prog_12_method_95_code
def yX10_saysSum : MethodName := ⟨RX10, "saysSum", "(I)V"⟩
abbrev YX10_saysSum : Ys := (yX10_saysSum, cX10_saysSum, 4, none)
abbrev cX10_spells : ByteArray := prog_12_method_96_code
def yX10_spells : MethodName := ⟨RX10, "spells", "(I)V"⟩
abbrev YX10_spells : Ys := (yX10_spells, cX10_spells, 3, none)
abbrev cX10_spell : ByteArray := prog_12_method_97_code
def yX10_spell : MethodName := ⟨RX10, "spell", "(II)I"⟩
abbrev YX10_spell : Ys := (yX10_spell, cX10_spell, 3, (some .int))
abbrev cX10_status : ByteArray := prog_12_method_98_code
def yX10_status : MethodName := ⟨RX10, "status", "(I)I"⟩
abbrev YX10_status : Ys := (yX10_status, cX10_status, 2, (some .int))
abbrev cX10_firstWith : ByteArray := prog_12_method_99_code
def yX10_firstWith : MethodName := ⟨RX10, "firstWith", "(J)I"⟩
abbrev YX10_firstWith : Ys := (yX10_firstWith, cX10_firstWith, 4, (some .int))
abbrev cX10_extreme : ByteArray := prog_12_method_100_code
def yX10_extreme : MethodName := ⟨RX10, "extreme", "(Z)J"⟩
abbrev YX10_extreme : Ys := (yX10_extreme, cX10_extreme, 5, (some .long))
abbrev cX10_steepest : ByteArray := prog_12_method_101_code
def yX10_steepest : MethodName := ⟨RX10, "steepest", "()I"⟩
abbrev YX10_steepest : Ys := (yX10_steepest, cX10_steepest, 3, (some .int))
abbrev cX10_flatOnes : ByteArray := prog_12_method_102_code
def yX10_flatOnes : MethodName := ⟨RX10, "flatOnes", "()I"⟩
abbrev YX10_flatOnes : Ys := (yX10_flatOnes, cX10_flatOnes, 3, (some .int))
abbrev cX10_traps : ByteArray := prog_12_method_103_code
def yX10_traps : MethodName := ⟨RX10, "traps", "(Z)I"⟩
abbrev YX10_traps : Ys := (yX10_traps, cX10_traps, 7, (some .int))
abbrev cX10_widest : ByteArray := prog_12_method_104_code
def yX10_widest : MethodName := ⟨RX10, "widest", "()I"⟩
abbrev YX10_widest : Ys := (yX10_widest, cX10_widest, 3, (some .int))
abbrev cX10_most : ByteArray := prog_12_method_105_code
def yX10_most : MethodName := ⟨RX10, "most", "(I)J"⟩
abbrev YX10_most : Ys := (yX10_most, cX10_most, 2, (some .long))
abbrev cX10_count : ByteArray := prog_12_method_106_code
def yX10_count : MethodName := ⟨RX10, "count", "(I)I"⟩
abbrev YX10_count : Ys := (yX10_count, cX10_count, 4, (some .int))
abbrev cJxe99ae_isNaN_b9ae7 : ByteArray := prog_16_method_6_code
def yJxe99ae_isNaN_b9ae7 : MethodName := ⟨RJxe99ae, "isNaN", "(D)Z"⟩
abbrev YJxe99ae_isNaN_b9ae7 : Ys := (yJxe99ae_isNaN_b9ae7, cJxe99ae_isNaN_b9ae7, 2, (some .boolean))
abbrev cJxe99ae_doubleToLongBits_ccdee : ByteArray := prog_16_method_23_code
def yJxe99ae_doubleToLongBits_ccdee : MethodName := ⟨RJxe99ae, "doubleToLongBits", "(D)J"⟩
abbrev YJxe99ae_doubleToLongBits_ccdee : Ys := (yJxe99ae_doubleToLongBits_ccdee, cJxe99ae_doubleToLongBits_ccdee, 2, (some .long))
abbrev cJxf58ca_isNaN_12338 : ByteArray := prog_18_method_6_code
def yJxf58ca_isNaN_12338 : MethodName := ⟨RJxf58ca, "isNaN", "(F)Z"⟩
abbrev YJxf58ca_isNaN_12338 : Ys := (yJxf58ca_isNaN_12338, cJxf58ca_isNaN_12338, 1, (some .boolean))
abbrev cJxf58ca_floatToIntBits_5c35a : ByteArray := prog_18_method_24_code
def yJxf58ca_floatToIntBits_5c35a : MethodName := ⟨RJxf58ca, "floatToIntBits", "(F)I"⟩
abbrev YJxf58ca_floatToIntBits_5c35a : Ys := (yJxf58ca_floatToIntBits_5c35a, cJxf58ca_floatToIntBits_5c35a, 1, (some .int))
abbrev cJ13_signum_95d88 : ByteArray := prog_19_method_57_code
def yJ13_signum_95d88 : MethodName := ⟨RJ13, "signum", "(J)I"⟩
abbrev YJ13_signum_95d88 : Ys := (yJ13_signum_95d88, cJ13_signum_95d88, 2, (some .int))
abbrev cJ9_floorDiv_f86c9 : ByteArray := prog_20_method_49_code
def yJ9_floorDiv_f86c9 : MethodName := ⟨RJ9, "floorDiv", "(JJ)J"⟩
abbrev YJ9_floorDiv_f86c9 : Ys := (yJ9_floorDiv_f86c9, cJ9_floorDiv_f86c9, 6, (some .long))
abbrev cJ9_abs_067f4 : ByteArray := prog_20_method_61_code
def yJ9_abs_067f4 : MethodName := ⟨RJ9, "abs", "(J)J"⟩
abbrev YJ9_abs_067f4 : Ys := (yJ9_abs_067f4, cJ9_abs_067f4, 2, (some .long))
abbrev cJ9_max_7cf53 : ByteArray := prog_20_method_65_code
def yJ9_max_7cf53 : MethodName := ⟨RJ9, "max", "(II)I"⟩
abbrev YJ9_max_7cf53 : Ys := (yJ9_max_7cf53, cJ9_max_7cf53, 2, (some .int))
abbrev cJ9_max_f86c9 : ByteArray := prog_20_method_66_code
def yJ9_max_f86c9 : MethodName := ⟨RJ9, "max", "(JJ)J"⟩
abbrev YJ9_max_f86c9 : Ys := (yJ9_max_f86c9, cJ9_max_f86c9, 4, (some .long))
abbrev cJ9_min_7cf53 : ByteArray := prog_20_method_69_code
def yJ9_min_7cf53 : MethodName := ⟨RJ9, "min", "(II)I"⟩
abbrev YJ9_min_7cf53 : Ys := (yJ9_min_7cf53, cJ9_min_7cf53, 2, (some .int))
abbrev cJ9_min_f86c9 : ByteArray := prog_20_method_70_code
def yJ9_min_f86c9 : MethodName := ⟨RJ9, "min", "(JJ)J"⟩
abbrev YJ9_min_f86c9 : Ys := (yJ9_min_f86c9, cJ9_min_f86c9, 4, (some .long))
abbrev cJ7_fill_53178 : ByteArray := prog_28_method_103_code
def yJ7_fill_53178 : MethodName := ⟨RJ7, "fill", "([II)V"⟩
abbrev YJ7_fill_53178 : Ys := (yJ7_fill_53178, cJ7_fill_53178, 4, none)
abbrev cJ7_copyOf_59c91 : ByteArray := prog_28_method_123_code
def yJ7_copyOf_59c91 : MethodName := ⟨RJ7, "copyOf", "([II)[I"⟩
abbrev YJ7_copyOf_59c91 : Ys := (yJ7_copyOf_59c91, cJ7_copyOf_59c91, 3, (some (.array .int)))
abbrev cJ7_copyOf_c38d5 : ByteArray := prog_28_method_124_code
def yJ7_copyOf_c38d5 : MethodName := ⟨RJ7, "copyOf", "([JI)[J"⟩
abbrev YJ7_copyOf_c38d5 : Ys := (yJ7_copyOf_c38d5, cJ7_copyOf_c38d5, 3, (some (.array .long)))
abbrev cL_account : ByteArray := method_3_code
def yL_account : MethodName := ⟨RL, "account", "(LPayPromise;II[J)I"⟩
abbrev YL_account : Ys := (yL_account, cL_account, 5, (some .int))
end
section
/-! own text, printed by wip/whole/gen/parts01.py: the instructions of the program -/
theorem iX0_ofQuotient_0 : At YX0_ofQuotient 0 (.lload_n 2) 1 1 := ⟨by decide +kernel, rfl⟩
theorem iX0_ofQuotient_1 : At YX0_ofQuotient 1 (.lconst 0) 1 2 := ⟨by decide +kernel, rfl⟩
theorem iX0_ofQuotient_2 : At YX0_ofQuotient 2 (.lcmp) 1 3 := ⟨by decide +kernel, rfl⟩
theorem iX0_ofQuotient_3 : AtJ YX0_ofQuotient 3 (.ifCond .eq) 6 15 := ⟨12, by decide +kernel, rfl, by decide⟩
theorem iX0_ofQuotient_6 : At YX0_ofQuotient 6 (.lload_n 0) 1 7 := ⟨by decide +kernel, rfl⟩
theorem iX0_ofQuotient_7 : At YX0_ofQuotient 7 (.l2d) 1 8 := ⟨by decide +kernel, rfl⟩
theorem iX0_ofQuotient_8 : At YX0_ofQuotient 8 (.lload_n 2) 1 9 := ⟨by decide +kernel, rfl⟩
theorem iX0_ofQuotient_9 : At YX0_ofQuotient 9 (.l2d) 1 10 := ⟨by decide +kernel, rfl⟩
theorem iX0_ofQuotient_10 : At YX0_ofQuotient 10 (.ddiv) 1 11 := ⟨by decide +kernel, rfl⟩
theorem iX0_ofQuotient_11 : At YX0_ofQuotient 11 (.invokestatic 7) 3 14 := ⟨by decide +kernel, rfl⟩
theorem iX0_ofQuotient_14 : At YX0_ofQuotient 14 (.lreturn) 1 15 := ⟨by decide +kernel, rfl⟩
theorem iX0_ofQuotient_15 : At YX0_ofQuotient 15 (.lload_n 0) 1 16 := ⟨by decide +kernel, rfl⟩
theorem iX0_ofQuotient_16 : At YX0_ofQuotient 16 (.lconst 0) 1 17 := ⟨by decide +kernel, rfl⟩
theorem iX0_ofQuotient_17 : At YX0_ofQuotient 17 (.lcmp) 1 18 := ⟨by decide +kernel, rfl⟩
theorem iX0_ofQuotient_18 : AtJ YX0_ofQuotient 18 (.ifCond .ne) 21 25 := ⟨7, by decide +kernel, rfl, by decide⟩
theorem iX0_ofQuotient_21 : At YX0_ofQuotient 21 (.ldc2_w 13) 3 24 := ⟨by decide +kernel, rfl⟩
theorem iX0_ofQuotient_24 : At YX0_ofQuotient 24 (.lreturn) 1 25 := ⟨by decide +kernel, rfl⟩
theorem iX0_ofQuotient_25 : At YX0_ofQuotient 25 (.lload_n 0) 1 26 := ⟨by decide +kernel, rfl⟩
theorem iX0_ofQuotient_26 : At YX0_ofQuotient 26 (.lconst 0) 1 27 := ⟨by decide +kernel, rfl⟩
theorem iX0_ofQuotient_27 : At YX0_ofQuotient 27 (.lcmp) 1 28 := ⟨by decide +kernel, rfl⟩
theorem iX0_ofQuotient_28 : AtJ YX0_ofQuotient 28 (.ifCond .ge) 31 37 := ⟨9, by decide +kernel, rfl, by decide⟩
theorem iX0_ofQuotient_31 : At YX0_ofQuotient 31 (.ldc2_w 15) 3 34 := ⟨by decide +kernel, rfl⟩
theorem iX0_ofQuotient_34 : AtJ YX0_ofQuotient 34 .goto 37 40 := ⟨6, by decide +kernel, rfl, by decide⟩
theorem iX0_ofQuotient_37 : At YX0_ofQuotient 37 (.ldc2_w 17) 3 40 := ⟨by decide +kernel, rfl⟩
theorem iX0_ofQuotient_40 : At YX0_ofQuotient 40 (.lreturn) 1 41 := ⟨by decide +kernel, rfl⟩
theorem iX0_ofDouble_0 : At YX0_ofDouble 0 (.dload_n 0) 1 1 := ⟨by decide +kernel, rfl⟩
theorem iX0_ofDouble_1 : At YX0_ofDouble 1 (.dconst 0) 1 2 := ⟨by decide +kernel, rfl⟩
theorem iX0_ofDouble_2 : At YX0_ofDouble 2 (.dcmp .l) 1 3 := ⟨by decide +kernel, rfl⟩
theorem iX0_ofDouble_3 : AtJ YX0_ofDouble 3 (.ifCond .ne) 6 8 := ⟨5, by decide +kernel, rfl, by decide⟩
theorem iX0_ofDouble_6 : At YX0_ofDouble 6 (.lconst 0) 1 7 := ⟨by decide +kernel, rfl⟩
theorem iX0_ofDouble_7 : At YX0_ofDouble 7 (.lreturn) 1 8 := ⟨by decide +kernel, rfl⟩
theorem iX0_ofDouble_8 : At YX0_ofDouble 8 (.dload_n 0) 1 9 := ⟨by decide +kernel, rfl⟩
theorem iX0_ofDouble_9 : At YX0_ofDouble 9 (.dconst 0) 1 10 := ⟨by decide +kernel, rfl⟩
theorem iX0_ofDouble_10 : At YX0_ofDouble 10 (.dcmp .g) 1 11 := ⟨by decide +kernel, rfl⟩
theorem iX0_ofDouble_11 : AtJ YX0_ofDouble 11 (.ifCond .ge) 14 19 := ⟨8, by decide +kernel, rfl, by decide⟩
theorem iX0_ofDouble_14 : At YX0_ofDouble 14 (.dload_n 0) 1 15 := ⟨by decide +kernel, rfl⟩
theorem iX0_ofDouble_15 : At YX0_ofDouble 15 (.dneg) 1 16 := ⟨by decide +kernel, rfl⟩
theorem iX0_ofDouble_16 : AtJ YX0_ofDouble 16 .goto 19 20 := ⟨4, by decide +kernel, rfl, by decide⟩
theorem iX0_ofDouble_19 : At YX0_ofDouble 19 (.dload_n 0) 1 20 := ⟨by decide +kernel, rfl⟩
theorem iX0_ofDouble_20 : At YX0_ofDouble 20 (.dstore_n 2) 1 21 := ⟨by decide +kernel, rfl⟩
theorem iX0_ofDouble_21 : At YX0_ofDouble 21 (.dload_n 2) 1 22 := ⟨by decide +kernel, rfl⟩
theorem iX0_ofDouble_22 : At YX0_ofDouble 22 (.invokestatic 19) 3 25 := ⟨by decide +kernel, rfl⟩
theorem iX0_ofDouble_25 : At YX0_ofDouble 25 (.istore 4) 2 27 := ⟨by decide +kernel, rfl⟩
theorem iX0_ofDouble_27 : At YX0_ofDouble 27 (.iload 4) 2 29 := ⟨by decide +kernel, rfl⟩
theorem iX0_ofDouble_29 : At YX0_ofDouble 29 (.sipush 1023) 3 32 := ⟨by decide +kernel, rfl⟩
theorem iX0_ofDouble_32 : At YX0_ofDouble 32 (.iadd) 1 33 := ⟨by decide +kernel, rfl⟩
theorem iX0_ofDouble_33 : At YX0_ofDouble 33 (.i2l) 1 34 := ⟨by decide +kernel, rfl⟩
theorem iX0_ofDouble_34 : At YX0_ofDouble 34 (.bipush 52) 2 36 := ⟨by decide +kernel, rfl⟩
theorem iX0_ofDouble_36 : At YX0_ofDouble 36 (.lshl) 1 37 := ⟨by decide +kernel, rfl⟩
theorem iX0_ofDouble_37 : At YX0_ofDouble 37 (.dload_n 2) 1 38 := ⟨by decide +kernel, rfl⟩
theorem iX0_ofDouble_38 : At YX0_ofDouble 38 (.iload 4) 2 40 := ⟨by decide +kernel, rfl⟩
theorem iX0_ofDouble_40 : At YX0_ofDouble 40 (.invokestatic 23) 3 43 := ⟨by decide +kernel, rfl⟩
theorem iX0_ofDouble_43 : At YX0_ofDouble 43 (.dconst 1) 1 44 := ⟨by decide +kernel, rfl⟩
theorem iX0_ofDouble_44 : At YX0_ofDouble 44 (.dsub) 1 45 := ⟨by decide +kernel, rfl⟩
theorem iX0_ofDouble_45 : At YX0_ofDouble 45 (.ldc2_w 27) 3 48 := ⟨by decide +kernel, rfl⟩
theorem iX0_ofDouble_48 : At YX0_ofDouble 48 (.dmul) 1 49 := ⟨by decide +kernel, rfl⟩
theorem iX0_ofDouble_49 : At YX0_ofDouble 49 (.d2l) 1 50 := ⟨by decide +kernel, rfl⟩
theorem iX0_ofDouble_50 : At YX0_ofDouble 50 (.ladd) 1 51 := ⟨by decide +kernel, rfl⟩
theorem iX0_ofDouble_51 : At YX0_ofDouble 51 (.lstore 5) 2 53 := ⟨by decide +kernel, rfl⟩
theorem iX0_ofDouble_53 : At YX0_ofDouble 53 (.dload_n 0) 1 54 := ⟨by decide +kernel, rfl⟩
theorem iX0_ofDouble_54 : At YX0_ofDouble 54 (.dconst 0) 1 55 := ⟨by decide +kernel, rfl⟩
theorem iX0_ofDouble_55 : At YX0_ofDouble 55 (.dcmp .g) 1 56 := ⟨by decide +kernel, rfl⟩
theorem iX0_ofDouble_56 : AtJ YX0_ofDouble 56 (.ifCond .ge) 59 68 := ⟨12, by decide +kernel, rfl, by decide⟩
theorem iX0_ofDouble_59 : At YX0_ofDouble 59 (.lload 5) 2 61 := ⟨by decide +kernel, rfl⟩
theorem iX0_ofDouble_61 : At YX0_ofDouble 61 (.ldc2_w 29) 3 64 := ⟨by decide +kernel, rfl⟩
theorem iX0_ofDouble_64 : At YX0_ofDouble 64 (.lor) 1 65 := ⟨by decide +kernel, rfl⟩
theorem iX0_ofDouble_65 : AtJ YX0_ofDouble 65 .goto 68 70 := ⟨5, by decide +kernel, rfl, by decide⟩
theorem iX0_ofDouble_68 : At YX0_ofDouble 68 (.lload 5) 2 70 := ⟨by decide +kernel, rfl⟩
theorem iX0_ofDouble_70 : At YX0_ofDouble 70 (.lreturn) 1 71 := ⟨by decide +kernel, rfl⟩
theorem iX0_ofFloat_0 : At YX0_ofFloat 0 (.fload_n 0) 1 1 := ⟨by decide +kernel, rfl⟩
theorem iX0_ofFloat_1 : At YX0_ofFloat 1 (.fconst 0) 1 2 := ⟨by decide +kernel, rfl⟩
theorem iX0_ofFloat_2 : At YX0_ofFloat 2 (.fcmp .l) 1 3 := ⟨by decide +kernel, rfl⟩
theorem iX0_ofFloat_3 : AtJ YX0_ofFloat 3 (.ifCond .ne) 6 8 := ⟨5, by decide +kernel, rfl, by decide⟩
theorem iX0_ofFloat_6 : At YX0_ofFloat 6 (.iconst 0) 1 7 := ⟨by decide +kernel, rfl⟩
theorem iX0_ofFloat_7 : At YX0_ofFloat 7 (.ireturn) 1 8 := ⟨by decide +kernel, rfl⟩
theorem iX0_ofFloat_8 : At YX0_ofFloat 8 (.fload_n 0) 1 9 := ⟨by decide +kernel, rfl⟩
theorem iX0_ofFloat_9 : At YX0_ofFloat 9 (.fconst 0) 1 10 := ⟨by decide +kernel, rfl⟩
theorem iX0_ofFloat_10 : At YX0_ofFloat 10 (.fcmp .g) 1 11 := ⟨by decide +kernel, rfl⟩
theorem iX0_ofFloat_11 : AtJ YX0_ofFloat 11 (.ifCond .ge) 14 20 := ⟨9, by decide +kernel, rfl, by decide⟩
theorem iX0_ofFloat_14 : At YX0_ofFloat 14 (.fload_n 0) 1 15 := ⟨by decide +kernel, rfl⟩
theorem iX0_ofFloat_15 : At YX0_ofFloat 15 (.fneg) 1 16 := ⟨by decide +kernel, rfl⟩
theorem iX0_ofFloat_16 : At YX0_ofFloat 16 (.f2d) 1 17 := ⟨by decide +kernel, rfl⟩
theorem iX0_ofFloat_17 : AtJ YX0_ofFloat 17 .goto 20 22 := ⟨5, by decide +kernel, rfl, by decide⟩
theorem iX0_ofFloat_20 : At YX0_ofFloat 20 (.fload_n 0) 1 21 := ⟨by decide +kernel, rfl⟩
theorem iX0_ofFloat_21 : At YX0_ofFloat 21 (.f2d) 1 22 := ⟨by decide +kernel, rfl⟩
theorem iX0_ofFloat_22 : At YX0_ofFloat 22 (.dstore_n 1) 1 23 := ⟨by decide +kernel, rfl⟩
theorem iX0_ofFloat_23 : At YX0_ofFloat 23 (.dload_n 1) 1 24 := ⟨by decide +kernel, rfl⟩
theorem iX0_ofFloat_24 : At YX0_ofFloat 24 (.invokestatic 19) 3 27 := ⟨by decide +kernel, rfl⟩
theorem iX0_ofFloat_27 : At YX0_ofFloat 27 (.istore_n 3) 1 28 := ⟨by decide +kernel, rfl⟩
theorem iX0_ofFloat_28 : At YX0_ofFloat 28 (.iload_n 3) 1 29 := ⟨by decide +kernel, rfl⟩
theorem iX0_ofFloat_29 : At YX0_ofFloat 29 (.bipush 127) 2 31 := ⟨by decide +kernel, rfl⟩
theorem iX0_ofFloat_31 : At YX0_ofFloat 31 (.iadd) 1 32 := ⟨by decide +kernel, rfl⟩
theorem iX0_ofFloat_32 : At YX0_ofFloat 32 (.bipush 23) 2 34 := ⟨by decide +kernel, rfl⟩
theorem iX0_ofFloat_34 : At YX0_ofFloat 34 (.ishl) 1 35 := ⟨by decide +kernel, rfl⟩
theorem iX0_ofFloat_35 : At YX0_ofFloat 35 (.dload_n 1) 1 36 := ⟨by decide +kernel, rfl⟩
theorem iX0_ofFloat_36 : At YX0_ofFloat 36 (.iload_n 3) 1 37 := ⟨by decide +kernel, rfl⟩
theorem iX0_ofFloat_37 : At YX0_ofFloat 37 (.invokestatic 23) 3 40 := ⟨by decide +kernel, rfl⟩
theorem iX0_ofFloat_40 : At YX0_ofFloat 40 (.dconst 1) 1 41 := ⟨by decide +kernel, rfl⟩
theorem iX0_ofFloat_41 : At YX0_ofFloat 41 (.dsub) 1 42 := ⟨by decide +kernel, rfl⟩
theorem iX0_ofFloat_42 : At YX0_ofFloat 42 (.ldc2_w 31) 3 45 := ⟨by decide +kernel, rfl⟩
theorem iX0_ofFloat_45 : At YX0_ofFloat 45 (.dmul) 1 46 := ⟨by decide +kernel, rfl⟩
theorem iX0_ofFloat_46 : At YX0_ofFloat 46 (.d2i) 1 47 := ⟨by decide +kernel, rfl⟩
theorem iX0_ofFloat_47 : At YX0_ofFloat 47 (.iadd) 1 48 := ⟨by decide +kernel, rfl⟩
theorem iX0_ofFloat_48 : At YX0_ofFloat 48 (.istore 4) 2 50 := ⟨by decide +kernel, rfl⟩
theorem iX0_ofFloat_50 : At YX0_ofFloat 50 (.fload_n 0) 1 51 := ⟨by decide +kernel, rfl⟩
theorem iX0_ofFloat_51 : At YX0_ofFloat 51 (.fconst 0) 1 52 := ⟨by decide +kernel, rfl⟩
theorem iX0_ofFloat_52 : At YX0_ofFloat 52 (.fcmp .g) 1 53 := ⟨by decide +kernel, rfl⟩
theorem iX0_ofFloat_53 : AtJ YX0_ofFloat 53 (.ifCond .ge) 56 64 := ⟨11, by decide +kernel, rfl, by decide⟩
theorem iX0_ofFloat_56 : At YX0_ofFloat 56 (.iload 4) 2 58 := ⟨by decide +kernel, rfl⟩
theorem iX0_ofFloat_58 : At YX0_ofFloat 58 (.ldc 33) 2 60 := ⟨by decide +kernel, rfl⟩
theorem iX0_ofFloat_60 : At YX0_ofFloat 60 (.ior) 1 61 := ⟨by decide +kernel, rfl⟩
theorem iX0_ofFloat_61 : AtJ YX0_ofFloat 61 .goto 64 66 := ⟨5, by decide +kernel, rfl, by decide⟩
theorem iX0_ofFloat_64 : At YX0_ofFloat 64 (.iload 4) 2 66 := ⟨by decide +kernel, rfl⟩
theorem iX0_ofFloat_66 : At YX0_ofFloat 66 (.ireturn) 1 67 := ⟨by decide +kernel, rfl⟩
theorem iX0_powerOf_0 : At YX0_powerOf 0 (.dload_n 0) 1 1 := ⟨by decide +kernel, rfl⟩
theorem iX0_powerOf_1 : At YX0_powerOf 1 (.dstore_n 2) 1 2 := ⟨by decide +kernel, rfl⟩
theorem iX0_powerOf_2 : At YX0_powerOf 2 (.iconst 0) 1 3 := ⟨by decide +kernel, rfl⟩
theorem iX0_powerOf_3 : At YX0_powerOf 3 (.istore 4) 2 5 := ⟨by decide +kernel, rfl⟩
theorem iX0_powerOf_5 : At YX0_powerOf 5 (.iload 4) 2 7 := ⟨by decide +kernel, rfl⟩
theorem iX0_powerOf_7 : At YX0_powerOf 7 (.bipush 100) 2 9 := ⟨by decide +kernel, rfl⟩
theorem iX0_powerOf_9 : AtJ YX0_powerOf 9 (.if_icmp .ge) 12 32 := ⟨23, by decide +kernel, rfl, by decide⟩
theorem iX0_powerOf_12 : At YX0_powerOf 12 (.dload_n 2) 1 13 := ⟨by decide +kernel, rfl⟩
theorem iX0_powerOf_13 : At YX0_powerOf 13 (.ldc2_w 34) 3 16 := ⟨by decide +kernel, rfl⟩
theorem iX0_powerOf_16 : At YX0_powerOf 16 (.dcmp .l) 1 17 := ⟨by decide +kernel, rfl⟩
theorem iX0_powerOf_17 : AtJ YX0_powerOf 17 (.ifCond .lt) 20 32 := ⟨15, by decide +kernel, rfl, by decide⟩
theorem iX0_powerOf_20 : At YX0_powerOf 20 (.dload_n 2) 1 21 := ⟨by decide +kernel, rfl⟩
theorem iX0_powerOf_21 : At YX0_powerOf 21 (.ldc2_w 34) 3 24 := ⟨by decide +kernel, rfl⟩
theorem iX0_powerOf_24 : At YX0_powerOf 24 (.ddiv) 1 25 := ⟨by decide +kernel, rfl⟩
theorem iX0_powerOf_25 : At YX0_powerOf 25 (.dstore_n 2) 1 26 := ⟨by decide +kernel, rfl⟩
theorem iX0_powerOf_26 : At YX0_powerOf 26 (.iinc 4 1) 3 29 := ⟨by decide +kernel, rfl⟩
theorem iX0_powerOf_29 : AtJ YX0_powerOf 29 .goto 32 5 := ⟨-24, by decide +kernel, rfl, by decide⟩
theorem iX0_powerOf_32 : At YX0_powerOf 32 (.iload 4) 2 34 := ⟨by decide +kernel, rfl⟩
theorem iX0_powerOf_34 : At YX0_powerOf 34 (.bipush (-100)) 2 36 := ⟨by decide +kernel, rfl⟩
theorem iX0_powerOf_36 : AtJ YX0_powerOf 36 (.if_icmp .le) 39 57 := ⟨21, by decide +kernel, rfl, by decide⟩
theorem iX0_powerOf_39 : At YX0_powerOf 39 (.dload_n 2) 1 40 := ⟨by decide +kernel, rfl⟩
theorem iX0_powerOf_40 : At YX0_powerOf 40 (.dconst 1) 1 41 := ⟨by decide +kernel, rfl⟩
theorem iX0_powerOf_41 : At YX0_powerOf 41 (.dcmp .g) 1 42 := ⟨by decide +kernel, rfl⟩
theorem iX0_powerOf_42 : AtJ YX0_powerOf 42 (.ifCond .ge) 45 57 := ⟨15, by decide +kernel, rfl, by decide⟩
theorem iX0_powerOf_45 : At YX0_powerOf 45 (.dload_n 2) 1 46 := ⟨by decide +kernel, rfl⟩
theorem iX0_powerOf_46 : At YX0_powerOf 46 (.ldc2_w 34) 3 49 := ⟨by decide +kernel, rfl⟩
theorem iX0_powerOf_49 : At YX0_powerOf 49 (.dmul) 1 50 := ⟨by decide +kernel, rfl⟩
theorem iX0_powerOf_50 : At YX0_powerOf 50 (.dstore_n 2) 1 51 := ⟨by decide +kernel, rfl⟩
theorem iX0_powerOf_51 : At YX0_powerOf 51 (.iinc 4 (-1)) 3 54 := ⟨by decide +kernel, rfl⟩
theorem iX0_powerOf_54 : AtJ YX0_powerOf 54 .goto 57 32 := ⟨-22, by decide +kernel, rfl, by decide⟩
theorem iX0_powerOf_57 : At YX0_powerOf 57 (.iload 4) 2 59 := ⟨by decide +kernel, rfl⟩
theorem iX0_powerOf_59 : At YX0_powerOf 59 (.ireturn) 1 60 := ⟨by decide +kernel, rfl⟩
theorem iX0_scaled_0 : At YX0_scaled 0 (.dload_n 0) 1 1 := ⟨by decide +kernel, rfl⟩
theorem iX0_scaled_1 : At YX0_scaled 1 (.dstore_n 3) 1 2 := ⟨by decide +kernel, rfl⟩
theorem iX0_scaled_2 : At YX0_scaled 2 (.iconst 0) 1 3 := ⟨by decide +kernel, rfl⟩
theorem iX0_scaled_3 : At YX0_scaled 3 (.istore 5) 2 5 := ⟨by decide +kernel, rfl⟩
theorem iX0_scaled_5 : At YX0_scaled 5 (.iload 5) 2 7 := ⟨by decide +kernel, rfl⟩
theorem iX0_scaled_7 : At YX0_scaled 7 (.iload_n 2) 1 8 := ⟨by decide +kernel, rfl⟩
theorem iX0_scaled_8 : AtJ YX0_scaled 8 (.if_icmp .ge) 11 23 := ⟨15, by decide +kernel, rfl, by decide⟩
theorem iX0_scaled_11 : At YX0_scaled 11 (.dload_n 3) 1 12 := ⟨by decide +kernel, rfl⟩
theorem iX0_scaled_12 : At YX0_scaled 12 (.ldc2_w 34) 3 15 := ⟨by decide +kernel, rfl⟩
theorem iX0_scaled_15 : At YX0_scaled 15 (.ddiv) 1 16 := ⟨by decide +kernel, rfl⟩
theorem iX0_scaled_16 : At YX0_scaled 16 (.dstore_n 3) 1 17 := ⟨by decide +kernel, rfl⟩
theorem iX0_scaled_17 : At YX0_scaled 17 (.iinc 5 1) 3 20 := ⟨by decide +kernel, rfl⟩
theorem iX0_scaled_20 : AtJ YX0_scaled 20 .goto 23 5 := ⟨-15, by decide +kernel, rfl, by decide⟩
theorem iX0_scaled_23 : At YX0_scaled 23 (.iconst 0) 1 24 := ⟨by decide +kernel, rfl⟩
theorem iX0_scaled_24 : At YX0_scaled 24 (.istore 5) 2 26 := ⟨by decide +kernel, rfl⟩
theorem iX0_scaled_26 : At YX0_scaled 26 (.iload 5) 2 28 := ⟨by decide +kernel, rfl⟩
theorem iX0_scaled_28 : At YX0_scaled 28 (.iload_n 2) 1 29 := ⟨by decide +kernel, rfl⟩
theorem iX0_scaled_29 : AtJ YX0_scaled 29 (.if_icmp .le) 32 44 := ⟨15, by decide +kernel, rfl, by decide⟩
theorem iX0_scaled_32 : At YX0_scaled 32 (.dload_n 3) 1 33 := ⟨by decide +kernel, rfl⟩
theorem iX0_scaled_33 : At YX0_scaled 33 (.ldc2_w 34) 3 36 := ⟨by decide +kernel, rfl⟩
theorem iX0_scaled_36 : At YX0_scaled 36 (.dmul) 1 37 := ⟨by decide +kernel, rfl⟩
theorem iX0_scaled_37 : At YX0_scaled 37 (.dstore_n 3) 1 38 := ⟨by decide +kernel, rfl⟩
theorem iX0_scaled_38 : At YX0_scaled 38 (.iinc 5 (-1)) 3 41 := ⟨by decide +kernel, rfl⟩
theorem iX0_scaled_41 : AtJ YX0_scaled 41 .goto 44 26 := ⟨-15, by decide +kernel, rfl, by decide⟩
theorem iX0_scaled_44 : At YX0_scaled 44 (.dload_n 3) 1 45 := ⟨by decide +kernel, rfl⟩
theorem iX0_scaled_45 : At YX0_scaled 45 (.dreturn) 1 46 := ⟨by decide +kernel, rfl⟩
theorem iX1_init_0 : At YX1_init 0 (.aload_n 0) 1 1 := ⟨by decide +kernel, rfl⟩
theorem iX1_init_1 : At YX1_init 1 (.invokespecial 3) 3 4 := ⟨by decide +kernel, rfl⟩
theorem iX1_init_4 : At YX1_init 4 (.aload_n 0) 1 5 := ⟨by decide +kernel, rfl⟩
theorem iX1_init_5 : At YX1_init 5 (.iconst 0) 1 6 := ⟨by decide +kernel, rfl⟩
theorem iX1_init_6 : At YX1_init 6 (.putfield 9) 3 9 := ⟨by decide +kernel, rfl⟩
theorem iX1_init_9 : At YX1_init 9 (.aload_n 0) 1 10 := ⟨by decide +kernel, rfl⟩
theorem iX1_init_10 : At YX1_init 10 (.bipush 16) 2 12 := ⟨by decide +kernel, rfl⟩
theorem iX1_init_12 : At YX1_init 12 (.newarray .int) 2 14 := ⟨by decide +kernel, rfl⟩
theorem iX1_init_14 : At YX1_init 14 (.putfield 15) 3 17 := ⟨by decide +kernel, rfl⟩
theorem iX1_init_17 : At YX1_init 17 (.aload_n 0) 1 18 := ⟨by decide +kernel, rfl⟩
theorem iX1_init_18 : At YX1_init 18 (.bipush 16) 2 20 := ⟨by decide +kernel, rfl⟩
theorem iX1_init_20 : At YX1_init 20 (.newarray .long) 2 22 := ⟨by decide +kernel, rfl⟩
theorem iX1_init_22 : At YX1_init 22 (.putfield 19) 3 25 := ⟨by decide +kernel, rfl⟩
theorem iX1_init_25 : At YX1_init 25 (.aload_n 0) 1 26 := ⟨by decide +kernel, rfl⟩
theorem iX1_init_26 : At YX1_init 26 (.bipush 16) 2 28 := ⟨by decide +kernel, rfl⟩
theorem iX1_init_28 : At YX1_init 28 (.newarray .long) 2 30 := ⟨by decide +kernel, rfl⟩
theorem iX1_init_30 : At YX1_init 30 (.putfield 23) 3 33 := ⟨by decide +kernel, rfl⟩
theorem iX1_init_33 : At YX1_init 33 (.aload_n 0) 1 34 := ⟨by decide +kernel, rfl⟩
theorem iX1_init_34 : At YX1_init 34 (.iconst 0) 1 35 := ⟨by decide +kernel, rfl⟩
theorem iX1_init_35 : At YX1_init 35 (.putfield 26) 3 38 := ⟨by decide +kernel, rfl⟩
theorem iX1_init_38 : At YX1_init 38 (.aload_n 0) 1 39 := ⟨by decide +kernel, rfl⟩
theorem iX1_init_39 : At YX1_init 39 (.lconst 0) 1 40 := ⟨by decide +kernel, rfl⟩
theorem iX1_init_40 : At YX1_init 40 (.putfield 29) 3 43 := ⟨by decide +kernel, rfl⟩
theorem iX1_init_43 : At YX1_init 43 (.aload_n 0) 1 44 := ⟨by decide +kernel, rfl⟩
theorem iX1_init_44 : At YX1_init 44 (.iconst 1) 1 45 := ⟨by decide +kernel, rfl⟩
theorem iX1_init_45 : At YX1_init 45 (.putfield 33) 3 48 := ⟨by decide +kernel, rfl⟩
theorem iX1_init_48 : At YX1_init 48 (.aload_n 0) 1 49 := ⟨by decide +kernel, rfl⟩
theorem iX1_init_49 : At YX1_init 49 (.iconst 0) 1 50 := ⟨by decide +kernel, rfl⟩
theorem iX1_init_50 : At YX1_init 50 (.putfield 37) 3 53 := ⟨by decide +kernel, rfl⟩
theorem iX1_init_53 : At YX1_init 53 (.return_) 1 54 := ⟨by decide +kernel, rfl⟩
theorem iX1_addStretch_0 : At YX1_addStretch 0 (.iload_n 1) 1 1 := ⟨by decide +kernel, rfl⟩
theorem iX1_addStretch_1 : AtJ YX1_addStretch 1 (.ifCond .ne) 4 23 := ⟨22, by decide +kernel, rfl, by decide⟩
theorem iX1_addStretch_4 : At YX1_addStretch 4 (.aload_n 0) 1 5 := ⟨by decide +kernel, rfl⟩
theorem iX1_addStretch_5 : At YX1_addStretch 5 (.iconst 0) 1 6 := ⟨by decide +kernel, rfl⟩
theorem iX1_addStretch_6 : At YX1_addStretch 6 (.putfield 9) 3 9 := ⟨by decide +kernel, rfl⟩
theorem iX1_addStretch_9 : At YX1_addStretch 9 (.aload_n 0) 1 10 := ⟨by decide +kernel, rfl⟩
theorem iX1_addStretch_10 : At YX1_addStretch 10 (.iconst 0) 1 11 := ⟨by decide +kernel, rfl⟩
theorem iX1_addStretch_11 : At YX1_addStretch 11 (.putfield 37) 3 14 := ⟨by decide +kernel, rfl⟩
theorem iX1_addStretch_14 : At YX1_addStretch 14 (.aload_n 0) 1 15 := ⟨by decide +kernel, rfl⟩
theorem iX1_addStretch_15 : At YX1_addStretch 15 (.iconst 0) 1 16 := ⟨by decide +kernel, rfl⟩
theorem iX1_addStretch_16 : At YX1_addStretch 16 (.lload_n 2) 1 17 := ⟨by decide +kernel, rfl⟩
theorem iX1_addStretch_17 : At YX1_addStretch 17 (.invokevirtual 40) 3 20 := ⟨by decide +kernel, rfl⟩
theorem iX1_addStretch_20 : AtJ YX1_addStretch 20 .goto 23 38 := ⟨18, by decide +kernel, rfl, by decide⟩
theorem iX1_addStretch_23 : At YX1_addStretch 23 (.aload_n 0) 1 24 := ⟨by decide +kernel, rfl⟩
theorem iX1_addStretch_24 : At YX1_addStretch 24 (.invokevirtual 44) 3 27 := ⟨by decide +kernel, rfl⟩
theorem iX1_addStretch_27 : At YX1_addStretch 27 (.aload_n 0) 1 28 := ⟨by decide +kernel, rfl⟩
theorem iX1_addStretch_28 : At YX1_addStretch 28 (.lload_n 2) 1 29 := ⟨by decide +kernel, rfl⟩
theorem iX1_addStretch_29 : At YX1_addStretch 29 (.aload_n 0) 1 30 := ⟨by decide +kernel, rfl⟩
theorem iX1_addStretch_30 : At YX1_addStretch 30 (.getfield 29) 3 33 := ⟨by decide +kernel, rfl⟩
theorem iX1_addStretch_33 : At YX1_addStretch 33 (.lsub) 1 34 := ⟨by decide +kernel, rfl⟩
theorem iX1_addStretch_34 : At YX1_addStretch 34 (.iconst 1) 1 35 := ⟨by decide +kernel, rfl⟩
theorem iX1_addStretch_35 : At YX1_addStretch 35 (.invokevirtual 47) 3 38 := ⟨by decide +kernel, rfl⟩
theorem iX1_addStretch_38 : At YX1_addStretch 38 (.aload_n 0) 1 39 := ⟨by decide +kernel, rfl⟩
theorem iX1_addStretch_39 : At YX1_addStretch 39 (.lload 4) 2 41 := ⟨by decide +kernel, rfl⟩
theorem iX1_addStretch_41 : At YX1_addStretch 41 (.iload 6) 2 43 := ⟨by decide +kernel, rfl⟩
theorem iX1_addStretch_43 : At YX1_addStretch 43 (.invokevirtual 47) 3 46 := ⟨by decide +kernel, rfl⟩
theorem iX1_addStretch_46 : At YX1_addStretch 46 (.return_) 1 47 := ⟨by decide +kernel, rfl⟩
theorem iX1_makeRoom_0 : At YX1_makeRoom 0 (.aload_n 0) 1 1 := ⟨by decide +kernel, rfl⟩
theorem iX1_makeRoom_1 : At YX1_makeRoom 1 (.getfield 9) 3 4 := ⟨by decide +kernel, rfl⟩
theorem iX1_makeRoom_4 : At YX1_makeRoom 4 (.iconst 2) 1 5 := ⟨by decide +kernel, rfl⟩
theorem iX1_makeRoom_5 : At YX1_makeRoom 5 (.iadd) 1 6 := ⟨by decide +kernel, rfl⟩
theorem iX1_makeRoom_6 : At YX1_makeRoom 6 (.aload_n 0) 1 7 := ⟨by decide +kernel, rfl⟩
theorem iX1_makeRoom_7 : At YX1_makeRoom 7 (.getfield 15) 3 10 := ⟨by decide +kernel, rfl⟩
theorem iX1_makeRoom_10 : At YX1_makeRoom 10 (.arraylength) 1 11 := ⟨by decide +kernel, rfl⟩
theorem iX1_makeRoom_11 : AtJ YX1_makeRoom 11 (.if_icmp .le) 14 58 := ⟨47, by decide +kernel, rfl, by decide⟩
theorem iX1_makeRoom_14 : At YX1_makeRoom 14 (.aload_n 0) 1 15 := ⟨by decide +kernel, rfl⟩
theorem iX1_makeRoom_15 : At YX1_makeRoom 15 (.getfield 15) 3 18 := ⟨by decide +kernel, rfl⟩
theorem iX1_makeRoom_18 : At YX1_makeRoom 18 (.arraylength) 1 19 := ⟨by decide +kernel, rfl⟩
theorem iX1_makeRoom_19 : At YX1_makeRoom 19 (.iconst 2) 1 20 := ⟨by decide +kernel, rfl⟩
theorem iX1_makeRoom_20 : At YX1_makeRoom 20 (.imul) 1 21 := ⟨by decide +kernel, rfl⟩
theorem iX1_makeRoom_21 : At YX1_makeRoom 21 (.istore_n 1) 1 22 := ⟨by decide +kernel, rfl⟩
theorem iX1_makeRoom_22 : At YX1_makeRoom 22 (.aload_n 0) 1 23 := ⟨by decide +kernel, rfl⟩
theorem iX1_makeRoom_23 : At YX1_makeRoom 23 (.aload_n 0) 1 24 := ⟨by decide +kernel, rfl⟩
theorem iX1_makeRoom_24 : At YX1_makeRoom 24 (.getfield 15) 3 27 := ⟨by decide +kernel, rfl⟩
theorem iX1_makeRoom_27 : At YX1_makeRoom 27 (.iload_n 1) 1 28 := ⟨by decide +kernel, rfl⟩
theorem iX1_makeRoom_28 : At YX1_makeRoom 28 (.invokestatic 51) 3 31 := ⟨by decide +kernel, rfl⟩
theorem iX1_makeRoom_31 : At YX1_makeRoom 31 (.putfield 15) 3 34 := ⟨by decide +kernel, rfl⟩
theorem iX1_makeRoom_34 : At YX1_makeRoom 34 (.aload_n 0) 1 35 := ⟨by decide +kernel, rfl⟩
theorem iX1_makeRoom_35 : At YX1_makeRoom 35 (.aload_n 0) 1 36 := ⟨by decide +kernel, rfl⟩
theorem iX1_makeRoom_36 : At YX1_makeRoom 36 (.getfield 19) 3 39 := ⟨by decide +kernel, rfl⟩
theorem iX1_makeRoom_39 : At YX1_makeRoom 39 (.iload_n 1) 1 40 := ⟨by decide +kernel, rfl⟩
theorem iX1_makeRoom_40 : At YX1_makeRoom 40 (.invokestatic 57) 3 43 := ⟨by decide +kernel, rfl⟩
theorem iX1_makeRoom_43 : At YX1_makeRoom 43 (.putfield 19) 3 46 := ⟨by decide +kernel, rfl⟩
theorem iX1_makeRoom_46 : At YX1_makeRoom 46 (.aload_n 0) 1 47 := ⟨by decide +kernel, rfl⟩
theorem iX1_makeRoom_47 : At YX1_makeRoom 47 (.aload_n 0) 1 48 := ⟨by decide +kernel, rfl⟩
theorem iX1_makeRoom_48 : At YX1_makeRoom 48 (.getfield 23) 3 51 := ⟨by decide +kernel, rfl⟩
theorem iX1_makeRoom_51 : At YX1_makeRoom 51 (.iload_n 1) 1 52 := ⟨by decide +kernel, rfl⟩
theorem iX1_makeRoom_52 : At YX1_makeRoom 52 (.invokestatic 57) 3 55 := ⟨by decide +kernel, rfl⟩
theorem iX1_makeRoom_55 : At YX1_makeRoom 55 (.putfield 23) 3 58 := ⟨by decide +kernel, rfl⟩
theorem iX1_makeRoom_58 : At YX1_makeRoom 58 (.return_) 1 59 := ⟨by decide +kernel, rfl⟩
theorem iX1_open_0 : At YX1_open 0 (.aload_n 0) 1 1 := ⟨by decide +kernel, rfl⟩
theorem iX1_open_1 : At YX1_open 1 (.getfield 15) 3 4 := ⟨by decide +kernel, rfl⟩
theorem iX1_open_4 : At YX1_open 4 (.aload_n 0) 1 5 := ⟨by decide +kernel, rfl⟩
theorem iX1_open_5 : At YX1_open 5 (.getfield 9) 3 8 := ⟨by decide +kernel, rfl⟩
theorem iX1_open_8 : At YX1_open 8 (.iload_n 1) 1 9 := ⟨by decide +kernel, rfl⟩
theorem iX1_open_9 : At YX1_open 9 (.iastore) 1 10 := ⟨by decide +kernel, rfl⟩
theorem iX1_open_10 : At YX1_open 10 (.aload_n 0) 1 11 := ⟨by decide +kernel, rfl⟩
theorem iX1_open_11 : At YX1_open 11 (.getfield 19) 3 14 := ⟨by decide +kernel, rfl⟩
theorem iX1_open_14 : At YX1_open 14 (.aload_n 0) 1 15 := ⟨by decide +kernel, rfl⟩
theorem iX1_open_15 : At YX1_open 15 (.getfield 9) 3 18 := ⟨by decide +kernel, rfl⟩
theorem iX1_open_18 : At YX1_open 18 (.lload_n 2) 1 19 := ⟨by decide +kernel, rfl⟩
theorem iX1_open_19 : At YX1_open 19 (.lastore) 1 20 := ⟨by decide +kernel, rfl⟩
theorem iX1_open_20 : At YX1_open 20 (.aload_n 0) 1 21 := ⟨by decide +kernel, rfl⟩
theorem iX1_open_21 : At YX1_open 21 (.getfield 23) 3 24 := ⟨by decide +kernel, rfl⟩
theorem iX1_open_24 : At YX1_open 24 (.aload_n 0) 1 25 := ⟨by decide +kernel, rfl⟩
theorem iX1_open_25 : At YX1_open 25 (.getfield 9) 3 28 := ⟨by decide +kernel, rfl⟩
theorem iX1_open_28 : At YX1_open 28 (.lconst 0) 1 29 := ⟨by decide +kernel, rfl⟩
theorem iX1_open_29 : At YX1_open 29 (.lastore) 1 30 := ⟨by decide +kernel, rfl⟩
theorem iX1_open_30 : At YX1_open 30 (.aload_n 0) 1 31 := ⟨by decide +kernel, rfl⟩
theorem iX1_open_31 : At YX1_open 31 (.dup) 1 32 := ⟨by decide +kernel, rfl⟩
theorem iX1_open_32 : At YX1_open 32 (.getfield 9) 3 35 := ⟨by decide +kernel, rfl⟩
theorem iX1_open_35 : At YX1_open 35 (.iconst 1) 1 36 := ⟨by decide +kernel, rfl⟩
theorem iX1_open_36 : At YX1_open 36 (.iadd) 1 37 := ⟨by decide +kernel, rfl⟩
theorem iX1_open_37 : At YX1_open 37 (.putfield 9) 3 40 := ⟨by decide +kernel, rfl⟩
theorem iX1_open_40 : At YX1_open 40 (.aload_n 0) 1 41 := ⟨by decide +kernel, rfl⟩
theorem iX1_open_41 : At YX1_open 41 (.iload_n 1) 1 42 := ⟨by decide +kernel, rfl⟩
theorem iX1_open_42 : At YX1_open 42 (.putfield 26) 3 45 := ⟨by decide +kernel, rfl⟩
theorem iX1_open_45 : At YX1_open 45 (.aload_n 0) 1 46 := ⟨by decide +kernel, rfl⟩
theorem iX1_open_46 : At YX1_open 46 (.lload_n 2) 1 47 := ⟨by decide +kernel, rfl⟩
theorem iX1_open_47 : At YX1_open 47 (.putfield 29) 3 50 := ⟨by decide +kernel, rfl⟩
theorem iX1_open_50 : At YX1_open 50 (.aload_n 0) 1 51 := ⟨by decide +kernel, rfl⟩
theorem iX1_open_51 : At YX1_open 51 (.iconst 1) 1 52 := ⟨by decide +kernel, rfl⟩
theorem iX1_open_52 : At YX1_open 52 (.putfield 33) 3 55 := ⟨by decide +kernel, rfl⟩
theorem iX1_open_55 : At YX1_open 55 (.return_) 1 56 := ⟨by decide +kernel, rfl⟩
theorem iX1_go_0 : At YX1_go 0 (.iload_n 3) 1 1 := ⟨by decide +kernel, rfl⟩
theorem iX1_go_1 : At YX1_go 1 (.istore 4) 2 3 := ⟨by decide +kernel, rfl⟩
theorem iX1_go_3 : At YX1_go 3 (.iload 4) 2 5 := ⟨by decide +kernel, rfl⟩
theorem iX1_go_5 : AtJ YX1_go 5 (.ifCond .le) 8 50 := ⟨45, by decide +kernel, rfl, by decide⟩
theorem iX1_go_8 : At YX1_go 8 (.aload_n 0) 1 9 := ⟨by decide +kernel, rfl⟩
theorem iX1_go_9 : At YX1_go 9 (.getfield 33) 3 12 := ⟨by decide +kernel, rfl⟩
theorem iX1_go_12 : AtJ YX1_go 12 (.ifCond .ne) 15 50 := ⟨38, by decide +kernel, rfl, by decide⟩
theorem iX1_go_15 : At YX1_go 15 (.aload_n 0) 1 16 := ⟨by decide +kernel, rfl⟩
theorem iX1_go_16 : At YX1_go 16 (.getfield 23) 3 19 := ⟨by decide +kernel, rfl⟩
theorem iX1_go_19 : At YX1_go 19 (.aload_n 0) 1 20 := ⟨by decide +kernel, rfl⟩
theorem iX1_go_20 : At YX1_go 20 (.getfield 9) 3 23 := ⟨by decide +kernel, rfl⟩
theorem iX1_go_23 : At YX1_go 23 (.iconst 1) 1 24 := ⟨by decide +kernel, rfl⟩
theorem iX1_go_24 : At YX1_go 24 (.isub) 1 25 := ⟨by decide +kernel, rfl⟩
theorem iX1_go_25 : At YX1_go 25 (.laload) 1 26 := ⟨by decide +kernel, rfl⟩
theorem iX1_go_26 : At YX1_go 26 (.lload_n 1) 1 27 := ⟨by decide +kernel, rfl⟩
theorem iX1_go_27 : At YX1_go 27 (.lcmp) 1 28 := ⟨by decide +kernel, rfl⟩
theorem iX1_go_28 : AtJ YX1_go 28 (.ifCond .eq) 31 50 := ⟨22, by decide +kernel, rfl, by decide⟩
theorem iX1_go_31 : At YX1_go 31 (.aload_n 0) 1 32 := ⟨by decide +kernel, rfl⟩
theorem iX1_go_32 : At YX1_go 32 (.aload_n 0) 1 33 := ⟨by decide +kernel, rfl⟩
theorem iX1_go_33 : At YX1_go 33 (.getfield 26) 3 36 := ⟨by decide +kernel, rfl⟩
theorem iX1_go_36 : At YX1_go 36 (.iconst 1) 1 37 := ⟨by decide +kernel, rfl⟩
theorem iX1_go_37 : At YX1_go 37 (.iadd) 1 38 := ⟨by decide +kernel, rfl⟩
theorem iX1_go_38 : At YX1_go 38 (.aload_n 0) 1 39 := ⟨by decide +kernel, rfl⟩
theorem iX1_go_39 : At YX1_go 39 (.getfield 29) 3 42 := ⟨by decide +kernel, rfl⟩
theorem iX1_go_42 : At YX1_go 42 (.lload_n 1) 1 43 := ⟨by decide +kernel, rfl⟩
theorem iX1_go_43 : At YX1_go 43 (.ladd) 1 44 := ⟨by decide +kernel, rfl⟩
theorem iX1_go_44 : At YX1_go 44 (.invokevirtual 40) 3 47 := ⟨by decide +kernel, rfl⟩
theorem iX1_go_47 : At YX1_go 47 (.iinc 4 (-1)) 3 50 := ⟨by decide +kernel, rfl⟩
theorem iX1_go_50 : At YX1_go 50 (.iload 4) 2 52 := ⟨by decide +kernel, rfl⟩
theorem iX1_go_52 : AtJ YX1_go 52 (.ifCond .le) 55 97 := ⟨45, by decide +kernel, rfl, by decide⟩
theorem iX1_go_55 : At YX1_go 55 (.aload_n 0) 1 56 := ⟨by decide +kernel, rfl⟩
theorem iX1_go_56 : At YX1_go 56 (.getfield 23) 3 59 := ⟨by decide +kernel, rfl⟩
theorem iX1_go_59 : At YX1_go 59 (.aload_n 0) 1 60 := ⟨by decide +kernel, rfl⟩
theorem iX1_go_60 : At YX1_go 60 (.getfield 9) 3 63 := ⟨by decide +kernel, rfl⟩
theorem iX1_go_63 : At YX1_go 63 (.iconst 1) 1 64 := ⟨by decide +kernel, rfl⟩
theorem iX1_go_64 : At YX1_go 64 (.isub) 1 65 := ⟨by decide +kernel, rfl⟩
theorem iX1_go_65 : At YX1_go 65 (.lload_n 1) 1 66 := ⟨by decide +kernel, rfl⟩
theorem iX1_go_66 : At YX1_go 66 (.lastore) 1 67 := ⟨by decide +kernel, rfl⟩
theorem iX1_go_67 : At YX1_go 67 (.aload_n 0) 1 68 := ⟨by decide +kernel, rfl⟩
theorem iX1_go_68 : At YX1_go 68 (.iconst 0) 1 69 := ⟨by decide +kernel, rfl⟩
theorem iX1_go_69 : At YX1_go 69 (.putfield 33) 3 72 := ⟨by decide +kernel, rfl⟩
theorem iX1_go_72 : At YX1_go 72 (.aload_n 0) 1 73 := ⟨by decide +kernel, rfl⟩
theorem iX1_go_73 : At YX1_go 73 (.dup) 1 74 := ⟨by decide +kernel, rfl⟩
theorem iX1_go_74 : At YX1_go 74 (.getfield 26) 3 77 := ⟨by decide +kernel, rfl⟩
theorem iX1_go_77 : At YX1_go 77 (.iload 4) 2 79 := ⟨by decide +kernel, rfl⟩
theorem iX1_go_79 : At YX1_go 79 (.iadd) 1 80 := ⟨by decide +kernel, rfl⟩
theorem iX1_go_80 : At YX1_go 80 (.putfield 26) 3 83 := ⟨by decide +kernel, rfl⟩
theorem iX1_go_83 : At YX1_go 83 (.aload_n 0) 1 84 := ⟨by decide +kernel, rfl⟩
theorem iX1_go_84 : At YX1_go 84 (.dup) 1 85 := ⟨by decide +kernel, rfl⟩
theorem iX1_go_85 : At YX1_go 85 (.getfield 29) 3 88 := ⟨by decide +kernel, rfl⟩
theorem iX1_go_88 : At YX1_go 88 (.iload 4) 2 90 := ⟨by decide +kernel, rfl⟩
theorem iX1_go_90 : At YX1_go 90 (.i2l) 1 91 := ⟨by decide +kernel, rfl⟩
theorem iX1_go_91 : At YX1_go 91 (.lload_n 1) 1 92 := ⟨by decide +kernel, rfl⟩
theorem iX1_go_92 : At YX1_go 92 (.lmul) 1 93 := ⟨by decide +kernel, rfl⟩
theorem iX1_go_93 : At YX1_go 93 (.ladd) 1 94 := ⟨by decide +kernel, rfl⟩
theorem iX1_go_94 : At YX1_go 94 (.putfield 29) 3 97 := ⟨by decide +kernel, rfl⟩
theorem iX1_go_97 : At YX1_go 97 (.return_) 1 98 := ⟨by decide +kernel, rfl⟩
theorem iX1_becomeDifference_0 : At YX1_becomeDifference 0 (.iconst 0) 1 1 := ⟨by decide +kernel, rfl⟩
theorem iX1_becomeDifference_1 : At YX1_becomeDifference 1 (.istore_n 3) 1 2 := ⟨by decide +kernel, rfl⟩
theorem iX1_becomeDifference_2 : At YX1_becomeDifference 2 (.iconst 0) 1 3 := ⟨by decide +kernel, rfl⟩
theorem iX1_becomeDifference_3 : At YX1_becomeDifference 3 (.istore 4) 2 5 := ⟨by decide +kernel, rfl⟩
theorem iX1_becomeDifference_5 : At YX1_becomeDifference 5 (.iconst 0) 1 6 := ⟨by decide +kernel, rfl⟩
theorem iX1_becomeDifference_6 : At YX1_becomeDifference 6 (.istore 5) 2 8 := ⟨by decide +kernel, rfl⟩
theorem iX1_becomeDifference_8 : At YX1_becomeDifference 8 (.iconst 0) 1 9 := ⟨by decide +kernel, rfl⟩
theorem iX1_becomeDifference_9 : At YX1_becomeDifference 9 (.istore 6) 2 11 := ⟨by decide +kernel, rfl⟩
theorem iX1_becomeDifference_11 : At YX1_becomeDifference 11 (.iload 6) 2 13 := ⟨by decide +kernel, rfl⟩
theorem iX1_becomeDifference_13 : At YX1_becomeDifference 13 (.sipush 9999) 3 16 := ⟨by decide +kernel, rfl⟩
theorem iX1_becomeDifference_16 : AtJ YX1_becomeDifference 16 (.if_icmp .gt) 19 137 := ⟨121, by decide +kernel, rfl, by decide⟩
theorem iX1_becomeDifference_19 : At YX1_becomeDifference 19 (.aload_n 1) 1 20 := ⟨by decide +kernel, rfl⟩
theorem iX1_becomeDifference_20 : At YX1_becomeDifference 20 (.iload_n 3) 1 21 := ⟨by decide +kernel, rfl⟩
theorem iX1_becomeDifference_21 : At YX1_becomeDifference 21 (.invokevirtual 60) 3 24 := ⟨by decide +kernel, rfl⟩
theorem iX1_becomeDifference_24 : At YX1_becomeDifference 24 (.aload_n 2) 1 25 := ⟨by decide +kernel, rfl⟩
theorem iX1_becomeDifference_25 : At YX1_becomeDifference 25 (.iload 4) 2 27 := ⟨by decide +kernel, rfl⟩
theorem iX1_becomeDifference_27 : At YX1_becomeDifference 27 (.invokevirtual 60) 3 30 := ⟨by decide +kernel, rfl⟩
theorem iX1_becomeDifference_30 : At YX1_becomeDifference 30 (.invokestatic 64) 3 33 := ⟨by decide +kernel, rfl⟩
theorem iX1_becomeDifference_33 : At YX1_becomeDifference 33 (.istore 5) 2 35 := ⟨by decide +kernel, rfl⟩
theorem iX1_becomeDifference_35 : At YX1_becomeDifference 35 (.aload_n 1) 1 36 := ⟨by decide +kernel, rfl⟩
theorem iX1_becomeDifference_36 : At YX1_becomeDifference 36 (.iload_n 3) 1 37 := ⟨by decide +kernel, rfl⟩
theorem iX1_becomeDifference_37 : At YX1_becomeDifference 37 (.iload 6) 2 39 := ⟨by decide +kernel, rfl⟩
theorem iX1_becomeDifference_39 : At YX1_becomeDifference 39 (.invokevirtual 70) 3 42 := ⟨by decide +kernel, rfl⟩
theorem iX1_becomeDifference_42 : At YX1_becomeDifference 42 (.aload_n 2) 1 43 := ⟨by decide +kernel, rfl⟩
theorem iX1_becomeDifference_43 : At YX1_becomeDifference 43 (.iload 4) 2 45 := ⟨by decide +kernel, rfl⟩
theorem iX1_becomeDifference_45 : At YX1_becomeDifference 45 (.iload 6) 2 47 := ⟨by decide +kernel, rfl⟩
theorem iX1_becomeDifference_47 : At YX1_becomeDifference 47 (.invokevirtual 70) 3 50 := ⟨by decide +kernel, rfl⟩
theorem iX1_becomeDifference_50 : At YX1_becomeDifference 50 (.lsub) 1 51 := ⟨by decide +kernel, rfl⟩
theorem iX1_becomeDifference_51 : At YX1_becomeDifference 51 (.lstore 7) 2 53 := ⟨by decide +kernel, rfl⟩
theorem iX1_becomeDifference_53 : At YX1_becomeDifference 53 (.aload_n 0) 1 54 := ⟨by decide +kernel, rfl⟩
theorem iX1_becomeDifference_54 : At YX1_becomeDifference 54 (.iload 6) 2 56 := ⟨by decide +kernel, rfl⟩
theorem iX1_becomeDifference_56 : At YX1_becomeDifference 56 (.lload 7) 2 58 := ⟨by decide +kernel, rfl⟩
theorem iX1_becomeDifference_58 : At YX1_becomeDifference 58 (.aload_n 1) 1 59 := ⟨by decide +kernel, rfl⟩
theorem iX1_becomeDifference_59 : At YX1_becomeDifference 59 (.getfield 23) 3 62 := ⟨by decide +kernel, rfl⟩
theorem iX1_becomeDifference_62 : At YX1_becomeDifference 62 (.iload_n 3) 1 63 := ⟨by decide +kernel, rfl⟩
theorem iX1_becomeDifference_63 : At YX1_becomeDifference 63 (.laload) 1 64 := ⟨by decide +kernel, rfl⟩
theorem iX1_becomeDifference_64 : At YX1_becomeDifference 64 (.aload_n 2) 1 65 := ⟨by decide +kernel, rfl⟩
theorem iX1_becomeDifference_65 : At YX1_becomeDifference 65 (.getfield 23) 3 68 := ⟨by decide +kernel, rfl⟩
theorem iX1_becomeDifference_68 : At YX1_becomeDifference 68 (.iload 4) 2 70 := ⟨by decide +kernel, rfl⟩
theorem iX1_becomeDifference_70 : At YX1_becomeDifference 70 (.laload) 1 71 := ⟨by decide +kernel, rfl⟩
theorem iX1_becomeDifference_71 : At YX1_becomeDifference 71 (.lsub) 1 72 := ⟨by decide +kernel, rfl⟩
theorem iX1_becomeDifference_72 : At YX1_becomeDifference 72 (.iload 5) 2 74 := ⟨by decide +kernel, rfl⟩
theorem iX1_becomeDifference_74 : At YX1_becomeDifference 74 (.iload 6) 2 76 := ⟨by decide +kernel, rfl⟩
theorem iX1_becomeDifference_76 : At YX1_becomeDifference 76 (.isub) 1 77 := ⟨by decide +kernel, rfl⟩
theorem iX1_becomeDifference_77 : At YX1_becomeDifference 77 (.invokevirtual 74) 3 80 := ⟨by decide +kernel, rfl⟩
theorem iX1_becomeDifference_80 : At YX1_becomeDifference 80 (.aload_n 1) 1 81 := ⟨by decide +kernel, rfl⟩
theorem iX1_becomeDifference_81 : At YX1_becomeDifference 81 (.iload_n 3) 1 82 := ⟨by decide +kernel, rfl⟩
theorem iX1_becomeDifference_82 : At YX1_becomeDifference 82 (.invokevirtual 60) 3 85 := ⟨by decide +kernel, rfl⟩
theorem iX1_becomeDifference_85 : At YX1_becomeDifference 85 (.iload 5) 2 87 := ⟨by decide +kernel, rfl⟩
theorem iX1_becomeDifference_87 : AtJ YX1_becomeDifference 87 (.if_icmp .ne) 90 103 := ⟨16, by decide +kernel, rfl, by decide⟩
theorem iX1_becomeDifference_90 : At YX1_becomeDifference 90 (.iload_n 3) 1 91 := ⟨by decide +kernel, rfl⟩
theorem iX1_becomeDifference_91 : At YX1_becomeDifference 91 (.iconst 1) 1 92 := ⟨by decide +kernel, rfl⟩
theorem iX1_becomeDifference_92 : At YX1_becomeDifference 92 (.iadd) 1 93 := ⟨by decide +kernel, rfl⟩
theorem iX1_becomeDifference_93 : At YX1_becomeDifference 93 (.aload_n 1) 1 94 := ⟨by decide +kernel, rfl⟩
theorem iX1_becomeDifference_94 : At YX1_becomeDifference 94 (.getfield 9) 3 97 := ⟨by decide +kernel, rfl⟩
theorem iX1_becomeDifference_97 : AtJ YX1_becomeDifference 97 (.if_icmp .ge) 100 103 := ⟨6, by decide +kernel, rfl, by decide⟩
theorem iX1_becomeDifference_100 : At YX1_becomeDifference 100 (.iinc 3 1) 3 103 := ⟨by decide +kernel, rfl⟩
theorem iX1_becomeDifference_103 : At YX1_becomeDifference 103 (.aload_n 2) 1 104 := ⟨by decide +kernel, rfl⟩
theorem iX1_becomeDifference_104 : At YX1_becomeDifference 104 (.iload 4) 2 106 := ⟨by decide +kernel, rfl⟩
theorem iX1_becomeDifference_106 : At YX1_becomeDifference 106 (.invokevirtual 60) 3 109 := ⟨by decide +kernel, rfl⟩
theorem iX1_becomeDifference_109 : At YX1_becomeDifference 109 (.iload 5) 2 111 := ⟨by decide +kernel, rfl⟩
theorem iX1_becomeDifference_111 : AtJ YX1_becomeDifference 111 (.if_icmp .ne) 114 128 := ⟨17, by decide +kernel, rfl, by decide⟩
theorem iX1_becomeDifference_114 : At YX1_becomeDifference 114 (.iload 4) 2 116 := ⟨by decide +kernel, rfl⟩
theorem iX1_becomeDifference_116 : At YX1_becomeDifference 116 (.iconst 1) 1 117 := ⟨by decide +kernel, rfl⟩
theorem iX1_becomeDifference_117 : At YX1_becomeDifference 117 (.iadd) 1 118 := ⟨by decide +kernel, rfl⟩
theorem iX1_becomeDifference_118 : At YX1_becomeDifference 118 (.aload_n 2) 1 119 := ⟨by decide +kernel, rfl⟩
theorem iX1_becomeDifference_119 : At YX1_becomeDifference 119 (.getfield 9) 3 122 := ⟨by decide +kernel, rfl⟩
theorem iX1_becomeDifference_122 : AtJ YX1_becomeDifference 122 (.if_icmp .ge) 125 128 := ⟨6, by decide +kernel, rfl, by decide⟩
theorem iX1_becomeDifference_125 : At YX1_becomeDifference 125 (.iinc 4 1) 3 128 := ⟨by decide +kernel, rfl⟩
theorem iX1_becomeDifference_128 : At YX1_becomeDifference 128 (.iload 5) 2 130 := ⟨by decide +kernel, rfl⟩
theorem iX1_becomeDifference_130 : At YX1_becomeDifference 130 (.iconst 1) 1 131 := ⟨by decide +kernel, rfl⟩
theorem iX1_becomeDifference_131 : At YX1_becomeDifference 131 (.iadd) 1 132 := ⟨by decide +kernel, rfl⟩
theorem iX1_becomeDifference_132 : At YX1_becomeDifference 132 (.istore 6) 2 134 := ⟨by decide +kernel, rfl⟩
theorem iX1_becomeDifference_134 : AtJ YX1_becomeDifference 134 .goto 137 11 := ⟨-123, by decide +kernel, rfl, by decide⟩
theorem iX1_becomeDifference_137 : At YX1_becomeDifference 137 (.return_) 1 138 := ⟨by decide +kernel, rfl⟩
theorem iX1_lastOf_0 : At YX1_lastOf 0 (.iload_n 1) 1 1 := ⟨by decide +kernel, rfl⟩
theorem iX1_lastOf_1 : At YX1_lastOf 1 (.iconst 1) 1 2 := ⟨by decide +kernel, rfl⟩
theorem iX1_lastOf_2 : At YX1_lastOf 2 (.iadd) 1 3 := ⟨by decide +kernel, rfl⟩
theorem iX1_lastOf_3 : At YX1_lastOf 3 (.aload_n 0) 1 4 := ⟨by decide +kernel, rfl⟩
theorem iX1_lastOf_4 : At YX1_lastOf 4 (.getfield 9) 3 7 := ⟨by decide +kernel, rfl⟩
theorem iX1_lastOf_7 : AtJ YX1_lastOf 7 (.if_icmp .ge) 10 23 := ⟨16, by decide +kernel, rfl, by decide⟩
theorem iX1_lastOf_10 : At YX1_lastOf 10 (.aload_n 0) 1 11 := ⟨by decide +kernel, rfl⟩
theorem iX1_lastOf_11 : At YX1_lastOf 11 (.getfield 15) 3 14 := ⟨by decide +kernel, rfl⟩
theorem iX1_lastOf_14 : At YX1_lastOf 14 (.iload_n 1) 1 15 := ⟨by decide +kernel, rfl⟩
theorem iX1_lastOf_15 : At YX1_lastOf 15 (.iconst 1) 1 16 := ⟨by decide +kernel, rfl⟩
theorem iX1_lastOf_16 : At YX1_lastOf 16 (.iadd) 1 17 := ⟨by decide +kernel, rfl⟩
theorem iX1_lastOf_17 : At YX1_lastOf 17 (.iaload) 1 18 := ⟨by decide +kernel, rfl⟩
theorem iX1_lastOf_18 : At YX1_lastOf 18 (.iconst 1) 1 19 := ⟨by decide +kernel, rfl⟩
theorem iX1_lastOf_19 : At YX1_lastOf 19 (.isub) 1 20 := ⟨by decide +kernel, rfl⟩
theorem iX1_lastOf_20 : AtJ YX1_lastOf 20 .goto 23 26 := ⟨6, by decide +kernel, rfl, by decide⟩
theorem iX1_lastOf_23 : At YX1_lastOf 23 (.sipush 9999) 3 26 := ⟨by decide +kernel, rfl⟩
theorem iX1_lastOf_26 : At YX1_lastOf 26 (.ireturn) 1 27 := ⟨by decide +kernel, rfl⟩
theorem iX1_further_0 : At YX1_further 0 (.aload_n 0) 1 1 := ⟨by decide +kernel, rfl⟩
theorem iX1_further_1 : At YX1_further 1 (.iload_n 1) 1 2 := ⟨by decide +kernel, rfl⟩
theorem iX1_further_2 : At YX1_further 2 (.invokevirtual 60) 3 5 := ⟨by decide +kernel, rfl⟩
theorem iX1_further_5 : At YX1_further 5 (.aload_n 0) 1 6 := ⟨by decide +kernel, rfl⟩
theorem iX1_further_6 : At YX1_further 6 (.getfield 15) 3 9 := ⟨by decide +kernel, rfl⟩
theorem iX1_further_9 : At YX1_further 9 (.iload_n 1) 1 10 := ⟨by decide +kernel, rfl⟩
theorem iX1_further_10 : At YX1_further 10 (.iaload) 1 11 := ⟨by decide +kernel, rfl⟩
theorem iX1_further_11 : At YX1_further 11 (.isub) 1 12 := ⟨by decide +kernel, rfl⟩
theorem iX1_further_12 : At YX1_further 12 (.ireturn) 1 13 := ⟨by decide +kernel, rfl⟩
theorem iX1_valueIn_0 : At YX1_valueIn 0 (.aload_n 0) 1 1 := ⟨by decide +kernel, rfl⟩
theorem iX1_valueIn_1 : At YX1_valueIn 1 (.getfield 19) 3 4 := ⟨by decide +kernel, rfl⟩
theorem iX1_valueIn_4 : At YX1_valueIn 4 (.iload_n 1) 1 5 := ⟨by decide +kernel, rfl⟩
theorem iX1_valueIn_5 : At YX1_valueIn 5 (.laload) 1 6 := ⟨by decide +kernel, rfl⟩
theorem iX1_valueIn_6 : At YX1_valueIn 6 (.iload_n 2) 1 7 := ⟨by decide +kernel, rfl⟩
theorem iX1_valueIn_7 : At YX1_valueIn 7 (.aload_n 0) 1 8 := ⟨by decide +kernel, rfl⟩
theorem iX1_valueIn_8 : At YX1_valueIn 8 (.getfield 15) 3 11 := ⟨by decide +kernel, rfl⟩
theorem iX1_valueIn_11 : At YX1_valueIn 11 (.iload_n 1) 1 12 := ⟨by decide +kernel, rfl⟩
theorem iX1_valueIn_12 : At YX1_valueIn 12 (.iaload) 1 13 := ⟨by decide +kernel, rfl⟩
theorem iX1_valueIn_13 : At YX1_valueIn 13 (.isub) 1 14 := ⟨by decide +kernel, rfl⟩
theorem iX1_valueIn_14 : At YX1_valueIn 14 (.i2l) 1 15 := ⟨by decide +kernel, rfl⟩
theorem iX1_valueIn_15 : At YX1_valueIn 15 (.aload_n 0) 1 16 := ⟨by decide +kernel, rfl⟩
theorem iX1_valueIn_16 : At YX1_valueIn 16 (.getfield 23) 3 19 := ⟨by decide +kernel, rfl⟩
theorem iX1_valueIn_19 : At YX1_valueIn 19 (.iload_n 1) 1 20 := ⟨by decide +kernel, rfl⟩
theorem iX1_valueIn_20 : At YX1_valueIn 20 (.laload) 1 21 := ⟨by decide +kernel, rfl⟩
theorem iX1_valueIn_21 : At YX1_valueIn 21 (.lmul) 1 22 := ⟨by decide +kernel, rfl⟩
theorem iX1_valueIn_22 : At YX1_valueIn 22 (.ladd) 1 23 := ⟨by decide +kernel, rfl⟩
theorem iX1_valueIn_23 : At YX1_valueIn 23 (.lreturn) 1 24 := ⟨by decide +kernel, rfl⟩
theorem iX1_lastValue_0 : At YX1_lastValue 0 (.aload_n 0) 1 1 := ⟨by decide +kernel, rfl⟩
theorem iX1_lastValue_1 : At YX1_lastValue 1 (.iload_n 1) 1 2 := ⟨by decide +kernel, rfl⟩
theorem iX1_lastValue_2 : At YX1_lastValue 2 (.aload_n 0) 1 3 := ⟨by decide +kernel, rfl⟩
theorem iX1_lastValue_3 : At YX1_lastValue 3 (.iload_n 1) 1 4 := ⟨by decide +kernel, rfl⟩
theorem iX1_lastValue_4 : At YX1_lastValue 4 (.invokevirtual 60) 3 7 := ⟨by decide +kernel, rfl⟩
theorem iX1_lastValue_7 : At YX1_lastValue 7 (.invokevirtual 70) 3 10 := ⟨by decide +kernel, rfl⟩
theorem iX1_lastValue_10 : At YX1_lastValue 10 (.lreturn) 1 11 := ⟨by decide +kernel, rfl⟩
theorem iX1_gainInto_0 : At YX1_gainInto 0 (.aload_n 0) 1 1 := ⟨by decide +kernel, rfl⟩
theorem iX1_gainInto_1 : At YX1_gainInto 1 (.getfield 19) 3 4 := ⟨by decide +kernel, rfl⟩
theorem iX1_gainInto_4 : At YX1_gainInto 4 (.iload_n 1) 1 5 := ⟨by decide +kernel, rfl⟩
theorem iX1_gainInto_5 : At YX1_gainInto 5 (.laload) 1 6 := ⟨by decide +kernel, rfl⟩
theorem iX1_gainInto_6 : At YX1_gainInto 6 (.aload_n 0) 1 7 := ⟨by decide +kernel, rfl⟩
theorem iX1_gainInto_7 : At YX1_gainInto 7 (.iload_n 1) 1 8 := ⟨by decide +kernel, rfl⟩
theorem iX1_gainInto_8 : At YX1_gainInto 8 (.iconst 1) 1 9 := ⟨by decide +kernel, rfl⟩
theorem iX1_gainInto_9 : At YX1_gainInto 9 (.isub) 1 10 := ⟨by decide +kernel, rfl⟩
theorem iX1_gainInto_10 : At YX1_gainInto 10 (.invokevirtual 78) 3 13 := ⟨by decide +kernel, rfl⟩
theorem iX1_gainInto_13 : At YX1_gainInto 13 (.lsub) 1 14 := ⟨by decide +kernel, rfl⟩
theorem iX1_gainInto_14 : At YX1_gainInto 14 (.lreturn) 1 15 := ⟨by decide +kernel, rfl⟩
theorem iX1_pieceOf_0 : At YX1_pieceOf 0 (.aload_n 0) 1 1 := ⟨by decide +kernel, rfl⟩
theorem iX1_pieceOf_1 : At YX1_pieceOf 1 (.getfield 37) 3 4 := ⟨by decide +kernel, rfl⟩
theorem iX1_pieceOf_4 : At YX1_pieceOf 4 (.aload_n 0) 1 5 := ⟨by decide +kernel, rfl⟩
theorem iX1_pieceOf_5 : At YX1_pieceOf 5 (.getfield 9) 3 8 := ⟨by decide +kernel, rfl⟩
theorem iX1_pieceOf_8 : AtJ YX1_pieceOf 8 (.if_icmp .ge) 11 41 := ⟨33, by decide +kernel, rfl, by decide⟩
theorem iX1_pieceOf_11 : At YX1_pieceOf 11 (.iload_n 1) 1 12 := ⟨by decide +kernel, rfl⟩
theorem iX1_pieceOf_12 : At YX1_pieceOf 12 (.aload_n 0) 1 13 := ⟨by decide +kernel, rfl⟩
theorem iX1_pieceOf_13 : At YX1_pieceOf 13 (.getfield 15) 3 16 := ⟨by decide +kernel, rfl⟩
theorem iX1_pieceOf_16 : At YX1_pieceOf 16 (.aload_n 0) 1 17 := ⟨by decide +kernel, rfl⟩
theorem iX1_pieceOf_17 : At YX1_pieceOf 17 (.getfield 37) 3 20 := ⟨by decide +kernel, rfl⟩
theorem iX1_pieceOf_20 : At YX1_pieceOf 20 (.iaload) 1 21 := ⟨by decide +kernel, rfl⟩
theorem iX1_pieceOf_21 : AtJ YX1_pieceOf 21 (.if_icmp .lt) 24 41 := ⟨20, by decide +kernel, rfl, by decide⟩
theorem iX1_pieceOf_24 : At YX1_pieceOf 24 (.iload_n 1) 1 25 := ⟨by decide +kernel, rfl⟩
theorem iX1_pieceOf_25 : At YX1_pieceOf 25 (.aload_n 0) 1 26 := ⟨by decide +kernel, rfl⟩
theorem iX1_pieceOf_26 : At YX1_pieceOf 26 (.aload_n 0) 1 27 := ⟨by decide +kernel, rfl⟩
theorem iX1_pieceOf_27 : At YX1_pieceOf 27 (.getfield 37) 3 30 := ⟨by decide +kernel, rfl⟩
theorem iX1_pieceOf_30 : At YX1_pieceOf 30 (.invokevirtual 60) 3 33 := ⟨by decide +kernel, rfl⟩
theorem iX1_pieceOf_33 : AtJ YX1_pieceOf 33 (.if_icmp .gt) 36 41 := ⟨8, by decide +kernel, rfl, by decide⟩
theorem iX1_pieceOf_36 : At YX1_pieceOf 36 (.aload_n 0) 1 37 := ⟨by decide +kernel, rfl⟩
theorem iX1_pieceOf_37 : At YX1_pieceOf 37 (.getfield 37) 3 40 := ⟨by decide +kernel, rfl⟩
theorem iX1_pieceOf_40 : At YX1_pieceOf 40 (.ireturn) 1 41 := ⟨by decide +kernel, rfl⟩
theorem iX1_pieceOf_41 : At YX1_pieceOf 41 (.iconst 0) 1 42 := ⟨by decide +kernel, rfl⟩
theorem iX1_pieceOf_42 : At YX1_pieceOf 42 (.istore_n 2) 1 43 := ⟨by decide +kernel, rfl⟩
theorem iX1_pieceOf_43 : At YX1_pieceOf 43 (.aload_n 0) 1 44 := ⟨by decide +kernel, rfl⟩
theorem iX1_pieceOf_44 : At YX1_pieceOf 44 (.getfield 9) 3 47 := ⟨by decide +kernel, rfl⟩
theorem iX1_pieceOf_47 : At YX1_pieceOf 47 (.iconst 1) 1 48 := ⟨by decide +kernel, rfl⟩
theorem iX1_pieceOf_48 : At YX1_pieceOf 48 (.isub) 1 49 := ⟨by decide +kernel, rfl⟩
theorem iX1_pieceOf_49 : At YX1_pieceOf 49 (.istore_n 3) 1 50 := ⟨by decide +kernel, rfl⟩
theorem iX1_pieceOf_50 : At YX1_pieceOf 50 (.iconst 0) 1 51 := ⟨by decide +kernel, rfl⟩
theorem iX1_pieceOf_51 : At YX1_pieceOf 51 (.istore 4) 2 53 := ⟨by decide +kernel, rfl⟩
theorem iX1_pieceOf_53 : At YX1_pieceOf 53 (.iload 4) 2 55 := ⟨by decide +kernel, rfl⟩
theorem iX1_pieceOf_55 : At YX1_pieceOf 55 (.bipush 15) 2 57 := ⟨by decide +kernel, rfl⟩
theorem iX1_pieceOf_57 : AtJ YX1_pieceOf 57 (.if_icmp .ge) 60 102 := ⟨45, by decide +kernel, rfl, by decide⟩
theorem iX1_pieceOf_60 : At YX1_pieceOf 60 (.iload_n 2) 1 61 := ⟨by decide +kernel, rfl⟩
theorem iX1_pieceOf_61 : At YX1_pieceOf 61 (.iload_n 3) 1 62 := ⟨by decide +kernel, rfl⟩
theorem iX1_pieceOf_62 : AtJ YX1_pieceOf 62 (.if_icmp .ge) 65 102 := ⟨40, by decide +kernel, rfl, by decide⟩
theorem iX1_pieceOf_65 : At YX1_pieceOf 65 (.iload_n 2) 1 66 := ⟨by decide +kernel, rfl⟩
theorem iX1_pieceOf_66 : At YX1_pieceOf 66 (.iload_n 3) 1 67 := ⟨by decide +kernel, rfl⟩
theorem iX1_pieceOf_67 : At YX1_pieceOf 67 (.iadd) 1 68 := ⟨by decide +kernel, rfl⟩
theorem iX1_pieceOf_68 : At YX1_pieceOf 68 (.iconst 1) 1 69 := ⟨by decide +kernel, rfl⟩
theorem iX1_pieceOf_69 : At YX1_pieceOf 69 (.iadd) 1 70 := ⟨by decide +kernel, rfl⟩
theorem iX1_pieceOf_70 : At YX1_pieceOf 70 (.iconst 2) 1 71 := ⟨by decide +kernel, rfl⟩
theorem iX1_pieceOf_71 : At YX1_pieceOf 71 (.idiv) 1 72 := ⟨by decide +kernel, rfl⟩
theorem iX1_pieceOf_72 : At YX1_pieceOf 72 (.istore 5) 2 74 := ⟨by decide +kernel, rfl⟩
theorem iX1_pieceOf_74 : At YX1_pieceOf 74 (.aload_n 0) 1 75 := ⟨by decide +kernel, rfl⟩
theorem iX1_pieceOf_75 : At YX1_pieceOf 75 (.getfield 15) 3 78 := ⟨by decide +kernel, rfl⟩
theorem iX1_pieceOf_78 : At YX1_pieceOf 78 (.iload 5) 2 80 := ⟨by decide +kernel, rfl⟩
theorem iX1_pieceOf_80 : At YX1_pieceOf 80 (.iaload) 1 81 := ⟨by decide +kernel, rfl⟩
theorem iX1_pieceOf_81 : At YX1_pieceOf 81 (.iload_n 1) 1 82 := ⟨by decide +kernel, rfl⟩
theorem iX1_pieceOf_82 : AtJ YX1_pieceOf 82 (.if_icmp .gt) 85 91 := ⟨9, by decide +kernel, rfl, by decide⟩
theorem iX1_pieceOf_85 : At YX1_pieceOf 85 (.iload 5) 2 87 := ⟨by decide +kernel, rfl⟩
theorem iX1_pieceOf_87 : At YX1_pieceOf 87 (.istore_n 2) 1 88 := ⟨by decide +kernel, rfl⟩
theorem iX1_pieceOf_88 : AtJ YX1_pieceOf 88 .goto 91 96 := ⟨8, by decide +kernel, rfl, by decide⟩
theorem iX1_pieceOf_91 : At YX1_pieceOf 91 (.iload 5) 2 93 := ⟨by decide +kernel, rfl⟩
theorem iX1_pieceOf_93 : At YX1_pieceOf 93 (.iconst 1) 1 94 := ⟨by decide +kernel, rfl⟩
theorem iX1_pieceOf_94 : At YX1_pieceOf 94 (.isub) 1 95 := ⟨by decide +kernel, rfl⟩
theorem iX1_pieceOf_95 : At YX1_pieceOf 95 (.istore_n 3) 1 96 := ⟨by decide +kernel, rfl⟩
theorem iX1_pieceOf_96 : At YX1_pieceOf 96 (.iinc 4 1) 3 99 := ⟨by decide +kernel, rfl⟩
theorem iX1_pieceOf_99 : AtJ YX1_pieceOf 99 .goto 102 53 := ⟨-46, by decide +kernel, rfl, by decide⟩
theorem iX1_pieceOf_102 : At YX1_pieceOf 102 (.aload_n 0) 1 103 := ⟨by decide +kernel, rfl⟩
theorem iX1_pieceOf_103 : At YX1_pieceOf 103 (.iload_n 2) 1 104 := ⟨by decide +kernel, rfl⟩
theorem iX1_pieceOf_104 : At YX1_pieceOf 104 (.putfield 37) 3 107 := ⟨by decide +kernel, rfl⟩
theorem iX1_pieceOf_107 : At YX1_pieceOf 107 (.iload_n 2) 1 108 := ⟨by decide +kernel, rfl⟩
theorem iX1_pieceOf_108 : At YX1_pieceOf 108 (.ireturn) 1 109 := ⟨by decide +kernel, rfl⟩
theorem iX1_valueAt_0 : At YX1_valueAt 0 (.aload_n 0) 1 1 := ⟨by decide +kernel, rfl⟩
theorem iX1_valueAt_1 : At YX1_valueAt 1 (.aload_n 0) 1 2 := ⟨by decide +kernel, rfl⟩
theorem iX1_valueAt_2 : At YX1_valueAt 2 (.iload_n 1) 1 3 := ⟨by decide +kernel, rfl⟩
theorem iX1_valueAt_3 : At YX1_valueAt 3 (.invokevirtual 82) 3 6 := ⟨by decide +kernel, rfl⟩
theorem iX1_valueAt_6 : At YX1_valueAt 6 (.iload_n 1) 1 7 := ⟨by decide +kernel, rfl⟩
theorem iX1_valueAt_7 : At YX1_valueAt 7 (.invokevirtual 70) 3 10 := ⟨by decide +kernel, rfl⟩
theorem iX1_valueAt_10 : At YX1_valueAt 10 (.lreturn) 1 11 := ⟨by decide +kernel, rfl⟩
theorem iX1_timesIn_0 : At YX1_timesIn 0 (.aload_n 0) 1 1 := ⟨by decide +kernel, rfl⟩
theorem iX1_timesIn_1 : At YX1_timesIn 1 (.getfield 23) 3 4 := ⟨by decide +kernel, rfl⟩
theorem iX1_timesIn_4 : At YX1_timesIn 4 (.iload_n 1) 1 5 := ⟨by decide +kernel, rfl⟩
theorem iX1_timesIn_5 : At YX1_timesIn 5 (.laload) 1 6 := ⟨by decide +kernel, rfl⟩
theorem iX1_timesIn_6 : At YX1_timesIn 6 (.lstore 4) 2 8 := ⟨by decide +kernel, rfl⟩
theorem iX1_timesIn_8 : At YX1_timesIn 8 (.lload_n 2) 1 9 := ⟨by decide +kernel, rfl⟩
theorem iX1_timesIn_9 : At YX1_timesIn 9 (.aload_n 0) 1 10 := ⟨by decide +kernel, rfl⟩
theorem iX1_timesIn_10 : At YX1_timesIn 10 (.getfield 19) 3 13 := ⟨by decide +kernel, rfl⟩
theorem iX1_timesIn_13 : At YX1_timesIn 13 (.iload_n 1) 1 14 := ⟨by decide +kernel, rfl⟩
theorem iX1_timesIn_14 : At YX1_timesIn 14 (.laload) 1 15 := ⟨by decide +kernel, rfl⟩
theorem iX1_timesIn_15 : At YX1_timesIn 15 (.aload_n 0) 1 16 := ⟨by decide +kernel, rfl⟩
theorem iX1_timesIn_16 : At YX1_timesIn 16 (.iload_n 1) 1 17 := ⟨by decide +kernel, rfl⟩
theorem iX1_timesIn_17 : At YX1_timesIn 17 (.invokevirtual 78) 3 20 := ⟨by decide +kernel, rfl⟩
theorem iX1_timesIn_20 : At YX1_timesIn 20 (.invokestatic 85) 3 23 := ⟨by decide +kernel, rfl⟩
theorem iX1_timesIn_23 : At YX1_timesIn 23 (.lcmp) 1 24 := ⟨by decide +kernel, rfl⟩
theorem iX1_timesIn_24 : AtJ YX1_timesIn 24 (.ifCond .lt) 27 46 := ⟨22, by decide +kernel, rfl, by decide⟩
theorem iX1_timesIn_27 : At YX1_timesIn 27 (.lload_n 2) 1 28 := ⟨by decide +kernel, rfl⟩
theorem iX1_timesIn_28 : At YX1_timesIn 28 (.aload_n 0) 1 29 := ⟨by decide +kernel, rfl⟩
theorem iX1_timesIn_29 : At YX1_timesIn 29 (.getfield 19) 3 32 := ⟨by decide +kernel, rfl⟩
theorem iX1_timesIn_32 : At YX1_timesIn 32 (.iload_n 1) 1 33 := ⟨by decide +kernel, rfl⟩
theorem iX1_timesIn_33 : At YX1_timesIn 33 (.laload) 1 34 := ⟨by decide +kernel, rfl⟩
theorem iX1_timesIn_34 : At YX1_timesIn 34 (.aload_n 0) 1 35 := ⟨by decide +kernel, rfl⟩
theorem iX1_timesIn_35 : At YX1_timesIn 35 (.iload_n 1) 1 36 := ⟨by decide +kernel, rfl⟩
theorem iX1_timesIn_36 : At YX1_timesIn 36 (.invokevirtual 78) 3 39 := ⟨by decide +kernel, rfl⟩
theorem iX1_timesIn_39 : At YX1_timesIn 39 (.invokestatic 88) 3 42 := ⟨by decide +kernel, rfl⟩
theorem iX1_timesIn_42 : At YX1_timesIn 42 (.lcmp) 1 43 := ⟨by decide +kernel, rfl⟩
theorem iX1_timesIn_43 : AtJ YX1_timesIn 43 (.ifCond .le) 46 48 := ⟨5, by decide +kernel, rfl, by decide⟩
theorem iX1_timesIn_46 : At YX1_timesIn 46 (.iconst 0) 1 47 := ⟨by decide +kernel, rfl⟩
theorem iX1_timesIn_47 : At YX1_timesIn 47 (.ireturn) 1 48 := ⟨by decide +kernel, rfl⟩
theorem iX1_timesIn_48 : At YX1_timesIn 48 (.lload 4) 2 50 := ⟨by decide +kernel, rfl⟩
theorem iX1_timesIn_50 : At YX1_timesIn 50 (.lconst 0) 1 51 := ⟨by decide +kernel, rfl⟩
theorem iX1_timesIn_51 : At YX1_timesIn 51 (.lcmp) 1 52 := ⟨by decide +kernel, rfl⟩
theorem iX1_timesIn_52 : AtJ YX1_timesIn 52 (.ifCond .ne) 55 63 := ⟨11, by decide +kernel, rfl, by decide⟩
theorem iX1_timesIn_55 : At YX1_timesIn 55 (.aload_n 0) 1 56 := ⟨by decide +kernel, rfl⟩
theorem iX1_timesIn_56 : At YX1_timesIn 56 (.iload_n 1) 1 57 := ⟨by decide +kernel, rfl⟩
theorem iX1_timesIn_57 : At YX1_timesIn 57 (.invokevirtual 91) 3 60 := ⟨by decide +kernel, rfl⟩
theorem iX1_timesIn_60 : At YX1_timesIn 60 (.iconst 1) 1 61 := ⟨by decide +kernel, rfl⟩
theorem iX1_timesIn_61 : At YX1_timesIn 61 (.iadd) 1 62 := ⟨by decide +kernel, rfl⟩
theorem iX1_timesIn_62 : At YX1_timesIn 62 (.ireturn) 1 63 := ⟨by decide +kernel, rfl⟩
theorem iX1_timesIn_63 : At YX1_timesIn 63 (.lload_n 2) 1 64 := ⟨by decide +kernel, rfl⟩
theorem iX1_timesIn_64 : At YX1_timesIn 64 (.aload_n 0) 1 65 := ⟨by decide +kernel, rfl⟩
theorem iX1_timesIn_65 : At YX1_timesIn 65 (.getfield 19) 3 68 := ⟨by decide +kernel, rfl⟩
theorem iX1_timesIn_68 : At YX1_timesIn 68 (.iload_n 1) 1 69 := ⟨by decide +kernel, rfl⟩
theorem iX1_timesIn_69 : At YX1_timesIn 69 (.laload) 1 70 := ⟨by decide +kernel, rfl⟩
theorem iX1_timesIn_70 : At YX1_timesIn 70 (.lsub) 1 71 := ⟨by decide +kernel, rfl⟩
theorem iX1_timesIn_71 : At YX1_timesIn 71 (.lload 4) 2 73 := ⟨by decide +kernel, rfl⟩
theorem iX1_timesIn_73 : At YX1_timesIn 73 (.lrem) 1 74 := ⟨by decide +kernel, rfl⟩
theorem iX1_timesIn_74 : At YX1_timesIn 74 (.lconst 0) 1 75 := ⟨by decide +kernel, rfl⟩
theorem iX1_timesIn_75 : At YX1_timesIn 75 (.lcmp) 1 76 := ⟨by decide +kernel, rfl⟩
theorem iX1_timesIn_76 : AtJ YX1_timesIn 76 (.ifCond .ne) 79 83 := ⟨7, by decide +kernel, rfl, by decide⟩
theorem iX1_timesIn_79 : At YX1_timesIn 79 (.iconst 1) 1 80 := ⟨by decide +kernel, rfl⟩
theorem iX1_timesIn_80 : AtJ YX1_timesIn 80 .goto 83 84 := ⟨4, by decide +kernel, rfl, by decide⟩
theorem iX1_timesIn_83 : At YX1_timesIn 83 (.iconst 0) 1 84 := ⟨by decide +kernel, rfl⟩
theorem iX1_timesIn_84 : At YX1_timesIn 84 (.ireturn) 1 85 := ⟨by decide +kernel, rfl⟩
theorem iX1_wagesWith_0 : At YX1_wagesWith 0 (.iconst 0) 1 1 := ⟨by decide +kernel, rfl⟩
theorem iX1_wagesWith_1 : At YX1_wagesWith 1 (.istore_n 3) 1 2 := ⟨by decide +kernel, rfl⟩
theorem iX1_wagesWith_2 : At YX1_wagesWith 2 (.iconst 0) 1 3 := ⟨by decide +kernel, rfl⟩
theorem iX1_wagesWith_3 : At YX1_wagesWith 3 (.istore 4) 2 5 := ⟨by decide +kernel, rfl⟩
theorem iX1_wagesWith_5 : At YX1_wagesWith 5 (.iload 4) 2 7 := ⟨by decide +kernel, rfl⟩
theorem iX1_wagesWith_7 : At YX1_wagesWith 7 (.aload_n 0) 1 8 := ⟨by decide +kernel, rfl⟩
theorem iX1_wagesWith_8 : At YX1_wagesWith 8 (.getfield 9) 3 11 := ⟨by decide +kernel, rfl⟩
theorem iX1_wagesWith_11 : AtJ YX1_wagesWith 11 (.if_icmp .ge) 14 30 := ⟨19, by decide +kernel, rfl, by decide⟩
theorem iX1_wagesWith_14 : At YX1_wagesWith 14 (.iload_n 3) 1 15 := ⟨by decide +kernel, rfl⟩
theorem iX1_wagesWith_15 : At YX1_wagesWith 15 (.aload_n 0) 1 16 := ⟨by decide +kernel, rfl⟩
theorem iX1_wagesWith_16 : At YX1_wagesWith 16 (.iload 4) 2 18 := ⟨by decide +kernel, rfl⟩
theorem iX1_wagesWith_18 : At YX1_wagesWith 18 (.lload_n 1) 1 19 := ⟨by decide +kernel, rfl⟩
theorem iX1_wagesWith_19 : At YX1_wagesWith 19 (.invokevirtual 94) 3 22 := ⟨by decide +kernel, rfl⟩
theorem iX1_wagesWith_22 : At YX1_wagesWith 22 (.iadd) 1 23 := ⟨by decide +kernel, rfl⟩
theorem iX1_wagesWith_23 : At YX1_wagesWith 23 (.istore_n 3) 1 24 := ⟨by decide +kernel, rfl⟩
theorem iX1_wagesWith_24 : At YX1_wagesWith 24 (.iinc 4 1) 3 27 := ⟨by decide +kernel, rfl⟩
theorem iX1_wagesWith_27 : AtJ YX1_wagesWith 27 .goto 30 5 := ⟨-22, by decide +kernel, rfl, by decide⟩
theorem iX1_wagesWith_30 : At YX1_wagesWith 30 (.iload_n 3) 1 31 := ⟨by decide +kernel, rfl⟩
theorem iX1_wagesWith_31 : At YX1_wagesWith 31 (.ireturn) 1 32 := ⟨by decide +kernel, rfl⟩
theorem iX1_wageWith_0 : At YX1_wageWith 0 (.iload_n 3) 1 1 := ⟨by decide +kernel, rfl⟩
theorem iX1_wageWith_1 : At YX1_wageWith 1 (.istore 4) 2 3 := ⟨by decide +kernel, rfl⟩
theorem iX1_wageWith_3 : At YX1_wageWith 3 (.iconst 0) 1 4 := ⟨by decide +kernel, rfl⟩
theorem iX1_wageWith_4 : At YX1_wageWith 4 (.istore 5) 2 6 := ⟨by decide +kernel, rfl⟩
theorem iX1_wageWith_6 : At YX1_wageWith 6 (.iload 5) 2 8 := ⟨by decide +kernel, rfl⟩
theorem iX1_wageWith_8 : At YX1_wageWith 8 (.aload_n 0) 1 9 := ⟨by decide +kernel, rfl⟩
theorem iX1_wageWith_9 : At YX1_wageWith 9 (.getfield 9) 3 12 := ⟨by decide +kernel, rfl⟩
theorem iX1_wageWith_12 : AtJ YX1_wageWith 12 (.if_icmp .ge) 15 92 := ⟨80, by decide +kernel, rfl, by decide⟩
theorem iX1_wageWith_15 : At YX1_wageWith 15 (.aload_n 0) 1 16 := ⟨by decide +kernel, rfl⟩
theorem iX1_wageWith_16 : At YX1_wageWith 16 (.iload 5) 2 18 := ⟨by decide +kernel, rfl⟩
theorem iX1_wageWith_18 : At YX1_wageWith 18 (.lload_n 1) 1 19 := ⟨by decide +kernel, rfl⟩
theorem iX1_wageWith_19 : At YX1_wageWith 19 (.invokevirtual 94) 3 22 := ⟨by decide +kernel, rfl⟩
theorem iX1_wageWith_22 : At YX1_wageWith 22 (.istore 6) 2 24 := ⟨by decide +kernel, rfl⟩
theorem iX1_wageWith_24 : At YX1_wageWith 24 (.iload 4) 2 26 := ⟨by decide +kernel, rfl⟩
theorem iX1_wageWith_26 : At YX1_wageWith 26 (.iload 6) 2 28 := ⟨by decide +kernel, rfl⟩
theorem iX1_wageWith_28 : AtJ YX1_wageWith 28 (.if_icmp .ge) 31 79 := ⟨51, by decide +kernel, rfl, by decide⟩
theorem iX1_wageWith_31 : At YX1_wageWith 31 (.aload_n 0) 1 32 := ⟨by decide +kernel, rfl⟩
theorem iX1_wageWith_32 : At YX1_wageWith 32 (.getfield 23) 3 35 := ⟨by decide +kernel, rfl⟩
theorem iX1_wageWith_35 : At YX1_wageWith 35 (.iload 5) 2 37 := ⟨by decide +kernel, rfl⟩
theorem iX1_wageWith_37 : At YX1_wageWith 37 (.laload) 1 38 := ⟨by decide +kernel, rfl⟩
theorem iX1_wageWith_38 : At YX1_wageWith 38 (.lconst 0) 1 39 := ⟨by decide +kernel, rfl⟩
theorem iX1_wageWith_39 : At YX1_wageWith 39 (.lcmp) 1 40 := ⟨by decide +kernel, rfl⟩
theorem iX1_wageWith_40 : AtJ YX1_wageWith 40 (.ifCond .ne) 43 48 := ⟨8, by decide +kernel, rfl, by decide⟩
theorem iX1_wageWith_43 : At YX1_wageWith 43 (.iload 4) 2 45 := ⟨by decide +kernel, rfl⟩
theorem iX1_wageWith_45 : AtJ YX1_wageWith 45 .goto 48 66 := ⟨21, by decide +kernel, rfl, by decide⟩
theorem iX1_wageWith_48 : At YX1_wageWith 48 (.lload_n 1) 1 49 := ⟨by decide +kernel, rfl⟩
theorem iX1_wageWith_49 : At YX1_wageWith 49 (.aload_n 0) 1 50 := ⟨by decide +kernel, rfl⟩
theorem iX1_wageWith_50 : At YX1_wageWith 50 (.getfield 19) 3 53 := ⟨by decide +kernel, rfl⟩
theorem iX1_wageWith_53 : At YX1_wageWith 53 (.iload 5) 2 55 := ⟨by decide +kernel, rfl⟩
theorem iX1_wageWith_55 : At YX1_wageWith 55 (.laload) 1 56 := ⟨by decide +kernel, rfl⟩
theorem iX1_wageWith_56 : At YX1_wageWith 56 (.lsub) 1 57 := ⟨by decide +kernel, rfl⟩
theorem iX1_wageWith_57 : At YX1_wageWith 57 (.aload_n 0) 1 58 := ⟨by decide +kernel, rfl⟩
theorem iX1_wageWith_58 : At YX1_wageWith 58 (.getfield 23) 3 61 := ⟨by decide +kernel, rfl⟩
theorem iX1_wageWith_61 : At YX1_wageWith 61 (.iload 5) 2 63 := ⟨by decide +kernel, rfl⟩
theorem iX1_wageWith_63 : At YX1_wageWith 63 (.laload) 1 64 := ⟨by decide +kernel, rfl⟩
theorem iX1_wageWith_64 : At YX1_wageWith 64 (.ldiv) 1 65 := ⟨by decide +kernel, rfl⟩
theorem iX1_wageWith_65 : At YX1_wageWith 65 (.l2i) 1 66 := ⟨by decide +kernel, rfl⟩
theorem iX1_wageWith_66 : At YX1_wageWith 66 (.istore 7) 2 68 := ⟨by decide +kernel, rfl⟩
theorem iX1_wageWith_68 : At YX1_wageWith 68 (.aload_n 0) 1 69 := ⟨by decide +kernel, rfl⟩
theorem iX1_wageWith_69 : At YX1_wageWith 69 (.getfield 15) 3 72 := ⟨by decide +kernel, rfl⟩
theorem iX1_wageWith_72 : At YX1_wageWith 72 (.iload 5) 2 74 := ⟨by decide +kernel, rfl⟩
theorem iX1_wageWith_74 : At YX1_wageWith 74 (.iaload) 1 75 := ⟨by decide +kernel, rfl⟩
theorem iX1_wageWith_75 : At YX1_wageWith 75 (.iload 7) 2 77 := ⟨by decide +kernel, rfl⟩
theorem iX1_wageWith_77 : At YX1_wageWith 77 (.iadd) 1 78 := ⟨by decide +kernel, rfl⟩
theorem iX1_wageWith_78 : At YX1_wageWith 78 (.ireturn) 1 79 := ⟨by decide +kernel, rfl⟩
theorem iX1_wageWith_79 : At YX1_wageWith 79 (.iload 4) 2 81 := ⟨by decide +kernel, rfl⟩
theorem iX1_wageWith_81 : At YX1_wageWith 81 (.iload 6) 2 83 := ⟨by decide +kernel, rfl⟩
theorem iX1_wageWith_83 : At YX1_wageWith 83 (.isub) 1 84 := ⟨by decide +kernel, rfl⟩
theorem iX1_wageWith_84 : At YX1_wageWith 84 (.istore 4) 2 86 := ⟨by decide +kernel, rfl⟩
theorem iX1_wageWith_86 : At YX1_wageWith 86 (.iinc 5 1) 3 89 := ⟨by decide +kernel, rfl⟩
theorem iX1_wageWith_89 : AtJ YX1_wageWith 89 .goto 92 6 := ⟨-83, by decide +kernel, rfl, by decide⟩
theorem iX1_wageWith_92 : At YX1_wageWith 92 (.iconst (-1)) 1 93 := ⟨by decide +kernel, rfl⟩
theorem iX1_wageWith_93 : At YX1_wageWith 93 (.ireturn) 1 94 := ⟨by decide +kernel, rfl⟩
theorem iX1_leastNoLess_0 : At YX1_leastNoLess 0 (.aload_n 0) 1 1 := ⟨by decide +kernel, rfl⟩
theorem iX1_leastNoLess_1 : At YX1_leastNoLess 1 (.iload_n 1) 1 2 := ⟨by decide +kernel, rfl⟩
theorem iX1_leastNoLess_2 : At YX1_leastNoLess 2 (.invokevirtual 82) 3 5 := ⟨by decide +kernel, rfl⟩
theorem iX1_leastNoLess_5 : At YX1_leastNoLess 5 (.istore 4) 2 7 := ⟨by decide +kernel, rfl⟩
theorem iX1_leastNoLess_7 : At YX1_leastNoLess 7 (.iload 4) 2 9 := ⟨by decide +kernel, rfl⟩
theorem iX1_leastNoLess_9 : At YX1_leastNoLess 9 (.aload_n 0) 1 10 := ⟨by decide +kernel, rfl⟩
theorem iX1_leastNoLess_10 : At YX1_leastNoLess 10 (.getfield 9) 3 13 := ⟨by decide +kernel, rfl⟩
theorem iX1_leastNoLess_13 : AtJ YX1_leastNoLess 13 (.if_icmp .ge) 16 77 := ⟨64, by decide +kernel, rfl, by decide⟩
theorem iX1_leastNoLess_16 : At YX1_leastNoLess 16 (.iload_n 1) 1 17 := ⟨by decide +kernel, rfl⟩
theorem iX1_leastNoLess_17 : At YX1_leastNoLess 17 (.aload_n 0) 1 18 := ⟨by decide +kernel, rfl⟩
theorem iX1_leastNoLess_18 : At YX1_leastNoLess 18 (.getfield 15) 3 21 := ⟨by decide +kernel, rfl⟩
theorem iX1_leastNoLess_21 : At YX1_leastNoLess 21 (.iload 4) 2 23 := ⟨by decide +kernel, rfl⟩
theorem iX1_leastNoLess_23 : At YX1_leastNoLess 23 (.iaload) 1 24 := ⟨by decide +kernel, rfl⟩
theorem iX1_leastNoLess_24 : At YX1_leastNoLess 24 (.invokestatic 98) 3 27 := ⟨by decide +kernel, rfl⟩
theorem iX1_leastNoLess_27 : At YX1_leastNoLess 27 (.istore 5) 2 29 := ⟨by decide +kernel, rfl⟩
theorem iX1_leastNoLess_29 : At YX1_leastNoLess 29 (.aload_n 0) 1 30 := ⟨by decide +kernel, rfl⟩
theorem iX1_leastNoLess_30 : At YX1_leastNoLess 30 (.iload 4) 2 32 := ⟨by decide +kernel, rfl⟩
theorem iX1_leastNoLess_32 : At YX1_leastNoLess 32 (.iload 5) 2 34 := ⟨by decide +kernel, rfl⟩
theorem iX1_leastNoLess_34 : At YX1_leastNoLess 34 (.invokevirtual 70) 3 37 := ⟨by decide +kernel, rfl⟩
theorem iX1_leastNoLess_37 : At YX1_leastNoLess 37 (.aload_n 0) 1 38 := ⟨by decide +kernel, rfl⟩
theorem iX1_leastNoLess_38 : At YX1_leastNoLess 38 (.getfield 23) 3 41 := ⟨by decide +kernel, rfl⟩
theorem iX1_leastNoLess_41 : At YX1_leastNoLess 41 (.iload 4) 2 43 := ⟨by decide +kernel, rfl⟩
theorem iX1_leastNoLess_43 : At YX1_leastNoLess 43 (.laload) 1 44 := ⟨by decide +kernel, rfl⟩
theorem iX1_leastNoLess_44 : At YX1_leastNoLess 44 (.aload_n 0) 1 45 := ⟨by decide +kernel, rfl⟩
theorem iX1_leastNoLess_45 : At YX1_leastNoLess 45 (.iload 4) 2 47 := ⟨by decide +kernel, rfl⟩
theorem iX1_leastNoLess_47 : At YX1_leastNoLess 47 (.invokevirtual 60) 3 50 := ⟨by decide +kernel, rfl⟩
theorem iX1_leastNoLess_50 : At YX1_leastNoLess 50 (.iload 5) 2 52 := ⟨by decide +kernel, rfl⟩
theorem iX1_leastNoLess_52 : At YX1_leastNoLess 52 (.isub) 1 53 := ⟨by decide +kernel, rfl⟩
theorem iX1_leastNoLess_53 : At YX1_leastNoLess 53 (.lload_n 2) 1 54 := ⟨by decide +kernel, rfl⟩
theorem iX1_leastNoLess_54 : At YX1_leastNoLess 54 (.invokestatic 100) 3 57 := ⟨by decide +kernel, rfl⟩
theorem iX1_leastNoLess_57 : At YX1_leastNoLess 57 (.istore 6) 2 59 := ⟨by decide +kernel, rfl⟩
theorem iX1_leastNoLess_59 : At YX1_leastNoLess 59 (.iload 6) 2 61 := ⟨by decide +kernel, rfl⟩
theorem iX1_leastNoLess_61 : At YX1_leastNoLess 61 (.iconst (-1)) 1 62 := ⟨by decide +kernel, rfl⟩
theorem iX1_leastNoLess_62 : AtJ YX1_leastNoLess 62 (.if_icmp .eq) 65 71 := ⟨9, by decide +kernel, rfl, by decide⟩
theorem iX1_leastNoLess_65 : At YX1_leastNoLess 65 (.iload 5) 2 67 := ⟨by decide +kernel, rfl⟩
theorem iX1_leastNoLess_67 : At YX1_leastNoLess 67 (.iload 6) 2 69 := ⟨by decide +kernel, rfl⟩
theorem iX1_leastNoLess_69 : At YX1_leastNoLess 69 (.iadd) 1 70 := ⟨by decide +kernel, rfl⟩
theorem iX1_leastNoLess_70 : At YX1_leastNoLess 70 (.ireturn) 1 71 := ⟨by decide +kernel, rfl⟩
theorem iX1_leastNoLess_71 : At YX1_leastNoLess 71 (.iinc 4 1) 3 74 := ⟨by decide +kernel, rfl⟩
theorem iX1_leastNoLess_74 : AtJ YX1_leastNoLess 74 .goto 77 7 := ⟨-67, by decide +kernel, rfl, by decide⟩
theorem iX1_leastNoLess_77 : At YX1_leastNoLess 77 (.iconst (-1)) 1 78 := ⟨by decide +kernel, rfl⟩
theorem iX1_leastNoLess_78 : At YX1_leastNoLess 78 (.ireturn) 1 79 := ⟨by decide +kernel, rfl⟩
theorem iX1_greatestNoMore_0 : At YX1_greatestNoMore 0 (.aload_n 0) 1 1 := ⟨by decide +kernel, rfl⟩
theorem iX1_greatestNoMore_1 : At YX1_greatestNoMore 1 (.getfield 9) 3 4 := ⟨by decide +kernel, rfl⟩
theorem iX1_greatestNoMore_4 : At YX1_greatestNoMore 4 (.iconst 1) 1 5 := ⟨by decide +kernel, rfl⟩
theorem iX1_greatestNoMore_5 : At YX1_greatestNoMore 5 (.isub) 1 6 := ⟨by decide +kernel, rfl⟩
theorem iX1_greatestNoMore_6 : At YX1_greatestNoMore 6 (.istore_n 3) 1 7 := ⟨by decide +kernel, rfl⟩
theorem iX1_greatestNoMore_7 : At YX1_greatestNoMore 7 (.iload_n 3) 1 8 := ⟨by decide +kernel, rfl⟩
theorem iX1_greatestNoMore_8 : AtJ YX1_greatestNoMore 8 (.ifCond .lt) 11 56 := ⟨48, by decide +kernel, rfl, by decide⟩
theorem iX1_greatestNoMore_11 : At YX1_greatestNoMore 11 (.aload_n 0) 1 12 := ⟨by decide +kernel, rfl⟩
theorem iX1_greatestNoMore_12 : At YX1_greatestNoMore 12 (.getfield 19) 3 15 := ⟨by decide +kernel, rfl⟩
theorem iX1_greatestNoMore_15 : At YX1_greatestNoMore 15 (.iload_n 3) 1 16 := ⟨by decide +kernel, rfl⟩
theorem iX1_greatestNoMore_16 : At YX1_greatestNoMore 16 (.laload) 1 17 := ⟨by decide +kernel, rfl⟩
theorem iX1_greatestNoMore_17 : At YX1_greatestNoMore 17 (.aload_n 0) 1 18 := ⟨by decide +kernel, rfl⟩
theorem iX1_greatestNoMore_18 : At YX1_greatestNoMore 18 (.getfield 23) 3 21 := ⟨by decide +kernel, rfl⟩
theorem iX1_greatestNoMore_21 : At YX1_greatestNoMore 21 (.iload_n 3) 1 22 := ⟨by decide +kernel, rfl⟩
theorem iX1_greatestNoMore_22 : At YX1_greatestNoMore 22 (.laload) 1 23 := ⟨by decide +kernel, rfl⟩
theorem iX1_greatestNoMore_23 : At YX1_greatestNoMore 23 (.aload_n 0) 1 24 := ⟨by decide +kernel, rfl⟩
theorem iX1_greatestNoMore_24 : At YX1_greatestNoMore 24 (.iload_n 3) 1 25 := ⟨by decide +kernel, rfl⟩
theorem iX1_greatestNoMore_25 : At YX1_greatestNoMore 25 (.invokevirtual 91) 3 28 := ⟨by decide +kernel, rfl⟩
theorem iX1_greatestNoMore_28 : At YX1_greatestNoMore 28 (.lload_n 1) 1 29 := ⟨by decide +kernel, rfl⟩
theorem iX1_greatestNoMore_29 : At YX1_greatestNoMore 29 (.invokestatic 106) 3 32 := ⟨by decide +kernel, rfl⟩
theorem iX1_greatestNoMore_32 : At YX1_greatestNoMore 32 (.istore 4) 2 34 := ⟨by decide +kernel, rfl⟩
theorem iX1_greatestNoMore_34 : At YX1_greatestNoMore 34 (.iload 4) 2 36 := ⟨by decide +kernel, rfl⟩
theorem iX1_greatestNoMore_36 : At YX1_greatestNoMore 36 (.iconst (-1)) 1 37 := ⟨by decide +kernel, rfl⟩
theorem iX1_greatestNoMore_37 : AtJ YX1_greatestNoMore 37 (.if_icmp .eq) 40 50 := ⟨13, by decide +kernel, rfl, by decide⟩
theorem iX1_greatestNoMore_40 : At YX1_greatestNoMore 40 (.aload_n 0) 1 41 := ⟨by decide +kernel, rfl⟩
theorem iX1_greatestNoMore_41 : At YX1_greatestNoMore 41 (.getfield 15) 3 44 := ⟨by decide +kernel, rfl⟩
theorem iX1_greatestNoMore_44 : At YX1_greatestNoMore 44 (.iload_n 3) 1 45 := ⟨by decide +kernel, rfl⟩
theorem iX1_greatestNoMore_45 : At YX1_greatestNoMore 45 (.iaload) 1 46 := ⟨by decide +kernel, rfl⟩
theorem iX1_greatestNoMore_46 : At YX1_greatestNoMore 46 (.iload 4) 2 48 := ⟨by decide +kernel, rfl⟩
theorem iX1_greatestNoMore_48 : At YX1_greatestNoMore 48 (.iadd) 1 49 := ⟨by decide +kernel, rfl⟩
theorem iX1_greatestNoMore_49 : At YX1_greatestNoMore 49 (.ireturn) 1 50 := ⟨by decide +kernel, rfl⟩
theorem iX1_greatestNoMore_50 : At YX1_greatestNoMore 50 (.iinc 3 (-1)) 3 53 := ⟨by decide +kernel, rfl⟩
theorem iX1_greatestNoMore_53 : AtJ YX1_greatestNoMore 53 .goto 56 7 := ⟨-46, by decide +kernel, rfl, by decide⟩
theorem iX1_greatestNoMore_56 : At YX1_greatestNoMore 56 (.iconst (-1)) 1 57 := ⟨by decide +kernel, rfl⟩
theorem iX1_greatestNoMore_57 : At YX1_greatestNoMore 57 (.ireturn) 1 58 := ⟨by decide +kernel, rfl⟩
theorem iX1_greatestKeptNoMore_0 : At YX1_greatestKeptNoMore 0 (.ldc2_w 109) 3 3 := ⟨by decide +kernel, rfl⟩
theorem iX1_greatestKeptNoMore_3 : At YX1_greatestKeptNoMore 3 (.iload_n 1) 1 4 := ⟨by decide +kernel, rfl⟩
theorem iX1_greatestKeptNoMore_4 : At YX1_greatestKeptNoMore 4 (.i2l) 1 5 := ⟨by decide +kernel, rfl⟩
theorem iX1_greatestKeptNoMore_5 : At YX1_greatestKeptNoMore 5 (.ldc2_w 111) 3 8 := ⟨by decide +kernel, rfl⟩
theorem iX1_greatestKeptNoMore_8 : At YX1_greatestKeptNoMore 8 (.lmul) 1 9 := ⟨by decide +kernel, rfl⟩
theorem iX1_greatestKeptNoMore_9 : At YX1_greatestKeptNoMore 9 (.lsub) 1 10 := ⟨by decide +kernel, rfl⟩
theorem iX1_greatestKeptNoMore_10 : At YX1_greatestKeptNoMore 10 (.lstore_n 2) 1 11 := ⟨by decide +kernel, rfl⟩
theorem iX1_greatestKeptNoMore_11 : At YX1_greatestKeptNoMore 11 (.aload_n 0) 1 12 := ⟨by decide +kernel, rfl⟩
theorem iX1_greatestKeptNoMore_12 : At YX1_greatestKeptNoMore 12 (.getfield 9) 3 15 := ⟨by decide +kernel, rfl⟩
theorem iX1_greatestKeptNoMore_15 : At YX1_greatestKeptNoMore 15 (.iconst 1) 1 16 := ⟨by decide +kernel, rfl⟩
theorem iX1_greatestKeptNoMore_16 : At YX1_greatestKeptNoMore 16 (.isub) 1 17 := ⟨by decide +kernel, rfl⟩
theorem iX1_greatestKeptNoMore_17 : At YX1_greatestKeptNoMore 17 (.istore 4) 2 19 := ⟨by decide +kernel, rfl⟩
theorem iX1_greatestKeptNoMore_19 : At YX1_greatestKeptNoMore 19 (.iload 4) 2 21 := ⟨by decide +kernel, rfl⟩
theorem iX1_greatestKeptNoMore_21 : AtJ YX1_greatestKeptNoMore 21 (.ifCond .lt) 24 86 := ⟨65, by decide +kernel, rfl, by decide⟩
theorem iX1_greatestKeptNoMore_24 : At YX1_greatestKeptNoMore 24 (.aload_n 0) 1 25 := ⟨by decide +kernel, rfl⟩
theorem iX1_greatestKeptNoMore_25 : At YX1_greatestKeptNoMore 25 (.getfield 15) 3 28 := ⟨by decide +kernel, rfl⟩
theorem iX1_greatestKeptNoMore_28 : At YX1_greatestKeptNoMore 28 (.iload 4) 2 30 := ⟨by decide +kernel, rfl⟩
theorem iX1_greatestKeptNoMore_30 : At YX1_greatestKeptNoMore 30 (.iaload) 1 31 := ⟨by decide +kernel, rfl⟩
theorem iX1_greatestKeptNoMore_31 : At YX1_greatestKeptNoMore 31 (.i2l) 1 32 := ⟨by decide +kernel, rfl⟩
theorem iX1_greatestKeptNoMore_32 : At YX1_greatestKeptNoMore 32 (.lload_n 2) 1 33 := ⟨by decide +kernel, rfl⟩
theorem iX1_greatestKeptNoMore_33 : At YX1_greatestKeptNoMore 33 (.lmul) 1 34 := ⟨by decide +kernel, rfl⟩
theorem iX1_greatestKeptNoMore_34 : At YX1_greatestKeptNoMore 34 (.aload_n 0) 1 35 := ⟨by decide +kernel, rfl⟩
theorem iX1_greatestKeptNoMore_35 : At YX1_greatestKeptNoMore 35 (.getfield 19) 3 38 := ⟨by decide +kernel, rfl⟩
theorem iX1_greatestKeptNoMore_38 : At YX1_greatestKeptNoMore 38 (.iload 4) 2 40 := ⟨by decide +kernel, rfl⟩
theorem iX1_greatestKeptNoMore_40 : At YX1_greatestKeptNoMore 40 (.laload) 1 41 := ⟨by decide +kernel, rfl⟩
theorem iX1_greatestKeptNoMore_41 : At YX1_greatestKeptNoMore 41 (.lsub) 1 42 := ⟨by decide +kernel, rfl⟩
theorem iX1_greatestKeptNoMore_42 : At YX1_greatestKeptNoMore 42 (.lload_n 2) 1 43 := ⟨by decide +kernel, rfl⟩
theorem iX1_greatestKeptNoMore_43 : At YX1_greatestKeptNoMore 43 (.aload_n 0) 1 44 := ⟨by decide +kernel, rfl⟩
theorem iX1_greatestKeptNoMore_44 : At YX1_greatestKeptNoMore 44 (.getfield 23) 3 47 := ⟨by decide +kernel, rfl⟩
theorem iX1_greatestKeptNoMore_47 : At YX1_greatestKeptNoMore 47 (.iload 4) 2 49 := ⟨by decide +kernel, rfl⟩
theorem iX1_greatestKeptNoMore_49 : At YX1_greatestKeptNoMore 49 (.laload) 1 50 := ⟨by decide +kernel, rfl⟩
theorem iX1_greatestKeptNoMore_50 : At YX1_greatestKeptNoMore 50 (.lsub) 1 51 := ⟨by decide +kernel, rfl⟩
theorem iX1_greatestKeptNoMore_51 : At YX1_greatestKeptNoMore 51 (.aload_n 0) 1 52 := ⟨by decide +kernel, rfl⟩
theorem iX1_greatestKeptNoMore_52 : At YX1_greatestKeptNoMore 52 (.iload 4) 2 54 := ⟨by decide +kernel, rfl⟩
theorem iX1_greatestKeptNoMore_54 : At YX1_greatestKeptNoMore 54 (.invokevirtual 91) 3 57 := ⟨by decide +kernel, rfl⟩
theorem iX1_greatestKeptNoMore_57 : At YX1_greatestKeptNoMore 57 (.lconst 0) 1 58 := ⟨by decide +kernel, rfl⟩
theorem iX1_greatestKeptNoMore_58 : At YX1_greatestKeptNoMore 58 (.invokestatic 106) 3 61 := ⟨by decide +kernel, rfl⟩
theorem iX1_greatestKeptNoMore_61 : At YX1_greatestKeptNoMore 61 (.istore 5) 2 63 := ⟨by decide +kernel, rfl⟩
theorem iX1_greatestKeptNoMore_63 : At YX1_greatestKeptNoMore 63 (.iload 5) 2 65 := ⟨by decide +kernel, rfl⟩
theorem iX1_greatestKeptNoMore_65 : At YX1_greatestKeptNoMore 65 (.iconst (-1)) 1 66 := ⟨by decide +kernel, rfl⟩
theorem iX1_greatestKeptNoMore_66 : AtJ YX1_greatestKeptNoMore 66 (.if_icmp .eq) 69 80 := ⟨14, by decide +kernel, rfl, by decide⟩
theorem iX1_greatestKeptNoMore_69 : At YX1_greatestKeptNoMore 69 (.aload_n 0) 1 70 := ⟨by decide +kernel, rfl⟩
theorem iX1_greatestKeptNoMore_70 : At YX1_greatestKeptNoMore 70 (.getfield 15) 3 73 := ⟨by decide +kernel, rfl⟩
theorem iX1_greatestKeptNoMore_73 : At YX1_greatestKeptNoMore 73 (.iload 4) 2 75 := ⟨by decide +kernel, rfl⟩
theorem iX1_greatestKeptNoMore_75 : At YX1_greatestKeptNoMore 75 (.iaload) 1 76 := ⟨by decide +kernel, rfl⟩
theorem iX1_greatestKeptNoMore_76 : At YX1_greatestKeptNoMore 76 (.iload 5) 2 78 := ⟨by decide +kernel, rfl⟩
theorem iX1_greatestKeptNoMore_78 : At YX1_greatestKeptNoMore 78 (.iadd) 1 79 := ⟨by decide +kernel, rfl⟩
theorem iX1_greatestKeptNoMore_79 : At YX1_greatestKeptNoMore 79 (.ireturn) 1 80 := ⟨by decide +kernel, rfl⟩
theorem iX1_greatestKeptNoMore_80 : At YX1_greatestKeptNoMore 80 (.iinc 4 (-1)) 3 83 := ⟨by decide +kernel, rfl⟩
theorem iX1_greatestKeptNoMore_83 : AtJ YX1_greatestKeptNoMore 83 .goto 86 19 := ⟨-64, by decide +kernel, rfl, by decide⟩
theorem iX1_greatestKeptNoMore_86 : At YX1_greatestKeptNoMore 86 (.iconst (-1)) 1 87 := ⟨by decide +kernel, rfl⟩
theorem iX1_greatestKeptNoMore_87 : At YX1_greatestKeptNoMore 87 (.ireturn) 1 88 := ⟨by decide +kernel, rfl⟩
theorem iX1_nearestBelow_0 : At YX1_nearestBelow 0 (.iconst (-1)) 1 1 := ⟨by decide +kernel, rfl⟩
theorem iX1_nearestBelow_1 : At YX1_nearestBelow 1 (.istore_n 3) 1 2 := ⟨by decide +kernel, rfl⟩
theorem iX1_nearestBelow_2 : At YX1_nearestBelow 2 (.lconst 0) 1 3 := ⟨by decide +kernel, rfl⟩
theorem iX1_nearestBelow_3 : At YX1_nearestBelow 3 (.lstore 4) 2 5 := ⟨by decide +kernel, rfl⟩
theorem iX1_nearestBelow_5 : At YX1_nearestBelow 5 (.iconst 0) 1 6 := ⟨by decide +kernel, rfl⟩
theorem iX1_nearestBelow_6 : At YX1_nearestBelow 6 (.istore 6) 2 8 := ⟨by decide +kernel, rfl⟩
theorem iX1_nearestBelow_8 : At YX1_nearestBelow 8 (.iload 6) 2 10 := ⟨by decide +kernel, rfl⟩
theorem iX1_nearestBelow_10 : At YX1_nearestBelow 10 (.aload_n 0) 1 11 := ⟨by decide +kernel, rfl⟩
theorem iX1_nearestBelow_11 : At YX1_nearestBelow 11 (.getfield 9) 3 14 := ⟨by decide +kernel, rfl⟩
theorem iX1_nearestBelow_14 : AtJ YX1_nearestBelow 14 (.if_icmp .ge) 17 117 := ⟨103, by decide +kernel, rfl, by decide⟩
theorem iX1_nearestBelow_17 : At YX1_nearestBelow 17 (.aload_n 0) 1 18 := ⟨by decide +kernel, rfl⟩
theorem iX1_nearestBelow_18 : At YX1_nearestBelow 18 (.getfield 19) 3 21 := ⟨by decide +kernel, rfl⟩
theorem iX1_nearestBelow_21 : At YX1_nearestBelow 21 (.iload 6) 2 23 := ⟨by decide +kernel, rfl⟩
theorem iX1_nearestBelow_23 : At YX1_nearestBelow 23 (.laload) 1 24 := ⟨by decide +kernel, rfl⟩
theorem iX1_nearestBelow_24 : At YX1_nearestBelow 24 (.aload_n 0) 1 25 := ⟨by decide +kernel, rfl⟩
theorem iX1_nearestBelow_25 : At YX1_nearestBelow 25 (.getfield 23) 3 28 := ⟨by decide +kernel, rfl⟩
theorem iX1_nearestBelow_28 : At YX1_nearestBelow 28 (.iload 6) 2 30 := ⟨by decide +kernel, rfl⟩
theorem iX1_nearestBelow_30 : At YX1_nearestBelow 30 (.laload) 1 31 := ⟨by decide +kernel, rfl⟩
theorem iX1_nearestBelow_31 : At YX1_nearestBelow 31 (.aload_n 0) 1 32 := ⟨by decide +kernel, rfl⟩
theorem iX1_nearestBelow_32 : At YX1_nearestBelow 32 (.iload 6) 2 34 := ⟨by decide +kernel, rfl⟩
theorem iX1_nearestBelow_34 : At YX1_nearestBelow 34 (.invokevirtual 91) 3 37 := ⟨by decide +kernel, rfl⟩
theorem iX1_nearestBelow_37 : At YX1_nearestBelow 37 (.lload_n 1) 1 38 := ⟨by decide +kernel, rfl⟩
theorem iX1_nearestBelow_38 : At YX1_nearestBelow 38 (.invokestatic 113) 3 41 := ⟨by decide +kernel, rfl⟩
theorem iX1_nearestBelow_41 : At YX1_nearestBelow 41 (.istore 7) 2 43 := ⟨by decide +kernel, rfl⟩
theorem iX1_nearestBelow_43 : At YX1_nearestBelow 43 (.iload 7) 2 45 := ⟨by decide +kernel, rfl⟩
theorem iX1_nearestBelow_45 : At YX1_nearestBelow 45 (.iconst (-1)) 1 46 := ⟨by decide +kernel, rfl⟩
theorem iX1_nearestBelow_46 : AtJ YX1_nearestBelow 46 (.if_icmp .eq) 49 111 := ⟨65, by decide +kernel, rfl, by decide⟩
theorem iX1_nearestBelow_49 : At YX1_nearestBelow 49 (.iload_n 3) 1 50 := ⟨by decide +kernel, rfl⟩
theorem iX1_nearestBelow_50 : At YX1_nearestBelow 50 (.iconst (-1)) 1 51 := ⟨by decide +kernel, rfl⟩
theorem iX1_nearestBelow_51 : AtJ YX1_nearestBelow 51 (.if_icmp .eq) 54 79 := ⟨28, by decide +kernel, rfl, by decide⟩
theorem iX1_nearestBelow_54 : At YX1_nearestBelow 54 (.aload_n 0) 1 55 := ⟨by decide +kernel, rfl⟩
theorem iX1_nearestBelow_55 : At YX1_nearestBelow 55 (.getfield 19) 3 58 := ⟨by decide +kernel, rfl⟩
theorem iX1_nearestBelow_58 : At YX1_nearestBelow 58 (.iload 6) 2 60 := ⟨by decide +kernel, rfl⟩
theorem iX1_nearestBelow_60 : At YX1_nearestBelow 60 (.laload) 1 61 := ⟨by decide +kernel, rfl⟩
theorem iX1_nearestBelow_61 : At YX1_nearestBelow 61 (.iload 7) 2 63 := ⟨by decide +kernel, rfl⟩
theorem iX1_nearestBelow_63 : At YX1_nearestBelow 63 (.i2l) 1 64 := ⟨by decide +kernel, rfl⟩
theorem iX1_nearestBelow_64 : At YX1_nearestBelow 64 (.aload_n 0) 1 65 := ⟨by decide +kernel, rfl⟩
theorem iX1_nearestBelow_65 : At YX1_nearestBelow 65 (.getfield 23) 3 68 := ⟨by decide +kernel, rfl⟩
theorem iX1_nearestBelow_68 : At YX1_nearestBelow 68 (.iload 6) 2 70 := ⟨by decide +kernel, rfl⟩
theorem iX1_nearestBelow_70 : At YX1_nearestBelow 70 (.laload) 1 71 := ⟨by decide +kernel, rfl⟩
theorem iX1_nearestBelow_71 : At YX1_nearestBelow 71 (.lmul) 1 72 := ⟨by decide +kernel, rfl⟩
theorem iX1_nearestBelow_72 : At YX1_nearestBelow 72 (.ladd) 1 73 := ⟨by decide +kernel, rfl⟩
theorem iX1_nearestBelow_73 : At YX1_nearestBelow 73 (.lload 4) 2 75 := ⟨by decide +kernel, rfl⟩
theorem iX1_nearestBelow_75 : At YX1_nearestBelow 75 (.lcmp) 1 76 := ⟨by decide +kernel, rfl⟩
theorem iX1_nearestBelow_76 : AtJ YX1_nearestBelow 76 (.ifCond .le) 79 111 := ⟨35, by decide +kernel, rfl, by decide⟩
theorem iX1_nearestBelow_79 : At YX1_nearestBelow 79 (.aload_n 0) 1 80 := ⟨by decide +kernel, rfl⟩
theorem iX1_nearestBelow_80 : At YX1_nearestBelow 80 (.getfield 15) 3 83 := ⟨by decide +kernel, rfl⟩
theorem iX1_nearestBelow_83 : At YX1_nearestBelow 83 (.iload 6) 2 85 := ⟨by decide +kernel, rfl⟩
theorem iX1_nearestBelow_85 : At YX1_nearestBelow 85 (.iaload) 1 86 := ⟨by decide +kernel, rfl⟩
theorem iX1_nearestBelow_86 : At YX1_nearestBelow 86 (.iload 7) 2 88 := ⟨by decide +kernel, rfl⟩
theorem iX1_nearestBelow_88 : At YX1_nearestBelow 88 (.iadd) 1 89 := ⟨by decide +kernel, rfl⟩
theorem iX1_nearestBelow_89 : At YX1_nearestBelow 89 (.istore_n 3) 1 90 := ⟨by decide +kernel, rfl⟩
theorem iX1_nearestBelow_90 : At YX1_nearestBelow 90 (.aload_n 0) 1 91 := ⟨by decide +kernel, rfl⟩
theorem iX1_nearestBelow_91 : At YX1_nearestBelow 91 (.getfield 19) 3 94 := ⟨by decide +kernel, rfl⟩
theorem iX1_nearestBelow_94 : At YX1_nearestBelow 94 (.iload 6) 2 96 := ⟨by decide +kernel, rfl⟩
theorem iX1_nearestBelow_96 : At YX1_nearestBelow 96 (.laload) 1 97 := ⟨by decide +kernel, rfl⟩
theorem iX1_nearestBelow_97 : At YX1_nearestBelow 97 (.iload 7) 2 99 := ⟨by decide +kernel, rfl⟩
theorem iX1_nearestBelow_99 : At YX1_nearestBelow 99 (.i2l) 1 100 := ⟨by decide +kernel, rfl⟩
theorem iX1_nearestBelow_100 : At YX1_nearestBelow 100 (.aload_n 0) 1 101 := ⟨by decide +kernel, rfl⟩
theorem iX1_nearestBelow_101 : At YX1_nearestBelow 101 (.getfield 23) 3 104 := ⟨by decide +kernel, rfl⟩
theorem iX1_nearestBelow_104 : At YX1_nearestBelow 104 (.iload 6) 2 106 := ⟨by decide +kernel, rfl⟩
theorem iX1_nearestBelow_106 : At YX1_nearestBelow 106 (.laload) 1 107 := ⟨by decide +kernel, rfl⟩
theorem iX1_nearestBelow_107 : At YX1_nearestBelow 107 (.lmul) 1 108 := ⟨by decide +kernel, rfl⟩
theorem iX1_nearestBelow_108 : At YX1_nearestBelow 108 (.ladd) 1 109 := ⟨by decide +kernel, rfl⟩
theorem iX1_nearestBelow_109 : At YX1_nearestBelow 109 (.lstore 4) 2 111 := ⟨by decide +kernel, rfl⟩
theorem iX1_nearestBelow_111 : At YX1_nearestBelow 111 (.iinc 6 1) 3 114 := ⟨by decide +kernel, rfl⟩
theorem iX1_nearestBelow_114 : AtJ YX1_nearestBelow 114 .goto 117 8 := ⟨-106, by decide +kernel, rfl, by decide⟩
theorem iX1_nearestBelow_117 : At YX1_nearestBelow 117 (.iload_n 3) 1 118 := ⟨by decide +kernel, rfl⟩
theorem iX1_nearestBelow_118 : At YX1_nearestBelow 118 (.ireturn) 1 119 := ⟨by decide +kernel, rfl⟩
theorem iX1_cliffInto_0 : At YX1_cliffInto 0 (.iload_n 1) 1 1 := ⟨by decide +kernel, rfl⟩
theorem iX1_cliffInto_1 : AtJ YX1_cliffInto 1 (.ifCond .le) 4 18 := ⟨17, by decide +kernel, rfl, by decide⟩
theorem iX1_cliffInto_4 : At YX1_cliffInto 4 (.aload_n 0) 1 5 := ⟨by decide +kernel, rfl⟩
theorem iX1_cliffInto_5 : At YX1_cliffInto 5 (.iload_n 1) 1 6 := ⟨by decide +kernel, rfl⟩
theorem iX1_cliffInto_6 : At YX1_cliffInto 6 (.invokevirtual 116) 3 9 := ⟨by decide +kernel, rfl⟩
theorem iX1_cliffInto_9 : At YX1_cliffInto 9 (.lconst 0) 1 10 := ⟨by decide +kernel, rfl⟩
theorem iX1_cliffInto_10 : At YX1_cliffInto 10 (.lcmp) 1 11 := ⟨by decide +kernel, rfl⟩
theorem iX1_cliffInto_11 : AtJ YX1_cliffInto 11 (.ifCond .ge) 14 18 := ⟨7, by decide +kernel, rfl, by decide⟩
theorem iX1_cliffInto_14 : At YX1_cliffInto 14 (.iconst 1) 1 15 := ⟨by decide +kernel, rfl⟩
theorem iX1_cliffInto_15 : AtJ YX1_cliffInto 15 .goto 18 19 := ⟨4, by decide +kernel, rfl, by decide⟩
theorem iX1_cliffInto_18 : At YX1_cliffInto 18 (.iconst 0) 1 19 := ⟨by decide +kernel, rfl⟩
theorem iX1_cliffInto_19 : At YX1_cliffInto 19 (.ireturn) 1 20 := ⟨by decide +kernel, rfl⟩
theorem iX1_cliffsIn_0 : At YX1_cliffsIn 0 (.aload_n 0) 1 1 := ⟨by decide +kernel, rfl⟩
theorem iX1_cliffsIn_1 : At YX1_cliffsIn 1 (.iload_n 1) 1 2 := ⟨by decide +kernel, rfl⟩
theorem iX1_cliffsIn_2 : At YX1_cliffsIn 2 (.invokevirtual 119) 3 5 := ⟨by decide +kernel, rfl⟩
theorem iX1_cliffsIn_5 : AtJ YX1_cliffsIn 5 (.ifCond .eq) 8 12 := ⟨7, by decide +kernel, rfl, by decide⟩
theorem iX1_cliffsIn_8 : At YX1_cliffsIn 8 (.iconst 1) 1 9 := ⟨by decide +kernel, rfl⟩
theorem iX1_cliffsIn_9 : AtJ YX1_cliffsIn 9 .goto 12 13 := ⟨4, by decide +kernel, rfl, by decide⟩
theorem iX1_cliffsIn_12 : At YX1_cliffsIn 12 (.iconst 0) 1 13 := ⟨by decide +kernel, rfl⟩
theorem iX1_cliffsIn_13 : At YX1_cliffsIn 13 (.aload_n 0) 1 14 := ⟨by decide +kernel, rfl⟩
theorem iX1_cliffsIn_14 : At YX1_cliffsIn 14 (.getfield 23) 3 17 := ⟨by decide +kernel, rfl⟩
theorem iX1_cliffsIn_17 : At YX1_cliffsIn 17 (.iload_n 1) 1 18 := ⟨by decide +kernel, rfl⟩
theorem iX1_cliffsIn_18 : At YX1_cliffsIn 18 (.laload) 1 19 := ⟨by decide +kernel, rfl⟩
theorem iX1_cliffsIn_19 : At YX1_cliffsIn 19 (.lconst 0) 1 20 := ⟨by decide +kernel, rfl⟩
theorem iX1_cliffsIn_20 : At YX1_cliffsIn 20 (.lcmp) 1 21 := ⟨by decide +kernel, rfl⟩
theorem iX1_cliffsIn_21 : AtJ YX1_cliffsIn 21 (.ifCond .ge) 24 32 := ⟨11, by decide +kernel, rfl, by decide⟩
theorem iX1_cliffsIn_24 : At YX1_cliffsIn 24 (.aload_n 0) 1 25 := ⟨by decide +kernel, rfl⟩
theorem iX1_cliffsIn_25 : At YX1_cliffsIn 25 (.iload_n 1) 1 26 := ⟨by decide +kernel, rfl⟩
theorem iX1_cliffsIn_26 : At YX1_cliffsIn 26 (.invokevirtual 91) 3 29 := ⟨by decide +kernel, rfl⟩
theorem iX1_cliffsIn_29 : AtJ YX1_cliffsIn 29 .goto 32 33 := ⟨4, by decide +kernel, rfl, by decide⟩
theorem iX1_cliffsIn_32 : At YX1_cliffsIn 32 (.iconst 0) 1 33 := ⟨by decide +kernel, rfl⟩
theorem iX1_cliffsIn_33 : At YX1_cliffsIn 33 (.iadd) 1 34 := ⟨by decide +kernel, rfl⟩
theorem iX1_cliffsIn_34 : At YX1_cliffsIn 34 (.ireturn) 1 35 := ⟨by decide +kernel, rfl⟩
theorem iX1_cliffs_0 : At YX1_cliffs 0 (.iconst 0) 1 1 := ⟨by decide +kernel, rfl⟩
theorem iX1_cliffs_1 : At YX1_cliffs 1 (.istore_n 1) 1 2 := ⟨by decide +kernel, rfl⟩
theorem iX1_cliffs_2 : At YX1_cliffs 2 (.iconst 0) 1 3 := ⟨by decide +kernel, rfl⟩
theorem iX1_cliffs_3 : At YX1_cliffs 3 (.istore_n 2) 1 4 := ⟨by decide +kernel, rfl⟩
theorem iX1_cliffs_4 : At YX1_cliffs 4 (.iload_n 2) 1 5 := ⟨by decide +kernel, rfl⟩
theorem iX1_cliffs_5 : At YX1_cliffs 5 (.aload_n 0) 1 6 := ⟨by decide +kernel, rfl⟩
theorem iX1_cliffs_6 : At YX1_cliffs 6 (.getfield 9) 3 9 := ⟨by decide +kernel, rfl⟩
theorem iX1_cliffs_9 : AtJ YX1_cliffs 9 (.if_icmp .ge) 12 26 := ⟨17, by decide +kernel, rfl, by decide⟩
theorem iX1_cliffs_12 : At YX1_cliffs 12 (.iload_n 1) 1 13 := ⟨by decide +kernel, rfl⟩
theorem iX1_cliffs_13 : At YX1_cliffs 13 (.aload_n 0) 1 14 := ⟨by decide +kernel, rfl⟩
theorem iX1_cliffs_14 : At YX1_cliffs 14 (.iload_n 2) 1 15 := ⟨by decide +kernel, rfl⟩
theorem iX1_cliffs_15 : At YX1_cliffs 15 (.invokevirtual 123) 3 18 := ⟨by decide +kernel, rfl⟩
theorem iX1_cliffs_18 : At YX1_cliffs 18 (.iadd) 1 19 := ⟨by decide +kernel, rfl⟩
theorem iX1_cliffs_19 : At YX1_cliffs 19 (.istore_n 1) 1 20 := ⟨by decide +kernel, rfl⟩
theorem iX1_cliffs_20 : At YX1_cliffs 20 (.iinc 2 1) 3 23 := ⟨by decide +kernel, rfl⟩
theorem iX1_cliffs_23 : AtJ YX1_cliffs 23 .goto 26 4 := ⟨-19, by decide +kernel, rfl, by decide⟩
theorem iX1_cliffs_26 : At YX1_cliffs 26 (.iload_n 1) 1 27 := ⟨by decide +kernel, rfl⟩
theorem iX1_cliffs_27 : At YX1_cliffs 27 (.ireturn) 1 28 := ⟨by decide +kernel, rfl⟩
theorem iX1_cliffWage_0 : At YX1_cliffWage 0 (.iload_n 1) 1 1 := ⟨by decide +kernel, rfl⟩
theorem iX1_cliffWage_1 : At YX1_cliffWage 1 (.istore_n 2) 1 2 := ⟨by decide +kernel, rfl⟩
theorem iX1_cliffWage_2 : At YX1_cliffWage 2 (.iconst 0) 1 3 := ⟨by decide +kernel, rfl⟩
theorem iX1_cliffWage_3 : At YX1_cliffWage 3 (.istore_n 3) 1 4 := ⟨by decide +kernel, rfl⟩
theorem iX1_cliffWage_4 : At YX1_cliffWage 4 (.iload_n 3) 1 5 := ⟨by decide +kernel, rfl⟩
theorem iX1_cliffWage_5 : At YX1_cliffWage 5 (.aload_n 0) 1 6 := ⟨by decide +kernel, rfl⟩
theorem iX1_cliffWage_6 : At YX1_cliffWage 6 (.getfield 9) 3 9 := ⟨by decide +kernel, rfl⟩
theorem iX1_cliffWage_9 : AtJ YX1_cliffWage 9 (.if_icmp .ge) 12 59 := ⟨50, by decide +kernel, rfl, by decide⟩
theorem iX1_cliffWage_12 : At YX1_cliffWage 12 (.aload_n 0) 1 13 := ⟨by decide +kernel, rfl⟩
theorem iX1_cliffWage_13 : At YX1_cliffWage 13 (.iload_n 3) 1 14 := ⟨by decide +kernel, rfl⟩
theorem iX1_cliffWage_14 : At YX1_cliffWage 14 (.invokevirtual 123) 3 17 := ⟨by decide +kernel, rfl⟩
theorem iX1_cliffWage_17 : At YX1_cliffWage 17 (.istore 4) 2 19 := ⟨by decide +kernel, rfl⟩
theorem iX1_cliffWage_19 : At YX1_cliffWage 19 (.iload_n 2) 1 20 := ⟨by decide +kernel, rfl⟩
theorem iX1_cliffWage_20 : At YX1_cliffWage 20 (.iload 4) 2 22 := ⟨by decide +kernel, rfl⟩
theorem iX1_cliffWage_22 : AtJ YX1_cliffWage 22 (.if_icmp .ge) 25 48 := ⟨26, by decide +kernel, rfl, by decide⟩
theorem iX1_cliffWage_25 : At YX1_cliffWage 25 (.aload_n 0) 1 26 := ⟨by decide +kernel, rfl⟩
theorem iX1_cliffWage_26 : At YX1_cliffWage 26 (.getfield 15) 3 29 := ⟨by decide +kernel, rfl⟩
theorem iX1_cliffWage_29 : At YX1_cliffWage 29 (.iload_n 3) 1 30 := ⟨by decide +kernel, rfl⟩
theorem iX1_cliffWage_30 : At YX1_cliffWage 30 (.iaload) 1 31 := ⟨by decide +kernel, rfl⟩
theorem iX1_cliffWage_31 : At YX1_cliffWage 31 (.iload_n 2) 1 32 := ⟨by decide +kernel, rfl⟩
theorem iX1_cliffWage_32 : At YX1_cliffWage 32 (.iadd) 1 33 := ⟨by decide +kernel, rfl⟩
theorem iX1_cliffWage_33 : At YX1_cliffWage 33 (.aload_n 0) 1 34 := ⟨by decide +kernel, rfl⟩
theorem iX1_cliffWage_34 : At YX1_cliffWage 34 (.iload_n 3) 1 35 := ⟨by decide +kernel, rfl⟩
theorem iX1_cliffWage_35 : At YX1_cliffWage 35 (.invokevirtual 119) 3 38 := ⟨by decide +kernel, rfl⟩
theorem iX1_cliffWage_38 : AtJ YX1_cliffWage 38 (.ifCond .eq) 41 45 := ⟨7, by decide +kernel, rfl, by decide⟩
theorem iX1_cliffWage_41 : At YX1_cliffWage 41 (.iconst 0) 1 42 := ⟨by decide +kernel, rfl⟩
theorem iX1_cliffWage_42 : AtJ YX1_cliffWage 42 .goto 45 46 := ⟨4, by decide +kernel, rfl, by decide⟩
theorem iX1_cliffWage_45 : At YX1_cliffWage 45 (.iconst 1) 1 46 := ⟨by decide +kernel, rfl⟩
theorem iX1_cliffWage_46 : At YX1_cliffWage 46 (.iadd) 1 47 := ⟨by decide +kernel, rfl⟩
theorem iX1_cliffWage_47 : At YX1_cliffWage 47 (.ireturn) 1 48 := ⟨by decide +kernel, rfl⟩
theorem iX1_cliffWage_48 : At YX1_cliffWage 48 (.iload_n 2) 1 49 := ⟨by decide +kernel, rfl⟩
theorem iX1_cliffWage_49 : At YX1_cliffWage 49 (.iload 4) 2 51 := ⟨by decide +kernel, rfl⟩
theorem iX1_cliffWage_51 : At YX1_cliffWage 51 (.isub) 1 52 := ⟨by decide +kernel, rfl⟩
theorem iX1_cliffWage_52 : At YX1_cliffWage 52 (.istore_n 2) 1 53 := ⟨by decide +kernel, rfl⟩
theorem iX1_cliffWage_53 : At YX1_cliffWage 53 (.iinc 3 1) 3 56 := ⟨by decide +kernel, rfl⟩
theorem iX1_cliffWage_56 : AtJ YX1_cliffWage 56 .goto 59 4 := ⟨-52, by decide +kernel, rfl, by decide⟩
theorem iX1_cliffWage_59 : At YX1_cliffWage 59 (.iconst (-1)) 1 60 := ⟨by decide +kernel, rfl⟩
theorem iX1_cliffWage_60 : At YX1_cliffWage 60 (.ireturn) 1 61 := ⟨by decide +kernel, rfl⟩
theorem iX1_backFrom_0 : At YX1_backFrom 0 (.aload_n 0) 1 1 := ⟨by decide +kernel, rfl⟩
theorem iX1_backFrom_1 : At YX1_backFrom 1 (.iload_n 1) 1 2 := ⟨by decide +kernel, rfl⟩
theorem iX1_backFrom_2 : At YX1_backFrom 2 (.aload_n 0) 1 3 := ⟨by decide +kernel, rfl⟩
theorem iX1_backFrom_3 : At YX1_backFrom 3 (.iload_n 1) 1 4 := ⟨by decide +kernel, rfl⟩
theorem iX1_backFrom_4 : At YX1_backFrom 4 (.iconst 1) 1 5 := ⟨by decide +kernel, rfl⟩
theorem iX1_backFrom_5 : At YX1_backFrom 5 (.isub) 1 6 := ⟨by decide +kernel, rfl⟩
theorem iX1_backFrom_6 : At YX1_backFrom 6 (.invokevirtual 126) 3 9 := ⟨by decide +kernel, rfl⟩
theorem iX1_backFrom_9 : At YX1_backFrom 9 (.invokevirtual 129) 3 12 := ⟨by decide +kernel, rfl⟩
theorem iX1_backFrom_12 : At YX1_backFrom 12 (.ireturn) 1 13 := ⟨by decide +kernel, rfl⟩
theorem iX1_trapFrom_0 : At YX1_trapFrom 0 (.aload_n 0) 1 1 := ⟨by decide +kernel, rfl⟩
theorem iX1_trapFrom_1 : At YX1_trapFrom 1 (.iload_n 1) 1 2 := ⟨by decide +kernel, rfl⟩
theorem iX1_trapFrom_2 : At YX1_trapFrom 2 (.invokevirtual 132) 3 5 := ⟨by decide +kernel, rfl⟩
theorem iX1_trapFrom_5 : At YX1_trapFrom 5 (.istore_n 2) 1 6 := ⟨by decide +kernel, rfl⟩
theorem iX1_trapFrom_6 : At YX1_trapFrom 6 (.iload_n 2) 1 7 := ⟨by decide +kernel, rfl⟩
theorem iX1_trapFrom_7 : At YX1_trapFrom 7 (.iconst (-1)) 1 8 := ⟨by decide +kernel, rfl⟩
theorem iX1_trapFrom_8 : AtJ YX1_trapFrom 8 (.if_icmp .ne) 11 17 := ⟨9, by decide +kernel, rfl, by decide⟩
theorem iX1_trapFrom_11 : At YX1_trapFrom 11 (.sipush 10000) 3 14 := ⟨by decide +kernel, rfl⟩
theorem iX1_trapFrom_14 : AtJ YX1_trapFrom 14 .goto 17 18 := ⟨4, by decide +kernel, rfl, by decide⟩
theorem iX1_trapFrom_17 : At YX1_trapFrom 17 (.iload_n 2) 1 18 := ⟨by decide +kernel, rfl⟩
theorem iX1_trapFrom_18 : At YX1_trapFrom 18 (.iload_n 1) 1 19 := ⟨by decide +kernel, rfl⟩
theorem iX1_trapFrom_19 : At YX1_trapFrom 19 (.isub) 1 20 := ⟨by decide +kernel, rfl⟩
theorem iX1_trapFrom_20 : At YX1_trapFrom 20 (.ireturn) 1 21 := ⟨by decide +kernel, rfl⟩
theorem iX1_lowAtFirst_0 : At YX1_lowAtFirst 0 (.aload_n 0) 1 1 := ⟨by decide +kernel, rfl⟩
theorem iX1_lowAtFirst_1 : At YX1_lowAtFirst 1 (.getfield 19) 3 4 := ⟨by decide +kernel, rfl⟩
theorem iX1_lowAtFirst_4 : At YX1_lowAtFirst 4 (.iload_n 1) 1 5 := ⟨by decide +kernel, rfl⟩
theorem iX1_lowAtFirst_5 : At YX1_lowAtFirst 5 (.laload) 1 6 := ⟨by decide +kernel, rfl⟩
theorem iX1_lowAtFirst_6 : At YX1_lowAtFirst 6 (.aload_n 0) 1 7 := ⟨by decide +kernel, rfl⟩
theorem iX1_lowAtFirst_7 : At YX1_lowAtFirst 7 (.getfield 23) 3 10 := ⟨by decide +kernel, rfl⟩
theorem iX1_lowAtFirst_10 : At YX1_lowAtFirst 10 (.iload_n 1) 1 11 := ⟨by decide +kernel, rfl⟩
theorem iX1_lowAtFirst_11 : At YX1_lowAtFirst 11 (.laload) 1 12 := ⟨by decide +kernel, rfl⟩
theorem iX1_lowAtFirst_12 : At YX1_lowAtFirst 12 (.aload_n 0) 1 13 := ⟨by decide +kernel, rfl⟩
theorem iX1_lowAtFirst_13 : At YX1_lowAtFirst 13 (.iload_n 1) 1 14 := ⟨by decide +kernel, rfl⟩
theorem iX1_lowAtFirst_14 : At YX1_lowAtFirst 14 (.invokevirtual 91) 3 17 := ⟨by decide +kernel, rfl⟩
theorem iX1_lowAtFirst_17 : At YX1_lowAtFirst 17 (.lload_n 2) 1 18 := ⟨by decide +kernel, rfl⟩
theorem iX1_lowAtFirst_18 : At YX1_lowAtFirst 18 (.invokestatic 100) 3 21 := ⟨by decide +kernel, rfl⟩
theorem iX1_lowAtFirst_21 : At YX1_lowAtFirst 21 (.istore 4) 2 23 := ⟨by decide +kernel, rfl⟩
theorem iX1_lowAtFirst_23 : At YX1_lowAtFirst 23 (.iload 4) 2 25 := ⟨by decide +kernel, rfl⟩
theorem iX1_lowAtFirst_25 : At YX1_lowAtFirst 25 (.iconst (-1)) 1 26 := ⟨by decide +kernel, rfl⟩
theorem iX1_lowAtFirst_26 : AtJ YX1_lowAtFirst 26 (.if_icmp .ne) 29 39 := ⟨13, by decide +kernel, rfl, by decide⟩
theorem iX1_lowAtFirst_29 : At YX1_lowAtFirst 29 (.aload_n 0) 1 30 := ⟨by decide +kernel, rfl⟩
theorem iX1_lowAtFirst_30 : At YX1_lowAtFirst 30 (.iload_n 1) 1 31 := ⟨by decide +kernel, rfl⟩
theorem iX1_lowAtFirst_31 : At YX1_lowAtFirst 31 (.invokevirtual 91) 3 34 := ⟨by decide +kernel, rfl⟩
theorem iX1_lowAtFirst_34 : At YX1_lowAtFirst 34 (.iconst 1) 1 35 := ⟨by decide +kernel, rfl⟩
theorem iX1_lowAtFirst_35 : At YX1_lowAtFirst 35 (.iadd) 1 36 := ⟨by decide +kernel, rfl⟩
theorem iX1_lowAtFirst_36 : AtJ YX1_lowAtFirst 36 .goto 39 41 := ⟨5, by decide +kernel, rfl, by decide⟩
theorem iX1_lowAtFirst_39 : At YX1_lowAtFirst 39 (.iload 4) 2 41 := ⟨by decide +kernel, rfl⟩
theorem iX1_lowAtFirst_41 : At YX1_lowAtFirst 41 (.ireturn) 1 42 := ⟨by decide +kernel, rfl⟩
theorem iX1_trappedWages_0 : At YX1_trappedWages 0 (.iconst 0) 1 1 := ⟨by decide +kernel, rfl⟩
theorem iX1_trappedWages_1 : At YX1_trappedWages 1 (.istore_n 1) 1 2 := ⟨by decide +kernel, rfl⟩
theorem iX1_trappedWages_2 : At YX1_trappedWages 2 (.aload_n 0) 1 3 := ⟨by decide +kernel, rfl⟩
theorem iX1_trappedWages_3 : At YX1_trappedWages 3 (.getfield 19) 3 6 := ⟨by decide +kernel, rfl⟩
theorem iX1_trappedWages_6 : At YX1_trappedWages 6 (.iconst 0) 1 7 := ⟨by decide +kernel, rfl⟩
theorem iX1_trappedWages_7 : At YX1_trappedWages 7 (.laload) 1 8 := ⟨by decide +kernel, rfl⟩
theorem iX1_trappedWages_8 : At YX1_trappedWages 8 (.lstore_n 2) 1 9 := ⟨by decide +kernel, rfl⟩
theorem iX1_trappedWages_9 : At YX1_trappedWages 9 (.iconst 0) 1 10 := ⟨by decide +kernel, rfl⟩
theorem iX1_trappedWages_10 : At YX1_trappedWages 10 (.istore 4) 2 12 := ⟨by decide +kernel, rfl⟩
theorem iX1_trappedWages_12 : At YX1_trappedWages 12 (.iload 4) 2 14 := ⟨by decide +kernel, rfl⟩
theorem iX1_trappedWages_14 : At YX1_trappedWages 14 (.aload_n 0) 1 15 := ⟨by decide +kernel, rfl⟩
theorem iX1_trappedWages_15 : At YX1_trappedWages 15 (.getfield 9) 3 18 := ⟨by decide +kernel, rfl⟩
theorem iX1_trappedWages_18 : AtJ YX1_trappedWages 18 (.if_icmp .ge) 21 88 := ⟨70, by decide +kernel, rfl, by decide⟩
theorem iX1_trappedWages_21 : At YX1_trappedWages 21 (.aload_n 0) 1 22 := ⟨by decide +kernel, rfl⟩
theorem iX1_trappedWages_22 : At YX1_trappedWages 22 (.iload 4) 2 24 := ⟨by decide +kernel, rfl⟩
theorem iX1_trappedWages_24 : At YX1_trappedWages 24 (.lload_n 2) 1 25 := ⟨by decide +kernel, rfl⟩
theorem iX1_trappedWages_25 : At YX1_trappedWages 25 (.invokevirtual 135) 3 28 := ⟨by decide +kernel, rfl⟩
theorem iX1_trappedWages_28 : At YX1_trappedWages 28 (.istore 5) 2 30 := ⟨by decide +kernel, rfl⟩
theorem iX1_trappedWages_30 : At YX1_trappedWages 30 (.iload_n 1) 1 31 := ⟨by decide +kernel, rfl⟩
theorem iX1_trappedWages_31 : At YX1_trappedWages 31 (.iload 5) 2 33 := ⟨by decide +kernel, rfl⟩
theorem iX1_trappedWages_33 : AtJ YX1_trappedWages 33 (.ifCond .ne) 36 57 := ⟨24, by decide +kernel, rfl, by decide⟩
theorem iX1_trappedWages_36 : At YX1_trappedWages 36 (.aload_n 0) 1 37 := ⟨by decide +kernel, rfl⟩
theorem iX1_trappedWages_37 : At YX1_trappedWages 37 (.getfield 23) 3 40 := ⟨by decide +kernel, rfl⟩
theorem iX1_trappedWages_40 : At YX1_trappedWages 40 (.iload 4) 2 42 := ⟨by decide +kernel, rfl⟩
theorem iX1_trappedWages_42 : At YX1_trappedWages 42 (.laload) 1 43 := ⟨by decide +kernel, rfl⟩
theorem iX1_trappedWages_43 : At YX1_trappedWages 43 (.lconst 0) 1 44 := ⟨by decide +kernel, rfl⟩
theorem iX1_trappedWages_44 : At YX1_trappedWages 44 (.lcmp) 1 45 := ⟨by decide +kernel, rfl⟩
theorem iX1_trappedWages_45 : AtJ YX1_trappedWages 45 (.ifCond .ge) 48 57 := ⟨12, by decide +kernel, rfl, by decide⟩
theorem iX1_trappedWages_48 : At YX1_trappedWages 48 (.aload_n 0) 1 49 := ⟨by decide +kernel, rfl⟩
theorem iX1_trappedWages_49 : At YX1_trappedWages 49 (.iload 4) 2 51 := ⟨by decide +kernel, rfl⟩
theorem iX1_trappedWages_51 : At YX1_trappedWages 51 (.invokevirtual 91) 3 54 := ⟨by decide +kernel, rfl⟩
theorem iX1_trappedWages_54 : AtJ YX1_trappedWages 54 .goto 57 59 := ⟨5, by decide +kernel, rfl, by decide⟩
theorem iX1_trappedWages_57 : At YX1_trappedWages 57 (.iload 5) 2 59 := ⟨by decide +kernel, rfl⟩
theorem iX1_trappedWages_59 : At YX1_trappedWages 59 (.iadd) 1 60 := ⟨by decide +kernel, rfl⟩
theorem iX1_trappedWages_60 : At YX1_trappedWages 60 (.istore_n 1) 1 61 := ⟨by decide +kernel, rfl⟩
theorem iX1_trappedWages_61 : At YX1_trappedWages 61 (.lload_n 2) 1 62 := ⟨by decide +kernel, rfl⟩
theorem iX1_trappedWages_62 : At YX1_trappedWages 62 (.aload_n 0) 1 63 := ⟨by decide +kernel, rfl⟩
theorem iX1_trappedWages_63 : At YX1_trappedWages 63 (.getfield 19) 3 66 := ⟨by decide +kernel, rfl⟩
theorem iX1_trappedWages_66 : At YX1_trappedWages 66 (.iload 4) 2 68 := ⟨by decide +kernel, rfl⟩
theorem iX1_trappedWages_68 : At YX1_trappedWages 68 (.laload) 1 69 := ⟨by decide +kernel, rfl⟩
theorem iX1_trappedWages_69 : At YX1_trappedWages 69 (.aload_n 0) 1 70 := ⟨by decide +kernel, rfl⟩
theorem iX1_trappedWages_70 : At YX1_trappedWages 70 (.iload 4) 2 72 := ⟨by decide +kernel, rfl⟩
theorem iX1_trappedWages_72 : At YX1_trappedWages 72 (.invokevirtual 78) 3 75 := ⟨by decide +kernel, rfl⟩
theorem iX1_trappedWages_75 : At YX1_trappedWages 75 (.invokestatic 88) 3 78 := ⟨by decide +kernel, rfl⟩
theorem iX1_trappedWages_78 : At YX1_trappedWages 78 (.invokestatic 88) 3 81 := ⟨by decide +kernel, rfl⟩
theorem iX1_trappedWages_81 : At YX1_trappedWages 81 (.lstore_n 2) 1 82 := ⟨by decide +kernel, rfl⟩
theorem iX1_trappedWages_82 : At YX1_trappedWages 82 (.iinc 4 1) 3 85 := ⟨by decide +kernel, rfl⟩
theorem iX1_trappedWages_85 : AtJ YX1_trappedWages 85 .goto 88 12 := ⟨-73, by decide +kernel, rfl, by decide⟩
theorem iX1_trappedWages_88 : At YX1_trappedWages 88 (.iload_n 1) 1 89 := ⟨by decide +kernel, rfl⟩
theorem iX1_trappedWages_89 : At YX1_trappedWages 89 (.ireturn) 1 90 := ⟨by decide +kernel, rfl⟩
theorem iX1_longestTrap_0 : At YX1_longestTrap 0 (.iconst 0) 1 1 := ⟨by decide +kernel, rfl⟩
theorem iX1_longestTrap_1 : At YX1_longestTrap 1 (.istore_n 1) 1 2 := ⟨by decide +kernel, rfl⟩
theorem iX1_longestTrap_2 : At YX1_longestTrap 2 (.iconst 0) 1 3 := ⟨by decide +kernel, rfl⟩
theorem iX1_longestTrap_3 : At YX1_longestTrap 3 (.istore_n 2) 1 4 := ⟨by decide +kernel, rfl⟩
theorem iX1_longestTrap_4 : At YX1_longestTrap 4 (.aload_n 0) 1 5 := ⟨by decide +kernel, rfl⟩
theorem iX1_longestTrap_5 : At YX1_longestTrap 5 (.getfield 19) 3 8 := ⟨by decide +kernel, rfl⟩
theorem iX1_longestTrap_8 : At YX1_longestTrap 8 (.iconst 0) 1 9 := ⟨by decide +kernel, rfl⟩
theorem iX1_longestTrap_9 : At YX1_longestTrap 9 (.laload) 1 10 := ⟨by decide +kernel, rfl⟩
theorem iX1_longestTrap_10 : At YX1_longestTrap 10 (.lstore_n 3) 1 11 := ⟨by decide +kernel, rfl⟩
theorem iX1_longestTrap_11 : At YX1_longestTrap 11 (.iconst 0) 1 12 := ⟨by decide +kernel, rfl⟩
theorem iX1_longestTrap_12 : At YX1_longestTrap 12 (.istore 5) 2 14 := ⟨by decide +kernel, rfl⟩
theorem iX1_longestTrap_14 : At YX1_longestTrap 14 (.iload 5) 2 16 := ⟨by decide +kernel, rfl⟩
theorem iX1_longestTrap_16 : At YX1_longestTrap 16 (.aload_n 0) 1 17 := ⟨by decide +kernel, rfl⟩
theorem iX1_longestTrap_17 : At YX1_longestTrap 17 (.getfield 9) 3 20 := ⟨by decide +kernel, rfl⟩
theorem iX1_longestTrap_20 : AtJ YX1_longestTrap 20 (.if_icmp .ge) 23 110 := ⟨90, by decide +kernel, rfl, by decide⟩
theorem iX1_longestTrap_23 : At YX1_longestTrap 23 (.aload_n 0) 1 24 := ⟨by decide +kernel, rfl⟩
theorem iX1_longestTrap_24 : At YX1_longestTrap 24 (.iload 5) 2 26 := ⟨by decide +kernel, rfl⟩
theorem iX1_longestTrap_26 : At YX1_longestTrap 26 (.lload_n 3) 1 27 := ⟨by decide +kernel, rfl⟩
theorem iX1_longestTrap_27 : At YX1_longestTrap 27 (.invokevirtual 135) 3 30 := ⟨by decide +kernel, rfl⟩
theorem iX1_longestTrap_30 : At YX1_longestTrap 30 (.istore 6) 2 32 := ⟨by decide +kernel, rfl⟩
theorem iX1_longestTrap_32 : At YX1_longestTrap 32 (.iload_n 2) 1 33 := ⟨by decide +kernel, rfl⟩
theorem iX1_longestTrap_33 : At YX1_longestTrap 33 (.iload 6) 2 35 := ⟨by decide +kernel, rfl⟩
theorem iX1_longestTrap_35 : At YX1_longestTrap 35 (.iadd) 1 36 := ⟨by decide +kernel, rfl⟩
theorem iX1_longestTrap_36 : At YX1_longestTrap 36 (.istore_n 2) 1 37 := ⟨by decide +kernel, rfl⟩
theorem iX1_longestTrap_37 : At YX1_longestTrap 37 (.iload_n 1) 1 38 := ⟨by decide +kernel, rfl⟩
theorem iX1_longestTrap_38 : At YX1_longestTrap 38 (.iload_n 2) 1 39 := ⟨by decide +kernel, rfl⟩
theorem iX1_longestTrap_39 : At YX1_longestTrap 39 (.invokestatic 98) 3 42 := ⟨by decide +kernel, rfl⟩
theorem iX1_longestTrap_42 : At YX1_longestTrap 42 (.istore_n 1) 1 43 := ⟨by decide +kernel, rfl⟩
theorem iX1_longestTrap_43 : At YX1_longestTrap 43 (.iload 6) 2 45 := ⟨by decide +kernel, rfl⟩
theorem iX1_longestTrap_45 : At YX1_longestTrap 45 (.aload_n 0) 1 46 := ⟨by decide +kernel, rfl⟩
theorem iX1_longestTrap_46 : At YX1_longestTrap 46 (.iload 5) 2 48 := ⟨by decide +kernel, rfl⟩
theorem iX1_longestTrap_48 : At YX1_longestTrap 48 (.invokevirtual 91) 3 51 := ⟨by decide +kernel, rfl⟩
theorem iX1_longestTrap_51 : AtJ YX1_longestTrap 51 (.if_icmp .gt) 54 83 := ⟨32, by decide +kernel, rfl, by decide⟩
theorem iX1_longestTrap_54 : At YX1_longestTrap 54 (.aload_n 0) 1 55 := ⟨by decide +kernel, rfl⟩
theorem iX1_longestTrap_55 : At YX1_longestTrap 55 (.getfield 23) 3 58 := ⟨by decide +kernel, rfl⟩
theorem iX1_longestTrap_58 : At YX1_longestTrap 58 (.iload 5) 2 60 := ⟨by decide +kernel, rfl⟩
theorem iX1_longestTrap_60 : At YX1_longestTrap 60 (.laload) 1 61 := ⟨by decide +kernel, rfl⟩
theorem iX1_longestTrap_61 : At YX1_longestTrap 61 (.lconst 0) 1 62 := ⟨by decide +kernel, rfl⟩
theorem iX1_longestTrap_62 : At YX1_longestTrap 62 (.lcmp) 1 63 := ⟨by decide +kernel, rfl⟩
theorem iX1_longestTrap_63 : AtJ YX1_longestTrap 63 (.ifCond .ge) 66 75 := ⟨12, by decide +kernel, rfl, by decide⟩
theorem iX1_longestTrap_66 : At YX1_longestTrap 66 (.aload_n 0) 1 67 := ⟨by decide +kernel, rfl⟩
theorem iX1_longestTrap_67 : At YX1_longestTrap 67 (.iload 5) 2 69 := ⟨by decide +kernel, rfl⟩
theorem iX1_longestTrap_69 : At YX1_longestTrap 69 (.invokevirtual 91) 3 72 := ⟨by decide +kernel, rfl⟩
theorem iX1_longestTrap_72 : AtJ YX1_longestTrap 72 .goto 75 76 := ⟨4, by decide +kernel, rfl, by decide⟩
theorem iX1_longestTrap_75 : At YX1_longestTrap 75 (.iconst 0) 1 76 := ⟨by decide +kernel, rfl⟩
theorem iX1_longestTrap_76 : At YX1_longestTrap 76 (.istore_n 2) 1 77 := ⟨by decide +kernel, rfl⟩
theorem iX1_longestTrap_77 : At YX1_longestTrap 77 (.iload_n 1) 1 78 := ⟨by decide +kernel, rfl⟩
theorem iX1_longestTrap_78 : At YX1_longestTrap 78 (.iload_n 2) 1 79 := ⟨by decide +kernel, rfl⟩
theorem iX1_longestTrap_79 : At YX1_longestTrap 79 (.invokestatic 98) 3 82 := ⟨by decide +kernel, rfl⟩
theorem iX1_longestTrap_82 : At YX1_longestTrap 82 (.istore_n 1) 1 83 := ⟨by decide +kernel, rfl⟩
theorem iX1_longestTrap_83 : At YX1_longestTrap 83 (.lload_n 3) 1 84 := ⟨by decide +kernel, rfl⟩
theorem iX1_longestTrap_84 : At YX1_longestTrap 84 (.aload_n 0) 1 85 := ⟨by decide +kernel, rfl⟩
theorem iX1_longestTrap_85 : At YX1_longestTrap 85 (.getfield 19) 3 88 := ⟨by decide +kernel, rfl⟩
theorem iX1_longestTrap_88 : At YX1_longestTrap 88 (.iload 5) 2 90 := ⟨by decide +kernel, rfl⟩
theorem iX1_longestTrap_90 : At YX1_longestTrap 90 (.laload) 1 91 := ⟨by decide +kernel, rfl⟩
theorem iX1_longestTrap_91 : At YX1_longestTrap 91 (.aload_n 0) 1 92 := ⟨by decide +kernel, rfl⟩
theorem iX1_longestTrap_92 : At YX1_longestTrap 92 (.iload 5) 2 94 := ⟨by decide +kernel, rfl⟩
theorem iX1_longestTrap_94 : At YX1_longestTrap 94 (.invokevirtual 78) 3 97 := ⟨by decide +kernel, rfl⟩
theorem iX1_longestTrap_97 : At YX1_longestTrap 97 (.invokestatic 88) 3 100 := ⟨by decide +kernel, rfl⟩
theorem iX1_longestTrap_100 : At YX1_longestTrap 100 (.invokestatic 88) 3 103 := ⟨by decide +kernel, rfl⟩
theorem iX1_longestTrap_103 : At YX1_longestTrap 103 (.lstore_n 3) 1 104 := ⟨by decide +kernel, rfl⟩
theorem iX1_longestTrap_104 : At YX1_longestTrap 104 (.iinc 5 1) 3 107 := ⟨by decide +kernel, rfl⟩
theorem iX1_longestTrap_107 : AtJ YX1_longestTrap 107 .goto 110 14 := ⟨-93, by decide +kernel, rfl, by decide⟩
theorem iX1_longestTrap_110 : At YX1_longestTrap 110 (.iload_n 1) 1 111 := ⟨by decide +kernel, rfl⟩
theorem iX1_longestTrap_111 : At YX1_longestTrap 111 (.ireturn) 1 112 := ⟨by decide +kernel, rfl⟩
theorem iX1_wageOfMost_0 : At YX1_wageOfMost 0 (.iconst 0) 1 1 := ⟨by decide +kernel, rfl⟩
theorem iX1_wageOfMost_1 : At YX1_wageOfMost 1 (.istore_n 1) 1 2 := ⟨by decide +kernel, rfl⟩
theorem iX1_wageOfMost_2 : At YX1_wageOfMost 2 (.aload_n 0) 1 3 := ⟨by decide +kernel, rfl⟩
theorem iX1_wageOfMost_3 : At YX1_wageOfMost 3 (.getfield 19) 3 6 := ⟨by decide +kernel, rfl⟩
theorem iX1_wageOfMost_6 : At YX1_wageOfMost 6 (.iconst 0) 1 7 := ⟨by decide +kernel, rfl⟩
theorem iX1_wageOfMost_7 : At YX1_wageOfMost 7 (.laload) 1 8 := ⟨by decide +kernel, rfl⟩
theorem iX1_wageOfMost_8 : At YX1_wageOfMost 8 (.lstore_n 2) 1 9 := ⟨by decide +kernel, rfl⟩
theorem iX1_wageOfMost_9 : At YX1_wageOfMost 9 (.iconst 0) 1 10 := ⟨by decide +kernel, rfl⟩
theorem iX1_wageOfMost_10 : At YX1_wageOfMost 10 (.istore 4) 2 12 := ⟨by decide +kernel, rfl⟩
theorem iX1_wageOfMost_12 : At YX1_wageOfMost 12 (.iload 4) 2 14 := ⟨by decide +kernel, rfl⟩
theorem iX1_wageOfMost_14 : At YX1_wageOfMost 14 (.aload_n 0) 1 15 := ⟨by decide +kernel, rfl⟩
theorem iX1_wageOfMost_15 : At YX1_wageOfMost 15 (.getfield 9) 3 18 := ⟨by decide +kernel, rfl⟩
theorem iX1_wageOfMost_18 : AtJ YX1_wageOfMost 18 (.if_icmp .ge) 21 80 := ⟨62, by decide +kernel, rfl, by decide⟩
theorem iX1_wageOfMost_21 : At YX1_wageOfMost 21 (.aload_n 0) 1 22 := ⟨by decide +kernel, rfl⟩
theorem iX1_wageOfMost_22 : At YX1_wageOfMost 22 (.getfield 19) 3 25 := ⟨by decide +kernel, rfl⟩
theorem iX1_wageOfMost_25 : At YX1_wageOfMost 25 (.iload 4) 2 27 := ⟨by decide +kernel, rfl⟩
theorem iX1_wageOfMost_27 : At YX1_wageOfMost 27 (.laload) 1 28 := ⟨by decide +kernel, rfl⟩
theorem iX1_wageOfMost_28 : At YX1_wageOfMost 28 (.lload_n 2) 1 29 := ⟨by decide +kernel, rfl⟩
theorem iX1_wageOfMost_29 : At YX1_wageOfMost 29 (.lcmp) 1 30 := ⟨by decide +kernel, rfl⟩
theorem iX1_wageOfMost_30 : AtJ YX1_wageOfMost 30 (.ifCond .le) 33 49 := ⟨19, by decide +kernel, rfl, by decide⟩
theorem iX1_wageOfMost_33 : At YX1_wageOfMost 33 (.aload_n 0) 1 34 := ⟨by decide +kernel, rfl⟩
theorem iX1_wageOfMost_34 : At YX1_wageOfMost 34 (.getfield 15) 3 37 := ⟨by decide +kernel, rfl⟩
theorem iX1_wageOfMost_37 : At YX1_wageOfMost 37 (.iload 4) 2 39 := ⟨by decide +kernel, rfl⟩
theorem iX1_wageOfMost_39 : At YX1_wageOfMost 39 (.iaload) 1 40 := ⟨by decide +kernel, rfl⟩
theorem iX1_wageOfMost_40 : At YX1_wageOfMost 40 (.istore_n 1) 1 41 := ⟨by decide +kernel, rfl⟩
theorem iX1_wageOfMost_41 : At YX1_wageOfMost 41 (.aload_n 0) 1 42 := ⟨by decide +kernel, rfl⟩
theorem iX1_wageOfMost_42 : At YX1_wageOfMost 42 (.getfield 19) 3 45 := ⟨by decide +kernel, rfl⟩
theorem iX1_wageOfMost_45 : At YX1_wageOfMost 45 (.iload 4) 2 47 := ⟨by decide +kernel, rfl⟩
theorem iX1_wageOfMost_47 : At YX1_wageOfMost 47 (.laload) 1 48 := ⟨by decide +kernel, rfl⟩
theorem iX1_wageOfMost_48 : At YX1_wageOfMost 48 (.lstore_n 2) 1 49 := ⟨by decide +kernel, rfl⟩
theorem iX1_wageOfMost_49 : At YX1_wageOfMost 49 (.aload_n 0) 1 50 := ⟨by decide +kernel, rfl⟩
theorem iX1_wageOfMost_50 : At YX1_wageOfMost 50 (.iload 4) 2 52 := ⟨by decide +kernel, rfl⟩
theorem iX1_wageOfMost_52 : At YX1_wageOfMost 52 (.invokevirtual 78) 3 55 := ⟨by decide +kernel, rfl⟩
theorem iX1_wageOfMost_55 : At YX1_wageOfMost 55 (.lload_n 2) 1 56 := ⟨by decide +kernel, rfl⟩
theorem iX1_wageOfMost_56 : At YX1_wageOfMost 56 (.lcmp) 1 57 := ⟨by decide +kernel, rfl⟩
theorem iX1_wageOfMost_57 : AtJ YX1_wageOfMost 57 (.ifCond .le) 60 74 := ⟨17, by decide +kernel, rfl, by decide⟩
theorem iX1_wageOfMost_60 : At YX1_wageOfMost 60 (.aload_n 0) 1 61 := ⟨by decide +kernel, rfl⟩
theorem iX1_wageOfMost_61 : At YX1_wageOfMost 61 (.iload 4) 2 63 := ⟨by decide +kernel, rfl⟩
theorem iX1_wageOfMost_63 : At YX1_wageOfMost 63 (.invokevirtual 60) 3 66 := ⟨by decide +kernel, rfl⟩
theorem iX1_wageOfMost_66 : At YX1_wageOfMost 66 (.istore_n 1) 1 67 := ⟨by decide +kernel, rfl⟩
theorem iX1_wageOfMost_67 : At YX1_wageOfMost 67 (.aload_n 0) 1 68 := ⟨by decide +kernel, rfl⟩
theorem iX1_wageOfMost_68 : At YX1_wageOfMost 68 (.iload 4) 2 70 := ⟨by decide +kernel, rfl⟩
theorem iX1_wageOfMost_70 : At YX1_wageOfMost 70 (.invokevirtual 78) 3 73 := ⟨by decide +kernel, rfl⟩
theorem iX1_wageOfMost_73 : At YX1_wageOfMost 73 (.lstore_n 2) 1 74 := ⟨by decide +kernel, rfl⟩
theorem iX1_wageOfMost_74 : At YX1_wageOfMost 74 (.iinc 4 1) 3 77 := ⟨by decide +kernel, rfl⟩
theorem iX1_wageOfMost_77 : AtJ YX1_wageOfMost 77 .goto 80 12 := ⟨-65, by decide +kernel, rfl, by decide⟩
theorem iX1_wageOfMost_80 : At YX1_wageOfMost 80 (.iload_n 1) 1 81 := ⟨by decide +kernel, rfl⟩
theorem iX1_wageOfMost_81 : At YX1_wageOfMost 81 (.ireturn) 1 82 := ⟨by decide +kernel, rfl⟩
theorem iX1_wageOfLeast_0 : At YX1_wageOfLeast 0 (.iconst 0) 1 1 := ⟨by decide +kernel, rfl⟩
theorem iX1_wageOfLeast_1 : At YX1_wageOfLeast 1 (.istore_n 1) 1 2 := ⟨by decide +kernel, rfl⟩
theorem iX1_wageOfLeast_2 : At YX1_wageOfLeast 2 (.aload_n 0) 1 3 := ⟨by decide +kernel, rfl⟩
theorem iX1_wageOfLeast_3 : At YX1_wageOfLeast 3 (.getfield 19) 3 6 := ⟨by decide +kernel, rfl⟩
theorem iX1_wageOfLeast_6 : At YX1_wageOfLeast 6 (.iconst 0) 1 7 := ⟨by decide +kernel, rfl⟩
theorem iX1_wageOfLeast_7 : At YX1_wageOfLeast 7 (.laload) 1 8 := ⟨by decide +kernel, rfl⟩
theorem iX1_wageOfLeast_8 : At YX1_wageOfLeast 8 (.lstore_n 2) 1 9 := ⟨by decide +kernel, rfl⟩
theorem iX1_wageOfLeast_9 : At YX1_wageOfLeast 9 (.iconst 0) 1 10 := ⟨by decide +kernel, rfl⟩
theorem iX1_wageOfLeast_10 : At YX1_wageOfLeast 10 (.istore 4) 2 12 := ⟨by decide +kernel, rfl⟩
theorem iX1_wageOfLeast_12 : At YX1_wageOfLeast 12 (.iload 4) 2 14 := ⟨by decide +kernel, rfl⟩
theorem iX1_wageOfLeast_14 : At YX1_wageOfLeast 14 (.aload_n 0) 1 15 := ⟨by decide +kernel, rfl⟩
theorem iX1_wageOfLeast_15 : At YX1_wageOfLeast 15 (.getfield 9) 3 18 := ⟨by decide +kernel, rfl⟩
theorem iX1_wageOfLeast_18 : AtJ YX1_wageOfLeast 18 (.if_icmp .ge) 21 80 := ⟨62, by decide +kernel, rfl, by decide⟩
theorem iX1_wageOfLeast_21 : At YX1_wageOfLeast 21 (.aload_n 0) 1 22 := ⟨by decide +kernel, rfl⟩
theorem iX1_wageOfLeast_22 : At YX1_wageOfLeast 22 (.getfield 19) 3 25 := ⟨by decide +kernel, rfl⟩
theorem iX1_wageOfLeast_25 : At YX1_wageOfLeast 25 (.iload 4) 2 27 := ⟨by decide +kernel, rfl⟩
theorem iX1_wageOfLeast_27 : At YX1_wageOfLeast 27 (.laload) 1 28 := ⟨by decide +kernel, rfl⟩
theorem iX1_wageOfLeast_28 : At YX1_wageOfLeast 28 (.lload_n 2) 1 29 := ⟨by decide +kernel, rfl⟩
theorem iX1_wageOfLeast_29 : At YX1_wageOfLeast 29 (.lcmp) 1 30 := ⟨by decide +kernel, rfl⟩
theorem iX1_wageOfLeast_30 : AtJ YX1_wageOfLeast 30 (.ifCond .ge) 33 49 := ⟨19, by decide +kernel, rfl, by decide⟩
theorem iX1_wageOfLeast_33 : At YX1_wageOfLeast 33 (.aload_n 0) 1 34 := ⟨by decide +kernel, rfl⟩
theorem iX1_wageOfLeast_34 : At YX1_wageOfLeast 34 (.getfield 15) 3 37 := ⟨by decide +kernel, rfl⟩
theorem iX1_wageOfLeast_37 : At YX1_wageOfLeast 37 (.iload 4) 2 39 := ⟨by decide +kernel, rfl⟩
theorem iX1_wageOfLeast_39 : At YX1_wageOfLeast 39 (.iaload) 1 40 := ⟨by decide +kernel, rfl⟩
theorem iX1_wageOfLeast_40 : At YX1_wageOfLeast 40 (.istore_n 1) 1 41 := ⟨by decide +kernel, rfl⟩
theorem iX1_wageOfLeast_41 : At YX1_wageOfLeast 41 (.aload_n 0) 1 42 := ⟨by decide +kernel, rfl⟩
theorem iX1_wageOfLeast_42 : At YX1_wageOfLeast 42 (.getfield 19) 3 45 := ⟨by decide +kernel, rfl⟩
theorem iX1_wageOfLeast_45 : At YX1_wageOfLeast 45 (.iload 4) 2 47 := ⟨by decide +kernel, rfl⟩
theorem iX1_wageOfLeast_47 : At YX1_wageOfLeast 47 (.laload) 1 48 := ⟨by decide +kernel, rfl⟩
theorem iX1_wageOfLeast_48 : At YX1_wageOfLeast 48 (.lstore_n 2) 1 49 := ⟨by decide +kernel, rfl⟩
theorem iX1_wageOfLeast_49 : At YX1_wageOfLeast 49 (.aload_n 0) 1 50 := ⟨by decide +kernel, rfl⟩
theorem iX1_wageOfLeast_50 : At YX1_wageOfLeast 50 (.iload 4) 2 52 := ⟨by decide +kernel, rfl⟩
theorem iX1_wageOfLeast_52 : At YX1_wageOfLeast 52 (.invokevirtual 78) 3 55 := ⟨by decide +kernel, rfl⟩
theorem iX1_wageOfLeast_55 : At YX1_wageOfLeast 55 (.lload_n 2) 1 56 := ⟨by decide +kernel, rfl⟩
theorem iX1_wageOfLeast_56 : At YX1_wageOfLeast 56 (.lcmp) 1 57 := ⟨by decide +kernel, rfl⟩
theorem iX1_wageOfLeast_57 : AtJ YX1_wageOfLeast 57 (.ifCond .ge) 60 74 := ⟨17, by decide +kernel, rfl, by decide⟩
theorem iX1_wageOfLeast_60 : At YX1_wageOfLeast 60 (.aload_n 0) 1 61 := ⟨by decide +kernel, rfl⟩
theorem iX1_wageOfLeast_61 : At YX1_wageOfLeast 61 (.iload 4) 2 63 := ⟨by decide +kernel, rfl⟩
theorem iX1_wageOfLeast_63 : At YX1_wageOfLeast 63 (.invokevirtual 60) 3 66 := ⟨by decide +kernel, rfl⟩
theorem iX1_wageOfLeast_66 : At YX1_wageOfLeast 66 (.istore_n 1) 1 67 := ⟨by decide +kernel, rfl⟩
theorem iX1_wageOfLeast_67 : At YX1_wageOfLeast 67 (.aload_n 0) 1 68 := ⟨by decide +kernel, rfl⟩
theorem iX1_wageOfLeast_68 : At YX1_wageOfLeast 68 (.iload 4) 2 70 := ⟨by decide +kernel, rfl⟩
theorem iX1_wageOfLeast_70 : At YX1_wageOfLeast 70 (.invokevirtual 78) 3 73 := ⟨by decide +kernel, rfl⟩
theorem iX1_wageOfLeast_73 : At YX1_wageOfLeast 73 (.lstore_n 2) 1 74 := ⟨by decide +kernel, rfl⟩
theorem iX1_wageOfLeast_74 : At YX1_wageOfLeast 74 (.iinc 4 1) 3 77 := ⟨by decide +kernel, rfl⟩
theorem iX1_wageOfLeast_77 : AtJ YX1_wageOfLeast 77 .goto 80 12 := ⟨-65, by decide +kernel, rfl, by decide⟩
theorem iX1_wageOfLeast_80 : At YX1_wageOfLeast 80 (.iload_n 1) 1 81 := ⟨by decide +kernel, rfl⟩
theorem iX1_wageOfLeast_81 : At YX1_wageOfLeast 81 (.ireturn) 1 82 := ⟨by decide +kernel, rfl⟩
theorem iX1_widest_0 : At YX1_widest 0 (.aload_n 0) 1 1 := ⟨by decide +kernel, rfl⟩
theorem iX1_widest_1 : At YX1_widest 1 (.invokevirtual 138) 3 4 := ⟨by decide +kernel, rfl⟩
theorem iX1_widest_4 : At YX1_widest 4 (.istore_n 1) 1 5 := ⟨by decide +kernel, rfl⟩
theorem iX1_widest_5 : At YX1_widest 5 (.aload_n 0) 1 6 := ⟨by decide +kernel, rfl⟩
theorem iX1_widest_6 : At YX1_widest 6 (.invokevirtual 142) 3 9 := ⟨by decide +kernel, rfl⟩
theorem iX1_widest_9 : At YX1_widest 9 (.istore_n 2) 1 10 := ⟨by decide +kernel, rfl⟩
theorem iX1_widest_10 : At YX1_widest 10 (.aload_n 0) 1 11 := ⟨by decide +kernel, rfl⟩
theorem iX1_widest_11 : At YX1_widest 11 (.iload_n 1) 1 12 := ⟨by decide +kernel, rfl⟩
theorem iX1_widest_12 : At YX1_widest 12 (.invokevirtual 126) 3 15 := ⟨by decide +kernel, rfl⟩
theorem iX1_widest_15 : At YX1_widest 15 (.invokestatic 145) 3 18 := ⟨by decide +kernel, rfl⟩
theorem iX1_widest_18 : At YX1_widest 18 (.lstore_n 3) 1 19 := ⟨by decide +kernel, rfl⟩
theorem iX1_widest_19 : At YX1_widest 19 (.aload_n 0) 1 20 := ⟨by decide +kernel, rfl⟩
theorem iX1_widest_20 : At YX1_widest 20 (.iload_n 2) 1 21 := ⟨by decide +kernel, rfl⟩
theorem iX1_widest_21 : At YX1_widest 21 (.invokevirtual 126) 3 24 := ⟨by decide +kernel, rfl⟩
theorem iX1_widest_24 : At YX1_widest 24 (.invokestatic 145) 3 27 := ⟨by decide +kernel, rfl⟩
theorem iX1_widest_27 : At YX1_widest 27 (.lstore 5) 2 29 := ⟨by decide +kernel, rfl⟩
theorem iX1_widest_29 : At YX1_widest 29 (.lload_n 3) 1 30 := ⟨by decide +kernel, rfl⟩
theorem iX1_widest_30 : At YX1_widest 30 (.lload 5) 2 32 := ⟨by decide +kernel, rfl⟩
theorem iX1_widest_32 : At YX1_widest 32 (.lcmp) 1 33 := ⟨by decide +kernel, rfl⟩
theorem iX1_widest_33 : AtJ YX1_widest 33 (.ifCond .ne) 36 42 := ⟨9, by decide +kernel, rfl, by decide⟩
theorem iX1_widest_36 : At YX1_widest 36 (.iload_n 1) 1 37 := ⟨by decide +kernel, rfl⟩
theorem iX1_widest_37 : At YX1_widest 37 (.iload_n 2) 1 38 := ⟨by decide +kernel, rfl⟩
theorem iX1_widest_38 : At YX1_widest 38 (.invokestatic 64) 3 41 := ⟨by decide +kernel, rfl⟩
theorem iX1_widest_41 : At YX1_widest 41 (.ireturn) 1 42 := ⟨by decide +kernel, rfl⟩
theorem iX1_widest_42 : At YX1_widest 42 (.lload_n 3) 1 43 := ⟨by decide +kernel, rfl⟩
theorem iX1_widest_43 : At YX1_widest 43 (.lload 5) 2 45 := ⟨by decide +kernel, rfl⟩
theorem iX1_widest_45 : At YX1_widest 45 (.lcmp) 1 46 := ⟨by decide +kernel, rfl⟩
theorem iX1_widest_46 : AtJ YX1_widest 46 (.ifCond .le) 49 53 := ⟨7, by decide +kernel, rfl, by decide⟩
theorem iX1_widest_49 : At YX1_widest 49 (.iload_n 1) 1 50 := ⟨by decide +kernel, rfl⟩
theorem iX1_widest_50 : AtJ YX1_widest 50 .goto 53 54 := ⟨4, by decide +kernel, rfl, by decide⟩
theorem iX1_widest_53 : At YX1_widest 53 (.iload_n 2) 1 54 := ⟨by decide +kernel, rfl⟩
theorem iX1_widest_54 : At YX1_widest 54 (.ireturn) 1 55 := ⟨by decide +kernel, rfl⟩
theorem iX1_steepest_0 : At YX1_steepest 0 (.iconst 0) 1 1 := ⟨by decide +kernel, rfl⟩
theorem iX1_steepest_1 : At YX1_steepest 1 (.istore_n 1) 1 2 := ⟨by decide +kernel, rfl⟩
theorem iX1_steepest_2 : At YX1_steepest 2 (.aload_n 0) 1 3 := ⟨by decide +kernel, rfl⟩
theorem iX1_steepest_3 : At YX1_steepest 3 (.getfield 23) 3 6 := ⟨by decide +kernel, rfl⟩
theorem iX1_steepest_6 : At YX1_steepest 6 (.iconst 0) 1 7 := ⟨by decide +kernel, rfl⟩
theorem iX1_steepest_7 : At YX1_steepest 7 (.laload) 1 8 := ⟨by decide +kernel, rfl⟩
theorem iX1_steepest_8 : At YX1_steepest 8 (.lstore_n 2) 1 9 := ⟨by decide +kernel, rfl⟩
theorem iX1_steepest_9 : At YX1_steepest 9 (.iconst 1) 1 10 := ⟨by decide +kernel, rfl⟩
theorem iX1_steepest_10 : At YX1_steepest 10 (.istore 4) 2 12 := ⟨by decide +kernel, rfl⟩
theorem iX1_steepest_12 : At YX1_steepest 12 (.iload 4) 2 14 := ⟨by decide +kernel, rfl⟩
theorem iX1_steepest_14 : At YX1_steepest 14 (.aload_n 0) 1 15 := ⟨by decide +kernel, rfl⟩
theorem iX1_steepest_15 : At YX1_steepest 15 (.getfield 9) 3 18 := ⟨by decide +kernel, rfl⟩
theorem iX1_steepest_18 : AtJ YX1_steepest 18 (.if_icmp .ge) 21 92 := ⟨74, by decide +kernel, rfl, by decide⟩
theorem iX1_steepest_21 : At YX1_steepest 21 (.aload_n 0) 1 22 := ⟨by decide +kernel, rfl⟩
theorem iX1_steepest_22 : At YX1_steepest 22 (.iload 4) 2 24 := ⟨by decide +kernel, rfl⟩
theorem iX1_steepest_24 : At YX1_steepest 24 (.invokevirtual 116) 3 27 := ⟨by decide +kernel, rfl⟩
theorem iX1_steepest_27 : At YX1_steepest 27 (.lload_n 2) 1 28 := ⟨by decide +kernel, rfl⟩
theorem iX1_steepest_28 : At YX1_steepest 28 (.lcmp) 1 29 := ⟨by decide +kernel, rfl⟩
theorem iX1_steepest_29 : AtJ YX1_steepest 29 (.ifCond .ge) 32 49 := ⟨20, by decide +kernel, rfl, by decide⟩
theorem iX1_steepest_32 : At YX1_steepest 32 (.aload_n 0) 1 33 := ⟨by decide +kernel, rfl⟩
theorem iX1_steepest_33 : At YX1_steepest 33 (.getfield 15) 3 36 := ⟨by decide +kernel, rfl⟩
theorem iX1_steepest_36 : At YX1_steepest 36 (.iload 4) 2 38 := ⟨by decide +kernel, rfl⟩
theorem iX1_steepest_38 : At YX1_steepest 38 (.iaload) 1 39 := ⟨by decide +kernel, rfl⟩
theorem iX1_steepest_39 : At YX1_steepest 39 (.iconst 1) 1 40 := ⟨by decide +kernel, rfl⟩
theorem iX1_steepest_40 : At YX1_steepest 40 (.isub) 1 41 := ⟨by decide +kernel, rfl⟩
theorem iX1_steepest_41 : At YX1_steepest 41 (.istore_n 1) 1 42 := ⟨by decide +kernel, rfl⟩
theorem iX1_steepest_42 : At YX1_steepest 42 (.aload_n 0) 1 43 := ⟨by decide +kernel, rfl⟩
theorem iX1_steepest_43 : At YX1_steepest 43 (.iload 4) 2 45 := ⟨by decide +kernel, rfl⟩
theorem iX1_steepest_45 : At YX1_steepest 45 (.invokevirtual 116) 3 48 := ⟨by decide +kernel, rfl⟩
theorem iX1_steepest_48 : At YX1_steepest 48 (.lstore_n 2) 1 49 := ⟨by decide +kernel, rfl⟩
theorem iX1_steepest_49 : At YX1_steepest 49 (.aload_n 0) 1 50 := ⟨by decide +kernel, rfl⟩
theorem iX1_steepest_50 : At YX1_steepest 50 (.iload 4) 2 52 := ⟨by decide +kernel, rfl⟩
theorem iX1_steepest_52 : At YX1_steepest 52 (.invokevirtual 91) 3 55 := ⟨by decide +kernel, rfl⟩
theorem iX1_steepest_55 : AtJ YX1_steepest 55 (.ifCond .le) 58 86 := ⟨31, by decide +kernel, rfl, by decide⟩
theorem iX1_steepest_58 : At YX1_steepest 58 (.aload_n 0) 1 59 := ⟨by decide +kernel, rfl⟩
theorem iX1_steepest_59 : At YX1_steepest 59 (.getfield 23) 3 62 := ⟨by decide +kernel, rfl⟩
theorem iX1_steepest_62 : At YX1_steepest 62 (.iload 4) 2 64 := ⟨by decide +kernel, rfl⟩
theorem iX1_steepest_64 : At YX1_steepest 64 (.laload) 1 65 := ⟨by decide +kernel, rfl⟩
theorem iX1_steepest_65 : At YX1_steepest 65 (.lload_n 2) 1 66 := ⟨by decide +kernel, rfl⟩
theorem iX1_steepest_66 : At YX1_steepest 66 (.lcmp) 1 67 := ⟨by decide +kernel, rfl⟩
theorem iX1_steepest_67 : AtJ YX1_steepest 67 (.ifCond .ge) 70 86 := ⟨19, by decide +kernel, rfl, by decide⟩
theorem iX1_steepest_70 : At YX1_steepest 70 (.aload_n 0) 1 71 := ⟨by decide +kernel, rfl⟩
theorem iX1_steepest_71 : At YX1_steepest 71 (.getfield 15) 3 74 := ⟨by decide +kernel, rfl⟩
theorem iX1_steepest_74 : At YX1_steepest 74 (.iload 4) 2 76 := ⟨by decide +kernel, rfl⟩
theorem iX1_steepest_76 : At YX1_steepest 76 (.iaload) 1 77 := ⟨by decide +kernel, rfl⟩
theorem iX1_steepest_77 : At YX1_steepest 77 (.istore_n 1) 1 78 := ⟨by decide +kernel, rfl⟩
theorem iX1_steepest_78 : At YX1_steepest 78 (.aload_n 0) 1 79 := ⟨by decide +kernel, rfl⟩
theorem iX1_steepest_79 : At YX1_steepest 79 (.getfield 23) 3 82 := ⟨by decide +kernel, rfl⟩
theorem iX1_steepest_82 : At YX1_steepest 82 (.iload 4) 2 84 := ⟨by decide +kernel, rfl⟩
theorem iX1_steepest_84 : At YX1_steepest 84 (.laload) 1 85 := ⟨by decide +kernel, rfl⟩
theorem iX1_steepest_85 : At YX1_steepest 85 (.lstore_n 2) 1 86 := ⟨by decide +kernel, rfl⟩
theorem iX1_steepest_86 : At YX1_steepest 86 (.iinc 4 1) 3 89 := ⟨by decide +kernel, rfl⟩
theorem iX1_steepest_89 : AtJ YX1_steepest 89 .goto 92 12 := ⟨-77, by decide +kernel, rfl, by decide⟩
theorem iX1_steepest_92 : At YX1_steepest 92 (.iload_n 1) 1 93 := ⟨by decide +kernel, rfl⟩
theorem iX1_steepest_93 : At YX1_steepest 93 (.ireturn) 1 94 := ⟨by decide +kernel, rfl⟩
theorem iX1_flatPieces_0 : At YX1_flatPieces 0 (.iconst 0) 1 1 := ⟨by decide +kernel, rfl⟩
theorem iX1_flatPieces_1 : At YX1_flatPieces 1 (.istore_n 1) 1 2 := ⟨by decide +kernel, rfl⟩
theorem iX1_flatPieces_2 : At YX1_flatPieces 2 (.iconst 0) 1 3 := ⟨by decide +kernel, rfl⟩
theorem iX1_flatPieces_3 : At YX1_flatPieces 3 (.istore_n 2) 1 4 := ⟨by decide +kernel, rfl⟩
theorem iX1_flatPieces_4 : At YX1_flatPieces 4 (.iload_n 2) 1 5 := ⟨by decide +kernel, rfl⟩
theorem iX1_flatPieces_5 : At YX1_flatPieces 5 (.aload_n 0) 1 6 := ⟨by decide +kernel, rfl⟩
theorem iX1_flatPieces_6 : At YX1_flatPieces 6 (.getfield 9) 3 9 := ⟨by decide +kernel, rfl⟩
theorem iX1_flatPieces_9 : AtJ YX1_flatPieces 9 (.if_icmp .ge) 12 40 := ⟨31, by decide +kernel, rfl, by decide⟩
theorem iX1_flatPieces_12 : At YX1_flatPieces 12 (.aload_n 0) 1 13 := ⟨by decide +kernel, rfl⟩
theorem iX1_flatPieces_13 : At YX1_flatPieces 13 (.getfield 23) 3 16 := ⟨by decide +kernel, rfl⟩
theorem iX1_flatPieces_16 : At YX1_flatPieces 16 (.iload_n 2) 1 17 := ⟨by decide +kernel, rfl⟩
theorem iX1_flatPieces_17 : At YX1_flatPieces 17 (.laload) 1 18 := ⟨by decide +kernel, rfl⟩
theorem iX1_flatPieces_18 : At YX1_flatPieces 18 (.lconst 0) 1 19 := ⟨by decide +kernel, rfl⟩
theorem iX1_flatPieces_19 : At YX1_flatPieces 19 (.lcmp) 1 20 := ⟨by decide +kernel, rfl⟩
theorem iX1_flatPieces_20 : AtJ YX1_flatPieces 20 (.ifCond .ne) 23 34 := ⟨14, by decide +kernel, rfl, by decide⟩
theorem iX1_flatPieces_23 : At YX1_flatPieces 23 (.aload_n 0) 1 24 := ⟨by decide +kernel, rfl⟩
theorem iX1_flatPieces_24 : At YX1_flatPieces 24 (.iload_n 2) 1 25 := ⟨by decide +kernel, rfl⟩
theorem iX1_flatPieces_25 : At YX1_flatPieces 25 (.invokevirtual 91) 3 28 := ⟨by decide +kernel, rfl⟩
theorem iX1_flatPieces_28 : AtJ YX1_flatPieces 28 (.ifCond .le) 31 34 := ⟨6, by decide +kernel, rfl, by decide⟩
theorem iX1_flatPieces_31 : At YX1_flatPieces 31 (.iinc 1 1) 3 34 := ⟨by decide +kernel, rfl⟩
theorem iX1_flatPieces_34 : At YX1_flatPieces 34 (.iinc 2 1) 3 37 := ⟨by decide +kernel, rfl⟩
theorem iX1_flatPieces_37 : AtJ YX1_flatPieces 37 .goto 40 4 := ⟨-33, by decide +kernel, rfl, by decide⟩
theorem iX1_flatPieces_40 : At YX1_flatPieces 40 (.iload_n 1) 1 41 := ⟨by decide +kernel, rfl⟩
theorem iX1_flatPieces_41 : At YX1_flatPieces 41 (.ireturn) 1 42 := ⟨by decide +kernel, rfl⟩
theorem iX1_greatestPiece_0 : At YX1_greatestPiece 0 (.iconst 0) 1 1 := ⟨by decide +kernel, rfl⟩
theorem iX1_greatestPiece_1 : At YX1_greatestPiece 1 (.istore_n 1) 1 2 := ⟨by decide +kernel, rfl⟩
theorem iX1_greatestPiece_2 : At YX1_greatestPiece 2 (.iconst 1) 1 3 := ⟨by decide +kernel, rfl⟩
theorem iX1_greatestPiece_3 : At YX1_greatestPiece 3 (.istore_n 2) 1 4 := ⟨by decide +kernel, rfl⟩
theorem iX1_greatestPiece_4 : At YX1_greatestPiece 4 (.iload_n 2) 1 5 := ⟨by decide +kernel, rfl⟩
theorem iX1_greatestPiece_5 : At YX1_greatestPiece 5 (.aload_n 0) 1 6 := ⟨by decide +kernel, rfl⟩
theorem iX1_greatestPiece_6 : At YX1_greatestPiece 6 (.getfield 9) 3 9 := ⟨by decide +kernel, rfl⟩
theorem iX1_greatestPiece_9 : AtJ YX1_greatestPiece 9 (.if_icmp .ge) 12 33 := ⟨24, by decide +kernel, rfl, by decide⟩
theorem iX1_greatestPiece_12 : At YX1_greatestPiece 12 (.aload_n 0) 1 13 := ⟨by decide +kernel, rfl⟩
theorem iX1_greatestPiece_13 : At YX1_greatestPiece 13 (.iload_n 2) 1 14 := ⟨by decide +kernel, rfl⟩
theorem iX1_greatestPiece_14 : At YX1_greatestPiece 14 (.invokevirtual 91) 3 17 := ⟨by decide +kernel, rfl⟩
theorem iX1_greatestPiece_17 : At YX1_greatestPiece 17 (.aload_n 0) 1 18 := ⟨by decide +kernel, rfl⟩
theorem iX1_greatestPiece_18 : At YX1_greatestPiece 18 (.iload_n 1) 1 19 := ⟨by decide +kernel, rfl⟩
theorem iX1_greatestPiece_19 : At YX1_greatestPiece 19 (.invokevirtual 91) 3 22 := ⟨by decide +kernel, rfl⟩
theorem iX1_greatestPiece_22 : AtJ YX1_greatestPiece 22 (.if_icmp .le) 25 27 := ⟨5, by decide +kernel, rfl, by decide⟩
theorem iX1_greatestPiece_25 : At YX1_greatestPiece 25 (.iload_n 2) 1 26 := ⟨by decide +kernel, rfl⟩
theorem iX1_greatestPiece_26 : At YX1_greatestPiece 26 (.istore_n 1) 1 27 := ⟨by decide +kernel, rfl⟩
theorem iX1_greatestPiece_27 : At YX1_greatestPiece 27 (.iinc 2 1) 3 30 := ⟨by decide +kernel, rfl⟩
theorem iX1_greatestPiece_30 : AtJ YX1_greatestPiece 30 .goto 33 4 := ⟨-26, by decide +kernel, rfl, by decide⟩
theorem iX1_greatestPiece_33 : At YX1_greatestPiece 33 (.iload_n 1) 1 34 := ⟨by decide +kernel, rfl⟩
theorem iX1_greatestPiece_34 : At YX1_greatestPiece 34 (.ireturn) 1 35 := ⟨by decide +kernel, rfl⟩
theorem iX1_jumpCount_0 : At YX1_jumpCount 0 (.iconst 0) 1 1 := ⟨by decide +kernel, rfl⟩
theorem iX1_jumpCount_1 : At YX1_jumpCount 1 (.istore_n 1) 1 2 := ⟨by decide +kernel, rfl⟩
theorem iX1_jumpCount_2 : At YX1_jumpCount 2 (.iconst 1) 1 3 := ⟨by decide +kernel, rfl⟩
theorem iX1_jumpCount_3 : At YX1_jumpCount 3 (.istore_n 2) 1 4 := ⟨by decide +kernel, rfl⟩
theorem iX1_jumpCount_4 : At YX1_jumpCount 4 (.iload_n 2) 1 5 := ⟨by decide +kernel, rfl⟩
theorem iX1_jumpCount_5 : At YX1_jumpCount 5 (.aload_n 0) 1 6 := ⟨by decide +kernel, rfl⟩
theorem iX1_jumpCount_6 : At YX1_jumpCount 6 (.getfield 9) 3 9 := ⟨by decide +kernel, rfl⟩
theorem iX1_jumpCount_9 : AtJ YX1_jumpCount 9 (.if_icmp .ge) 12 53 := ⟨44, by decide +kernel, rfl, by decide⟩
theorem iX1_jumpCount_12 : At YX1_jumpCount 12 (.aload_n 0) 1 13 := ⟨by decide +kernel, rfl⟩
theorem iX1_jumpCount_13 : At YX1_jumpCount 13 (.iload_n 2) 1 14 := ⟨by decide +kernel, rfl⟩
theorem iX1_jumpCount_14 : At YX1_jumpCount 14 (.invokevirtual 116) 3 17 := ⟨by decide +kernel, rfl⟩
theorem iX1_jumpCount_17 : At YX1_jumpCount 17 (.aload_n 0) 1 18 := ⟨by decide +kernel, rfl⟩
theorem iX1_jumpCount_18 : At YX1_jumpCount 18 (.getfield 23) 3 21 := ⟨by decide +kernel, rfl⟩
theorem iX1_jumpCount_21 : At YX1_jumpCount 21 (.iload_n 2) 1 22 := ⟨by decide +kernel, rfl⟩
theorem iX1_jumpCount_22 : At YX1_jumpCount 22 (.iconst 1) 1 23 := ⟨by decide +kernel, rfl⟩
theorem iX1_jumpCount_23 : At YX1_jumpCount 23 (.isub) 1 24 := ⟨by decide +kernel, rfl⟩
theorem iX1_jumpCount_24 : At YX1_jumpCount 24 (.laload) 1 25 := ⟨by decide +kernel, rfl⟩
theorem iX1_jumpCount_25 : At YX1_jumpCount 25 (.lcmp) 1 26 := ⟨by decide +kernel, rfl⟩
theorem iX1_jumpCount_26 : AtJ YX1_jumpCount 26 (.ifCond .eq) 29 47 := ⟨21, by decide +kernel, rfl, by decide⟩
theorem iX1_jumpCount_29 : At YX1_jumpCount 29 (.aload_n 0) 1 30 := ⟨by decide +kernel, rfl⟩
theorem iX1_jumpCount_30 : At YX1_jumpCount 30 (.iload_n 2) 1 31 := ⟨by decide +kernel, rfl⟩
theorem iX1_jumpCount_31 : At YX1_jumpCount 31 (.invokevirtual 116) 3 34 := ⟨by decide +kernel, rfl⟩
theorem iX1_jumpCount_34 : At YX1_jumpCount 34 (.aload_n 0) 1 35 := ⟨by decide +kernel, rfl⟩
theorem iX1_jumpCount_35 : At YX1_jumpCount 35 (.getfield 23) 3 38 := ⟨by decide +kernel, rfl⟩
theorem iX1_jumpCount_38 : At YX1_jumpCount 38 (.iload_n 2) 1 39 := ⟨by decide +kernel, rfl⟩
theorem iX1_jumpCount_39 : At YX1_jumpCount 39 (.laload) 1 40 := ⟨by decide +kernel, rfl⟩
theorem iX1_jumpCount_40 : At YX1_jumpCount 40 (.lcmp) 1 41 := ⟨by decide +kernel, rfl⟩
theorem iX1_jumpCount_41 : AtJ YX1_jumpCount 41 (.ifCond .eq) 44 47 := ⟨6, by decide +kernel, rfl, by decide⟩
theorem iX1_jumpCount_44 : At YX1_jumpCount 44 (.iinc 1 1) 3 47 := ⟨by decide +kernel, rfl⟩
theorem iX1_jumpCount_47 : At YX1_jumpCount 47 (.iinc 2 1) 3 50 := ⟨by decide +kernel, rfl⟩
theorem iX1_jumpCount_50 : AtJ YX1_jumpCount 50 .goto 53 4 := ⟨-46, by decide +kernel, rfl, by decide⟩
theorem iX1_jumpCount_53 : At YX1_jumpCount 53 (.iload_n 1) 1 54 := ⟨by decide +kernel, rfl⟩
theorem iX1_jumpCount_54 : At YX1_jumpCount 54 (.ireturn) 1 55 := ⟨by decide +kernel, rfl⟩
theorem iX1_kinkCount_0 : At YX1_kinkCount 0 (.iconst 0) 1 1 := ⟨by decide +kernel, rfl⟩
theorem iX1_kinkCount_1 : At YX1_kinkCount 1 (.istore_n 2) 1 2 := ⟨by decide +kernel, rfl⟩
theorem iX1_kinkCount_2 : At YX1_kinkCount 2 (.iconst 1) 1 3 := ⟨by decide +kernel, rfl⟩
theorem iX1_kinkCount_3 : At YX1_kinkCount 3 (.istore_n 3) 1 4 := ⟨by decide +kernel, rfl⟩
theorem iX1_kinkCount_4 : At YX1_kinkCount 4 (.iload_n 3) 1 5 := ⟨by decide +kernel, rfl⟩
theorem iX1_kinkCount_5 : At YX1_kinkCount 5 (.aload_n 0) 1 6 := ⟨by decide +kernel, rfl⟩
theorem iX1_kinkCount_6 : At YX1_kinkCount 6 (.getfield 9) 3 9 := ⟨by decide +kernel, rfl⟩
theorem iX1_kinkCount_9 : AtJ YX1_kinkCount 9 (.if_icmp .ge) 12 64 := ⟨55, by decide +kernel, rfl, by decide⟩
theorem iX1_kinkCount_12 : At YX1_kinkCount 12 (.iload_n 1) 1 13 := ⟨by decide +kernel, rfl⟩
theorem iX1_kinkCount_13 : AtJ YX1_kinkCount 13 (.ifCond .eq) 16 37 := ⟨24, by decide +kernel, rfl, by decide⟩
theorem iX1_kinkCount_16 : At YX1_kinkCount 16 (.aload_n 0) 1 17 := ⟨by decide +kernel, rfl⟩
theorem iX1_kinkCount_17 : At YX1_kinkCount 17 (.getfield 23) 3 20 := ⟨by decide +kernel, rfl⟩
theorem iX1_kinkCount_20 : At YX1_kinkCount 20 (.iload_n 3) 1 21 := ⟨by decide +kernel, rfl⟩
theorem iX1_kinkCount_21 : At YX1_kinkCount 21 (.laload) 1 22 := ⟨by decide +kernel, rfl⟩
theorem iX1_kinkCount_22 : At YX1_kinkCount 22 (.aload_n 0) 1 23 := ⟨by decide +kernel, rfl⟩
theorem iX1_kinkCount_23 : At YX1_kinkCount 23 (.getfield 23) 3 26 := ⟨by decide +kernel, rfl⟩
theorem iX1_kinkCount_26 : At YX1_kinkCount 26 (.iload_n 3) 1 27 := ⟨by decide +kernel, rfl⟩
theorem iX1_kinkCount_27 : At YX1_kinkCount 27 (.iconst 1) 1 28 := ⟨by decide +kernel, rfl⟩
theorem iX1_kinkCount_28 : At YX1_kinkCount 28 (.isub) 1 29 := ⟨by decide +kernel, rfl⟩
theorem iX1_kinkCount_29 : At YX1_kinkCount 29 (.laload) 1 30 := ⟨by decide +kernel, rfl⟩
theorem iX1_kinkCount_30 : At YX1_kinkCount 30 (.lcmp) 1 31 := ⟨by decide +kernel, rfl⟩
theorem iX1_kinkCount_31 : AtJ YX1_kinkCount 31 (.ifCond .le) 34 58 := ⟨27, by decide +kernel, rfl, by decide⟩
theorem iX1_kinkCount_34 : AtJ YX1_kinkCount 34 .goto 37 55 := ⟨21, by decide +kernel, rfl, by decide⟩
theorem iX1_kinkCount_37 : At YX1_kinkCount 37 (.aload_n 0) 1 38 := ⟨by decide +kernel, rfl⟩
theorem iX1_kinkCount_38 : At YX1_kinkCount 38 (.getfield 23) 3 41 := ⟨by decide +kernel, rfl⟩
theorem iX1_kinkCount_41 : At YX1_kinkCount 41 (.iload_n 3) 1 42 := ⟨by decide +kernel, rfl⟩
theorem iX1_kinkCount_42 : At YX1_kinkCount 42 (.laload) 1 43 := ⟨by decide +kernel, rfl⟩
theorem iX1_kinkCount_43 : At YX1_kinkCount 43 (.aload_n 0) 1 44 := ⟨by decide +kernel, rfl⟩
theorem iX1_kinkCount_44 : At YX1_kinkCount 44 (.getfield 23) 3 47 := ⟨by decide +kernel, rfl⟩
theorem iX1_kinkCount_47 : At YX1_kinkCount 47 (.iload_n 3) 1 48 := ⟨by decide +kernel, rfl⟩
theorem iX1_kinkCount_48 : At YX1_kinkCount 48 (.iconst 1) 1 49 := ⟨by decide +kernel, rfl⟩
theorem iX1_kinkCount_49 : At YX1_kinkCount 49 (.isub) 1 50 := ⟨by decide +kernel, rfl⟩
theorem iX1_kinkCount_50 : At YX1_kinkCount 50 (.laload) 1 51 := ⟨by decide +kernel, rfl⟩
theorem iX1_kinkCount_51 : At YX1_kinkCount 51 (.lcmp) 1 52 := ⟨by decide +kernel, rfl⟩
theorem iX1_kinkCount_52 : AtJ YX1_kinkCount 52 (.ifCond .ge) 55 58 := ⟨6, by decide +kernel, rfl, by decide⟩
theorem iX1_kinkCount_55 : At YX1_kinkCount 55 (.iinc 2 1) 3 58 := ⟨by decide +kernel, rfl⟩
theorem iX1_kinkCount_58 : At YX1_kinkCount 58 (.iinc 3 1) 3 61 := ⟨by decide +kernel, rfl⟩
theorem iX1_kinkCount_61 : AtJ YX1_kinkCount 61 .goto 64 4 := ⟨-57, by decide +kernel, rfl, by decide⟩
theorem iX1_kinkCount_64 : At YX1_kinkCount 64 (.iload_n 2) 1 65 := ⟨by decide +kernel, rfl⟩
theorem iX1_kinkCount_65 : At YX1_kinkCount 65 (.ireturn) 1 66 := ⟨by decide +kernel, rfl⟩
theorem iX1_signChanges_0 : At YX1_signChanges 0 (.iconst 0) 1 1 := ⟨by decide +kernel, rfl⟩
theorem iX1_signChanges_1 : At YX1_signChanges 1 (.istore_n 1) 1 2 := ⟨by decide +kernel, rfl⟩
theorem iX1_signChanges_2 : At YX1_signChanges 2 (.iconst 0) 1 3 := ⟨by decide +kernel, rfl⟩
theorem iX1_signChanges_3 : At YX1_signChanges 3 (.istore_n 2) 1 4 := ⟨by decide +kernel, rfl⟩
theorem iX1_signChanges_4 : At YX1_signChanges 4 (.iload_n 2) 1 5 := ⟨by decide +kernel, rfl⟩
theorem iX1_signChanges_5 : At YX1_signChanges 5 (.aload_n 0) 1 6 := ⟨by decide +kernel, rfl⟩
theorem iX1_signChanges_6 : At YX1_signChanges 6 (.getfield 9) 3 9 := ⟨by decide +kernel, rfl⟩
theorem iX1_signChanges_9 : AtJ YX1_signChanges 9 (.if_icmp .ge) 12 118 := ⟨109, by decide +kernel, rfl, by decide⟩
theorem iX1_signChanges_12 : At YX1_signChanges 12 (.aload_n 0) 1 13 := ⟨by decide +kernel, rfl⟩
theorem iX1_signChanges_13 : At YX1_signChanges 13 (.getfield 19) 3 16 := ⟨by decide +kernel, rfl⟩
theorem iX1_signChanges_16 : At YX1_signChanges 16 (.iload_n 2) 1 17 := ⟨by decide +kernel, rfl⟩
theorem iX1_signChanges_17 : At YX1_signChanges 17 (.laload) 1 18 := ⟨by decide +kernel, rfl⟩
theorem iX1_signChanges_18 : At YX1_signChanges 18 (.aload_n 0) 1 19 := ⟨by decide +kernel, rfl⟩
theorem iX1_signChanges_19 : At YX1_signChanges 19 (.iload_n 2) 1 20 := ⟨by decide +kernel, rfl⟩
theorem iX1_signChanges_20 : At YX1_signChanges 20 (.invokevirtual 78) 3 23 := ⟨by decide +kernel, rfl⟩
theorem iX1_signChanges_23 : At YX1_signChanges 23 (.invokestatic 85) 3 26 := ⟨by decide +kernel, rfl⟩
theorem iX1_signChanges_26 : At YX1_signChanges 26 (.lconst 0) 1 27 := ⟨by decide +kernel, rfl⟩
theorem iX1_signChanges_27 : At YX1_signChanges 27 (.lcmp) 1 28 := ⟨by decide +kernel, rfl⟩
theorem iX1_signChanges_28 : AtJ YX1_signChanges 28 (.ifCond .ge) 31 35 := ⟨7, by decide +kernel, rfl, by decide⟩
theorem iX1_signChanges_31 : At YX1_signChanges 31 (.iconst 1) 1 32 := ⟨by decide +kernel, rfl⟩
theorem iX1_signChanges_32 : AtJ YX1_signChanges 32 .goto 35 36 := ⟨4, by decide +kernel, rfl, by decide⟩
theorem iX1_signChanges_35 : At YX1_signChanges 35 (.iconst 0) 1 36 := ⟨by decide +kernel, rfl⟩
theorem iX1_signChanges_36 : At YX1_signChanges 36 (.aload_n 0) 1 37 := ⟨by decide +kernel, rfl⟩
theorem iX1_signChanges_37 : At YX1_signChanges 37 (.iload_n 2) 1 38 := ⟨by decide +kernel, rfl⟩
theorem iX1_signChanges_38 : At YX1_signChanges 38 (.lconst 0) 1 39 := ⟨by decide +kernel, rfl⟩
theorem iX1_signChanges_39 : At YX1_signChanges 39 (.invokevirtual 94) 3 42 := ⟨by decide +kernel, rfl⟩
theorem iX1_signChanges_42 : AtJ YX1_signChanges 42 (.ifCond .le) 45 49 := ⟨7, by decide +kernel, rfl, by decide⟩
theorem iX1_signChanges_45 : At YX1_signChanges 45 (.iconst 1) 1 46 := ⟨by decide +kernel, rfl⟩
theorem iX1_signChanges_46 : AtJ YX1_signChanges 46 .goto 49 50 := ⟨4, by decide +kernel, rfl, by decide⟩
theorem iX1_signChanges_49 : At YX1_signChanges 49 (.iconst 0) 1 50 := ⟨by decide +kernel, rfl⟩
theorem iX1_signChanges_50 : At YX1_signChanges 50 (.iadd) 1 51 := ⟨by decide +kernel, rfl⟩
theorem iX1_signChanges_51 : At YX1_signChanges 51 (.aload_n 0) 1 52 := ⟨by decide +kernel, rfl⟩
theorem iX1_signChanges_52 : At YX1_signChanges 52 (.getfield 19) 3 55 := ⟨by decide +kernel, rfl⟩
theorem iX1_signChanges_55 : At YX1_signChanges 55 (.iload_n 2) 1 56 := ⟨by decide +kernel, rfl⟩
theorem iX1_signChanges_56 : At YX1_signChanges 56 (.laload) 1 57 := ⟨by decide +kernel, rfl⟩
theorem iX1_signChanges_57 : At YX1_signChanges 57 (.aload_n 0) 1 58 := ⟨by decide +kernel, rfl⟩
theorem iX1_signChanges_58 : At YX1_signChanges 58 (.iload_n 2) 1 59 := ⟨by decide +kernel, rfl⟩
theorem iX1_signChanges_59 : At YX1_signChanges 59 (.invokevirtual 78) 3 62 := ⟨by decide +kernel, rfl⟩
theorem iX1_signChanges_62 : At YX1_signChanges 62 (.invokestatic 88) 3 65 := ⟨by decide +kernel, rfl⟩
theorem iX1_signChanges_65 : At YX1_signChanges 65 (.lconst 0) 1 66 := ⟨by decide +kernel, rfl⟩
theorem iX1_signChanges_66 : At YX1_signChanges 66 (.lcmp) 1 67 := ⟨by decide +kernel, rfl⟩
theorem iX1_signChanges_67 : AtJ YX1_signChanges 67 (.ifCond .le) 70 74 := ⟨7, by decide +kernel, rfl, by decide⟩
theorem iX1_signChanges_70 : At YX1_signChanges 70 (.iconst 1) 1 71 := ⟨by decide +kernel, rfl⟩
theorem iX1_signChanges_71 : AtJ YX1_signChanges 71 .goto 74 75 := ⟨4, by decide +kernel, rfl, by decide⟩
theorem iX1_signChanges_74 : At YX1_signChanges 74 (.iconst 0) 1 75 := ⟨by decide +kernel, rfl⟩
theorem iX1_signChanges_75 : At YX1_signChanges 75 (.iadd) 1 76 := ⟨by decide +kernel, rfl⟩
theorem iX1_signChanges_76 : At YX1_signChanges 76 (.istore_n 3) 1 77 := ⟨by decide +kernel, rfl⟩
theorem iX1_signChanges_77 : At YX1_signChanges 77 (.iload_n 1) 1 78 := ⟨by decide +kernel, rfl⟩
theorem iX1_signChanges_78 : At YX1_signChanges 78 (.iload_n 3) 1 79 := ⟨by decide +kernel, rfl⟩
theorem iX1_signChanges_79 : At YX1_signChanges 79 (.iconst 1) 1 80 := ⟨by decide +kernel, rfl⟩
theorem iX1_signChanges_80 : At YX1_signChanges 80 (.isub) 1 81 := ⟨by decide +kernel, rfl⟩
theorem iX1_signChanges_81 : At YX1_signChanges 81 (.iadd) 1 82 := ⟨by decide +kernel, rfl⟩
theorem iX1_signChanges_82 : At YX1_signChanges 82 (.istore_n 1) 1 83 := ⟨by decide +kernel, rfl⟩
theorem iX1_signChanges_83 : At YX1_signChanges 83 (.iload_n 2) 1 84 := ⟨by decide +kernel, rfl⟩
theorem iX1_signChanges_84 : AtJ YX1_signChanges 84 (.ifCond .le) 87 112 := ⟨28, by decide +kernel, rfl, by decide⟩
theorem iX1_signChanges_87 : At YX1_signChanges 87 (.aload_n 0) 1 88 := ⟨by decide +kernel, rfl⟩
theorem iX1_signChanges_88 : At YX1_signChanges 88 (.getfield 19) 3 91 := ⟨by decide +kernel, rfl⟩
theorem iX1_signChanges_91 : At YX1_signChanges 91 (.iload_n 2) 1 92 := ⟨by decide +kernel, rfl⟩
theorem iX1_signChanges_92 : At YX1_signChanges 92 (.laload) 1 93 := ⟨by decide +kernel, rfl⟩
theorem iX1_signChanges_93 : At YX1_signChanges 93 (.invokestatic 149) 3 96 := ⟨by decide +kernel, rfl⟩
theorem iX1_signChanges_96 : At YX1_signChanges 96 (.aload_n 0) 1 97 := ⟨by decide +kernel, rfl⟩
theorem iX1_signChanges_97 : At YX1_signChanges 97 (.iload_n 2) 1 98 := ⟨by decide +kernel, rfl⟩
theorem iX1_signChanges_98 : At YX1_signChanges 98 (.iconst 1) 1 99 := ⟨by decide +kernel, rfl⟩
theorem iX1_signChanges_99 : At YX1_signChanges 99 (.isub) 1 100 := ⟨by decide +kernel, rfl⟩
theorem iX1_signChanges_100 : At YX1_signChanges 100 (.invokevirtual 78) 3 103 := ⟨by decide +kernel, rfl⟩
theorem iX1_signChanges_103 : At YX1_signChanges 103 (.invokestatic 149) 3 106 := ⟨by decide +kernel, rfl⟩
theorem iX1_signChanges_106 : AtJ YX1_signChanges 106 (.if_icmp .eq) 109 112 := ⟨6, by decide +kernel, rfl, by decide⟩
theorem iX1_signChanges_109 : At YX1_signChanges 109 (.iinc 1 1) 3 112 := ⟨by decide +kernel, rfl⟩
theorem iX1_signChanges_112 : At YX1_signChanges 112 (.iinc 2 1) 3 115 := ⟨by decide +kernel, rfl⟩
theorem iX1_signChanges_115 : AtJ YX1_signChanges 115 .goto 118 4 := ⟨-111, by decide +kernel, rfl, by decide⟩
theorem iX1_signChanges_118 : At YX1_signChanges 118 (.iload_n 1) 1 119 := ⟨by decide +kernel, rfl⟩
theorem iX1_signChanges_119 : At YX1_signChanges 119 (.ireturn) 1 120 := ⟨by decide +kernel, rfl⟩
theorem iX2_init_0 : At YX2_init 0 (.aload_n 0) 1 1 := ⟨by decide +kernel, rfl⟩
theorem iX2_init_1 : At YX2_init 1 (.invokespecial 3) 3 4 := ⟨by decide +kernel, rfl⟩
theorem iX2_init_4 : At YX2_init 4 (.aload_n 0) 1 5 := ⟨by decide +kernel, rfl⟩
theorem iX2_init_5 : At YX2_init 5 (.bipush 7) 2 7 := ⟨by decide +kernel, rfl⟩
theorem iX2_init_7 : At YX2_init 7 (.anewarray 9) 3 10 := ⟨by decide +kernel, rfl⟩
theorem iX2_init_10 : At YX2_init 10 (.putfield 11) 3 13 := ⟨by decide +kernel, rfl⟩
theorem iX2_init_13 : At YX2_init 13 (.aload_n 0) 1 14 := ⟨by decide +kernel, rfl⟩
theorem iX2_init_14 : At YX2_init 14 (.bipush 6) 2 16 := ⟨by decide +kernel, rfl⟩
theorem iX2_init_16 : At YX2_init 16 (.bipush 6) 2 18 := ⟨by decide +kernel, rfl⟩
theorem iX2_init_18 : At YX2_init 18 (.multianewarray 17 2) 4 22 := ⟨by decide +kernel, rfl⟩
theorem iX2_init_22 : At YX2_init 22 (.putfield 19) 3 25 := ⟨by decide +kernel, rfl⟩
theorem iX2_init_25 : At YX2_init 25 (.aload_n 0) 1 26 := ⟨by decide +kernel, rfl⟩
theorem iX2_init_26 : At YX2_init 26 (.bipush 7) 2 28 := ⟨by decide +kernel, rfl⟩
theorem iX2_init_28 : At YX2_init 28 (.newarray .long) 2 30 := ⟨by decide +kernel, rfl⟩
theorem iX2_init_30 : At YX2_init 30 (.putfield 22) 3 33 := ⟨by decide +kernel, rfl⟩
theorem iX2_init_33 : At YX2_init 33 (.iconst 0) 1 34 := ⟨by decide +kernel, rfl⟩
theorem iX2_init_34 : At YX2_init 34 (.istore_n 1) 1 35 := ⟨by decide +kernel, rfl⟩
theorem iX2_init_35 : At YX2_init 35 (.iload_n 1) 1 36 := ⟨by decide +kernel, rfl⟩
theorem iX2_init_36 : At YX2_init 36 (.bipush 7) 2 38 := ⟨by decide +kernel, rfl⟩
theorem iX2_init_38 : AtJ YX2_init 38 (.if_icmp .ge) 41 60 := ⟨22, by decide +kernel, rfl, by decide⟩
theorem iX2_init_41 : At YX2_init 41 (.aload_n 0) 1 42 := ⟨by decide +kernel, rfl⟩
theorem iX2_init_42 : At YX2_init 42 (.getfield 11) 3 45 := ⟨by decide +kernel, rfl⟩
theorem iX2_init_45 : At YX2_init 45 (.iload_n 1) 1 46 := ⟨by decide +kernel, rfl⟩
theorem iX2_init_46 : At YX2_init 46 (.new 9) 3 49 := ⟨by decide +kernel, rfl⟩
theorem iX2_init_49 : At YX2_init 49 (.dup) 1 50 := ⟨by decide +kernel, rfl⟩
theorem iX2_init_50 : At YX2_init 50 (.invokespecial 26) 3 53 := ⟨by decide +kernel, rfl⟩
theorem iX2_init_53 : At YX2_init 53 (.aastore) 1 54 := ⟨by decide +kernel, rfl⟩
theorem iX2_init_54 : At YX2_init 54 (.iinc 1 1) 3 57 := ⟨by decide +kernel, rfl⟩
theorem iX2_init_57 : AtJ YX2_init 57 .goto 60 35 := ⟨-22, by decide +kernel, rfl, by decide⟩
theorem iX2_init_60 : At YX2_init 60 (.return_) 1 61 := ⟨by decide +kernel, rfl⟩
theorem iX2_draw_0 : At YX2_draw 0 (.iconst 0) 1 1 := ⟨by decide +kernel, rfl⟩
theorem iX2_draw_1 : At YX2_draw 1 (.istore_n 3) 1 2 := ⟨by decide +kernel, rfl⟩
theorem iX2_draw_2 : At YX2_draw 2 (.iload_n 3) 1 3 := ⟨by decide +kernel, rfl⟩
theorem iX2_draw_3 : At YX2_draw 3 (.aload_n 1) 1 4 := ⟨by decide +kernel, rfl⟩
theorem iX2_draw_4 : At YX2_draw 4 (.getfield 27) 3 7 := ⟨by decide +kernel, rfl⟩
theorem iX2_draw_7 : AtJ YX2_draw 7 (.if_icmp .ge) 10 26 := ⟨19, by decide +kernel, rfl, by decide⟩
theorem iX2_draw_10 : At YX2_draw 10 (.aload_n 0) 1 11 := ⟨by decide +kernel, rfl⟩
theorem iX2_draw_11 : At YX2_draw 11 (.getfield 19) 3 14 := ⟨by decide +kernel, rfl⟩
theorem iX2_draw_14 : At YX2_draw 14 (.iload_n 3) 1 15 := ⟨by decide +kernel, rfl⟩
theorem iX2_draw_15 : At YX2_draw 15 (.aaload) 1 16 := ⟨by decide +kernel, rfl⟩
theorem iX2_draw_16 : At YX2_draw 16 (.iconst 0) 1 17 := ⟨by decide +kernel, rfl⟩
theorem iX2_draw_17 : At YX2_draw 17 (.invokestatic 33) 3 20 := ⟨by decide +kernel, rfl⟩
theorem iX2_draw_20 : At YX2_draw 20 (.iinc 3 1) 3 23 := ⟨by decide +kernel, rfl⟩
theorem iX2_draw_23 : AtJ YX2_draw 23 .goto 26 2 := ⟨-21, by decide +kernel, rfl, by decide⟩
theorem iX2_draw_26 : At YX2_draw 26 (.iconst 0) 1 27 := ⟨by decide +kernel, rfl⟩
theorem iX2_draw_27 : At YX2_draw 27 (.istore_n 3) 1 28 := ⟨by decide +kernel, rfl⟩
theorem iX2_draw_28 : At YX2_draw 28 (.iconst 0) 1 29 := ⟨by decide +kernel, rfl⟩
theorem iX2_draw_29 : At YX2_draw 29 (.istore 4) 2 31 := ⟨by decide +kernel, rfl⟩
theorem iX2_draw_31 : At YX2_draw 31 (.iload 4) 2 33 := ⟨by decide +kernel, rfl⟩
theorem iX2_draw_33 : At YX2_draw 33 (.sipush 9999) 3 36 := ⟨by decide +kernel, rfl⟩
theorem iX2_draw_36 : AtJ YX2_draw 36 (.if_icmp .gt) 39 164 := ⟨128, by decide +kernel, rfl, by decide⟩
theorem iX2_draw_39 : At YX2_draw 39 (.aload_n 2) 1 40 := ⟨by decide +kernel, rfl⟩
theorem iX2_draw_40 : At YX2_draw 40 (.aload_n 1) 1 41 := ⟨by decide +kernel, rfl⟩
theorem iX2_draw_41 : At YX2_draw 41 (.iload 4) 2 43 := ⟨by decide +kernel, rfl⟩
theorem iX2_draw_43 : At YX2_draw 43 (.invokevirtual 39) 3 46 := ⟨by decide +kernel, rfl⟩
theorem iX2_draw_46 : At YX2_draw 46 (.pop2) 1 47 := ⟨by decide +kernel, rfl⟩
theorem iX2_draw_47 : At YX2_draw 47 (.aload_n 0) 1 48 := ⟨by decide +kernel, rfl⟩
theorem iX2_draw_48 : At YX2_draw 48 (.aload_n 1) 1 49 := ⟨by decide +kernel, rfl⟩
theorem iX2_draw_49 : At YX2_draw 49 (.aload_n 2) 1 50 := ⟨by decide +kernel, rfl⟩
theorem iX2_draw_50 : At YX2_draw 50 (.sipush 9999) 3 53 := ⟨by decide +kernel, rfl⟩
theorem iX2_draw_53 : At YX2_draw 53 (.iload 4) 2 55 := ⟨by decide +kernel, rfl⟩
theorem iX2_draw_55 : At YX2_draw 55 (.isub) 1 56 := ⟨by decide +kernel, rfl⟩
theorem iX2_draw_56 : At YX2_draw 56 (.invokevirtual 45) 3 59 := ⟨by decide +kernel, rfl⟩
theorem iX2_draw_59 : At YX2_draw 59 (.istore_n 3) 1 60 := ⟨by decide +kernel, rfl⟩
theorem iX2_draw_60 : At YX2_draw 60 (.iconst 0) 1 61 := ⟨by decide +kernel, rfl⟩
theorem iX2_draw_61 : At YX2_draw 61 (.istore 5) 2 63 := ⟨by decide +kernel, rfl⟩
theorem iX2_draw_63 : At YX2_draw 63 (.iload 5) 2 65 := ⟨by decide +kernel, rfl⟩
theorem iX2_draw_65 : At YX2_draw 65 (.aload_n 1) 1 66 := ⟨by decide +kernel, rfl⟩
theorem iX2_draw_66 : At YX2_draw 66 (.getfield 27) 3 69 := ⟨by decide +kernel, rfl⟩
theorem iX2_draw_69 : AtJ YX2_draw 69 (.if_icmp .ge) 72 126 := ⟨57, by decide +kernel, rfl, by decide⟩
theorem iX2_draw_72 : At YX2_draw 72 (.aload_n 0) 1 73 := ⟨by decide +kernel, rfl⟩
theorem iX2_draw_73 : At YX2_draw 73 (.getfield 11) 3 76 := ⟨by decide +kernel, rfl⟩
theorem iX2_draw_76 : At YX2_draw 76 (.iload 5) 2 78 := ⟨by decide +kernel, rfl⟩
theorem iX2_draw_78 : At YX2_draw 78 (.aaload) 1 79 := ⟨by decide +kernel, rfl⟩
theorem iX2_draw_79 : At YX2_draw 79 (.iload 4) 2 81 := ⟨by decide +kernel, rfl⟩
theorem iX2_draw_81 : At YX2_draw 81 (.aload_n 2) 1 82 := ⟨by decide +kernel, rfl⟩
theorem iX2_draw_82 : At YX2_draw 82 (.getfield 49) 3 85 := ⟨by decide +kernel, rfl⟩
theorem iX2_draw_85 : At YX2_draw 85 (.iload 5) 2 87 := ⟨by decide +kernel, rfl⟩
theorem iX2_draw_87 : At YX2_draw 87 (.laload) 1 88 := ⟨by decide +kernel, rfl⟩
theorem iX2_draw_88 : At YX2_draw 88 (.aload_n 0) 1 89 := ⟨by decide +kernel, rfl⟩
theorem iX2_draw_89 : At YX2_draw 89 (.getfield 22) 3 92 := ⟨by decide +kernel, rfl⟩
theorem iX2_draw_92 : At YX2_draw 92 (.iload 5) 2 94 := ⟨by decide +kernel, rfl⟩
theorem iX2_draw_94 : At YX2_draw 94 (.laload) 1 95 := ⟨by decide +kernel, rfl⟩
theorem iX2_draw_95 : At YX2_draw 95 (.iload_n 3) 1 96 := ⟨by decide +kernel, rfl⟩
theorem iX2_draw_96 : At YX2_draw 96 (.invokevirtual 52) 3 99 := ⟨by decide +kernel, rfl⟩
theorem iX2_draw_99 : At YX2_draw 99 (.aload_n 0) 1 100 := ⟨by decide +kernel, rfl⟩
theorem iX2_draw_100 : At YX2_draw 100 (.getfield 19) 3 103 := ⟨by decide +kernel, rfl⟩
theorem iX2_draw_103 : At YX2_draw 103 (.iload 5) 2 105 := ⟨by decide +kernel, rfl⟩
theorem iX2_draw_105 : At YX2_draw 105 (.aaload) 1 106 := ⟨by decide +kernel, rfl⟩
theorem iX2_draw_106 : At YX2_draw 106 (.aload_n 2) 1 107 := ⟨by decide +kernel, rfl⟩
theorem iX2_draw_107 : At YX2_draw 107 (.getfield 56) 3 110 := ⟨by decide +kernel, rfl⟩
theorem iX2_draw_110 : At YX2_draw 110 (.iload 5) 2 112 := ⟨by decide +kernel, rfl⟩
theorem iX2_draw_112 : At YX2_draw 112 (.iaload) 1 113 := ⟨by decide +kernel, rfl⟩
theorem iX2_draw_113 : At YX2_draw 113 (.dup2) 1 114 := ⟨by decide +kernel, rfl⟩
theorem iX2_draw_114 : At YX2_draw 114 (.iaload) 1 115 := ⟨by decide +kernel, rfl⟩
theorem iX2_draw_115 : At YX2_draw 115 (.iload_n 3) 1 116 := ⟨by decide +kernel, rfl⟩
theorem iX2_draw_116 : At YX2_draw 116 (.iconst 1) 1 117 := ⟨by decide +kernel, rfl⟩
theorem iX2_draw_117 : At YX2_draw 117 (.iadd) 1 118 := ⟨by decide +kernel, rfl⟩
theorem iX2_draw_118 : At YX2_draw 118 (.iadd) 1 119 := ⟨by decide +kernel, rfl⟩
theorem iX2_draw_119 : At YX2_draw 119 (.iastore) 1 120 := ⟨by decide +kernel, rfl⟩
theorem iX2_draw_120 : At YX2_draw 120 (.iinc 5 1) 3 123 := ⟨by decide +kernel, rfl⟩
theorem iX2_draw_123 : AtJ YX2_draw 123 .goto 126 63 := ⟨-60, by decide +kernel, rfl, by decide⟩
theorem iX2_draw_126 : At YX2_draw 126 (.aload_n 0) 1 127 := ⟨by decide +kernel, rfl⟩
theorem iX2_draw_127 : At YX2_draw 127 (.getfield 11) 3 130 := ⟨by decide +kernel, rfl⟩
theorem iX2_draw_130 : At YX2_draw 130 (.bipush 6) 2 132 := ⟨by decide +kernel, rfl⟩
theorem iX2_draw_132 : At YX2_draw 132 (.aaload) 1 133 := ⟨by decide +kernel, rfl⟩
theorem iX2_draw_133 : At YX2_draw 133 (.iload 4) 2 135 := ⟨by decide +kernel, rfl⟩
theorem iX2_draw_135 : At YX2_draw 135 (.aload_n 2) 1 136 := ⟨by decide +kernel, rfl⟩
theorem iX2_draw_136 : At YX2_draw 136 (.getfield 49) 3 139 := ⟨by decide +kernel, rfl⟩
theorem iX2_draw_139 : At YX2_draw 139 (.bipush 6) 2 141 := ⟨by decide +kernel, rfl⟩
theorem iX2_draw_141 : At YX2_draw 141 (.laload) 1 142 := ⟨by decide +kernel, rfl⟩
theorem iX2_draw_142 : At YX2_draw 142 (.aload_n 0) 1 143 := ⟨by decide +kernel, rfl⟩
theorem iX2_draw_143 : At YX2_draw 143 (.getfield 22) 3 146 := ⟨by decide +kernel, rfl⟩
theorem iX2_draw_146 : At YX2_draw 146 (.bipush 6) 2 148 := ⟨by decide +kernel, rfl⟩
theorem iX2_draw_148 : At YX2_draw 148 (.laload) 1 149 := ⟨by decide +kernel, rfl⟩
theorem iX2_draw_149 : At YX2_draw 149 (.iload_n 3) 1 150 := ⟨by decide +kernel, rfl⟩
theorem iX2_draw_150 : At YX2_draw 150 (.invokevirtual 52) 3 153 := ⟨by decide +kernel, rfl⟩
theorem iX2_draw_153 : At YX2_draw 153 (.iload 4) 2 155 := ⟨by decide +kernel, rfl⟩
theorem iX2_draw_155 : At YX2_draw 155 (.iload_n 3) 1 156 := ⟨by decide +kernel, rfl⟩
theorem iX2_draw_156 : At YX2_draw 156 (.iconst 1) 1 157 := ⟨by decide +kernel, rfl⟩
theorem iX2_draw_157 : At YX2_draw 157 (.iadd) 1 158 := ⟨by decide +kernel, rfl⟩
theorem iX2_draw_158 : At YX2_draw 158 (.iadd) 1 159 := ⟨by decide +kernel, rfl⟩
theorem iX2_draw_159 : At YX2_draw 159 (.istore 4) 2 161 := ⟨by decide +kernel, rfl⟩
theorem iX2_draw_161 : AtJ YX2_draw 161 .goto 164 31 := ⟨-130, by decide +kernel, rfl, by decide⟩
theorem iX2_draw_164 : At YX2_draw 164 (.return_) 1 165 := ⟨by decide +kernel, rfl⟩
theorem iX2_straightFor_0 : At YX2_straightFor 0 (.iload_n 3) 1 1 := ⟨by decide +kernel, rfl⟩
theorem iX2_straightFor_1 : At YX2_straightFor 1 (.i2l) 1 2 := ⟨by decide +kernel, rfl⟩
theorem iX2_straightFor_2 : At YX2_straightFor 2 (.lstore 4) 2 4 := ⟨by decide +kernel, rfl⟩
theorem iX2_straightFor_4 : At YX2_straightFor 4 (.iconst 0) 1 5 := ⟨by decide +kernel, rfl⟩
theorem iX2_straightFor_5 : At YX2_straightFor 5 (.istore 6) 2 7 := ⟨by decide +kernel, rfl⟩
theorem iX2_straightFor_7 : At YX2_straightFor 7 (.iload 6) 2 9 := ⟨by decide +kernel, rfl⟩
theorem iX2_straightFor_9 : At YX2_straightFor 9 (.aload_n 1) 1 10 := ⟨by decide +kernel, rfl⟩
theorem iX2_straightFor_10 : At YX2_straightFor 10 (.getfield 27) 3 13 := ⟨by decide +kernel, rfl⟩
theorem iX2_straightFor_13 : AtJ YX2_straightFor 13 (.if_icmp .ge) 16 111 := ⟨98, by decide +kernel, rfl, by decide⟩
theorem iX2_straightFor_16 : At YX2_straightFor 16 (.aload_n 0) 1 17 := ⟨by decide +kernel, rfl⟩
theorem iX2_straightFor_17 : At YX2_straightFor 17 (.aload_n 1) 1 18 := ⟨by decide +kernel, rfl⟩
theorem iX2_straightFor_18 : At YX2_straightFor 18 (.iload 6) 2 20 := ⟨by decide +kernel, rfl⟩
theorem iX2_straightFor_20 : At YX2_straightFor 20 (.invokevirtual 60) 3 23 := ⟨by decide +kernel, rfl⟩
theorem iX2_straightFor_23 : At YX2_straightFor 23 (.lstore 7) 2 25 := ⟨by decide +kernel, rfl⟩
theorem iX2_straightFor_25 : At YX2_straightFor 25 (.aload_n 2) 1 26 := ⟨by decide +kernel, rfl⟩
theorem iX2_straightFor_26 : At YX2_straightFor 26 (.getfield 56) 3 29 := ⟨by decide +kernel, rfl⟩
theorem iX2_straightFor_29 : At YX2_straightFor 29 (.iload 6) 2 31 := ⟨by decide +kernel, rfl⟩
theorem iX2_straightFor_31 : At YX2_straightFor 31 (.iaload) 1 32 := ⟨by decide +kernel, rfl⟩
theorem iX2_straightFor_32 : At YX2_straightFor 32 (.istore 9) 2 34 := ⟨by decide +kernel, rfl⟩
theorem iX2_straightFor_34 : At YX2_straightFor 34 (.aload_n 2) 1 35 := ⟨by decide +kernel, rfl⟩
theorem iX2_straightFor_35 : At YX2_straightFor 35 (.getfield 63) 3 38 := ⟨by decide +kernel, rfl⟩
theorem iX2_straightFor_38 : At YX2_straightFor 38 (.iload 6) 2 40 := ⟨by decide +kernel, rfl⟩
theorem iX2_straightFor_40 : At YX2_straightFor 40 (.laload) 1 41 := ⟨by decide +kernel, rfl⟩
theorem iX2_straightFor_41 : At YX2_straightFor 41 (.lstore 10) 2 43 := ⟨by decide +kernel, rfl⟩
theorem iX2_straightFor_43 : At YX2_straightFor 43 (.lload 10) 2 45 := ⟨by decide +kernel, rfl⟩
theorem iX2_straightFor_45 : At YX2_straightFor 45 (.lconst 0) 1 46 := ⟨by decide +kernel, rfl⟩
theorem iX2_straightFor_46 : At YX2_straightFor 46 (.lcmp) 1 47 := ⟨by decide +kernel, rfl⟩
theorem iX2_straightFor_47 : AtJ YX2_straightFor 47 (.ifCond .ge) 50 61 := ⟨14, by decide +kernel, rfl, by decide⟩
theorem iX2_straightFor_50 : At YX2_straightFor 50 (.aload_n 0) 1 51 := ⟨by decide +kernel, rfl⟩
theorem iX2_straightFor_51 : At YX2_straightFor 51 (.getfield 22) 3 54 := ⟨by decide +kernel, rfl⟩
theorem iX2_straightFor_54 : At YX2_straightFor 54 (.iload 6) 2 56 := ⟨by decide +kernel, rfl⟩
theorem iX2_straightFor_56 : At YX2_straightFor 56 (.lconst 0) 1 57 := ⟨by decide +kernel, rfl⟩
theorem iX2_straightFor_57 : At YX2_straightFor 57 (.lastore) 1 58 := ⟨by decide +kernel, rfl⟩
theorem iX2_straightFor_58 : AtJ YX2_straightFor 58 .goto 61 86 := ⟨28, by decide +kernel, rfl, by decide⟩
theorem iX2_straightFor_61 : At YX2_straightFor 61 (.aload_n 0) 1 62 := ⟨by decide +kernel, rfl⟩
theorem iX2_straightFor_62 : At YX2_straightFor 62 (.getfield 22) 3 65 := ⟨by decide +kernel, rfl⟩
theorem iX2_straightFor_65 : At YX2_straightFor 65 (.iload 6) 2 67 := ⟨by decide +kernel, rfl⟩
theorem iX2_straightFor_67 : At YX2_straightFor 67 (.lload 7) 2 69 := ⟨by decide +kernel, rfl⟩
theorem iX2_straightFor_69 : At YX2_straightFor 69 (.ldc2_w 66) 3 72 := ⟨by decide +kernel, rfl⟩
theorem iX2_straightFor_72 : At YX2_straightFor 72 (.ldiv) 1 73 := ⟨by decide +kernel, rfl⟩
theorem iX2_straightFor_73 : At YX2_straightFor 73 (.aload_n 1) 1 74 := ⟨by decide +kernel, rfl⟩
theorem iX2_straightFor_74 : At YX2_straightFor 74 (.getfield 68) 3 77 := ⟨by decide +kernel, rfl⟩
theorem iX2_straightFor_77 : At YX2_straightFor 77 (.iload 6) 2 79 := ⟨by decide +kernel, rfl⟩
theorem iX2_straightFor_79 : At YX2_straightFor 79 (.aaload) 1 80 := ⟨by decide +kernel, rfl⟩
theorem iX2_straightFor_80 : At YX2_straightFor 80 (.iload 9) 2 82 := ⟨by decide +kernel, rfl⟩
theorem iX2_straightFor_82 : At YX2_straightFor 82 (.iaload) 1 83 := ⟨by decide +kernel, rfl⟩
theorem iX2_straightFor_83 : At YX2_straightFor 83 (.i2l) 1 84 := ⟨by decide +kernel, rfl⟩
theorem iX2_straightFor_84 : At YX2_straightFor 84 (.lmul) 1 85 := ⟨by decide +kernel, rfl⟩
theorem iX2_straightFor_85 : At YX2_straightFor 85 (.lastore) 1 86 := ⟨by decide +kernel, rfl⟩
theorem iX2_straightFor_86 : At YX2_straightFor 86 (.lload 4) 2 88 := ⟨by decide +kernel, rfl⟩
theorem iX2_straightFor_88 : At YX2_straightFor 88 (.aload_n 1) 1 89 := ⟨by decide +kernel, rfl⟩
theorem iX2_straightFor_89 : At YX2_straightFor 89 (.iload 6) 2 91 := ⟨by decide +kernel, rfl⟩
theorem iX2_straightFor_91 : At YX2_straightFor 91 (.iload 9) 2 93 := ⟨by decide +kernel, rfl⟩
theorem iX2_straightFor_93 : At YX2_straightFor 93 (.lload 10) 2 95 := ⟨by decide +kernel, rfl⟩
theorem iX2_straightFor_95 : At YX2_straightFor 95 (.lload 7) 2 97 := ⟨by decide +kernel, rfl⟩
theorem iX2_straightFor_97 : At YX2_straightFor 97 (.invokestatic 71) 3 100 := ⟨by decide +kernel, rfl⟩
theorem iX2_straightFor_100 : At YX2_straightFor 100 (.invokestatic 75) 3 103 := ⟨by decide +kernel, rfl⟩
theorem iX2_straightFor_103 : At YX2_straightFor 103 (.lstore 4) 2 105 := ⟨by decide +kernel, rfl⟩
theorem iX2_straightFor_105 : At YX2_straightFor 105 (.iinc 6 1) 3 108 := ⟨by decide +kernel, rfl⟩
theorem iX2_straightFor_108 : AtJ YX2_straightFor 108 .goto 111 7 := ⟨-101, by decide +kernel, rfl, by decide⟩
theorem iX2_straightFor_111 : At YX2_straightFor 111 (.aload_n 0) 1 112 := ⟨by decide +kernel, rfl⟩
theorem iX2_straightFor_112 : At YX2_straightFor 112 (.getfield 22) 3 115 := ⟨by decide +kernel, rfl⟩
theorem iX2_straightFor_115 : At YX2_straightFor 115 (.bipush 6) 2 117 := ⟨by decide +kernel, rfl⟩
theorem iX2_straightFor_117 : At YX2_straightFor 117 (.aload_n 0) 1 118 := ⟨by decide +kernel, rfl⟩
theorem iX2_straightFor_118 : At YX2_straightFor 118 (.aload_n 1) 1 119 := ⟨by decide +kernel, rfl⟩
theorem iX2_straightFor_119 : At YX2_straightFor 119 (.bipush 6) 2 121 := ⟨by decide +kernel, rfl⟩
theorem iX2_straightFor_121 : At YX2_straightFor 121 (.invokevirtual 60) 3 124 := ⟨by decide +kernel, rfl⟩
theorem iX2_straightFor_124 : At YX2_straightFor 124 (.lastore) 1 125 := ⟨by decide +kernel, rfl⟩
theorem iX2_straightFor_125 : At YX2_straightFor 125 (.lload 4) 2 127 := ⟨by decide +kernel, rfl⟩
theorem iX2_straightFor_127 : At YX2_straightFor 127 (.l2i) 1 128 := ⟨by decide +kernel, rfl⟩
theorem iX2_straightFor_128 : At YX2_straightFor 128 (.ireturn) 1 129 := ⟨by decide +kernel, rfl⟩
theorem iX2_gainOfTerms_0 : At YX2_gainOfTerms 0 (.aload_n 1) 1 1 := ⟨by decide +kernel, rfl⟩
theorem iX2_gainOfTerms_1 : At YX2_gainOfTerms 1 (.getfield 81) 3 4 := ⟨by decide +kernel, rfl⟩
theorem iX2_gainOfTerms_4 : At YX2_gainOfTerms 4 (.iload_n 2) 1 5 := ⟨by decide +kernel, rfl⟩
theorem iX2_gainOfTerms_5 : At YX2_gainOfTerms 5 (.aaload) 1 6 := ⟨by decide +kernel, rfl⟩
theorem iX2_gainOfTerms_6 : At YX2_gainOfTerms 6 (.astore_n 3) 1 7 := ⟨by decide +kernel, rfl⟩
theorem iX2_gainOfTerms_7 : At YX2_gainOfTerms 7 (.lconst 0) 1 8 := ⟨by decide +kernel, rfl⟩
theorem iX2_gainOfTerms_8 : At YX2_gainOfTerms 8 (.lstore 4) 2 10 := ⟨by decide +kernel, rfl⟩
theorem iX2_gainOfTerms_10 : At YX2_gainOfTerms 10 (.iconst 0) 1 11 := ⟨by decide +kernel, rfl⟩
theorem iX2_gainOfTerms_11 : At YX2_gainOfTerms 11 (.istore 6) 2 13 := ⟨by decide +kernel, rfl⟩
theorem iX2_gainOfTerms_13 : At YX2_gainOfTerms 13 (.iload 6) 2 15 := ⟨by decide +kernel, rfl⟩
theorem iX2_gainOfTerms_15 : At YX2_gainOfTerms 15 (.aload_n 1) 1 16 := ⟨by decide +kernel, rfl⟩
theorem iX2_gainOfTerms_16 : At YX2_gainOfTerms 16 (.getfield 84) 3 19 := ⟨by decide +kernel, rfl⟩
theorem iX2_gainOfTerms_19 : At YX2_gainOfTerms 19 (.iload_n 2) 1 20 := ⟨by decide +kernel, rfl⟩
theorem iX2_gainOfTerms_20 : At YX2_gainOfTerms 20 (.iaload) 1 21 := ⟨by decide +kernel, rfl⟩
theorem iX2_gainOfTerms_21 : AtJ YX2_gainOfTerms 21 (.if_icmp .ge) 24 95 := ⟨74, by decide +kernel, rfl, by decide⟩
theorem iX2_gainOfTerms_24 : At YX2_gainOfTerms 24 (.aload_n 3) 1 25 := ⟨by decide +kernel, rfl⟩
theorem iX2_gainOfTerms_25 : At YX2_gainOfTerms 25 (.iload 6) 2 27 := ⟨by decide +kernel, rfl⟩
theorem iX2_gainOfTerms_27 : At YX2_gainOfTerms 27 (.iaload) 1 28 := ⟨by decide +kernel, rfl⟩
theorem iX2_gainOfTerms_28 : At YX2_gainOfTerms 28 (.bipush 6) 2 30 := ⟨by decide +kernel, rfl⟩
theorem iX2_gainOfTerms_30 : AtJ YX2_gainOfTerms 30 (.if_icmp .ne) 33 55 := ⟨25, by decide +kernel, rfl, by decide⟩
theorem iX2_gainOfTerms_33 : At YX2_gainOfTerms 33 (.lload 4) 2 35 := ⟨by decide +kernel, rfl⟩
theorem iX2_gainOfTerms_35 : At YX2_gainOfTerms 35 (.aload_n 1) 1 36 := ⟨by decide +kernel, rfl⟩
theorem iX2_gainOfTerms_36 : At YX2_gainOfTerms 36 (.getfield 87) 3 39 := ⟨by decide +kernel, rfl⟩
theorem iX2_gainOfTerms_39 : At YX2_gainOfTerms 39 (.iload_n 2) 1 40 := ⟨by decide +kernel, rfl⟩
theorem iX2_gainOfTerms_40 : At YX2_gainOfTerms 40 (.aaload) 1 41 := ⟨by decide +kernel, rfl⟩
theorem iX2_gainOfTerms_41 : At YX2_gainOfTerms 41 (.iload 6) 2 43 := ⟨by decide +kernel, rfl⟩
theorem iX2_gainOfTerms_43 : At YX2_gainOfTerms 43 (.iaload) 1 44 := ⟨by decide +kernel, rfl⟩
theorem iX2_gainOfTerms_44 : At YX2_gainOfTerms 44 (.i2l) 1 45 := ⟨by decide +kernel, rfl⟩
theorem iX2_gainOfTerms_45 : At YX2_gainOfTerms 45 (.ldc2_w 90) 3 48 := ⟨by decide +kernel, rfl⟩
theorem iX2_gainOfTerms_48 : At YX2_gainOfTerms 48 (.lmul) 1 49 := ⟨by decide +kernel, rfl⟩
theorem iX2_gainOfTerms_49 : At YX2_gainOfTerms 49 (.ladd) 1 50 := ⟨by decide +kernel, rfl⟩
theorem iX2_gainOfTerms_50 : At YX2_gainOfTerms 50 (.lstore 4) 2 52 := ⟨by decide +kernel, rfl⟩
theorem iX2_gainOfTerms_52 : AtJ YX2_gainOfTerms 52 .goto 55 89 := ⟨37, by decide +kernel, rfl, by decide⟩
theorem iX2_gainOfTerms_55 : At YX2_gainOfTerms 55 (.aload_n 3) 1 56 := ⟨by decide +kernel, rfl⟩
theorem iX2_gainOfTerms_56 : At YX2_gainOfTerms 56 (.iload 6) 2 58 := ⟨by decide +kernel, rfl⟩
theorem iX2_gainOfTerms_58 : At YX2_gainOfTerms 58 (.iaload) 1 59 := ⟨by decide +kernel, rfl⟩
theorem iX2_gainOfTerms_59 : At YX2_gainOfTerms 59 (.bipush 6) 2 61 := ⟨by decide +kernel, rfl⟩
theorem iX2_gainOfTerms_61 : AtJ YX2_gainOfTerms 61 (.if_icmp .ge) 64 89 := ⟨28, by decide +kernel, rfl, by decide⟩
theorem iX2_gainOfTerms_64 : At YX2_gainOfTerms 64 (.lload 4) 2 66 := ⟨by decide +kernel, rfl⟩
theorem iX2_gainOfTerms_66 : At YX2_gainOfTerms 66 (.aload_n 1) 1 67 := ⟨by decide +kernel, rfl⟩
theorem iX2_gainOfTerms_67 : At YX2_gainOfTerms 67 (.getfield 87) 3 70 := ⟨by decide +kernel, rfl⟩
theorem iX2_gainOfTerms_70 : At YX2_gainOfTerms 70 (.iload_n 2) 1 71 := ⟨by decide +kernel, rfl⟩
theorem iX2_gainOfTerms_71 : At YX2_gainOfTerms 71 (.aaload) 1 72 := ⟨by decide +kernel, rfl⟩
theorem iX2_gainOfTerms_72 : At YX2_gainOfTerms 72 (.iload 6) 2 74 := ⟨by decide +kernel, rfl⟩
theorem iX2_gainOfTerms_74 : At YX2_gainOfTerms 74 (.iaload) 1 75 := ⟨by decide +kernel, rfl⟩
theorem iX2_gainOfTerms_75 : At YX2_gainOfTerms 75 (.i2l) 1 76 := ⟨by decide +kernel, rfl⟩
theorem iX2_gainOfTerms_76 : At YX2_gainOfTerms 76 (.aload_n 0) 1 77 := ⟨by decide +kernel, rfl⟩
theorem iX2_gainOfTerms_77 : At YX2_gainOfTerms 77 (.getfield 22) 3 80 := ⟨by decide +kernel, rfl⟩
theorem iX2_gainOfTerms_80 : At YX2_gainOfTerms 80 (.aload_n 3) 1 81 := ⟨by decide +kernel, rfl⟩
theorem iX2_gainOfTerms_81 : At YX2_gainOfTerms 81 (.iload 6) 2 83 := ⟨by decide +kernel, rfl⟩
theorem iX2_gainOfTerms_83 : At YX2_gainOfTerms 83 (.iaload) 1 84 := ⟨by decide +kernel, rfl⟩
theorem iX2_gainOfTerms_84 : At YX2_gainOfTerms 84 (.laload) 1 85 := ⟨by decide +kernel, rfl⟩
theorem iX2_gainOfTerms_85 : At YX2_gainOfTerms 85 (.lmul) 1 86 := ⟨by decide +kernel, rfl⟩
theorem iX2_gainOfTerms_86 : At YX2_gainOfTerms 86 (.ladd) 1 87 := ⟨by decide +kernel, rfl⟩
theorem iX2_gainOfTerms_87 : At YX2_gainOfTerms 87 (.lstore 4) 2 89 := ⟨by decide +kernel, rfl⟩
theorem iX2_gainOfTerms_89 : At YX2_gainOfTerms 89 (.iinc 6 1) 3 92 := ⟨by decide +kernel, rfl⟩
theorem iX2_gainOfTerms_92 : AtJ YX2_gainOfTerms 92 .goto 95 13 := ⟨-79, by decide +kernel, rfl, by decide⟩
theorem iX2_gainOfTerms_95 : At YX2_gainOfTerms 95 (.lload 4) 2 97 := ⟨by decide +kernel, rfl⟩
theorem iX2_gainOfTerms_97 : At YX2_gainOfTerms 97 (.lreturn) 1 98 := ⟨by decide +kernel, rfl⟩
theorem iX2_reachIn_0 : At YX2_reachIn 0 (.lload 5) 2 2 := ⟨by decide +kernel, rfl⟩
theorem iX2_reachIn_2 : At YX2_reachIn 2 (.lconst 0) 1 3 := ⟨by decide +kernel, rfl⟩
theorem iX2_reachIn_3 : At YX2_reachIn 3 (.lcmp) 1 4 := ⟨by decide +kernel, rfl⟩
theorem iX2_reachIn_4 : AtJ YX2_reachIn 4 (.ifCond .le) 7 75 := ⟨71, by decide +kernel, rfl, by decide⟩
theorem iX2_reachIn_7 : At YX2_reachIn 7 (.lload_n 3) 1 8 := ⟨by decide +kernel, rfl⟩
theorem iX2_reachIn_8 : At YX2_reachIn 8 (.lconst 0) 1 9 := ⟨by decide +kernel, rfl⟩
theorem iX2_reachIn_9 : At YX2_reachIn 9 (.lcmp) 1 10 := ⟨by decide +kernel, rfl⟩
theorem iX2_reachIn_10 : AtJ YX2_reachIn 10 (.ifCond .ge) 13 22 := ⟨12, by decide +kernel, rfl, by decide⟩
theorem iX2_reachIn_13 : At YX2_reachIn 13 (.ldc2_w 92) 3 16 := ⟨by decide +kernel, rfl⟩
theorem iX2_reachIn_16 : At YX2_reachIn 16 (.lload_n 3) 1 17 := ⟨by decide +kernel, rfl⟩
theorem iX2_reachIn_17 : At YX2_reachIn 17 (.lsub) 1 18 := ⟨by decide +kernel, rfl⟩
theorem iX2_reachIn_18 : At YX2_reachIn 18 (.lload 5) 2 20 := ⟨by decide +kernel, rfl⟩
theorem iX2_reachIn_20 : At YX2_reachIn 20 (.ldiv) 1 21 := ⟨by decide +kernel, rfl⟩
theorem iX2_reachIn_21 : At YX2_reachIn 21 (.lreturn) 1 22 := ⟨by decide +kernel, rfl⟩
theorem iX2_reachIn_22 : At YX2_reachIn 22 (.iload_n 2) 1 23 := ⟨by decide +kernel, rfl⟩
theorem iX2_reachIn_23 : At YX2_reachIn 23 (.iconst 1) 1 24 := ⟨by decide +kernel, rfl⟩
theorem iX2_reachIn_24 : At YX2_reachIn 24 (.iadd) 1 25 := ⟨by decide +kernel, rfl⟩
theorem iX2_reachIn_25 : At YX2_reachIn 25 (.aload_n 0) 1 26 := ⟨by decide +kernel, rfl⟩
theorem iX2_reachIn_26 : At YX2_reachIn 26 (.getfield 94) 3 29 := ⟨by decide +kernel, rfl⟩
theorem iX2_reachIn_29 : At YX2_reachIn 29 (.iload_n 1) 1 30 := ⟨by decide +kernel, rfl⟩
theorem iX2_reachIn_30 : At YX2_reachIn 30 (.iaload) 1 31 := ⟨by decide +kernel, rfl⟩
theorem iX2_reachIn_31 : AtJ YX2_reachIn 31 (.if_icmp .ne) 34 38 := ⟨7, by decide +kernel, rfl, by decide⟩
theorem iX2_reachIn_34 : At YX2_reachIn 34 (.iconst 1) 1 35 := ⟨by decide +kernel, rfl⟩
theorem iX2_reachIn_35 : AtJ YX2_reachIn 35 .goto 38 39 := ⟨4, by decide +kernel, rfl, by decide⟩
theorem iX2_reachIn_38 : At YX2_reachIn 38 (.iconst 0) 1 39 := ⟨by decide +kernel, rfl⟩
theorem iX2_reachIn_39 : At YX2_reachIn 39 (.istore 7) 2 41 := ⟨by decide +kernel, rfl⟩
theorem iX2_reachIn_41 : At YX2_reachIn 41 (.iload 7) 2 43 := ⟨by decide +kernel, rfl⟩
theorem iX2_reachIn_43 : AtJ YX2_reachIn 43 (.ifCond .eq) 46 52 := ⟨9, by decide +kernel, rfl, by decide⟩
theorem iX2_reachIn_46 : At YX2_reachIn 46 (.ldc2_w 97) 3 49 := ⟨by decide +kernel, rfl⟩
theorem iX2_reachIn_49 : AtJ YX2_reachIn 49 .goto 52 74 := ⟨25, by decide +kernel, rfl, by decide⟩
theorem iX2_reachIn_52 : At YX2_reachIn 52 (.aload_n 0) 1 53 := ⟨by decide +kernel, rfl⟩
theorem iX2_reachIn_53 : At YX2_reachIn 53 (.getfield 99) 3 56 := ⟨by decide +kernel, rfl⟩
theorem iX2_reachIn_56 : At YX2_reachIn 56 (.iload_n 1) 1 57 := ⟨by decide +kernel, rfl⟩
theorem iX2_reachIn_57 : At YX2_reachIn 57 (.aaload) 1 58 := ⟨by decide +kernel, rfl⟩
theorem iX2_reachIn_58 : At YX2_reachIn 58 (.iload_n 2) 1 59 := ⟨by decide +kernel, rfl⟩
theorem iX2_reachIn_59 : At YX2_reachIn 59 (.iconst 1) 1 60 := ⟨by decide +kernel, rfl⟩
theorem iX2_reachIn_60 : At YX2_reachIn 60 (.iadd) 1 61 := ⟨by decide +kernel, rfl⟩
theorem iX2_reachIn_61 : At YX2_reachIn 61 (.iaload) 1 62 := ⟨by decide +kernel, rfl⟩
theorem iX2_reachIn_62 : At YX2_reachIn 62 (.i2l) 1 63 := ⟨by decide +kernel, rfl⟩
theorem iX2_reachIn_63 : At YX2_reachIn 63 (.ldc2_w 90) 3 66 := ⟨by decide +kernel, rfl⟩
theorem iX2_reachIn_66 : At YX2_reachIn 66 (.lmul) 1 67 := ⟨by decide +kernel, rfl⟩
theorem iX2_reachIn_67 : At YX2_reachIn 67 (.lconst 1) 1 68 := ⟨by decide +kernel, rfl⟩
theorem iX2_reachIn_68 : At YX2_reachIn 68 (.lsub) 1 69 := ⟨by decide +kernel, rfl⟩
theorem iX2_reachIn_69 : At YX2_reachIn 69 (.lload_n 3) 1 70 := ⟨by decide +kernel, rfl⟩
theorem iX2_reachIn_70 : At YX2_reachIn 70 (.lsub) 1 71 := ⟨by decide +kernel, rfl⟩
theorem iX2_reachIn_71 : At YX2_reachIn 71 (.lload 5) 2 73 := ⟨by decide +kernel, rfl⟩
theorem iX2_reachIn_73 : At YX2_reachIn 73 (.ldiv) 1 74 := ⟨by decide +kernel, rfl⟩
theorem iX2_reachIn_74 : At YX2_reachIn 74 (.lreturn) 1 75 := ⟨by decide +kernel, rfl⟩
theorem iX2_reachIn_75 : At YX2_reachIn 75 (.lload 5) 2 77 := ⟨by decide +kernel, rfl⟩
theorem iX2_reachIn_77 : At YX2_reachIn 77 (.lconst 0) 1 78 := ⟨by decide +kernel, rfl⟩
theorem iX2_reachIn_78 : At YX2_reachIn 78 (.lcmp) 1 79 := ⟨by decide +kernel, rfl⟩
theorem iX2_reachIn_79 : AtJ YX2_reachIn 79 (.ifCond .ge) 82 108 := ⟨29, by decide +kernel, rfl, by decide⟩
theorem iX2_reachIn_82 : At YX2_reachIn 82 (.lload_n 3) 1 83 := ⟨by decide +kernel, rfl⟩
theorem iX2_reachIn_83 : At YX2_reachIn 83 (.lconst 0) 1 84 := ⟨by decide +kernel, rfl⟩
theorem iX2_reachIn_84 : At YX2_reachIn 84 (.lcmp) 1 85 := ⟨by decide +kernel, rfl⟩
theorem iX2_reachIn_85 : AtJ YX2_reachIn 85 (.ifCond .lt) 88 108 := ⟨23, by decide +kernel, rfl, by decide⟩
theorem iX2_reachIn_88 : At YX2_reachIn 88 (.lload_n 3) 1 89 := ⟨by decide +kernel, rfl⟩
theorem iX2_reachIn_89 : At YX2_reachIn 89 (.aload_n 0) 1 90 := ⟨by decide +kernel, rfl⟩
theorem iX2_reachIn_90 : At YX2_reachIn 90 (.getfield 99) 3 93 := ⟨by decide +kernel, rfl⟩
theorem iX2_reachIn_93 : At YX2_reachIn 93 (.iload_n 1) 1 94 := ⟨by decide +kernel, rfl⟩
theorem iX2_reachIn_94 : At YX2_reachIn 94 (.aaload) 1 95 := ⟨by decide +kernel, rfl⟩
theorem iX2_reachIn_95 : At YX2_reachIn 95 (.iload_n 2) 1 96 := ⟨by decide +kernel, rfl⟩
theorem iX2_reachIn_96 : At YX2_reachIn 96 (.iaload) 1 97 := ⟨by decide +kernel, rfl⟩
theorem iX2_reachIn_97 : At YX2_reachIn 97 (.i2l) 1 98 := ⟨by decide +kernel, rfl⟩
theorem iX2_reachIn_98 : At YX2_reachIn 98 (.ldc2_w 90) 3 101 := ⟨by decide +kernel, rfl⟩
theorem iX2_reachIn_101 : At YX2_reachIn 101 (.lmul) 1 102 := ⟨by decide +kernel, rfl⟩
theorem iX2_reachIn_102 : At YX2_reachIn 102 (.lsub) 1 103 := ⟨by decide +kernel, rfl⟩
theorem iX2_reachIn_103 : At YX2_reachIn 103 (.lload 5) 2 105 := ⟨by decide +kernel, rfl⟩
theorem iX2_reachIn_105 : At YX2_reachIn 105 (.lneg) 1 106 := ⟨by decide +kernel, rfl⟩
theorem iX2_reachIn_106 : At YX2_reachIn 106 (.ldiv) 1 107 := ⟨by decide +kernel, rfl⟩
theorem iX2_reachIn_107 : At YX2_reachIn 107 (.lreturn) 1 108 := ⟨by decide +kernel, rfl⟩
theorem iX2_reachIn_108 : At YX2_reachIn 108 (.ldc2_w 97) 3 111 := ⟨by decide +kernel, rfl⟩
theorem iX2_reachIn_111 : At YX2_reachIn 111 (.lreturn) 1 112 := ⟨by decide +kernel, rfl⟩
theorem iX3_init_0 : At YX3_init 0 (.aload_n 0) 1 1 := ⟨by decide +kernel, rfl⟩
theorem iX3_init_1 : At YX3_init 1 (.invokespecial 3) 3 4 := ⟨by decide +kernel, rfl⟩
theorem iX3_init_4 : At YX3_init 4 (.aload_n 0) 1 5 := ⟨by decide +kernel, rfl⟩
theorem iX3_init_5 : At YX3_init 5 (.bipush 7) 2 7 := ⟨by decide +kernel, rfl⟩
theorem iX3_init_7 : At YX3_init 7 (.newarray .long) 2 9 := ⟨by decide +kernel, rfl⟩
theorem iX3_init_9 : At YX3_init 9 (.putfield 9) 3 12 := ⟨by decide +kernel, rfl⟩
theorem iX3_init_12 : At YX3_init 12 (.aload_n 0) 1 13 := ⟨by decide +kernel, rfl⟩
theorem iX3_init_13 : At YX3_init 13 (.bipush 7) 2 15 := ⟨by decide +kernel, rfl⟩
theorem iX3_init_15 : At YX3_init 15 (.newarray .long) 2 17 := ⟨by decide +kernel, rfl⟩
theorem iX3_init_17 : At YX3_init 17 (.putfield 15) 3 20 := ⟨by decide +kernel, rfl⟩
theorem iX3_init_20 : At YX3_init 20 (.aload_n 0) 1 21 := ⟨by decide +kernel, rfl⟩
theorem iX3_init_21 : At YX3_init 21 (.bipush 6) 2 23 := ⟨by decide +kernel, rfl⟩
theorem iX3_init_23 : At YX3_init 23 (.newarray .int) 2 25 := ⟨by decide +kernel, rfl⟩
theorem iX3_init_25 : At YX3_init 25 (.putfield 18) 3 28 := ⟨by decide +kernel, rfl⟩
theorem iX3_init_28 : At YX3_init 28 (.return_) 1 29 := ⟨by decide +kernel, rfl⟩
theorem iX3_reckon_0 : At YX3_reckon 0 (.aload_n 0) 1 1 := ⟨by decide +kernel, rfl⟩
theorem iX3_reckon_1 : At YX3_reckon 1 (.aload_n 1) 1 2 := ⟨by decide +kernel, rfl⟩
theorem iX3_reckon_2 : At YX3_reckon 2 (.iload_n 2) 1 3 := ⟨by decide +kernel, rfl⟩
theorem iX3_reckon_3 : At YX3_reckon 3 (.aload_n 1) 1 4 := ⟨by decide +kernel, rfl⟩
theorem iX3_reckon_4 : At YX3_reckon 4 (.getfield 22) 3 7 := ⟨by decide +kernel, rfl⟩
theorem iX3_reckon_7 : At YX3_reckon 7 (.iconst (-1)) 1 8 := ⟨by decide +kernel, rfl⟩
theorem iX3_reckon_8 : At YX3_reckon 8 (.lconst 0) 1 9 := ⟨by decide +kernel, rfl⟩
theorem iX3_reckon_9 : At YX3_reckon 9 (.invokevirtual 28) 3 12 := ⟨by decide +kernel, rfl⟩
theorem iX3_reckon_12 : At YX3_reckon 12 (.lreturn) 1 13 := ⟨by decide +kernel, rfl⟩
theorem iX3_reckonHeld_0 : At YX3_reckonHeld 0 (.iconst 0) 1 1 := ⟨by decide +kernel, rfl⟩
theorem iX3_reckonHeld_1 : At YX3_reckonHeld 1 (.istore 7) 2 3 := ⟨by decide +kernel, rfl⟩
theorem iX3_reckonHeld_3 : At YX3_reckonHeld 3 (.iload 7) 2 5 := ⟨by decide +kernel, rfl⟩
theorem iX3_reckonHeld_5 : At YX3_reckonHeld 5 (.aload_n 1) 1 6 := ⟨by decide +kernel, rfl⟩
theorem iX3_reckonHeld_6 : At YX3_reckonHeld 6 (.getfield 32) 3 9 := ⟨by decide +kernel, rfl⟩
theorem iX3_reckonHeld_9 : AtJ YX3_reckonHeld 9 (.if_icmp .ge) 12 94 := ⟨85, by decide +kernel, rfl, by decide⟩
theorem iX3_reckonHeld_12 : At YX3_reckonHeld 12 (.aload_n 0) 1 13 := ⟨by decide +kernel, rfl⟩
theorem iX3_reckonHeld_13 : At YX3_reckonHeld 13 (.aload_n 1) 1 14 := ⟨by decide +kernel, rfl⟩
theorem iX3_reckonHeld_14 : At YX3_reckonHeld 14 (.iload 7) 2 16 := ⟨by decide +kernel, rfl⟩
theorem iX3_reckonHeld_16 : At YX3_reckonHeld 16 (.iload_n 2) 1 17 := ⟨by decide +kernel, rfl⟩
theorem iX3_reckonHeld_17 : At YX3_reckonHeld 17 (.iload_n 3) 1 18 := ⟨by decide +kernel, rfl⟩
theorem iX3_reckonHeld_18 : At YX3_reckonHeld 18 (.invokevirtual 35) 3 21 := ⟨by decide +kernel, rfl⟩
theorem iX3_reckonHeld_21 : At YX3_reckonHeld 21 (.lstore 8) 2 23 := ⟨by decide +kernel, rfl⟩
theorem iX3_reckonHeld_23 : At YX3_reckonHeld 23 (.lload 8) 2 25 := ⟨by decide +kernel, rfl⟩
theorem iX3_reckonHeld_25 : At YX3_reckonHeld 25 (.lconst 0) 1 26 := ⟨by decide +kernel, rfl⟩
theorem iX3_reckonHeld_26 : At YX3_reckonHeld 26 (.invokestatic 39) 3 29 := ⟨by decide +kernel, rfl⟩
theorem iX3_reckonHeld_29 : At YX3_reckonHeld 29 (.lstore 10) 2 31 := ⟨by decide +kernel, rfl⟩
theorem iX3_reckonHeld_31 : At YX3_reckonHeld 31 (.aload_n 1) 1 32 := ⟨by decide +kernel, rfl⟩
theorem iX3_reckonHeld_32 : At YX3_reckonHeld 32 (.iload 7) 2 34 := ⟨by decide +kernel, rfl⟩
theorem iX3_reckonHeld_34 : At YX3_reckonHeld 34 (.lload 10) 2 36 := ⟨by decide +kernel, rfl⟩
theorem iX3_reckonHeld_36 : At YX3_reckonHeld 36 (.invokevirtual 45) 3 39 := ⟨by decide +kernel, rfl⟩
theorem iX3_reckonHeld_39 : At YX3_reckonHeld 39 (.istore 12) 2 41 := ⟨by decide +kernel, rfl⟩
theorem iX3_reckonHeld_41 : At YX3_reckonHeld 41 (.aload_n 0) 1 42 := ⟨by decide +kernel, rfl⟩
theorem iX3_reckonHeld_42 : At YX3_reckonHeld 42 (.getfield 9) 3 45 := ⟨by decide +kernel, rfl⟩
theorem iX3_reckonHeld_45 : At YX3_reckonHeld 45 (.iload 7) 2 47 := ⟨by decide +kernel, rfl⟩
theorem iX3_reckonHeld_47 : At YX3_reckonHeld 47 (.lload 8) 2 49 := ⟨by decide +kernel, rfl⟩
theorem iX3_reckonHeld_49 : At YX3_reckonHeld 49 (.lastore) 1 50 := ⟨by decide +kernel, rfl⟩
theorem iX3_reckonHeld_50 : At YX3_reckonHeld 50 (.aload_n 0) 1 51 := ⟨by decide +kernel, rfl⟩
theorem iX3_reckonHeld_51 : At YX3_reckonHeld 51 (.getfield 18) 3 54 := ⟨by decide +kernel, rfl⟩
theorem iX3_reckonHeld_54 : At YX3_reckonHeld 54 (.iload 7) 2 56 := ⟨by decide +kernel, rfl⟩
theorem iX3_reckonHeld_56 : At YX3_reckonHeld 56 (.iload 12) 2 58 := ⟨by decide +kernel, rfl⟩
theorem iX3_reckonHeld_58 : At YX3_reckonHeld 58 (.iastore) 1 59 := ⟨by decide +kernel, rfl⟩
theorem iX3_reckonHeld_59 : At YX3_reckonHeld 59 (.aload_n 0) 1 60 := ⟨by decide +kernel, rfl⟩
theorem iX3_reckonHeld_60 : At YX3_reckonHeld 60 (.getfield 15) 3 63 := ⟨by decide +kernel, rfl⟩
theorem iX3_reckonHeld_63 : At YX3_reckonHeld 63 (.iload 7) 2 65 := ⟨by decide +kernel, rfl⟩
theorem iX3_reckonHeld_65 : At YX3_reckonHeld 65 (.iload 7) 2 67 := ⟨by decide +kernel, rfl⟩
theorem iX3_reckonHeld_67 : At YX3_reckonHeld 67 (.iload 4) 2 69 := ⟨by decide +kernel, rfl⟩
theorem iX3_reckonHeld_69 : AtJ YX3_reckonHeld 69 (.if_icmp .ne) 72 77 := ⟨8, by decide +kernel, rfl, by decide⟩
theorem iX3_reckonHeld_72 : At YX3_reckonHeld 72 (.lload 5) 2 74 := ⟨by decide +kernel, rfl⟩
theorem iX3_reckonHeld_74 : AtJ YX3_reckonHeld 74 .goto 77 87 := ⟨13, by decide +kernel, rfl, by decide⟩
theorem iX3_reckonHeld_77 : At YX3_reckonHeld 77 (.aload_n 1) 1 78 := ⟨by decide +kernel, rfl⟩
theorem iX3_reckonHeld_78 : At YX3_reckonHeld 78 (.iload 7) 2 80 := ⟨by decide +kernel, rfl⟩
theorem iX3_reckonHeld_80 : At YX3_reckonHeld 80 (.iload 12) 2 82 := ⟨by decide +kernel, rfl⟩
theorem iX3_reckonHeld_82 : At YX3_reckonHeld 82 (.lload 10) 2 84 := ⟨by decide +kernel, rfl⟩
theorem iX3_reckonHeld_84 : At YX3_reckonHeld 84 (.invokestatic 49) 3 87 := ⟨by decide +kernel, rfl⟩
theorem iX3_reckonHeld_87 : At YX3_reckonHeld 87 (.lastore) 1 88 := ⟨by decide +kernel, rfl⟩
theorem iX3_reckonHeld_88 : At YX3_reckonHeld 88 (.iinc 7 1) 3 91 := ⟨by decide +kernel, rfl⟩
theorem iX3_reckonHeld_91 : AtJ YX3_reckonHeld 91 .goto 94 3 := ⟨-88, by decide +kernel, rfl, by decide⟩
theorem iX3_reckonHeld_94 : At YX3_reckonHeld 94 (.aload_n 0) 1 95 := ⟨by decide +kernel, rfl⟩
theorem iX3_reckonHeld_95 : At YX3_reckonHeld 95 (.getfield 9) 3 98 := ⟨by decide +kernel, rfl⟩
theorem iX3_reckonHeld_98 : At YX3_reckonHeld 98 (.bipush 6) 2 100 := ⟨by decide +kernel, rfl⟩
theorem iX3_reckonHeld_100 : At YX3_reckonHeld 100 (.aload_n 0) 1 101 := ⟨by decide +kernel, rfl⟩
theorem iX3_reckonHeld_101 : At YX3_reckonHeld 101 (.aload_n 1) 1 102 := ⟨by decide +kernel, rfl⟩
theorem iX3_reckonHeld_102 : At YX3_reckonHeld 102 (.bipush 6) 2 104 := ⟨by decide +kernel, rfl⟩
theorem iX3_reckonHeld_104 : At YX3_reckonHeld 104 (.iload_n 2) 1 105 := ⟨by decide +kernel, rfl⟩
theorem iX3_reckonHeld_105 : At YX3_reckonHeld 105 (.iload_n 3) 1 106 := ⟨by decide +kernel, rfl⟩
theorem iX3_reckonHeld_106 : At YX3_reckonHeld 106 (.invokevirtual 35) 3 109 := ⟨by decide +kernel, rfl⟩
theorem iX3_reckonHeld_109 : At YX3_reckonHeld 109 (.lastore) 1 110 := ⟨by decide +kernel, rfl⟩
theorem iX3_reckonHeld_110 : At YX3_reckonHeld 110 (.aload_n 0) 1 111 := ⟨by decide +kernel, rfl⟩
theorem iX3_reckonHeld_111 : At YX3_reckonHeld 111 (.getfield 15) 3 114 := ⟨by decide +kernel, rfl⟩
theorem iX3_reckonHeld_114 : At YX3_reckonHeld 114 (.bipush 6) 2 116 := ⟨by decide +kernel, rfl⟩
theorem iX3_reckonHeld_116 : At YX3_reckonHeld 116 (.aload_n 0) 1 117 := ⟨by decide +kernel, rfl⟩
theorem iX3_reckonHeld_117 : At YX3_reckonHeld 117 (.getfield 9) 3 120 := ⟨by decide +kernel, rfl⟩
theorem iX3_reckonHeld_120 : At YX3_reckonHeld 120 (.bipush 6) 2 122 := ⟨by decide +kernel, rfl⟩
theorem iX3_reckonHeld_122 : At YX3_reckonHeld 122 (.laload) 1 123 := ⟨by decide +kernel, rfl⟩
theorem iX3_reckonHeld_123 : At YX3_reckonHeld 123 (.lastore) 1 124 := ⟨by decide +kernel, rfl⟩
theorem iX3_reckonHeld_124 : At YX3_reckonHeld 124 (.aload_n 0) 1 125 := ⟨by decide +kernel, rfl⟩
theorem iX3_reckonHeld_125 : At YX3_reckonHeld 125 (.getfield 15) 3 128 := ⟨by decide +kernel, rfl⟩
theorem iX3_reckonHeld_128 : At YX3_reckonHeld 128 (.bipush 6) 2 130 := ⟨by decide +kernel, rfl⟩
theorem iX3_reckonHeld_130 : At YX3_reckonHeld 130 (.laload) 1 131 := ⟨by decide +kernel, rfl⟩
theorem iX3_reckonHeld_131 : At YX3_reckonHeld 131 (.lreturn) 1 132 := ⟨by decide +kernel, rfl⟩
theorem iX3_addUp_0 : At YX3_addUp 0 (.aload_n 1) 1 1 := ⟨by decide +kernel, rfl⟩
theorem iX3_addUp_1 : At YX3_addUp 1 (.getfield 53) 3 4 := ⟨by decide +kernel, rfl⟩
theorem iX3_addUp_4 : At YX3_addUp 4 (.iload_n 2) 1 5 := ⟨by decide +kernel, rfl⟩
theorem iX3_addUp_5 : At YX3_addUp 5 (.aaload) 1 6 := ⟨by decide +kernel, rfl⟩
theorem iX3_addUp_6 : At YX3_addUp 6 (.astore 5) 2 8 := ⟨by decide +kernel, rfl⟩
theorem iX3_addUp_8 : At YX3_addUp 8 (.aload_n 1) 1 9 := ⟨by decide +kernel, rfl⟩
theorem iX3_addUp_9 : At YX3_addUp 9 (.getfield 57) 3 12 := ⟨by decide +kernel, rfl⟩
theorem iX3_addUp_12 : At YX3_addUp 12 (.iload_n 2) 1 13 := ⟨by decide +kernel, rfl⟩
theorem iX3_addUp_13 : At YX3_addUp 13 (.aaload) 1 14 := ⟨by decide +kernel, rfl⟩
theorem iX3_addUp_14 : At YX3_addUp 14 (.astore 6) 2 16 := ⟨by decide +kernel, rfl⟩
theorem iX3_addUp_16 : At YX3_addUp 16 (.lconst 0) 1 17 := ⟨by decide +kernel, rfl⟩
theorem iX3_addUp_17 : At YX3_addUp 17 (.lstore 7) 2 19 := ⟨by decide +kernel, rfl⟩
theorem iX3_addUp_19 : At YX3_addUp 19 (.iconst 0) 1 20 := ⟨by decide +kernel, rfl⟩
theorem iX3_addUp_20 : At YX3_addUp 20 (.istore 9) 2 22 := ⟨by decide +kernel, rfl⟩
theorem iX3_addUp_22 : At YX3_addUp 22 (.iload 9) 2 24 := ⟨by decide +kernel, rfl⟩
theorem iX3_addUp_24 : At YX3_addUp 24 (.aload_n 1) 1 25 := ⟨by decide +kernel, rfl⟩
theorem iX3_addUp_25 : At YX3_addUp 25 (.getfield 60) 3 28 := ⟨by decide +kernel, rfl⟩
theorem iX3_addUp_28 : At YX3_addUp 28 (.iload_n 2) 1 29 := ⟨by decide +kernel, rfl⟩
theorem iX3_addUp_29 : At YX3_addUp 29 (.iaload) 1 30 := ⟨by decide +kernel, rfl⟩
theorem iX3_addUp_30 : AtJ YX3_addUp 30 (.if_icmp .ge) 33 108 := ⟨78, by decide +kernel, rfl, by decide⟩
theorem iX3_addUp_33 : At YX3_addUp 33 (.aload 5) 2 35 := ⟨by decide +kernel, rfl⟩
theorem iX3_addUp_35 : At YX3_addUp 35 (.iload 9) 2 37 := ⟨by decide +kernel, rfl⟩
theorem iX3_addUp_37 : At YX3_addUp 37 (.iaload) 1 38 := ⟨by decide +kernel, rfl⟩
theorem iX3_addUp_38 : At YX3_addUp 38 (.bipush 6) 2 40 := ⟨by decide +kernel, rfl⟩
theorem iX3_addUp_40 : AtJ YX3_addUp 40 (.if_icmp .ne) 43 54 := ⟨14, by decide +kernel, rfl, by decide⟩
theorem iX3_addUp_43 : At YX3_addUp 43 (.iload_n 3) 1 44 := ⟨by decide +kernel, rfl⟩
theorem iX3_addUp_44 : At YX3_addUp 44 (.i2l) 1 45 := ⟨by decide +kernel, rfl⟩
theorem iX3_addUp_45 : At YX3_addUp 45 (.ldc2_w 63) 3 48 := ⟨by decide +kernel, rfl⟩
theorem iX3_addUp_48 : At YX3_addUp 48 (.lmul) 1 49 := ⟨by decide +kernel, rfl⟩
theorem iX3_addUp_49 : At YX3_addUp 49 (.lstore 10) 2 51 := ⟨by decide +kernel, rfl⟩
theorem iX3_addUp_51 : AtJ YX3_addUp 51 .goto 54 88 := ⟨37, by decide +kernel, rfl, by decide⟩
theorem iX3_addUp_54 : At YX3_addUp 54 (.aload 5) 2 56 := ⟨by decide +kernel, rfl⟩
theorem iX3_addUp_56 : At YX3_addUp 56 (.iload 9) 2 58 := ⟨by decide +kernel, rfl⟩
theorem iX3_addUp_58 : At YX3_addUp 58 (.iaload) 1 59 := ⟨by decide +kernel, rfl⟩
theorem iX3_addUp_59 : At YX3_addUp 59 (.bipush 7) 2 61 := ⟨by decide +kernel, rfl⟩
theorem iX3_addUp_61 : AtJ YX3_addUp 61 (.if_icmp .ne) 64 76 := ⟨15, by decide +kernel, rfl, by decide⟩
theorem iX3_addUp_64 : At YX3_addUp 64 (.iload 4) 2 66 := ⟨by decide +kernel, rfl⟩
theorem iX3_addUp_66 : At YX3_addUp 66 (.i2l) 1 67 := ⟨by decide +kernel, rfl⟩
theorem iX3_addUp_67 : At YX3_addUp 67 (.ldc2_w 63) 3 70 := ⟨by decide +kernel, rfl⟩
theorem iX3_addUp_70 : At YX3_addUp 70 (.lmul) 1 71 := ⟨by decide +kernel, rfl⟩
theorem iX3_addUp_71 : At YX3_addUp 71 (.lstore 10) 2 73 := ⟨by decide +kernel, rfl⟩
theorem iX3_addUp_73 : AtJ YX3_addUp 73 .goto 76 88 := ⟨15, by decide +kernel, rfl, by decide⟩
theorem iX3_addUp_76 : At YX3_addUp 76 (.aload_n 0) 1 77 := ⟨by decide +kernel, rfl⟩
theorem iX3_addUp_77 : At YX3_addUp 77 (.getfield 15) 3 80 := ⟨by decide +kernel, rfl⟩
theorem iX3_addUp_80 : At YX3_addUp 80 (.aload 5) 2 82 := ⟨by decide +kernel, rfl⟩
theorem iX3_addUp_82 : At YX3_addUp 82 (.iload 9) 2 84 := ⟨by decide +kernel, rfl⟩
theorem iX3_addUp_84 : At YX3_addUp 84 (.iaload) 1 85 := ⟨by decide +kernel, rfl⟩
theorem iX3_addUp_85 : At YX3_addUp 85 (.laload) 1 86 := ⟨by decide +kernel, rfl⟩
theorem iX3_addUp_86 : At YX3_addUp 86 (.lstore 10) 2 88 := ⟨by decide +kernel, rfl⟩
theorem iX3_addUp_88 : At YX3_addUp 88 (.lload 7) 2 90 := ⟨by decide +kernel, rfl⟩
theorem iX3_addUp_90 : At YX3_addUp 90 (.aload 6) 2 92 := ⟨by decide +kernel, rfl⟩
theorem iX3_addUp_92 : At YX3_addUp 92 (.iload 9) 2 94 := ⟨by decide +kernel, rfl⟩
theorem iX3_addUp_94 : At YX3_addUp 94 (.iaload) 1 95 := ⟨by decide +kernel, rfl⟩
theorem iX3_addUp_95 : At YX3_addUp 95 (.i2l) 1 96 := ⟨by decide +kernel, rfl⟩
theorem iX3_addUp_96 : At YX3_addUp 96 (.lload 10) 2 98 := ⟨by decide +kernel, rfl⟩
theorem iX3_addUp_98 : At YX3_addUp 98 (.lmul) 1 99 := ⟨by decide +kernel, rfl⟩
theorem iX3_addUp_99 : At YX3_addUp 99 (.ladd) 1 100 := ⟨by decide +kernel, rfl⟩
theorem iX3_addUp_100 : At YX3_addUp 100 (.lstore 7) 2 102 := ⟨by decide +kernel, rfl⟩
theorem iX3_addUp_102 : At YX3_addUp 102 (.iinc 9 1) 3 105 := ⟨by decide +kernel, rfl⟩
theorem iX3_addUp_105 : AtJ YX3_addUp 105 .goto 108 22 := ⟨-83, by decide +kernel, rfl, by decide⟩
theorem iX3_addUp_108 : At YX3_addUp 108 (.lload 7) 2 110 := ⟨by decide +kernel, rfl⟩
theorem iX3_addUp_110 : At YX3_addUp 110 (.lreturn) 1 111 := ⟨by decide +kernel, rfl⟩
theorem iX3_valueIn_0 : At YX3_valueIn 0 (.lload_n 3) 1 1 := ⟨by decide +kernel, rfl⟩
theorem iX3_valueIn_1 : At YX3_valueIn 1 (.aload_n 0) 1 2 := ⟨by decide +kernel, rfl⟩
theorem iX3_valueIn_2 : At YX3_valueIn 2 (.getfield 65) 3 5 := ⟨by decide +kernel, rfl⟩
theorem iX3_valueIn_5 : At YX3_valueIn 5 (.iload_n 1) 1 6 := ⟨by decide +kernel, rfl⟩
theorem iX3_valueIn_6 : At YX3_valueIn 6 (.aaload) 1 7 := ⟨by decide +kernel, rfl⟩
theorem iX3_valueIn_7 : At YX3_valueIn 7 (.iload_n 2) 1 8 := ⟨by decide +kernel, rfl⟩
theorem iX3_valueIn_8 : At YX3_valueIn 8 (.iaload) 1 9 := ⟨by decide +kernel, rfl⟩
theorem iX3_valueIn_9 : At YX3_valueIn 9 (.i2l) 1 10 := ⟨by decide +kernel, rfl⟩
theorem iX3_valueIn_10 : At YX3_valueIn 10 (.ldc2_w 63) 3 13 := ⟨by decide +kernel, rfl⟩
theorem iX3_valueIn_13 : At YX3_valueIn 13 (.lmul) 1 14 := ⟨by decide +kernel, rfl⟩
theorem iX3_valueIn_14 : At YX3_valueIn 14 (.lsub) 1 15 := ⟨by decide +kernel, rfl⟩
theorem iX3_valueIn_15 : At YX3_valueIn 15 (.lstore 5) 2 17 := ⟨by decide +kernel, rfl⟩
theorem iX3_valueIn_17 : At YX3_valueIn 17 (.aload_n 0) 1 18 := ⟨by decide +kernel, rfl⟩
theorem iX3_valueIn_18 : At YX3_valueIn 18 (.getfield 68) 3 21 := ⟨by decide +kernel, rfl⟩
theorem iX3_valueIn_21 : At YX3_valueIn 21 (.iload_n 1) 1 22 := ⟨by decide +kernel, rfl⟩
theorem iX3_valueIn_22 : At YX3_valueIn 22 (.aaload) 1 23 := ⟨by decide +kernel, rfl⟩
theorem iX3_valueIn_23 : At YX3_valueIn 23 (.iload_n 2) 1 24 := ⟨by decide +kernel, rfl⟩
theorem iX3_valueIn_24 : At YX3_valueIn 24 (.laload) 1 25 := ⟨by decide +kernel, rfl⟩
theorem iX3_valueIn_25 : At YX3_valueIn 25 (.lload 5) 2 27 := ⟨by decide +kernel, rfl⟩
theorem iX3_valueIn_27 : At YX3_valueIn 27 (.ldc2_w 72) 3 30 := ⟨by decide +kernel, rfl⟩
theorem iX3_valueIn_30 : At YX3_valueIn 30 (.ldiv) 1 31 := ⟨by decide +kernel, rfl⟩
theorem iX3_valueIn_31 : At YX3_valueIn 31 (.aload_n 0) 1 32 := ⟨by decide +kernel, rfl⟩
theorem iX3_valueIn_32 : At YX3_valueIn 32 (.getfield 74) 3 35 := ⟨by decide +kernel, rfl⟩
theorem iX3_valueIn_35 : At YX3_valueIn 35 (.iload_n 1) 1 36 := ⟨by decide +kernel, rfl⟩
theorem iX3_valueIn_36 : At YX3_valueIn 36 (.aaload) 1 37 := ⟨by decide +kernel, rfl⟩
theorem iX3_valueIn_37 : At YX3_valueIn 37 (.iload_n 2) 1 38 := ⟨by decide +kernel, rfl⟩
theorem iX3_valueIn_38 : At YX3_valueIn 38 (.iaload) 1 39 := ⟨by decide +kernel, rfl⟩
theorem iX3_valueIn_39 : At YX3_valueIn 39 (.i2l) 1 40 := ⟨by decide +kernel, rfl⟩
theorem iX3_valueIn_40 : At YX3_valueIn 40 (.lmul) 1 41 := ⟨by decide +kernel, rfl⟩
theorem iX3_valueIn_41 : At YX3_valueIn 41 (.ladd) 1 42 := ⟨by decide +kernel, rfl⟩
theorem iX3_valueIn_42 : At YX3_valueIn 42 (.lreturn) 1 43 := ⟨by decide +kernel, rfl⟩
theorem iX4_init_0 : At YX4_init 0 (.aload_n 0) 1 1 := ⟨by decide +kernel, rfl⟩
theorem iX4_init_1 : At YX4_init 1 (.invokespecial 3) 3 4 := ⟨by decide +kernel, rfl⟩
theorem iX4_init_4 : At YX4_init 4 (.aload_n 0) 1 5 := ⟨by decide +kernel, rfl⟩
theorem iX4_init_5 : At YX4_init 5 (.sipush 400) 3 8 := ⟨by decide +kernel, rfl⟩
theorem iX4_init_8 : At YX4_init 8 (.newarray .int) 2 10 := ⟨by decide +kernel, rfl⟩
theorem iX4_init_10 : At YX4_init 10 (.putfield 9) 3 13 := ⟨by decide +kernel, rfl⟩
theorem iX4_init_13 : At YX4_init 13 (.aload_n 0) 1 14 := ⟨by decide +kernel, rfl⟩
theorem iX4_init_14 : At YX4_init 14 (.iconst 0) 1 15 := ⟨by decide +kernel, rfl⟩
theorem iX4_init_15 : At YX4_init 15 (.putfield 15) 3 18 := ⟨by decide +kernel, rfl⟩
theorem iX4_init_18 : At YX4_init 18 (.aload_n 0) 1 19 := ⟨by decide +kernel, rfl⟩
theorem iX4_init_19 : At YX4_init 19 (.iconst 0) 1 20 := ⟨by decide +kernel, rfl⟩
theorem iX4_init_20 : At YX4_init 20 (.putfield 19) 3 23 := ⟨by decide +kernel, rfl⟩
theorem iX4_init_23 : At YX4_init 23 (.aload_n 0) 1 24 := ⟨by decide +kernel, rfl⟩
theorem iX4_init_24 : At YX4_init 24 (.iconst (-1)) 1 25 := ⟨by decide +kernel, rfl⟩
theorem iX4_init_25 : At YX4_init 25 (.putfield 22) 3 28 := ⟨by decide +kernel, rfl⟩
theorem iX4_init_28 : At YX4_init 28 (.aload_n 0) 1 29 := ⟨by decide +kernel, rfl⟩
theorem iX4_init_29 : At YX4_init 29 (.iconst 0) 1 30 := ⟨by decide +kernel, rfl⟩
theorem iX4_init_30 : At YX4_init 30 (.putfield 25) 3 33 := ⟨by decide +kernel, rfl⟩
theorem iX4_init_33 : At YX4_init 33 (.return_) 1 34 := ⟨by decide +kernel, rfl⟩
theorem iX4_append_0 : At YX4_append 0 (.bipush 24) 2 2 := ⟨by decide +kernel, rfl⟩
theorem iX4_append_2 : At YX4_append 2 (.istore_n 2) 1 3 := ⟨by decide +kernel, rfl⟩
theorem iX4_append_3 : At YX4_append 3 (.iload_n 2) 1 4 := ⟨by decide +kernel, rfl⟩
theorem iX4_append_4 : AtJ YX4_append 4 (.ifCond .lt) 7 55 := ⟨51, by decide +kernel, rfl, by decide⟩
theorem iX4_append_7 : At YX4_append 7 (.iload_n 1) 1 8 := ⟨by decide +kernel, rfl⟩
theorem iX4_append_8 : At YX4_append 8 (.iload_n 2) 1 9 := ⟨by decide +kernel, rfl⟩
theorem iX4_append_9 : At YX4_append 9 (.ishr) 1 10 := ⟨by decide +kernel, rfl⟩
theorem iX4_append_10 : At YX4_append 10 (.sipush 255) 3 13 := ⟨by decide +kernel, rfl⟩
theorem iX4_append_13 : At YX4_append 13 (.iand) 1 14 := ⟨by decide +kernel, rfl⟩
theorem iX4_append_14 : At YX4_append 14 (.istore_n 3) 1 15 := ⟨by decide +kernel, rfl⟩
theorem iX4_append_15 : At YX4_append 15 (.iload_n 3) 1 16 := ⟨by decide +kernel, rfl⟩
theorem iX4_append_16 : AtJ YX4_append 16 (.ifCond .eq) 19 49 := ⟨33, by decide +kernel, rfl, by decide⟩
theorem iX4_append_19 : At YX4_append 19 (.aload_n 0) 1 20 := ⟨by decide +kernel, rfl⟩
theorem iX4_append_20 : At YX4_append 20 (.getfield 15) 3 23 := ⟨by decide +kernel, rfl⟩
theorem iX4_append_23 : At YX4_append 23 (.sipush 400) 3 26 := ⟨by decide +kernel, rfl⟩
theorem iX4_append_26 : AtJ YX4_append 26 (.if_icmp .ge) 29 49 := ⟨23, by decide +kernel, rfl, by decide⟩
theorem iX4_append_29 : At YX4_append 29 (.aload_n 0) 1 30 := ⟨by decide +kernel, rfl⟩
theorem iX4_append_30 : At YX4_append 30 (.getfield 9) 3 33 := ⟨by decide +kernel, rfl⟩
theorem iX4_append_33 : At YX4_append 33 (.aload_n 0) 1 34 := ⟨by decide +kernel, rfl⟩
theorem iX4_append_34 : At YX4_append 34 (.getfield 15) 3 37 := ⟨by decide +kernel, rfl⟩
theorem iX4_append_37 : At YX4_append 37 (.iload_n 3) 1 38 := ⟨by decide +kernel, rfl⟩
theorem iX4_append_38 : At YX4_append 38 (.iastore) 1 39 := ⟨by decide +kernel, rfl⟩
theorem iX4_append_39 : At YX4_append 39 (.aload_n 0) 1 40 := ⟨by decide +kernel, rfl⟩
theorem iX4_append_40 : At YX4_append 40 (.dup) 1 41 := ⟨by decide +kernel, rfl⟩
theorem iX4_append_41 : At YX4_append 41 (.getfield 15) 3 44 := ⟨by decide +kernel, rfl⟩
theorem iX4_append_44 : At YX4_append 44 (.iconst 1) 1 45 := ⟨by decide +kernel, rfl⟩
theorem iX4_append_45 : At YX4_append 45 (.iadd) 1 46 := ⟨by decide +kernel, rfl⟩
theorem iX4_append_46 : At YX4_append 46 (.putfield 15) 3 49 := ⟨by decide +kernel, rfl⟩
theorem iX4_append_49 : At YX4_append 49 (.iinc 2 (-8)) 3 52 := ⟨by decide +kernel, rfl⟩
theorem iX4_append_52 : AtJ YX4_append 52 .goto 55 3 := ⟨-49, by decide +kernel, rfl, by decide⟩
theorem iX4_append_55 : At YX4_append 55 (.return_) 1 56 := ⟨by decide +kernel, rfl⟩
theorem iX4_read_0 : At YX4_read 0 (.aload_n 1) 1 1 := ⟨by decide +kernel, rfl⟩
theorem iX4_read_1 : At YX4_read 1 (.invokevirtual 29) 3 4 := ⟨by decide +kernel, rfl⟩
theorem iX4_read_4 : At YX4_read 4 (.aload_n 0) 1 5 := ⟨by decide +kernel, rfl⟩
theorem iX4_read_5 : At YX4_read 5 (.iconst 0) 1 6 := ⟨by decide +kernel, rfl⟩
theorem iX4_read_6 : At YX4_read 6 (.putfield 19) 3 9 := ⟨by decide +kernel, rfl⟩
theorem iX4_read_9 : At YX4_read 9 (.aload_n 0) 1 10 := ⟨by decide +kernel, rfl⟩
theorem iX4_read_10 : At YX4_read 10 (.iconst (-1)) 1 11 := ⟨by decide +kernel, rfl⟩
theorem iX4_read_11 : At YX4_read 11 (.putfield 22) 3 14 := ⟨by decide +kernel, rfl⟩
theorem iX4_read_14 : At YX4_read 14 (.aload_n 0) 1 15 := ⟨by decide +kernel, rfl⟩
theorem iX4_read_15 : At YX4_read 15 (.iconst 0) 1 16 := ⟨by decide +kernel, rfl⟩
theorem iX4_read_16 : At YX4_read 16 (.putfield 25) 3 19 := ⟨by decide +kernel, rfl⟩
theorem iX4_read_19 : At YX4_read 19 (.iconst 0) 1 20 := ⟨by decide +kernel, rfl⟩
theorem iX4_read_20 : At YX4_read 20 (.istore_n 2) 1 21 := ⟨by decide +kernel, rfl⟩
theorem iX4_read_21 : At YX4_read 21 (.iload_n 2) 1 22 := ⟨by decide +kernel, rfl⟩
theorem iX4_read_22 : At YX4_read 22 (.bipush 8) 2 24 := ⟨by decide +kernel, rfl⟩
theorem iX4_read_24 : AtJ YX4_read 24 (.if_icmp .ge) 27 136 := ⟨112, by decide +kernel, rfl, by decide⟩
theorem iX4_read_27 : At YX4_read 27 (.aload_n 0) 1 28 := ⟨by decide +kernel, rfl⟩
theorem iX4_read_28 : At YX4_read 28 (.invokevirtual 34) 3 31 := ⟨by decide +kernel, rfl⟩
theorem iX4_read_31 : At YX4_read 31 (.istore_n 3) 1 32 := ⟨by decide +kernel, rfl⟩
theorem iX4_read_32 : At YX4_read 32 (.iload_n 3) 1 33 := ⟨by decide +kernel, rfl⟩
theorem iX4_read_33 : At YX4_read 33 (.bipush 110) 2 35 := ⟨by decide +kernel, rfl⟩
theorem iX4_read_35 : AtJ YX4_read 35 (.if_icmp .ne) 38 48 := ⟨13, by decide +kernel, rfl, by decide⟩
theorem iX4_read_38 : At YX4_read 38 (.aload_n 0) 1 39 := ⟨by decide +kernel, rfl⟩
theorem iX4_read_39 : At YX4_read 39 (.aload_n 1) 1 40 := ⟨by decide +kernel, rfl⟩
theorem iX4_read_40 : At YX4_read 40 (.invokevirtual 38) 3 43 := ⟨by decide +kernel, rfl⟩
theorem iX4_read_43 : At YX4_read 43 (.aload_n 0) 1 44 := ⟨by decide +kernel, rfl⟩
theorem iX4_read_44 : At YX4_read 44 (.getfield 22) 3 47 := ⟨by decide +kernel, rfl⟩
theorem iX4_read_47 : At YX4_read 47 (.ireturn) 1 48 := ⟨by decide +kernel, rfl⟩
theorem iX4_read_48 : At YX4_read 48 (.iload_n 3) 1 49 := ⟨by decide +kernel, rfl⟩
theorem iX4_read_49 : At YX4_read 49 (.bipush 107) 2 51 := ⟨by decide +kernel, rfl⟩
theorem iX4_read_51 : AtJ YX4_read 51 (.if_icmp .ne) 54 71 := ⟨20, by decide +kernel, rfl, by decide⟩
theorem iX4_read_54 : At YX4_read 54 (.aload_n 0) 1 55 := ⟨by decide +kernel, rfl⟩
theorem iX4_read_55 : At YX4_read 55 (.getfield 25) 3 58 := ⟨by decide +kernel, rfl⟩
theorem iX4_read_58 : AtJ YX4_read 58 (.ifCond .ne) 61 71 := ⟨13, by decide +kernel, rfl, by decide⟩
theorem iX4_read_61 : At YX4_read 61 (.aload_n 0) 1 62 := ⟨by decide +kernel, rfl⟩
theorem iX4_read_62 : At YX4_read 62 (.aload_n 1) 1 63 := ⟨by decide +kernel, rfl⟩
theorem iX4_read_63 : At YX4_read 63 (.invokevirtual 42) 3 66 := ⟨by decide +kernel, rfl⟩
theorem iX4_read_66 : At YX4_read 66 (.istore 4) 2 68 := ⟨by decide +kernel, rfl⟩
theorem iX4_read_68 : AtJ YX4_read 68 .goto 71 111 := ⟨43, by decide +kernel, rfl, by decide⟩
theorem iX4_read_71 : At YX4_read 71 (.iload_n 3) 1 72 := ⟨by decide +kernel, rfl⟩
theorem iX4_read_72 : At YX4_read 72 (.bipush 97) 2 74 := ⟨by decide +kernel, rfl⟩
theorem iX4_read_74 : At YX4_read 74 (.aload_n 1) 1 75 := ⟨by decide +kernel, rfl⟩
theorem iX4_read_75 : At YX4_read 75 (.getfield 46) 3 78 := ⟨by decide +kernel, rfl⟩
theorem iX4_read_78 : At YX4_read 78 (.iadd) 1 79 := ⟨by decide +kernel, rfl⟩
theorem iX4_read_79 : AtJ YX4_read 79 (.if_icmp .ne) 82 101 := ⟨22, by decide +kernel, rfl, by decide⟩
theorem iX4_read_82 : At YX4_read 82 (.aload_n 1) 1 83 := ⟨by decide +kernel, rfl⟩
theorem iX4_read_83 : At YX4_read 83 (.getfield 46) 3 86 := ⟨by decide +kernel, rfl⟩
theorem iX4_read_86 : At YX4_read 86 (.bipush 6) 2 88 := ⟨by decide +kernel, rfl⟩
theorem iX4_read_88 : AtJ YX4_read 88 (.if_icmp .ge) 91 101 := ⟨13, by decide +kernel, rfl, by decide⟩
theorem iX4_read_91 : At YX4_read 91 (.aload_n 0) 1 92 := ⟨by decide +kernel, rfl⟩
theorem iX4_read_92 : At YX4_read 92 (.aload_n 1) 1 93 := ⟨by decide +kernel, rfl⟩
theorem iX4_read_93 : At YX4_read 93 (.invokevirtual 49) 3 96 := ⟨by decide +kernel, rfl⟩
theorem iX4_read_96 : At YX4_read 96 (.istore 4) 2 98 := ⟨by decide +kernel, rfl⟩
theorem iX4_read_98 : AtJ YX4_read 98 .goto 101 111 := ⟨13, by decide +kernel, rfl, by decide⟩
theorem iX4_read_101 : At YX4_read 101 (.aload_n 0) 1 102 := ⟨by decide +kernel, rfl⟩
theorem iX4_read_102 : At YX4_read 102 (.aload_n 0) 1 103 := ⟨by decide +kernel, rfl⟩
theorem iX4_read_103 : At YX4_read 103 (.getfield 19) 3 106 := ⟨by decide +kernel, rfl⟩
theorem iX4_read_106 : At YX4_read 106 (.invokevirtual 52) 3 109 := ⟨by decide +kernel, rfl⟩
theorem iX4_read_109 : At YX4_read 109 (.istore 4) 2 111 := ⟨by decide +kernel, rfl⟩
theorem iX4_read_111 : At YX4_read 111 (.iload 4) 2 113 := ⟨by decide +kernel, rfl⟩
theorem iX4_read_113 : AtJ YX4_read 113 (.ifCond .eq) 116 125 := ⟨12, by decide +kernel, rfl, by decide⟩
theorem iX4_read_116 : At YX4_read 116 (.aload_n 0) 1 117 := ⟨by decide +kernel, rfl⟩
theorem iX4_read_117 : At YX4_read 117 (.bipush 59) 2 119 := ⟨by decide +kernel, rfl⟩
theorem iX4_read_119 : At YX4_read 119 (.invokevirtual 56) 3 122 := ⟨by decide +kernel, rfl⟩
theorem iX4_read_122 : AtJ YX4_read 122 (.ifCond .ne) 125 130 := ⟨8, by decide +kernel, rfl, by decide⟩
theorem iX4_read_125 : At YX4_read 125 (.aload_n 0) 1 126 := ⟨by decide +kernel, rfl⟩
theorem iX4_read_126 : At YX4_read 126 (.getfield 22) 3 129 := ⟨by decide +kernel, rfl⟩
theorem iX4_read_129 : At YX4_read 129 (.ireturn) 1 130 := ⟨by decide +kernel, rfl⟩
theorem iX4_read_130 : At YX4_read 130 (.iinc 2 1) 3 133 := ⟨by decide +kernel, rfl⟩
theorem iX4_read_133 : AtJ YX4_read 133 .goto 136 21 := ⟨-112, by decide +kernel, rfl, by decide⟩
theorem iX4_read_136 : At YX4_read 136 (.aload_n 0) 1 137 := ⟨by decide +kernel, rfl⟩
theorem iX4_read_137 : At YX4_read 137 (.getfield 19) 3 140 := ⟨by decide +kernel, rfl⟩
theorem iX4_read_140 : At YX4_read 140 (.ireturn) 1 141 := ⟨by decide +kernel, rfl⟩
theorem iX4_fail_0 : At YX4_fail 0 (.aload_n 0) 1 1 := ⟨by decide +kernel, rfl⟩
theorem iX4_fail_1 : At YX4_fail 1 (.iload_n 1) 1 2 := ⟨by decide +kernel, rfl⟩
theorem iX4_fail_2 : At YX4_fail 2 (.putfield 22) 3 5 := ⟨by decide +kernel, rfl⟩
theorem iX4_fail_5 : At YX4_fail 5 (.iconst 0) 1 6 := ⟨by decide +kernel, rfl⟩
theorem iX4_fail_6 : At YX4_fail 6 (.ireturn) 1 7 := ⟨by decide +kernel, rfl⟩
theorem iX4_look_0 : At YX4_look 0 (.aload_n 0) 1 1 := ⟨by decide +kernel, rfl⟩
theorem iX4_look_1 : At YX4_look 1 (.getfield 19) 3 4 := ⟨by decide +kernel, rfl⟩
theorem iX4_look_4 : At YX4_look 4 (.aload_n 0) 1 5 := ⟨by decide +kernel, rfl⟩
theorem iX4_look_5 : At YX4_look 5 (.getfield 15) 3 8 := ⟨by decide +kernel, rfl⟩
theorem iX4_look_8 : AtJ YX4_look 8 (.if_icmp .ge) 11 38 := ⟨30, by decide +kernel, rfl, by decide⟩
theorem iX4_look_11 : At YX4_look 11 (.aload_n 0) 1 12 := ⟨by decide +kernel, rfl⟩
theorem iX4_look_12 : At YX4_look 12 (.getfield 9) 3 15 := ⟨by decide +kernel, rfl⟩
theorem iX4_look_15 : At YX4_look 15 (.aload_n 0) 1 16 := ⟨by decide +kernel, rfl⟩
theorem iX4_look_16 : At YX4_look 16 (.getfield 19) 3 19 := ⟨by decide +kernel, rfl⟩
theorem iX4_look_19 : At YX4_look 19 (.iaload) 1 20 := ⟨by decide +kernel, rfl⟩
theorem iX4_look_20 : At YX4_look 20 (.bipush 32) 2 22 := ⟨by decide +kernel, rfl⟩
theorem iX4_look_22 : AtJ YX4_look 22 (.if_icmp .ne) 25 38 := ⟨16, by decide +kernel, rfl, by decide⟩
theorem iX4_look_25 : At YX4_look 25 (.aload_n 0) 1 26 := ⟨by decide +kernel, rfl⟩
theorem iX4_look_26 : At YX4_look 26 (.dup) 1 27 := ⟨by decide +kernel, rfl⟩
theorem iX4_look_27 : At YX4_look 27 (.getfield 19) 3 30 := ⟨by decide +kernel, rfl⟩
theorem iX4_look_30 : At YX4_look 30 (.iconst 1) 1 31 := ⟨by decide +kernel, rfl⟩
theorem iX4_look_31 : At YX4_look 31 (.iadd) 1 32 := ⟨by decide +kernel, rfl⟩
theorem iX4_look_32 : At YX4_look 32 (.putfield 19) 3 35 := ⟨by decide +kernel, rfl⟩
theorem iX4_look_35 : AtJ YX4_look 35 .goto 38 0 := ⟨-35, by decide +kernel, rfl, by decide⟩
theorem iX4_look_38 : At YX4_look 38 (.aload_n 0) 1 39 := ⟨by decide +kernel, rfl⟩
theorem iX4_look_39 : At YX4_look 39 (.getfield 19) 3 42 := ⟨by decide +kernel, rfl⟩
theorem iX4_look_42 : At YX4_look 42 (.aload_n 0) 1 43 := ⟨by decide +kernel, rfl⟩
theorem iX4_look_43 : At YX4_look 43 (.getfield 15) 3 46 := ⟨by decide +kernel, rfl⟩
theorem iX4_look_46 : AtJ YX4_look 46 (.if_icmp .ge) 49 61 := ⟨15, by decide +kernel, rfl, by decide⟩
theorem iX4_look_49 : At YX4_look 49 (.aload_n 0) 1 50 := ⟨by decide +kernel, rfl⟩
theorem iX4_look_50 : At YX4_look 50 (.getfield 9) 3 53 := ⟨by decide +kernel, rfl⟩
theorem iX4_look_53 : At YX4_look 53 (.aload_n 0) 1 54 := ⟨by decide +kernel, rfl⟩
theorem iX4_look_54 : At YX4_look 54 (.getfield 19) 3 57 := ⟨by decide +kernel, rfl⟩
theorem iX4_look_57 : At YX4_look 57 (.iaload) 1 58 := ⟨by decide +kernel, rfl⟩
theorem iX4_look_58 : AtJ YX4_look 58 .goto 61 62 := ⟨4, by decide +kernel, rfl, by decide⟩
theorem iX4_look_61 : At YX4_look 61 (.iconst (-1)) 1 62 := ⟨by decide +kernel, rfl⟩
theorem iX4_look_62 : At YX4_look 62 (.ireturn) 1 63 := ⟨by decide +kernel, rfl⟩
theorem iX4_take_0 : At YX4_take 0 (.aload_n 0) 1 1 := ⟨by decide +kernel, rfl⟩
theorem iX4_take_1 : At YX4_take 1 (.invokevirtual 34) 3 4 := ⟨by decide +kernel, rfl⟩
theorem iX4_take_4 : At YX4_take 4 (.iload_n 1) 1 5 := ⟨by decide +kernel, rfl⟩
theorem iX4_take_5 : AtJ YX4_take 5 (.if_icmp .eq) 8 17 := ⟨12, by decide +kernel, rfl, by decide⟩
theorem iX4_take_8 : At YX4_take 8 (.aload_n 0) 1 9 := ⟨by decide +kernel, rfl⟩
theorem iX4_take_9 : At YX4_take 9 (.aload_n 0) 1 10 := ⟨by decide +kernel, rfl⟩
theorem iX4_take_10 : At YX4_take 10 (.getfield 19) 3 13 := ⟨by decide +kernel, rfl⟩
theorem iX4_take_13 : At YX4_take 13 (.invokevirtual 52) 3 16 := ⟨by decide +kernel, rfl⟩
theorem iX4_take_16 : At YX4_take 16 (.ireturn) 1 17 := ⟨by decide +kernel, rfl⟩
theorem iX4_take_17 : At YX4_take 17 (.aload_n 0) 1 18 := ⟨by decide +kernel, rfl⟩
theorem iX4_take_18 : At YX4_take 18 (.dup) 1 19 := ⟨by decide +kernel, rfl⟩
theorem iX4_take_19 : At YX4_take 19 (.getfield 19) 3 22 := ⟨by decide +kernel, rfl⟩
theorem iX4_take_22 : At YX4_take 22 (.iconst 1) 1 23 := ⟨by decide +kernel, rfl⟩
theorem iX4_take_23 : At YX4_take 23 (.iadd) 1 24 := ⟨by decide +kernel, rfl⟩
theorem iX4_take_24 : At YX4_take 24 (.putfield 19) 3 27 := ⟨by decide +kernel, rfl⟩
theorem iX4_take_27 : At YX4_take 27 (.iconst 1) 1 28 := ⟨by decide +kernel, rfl⟩
theorem iX4_take_28 : At YX4_take 28 (.ireturn) 1 29 := ⟨by decide +kernel, rfl⟩
theorem iX4_readBenefit_0 : At YX4_readBenefit 0 (.aload_n 0) 1 1 := ⟨by decide +kernel, rfl⟩
theorem iX4_readBenefit_1 : At YX4_readBenefit 1 (.dup) 1 2 := ⟨by decide +kernel, rfl⟩
theorem iX4_readBenefit_2 : At YX4_readBenefit 2 (.getfield 19) 3 5 := ⟨by decide +kernel, rfl⟩
theorem iX4_readBenefit_5 : At YX4_readBenefit 5 (.iconst 1) 1 6 := ⟨by decide +kernel, rfl⟩
theorem iX4_readBenefit_6 : At YX4_readBenefit 6 (.iadd) 1 7 := ⟨by decide +kernel, rfl⟩
theorem iX4_readBenefit_7 : At YX4_readBenefit 7 (.putfield 19) 3 10 := ⟨by decide +kernel, rfl⟩
theorem iX4_readBenefit_10 : At YX4_readBenefit 10 (.aload_n 0) 1 11 := ⟨by decide +kernel, rfl⟩
theorem iX4_readBenefit_11 : At YX4_readBenefit 11 (.iconst 0) 1 12 := ⟨by decide +kernel, rfl⟩
theorem iX4_readBenefit_12 : At YX4_readBenefit 12 (.sipush 999) 3 15 := ⟨by decide +kernel, rfl⟩
theorem iX4_readBenefit_15 : At YX4_readBenefit 15 (.invokevirtual 59) 3 18 := ⟨by decide +kernel, rfl⟩
theorem iX4_readBenefit_18 : At YX4_readBenefit 18 (.istore_n 2) 1 19 := ⟨by decide +kernel, rfl⟩
theorem iX4_readBenefit_19 : At YX4_readBenefit 19 (.iload_n 2) 1 20 := ⟨by decide +kernel, rfl⟩
theorem iX4_readBenefit_20 : At YX4_readBenefit 20 (.iconst (-1)) 1 21 := ⟨by decide +kernel, rfl⟩
theorem iX4_readBenefit_21 : AtJ YX4_readBenefit 21 (.if_icmp .ne) 24 26 := ⟨5, by decide +kernel, rfl, by decide⟩
theorem iX4_readBenefit_24 : At YX4_readBenefit 24 (.iconst 0) 1 25 := ⟨by decide +kernel, rfl⟩
theorem iX4_readBenefit_25 : At YX4_readBenefit 25 (.ireturn) 1 26 := ⟨by decide +kernel, rfl⟩
theorem iX4_readBenefit_26 : At YX4_readBenefit 26 (.aload_n 1) 1 27 := ⟨by decide +kernel, rfl⟩
theorem iX4_readBenefit_27 : At YX4_readBenefit 27 (.iload_n 2) 1 28 := ⟨by decide +kernel, rfl⟩
theorem iX4_readBenefit_28 : At YX4_readBenefit 28 (.putfield 63) 3 31 := ⟨by decide +kernel, rfl⟩
theorem iX4_readBenefit_31 : At YX4_readBenefit 31 (.aload_n 0) 1 32 := ⟨by decide +kernel, rfl⟩
theorem iX4_readBenefit_32 : At YX4_readBenefit 32 (.iconst 1) 1 33 := ⟨by decide +kernel, rfl⟩
theorem iX4_readBenefit_33 : At YX4_readBenefit 33 (.putfield 25) 3 36 := ⟨by decide +kernel, rfl⟩
theorem iX4_readBenefit_36 : At YX4_readBenefit 36 (.iconst 1) 1 37 := ⟨by decide +kernel, rfl⟩
theorem iX4_readBenefit_37 : At YX4_readBenefit 37 (.ireturn) 1 38 := ⟨by decide +kernel, rfl⟩
theorem iX4_readPaid_0 : At YX4_readPaid 0 (.aload_n 0) 1 1 := ⟨by decide +kernel, rfl⟩
theorem iX4_readPaid_1 : At YX4_readPaid 1 (.dup) 1 2 := ⟨by decide +kernel, rfl⟩
theorem iX4_readPaid_2 : At YX4_readPaid 2 (.getfield 19) 3 5 := ⟨by decide +kernel, rfl⟩
theorem iX4_readPaid_5 : At YX4_readPaid 5 (.iconst 1) 1 6 := ⟨by decide +kernel, rfl⟩
theorem iX4_readPaid_6 : At YX4_readPaid 6 (.iadd) 1 7 := ⟨by decide +kernel, rfl⟩
theorem iX4_readPaid_7 : At YX4_readPaid 7 (.putfield 19) 3 10 := ⟨by decide +kernel, rfl⟩
theorem iX4_readPaid_10 : At YX4_readPaid 10 (.aload_n 0) 1 11 := ⟨by decide +kernel, rfl⟩
theorem iX4_readPaid_11 : At YX4_readPaid 11 (.bipush 61) 2 13 := ⟨by decide +kernel, rfl⟩
theorem iX4_readPaid_13 : At YX4_readPaid 13 (.invokevirtual 56) 3 16 := ⟨by decide +kernel, rfl⟩
theorem iX4_readPaid_16 : AtJ YX4_readPaid 16 (.ifCond .eq) 19 46 := ⟨30, by decide +kernel, rfl, by decide⟩
theorem iX4_readPaid_19 : At YX4_readPaid 19 (.aload_n 0) 1 20 := ⟨by decide +kernel, rfl⟩
theorem iX4_readPaid_20 : At YX4_readPaid 20 (.aload_n 1) 1 21 := ⟨by decide +kernel, rfl⟩
theorem iX4_readPaid_21 : At YX4_readPaid 21 (.bipush 6) 2 23 := ⟨by decide +kernel, rfl⟩
theorem iX4_readPaid_23 : At YX4_readPaid 23 (.invokevirtual 66) 3 26 := ⟨by decide +kernel, rfl⟩
theorem iX4_readPaid_26 : AtJ YX4_readPaid 26 (.ifCond .eq) 29 46 := ⟨20, by decide +kernel, rfl, by decide⟩
theorem iX4_readPaid_29 : At YX4_readPaid 29 (.aload_n 0) 1 30 := ⟨by decide +kernel, rfl⟩
theorem iX4_readPaid_30 : At YX4_readPaid 30 (.invokevirtual 34) 3 33 := ⟨by decide +kernel, rfl⟩
theorem iX4_readPaid_33 : At YX4_readPaid 33 (.iconst (-1)) 1 34 := ⟨by decide +kernel, rfl⟩
theorem iX4_readPaid_34 : AtJ YX4_readPaid 34 (.if_icmp .eq) 37 46 := ⟨12, by decide +kernel, rfl, by decide⟩
theorem iX4_readPaid_37 : At YX4_readPaid 37 (.aload_n 0) 1 38 := ⟨by decide +kernel, rfl⟩
theorem iX4_readPaid_38 : At YX4_readPaid 38 (.aload_n 0) 1 39 := ⟨by decide +kernel, rfl⟩
theorem iX4_readPaid_39 : At YX4_readPaid 39 (.getfield 19) 3 42 := ⟨by decide +kernel, rfl⟩
theorem iX4_readPaid_42 : At YX4_readPaid 42 (.invokevirtual 52) 3 45 := ⟨by decide +kernel, rfl⟩
theorem iX4_readPaid_45 : At YX4_readPaid 45 (.pop) 1 46 := ⟨by decide +kernel, rfl⟩
theorem iX4_readPaid_46 : At YX4_readPaid 46 (.return_) 1 47 := ⟨by decide +kernel, rfl⟩
theorem iX4_readRule_0 : At YX4_readRule 0 (.aload_n 1) 1 1 := ⟨by decide +kernel, rfl⟩
theorem iX4_readRule_1 : At YX4_readRule 1 (.getfield 46) 3 4 := ⟨by decide +kernel, rfl⟩
theorem iX4_readRule_4 : At YX4_readRule 4 (.istore_n 2) 1 5 := ⟨by decide +kernel, rfl⟩
theorem iX4_readRule_5 : At YX4_readRule 5 (.aload_n 0) 1 6 := ⟨by decide +kernel, rfl⟩
theorem iX4_readRule_6 : At YX4_readRule 6 (.getfield 19) 3 9 := ⟨by decide +kernel, rfl⟩
theorem iX4_readRule_9 : At YX4_readRule 9 (.istore_n 3) 1 10 := ⟨by decide +kernel, rfl⟩
theorem iX4_readRule_10 : At YX4_readRule 10 (.aload_n 0) 1 11 := ⟨by decide +kernel, rfl⟩
theorem iX4_readRule_11 : At YX4_readRule 11 (.dup) 1 12 := ⟨by decide +kernel, rfl⟩
theorem iX4_readRule_12 : At YX4_readRule 12 (.getfield 19) 3 15 := ⟨by decide +kernel, rfl⟩
theorem iX4_readRule_15 : At YX4_readRule 15 (.iconst 1) 1 16 := ⟨by decide +kernel, rfl⟩
theorem iX4_readRule_16 : At YX4_readRule 16 (.iadd) 1 17 := ⟨by decide +kernel, rfl⟩
theorem iX4_readRule_17 : At YX4_readRule 17 (.putfield 19) 3 20 := ⟨by decide +kernel, rfl⟩
theorem iX4_readRule_20 : At YX4_readRule 20 (.aload_n 0) 1 21 := ⟨by decide +kernel, rfl⟩
theorem iX4_readRule_21 : At YX4_readRule 21 (.bipush 61) 2 23 := ⟨by decide +kernel, rfl⟩
theorem iX4_readRule_23 : At YX4_readRule 23 (.invokevirtual 56) 3 26 := ⟨by decide +kernel, rfl⟩
theorem iX4_readRule_26 : AtJ YX4_readRule 26 (.ifCond .eq) 29 38 := ⟨12, by decide +kernel, rfl, by decide⟩
theorem iX4_readRule_29 : At YX4_readRule 29 (.aload_n 0) 1 30 := ⟨by decide +kernel, rfl⟩
theorem iX4_readRule_30 : At YX4_readRule 30 (.aload_n 1) 1 31 := ⟨by decide +kernel, rfl⟩
theorem iX4_readRule_31 : At YX4_readRule 31 (.iload_n 2) 1 32 := ⟨by decide +kernel, rfl⟩
theorem iX4_readRule_32 : At YX4_readRule 32 (.invokevirtual 66) 3 35 := ⟨by decide +kernel, rfl⟩
theorem iX4_readRule_35 : AtJ YX4_readRule 35 (.ifCond .ne) 38 40 := ⟨5, by decide +kernel, rfl, by decide⟩
theorem iX4_readRule_38 : At YX4_readRule 38 (.iconst 0) 1 39 := ⟨by decide +kernel, rfl⟩
theorem iX4_readRule_39 : At YX4_readRule 39 (.ireturn) 1 40 := ⟨by decide +kernel, rfl⟩
theorem iX4_readRule_40 : At YX4_readRule 40 (.aload_n 1) 1 41 := ⟨by decide +kernel, rfl⟩
theorem iX4_readRule_41 : At YX4_readRule 41 (.getfield 70) 3 44 := ⟨by decide +kernel, rfl⟩
theorem iX4_readRule_44 : At YX4_readRule 44 (.iload_n 2) 1 45 := ⟨by decide +kernel, rfl⟩
theorem iX4_readRule_45 : At YX4_readRule 45 (.aload_n 1) 1 46 := ⟨by decide +kernel, rfl⟩
theorem iX4_readRule_46 : At YX4_readRule 46 (.iload_n 2) 1 47 := ⟨by decide +kernel, rfl⟩
theorem iX4_readRule_47 : At YX4_readRule 47 (.invokevirtual 73) 3 50 := ⟨by decide +kernel, rfl⟩
theorem iX4_readRule_50 : At YX4_readRule 50 (.iastore) 1 51 := ⟨by decide +kernel, rfl⟩
theorem iX4_readRule_51 : At YX4_readRule 51 (.aload_n 1) 1 52 := ⟨by decide +kernel, rfl⟩
theorem iX4_readRule_52 : At YX4_readRule 52 (.getfield 70) 3 55 := ⟨by decide +kernel, rfl⟩
theorem iX4_readRule_55 : At YX4_readRule 55 (.iload_n 2) 1 56 := ⟨by decide +kernel, rfl⟩
theorem iX4_readRule_56 : At YX4_readRule 56 (.iaload) 1 57 := ⟨by decide +kernel, rfl⟩
theorem iX4_readRule_57 : At YX4_readRule 57 (.iconst 3) 1 58 := ⟨by decide +kernel, rfl⟩
theorem iX4_readRule_58 : AtJ YX4_readRule 58 (.if_icmp .le) 61 67 := ⟨9, by decide +kernel, rfl, by decide⟩
theorem iX4_readRule_61 : At YX4_readRule 61 (.aload_n 0) 1 62 := ⟨by decide +kernel, rfl⟩
theorem iX4_readRule_62 : At YX4_readRule 62 (.iload_n 3) 1 63 := ⟨by decide +kernel, rfl⟩
theorem iX4_readRule_63 : At YX4_readRule 63 (.invokevirtual 52) 3 66 := ⟨by decide +kernel, rfl⟩
theorem iX4_readRule_66 : At YX4_readRule 66 (.ireturn) 1 67 := ⟨by decide +kernel, rfl⟩
theorem iX4_readRule_67 : At YX4_readRule 67 (.aload_n 0) 1 68 := ⟨by decide +kernel, rfl⟩
theorem iX4_readRule_68 : At YX4_readRule 68 (.aload_n 1) 1 69 := ⟨by decide +kernel, rfl⟩
theorem iX4_readRule_69 : At YX4_readRule 69 (.iload_n 2) 1 70 := ⟨by decide +kernel, rfl⟩
theorem iX4_readRule_70 : At YX4_readRule 70 (.invokevirtual 77) 3 73 := ⟨by decide +kernel, rfl⟩
theorem iX4_readRule_73 : AtJ YX4_readRule 73 (.ifCond .ne) 76 78 := ⟨5, by decide +kernel, rfl, by decide⟩
theorem iX4_readRule_76 : At YX4_readRule 76 (.iconst 0) 1 77 := ⟨by decide +kernel, rfl⟩
theorem iX4_readRule_77 : At YX4_readRule 77 (.ireturn) 1 78 := ⟨by decide +kernel, rfl⟩
theorem iX4_readRule_78 : At YX4_readRule 78 (.aload_n 1) 1 79 := ⟨by decide +kernel, rfl⟩
theorem iX4_readRule_79 : At YX4_readRule 79 (.iload_n 2) 1 80 := ⟨by decide +kernel, rfl⟩
theorem iX4_readRule_80 : At YX4_readRule 80 (.invokevirtual 80) 3 83 := ⟨by decide +kernel, rfl⟩
theorem iX4_readRule_83 : At YX4_readRule 83 (.aload_n 1) 1 84 := ⟨by decide +kernel, rfl⟩
theorem iX4_readRule_84 : At YX4_readRule 84 (.dup) 1 85 := ⟨by decide +kernel, rfl⟩
theorem iX4_readRule_85 : At YX4_readRule 85 (.getfield 46) 3 88 := ⟨by decide +kernel, rfl⟩
theorem iX4_readRule_88 : At YX4_readRule 88 (.iconst 1) 1 89 := ⟨by decide +kernel, rfl⟩
theorem iX4_readRule_89 : At YX4_readRule 89 (.iadd) 1 90 := ⟨by decide +kernel, rfl⟩
theorem iX4_readRule_90 : At YX4_readRule 90 (.putfield 46) 3 93 := ⟨by decide +kernel, rfl⟩
theorem iX4_readRule_93 : At YX4_readRule 93 (.iconst 1) 1 94 := ⟨by decide +kernel, rfl⟩
theorem iX4_readRule_94 : At YX4_readRule 94 (.ireturn) 1 95 := ⟨by decide +kernel, rfl⟩
theorem iX4_readTerms_0 : At YX4_readTerms 0 (.iconst 1) 1 1 := ⟨by decide +kernel, rfl⟩
theorem iX4_readTerms_1 : At YX4_readTerms 1 (.istore_n 3) 1 2 := ⟨by decide +kernel, rfl⟩
theorem iX4_readTerms_2 : At YX4_readTerms 2 (.aload_n 0) 1 3 := ⟨by decide +kernel, rfl⟩
theorem iX4_readTerms_3 : At YX4_readTerms 3 (.invokevirtual 34) 3 6 := ⟨by decide +kernel, rfl⟩
theorem iX4_readTerms_6 : At YX4_readTerms 6 (.bipush 45) 2 8 := ⟨by decide +kernel, rfl⟩
theorem iX4_readTerms_8 : AtJ YX4_readTerms 8 (.if_icmp .ne) 11 23 := ⟨15, by decide +kernel, rfl, by decide⟩
theorem iX4_readTerms_11 : At YX4_readTerms 11 (.iconst (-1)) 1 12 := ⟨by decide +kernel, rfl⟩
theorem iX4_readTerms_12 : At YX4_readTerms 12 (.istore_n 3) 1 13 := ⟨by decide +kernel, rfl⟩
theorem iX4_readTerms_13 : At YX4_readTerms 13 (.aload_n 0) 1 14 := ⟨by decide +kernel, rfl⟩
theorem iX4_readTerms_14 : At YX4_readTerms 14 (.dup) 1 15 := ⟨by decide +kernel, rfl⟩
theorem iX4_readTerms_15 : At YX4_readTerms 15 (.getfield 19) 3 18 := ⟨by decide +kernel, rfl⟩
theorem iX4_readTerms_18 : At YX4_readTerms 18 (.iconst 1) 1 19 := ⟨by decide +kernel, rfl⟩
theorem iX4_readTerms_19 : At YX4_readTerms 19 (.iadd) 1 20 := ⟨by decide +kernel, rfl⟩
theorem iX4_readTerms_20 : At YX4_readTerms 20 (.putfield 19) 3 23 := ⟨by decide +kernel, rfl⟩
theorem iX4_readTerms_23 : At YX4_readTerms 23 (.iconst 0) 1 24 := ⟨by decide +kernel, rfl⟩
theorem iX4_readTerms_24 : At YX4_readTerms 24 (.istore 4) 2 26 := ⟨by decide +kernel, rfl⟩
theorem iX4_readTerms_26 : At YX4_readTerms 26 (.iload 4) 2 28 := ⟨by decide +kernel, rfl⟩
theorem iX4_readTerms_28 : At YX4_readTerms 28 (.bipush 6) 2 30 := ⟨by decide +kernel, rfl⟩
theorem iX4_readTerms_30 : AtJ YX4_readTerms 30 (.if_icmp .ge) 33 148 := ⟨118, by decide +kernel, rfl, by decide⟩
theorem iX4_readTerms_33 : At YX4_readTerms 33 (.aload_n 0) 1 34 := ⟨by decide +kernel, rfl⟩
theorem iX4_readTerms_34 : At YX4_readTerms 34 (.invokevirtual 34) 3 37 := ⟨by decide +kernel, rfl⟩
theorem iX4_readTerms_37 : At YX4_readTerms 37 (.aload_n 1) 1 38 := ⟨by decide +kernel, rfl⟩
theorem iX4_readTerms_38 : At YX4_readTerms 38 (.getfield 46) 3 41 := ⟨by decide +kernel, rfl⟩
theorem iX4_readTerms_41 : At YX4_readTerms 41 (.invokestatic 84) 3 44 := ⟨by decide +kernel, rfl⟩
theorem iX4_readTerms_44 : At YX4_readTerms 44 (.istore 5) 2 46 := ⟨by decide +kernel, rfl⟩
theorem iX4_readTerms_46 : At YX4_readTerms 46 (.iload 5) 2 48 := ⟨by decide +kernel, rfl⟩
theorem iX4_readTerms_48 : At YX4_readTerms 48 (.iconst (-1)) 1 49 := ⟨by decide +kernel, rfl⟩
theorem iX4_readTerms_49 : AtJ YX4_readTerms 49 (.if_icmp .ne) 52 61 := ⟨12, by decide +kernel, rfl, by decide⟩
theorem iX4_readTerms_52 : At YX4_readTerms 52 (.aload_n 0) 1 53 := ⟨by decide +kernel, rfl⟩
theorem iX4_readTerms_53 : At YX4_readTerms 53 (.aload_n 0) 1 54 := ⟨by decide +kernel, rfl⟩
theorem iX4_readTerms_54 : At YX4_readTerms 54 (.getfield 19) 3 57 := ⟨by decide +kernel, rfl⟩
theorem iX4_readTerms_57 : At YX4_readTerms 57 (.invokevirtual 52) 3 60 := ⟨by decide +kernel, rfl⟩
theorem iX4_readTerms_60 : At YX4_readTerms 60 (.ireturn) 1 61 := ⟨by decide +kernel, rfl⟩
theorem iX4_readTerms_61 : At YX4_readTerms 61 (.aload_n 1) 1 62 := ⟨by decide +kernel, rfl⟩
theorem iX4_readTerms_62 : At YX4_readTerms 62 (.iload_n 2) 1 63 := ⟨by decide +kernel, rfl⟩
theorem iX4_readTerms_63 : At YX4_readTerms 63 (.iload 5) 2 65 := ⟨by decide +kernel, rfl⟩
theorem iX4_readTerms_65 : At YX4_readTerms 65 (.iload_n 3) 1 66 := ⟨by decide +kernel, rfl⟩
theorem iX4_readTerms_66 : At YX4_readTerms 66 (.invokevirtual 87) 3 69 := ⟨by decide +kernel, rfl⟩
theorem iX4_readTerms_69 : At YX4_readTerms 69 (.aload_n 0) 1 70 := ⟨by decide +kernel, rfl⟩
theorem iX4_readTerms_70 : At YX4_readTerms 70 (.dup) 1 71 := ⟨by decide +kernel, rfl⟩
theorem iX4_readTerms_71 : At YX4_readTerms 71 (.getfield 19) 3 74 := ⟨by decide +kernel, rfl⟩
theorem iX4_readTerms_74 : At YX4_readTerms 74 (.iconst 1) 1 75 := ⟨by decide +kernel, rfl⟩
theorem iX4_readTerms_75 : At YX4_readTerms 75 (.iadd) 1 76 := ⟨by decide +kernel, rfl⟩
theorem iX4_readTerms_76 : At YX4_readTerms 76 (.putfield 19) 3 79 := ⟨by decide +kernel, rfl⟩
theorem iX4_readTerms_79 : At YX4_readTerms 79 (.aload_n 0) 1 80 := ⟨by decide +kernel, rfl⟩
theorem iX4_readTerms_80 : At YX4_readTerms 80 (.invokevirtual 34) 3 83 := ⟨by decide +kernel, rfl⟩
theorem iX4_readTerms_83 : At YX4_readTerms 83 (.istore 6) 2 85 := ⟨by decide +kernel, rfl⟩
theorem iX4_readTerms_85 : At YX4_readTerms 85 (.iload 6) 2 87 := ⟨by decide +kernel, rfl⟩
theorem iX4_readTerms_87 : At YX4_readTerms 87 (.bipush 43) 2 89 := ⟨by decide +kernel, rfl⟩
theorem iX4_readTerms_89 : AtJ YX4_readTerms 89 (.if_icmp .eq) 92 101 := ⟨12, by decide +kernel, rfl, by decide⟩
theorem iX4_readTerms_92 : At YX4_readTerms 92 (.iload 6) 2 94 := ⟨by decide +kernel, rfl⟩
theorem iX4_readTerms_94 : At YX4_readTerms 94 (.bipush 45) 2 96 := ⟨by decide +kernel, rfl⟩
theorem iX4_readTerms_96 : AtJ YX4_readTerms 96 (.if_icmp .eq) 99 101 := ⟨5, by decide +kernel, rfl, by decide⟩
theorem iX4_readTerms_99 : At YX4_readTerms 99 (.iconst 1) 1 100 := ⟨by decide +kernel, rfl⟩
theorem iX4_readTerms_100 : At YX4_readTerms 100 (.ireturn) 1 101 := ⟨by decide +kernel, rfl⟩
theorem iX4_readTerms_101 : At YX4_readTerms 101 (.iload 4) 2 103 := ⟨by decide +kernel, rfl⟩
theorem iX4_readTerms_103 : At YX4_readTerms 103 (.iconst 1) 1 104 := ⟨by decide +kernel, rfl⟩
theorem iX4_readTerms_104 : At YX4_readTerms 104 (.iadd) 1 105 := ⟨by decide +kernel, rfl⟩
theorem iX4_readTerms_105 : At YX4_readTerms 105 (.bipush 6) 2 107 := ⟨by decide +kernel, rfl⟩
theorem iX4_readTerms_107 : AtJ YX4_readTerms 107 (.if_icmp .ne) 110 119 := ⟨12, by decide +kernel, rfl, by decide⟩
theorem iX4_readTerms_110 : At YX4_readTerms 110 (.aload_n 0) 1 111 := ⟨by decide +kernel, rfl⟩
theorem iX4_readTerms_111 : At YX4_readTerms 111 (.aload_n 0) 1 112 := ⟨by decide +kernel, rfl⟩
theorem iX4_readTerms_112 : At YX4_readTerms 112 (.getfield 19) 3 115 := ⟨by decide +kernel, rfl⟩
theorem iX4_readTerms_115 : At YX4_readTerms 115 (.invokevirtual 52) 3 118 := ⟨by decide +kernel, rfl⟩
theorem iX4_readTerms_118 : At YX4_readTerms 118 (.ireturn) 1 119 := ⟨by decide +kernel, rfl⟩
theorem iX4_readTerms_119 : At YX4_readTerms 119 (.iload 6) 2 121 := ⟨by decide +kernel, rfl⟩
theorem iX4_readTerms_121 : At YX4_readTerms 121 (.bipush 45) 2 123 := ⟨by decide +kernel, rfl⟩
theorem iX4_readTerms_123 : AtJ YX4_readTerms 123 (.if_icmp .ne) 126 130 := ⟨7, by decide +kernel, rfl, by decide⟩
theorem iX4_readTerms_126 : At YX4_readTerms 126 (.iconst (-1)) 1 127 := ⟨by decide +kernel, rfl⟩
theorem iX4_readTerms_127 : AtJ YX4_readTerms 127 .goto 130 131 := ⟨4, by decide +kernel, rfl, by decide⟩
theorem iX4_readTerms_130 : At YX4_readTerms 130 (.iconst 1) 1 131 := ⟨by decide +kernel, rfl⟩
theorem iX4_readTerms_131 : At YX4_readTerms 131 (.istore_n 3) 1 132 := ⟨by decide +kernel, rfl⟩
theorem iX4_readTerms_132 : At YX4_readTerms 132 (.aload_n 0) 1 133 := ⟨by decide +kernel, rfl⟩
theorem iX4_readTerms_133 : At YX4_readTerms 133 (.dup) 1 134 := ⟨by decide +kernel, rfl⟩
theorem iX4_readTerms_134 : At YX4_readTerms 134 (.getfield 19) 3 137 := ⟨by decide +kernel, rfl⟩
theorem iX4_readTerms_137 : At YX4_readTerms 137 (.iconst 1) 1 138 := ⟨by decide +kernel, rfl⟩
theorem iX4_readTerms_138 : At YX4_readTerms 138 (.iadd) 1 139 := ⟨by decide +kernel, rfl⟩
theorem iX4_readTerms_139 : At YX4_readTerms 139 (.putfield 19) 3 142 := ⟨by decide +kernel, rfl⟩
theorem iX4_readTerms_142 : At YX4_readTerms 142 (.iinc 4 1) 3 145 := ⟨by decide +kernel, rfl⟩
theorem iX4_readTerms_145 : AtJ YX4_readTerms 145 .goto 148 26 := ⟨-119, by decide +kernel, rfl, by decide⟩
theorem iX4_readTerms_148 : At YX4_readTerms 148 (.iconst 1) 1 149 := ⟨by decide +kernel, rfl⟩
theorem iX4_readTerms_149 : At YX4_readTerms 149 (.ireturn) 1 150 := ⟨by decide +kernel, rfl⟩
theorem iX4_termOf_0 : At YX4_termOf 0 (.iload_n 0) 1 1 := ⟨by decide +kernel, rfl⟩
theorem iX4_termOf_1 : At YX4_termOf 1 (.bipush 103) 2 3 := ⟨by decide +kernel, rfl⟩
theorem iX4_termOf_3 : AtJ YX4_termOf 3 (.if_icmp .ne) 6 9 := ⟨6, by decide +kernel, rfl, by decide⟩
theorem iX4_termOf_6 : At YX4_termOf 6 (.bipush 6) 2 8 := ⟨by decide +kernel, rfl⟩
theorem iX4_termOf_8 : At YX4_termOf 8 (.ireturn) 1 9 := ⟨by decide +kernel, rfl⟩
theorem iX4_termOf_9 : At YX4_termOf 9 (.iload_n 0) 1 10 := ⟨by decide +kernel, rfl⟩
theorem iX4_termOf_10 : At YX4_termOf 10 (.bipush 107) 2 12 := ⟨by decide +kernel, rfl⟩
theorem iX4_termOf_12 : AtJ YX4_termOf 12 (.if_icmp .ne) 15 18 := ⟨6, by decide +kernel, rfl, by decide⟩
theorem iX4_termOf_15 : At YX4_termOf 15 (.bipush 7) 2 17 := ⟨by decide +kernel, rfl⟩
theorem iX4_termOf_17 : At YX4_termOf 17 (.ireturn) 1 18 := ⟨by decide +kernel, rfl⟩
theorem iX4_termOf_18 : At YX4_termOf 18 (.iload_n 0) 1 19 := ⟨by decide +kernel, rfl⟩
theorem iX4_termOf_19 : At YX4_termOf 19 (.bipush 97) 2 21 := ⟨by decide +kernel, rfl⟩
theorem iX4_termOf_21 : AtJ YX4_termOf 21 (.if_icmp .lt) 24 39 := ⟨18, by decide +kernel, rfl, by decide⟩
theorem iX4_termOf_24 : At YX4_termOf 24 (.iload_n 0) 1 25 := ⟨by decide +kernel, rfl⟩
theorem iX4_termOf_25 : At YX4_termOf 25 (.bipush 97) 2 27 := ⟨by decide +kernel, rfl⟩
theorem iX4_termOf_27 : At YX4_termOf 27 (.iload_n 1) 1 28 := ⟨by decide +kernel, rfl⟩
theorem iX4_termOf_28 : At YX4_termOf 28 (.iadd) 1 29 := ⟨by decide +kernel, rfl⟩
theorem iX4_termOf_29 : AtJ YX4_termOf 29 (.if_icmp .ge) 32 39 := ⟨10, by decide +kernel, rfl, by decide⟩
theorem iX4_termOf_32 : At YX4_termOf 32 (.iload_n 0) 1 33 := ⟨by decide +kernel, rfl⟩
theorem iX4_termOf_33 : At YX4_termOf 33 (.bipush 97) 2 35 := ⟨by decide +kernel, rfl⟩
theorem iX4_termOf_35 : At YX4_termOf 35 (.isub) 1 36 := ⟨by decide +kernel, rfl⟩
theorem iX4_termOf_36 : AtJ YX4_termOf 36 .goto 39 40 := ⟨4, by decide +kernel, rfl, by decide⟩
theorem iX4_termOf_39 : At YX4_termOf 39 (.iconst (-1)) 1 40 := ⟨by decide +kernel, rfl⟩
theorem iX4_termOf_40 : At YX4_termOf 40 (.ireturn) 1 41 := ⟨by decide +kernel, rfl⟩
theorem iX4_readSegments_0 : At YX4_readSegments 0 (.iconst 0) 1 1 := ⟨by decide +kernel, rfl⟩
theorem iX4_readSegments_1 : At YX4_readSegments 1 (.istore_n 3) 1 2 := ⟨by decide +kernel, rfl⟩
theorem iX4_readSegments_2 : At YX4_readSegments 2 (.iconst 0) 1 3 := ⟨by decide +kernel, rfl⟩
theorem iX4_readSegments_3 : At YX4_readSegments 3 (.istore 4) 2 5 := ⟨by decide +kernel, rfl⟩
theorem iX4_readSegments_5 : At YX4_readSegments 5 (.iconst 0) 1 6 := ⟨by decide +kernel, rfl⟩
theorem iX4_readSegments_6 : At YX4_readSegments 6 (.istore 5) 2 8 := ⟨by decide +kernel, rfl⟩
theorem iX4_readSegments_8 : At YX4_readSegments 8 (.iload 5) 2 10 := ⟨by decide +kernel, rfl⟩
theorem iX4_readSegments_10 : At YX4_readSegments 10 (.bipush 6) 2 12 := ⟨by decide +kernel, rfl⟩
theorem iX4_readSegments_12 : AtJ YX4_readSegments 12 (.if_icmp .ge) 15 72 := ⟨60, by decide +kernel, rfl, by decide⟩
theorem iX4_readSegments_15 : At YX4_readSegments 15 (.aload_n 0) 1 16 := ⟨by decide +kernel, rfl⟩
theorem iX4_readSegments_16 : At YX4_readSegments 16 (.bipush 47) 2 18 := ⟨by decide +kernel, rfl⟩
theorem iX4_readSegments_18 : At YX4_readSegments 18 (.invokevirtual 56) 3 21 := ⟨by decide +kernel, rfl⟩
theorem iX4_readSegments_21 : AtJ YX4_readSegments 21 (.ifCond .eq) 24 36 := ⟨15, by decide +kernel, rfl, by decide⟩
theorem iX4_readSegments_24 : At YX4_readSegments 24 (.aload_n 0) 1 25 := ⟨by decide +kernel, rfl⟩
theorem iX4_readSegments_25 : At YX4_readSegments 25 (.aload_n 1) 1 26 := ⟨by decide +kernel, rfl⟩
theorem iX4_readSegments_26 : At YX4_readSegments 26 (.iload_n 2) 1 27 := ⟨by decide +kernel, rfl⟩
theorem iX4_readSegments_27 : At YX4_readSegments 27 (.iload_n 3) 1 28 := ⟨by decide +kernel, rfl⟩
theorem iX4_readSegments_28 : At YX4_readSegments 28 (.iload 4) 2 30 := ⟨by decide +kernel, rfl⟩
theorem iX4_readSegments_30 : At YX4_readSegments 30 (.invokevirtual 91) 3 33 := ⟨by decide +kernel, rfl⟩
theorem iX4_readSegments_33 : AtJ YX4_readSegments 33 (.ifCond .ne) 36 38 := ⟨5, by decide +kernel, rfl, by decide⟩
theorem iX4_readSegments_36 : At YX4_readSegments 36 (.iconst 0) 1 37 := ⟨by decide +kernel, rfl⟩
theorem iX4_readSegments_37 : At YX4_readSegments 37 (.ireturn) 1 38 := ⟨by decide +kernel, rfl⟩
theorem iX4_readSegments_38 : At YX4_readSegments 38 (.aload_n 1) 1 39 := ⟨by decide +kernel, rfl⟩
theorem iX4_readSegments_39 : At YX4_readSegments 39 (.getfield 95) 3 42 := ⟨by decide +kernel, rfl⟩
theorem iX4_readSegments_42 : At YX4_readSegments 42 (.iload_n 2) 1 43 := ⟨by decide +kernel, rfl⟩
theorem iX4_readSegments_43 : At YX4_readSegments 43 (.aaload) 1 44 := ⟨by decide +kernel, rfl⟩
theorem iX4_readSegments_44 : At YX4_readSegments 44 (.iload 5) 2 46 := ⟨by decide +kernel, rfl⟩
theorem iX4_readSegments_46 : At YX4_readSegments 46 (.iaload) 1 47 := ⟨by decide +kernel, rfl⟩
theorem iX4_readSegments_47 : At YX4_readSegments 47 (.iconst 1) 1 48 := ⟨by decide +kernel, rfl⟩
theorem iX4_readSegments_48 : At YX4_readSegments 48 (.iadd) 1 49 := ⟨by decide +kernel, rfl⟩
theorem iX4_readSegments_49 : At YX4_readSegments 49 (.istore_n 3) 1 50 := ⟨by decide +kernel, rfl⟩
theorem iX4_readSegments_50 : At YX4_readSegments 50 (.sipush 9999) 3 53 := ⟨by decide +kernel, rfl⟩
theorem iX4_readSegments_53 : At YX4_readSegments 53 (.istore 4) 2 55 := ⟨by decide +kernel, rfl⟩
theorem iX4_readSegments_55 : At YX4_readSegments 55 (.aload_n 0) 1 56 := ⟨by decide +kernel, rfl⟩
theorem iX4_readSegments_56 : At YX4_readSegments 56 (.invokevirtual 34) 3 59 := ⟨by decide +kernel, rfl⟩
theorem iX4_readSegments_59 : At YX4_readSegments 59 (.bipush 47) 2 61 := ⟨by decide +kernel, rfl⟩
theorem iX4_readSegments_61 : AtJ YX4_readSegments 61 (.if_icmp .eq) 64 66 := ⟨5, by decide +kernel, rfl, by decide⟩
theorem iX4_readSegments_64 : At YX4_readSegments 64 (.iconst 1) 1 65 := ⟨by decide +kernel, rfl⟩
theorem iX4_readSegments_65 : At YX4_readSegments 65 (.ireturn) 1 66 := ⟨by decide +kernel, rfl⟩
theorem iX4_readSegments_66 : At YX4_readSegments 66 (.iinc 5 1) 3 69 := ⟨by decide +kernel, rfl⟩
theorem iX4_readSegments_69 : AtJ YX4_readSegments 69 .goto 72 8 := ⟨-61, by decide +kernel, rfl, by decide⟩
theorem iX4_readSegments_72 : At YX4_readSegments 72 (.aload_n 0) 1 73 := ⟨by decide +kernel, rfl⟩
theorem iX4_readSegments_73 : At YX4_readSegments 73 (.aload_n 0) 1 74 := ⟨by decide +kernel, rfl⟩
theorem iX4_readSegments_74 : At YX4_readSegments 74 (.getfield 19) 3 77 := ⟨by decide +kernel, rfl⟩
theorem iX4_readSegments_77 : At YX4_readSegments 77 (.invokevirtual 52) 3 80 := ⟨by decide +kernel, rfl⟩
theorem iX4_readSegments_80 : At YX4_readSegments 80 (.ireturn) 1 81 := ⟨by decide +kernel, rfl⟩
theorem iX4_readSegment_0 : At YX4_readSegment 0 (.aload_n 0) 1 1 := ⟨by decide +kernel, rfl⟩
theorem iX4_readSegment_1 : At YX4_readSegment 1 (.iload_n 3) 1 2 := ⟨by decide +kernel, rfl⟩
theorem iX4_readSegment_2 : At YX4_readSegment 2 (.iload 4) 2 4 := ⟨by decide +kernel, rfl⟩
theorem iX4_readSegment_4 : At YX4_readSegment 4 (.invokevirtual 59) 3 7 := ⟨by decide +kernel, rfl⟩
theorem iX4_readSegment_7 : At YX4_readSegment 7 (.istore 5) 2 9 := ⟨by decide +kernel, rfl⟩
theorem iX4_readSegment_9 : At YX4_readSegment 9 (.iload 5) 2 11 := ⟨by decide +kernel, rfl⟩
theorem iX4_readSegment_11 : At YX4_readSegment 11 (.iconst (-1)) 1 12 := ⟨by decide +kernel, rfl⟩
theorem iX4_readSegment_12 : AtJ YX4_readSegment 12 (.if_icmp .eq) 15 24 := ⟨12, by decide +kernel, rfl, by decide⟩
theorem iX4_readSegment_15 : At YX4_readSegment 15 (.aload_n 0) 1 16 := ⟨by decide +kernel, rfl⟩
theorem iX4_readSegment_16 : At YX4_readSegment 16 (.bipush 58) 2 18 := ⟨by decide +kernel, rfl⟩
theorem iX4_readSegment_18 : At YX4_readSegment 18 (.invokevirtual 56) 3 21 := ⟨by decide +kernel, rfl⟩
theorem iX4_readSegment_21 : AtJ YX4_readSegment 21 (.ifCond .ne) 24 26 := ⟨5, by decide +kernel, rfl, by decide⟩
theorem iX4_readSegment_24 : At YX4_readSegment 24 (.iconst 0) 1 25 := ⟨by decide +kernel, rfl⟩
theorem iX4_readSegment_25 : At YX4_readSegment 25 (.ireturn) 1 26 := ⟨by decide +kernel, rfl⟩
theorem iX4_readSegment_26 : At YX4_readSegment 26 (.aload_n 0) 1 27 := ⟨by decide +kernel, rfl⟩
theorem iX4_readSegment_27 : At YX4_readSegment 27 (.iconst 0) 1 28 := ⟨by decide +kernel, rfl⟩
theorem iX4_readSegment_28 : At YX4_readSegment 28 (.sipush 9999) 3 31 := ⟨by decide +kernel, rfl⟩
theorem iX4_readSegment_31 : At YX4_readSegment 31 (.invokevirtual 59) 3 34 := ⟨by decide +kernel, rfl⟩
theorem iX4_readSegment_34 : At YX4_readSegment 34 (.istore 6) 2 36 := ⟨by decide +kernel, rfl⟩
theorem iX4_readSegment_36 : At YX4_readSegment 36 (.iload 6) 2 38 := ⟨by decide +kernel, rfl⟩
theorem iX4_readSegment_38 : At YX4_readSegment 38 (.iconst (-1)) 1 39 := ⟨by decide +kernel, rfl⟩
theorem iX4_readSegment_39 : AtJ YX4_readSegment 39 (.if_icmp .ne) 42 44 := ⟨5, by decide +kernel, rfl, by decide⟩
theorem iX4_readSegment_42 : At YX4_readSegment 42 (.iconst 0) 1 43 := ⟨by decide +kernel, rfl⟩
theorem iX4_readSegment_43 : At YX4_readSegment 43 (.ireturn) 1 44 := ⟨by decide +kernel, rfl⟩
theorem iX4_readSegment_44 : At YX4_readSegment 44 (.aload_n 0) 1 45 := ⟨by decide +kernel, rfl⟩
theorem iX4_readSegment_45 : At YX4_readSegment 45 (.invokevirtual 34) 3 48 := ⟨by decide +kernel, rfl⟩
theorem iX4_readSegment_48 : At YX4_readSegment 48 (.bipush 58) 2 50 := ⟨by decide +kernel, rfl⟩
theorem iX4_readSegment_50 : AtJ YX4_readSegment 50 (.if_icmp .eq) 53 88 := ⟨38, by decide +kernel, rfl, by decide⟩
theorem iX4_readSegment_53 : At YX4_readSegment 53 (.aload_n 1) 1 54 := ⟨by decide +kernel, rfl⟩
theorem iX4_readSegment_54 : At YX4_readSegment 54 (.iload_n 2) 1 55 := ⟨by decide +kernel, rfl⟩
theorem iX4_readSegment_55 : At YX4_readSegment 55 (.iload 5) 2 57 := ⟨by decide +kernel, rfl⟩
theorem iX4_readSegment_57 : At YX4_readSegment 57 (.iconst (-1)) 1 58 := ⟨by decide +kernel, rfl⟩
theorem iX4_readSegment_58 : At YX4_readSegment 58 (.iload 6) 2 60 := ⟨by decide +kernel, rfl⟩
theorem iX4_readSegment_60 : At YX4_readSegment 60 (.invokevirtual 99) 3 63 := ⟨by decide +kernel, rfl⟩
theorem iX4_readSegment_63 : At YX4_readSegment 63 (.iload 6) 2 65 := ⟨by decide +kernel, rfl⟩
theorem iX4_readSegment_65 : At YX4_readSegment 65 (.sipush 1999) 3 68 := ⟨by decide +kernel, rfl⟩
theorem iX4_readSegment_68 : AtJ YX4_readSegment 68 (.if_icmp .le) 71 82 := ⟨14, by decide +kernel, rfl, by decide⟩
theorem iX4_readSegment_71 : At YX4_readSegment 71 (.aload_n 0) 1 72 := ⟨by decide +kernel, rfl⟩
theorem iX4_readSegment_72 : At YX4_readSegment 72 (.aload_n 0) 1 73 := ⟨by decide +kernel, rfl⟩
theorem iX4_readSegment_73 : At YX4_readSegment 73 (.getfield 19) 3 76 := ⟨by decide +kernel, rfl⟩
theorem iX4_readSegment_76 : At YX4_readSegment 76 (.invokevirtual 52) 3 79 := ⟨by decide +kernel, rfl⟩
theorem iX4_readSegment_79 : AtJ YX4_readSegment 79 (.ifCond .eq) 82 86 := ⟨7, by decide +kernel, rfl, by decide⟩
theorem iX4_readSegment_82 : At YX4_readSegment 82 (.iconst 1) 1 83 := ⟨by decide +kernel, rfl⟩
theorem iX4_readSegment_83 : AtJ YX4_readSegment 83 .goto 86 87 := ⟨4, by decide +kernel, rfl, by decide⟩
theorem iX4_readSegment_86 : At YX4_readSegment 86 (.iconst 0) 1 87 := ⟨by decide +kernel, rfl⟩
theorem iX4_readSegment_87 : At YX4_readSegment 87 (.ireturn) 1 88 := ⟨by decide +kernel, rfl⟩
theorem iX4_readSegment_88 : At YX4_readSegment 88 (.aload_n 0) 1 89 := ⟨by decide +kernel, rfl⟩
theorem iX4_readSegment_89 : At YX4_readSegment 89 (.dup) 1 90 := ⟨by decide +kernel, rfl⟩
theorem iX4_readSegment_90 : At YX4_readSegment 90 (.getfield 19) 3 93 := ⟨by decide +kernel, rfl⟩
theorem iX4_readSegment_93 : At YX4_readSegment 93 (.iconst 1) 1 94 := ⟨by decide +kernel, rfl⟩
theorem iX4_readSegment_94 : At YX4_readSegment 94 (.iadd) 1 95 := ⟨by decide +kernel, rfl⟩
theorem iX4_readSegment_95 : At YX4_readSegment 95 (.putfield 19) 3 98 := ⟨by decide +kernel, rfl⟩
theorem iX4_readSegment_98 : At YX4_readSegment 98 (.aload_n 0) 1 99 := ⟨by decide +kernel, rfl⟩
theorem iX4_readSegment_99 : At YX4_readSegment 99 (.iconst 0) 1 100 := ⟨by decide +kernel, rfl⟩
theorem iX4_readSegment_100 : At YX4_readSegment 100 (.sipush 1999) 3 103 := ⟨by decide +kernel, rfl⟩
theorem iX4_readSegment_103 : At YX4_readSegment 103 (.invokevirtual 59) 3 106 := ⟨by decide +kernel, rfl⟩
theorem iX4_readSegment_106 : At YX4_readSegment 106 (.istore 7) 2 108 := ⟨by decide +kernel, rfl⟩
theorem iX4_readSegment_108 : At YX4_readSegment 108 (.iload 7) 2 110 := ⟨by decide +kernel, rfl⟩
theorem iX4_readSegment_110 : At YX4_readSegment 110 (.iconst (-1)) 1 111 := ⟨by decide +kernel, rfl⟩
theorem iX4_readSegment_111 : AtJ YX4_readSegment 111 (.if_icmp .ne) 114 116 := ⟨5, by decide +kernel, rfl, by decide⟩
theorem iX4_readSegment_114 : At YX4_readSegment 114 (.iconst 0) 1 115 := ⟨by decide +kernel, rfl⟩
theorem iX4_readSegment_115 : At YX4_readSegment 115 (.ireturn) 1 116 := ⟨by decide +kernel, rfl⟩
theorem iX4_readSegment_116 : At YX4_readSegment 116 (.aload_n 1) 1 117 := ⟨by decide +kernel, rfl⟩
theorem iX4_readSegment_117 : At YX4_readSegment 117 (.iload_n 2) 1 118 := ⟨by decide +kernel, rfl⟩
theorem iX4_readSegment_118 : At YX4_readSegment 118 (.iload 5) 2 120 := ⟨by decide +kernel, rfl⟩
theorem iX4_readSegment_120 : At YX4_readSegment 120 (.iload 6) 2 122 := ⟨by decide +kernel, rfl⟩
theorem iX4_readSegment_122 : At YX4_readSegment 122 (.iload 7) 2 124 := ⟨by decide +kernel, rfl⟩
theorem iX4_readSegment_124 : At YX4_readSegment 124 (.invokevirtual 99) 3 127 := ⟨by decide +kernel, rfl⟩
theorem iX4_readSegment_127 : At YX4_readSegment 127 (.iconst 1) 1 128 := ⟨by decide +kernel, rfl⟩
theorem iX4_readSegment_128 : At YX4_readSegment 128 (.ireturn) 1 129 := ⟨by decide +kernel, rfl⟩
theorem iX4_readNumber_0 : At YX4_readNumber 0 (.aload_n 0) 1 1 := ⟨by decide +kernel, rfl⟩
theorem iX4_readNumber_1 : At YX4_readNumber 1 (.invokevirtual 34) 3 4 := ⟨by decide +kernel, rfl⟩
theorem iX4_readNumber_4 : At YX4_readNumber 4 (.pop) 1 5 := ⟨by decide +kernel, rfl⟩
theorem iX4_readNumber_5 : At YX4_readNumber 5 (.iconst 0) 1 6 := ⟨by decide +kernel, rfl⟩
theorem iX4_readNumber_6 : At YX4_readNumber 6 (.istore_n 3) 1 7 := ⟨by decide +kernel, rfl⟩
theorem iX4_readNumber_7 : At YX4_readNumber 7 (.iconst 0) 1 8 := ⟨by decide +kernel, rfl⟩
theorem iX4_readNumber_8 : At YX4_readNumber 8 (.istore 4) 2 10 := ⟨by decide +kernel, rfl⟩
theorem iX4_readNumber_10 : At YX4_readNumber 10 (.iload 4) 2 12 := ⟨by decide +kernel, rfl⟩
theorem iX4_readNumber_12 : At YX4_readNumber 12 (.iconst 4) 1 13 := ⟨by decide +kernel, rfl⟩
theorem iX4_readNumber_13 : AtJ YX4_readNumber 13 (.if_icmp .ge) 16 61 := ⟨48, by decide +kernel, rfl, by decide⟩
theorem iX4_readNumber_16 : At YX4_readNumber 16 (.aload_n 0) 1 17 := ⟨by decide +kernel, rfl⟩
theorem iX4_readNumber_17 : At YX4_readNumber 17 (.aload_n 0) 1 18 := ⟨by decide +kernel, rfl⟩
theorem iX4_readNumber_18 : At YX4_readNumber 18 (.getfield 19) 3 21 := ⟨by decide +kernel, rfl⟩
theorem iX4_readNumber_21 : At YX4_readNumber 21 (.invokevirtual 103) 3 24 := ⟨by decide +kernel, rfl⟩
theorem iX4_readNumber_24 : AtJ YX4_readNumber 24 (.ifCond .eq) 27 61 := ⟨37, by decide +kernel, rfl, by decide⟩
theorem iX4_readNumber_27 : At YX4_readNumber 27 (.iload_n 3) 1 28 := ⟨by decide +kernel, rfl⟩
theorem iX4_readNumber_28 : At YX4_readNumber 28 (.bipush 10) 2 30 := ⟨by decide +kernel, rfl⟩
theorem iX4_readNumber_30 : At YX4_readNumber 30 (.imul) 1 31 := ⟨by decide +kernel, rfl⟩
theorem iX4_readNumber_31 : At YX4_readNumber 31 (.aload_n 0) 1 32 := ⟨by decide +kernel, rfl⟩
theorem iX4_readNumber_32 : At YX4_readNumber 32 (.getfield 9) 3 35 := ⟨by decide +kernel, rfl⟩
theorem iX4_readNumber_35 : At YX4_readNumber 35 (.aload_n 0) 1 36 := ⟨by decide +kernel, rfl⟩
theorem iX4_readNumber_36 : At YX4_readNumber 36 (.getfield 19) 3 39 := ⟨by decide +kernel, rfl⟩
theorem iX4_readNumber_39 : At YX4_readNumber 39 (.iaload) 1 40 := ⟨by decide +kernel, rfl⟩
theorem iX4_readNumber_40 : At YX4_readNumber 40 (.iadd) 1 41 := ⟨by decide +kernel, rfl⟩
theorem iX4_readNumber_41 : At YX4_readNumber 41 (.bipush 48) 2 43 := ⟨by decide +kernel, rfl⟩
theorem iX4_readNumber_43 : At YX4_readNumber 43 (.isub) 1 44 := ⟨by decide +kernel, rfl⟩
theorem iX4_readNumber_44 : At YX4_readNumber 44 (.istore_n 3) 1 45 := ⟨by decide +kernel, rfl⟩
theorem iX4_readNumber_45 : At YX4_readNumber 45 (.aload_n 0) 1 46 := ⟨by decide +kernel, rfl⟩
theorem iX4_readNumber_46 : At YX4_readNumber 46 (.dup) 1 47 := ⟨by decide +kernel, rfl⟩
theorem iX4_readNumber_47 : At YX4_readNumber 47 (.getfield 19) 3 50 := ⟨by decide +kernel, rfl⟩
theorem iX4_readNumber_50 : At YX4_readNumber 50 (.iconst 1) 1 51 := ⟨by decide +kernel, rfl⟩
theorem iX4_readNumber_51 : At YX4_readNumber 51 (.iadd) 1 52 := ⟨by decide +kernel, rfl⟩
theorem iX4_readNumber_52 : At YX4_readNumber 52 (.putfield 19) 3 55 := ⟨by decide +kernel, rfl⟩
theorem iX4_readNumber_55 : At YX4_readNumber 55 (.iinc 4 1) 3 58 := ⟨by decide +kernel, rfl⟩
theorem iX4_readNumber_58 : AtJ YX4_readNumber 58 .goto 61 10 := ⟨-48, by decide +kernel, rfl, by decide⟩
theorem iX4_readNumber_61 : At YX4_readNumber 61 (.iload 4) 2 63 := ⟨by decide +kernel, rfl⟩
theorem iX4_readNumber_63 : AtJ YX4_readNumber 63 (.ifCond .eq) 66 77 := ⟨14, by decide +kernel, rfl, by decide⟩
theorem iX4_readNumber_66 : At YX4_readNumber 66 (.aload_n 0) 1 67 := ⟨by decide +kernel, rfl⟩
theorem iX4_readNumber_67 : At YX4_readNumber 67 (.aload_n 0) 1 68 := ⟨by decide +kernel, rfl⟩
theorem iX4_readNumber_68 : At YX4_readNumber 68 (.getfield 19) 3 71 := ⟨by decide +kernel, rfl⟩
theorem iX4_readNumber_71 : At YX4_readNumber 71 (.invokevirtual 103) 3 74 := ⟨by decide +kernel, rfl⟩
theorem iX4_readNumber_74 : AtJ YX4_readNumber 74 (.ifCond .eq) 77 88 := ⟨14, by decide +kernel, rfl, by decide⟩
theorem iX4_readNumber_77 : At YX4_readNumber 77 (.aload_n 0) 1 78 := ⟨by decide +kernel, rfl⟩
theorem iX4_readNumber_78 : At YX4_readNumber 78 (.aload_n 0) 1 79 := ⟨by decide +kernel, rfl⟩
theorem iX4_readNumber_79 : At YX4_readNumber 79 (.getfield 19) 3 82 := ⟨by decide +kernel, rfl⟩
theorem iX4_readNumber_82 : At YX4_readNumber 82 (.invokevirtual 52) 3 85 := ⟨by decide +kernel, rfl⟩
theorem iX4_readNumber_85 : At YX4_readNumber 85 (.pop) 1 86 := ⟨by decide +kernel, rfl⟩
theorem iX4_readNumber_86 : At YX4_readNumber 86 (.iconst (-1)) 1 87 := ⟨by decide +kernel, rfl⟩
theorem iX4_readNumber_87 : At YX4_readNumber 87 (.ireturn) 1 88 := ⟨by decide +kernel, rfl⟩
theorem iX4_readNumber_88 : At YX4_readNumber 88 (.iload_n 3) 1 89 := ⟨by decide +kernel, rfl⟩
theorem iX4_readNumber_89 : At YX4_readNumber 89 (.iload_n 1) 1 90 := ⟨by decide +kernel, rfl⟩
theorem iX4_readNumber_90 : AtJ YX4_readNumber 90 (.if_icmp .lt) 93 98 := ⟨8, by decide +kernel, rfl, by decide⟩
theorem iX4_readNumber_93 : At YX4_readNumber 93 (.iload_n 3) 1 94 := ⟨by decide +kernel, rfl⟩
theorem iX4_readNumber_94 : At YX4_readNumber 94 (.iload_n 2) 1 95 := ⟨by decide +kernel, rfl⟩
theorem iX4_readNumber_95 : AtJ YX4_readNumber 95 (.if_icmp .le) 98 111 := ⟨16, by decide +kernel, rfl, by decide⟩
theorem iX4_readNumber_98 : At YX4_readNumber 98 (.aload_n 0) 1 99 := ⟨by decide +kernel, rfl⟩
theorem iX4_readNumber_99 : At YX4_readNumber 99 (.aload_n 0) 1 100 := ⟨by decide +kernel, rfl⟩
theorem iX4_readNumber_100 : At YX4_readNumber 100 (.getfield 19) 3 103 := ⟨by decide +kernel, rfl⟩
theorem iX4_readNumber_103 : At YX4_readNumber 103 (.iconst 1) 1 104 := ⟨by decide +kernel, rfl⟩
theorem iX4_readNumber_104 : At YX4_readNumber 104 (.isub) 1 105 := ⟨by decide +kernel, rfl⟩
theorem iX4_readNumber_105 : At YX4_readNumber 105 (.invokevirtual 52) 3 108 := ⟨by decide +kernel, rfl⟩
theorem iX4_readNumber_108 : At YX4_readNumber 108 (.pop) 1 109 := ⟨by decide +kernel, rfl⟩
theorem iX4_readNumber_109 : At YX4_readNumber 109 (.iconst (-1)) 1 110 := ⟨by decide +kernel, rfl⟩
theorem iX4_readNumber_110 : At YX4_readNumber 110 (.ireturn) 1 111 := ⟨by decide +kernel, rfl⟩
theorem iX4_readNumber_111 : At YX4_readNumber 111 (.iload_n 3) 1 112 := ⟨by decide +kernel, rfl⟩
theorem iX4_readNumber_112 : At YX4_readNumber 112 (.ireturn) 1 113 := ⟨by decide +kernel, rfl⟩
theorem iX4_isDigit_0 : At YX4_isDigit 0 (.iload_n 1) 1 1 := ⟨by decide +kernel, rfl⟩
theorem iX4_isDigit_1 : At YX4_isDigit 1 (.aload_n 0) 1 2 := ⟨by decide +kernel, rfl⟩
theorem iX4_isDigit_2 : At YX4_isDigit 2 (.getfield 15) 3 5 := ⟨by decide +kernel, rfl⟩
theorem iX4_isDigit_5 : AtJ YX4_isDigit 5 (.if_icmp .ge) 8 34 := ⟨29, by decide +kernel, rfl, by decide⟩
theorem iX4_isDigit_8 : At YX4_isDigit 8 (.aload_n 0) 1 9 := ⟨by decide +kernel, rfl⟩
theorem iX4_isDigit_9 : At YX4_isDigit 9 (.getfield 9) 3 12 := ⟨by decide +kernel, rfl⟩
theorem iX4_isDigit_12 : At YX4_isDigit 12 (.iload_n 1) 1 13 := ⟨by decide +kernel, rfl⟩
theorem iX4_isDigit_13 : At YX4_isDigit 13 (.iaload) 1 14 := ⟨by decide +kernel, rfl⟩
theorem iX4_isDigit_14 : At YX4_isDigit 14 (.bipush 48) 2 16 := ⟨by decide +kernel, rfl⟩
theorem iX4_isDigit_16 : AtJ YX4_isDigit 16 (.if_icmp .lt) 19 34 := ⟨18, by decide +kernel, rfl, by decide⟩
theorem iX4_isDigit_19 : At YX4_isDigit 19 (.aload_n 0) 1 20 := ⟨by decide +kernel, rfl⟩
theorem iX4_isDigit_20 : At YX4_isDigit 20 (.getfield 9) 3 23 := ⟨by decide +kernel, rfl⟩
theorem iX4_isDigit_23 : At YX4_isDigit 23 (.iload_n 1) 1 24 := ⟨by decide +kernel, rfl⟩
theorem iX4_isDigit_24 : At YX4_isDigit 24 (.iaload) 1 25 := ⟨by decide +kernel, rfl⟩
theorem iX4_isDigit_25 : At YX4_isDigit 25 (.bipush 57) 2 27 := ⟨by decide +kernel, rfl⟩
theorem iX4_isDigit_27 : AtJ YX4_isDigit 27 (.if_icmp .gt) 30 34 := ⟨7, by decide +kernel, rfl, by decide⟩
theorem iX4_isDigit_30 : At YX4_isDigit 30 (.iconst 1) 1 31 := ⟨by decide +kernel, rfl⟩
theorem iX4_isDigit_31 : AtJ YX4_isDigit 31 .goto 34 35 := ⟨4, by decide +kernel, rfl, by decide⟩
theorem iX4_isDigit_34 : At YX4_isDigit 34 (.iconst 0) 1 35 := ⟨by decide +kernel, rfl⟩
theorem iX4_isDigit_35 : At YX4_isDigit 35 (.ireturn) 1 36 := ⟨by decide +kernel, rfl⟩
theorem iX5_init_0 : At YX5_init 0 (.aload_n 0) 1 1 := ⟨by decide +kernel, rfl⟩
theorem iX5_init_1 : At YX5_init 1 (.invokespecial 3) 3 4 := ⟨by decide +kernel, rfl⟩
theorem iX5_init_4 : At YX5_init 4 (.aload_n 0) 1 5 := ⟨by decide +kernel, rfl⟩
theorem iX5_init_5 : At YX5_init 5 (.iconst 0) 1 6 := ⟨by decide +kernel, rfl⟩
theorem iX5_init_6 : At YX5_init 6 (.putfield 9) 3 9 := ⟨by decide +kernel, rfl⟩
theorem iX5_init_9 : At YX5_init 9 (.aload_n 0) 1 10 := ⟨by decide +kernel, rfl⟩
theorem iX5_init_10 : At YX5_init 10 (.iconst 0) 1 11 := ⟨by decide +kernel, rfl⟩
theorem iX5_init_11 : At YX5_init 11 (.putfield 15) 3 14 := ⟨by decide +kernel, rfl⟩
theorem iX5_init_14 : At YX5_init 14 (.aload_n 0) 1 15 := ⟨by decide +kernel, rfl⟩
theorem iX5_init_15 : At YX5_init 15 (.bipush 7) 2 17 := ⟨by decide +kernel, rfl⟩
theorem iX5_init_17 : At YX5_init 17 (.newarray .int) 2 19 := ⟨by decide +kernel, rfl⟩
theorem iX5_init_19 : At YX5_init 19 (.putfield 18) 3 22 := ⟨by decide +kernel, rfl⟩
theorem iX5_init_22 : At YX5_init 22 (.aload_n 0) 1 23 := ⟨by decide +kernel, rfl⟩
theorem iX5_init_23 : At YX5_init 23 (.bipush 7) 2 25 := ⟨by decide +kernel, rfl⟩
theorem iX5_init_25 : At YX5_init 25 (.bipush 6) 2 27 := ⟨by decide +kernel, rfl⟩
theorem iX5_init_27 : At YX5_init 27 (.multianewarray 22 2) 4 31 := ⟨by decide +kernel, rfl⟩
theorem iX5_init_31 : At YX5_init 31 (.putfield 24) 3 34 := ⟨by decide +kernel, rfl⟩
theorem iX5_init_34 : At YX5_init 34 (.aload_n 0) 1 35 := ⟨by decide +kernel, rfl⟩
theorem iX5_init_35 : At YX5_init 35 (.bipush 7) 2 37 := ⟨by decide +kernel, rfl⟩
theorem iX5_init_37 : At YX5_init 37 (.bipush 6) 2 39 := ⟨by decide +kernel, rfl⟩
theorem iX5_init_39 : At YX5_init 39 (.multianewarray 22 2) 4 43 := ⟨by decide +kernel, rfl⟩
theorem iX5_init_43 : At YX5_init 43 (.putfield 27) 3 46 := ⟨by decide +kernel, rfl⟩
theorem iX5_init_46 : At YX5_init 46 (.aload_n 0) 1 47 := ⟨by decide +kernel, rfl⟩
theorem iX5_init_47 : At YX5_init 47 (.bipush 6) 2 49 := ⟨by decide +kernel, rfl⟩
theorem iX5_init_49 : At YX5_init 49 (.newarray .int) 2 51 := ⟨by decide +kernel, rfl⟩
theorem iX5_init_51 : At YX5_init 51 (.putfield 30) 3 54 := ⟨by decide +kernel, rfl⟩
theorem iX5_init_54 : At YX5_init 54 (.aload_n 0) 1 55 := ⟨by decide +kernel, rfl⟩
theorem iX5_init_55 : At YX5_init 55 (.bipush 6) 2 57 := ⟨by decide +kernel, rfl⟩
theorem iX5_init_57 : At YX5_init 57 (.newarray .int) 2 59 := ⟨by decide +kernel, rfl⟩
theorem iX5_init_59 : At YX5_init 59 (.putfield 33) 3 62 := ⟨by decide +kernel, rfl⟩
theorem iX5_init_62 : At YX5_init 62 (.aload_n 0) 1 63 := ⟨by decide +kernel, rfl⟩
theorem iX5_init_63 : At YX5_init 63 (.bipush 6) 2 65 := ⟨by decide +kernel, rfl⟩
theorem iX5_init_65 : At YX5_init 65 (.bipush 6) 2 67 := ⟨by decide +kernel, rfl⟩
theorem iX5_init_67 : At YX5_init 67 (.multianewarray 22 2) 4 71 := ⟨by decide +kernel, rfl⟩
theorem iX5_init_71 : At YX5_init 71 (.putfield 36) 3 74 := ⟨by decide +kernel, rfl⟩
theorem iX5_init_74 : At YX5_init 74 (.aload_n 0) 1 75 := ⟨by decide +kernel, rfl⟩
theorem iX5_init_75 : At YX5_init 75 (.bipush 6) 2 77 := ⟨by decide +kernel, rfl⟩
theorem iX5_init_77 : At YX5_init 77 (.bipush 6) 2 79 := ⟨by decide +kernel, rfl⟩
theorem iX5_init_79 : At YX5_init 79 (.multianewarray 22 2) 4 83 := ⟨by decide +kernel, rfl⟩
theorem iX5_init_83 : At YX5_init 83 (.putfield 39) 3 86 := ⟨by decide +kernel, rfl⟩
theorem iX5_init_86 : At YX5_init 86 (.aload_n 0) 1 87 := ⟨by decide +kernel, rfl⟩
theorem iX5_init_87 : At YX5_init 87 (.bipush 6) 2 89 := ⟨by decide +kernel, rfl⟩
theorem iX5_init_89 : At YX5_init 89 (.bipush 6) 2 91 := ⟨by decide +kernel, rfl⟩
theorem iX5_init_91 : At YX5_init 91 (.multianewarray 22 2) 4 95 := ⟨by decide +kernel, rfl⟩
theorem iX5_init_95 : At YX5_init 95 (.putfield 42) 3 98 := ⟨by decide +kernel, rfl⟩
theorem iX5_init_98 : At YX5_init 98 (.aload_n 0) 1 99 := ⟨by decide +kernel, rfl⟩
theorem iX5_init_99 : At YX5_init 99 (.bipush 6) 2 101 := ⟨by decide +kernel, rfl⟩
theorem iX5_init_101 : At YX5_init 101 (.bipush 6) 2 103 := ⟨by decide +kernel, rfl⟩
theorem iX5_init_103 : At YX5_init 103 (.multianewarray 45 2) 4 107 := ⟨by decide +kernel, rfl⟩
theorem iX5_init_107 : At YX5_init 107 (.putfield 47) 3 110 := ⟨by decide +kernel, rfl⟩
theorem iX5_init_110 : At YX5_init 110 (.return_) 1 111 := ⟨by decide +kernel, rfl⟩
theorem iX5_clear_0 : At YX5_clear 0 (.aload_n 0) 1 1 := ⟨by decide +kernel, rfl⟩
theorem iX5_clear_1 : At YX5_clear 1 (.iconst 0) 1 2 := ⟨by decide +kernel, rfl⟩
theorem iX5_clear_2 : At YX5_clear 2 (.putfield 9) 3 5 := ⟨by decide +kernel, rfl⟩
theorem iX5_clear_5 : At YX5_clear 5 (.aload_n 0) 1 6 := ⟨by decide +kernel, rfl⟩
theorem iX5_clear_6 : At YX5_clear 6 (.iconst 0) 1 7 := ⟨by decide +kernel, rfl⟩
theorem iX5_clear_7 : At YX5_clear 7 (.putfield 15) 3 10 := ⟨by decide +kernel, rfl⟩
theorem iX5_clear_10 : At YX5_clear 10 (.aload_n 0) 1 11 := ⟨by decide +kernel, rfl⟩
theorem iX5_clear_11 : At YX5_clear 11 (.getfield 18) 3 14 := ⟨by decide +kernel, rfl⟩
theorem iX5_clear_14 : At YX5_clear 14 (.iconst 0) 1 15 := ⟨by decide +kernel, rfl⟩
theorem iX5_clear_15 : At YX5_clear 15 (.invokestatic 50) 3 18 := ⟨by decide +kernel, rfl⟩
theorem iX5_clear_18 : At YX5_clear 18 (.aload_n 0) 1 19 := ⟨by decide +kernel, rfl⟩
theorem iX5_clear_19 : At YX5_clear 19 (.getfield 33) 3 22 := ⟨by decide +kernel, rfl⟩
theorem iX5_clear_22 : At YX5_clear 22 (.iconst 0) 1 23 := ⟨by decide +kernel, rfl⟩
theorem iX5_clear_23 : At YX5_clear 23 (.invokestatic 50) 3 26 := ⟨by decide +kernel, rfl⟩
theorem iX5_clear_26 : At YX5_clear 26 (.return_) 1 27 := ⟨by decide +kernel, rfl⟩
theorem iX5_addTerm_0 : At YX5_addTerm 0 (.aload_n 0) 1 1 := ⟨by decide +kernel, rfl⟩
theorem iX5_addTerm_1 : At YX5_addTerm 1 (.getfield 24) 3 4 := ⟨by decide +kernel, rfl⟩
theorem iX5_addTerm_4 : At YX5_addTerm 4 (.iload_n 1) 1 5 := ⟨by decide +kernel, rfl⟩
theorem iX5_addTerm_5 : At YX5_addTerm 5 (.aaload) 1 6 := ⟨by decide +kernel, rfl⟩
theorem iX5_addTerm_6 : At YX5_addTerm 6 (.aload_n 0) 1 7 := ⟨by decide +kernel, rfl⟩
theorem iX5_addTerm_7 : At YX5_addTerm 7 (.getfield 18) 3 10 := ⟨by decide +kernel, rfl⟩
theorem iX5_addTerm_10 : At YX5_addTerm 10 (.iload_n 1) 1 11 := ⟨by decide +kernel, rfl⟩
theorem iX5_addTerm_11 : At YX5_addTerm 11 (.iaload) 1 12 := ⟨by decide +kernel, rfl⟩
theorem iX5_addTerm_12 : At YX5_addTerm 12 (.iload_n 2) 1 13 := ⟨by decide +kernel, rfl⟩
theorem iX5_addTerm_13 : At YX5_addTerm 13 (.iastore) 1 14 := ⟨by decide +kernel, rfl⟩
theorem iX5_addTerm_14 : At YX5_addTerm 14 (.aload_n 0) 1 15 := ⟨by decide +kernel, rfl⟩
theorem iX5_addTerm_15 : At YX5_addTerm 15 (.getfield 27) 3 18 := ⟨by decide +kernel, rfl⟩
theorem iX5_addTerm_18 : At YX5_addTerm 18 (.iload_n 1) 1 19 := ⟨by decide +kernel, rfl⟩
theorem iX5_addTerm_19 : At YX5_addTerm 19 (.aaload) 1 20 := ⟨by decide +kernel, rfl⟩
theorem iX5_addTerm_20 : At YX5_addTerm 20 (.aload_n 0) 1 21 := ⟨by decide +kernel, rfl⟩
theorem iX5_addTerm_21 : At YX5_addTerm 21 (.getfield 18) 3 24 := ⟨by decide +kernel, rfl⟩
theorem iX5_addTerm_24 : At YX5_addTerm 24 (.iload_n 1) 1 25 := ⟨by decide +kernel, rfl⟩
theorem iX5_addTerm_25 : At YX5_addTerm 25 (.iaload) 1 26 := ⟨by decide +kernel, rfl⟩
theorem iX5_addTerm_26 : At YX5_addTerm 26 (.iload_n 3) 1 27 := ⟨by decide +kernel, rfl⟩
theorem iX5_addTerm_27 : At YX5_addTerm 27 (.iastore) 1 28 := ⟨by decide +kernel, rfl⟩
theorem iX5_addTerm_28 : At YX5_addTerm 28 (.aload_n 0) 1 29 := ⟨by decide +kernel, rfl⟩
theorem iX5_addTerm_29 : At YX5_addTerm 29 (.getfield 18) 3 32 := ⟨by decide +kernel, rfl⟩
theorem iX5_addTerm_32 : At YX5_addTerm 32 (.iload_n 1) 1 33 := ⟨by decide +kernel, rfl⟩
theorem iX5_addTerm_33 : At YX5_addTerm 33 (.dup2) 1 34 := ⟨by decide +kernel, rfl⟩
theorem iX5_addTerm_34 : At YX5_addTerm 34 (.iaload) 1 35 := ⟨by decide +kernel, rfl⟩
theorem iX5_addTerm_35 : At YX5_addTerm 35 (.iconst 1) 1 36 := ⟨by decide +kernel, rfl⟩
theorem iX5_addTerm_36 : At YX5_addTerm 36 (.iadd) 1 37 := ⟨by decide +kernel, rfl⟩
theorem iX5_addTerm_37 : At YX5_addTerm 37 (.iastore) 1 38 := ⟨by decide +kernel, rfl⟩
theorem iX5_addTerm_38 : At YX5_addTerm 38 (.return_) 1 39 := ⟨by decide +kernel, rfl⟩
theorem iX5_addSegment_0 : At YX5_addSegment 0 (.aload_n 0) 1 1 := ⟨by decide +kernel, rfl⟩
theorem iX5_addSegment_1 : At YX5_addSegment 1 (.getfield 33) 3 4 := ⟨by decide +kernel, rfl⟩
theorem iX5_addSegment_4 : At YX5_addSegment 4 (.iload_n 1) 1 5 := ⟨by decide +kernel, rfl⟩
theorem iX5_addSegment_5 : At YX5_addSegment 5 (.iaload) 1 6 := ⟨by decide +kernel, rfl⟩
theorem iX5_addSegment_6 : At YX5_addSegment 6 (.istore 5) 2 8 := ⟨by decide +kernel, rfl⟩
theorem iX5_addSegment_8 : At YX5_addSegment 8 (.aload_n 0) 1 9 := ⟨by decide +kernel, rfl⟩
theorem iX5_addSegment_9 : At YX5_addSegment 9 (.getfield 36) 3 12 := ⟨by decide +kernel, rfl⟩
theorem iX5_addSegment_12 : At YX5_addSegment 12 (.iload_n 1) 1 13 := ⟨by decide +kernel, rfl⟩
theorem iX5_addSegment_13 : At YX5_addSegment 13 (.aaload) 1 14 := ⟨by decide +kernel, rfl⟩
theorem iX5_addSegment_14 : At YX5_addSegment 14 (.iload 5) 2 16 := ⟨by decide +kernel, rfl⟩
theorem iX5_addSegment_16 : At YX5_addSegment 16 (.iload_n 2) 1 17 := ⟨by decide +kernel, rfl⟩
theorem iX5_addSegment_17 : At YX5_addSegment 17 (.iastore) 1 18 := ⟨by decide +kernel, rfl⟩
theorem iX5_addSegment_18 : At YX5_addSegment 18 (.aload_n 0) 1 19 := ⟨by decide +kernel, rfl⟩
theorem iX5_addSegment_19 : At YX5_addSegment 19 (.getfield 39) 3 22 := ⟨by decide +kernel, rfl⟩
theorem iX5_addSegment_22 : At YX5_addSegment 22 (.iload_n 1) 1 23 := ⟨by decide +kernel, rfl⟩
theorem iX5_addSegment_23 : At YX5_addSegment 23 (.aaload) 1 24 := ⟨by decide +kernel, rfl⟩
theorem iX5_addSegment_24 : At YX5_addSegment 24 (.iload 5) 2 26 := ⟨by decide +kernel, rfl⟩
theorem iX5_addSegment_26 : At YX5_addSegment 26 (.iload_n 3) 1 27 := ⟨by decide +kernel, rfl⟩
theorem iX5_addSegment_27 : At YX5_addSegment 27 (.iastore) 1 28 := ⟨by decide +kernel, rfl⟩
theorem iX5_addSegment_28 : At YX5_addSegment 28 (.aload_n 0) 1 29 := ⟨by decide +kernel, rfl⟩
theorem iX5_addSegment_29 : At YX5_addSegment 29 (.getfield 42) 3 32 := ⟨by decide +kernel, rfl⟩
theorem iX5_addSegment_32 : At YX5_addSegment 32 (.iload_n 1) 1 33 := ⟨by decide +kernel, rfl⟩
theorem iX5_addSegment_33 : At YX5_addSegment 33 (.aaload) 1 34 := ⟨by decide +kernel, rfl⟩
theorem iX5_addSegment_34 : At YX5_addSegment 34 (.iload 5) 2 36 := ⟨by decide +kernel, rfl⟩
theorem iX5_addSegment_36 : At YX5_addSegment 36 (.iload 4) 2 38 := ⟨by decide +kernel, rfl⟩
theorem iX5_addSegment_38 : At YX5_addSegment 38 (.iastore) 1 39 := ⟨by decide +kernel, rfl⟩
theorem iX5_addSegment_39 : At YX5_addSegment 39 (.aload_n 0) 1 40 := ⟨by decide +kernel, rfl⟩
theorem iX5_addSegment_40 : At YX5_addSegment 40 (.getfield 33) 3 43 := ⟨by decide +kernel, rfl⟩
theorem iX5_addSegment_43 : At YX5_addSegment 43 (.iload_n 1) 1 44 := ⟨by decide +kernel, rfl⟩
theorem iX5_addSegment_44 : At YX5_addSegment 44 (.dup2) 1 45 := ⟨by decide +kernel, rfl⟩
theorem iX5_addSegment_45 : At YX5_addSegment 45 (.iaload) 1 46 := ⟨by decide +kernel, rfl⟩
theorem iX5_addSegment_46 : At YX5_addSegment 46 (.iconst 1) 1 47 := ⟨by decide +kernel, rfl⟩
theorem iX5_addSegment_47 : At YX5_addSegment 47 (.iadd) 1 48 := ⟨by decide +kernel, rfl⟩
theorem iX5_addSegment_48 : At YX5_addSegment 48 (.iastore) 1 49 := ⟨by decide +kernel, rfl⟩
theorem iX5_addSegment_49 : At YX5_addSegment 49 (.return_) 1 50 := ⟨by decide +kernel, rfl⟩
theorem iX5_depthOfTerms_0 : At YX5_depthOfTerms 0 (.iconst 0) 1 1 := ⟨by decide +kernel, rfl⟩
theorem iX5_depthOfTerms_1 : At YX5_depthOfTerms 1 (.istore_n 2) 1 2 := ⟨by decide +kernel, rfl⟩
theorem iX5_depthOfTerms_2 : At YX5_depthOfTerms 2 (.iconst 0) 1 3 := ⟨by decide +kernel, rfl⟩
theorem iX5_depthOfTerms_3 : At YX5_depthOfTerms 3 (.istore_n 3) 1 4 := ⟨by decide +kernel, rfl⟩
theorem iX5_depthOfTerms_4 : At YX5_depthOfTerms 4 (.iload_n 3) 1 5 := ⟨by decide +kernel, rfl⟩
theorem iX5_depthOfTerms_5 : At YX5_depthOfTerms 5 (.aload_n 0) 1 6 := ⟨by decide +kernel, rfl⟩
theorem iX5_depthOfTerms_6 : At YX5_depthOfTerms 6 (.getfield 18) 3 9 := ⟨by decide +kernel, rfl⟩
theorem iX5_depthOfTerms_9 : At YX5_depthOfTerms 9 (.iload_n 1) 1 10 := ⟨by decide +kernel, rfl⟩
theorem iX5_depthOfTerms_10 : At YX5_depthOfTerms 10 (.iaload) 1 11 := ⟨by decide +kernel, rfl⟩
theorem iX5_depthOfTerms_11 : AtJ YX5_depthOfTerms 11 (.if_icmp .ge) 14 49 := ⟨38, by decide +kernel, rfl, by decide⟩
theorem iX5_depthOfTerms_14 : At YX5_depthOfTerms 14 (.aload_n 0) 1 15 := ⟨by decide +kernel, rfl⟩
theorem iX5_depthOfTerms_15 : At YX5_depthOfTerms 15 (.getfield 24) 3 18 := ⟨by decide +kernel, rfl⟩
theorem iX5_depthOfTerms_18 : At YX5_depthOfTerms 18 (.iload_n 1) 1 19 := ⟨by decide +kernel, rfl⟩
theorem iX5_depthOfTerms_19 : At YX5_depthOfTerms 19 (.aaload) 1 20 := ⟨by decide +kernel, rfl⟩
theorem iX5_depthOfTerms_20 : At YX5_depthOfTerms 20 (.iload_n 3) 1 21 := ⟨by decide +kernel, rfl⟩
theorem iX5_depthOfTerms_21 : At YX5_depthOfTerms 21 (.iaload) 1 22 := ⟨by decide +kernel, rfl⟩
theorem iX5_depthOfTerms_22 : At YX5_depthOfTerms 22 (.istore 4) 2 24 := ⟨by decide +kernel, rfl⟩
theorem iX5_depthOfTerms_24 : At YX5_depthOfTerms 24 (.iload 4) 2 26 := ⟨by decide +kernel, rfl⟩
theorem iX5_depthOfTerms_26 : At YX5_depthOfTerms 26 (.bipush 6) 2 28 := ⟨by decide +kernel, rfl⟩
theorem iX5_depthOfTerms_28 : AtJ YX5_depthOfTerms 28 (.if_icmp .ge) 31 43 := ⟨15, by decide +kernel, rfl, by decide⟩
theorem iX5_depthOfTerms_31 : At YX5_depthOfTerms 31 (.iload_n 2) 1 32 := ⟨by decide +kernel, rfl⟩
theorem iX5_depthOfTerms_32 : At YX5_depthOfTerms 32 (.aload_n 0) 1 33 := ⟨by decide +kernel, rfl⟩
theorem iX5_depthOfTerms_33 : At YX5_depthOfTerms 33 (.getfield 30) 3 36 := ⟨by decide +kernel, rfl⟩
theorem iX5_depthOfTerms_36 : At YX5_depthOfTerms 36 (.iload 4) 2 38 := ⟨by decide +kernel, rfl⟩
theorem iX5_depthOfTerms_38 : At YX5_depthOfTerms 38 (.iaload) 1 39 := ⟨by decide +kernel, rfl⟩
theorem iX5_depthOfTerms_39 : At YX5_depthOfTerms 39 (.invokestatic 56) 3 42 := ⟨by decide +kernel, rfl⟩
theorem iX5_depthOfTerms_42 : At YX5_depthOfTerms 42 (.istore_n 2) 1 43 := ⟨by decide +kernel, rfl⟩
theorem iX5_depthOfTerms_43 : At YX5_depthOfTerms 43 (.iinc 3 1) 3 46 := ⟨by decide +kernel, rfl⟩
theorem iX5_depthOfTerms_46 : AtJ YX5_depthOfTerms 46 .goto 49 4 := ⟨-42, by decide +kernel, rfl, by decide⟩
theorem iX5_depthOfTerms_49 : At YX5_depthOfTerms 49 (.iload_n 2) 1 50 := ⟨by decide +kernel, rfl⟩
theorem iX5_depthOfTerms_50 : At YX5_depthOfTerms 50 (.iconst 1) 1 51 := ⟨by decide +kernel, rfl⟩
theorem iX5_depthOfTerms_51 : At YX5_depthOfTerms 51 (.iadd) 1 52 := ⟨by decide +kernel, rfl⟩
theorem iX5_depthOfTerms_52 : At YX5_depthOfTerms 52 (.ireturn) 1 53 := ⟨by decide +kernel, rfl⟩
theorem iX5_rowOfWhat_0 : At YX5_rowOfWhat 0 (.iload_n 2) 1 1 := ⟨by decide +kernel, rfl⟩
theorem iX5_rowOfWhat_1 : AtJ YX5_rowOfWhat 1 (.ifCond .ne) 4 11 := ⟨10, by decide +kernel, rfl, by decide⟩
theorem iX5_rowOfWhat_4 : At YX5_rowOfWhat 4 (.aload_n 0) 1 5 := ⟨by decide +kernel, rfl⟩
theorem iX5_rowOfWhat_5 : At YX5_rowOfWhat 5 (.getfield 36) 3 8 := ⟨by decide +kernel, rfl⟩
theorem iX5_rowOfWhat_8 : At YX5_rowOfWhat 8 (.iload_n 1) 1 9 := ⟨by decide +kernel, rfl⟩
theorem iX5_rowOfWhat_9 : At YX5_rowOfWhat 9 (.aaload) 1 10 := ⟨by decide +kernel, rfl⟩
theorem iX5_rowOfWhat_10 : At YX5_rowOfWhat 10 (.areturn) 1 11 := ⟨by decide +kernel, rfl⟩
theorem iX5_rowOfWhat_11 : At YX5_rowOfWhat 11 (.iload_n 2) 1 12 := ⟨by decide +kernel, rfl⟩
theorem iX5_rowOfWhat_12 : At YX5_rowOfWhat 12 (.iconst 1) 1 13 := ⟨by decide +kernel, rfl⟩
theorem iX5_rowOfWhat_13 : AtJ YX5_rowOfWhat 13 (.if_icmp .ne) 16 25 := ⟨12, by decide +kernel, rfl, by decide⟩
theorem iX5_rowOfWhat_16 : At YX5_rowOfWhat 16 (.aload_n 0) 1 17 := ⟨by decide +kernel, rfl⟩
theorem iX5_rowOfWhat_17 : At YX5_rowOfWhat 17 (.getfield 39) 3 20 := ⟨by decide +kernel, rfl⟩
theorem iX5_rowOfWhat_20 : At YX5_rowOfWhat 20 (.iload_n 1) 1 21 := ⟨by decide +kernel, rfl⟩
theorem iX5_rowOfWhat_21 : At YX5_rowOfWhat 21 (.aaload) 1 22 := ⟨by decide +kernel, rfl⟩
theorem iX5_rowOfWhat_22 : AtJ YX5_rowOfWhat 22 .goto 25 31 := ⟨9, by decide +kernel, rfl, by decide⟩
theorem iX5_rowOfWhat_25 : At YX5_rowOfWhat 25 (.aload_n 0) 1 26 := ⟨by decide +kernel, rfl⟩
theorem iX5_rowOfWhat_26 : At YX5_rowOfWhat 26 (.getfield 42) 3 29 := ⟨by decide +kernel, rfl⟩
theorem iX5_rowOfWhat_29 : At YX5_rowOfWhat 29 (.iload_n 1) 1 30 := ⟨by decide +kernel, rfl⟩
theorem iX5_rowOfWhat_30 : At YX5_rowOfWhat 30 (.aaload) 1 31 := ⟨by decide +kernel, rfl⟩
theorem iX5_rowOfWhat_31 : At YX5_rowOfWhat 31 (.areturn) 1 32 := ⟨by decide +kernel, rfl⟩
theorem iX5_mayStart_0 : At YX5_mayStart 0 (.iload_n 2) 1 1 := ⟨by decide +kernel, rfl⟩
theorem iX5_mayStart_1 : AtJ YX5_mayStart 1 (.ifCond .eq) 4 25 := ⟨24, by decide +kernel, rfl, by decide⟩
theorem iX5_mayStart_4 : At YX5_mayStart 4 (.iload_n 3) 1 5 := ⟨by decide +kernel, rfl⟩
theorem iX5_mayStart_5 : At YX5_mayStart 5 (.sipush 9999) 3 8 := ⟨by decide +kernel, rfl⟩
theorem iX5_mayStart_8 : AtJ YX5_mayStart 8 (.if_icmp .gt) 11 25 := ⟨17, by decide +kernel, rfl, by decide⟩
theorem iX5_mayStart_11 : At YX5_mayStart 11 (.iload_n 3) 1 12 := ⟨by decide +kernel, rfl⟩
theorem iX5_mayStart_12 : At YX5_mayStart 12 (.aload_n 0) 1 13 := ⟨by decide +kernel, rfl⟩
theorem iX5_mayStart_13 : At YX5_mayStart 13 (.getfield 36) 3 16 := ⟨by decide +kernel, rfl⟩
theorem iX5_mayStart_16 : At YX5_mayStart 16 (.iload_n 1) 1 17 := ⟨by decide +kernel, rfl⟩
theorem iX5_mayStart_17 : At YX5_mayStart 17 (.aaload) 1 18 := ⟨by decide +kernel, rfl⟩
theorem iX5_mayStart_18 : At YX5_mayStart 18 (.iload_n 2) 1 19 := ⟨by decide +kernel, rfl⟩
theorem iX5_mayStart_19 : At YX5_mayStart 19 (.iconst 1) 1 20 := ⟨by decide +kernel, rfl⟩
theorem iX5_mayStart_20 : At YX5_mayStart 20 (.isub) 1 21 := ⟨by decide +kernel, rfl⟩
theorem iX5_mayStart_21 : At YX5_mayStart 21 (.iaload) 1 22 := ⟨by decide +kernel, rfl⟩
theorem iX5_mayStart_22 : AtJ YX5_mayStart 22 (.if_icmp .gt) 25 27 := ⟨5, by decide +kernel, rfl, by decide⟩
theorem iX5_mayStart_25 : At YX5_mayStart 25 (.iconst 0) 1 26 := ⟨by decide +kernel, rfl⟩
theorem iX5_mayStart_26 : At YX5_mayStart 26 (.ireturn) 1 27 := ⟨by decide +kernel, rfl⟩
theorem iX5_mayStart_27 : At YX5_mayStart 27 (.iload_n 2) 1 28 := ⟨by decide +kernel, rfl⟩
theorem iX5_mayStart_28 : At YX5_mayStart 28 (.iconst 1) 1 29 := ⟨by decide +kernel, rfl⟩
theorem iX5_mayStart_29 : At YX5_mayStart 29 (.iadd) 1 30 := ⟨by decide +kernel, rfl⟩
theorem iX5_mayStart_30 : At YX5_mayStart 30 (.aload_n 0) 1 31 := ⟨by decide +kernel, rfl⟩
theorem iX5_mayStart_31 : At YX5_mayStart 31 (.getfield 33) 3 34 := ⟨by decide +kernel, rfl⟩
theorem iX5_mayStart_34 : At YX5_mayStart 34 (.iload_n 1) 1 35 := ⟨by decide +kernel, rfl⟩
theorem iX5_mayStart_35 : At YX5_mayStart 35 (.iaload) 1 36 := ⟨by decide +kernel, rfl⟩
theorem iX5_mayStart_36 : AtJ YX5_mayStart 36 (.if_icmp .eq) 39 53 := ⟨17, by decide +kernel, rfl, by decide⟩
theorem iX5_mayStart_39 : At YX5_mayStart 39 (.iload_n 3) 1 40 := ⟨by decide +kernel, rfl⟩
theorem iX5_mayStart_40 : At YX5_mayStart 40 (.aload_n 0) 1 41 := ⟨by decide +kernel, rfl⟩
theorem iX5_mayStart_41 : At YX5_mayStart 41 (.getfield 36) 3 44 := ⟨by decide +kernel, rfl⟩
theorem iX5_mayStart_44 : At YX5_mayStart 44 (.iload_n 1) 1 45 := ⟨by decide +kernel, rfl⟩
theorem iX5_mayStart_45 : At YX5_mayStart 45 (.aaload) 1 46 := ⟨by decide +kernel, rfl⟩
theorem iX5_mayStart_46 : At YX5_mayStart 46 (.iload_n 2) 1 47 := ⟨by decide +kernel, rfl⟩
theorem iX5_mayStart_47 : At YX5_mayStart 47 (.iconst 1) 1 48 := ⟨by decide +kernel, rfl⟩
theorem iX5_mayStart_48 : At YX5_mayStart 48 (.iadd) 1 49 := ⟨by decide +kernel, rfl⟩
theorem iX5_mayStart_49 : At YX5_mayStart 49 (.iaload) 1 50 := ⟨by decide +kernel, rfl⟩
theorem iX5_mayStart_50 : AtJ YX5_mayStart 50 (.if_icmp .ge) 53 57 := ⟨7, by decide +kernel, rfl, by decide⟩
theorem iX5_mayStart_53 : At YX5_mayStart 53 (.iconst 1) 1 54 := ⟨by decide +kernel, rfl⟩
theorem iX5_mayStart_54 : AtJ YX5_mayStart 54 .goto 57 58 := ⟨4, by decide +kernel, rfl, by decide⟩
theorem iX5_mayStart_57 : At YX5_mayStart 57 (.iconst 0) 1 58 := ⟨by decide +kernel, rfl⟩
theorem iX5_mayStart_58 : At YX5_mayStart 58 (.ireturn) 1 59 := ⟨by decide +kernel, rfl⟩
theorem iX5_settle_0 : At YX5_settle 0 (.aload_n 0) 1 1 := ⟨by decide +kernel, rfl⟩
theorem iX5_settle_1 : At YX5_settle 1 (.getfield 36) 3 4 := ⟨by decide +kernel, rfl⟩
theorem iX5_settle_4 : At YX5_settle 4 (.iload_n 1) 1 5 := ⟨by decide +kernel, rfl⟩
theorem iX5_settle_5 : At YX5_settle 5 (.aaload) 1 6 := ⟨by decide +kernel, rfl⟩
theorem iX5_settle_6 : At YX5_settle 6 (.astore_n 2) 1 7 := ⟨by decide +kernel, rfl⟩
theorem iX5_settle_7 : At YX5_settle 7 (.aload_n 0) 1 8 := ⟨by decide +kernel, rfl⟩
theorem iX5_settle_8 : At YX5_settle 8 (.getfield 47) 3 11 := ⟨by decide +kernel, rfl⟩
theorem iX5_settle_11 : At YX5_settle 11 (.iload_n 1) 1 12 := ⟨by decide +kernel, rfl⟩
theorem iX5_settle_12 : At YX5_settle 12 (.aaload) 1 13 := ⟨by decide +kernel, rfl⟩
theorem iX5_settle_13 : At YX5_settle 13 (.astore_n 3) 1 14 := ⟨by decide +kernel, rfl⟩
theorem iX5_settle_14 : At YX5_settle 14 (.iconst 0) 1 15 := ⟨by decide +kernel, rfl⟩
theorem iX5_settle_15 : At YX5_settle 15 (.istore 4) 2 17 := ⟨by decide +kernel, rfl⟩
theorem iX5_settle_17 : At YX5_settle 17 (.iload 4) 2 19 := ⟨by decide +kernel, rfl⟩
theorem iX5_settle_19 : At YX5_settle 19 (.aload_n 0) 1 20 := ⟨by decide +kernel, rfl⟩
theorem iX5_settle_20 : At YX5_settle 20 (.getfield 33) 3 23 := ⟨by decide +kernel, rfl⟩
theorem iX5_settle_23 : At YX5_settle 23 (.iload_n 1) 1 24 := ⟨by decide +kernel, rfl⟩
theorem iX5_settle_24 : At YX5_settle 24 (.iaload) 1 25 := ⟨by decide +kernel, rfl⟩
theorem iX5_settle_25 : AtJ YX5_settle 25 (.if_icmp .ge) 28 125 := ⟨100, by decide +kernel, rfl, by decide⟩
theorem iX5_settle_28 : At YX5_settle 28 (.aload_n 0) 1 29 := ⟨by decide +kernel, rfl⟩
theorem iX5_settle_29 : At YX5_settle 29 (.getfield 39) 3 32 := ⟨by decide +kernel, rfl⟩
theorem iX5_settle_32 : At YX5_settle 32 (.iload_n 1) 1 33 := ⟨by decide +kernel, rfl⟩
theorem iX5_settle_33 : At YX5_settle 33 (.aaload) 1 34 := ⟨by decide +kernel, rfl⟩
theorem iX5_settle_34 : At YX5_settle 34 (.iload 4) 2 36 := ⟨by decide +kernel, rfl⟩
theorem iX5_settle_36 : At YX5_settle 36 (.iaload) 1 37 := ⟨by decide +kernel, rfl⟩
theorem iX5_settle_37 : At YX5_settle 37 (.iconst (-1)) 1 38 := ⟨by decide +kernel, rfl⟩
theorem iX5_settle_38 : AtJ YX5_settle 38 (.if_icmp .eq) 41 62 := ⟨24, by decide +kernel, rfl, by decide⟩
theorem iX5_settle_41 : At YX5_settle 41 (.aload_n 3) 1 42 := ⟨by decide +kernel, rfl⟩
theorem iX5_settle_42 : At YX5_settle 42 (.iload 4) 2 44 := ⟨by decide +kernel, rfl⟩
theorem iX5_settle_44 : At YX5_settle 44 (.aload_n 0) 1 45 := ⟨by decide +kernel, rfl⟩
theorem iX5_settle_45 : At YX5_settle 45 (.getfield 39) 3 48 := ⟨by decide +kernel, rfl⟩
theorem iX5_settle_48 : At YX5_settle 48 (.iload_n 1) 1 49 := ⟨by decide +kernel, rfl⟩
theorem iX5_settle_49 : At YX5_settle 49 (.aaload) 1 50 := ⟨by decide +kernel, rfl⟩
theorem iX5_settle_50 : At YX5_settle 50 (.iload 4) 2 52 := ⟨by decide +kernel, rfl⟩
theorem iX5_settle_52 : At YX5_settle 52 (.iaload) 1 53 := ⟨by decide +kernel, rfl⟩
theorem iX5_settle_53 : At YX5_settle 53 (.i2l) 1 54 := ⟨by decide +kernel, rfl⟩
theorem iX5_settle_54 : At YX5_settle 54 (.ldc2_w 62) 3 57 := ⟨by decide +kernel, rfl⟩
theorem iX5_settle_57 : At YX5_settle 57 (.lmul) 1 58 := ⟨by decide +kernel, rfl⟩
theorem iX5_settle_58 : At YX5_settle 58 (.lastore) 1 59 := ⟨by decide +kernel, rfl⟩
theorem iX5_settle_59 : AtJ YX5_settle 59 .goto 62 119 := ⟨60, by decide +kernel, rfl, by decide⟩
theorem iX5_settle_62 : At YX5_settle 62 (.iload 4) 2 64 := ⟨by decide +kernel, rfl⟩
theorem iX5_settle_64 : AtJ YX5_settle 64 (.ifCond .ne) 67 75 := ⟨11, by decide +kernel, rfl, by decide⟩
theorem iX5_settle_67 : At YX5_settle 67 (.aload_n 3) 1 68 := ⟨by decide +kernel, rfl⟩
theorem iX5_settle_68 : At YX5_settle 68 (.iload 4) 2 70 := ⟨by decide +kernel, rfl⟩
theorem iX5_settle_70 : At YX5_settle 70 (.lconst 0) 1 71 := ⟨by decide +kernel, rfl⟩
theorem iX5_settle_71 : At YX5_settle 71 (.lastore) 1 72 := ⟨by decide +kernel, rfl⟩
theorem iX5_settle_72 : AtJ YX5_settle 72 .goto 75 119 := ⟨47, by decide +kernel, rfl, by decide⟩
theorem iX5_settle_75 : At YX5_settle 75 (.aload_n 2) 1 76 := ⟨by decide +kernel, rfl⟩
theorem iX5_settle_76 : At YX5_settle 76 (.iload 4) 2 78 := ⟨by decide +kernel, rfl⟩
theorem iX5_settle_78 : At YX5_settle 78 (.iaload) 1 79 := ⟨by decide +kernel, rfl⟩
theorem iX5_settle_79 : At YX5_settle 79 (.aload_n 2) 1 80 := ⟨by decide +kernel, rfl⟩
theorem iX5_settle_80 : At YX5_settle 80 (.iload 4) 2 82 := ⟨by decide +kernel, rfl⟩
theorem iX5_settle_82 : At YX5_settle 82 (.iconst 1) 1 83 := ⟨by decide +kernel, rfl⟩
theorem iX5_settle_83 : At YX5_settle 83 (.isub) 1 84 := ⟨by decide +kernel, rfl⟩
theorem iX5_settle_84 : At YX5_settle 84 (.iaload) 1 85 := ⟨by decide +kernel, rfl⟩
theorem iX5_settle_85 : At YX5_settle 85 (.isub) 1 86 := ⟨by decide +kernel, rfl⟩
theorem iX5_settle_86 : At YX5_settle 86 (.i2l) 1 87 := ⟨by decide +kernel, rfl⟩
theorem iX5_settle_87 : At YX5_settle 87 (.aload_n 0) 1 88 := ⟨by decide +kernel, rfl⟩
theorem iX5_settle_88 : At YX5_settle 88 (.getfield 42) 3 91 := ⟨by decide +kernel, rfl⟩
theorem iX5_settle_91 : At YX5_settle 91 (.iload_n 1) 1 92 := ⟨by decide +kernel, rfl⟩
theorem iX5_settle_92 : At YX5_settle 92 (.aaload) 1 93 := ⟨by decide +kernel, rfl⟩
theorem iX5_settle_93 : At YX5_settle 93 (.iload 4) 2 95 := ⟨by decide +kernel, rfl⟩
theorem iX5_settle_95 : At YX5_settle 95 (.iconst 1) 1 96 := ⟨by decide +kernel, rfl⟩
theorem iX5_settle_96 : At YX5_settle 96 (.isub) 1 97 := ⟨by decide +kernel, rfl⟩
theorem iX5_settle_97 : At YX5_settle 97 (.iaload) 1 98 := ⟨by decide +kernel, rfl⟩
theorem iX5_settle_98 : At YX5_settle 98 (.i2l) 1 99 := ⟨by decide +kernel, rfl⟩
theorem iX5_settle_99 : At YX5_settle 99 (.lmul) 1 100 := ⟨by decide +kernel, rfl⟩
theorem iX5_settle_100 : At YX5_settle 100 (.lstore 5) 2 102 := ⟨by decide +kernel, rfl⟩
theorem iX5_settle_102 : At YX5_settle 102 (.aload_n 3) 1 103 := ⟨by decide +kernel, rfl⟩
theorem iX5_settle_103 : At YX5_settle 103 (.iload 4) 2 105 := ⟨by decide +kernel, rfl⟩
theorem iX5_settle_105 : At YX5_settle 105 (.aload_n 3) 1 106 := ⟨by decide +kernel, rfl⟩
theorem iX5_settle_106 : At YX5_settle 106 (.iload 4) 2 108 := ⟨by decide +kernel, rfl⟩
theorem iX5_settle_108 : At YX5_settle 108 (.iconst 1) 1 109 := ⟨by decide +kernel, rfl⟩
theorem iX5_settle_109 : At YX5_settle 109 (.isub) 1 110 := ⟨by decide +kernel, rfl⟩
theorem iX5_settle_110 : At YX5_settle 110 (.laload) 1 111 := ⟨by decide +kernel, rfl⟩
theorem iX5_settle_111 : At YX5_settle 111 (.lload 5) 2 113 := ⟨by decide +kernel, rfl⟩
theorem iX5_settle_113 : At YX5_settle 113 (.ldc2_w 64) 3 116 := ⟨by decide +kernel, rfl⟩
theorem iX5_settle_116 : At YX5_settle 116 (.lmul) 1 117 := ⟨by decide +kernel, rfl⟩
theorem iX5_settle_117 : At YX5_settle 117 (.ladd) 1 118 := ⟨by decide +kernel, rfl⟩
theorem iX5_settle_118 : At YX5_settle 118 (.lastore) 1 119 := ⟨by decide +kernel, rfl⟩
theorem iX5_settle_119 : At YX5_settle 119 (.iinc 4 1) 3 122 := ⟨by decide +kernel, rfl⟩
theorem iX5_settle_122 : AtJ YX5_settle 122 .goto 125 17 := ⟨-105, by decide +kernel, rfl, by decide⟩
theorem iX5_settle_125 : At YX5_settle 125 (.return_) 1 126 := ⟨by decide +kernel, rfl⟩
theorem iX5_segmentFor_0 : At YX5_segmentFor 0 (.aload_n 0) 1 1 := ⟨by decide +kernel, rfl⟩
theorem iX5_segmentFor_1 : At YX5_segmentFor 1 (.getfield 33) 3 4 := ⟨by decide +kernel, rfl⟩
theorem iX5_segmentFor_4 : At YX5_segmentFor 4 (.iload_n 1) 1 5 := ⟨by decide +kernel, rfl⟩
theorem iX5_segmentFor_5 : At YX5_segmentFor 5 (.iaload) 1 6 := ⟨by decide +kernel, rfl⟩
theorem iX5_segmentFor_6 : At YX5_segmentFor 6 (.iconst 1) 1 7 := ⟨by decide +kernel, rfl⟩
theorem iX5_segmentFor_7 : At YX5_segmentFor 7 (.isub) 1 8 := ⟨by decide +kernel, rfl⟩
theorem iX5_segmentFor_8 : At YX5_segmentFor 8 (.istore 4) 2 10 := ⟨by decide +kernel, rfl⟩
theorem iX5_segmentFor_10 : At YX5_segmentFor 10 (.iload 4) 2 12 := ⟨by decide +kernel, rfl⟩
theorem iX5_segmentFor_12 : AtJ YX5_segmentFor 12 (.ifCond .le) 15 40 := ⟨28, by decide +kernel, rfl, by decide⟩
theorem iX5_segmentFor_15 : At YX5_segmentFor 15 (.aload_n 0) 1 16 := ⟨by decide +kernel, rfl⟩
theorem iX5_segmentFor_16 : At YX5_segmentFor 16 (.getfield 36) 3 19 := ⟨by decide +kernel, rfl⟩
theorem iX5_segmentFor_19 : At YX5_segmentFor 19 (.iload_n 1) 1 20 := ⟨by decide +kernel, rfl⟩
theorem iX5_segmentFor_20 : At YX5_segmentFor 20 (.aaload) 1 21 := ⟨by decide +kernel, rfl⟩
theorem iX5_segmentFor_21 : At YX5_segmentFor 21 (.iload 4) 2 23 := ⟨by decide +kernel, rfl⟩
theorem iX5_segmentFor_23 : At YX5_segmentFor 23 (.iaload) 1 24 := ⟨by decide +kernel, rfl⟩
theorem iX5_segmentFor_24 : At YX5_segmentFor 24 (.i2l) 1 25 := ⟨by decide +kernel, rfl⟩
theorem iX5_segmentFor_25 : At YX5_segmentFor 25 (.ldc2_w 62) 3 28 := ⟨by decide +kernel, rfl⟩
theorem iX5_segmentFor_28 : At YX5_segmentFor 28 (.lmul) 1 29 := ⟨by decide +kernel, rfl⟩
theorem iX5_segmentFor_29 : At YX5_segmentFor 29 (.lload_n 2) 1 30 := ⟨by decide +kernel, rfl⟩
theorem iX5_segmentFor_30 : At YX5_segmentFor 30 (.lcmp) 1 31 := ⟨by decide +kernel, rfl⟩
theorem iX5_segmentFor_31 : AtJ YX5_segmentFor 31 (.ifCond .le) 34 40 := ⟨9, by decide +kernel, rfl, by decide⟩
theorem iX5_segmentFor_34 : At YX5_segmentFor 34 (.iinc 4 (-1)) 3 37 := ⟨by decide +kernel, rfl⟩
theorem iX5_segmentFor_37 : AtJ YX5_segmentFor 37 .goto 40 10 := ⟨-27, by decide +kernel, rfl, by decide⟩
theorem iX5_segmentFor_40 : At YX5_segmentFor 40 (.iload 4) 2 42 := ⟨by decide +kernel, rfl⟩
theorem iX5_segmentFor_42 : At YX5_segmentFor 42 (.ireturn) 1 43 := ⟨by decide +kernel, rfl⟩
theorem iX6_init_0 : At YX6_init 0 (.aload_n 0) 1 1 := ⟨by decide +kernel, rfl⟩
theorem iX6_init_1 : At YX6_init 1 (.invokespecial 3) 3 4 := ⟨by decide +kernel, rfl⟩
theorem iX6_init_4 : At YX6_init 4 (.aload_n 0) 1 5 := ⟨by decide +kernel, rfl⟩
theorem iX6_init_5 : At YX6_init 5 (.iconst 0) 1 6 := ⟨by decide +kernel, rfl⟩
theorem iX6_init_6 : At YX6_init 6 (.putfield 9) 3 9 := ⟨by decide +kernel, rfl⟩
theorem iX6_init_9 : At YX6_init 9 (.aload_n 0) 1 10 := ⟨by decide +kernel, rfl⟩
theorem iX6_init_10 : At YX6_init 10 (.iconst (-1)) 1 11 := ⟨by decide +kernel, rfl⟩
theorem iX6_init_11 : At YX6_init 11 (.putfield 15) 3 14 := ⟨by decide +kernel, rfl⟩
theorem iX6_init_14 : At YX6_init 14 (.aload_n 0) 1 15 := ⟨by decide +kernel, rfl⟩
theorem iX6_init_15 : At YX6_init 15 (.iconst (-1)) 1 16 := ⟨by decide +kernel, rfl⟩
theorem iX6_init_16 : At YX6_init 16 (.putfield 18) 3 19 := ⟨by decide +kernel, rfl⟩
theorem iX6_init_19 : At YX6_init 19 (.return_) 1 20 := ⟨by decide +kernel, rfl⟩
theorem iX6_write_0 : At YX6_write 0 (.aload_n 0) 1 1 := ⟨by decide +kernel, rfl⟩
theorem iX6_write_1 : At YX6_write 1 (.iconst 0) 1 2 := ⟨by decide +kernel, rfl⟩
theorem iX6_write_2 : At YX6_write 2 (.putfield 9) 3 5 := ⟨by decide +kernel, rfl⟩
theorem iX6_write_5 : At YX6_write 5 (.aload_n 0) 1 6 := ⟨by decide +kernel, rfl⟩
theorem iX6_write_6 : At YX6_write 6 (.iload_n 3) 1 7 := ⟨by decide +kernel, rfl⟩
theorem iX6_write_7 : At YX6_write 7 (.putfield 15) 3 10 := ⟨by decide +kernel, rfl⟩
theorem iX6_write_10 : At YX6_write 10 (.aload_n 0) 1 11 := ⟨by decide +kernel, rfl⟩
theorem iX6_write_11 : At YX6_write 11 (.iconst (-1)) 1 12 := ⟨by decide +kernel, rfl⟩
theorem iX6_write_12 : At YX6_write 12 (.putfield 18) 3 15 := ⟨by decide +kernel, rfl⟩
theorem iX6_write_15 : At YX6_write 15 (.aload_n 0) 1 16 := ⟨by decide +kernel, rfl⟩
theorem iX6_write_16 : At YX6_write 16 (.iload_n 2) 1 17 := ⟨by decide +kernel, rfl⟩
theorem iX6_write_17 : At YX6_write 17 (.bipush 6) 2 19 := ⟨by decide +kernel, rfl⟩
theorem iX6_write_19 : AtJ YX6_write 19 (.if_icmp .ne) 22 27 := ⟨8, by decide +kernel, rfl, by decide⟩
theorem iX6_write_22 : At YX6_write 22 (.bipush 110) 2 24 := ⟨by decide +kernel, rfl⟩
theorem iX6_write_24 : AtJ YX6_write 24 .goto 27 31 := ⟨7, by decide +kernel, rfl, by decide⟩
theorem iX6_write_27 : At YX6_write 27 (.bipush 97) 2 29 := ⟨by decide +kernel, rfl⟩
theorem iX6_write_29 : At YX6_write 29 (.iload_n 2) 1 30 := ⟨by decide +kernel, rfl⟩
theorem iX6_write_30 : At YX6_write 30 (.iadd) 1 31 := ⟨by decide +kernel, rfl⟩
theorem iX6_write_31 : At YX6_write 31 (.invokevirtual 21) 3 34 := ⟨by decide +kernel, rfl⟩
theorem iX6_write_34 : At YX6_write 34 (.aload_n 0) 1 35 := ⟨by decide +kernel, rfl⟩
theorem iX6_write_35 : At YX6_write 35 (.bipush 61) 2 37 := ⟨by decide +kernel, rfl⟩
theorem iX6_write_37 : At YX6_write 37 (.invokevirtual 21) 3 40 := ⟨by decide +kernel, rfl⟩
theorem iX6_write_40 : At YX6_write 40 (.aload_n 0) 1 41 := ⟨by decide +kernel, rfl⟩
theorem iX6_write_41 : At YX6_write 41 (.aload_n 1) 1 42 := ⟨by decide +kernel, rfl⟩
theorem iX6_write_42 : At YX6_write 42 (.iload_n 2) 1 43 := ⟨by decide +kernel, rfl⟩
theorem iX6_write_43 : At YX6_write 43 (.invokevirtual 25) 3 46 := ⟨by decide +kernel, rfl⟩
theorem iX6_write_46 : At YX6_write 46 (.iload_n 2) 1 47 := ⟨by decide +kernel, rfl⟩
theorem iX6_write_47 : At YX6_write 47 (.bipush 6) 2 49 := ⟨by decide +kernel, rfl⟩
theorem iX6_write_49 : AtJ YX6_write 49 (.if_icmp .eq) 52 58 := ⟨9, by decide +kernel, rfl, by decide⟩
theorem iX6_write_52 : At YX6_write 52 (.aload_n 0) 1 53 := ⟨by decide +kernel, rfl⟩
theorem iX6_write_53 : At YX6_write 53 (.aload_n 1) 1 54 := ⟨by decide +kernel, rfl⟩
theorem iX6_write_54 : At YX6_write 54 (.iload_n 2) 1 55 := ⟨by decide +kernel, rfl⟩
theorem iX6_write_55 : At YX6_write 55 (.invokevirtual 29) 3 58 := ⟨by decide +kernel, rfl⟩
theorem iX6_write_58 : At YX6_write 58 (.iload_n 3) 1 59 := ⟨by decide +kernel, rfl⟩
theorem iX6_write_59 : At YX6_write 59 (.iconst (-1)) 1 60 := ⟨by decide +kernel, rfl⟩
theorem iX6_write_60 : AtJ YX6_write 60 (.if_icmp .ne) 63 70 := ⟨10, by decide +kernel, rfl, by decide⟩
theorem iX6_write_63 : At YX6_write 63 (.aload_n 0) 1 64 := ⟨by decide +kernel, rfl⟩
theorem iX6_write_64 : At YX6_write 64 (.getfield 9) 3 67 := ⟨by decide +kernel, rfl⟩
theorem iX6_write_67 : AtJ YX6_write 67 .goto 70 74 := ⟨7, by decide +kernel, rfl, by decide⟩
theorem iX6_write_70 : At YX6_write 70 (.aload_n 0) 1 71 := ⟨by decide +kernel, rfl⟩
theorem iX6_write_71 : At YX6_write 71 (.getfield 18) 3 74 := ⟨by decide +kernel, rfl⟩
theorem iX6_write_74 : At YX6_write 74 (.ireturn) 1 75 := ⟨by decide +kernel, rfl⟩
theorem iX6_put_0 : At YX6_put 0 (.aload_n 0) 1 1 := ⟨by decide +kernel, rfl⟩
theorem iX6_put_1 : At YX6_put 1 (.getfield 9) 3 4 := ⟨by decide +kernel, rfl⟩
theorem iX6_put_4 : At YX6_put 4 (.aload_n 0) 1 5 := ⟨by decide +kernel, rfl⟩
theorem iX6_put_5 : At YX6_put 5 (.getfield 15) 3 8 := ⟨by decide +kernel, rfl⟩
theorem iX6_put_8 : AtJ YX6_put 8 (.if_icmp .ne) 11 16 := ⟨8, by decide +kernel, rfl, by decide⟩
theorem iX6_put_11 : At YX6_put 11 (.aload_n 0) 1 12 := ⟨by decide +kernel, rfl⟩
theorem iX6_put_12 : At YX6_put 12 (.iload_n 1) 1 13 := ⟨by decide +kernel, rfl⟩
theorem iX6_put_13 : At YX6_put 13 (.putfield 18) 3 16 := ⟨by decide +kernel, rfl⟩
theorem iX6_put_16 : At YX6_put 16 (.aload_n 0) 1 17 := ⟨by decide +kernel, rfl⟩
theorem iX6_put_17 : At YX6_put 17 (.dup) 1 18 := ⟨by decide +kernel, rfl⟩
theorem iX6_put_18 : At YX6_put 18 (.getfield 9) 3 21 := ⟨by decide +kernel, rfl⟩
theorem iX6_put_21 : At YX6_put 21 (.iconst 1) 1 22 := ⟨by decide +kernel, rfl⟩
theorem iX6_put_22 : At YX6_put 22 (.iadd) 1 23 := ⟨by decide +kernel, rfl⟩
theorem iX6_put_23 : At YX6_put 23 (.putfield 9) 3 26 := ⟨by decide +kernel, rfl⟩
theorem iX6_put_26 : At YX6_put 26 (.return_) 1 27 := ⟨by decide +kernel, rfl⟩
theorem iX6_writeTerms_0 : At YX6_writeTerms 0 (.iconst 0) 1 1 := ⟨by decide +kernel, rfl⟩
theorem iX6_writeTerms_1 : At YX6_writeTerms 1 (.istore_n 3) 1 2 := ⟨by decide +kernel, rfl⟩
theorem iX6_writeTerms_2 : At YX6_writeTerms 2 (.iload_n 3) 1 3 := ⟨by decide +kernel, rfl⟩
theorem iX6_writeTerms_3 : At YX6_writeTerms 3 (.aload_n 1) 1 4 := ⟨by decide +kernel, rfl⟩
theorem iX6_writeTerms_4 : At YX6_writeTerms 4 (.getfield 32) 3 7 := ⟨by decide +kernel, rfl⟩
theorem iX6_writeTerms_7 : At YX6_writeTerms 7 (.iload_n 2) 1 8 := ⟨by decide +kernel, rfl⟩
theorem iX6_writeTerms_8 : At YX6_writeTerms 8 (.iaload) 1 9 := ⟨by decide +kernel, rfl⟩
theorem iX6_writeTerms_9 : AtJ YX6_writeTerms 9 (.if_icmp .ge) 12 63 := ⟨54, by decide +kernel, rfl, by decide⟩
theorem iX6_writeTerms_12 : At YX6_writeTerms 12 (.aload_n 1) 1 13 := ⟨by decide +kernel, rfl⟩
theorem iX6_writeTerms_13 : At YX6_writeTerms 13 (.getfield 38) 3 16 := ⟨by decide +kernel, rfl⟩
theorem iX6_writeTerms_16 : At YX6_writeTerms 16 (.iload_n 2) 1 17 := ⟨by decide +kernel, rfl⟩
theorem iX6_writeTerms_17 : At YX6_writeTerms 17 (.aaload) 1 18 := ⟨by decide +kernel, rfl⟩
theorem iX6_writeTerms_18 : At YX6_writeTerms 18 (.iload_n 3) 1 19 := ⟨by decide +kernel, rfl⟩
theorem iX6_writeTerms_19 : At YX6_writeTerms 19 (.iaload) 1 20 := ⟨by decide +kernel, rfl⟩
theorem iX6_writeTerms_20 : AtJ YX6_writeTerms 20 (.ifCond .ge) 23 32 := ⟨12, by decide +kernel, rfl, by decide⟩
theorem iX6_writeTerms_23 : At YX6_writeTerms 23 (.aload_n 0) 1 24 := ⟨by decide +kernel, rfl⟩
theorem iX6_writeTerms_24 : At YX6_writeTerms 24 (.bipush 45) 2 26 := ⟨by decide +kernel, rfl⟩
theorem iX6_writeTerms_26 : At YX6_writeTerms 26 (.invokevirtual 21) 3 29 := ⟨by decide +kernel, rfl⟩
theorem iX6_writeTerms_29 : AtJ YX6_writeTerms 29 .goto 32 42 := ⟨13, by decide +kernel, rfl, by decide⟩
theorem iX6_writeTerms_32 : At YX6_writeTerms 32 (.iload_n 3) 1 33 := ⟨by decide +kernel, rfl⟩
theorem iX6_writeTerms_33 : AtJ YX6_writeTerms 33 (.ifCond .le) 36 42 := ⟨9, by decide +kernel, rfl, by decide⟩
theorem iX6_writeTerms_36 : At YX6_writeTerms 36 (.aload_n 0) 1 37 := ⟨by decide +kernel, rfl⟩
theorem iX6_writeTerms_37 : At YX6_writeTerms 37 (.bipush 43) 2 39 := ⟨by decide +kernel, rfl⟩
theorem iX6_writeTerms_39 : At YX6_writeTerms 39 (.invokevirtual 21) 3 42 := ⟨by decide +kernel, rfl⟩
theorem iX6_writeTerms_42 : At YX6_writeTerms 42 (.aload_n 0) 1 43 := ⟨by decide +kernel, rfl⟩
theorem iX6_writeTerms_43 : At YX6_writeTerms 43 (.aload_n 1) 1 44 := ⟨by decide +kernel, rfl⟩
theorem iX6_writeTerms_44 : At YX6_writeTerms 44 (.getfield 42) 3 47 := ⟨by decide +kernel, rfl⟩
theorem iX6_writeTerms_47 : At YX6_writeTerms 47 (.iload_n 2) 1 48 := ⟨by decide +kernel, rfl⟩
theorem iX6_writeTerms_48 : At YX6_writeTerms 48 (.aaload) 1 49 := ⟨by decide +kernel, rfl⟩
theorem iX6_writeTerms_49 : At YX6_writeTerms 49 (.iload_n 3) 1 50 := ⟨by decide +kernel, rfl⟩
theorem iX6_writeTerms_50 : At YX6_writeTerms 50 (.iaload) 1 51 := ⟨by decide +kernel, rfl⟩
theorem iX6_writeTerms_51 : At YX6_writeTerms 51 (.invokestatic 45) 3 54 := ⟨by decide +kernel, rfl⟩
theorem iX6_writeTerms_54 : At YX6_writeTerms 54 (.invokevirtual 21) 3 57 := ⟨by decide +kernel, rfl⟩
theorem iX6_writeTerms_57 : At YX6_writeTerms 57 (.iinc 3 1) 3 60 := ⟨by decide +kernel, rfl⟩
theorem iX6_writeTerms_60 : AtJ YX6_writeTerms 60 .goto 63 2 := ⟨-58, by decide +kernel, rfl, by decide⟩
theorem iX6_writeTerms_63 : At YX6_writeTerms 63 (.return_) 1 64 := ⟨by decide +kernel, rfl⟩
theorem iX6_letterOf_0 : At YX6_letterOf 0 (.iload_n 0) 1 1 := ⟨by decide +kernel, rfl⟩
theorem iX6_letterOf_1 : At YX6_letterOf 1 (.bipush 6) 2 3 := ⟨by decide +kernel, rfl⟩
theorem iX6_letterOf_3 : AtJ YX6_letterOf 3 (.if_icmp .ne) 6 9 := ⟨6, by decide +kernel, rfl, by decide⟩
theorem iX6_letterOf_6 : At YX6_letterOf 6 (.bipush 103) 2 8 := ⟨by decide +kernel, rfl⟩
theorem iX6_letterOf_8 : At YX6_letterOf 8 (.ireturn) 1 9 := ⟨by decide +kernel, rfl⟩
theorem iX6_letterOf_9 : At YX6_letterOf 9 (.iload_n 0) 1 10 := ⟨by decide +kernel, rfl⟩
theorem iX6_letterOf_10 : At YX6_letterOf 10 (.bipush 7) 2 12 := ⟨by decide +kernel, rfl⟩
theorem iX6_letterOf_12 : AtJ YX6_letterOf 12 (.if_icmp .ne) 15 20 := ⟨8, by decide +kernel, rfl, by decide⟩
theorem iX6_letterOf_15 : At YX6_letterOf 15 (.bipush 107) 2 17 := ⟨by decide +kernel, rfl⟩
theorem iX6_letterOf_17 : AtJ YX6_letterOf 17 .goto 20 24 := ⟨7, by decide +kernel, rfl, by decide⟩
theorem iX6_letterOf_20 : At YX6_letterOf 20 (.bipush 97) 2 22 := ⟨by decide +kernel, rfl⟩
theorem iX6_letterOf_22 : At YX6_letterOf 22 (.iload_n 0) 1 23 := ⟨by decide +kernel, rfl⟩
theorem iX6_letterOf_23 : At YX6_letterOf 23 (.iadd) 1 24 := ⟨by decide +kernel, rfl⟩
theorem iX6_letterOf_24 : At YX6_letterOf 24 (.ireturn) 1 25 := ⟨by decide +kernel, rfl⟩
theorem iX6_writeSegments_0 : At YX6_writeSegments 0 (.iconst 0) 1 1 := ⟨by decide +kernel, rfl⟩
theorem iX6_writeSegments_1 : At YX6_writeSegments 1 (.istore_n 3) 1 2 := ⟨by decide +kernel, rfl⟩
theorem iX6_writeSegments_2 : At YX6_writeSegments 2 (.iload_n 3) 1 3 := ⟨by decide +kernel, rfl⟩
theorem iX6_writeSegments_3 : At YX6_writeSegments 3 (.aload_n 1) 1 4 := ⟨by decide +kernel, rfl⟩
theorem iX6_writeSegments_4 : At YX6_writeSegments 4 (.getfield 49) 3 7 := ⟨by decide +kernel, rfl⟩
theorem iX6_writeSegments_7 : At YX6_writeSegments 7 (.iload_n 2) 1 8 := ⟨by decide +kernel, rfl⟩
theorem iX6_writeSegments_8 : At YX6_writeSegments 8 (.iaload) 1 9 := ⟨by decide +kernel, rfl⟩
theorem iX6_writeSegments_9 : AtJ YX6_writeSegments 9 (.if_icmp .ge) 12 84 := ⟨75, by decide +kernel, rfl, by decide⟩
theorem iX6_writeSegments_12 : At YX6_writeSegments 12 (.aload_n 0) 1 13 := ⟨by decide +kernel, rfl⟩
theorem iX6_writeSegments_13 : At YX6_writeSegments 13 (.bipush 47) 2 15 := ⟨by decide +kernel, rfl⟩
theorem iX6_writeSegments_15 : At YX6_writeSegments 15 (.invokevirtual 21) 3 18 := ⟨by decide +kernel, rfl⟩
theorem iX6_writeSegments_18 : At YX6_writeSegments 18 (.aload_n 0) 1 19 := ⟨by decide +kernel, rfl⟩
theorem iX6_writeSegments_19 : At YX6_writeSegments 19 (.aload_n 1) 1 20 := ⟨by decide +kernel, rfl⟩
theorem iX6_writeSegments_20 : At YX6_writeSegments 20 (.getfield 52) 3 23 := ⟨by decide +kernel, rfl⟩
theorem iX6_writeSegments_23 : At YX6_writeSegments 23 (.iload_n 2) 1 24 := ⟨by decide +kernel, rfl⟩
theorem iX6_writeSegments_24 : At YX6_writeSegments 24 (.aaload) 1 25 := ⟨by decide +kernel, rfl⟩
theorem iX6_writeSegments_25 : At YX6_writeSegments 25 (.iload_n 3) 1 26 := ⟨by decide +kernel, rfl⟩
theorem iX6_writeSegments_26 : At YX6_writeSegments 26 (.iaload) 1 27 := ⟨by decide +kernel, rfl⟩
theorem iX6_writeSegments_27 : At YX6_writeSegments 27 (.invokevirtual 55) 3 30 := ⟨by decide +kernel, rfl⟩
theorem iX6_writeSegments_30 : At YX6_writeSegments 30 (.aload_n 0) 1 31 := ⟨by decide +kernel, rfl⟩
theorem iX6_writeSegments_31 : At YX6_writeSegments 31 (.bipush 58) 2 33 := ⟨by decide +kernel, rfl⟩
theorem iX6_writeSegments_33 : At YX6_writeSegments 33 (.invokevirtual 21) 3 36 := ⟨by decide +kernel, rfl⟩
theorem iX6_writeSegments_36 : At YX6_writeSegments 36 (.aload_n 1) 1 37 := ⟨by decide +kernel, rfl⟩
theorem iX6_writeSegments_37 : At YX6_writeSegments 37 (.getfield 58) 3 40 := ⟨by decide +kernel, rfl⟩
theorem iX6_writeSegments_40 : At YX6_writeSegments 40 (.iload_n 2) 1 41 := ⟨by decide +kernel, rfl⟩
theorem iX6_writeSegments_41 : At YX6_writeSegments 41 (.aaload) 1 42 := ⟨by decide +kernel, rfl⟩
theorem iX6_writeSegments_42 : At YX6_writeSegments 42 (.iload_n 3) 1 43 := ⟨by decide +kernel, rfl⟩
theorem iX6_writeSegments_43 : At YX6_writeSegments 43 (.iaload) 1 44 := ⟨by decide +kernel, rfl⟩
theorem iX6_writeSegments_44 : At YX6_writeSegments 44 (.iconst (-1)) 1 45 := ⟨by decide +kernel, rfl⟩
theorem iX6_writeSegments_45 : AtJ YX6_writeSegments 45 (.if_icmp .eq) 48 66 := ⟨21, by decide +kernel, rfl, by decide⟩
theorem iX6_writeSegments_48 : At YX6_writeSegments 48 (.aload_n 0) 1 49 := ⟨by decide +kernel, rfl⟩
theorem iX6_writeSegments_49 : At YX6_writeSegments 49 (.aload_n 1) 1 50 := ⟨by decide +kernel, rfl⟩
theorem iX6_writeSegments_50 : At YX6_writeSegments 50 (.getfield 58) 3 53 := ⟨by decide +kernel, rfl⟩
theorem iX6_writeSegments_53 : At YX6_writeSegments 53 (.iload_n 2) 1 54 := ⟨by decide +kernel, rfl⟩
theorem iX6_writeSegments_54 : At YX6_writeSegments 54 (.aaload) 1 55 := ⟨by decide +kernel, rfl⟩
theorem iX6_writeSegments_55 : At YX6_writeSegments 55 (.iload_n 3) 1 56 := ⟨by decide +kernel, rfl⟩
theorem iX6_writeSegments_56 : At YX6_writeSegments 56 (.iaload) 1 57 := ⟨by decide +kernel, rfl⟩
theorem iX6_writeSegments_57 : At YX6_writeSegments 57 (.invokevirtual 55) 3 60 := ⟨by decide +kernel, rfl⟩
theorem iX6_writeSegments_60 : At YX6_writeSegments 60 (.aload_n 0) 1 61 := ⟨by decide +kernel, rfl⟩
theorem iX6_writeSegments_61 : At YX6_writeSegments 61 (.bipush 58) 2 63 := ⟨by decide +kernel, rfl⟩
theorem iX6_writeSegments_63 : At YX6_writeSegments 63 (.invokevirtual 21) 3 66 := ⟨by decide +kernel, rfl⟩
theorem iX6_writeSegments_66 : At YX6_writeSegments 66 (.aload_n 0) 1 67 := ⟨by decide +kernel, rfl⟩
theorem iX6_writeSegments_67 : At YX6_writeSegments 67 (.aload_n 1) 1 68 := ⟨by decide +kernel, rfl⟩
theorem iX6_writeSegments_68 : At YX6_writeSegments 68 (.getfield 61) 3 71 := ⟨by decide +kernel, rfl⟩
theorem iX6_writeSegments_71 : At YX6_writeSegments 71 (.iload_n 2) 1 72 := ⟨by decide +kernel, rfl⟩
theorem iX6_writeSegments_72 : At YX6_writeSegments 72 (.aaload) 1 73 := ⟨by decide +kernel, rfl⟩
theorem iX6_writeSegments_73 : At YX6_writeSegments 73 (.iload_n 3) 1 74 := ⟨by decide +kernel, rfl⟩
theorem iX6_writeSegments_74 : At YX6_writeSegments 74 (.iaload) 1 75 := ⟨by decide +kernel, rfl⟩
theorem iX6_writeSegments_75 : At YX6_writeSegments 75 (.invokevirtual 55) 3 78 := ⟨by decide +kernel, rfl⟩
theorem iX6_writeSegments_78 : At YX6_writeSegments 78 (.iinc 3 1) 3 81 := ⟨by decide +kernel, rfl⟩
theorem iX6_writeSegments_81 : AtJ YX6_writeSegments 81 .goto 84 2 := ⟨-79, by decide +kernel, rfl, by decide⟩
theorem iX6_writeSegments_84 : At YX6_writeSegments 84 (.return_) 1 85 := ⟨by decide +kernel, rfl⟩
theorem iX6_writeNumber_0 : At YX6_writeNumber 0 (.sipush 1000) 3 3 := ⟨by decide +kernel, rfl⟩
theorem iX6_writeNumber_3 : At YX6_writeNumber 3 (.istore_n 2) 1 4 := ⟨by decide +kernel, rfl⟩
theorem iX6_writeNumber_4 : At YX6_writeNumber 4 (.iload_n 2) 1 5 := ⟨by decide +kernel, rfl⟩
theorem iX6_writeNumber_5 : At YX6_writeNumber 5 (.iconst 1) 1 6 := ⟨by decide +kernel, rfl⟩
theorem iX6_writeNumber_6 : AtJ YX6_writeNumber 6 (.if_icmp .lt) 9 40 := ⟨34, by decide +kernel, rfl, by decide⟩
theorem iX6_writeNumber_9 : At YX6_writeNumber 9 (.iload_n 1) 1 10 := ⟨by decide +kernel, rfl⟩
theorem iX6_writeNumber_10 : At YX6_writeNumber 10 (.iload_n 2) 1 11 := ⟨by decide +kernel, rfl⟩
theorem iX6_writeNumber_11 : AtJ YX6_writeNumber 11 (.if_icmp .ge) 14 19 := ⟨8, by decide +kernel, rfl, by decide⟩
theorem iX6_writeNumber_14 : At YX6_writeNumber 14 (.iload_n 2) 1 15 := ⟨by decide +kernel, rfl⟩
theorem iX6_writeNumber_15 : At YX6_writeNumber 15 (.iconst 1) 1 16 := ⟨by decide +kernel, rfl⟩
theorem iX6_writeNumber_16 : AtJ YX6_writeNumber 16 (.if_icmp .ne) 19 32 := ⟨16, by decide +kernel, rfl, by decide⟩
theorem iX6_writeNumber_19 : At YX6_writeNumber 19 (.aload_n 0) 1 20 := ⟨by decide +kernel, rfl⟩
theorem iX6_writeNumber_20 : At YX6_writeNumber 20 (.bipush 48) 2 22 := ⟨by decide +kernel, rfl⟩
theorem iX6_writeNumber_22 : At YX6_writeNumber 22 (.iload_n 1) 1 23 := ⟨by decide +kernel, rfl⟩
theorem iX6_writeNumber_23 : At YX6_writeNumber 23 (.iload_n 2) 1 24 := ⟨by decide +kernel, rfl⟩
theorem iX6_writeNumber_24 : At YX6_writeNumber 24 (.idiv) 1 25 := ⟨by decide +kernel, rfl⟩
theorem iX6_writeNumber_25 : At YX6_writeNumber 25 (.bipush 10) 2 27 := ⟨by decide +kernel, rfl⟩
theorem iX6_writeNumber_27 : At YX6_writeNumber 27 (.irem) 1 28 := ⟨by decide +kernel, rfl⟩
theorem iX6_writeNumber_28 : At YX6_writeNumber 28 (.iadd) 1 29 := ⟨by decide +kernel, rfl⟩
theorem iX6_writeNumber_29 : At YX6_writeNumber 29 (.invokevirtual 21) 3 32 := ⟨by decide +kernel, rfl⟩
theorem iX6_writeNumber_32 : At YX6_writeNumber 32 (.iload_n 2) 1 33 := ⟨by decide +kernel, rfl⟩
theorem iX6_writeNumber_33 : At YX6_writeNumber 33 (.bipush 10) 2 35 := ⟨by decide +kernel, rfl⟩
theorem iX6_writeNumber_35 : At YX6_writeNumber 35 (.idiv) 1 36 := ⟨by decide +kernel, rfl⟩
theorem iX6_writeNumber_36 : At YX6_writeNumber 36 (.istore_n 2) 1 37 := ⟨by decide +kernel, rfl⟩
theorem iX6_writeNumber_37 : AtJ YX6_writeNumber 37 .goto 40 4 := ⟨-33, by decide +kernel, rfl, by decide⟩
theorem iX6_writeNumber_40 : At YX6_writeNumber 40 (.return_) 1 41 := ⟨by decide +kernel, rfl⟩
theorem iX7_firstNoLess_0 : At YX7_firstNoLess 0 (.lload_n 0) 1 1 := ⟨by decide +kernel, rfl⟩
theorem iX7_firstNoLess_1 : At YX7_firstNoLess 1 (.lload 5) 2 3 := ⟨by decide +kernel, rfl⟩
theorem iX7_firstNoLess_3 : At YX7_firstNoLess 3 (.lcmp) 1 4 := ⟨by decide +kernel, rfl⟩
theorem iX7_firstNoLess_4 : AtJ YX7_firstNoLess 4 (.ifCond .lt) 7 9 := ⟨5, by decide +kernel, rfl, by decide⟩
theorem iX7_firstNoLess_7 : At YX7_firstNoLess 7 (.iconst 0) 1 8 := ⟨by decide +kernel, rfl⟩
theorem iX7_firstNoLess_8 : At YX7_firstNoLess 8 (.ireturn) 1 9 := ⟨by decide +kernel, rfl⟩
theorem iX7_firstNoLess_9 : At YX7_firstNoLess 9 (.lload_n 2) 1 10 := ⟨by decide +kernel, rfl⟩
theorem iX7_firstNoLess_10 : At YX7_firstNoLess 10 (.lconst 0) 1 11 := ⟨by decide +kernel, rfl⟩
theorem iX7_firstNoLess_11 : At YX7_firstNoLess 11 (.lcmp) 1 12 := ⟨by decide +kernel, rfl⟩
theorem iX7_firstNoLess_12 : AtJ YX7_firstNoLess 12 (.ifCond .le) 15 28 := ⟨16, by decide +kernel, rfl, by decide⟩
theorem iX7_firstNoLess_15 : At YX7_firstNoLess 15 (.lload_n 0) 1 16 := ⟨by decide +kernel, rfl⟩
theorem iX7_firstNoLess_16 : At YX7_firstNoLess 16 (.iload 4) 2 18 := ⟨by decide +kernel, rfl⟩
theorem iX7_firstNoLess_18 : At YX7_firstNoLess 18 (.i2l) 1 19 := ⟨by decide +kernel, rfl⟩
theorem iX7_firstNoLess_19 : At YX7_firstNoLess 19 (.lload_n 2) 1 20 := ⟨by decide +kernel, rfl⟩
theorem iX7_firstNoLess_20 : At YX7_firstNoLess 20 (.lmul) 1 21 := ⟨by decide +kernel, rfl⟩
theorem iX7_firstNoLess_21 : At YX7_firstNoLess 21 (.ladd) 1 22 := ⟨by decide +kernel, rfl⟩
theorem iX7_firstNoLess_22 : At YX7_firstNoLess 22 (.lload 5) 2 24 := ⟨by decide +kernel, rfl⟩
theorem iX7_firstNoLess_24 : At YX7_firstNoLess 24 (.lcmp) 1 25 := ⟨by decide +kernel, rfl⟩
theorem iX7_firstNoLess_25 : AtJ YX7_firstNoLess 25 (.ifCond .ge) 28 30 := ⟨5, by decide +kernel, rfl, by decide⟩
theorem iX7_firstNoLess_28 : At YX7_firstNoLess 28 (.iconst (-1)) 1 29 := ⟨by decide +kernel, rfl⟩
theorem iX7_firstNoLess_29 : At YX7_firstNoLess 29 (.ireturn) 1 30 := ⟨by decide +kernel, rfl⟩
theorem iX7_firstNoLess_30 : At YX7_firstNoLess 30 (.lload 5) 2 32 := ⟨by decide +kernel, rfl⟩
theorem iX7_firstNoLess_32 : At YX7_firstNoLess 32 (.lload_n 0) 1 33 := ⟨by decide +kernel, rfl⟩
theorem iX7_firstNoLess_33 : At YX7_firstNoLess 33 (.lsub) 1 34 := ⟨by decide +kernel, rfl⟩
theorem iX7_firstNoLess_34 : At YX7_firstNoLess 34 (.lload_n 2) 1 35 := ⟨by decide +kernel, rfl⟩
theorem iX7_firstNoLess_35 : At YX7_firstNoLess 35 (.ladd) 1 36 := ⟨by decide +kernel, rfl⟩
theorem iX7_firstNoLess_36 : At YX7_firstNoLess 36 (.lconst 1) 1 37 := ⟨by decide +kernel, rfl⟩
theorem iX7_firstNoLess_37 : At YX7_firstNoLess 37 (.lsub) 1 38 := ⟨by decide +kernel, rfl⟩
theorem iX7_firstNoLess_38 : At YX7_firstNoLess 38 (.lload_n 2) 1 39 := ⟨by decide +kernel, rfl⟩
theorem iX7_firstNoLess_39 : At YX7_firstNoLess 39 (.ldiv) 1 40 := ⟨by decide +kernel, rfl⟩
theorem iX7_firstNoLess_40 : At YX7_firstNoLess 40 (.l2i) 1 41 := ⟨by decide +kernel, rfl⟩
theorem iX7_firstNoLess_41 : At YX7_firstNoLess 41 (.ireturn) 1 42 := ⟨by decide +kernel, rfl⟩
theorem iX7_lastNoMore_0 : At YX7_lastNoMore 0 (.lload_n 0) 1 1 := ⟨by decide +kernel, rfl⟩
theorem iX7_lastNoMore_1 : At YX7_lastNoMore 1 (.iload 4) 2 3 := ⟨by decide +kernel, rfl⟩
theorem iX7_lastNoMore_3 : At YX7_lastNoMore 3 (.i2l) 1 4 := ⟨by decide +kernel, rfl⟩
theorem iX7_lastNoMore_4 : At YX7_lastNoMore 4 (.lload_n 2) 1 5 := ⟨by decide +kernel, rfl⟩
theorem iX7_lastNoMore_5 : At YX7_lastNoMore 5 (.lmul) 1 6 := ⟨by decide +kernel, rfl⟩
theorem iX7_lastNoMore_6 : At YX7_lastNoMore 6 (.ladd) 1 7 := ⟨by decide +kernel, rfl⟩
theorem iX7_lastNoMore_7 : At YX7_lastNoMore 7 (.lload 5) 2 9 := ⟨by decide +kernel, rfl⟩
theorem iX7_lastNoMore_9 : At YX7_lastNoMore 9 (.lcmp) 1 10 := ⟨by decide +kernel, rfl⟩
theorem iX7_lastNoMore_10 : AtJ YX7_lastNoMore 10 (.ifCond .gt) 13 16 := ⟨6, by decide +kernel, rfl, by decide⟩
theorem iX7_lastNoMore_13 : At YX7_lastNoMore 13 (.iload 4) 2 15 := ⟨by decide +kernel, rfl⟩
theorem iX7_lastNoMore_15 : At YX7_lastNoMore 15 (.ireturn) 1 16 := ⟨by decide +kernel, rfl⟩
theorem iX7_lastNoMore_16 : At YX7_lastNoMore 16 (.lload_n 2) 1 17 := ⟨by decide +kernel, rfl⟩
theorem iX7_lastNoMore_17 : At YX7_lastNoMore 17 (.lconst 0) 1 18 := ⟨by decide +kernel, rfl⟩
theorem iX7_lastNoMore_18 : At YX7_lastNoMore 18 (.lcmp) 1 19 := ⟨by decide +kernel, rfl⟩
theorem iX7_lastNoMore_19 : AtJ YX7_lastNoMore 19 (.ifCond .le) 22 29 := ⟨10, by decide +kernel, rfl, by decide⟩
theorem iX7_lastNoMore_22 : At YX7_lastNoMore 22 (.lload_n 0) 1 23 := ⟨by decide +kernel, rfl⟩
theorem iX7_lastNoMore_23 : At YX7_lastNoMore 23 (.lload 5) 2 25 := ⟨by decide +kernel, rfl⟩
theorem iX7_lastNoMore_25 : At YX7_lastNoMore 25 (.lcmp) 1 26 := ⟨by decide +kernel, rfl⟩
theorem iX7_lastNoMore_26 : AtJ YX7_lastNoMore 26 (.ifCond .le) 29 31 := ⟨5, by decide +kernel, rfl, by decide⟩
theorem iX7_lastNoMore_29 : At YX7_lastNoMore 29 (.iconst (-1)) 1 30 := ⟨by decide +kernel, rfl⟩
theorem iX7_lastNoMore_30 : At YX7_lastNoMore 30 (.ireturn) 1 31 := ⟨by decide +kernel, rfl⟩
theorem iX7_lastNoMore_31 : At YX7_lastNoMore 31 (.lload 5) 2 33 := ⟨by decide +kernel, rfl⟩
theorem iX7_lastNoMore_33 : At YX7_lastNoMore 33 (.lload_n 0) 1 34 := ⟨by decide +kernel, rfl⟩
theorem iX7_lastNoMore_34 : At YX7_lastNoMore 34 (.lsub) 1 35 := ⟨by decide +kernel, rfl⟩
theorem iX7_lastNoMore_35 : At YX7_lastNoMore 35 (.lload_n 2) 1 36 := ⟨by decide +kernel, rfl⟩
theorem iX7_lastNoMore_36 : At YX7_lastNoMore 36 (.ldiv) 1 37 := ⟨by decide +kernel, rfl⟩
theorem iX7_lastNoMore_37 : At YX7_lastNoMore 37 (.l2i) 1 38 := ⟨by decide +kernel, rfl⟩
theorem iX7_lastNoMore_38 : At YX7_lastNoMore 38 (.ireturn) 1 39 := ⟨by decide +kernel, rfl⟩
theorem iX7_nearestNoMore_0 : At YX7_nearestNoMore 0 (.lload_n 2) 1 1 := ⟨by decide +kernel, rfl⟩
theorem iX7_nearestNoMore_1 : At YX7_nearestNoMore 1 (.lconst 0) 1 2 := ⟨by decide +kernel, rfl⟩
theorem iX7_nearestNoMore_2 : At YX7_nearestNoMore 2 (.lcmp) 1 3 := ⟨by decide +kernel, rfl⟩
theorem iX7_nearestNoMore_3 : AtJ YX7_nearestNoMore 3 (.ifCond .le) 6 16 := ⟨13, by decide +kernel, rfl, by decide⟩
theorem iX7_nearestNoMore_6 : At YX7_nearestNoMore 6 (.lload_n 0) 1 7 := ⟨by decide +kernel, rfl⟩
theorem iX7_nearestNoMore_7 : At YX7_nearestNoMore 7 (.lload_n 2) 1 8 := ⟨by decide +kernel, rfl⟩
theorem iX7_nearestNoMore_8 : At YX7_nearestNoMore 8 (.iload 4) 2 10 := ⟨by decide +kernel, rfl⟩
theorem iX7_nearestNoMore_10 : At YX7_nearestNoMore 10 (.lload 5) 2 12 := ⟨by decide +kernel, rfl⟩
theorem iX7_nearestNoMore_12 : At YX7_nearestNoMore 12 (.invokestatic 9) 3 15 := ⟨by decide +kernel, rfl⟩
theorem iX7_nearestNoMore_15 : At YX7_nearestNoMore 15 (.ireturn) 1 16 := ⟨by decide +kernel, rfl⟩
theorem iX7_nearestNoMore_16 : At YX7_nearestNoMore 16 (.lload_n 0) 1 17 := ⟨by decide +kernel, rfl⟩
theorem iX7_nearestNoMore_17 : At YX7_nearestNoMore 17 (.lload 5) 2 19 := ⟨by decide +kernel, rfl⟩
theorem iX7_nearestNoMore_19 : At YX7_nearestNoMore 19 (.lcmp) 1 20 := ⟨by decide +kernel, rfl⟩
theorem iX7_nearestNoMore_20 : AtJ YX7_nearestNoMore 20 (.ifCond .gt) 23 25 := ⟨5, by decide +kernel, rfl, by decide⟩
theorem iX7_nearestNoMore_23 : At YX7_nearestNoMore 23 (.iconst 0) 1 24 := ⟨by decide +kernel, rfl⟩
theorem iX7_nearestNoMore_24 : At YX7_nearestNoMore 24 (.ireturn) 1 25 := ⟨by decide +kernel, rfl⟩
theorem iX7_nearestNoMore_25 : At YX7_nearestNoMore 25 (.lload_n 2) 1 26 := ⟨by decide +kernel, rfl⟩
theorem iX7_nearestNoMore_26 : At YX7_nearestNoMore 26 (.lconst 0) 1 27 := ⟨by decide +kernel, rfl⟩
theorem iX7_nearestNoMore_27 : At YX7_nearestNoMore 27 (.lcmp) 1 28 := ⟨by decide +kernel, rfl⟩
theorem iX7_nearestNoMore_28 : AtJ YX7_nearestNoMore 28 (.ifCond .eq) 31 44 := ⟨16, by decide +kernel, rfl, by decide⟩
theorem iX7_nearestNoMore_31 : At YX7_nearestNoMore 31 (.lload_n 0) 1 32 := ⟨by decide +kernel, rfl⟩
theorem iX7_nearestNoMore_32 : At YX7_nearestNoMore 32 (.iload 4) 2 34 := ⟨by decide +kernel, rfl⟩
theorem iX7_nearestNoMore_34 : At YX7_nearestNoMore 34 (.i2l) 1 35 := ⟨by decide +kernel, rfl⟩
theorem iX7_nearestNoMore_35 : At YX7_nearestNoMore 35 (.lload_n 2) 1 36 := ⟨by decide +kernel, rfl⟩
theorem iX7_nearestNoMore_36 : At YX7_nearestNoMore 36 (.lmul) 1 37 := ⟨by decide +kernel, rfl⟩
theorem iX7_nearestNoMore_37 : At YX7_nearestNoMore 37 (.ladd) 1 38 := ⟨by decide +kernel, rfl⟩
theorem iX7_nearestNoMore_38 : At YX7_nearestNoMore 38 (.lload 5) 2 40 := ⟨by decide +kernel, rfl⟩
theorem iX7_nearestNoMore_40 : At YX7_nearestNoMore 40 (.lcmp) 1 41 := ⟨by decide +kernel, rfl⟩
theorem iX7_nearestNoMore_41 : AtJ YX7_nearestNoMore 41 (.ifCond .le) 44 46 := ⟨5, by decide +kernel, rfl, by decide⟩
theorem iX7_nearestNoMore_44 : At YX7_nearestNoMore 44 (.iconst (-1)) 1 45 := ⟨by decide +kernel, rfl⟩
theorem iX7_nearestNoMore_45 : At YX7_nearestNoMore 45 (.ireturn) 1 46 := ⟨by decide +kernel, rfl⟩
theorem iX7_nearestNoMore_46 : At YX7_nearestNoMore 46 (.lload_n 0) 1 47 := ⟨by decide +kernel, rfl⟩
theorem iX7_nearestNoMore_47 : At YX7_nearestNoMore 47 (.lload 5) 2 49 := ⟨by decide +kernel, rfl⟩
theorem iX7_nearestNoMore_49 : At YX7_nearestNoMore 49 (.lsub) 1 50 := ⟨by decide +kernel, rfl⟩
theorem iX7_nearestNoMore_50 : At YX7_nearestNoMore 50 (.lload_n 2) 1 51 := ⟨by decide +kernel, rfl⟩
theorem iX7_nearestNoMore_51 : At YX7_nearestNoMore 51 (.lsub) 1 52 := ⟨by decide +kernel, rfl⟩
theorem iX7_nearestNoMore_52 : At YX7_nearestNoMore 52 (.lconst 1) 1 53 := ⟨by decide +kernel, rfl⟩
theorem iX7_nearestNoMore_53 : At YX7_nearestNoMore 53 (.lsub) 1 54 := ⟨by decide +kernel, rfl⟩
theorem iX7_nearestNoMore_54 : At YX7_nearestNoMore 54 (.lload_n 2) 1 55 := ⟨by decide +kernel, rfl⟩
theorem iX7_nearestNoMore_55 : At YX7_nearestNoMore 55 (.lneg) 1 56 := ⟨by decide +kernel, rfl⟩
theorem iX7_nearestNoMore_56 : At YX7_nearestNoMore 56 (.ldiv) 1 57 := ⟨by decide +kernel, rfl⟩
theorem iX7_nearestNoMore_57 : At YX7_nearestNoMore 57 (.l2i) 1 58 := ⟨by decide +kernel, rfl⟩
theorem iX7_nearestNoMore_58 : At YX7_nearestNoMore 58 (.ireturn) 1 59 := ⟨by decide +kernel, rfl⟩
theorem iX8_init_0 : At YX8_init 0 (.aload_n 0) 1 1 := ⟨by decide +kernel, rfl⟩
theorem iX8_init_1 : At YX8_init 1 (.invokespecial 3) 3 4 := ⟨by decide +kernel, rfl⟩
theorem iX8_init_4 : At YX8_init 4 (.aload_n 0) 1 5 := ⟨by decide +kernel, rfl⟩
theorem iX8_init_5 : At YX8_init 5 (.bipush 12) 2 7 := ⟨by decide +kernel, rfl⟩
theorem iX8_init_7 : At YX8_init 7 (.newarray .int) 2 9 := ⟨by decide +kernel, rfl⟩
theorem iX8_init_9 : At YX8_init 9 (.putfield 9) 3 12 := ⟨by decide +kernel, rfl⟩
theorem iX8_init_12 : At YX8_init 12 (.aload_n 0) 1 13 := ⟨by decide +kernel, rfl⟩
theorem iX8_init_13 : At YX8_init 13 (.iconst 0) 1 14 := ⟨by decide +kernel, rfl⟩
theorem iX8_init_14 : At YX8_init 14 (.putfield 15) 3 17 := ⟨by decide +kernel, rfl⟩
theorem iX8_init_17 : At YX8_init 17 (.return_) 1 18 := ⟨by decide +kernel, rfl⟩
theorem iX8_isFull_0 : At YX8_isFull 0 (.aload_n 0) 1 1 := ⟨by decide +kernel, rfl⟩
theorem iX8_isFull_1 : At YX8_isFull 1 (.getfield 15) 3 4 := ⟨by decide +kernel, rfl⟩
theorem iX8_isFull_4 : At YX8_isFull 4 (.bipush 12) 2 6 := ⟨by decide +kernel, rfl⟩
theorem iX8_isFull_6 : AtJ YX8_isFull 6 (.if_icmp .lt) 9 13 := ⟨7, by decide +kernel, rfl, by decide⟩
theorem iX8_isFull_9 : At YX8_isFull 9 (.iconst 1) 1 10 := ⟨by decide +kernel, rfl⟩
theorem iX8_isFull_10 : AtJ YX8_isFull 10 .goto 13 14 := ⟨4, by decide +kernel, rfl, by decide⟩
theorem iX8_isFull_13 : At YX8_isFull 13 (.iconst 0) 1 14 := ⟨by decide +kernel, rfl⟩
theorem iX8_isFull_14 : At YX8_isFull 14 (.ireturn) 1 15 := ⟨by decide +kernel, rfl⟩
theorem iX8_wagesOf_0 : At YX8_wagesOf 0 (.iconst 0) 1 1 := ⟨by decide +kernel, rfl⟩
theorem iX8_wagesOf_1 : At YX8_wagesOf 1 (.istore_n 2) 1 2 := ⟨by decide +kernel, rfl⟩
theorem iX8_wagesOf_2 : At YX8_wagesOf 2 (.iconst 0) 1 3 := ⟨by decide +kernel, rfl⟩
theorem iX8_wagesOf_3 : At YX8_wagesOf 3 (.istore_n 3) 1 4 := ⟨by decide +kernel, rfl⟩
theorem iX8_wagesOf_4 : At YX8_wagesOf 4 (.iload_n 3) 1 5 := ⟨by decide +kernel, rfl⟩
theorem iX8_wagesOf_5 : At YX8_wagesOf 5 (.iload_n 1) 1 6 := ⟨by decide +kernel, rfl⟩
theorem iX8_wagesOf_6 : AtJ YX8_wagesOf 6 (.if_icmp .ge) 9 24 := ⟨18, by decide +kernel, rfl, by decide⟩
theorem iX8_wagesOf_9 : At YX8_wagesOf 9 (.iload_n 2) 1 10 := ⟨by decide +kernel, rfl⟩
theorem iX8_wagesOf_10 : At YX8_wagesOf 10 (.aload_n 0) 1 11 := ⟨by decide +kernel, rfl⟩
theorem iX8_wagesOf_11 : At YX8_wagesOf 11 (.getfield 9) 3 14 := ⟨by decide +kernel, rfl⟩
theorem iX8_wagesOf_14 : At YX8_wagesOf 14 (.iload_n 3) 1 15 := ⟨by decide +kernel, rfl⟩
theorem iX8_wagesOf_15 : At YX8_wagesOf 15 (.iaload) 1 16 := ⟨by decide +kernel, rfl⟩
theorem iX8_wagesOf_16 : At YX8_wagesOf 16 (.iadd) 1 17 := ⟨by decide +kernel, rfl⟩
theorem iX8_wagesOf_17 : At YX8_wagesOf 17 (.istore_n 2) 1 18 := ⟨by decide +kernel, rfl⟩
theorem iX8_wagesOf_18 : At YX8_wagesOf 18 (.iinc 3 1) 3 21 := ⟨by decide +kernel, rfl⟩
theorem iX8_wagesOf_21 : AtJ YX8_wagesOf 21 .goto 24 4 := ⟨-17, by decide +kernel, rfl, by decide⟩
theorem iX8_wagesOf_24 : At YX8_wagesOf 24 (.iload_n 2) 1 25 := ⟨by decide +kernel, rfl⟩
theorem iX8_wagesOf_25 : At YX8_wagesOf 25 (.ireturn) 1 26 := ⟨by decide +kernel, rfl⟩
theorem iX8_due_0 : At YX8_due 0 (.iload_n 1) 1 1 := ⟨by decide +kernel, rfl⟩
theorem iX8_due_1 : At YX8_due 1 (.iconst 1) 1 2 := ⟨by decide +kernel, rfl⟩
theorem iX8_due_2 : AtJ YX8_due 2 (.if_icmp .ge) 5 7 := ⟨5, by decide +kernel, rfl, by decide⟩
theorem iX8_due_5 : At YX8_due 5 (.lconst 0) 1 6 := ⟨by decide +kernel, rfl⟩
theorem iX8_due_6 : At YX8_due 6 (.lreturn) 1 7 := ⟨by decide +kernel, rfl⟩
theorem iX8_due_7 : At YX8_due 7 (.sipush 9999) 3 10 := ⟨by decide +kernel, rfl⟩
theorem iX8_due_10 : At YX8_due 10 (.iload_n 2) 1 11 := ⟨by decide +kernel, rfl⟩
theorem iX8_due_11 : At YX8_due 11 (.bipush 12) 2 13 := ⟨by decide +kernel, rfl⟩
theorem iX8_due_13 : At YX8_due 13 (.imul) 1 14 := ⟨by decide +kernel, rfl⟩
theorem iX8_due_14 : At YX8_due 14 (.iload_n 1) 1 15 := ⟨by decide +kernel, rfl⟩
theorem iX8_due_15 : At YX8_due 15 (.idiv) 1 16 := ⟨by decide +kernel, rfl⟩
theorem iX8_due_16 : At YX8_due 16 (.invokestatic 19) 3 19 := ⟨by decide +kernel, rfl⟩
theorem iX8_due_19 : At YX8_due 19 (.istore_n 3) 1 20 := ⟨by decide +kernel, rfl⟩
theorem iX8_due_20 : At YX8_due 20 (.iload_n 3) 1 21 := ⟨by decide +kernel, rfl⟩
theorem iX8_due_21 : At YX8_due 21 (.i2l) 1 22 := ⟨by decide +kernel, rfl⟩
theorem iX8_due_22 : At YX8_due 22 (.ldc2_w 25) 3 25 := ⟨by decide +kernel, rfl⟩
theorem iX8_due_25 : At YX8_due 25 (.lmul) 1 26 := ⟨by decide +kernel, rfl⟩
theorem iX8_due_26 : At YX8_due 26 (.aload_n 0) 1 27 := ⟨by decide +kernel, rfl⟩
theorem iX8_due_27 : At YX8_due 27 (.iload_n 3) 1 28 := ⟨by decide +kernel, rfl⟩
theorem iX8_due_28 : At YX8_due 28 (.invokevirtual 27) 3 31 := ⟨by decide +kernel, rfl⟩
theorem iX8_due_31 : At YX8_due 31 (.lsub) 1 32 := ⟨by decide +kernel, rfl⟩
theorem iX8_due_32 : At YX8_due 32 (.lstore 4) 2 34 := ⟨by decide +kernel, rfl⟩
theorem iX8_due_34 : At YX8_due 34 (.lload 4) 2 36 := ⟨by decide +kernel, rfl⟩
theorem iX8_due_36 : At YX8_due 36 (.iload_n 1) 1 37 := ⟨by decide +kernel, rfl⟩
theorem iX8_due_37 : At YX8_due 37 (.i2l) 1 38 := ⟨by decide +kernel, rfl⟩
theorem iX8_due_38 : At YX8_due 38 (.lmul) 1 39 := ⟨by decide +kernel, rfl⟩
theorem iX8_due_39 : At YX8_due 39 (.ldc2_w 33) 3 42 := ⟨by decide +kernel, rfl⟩
theorem iX8_due_42 : At YX8_due 42 (.invokestatic 35) 3 45 := ⟨by decide +kernel, rfl⟩
theorem iX8_due_45 : At YX8_due 45 (.lreturn) 1 46 := ⟨by decide +kernel, rfl⟩
theorem iX8_paidOf_0 : At YX8_paidOf 0 (.iload_n 2) 1 1 := ⟨by decide +kernel, rfl⟩
theorem iX8_paidOf_1 : At YX8_paidOf 1 (.i2l) 1 2 := ⟨by decide +kernel, rfl⟩
theorem iX8_paidOf_2 : At YX8_paidOf 2 (.ldc2_w 25) 3 5 := ⟨by decide +kernel, rfl⟩
theorem iX8_paidOf_5 : At YX8_paidOf 5 (.lmul) 1 6 := ⟨by decide +kernel, rfl⟩
theorem iX8_paidOf_6 : At YX8_paidOf 6 (.aload_n 0) 1 7 := ⟨by decide +kernel, rfl⟩
theorem iX8_paidOf_7 : At YX8_paidOf 7 (.iload_n 1) 1 8 := ⟨by decide +kernel, rfl⟩
theorem iX8_paidOf_8 : At YX8_paidOf 8 (.iload_n 2) 1 9 := ⟨by decide +kernel, rfl⟩
theorem iX8_paidOf_9 : At YX8_paidOf 9 (.invokestatic 39) 3 12 := ⟨by decide +kernel, rfl⟩
theorem iX8_paidOf_12 : At YX8_paidOf 12 (.lsub) 1 13 := ⟨by decide +kernel, rfl⟩
theorem iX8_paidOf_13 : At YX8_paidOf 13 (.lreturn) 1 14 := ⟨by decide +kernel, rfl⟩
theorem iX8_paidIn_0 : At YX8_paidIn 0 (.aload_n 0) 1 1 := ⟨by decide +kernel, rfl⟩
theorem iX8_paidIn_1 : At YX8_paidIn 1 (.iload_n 2) 1 2 := ⟨by decide +kernel, rfl⟩
theorem iX8_paidIn_2 : At YX8_paidIn 2 (.invokevirtual 43) 3 5 := ⟨by decide +kernel, rfl⟩
theorem iX8_paidIn_5 : At YX8_paidIn 5 (.istore_n 3) 1 6 := ⟨by decide +kernel, rfl⟩
theorem iX8_paidIn_6 : At YX8_paidIn 6 (.aload_n 0) 1 7 := ⟨by decide +kernel, rfl⟩
theorem iX8_paidIn_7 : At YX8_paidIn 7 (.getfield 9) 3 10 := ⟨by decide +kernel, rfl⟩
theorem iX8_paidIn_10 : At YX8_paidIn 10 (.iload_n 2) 1 11 := ⟨by decide +kernel, rfl⟩
theorem iX8_paidIn_11 : At YX8_paidIn 11 (.iaload) 1 12 := ⟨by decide +kernel, rfl⟩
theorem iX8_paidIn_12 : At YX8_paidIn 12 (.i2l) 1 13 := ⟨by decide +kernel, rfl⟩
theorem iX8_paidIn_13 : At YX8_paidIn 13 (.ldc2_w 25) 3 16 := ⟨by decide +kernel, rfl⟩
theorem iX8_paidIn_16 : At YX8_paidIn 16 (.lmul) 1 17 := ⟨by decide +kernel, rfl⟩
theorem iX8_paidIn_17 : At YX8_paidIn 17 (.aload_n 1) 1 18 := ⟨by decide +kernel, rfl⟩
theorem iX8_paidIn_18 : At YX8_paidIn 18 (.iload_n 2) 1 19 := ⟨by decide +kernel, rfl⟩
theorem iX8_paidIn_19 : At YX8_paidIn 19 (.iconst 1) 1 20 := ⟨by decide +kernel, rfl⟩
theorem iX8_paidIn_20 : At YX8_paidIn 20 (.iadd) 1 21 := ⟨by decide +kernel, rfl⟩
theorem iX8_paidIn_21 : At YX8_paidIn 21 (.iload_n 3) 1 22 := ⟨by decide +kernel, rfl⟩
theorem iX8_paidIn_22 : At YX8_paidIn 22 (.aload_n 0) 1 23 := ⟨by decide +kernel, rfl⟩
theorem iX8_paidIn_23 : At YX8_paidIn 23 (.getfield 9) 3 26 := ⟨by decide +kernel, rfl⟩
theorem iX8_paidIn_26 : At YX8_paidIn 26 (.iload_n 2) 1 27 := ⟨by decide +kernel, rfl⟩
theorem iX8_paidIn_27 : At YX8_paidIn 27 (.iaload) 1 28 := ⟨by decide +kernel, rfl⟩
theorem iX8_paidIn_28 : At YX8_paidIn 28 (.iadd) 1 29 := ⟨by decide +kernel, rfl⟩
theorem iX8_paidIn_29 : At YX8_paidIn 29 (.invokestatic 39) 3 32 := ⟨by decide +kernel, rfl⟩
theorem iX8_paidIn_32 : At YX8_paidIn 32 (.aload_n 1) 1 33 := ⟨by decide +kernel, rfl⟩
theorem iX8_paidIn_33 : At YX8_paidIn 33 (.iload_n 2) 1 34 := ⟨by decide +kernel, rfl⟩
theorem iX8_paidIn_34 : At YX8_paidIn 34 (.iload_n 3) 1 35 := ⟨by decide +kernel, rfl⟩
theorem iX8_paidIn_35 : At YX8_paidIn 35 (.invokestatic 39) 3 38 := ⟨by decide +kernel, rfl⟩
theorem iX8_paidIn_38 : At YX8_paidIn 38 (.lsub) 1 39 := ⟨by decide +kernel, rfl⟩
theorem iX8_paidIn_39 : At YX8_paidIn 39 (.lsub) 1 40 := ⟨by decide +kernel, rfl⟩
theorem iX8_paidIn_40 : At YX8_paidIn 40 (.lreturn) 1 41 := ⟨by decide +kernel, rfl⟩
theorem iX8_paidBehind_0 : At YX8_paidBehind 0 (.aload_n 0) 1 1 := ⟨by decide +kernel, rfl⟩
theorem iX8_paidBehind_1 : At YX8_paidBehind 1 (.iload_n 2) 1 2 := ⟨by decide +kernel, rfl⟩
theorem iX8_paidBehind_2 : At YX8_paidBehind 2 (.invokevirtual 43) 3 5 := ⟨by decide +kernel, rfl⟩
theorem iX8_paidBehind_5 : At YX8_paidBehind 5 (.iload_n 3) 1 6 := ⟨by decide +kernel, rfl⟩
theorem iX8_paidBehind_6 : At YX8_paidBehind 6 (.iadd) 1 7 := ⟨by decide +kernel, rfl⟩
theorem iX8_paidBehind_7 : At YX8_paidBehind 7 (.istore 4) 2 9 := ⟨by decide +kernel, rfl⟩
theorem iX8_paidBehind_9 : At YX8_paidBehind 9 (.aload_n 0) 1 10 := ⟨by decide +kernel, rfl⟩
theorem iX8_paidBehind_10 : At YX8_paidBehind 10 (.getfield 9) 3 13 := ⟨by decide +kernel, rfl⟩
theorem iX8_paidBehind_13 : At YX8_paidBehind 13 (.iload_n 2) 1 14 := ⟨by decide +kernel, rfl⟩
theorem iX8_paidBehind_14 : At YX8_paidBehind 14 (.iaload) 1 15 := ⟨by decide +kernel, rfl⟩
theorem iX8_paidBehind_15 : At YX8_paidBehind 15 (.i2l) 1 16 := ⟨by decide +kernel, rfl⟩
theorem iX8_paidBehind_16 : At YX8_paidBehind 16 (.ldc2_w 25) 3 19 := ⟨by decide +kernel, rfl⟩
theorem iX8_paidBehind_19 : At YX8_paidBehind 19 (.lmul) 1 20 := ⟨by decide +kernel, rfl⟩
theorem iX8_paidBehind_20 : At YX8_paidBehind 20 (.aload_n 1) 1 21 := ⟨by decide +kernel, rfl⟩
theorem iX8_paidBehind_21 : At YX8_paidBehind 21 (.iload_n 2) 1 22 := ⟨by decide +kernel, rfl⟩
theorem iX8_paidBehind_22 : At YX8_paidBehind 22 (.iconst 2) 1 23 := ⟨by decide +kernel, rfl⟩
theorem iX8_paidBehind_23 : At YX8_paidBehind 23 (.iadd) 1 24 := ⟨by decide +kernel, rfl⟩
theorem iX8_paidBehind_24 : At YX8_paidBehind 24 (.iload 4) 2 26 := ⟨by decide +kernel, rfl⟩
theorem iX8_paidBehind_26 : At YX8_paidBehind 26 (.aload_n 0) 1 27 := ⟨by decide +kernel, rfl⟩
theorem iX8_paidBehind_27 : At YX8_paidBehind 27 (.getfield 9) 3 30 := ⟨by decide +kernel, rfl⟩
theorem iX8_paidBehind_30 : At YX8_paidBehind 30 (.iload_n 2) 1 31 := ⟨by decide +kernel, rfl⟩
theorem iX8_paidBehind_31 : At YX8_paidBehind 31 (.iaload) 1 32 := ⟨by decide +kernel, rfl⟩
theorem iX8_paidBehind_32 : At YX8_paidBehind 32 (.iadd) 1 33 := ⟨by decide +kernel, rfl⟩
theorem iX8_paidBehind_33 : At YX8_paidBehind 33 (.invokestatic 39) 3 36 := ⟨by decide +kernel, rfl⟩
theorem iX8_paidBehind_36 : At YX8_paidBehind 36 (.aload_n 1) 1 37 := ⟨by decide +kernel, rfl⟩
theorem iX8_paidBehind_37 : At YX8_paidBehind 37 (.iload_n 2) 1 38 := ⟨by decide +kernel, rfl⟩
theorem iX8_paidBehind_38 : At YX8_paidBehind 38 (.iconst 1) 1 39 := ⟨by decide +kernel, rfl⟩
theorem iX8_paidBehind_39 : At YX8_paidBehind 39 (.iadd) 1 40 := ⟨by decide +kernel, rfl⟩
theorem iX8_paidBehind_40 : At YX8_paidBehind 40 (.iload 4) 2 42 := ⟨by decide +kernel, rfl⟩
theorem iX8_paidBehind_42 : At YX8_paidBehind 42 (.invokestatic 39) 3 45 := ⟨by decide +kernel, rfl⟩
theorem iX8_paidBehind_45 : At YX8_paidBehind 45 (.lsub) 1 46 := ⟨by decide +kernel, rfl⟩
theorem iX8_paidBehind_46 : At YX8_paidBehind 46 (.lsub) 1 47 := ⟨by decide +kernel, rfl⟩
theorem iX8_paidBehind_47 : At YX8_paidBehind 47 (.lreturn) 1 48 := ⟨by decide +kernel, rfl⟩
theorem iX8_paidAboveWage_0 : At YX8_paidAboveWage 0 (.iconst 0) 1 1 := ⟨by decide +kernel, rfl⟩
theorem iX8_paidAboveWage_1 : At YX8_paidAboveWage 1 (.istore_n 2) 1 2 := ⟨by decide +kernel, rfl⟩
theorem iX8_paidAboveWage_2 : At YX8_paidAboveWage 2 (.iconst 0) 1 3 := ⟨by decide +kernel, rfl⟩
theorem iX8_paidAboveWage_3 : At YX8_paidAboveWage 3 (.istore_n 3) 1 4 := ⟨by decide +kernel, rfl⟩
theorem iX8_paidAboveWage_4 : At YX8_paidAboveWage 4 (.iload_n 3) 1 5 := ⟨by decide +kernel, rfl⟩
theorem iX8_paidAboveWage_5 : At YX8_paidAboveWage 5 (.aload_n 0) 1 6 := ⟨by decide +kernel, rfl⟩
theorem iX8_paidAboveWage_6 : At YX8_paidAboveWage 6 (.getfield 15) 3 9 := ⟨by decide +kernel, rfl⟩
theorem iX8_paidAboveWage_9 : AtJ YX8_paidAboveWage 9 (.if_icmp .ge) 12 42 := ⟨33, by decide +kernel, rfl, by decide⟩
theorem iX8_paidAboveWage_12 : At YX8_paidAboveWage 12 (.aload_n 0) 1 13 := ⟨by decide +kernel, rfl⟩
theorem iX8_paidAboveWage_13 : At YX8_paidAboveWage 13 (.aload_n 1) 1 14 := ⟨by decide +kernel, rfl⟩
theorem iX8_paidAboveWage_14 : At YX8_paidAboveWage 14 (.iload_n 3) 1 15 := ⟨by decide +kernel, rfl⟩
theorem iX8_paidAboveWage_15 : At YX8_paidAboveWage 15 (.invokevirtual 47) 3 18 := ⟨by decide +kernel, rfl⟩
theorem iX8_paidAboveWage_18 : At YX8_paidAboveWage 18 (.aload_n 0) 1 19 := ⟨by decide +kernel, rfl⟩
theorem iX8_paidAboveWage_19 : At YX8_paidAboveWage 19 (.getfield 9) 3 22 := ⟨by decide +kernel, rfl⟩
theorem iX8_paidAboveWage_22 : At YX8_paidAboveWage 22 (.iload_n 3) 1 23 := ⟨by decide +kernel, rfl⟩
theorem iX8_paidAboveWage_23 : At YX8_paidAboveWage 23 (.iaload) 1 24 := ⟨by decide +kernel, rfl⟩
theorem iX8_paidAboveWage_24 : At YX8_paidAboveWage 24 (.i2l) 1 25 := ⟨by decide +kernel, rfl⟩
theorem iX8_paidAboveWage_25 : At YX8_paidAboveWage 25 (.ldc2_w 25) 3 28 := ⟨by decide +kernel, rfl⟩
theorem iX8_paidAboveWage_28 : At YX8_paidAboveWage 28 (.lmul) 1 29 := ⟨by decide +kernel, rfl⟩
theorem iX8_paidAboveWage_29 : At YX8_paidAboveWage 29 (.lcmp) 1 30 := ⟨by decide +kernel, rfl⟩
theorem iX8_paidAboveWage_30 : AtJ YX8_paidAboveWage 30 (.ifCond .le) 33 36 := ⟨6, by decide +kernel, rfl, by decide⟩
theorem iX8_paidAboveWage_33 : At YX8_paidAboveWage 33 (.iinc 2 1) 3 36 := ⟨by decide +kernel, rfl⟩
theorem iX8_paidAboveWage_36 : At YX8_paidAboveWage 36 (.iinc 3 1) 3 39 := ⟨by decide +kernel, rfl⟩
theorem iX8_paidAboveWage_39 : AtJ YX8_paidAboveWage 39 .goto 42 4 := ⟨-35, by decide +kernel, rfl, by decide⟩
theorem iX8_paidAboveWage_42 : At YX8_paidAboveWage 42 (.iload_n 2) 1 43 := ⟨by decide +kernel, rfl⟩
theorem iX8_paidAboveWage_43 : At YX8_paidAboveWage 43 (.ireturn) 1 44 := ⟨by decide +kernel, rfl⟩
theorem iX8_leastPaid_0 : At YX8_leastPaid 0 (.iconst (-1)) 1 1 := ⟨by decide +kernel, rfl⟩
theorem iX8_leastPaid_1 : At YX8_leastPaid 1 (.istore_n 2) 1 2 := ⟨by decide +kernel, rfl⟩
theorem iX8_leastPaid_2 : At YX8_leastPaid 2 (.iconst 0) 1 3 := ⟨by decide +kernel, rfl⟩
theorem iX8_leastPaid_3 : At YX8_leastPaid 3 (.istore_n 3) 1 4 := ⟨by decide +kernel, rfl⟩
theorem iX8_leastPaid_4 : At YX8_leastPaid 4 (.iload_n 3) 1 5 := ⟨by decide +kernel, rfl⟩
theorem iX8_leastPaid_5 : At YX8_leastPaid 5 (.aload_n 0) 1 6 := ⟨by decide +kernel, rfl⟩
theorem iX8_leastPaid_6 : At YX8_leastPaid 6 (.getfield 15) 3 9 := ⟨by decide +kernel, rfl⟩
theorem iX8_leastPaid_9 : AtJ YX8_leastPaid 9 (.if_icmp .ge) 12 41 := ⟨32, by decide +kernel, rfl, by decide⟩
theorem iX8_leastPaid_12 : At YX8_leastPaid 12 (.iload_n 2) 1 13 := ⟨by decide +kernel, rfl⟩
theorem iX8_leastPaid_13 : At YX8_leastPaid 13 (.iconst (-1)) 1 14 := ⟨by decide +kernel, rfl⟩
theorem iX8_leastPaid_14 : AtJ YX8_leastPaid 14 (.if_icmp .eq) 17 33 := ⟨19, by decide +kernel, rfl, by decide⟩
theorem iX8_leastPaid_17 : At YX8_leastPaid 17 (.aload_n 0) 1 18 := ⟨by decide +kernel, rfl⟩
theorem iX8_leastPaid_18 : At YX8_leastPaid 18 (.aload_n 1) 1 19 := ⟨by decide +kernel, rfl⟩
theorem iX8_leastPaid_19 : At YX8_leastPaid 19 (.iload_n 3) 1 20 := ⟨by decide +kernel, rfl⟩
theorem iX8_leastPaid_20 : At YX8_leastPaid 20 (.invokevirtual 47) 3 23 := ⟨by decide +kernel, rfl⟩
theorem iX8_leastPaid_23 : At YX8_leastPaid 23 (.aload_n 0) 1 24 := ⟨by decide +kernel, rfl⟩
theorem iX8_leastPaid_24 : At YX8_leastPaid 24 (.aload_n 1) 1 25 := ⟨by decide +kernel, rfl⟩
theorem iX8_leastPaid_25 : At YX8_leastPaid 25 (.iload_n 2) 1 26 := ⟨by decide +kernel, rfl⟩
theorem iX8_leastPaid_26 : At YX8_leastPaid 26 (.invokevirtual 47) 3 29 := ⟨by decide +kernel, rfl⟩
theorem iX8_leastPaid_29 : At YX8_leastPaid 29 (.lcmp) 1 30 := ⟨by decide +kernel, rfl⟩
theorem iX8_leastPaid_30 : AtJ YX8_leastPaid 30 (.ifCond .ge) 33 35 := ⟨5, by decide +kernel, rfl, by decide⟩
theorem iX8_leastPaid_33 : At YX8_leastPaid 33 (.iload_n 3) 1 34 := ⟨by decide +kernel, rfl⟩
theorem iX8_leastPaid_34 : At YX8_leastPaid 34 (.istore_n 2) 1 35 := ⟨by decide +kernel, rfl⟩
theorem iX8_leastPaid_35 : At YX8_leastPaid 35 (.iinc 3 1) 3 38 := ⟨by decide +kernel, rfl⟩
theorem iX8_leastPaid_38 : AtJ YX8_leastPaid 38 .goto 41 4 := ⟨-34, by decide +kernel, rfl, by decide⟩
theorem iX8_leastPaid_41 : At YX8_leastPaid 41 (.iload_n 2) 1 42 := ⟨by decide +kernel, rfl⟩
theorem iX8_leastPaid_42 : At YX8_leastPaid 42 (.ireturn) 1 43 := ⟨by decide +kernel, rfl⟩
theorem iX8_leastNext_0 : At YX8_leastNext 0 (.aload_n 0) 1 1 := ⟨by decide +kernel, rfl⟩
theorem iX8_leastNext_1 : At YX8_leastNext 1 (.aload_n 0) 1 2 := ⟨by decide +kernel, rfl⟩
theorem iX8_leastNext_2 : At YX8_leastNext 2 (.getfield 15) 3 5 := ⟨by decide +kernel, rfl⟩
theorem iX8_leastNext_5 : At YX8_leastNext 5 (.invokevirtual 43) 3 8 := ⟨by decide +kernel, rfl⟩
theorem iX8_leastNext_8 : At YX8_leastNext 8 (.istore 4) 2 10 := ⟨by decide +kernel, rfl⟩
theorem iX8_leastNext_10 : At YX8_leastNext 10 (.aload_n 1) 1 11 := ⟨by decide +kernel, rfl⟩
theorem iX8_leastNext_11 : At YX8_leastNext 11 (.aload_n 0) 1 12 := ⟨by decide +kernel, rfl⟩
theorem iX8_leastNext_12 : At YX8_leastNext 12 (.getfield 15) 3 15 := ⟨by decide +kernel, rfl⟩
theorem iX8_leastNext_15 : At YX8_leastNext 15 (.iload 4) 2 17 := ⟨by decide +kernel, rfl⟩
theorem iX8_leastNext_17 : At YX8_leastNext 17 (.invokestatic 39) 3 20 := ⟨by decide +kernel, rfl⟩
theorem iX8_leastNext_20 : At YX8_leastNext 20 (.lstore 5) 2 22 := ⟨by decide +kernel, rfl⟩
theorem iX8_leastNext_22 : At YX8_leastNext 22 (.iconst 0) 1 23 := ⟨by decide +kernel, rfl⟩
theorem iX8_leastNext_23 : At YX8_leastNext 23 (.istore 7) 2 25 := ⟨by decide +kernel, rfl⟩
theorem iX8_leastNext_25 : At YX8_leastNext 25 (.iload 7) 2 27 := ⟨by decide +kernel, rfl⟩
theorem iX8_leastNext_27 : At YX8_leastNext 27 (.sipush 9999) 3 30 := ⟨by decide +kernel, rfl⟩
theorem iX8_leastNext_30 : AtJ YX8_leastNext 30 (.if_icmp .gt) 33 73 := ⟨43, by decide +kernel, rfl, by decide⟩
theorem iX8_leastNext_33 : At YX8_leastNext 33 (.iload 7) 2 35 := ⟨by decide +kernel, rfl⟩
theorem iX8_leastNext_35 : At YX8_leastNext 35 (.i2l) 1 36 := ⟨by decide +kernel, rfl⟩
theorem iX8_leastNext_36 : At YX8_leastNext 36 (.ldc2_w 25) 3 39 := ⟨by decide +kernel, rfl⟩
theorem iX8_leastNext_39 : At YX8_leastNext 39 (.lmul) 1 40 := ⟨by decide +kernel, rfl⟩
theorem iX8_leastNext_40 : At YX8_leastNext 40 (.aload_n 1) 1 41 := ⟨by decide +kernel, rfl⟩
theorem iX8_leastNext_41 : At YX8_leastNext 41 (.aload_n 0) 1 42 := ⟨by decide +kernel, rfl⟩
theorem iX8_leastNext_42 : At YX8_leastNext 42 (.getfield 15) 3 45 := ⟨by decide +kernel, rfl⟩
theorem iX8_leastNext_45 : At YX8_leastNext 45 (.iconst 1) 1 46 := ⟨by decide +kernel, rfl⟩
theorem iX8_leastNext_46 : At YX8_leastNext 46 (.iadd) 1 47 := ⟨by decide +kernel, rfl⟩
theorem iX8_leastNext_47 : At YX8_leastNext 47 (.iload 4) 2 49 := ⟨by decide +kernel, rfl⟩
theorem iX8_leastNext_49 : At YX8_leastNext 49 (.iload 7) 2 51 := ⟨by decide +kernel, rfl⟩
theorem iX8_leastNext_51 : At YX8_leastNext 51 (.iadd) 1 52 := ⟨by decide +kernel, rfl⟩
theorem iX8_leastNext_52 : At YX8_leastNext 52 (.invokestatic 39) 3 55 := ⟨by decide +kernel, rfl⟩
theorem iX8_leastNext_55 : At YX8_leastNext 55 (.lload 5) 2 57 := ⟨by decide +kernel, rfl⟩
theorem iX8_leastNext_57 : At YX8_leastNext 57 (.lsub) 1 58 := ⟨by decide +kernel, rfl⟩
theorem iX8_leastNext_58 : At YX8_leastNext 58 (.lsub) 1 59 := ⟨by decide +kernel, rfl⟩
theorem iX8_leastNext_59 : At YX8_leastNext 59 (.lload_n 2) 1 60 := ⟨by decide +kernel, rfl⟩
theorem iX8_leastNext_60 : At YX8_leastNext 60 (.lcmp) 1 61 := ⟨by decide +kernel, rfl⟩
theorem iX8_leastNext_61 : AtJ YX8_leastNext 61 (.ifCond .lt) 64 67 := ⟨6, by decide +kernel, rfl, by decide⟩
theorem iX8_leastNext_64 : At YX8_leastNext 64 (.iload 7) 2 66 := ⟨by decide +kernel, rfl⟩
theorem iX8_leastNext_66 : At YX8_leastNext 66 (.ireturn) 1 67 := ⟨by decide +kernel, rfl⟩
theorem iX8_leastNext_67 : At YX8_leastNext 67 (.iinc 7 1) 3 70 := ⟨by decide +kernel, rfl⟩
theorem iX8_leastNext_70 : AtJ YX8_leastNext 70 .goto 73 25 := ⟨-45, by decide +kernel, rfl, by decide⟩
theorem iX8_leastNext_73 : At YX8_leastNext 73 (.iconst (-1)) 1 74 := ⟨by decide +kernel, rfl⟩
theorem iX8_leastNext_74 : At YX8_leastNext 74 (.ireturn) 1 75 := ⟨by decide +kernel, rfl⟩
theorem iX8_leastEach_0 : At YX8_leastEach 0 (.bipush 12) 2 2 := ⟨by decide +kernel, rfl⟩
theorem iX8_leastEach_2 : At YX8_leastEach 2 (.aload_n 0) 1 3 := ⟨by decide +kernel, rfl⟩
theorem iX8_leastEach_3 : At YX8_leastEach 3 (.getfield 15) 3 6 := ⟨by decide +kernel, rfl⟩
theorem iX8_leastEach_6 : At YX8_leastEach 6 (.isub) 1 7 := ⟨by decide +kernel, rfl⟩
theorem iX8_leastEach_7 : At YX8_leastEach 7 (.istore 4) 2 9 := ⟨by decide +kernel, rfl⟩
theorem iX8_leastEach_9 : At YX8_leastEach 9 (.aload_n 0) 1 10 := ⟨by decide +kernel, rfl⟩
theorem iX8_leastEach_10 : At YX8_leastEach 10 (.aload_n 0) 1 11 := ⟨by decide +kernel, rfl⟩
theorem iX8_leastEach_11 : At YX8_leastEach 11 (.getfield 15) 3 14 := ⟨by decide +kernel, rfl⟩
theorem iX8_leastEach_14 : At YX8_leastEach 14 (.invokevirtual 43) 3 17 := ⟨by decide +kernel, rfl⟩
theorem iX8_leastEach_17 : At YX8_leastEach 17 (.istore 5) 2 19 := ⟨by decide +kernel, rfl⟩
theorem iX8_leastEach_19 : At YX8_leastEach 19 (.iconst 0) 1 20 := ⟨by decide +kernel, rfl⟩
theorem iX8_leastEach_20 : At YX8_leastEach 20 (.istore 6) 2 22 := ⟨by decide +kernel, rfl⟩
theorem iX8_leastEach_22 : At YX8_leastEach 22 (.iload 6) 2 24 := ⟨by decide +kernel, rfl⟩
theorem iX8_leastEach_24 : At YX8_leastEach 24 (.sipush 9999) 3 27 := ⟨by decide +kernel, rfl⟩
theorem iX8_leastEach_27 : AtJ YX8_leastEach 27 (.if_icmp .gt) 30 58 := ⟨31, by decide +kernel, rfl, by decide⟩
theorem iX8_leastEach_30 : At YX8_leastEach 30 (.aload_n 1) 1 31 := ⟨by decide +kernel, rfl⟩
theorem iX8_leastEach_31 : At YX8_leastEach 31 (.bipush 12) 2 33 := ⟨by decide +kernel, rfl⟩
theorem iX8_leastEach_33 : At YX8_leastEach 33 (.iload 5) 2 35 := ⟨by decide +kernel, rfl⟩
theorem iX8_leastEach_35 : At YX8_leastEach 35 (.iload 4) 2 37 := ⟨by decide +kernel, rfl⟩
theorem iX8_leastEach_37 : At YX8_leastEach 37 (.iload 6) 2 39 := ⟨by decide +kernel, rfl⟩
theorem iX8_leastEach_39 : At YX8_leastEach 39 (.imul) 1 40 := ⟨by decide +kernel, rfl⟩
theorem iX8_leastEach_40 : At YX8_leastEach 40 (.iadd) 1 41 := ⟨by decide +kernel, rfl⟩
theorem iX8_leastEach_41 : At YX8_leastEach 41 (.invokestatic 51) 3 44 := ⟨by decide +kernel, rfl⟩
theorem iX8_leastEach_44 : At YX8_leastEach 44 (.lload_n 2) 1 45 := ⟨by decide +kernel, rfl⟩
theorem iX8_leastEach_45 : At YX8_leastEach 45 (.lcmp) 1 46 := ⟨by decide +kernel, rfl⟩
theorem iX8_leastEach_46 : AtJ YX8_leastEach 46 (.ifCond .lt) 49 52 := ⟨6, by decide +kernel, rfl, by decide⟩
theorem iX8_leastEach_49 : At YX8_leastEach 49 (.iload 6) 2 51 := ⟨by decide +kernel, rfl⟩
theorem iX8_leastEach_51 : At YX8_leastEach 51 (.ireturn) 1 52 := ⟨by decide +kernel, rfl⟩
theorem iX8_leastEach_52 : At YX8_leastEach 52 (.iinc 6 1) 3 55 := ⟨by decide +kernel, rfl⟩
theorem iX8_leastEach_55 : AtJ YX8_leastEach 55 .goto 58 22 := ⟨-33, by decide +kernel, rfl, by decide⟩
theorem iX8_leastEach_58 : At YX8_leastEach 58 (.iconst (-1)) 1 59 := ⟨by decide +kernel, rfl⟩
theorem iX8_leastEach_59 : At YX8_leastEach 59 (.ireturn) 1 60 := ⟨by decide +kernel, rfl⟩
theorem iX8_leastMonths_0 : At YX8_leastMonths 0 (.aload_n 0) 1 1 := ⟨by decide +kernel, rfl⟩
theorem iX8_leastMonths_1 : At YX8_leastMonths 1 (.aload_n 0) 1 2 := ⟨by decide +kernel, rfl⟩
theorem iX8_leastMonths_2 : At YX8_leastMonths 2 (.getfield 15) 3 5 := ⟨by decide +kernel, rfl⟩
theorem iX8_leastMonths_5 : At YX8_leastMonths 5 (.invokevirtual 43) 3 8 := ⟨by decide +kernel, rfl⟩
theorem iX8_leastMonths_8 : At YX8_leastMonths 8 (.istore 5) 2 10 := ⟨by decide +kernel, rfl⟩
theorem iX8_leastMonths_10 : At YX8_leastMonths 10 (.iconst 0) 1 11 := ⟨by decide +kernel, rfl⟩
theorem iX8_leastMonths_11 : At YX8_leastMonths 11 (.istore 6) 2 13 := ⟨by decide +kernel, rfl⟩
theorem iX8_leastMonths_13 : At YX8_leastMonths 13 (.iload 6) 2 15 := ⟨by decide +kernel, rfl⟩
theorem iX8_leastMonths_15 : At YX8_leastMonths 15 (.bipush 12) 2 17 := ⟨by decide +kernel, rfl⟩
theorem iX8_leastMonths_17 : At YX8_leastMonths 17 (.aload_n 0) 1 18 := ⟨by decide +kernel, rfl⟩
theorem iX8_leastMonths_18 : At YX8_leastMonths 18 (.getfield 15) 3 21 := ⟨by decide +kernel, rfl⟩
theorem iX8_leastMonths_21 : At YX8_leastMonths 21 (.isub) 1 22 := ⟨by decide +kernel, rfl⟩
theorem iX8_leastMonths_22 : AtJ YX8_leastMonths 22 (.if_icmp .gt) 25 57 := ⟨35, by decide +kernel, rfl, by decide⟩
theorem iX8_leastMonths_25 : At YX8_leastMonths 25 (.aload_n 1) 1 26 := ⟨by decide +kernel, rfl⟩
theorem iX8_leastMonths_26 : At YX8_leastMonths 26 (.aload_n 0) 1 27 := ⟨by decide +kernel, rfl⟩
theorem iX8_leastMonths_27 : At YX8_leastMonths 27 (.getfield 15) 3 30 := ⟨by decide +kernel, rfl⟩
theorem iX8_leastMonths_30 : At YX8_leastMonths 30 (.iload 6) 2 32 := ⟨by decide +kernel, rfl⟩
theorem iX8_leastMonths_32 : At YX8_leastMonths 32 (.iadd) 1 33 := ⟨by decide +kernel, rfl⟩
theorem iX8_leastMonths_33 : At YX8_leastMonths 33 (.iload 5) 2 35 := ⟨by decide +kernel, rfl⟩
theorem iX8_leastMonths_35 : At YX8_leastMonths 35 (.iload 6) 2 37 := ⟨by decide +kernel, rfl⟩
theorem iX8_leastMonths_37 : At YX8_leastMonths 37 (.iload_n 2) 1 38 := ⟨by decide +kernel, rfl⟩
theorem iX8_leastMonths_38 : At YX8_leastMonths 38 (.imul) 1 39 := ⟨by decide +kernel, rfl⟩
theorem iX8_leastMonths_39 : At YX8_leastMonths 39 (.iadd) 1 40 := ⟨by decide +kernel, rfl⟩
theorem iX8_leastMonths_40 : At YX8_leastMonths 40 (.invokestatic 51) 3 43 := ⟨by decide +kernel, rfl⟩
theorem iX8_leastMonths_43 : At YX8_leastMonths 43 (.lload_n 3) 1 44 := ⟨by decide +kernel, rfl⟩
theorem iX8_leastMonths_44 : At YX8_leastMonths 44 (.lcmp) 1 45 := ⟨by decide +kernel, rfl⟩
theorem iX8_leastMonths_45 : AtJ YX8_leastMonths 45 (.ifCond .lt) 48 51 := ⟨6, by decide +kernel, rfl, by decide⟩
theorem iX8_leastMonths_48 : At YX8_leastMonths 48 (.iload 6) 2 50 := ⟨by decide +kernel, rfl⟩
theorem iX8_leastMonths_50 : At YX8_leastMonths 50 (.ireturn) 1 51 := ⟨by decide +kernel, rfl⟩
theorem iX8_leastMonths_51 : At YX8_leastMonths 51 (.iinc 6 1) 3 54 := ⟨by decide +kernel, rfl⟩
theorem iX8_leastMonths_54 : AtJ YX8_leastMonths 54 .goto 57 13 := ⟨-41, by decide +kernel, rfl, by decide⟩
theorem iX8_leastMonths_57 : At YX8_leastMonths 57 (.iconst (-1)) 1 58 := ⟨by decide +kernel, rfl⟩
theorem iX8_leastMonths_58 : At YX8_leastMonths 58 (.ireturn) 1 59 := ⟨by decide +kernel, rfl⟩
end
section
/-! own text, printed by wip/whole/gen/tables.py: the cells of the program, by families -/
/-- rules, draft, and the room of each line -/
abbrev Ge : Type := Nat × Nat × (Nat → Nat)
/-- kind (0 an object, 1 ints, 2 longs, 3 references), and which class or row -/
def kd (k : Nat) : Nat × Nat := match k with
  | 0 => (0, 7)
  | 1 => (0, 3)
  | 2 => (1, 0)
  | 3 => (0, 2)
  | 4 => (2, 1)
  | 5 => (2, 1)
  | 6 => (1, 0)
  | 7 => (0, 1)
  | 8 => (3, 2)
  | 9 => (3, 3)
  | 10 => (1, 0)
  | 11 => (2, 1)
  | 12 => (0, 0)
  | 13 => (1, 0)
  | 14 => (2, 1)
  | 15 => (2, 1)
  | 16 => (0, 6)
  | 17 => (1, 0)
  | 18 => (0, 5)
  | 19 => (1, 0)
  | 20 => (0, 4)
  | 21 => (1, 0)
  | 22 => (3, 3)
  | 23 => (1, 0)
  | 24 => (3, 3)
  | 25 => (1, 0)
  | 26 => (1, 0)
  | 27 => (1, 0)
  | 28 => (3, 3)
  | 29 => (1, 0)
  | 30 => (3, 3)
  | 31 => (1, 0)
  | 32 => (3, 3)
  | 33 => (1, 0)
  | 34 => (3, 4)
  | 35 => (2, 1)
  | 40 => (0, 8)
  | 41 => (1, 0)
  | 42 => (1, 0)
  | 43 => (1, 0)
  | 44 => (1, 0)
  | 45 => (1, 0)
  | 46 => (1, 0)
  | 47 => (1, 0)
  | 48 => (1, 0)
  | 49 => (1, 0)
  | 50 => (1, 0)
  | 51 => (1, 0)
  | 52 => (1, 0)
  | 53 => (1, 0)
  | 54 => (1, 0)
  | 55 => (1, 0)
  | 56 => (2, 1)
  | 57 => (2, 1)
  | 58 => (1, 0)
  | 59 => (1, 0)
  | 60 => (2, 1)
  | _ => (4, 0)
def cnt (k : Nat) : Nat := match k with
  | 0 => 1
  | 1 => 1
  | 2 => 1
  | 3 => 1
  | 4 => 1
  | 5 => 1
  | 6 => 1
  | 7 => 1
  | 8 => 1
  | 9 => 1
  | 10 => 6
  | 11 => 1
  | 12 => 8
  | 13 => 8
  | 14 => 8
  | 15 => 8
  | 16 => 1
  | 17 => 1
  | 18 => 1
  | 19 => 1
  | 20 => 2
  | 21 => 2
  | 22 => 2
  | 23 => 14
  | 24 => 2
  | 25 => 14
  | 26 => 2
  | 27 => 2
  | 28 => 2
  | 29 => 12
  | 30 => 2
  | 31 => 12
  | 32 => 2
  | 33 => 12
  | 34 => 2
  | 35 => 12
  | 40 => 1
  | 41 => 1
  | 42 => 1
  | 43 => 1
  | 44 => 1
  | 45 => 1
  | 46 => 1
  | 47 => 1
  | 48 => 1
  | 49 => 1
  | 50 => 1
  | 51 => 1
  | 52 => 1
  | 53 => 1
  | 54 => 1
  | 55 => 1
  | 56 => 1
  | 57 => 1
  | 58 => 1
  | 59 => 1
  | 60 => 1
  | _ => 0
def ln (g : Ge) (k i : Nat) : Nat := match k with
  | 2 => 400
  | 4 => 7
  | 5 => 7
  | 6 => 6
  | 8 => 7
  | 9 => 6
  | 10 => 6
  | 11 => 7
  | 13 => g.2.2 i
  | 14 => g.2.2 i
  | 15 => g.2.2 i
  | 17 => 12
  | 19 => 4
  | 21 => 7
  | 22 => 7
  | 23 => 6
  | 24 => 7
  | 25 => 6
  | 26 => 6
  | 27 => 6
  | 28 => 6
  | 29 => 6
  | 30 => 6
  | 31 => 6
  | 32 => 6
  | 33 => 6
  | 34 => 6
  | 35 => 6
  | 41 => 400
  | 42 => 7
  | 43 => 7
  | 44 => 42
  | 45 => 42
  | 46 => 42
  | 47 => 42
  | 48 => 6
  | 49 => 6
  | 50 => 108
  | 51 => 108
  | 52 => 6
  | 53 => 6
  | 54 => 4
  | 55 => 12
  | 56 => 6
  | 57 => 10000
  | 58 => 10000
  | 59 => 160
  | 60 => 1
  | _ => 0
def rf (g : Ge) (k i j : Nat) : Nat × Nat := match k with
  | 0 => (match j with | 0 => (1, 0) | 1 => (3, 0) | 2 => (7, 0) | 3 => (12, 7) | 4 => (16, 0) | 5 => (18, 0) | 6 => (19, 0) | 7 => (20, g.1) | 8 => (20, g.2.1) | _ => (0, 0))
  | 1 => (match j with | 0 => (2, 0) | _ => (0, 0))
  | 3 => (match j with | 0 => (4, 0) | 1 => (5, 0) | 2 => (6, 0) | _ => (0, 0))
  | 7 => (match j with | 0 => (8, 0) | 1 => (9, 0) | 2 => (11, 0) | _ => (0, 0))
  | 8 => (12, j)
  | 9 => (10, j)
  | 12 => (match j with | 1 => (13, i) | 2 => (14, i) | 3 => (15, i) | _ => (0, 0))
  | 16 => (match j with | 0 => (17, 0) | _ => (0, 0))
  | 20 => (match j with | 2 => (21, i) | 3 => (22, i) | 4 => (24, i) | 5 => (26, i) | 6 => (27, i) | 7 => (28, i) | 8 => (30, i) | 9 => (32, i) | 10 => (34, i) | _ => (0, 0))
  | 22 => (23, 7 * i + j)
  | 24 => (25, 7 * i + j)
  | 28 => (29, 6 * i + j)
  | 30 => (31, 6 * i + j)
  | 32 => (33, 6 * i + j)
  | 34 => (35, 6 * i + j)
  | 40 => (match j with | 1 => (41, 0) | 5 => (42, 0) | 6 => (43, 0) | 7 => (44, 0) | 8 => (45, 0) | 9 => (46, 0) | 10 => (47, 0) | 11 => (48, 0) | 12 => (49, 0) | 13 => (50, 0) | 14 => (51, 0) | 15 => (52, 0) | 16 => (53, 0) | 23 => (54, 0) | 24 => (55, 0) | 26 => (56, 0) | 29 => (57, 0) | 30 => (58, 0) | 32 => (59, 0) | _ => (0, 0))
  | _ => (0, 0)
def mov (k : Nat) : Bool := k == 13 || k == 14 || k == 15
abbrev clsL : List vw_C := [(RX1, TX1, 8), (RX2, TX2, 3), (RX3, TX3, 3), (RX4, TX4, 5), (RX5, TX5, 11), (RX6, TX6, 3), (RX8, TX8, 2), (RX9, TX9, 11), (RX10, TX10, 34)]
def cty (c j : Nat) : FieldType := match c with
  | 0 => tyX1 j
  | 1 => tyX2 j
  | 2 => tyX3 j
  | 3 => tyX4 j
  | 4 => tyX5 j
  | 5 => tyX6 j
  | 6 => tyX8 j
  | 7 => tyX9 j
  | 8 => tyX10 j
  | _ => .int
end
section
/-! own text: a logic of whole states over the kit's W. A state is numbers (N k i j: family, member, place) and a shape g; every cell of the class, of the reference and of the law is in it, so no frame is ever cut. -/
abbrev Nm : Type := Nat → Nat → Nat → Int
/-- the launch, where the new cells begin, the classes' numbers and slots, the array classes -/
abbrev Kx : Type := Launch × Nat × va_G × (Nat → ClassId)
def TW : List Cond := lw_tbl.filter goodWord
theorem tw_of {w : Cond} (h : w ∈ lw_tbl) (hg : goodWord w = true) : w ∈ TW := List.mem_filter.mpr ⟨h, hg⟩
theorem tw_t {w : Cond} (i : Nat) (h : tables_1[i]? = some w) (hg : goodWord w = true) : w ∈ TW := tw_of (List.mem_append_right _ (List.mem_of_getElem? h)) hg
theorem tw_s {w : Cond} (i : Nat) (h : (k2_sels lw_privs)[i]? = some w) (hg : goodWord w = true) : w ∈ TW := tw_of (List.mem_append_left _ (List.mem_of_getElem? h)) hg
theorem tw_ps (ws : List Cond) (ps : List Nat) (hp : ws = ps.filterMap (fun i => tables_1[i]?)) (h : ws.all goodWord = true) : ∀ w ∈ ws, w ∈ TW := by
  intro w hw
  have h1 := List.all_eq_true.mp h w hw
  rw [hp] at hw
  obtain ⟨i, -, hi⟩ := List.mem_filterMap.mp hw
  exact tw_t i hi h1
theorem tw_good {w : Cond} (h : w ∈ TW) : goodWord w = true := (List.mem_filter.mp h).2
theorem tw_tbl {w : Cond} (h : w ∈ TW) : w ∈ lw_tbl := (List.mem_filter.mp h).1
/-! values -/
abbrev AV : Type := Int ⊕ (Int ⊕ ((Nat × Nat) ⊕ (UInt64 ⊕ UInt32)))
abbrev vi (z : Int) : AV := .inl z
abbrev vl (z : Int) : AV := .inr (.inl z)
abbrev vr (k i : Nat) : AV := .inr (.inr (.inl (k, i)))
abbrev vd (x : UInt64) : AV := .inr (.inr (.inr (.inl x)))
abbrev vf (x : UInt32) : AV := .inr (.inr (.inr (.inr x)))
def cv (ad : Nat → Nat → Nat) (v : AV) : Value := match v with
  | .inl z => .int (Int32.ofInt z)
  | .inr (.inl z) => .long (Int64.ofInt z)
  | .inr (.inr (.inl q)) => .ref (ad q.1 q.2)
  | .inr (.inr (.inr (.inl x))) => .double x
  | .inr (.inr (.inr (.inr x))) => .float x
def cat (v : AV) : Nat := match v with
  | .inl _ => 1
  | .inr (.inl _) => 2
  | .inr (.inr (.inl _)) => 1
  | .inr (.inr (.inr (.inl _))) => 2
  | .inr (.inr (.inr (.inr _))) => 1
theorem cv_cat (ad : Nat → Nat → Nat) (v : AV) : (cv ad v).category = cat v := by
  rcases v with z | z | q | x | x <;> rfl
def okv (v : AV) : Prop := match v with
  | .inr (.inr (.inl q)) => q.2 < cnt q.1
  | _ => True
def oks (st : List AV) : Prop := ∀ v ∈ st, okv v
def okl (ls : List (Option AV)) : Prop := ∀ v, some v ∈ ls → okv v
def nmo (v : AV) : Bool := match v with
  | .inr (.inr (.inl q)) => !mov q.1
  | _ => true
def nml (v : Option AV) : Bool := match v with
  | none => true
  | some w => nmo w
theorem oks_nil : oks [] := fun _ h => absurd h List.not_mem_nil
theorem oks_cons {v : AV} {st : List AV} (h1 : okv v) (h2 : oks st) : oks (v :: st) := fun w hw => (List.mem_cons.mp hw).elim (fun e => by rw [e]; exact h1) (h2 w)
theorem oks_hd {v : AV} {st : List AV} (h : oks (v :: st)) : okv v := h v List.mem_cons_self
theorem oks_tl {v : AV} {st : List AV} (h : oks (v :: st)) : oks st := fun w hw => h w (List.mem_cons_of_mem _ hw)
def lvs (ad : Nat → Nat → Nat) : Nat → List (Option AV) → List (Nat × Value)
  | _, [] => []
  | n, none :: t => lvs ad (n + 1) t
  | n, some v :: t => (n, cv ad v) :: lvs ad (n + 1) t
theorem lvs_in (ad : Nat → Nat → Nat) : ∀ (ls : List (Option AV)) (n : Nat) (q : Nat × Value), q ∈ lvs ad n ls ↔ ∃ i v, ls[i]? = some (some v) ∧ q = (n + i, cv ad v)
  | [], n, q => by simp [lvs]
  | none :: t, n, q => by
    rw [lvs, lvs_in ad t (n + 1) q]
    constructor
    · rintro ⟨i, v, h, rfl⟩
      exact ⟨i + 1, v, h, by rw [Nat.add_assoc, Nat.add_comm 1 i]⟩
    · rintro ⟨i, v, h, rfl⟩
      cases i with
      | zero => simp at h
      | succ i => exact ⟨i, v, h, by rw [Nat.add_assoc, Nat.add_comm 1 i]⟩
  | some w :: t, n, q => by
    rw [lvs, List.mem_cons, lvs_in ad t (n + 1) q]
    constructor
    · rintro (rfl | ⟨i, v, h, rfl⟩)
      · exact ⟨0, w, rfl, rfl⟩
      · exact ⟨i + 1, v, h, by rw [Nat.add_assoc, Nat.add_comm 1 i]⟩
    · rintro ⟨i, v, h, rfl⟩
      cases i with
      | zero =>
        left
        simp at h
        rw [h]
        rfl
      | succ i => exact Or.inr ⟨i, v, h, by rw [Nat.add_assoc, Nat.add_comm 1 i]⟩
theorem lvs_at {ad : Nat → Nat → Nat} {ls : List (Option AV)} {L : Array Slot} {nL i : Nat} {v : AV} (h : lv_has L nL (lvs ad 0 ls)) (hi : ls[i]? = some (some v)) : L[i]? = some (.val (cv ad v)) := by
  have := h.2.2 (0 + i, cv ad v) ((lvs_in ad ls 0 _).mpr ⟨i, v, hi, rfl⟩)
  simpa using this
/-! cells -/
def fv (g : Ge) (N : Nm) (ad : Nat → Nat → Nat) (c k i j : Nat) : Value := match cty c j with
  | .int => .int (Int32.ofInt (N k i j))
  | .boolean => .int (Int32.ofInt (N k i j))
  | .long => .long (Int64.ofInt (N k i j))
  | _ => .ref (ad (rf g k i j).1 (rf g k i j).2)
def hcell (K : Kx) (g : Ge) (N : Nm) (ad : Nat → Nat → Nat) (k i : Nat) (H : Heap) : Prop := match kd k with
  | (0, c) => ∃ q : vw_C, clsL[c]? = some q ∧ t_OB (ad k i) (K.2.2.1.1 c) q.2.2 (K.2.2.1.2 c) H (fun j => fv g N ad c k i j)
  | (1, c) => H[ad k i]? = some (arrV (K.2.2.2 c) (ln g k i) (fun j => .int (Int32.ofInt (N k i j))))
  | (2, c) => H[ad k i]? = some (arrV (K.2.2.2 c) (ln g k i) (fun j => .long (Int64.ofInt (N k i j))))
  | (3, c) => H[ad k i]? = some (arrV (K.2.2.2 c) (ln g k i) (fun j => .ref (ad (rf g k i j).1 (rf g k i j).2)))
  | _ => False
def Hold (K : Kx) (g : Ge) (N : Nm) (ad : Nat → Nat → Nat) (H : Heap) : Prop :=
  (g.1 < 2 ∧ g.2.1 < 2) ∧ (∀ k i, i < cnt k → K.2.1 ≤ ad k i ∧ hcell K g N ad k i H) ∧ ∀ k i k' i', i < cnt k → i' < cnt k' → ad k i = ad k' i' → k = k' ∧ i = i'
abbrev tysK (K : Kx) : List (ClassId × FieldType) := [(K.2.2.2 0, .int), (K.2.2.2 1, .long), (K.2.2.2 2, .object "PayPromise$Line"), (K.2.2.2 3, .array .int), (K.2.2.2 4, .array .long)]
def KK (K : Kx) (s : State) : Prop := va_K K.2.2.1 clsL (tysK K) s
theorem KK.moved {K : Kx} {u U : State} (hvm : u.vm.Alike U.vm) (h : KK K u) : KK K U := va_K.moved hvm h
def upN (N : Nm) (k i j : Nat) (v : Int) : Nm := fun k' i' j' => if k' = k ∧ i' = i ∧ j' = j then v else N k' i' j'
theorem upN_eq (N : Nm) (k i j : Nat) (v : Int) : upN N k i j v k i j = v := if_pos ⟨rfl, rfl, rfl⟩
theorem upN_k {N : Nm} {k i j k' i' j' : Nat} {v : Int} (h : k' ≠ k) : upN N k i j v k' i' j' = N k' i' j' := if_neg (fun q => h q.1)
theorem upN_i {N : Nm} {k i j k' i' j' : Nat} {v : Int} (h : i' ≠ i) : upN N k i j v k' i' j' = N k' i' j' := if_neg (fun q => h q.2.1)
theorem upN_j {N : Nm} {k i j k' i' j' : Nat} {v : Int} (h : j' ≠ j) : upN N k i j v k' i' j' = N k' i' j' := if_neg (fun q => h q.2.2)
theorem hcell_at {K : Kx} {g : Ge} {N N' : Nm} {ad : Nat → Nat → Nat} {k i : Nat} {H H' : Heap} (h : hcell K g N ad k i H) (hq : H'[ad k i]? = H[ad k i]?) (hN : ∀ j, N' k i j = N k i j) : hcell K g N' ad k i H' := by
  unfold hcell at h ⊢
  split at h
  · obtain ⟨q, h1, h2⟩ := h
    refine ⟨q, h1, (h2.kept hq).to (fun j _ => ?_)⟩
    simp only [fv, hN]
  · simp only [hN, hq]; exact h
  · simp only [hN, hq]; exact h
  · rw [hq]; exact h
  · exact h
theorem Hold.upd {K : Kx} {g : Ge} {N : Nm} {ad : Nat → Nat → Nat} {k i j : Nat} {v : Int} {H H' : Heap} (h : Hold K g N ad H) (hi : i < cnt k) (hs : hcell K g (upN N k i j v) ad k i H') (ho : ∀ q, q ≠ ad k i → H'[q]? = H[q]?) : Hold K g (upN N k i j v) ad H' := by
  refine ⟨h.1, fun k' i' hi' => ⟨(h.2.1 k' i' hi').1, ?_⟩, h.2.2⟩
  by_cases e : k' = k ∧ i' = i
  · obtain ⟨rfl, rfl⟩ := e
    exact hs
  · refine hcell_at (h.2.1 k' i' hi').2 (ho _ (fun q => e (h.2.2 k' i' k i hi' hi q))) (fun j' => if_neg (fun q => e ⟨q.1, q.2.1⟩))
def pot (g : Ge) : Nat := (16384 - g.2.2 0) + (16384 - g.2.2 1) + (16384 - g.2.2 2) + (16384 - g.2.2 3) + (16384 - g.2.2 4) + (16384 - g.2.2 5) + (16384 - g.2.2 6) + (16384 - g.2.2 7)
def Agr (ad0 ad : Nat → Nat → Nat) : Prop := ∀ k i, i < cnt k → mov k = false → ad k i = ad0 k i
theorem Agr.rf (ad : Nat → Nat → Nat) : Agr ad ad := fun _ _ _ _ => rfl
theorem Agr.tr {a b c : Nat → Nat → Nat} (h1 : Agr a b) (h2 : Agr b c) : Agr a c := fun k i hi hm => (h2 k i hi hm).trans (h1 k i hi hm)
theorem cv_agr {a b : Nat → Nat → Nat} (h : Agr a b) {v : AV} (ho : okv v) (hm : nmo v = true) : cv b v = cv a v := by
  rcases v with z | z | ⟨k, i⟩ | x | x
  · rfl
  · rfl
  · show Value.ref (b k i) = Value.ref (a k i)
    have : mov k = false := by simpa [nmo] using hm
    rw [h k i ho this]
  · rfl
  · rfl
theorem map_agr {a b : Nat → Nat → Nat} (h : Agr a b) : ∀ {st : List AV}, oks st → st.all nmo = true → st.map (cv b) = st.map (cv a)
  | [], _, _ => rfl
  | v :: st, ho, hm => by
    simp only [List.all_cons, Bool.and_eq_true] at hm
    rw [List.map_cons, List.map_cons, cv_agr h (oks_hd ho) hm.1, map_agr h (oks_tl ho) hm.2]
theorem lvs_agr {a b : Nat → Nat → Nat} (h : Agr a b) : ∀ {ls : List (Option AV)} (n : Nat), okl ls → ls.all nml = true → lvs b n ls = lvs a n ls
  | [], _, _, _ => rfl
  | none :: t, n, ho, hm => by
    simp only [List.all_cons, Bool.and_eq_true] at hm
    rw [lvs, lvs, lvs_agr h (n + 1) (fun v hv => ho v (List.mem_cons_of_mem _ hv)) hm.2]
  | some v :: t, n, ho, hm => by
    simp only [List.all_cons, Bool.and_eq_true] at hm
    rw [lvs, lvs, lvs_agr h (n + 1) (fun v hv => ho v (List.mem_cons_of_mem _ hv)) hm.2, cv_agr h (ho v List.mem_cons_self) hm.1]
/-! the end of a method, a method, a place of a walk -/
abbrev Qt : Type := Option AV → Nm → Ge → Prop
def okr (r : Option AV) : Prop := ∀ v, r = some v → okv v
def QK (K : Kx) (Q : Qt) (ad0 : Nat → Nat → Nat) (g0 : Ge) (st : State) (o : Outcome) (t : State) (k n : Nat) : Prop :=
  ∃ (r : Option AV) (N' : Nm) (g' : Ge) (ad' : Nat → Nat → Nat), o = .returned (r.map (cv ad')) ∧ Q r N' g' ∧ Hold K g' N' ad' t.heap ∧ Agr ad0 ad' ∧ okr r ∧ st.heap.size ≤ t.heap.size ∧ (∀ q, q < K.2.1 → t.heap[q]? = st.heap[q]?) ∧ k + pot g' ≤ pot g0 ∧ n + 6 * pot g' ≤ 6 * pot g0
def rmK (h : Nat) (g : Ge) : Room := { frames := h, cells := pot g, slots := 6 * pot g, locals := 64 * h }
def CkPre (K : Kx) (N : Nm) (g : Ge) (ad : Nat → Nat → Nat) (as : List AV) : Array Value → State → Prop := fun a U => a = (as.map (cv ad)).toArray ∧ KK K U ∧ Hold K g N ad U.heap ∧ K.2.1 ≤ U.heap.size
def CkPost (K : Kx) (Q : Qt) (g : Ge) (ad : Nat → Nat → Nat) : Array Value → State → Outcome → State → Prop := fun _ st o t => ∃ (L : List Loc) (k n : Nat), FrameEnd st o t L k n ∧ (∀ q ∈ L, K.2.1 ≤ q.base) ∧ QK K Q ad g st o t k n
abbrev wsY (Y : Ys) : List Cond := .code Y.1 Y.2.1 Y.2.2.1 Y.2.2.2 :: TW
/-- a call of Y with these arguments from this state comes back with Q -/
def Ck (K : Kx) (Y : Ys) (h : Nat) (as : List AV) (N : Nm) (g : Ge) (Q : Qt) : Prop := oks as → ∀ ad : Nat → Nat → Nat, MetFree K.1 Y.1 (headSpec (wsY Y) (rmK h g)) (CkPre K N g ad as) (fun _ _ _ _ _ => True) (CkPost K Q g ad)
def Cx (K : Kx) (Y : Ys) (h : Nat) (p : Program) (R : Room) (s : State) (m : MethodId) (args : Array Value) (meth : Method) (c : Code) (g0 : Ge) : Prop :=
  p.tables.exec = Jvm.exec ∧ c.code = Y.2.1 ∧ c.maxLocals = Y.2.2.1 ∧ s.vm.findClass Y.1.cls = some m.cls ∧ (∀ w ∈ TW, w.before args s = true) ∧ meth.locks = false ∧ meth.sig.returnType = Y.2.2.2 ∧ KK K s ∧ h ≤ R.frames ∧ 64 * h ≤ R.locals ∧ R.cells = pot g0 ∧ R.slots = 6 * pot g0
def RQ (K : Kx) (Q : Qt) (below : List Frame) (s : State) (ad0 : Nat → Nat → Nat) (g0 : Ge) : State → Prop := fun t =>
  ∃ o, t.status = .running ∧ Ended t below o ∧ ∃ (L : List Loc) (k n : Nat), FrameEnd s o t L k n ∧ (∀ q ∈ L, K.2.1 ≤ q.base) ∧ QK K Q ad0 g0 s o t k n
/-- what is known where a walk stands -/
def Px (K : Kx) (s : State) (ad0 : Nat → Nat → Nat) (g0 : Ge) (N : Nm) (g : Ge) (ad : Nat → Nat → Nat) (H : Heap) (locs : List Loc) (cells slots : Nat) : Prop :=
  Hold K g N ad H ∧ Agr ad0 ad ∧ (∀ z ∈ locs, K.2.1 ≤ z.base) ∧ s.heap.size ≤ H.size ∧ (∀ q, q < K.2.1 → H[q]? = s.heap[q]?) ∧ cells + pot g ≤ pot g0 ∧ slots + 6 * pot g ≤ 6 * pot g0 ∧ K.2.1 ≤ s.heap.size
/-- from this place of Y, with these locals and this stack, in this state: Y comes to its end with Q -/
def AW (K : Kx) (Y : Ys) (h : Nat) (Q : Qt) (pc : Nat) (ls : List (Option AV)) (st : List AV) (N : Nm) (g : Ge) : Prop :=
  ∀ (p : Program) (e : Env) (R : Room) (s : State) (m : MethodId) (args : Array Value) (below : List Frame) (meth : Method) (c : Code) (ad0 : Nat → Nat → Nat) (g0 : Ge),
    Cx K Y h p R s m args meth c g0 → ∀ (H : Heap) (locs : List Loc) (cells slots : Nat) (ad : Nat → Nat → Nat) (L : Array Slot),
      Px K s ad0 g0 N g ad H locs cells slots → lv_has L Y.2.2.1 (lvs ad 0 ls) → okl ls → oks st →
      W p K.1 e R s m args below meth c H locs cells slots (RQ K Q below s ad0 g0) (F0 m pc L (st.map (cv ad)))
theorem AW.pure {K : Kx} {Y : Ys} {h : Nat} {Q : Qt} {pc pc' : Nat} {ls ls' : List (Option AV)} {st st' : List AV} {N : Nm} {g : Ge} (kk : AW K Y h Q pc' ls' st' N g) (hok : okl ls → oks st → okl ls' ∧ oks st')
    (f : ∀ (p : Program) (l : Launch) (e : Env) (R : Room) (s : State) (m : MethodId) (args : Array Value) (below : List Frame) (meth : Method) (c : Code) (H : Heap) (locs : List Loc) (cells slots : Nat) (Qs : State → Prop) (ad : Nat → Nat → Nat) (L : Array Slot),
      p.tables.exec = Jvm.exec → c.code = Y.2.1 → s.vm.findClass Y.1.cls = some m.cls → (∀ w ∈ TW, w.before args s = true) → lv_has L Y.2.2.1 (lvs ad 0 ls) →
      (∀ L' : Array Slot, lv_has L' Y.2.2.1 (lvs ad 0 ls') → W p l e R s m args below meth c H locs cells slots Qs (F0 m pc' L' (st'.map (cv ad)))) →
      W p l e R s m args below meth c H locs cells slots Qs (F0 m pc L (st.map (cv ad)))) : AW K Y h Q pc ls st N g := by
  intro p e R s m args below meth c ad0 g0 C H locs cells slots ad L hP hL hl hs
  obtain ⟨h1, h2⟩ := hok hl hs
  exact f p K.1 e R s m args below meth c H locs cells slots _ ad L C.1 C.2.1 C.2.2.2.1 C.2.2.2.2.1 hL (fun L' hL' => kk p e R s m args below meth c ad0 g0 C H locs cells slots ad L' hP hL' h1 h2)
/-- the same numbers and places, told otherwise -/
theorem AW.eq {K : Kx} {Y : Ys} {h : Nat} {Q : Qt} {pc pc' : Nat} {ls ls' : List (Option AV)} {st st' : List AV} {N N' : Nm} {g g' : Ge} (e1 : pc = pc') (e2 : ls = ls') (e3 : st = st') (e4 : N = N') (e5 : g = g') (kk : AW K Y h Q pc' ls' st' N' g') : AW K Y h Q pc ls st N g := by
  subst e1; subst e2; subst e3; subst e4; subst e5; exact kk
theorem AW.post {K : Kx} {Y : Ys} {h : Nat} {Q Q' : Qt} {pc : Nat} {ls : List (Option AV)} {st : List AV} {N : Nm} {g : Ge} (hq : ∀ r N' g', Q r N' g' → Q' r N' g') (kk : AW K Y h Q pc ls st N g) : AW K Y h Q' pc ls st N g := by
  intro p e R s m args below meth c ad0 g0 C H locs cells slots ad L hP hL hl hs T hT X
  obtain ⟨t, a, o, b1, b2, L', k, n, b3, b4, r, N', g', ad', c1, c2, c3⟩ := kk p e R s m args below meth c ad0 g0 C H locs cells slots ad L hP hL hl hs T hT X
  exact ⟨t, a, o, b1, b2, L', k, n, b3, b4, r, N', g', ad', c1, hq _ _ _ c2, c3⟩
theorem Ck.post {K : Kx} {Y : Ys} {h : Nat} {as : List AV} {N : Nm} {g : Ge} {Q Q' : Qt} (hq : ∀ r N' g', Q r N' g' → Q' r N' g') (kk : Ck K Y h as N g Q) : Ck K Y h as N g Q' := by
  intro ho ad p e ha hc hk s m args below hf happ hP hK
  obtain ⟨n, o, h1, h2, h3, L, k, n', b3, b4, r, N', g', ad', c1, c2, c3⟩ := kk ho ad p e ha hc hk s m args below hf happ hP hK
  exact ⟨n, o, h1, h2, h3, L, k, n', b3, b4, r, N', g', ad', c1, hq _ _ _ c2, c3⟩
end
section
/-! own text: the rows of the logic, an instruction each -/
abbrev rI (z : Int) : Prop := -2147483648 ≤ z ∧ z ≤ 2147483647
abbrev rL (z : Int) : Prop := -9223372036854775808 ≤ z ∧ z ≤ 9223372036854775807
theorem toI {z : Int} (h : rI z) : (Int32.ofInt z).toInt = z := by
  have h1 := h.1
  have h2 := h.2
  rw [Int32.toInt_ofInt]
  have : (z.bmod (2 ^ 32)) = z := by
    rw [Int.bmod_def]
    omega
  exact this
theorem toL {z : Int} (h : rL z) : (Int64.ofInt z).toInt = z := by
  have h1 := h.1
  have h2 := h.2
  rw [Int64.toInt_ofInt]
  have : (z.bmod (2 ^ 64)) = z := by
    rw [Int.bmod_def]
    omega
  exact this
theorem ofI (x : Int32) : Int32.ofInt x.toInt = x := Int32.ofInt_toInt x
theorem ofL (x : Int64) : Int64.ofInt x.toInt = x := Int64.ofInt_toInt x
theorem rI_of (x : Int32) : rI x.toInt := ⟨by have := Int32.le_toInt x; omega, by have := Int32.toInt_lt x; omega⟩
theorem rL_of (x : Int64) : rL x.toInt := ⟨by have := Int64.le_toInt x; omega, by have := Int64.toInt_lt x; omega⟩
theorem eqI {a b : Int} (ha : rI a) (hb : rI b) : Int32.ofInt a = Int32.ofInt b ↔ a = b := ⟨fun h => by rw [← toI ha, ← toI hb, h], fun h => by rw [h]⟩
theorem eqL {a b : Int} (ha : rL a) (hb : rL b) : Int64.ofInt a = Int64.ofInt b ↔ a = b := ⟨fun h => by rw [← toL ha, ← toL hb, h], fun h => by rw [h]⟩
theorem ltI {a b : Int} (ha : rI a) (hb : rI b) : Int32.ofInt a < Int32.ofInt b ↔ a < b := by rw [Int32.lt_iff_toInt_lt, toI ha, toI hb]
theorem leI {a b : Int} (ha : rI a) (hb : rI b) : Int32.ofInt a ≤ Int32.ofInt b ↔ a ≤ b := by rw [Int32.le_iff_toInt_le, toI ha, toI hb]
theorem ltL {a b : Int} (ha : rL a) (hb : rL b) : Int64.ofInt a < Int64.ofInt b ↔ a < b := by rw [Int64.lt_iff_toInt_lt, toL ha, toL hb]
theorem leL {a b : Int} (ha : rL a) (hb : rL b) : Int64.ofInt a ≤ Int64.ofInt b ↔ a ≤ b := by rw [Int64.le_iff_toInt_le, toL ha, toL hb]
theorem rI0 : rI 0 := ⟨by omega, by omega⟩
theorem rL0 : rL 0 := ⟨by omega, by omega⟩
theorem zI : (0 : Int32) = Int32.ofInt 0 := rfl
section Rows
variable {K : Kx} {Y : Ys} {h : Nat} {Q : Qt} {pc pc' pc1 tg : Nat} {ls : List (Option AV)} {st : List AV} {N : Nm} {g : Ge}
/-! constants -/
theorem r_iconst {v : Int} (hat : At Y pc (.iconst v) 1 pc') (kk : AW K Y h Q pc' ls (vi v :: st) N g) : AW K Y h Q pc ls st N g := by
  obtain ⟨d, rfl⟩ := hat
  exact AW.pure kk (fun h1 h2 => ⟨h1, oks_cons trivial h2⟩) (fun p l e R s m args below meth c H locs cells slots Qs ad L hx hb _ _ hL k => lv_iconst hx hb d rfl (k L hL))
theorem r_bipush {v : Int} (hz : (Int8.ofInt v).toInt32 = Int32.ofInt v) (hat : At Y pc (.bipush v) 2 pc') (kk : AW K Y h Q pc' ls (vi v :: st) N g) : AW K Y h Q pc ls st N g := by
  obtain ⟨d, rfl⟩ := hat
  exact AW.pure kk (fun h1 h2 => ⟨h1, oks_cons trivial h2⟩) (fun p l e R s m args below meth c H locs cells slots Qs ad L hx hb _ _ hL k => lv_bipush hx hb d hz (k L hL))
theorem r_sipush {v : Int} (hz : (Int16.ofInt v).toInt32 = Int32.ofInt v) (hat : At Y pc (.sipush v) 3 pc') (kk : AW K Y h Q pc' ls (vi v :: st) N g) : AW K Y h Q pc ls st N g := by
  obtain ⟨d, rfl⟩ := hat
  exact AW.pure kk (fun h1 h2 => ⟨h1, oks_cons trivial h2⟩) (fun p l e R s m args below meth c H locs cells slots Qs ad L hx hb _ _ hL k => lv_sipush hx hb d hz (k L hL))
theorem r_lconst {n : Fin 2} {v : Int} (hv : Int64.ofNat (n : Nat) = Int64.ofInt v) (hat : At Y pc (.lconst n) 1 pc') (kk : AW K Y h Q pc' ls (vl v :: st) N g) : AW K Y h Q pc ls st N g := by
  obtain ⟨d, rfl⟩ := hat
  exact AW.pure kk (fun h1 h2 => ⟨h1, oks_cons trivial h2⟩) (fun p l e R s m args below meth c H locs cells slots Qs ad L hx hb _ _ hL k => lv_lconst hx hb d hv (k L hL))
theorem r_ldc {idx : Nat} {v : Int32} {z : Int} (hc : Cond.constant Y.1.cls idx v ∈ TW) (hz : Int32.ofInt z = v) (hat : At Y pc (.ldc idx) 2 pc') (kk : AW K Y h Q pc' ls (vi z :: st) N g) : AW K Y h Q pc ls st N g := by
  obtain ⟨d, rfl⟩ := hat
  subst hz
  exact AW.pure kk (fun h1 h2 => ⟨h1, oks_cons trivial h2⟩) (fun p l e R s m args below meth c H locs cells slots Qs ad L hx hb ho hts hL k => lv_ldc hx hb ho (hts _ hc) d (k L hL))
theorem r_ldcw {idx : Nat} {v : Int32} {z : Int} (hc : Cond.constant Y.1.cls idx v ∈ TW) (hz : Int32.ofInt z = v) (hat : At Y pc (.ldc_w idx) 3 pc') (kk : AW K Y h Q pc' ls (vi z :: st) N g) : AW K Y h Q pc ls st N g := by
  obtain ⟨d, rfl⟩ := hat
  subst hz
  exact AW.pure kk (fun h1 h2 => ⟨h1, oks_cons trivial h2⟩) (fun p l e R s m args below meth c H locs cells slots Qs ad L hx hb ho hts hL k => lv_ldcw hx hb ho (hts _ hc) d (k L hL))
theorem r_ldc2 {idx : Nat} {v : Int64} {z : Int} (hc : Cond.constantLong Y.1.cls idx v ∈ TW) (hz : Int64.ofInt z = v) (hat : At Y pc (.ldc2_w idx) 3 pc') (kk : AW K Y h Q pc' ls (vl z :: st) N g) : AW K Y h Q pc ls st N g := by
  obtain ⟨d, rfl⟩ := hat
  subst hz
  exact AW.pure kk (fun h1 h2 => ⟨h1, oks_cons trivial h2⟩) (fun p l e R s m args below meth c H locs cells slots Qs ad L hx hb ho hts hL k => lv_ldc2 hx hb ho (hts _ hc) d (k L hL))
theorem r_ldc2d {idx : Nat} {v : UInt64} (hc : Cond.constantDouble Y.1.cls idx v ∈ TW) (hat : At Y pc (.ldc2_w idx) 3 pc') (kk : AW K Y h Q pc' ls (vd v :: st) N g) : AW K Y h Q pc ls st N g := by
  obtain ⟨d, rfl⟩ := hat
  exact AW.pure kk (fun h1 h2 => ⟨h1, oks_cons trivial h2⟩) (fun p l e R s m args below meth c H locs cells slots Qs ad L hx hb ho hts hL k => lv_ldc2d hx hb ho (hts _ hc) d (k L hL))
theorem r_ldcf {idx : Nat} {v : UInt32} (hc : Cond.constantFloat Y.1.cls idx v ∈ TW) (hat : At Y pc (.ldc idx) 2 pc') (kk : AW K Y h Q pc' ls (vf v :: st) N g) : AW K Y h Q pc ls st N g := by
  obtain ⟨d, rfl⟩ := hat
  exact AW.pure kk (fun h1 h2 => ⟨h1, oks_cons trivial h2⟩) (fun p l e R s m args below meth c H locs cells slots Qs ad L hx hb ho hts hL k => lv_ldcf hx hb ho (hts _ hc) d (k L hL))
/-! locals -/
theorem okl_at {i : Nat} {v : AV} (h1 : okl ls) (hi : ls[i]? = some (some v)) : okv v := h1 v (List.mem_of_getElem? hi)
theorem g_ild {i : Nat} {z : Int} {ins : Instr} {n : Nat} (hins : (ins = .iload i ∧ n = 2) ∨ ∃ k : Fin 4, ins = .iload_n k ∧ (k : Nat) = i ∧ n = 1) (hat : At Y pc ins n pc') (hi : ls[i]? = some (some (vi z))) (kk : AW K Y h Q pc' ls (vi z :: st) N g) : AW K Y h Q pc ls st N g := by
  obtain ⟨d, rfl⟩ := hat
  refine AW.pure kk (fun h1 h2 => ⟨h1, oks_cons trivial h2⟩) (fun p l e R s m args below meth c H locs cells slots Qs ad L hx hb _ _ hL k => ?_)
  rcases hins with ⟨rfl, rfl⟩ | ⟨q, rfl, e, rfl⟩
  · exact lv_iload hx hb d (lvs_at hL hi) (k L hL)
  · exact lv_iload_n hx hb d e (lvs_at hL hi) (k L hL)
theorem g_lld {i : Nat} {z : Int} {ins : Instr} {n : Nat} (hins : (ins = .lload i ∧ n = 2) ∨ ∃ k : Fin 4, ins = .lload_n k ∧ (k : Nat) = i ∧ n = 1) (hat : At Y pc ins n pc') (hi : ls[i]? = some (some (vl z))) (kk : AW K Y h Q pc' ls (vl z :: st) N g) : AW K Y h Q pc ls st N g := by
  obtain ⟨d, rfl⟩ := hat
  refine AW.pure kk (fun h1 h2 => ⟨h1, oks_cons trivial h2⟩) (fun p l e R s m args below meth c H locs cells slots Qs ad L hx hb _ _ hL k => ?_)
  rcases hins with ⟨rfl, rfl⟩ | ⟨q, rfl, e, rfl⟩
  · exact lv_lload hx hb d (lvs_at hL hi) (k L hL)
  · exact lv_lload_n hx hb d e (lvs_at hL hi) (k L hL)
theorem g_ald {i k0 i0 : Nat} {ins : Instr} {n : Nat} (hins : (ins = .aload i ∧ n = 2) ∨ ∃ k : Fin 4, ins = .aload_n k ∧ (k : Nat) = i ∧ n = 1) (hat : At Y pc ins n pc') (hi : ls[i]? = some (some (vr k0 i0))) (kk : AW K Y h Q pc' ls (vr k0 i0 :: st) N g) : AW K Y h Q pc ls st N g := by
  obtain ⟨d, rfl⟩ := hat
  refine AW.pure kk (fun h1 h2 => ⟨h1, oks_cons (okl_at h1 hi) h2⟩) (fun p l e R s m args below meth c H locs cells slots Qs ad L hx hb _ _ hL k => ?_)
  rcases hins with ⟨rfl, rfl⟩ | ⟨q, rfl, e, rfl⟩
  · exact lv_aload hx hb d (lvs_at hL hi) (k L hL)
  · exact lv_aload_n hx hb d e (lvs_at hL hi) (k L hL)
theorem g_dld {i : Nat} {z : UInt64} {ins : Instr} {n : Nat} (hins : (ins = .dload i ∧ n = 2) ∨ ∃ k : Fin 4, ins = .dload_n k ∧ (k : Nat) = i ∧ n = 1) (hat : At Y pc ins n pc') (hi : ls[i]? = some (some (vd z))) (kk : AW K Y h Q pc' ls (vd z :: st) N g) : AW K Y h Q pc ls st N g := by
  obtain ⟨d, rfl⟩ := hat
  refine AW.pure kk (fun h1 h2 => ⟨h1, oks_cons trivial h2⟩) (fun p l e R s m args below meth c H locs cells slots Qs ad L hx hb _ _ hL k => ?_)
  rcases hins with ⟨rfl, rfl⟩ | ⟨q, rfl, e, rfl⟩
  · exact lv_dload hx hb d (lvs_at hL hi) (k L hL)
  · exact lv_dload_n hx hb d e (lvs_at hL hi) (k L hL)
theorem g_fld {i : Nat} {z : UInt32} {ins : Instr} {n : Nat} (hins : (ins = .fload i ∧ n = 2) ∨ ∃ k : Fin 4, ins = .fload_n k ∧ (k : Nat) = i ∧ n = 1) (hat : At Y pc ins n pc') (hi : ls[i]? = some (some (vf z))) (kk : AW K Y h Q pc' ls (vf z :: st) N g) : AW K Y h Q pc ls st N g := by
  obtain ⟨d, rfl⟩ := hat
  refine AW.pure kk (fun h1 h2 => ⟨h1, oks_cons trivial h2⟩) (fun p l e R s m args below meth c H locs cells slots Qs ad L hx hb _ _ hL k => ?_)
  rcases hins with ⟨rfl, rfl⟩ | ⟨q, rfl, e, rfl⟩
  · exact lv_fload hx hb d (lvs_at hL hi) (k L hL)
  · exact lv_fload_n hx hb d e (lvs_at hL hi) (k L hL)
/-- fewer locals are known: a place is forgotten -/
def fgt (ls ls' : List (Option AV)) : Prop := ∀ (i : Nat) (v : AV), ls'[i]? = some (some v) → ls[i]? = some (some v)
theorem AW.forget {ls' : List (Option AV)} (hf : fgt ls ls') (kk : AW K Y h Q pc ls' st N g) : AW K Y h Q pc ls st N g := by
  intro p e R s m args below meth c ad0 g0 C H locs cells slots ad L hP hL hl hs
  refine kk p e R s m args below meth c ad0 g0 C H locs cells slots ad L hP ⟨hL.1, hL.2.1, fun q hq => ?_⟩ (fun v hv => ?_) hs
  · obtain ⟨i, v, h1, rfl⟩ := (lvs_in ad ls' 0 q).mp hq
    exact hL.2.2 _ ((lvs_in ad ls 0 _).mpr ⟨i, v, hf i v h1, rfl⟩)
  · obtain ⟨i, hi⟩ := List.getElem?_of_mem hv
    exact hl v (List.mem_of_getElem? (hf i v hi))
/-- what stands just ahead of a place that is written is no first half -/
def c1 (v : Option AV) : Bool := match v with
  | none => true
  | some w => cat w == 1
def st1 (ls : List (Option AV)) (i : Nat) (v : AV) (ls' : List (Option AV)) : Prop := i < ls.length ∧ ls' = ls.set i (some v) ∧ (∀ j, j + 1 = i → ∀ w, ls[j]? = some (some w) → cat w = 1)
def st2 (ls : List (Option AV)) (i : Nat) (v : AV) (ls' : List (Option AV)) : Prop := i + 1 < ls.length ∧ ls' = (ls.set i (some v)).set (i + 1) none ∧ (∀ j, j + 1 = i → ∀ w, ls[j]? = some (some w) → cat w = 1)
theorem lvs_st1 {ad : Nat → Nat → Nat} {ls' : List (Option AV)} {L : Array Slot} {nL i : Nat} {v : AV} (hs : st1 ls i v ls') (h : lv_has L nL ((i, cv ad v) :: (lvs ad 0 ls).filter (fun q => !(q.1 == i) && !(q.1 + 1 == i && q.2.category == 2)))) : lv_has L nL (lvs ad 0 ls') := by
  obtain ⟨hl, rfl, hp⟩ := hs
  refine ⟨h.1, h.2.1, fun q hq => ?_⟩
  obtain ⟨j, w, hj, rfl⟩ := (lvs_in ad _ 0 q).mp hq
  rw [Nat.zero_add]
  by_cases e : j = i
  · subst e
    rw [List.getElem?_set_self hl] at hj
    simp at hj
    subst hj
    exact h.2.2 (j, cv ad v) List.mem_cons_self
  · rw [List.getElem?_set_ne (Ne.symm e)] at hj
    refine h.2.2 (j, cv ad w) (List.mem_cons_of_mem _ (List.mem_filter.mpr ⟨(lvs_in ad ls 0 _).mpr ⟨j, w, hj, by rw [Nat.zero_add]⟩, ?_⟩))
    simp only [Bool.and_eq_true, Bool.not_eq_true', beq_eq_false_iff_ne, ne_eq, Bool.and_eq_false_imp, beq_iff_eq]
    refine ⟨e, fun q => ?_⟩
    rw [cv_cat, hp j q w hj]
    decide
theorem lvs_st2 {ad : Nat → Nat → Nat} {ls' : List (Option AV)} {L : Array Slot} {nL i : Nat} {v : AV} (hs : st2 ls i v ls') (h : lv_has L nL ((i, cv ad v) :: (lvs ad 0 ls).filter (fun q => !(q.1 == i) && (!(q.1 == i + 1) && !(q.1 + 1 == i && q.2.category == 2))))) : lv_has L nL (lvs ad 0 ls') := by
  obtain ⟨hl, rfl, hp⟩ := hs
  refine ⟨h.1, h.2.1, fun q hq => ?_⟩
  obtain ⟨j, w, hj, rfl⟩ := (lvs_in ad _ 0 q).mp hq
  rw [Nat.zero_add]
  by_cases e2 : j = i + 1
  · subst e2
    rw [List.getElem?_set_self (by simpa using hl)] at hj
    simp at hj
  rw [List.getElem?_set_ne (Ne.symm e2)] at hj
  by_cases e : j = i
  · subst e
    rw [List.getElem?_set_self (by omega)] at hj
    simp at hj
    subst hj
    exact h.2.2 (j, cv ad v) List.mem_cons_self
  · rw [List.getElem?_set_ne (Ne.symm e)] at hj
    refine h.2.2 (j, cv ad w) (List.mem_cons_of_mem _ (List.mem_filter.mpr ⟨(lvs_in ad ls 0 _).mpr ⟨j, w, hj, by rw [Nat.zero_add]⟩, ?_⟩))
    simp only [Bool.and_eq_true, Bool.not_eq_true', beq_eq_false_iff_ne, ne_eq, Bool.and_eq_false_imp, beq_iff_eq]
    refine ⟨e, e2, fun q => ?_⟩
    rw [cv_cat, hp j q w hj]
    decide
theorem okl_st1 {ls' : List (Option AV)} {i : Nat} {v : AV} (hs : st1 ls i v ls') (h1 : okl ls) (h2 : okv v) : okl ls' := by
  obtain ⟨hl, rfl, -⟩ := hs
  intro w hw
  rcases List.mem_or_eq_of_mem_set hw with h | h
  · exact h1 w h
  · cases h; exact h2
theorem okl_st2 {ls' : List (Option AV)} {i : Nat} {v : AV} (hs : st2 ls i v ls') (h1 : okl ls) (h2 : okv v) : okl ls' := by
  obtain ⟨hl, rfl, -⟩ := hs
  intro w hw
  rcases List.mem_or_eq_of_mem_set hw with h | h
  · rcases List.mem_or_eq_of_mem_set h with h | h
    · exact h1 w h
    · cases h; exact h2
  · cases h
theorem g_ist {ls' : List (Option AV)} {i : Nat} {z : Int} {ins : Instr} {n : Nat} (hn : i < Y.2.2.1) (hins : (ins = .istore i ∧ n = 2) ∨ ∃ k : Fin 4, ins = .istore_n k ∧ (k : Nat) = i ∧ n = 1) (hat : At Y pc ins n pc') (hs : st1 ls i (vi z) ls') (kk : AW K Y h Q pc' ls' st N g) : AW K Y h Q pc ls (vi z :: st) N g := by
  obtain ⟨d, rfl⟩ := hat
  refine AW.pure kk (fun h1 h2 => ⟨okl_st1 hs h1 trivial, oks_tl h2⟩) (fun p l e R s m args below meth c H locs cells slots Qs ad L hx hb _ _ hL k => ?_)
  rcases hins with ⟨rfl, rfl⟩ | ⟨q, rfl, e, rfl⟩
  · exact lv_istore hx hb d hL hn rfl (fun L' hL' => k L' (lvs_st1 (v := vi z) hs hL'))
  · exact lv_istore_n hx hb d e hL hn rfl (fun L' hL' => k L' (lvs_st1 (v := vi z) hs hL'))
theorem g_lst {ls' : List (Option AV)} {i : Nat} {z : Int} {ins : Instr} {n : Nat} (hn : i + 1 < Y.2.2.1) (hins : (ins = .lstore i ∧ n = 2) ∨ ∃ k : Fin 4, ins = .lstore_n k ∧ (k : Nat) = i ∧ n = 1) (hat : At Y pc ins n pc') (hs : st2 ls i (vl z) ls') (kk : AW K Y h Q pc' ls' st N g) : AW K Y h Q pc ls (vl z :: st) N g := by
  obtain ⟨d, rfl⟩ := hat
  refine AW.pure kk (fun h1 h2 => ⟨okl_st2 hs h1 trivial, oks_tl h2⟩) (fun p l e R s m args below meth c H locs cells slots Qs ad L hx hb _ _ hL k => ?_)
  rcases hins with ⟨rfl, rfl⟩ | ⟨q, rfl, e, rfl⟩
  · exact lv_lstore hx hb d hL hn rfl (fun L' hL' => k L' (lvs_st2 (v := vl z) hs hL'))
  · exact lv_lstore_n hx hb d e hL hn rfl (fun L' hL' => k L' (lvs_st2 (v := vl z) hs hL'))
theorem g_ast {ls' : List (Option AV)} {i k0 i0 : Nat} {ins : Instr} {n : Nat} (hn : i < Y.2.2.1) (hins : (ins = .astore i ∧ n = 2) ∨ ∃ k : Fin 4, ins = .astore_n k ∧ (k : Nat) = i ∧ n = 1) (hat : At Y pc ins n pc') (hs : st1 ls i (vr k0 i0) ls') (kk : AW K Y h Q pc' ls' st N g) : AW K Y h Q pc ls (vr k0 i0 :: st) N g := by
  obtain ⟨d, rfl⟩ := hat
  refine AW.pure kk (fun h1 h2 => ⟨okl_st1 hs h1 (oks_hd h2), oks_tl h2⟩) (fun p l e R s m args below meth c H locs cells slots Qs ad L hx hb _ _ hL k => ?_)
  rcases hins with ⟨rfl, rfl⟩ | ⟨q, rfl, e, rfl⟩
  · exact lv_astore hx hb d hL hn rfl (fun L' hL' => k L' (lvs_st1 (v := vr k0 i0) hs hL'))
  · exact lv_astore_n hx hb d e hL hn rfl (fun L' hL' => k L' (lvs_st1 (v := vr k0 i0) hs hL'))
theorem g_dst {ls' : List (Option AV)} {i : Nat} {z : UInt64} {ins : Instr} {n : Nat} (hn : i + 1 < Y.2.2.1) (hins : (ins = .dstore i ∧ n = 2) ∨ ∃ k : Fin 4, ins = .dstore_n k ∧ (k : Nat) = i ∧ n = 1) (hat : At Y pc ins n pc') (hs : st2 ls i (vd z) ls') (kk : AW K Y h Q pc' ls' st N g) : AW K Y h Q pc ls (vd z :: st) N g := by
  obtain ⟨d, rfl⟩ := hat
  refine AW.pure kk (fun h1 h2 => ⟨okl_st2 hs h1 trivial, oks_tl h2⟩) (fun p l e R s m args below meth c H locs cells slots Qs ad L hx hb _ _ hL k => ?_)
  rcases hins with ⟨rfl, rfl⟩ | ⟨q, rfl, e, rfl⟩
  · exact lv_dstore hx hb d hL hn rfl (fun L' hL' => k L' (lvs_st2 (v := vd z) hs hL'))
  · exact lv_dstore_n hx hb d e hL hn rfl (fun L' hL' => k L' (lvs_st2 (v := vd z) hs hL'))
theorem g_iinc {ls' : List (Option AV)} {i : Nat} {z w : Int} (hn : i < Y.2.2.1) (hat : At Y pc (.iinc i w) 3 pc') (hi : ls[i]? = some (some (vi z))) (hs : st1 ls i (vi (z + w)) ls') (kk : AW K Y h Q pc' ls' st N g) : AW K Y h Q pc ls st N g := by
  obtain ⟨d, rfl⟩ := hat
  refine AW.pure kk (fun h1 h2 => ⟨okl_st1 hs h1 trivial, h2⟩) (fun p l e R s m args below meth c H locs cells slots Qs ad L hx hb _ _ hL k => ?_)
  obtain ⟨q, hq⟩ := List.getElem?_of_mem ((lvs_in ad ls 0 (i, cv ad (vi z))).mpr ⟨i, vi z, hi, by rw [Nat.zero_add]⟩)
  exact lv_iinc hx hb d hL hq (v := Int32.ofInt (z + w)) (Int32.ofInt_add z w).symm hn rfl (fun L' hL' => k L' (lvs_st1 (v := vi (z + w)) hs hL'))
end Rows
end
section
/-! own text: arithmetic, stack, jumps -/
section Rows2
variable {K : Kx} {Y : Ys} {h : Nat} {Q : Qt} {pc pc' pc1 tg : Nat} {ls : List (Option AV)} {st : List AV} {N : Nm} {g : Ge}
theorem r_iadd {a b : Int} (hat : At Y pc (.iadd) 1 pc') (kk : AW K Y h Q pc' ls (vi (a + b) :: st) N g) : AW K Y h Q pc ls (vi b :: vi a :: st) N g := by
  obtain ⟨d, rfl⟩ := hat
  refine AW.pure kk (fun h1 h2 => ⟨h1, oks_cons trivial (oks_tl (oks_tl h2))⟩) (fun p l e R s m args below meth c H locs cells slots Qs ad L hx hb _ _ hL k => ?_)
  refine lv_iadd hx hb d  ?_
  rw [← Int32.ofInt_add]
  exact k L hL
theorem r_isub {a b : Int} (hat : At Y pc (.isub) 1 pc') (kk : AW K Y h Q pc' ls (vi (a - b) :: st) N g) : AW K Y h Q pc ls (vi b :: vi a :: st) N g := by
  obtain ⟨d, rfl⟩ := hat
  refine AW.pure kk (fun h1 h2 => ⟨h1, oks_cons trivial (oks_tl (oks_tl h2))⟩) (fun p l e R s m args below meth c H locs cells slots Qs ad L hx hb _ _ hL k => ?_)
  refine lv_isub hx hb d  ?_
  rw [← Int32.ofInt_sub]
  exact k L hL
theorem r_imul {a b : Int} (hat : At Y pc (.imul) 1 pc') (kk : AW K Y h Q pc' ls (vi (a * b) :: st) N g) : AW K Y h Q pc ls (vi b :: vi a :: st) N g := by
  obtain ⟨d, rfl⟩ := hat
  refine AW.pure kk (fun h1 h2 => ⟨h1, oks_cons trivial (oks_tl (oks_tl h2))⟩) (fun p l e R s m args below meth c H locs cells slots Qs ad L hx hb _ _ hL k => ?_)
  refine lv_imul hx hb d  ?_
  rw [← Int32.ofInt_mul]
  exact k L hL
theorem divI {a b : Int} (ha : rI a) (hb : rI b) : Int32.ofInt a / Int32.ofInt b = Int32.ofInt (a.tdiv b) := by
  apply Int32.toInt_inj.mp
  rw [Int32.toInt_div, toI ha, toI hb, Int32.toInt_ofInt]
theorem remI {a b : Int} (ha : rI a) (hb : rI b) : Int32.ofInt a - Int32.ofInt a / Int32.ofInt b * Int32.ofInt b = Int32.ofInt (a.tmod b) := by
  rw [divI ha hb, ← Int32.ofInt_mul, ← Int32.ofInt_sub]
  congr 1
  have := Int.tmod_add_mul_tdiv a b
  rw [Int.mul_comm] at this
  omega
theorem nzI {b : Int} (hb : rI b) (h0 : b ≠ 0) : ¬ Int32.ofInt b = 0 := fun q => h0 ((eqI hb rI0).mp q)
theorem r_idiv {a b : Int} (hra : rI a) (hrb : rI b) (h0 : b ≠ 0) (hat : At Y pc (.idiv) 1 pc') (kk : AW K Y h Q pc' ls (vi (a.tdiv b) :: st) N g) : AW K Y h Q pc ls (vi b :: vi a :: st) N g := by
  obtain ⟨d, rfl⟩ := hat
  refine AW.pure kk (fun h1 h2 => ⟨h1, oks_cons trivial (oks_tl (oks_tl h2))⟩) (fun p l e R s m args below meth c H locs cells slots Qs ad L hx hb _ _ hL k => ?_)
  refine lv_idiv hx hb d (nzI hrb h0) ?_
  rw [divI hra hrb]
  exact k L hL
theorem r_irem {a b : Int} (hra : rI a) (hrb : rI b) (h0 : b ≠ 0) (hat : At Y pc (.irem) 1 pc') (kk : AW K Y h Q pc' ls (vi (a.tmod b) :: st) N g) : AW K Y h Q pc ls (vi b :: vi a :: st) N g := by
  obtain ⟨d, rfl⟩ := hat
  refine AW.pure kk (fun h1 h2 => ⟨h1, oks_cons trivial (oks_tl (oks_tl h2))⟩) (fun p l e R s m args below meth c H locs cells slots Qs ad L hx hb _ _ hL k => ?_)
  refine lv_irem hx hb d (nzI hrb h0) ?_
  rw [remI hra hrb]
  exact k L hL
theorem r_ladd {a b : Int} (hat : At Y pc (.ladd) 1 pc') (kk : AW K Y h Q pc' ls (vl (a + b) :: st) N g) : AW K Y h Q pc ls (vl b :: vl a :: st) N g := by
  obtain ⟨d, rfl⟩ := hat
  refine AW.pure kk (fun h1 h2 => ⟨h1, oks_cons trivial (oks_tl (oks_tl h2))⟩) (fun p l e R s m args below meth c H locs cells slots Qs ad L hx hb _ _ hL k => ?_)
  refine lv_ladd hx hb d  ?_
  rw [← Int64.ofInt_add]
  exact k L hL
theorem r_lsub {a b : Int} (hat : At Y pc (.lsub) 1 pc') (kk : AW K Y h Q pc' ls (vl (a - b) :: st) N g) : AW K Y h Q pc ls (vl b :: vl a :: st) N g := by
  obtain ⟨d, rfl⟩ := hat
  refine AW.pure kk (fun h1 h2 => ⟨h1, oks_cons trivial (oks_tl (oks_tl h2))⟩) (fun p l e R s m args below meth c H locs cells slots Qs ad L hx hb _ _ hL k => ?_)
  refine lv_lsub hx hb d  ?_
  rw [← Int64.ofInt_sub]
  exact k L hL
theorem r_lmul {a b : Int} (hat : At Y pc (.lmul) 1 pc') (kk : AW K Y h Q pc' ls (vl (a * b) :: st) N g) : AW K Y h Q pc ls (vl b :: vl a :: st) N g := by
  obtain ⟨d, rfl⟩ := hat
  refine AW.pure kk (fun h1 h2 => ⟨h1, oks_cons trivial (oks_tl (oks_tl h2))⟩) (fun p l e R s m args below meth c H locs cells slots Qs ad L hx hb _ _ hL k => ?_)
  refine lv_lmul hx hb d  ?_
  rw [← Int64.ofInt_mul]
  exact k L hL
theorem divL {a b : Int} (ha : rL a) (hb : rL b) : Int64.ofInt a / Int64.ofInt b = Int64.ofInt (a.tdiv b) := by
  apply Int64.toInt_inj.mp
  rw [Int64.toInt_div, toL ha, toL hb, Int64.toInt_ofInt]
theorem remL {a b : Int} (ha : rL a) (hb : rL b) : Int64.ofInt a - Int64.ofInt a / Int64.ofInt b * Int64.ofInt b = Int64.ofInt (a.tmod b) := by
  rw [divL ha hb, ← Int64.ofInt_mul, ← Int64.ofInt_sub]
  congr 1
  have := Int.tmod_add_mul_tdiv a b
  rw [Int.mul_comm] at this
  omega
theorem nzL {b : Int} (hb : rL b) (h0 : b ≠ 0) : ¬ Int64.ofInt b = 0 := fun q => h0 ((eqL hb rL0).mp q)
theorem r_ldiv {a b : Int} (hra : rL a) (hrb : rL b) (h0 : b ≠ 0) (hat : At Y pc (.ldiv) 1 pc') (kk : AW K Y h Q pc' ls (vl (a.tdiv b) :: st) N g) : AW K Y h Q pc ls (vl b :: vl a :: st) N g := by
  obtain ⟨d, rfl⟩ := hat
  refine AW.pure kk (fun h1 h2 => ⟨h1, oks_cons trivial (oks_tl (oks_tl h2))⟩) (fun p l e R s m args below meth c H locs cells slots Qs ad L hx hb _ _ hL k => ?_)
  refine lv_ldiv hx hb d (nzL hrb h0) ?_
  rw [divL hra hrb]
  exact k L hL
theorem r_lrem {a b : Int} (hra : rL a) (hrb : rL b) (h0 : b ≠ 0) (hat : At Y pc (.lrem) 1 pc') (kk : AW K Y h Q pc' ls (vl (a.tmod b) :: st) N g) : AW K Y h Q pc ls (vl b :: vl a :: st) N g := by
  obtain ⟨d, rfl⟩ := hat
  refine AW.pure kk (fun h1 h2 => ⟨h1, oks_cons trivial (oks_tl (oks_tl h2))⟩) (fun p l e R s m args below meth c H locs cells slots Qs ad L hx hb _ _ hL k => ?_)
  refine lv_lrem hx hb d (nzL hrb h0) ?_
  rw [remL hra hrb]
  exact k L hL
theorem i2l_e {a : Int} (ha : rI a) : (Int32.ofInt a).toInt64 = Int64.ofInt a := by
  apply Int64.toInt_inj.mp
  rw [Int32.toInt_toInt64, toI ha, toL ⟨by have := ha.1; omega, by have := ha.2; omega⟩]
theorem l2i_e (a : Int) : (Int64.ofInt a).toInt32 = Int32.ofInt a := Int64.toInt32_ofInt
theorem r_i2l {a : Int} (ha : rI a) (hat : At Y pc (.i2l) 1 pc') (kk : AW K Y h Q pc' ls (vl (a) :: st) N g) : AW K Y h Q pc ls (vi a :: st) N g := by
  obtain ⟨d, rfl⟩ := hat
  refine AW.pure kk (fun h1 h2 => ⟨h1, oks_cons trivial (oks_tl h2)⟩) (fun p l e R s m args below meth c H locs cells slots Qs ad L hx hb _ _ hL k => ?_)
  exact lv_i2l hx hb d (i2l_e ha) (k L hL)
theorem r_l2i {a : Int} (hat : At Y pc (.l2i) 1 pc') (kk : AW K Y h Q pc' ls (vi (a) :: st) N g) : AW K Y h Q pc ls (vl a :: st) N g := by
  obtain ⟨d, rfl⟩ := hat
  refine AW.pure kk (fun h1 h2 => ⟨h1, oks_cons trivial (oks_tl h2)⟩) (fun p l e R s m args below meth c H locs cells slots Qs ad L hx hb _ _ hL k => ?_)
  exact lv_l2i hx hb d (l2i_e a) (k L hL)
theorem r_lneg {a : Int} (hat : At Y pc (.lneg) 1 pc') (kk : AW K Y h Q pc' ls (vl (-a) :: st) N g) : AW K Y h Q pc ls (vl a :: st) N g := by
  obtain ⟨d, rfl⟩ := hat
  refine AW.pure kk (fun h1 h2 => ⟨h1, oks_cons trivial (oks_tl h2)⟩) (fun p l e R s m args below meth c H locs cells slots Qs ad L hx hb _ _ hL k => ?_)
  refine lv_lneg hx hb d ?_
  rw [← Int64.ofInt_neg]
  exact k L hL
theorem r_iand {a b z : Int} (hz : Int32.ofInt a &&& Int32.ofInt b = Int32.ofInt z) (hat : At Y pc (.iand) 1 pc') (kk : AW K Y h Q pc' ls (vi z :: st) N g) : AW K Y h Q pc ls (vi b :: vi a :: st) N g := by
  obtain ⟨d, rfl⟩ := hat
  refine AW.pure kk (fun h1 h2 => ⟨h1, oks_cons trivial (oks_tl (oks_tl h2))⟩) (fun p l e R s m args below meth c H locs cells slots Qs ad L hx hb _ _ hL k => ?_)
  refine lv_iand hx hb d ?_
  rw [hz]
  exact k L hL
theorem r_ior {a b z : Int} (hz : Int32.ofInt a ||| Int32.ofInt b = Int32.ofInt z) (hat : At Y pc (.ior) 1 pc') (kk : AW K Y h Q pc' ls (vi z :: st) N g) : AW K Y h Q pc ls (vi b :: vi a :: st) N g := by
  obtain ⟨d, rfl⟩ := hat
  refine AW.pure kk (fun h1 h2 => ⟨h1, oks_cons trivial (oks_tl (oks_tl h2))⟩) (fun p l e R s m args below meth c H locs cells slots Qs ad L hx hb _ _ hL k => ?_)
  refine lv_ior hx hb d ?_
  rw [hz]
  exact k L hL
theorem r_land {a b z : Int} (hz : Int64.ofInt a &&& Int64.ofInt b = Int64.ofInt z) (hat : At Y pc (.land) 1 pc') (kk : AW K Y h Q pc' ls (vl z :: st) N g) : AW K Y h Q pc ls (vl b :: vl a :: st) N g := by
  obtain ⟨d, rfl⟩ := hat
  refine AW.pure kk (fun h1 h2 => ⟨h1, oks_cons trivial (oks_tl (oks_tl h2))⟩) (fun p l e R s m args below meth c H locs cells slots Qs ad L hx hb _ _ hL k => ?_)
  refine lv_land hx hb d ?_
  rw [hz]
  exact k L hL
theorem r_lor {a b z : Int} (hz : Int64.ofInt a ||| Int64.ofInt b = Int64.ofInt z) (hat : At Y pc (.lor) 1 pc') (kk : AW K Y h Q pc' ls (vl z :: st) N g) : AW K Y h Q pc ls (vl b :: vl a :: st) N g := by
  obtain ⟨d, rfl⟩ := hat
  refine AW.pure kk (fun h1 h2 => ⟨h1, oks_cons trivial (oks_tl (oks_tl h2))⟩) (fun p l e R s m args below meth c H locs cells slots Qs ad L hx hb _ _ hL k => ?_)
  refine lv_lor hx hb d ?_
  rw [hz]
  exact k L hL
theorem r_lxor {a b z : Int} (hz : Int64.ofInt a ^^^ Int64.ofInt b = Int64.ofInt z) (hat : At Y pc (.lxor) 1 pc') (kk : AW K Y h Q pc' ls (vl z :: st) N g) : AW K Y h Q pc ls (vl b :: vl a :: st) N g := by
  obtain ⟨d, rfl⟩ := hat
  refine AW.pure kk (fun h1 h2 => ⟨h1, oks_cons trivial (oks_tl (oks_tl h2))⟩) (fun p l e R s m args below meth c H locs cells slots Qs ad L hx hb _ _ hL k => ?_)
  refine lv_lxor hx hb d ?_
  rw [hz]
  exact k L hL
theorem r_ishl {a b z : Int} (hz : Int32.ofInt a <<< (Int32.ofInt b &&& 31) = Int32.ofInt z) (hat : At Y pc (.ishl) 1 pc') (kk : AW K Y h Q pc' ls (vi z :: st) N g) : AW K Y h Q pc ls (vi b :: vi a :: st) N g := by
  obtain ⟨d, rfl⟩ := hat
  refine AW.pure kk (fun h1 h2 => ⟨h1, oks_cons trivial (oks_tl (oks_tl h2))⟩) (fun p l e R s m args below meth c H locs cells slots Qs ad L hx hb _ _ hL k => ?_)
  refine lv_ishl hx hb d ?_
  rw [hz]
  exact k L hL
theorem r_ishr {a b z : Int} (hz : Int32.ofInt a >>> (Int32.ofInt b &&& 31) = Int32.ofInt z) (hat : At Y pc (.ishr) 1 pc') (kk : AW K Y h Q pc' ls (vi z :: st) N g) : AW K Y h Q pc ls (vi b :: vi a :: st) N g := by
  obtain ⟨d, rfl⟩ := hat
  refine AW.pure kk (fun h1 h2 => ⟨h1, oks_cons trivial (oks_tl (oks_tl h2))⟩) (fun p l e R s m args below meth c H locs cells slots Qs ad L hx hb _ _ hL k => ?_)
  refine lv_ishr hx hb d ?_
  rw [hz]
  exact k L hL
theorem r_lshl {a b z : Int} (hz : Int64.ofInt a <<< ((Int32.ofInt b).toInt64 &&& 63) = Int64.ofInt z) (hat : At Y pc (.lshl) 1 pc') (kk : AW K Y h Q pc' ls (vl z :: st) N g) : AW K Y h Q pc ls (vi b :: vl a :: st) N g := by
  obtain ⟨d, rfl⟩ := hat
  refine AW.pure kk (fun h1 h2 => ⟨h1, oks_cons trivial (oks_tl (oks_tl h2))⟩) (fun p l e R s m args below meth c H locs cells slots Qs ad L hx hb _ _ hL k => ?_)
  exact lv_lshl hx hb d hz (k L hL)
theorem r_dup {a : AV} (hca : cat a = 1) (hat : At Y pc (.dup) 1 pc') (kk : AW K Y h Q pc' ls (a :: a :: st) N g) : AW K Y h Q pc ls (a :: st) N g := by
  obtain ⟨d, rfl⟩ := hat
  refine AW.pure kk (fun h1 h2 => ⟨h1, oks_cons (oks_hd h2) h2⟩) (fun p l e R s m args below meth c H locs cells slots Qs ad L hx hb _ _ hL k => ?_)
  exact lv_dup hx hb d ((cv_cat ad a).trans hca) (k L hL)
theorem r_pop {a : AV} (hca : cat a = 1) (hat : At Y pc (.pop) 1 pc') (kk : AW K Y h Q pc' ls (st) N g) : AW K Y h Q pc ls (a :: st) N g := by
  obtain ⟨d, rfl⟩ := hat
  refine AW.pure kk (fun h1 h2 => ⟨h1, oks_tl h2⟩) (fun p l e R s m args below meth c H locs cells slots Qs ad L hx hb _ _ hL k => ?_)
  exact lv_pop hx hb d ((cv_cat ad a).trans hca) (k L hL)
theorem r_pop2l {a : AV} (hca : cat a = 2) (hat : At Y pc (.pop2) 1 pc') (kk : AW K Y h Q pc' ls (st) N g) : AW K Y h Q pc ls (a :: st) N g := by
  obtain ⟨d, rfl⟩ := hat
  refine AW.pure kk (fun h1 h2 => ⟨h1, oks_tl h2⟩) (fun p l e R s m args below meth c H locs cells slots Qs ad L hx hb _ _ hL k => ?_)
  exact lv_pop2_2 hx hb d ((cv_cat ad a).trans hca) (k L hL)
theorem r_dup2l {a : AV} (hca : cat a = 2) (hat : At Y pc (.dup2) 1 pc') (kk : AW K Y h Q pc' ls (a :: a :: st) N g) : AW K Y h Q pc ls (a :: st) N g := by
  obtain ⟨d, rfl⟩ := hat
  refine AW.pure kk (fun h1 h2 => ⟨h1, oks_cons (oks_hd h2) h2⟩) (fun p l e R s m args below meth c H locs cells slots Qs ad L hx hb _ _ hL k => ?_)
  exact lv_dup2_2 hx hb d ((cv_cat ad a).trans hca) (k L hL)
theorem r_dup2 {a b : AV} (hca : cat a = 1) (hcb : cat b = 1) (hat : At Y pc (.dup2) 1 pc') (kk : AW K Y h Q pc' ls (a :: b :: a :: b :: st) N g) : AW K Y h Q pc ls (a :: b :: st) N g := by
  obtain ⟨d, rfl⟩ := hat
  refine AW.pure kk (fun h1 h2 => ⟨h1, oks_cons (oks_hd h2) (oks_cons (oks_hd (oks_tl h2)) h2)⟩) (fun p l e R s m args below meth c H locs cells slots Qs ad L hx hb _ _ hL k => ?_)
  exact lv_dup2_11 hx hb d ((cv_cat ad a).trans hca) ((cv_cat ad b).trans hcb) (k L hL)
theorem r_icmpeq {a b : Int} (hat : AtJ Y pc (.if_icmp .eq) pc' tg) (ha : rI a) (hb : rI b) (k1 : a = b → AW K Y h Q tg ls st N g) (k2 : a ≠ b → AW K Y h Q pc' ls st N g) : AW K Y h Q pc ls (vi b :: vi a :: st) N g := by
  obtain ⟨off, d, rfl, ht⟩ := hat
  intro p e R s m args below meth c ad0 g0 C H locs cells slots ad L hP hL hl hs
  refine lv_icmp_eq C.1 C.2.1 d ht (fun q => ?_) (fun q => ?_)
  · exact k1 ((eqI ha hb).mp q) p e R s m args below meth c ad0 g0 C H locs cells slots ad L hP hL hl (oks_tl (oks_tl hs))
  · exact k2 (fun z => q ((eqI ha hb).mpr z)) p e R s m args below meth c ad0 g0 C H locs cells slots ad L hP hL hl (oks_tl (oks_tl hs))
theorem r_icmpne {a b : Int} (hat : AtJ Y pc (.if_icmp .ne) pc' tg) (ha : rI a) (hb : rI b) (k1 : a ≠ b → AW K Y h Q tg ls st N g) (k2 : a = b → AW K Y h Q pc' ls st N g) : AW K Y h Q pc ls (vi b :: vi a :: st) N g := by
  obtain ⟨off, d, rfl, ht⟩ := hat
  intro p e R s m args below meth c ad0 g0 C H locs cells slots ad L hP hL hl hs
  refine lv_icmp_ne C.1 C.2.1 d ht (fun q => ?_) (fun q => ?_)
  · exact k1 (fun z => q ((eqI ha hb).mpr z)) p e R s m args below meth c ad0 g0 C H locs cells slots ad L hP hL hl (oks_tl (oks_tl hs))
  · exact k2 ((eqI ha hb).mp q) p e R s m args below meth c ad0 g0 C H locs cells slots ad L hP hL hl (oks_tl (oks_tl hs))
theorem r_icmplt {a b : Int} (hat : AtJ Y pc (.if_icmp .lt) pc' tg) (ha : rI a) (hb : rI b) (k1 : a < b → AW K Y h Q tg ls st N g) (k2 : b ≤ a → AW K Y h Q pc' ls st N g) : AW K Y h Q pc ls (vi b :: vi a :: st) N g := by
  obtain ⟨off, d, rfl, ht⟩ := hat
  intro p e R s m args below meth c ad0 g0 C H locs cells slots ad L hP hL hl hs
  refine lv_icmp_lt C.1 C.2.1 d ht (fun q => ?_) (fun q => ?_)
  · exact k1 ((ltI ha hb).mp q) p e R s m args below meth c ad0 g0 C H locs cells slots ad L hP hL hl (oks_tl (oks_tl hs))
  · exact k2 (Int.not_lt.mp (fun z => q ((ltI ha hb).mpr z))) p e R s m args below meth c ad0 g0 C H locs cells slots ad L hP hL hl (oks_tl (oks_tl hs))
theorem r_icmpge {a b : Int} (hat : AtJ Y pc (.if_icmp .ge) pc' tg) (ha : rI a) (hb : rI b) (k1 : b ≤ a → AW K Y h Q tg ls st N g) (k2 : a < b → AW K Y h Q pc' ls st N g) : AW K Y h Q pc ls (vi b :: vi a :: st) N g := by
  obtain ⟨off, d, rfl, ht⟩ := hat
  intro p e R s m args below meth c ad0 g0 C H locs cells slots ad L hP hL hl hs
  refine lv_icmp_ge C.1 C.2.1 d ht (fun q => ?_) (fun q => ?_)
  · exact k1 ((leI hb ha).mp q) p e R s m args below meth c ad0 g0 C H locs cells slots ad L hP hL hl (oks_tl (oks_tl hs))
  · exact k2 (Int.not_le.mp (fun z => q ((leI hb ha).mpr z))) p e R s m args below meth c ad0 g0 C H locs cells slots ad L hP hL hl (oks_tl (oks_tl hs))
theorem r_icmpgt {a b : Int} (hat : AtJ Y pc (.if_icmp .gt) pc' tg) (ha : rI a) (hb : rI b) (k1 : b < a → AW K Y h Q tg ls st N g) (k2 : a ≤ b → AW K Y h Q pc' ls st N g) : AW K Y h Q pc ls (vi b :: vi a :: st) N g := by
  obtain ⟨off, d, rfl, ht⟩ := hat
  intro p e R s m args below meth c ad0 g0 C H locs cells slots ad L hP hL hl hs
  refine lv_icmp_gt C.1 C.2.1 d ht (fun q => ?_) (fun q => ?_)
  · exact k1 ((ltI hb ha).mp q) p e R s m args below meth c ad0 g0 C H locs cells slots ad L hP hL hl (oks_tl (oks_tl hs))
  · exact k2 (Int.not_lt.mp (fun z => q ((ltI hb ha).mpr z))) p e R s m args below meth c ad0 g0 C H locs cells slots ad L hP hL hl (oks_tl (oks_tl hs))
theorem r_icmple {a b : Int} (hat : AtJ Y pc (.if_icmp .le) pc' tg) (ha : rI a) (hb : rI b) (k1 : a ≤ b → AW K Y h Q tg ls st N g) (k2 : b < a → AW K Y h Q pc' ls st N g) : AW K Y h Q pc ls (vi b :: vi a :: st) N g := by
  obtain ⟨off, d, rfl, ht⟩ := hat
  intro p e R s m args below meth c ad0 g0 C H locs cells slots ad L hP hL hl hs
  refine lv_icmp_le C.1 C.2.1 d ht (fun q => ?_) (fun q => ?_)
  · exact k1 ((leI ha hb).mp q) p e R s m args below meth c ad0 g0 C H locs cells slots ad L hP hL hl (oks_tl (oks_tl hs))
  · exact k2 (Int.not_le.mp (fun z => q ((leI ha hb).mpr z))) p e R s m args below meth c ad0 g0 C H locs cells slots ad L hP hL hl (oks_tl (oks_tl hs))
theorem r_ifeq {a : Int} (hat : AtJ Y pc (.ifCond .eq) pc' tg) (ha : rI a) (k1 : a = 0 → AW K Y h Q tg ls st N g) (k2 : a ≠ 0 → AW K Y h Q pc' ls st N g) : AW K Y h Q pc ls (vi a :: st) N g := by
  obtain ⟨off, d, rfl, ht⟩ := hat
  intro p e R s m args below meth c ad0 g0 C H locs cells slots ad L hP hL hl hs
  refine lv_if_eq C.1 C.2.1 d ht (fun q => ?_) (fun q => ?_)
  · exact k1 ((eqI ha rI0).mp q) p e R s m args below meth c ad0 g0 C H locs cells slots ad L hP hL hl (oks_tl hs)
  · exact k2 (fun z => q ((eqI ha rI0).mpr z)) p e R s m args below meth c ad0 g0 C H locs cells slots ad L hP hL hl (oks_tl hs)
theorem r_ifne {a : Int} (hat : AtJ Y pc (.ifCond .ne) pc' tg) (ha : rI a) (k1 : a ≠ 0 → AW K Y h Q tg ls st N g) (k2 : a = 0 → AW K Y h Q pc' ls st N g) : AW K Y h Q pc ls (vi a :: st) N g := by
  obtain ⟨off, d, rfl, ht⟩ := hat
  intro p e R s m args below meth c ad0 g0 C H locs cells slots ad L hP hL hl hs
  refine lv_if_ne C.1 C.2.1 d ht (fun q => ?_) (fun q => ?_)
  · exact k1 (fun z => q ((eqI ha rI0).mpr z)) p e R s m args below meth c ad0 g0 C H locs cells slots ad L hP hL hl (oks_tl hs)
  · exact k2 ((eqI ha rI0).mp q) p e R s m args below meth c ad0 g0 C H locs cells slots ad L hP hL hl (oks_tl hs)
theorem r_iflt {a : Int} (hat : AtJ Y pc (.ifCond .lt) pc' tg) (ha : rI a) (k1 : a < 0 → AW K Y h Q tg ls st N g) (k2 : 0 ≤ a → AW K Y h Q pc' ls st N g) : AW K Y h Q pc ls (vi a :: st) N g := by
  obtain ⟨off, d, rfl, ht⟩ := hat
  intro p e R s m args below meth c ad0 g0 C H locs cells slots ad L hP hL hl hs
  refine lv_if_lt C.1 C.2.1 d ht (fun q => ?_) (fun q => ?_)
  · exact k1 ((ltI ha rI0).mp q) p e R s m args below meth c ad0 g0 C H locs cells slots ad L hP hL hl (oks_tl hs)
  · exact k2 (Int.not_lt.mp (fun z => q ((ltI ha rI0).mpr z))) p e R s m args below meth c ad0 g0 C H locs cells slots ad L hP hL hl (oks_tl hs)
theorem r_ifge {a : Int} (hat : AtJ Y pc (.ifCond .ge) pc' tg) (ha : rI a) (k1 : 0 ≤ a → AW K Y h Q tg ls st N g) (k2 : a < 0 → AW K Y h Q pc' ls st N g) : AW K Y h Q pc ls (vi a :: st) N g := by
  obtain ⟨off, d, rfl, ht⟩ := hat
  intro p e R s m args below meth c ad0 g0 C H locs cells slots ad L hP hL hl hs
  refine lv_if_ge C.1 C.2.1 d ht (fun q => ?_) (fun q => ?_)
  · exact k1 ((leI rI0 ha).mp q) p e R s m args below meth c ad0 g0 C H locs cells slots ad L hP hL hl (oks_tl hs)
  · exact k2 (Int.not_le.mp (fun z => q ((leI rI0 ha).mpr z))) p e R s m args below meth c ad0 g0 C H locs cells slots ad L hP hL hl (oks_tl hs)
theorem r_ifgt {a : Int} (hat : AtJ Y pc (.ifCond .gt) pc' tg) (ha : rI a) (k1 : 0 < a → AW K Y h Q tg ls st N g) (k2 : a ≤ 0 → AW K Y h Q pc' ls st N g) : AW K Y h Q pc ls (vi a :: st) N g := by
  obtain ⟨off, d, rfl, ht⟩ := hat
  intro p e R s m args below meth c ad0 g0 C H locs cells slots ad L hP hL hl hs
  refine lv_if_gt C.1 C.2.1 d ht (fun q => ?_) (fun q => ?_)
  · exact k1 ((ltI rI0 ha).mp q) p e R s m args below meth c ad0 g0 C H locs cells slots ad L hP hL hl (oks_tl hs)
  · exact k2 (Int.not_lt.mp (fun z => q ((ltI rI0 ha).mpr z))) p e R s m args below meth c ad0 g0 C H locs cells slots ad L hP hL hl (oks_tl hs)
theorem r_ifle {a : Int} (hat : AtJ Y pc (.ifCond .le) pc' tg) (ha : rI a) (k1 : a ≤ 0 → AW K Y h Q tg ls st N g) (k2 : 0 < a → AW K Y h Q pc' ls st N g) : AW K Y h Q pc ls (vi a :: st) N g := by
  obtain ⟨off, d, rfl, ht⟩ := hat
  intro p e R s m args below meth c ad0 g0 C H locs cells slots ad L hP hL hl hs
  refine lv_if_le C.1 C.2.1 d ht (fun q => ?_) (fun q => ?_)
  · exact k1 ((leI ha rI0).mp q) p e R s m args below meth c ad0 g0 C H locs cells slots ad L hP hL hl (oks_tl hs)
  · exact k2 (Int.not_le.mp (fun z => q ((leI ha rI0).mpr z))) p e R s m args below meth c ad0 g0 C H locs cells slots ad L hP hL hl (oks_tl hs)
theorem r_goto (hat : AtJ Y pc .goto pc' tg) (kk : AW K Y h Q tg ls st N g) : AW K Y h Q pc ls st N g := by
  obtain ⟨off, d, rfl, ht⟩ := hat
  exact AW.pure kk (fun h1 h2 => ⟨h1, h2⟩) (fun p l e R s m args below meth c H locs cells slots Qs ad L hx hb _ _ hL k => lv_goto hx hb d ht (k L hL))
theorem lgc {a b : Int} (ha : rL a) (hb : rL b) : lg_cmp (Int64.ofInt a) (Int64.ofInt b) = Int32.ofInt (if b < a then 1 else if a = b then 0 else -1) := by
  unfold lg_cmp
  by_cases h1 : b < a
  · rw [if_pos ((ltL hb ha).mpr h1), if_pos h1]; rfl
  · rw [if_neg (fun z => h1 ((ltL hb ha).mp z)), if_neg h1]
    by_cases h2 : a = b
    · rw [if_pos ((eqL ha hb).mpr h2), if_pos h2]; rfl
    · rw [if_neg (fun z => h2 ((eqL ha hb).mp z)), if_neg h2]; rfl
theorem r_lcmp {a b : Int} (hra : rL a) (hrb : rL b) (hat : At Y pc .lcmp 1 pc') (kk : AW K Y h Q pc' ls (vi (if b < a then 1 else if a = b then 0 else -1) :: st) N g) : AW K Y h Q pc ls (vl b :: vl a :: st) N g := by
  obtain ⟨d, rfl⟩ := hat
  refine AW.pure kk (fun h1 h2 => ⟨h1, oks_cons trivial (oks_tl (oks_tl h2))⟩) (fun p l e R s m args below meth c H locs cells slots Qs ad L hx hb _ _ hL k => ?_)
  refine W.lcmp hx hb d ?_
  rw [lgc hra hrb]
  exact k L hL
theorem rIc (a b : Int) : rI (if b < a then 1 else if a = b then 0 else -1) := by
  unfold rI
  split
  · omega
  · split <;> omega
theorem r_lceq {a b : Int} (hat : At Y pc .lcmp 1 pc1) (haj : AtJ Y pc1 (.ifCond .eq) pc' tg) (ha : rL a) (hb : rL b) (k1 : a = b → AW K Y h Q tg ls st N g) (k2 : a ≠ b → AW K Y h Q pc' ls st N g) : AW K Y h Q pc ls (vl b :: vl a :: st) N g := by
  refine r_lcmp ha hb hat (r_ifeq haj (rIc a b) (fun q => k1 ?_) (fun q => k2 ?_))
  · revert q; split
    · omega
    · split <;> omega
  · revert q; split
    · omega
    · split <;> omega
theorem r_lcne {a b : Int} (hat : At Y pc .lcmp 1 pc1) (haj : AtJ Y pc1 (.ifCond .ne) pc' tg) (ha : rL a) (hb : rL b) (k1 : a ≠ b → AW K Y h Q tg ls st N g) (k2 : a = b → AW K Y h Q pc' ls st N g) : AW K Y h Q pc ls (vl b :: vl a :: st) N g := by
  refine r_lcmp ha hb hat (r_ifne haj (rIc a b) (fun q => k1 ?_) (fun q => k2 ?_))
  · revert q; split
    · omega
    · split <;> omega
  · revert q; split
    · omega
    · split <;> omega
theorem r_lclt {a b : Int} (hat : At Y pc .lcmp 1 pc1) (haj : AtJ Y pc1 (.ifCond .lt) pc' tg) (ha : rL a) (hb : rL b) (k1 : a < b → AW K Y h Q tg ls st N g) (k2 : b ≤ a → AW K Y h Q pc' ls st N g) : AW K Y h Q pc ls (vl b :: vl a :: st) N g := by
  refine r_lcmp ha hb hat (r_iflt haj (rIc a b) (fun q => k1 ?_) (fun q => k2 ?_))
  · revert q; split
    · omega
    · split <;> omega
  · revert q; split
    · omega
    · split <;> omega
theorem r_lcge {a b : Int} (hat : At Y pc .lcmp 1 pc1) (haj : AtJ Y pc1 (.ifCond .ge) pc' tg) (ha : rL a) (hb : rL b) (k1 : b ≤ a → AW K Y h Q tg ls st N g) (k2 : a < b → AW K Y h Q pc' ls st N g) : AW K Y h Q pc ls (vl b :: vl a :: st) N g := by
  refine r_lcmp ha hb hat (r_ifge haj (rIc a b) (fun q => k1 ?_) (fun q => k2 ?_))
  · revert q; split
    · omega
    · split <;> omega
  · revert q; split
    · omega
    · split <;> omega
theorem r_lcgt {a b : Int} (hat : At Y pc .lcmp 1 pc1) (haj : AtJ Y pc1 (.ifCond .gt) pc' tg) (ha : rL a) (hb : rL b) (k1 : b < a → AW K Y h Q tg ls st N g) (k2 : a ≤ b → AW K Y h Q pc' ls st N g) : AW K Y h Q pc ls (vl b :: vl a :: st) N g := by
  refine r_lcmp ha hb hat (r_ifgt haj (rIc a b) (fun q => k1 ?_) (fun q => k2 ?_))
  · revert q; split
    · omega
    · split <;> omega
  · revert q; split
    · omega
    · split <;> omega
theorem r_lcle {a b : Int} (hat : At Y pc .lcmp 1 pc1) (haj : AtJ Y pc1 (.ifCond .le) pc' tg) (ha : rL a) (hb : rL b) (k1 : a ≤ b → AW K Y h Q tg ls st N g) (k2 : b < a → AW K Y h Q pc' ls st N g) : AW K Y h Q pc ls (vl b :: vl a :: st) N g := by
  refine r_lcmp ha hb hat (r_ifle haj (rIc a b) (fun q => k1 ?_) (fun q => k2 ?_))
  · revert q; split
    · omega
    · split <;> omega
  · revert q; split
    · omega
    · split <;> omega
end Rows2
end
section
/-! own text: fields and arrays -/
section Rows3
variable {K : Kx} {Y : Ys} {h : Nat} {Q : Qt} {pc pc' : Nat} {ls : List (Option AV)} {st : List AV} {N : Nm} {g : Ge}
theorem hold_obj {ad : Nat → Nat → Nat} {H : Heap} {k i c : Nat} {q : vw_C} (hH : Hold K g N ad H) (hi : i < cnt k) (hk : kd k = (0, c)) (hc : clsL[c]? = some q) : t_OB (ad k i) (K.2.2.1.1 c) q.2.2 (K.2.2.1.2 c) H (fun j => fv g N ad c k i j) := by
  have h1 := (hH.2.1 k i hi).2
  unfold hcell at h1
  rw [hk] at h1
  obtain ⟨q', h2, h3⟩ := h1
  cases hc.symm.trans h2
  exact h3
theorem hold_i {ad : Nat → Nat → Nat} {H : Heap} {k i c : Nat} (hH : Hold K g N ad H) (hi : i < cnt k) (hk : kd k = (1, c)) : H[ad k i]? = some (arrV (K.2.2.2 c) (ln g k i) (fun j => .int (Int32.ofInt (N k i j)))) := by
  have h1 := (hH.2.1 k i hi).2
  unfold hcell at h1
  rw [hk] at h1
  exact h1
theorem hold_l {ad : Nat → Nat → Nat} {H : Heap} {k i c : Nat} (hH : Hold K g N ad H) (hi : i < cnt k) (hk : kd k = (2, c)) : H[ad k i]? = some (arrV (K.2.2.2 c) (ln g k i) (fun j => .long (Int64.ofInt (N k i j)))) := by
  have h1 := (hH.2.1 k i hi).2
  unfold hcell at h1
  rw [hk] at h1
  exact h1
theorem hold_r {ad : Nat → Nat → Nat} {H : Heap} {k i c : Nat} (hH : Hold K g N ad H) (hi : i < cnt k) (hk : kd k = (3, c)) : H[ad k i]? = some (arrV (K.2.2.2 c) (ln g k i) (fun j => .ref (ad (rf g k i j).1 (rf g k i j).2))) := by
  have h1 := (hH.2.1 k i hi).2
  unfold hcell at h1
  rw [hk] at h1
  exact h1
/-- getfield -/
theorem r_get {k i j c idx : Nat} {C : String} {T : u_T} {n : Nat} {v : AV} (hk : kd k = (0, c)) (hc : clsL[c]? = some (C, T, n)) (hj : j < n) (hws : ∀ w ∈ u_ws C T n, w ∈ TW) (hT : (T j).1 = C) (hlink : Cond.fieldLink Y.1.cls idx C (T j).2.1 (T j).2.2.1 ∈ TW)
    (hv : ∀ ad, fv g N ad c k i j = cv ad v) (hok : g.1 < 2 → g.2.1 < 2 → i < cnt k → okv v) (hat : At Y pc (.getfield idx) 3 pc') (kk : AW K Y h Q pc' ls (v :: st) N g) : AW K Y h Q pc ls (vr k i :: st) N g := by
  obtain ⟨d, rfl⟩ := hat
  intro p e R s m args below meth cd ad0 g0 Cc H locs cells slots ad L hP hL hl hs
  have hi : i < cnt k := oks_hd hs
  have hK := Cc.2.2.2.2.2.2.2.1
  have hts := Cc.2.2.2.2.1
  obtain ⟨cell, q1, q2, q3, q4⟩ := hold_obj hP.1 hi hk hc
  obtain ⟨hS, hfc, kC, hkC, hkind⟩ := hK.1 c _ hc
  obtain ⟨cf, kf, fi, f, hi1, hsl⟩ := hS j hj
  refine W.getf Cc.1 Cc.2.1 Cc.2.2.2.1 (hts _ hlink) (hT ▸ hi1) (u_facts hfc hkC (u_lays hts hws hj) hi1).1 q1 (by rw [q3]; exact fun h => by cases h) (v := cv ad v) ?_ rfl rfl d (kk p e R s m args below meth cd ad0 g0 Cc H locs cells slots ad L hP hL hl (oks_cons (hok hP.1.1.1 hP.1.1.2 hi) (oks_tl hs)))
  rw [hsl, q4 j hj]
  exact congrArg some (hv ad)
theorem Px.put {s : State} {ad0 ad : Nat → Nat → Nat} {g0 : Ge} {H H' : Heap} {locs : List Loc} {cells slots k i j z : Nat} {v : Int} (hP : Px K s ad0 g0 N g ad H locs cells slots) (hi : i < cnt k) (hs : hcell K g (upN N k i j v) ad k i H') (e2 : H'.size = H.size) (e3 : ∀ q, q ≠ ad k i → H'[q]? = H[q]?) : Px K s ad0 g0 (upN N k i j v) g ad H' (locs ++ [⟨ad k i, z⟩]) cells slots := by
  obtain ⟨h1, h2, h3, h4, h5, h6⟩ := hP
  have hb := (h1.2.1 k i hi).1
  refine ⟨h1.upd hi hs e3, h2, fun q hq => ?_, by rw [e2]; exact h4, fun q hq => ?_, h6⟩
  · rcases List.mem_append.mp hq with h | h
    · exact h3 q h
    · rw [List.mem_singleton.mp h]; exact hb
  · rw [e3 q (by omega)]; exact h5 q hq
/-- putfield of a number -/
theorem r_put {k i j c idx : Nat} {C : String} {T : u_T} {ty0 : Nat → FieldType} {ty : FieldType} {n : Nat} {v : AV} {z : Int} (hk : kd k = (0, c)) (hc : clsL[c]? = some (C, T, n)) (hj : j < n) (hws : ∀ w ∈ u_ws C T n, w ∈ TW) (hT : (T j).1 = C) (hlink : Cond.fieldLink Y.1.cls idx C (T j).2.1 (T j).2.2.1 ∈ TW)
    (hty : ∀ k, k < n → parseFieldDescriptor (T k).2.2.1 = some (ty0 k)) (hnm : ∀ a, a < n → ∀ b, b < n → a ≠ b → (T a).2.1 ≠ (T b).2.1) (hfin : (T j).2.2.2 = false) (hd : parseFieldDescriptor (T j).2.2.1 = some ty) (hn : ∀ ad, narrow ty (cv ad v) = cv ad v) (hfit : ∀ ad, fits ty (cv ad v) = true)
    (hv : ∀ ad, fv g (upN N k i j z) ad c k i j = cv ad v) (hat : At Y pc (.putfield idx) 3 pc') (kk : AW K Y h Q pc' ls st (upN N k i j z) g) : AW K Y h Q pc ls (v :: vr k i :: st) N g := by
  obtain ⟨d, rfl⟩ := hat
  intro p e R s m args below meth cd ad0 g0 Cc H locs cells slots ad L hP hL hl hs
  have hi : i < cnt k := oks_hd (oks_tl hs)
  have hK := Cc.2.2.2.2.2.2.2.1
  have hts := Cc.2.2.2.2.1
  have hap := va_apart (own := Y.1.cls) hts hws ty0 hty hnm hK hc
  obtain ⟨cell, q1, q2, q3, q4⟩ := hold_obj hP.1 hi hk hc
  obtain ⟨hS, hfc, kC, hkC, hkind⟩ := hK.1 c _ hc
  obtain ⟨cf, kf, fi, f, hi1, hsl⟩ := hS j hj
  have hlay := hts _ (hws _ (u_in_lay hj))
  unfold u_lay at hlay
  rw [if_neg (by rw [hfin]; decide)] at hlay
  have hst := (u_facts hfc hkC (u_lays hts hws hj) hi1).1
  have h6 := u_store hfc hkC hkind hlay hi1 hd (hn ad) (hfit ad)
  refine W.putK Cc.1 Cc.2.1 (f := f) ⟨Cc.2.2.2.1, hts _ hlink, ⟨_, _, _, hT ▸ hi1⟩, hst⟩ (by rw [q2]; exact h6) q1 q3 (by rw [hsl]; exact k2_hasslot (q4 j hj)) rfl rfl d fun H' e1 e2 e3 => ?_
  rw [hsl] at e1
  refine kk p e R s m args below meth cd ad0 g0 Cc H' _ cells slots ad L (hP.put (j := j) (v := z) hi ?_ e2 e3) hL hl (oks_tl (oks_tl hs))
  unfold hcell
  rw [hk]
  refine ⟨_, hc, t_OB.to (V := updV (fun j => fv g N ad c k i j) j (cv ad v)) ⟨_, e1, q2, q3, t_set q4 hap hj (cv ad v)⟩ (fun j' _ => ?_)⟩
  by_cases e : j' = j
  · subst e
    rw [hv]; simp [updV]
  · simp only [updV, if_neg e, fv, upN_j e]
theorem in_of {j : Int} {n len : Nat} (hj : j = (n : Int)) (hn : n < len) (hs : n < 2 ^ 31) : (Int32.ofInt j).toNatClampNeg = n ∧ ¬ (Int32.ofInt j < 0 ∨ len ≤ (Int32.ofInt j).toNatClampNeg) := by
  subst hj
  have h1 : (Int32.ofInt (n : Int)).toNatClampNeg = n := nI_clamp hs
  refine ⟨h1, ?_⟩
  rw [h1]
  intro q
  rcases q with q | q
  · exact nI_pos hs q
  · omega
/-- an array's place is read -/
theorem r_iald {k i n : Nat} {j : Int} (hj : j = (n : Int)) (hn : n < ln g k i) (hs : n < 2 ^ 31) (hk : kd k = (1, 0)) (hat : At Y pc .iaload 1 pc') (kk : AW K Y h Q pc' ls (vi (N k i n) :: st) N g) : AW K Y h Q pc ls (vi j :: vr k i :: st) N g := by
  obtain ⟨d, rfl⟩ := hat
  intro p e R s m args below meth cd ad0 g0 Cc H locs cells slots ad L hP hL hl hss
  have hi : i < cnt k := oks_hd (oks_tl hss)
  obtain ⟨h1, h2⟩ := in_of hj hn hs
  refine W.iald (v := .int (Int32.ofInt (N k i n))) Cc.1 Cc.2.1 (hold_i hP.1 hi hk) ((Cc.2.2.2.2.2.2.2.1.2 0 _ rfl).1 _ _) (fun q => by cases q) (by rw [arrV_size]; exact h2) (by rw [h1, arrV_read _ _ hn]) rfl rfl d ?_
  exact kk p e R s m args below meth cd ad0 g0 Cc H locs cells slots ad L hP hL hl (oks_cons trivial (oks_tl (oks_tl hss)))
theorem r_lald {k i n : Nat} {j : Int} (hj : j = (n : Int)) (hn : n < ln g k i) (hs : n < 2 ^ 31) (hk : kd k = (2, 1)) (hat : At Y pc .laload 1 pc') (kk : AW K Y h Q pc' ls (vl (N k i n) :: st) N g) : AW K Y h Q pc ls (vi j :: vr k i :: st) N g := by
  obtain ⟨d, rfl⟩ := hat
  intro p e R s m args below meth cd ad0 g0 Cc H locs cells slots ad L hP hL hl hss
  have hi : i < cnt k := oks_hd (oks_tl hss)
  obtain ⟨h1, h2⟩ := in_of hj hn hs
  refine W.lald (v := .long (Int64.ofInt (N k i n))) Cc.1 Cc.2.1 (hold_l hP.1 hi hk) ((Cc.2.2.2.2.2.2.2.1.2 1 _ rfl).1 _ _) (fun q => by cases q) (by rw [arrV_size]; exact h2) (by rw [h1, arrV_read _ _ hn]) rfl rfl d ?_
  exact kk p e R s m args below meth cd ad0 g0 Cc H locs cells slots ad L hP hL hl (oks_cons trivial (oks_tl (oks_tl hss)))
theorem r_aald {k i n c : Nat} {ty : FieldType} {j : Int} {k' i' : Nat} (hj : j = (n : Int)) (hn : n < ln g k i) (hs : n < 2 ^ 31) (hk : kd k = (3, c)) (ht : (tysK K)[c]? = some (K.2.2.2 c, ty)) (hty : ty.isReference = true) (hr : rf g k i n = (k', i')) (hok : i < cnt k → n < ln g k i → i' < cnt k') (hat : At Y pc .aaload 1 pc') (kk : AW K Y h Q pc' ls (vr k' i' :: st) N g) : AW K Y h Q pc ls (vi j :: vr k i :: st) N g := by
  obtain ⟨d, rfl⟩ := hat
  intro p e R s m args below meth cd ad0 g0 Cc H locs cells slots ad L hP hL hl hss
  have hi : i < cnt k := oks_hd (oks_tl hss)
  obtain ⟨h1, h2⟩ := in_of hj hn hs
  refine W.aald (v := .ref (ad k' i')) (ty := ty) Cc.1 Cc.2.1 (hold_r hP.1 hi hk) ((Cc.2.2.2.2.2.2.2.1.2 c _ ht).1 _ _) hty (fun q => by cases q) (by rw [arrV_size]; exact h2) (by rw [h1, arrV_read _ _ hn, hr]) rfl rfl d ?_
  exact kk p e R s m args below meth cd ad0 g0 Cc H locs cells slots ad L hP hL hl (oks_cons (hok hi hn) (oks_tl (oks_tl hss)))
/-- an array's place is written -/
theorem r_iast {k i n : Nat} {j v : Int} (hj : j = (n : Int)) (hn : n < ln g k i) (hs : n < 2 ^ 31) (hk : kd k = (1, 0)) (hat : At Y pc .iastore 1 pc') (kk : AW K Y h Q pc' ls st (upN N k i n v) g) : AW K Y h Q pc ls (vi v :: vi j :: vr k i :: st) N g := by
  obtain ⟨d, rfl⟩ := hat
  intro p e R s m args below meth cd ad0 g0 Cc H locs cells slots ad L hP hL hl hss
  have hi : i < cnt k := oks_hd (oks_tl (oks_tl hss))
  obtain ⟨h1, h2⟩ := in_of hj hn hs
  refine W.iast Cc.1 Cc.2.1 (hold_i hP.1 hi hk) ((Cc.2.2.2.2.2.2.2.1.2 0 _ rfl).1 _ _) (fun q => by cases q) (by rw [arrV_size]; exact h2) rfl rfl d fun H' e1 e2 e3 => ?_
  refine kk p e R s m args below meth cd ad0 g0 Cc H' _ cells slots ad L (hP.put (j := n) (v := v) hi ?_ e2 e3) hL hl (oks_tl (oks_tl (oks_tl hss)))
  unfold hcell
  rw [hk]
  show H'[ad k i]? = _
  rw [e1, h1, arrV_store]
  congr 2
  funext q
  by_cases e : q = n
  · subst e; simp [updV, upN]
  · simp only [updV, if_neg e, upN_j e]
theorem r_last {k i n : Nat} {j v : Int} (hj : j = (n : Int)) (hn : n < ln g k i) (hs : n < 2 ^ 31) (hk : kd k = (2, 1)) (hat : At Y pc .lastore 1 pc') (kk : AW K Y h Q pc' ls st (upN N k i n v) g) : AW K Y h Q pc ls (vl v :: vi j :: vr k i :: st) N g := by
  obtain ⟨d, rfl⟩ := hat
  intro p e R s m args below meth cd ad0 g0 Cc H locs cells slots ad L hP hL hl hss
  have hi : i < cnt k := oks_hd (oks_tl (oks_tl hss))
  obtain ⟨h1, h2⟩ := in_of hj hn hs
  refine W.last Cc.1 Cc.2.1 (hold_l hP.1 hi hk) ((Cc.2.2.2.2.2.2.2.1.2 1 _ rfl).1 _ _) (fun q => by cases q) (by rw [arrV_size]; exact h2) rfl rfl d fun H' e1 e2 e3 => ?_
  refine kk p e R s m args below meth cd ad0 g0 Cc H' _ cells slots ad L (hP.put (j := n) (v := v) hi ?_ e2 e3) hL hl (oks_tl (oks_tl (oks_tl hss)))
  unfold hcell
  rw [hk]
  show H'[ad k i]? = _
  rw [e1, h1, arrV_store]
  congr 2
  funext q
  by_cases e : q = n
  · subst e; simp [updV, upN]
  · simp only [updV, if_neg e, upN_j e]
/-- an array's length -/
theorem r_alen {k i c : Nat} (hk : kd k = (1, c) ∨ kd k = (2, c)) (ht : c = 0 ∨ c = 1) (hat : At Y pc .arraylength 1 pc') (kk : AW K Y h Q pc' ls (vi (ln g k i) :: st) N g) : AW K Y h Q pc ls (vr k i :: st) N g := by
  obtain ⟨d, rfl⟩ := hat
  intro p e R s m args below meth cd ad0 g0 Cc H locs cells slots ad L hP hL hl hss
  have hi : i < cnt k := oks_hd hss
  have k2 := kk p e R s m args below meth cd ad0 g0 Cc H locs cells slots ad L hP hL hl (oks_cons trivial (oks_tl hss))
  have hA : ∃ ty, ArrOfT s (K.2.2.2 c) ty := by
    rcases ht with rfl | rfl
    · exact ⟨_, (Cc.2.2.2.2.2.2.2.1.2 0 _ rfl).1⟩
    · exact ⟨_, (Cc.2.2.2.2.2.2.2.1.2 1 _ rfl).1⟩
  obtain ⟨ty, hA⟩ := hA
  rcases hk with hk | hk
  · exact W.alen (n := Int32.ofInt (ln g k i)) Cc.1 Cc.2.1 (hold_i hP.1 hi hk) (hA _ _) (by rw [arrV_size] <;> rfl) rfl rfl d k2
  · exact W.alen (n := Int32.ofInt (ln g k i)) Cc.1 Cc.2.1 (hold_l hP.1 hi hk) (hA _ _) (by rw [arrV_size] <;> rfl) rfl rfl d k2
end Rows3
end
section
/-! own text: calls, ends, the beginning of a method -/
/-- a method's words, under warmer tables -/
theorem tw_warm {s U : State} {args a' : Array Value} (hts : ∀ w ∈ TW, w.before args s = true) (hW : s.WarmedH U.vm) : ∀ w ∈ TW, w.before a' U = true := fun w hw => word_at hW (good_of_word (tw_good hw)) (hts w hw)
/-- a call of Y' out of a method: what stands ahead of it, what behind -/
def BPre (K : Kx) (R : Room) (N : Nm) (g : Ge) (ad : Nat → Nat → Nat) (as : List AV) : Pt → Array Value → Prop := fun A a => A.cells + pot g ≤ R.cells ∧ A.slots + 6 * pot g ≤ R.slots ∧ CkPre K N g ad as a A.U
def BPost (K : Kx) (Q : Qt) (g : Ge) (ad : Nat → Nat → Nat) : Pt → Array Value → Option Value → Pt → Prop := fun A _ v B =>
  ∃ (st t : State) (L : List Loc) (k n : Nat), st.heap = A.U.heap ∧ B.U.heap = t.heap ∧ B.U.vm = t.vm ∧ QK K Q ad g st (.returned v) t k n ∧ B.locs = A.locs ++ L ∧ (∀ q ∈ L, K.2.1 ≤ q.base) ∧ B.cells = A.cells + k ∧ B.slots = A.slots + n
theorem Ck.back {K : Kx} {Y : Ys} {h : Nat} {as : List AV} {N : Nm} {g : Ge} {Q : Qt} (hck : Ck K Y h as N g Q) (hok : oks as) (ad : Nat → Nat → Nat) {R : Room} {p : Program} {e : Env} {below : List Frame} {s : State} {sargs : Array Value}
    (hts : ∀ w ∈ TW, w.before sargs s = true) (hcode : Cond.code Y.1 Y.2.1 Y.2.2.1 Y.2.2.2 ∈ TW) (hini : Cond.initialized Y.1.cls ∈ TW) (hfr : h + 1 ≤ R.frames) (hlo : 8 + (Y.2.2.1 + 11) + 64 * h ≤ R.locals) :
    Back K.1 R p e below s sargs Y.1 3 8 (BPre K R N g ad as) (BPost K Q g ad) := by
  refine Back.of_free (S := headSpec (wsY Y) (rmK h g)) (bytes := Y.2.1) (maxL := Y.2.2.1) (ret := Y.2.2.2) (E := fun a st o t L k n => (∀ q ∈ L, K.2.1 ≤ q.base) ∧ QK K Q ad g st o t k n) (hck hok ad) hfr hlo ?_ ?_ (fun _ _ _ _ _ _ _ _ _ => trivial) ?_ ?_
  · intro m meth c A a X hp
    have hw := tw_warm (a' := a) hts X.warmed
    refine ⟨atoms_intro fun w hw' => ?_, hw _ hcode, hw _ hini, hp.1, hp.2.1⟩
    rcases List.mem_cons.mp hw' with rfl | h'
    · exact hw _ hcode
    · exact hw _ h'
  · intro m meth c A a g' mk X hp
    obtain ⟨-, -, h1, h2, h3, h4⟩ := hp
    exact ⟨h1, KK.moved (u := A.U) (U := A.U.calling g' mk a) (Vm.Alike.refl A.U.vm) h2, h3, h4⟩
  · intro a st o t ⟨L, k, n, hF, hL, hq⟩
    exact ⟨L, k, n, hF, hL, hq⟩
  · intro m meth c A a g' mk v t L k n X hp hq hF ⟨hL, hqk⟩
    exact ⟨A.U.calling g' mk a, t, L, k, n, rfl, rfl, rfl, hqk, rfl, hL, rfl, rfl⟩
section Rows4
variable {K : Kx} {Y Y' : Ys} {h h' : Nat} {Q : Qt} {pc pc' : Nat} {ls : List (Option AV)} {st : List AV} {N : Nm} {g : Ge}
theorem Px.back {s : State} {ad0 ad ad' : Nat → Nat → Nat} {g0 g' : Ge} {N' : Nm} {H H' : Heap} {locs L : List Loc} {cells slots k n : Nat} {st₀ t : State} {r : Option AV} {v : Option Value} (hP : Px K s ad0 g0 N g ad H locs cells slots) (h0 : st₀.heap = H) (e1 : H' = t.heap) (hL : ∀ q ∈ L, K.2.1 ≤ q.base)
    (q3 : Hold K g' N' ad' t.heap) (q4 : Agr ad ad') (q6 : st₀.heap.size ≤ t.heap.size) (q7 : ∀ q, q < K.2.1 → t.heap[q]? = st₀.heap[q]?) (q8 : k + pot g' ≤ pot g) (q9 : n + 6 * pot g' ≤ 6 * pot g) : Px K s ad0 g0 N' g' ad' H' (locs ++ L) (cells + k) (slots + n) := by
  obtain ⟨h1, h2, h3, h4, h5, h6, h7, h8⟩ := hP
  refine ⟨by rw [e1]; exact q3, h2.tr q4, fun q hq => ?_, by rw [e1]; rw [h0] at q6; omega, fun q hq => by rw [e1, q7 q hq, h0]; exact h5 q hq, by omega, by omega, h8⟩
  rcases List.mem_append.mp hq with h | h
  · exact h3 q h
  · exact hL q h
/-- behind a call -/
theorem AW.back {p : Program} {e : Env} {R : Room} {s : State} {m : MethodId} {args : Array Value} {below : List Frame} {meth : Method} {c : Code} {ad0 : Nat → Nat → Nat} {g0 : Ge} (C : Cx K Y h p R s m args meth c g0) {H : Heap} {locs : List Loc} {cells slots : Nat} {ad : Nat → Nat → Nat} {Ls : Array Slot} (hP : Px K s ad0 g0 N g ad H locs cells slots)
    (hL : lv_has Ls Y.2.2.1 (lvs ad 0 ls)) (hl : okl ls) (hs : oks st) (nL : ls.all nml = true) (nS : st.all nmo = true) {v : Option Value} {B : Pt} {vm₁ : Vm} {T : State} (hT : T.heap = H) (X' : Stand p K.1 e R s m args below meth c B.U B.locs B.cells B.slots) {a : Array Value}
    (hpost : BPost K (fun r N' g' => AW K Y h Q pc' ls (r.toList ++ st) N' g') g ad ⟨T.setVm vm₁, locs, cells, slots⟩ a v B) : ∃ t, Steps p.tables e below (B.U.setTop (F0 m pc' Ls (v.toList ++ st.map (cv ad)))) t ∧ RQ K Q below s ad0 g0 t := by
  obtain ⟨st₀, t, L, k, n, h0, e1, e2, ⟨r, N', g', ad', q1, q2, q3, q4, q5, q6, q7, q8, q9⟩, hlo, hLb, hc, hsl⟩ := hpost
  have h0' : st₀.heap = H := h0.trans hT
  have hv : v = r.map (cv ad') := Outcome.returned.inj q1
  have hst : v.toList ++ st.map (cv ad) = (r.toList ++ st).map (cv ad') := by
    rw [hv, List.map_append, map_agr q4 hs nS]
    cases r <;> rfl
  have hP' := Px.back (v := v) (r := r) hP h0' e1 hLb q3 q4 q6 q7 q8 q9
  dsimp only [Pt.locs, Pt.cells, Pt.slots] at hlo hc hsl
  have X2 : Stand p K.1 e R s m args below meth c B.U (locs ++ L) (cells + k) (slots + n) := by
    have X3 := X'
    dsimp only [Pt.locs, Pt.cells, Pt.slots] at X3
    rw [hlo, hc, hsl] at X3
    exact X3
  rw [hst]
  refine q2 p e R s m args below meth c ad0 g0 C B.U.heap (locs ++ L) (cells + k) (slots + n) ad' Ls hP' (by rw [lvs_agr q4 0 hl nL]; exact hL) hl ?_ B.U rfl X2
  intro w hw
  rcases List.mem_append.mp hw with h1 | h1
  · cases r with
    | none => cases h1
    | some x => rw [List.mem_singleton.mp h1]; exact q5 x rfl
  · exact hs w h1
theorem r_callV {k i c idx n : Nat} {q : vw_C} {as : List AV} (hat : At Y pc (.invokevirtual idx) 3 pc') (hlink : Cond.methodLink Y.1.cls idx Y'.1 ∈ TW) (hinst : Cond.instanceMethod Y'.1 ∈ TW) (hsel : Cond.selects Y'.1.cls Y'.1 Y'.1 ∈ TW) (hcode : Cond.code Y'.1 Y'.2.1 Y'.2.2.1 Y'.2.2.2 ∈ TW) (hini : Cond.initialized Y'.1.cls ∈ TW)
    (hd : Y'.1.cls ≠ "java/lang/invoke/MethodHandle" ∧ Y'.1.cls ≠ "java/lang/invoke/VarHandle" ∧ (parseMethodDescriptor Y'.1.desc).map (fun d => d.parameters.length) = some n) (hn : as.length = n) (hk : kd k = (0, c)) (hc : clsL[c]? = some q) (hq : q.1 = Y'.1.cls) (hm : Y'.2.2.1 ≤ 44) (hh : h' + 1 ≤ h)
    (hcat : (st.map cat).sum ≤ 8) (nL : ls.all nml = true) (nS : st.all nmo = true) (hck : Ck K Y' h' (vr k i :: as) N g (fun r N' g' => AW K Y h Q pc' ls (r.toList ++ st) N' g')) : AW K Y h Q pc ls (as.reverse ++ vr k i :: st) N g := by
  obtain ⟨d, rfl⟩ := hat
  intro p e R s m args below meth cd ad0 g0 C H locs cells slots ad L hP hL hl hs T hT X
  have hts := C.2.2.2.2.1
  have h8 := C.2.2.2.2.2.2.2.2
  have hsr : oks (vr k i :: st) := fun w hw => hs w (List.mem_append_right _ hw)
  have has : oks (vr k i :: as) := oks_cons (oks_hd hsr) (fun w hw => hs w (List.mem_append_left _ (List.mem_reverse.mpr hw)))
  have hK : Back K.1 R p e below s args Y'.1 3 8 (BPre K R N g ad (vr k i :: as)) (BPost K (fun r N' g' => AW K Y h Q (pc + 3) ls (r.toList ++ st) N' g') g ad) := Ck.back hck has ad hts hcode hini (by omega) (by omega)
  have hob := hold_obj hP.1 (oks_hd hsr) hk hc
  obtain ⟨cell, q1, q2, q3, -⟩ := hob
  have hfc := (C.2.2.2.2.2.2.2.1.1 c _ hc).2.1
  obtain ⟨v, vm₁, B, hW₁, X', hpost, stp⟩ := callV X C.1 (C := Y'.1.cls) (bytes := Y'.2.1) (maxL := Y'.2.2.1) (ret := Y'.2.2.2) C.2.2.2.1 (hts _ hlink) (hts _ hinst) (hts _ hsel) (hts _ hcode) ⟨hd.1, hd.2.1⟩ hK (b := ad k i) (cellB := cell) (by rw [hT]; exact q1) (by rw [q3]; rfl) (by rw [q2, ← hq]; exact hfc) (g := F0 m pc L ((as.reverse ++ vr k i :: st).map (cv ad))) rfl (hL.1.trans C.2.2.1.symm) (argsL := as.map (cv ad)) (rest := st.map (cv ad))
    (fun sig hsig => by
      have h2 := hd.2.2
      rw [hsig] at h2
      rw [List.length_map, hn]
      exact (Option.some.inj h2).symm)
    (by rw [List.map_append, List.map_reverse]; rfl)
    (by
      have : (st.map (cv ad)).map (fun v => v.category) = st.map cat := by
        rw [List.map_map]
        exact List.map_congr_left (fun v _ => cv_cat ad v)
      exact lv_room (by rw [this]; exact hcat))
    (by rw [C.2.1]; exact d)
    (fun vm₁ hW₁ => ⟨by show cells + pot g ≤ R.cells; rw [h8.2.2.1]; exact hP.2.2.2.2.2.1, by show slots + 6 * pot g ≤ R.slots; rw [h8.2.2.2]; exact hP.2.2.2.2.2.2.1, rfl, KK.moved (u := s) hW₁.alike C.2.2.2.2.2.2.2.1, by rw [State.setVm]; exact hT ▸ hP.1, by have h4 := hP.2.2.2.1; have h5 := hP.2.2.2.2.2.2.2; rw [← hT] at h4; exact Nat.le_trans h5 h4⟩)
  obtain ⟨t, a1, b1⟩ := AW.back C hP hL hl (oks_tl hsr) nL nS hT X' hpost
  exact ⟨t, stp t a1, b1⟩
theorem r_callS {idx n : Nat} {as : List AV} (hat : At Y pc (.invokestatic idx) 3 pc') (hlink : Cond.methodLink Y.1.cls idx Y'.1 ∈ TW) (hstat : Cond.static Y'.1 ∈ TW) (hcode : Cond.code Y'.1 Y'.2.1 Y'.2.2.1 Y'.2.2.2 ∈ TW) (hini : Cond.initialized Y'.1.cls ∈ TW)
    (hd : Y'.1.cls ≠ "java/lang/invoke/MethodHandle" ∧ Y'.1.cls ≠ "java/lang/invoke/VarHandle" ∧ (parseMethodDescriptor Y'.1.desc).map (fun d => d.parameters.length) = some n) (hn : as.length = n) (hm : Y'.2.2.1 ≤ 44) (hh : h' + 1 ≤ h)
    (hcat : (st.map cat).sum ≤ 8) (nL : ls.all nml = true) (nS : st.all nmo = true) (hck : Ck K Y' h' as N g (fun r N' g' => AW K Y h Q pc' ls (r.toList ++ st) N' g')) : AW K Y h Q pc ls (as.reverse ++ st) N g := by
  obtain ⟨d, rfl⟩ := hat
  intro p e R s m args below meth cd ad0 g0 C H locs cells slots ad L hP hL hl hs T hT X
  have hts := C.2.2.2.2.1
  have h8 := C.2.2.2.2.2.2.2.2
  have hsr : oks st := fun w hw => hs w (List.mem_append_right _ hw)
  have has : oks as := fun w hw => hs w (List.mem_append_left _ (List.mem_reverse.mpr hw))
  have hK : Back K.1 R p e below s args Y'.1 3 8 (BPre K R N g ad as) (BPost K (fun r N' g' => AW K Y h Q (pc + 3) ls (r.toList ++ st) N' g') g ad) := Ck.back hck has ad hts hcode hini (by omega) (by omega)
  obtain ⟨v, vm₁, B, hW₁, X', hpost, stp⟩ := callS X C.1 (bytes := Y'.2.1) (maxL := Y'.2.2.1) (ret := Y'.2.2.2) C.2.2.2.1 (hts _ hlink) (hts _ hstat) (hts _ hini) (hts _ hcode) ⟨hd.1, hd.2.1⟩ hK (g := F0 m pc L ((as.reverse ++ st).map (cv ad))) rfl (hL.1.trans C.2.2.1.symm) (argsL := as.map (cv ad)) (rest := st.map (cv ad))
    (fun sig hsig => by
      have h2 := hd.2.2
      rw [hsig] at h2
      rw [List.length_map, hn]
      exact (Option.some.inj h2).symm)
    (by rw [List.map_append, List.map_reverse])
    (by
      have : (st.map (cv ad)).map (fun v => v.category) = st.map cat := by
        rw [List.map_map]
        exact List.map_congr_left (fun v _ => cv_cat ad v)
      exact lv_room (by rw [this]; exact hcat))
    (by rw [C.2.1]; exact d)
    (fun vm₁ hW₁ => ⟨by show cells + pot g ≤ R.cells; rw [h8.2.2.1]; exact hP.2.2.2.2.2.1, by show slots + 6 * pot g ≤ R.slots; rw [h8.2.2.2]; exact hP.2.2.2.2.2.2.1, rfl, KK.moved (u := s) hW₁.alike C.2.2.2.2.2.2.2.1, by rw [State.setVm]; exact hT ▸ hP.1, by have h4 := hP.2.2.2.1; have h5 := hP.2.2.2.2.2.2.2; rw [← hT] at h4; exact Nat.le_trans h5 h4⟩)
  obtain ⟨t, a1, b1⟩ := AW.back C hP hL hl hsr nL nS hT X' hpost
  exact ⟨t, stp t a1, b1⟩
/-! ends -/
def QcE (r : Option AV) (ad : Nat → Nat → Nat) (H : Heap) : Array Value → State → Outcome → State → Prop := fun _ _ o t => o = .returned (r.map (cv ad)) ∧ t.heap = H
theorem AW.fin {p : Program} {e : Env} {R : Room} {s : State} {m : MethodId} {args : Array Value} {below : List Frame} {meth : Method} {c : Code} {ad0 : Nat → Nat → Nat} {g0 : Ge} {H : Heap} {locs : List Loc} {cells slots : Nat} {ad : Nat → Nat → Nat} {gf : JFrame} (r : Option AV) (hP : Px K s ad0 g0 N g ad H locs cells slots) (hr : okr r) (hq : Q r N g)
    (hw : (∀ t : State, t.heap = H → s.WarmedH t.vm → QcE r ad H args s (.returned (r.map (cv ad))) t) → (∀ q ∈ locs, (fun q => K.2.1 ≤ q) q.base) → W p K.1 e R s m args below meth c H locs cells slots (MQ below (QcE r ad H) args s cells slots (fun q => K.2.1 ≤ q)) gf) :
    W p K.1 e R s m args below meth c H locs cells slots (RQ K Q below s ad0 g0) gf := by
  intro T hT X
  obtain ⟨h1, h2, h3, h4, h5, h6, h7, h8⟩ := hP
  obtain ⟨t, a, o, b1, b2, ⟨b3, b4⟩, L, b5, b6⟩ := hw (fun t ht _ => ⟨rfl, ht⟩) h3 T hT X
  exact ⟨t, a, o, b1, b2, L, cells, slots, b5, b6, r, N, g, ad, b3, hq, by rw [b4]; exact h1, h2, hr, by rw [b4]; exact h4, fun q hq => by rw [b4]; exact h5 q hq, h6, h7⟩
theorem okr_n : okr none := fun _ h => by cases h
theorem okr_s {v : AV} (h : okv v) : okr (some v) := fun w e => by cases e; exact h
theorem e_int {z : Int} (hr : Y.2.2.2 = some .int) (hat : At Y pc .ireturn 1 pc') (hq : Q (some (vi z)) N g) : AW K Y h Q pc ls [vi z] N g := by
  intro p e R s m args below meth cd ad0 g0 C H locs cells slots ad L hP hL hl hs
  have hlk := C.2.2.2.2.2.1
  exact AW.fin (some (vi z)) hP (okr_s (v := vi z) trivial) hq (fun h1 h2 => W.iret C.1 C.2.1 (C.2.2.2.2.2.2.1.trans hr) h1 h2 hat.1)
theorem e_bool {z : Int} (hr : Y.2.2.2 = some .boolean) (hz : z = 0 ∨ z = 1) (hat : At Y pc .ireturn 1 pc') (hq : Q (some (vi z)) N g) : AW K Y h Q pc ls [vi z] N g := by
  intro p e R s m args below meth cd ad0 g0 C H locs cells slots ad L hP hL hl hs
  have hlk := C.2.2.2.2.2.1
  refine AW.fin (some (vi z)) hP (okr_s (v := vi z) trivial) hq (fun h1 h2 => W.zret (ty := .boolean) C.1 C.2.1 (C.2.2.2.2.2.2.1.trans hr) ?_ h1 h2 hat.1)
  rcases hz with rfl | rfl <;> rfl
theorem e_long {z : Int} (hr : Y.2.2.2 = some .long) (hat : At Y pc .lreturn 1 pc') (hq : Q (some (vl z)) N g) : AW K Y h Q pc ls [vl z] N g := by
  intro p e R s m args below meth cd ad0 g0 C H locs cells slots ad L hP hL hl hs
  have hlk := C.2.2.2.2.2.1
  exact AW.fin (some (vl z)) hP (okr_s (v := vl z) trivial) hq (fun h1 h2 => W.lret C.1 C.2.1 (C.2.2.2.2.2.2.1.trans hr) h1 h2 hat.1)
theorem e_double {z : UInt64} (hr : Y.2.2.2 = some .double) (hat : At Y pc .dreturn 1 pc') (hq : Q (some (vd z)) N g) : AW K Y h Q pc ls [vd z] N g := by
  intro p e R s m args below meth cd ad0 g0 C H locs cells slots ad L hP hL hl hs
  have hlk := C.2.2.2.2.2.1
  exact AW.fin (some (vd z)) hP (okr_s (v := vd z) trivial) hq (fun h1 h2 => W.dret C.1 C.2.1 (C.2.2.2.2.2.2.1.trans hr) h1 h2 hat.1)
theorem e_void (hr : Y.2.2.2 = none) (hat : At Y pc .return_ 1 pc') (hq : Q none N g) : AW K Y h Q pc ls [] N g := by
  intro p e R s m args below meth cd ad0 g0 C H locs cells slots ad L hP hL hl hs
  have hlk := C.2.2.2.2.2.1
  exact AW.fin none hP okr_n hq (fun h1 h2 => W.vret C.1 C.2.1 (C.2.2.2.2.2.2.1.trans hr) h1 h2 hat.1)
theorem e_ref {k i : Nat} {rt : FieldType} (hr : Y.2.2.2 = some rt) (hrt : (∃ n, rt = .object n) ∨ ∃ t, rt = .array t) (hat : At Y pc .areturn 1 pc') (hq : Q (some (vr k i)) N g) : AW K Y h Q pc ls [vr k i] N g := by
  intro p e R s m args below meth cd ad0 g0 C H locs cells slots ad L hP hL hl hs
  have hlk := C.2.2.2.2.2.1
  exact AW.fin (some (vr k i)) hP (okr_s (v := vr k i) (oks_hd hs)) hq (fun h1 h2 => W.aret C.1 C.2.1 (C.2.2.2.2.2.2.1.trans hr) hrt (Or.inr ⟨_, rfl⟩) h1 h2 hat.1)
/-! the beginning -/
def ent (as : List AV) : List (Option AV) := as.flatMap (fun v => if cat v = 2 then [some v, none] else [some v])
theorem ent_in (ad : Nat → Nat → Nat) : ∀ (as : List AV) (n : Nat) (t : List (Option AV)), (∀ v, some v ∉ t) → ∀ q, q ∈ lvs ad n (ent as ++ t) → q ∈ lv_args n (as.map (cv ad))
  | [], n, t, ht, q, hq => by
    obtain ⟨i, v, h1, -⟩ := (lvs_in ad _ n q).mp hq
    exact absurd (List.mem_of_getElem? h1) (ht v)
  | v :: as, n, t, ht, q, hq => by
    have hc := cv_cat ad v
    by_cases h2 : cat v = 2
    · have e : ent (v :: as) ++ t = some v :: none :: (ent as ++ t) := by simp [ent, h2]
      rw [e, lvs, lvs] at hq
      rw [List.map_cons, lv_args]
      rcases List.mem_cons.mp hq with h | h
      · rw [h]; exact List.mem_cons_self
      · refine List.mem_cons_of_mem _ ?_
        have := ent_in ad as (n + 1 + 1) t ht q h
        rw [hc, h2]
        exact this
    · have h1 : cat v = 1 := by
        have := lv_cat (cv ad v)
        rw [hc] at this
        omega
      have e : ent (v :: as) ++ t = some v :: (ent as ++ t) := by simp [ent, h2]
      rw [e, lvs] at hq
      rw [List.map_cons, lv_args]
      rcases List.mem_cons.mp hq with h | h
      · rw [h]; exact List.mem_cons_self
      · refine List.mem_cons_of_mem _ ?_
        have := ent_in ad as (n + 1) t ht q h
        rw [hc, h1]
        exact this
end Rows4
end
section
/-! own text: the beginning of a method; answers by their kinds -/
theorem ent_mem : ∀ {as : List AV} {v : AV}, some v ∈ ent as → v ∈ as
  | [], v, hv => by simp [ent] at hv
  | a :: as, v, hv => by
    have e : ent (a :: as) = (if cat a = 2 then [some a, none] else [some a]) ++ ent as := by simp [ent]
    rw [e] at hv
    rcases List.mem_append.mp hv with h1 | h1
    · split at h1 <;> simp at h1 <;> rw [h1] <;> exact List.mem_cons_self
    · exact List.mem_cons_of_mem _ (ent_mem h1)
theorem ent_len (ad : Nat → Nat → Nat) : ∀ (as : List AV), (lg_sl (as.map (cv ad))).length = (ent as).length
  | [] => rfl
  | a :: as => by
    have h1 := ent_len ad as
    have e1 : ent (a :: as) = (if cat a = 2 then [some a, none] else [some a]) ++ ent as := by simp [ent]
    have e2 : lg_sl ((a :: as).map (cv ad)) = (if (cv ad a).category = 2 then [.val (cv ad a), .second] else [.val (cv ad a)]) ++ lg_sl (as.map (cv ad)) := by simp [lg_sl]
    rw [e1, e2, List.length_append, List.length_append, h1, cv_cat]
    split <;> rfl
section Begin
variable {K : Kx} {Y Y' : Ys} {h h' : Nat} {Q : Qt} {pc pc' : Nat} {ls : List (Option AV)} {st : List AV} {N : Nm} {g : Ge}
theorem Ck.intro {as : List AV} (n : Nat) (hy : plainName Y.1.cls = true) (hl : (ent as).length + n = Y.2.2.1) (kk : AW K Y h Q 0 (ent as ++ List.replicate n none) [] N g) : Ck K Y h as N g Q := by
  intro hok ad
  refine MetFree.of_bodyS (code := Y.2.1) (maxLocals := Y.2.2.1) (ret := Y.2.2.2) hy ?_ ?_
  · intro args s m h hn
    obtain ⟨meth, c, h1, h2, h3, h4, h5, h6, -, -⟩ := Cond.code_spec hn (atoms_spec (ws := wsY Y) h _ List.mem_cons_self)
    exact ⟨meth, c, h1, h2, h3, h4, h5, h6⟩
  · intro p e s m args below meth c s₁ B hml hP _
    obtain ⟨rfl, hK, hH, hb⟩ := hP
    have hh0 : s₁.heap = s.heap := by rw [B.state]; rfl
    have hts : ∀ w ∈ TW, w.before (as.map (cv ad)).toArray s = true := fun w hw => atoms_spec (ws := wsY Y) B.pre w (List.mem_cons_of_mem _ hw)
    have hE := lv_entry (as.map (cv ad)) (n := Y.2.2.1) (by rw [ent_len]; omega)
    have k := kk p e (headSpec (wsY Y) (rmK h g)).room s m (as.map (cv ad)).toArray below meth c ad g ⟨B.exec, B.bytes, hml, findClass_of_methodNamed B.named, hts, B.notSynchronized, B.returns, hK, Nat.le_refl _, Nat.le_refl _, rfl, rfl⟩ s.heap [] 0 0 ad _
      ⟨hH, Agr.rf ad, fun _ h => absurd h List.not_mem_nil, Nat.le_refl _, fun _ _ => rfl, by omega, by omega, hb⟩ ⟨hE.1, hE.2.1, fun q hq => hE.2.2 q (ent_in ad as 0 _ (fun v hv => by simp at hv) q hq)⟩
      (fun v hv => by
        rcases List.mem_append.mp hv with h1 | h1
        · exact hok v (ent_mem h1)
        · simp at h1) oks_nil
    rw [← hh0] at k
    rw [show F0 m 0 _ (List.map (cv ad) []) = entryFrame m (as.map (cv ad)).toArray Y.2.2.1 from (lg_entry_eq m (as.map (cv ad)) Y.2.2.1).symm] at k
    obtain ⟨t, a1, o, b1, b2, b3⟩ := k s₁ rfl (Stand.of_body B)
    exact ⟨t, o, a1, b1, b2, b3⟩
/-! answers by their kinds -/
def qI (P : Int → Nm → Ge → Prop) : Qt := fun r N g => ∃ z, r = some (vi z) ∧ P z N g
def qL (P : Int → Nm → Ge → Prop) : Qt := fun r N g => ∃ z, r = some (vl z) ∧ P z N g
def qV (P : Nm → Ge → Prop) : Qt := fun r N g => r = none ∧ P N g
def qR (P : Nat → Nat → Nm → Ge → Prop) : Qt := fun r N g => ∃ k i, r = some (vr k i) ∧ P k i N g
def qD (P : UInt64 → Nm → Ge → Prop) : Qt := fun r N g => ∃ z, r = some (vd z) ∧ P z N g
theorem qI_b {P : Int → Nm → Ge → Prop} (hp : ∀ z N g, P z N g → AW K Y h Q pc ls (vi z :: st) N g) : ∀ r N g, qI P r N g → AW K Y h Q pc ls (r.toList ++ st) N g := fun r N g ⟨z, e, q⟩ => by subst e; exact hp z N g q
theorem qL_b {P : Int → Nm → Ge → Prop} (hp : ∀ z N g, P z N g → AW K Y h Q pc ls (vl z :: st) N g) : ∀ r N g, qL P r N g → AW K Y h Q pc ls (r.toList ++ st) N g := fun r N g ⟨z, e, q⟩ => by subst e; exact hp z N g q
theorem qV_b {P : Nm → Ge → Prop} (hp : ∀ N g, P N g → AW K Y h Q pc ls st N g) : ∀ r N g, qV P r N g → AW K Y h Q pc ls (r.toList ++ st) N g := fun r N g ⟨e, q⟩ => by subst e; exact hp N g q
theorem qR_b {P : Nat → Nat → Nm → Ge → Prop} (hp : ∀ k i N g, P k i N g → AW K Y h Q pc ls (vr k i :: st) N g) : ∀ r N g, qR P r N g → AW K Y h Q pc ls (r.toList ++ st) N g := fun r N g ⟨k, i, e, q⟩ => by subst e; exact hp k i N g q
theorem qD_b {P : UInt64 → Nm → Ge → Prop} (hp : ∀ z N g, P z N g → AW K Y h Q pc ls (vd z :: st) N g) : ∀ r N g, qD P r N g → AW K Y h Q pc ls (r.toList ++ st) N g := fun r N g ⟨z, e, q⟩ => by subst e; exact hp z N g q
theorem t_int {P : Int → Nm → Ge → Prop} {z : Int} (hr : Y.2.2.2 = some .int) (hat : At Y pc .ireturn 1 pc') (hq : P z N g) : AW K Y h (qI P) pc ls [vi z] N g := e_int hr hat ⟨z, rfl, hq⟩
theorem t_bool {P : Int → Nm → Ge → Prop} {z : Int} (hr : Y.2.2.2 = some .boolean) (hz : z = 0 ∨ z = 1) (hat : At Y pc .ireturn 1 pc') (hq : P z N g) : AW K Y h (qI P) pc ls [vi z] N g := e_bool hr hz hat ⟨z, rfl, hq⟩
theorem t_long {P : Int → Nm → Ge → Prop} {z : Int} (hr : Y.2.2.2 = some .long) (hat : At Y pc .lreturn 1 pc') (hq : P z N g) : AW K Y h (qL P) pc ls [vl z] N g := e_long hr hat ⟨z, rfl, hq⟩
theorem t_double {P : UInt64 → Nm → Ge → Prop} {z : UInt64} (hr : Y.2.2.2 = some .double) (hat : At Y pc .dreturn 1 pc') (hq : P z N g) : AW K Y h (qD P) pc ls [vd z] N g := e_double hr hat ⟨z, rfl, hq⟩
theorem t_void {P : Nm → Ge → Prop} (hr : Y.2.2.2 = none) (hat : At Y pc .return_ 1 pc') (hq : P N g) : AW K Y h (qV P) pc ls [] N g := e_void hr hat ⟨rfl, hq⟩
theorem t_ref {P : Nat → Nat → Nm → Ge → Prop} {k i : Nat} {rt : FieldType} (hr : Y.2.2.2 = some rt) (hrt : (∃ n, rt = .object n) ∨ ∃ t, rt = .array t) (hat : At Y pc .areturn 1 pc') (hq : P k i N g) : AW K Y h (qR P) pc ls [vr k i] N g := e_ref hr hrt hat ⟨k, i, rfl, hq⟩
end Begin
end
section
/-! own text, printed by wip/whole/gen/rows_own.py: links, and rows for the program at hand -/
theorem kNL : Cond.initialized RL ∈ TW := tw_t 0 (by decide +kernel) (by decide +kernel)
theorem kNX9 : Cond.initialized RX9 ∈ TW := tw_t 1 (by decide +kernel) (by decide +kernel)
theorem kNX4 : Cond.initialized RX4 ∈ TW := tw_t 2 (by decide +kernel) (by decide +kernel)
theorem kNX3 : Cond.initialized RX3 ∈ TW := tw_t 3 (by decide +kernel) (by decide +kernel)
theorem kNX2 : Cond.initialized RX2 ∈ TW := tw_t 4 (by decide +kernel) (by decide +kernel)
theorem kNX1 : Cond.initialized RX1 ∈ TW := tw_t 5 (by decide +kernel) (by decide +kernel)
theorem kNX8 : Cond.initialized RX8 ∈ TW := tw_t 6 (by decide +kernel) (by decide +kernel)
theorem kNX6 : Cond.initialized RX6 ∈ TW := tw_t 7 (by decide +kernel) (by decide +kernel)
theorem kNX5 : Cond.initialized RX5 ∈ TW := tw_t 8 (by decide +kernel) (by decide +kernel)
theorem kNX10 : Cond.initialized RX10 ∈ TW := tw_t 9 (by decide +kernel) (by decide +kernel)
theorem kNJ7 : Cond.initialized RJ7 ∈ TW := tw_t 10 (by decide +kernel) (by decide +kernel)
theorem kNJ9 : Cond.initialized RJ9 ∈ TW := tw_t 11 (by decide +kernel) (by decide +kernel)
theorem kNJ10 : Cond.initialized RJ10 ∈ TW := tw_t 12 (by decide +kernel) (by decide +kernel)
theorem kNX7 : Cond.initialized RX7 ∈ TW := tw_t 17 (by decide +kernel) (by decide +kernel)
theorem kNX0 : Cond.initialized RX0 ∈ TW := tw_t 18 (by decide +kernel) (by decide +kernel)
theorem kNJxd2413 : Cond.initialized RJxd2413 ∈ TW := tw_t 19 (by decide +kernel) (by decide +kernel)
theorem kNJxe99ae : Cond.initialized RJxe99ae ∈ TW := tw_t 20 (by decide +kernel) (by decide +kernel)
theorem kNJxf58ca : Cond.initialized RJxf58ca ∈ TW := tw_t 21 (by decide +kernel) (by decide +kernel)
theorem kNJ13 : Cond.initialized RJ13 ∈ TW := tw_t 22 (by decide +kernel) (by decide +kernel)
theorem kML_15 : Cond.methodLink RL 15 yX9_init ∈ TW := tw_t 25 (by decide +kernel) (by decide +kernel)
theorem kIX9_init : Cond.instanceMethod yX9_init ∈ TW := tw_t 26 (by decide +kernel) (by decide +kernel)
theorem kCX9_init : Cond.code yX9_init cX9_init 1 none ∈ TW := tw_t 27 (by decide +kernel) (by decide +kernel)
theorem kIX4_init : Cond.instanceMethod yX4_init ∈ TW := tw_t 34 (by decide +kernel) (by decide +kernel)
theorem kCX4_init : Cond.code yX4_init cX4_init 1 none ∈ TW := tw_t 35 (by decide +kernel) (by decide +kernel)
theorem kFX4_9 : Cond.fieldLink RX4 9 RX4 "tape" "[I" ∈ TW := tw_t 37 (by decide +kernel) (by decide +kernel)
theorem kFX4_15 : Cond.fieldLink RX4 15 RX4 "length" "I" ∈ TW := tw_t 38 (by decide +kernel) (by decide +kernel)
theorem kFX9_76 : Cond.fieldLink RX9 76 RX4 "length" "I" ∈ TW := tw_t 39 (by decide +kernel) (by decide +kernel)
theorem kFX4_19 : Cond.fieldLink RX4 19 RX4 "place" "I" ∈ TW := tw_t 40 (by decide +kernel) (by decide +kernel)
theorem kFX4_22 : Cond.fieldLink RX4 22 RX4 "wrong" "I" ∈ TW := tw_t 41 (by decide +kernel) (by decide +kernel)
theorem kFX4_25 : Cond.fieldLink RX4 25 RX4 "benefitTold" "Z" ∈ TW := tw_t 42 (by decide +kernel) (by decide +kernel)
theorem kIX3_init : Cond.instanceMethod yX3_init ∈ TW := tw_t 58 (by decide +kernel) (by decide +kernel)
theorem kCX3_init : Cond.code yX3_init cX3_init 1 none ∈ TW := tw_t 59 (by decide +kernel) (by decide +kernel)
theorem kFX3_9 : Cond.fieldLink RX3 9 RX3 "sums" "[J" ∈ TW := tw_t 61 (by decide +kernel) (by decide +kernel)
theorem kFX2_63 : Cond.fieldLink RX2 63 RX3 "sums" "[J" ∈ TW := tw_t 62 (by decide +kernel) (by decide +kernel)
theorem kFX9_168 : Cond.fieldLink RX9 168 RX3 "sums" "[J" ∈ TW := tw_t 63 (by decide +kernel) (by decide +kernel)
theorem kFX3_15 : Cond.fieldLink RX3 15 RX3 "values" "[J" ∈ TW := tw_t 64 (by decide +kernel) (by decide +kernel)
theorem kFX2_49 : Cond.fieldLink RX2 49 RX3 "values" "[J" ∈ TW := tw_t 65 (by decide +kernel) (by decide +kernel)
theorem kFX9_161 : Cond.fieldLink RX9 161 RX3 "values" "[J" ∈ TW := tw_t 66 (by decide +kernel) (by decide +kernel)
theorem kFX3_18 : Cond.fieldLink RX3 18 RX3 "segments" "[I" ∈ TW := tw_t 67 (by decide +kernel) (by decide +kernel)
theorem kFX2_56 : Cond.fieldLink RX2 56 RX3 "segments" "[I" ∈ TW := tw_t 68 (by decide +kernel) (by decide +kernel)
theorem kFX9_171 : Cond.fieldLink RX9 171 RX3 "segments" "[I" ∈ TW := tw_t 69 (by decide +kernel) (by decide +kernel)
theorem kMX9_25 : Cond.methodLink RX9 25 yX2_init ∈ TW := tw_t 80 (by decide +kernel) (by decide +kernel)
theorem kIX2_init : Cond.instanceMethod yX2_init ∈ TW := tw_t 81 (by decide +kernel) (by decide +kernel)
theorem kCX2_init : Cond.code yX2_init cX2_init 2 none ∈ TW := tw_t 82 (by decide +kernel) (by decide +kernel)
theorem kIX1_init : Cond.instanceMethod yX1_init ∈ TW := tw_t 90 (by decide +kernel) (by decide +kernel)
theorem kCX1_init : Cond.code yX1_init cX1_init 1 none ∈ TW := tw_t 91 (by decide +kernel) (by decide +kernel)
theorem kFX1_9 : Cond.fieldLink RX1 9 RX1 "pieces" "I" ∈ TW := tw_t 93 (by decide +kernel) (by decide +kernel)
theorem kFX9_104 : Cond.fieldLink RX9 104 RX1 "pieces" "I" ∈ TW := tw_t 94 (by decide +kernel) (by decide +kernel)
theorem kFX1_15 : Cond.fieldLink RX1 15 RX1 "starts" "[I" ∈ TW := tw_t 95 (by decide +kernel) (by decide +kernel)
theorem kFX9_174 : Cond.fieldLink RX9 174 RX1 "starts" "[I" ∈ TW := tw_t 96 (by decide +kernel) (by decide +kernel)
theorem kFX1_19 : Cond.fieldLink RX1 19 RX1 "values" "[J" ∈ TW := tw_t 97 (by decide +kernel) (by decide +kernel)
theorem kFX9_180 : Cond.fieldLink RX9 180 RX1 "values" "[J" ∈ TW := tw_t 98 (by decide +kernel) (by decide +kernel)
theorem kFX1_23 : Cond.fieldLink RX1 23 RX1 "gains" "[J" ∈ TW := tw_t 99 (by decide +kernel) (by decide +kernel)
theorem kFX9_181 : Cond.fieldLink RX9 181 RX1 "gains" "[J" ∈ TW := tw_t 100 (by decide +kernel) (by decide +kernel)
theorem kFX1_26 : Cond.fieldLink RX1 26 RX1 "endWage" "I" ∈ TW := tw_t 101 (by decide +kernel) (by decide +kernel)
theorem kFX1_29 : Cond.fieldLink RX1 29 RX1 "endValue" "J" ∈ TW := tw_t 102 (by decide +kernel) (by decide +kernel)
theorem kFX1_33 : Cond.fieldLink RX1 33 RX1 "alone" "Z" ∈ TW := tw_t 103 (by decide +kernel) (by decide +kernel)
theorem kFX1_37 : Cond.fieldLink RX1 37 RX1 "seat" "I" ∈ TW := tw_t 104 (by decide +kernel) (by decide +kernel)
theorem kFX2_11 : Cond.fieldLink RX2 11 RX2 "all" "[LPayPromise$Line;" ∈ TW := tw_t 122 (by decide +kernel) (by decide +kernel)
theorem kFX9_356 : Cond.fieldLink RX9 356 RX2 "all" "[LPayPromise$Line;" ∈ TW := tw_t 123 (by decide +kernel) (by decide +kernel)
theorem kFX2_19 : Cond.fieldLink RX2 19 RX2 "wagesOf" "[[I" ∈ TW := tw_t 124 (by decide +kernel) (by decide +kernel)
theorem kFX9_146 : Cond.fieldLink RX9 146 RX2 "wagesOf" "[[I" ∈ TW := tw_t 125 (by decide +kernel) (by decide +kernel)
theorem kFX2_22 : Cond.fieldLink RX2 22 RX2 "gains" "[J" ∈ TW := tw_t 126 (by decide +kernel) (by decide +kernel)
theorem kIX8_init : Cond.instanceMethod yX8_init ∈ TW := tw_t 139 (by decide +kernel) (by decide +kernel)
theorem kCX8_init : Cond.code yX8_init cX8_init 1 none ∈ TW := tw_t 140 (by decide +kernel) (by decide +kernel)
theorem kFX8_9 : Cond.fieldLink RX8 9 RX8 "wages" "[I" ∈ TW := tw_t 142 (by decide +kernel) (by decide +kernel)
theorem kFX9_256 : Cond.fieldLink RX9 256 RX8 "wages" "[I" ∈ TW := tw_t 143 (by decide +kernel) (by decide +kernel)
theorem kFX8_15 : Cond.fieldLink RX8 15 RX8 "passed" "I" ∈ TW := tw_t 144 (by decide +kernel) (by decide +kernel)
theorem kFX9_88 : Cond.fieldLink RX9 88 RX8 "passed" "I" ∈ TW := tw_t 145 (by decide +kernel) (by decide +kernel)
theorem kIX6_init : Cond.instanceMethod yX6_init ∈ TW := tw_t 154 (by decide +kernel) (by decide +kernel)
theorem kCX6_init : Cond.code yX6_init cX6_init 1 none ∈ TW := tw_t 155 (by decide +kernel) (by decide +kernel)
theorem kFX6_9 : Cond.fieldLink RX6 9 RX6 "written" "I" ∈ TW := tw_t 157 (by decide +kernel) (by decide +kernel)
theorem kFX6_15 : Cond.fieldLink RX6 15 RX6 "wanted" "I" ∈ TW := tw_t 158 (by decide +kernel) (by decide +kernel)
theorem kFX6_18 : Cond.fieldLink RX6 18 RX6 "found" "I" ∈ TW := tw_t 159 (by decide +kernel) (by decide +kernel)
theorem kIX5_init : Cond.instanceMethod yX5_init ∈ TW := tw_t 170 (by decide +kernel) (by decide +kernel)
theorem kCX5_init : Cond.code yX5_init cX5_init 1 none ∈ TW := tw_t 171 (by decide +kernel) (by decide +kernel)
theorem kFX5_9 : Cond.fieldLink RX5 9 RX5 "accounts" "I" ∈ TW := tw_t 176 (by decide +kernel) (by decide +kernel)
theorem kFX2_27 : Cond.fieldLink RX2 27 RX5 "accounts" "I" ∈ TW := tw_t 177 (by decide +kernel) (by decide +kernel)
theorem kFX3_32 : Cond.fieldLink RX3 32 RX5 "accounts" "I" ∈ TW := tw_t 178 (by decide +kernel) (by decide +kernel)
theorem kFX4_46 : Cond.fieldLink RX4 46 RX5 "accounts" "I" ∈ TW := tw_t 179 (by decide +kernel) (by decide +kernel)
theorem kFX9_91 : Cond.fieldLink RX9 91 RX5 "accounts" "I" ∈ TW := tw_t 180 (by decide +kernel) (by decide +kernel)
theorem kFX5_15 : Cond.fieldLink RX5 15 RX5 "benefit" "I" ∈ TW := tw_t 181 (by decide +kernel) (by decide +kernel)
theorem kFX3_22 : Cond.fieldLink RX3 22 RX5 "benefit" "I" ∈ TW := tw_t 182 (by decide +kernel) (by decide +kernel)
theorem kFX9_94 : Cond.fieldLink RX9 94 RX5 "benefit" "I" ∈ TW := tw_t 183 (by decide +kernel) (by decide +kernel)
theorem kFX4_63 : Cond.fieldLink RX4 63 RX5 "benefit" "I" ∈ TW := tw_t 184 (by decide +kernel) (by decide +kernel)
theorem kFX5_18 : Cond.fieldLink RX5 18 RX5 "termCounts" "[I" ∈ TW := tw_t 185 (by decide +kernel) (by decide +kernel)
theorem kFX6_32 : Cond.fieldLink RX6 32 RX5 "termCounts" "[I" ∈ TW := tw_t 186 (by decide +kernel) (by decide +kernel)
theorem kFX2_84 : Cond.fieldLink RX2 84 RX5 "termCounts" "[I" ∈ TW := tw_t 187 (by decide +kernel) (by decide +kernel)
theorem kFX3_60 : Cond.fieldLink RX3 60 RX5 "termCounts" "[I" ∈ TW := tw_t 188 (by decide +kernel) (by decide +kernel)
theorem kFX9_97 : Cond.fieldLink RX9 97 RX5 "termCounts" "[I" ∈ TW := tw_t 189 (by decide +kernel) (by decide +kernel)
theorem kFX5_24 : Cond.fieldLink RX5 24 RX5 "terms" "[[I" ∈ TW := tw_t 190 (by decide +kernel) (by decide +kernel)
theorem kFX3_53 : Cond.fieldLink RX3 53 RX5 "terms" "[[I" ∈ TW := tw_t 191 (by decide +kernel) (by decide +kernel)
theorem kFX2_81 : Cond.fieldLink RX2 81 RX5 "terms" "[[I" ∈ TW := tw_t 192 (by decide +kernel) (by decide +kernel)
theorem kFX6_42 : Cond.fieldLink RX6 42 RX5 "terms" "[[I" ∈ TW := tw_t 193 (by decide +kernel) (by decide +kernel)
theorem kFX5_27 : Cond.fieldLink RX5 27 RX5 "signs" "[[I" ∈ TW := tw_t 194 (by decide +kernel) (by decide +kernel)
theorem kFX3_57 : Cond.fieldLink RX3 57 RX5 "signs" "[[I" ∈ TW := tw_t 195 (by decide +kernel) (by decide +kernel)
theorem kFX6_38 : Cond.fieldLink RX6 38 RX5 "signs" "[[I" ∈ TW := tw_t 196 (by decide +kernel) (by decide +kernel)
theorem kFX2_87 : Cond.fieldLink RX2 87 RX5 "signs" "[[I" ∈ TW := tw_t 197 (by decide +kernel) (by decide +kernel)
theorem kFX5_30 : Cond.fieldLink RX5 30 RX5 "depths" "[I" ∈ TW := tw_t 198 (by decide +kernel) (by decide +kernel)
theorem kFX9_125 : Cond.fieldLink RX9 125 RX5 "depths" "[I" ∈ TW := tw_t 199 (by decide +kernel) (by decide +kernel)
theorem kFX4_70 : Cond.fieldLink RX4 70 RX5 "depths" "[I" ∈ TW := tw_t 200 (by decide +kernel) (by decide +kernel)
theorem kFX5_33 : Cond.fieldLink RX5 33 RX5 "segmentCounts" "[I" ∈ TW := tw_t 201 (by decide +kernel) (by decide +kernel)
theorem kFX2_94 : Cond.fieldLink RX2 94 RX5 "segmentCounts" "[I" ∈ TW := tw_t 202 (by decide +kernel) (by decide +kernel)
theorem kFX6_49 : Cond.fieldLink RX6 49 RX5 "segmentCounts" "[I" ∈ TW := tw_t 203 (by decide +kernel) (by decide +kernel)
theorem kFX9_122 : Cond.fieldLink RX9 122 RX5 "segmentCounts" "[I" ∈ TW := tw_t 204 (by decide +kernel) (by decide +kernel)
theorem kFX5_36 : Cond.fieldLink RX5 36 RX5 "froms" "[[I" ∈ TW := tw_t 205 (by decide +kernel) (by decide +kernel)
theorem kFX3_65 : Cond.fieldLink RX3 65 RX5 "froms" "[[I" ∈ TW := tw_t 206 (by decide +kernel) (by decide +kernel)
theorem kFX2_99 : Cond.fieldLink RX2 99 RX5 "froms" "[[I" ∈ TW := tw_t 207 (by decide +kernel) (by decide +kernel)
theorem kFX6_52 : Cond.fieldLink RX6 52 RX5 "froms" "[[I" ∈ TW := tw_t 208 (by decide +kernel) (by decide +kernel)
theorem kFX9_132 : Cond.fieldLink RX9 132 RX5 "froms" "[[I" ∈ TW := tw_t 209 (by decide +kernel) (by decide +kernel)
theorem kFX4_95 : Cond.fieldLink RX4 95 RX5 "froms" "[[I" ∈ TW := tw_t 210 (by decide +kernel) (by decide +kernel)
theorem kFX5_39 : Cond.fieldLink RX5 39 RX5 "ats" "[[I" ∈ TW := tw_t 211 (by decide +kernel) (by decide +kernel)
theorem kFX6_58 : Cond.fieldLink RX6 58 RX5 "ats" "[[I" ∈ TW := tw_t 212 (by decide +kernel) (by decide +kernel)
theorem kFX9_136 : Cond.fieldLink RX9 136 RX5 "ats" "[[I" ∈ TW := tw_t 213 (by decide +kernel) (by decide +kernel)
theorem kFX5_42 : Cond.fieldLink RX5 42 RX5 "slopes" "[[I" ∈ TW := tw_t 214 (by decide +kernel) (by decide +kernel)
theorem kFX2_68 : Cond.fieldLink RX2 68 RX5 "slopes" "[[I" ∈ TW := tw_t 215 (by decide +kernel) (by decide +kernel)
theorem kFX3_74 : Cond.fieldLink RX3 74 RX5 "slopes" "[[I" ∈ TW := tw_t 216 (by decide +kernel) (by decide +kernel)
theorem kFX6_61 : Cond.fieldLink RX6 61 RX5 "slopes" "[[I" ∈ TW := tw_t 217 (by decide +kernel) (by decide +kernel)
theorem kFX9_139 : Cond.fieldLink RX9 139 RX5 "slopes" "[[I" ∈ TW := tw_t 218 (by decide +kernel) (by decide +kernel)
theorem kFX5_47 : Cond.fieldLink RX5 47 RX5 "bases" "[[J" ∈ TW := tw_t 219 (by decide +kernel) (by decide +kernel)
theorem kFX3_68 : Cond.fieldLink RX3 68 RX5 "bases" "[[J" ∈ TW := tw_t 220 (by decide +kernel) (by decide +kernel)
theorem kFX9_12 : Cond.fieldLink RX9 12 RX9 "reader" "LPayPromise$Reader;" ∈ TW := tw_t 244 (by decide +kernel) (by decide +kernel)
theorem kFX9_19 : Cond.fieldLink RX9 19 RX9 "point" "LPayPromise$Point;" ∈ TW := tw_t 245 (by decide +kernel) (by decide +kernel)
theorem kFX9_26 : Cond.fieldLink RX9 26 RX9 "lines" "LPayPromise$Lines;" ∈ TW := tw_t 246 (by decide +kernel) (by decide +kernel)
theorem kFX9_33 : Cond.fieldLink RX9 33 RX9 "between" "LPayPromise$Line;" ∈ TW := tw_t 247 (by decide +kernel) (by decide +kernel)
theorem kFX9_40 : Cond.fieldLink RX9 40 RX9 "months" "LPayPromise$Year;" ∈ TW := tw_t 248 (by decide +kernel) (by decide +kernel)
theorem kFX9_47 : Cond.fieldLink RX9 47 RX9 "speller" "LPayPromise$Speller;" ∈ TW := tw_t 249 (by decide +kernel) (by decide +kernel)
theorem kFX9_51 : Cond.fieldLink RX9 51 RX9 "refusals" "[I" ∈ TW := tw_t 250 (by decide +kernel) (by decide +kernel)
theorem kFX9_58 : Cond.fieldLink RX9 58 RX9 "rules" "LPayPromise$Rules;" ∈ TW := tw_t 251 (by decide +kernel) (by decide +kernel)
theorem kFX9_62 : Cond.fieldLink RX9 62 RX9 "draft" "LPayPromise$Rules;" ∈ TW := tw_t 252 (by decide +kernel) (by decide +kernel)
theorem kFX9_65 : Cond.fieldLink RX9 65 RX9 "hasDesk" "Z" ∈ TW := tw_t 253 (by decide +kernel) (by decide +kernel)
theorem kFX9_69 : Cond.fieldLink RX9 69 RX9 "stale" "Z" ∈ TW := tw_t 254 (by decide +kernel) (by decide +kernel)
theorem kML_19 : Cond.methodLink RL 19 yX9_feed ∈ TW := tw_t 278 (by decide +kernel) (by decide +kernel)
theorem kIX9_feed : Cond.instanceMethod yX9_feed ∈ TW := tw_t 279 (by decide +kernel) (by decide +kernel)
theorem kLX9_feed : Cond.selects RX9 yX9_feed yX9_feed ∈ TW := tw_t 280 (by decide +kernel) (by decide +kernel)
theorem kCX9_feed : Cond.code yX9_feed cX9_feed 7 (some .int) ∈ TW := tw_t 281 (by decide +kernel) (by decide +kernel)
theorem kMX9_72 : Cond.methodLink RX9 72 yX9_bytesIn ∈ TW := tw_t 282 (by decide +kernel) (by decide +kernel)
theorem kSX9_bytesIn : Cond.static yX9_bytesIn ∈ TW := tw_t 283 (by decide +kernel) (by decide +kernel)
theorem kCX9_bytesIn : Cond.code yX9_bytesIn cX9_bytesIn 3 (some .int) ∈ TW := tw_t 284 (by decide +kernel) (by decide +kernel)
theorem kMX9_80 : Cond.methodLink RX9 80 yX4_append ∈ TW := tw_t 285 (by decide +kernel) (by decide +kernel)
theorem kIX4_append : Cond.instanceMethod yX4_append ∈ TW := tw_t 286 (by decide +kernel) (by decide +kernel)
theorem kLX4_append : Cond.selects RX4 yX4_append yX4_append ∈ TW := tw_t 287 (by decide +kernel) (by decide +kernel)
theorem kCX4_append : Cond.code yX4_append cX4_append 4 none ∈ TW := tw_t 288 (by decide +kernel) (by decide +kernel)
theorem kML_24 : Cond.methodLink RL 24 yX9_end ∈ TW := tw_t 289 (by decide +kernel) (by decide +kernel)
theorem kIX9_end : Cond.instanceMethod yX9_end ∈ TW := tw_t 290 (by decide +kernel) (by decide +kernel)
theorem kLX9_end : Cond.selects RX9 yX9_end yX9_end ∈ TW := tw_t 291 (by decide +kernel) (by decide +kernel)
theorem kCX9_end : Cond.code yX9_end cX9_end 2 (some .boolean) ∈ TW := tw_t 292 (by decide +kernel) (by decide +kernel)
theorem kML_29 : Cond.methodLink RL 29 yX9_fault ∈ TW := tw_t 293 (by decide +kernel) (by decide +kernel)
theorem kIX9_fault : Cond.instanceMethod yX9_fault ∈ TW := tw_t 294 (by decide +kernel) (by decide +kernel)
theorem kLX9_fault : Cond.selects RX9 yX9_fault yX9_fault ∈ TW := tw_t 295 (by decide +kernel) (by decide +kernel)
theorem kCX9_fault : Cond.code yX9_fault cX9_fault 1 (some .int) ∈ TW := tw_t 296 (by decide +kernel) (by decide +kernel)
theorem kMX9_84 : Cond.methodLink RX9 84 yX4_read ∈ TW := tw_t 297 (by decide +kernel) (by decide +kernel)
theorem kIX4_read : Cond.instanceMethod yX4_read ∈ TW := tw_t 298 (by decide +kernel) (by decide +kernel)
theorem kLX4_read : Cond.selects RX4 yX4_read yX4_read ∈ TW := tw_t 299 (by decide +kernel) (by decide +kernel)
theorem kCX4_read : Cond.code yX4_read cX4_read 5 (some .int) ∈ TW := tw_t 300 (by decide +kernel) (by decide +kernel)
theorem kMX4_29 : Cond.methodLink RX4 29 yX5_clear ∈ TW := tw_t 301 (by decide +kernel) (by decide +kernel)
theorem kIX5_clear : Cond.instanceMethod yX5_clear ∈ TW := tw_t 302 (by decide +kernel) (by decide +kernel)
theorem kLX5_clear : Cond.selects RX5 yX5_clear yX5_clear ∈ TW := tw_t 303 (by decide +kernel) (by decide +kernel)
theorem kCX5_clear : Cond.code yX5_clear cX5_clear 1 none ∈ TW := tw_t 304 (by decide +kernel) (by decide +kernel)
theorem kMX5_50 : Cond.methodLink RX5 50 yJ7_fill_53178 ∈ TW := tw_t 305 (by decide +kernel) (by decide +kernel)
theorem kSJ7_fill_53178 : Cond.static yJ7_fill_53178 ∈ TW := tw_t 306 (by decide +kernel) (by decide +kernel)
theorem kCJ7_fill_53178 : Cond.code yJ7_fill_53178 cJ7_fill_53178 4 none ∈ TW := tw_t 307 (by decide +kernel) (by decide +kernel)
theorem kMX4_34 : Cond.methodLink RX4 34 yX4_look ∈ TW := tw_t 308 (by decide +kernel) (by decide +kernel)
theorem kIX4_look : Cond.instanceMethod yX4_look ∈ TW := tw_t 310 (by decide +kernel) (by decide +kernel)
theorem kCX4_look : Cond.code yX4_look cX4_look 1 (some .int) ∈ TW := tw_t 311 (by decide +kernel) (by decide +kernel)
theorem kMX4_38 : Cond.methodLink RX4 38 yX4_readPaid ∈ TW := tw_t 312 (by decide +kernel) (by decide +kernel)
theorem kIX4_readPaid : Cond.instanceMethod yX4_readPaid ∈ TW := tw_t 314 (by decide +kernel) (by decide +kernel)
theorem kCX4_readPaid : Cond.code yX4_readPaid cX4_readPaid 2 none ∈ TW := tw_t 315 (by decide +kernel) (by decide +kernel)
theorem kMX4_56 : Cond.methodLink RX4 56 yX4_take ∈ TW := tw_t 316 (by decide +kernel) (by decide +kernel)
theorem kIX4_take : Cond.instanceMethod yX4_take ∈ TW := tw_t 318 (by decide +kernel) (by decide +kernel)
theorem kCX4_take : Cond.code yX4_take cX4_take 2 (some .boolean) ∈ TW := tw_t 319 (by decide +kernel) (by decide +kernel)
theorem kMX4_52 : Cond.methodLink RX4 52 yX4_fail ∈ TW := tw_t 320 (by decide +kernel) (by decide +kernel)
theorem kIX4_fail : Cond.instanceMethod yX4_fail ∈ TW := tw_t 322 (by decide +kernel) (by decide +kernel)
theorem kCX4_fail : Cond.code yX4_fail cX4_fail 2 (some .boolean) ∈ TW := tw_t 323 (by decide +kernel) (by decide +kernel)
theorem kMX4_66 : Cond.methodLink RX4 66 yX4_readTerms ∈ TW := tw_t 324 (by decide +kernel) (by decide +kernel)
theorem kIX4_readTerms : Cond.instanceMethod yX4_readTerms ∈ TW := tw_t 326 (by decide +kernel) (by decide +kernel)
theorem kCX4_readTerms : Cond.code yX4_readTerms cX4_readTerms 7 (some .boolean) ∈ TW := tw_t 327 (by decide +kernel) (by decide +kernel)
theorem kMX4_84 : Cond.methodLink RX4 84 yX4_termOf ∈ TW := tw_t 328 (by decide +kernel) (by decide +kernel)
theorem kSX4_termOf : Cond.static yX4_termOf ∈ TW := tw_t 329 (by decide +kernel) (by decide +kernel)
theorem kCX4_termOf : Cond.code yX4_termOf cX4_termOf 2 (some .int) ∈ TW := tw_t 330 (by decide +kernel) (by decide +kernel)
theorem kMX4_87 : Cond.methodLink RX4 87 yX5_addTerm ∈ TW := tw_t 331 (by decide +kernel) (by decide +kernel)
theorem kIX5_addTerm : Cond.instanceMethod yX5_addTerm ∈ TW := tw_t 332 (by decide +kernel) (by decide +kernel)
theorem kLX5_addTerm : Cond.selects RX5 yX5_addTerm yX5_addTerm ∈ TW := tw_t 333 (by decide +kernel) (by decide +kernel)
theorem kCX5_addTerm : Cond.code yX5_addTerm cX5_addTerm 4 none ∈ TW := tw_t 334 (by decide +kernel) (by decide +kernel)
theorem kMX4_42 : Cond.methodLink RX4 42 yX4_readBenefit ∈ TW := tw_t 335 (by decide +kernel) (by decide +kernel)
theorem kIX4_readBenefit : Cond.instanceMethod yX4_readBenefit ∈ TW := tw_t 337 (by decide +kernel) (by decide +kernel)
theorem kCX4_readBenefit : Cond.code yX4_readBenefit cX4_readBenefit 3 (some .boolean) ∈ TW := tw_t 338 (by decide +kernel) (by decide +kernel)
theorem kMX4_59 : Cond.methodLink RX4 59 yX4_readNumber ∈ TW := tw_t 339 (by decide +kernel) (by decide +kernel)
theorem kIX4_readNumber : Cond.instanceMethod yX4_readNumber ∈ TW := tw_t 341 (by decide +kernel) (by decide +kernel)
theorem kCX4_readNumber : Cond.code yX4_readNumber cX4_readNumber 5 (some .int) ∈ TW := tw_t 342 (by decide +kernel) (by decide +kernel)
theorem kMX4_103 : Cond.methodLink RX4 103 yX4_isDigit ∈ TW := tw_t 343 (by decide +kernel) (by decide +kernel)
theorem kIX4_isDigit : Cond.instanceMethod yX4_isDigit ∈ TW := tw_t 345 (by decide +kernel) (by decide +kernel)
theorem kCX4_isDigit : Cond.code yX4_isDigit cX4_isDigit 2 (some .boolean) ∈ TW := tw_t 346 (by decide +kernel) (by decide +kernel)
theorem kMX4_49 : Cond.methodLink RX4 49 yX4_readRule ∈ TW := tw_t 347 (by decide +kernel) (by decide +kernel)
theorem kIX4_readRule : Cond.instanceMethod yX4_readRule ∈ TW := tw_t 349 (by decide +kernel) (by decide +kernel)
theorem kCX4_readRule : Cond.code yX4_readRule cX4_readRule 4 (some .boolean) ∈ TW := tw_t 350 (by decide +kernel) (by decide +kernel)
theorem kMX4_73 : Cond.methodLink RX4 73 yX5_depthOfTerms ∈ TW := tw_t 351 (by decide +kernel) (by decide +kernel)
theorem kIX5_depthOfTerms : Cond.instanceMethod yX5_depthOfTerms ∈ TW := tw_t 352 (by decide +kernel) (by decide +kernel)
theorem kLX5_depthOfTerms : Cond.selects RX5 yX5_depthOfTerms yX5_depthOfTerms ∈ TW := tw_t 353 (by decide +kernel) (by decide +kernel)
theorem kCX5_depthOfTerms : Cond.code yX5_depthOfTerms cX5_depthOfTerms 5 (some .int) ∈ TW := tw_t 354 (by decide +kernel) (by decide +kernel)
theorem kMX5_56 : Cond.methodLink RX5 56 yJ9_max_7cf53 ∈ TW := tw_t 355 (by decide +kernel) (by decide +kernel)
theorem kSJ9_max_7cf53 : Cond.static yJ9_max_7cf53 ∈ TW := tw_t 356 (by decide +kernel) (by decide +kernel)
theorem kCJ9_max_7cf53 : Cond.code yJ9_max_7cf53 cJ9_max_7cf53 2 (some .int) ∈ TW := tw_t 357 (by decide +kernel) (by decide +kernel)
theorem kMX4_77 : Cond.methodLink RX4 77 yX4_readSegments ∈ TW := tw_t 358 (by decide +kernel) (by decide +kernel)
theorem kIX4_readSegments : Cond.instanceMethod yX4_readSegments ∈ TW := tw_t 360 (by decide +kernel) (by decide +kernel)
theorem kCX4_readSegments : Cond.code yX4_readSegments cX4_readSegments 6 (some .boolean) ∈ TW := tw_t 361 (by decide +kernel) (by decide +kernel)
theorem kMX4_91 : Cond.methodLink RX4 91 yX4_readSegment ∈ TW := tw_t 362 (by decide +kernel) (by decide +kernel)
theorem kIX4_readSegment : Cond.instanceMethod yX4_readSegment ∈ TW := tw_t 364 (by decide +kernel) (by decide +kernel)
theorem kCX4_readSegment : Cond.code yX4_readSegment cX4_readSegment 8 (some .boolean) ∈ TW := tw_t 365 (by decide +kernel) (by decide +kernel)
theorem kMX4_99 : Cond.methodLink RX4 99 yX5_addSegment ∈ TW := tw_t 366 (by decide +kernel) (by decide +kernel)
theorem kIX5_addSegment : Cond.instanceMethod yX5_addSegment ∈ TW := tw_t 367 (by decide +kernel) (by decide +kernel)
theorem kLX5_addSegment : Cond.selects RX5 yX5_addSegment yX5_addSegment ∈ TW := tw_t 368 (by decide +kernel) (by decide +kernel)
theorem kCX5_addSegment : Cond.code yX5_addSegment cX5_addSegment 6 none ∈ TW := tw_t 369 (by decide +kernel) (by decide +kernel)
theorem kMX4_80 : Cond.methodLink RX4 80 yX5_settle ∈ TW := tw_t 370 (by decide +kernel) (by decide +kernel)
theorem kIX5_settle : Cond.instanceMethod yX5_settle ∈ TW := tw_t 371 (by decide +kernel) (by decide +kernel)
theorem kLX5_settle : Cond.selects RX5 yX5_settle yX5_settle ∈ TW := tw_t 372 (by decide +kernel) (by decide +kernel)
theorem kCX5_settle : Cond.code yX5_settle cX5_settle 7 none ∈ TW := tw_t 373 (by decide +kernel) (by decide +kernel)
theorem kKX5_62 : Cond.constantLong RX5 62 (1000000000) ∈ TW := tw_t 374 (by decide +kernel) (by decide +kernel)
theorem kKX5_64 : Cond.constantLong RX5 64 (1000000) ∈ TW := tw_t 375 (by decide +kernel) (by decide +kernel)
theorem kML_34 : Cond.methodLink RL 34 yX9_desk ∈ TW := tw_t 376 (by decide +kernel) (by decide +kernel)
theorem kIX9_desk : Cond.instanceMethod yX9_desk ∈ TW := tw_t 377 (by decide +kernel) (by decide +kernel)
theorem kLX9_desk : Cond.selects RX9 yX9_desk yX9_desk ∈ TW := tw_t 378 (by decide +kernel) (by decide +kernel)
theorem kCX9_desk : Cond.code yX9_desk cX9_desk 2 (some .int) ∈ TW := tw_t 379 (by decide +kernel) (by decide +kernel)
theorem kML_38 : Cond.methodLink RL 38 yX9_rule ∈ TW := tw_t 380 (by decide +kernel) (by decide +kernel)
theorem kIX9_rule : Cond.instanceMethod yX9_rule ∈ TW := tw_t 381 (by decide +kernel) (by decide +kernel)
theorem kLX9_rule : Cond.selects RX9 yX9_rule yX9_rule ∈ TW := tw_t 382 (by decide +kernel) (by decide +kernel)
theorem kCX9_rule : Cond.code yX9_rule cX9_rule 2 (some .int) ∈ TW := tw_t 383 (by decide +kernel) (by decide +kernel)
theorem kMX9_100 : Cond.methodLink RX9 100 yX9_line ∈ TW := tw_t 384 (by decide +kernel) (by decide +kernel)
theorem kIX9_line : Cond.instanceMethod yX9_line ∈ TW := tw_t 386 (by decide +kernel) (by decide +kernel)
theorem kCX9_line : Cond.code yX9_line cX9_line 2 (some (.object "PayPromise$Line")) ∈ TW := tw_t 387 (by decide +kernel) (by decide +kernel)
theorem kMX9_142 : Cond.methodLink RX9 142 yX9_fresh ∈ TW := tw_t 388 (by decide +kernel) (by decide +kernel)
theorem kIX9_fresh : Cond.instanceMethod yX9_fresh ∈ TW := tw_t 390 (by decide +kernel) (by decide +kernel)
theorem kCX9_fresh : Cond.code yX9_fresh cX9_fresh 1 (some (.object "PayPromise$Lines")) ∈ TW := tw_t 391 (by decide +kernel) (by decide +kernel)
theorem kMX9_360 : Cond.methodLink RX9 360 yX2_draw ∈ TW := tw_t 392 (by decide +kernel) (by decide +kernel)
theorem kIX2_draw : Cond.instanceMethod yX2_draw ∈ TW := tw_t 393 (by decide +kernel) (by decide +kernel)
theorem kLX2_draw : Cond.selects RX2 yX2_draw yX2_draw ∈ TW := tw_t 394 (by decide +kernel) (by decide +kernel)
theorem kCX2_draw : Cond.code yX2_draw cX2_draw 6 none ∈ TW := tw_t 395 (by decide +kernel) (by decide +kernel)
theorem kMX2_33 : Cond.methodLink RX2 33 yJ7_fill_53178 ∈ TW := tw_t 396 (by decide +kernel) (by decide +kernel)
theorem kMX2_39 : Cond.methodLink RX2 39 yX3_reckon ∈ TW := tw_t 397 (by decide +kernel) (by decide +kernel)
theorem kIX3_reckon : Cond.instanceMethod yX3_reckon ∈ TW := tw_t 398 (by decide +kernel) (by decide +kernel)
theorem kLX3_reckon : Cond.selects RX3 yX3_reckon yX3_reckon ∈ TW := tw_t 399 (by decide +kernel) (by decide +kernel)
theorem kCX3_reckon : Cond.code yX3_reckon cX3_reckon 3 (some .long) ∈ TW := tw_t 400 (by decide +kernel) (by decide +kernel)
theorem kMX3_28 : Cond.methodLink RX3 28 yX3_reckonHeld ∈ TW := tw_t 401 (by decide +kernel) (by decide +kernel)
theorem kIX3_reckonHeld : Cond.instanceMethod yX3_reckonHeld ∈ TW := tw_t 402 (by decide +kernel) (by decide +kernel)
theorem kLX3_reckonHeld : Cond.selects RX3 yX3_reckonHeld yX3_reckonHeld ∈ TW := tw_t 403 (by decide +kernel) (by decide +kernel)
theorem kCX3_reckonHeld : Cond.code yX3_reckonHeld cX3_reckonHeld 13 (some .long) ∈ TW := tw_t 404 (by decide +kernel) (by decide +kernel)
theorem kMX3_35 : Cond.methodLink RX3 35 yX3_addUp ∈ TW := tw_t 405 (by decide +kernel) (by decide +kernel)
theorem kIX3_addUp : Cond.instanceMethod yX3_addUp ∈ TW := tw_t 407 (by decide +kernel) (by decide +kernel)
theorem kCX3_addUp : Cond.code yX3_addUp cX3_addUp 12 (some .long) ∈ TW := tw_t 408 (by decide +kernel) (by decide +kernel)
theorem kKX3_63 : Cond.constantLong RX3 63 (1000000000) ∈ TW := tw_t 409 (by decide +kernel) (by decide +kernel)
theorem kMX3_39 : Cond.methodLink RX3 39 yJ9_max_f86c9 ∈ TW := tw_t 410 (by decide +kernel) (by decide +kernel)
theorem kSJ9_max_f86c9 : Cond.static yJ9_max_f86c9 ∈ TW := tw_t 411 (by decide +kernel) (by decide +kernel)
theorem kCJ9_max_f86c9 : Cond.code yJ9_max_f86c9 cJ9_max_f86c9 4 (some .long) ∈ TW := tw_t 412 (by decide +kernel) (by decide +kernel)
theorem kMX3_45 : Cond.methodLink RX3 45 yX5_segmentFor ∈ TW := tw_t 413 (by decide +kernel) (by decide +kernel)
theorem kIX5_segmentFor : Cond.instanceMethod yX5_segmentFor ∈ TW := tw_t 414 (by decide +kernel) (by decide +kernel)
theorem kLX5_segmentFor : Cond.selects RX5 yX5_segmentFor yX5_segmentFor ∈ TW := tw_t 415 (by decide +kernel) (by decide +kernel)
theorem kCX5_segmentFor : Cond.code yX5_segmentFor cX5_segmentFor 5 (some .int) ∈ TW := tw_t 416 (by decide +kernel) (by decide +kernel)
theorem kMX3_49 : Cond.methodLink RX3 49 yX3_valueIn ∈ TW := tw_t 417 (by decide +kernel) (by decide +kernel)
theorem kSX3_valueIn : Cond.static yX3_valueIn ∈ TW := tw_t 418 (by decide +kernel) (by decide +kernel)
theorem kCX3_valueIn : Cond.code yX3_valueIn cX3_valueIn 7 (some .long) ∈ TW := tw_t 419 (by decide +kernel) (by decide +kernel)
theorem kKX3_72 : Cond.constantLong RX3 72 (1000) ∈ TW := tw_t 420 (by decide +kernel) (by decide +kernel)
theorem kMX2_45 : Cond.methodLink RX2 45 yX2_straightFor ∈ TW := tw_t 421 (by decide +kernel) (by decide +kernel)
theorem kIX2_straightFor : Cond.instanceMethod yX2_straightFor ∈ TW := tw_t 423 (by decide +kernel) (by decide +kernel)
theorem kCX2_straightFor : Cond.code yX2_straightFor cX2_straightFor 12 (some .int) ∈ TW := tw_t 424 (by decide +kernel) (by decide +kernel)
theorem kMX2_60 : Cond.methodLink RX2 60 yX2_gainOfTerms ∈ TW := tw_t 425 (by decide +kernel) (by decide +kernel)
theorem kIX2_gainOfTerms : Cond.instanceMethod yX2_gainOfTerms ∈ TW := tw_t 427 (by decide +kernel) (by decide +kernel)
theorem kCX2_gainOfTerms : Cond.code yX2_gainOfTerms cX2_gainOfTerms 7 (some .long) ∈ TW := tw_t 428 (by decide +kernel) (by decide +kernel)
theorem kKX2_90 : Cond.constantLong RX2 90 (1000000000) ∈ TW := tw_t 429 (by decide +kernel) (by decide +kernel)
theorem kKX2_66 : Cond.constantLong RX2 66 (1000) ∈ TW := tw_t 430 (by decide +kernel) (by decide +kernel)
theorem kMX2_71 : Cond.methodLink RX2 71 yX2_reachIn ∈ TW := tw_t 431 (by decide +kernel) (by decide +kernel)
theorem kSX2_reachIn : Cond.static yX2_reachIn ∈ TW := tw_t 432 (by decide +kernel) (by decide +kernel)
theorem kCX2_reachIn : Cond.code yX2_reachIn cX2_reachIn 8 (some .long) ∈ TW := tw_t 433 (by decide +kernel) (by decide +kernel)
theorem kKX2_92 : Cond.constantLong RX2 92 (-1) ∈ TW := tw_t 434 (by decide +kernel) (by decide +kernel)
theorem kKX2_97 : Cond.constantLong RX2 97 (9999) ∈ TW := tw_t 435 (by decide +kernel) (by decide +kernel)
theorem kMX2_75 : Cond.methodLink RX2 75 yJ9_min_f86c9 ∈ TW := tw_t 436 (by decide +kernel) (by decide +kernel)
theorem kSJ9_min_f86c9 : Cond.static yJ9_min_f86c9 ∈ TW := tw_t 437 (by decide +kernel) (by decide +kernel)
theorem kCJ9_min_f86c9 : Cond.code yJ9_min_f86c9 cJ9_min_f86c9 4 (some .long) ∈ TW := tw_t 438 (by decide +kernel) (by decide +kernel)
theorem kMX2_52 : Cond.methodLink RX2 52 yX1_addStretch ∈ TW := tw_t 439 (by decide +kernel) (by decide +kernel)
theorem kIX1_addStretch : Cond.instanceMethod yX1_addStretch ∈ TW := tw_t 440 (by decide +kernel) (by decide +kernel)
theorem kLX1_addStretch : Cond.selects RX1 yX1_addStretch yX1_addStretch ∈ TW := tw_t 441 (by decide +kernel) (by decide +kernel)
theorem kCX1_addStretch : Cond.code yX1_addStretch cX1_addStretch 7 none ∈ TW := tw_t 442 (by decide +kernel) (by decide +kernel)
theorem kMX1_40 : Cond.methodLink RX1 40 yX1_open ∈ TW := tw_t 443 (by decide +kernel) (by decide +kernel)
theorem kIX1_open : Cond.instanceMethod yX1_open ∈ TW := tw_t 445 (by decide +kernel) (by decide +kernel)
theorem kCX1_open : Cond.code yX1_open cX1_open 4 none ∈ TW := tw_t 446 (by decide +kernel) (by decide +kernel)
theorem kMX1_44 : Cond.methodLink RX1 44 yX1_makeRoom ∈ TW := tw_t 447 (by decide +kernel) (by decide +kernel)
theorem kIX1_makeRoom : Cond.instanceMethod yX1_makeRoom ∈ TW := tw_t 449 (by decide +kernel) (by decide +kernel)
theorem kCX1_makeRoom : Cond.code yX1_makeRoom cX1_makeRoom 2 none ∈ TW := tw_t 450 (by decide +kernel) (by decide +kernel)
theorem kMX1_51 : Cond.methodLink RX1 51 yJ7_copyOf_59c91 ∈ TW := tw_t 451 (by decide +kernel) (by decide +kernel)
theorem kSJ7_copyOf_59c91 : Cond.static yJ7_copyOf_59c91 ∈ TW := tw_t 452 (by decide +kernel) (by decide +kernel)
theorem kCJ7_copyOf_59c91 : Cond.code yJ7_copyOf_59c91 cJ7_copyOf_59c91 3 (some (.array .int)) ∈ TW := tw_t 453 (by decide +kernel) (by decide +kernel)
theorem kMJ7_304 : Cond.methodLink RJ7 304 yJ9_min_7cf53 ∈ TW := tw_t 461 (by decide +kernel) (by decide +kernel)
theorem kSJ9_min_7cf53 : Cond.static yJ9_min_7cf53 ∈ TW := tw_t 462 (by decide +kernel) (by decide +kernel)
theorem kCJ9_min_7cf53 : Cond.code yJ9_min_7cf53 cJ9_min_7cf53 2 (some .int) ∈ TW := tw_t 463 (by decide +kernel) (by decide +kernel)
theorem kMX1_57 : Cond.methodLink RX1 57 yJ7_copyOf_c38d5 ∈ TW := tw_t 467 (by decide +kernel) (by decide +kernel)
theorem kSJ7_copyOf_c38d5 : Cond.static yJ7_copyOf_c38d5 ∈ TW := tw_t 468 (by decide +kernel) (by decide +kernel)
theorem kCJ7_copyOf_c38d5 : Cond.code yJ7_copyOf_c38d5 cJ7_copyOf_c38d5 3 (some (.array .long)) ∈ TW := tw_t 469 (by decide +kernel) (by decide +kernel)
theorem kMX1_47 : Cond.methodLink RX1 47 yX1_go ∈ TW := tw_t 475 (by decide +kernel) (by decide +kernel)
theorem kIX1_go : Cond.instanceMethod yX1_go ∈ TW := tw_t 477 (by decide +kernel) (by decide +kernel)
theorem kCX1_go : Cond.code yX1_go cX1_go 5 none ∈ TW := tw_t 478 (by decide +kernel) (by decide +kernel)
theorem kMX9_165 : Cond.methodLink RX9 165 yX9_rowOf ∈ TW := tw_t 479 (by decide +kernel) (by decide +kernel)
theorem kSX9_rowOf : Cond.static yX9_rowOf ∈ TW := tw_t 480 (by decide +kernel) (by decide +kernel)
theorem kCX9_rowOf : Cond.code yX9_rowOf cX9_rowOf 1 (some .int) ∈ TW := tw_t 481 (by decide +kernel) (by decide +kernel)
theorem kMX9_107 : Cond.methodLink RX9 107 yX1_cliffs ∈ TW := tw_t 482 (by decide +kernel) (by decide +kernel)
theorem kIX1_cliffs : Cond.instanceMethod yX1_cliffs ∈ TW := tw_t 483 (by decide +kernel) (by decide +kernel)
theorem kLX1_cliffs : Cond.selects RX1 yX1_cliffs yX1_cliffs ∈ TW := tw_t 484 (by decide +kernel) (by decide +kernel)
theorem kCX1_cliffs : Cond.code yX1_cliffs cX1_cliffs 3 (some .int) ∈ TW := tw_t 485 (by decide +kernel) (by decide +kernel)
theorem kMX1_123 : Cond.methodLink RX1 123 yX1_cliffsIn ∈ TW := tw_t 486 (by decide +kernel) (by decide +kernel)
theorem kIX1_cliffsIn : Cond.instanceMethod yX1_cliffsIn ∈ TW := tw_t 488 (by decide +kernel) (by decide +kernel)
theorem kCX1_cliffsIn : Cond.code yX1_cliffsIn cX1_cliffsIn 2 (some .int) ∈ TW := tw_t 489 (by decide +kernel) (by decide +kernel)
theorem kMX1_119 : Cond.methodLink RX1 119 yX1_cliffInto ∈ TW := tw_t 490 (by decide +kernel) (by decide +kernel)
theorem kIX1_cliffInto : Cond.instanceMethod yX1_cliffInto ∈ TW := tw_t 492 (by decide +kernel) (by decide +kernel)
theorem kCX1_cliffInto : Cond.code yX1_cliffInto cX1_cliffInto 2 (some .boolean) ∈ TW := tw_t 493 (by decide +kernel) (by decide +kernel)
theorem kMX1_116 : Cond.methodLink RX1 116 yX1_gainInto ∈ TW := tw_t 494 (by decide +kernel) (by decide +kernel)
theorem kIX1_gainInto : Cond.instanceMethod yX1_gainInto ∈ TW := tw_t 496 (by decide +kernel) (by decide +kernel)
theorem kCX1_gainInto : Cond.code yX1_gainInto cX1_gainInto 2 (some .long) ∈ TW := tw_t 497 (by decide +kernel) (by decide +kernel)
theorem kMX1_78 : Cond.methodLink RX1 78 yX1_lastValue ∈ TW := tw_t 498 (by decide +kernel) (by decide +kernel)
theorem kIX1_lastValue : Cond.instanceMethod yX1_lastValue ∈ TW := tw_t 500 (by decide +kernel) (by decide +kernel)
theorem kCX1_lastValue : Cond.code yX1_lastValue cX1_lastValue 2 (some .long) ∈ TW := tw_t 501 (by decide +kernel) (by decide +kernel)
theorem kMX1_60 : Cond.methodLink RX1 60 yX1_lastOf ∈ TW := tw_t 502 (by decide +kernel) (by decide +kernel)
theorem kIX1_lastOf : Cond.instanceMethod yX1_lastOf ∈ TW := tw_t 503 (by decide +kernel) (by decide +kernel)
theorem kLX1_lastOf : Cond.selects RX1 yX1_lastOf yX1_lastOf ∈ TW := tw_t 504 (by decide +kernel) (by decide +kernel)
theorem kCX1_lastOf : Cond.code yX1_lastOf cX1_lastOf 2 (some .int) ∈ TW := tw_t 505 (by decide +kernel) (by decide +kernel)
theorem kMX1_70 : Cond.methodLink RX1 70 yX1_valueIn ∈ TW := tw_t 506 (by decide +kernel) (by decide +kernel)
theorem kIX1_valueIn : Cond.instanceMethod yX1_valueIn ∈ TW := tw_t 508 (by decide +kernel) (by decide +kernel)
theorem kCX1_valueIn : Cond.code yX1_valueIn cX1_valueIn 3 (some .long) ∈ TW := tw_t 509 (by decide +kernel) (by decide +kernel)
theorem kMX1_91 : Cond.methodLink RX1 91 yX1_further ∈ TW := tw_t 510 (by decide +kernel) (by decide +kernel)
theorem kIX1_further : Cond.instanceMethod yX1_further ∈ TW := tw_t 512 (by decide +kernel) (by decide +kernel)
theorem kCX1_further : Cond.code yX1_further cX1_further 2 (some .int) ∈ TW := tw_t 513 (by decide +kernel) (by decide +kernel)
theorem kML_52 : Cond.methodLink RL 52 yX9_segment ∈ TW := tw_t 514 (by decide +kernel) (by decide +kernel)
theorem kIX9_segment : Cond.instanceMethod yX9_segment ∈ TW := tw_t 515 (by decide +kernel) (by decide +kernel)
theorem kLX9_segment : Cond.selects RX9 yX9_segment yX9_segment ∈ TW := tw_t 516 (by decide +kernel) (by decide +kernel)
theorem kCX9_segment : Cond.code yX9_segment cX9_segment 4 (some .int) ∈ TW := tw_t 517 (by decide +kernel) (by decide +kernel)
theorem kMX9_128 : Cond.methodLink RX9 128 yX9_isSegment ∈ TW := tw_t 518 (by decide +kernel) (by decide +kernel)
theorem kIX9_isSegment : Cond.instanceMethod yX9_isSegment ∈ TW := tw_t 520 (by decide +kernel) (by decide +kernel)
theorem kCX9_isSegment : Cond.code yX9_isSegment cX9_isSegment 3 (some .boolean) ∈ TW := tw_t 521 (by decide +kernel) (by decide +kernel)
theorem kMX9_111 : Cond.methodLink RX9 111 yX9_isAccount ∈ TW := tw_t 522 (by decide +kernel) (by decide +kernel)
theorem kIX9_isAccount : Cond.instanceMethod yX9_isAccount ∈ TW := tw_t 524 (by decide +kernel) (by decide +kernel)
theorem kCX9_isAccount : Cond.code yX9_isAccount cX9_isAccount 2 (some .boolean) ∈ TW := tw_t 525 (by decide +kernel) (by decide +kernel)
theorem kML_57 : Cond.methodLink RL 57 yX9_at ∈ TW := tw_t 526 (by decide +kernel) (by decide +kernel)
theorem kIX9_at : Cond.instanceMethod yX9_at ∈ TW := tw_t 527 (by decide +kernel) (by decide +kernel)
theorem kLX9_at : Cond.selects RX9 yX9_at yX9_at ∈ TW := tw_t 528 (by decide +kernel) (by decide +kernel)
theorem kCX9_at : Cond.code yX9_at cX9_at 3 (some .long) ∈ TW := tw_t 529 (by decide +kernel) (by decide +kernel)
theorem kMX9_149 : Cond.methodLink RX9 149 yX9_isLine ∈ TW := tw_t 530 (by decide +kernel) (by decide +kernel)
theorem kIX9_isLine : Cond.instanceMethod yX9_isLine ∈ TW := tw_t 532 (by decide +kernel) (by decide +kernel)
theorem kCX9_isLine : Cond.code yX9_isLine cX9_isLine 2 (some .boolean) ∈ TW := tw_t 533 (by decide +kernel) (by decide +kernel)
theorem kMX9_152 : Cond.methodLink RX9 152 yX9_isWage ∈ TW := tw_t 534 (by decide +kernel) (by decide +kernel)
theorem kSX9_isWage : Cond.static yX9_isWage ∈ TW := tw_t 535 (by decide +kernel) (by decide +kernel)
theorem kCX9_isWage : Cond.code yX9_isWage cX9_isWage 1 (some .boolean) ∈ TW := tw_t 536 (by decide +kernel) (by decide +kernel)
theorem kKX9_155 : Cond.constantLong RX9 155 (-9000000000000000000) ∈ TW := tw_t 537 (by decide +kernel) (by decide +kernel)
theorem kMX9_157 : Cond.methodLink RX9 157 yX3_reckon ∈ TW := tw_t 538 (by decide +kernel) (by decide +kernel)
theorem kML_62 : Cond.methodLink RL 62 yX9_sum ∈ TW := tw_t 539 (by decide +kernel) (by decide +kernel)
theorem kIX9_sum : Cond.instanceMethod yX9_sum ∈ TW := tw_t 540 (by decide +kernel) (by decide +kernel)
theorem kLX9_sum : Cond.selects RX9 yX9_sum yX9_sum ∈ TW := tw_t 541 (by decide +kernel) (by decide +kernel)
theorem kCX9_sum : Cond.code yX9_sum cX9_sum 3 (some .long) ∈ TW := tw_t 542 (by decide +kernel) (by decide +kernel)
theorem kML_66 : Cond.methodLink RL 66 yX9_which ∈ TW := tw_t 543 (by decide +kernel) (by decide +kernel)
theorem kIX9_which : Cond.instanceMethod yX9_which ∈ TW := tw_t 544 (by decide +kernel) (by decide +kernel)
theorem kLX9_which : Cond.selects RX9 yX9_which yX9_which ∈ TW := tw_t 545 (by decide +kernel) (by decide +kernel)
theorem kCX9_which : Cond.code yX9_which cX9_which 3 (some .int) ∈ TW := tw_t 546 (by decide +kernel) (by decide +kernel)
theorem kML_70 : Cond.methodLink RL 70 yX9_piece ∈ TW := tw_t 547 (by decide +kernel) (by decide +kernel)
theorem kIX9_piece : Cond.instanceMethod yX9_piece ∈ TW := tw_t 548 (by decide +kernel) (by decide +kernel)
theorem kLX9_piece : Cond.selects RX9 yX9_piece yX9_piece ∈ TW := tw_t 549 (by decide +kernel) (by decide +kernel)
theorem kCX9_piece : Cond.code yX9_piece cX9_piece 5 (some .long) ∈ TW := tw_t 550 (by decide +kernel) (by decide +kernel)
theorem kMX9_177 : Cond.methodLink RX9 177 yX1_lastOf ∈ TW := tw_t 551 (by decide +kernel) (by decide +kernel)
theorem kML_75 : Cond.methodLink RL 75 yX9_pieceAt ∈ TW := tw_t 552 (by decide +kernel) (by decide +kernel)
theorem kIX9_pieceAt : Cond.instanceMethod yX9_pieceAt ∈ TW := tw_t 553 (by decide +kernel) (by decide +kernel)
theorem kLX9_pieceAt : Cond.selects RX9 yX9_pieceAt yX9_pieceAt ∈ TW := tw_t 554 (by decide +kernel) (by decide +kernel)
theorem kCX9_pieceAt : Cond.code yX9_pieceAt cX9_pieceAt 3 (some .int) ∈ TW := tw_t 555 (by decide +kernel) (by decide +kernel)
theorem kMX9_184 : Cond.methodLink RX9 184 yX1_pieceOf ∈ TW := tw_t 556 (by decide +kernel) (by decide +kernel)
theorem kIX1_pieceOf : Cond.instanceMethod yX1_pieceOf ∈ TW := tw_t 557 (by decide +kernel) (by decide +kernel)
theorem kLX1_pieceOf : Cond.selects RX1 yX1_pieceOf yX1_pieceOf ∈ TW := tw_t 558 (by decide +kernel) (by decide +kernel)
theorem kCX1_pieceOf : Cond.code yX1_pieceOf cX1_pieceOf 6 (some .int) ∈ TW := tw_t 559 (by decide +kernel) (by decide +kernel)
theorem kML_81 : Cond.methodLink RL 81 yX9_promised ∈ TW := tw_t 560 (by decide +kernel) (by decide +kernel)
theorem kIX9_promised : Cond.instanceMethod yX9_promised ∈ TW := tw_t 561 (by decide +kernel) (by decide +kernel)
theorem kLX9_promised : Cond.selects RX9 yX9_promised yX9_promised ∈ TW := tw_t 562 (by decide +kernel) (by decide +kernel)
theorem kCX9_promised : Cond.code yX9_promised cX9_promised 4 (some .int) ∈ TW := tw_t 563 (by decide +kernel) (by decide +kernel)
theorem kMX9_187 : Cond.methodLink RX9 187 yX1_wagesWith ∈ TW := tw_t 564 (by decide +kernel) (by decide +kernel)
theorem kIX1_wagesWith : Cond.instanceMethod yX1_wagesWith ∈ TW := tw_t 565 (by decide +kernel) (by decide +kernel)
theorem kLX1_wagesWith : Cond.selects RX1 yX1_wagesWith yX1_wagesWith ∈ TW := tw_t 566 (by decide +kernel) (by decide +kernel)
theorem kCX1_wagesWith : Cond.code yX1_wagesWith cX1_wagesWith 5 (some .int) ∈ TW := tw_t 567 (by decide +kernel) (by decide +kernel)
theorem kMX1_94 : Cond.methodLink RX1 94 yX1_timesIn ∈ TW := tw_t 568 (by decide +kernel) (by decide +kernel)
theorem kIX1_timesIn : Cond.instanceMethod yX1_timesIn ∈ TW := tw_t 570 (by decide +kernel) (by decide +kernel)
theorem kCX1_timesIn : Cond.code yX1_timesIn cX1_timesIn 6 (some .int) ∈ TW := tw_t 571 (by decide +kernel) (by decide +kernel)
theorem kMX1_85 : Cond.methodLink RX1 85 yJ9_min_f86c9 ∈ TW := tw_t 572 (by decide +kernel) (by decide +kernel)
theorem kMX1_88 : Cond.methodLink RX1 88 yJ9_max_f86c9 ∈ TW := tw_t 573 (by decide +kernel) (by decide +kernel)
theorem kMX9_191 : Cond.methodLink RX9 191 yX1_leastNoLess ∈ TW := tw_t 574 (by decide +kernel) (by decide +kernel)
theorem kIX1_leastNoLess : Cond.instanceMethod yX1_leastNoLess ∈ TW := tw_t 575 (by decide +kernel) (by decide +kernel)
theorem kLX1_leastNoLess : Cond.selects RX1 yX1_leastNoLess yX1_leastNoLess ∈ TW := tw_t 576 (by decide +kernel) (by decide +kernel)
theorem kCX1_leastNoLess : Cond.code yX1_leastNoLess cX1_leastNoLess 7 (some .int) ∈ TW := tw_t 577 (by decide +kernel) (by decide +kernel)
theorem kMX1_82 : Cond.methodLink RX1 82 yX1_pieceOf ∈ TW := tw_t 578 (by decide +kernel) (by decide +kernel)
theorem kMX1_98 : Cond.methodLink RX1 98 yJ9_max_7cf53 ∈ TW := tw_t 579 (by decide +kernel) (by decide +kernel)
theorem kMX1_100 : Cond.methodLink RX1 100 yX7_firstNoLess ∈ TW := tw_t 580 (by decide +kernel) (by decide +kernel)
theorem kSX7_firstNoLess : Cond.static yX7_firstNoLess ∈ TW := tw_t 581 (by decide +kernel) (by decide +kernel)
theorem kCX7_firstNoLess : Cond.code yX7_firstNoLess cX7_firstNoLess 7 (some .int) ∈ TW := tw_t 582 (by decide +kernel) (by decide +kernel)
theorem kMX9_195 : Cond.methodLink RX9 195 yX1_greatestNoMore ∈ TW := tw_t 583 (by decide +kernel) (by decide +kernel)
theorem kIX1_greatestNoMore : Cond.instanceMethod yX1_greatestNoMore ∈ TW := tw_t 584 (by decide +kernel) (by decide +kernel)
theorem kLX1_greatestNoMore : Cond.selects RX1 yX1_greatestNoMore yX1_greatestNoMore ∈ TW := tw_t 585 (by decide +kernel) (by decide +kernel)
theorem kCX1_greatestNoMore : Cond.code yX1_greatestNoMore cX1_greatestNoMore 5 (some .int) ∈ TW := tw_t 586 (by decide +kernel) (by decide +kernel)
theorem kMX1_106 : Cond.methodLink RX1 106 yX7_lastNoMore ∈ TW := tw_t 587 (by decide +kernel) (by decide +kernel)
theorem kSX7_lastNoMore : Cond.static yX7_lastNoMore ∈ TW := tw_t 588 (by decide +kernel) (by decide +kernel)
theorem kCX7_lastNoMore : Cond.code yX7_lastNoMore cX7_lastNoMore 7 (some .int) ∈ TW := tw_t 589 (by decide +kernel) (by decide +kernel)
theorem kMX9_198 : Cond.methodLink RX9 198 yX1_nearestBelow ∈ TW := tw_t 590 (by decide +kernel) (by decide +kernel)
theorem kIX1_nearestBelow : Cond.instanceMethod yX1_nearestBelow ∈ TW := tw_t 591 (by decide +kernel) (by decide +kernel)
theorem kLX1_nearestBelow : Cond.selects RX1 yX1_nearestBelow yX1_nearestBelow ∈ TW := tw_t 592 (by decide +kernel) (by decide +kernel)
theorem kCX1_nearestBelow : Cond.code yX1_nearestBelow cX1_nearestBelow 8 (some .int) ∈ TW := tw_t 593 (by decide +kernel) (by decide +kernel)
theorem kMX1_113 : Cond.methodLink RX1 113 yX7_nearestNoMore ∈ TW := tw_t 594 (by decide +kernel) (by decide +kernel)
theorem kSX7_nearestNoMore : Cond.static yX7_nearestNoMore ∈ TW := tw_t 595 (by decide +kernel) (by decide +kernel)
theorem kCX7_nearestNoMore : Cond.code yX7_nearestNoMore cX7_nearestNoMore 7 (some .int) ∈ TW := tw_t 596 (by decide +kernel) (by decide +kernel)
theorem kMX7_9 : Cond.methodLink RX7 9 yX7_lastNoMore ∈ TW := tw_t 597 (by decide +kernel) (by decide +kernel)
theorem kML_86 : Cond.methodLink RL 86 yX9_exactly ∈ TW := tw_t 598 (by decide +kernel) (by decide +kernel)
theorem kIX9_exactly : Cond.instanceMethod yX9_exactly ∈ TW := tw_t 599 (by decide +kernel) (by decide +kernel)
theorem kLX9_exactly : Cond.selects RX9 yX9_exactly yX9_exactly ∈ TW := tw_t 600 (by decide +kernel) (by decide +kernel)
theorem kCX9_exactly : Cond.code yX9_exactly cX9_exactly 4 (some .int) ∈ TW := tw_t 601 (by decide +kernel) (by decide +kernel)
theorem kMX9_201 : Cond.methodLink RX9 201 yX1_wageWith ∈ TW := tw_t 602 (by decide +kernel) (by decide +kernel)
theorem kIX1_wageWith : Cond.instanceMethod yX1_wageWith ∈ TW := tw_t 603 (by decide +kernel) (by decide +kernel)
theorem kLX1_wageWith : Cond.selects RX1 yX1_wageWith yX1_wageWith ∈ TW := tw_t 604 (by decide +kernel) (by decide +kernel)
theorem kCX1_wageWith : Cond.code yX1_wageWith cX1_wageWith 8 (some .int) ∈ TW := tw_t 605 (by decide +kernel) (by decide +kernel)
theorem kML_90 : Cond.methodLink RL 90 yX9_cliff ∈ TW := tw_t 606 (by decide +kernel) (by decide +kernel)
theorem kIX9_cliff : Cond.instanceMethod yX9_cliff ∈ TW := tw_t 607 (by decide +kernel) (by decide +kernel)
theorem kLX9_cliff : Cond.selects RX9 yX9_cliff yX9_cliff ∈ TW := tw_t 608 (by decide +kernel) (by decide +kernel)
theorem kCX9_cliff : Cond.code yX9_cliff cX9_cliff 5 (some .long) ∈ TW := tw_t 609 (by decide +kernel) (by decide +kernel)
theorem kMX9_205 : Cond.methodLink RX9 205 yX1_cliffWage ∈ TW := tw_t 610 (by decide +kernel) (by decide +kernel)
theorem kIX1_cliffWage : Cond.instanceMethod yX1_cliffWage ∈ TW := tw_t 611 (by decide +kernel) (by decide +kernel)
theorem kLX1_cliffWage : Cond.selects RX1 yX1_cliffWage yX1_cliffWage ∈ TW := tw_t 612 (by decide +kernel) (by decide +kernel)
theorem kCX1_cliffWage : Cond.code yX1_cliffWage cX1_cliffWage 5 (some .int) ∈ TW := tw_t 613 (by decide +kernel) (by decide +kernel)
theorem kMX9_208 : Cond.methodLink RX9 208 yX1_valueAt ∈ TW := tw_t 614 (by decide +kernel) (by decide +kernel)
theorem kIX1_valueAt : Cond.instanceMethod yX1_valueAt ∈ TW := tw_t 615 (by decide +kernel) (by decide +kernel)
theorem kLX1_valueAt : Cond.selects RX1 yX1_valueAt yX1_valueAt ∈ TW := tw_t 616 (by decide +kernel) (by decide +kernel)
theorem kCX1_valueAt : Cond.code yX1_valueAt cX1_valueAt 2 (some .long) ∈ TW := tw_t 617 (by decide +kernel) (by decide +kernel)
theorem kMX9_212 : Cond.methodLink RX9 212 yX1_backFrom ∈ TW := tw_t 618 (by decide +kernel) (by decide +kernel)
theorem kIX1_backFrom : Cond.instanceMethod yX1_backFrom ∈ TW := tw_t 619 (by decide +kernel) (by decide +kernel)
theorem kLX1_backFrom : Cond.selects RX1 yX1_backFrom yX1_backFrom ∈ TW := tw_t 620 (by decide +kernel) (by decide +kernel)
theorem kCX1_backFrom : Cond.code yX1_backFrom cX1_backFrom 2 (some .int) ∈ TW := tw_t 621 (by decide +kernel) (by decide +kernel)
theorem kMX1_126 : Cond.methodLink RX1 126 yX1_valueAt ∈ TW := tw_t 622 (by decide +kernel) (by decide +kernel)
theorem kMX1_129 : Cond.methodLink RX1 129 yX1_leastNoLess ∈ TW := tw_t 623 (by decide +kernel) (by decide +kernel)
theorem kMX9_215 : Cond.methodLink RX9 215 yX1_trapFrom ∈ TW := tw_t 624 (by decide +kernel) (by decide +kernel)
theorem kIX1_trapFrom : Cond.instanceMethod yX1_trapFrom ∈ TW := tw_t 625 (by decide +kernel) (by decide +kernel)
theorem kLX1_trapFrom : Cond.selects RX1 yX1_trapFrom yX1_trapFrom ∈ TW := tw_t 626 (by decide +kernel) (by decide +kernel)
theorem kCX1_trapFrom : Cond.code yX1_trapFrom cX1_trapFrom 3 (some .int) ∈ TW := tw_t 627 (by decide +kernel) (by decide +kernel)
theorem kMX1_132 : Cond.methodLink RX1 132 yX1_backFrom ∈ TW := tw_t 628 (by decide +kernel) (by decide +kernel)
theorem kML_94 : Cond.methodLink RL 94 yX9_more ∈ TW := tw_t 629 (by decide +kernel) (by decide +kernel)
theorem kIX9_more : Cond.instanceMethod yX9_more ∈ TW := tw_t 630 (by decide +kernel) (by decide +kernel)
theorem kLX9_more : Cond.selects RX9 yX9_more yX9_more ∈ TW := tw_t 631 (by decide +kernel) (by decide +kernel)
theorem kCX9_more : Cond.code yX9_more cX9_more 2 (some .long) ∈ TW := tw_t 632 (by decide +kernel) (by decide +kernel)
theorem kML_99 : Cond.methodLink RL 99 yX9_average ∈ TW := tw_t 633 (by decide +kernel) (by decide +kernel)
theorem kIX9_average : Cond.instanceMethod yX9_average ∈ TW := tw_t 634 (by decide +kernel) (by decide +kernel)
theorem kLX9_average : Cond.selects RX9 yX9_average yX9_average ∈ TW := tw_t 635 (by decide +kernel) (by decide +kernel)
theorem kCX9_average : Cond.code yX9_average cX9_average 2 (some .long) ∈ TW := tw_t 636 (by decide +kernel) (by decide +kernel)
theorem kMX9_218 : Cond.methodLink RX9 218 yX9_keptAt ∈ TW := tw_t 637 (by decide +kernel) (by decide +kernel)
theorem kIX9_keptAt : Cond.instanceMethod yX9_keptAt ∈ TW := tw_t 639 (by decide +kernel) (by decide +kernel)
theorem kCX9_keptAt : Cond.code yX9_keptAt cX9_keptAt 2 (some .long) ∈ TW := tw_t 640 (by decide +kernel) (by decide +kernel)
theorem kKX9_221 : Cond.constantLong RX9 221 (1000000000) ∈ TW := tw_t 641 (by decide +kernel) (by decide +kernel)
theorem kMX9_223 : Cond.methodLink RX9 223 yX0_ofQuotient ∈ TW := tw_t 642 (by decide +kernel) (by decide +kernel)
theorem kSX0_ofQuotient : Cond.static yX0_ofQuotient ∈ TW := tw_t 643 (by decide +kernel) (by decide +kernel)
theorem kCX0_ofQuotient : Cond.code yX0_ofQuotient cX0_ofQuotient 4 (some .long) ∈ TW := tw_t 644 (by decide +kernel) (by decide +kernel)
theorem kMX0_7 : Cond.methodLink RX0 7 yX0_ofDouble ∈ TW := tw_t 645 (by decide +kernel) (by decide +kernel)
theorem kSX0_ofDouble : Cond.static yX0_ofDouble ∈ TW := tw_t 646 (by decide +kernel) (by decide +kernel)
theorem kCX0_ofDouble : Cond.code yX0_ofDouble cX0_ofDouble 7 (some .long) ∈ TW := tw_t 647 (by decide +kernel) (by decide +kernel)
theorem kMX0_19 : Cond.methodLink RX0 19 yX0_powerOf ∈ TW := tw_t 648 (by decide +kernel) (by decide +kernel)
theorem kSX0_powerOf : Cond.static yX0_powerOf ∈ TW := tw_t 649 (by decide +kernel) (by decide +kernel)
theorem kCX0_powerOf : Cond.code yX0_powerOf cX0_powerOf 5 (some .int) ∈ TW := tw_t 650 (by decide +kernel) (by decide +kernel)
theorem kKX0_34 : Cond.constantDouble RX0 34 (4611686018427387904) ∈ TW := tw_t 651 (by decide +kernel) (by decide +kernel)
theorem kMX0_23 : Cond.methodLink RX0 23 yX0_scaled ∈ TW := tw_t 652 (by decide +kernel) (by decide +kernel)
theorem kSX0_scaled : Cond.static yX0_scaled ∈ TW := tw_t 653 (by decide +kernel) (by decide +kernel)
theorem kCX0_scaled : Cond.code yX0_scaled cX0_scaled 6 (some .double) ∈ TW := tw_t 654 (by decide +kernel) (by decide +kernel)
theorem kKX0_27 : Cond.constantDouble RX0 27 (4841369599423283200) ∈ TW := tw_t 655 (by decide +kernel) (by decide +kernel)
theorem kKX0_29 : Cond.constantLong RX0 29 (-9223372036854775808) ∈ TW := tw_t 656 (by decide +kernel) (by decide +kernel)
theorem kKX0_13 : Cond.constantLong RX0 13 (9221120237041090560) ∈ TW := tw_t 657 (by decide +kernel) (by decide +kernel)
theorem kKX0_15 : Cond.constantLong RX0 15 (-4503599627370496) ∈ TW := tw_t 658 (by decide +kernel) (by decide +kernel)
theorem kKX0_17 : Cond.constantLong RX0 17 (9218868437227405312) ∈ TW := tw_t 659 (by decide +kernel) (by decide +kernel)
theorem kML_103 : Cond.methodLink RL 103 yX9_rate ∈ TW := tw_t 660 (by decide +kernel) (by decide +kernel)
theorem kIX9_rate : Cond.instanceMethod yX9_rate ∈ TW := tw_t 661 (by decide +kernel) (by decide +kernel)
theorem kLX9_rate : Cond.selects RX9 yX9_rate yX9_rate ∈ TW := tw_t 662 (by decide +kernel) (by decide +kernel)
theorem kCX9_rate : Cond.code yX9_rate cX9_rate 2 (some .int) ∈ TW := tw_t 663 (by decide +kernel) (by decide +kernel)
theorem kKX9_229 : Cond.constantFloat RX9 229 (1232348160) ∈ TW := tw_t 664 (by decide +kernel) (by decide +kernel)
theorem kMX9_230 : Cond.methodLink RX9 230 yX0_ofFloat ∈ TW := tw_t 665 (by decide +kernel) (by decide +kernel)
theorem kSX0_ofFloat : Cond.static yX0_ofFloat ∈ TW := tw_t 666 (by decide +kernel) (by decide +kernel)
theorem kCX0_ofFloat : Cond.code yX0_ofFloat cX0_ofFloat 5 (some .int) ∈ TW := tw_t 667 (by decide +kernel) (by decide +kernel)
theorem kKX0_31 : Cond.constantDouble RX0 31 (4710765210229538816) ∈ TW := tw_t 668 (by decide +kernel) (by decide +kernel)
theorem kKX0_33 : Cond.constant RX0 33 (-2147483648) ∈ TW := tw_t 669 (by decide +kernel) (by decide +kernel)
theorem kML_107 : Cond.methodLink RL 107 yX9_jumps ∈ TW := tw_t 670 (by decide +kernel) (by decide +kernel)
theorem kIX9_jumps : Cond.instanceMethod yX9_jumps ∈ TW := tw_t 671 (by decide +kernel) (by decide +kernel)
theorem kLX9_jumps : Cond.selects RX9 yX9_jumps yX9_jumps ∈ TW := tw_t 672 (by decide +kernel) (by decide +kernel)
theorem kCX9_jumps : Cond.code yX9_jumps cX9_jumps 2 (some .int) ∈ TW := tw_t 673 (by decide +kernel) (by decide +kernel)
theorem kMX9_234 : Cond.methodLink RX9 234 yX1_jumpCount ∈ TW := tw_t 674 (by decide +kernel) (by decide +kernel)
theorem kIX1_jumpCount : Cond.instanceMethod yX1_jumpCount ∈ TW := tw_t 675 (by decide +kernel) (by decide +kernel)
theorem kLX1_jumpCount : Cond.selects RX1 yX1_jumpCount yX1_jumpCount ∈ TW := tw_t 676 (by decide +kernel) (by decide +kernel)
theorem kCX1_jumpCount : Cond.code yX1_jumpCount cX1_jumpCount 3 (some .int) ∈ TW := tw_t 677 (by decide +kernel) (by decide +kernel)
theorem kML_111 : Cond.methodLink RL 111 yX9_bend ∈ TW := tw_t 678 (by decide +kernel) (by decide +kernel)
theorem kIX9_bend : Cond.instanceMethod yX9_bend ∈ TW := tw_t 679 (by decide +kernel) (by decide +kernel)
theorem kLX9_bend : Cond.selects RX9 yX9_bend yX9_bend ∈ TW := tw_t 680 (by decide +kernel) (by decide +kernel)
theorem kCX9_bend : Cond.code yX9_bend cX9_bend 7 (some .int) ∈ TW := tw_t 681 (by decide +kernel) (by decide +kernel)
theorem kMX9_237 : Cond.methodLink RX9 237 yX9_refuse ∈ TW := tw_t 682 (by decide +kernel) (by decide +kernel)
theorem kIX9_refuse : Cond.instanceMethod yX9_refuse ∈ TW := tw_t 684 (by decide +kernel) (by decide +kernel)
theorem kCX9_refuse : Cond.code yX9_refuse cX9_refuse 3 (some .int) ∈ TW := tw_t 685 (by decide +kernel) (by decide +kernel)
theorem kMX9_241 : Cond.methodLink RX9 241 yX9_mayBend ∈ TW := tw_t 686 (by decide +kernel) (by decide +kernel)
theorem kIX9_mayBend : Cond.instanceMethod yX9_mayBend ∈ TW := tw_t 688 (by decide +kernel) (by decide +kernel)
theorem kCX9_mayBend : Cond.code yX9_mayBend cX9_mayBend 5 (some .boolean) ∈ TW := tw_t 689 (by decide +kernel) (by decide +kernel)
theorem kMX9_364 : Cond.methodLink RX9 364 yX5_mayStart ∈ TW := tw_t 690 (by decide +kernel) (by decide +kernel)
theorem kIX5_mayStart : Cond.instanceMethod yX5_mayStart ∈ TW := tw_t 691 (by decide +kernel) (by decide +kernel)
theorem kLX5_mayStart : Cond.selects RX5 yX5_mayStart yX5_mayStart ∈ TW := tw_t 692 (by decide +kernel) (by decide +kernel)
theorem kCX5_mayStart : Cond.code yX5_mayStart cX5_mayStart 4 (some .boolean) ∈ TW := tw_t 693 (by decide +kernel) (by decide +kernel)
theorem kMX9_245 : Cond.methodLink RX9 245 yX5_rowOfWhat ∈ TW := tw_t 694 (by decide +kernel) (by decide +kernel)
theorem kIX5_rowOfWhat : Cond.instanceMethod yX5_rowOfWhat ∈ TW := tw_t 695 (by decide +kernel) (by decide +kernel)
theorem kLX5_rowOfWhat : Cond.selects RX5 yX5_rowOfWhat yX5_rowOfWhat ∈ TW := tw_t 696 (by decide +kernel) (by decide +kernel)
theorem kCX5_rowOfWhat : Cond.code yX5_rowOfWhat cX5_rowOfWhat 3 (some (.array .int)) ∈ TW := tw_t 697 (by decide +kernel) (by decide +kernel)
theorem kMX9_249 : Cond.methodLink RX9 249 yX5_settle ∈ TW := tw_t 698 (by decide +kernel) (by decide +kernel)
theorem kML_116 : Cond.methodLink RL 116 yX9_benefit ∈ TW := tw_t 699 (by decide +kernel) (by decide +kernel)
theorem kIX9_benefit : Cond.instanceMethod yX9_benefit ∈ TW := tw_t 700 (by decide +kernel) (by decide +kernel)
theorem kLX9_benefit : Cond.selects RX9 yX9_benefit yX9_benefit ∈ TW := tw_t 701 (by decide +kernel) (by decide +kernel)
theorem kCX9_benefit : Cond.code yX9_benefit cX9_benefit 3 (some .int) ∈ TW := tw_t 702 (by decide +kernel) (by decide +kernel)
theorem kML_120 : Cond.methodLink RL 120 yX9_month ∈ TW := tw_t 703 (by decide +kernel) (by decide +kernel)
theorem kIX9_month : Cond.instanceMethod yX9_month ∈ TW := tw_t 704 (by decide +kernel) (by decide +kernel)
theorem kLX9_month : Cond.selects RX9 yX9_month yX9_month ∈ TW := tw_t 705 (by decide +kernel) (by decide +kernel)
theorem kCX9_month : Cond.code yX9_month cX9_month 2 (some .long) ∈ TW := tw_t 706 (by decide +kernel) (by decide +kernel)
theorem kMX9_252 : Cond.methodLink RX9 252 yX8_isFull ∈ TW := tw_t 707 (by decide +kernel) (by decide +kernel)
theorem kIX8_isFull : Cond.instanceMethod yX8_isFull ∈ TW := tw_t 708 (by decide +kernel) (by decide +kernel)
theorem kLX8_isFull : Cond.selects RX8 yX8_isFull yX8_isFull ∈ TW := tw_t 709 (by decide +kernel) (by decide +kernel)
theorem kCX8_isFull : Cond.code yX8_isFull cX8_isFull 1 (some .boolean) ∈ TW := tw_t 710 (by decide +kernel) (by decide +kernel)
theorem kMX9_259 : Cond.methodLink RX9 259 yX8_paidIn ∈ TW := tw_t 711 (by decide +kernel) (by decide +kernel)
theorem kIX8_paidIn : Cond.instanceMethod yX8_paidIn ∈ TW := tw_t 712 (by decide +kernel) (by decide +kernel)
theorem kLX8_paidIn : Cond.selects RX8 yX8_paidIn yX8_paidIn ∈ TW := tw_t 713 (by decide +kernel) (by decide +kernel)
theorem kCX8_paidIn : Cond.code yX8_paidIn cX8_paidIn 4 (some .long) ∈ TW := tw_t 714 (by decide +kernel) (by decide +kernel)
theorem kMX8_43 : Cond.methodLink RX8 43 yX8_wagesOf ∈ TW := tw_t 715 (by decide +kernel) (by decide +kernel)
theorem kIX8_wagesOf : Cond.instanceMethod yX8_wagesOf ∈ TW := tw_t 716 (by decide +kernel) (by decide +kernel)
theorem kLX8_wagesOf : Cond.selects RX8 yX8_wagesOf yX8_wagesOf ∈ TW := tw_t 717 (by decide +kernel) (by decide +kernel)
theorem kCX8_wagesOf : Cond.code yX8_wagesOf cX8_wagesOf 4 (some .int) ∈ TW := tw_t 718 (by decide +kernel) (by decide +kernel)
theorem kKX8_25 : Cond.constantLong RX8 25 (1000000000) ∈ TW := tw_t 719 (by decide +kernel) (by decide +kernel)
theorem kMX8_39 : Cond.methodLink RX8 39 yX8_due ∈ TW := tw_t 720 (by decide +kernel) (by decide +kernel)
theorem kSX8_due : Cond.static yX8_due ∈ TW := tw_t 721 (by decide +kernel) (by decide +kernel)
theorem kCX8_due : Cond.code yX8_due cX8_due 6 (some .long) ∈ TW := tw_t 722 (by decide +kernel) (by decide +kernel)
theorem kMX8_19 : Cond.methodLink RX8 19 yJ9_min_7cf53 ∈ TW := tw_t 723 (by decide +kernel) (by decide +kernel)
theorem kMX8_27 : Cond.methodLink RX8 27 yX1_valueAt ∈ TW := tw_t 724 (by decide +kernel) (by decide +kernel)
theorem kKX8_33 : Cond.constantLong RX8 33 (12) ∈ TW := tw_t 725 (by decide +kernel) (by decide +kernel)
theorem kMX8_35 : Cond.methodLink RX8 35 yJ9_floorDiv_f86c9 ∈ TW := tw_t 726 (by decide +kernel) (by decide +kernel)
theorem kSJ9_floorDiv_f86c9 : Cond.static yJ9_floorDiv_f86c9 ∈ TW := tw_t 727 (by decide +kernel) (by decide +kernel)
theorem kCJ9_floorDiv_f86c9 : Cond.code yJ9_floorDiv_f86c9 cJ9_floorDiv_f86c9 6 (some .long) ∈ TW := tw_t 728 (by decide +kernel) (by decide +kernel)
theorem kML_124 : Cond.methodLink RL 124 yX9_takeBack ∈ TW := tw_t 729 (by decide +kernel) (by decide +kernel)
theorem kIX9_takeBack : Cond.instanceMethod yX9_takeBack ∈ TW := tw_t 730 (by decide +kernel) (by decide +kernel)
theorem kLX9_takeBack : Cond.selects RX9 yX9_takeBack yX9_takeBack ∈ TW := tw_t 731 (by decide +kernel) (by decide +kernel)
theorem kCX9_takeBack : Cond.code yX9_takeBack cX9_takeBack 1 (some .int) ∈ TW := tw_t 732 (by decide +kernel) (by decide +kernel)
theorem kML_128 : Cond.methodLink RL 128 yX9_year ∈ TW := tw_t 733 (by decide +kernel) (by decide +kernel)
theorem kIX9_year : Cond.instanceMethod yX9_year ∈ TW := tw_t 734 (by decide +kernel) (by decide +kernel)
theorem kLX9_year : Cond.selects RX9 yX9_year yX9_year ∈ TW := tw_t 735 (by decide +kernel) (by decide +kernel)
theorem kCX9_year : Cond.code yX9_year cX9_year 3 (some .long) ∈ TW := tw_t 736 (by decide +kernel) (by decide +kernel)
theorem kMX9_263 : Cond.methodLink RX9 263 yX9_isMonth ∈ TW := tw_t 737 (by decide +kernel) (by decide +kernel)
theorem kIX9_isMonth : Cond.instanceMethod yX9_isMonth ∈ TW := tw_t 739 (by decide +kernel) (by decide +kernel)
theorem kCX9_isMonth : Cond.code yX9_isMonth cX9_isMonth 2 (some .boolean) ∈ TW := tw_t 740 (by decide +kernel) (by decide +kernel)
theorem kMX9_266 : Cond.methodLink RX9 266 yX8_wagesOf ∈ TW := tw_t 741 (by decide +kernel) (by decide +kernel)
theorem kMX9_268 : Cond.methodLink RX9 268 yX8_due ∈ TW := tw_t 742 (by decide +kernel) (by decide +kernel)
theorem kML_132 : Cond.methodLink RL 132 yX9_sofar ∈ TW := tw_t 743 (by decide +kernel) (by decide +kernel)
theorem kIX9_sofar : Cond.instanceMethod yX9_sofar ∈ TW := tw_t 744 (by decide +kernel) (by decide +kernel)
theorem kLX9_sofar : Cond.selects RX9 yX9_sofar yX9_sofar ∈ TW := tw_t 745 (by decide +kernel) (by decide +kernel)
theorem kCX9_sofar : Cond.code yX9_sofar cX9_sofar 2 (some .long) ∈ TW := tw_t 746 (by decide +kernel) (by decide +kernel)
theorem kMX9_272 : Cond.methodLink RX9 272 yX8_paidOf ∈ TW := tw_t 747 (by decide +kernel) (by decide +kernel)
theorem kSX8_paidOf : Cond.static yX8_paidOf ∈ TW := tw_t 748 (by decide +kernel) (by decide +kernel)
theorem kCX8_paidOf : Cond.code yX8_paidOf cX8_paidOf 3 (some .long) ∈ TW := tw_t 749 (by decide +kernel) (by decide +kernel)
theorem kMX9_275 : Cond.methodLink RX9 275 yX8_paidAboveWage ∈ TW := tw_t 750 (by decide +kernel) (by decide +kernel)
theorem kIX8_paidAboveWage : Cond.instanceMethod yX8_paidAboveWage ∈ TW := tw_t 751 (by decide +kernel) (by decide +kernel)
theorem kLX8_paidAboveWage : Cond.selects RX8 yX8_paidAboveWage yX8_paidAboveWage ∈ TW := tw_t 752 (by decide +kernel) (by decide +kernel)
theorem kCX8_paidAboveWage : Cond.code yX8_paidAboveWage cX8_paidAboveWage 4 (some .int) ∈ TW := tw_t 753 (by decide +kernel) (by decide +kernel)
theorem kMX8_47 : Cond.methodLink RX8 47 yX8_paidIn ∈ TW := tw_t 754 (by decide +kernel) (by decide +kernel)
theorem kMX9_279 : Cond.methodLink RX9 279 yX8_leastPaid ∈ TW := tw_t 755 (by decide +kernel) (by decide +kernel)
theorem kIX8_leastPaid : Cond.instanceMethod yX8_leastPaid ∈ TW := tw_t 756 (by decide +kernel) (by decide +kernel)
theorem kLX8_leastPaid : Cond.selects RX8 yX8_leastPaid yX8_leastPaid ∈ TW := tw_t 757 (by decide +kernel) (by decide +kernel)
theorem kCX8_leastPaid : Cond.code yX8_leastPaid cX8_leastPaid 4 (some .int) ∈ TW := tw_t 758 (by decide +kernel) (by decide +kernel)
theorem kML_136 : Cond.methodLink RL 136 yX9_nextMonth ∈ TW := tw_t 759 (by decide +kernel) (by decide +kernel)
theorem kIX9_nextMonth : Cond.instanceMethod yX9_nextMonth ∈ TW := tw_t 760 (by decide +kernel) (by decide +kernel)
theorem kLX9_nextMonth : Cond.selects RX9 yX9_nextMonth yX9_nextMonth ∈ TW := tw_t 761 (by decide +kernel) (by decide +kernel)
theorem kCX9_nextMonth : Cond.code yX9_nextMonth cX9_nextMonth 3 (some .int) ∈ TW := tw_t 762 (by decide +kernel) (by decide +kernel)
theorem kMX9_282 : Cond.methodLink RX9 282 yX8_leastNext ∈ TW := tw_t 763 (by decide +kernel) (by decide +kernel)
theorem kIX8_leastNext : Cond.instanceMethod yX8_leastNext ∈ TW := tw_t 764 (by decide +kernel) (by decide +kernel)
theorem kLX8_leastNext : Cond.selects RX8 yX8_leastNext yX8_leastNext ∈ TW := tw_t 765 (by decide +kernel) (by decide +kernel)
theorem kCX8_leastNext : Cond.code yX8_leastNext cX8_leastNext 8 (some .int) ∈ TW := tw_t 766 (by decide +kernel) (by decide +kernel)
theorem kML_141 : Cond.methodLink RL 141 yX9_level ∈ TW := tw_t 767 (by decide +kernel) (by decide +kernel)
theorem kIX9_level : Cond.instanceMethod yX9_level ∈ TW := tw_t 768 (by decide +kernel) (by decide +kernel)
theorem kLX9_level : Cond.selects RX9 yX9_level yX9_level ∈ TW := tw_t 769 (by decide +kernel) (by decide +kernel)
theorem kCX9_level : Cond.code yX9_level cX9_level 3 (some .int) ∈ TW := tw_t 770 (by decide +kernel) (by decide +kernel)
theorem kMX9_286 : Cond.methodLink RX9 286 yX8_leastEach ∈ TW := tw_t 771 (by decide +kernel) (by decide +kernel)
theorem kIX8_leastEach : Cond.instanceMethod yX8_leastEach ∈ TW := tw_t 772 (by decide +kernel) (by decide +kernel)
theorem kLX8_leastEach : Cond.selects RX8 yX8_leastEach yX8_leastEach ∈ TW := tw_t 773 (by decide +kernel) (by decide +kernel)
theorem kCX8_leastEach : Cond.code yX8_leastEach cX8_leastEach 7 (some .int) ∈ TW := tw_t 774 (by decide +kernel) (by decide +kernel)
theorem kMX8_51 : Cond.methodLink RX8 51 yX8_paidOf ∈ TW := tw_t 775 (by decide +kernel) (by decide +kernel)
theorem kML_145 : Cond.methodLink RL 145 yX9_dueAhead ∈ TW := tw_t 776 (by decide +kernel) (by decide +kernel)
theorem kIX9_dueAhead : Cond.instanceMethod yX9_dueAhead ∈ TW := tw_t 777 (by decide +kernel) (by decide +kernel)
theorem kLX9_dueAhead : Cond.selects RX9 yX9_dueAhead yX9_dueAhead ∈ TW := tw_t 778 (by decide +kernel) (by decide +kernel)
theorem kCX9_dueAhead : Cond.code yX9_dueAhead cX9_dueAhead 3 (some .long) ∈ TW := tw_t 779 (by decide +kernel) (by decide +kernel)
theorem kML_150 : Cond.methodLink RL 150 yX9_would ∈ TW := tw_t 780 (by decide +kernel) (by decide +kernel)
theorem kIX9_would : Cond.instanceMethod yX9_would ∈ TW := tw_t 781 (by decide +kernel) (by decide +kernel)
theorem kLX9_would : Cond.selects RX9 yX9_would yX9_would ∈ TW := tw_t 782 (by decide +kernel) (by decide +kernel)
theorem kCX9_would : Cond.code yX9_would cX9_would 8 (some .long) ∈ TW := tw_t 783 (by decide +kernel) (by decide +kernel)
theorem kML_155 : Cond.methodLink RL 155 yX9_both ∈ TW := tw_t 784 (by decide +kernel) (by decide +kernel)
theorem kIX9_both : Cond.instanceMethod yX9_both ∈ TW := tw_t 785 (by decide +kernel) (by decide +kernel)
theorem kLX9_both : Cond.selects RX9 yX9_both yX9_both ∈ TW := tw_t 786 (by decide +kernel) (by decide +kernel)
theorem kCX9_both : Cond.code yX9_both cX9_both 3 (some .long) ∈ TW := tw_t 787 (by decide +kernel) (by decide +kernel)
theorem kML_159 : Cond.methodLink RL 159 yX9_without ∈ TW := tw_t 788 (by decide +kernel) (by decide +kernel)
theorem kIX9_without : Cond.instanceMethod yX9_without ∈ TW := tw_t 789 (by decide +kernel) (by decide +kernel)
theorem kLX9_without : Cond.selects RX9 yX9_without yX9_without ∈ TW := tw_t 790 (by decide +kernel) (by decide +kernel)
theorem kCX9_without : Cond.code yX9_without cX9_without 3 (some .long) ∈ TW := tw_t 791 (by decide +kernel) (by decide +kernel)
theorem kMX9_289 : Cond.methodLink RX9 289 yX3_reckonHeld ∈ TW := tw_t 792 (by decide +kernel) (by decide +kernel)
theorem kML_163 : Cond.methodLink RL 163 yX9_kept ∈ TW := tw_t 793 (by decide +kernel) (by decide +kernel)
theorem kIX9_kept : Cond.instanceMethod yX9_kept ∈ TW := tw_t 794 (by decide +kernel) (by decide +kernel)
theorem kLX9_kept : Cond.selects RX9 yX9_kept yX9_kept ∈ TW := tw_t 795 (by decide +kernel) (by decide +kernel)
theorem kCX9_kept : Cond.code yX9_kept cX9_kept 2 (some .long) ∈ TW := tw_t 796 (by decide +kernel) (by decide +kernel)
theorem kML_167 : Cond.methodLink RL 167 yX9_first ∈ TW := tw_t 797 (by decide +kernel) (by decide +kernel)
theorem kIX9_first : Cond.instanceMethod yX9_first ∈ TW := tw_t 798 (by decide +kernel) (by decide +kernel)
theorem kLX9_first : Cond.selects RX9 yX9_first yX9_first ∈ TW := tw_t 799 (by decide +kernel) (by decide +kernel)
theorem kCX9_first : Cond.code yX9_first cX9_first 2 (some .int) ∈ TW := tw_t 800 (by decide +kernel) (by decide +kernel)
theorem kML_171 : Cond.methodLink RL 171 yX9_raise ∈ TW := tw_t 801 (by decide +kernel) (by decide +kernel)
theorem kIX9_raise : Cond.instanceMethod yX9_raise ∈ TW := tw_t 802 (by decide +kernel) (by decide +kernel)
theorem kLX9_raise : Cond.selects RX9 yX9_raise yX9_raise ∈ TW := tw_t 803 (by decide +kernel) (by decide +kernel)
theorem kCX9_raise : Cond.code yX9_raise cX9_raise 5 (some .int) ∈ TW := tw_t 804 (by decide +kernel) (by decide +kernel)
theorem kKX9_293 : Cond.constantLong RX9 293 (4000000000000000000) ∈ TW := tw_t 805 (by decide +kernel) (by decide +kernel)
theorem kMX9_295 : Cond.methodLink RX9 295 yJ9_min_f86c9 ∈ TW := tw_t 806 (by decide +kernel) (by decide +kernel)
theorem kML_176 : Cond.methodLink RL 176 yX9_over ∈ TW := tw_t 807 (by decide +kernel) (by decide +kernel)
theorem kIX9_over : Cond.instanceMethod yX9_over ∈ TW := tw_t 808 (by decide +kernel) (by decide +kernel)
theorem kLX9_over : Cond.selects RX9 yX9_over yX9_over ∈ TW := tw_t 809 (by decide +kernel) (by decide +kernel)
theorem kCX9_over : Cond.code yX9_over cX9_over 4 (some .int) ∈ TW := tw_t 810 (by decide +kernel) (by decide +kernel)
theorem kMX9_300 : Cond.methodLink RX9 300 yX1_becomeDifference ∈ TW := tw_t 811 (by decide +kernel) (by decide +kernel)
theorem kIX1_becomeDifference : Cond.instanceMethod yX1_becomeDifference ∈ TW := tw_t 812 (by decide +kernel) (by decide +kernel)
theorem kLX1_becomeDifference : Cond.selects RX1 yX1_becomeDifference yX1_becomeDifference ∈ TW := tw_t 813 (by decide +kernel) (by decide +kernel)
theorem kCX1_becomeDifference : Cond.code yX1_becomeDifference cX1_becomeDifference 9 none ∈ TW := tw_t 814 (by decide +kernel) (by decide +kernel)
theorem kMX1_64 : Cond.methodLink RX1 64 yJ9_min_7cf53 ∈ TW := tw_t 815 (by decide +kernel) (by decide +kernel)
theorem kMX1_74 : Cond.methodLink RX1 74 yX1_addStretch ∈ TW := tw_t 816 (by decide +kernel) (by decide +kernel)
theorem kML_180 : Cond.methodLink RL 180 yX9_inKind ∈ TW := tw_t 817 (by decide +kernel) (by decide +kernel)
theorem kIX9_inKind : Cond.instanceMethod yX9_inKind ∈ TW := tw_t 818 (by decide +kernel) (by decide +kernel)
theorem kLX9_inKind : Cond.selects RX9 yX9_inKind yX9_inKind ∈ TW := tw_t 819 (by decide +kernel) (by decide +kernel)
theorem kCX9_inKind : Cond.code yX9_inKind cX9_inKind 5 (some .int) ∈ TW := tw_t 820 (by decide +kernel) (by decide +kernel)
theorem kML_184 : Cond.methodLink RL 184 yX9_through ∈ TW := tw_t 821 (by decide +kernel) (by decide +kernel)
theorem kIX9_through : Cond.instanceMethod yX9_through ∈ TW := tw_t 822 (by decide +kernel) (by decide +kernel)
theorem kLX9_through : Cond.selects RX9 yX9_through yX9_through ∈ TW := tw_t 823 (by decide +kernel) (by decide +kernel)
theorem kCX9_through : Cond.code yX9_through cX9_through 7 (some .long) ∈ TW := tw_t 824 (by decide +kernel) (by decide +kernel)
theorem kML_188 : Cond.methodLink RL 188 yX9_crossings ∈ TW := tw_t 825 (by decide +kernel) (by decide +kernel)
theorem kIX9_crossings : Cond.instanceMethod yX9_crossings ∈ TW := tw_t 826 (by decide +kernel) (by decide +kernel)
theorem kLX9_crossings : Cond.selects RX9 yX9_crossings yX9_crossings ∈ TW := tw_t 827 (by decide +kernel) (by decide +kernel)
theorem kCX9_crossings : Cond.code yX9_crossings cX9_crossings 5 (some .long) ∈ TW := tw_t 828 (by decide +kernel) (by decide +kernel)
theorem kMX9_304 : Cond.methodLink RX9 304 yX1_signChanges ∈ TW := tw_t 829 (by decide +kernel) (by decide +kernel)
theorem kIX1_signChanges : Cond.instanceMethod yX1_signChanges ∈ TW := tw_t 830 (by decide +kernel) (by decide +kernel)
theorem kLX1_signChanges : Cond.selects RX1 yX1_signChanges yX1_signChanges ∈ TW := tw_t 831 (by decide +kernel) (by decide +kernel)
theorem kCX1_signChanges : Cond.code yX1_signChanges cX1_signChanges 4 (some .int) ∈ TW := tw_t 832 (by decide +kernel) (by decide +kernel)
theorem kMX1_149 : Cond.methodLink RX1 149 yJ13_signum_95d88 ∈ TW := tw_t 833 (by decide +kernel) (by decide +kernel)
theorem kSJ13_signum_95d88 : Cond.static yJ13_signum_95d88 ∈ TW := tw_t 834 (by decide +kernel) (by decide +kernel)
theorem kCJ13_signum_95d88 : Cond.code yJ13_signum_95d88 cJ13_signum_95d88 2 (some .int) ∈ TW := tw_t 835 (by decide +kernel) (by decide +kernel)
theorem kMX9_307 : Cond.methodLink RX9 307 yX1_widest ∈ TW := tw_t 836 (by decide +kernel) (by decide +kernel)
theorem kIX1_widest : Cond.instanceMethod yX1_widest ∈ TW := tw_t 837 (by decide +kernel) (by decide +kernel)
theorem kLX1_widest : Cond.selects RX1 yX1_widest yX1_widest ∈ TW := tw_t 838 (by decide +kernel) (by decide +kernel)
theorem kCX1_widest : Cond.code yX1_widest cX1_widest 7 (some .int) ∈ TW := tw_t 839 (by decide +kernel) (by decide +kernel)
theorem kMX1_138 : Cond.methodLink RX1 138 yX1_wageOfMost ∈ TW := tw_t 840 (by decide +kernel) (by decide +kernel)
theorem kIX1_wageOfMost : Cond.instanceMethod yX1_wageOfMost ∈ TW := tw_t 841 (by decide +kernel) (by decide +kernel)
theorem kLX1_wageOfMost : Cond.selects RX1 yX1_wageOfMost yX1_wageOfMost ∈ TW := tw_t 842 (by decide +kernel) (by decide +kernel)
theorem kCX1_wageOfMost : Cond.code yX1_wageOfMost cX1_wageOfMost 5 (some .int) ∈ TW := tw_t 843 (by decide +kernel) (by decide +kernel)
theorem kMX1_142 : Cond.methodLink RX1 142 yX1_wageOfLeast ∈ TW := tw_t 844 (by decide +kernel) (by decide +kernel)
theorem kIX1_wageOfLeast : Cond.instanceMethod yX1_wageOfLeast ∈ TW := tw_t 845 (by decide +kernel) (by decide +kernel)
theorem kLX1_wageOfLeast : Cond.selects RX1 yX1_wageOfLeast yX1_wageOfLeast ∈ TW := tw_t 846 (by decide +kernel) (by decide +kernel)
theorem kCX1_wageOfLeast : Cond.code yX1_wageOfLeast cX1_wageOfLeast 5 (some .int) ∈ TW := tw_t 847 (by decide +kernel) (by decide +kernel)
theorem kMX1_145 : Cond.methodLink RX1 145 yJ9_abs_067f4 ∈ TW := tw_t 848 (by decide +kernel) (by decide +kernel)
theorem kSJ9_abs_067f4 : Cond.static yJ9_abs_067f4 ∈ TW := tw_t 849 (by decide +kernel) (by decide +kernel)
theorem kCJ9_abs_067f4 : Cond.code yJ9_abs_067f4 cJ9_abs_067f4 2 (some .long) ∈ TW := tw_t 850 (by decide +kernel) (by decide +kernel)
theorem kMX9_310 : Cond.methodLink RX9 310 yJ9_abs_067f4 ∈ TW := tw_t 851 (by decide +kernel) (by decide +kernel)
theorem kML_192 : Cond.methodLink RL 192 yX9_kinks ∈ TW := tw_t 852 (by decide +kernel) (by decide +kernel)
theorem kIX9_kinks : Cond.instanceMethod yX9_kinks ∈ TW := tw_t 853 (by decide +kernel) (by decide +kernel)
theorem kLX9_kinks : Cond.selects RX9 yX9_kinks yX9_kinks ∈ TW := tw_t 854 (by decide +kernel) (by decide +kernel)
theorem kCX9_kinks : Cond.code yX9_kinks cX9_kinks 3 (some .int) ∈ TW := tw_t 855 (by decide +kernel) (by decide +kernel)
theorem kMX9_314 : Cond.methodLink RX9 314 yX1_kinkCount ∈ TW := tw_t 856 (by decide +kernel) (by decide +kernel)
theorem kIX1_kinkCount : Cond.instanceMethod yX1_kinkCount ∈ TW := tw_t 857 (by decide +kernel) (by decide +kernel)
theorem kLX1_kinkCount : Cond.selects RX1 yX1_kinkCount yX1_kinkCount ∈ TW := tw_t 858 (by decide +kernel) (by decide +kernel)
theorem kCX1_kinkCount : Cond.code yX1_kinkCount cX1_kinkCount 4 (some .int) ∈ TW := tw_t 859 (by decide +kernel) (by decide +kernel)
theorem kML_196 : Cond.methodLink RL 196 yX9_until ∈ TW := tw_t 860 (by decide +kernel) (by decide +kernel)
theorem kIX9_until : Cond.instanceMethod yX9_until ∈ TW := tw_t 861 (by decide +kernel) (by decide +kernel)
theorem kLX9_until : Cond.selects RX9 yX9_until yX9_until ∈ TW := tw_t 862 (by decide +kernel) (by decide +kernel)
theorem kCX9_until : Cond.code yX9_until cX9_until 4 (some .int) ∈ TW := tw_t 863 (by decide +kernel) (by decide +kernel)
theorem kMX9_318 : Cond.methodLink RX9 318 yX8_leastMonths ∈ TW := tw_t 864 (by decide +kernel) (by decide +kernel)
theorem kIX8_leastMonths : Cond.instanceMethod yX8_leastMonths ∈ TW := tw_t 865 (by decide +kernel) (by decide +kernel)
theorem kLX8_leastMonths : Cond.selects RX8 yX8_leastMonths yX8_leastMonths ∈ TW := tw_t 866 (by decide +kernel) (by decide +kernel)
theorem kCX8_leastMonths : Cond.code yX8_leastMonths cX8_leastMonths 7 (some .int) ∈ TW := tw_t 867 (by decide +kernel) (by decide +kernel)
theorem kML_200 : Cond.methodLink RL 200 yX9_free ∈ TW := tw_t 868 (by decide +kernel) (by decide +kernel)
theorem kIX9_free : Cond.instanceMethod yX9_free ∈ TW := tw_t 869 (by decide +kernel) (by decide +kernel)
theorem kLX9_free : Cond.selects RX9 yX9_free yX9_free ∈ TW := tw_t 870 (by decide +kernel) (by decide +kernel)
theorem kCX9_free : Cond.code yX9_free cX9_free 2 (some .int) ∈ TW := tw_t 871 (by decide +kernel) (by decide +kernel)
theorem kMX9_322 : Cond.methodLink RX9 322 yX1_greatestKeptNoMore ∈ TW := tw_t 872 (by decide +kernel) (by decide +kernel)
theorem kIX1_greatestKeptNoMore : Cond.instanceMethod yX1_greatestKeptNoMore ∈ TW := tw_t 873 (by decide +kernel) (by decide +kernel)
theorem kLX1_greatestKeptNoMore : Cond.selects RX1 yX1_greatestKeptNoMore yX1_greatestKeptNoMore ∈ TW := tw_t 874 (by decide +kernel) (by decide +kernel)
theorem kCX1_greatestKeptNoMore : Cond.code yX1_greatestKeptNoMore cX1_greatestKeptNoMore 6 (some .int) ∈ TW := tw_t 875 (by decide +kernel) (by decide +kernel)
theorem kKX1_109 : Cond.constantLong RX1 109 (1000000000) ∈ TW := tw_t 876 (by decide +kernel) (by decide +kernel)
theorem kKX1_111 : Cond.constantLong RX1 111 (1000000) ∈ TW := tw_t 877 (by decide +kernel) (by decide +kernel)
theorem kML_204 : Cond.methodLink RL 204 yX9_putIn ∈ TW := tw_t 878 (by decide +kernel) (by decide +kernel)
theorem kIX9_putIn : Cond.instanceMethod yX9_putIn ∈ TW := tw_t 879 (by decide +kernel) (by decide +kernel)
theorem kLX9_putIn : Cond.selects RX9 yX9_putIn yX9_putIn ∈ TW := tw_t 880 (by decide +kernel) (by decide +kernel)
theorem kCX9_putIn : Cond.code yX9_putIn cX9_putIn 4 (some .long) ∈ TW := tw_t 881 (by decide +kernel) (by decide +kernel)
theorem kMX9_325 : Cond.methodLink RX9 325 yX8_paidBehind ∈ TW := tw_t 882 (by decide +kernel) (by decide +kernel)
theorem kIX8_paidBehind : Cond.instanceMethod yX8_paidBehind ∈ TW := tw_t 883 (by decide +kernel) (by decide +kernel)
theorem kLX8_paidBehind : Cond.selects RX8 yX8_paidBehind yX8_paidBehind ∈ TW := tw_t 884 (by decide +kernel) (by decide +kernel)
theorem kCX8_paidBehind : Cond.code yX8_paidBehind cX8_paidBehind 5 (some .long) ∈ TW := tw_t 885 (by decide +kernel) (by decide +kernel)
theorem kML_208 : Cond.methodLink RL 208 yX9_spell ∈ TW := tw_t 886 (by decide +kernel) (by decide +kernel)
theorem kIX9_spell : Cond.instanceMethod yX9_spell ∈ TW := tw_t 887 (by decide +kernel) (by decide +kernel)
theorem kLX9_spell : Cond.selects RX9 yX9_spell yX9_spell ∈ TW := tw_t 888 (by decide +kernel) (by decide +kernel)
theorem kCX9_spell : Cond.code yX9_spell cX9_spell 3 (some .int) ∈ TW := tw_t 889 (by decide +kernel) (by decide +kernel)
theorem kMX9_328 : Cond.methodLink RX9 328 yX6_write ∈ TW := tw_t 890 (by decide +kernel) (by decide +kernel)
theorem kIX6_write : Cond.instanceMethod yX6_write ∈ TW := tw_t 891 (by decide +kernel) (by decide +kernel)
theorem kLX6_write : Cond.selects RX6 yX6_write yX6_write ∈ TW := tw_t 892 (by decide +kernel) (by decide +kernel)
theorem kCX6_write : Cond.code yX6_write cX6_write 4 (some .int) ∈ TW := tw_t 893 (by decide +kernel) (by decide +kernel)
theorem kMX6_21 : Cond.methodLink RX6 21 yX6_put ∈ TW := tw_t 894 (by decide +kernel) (by decide +kernel)
theorem kIX6_put : Cond.instanceMethod yX6_put ∈ TW := tw_t 896 (by decide +kernel) (by decide +kernel)
theorem kCX6_put : Cond.code yX6_put cX6_put 2 none ∈ TW := tw_t 897 (by decide +kernel) (by decide +kernel)
theorem kMX6_25 : Cond.methodLink RX6 25 yX6_writeTerms ∈ TW := tw_t 898 (by decide +kernel) (by decide +kernel)
theorem kIX6_writeTerms : Cond.instanceMethod yX6_writeTerms ∈ TW := tw_t 900 (by decide +kernel) (by decide +kernel)
theorem kCX6_writeTerms : Cond.code yX6_writeTerms cX6_writeTerms 4 none ∈ TW := tw_t 901 (by decide +kernel) (by decide +kernel)
theorem kMX6_45 : Cond.methodLink RX6 45 yX6_letterOf ∈ TW := tw_t 902 (by decide +kernel) (by decide +kernel)
theorem kSX6_letterOf : Cond.static yX6_letterOf ∈ TW := tw_t 903 (by decide +kernel) (by decide +kernel)
theorem kCX6_letterOf : Cond.code yX6_letterOf cX6_letterOf 1 (some .int) ∈ TW := tw_t 904 (by decide +kernel) (by decide +kernel)
theorem kMX6_29 : Cond.methodLink RX6 29 yX6_writeSegments ∈ TW := tw_t 905 (by decide +kernel) (by decide +kernel)
theorem kIX6_writeSegments : Cond.instanceMethod yX6_writeSegments ∈ TW := tw_t 907 (by decide +kernel) (by decide +kernel)
theorem kCX6_writeSegments : Cond.code yX6_writeSegments cX6_writeSegments 4 none ∈ TW := tw_t 908 (by decide +kernel) (by decide +kernel)
theorem kMX6_55 : Cond.methodLink RX6 55 yX6_writeNumber ∈ TW := tw_t 909 (by decide +kernel) (by decide +kernel)
theorem kIX6_writeNumber : Cond.instanceMethod yX6_writeNumber ∈ TW := tw_t 911 (by decide +kernel) (by decide +kernel)
theorem kCX6_writeNumber : Cond.code yX6_writeNumber cX6_writeNumber 3 none ∈ TW := tw_t 912 (by decide +kernel) (by decide +kernel)
theorem kML_212 : Cond.methodLink RL 212 yX9_status ∈ TW := tw_t 913 (by decide +kernel) (by decide +kernel)
theorem kIX9_status : Cond.instanceMethod yX9_status ∈ TW := tw_t 914 (by decide +kernel) (by decide +kernel)
theorem kLX9_status : Cond.selects RX9 yX9_status yX9_status ∈ TW := tw_t 915 (by decide +kernel) (by decide +kernel)
theorem kCX9_status : Cond.code yX9_status cX9_status 2 (some .int) ∈ TW := tw_t 916 (by decide +kernel) (by decide +kernel)
theorem kML_216 : Cond.methodLink RL 216 yX9_most ∈ TW := tw_t 917 (by decide +kernel) (by decide +kernel)
theorem kIX9_most : Cond.instanceMethod yX9_most ∈ TW := tw_t 918 (by decide +kernel) (by decide +kernel)
theorem kLX9_most : Cond.selects RX9 yX9_most yX9_most ∈ TW := tw_t 919 (by decide +kernel) (by decide +kernel)
theorem kCX9_most : Cond.code yX9_most cX9_most 3 (some .long) ∈ TW := tw_t 920 (by decide +kernel) (by decide +kernel)
theorem kMX9_332 : Cond.methodLink RX9 332 yX1_wageOfMost ∈ TW := tw_t 921 (by decide +kernel) (by decide +kernel)
theorem kMX9_335 : Cond.methodLink RX9 335 yX1_wageOfLeast ∈ TW := tw_t 922 (by decide +kernel) (by decide +kernel)
theorem kMX9_338 : Cond.methodLink RX9 338 yX1_steepest ∈ TW := tw_t 923 (by decide +kernel) (by decide +kernel)
theorem kIX1_steepest : Cond.instanceMethod yX1_steepest ∈ TW := tw_t 924 (by decide +kernel) (by decide +kernel)
theorem kLX1_steepest : Cond.selects RX1 yX1_steepest yX1_steepest ∈ TW := tw_t 925 (by decide +kernel) (by decide +kernel)
theorem kCX1_steepest : Cond.code yX1_steepest cX1_steepest 5 (some .int) ∈ TW := tw_t 926 (by decide +kernel) (by decide +kernel)
theorem kMX9_341 : Cond.methodLink RX9 341 yX1_flatPieces ∈ TW := tw_t 927 (by decide +kernel) (by decide +kernel)
theorem kIX1_flatPieces : Cond.instanceMethod yX1_flatPieces ∈ TW := tw_t 928 (by decide +kernel) (by decide +kernel)
theorem kLX1_flatPieces : Cond.selects RX1 yX1_flatPieces yX1_flatPieces ∈ TW := tw_t 929 (by decide +kernel) (by decide +kernel)
theorem kCX1_flatPieces : Cond.code yX1_flatPieces cX1_flatPieces 3 (some .int) ∈ TW := tw_t 930 (by decide +kernel) (by decide +kernel)
theorem kMX9_344 : Cond.methodLink RX9 344 yX1_longestTrap ∈ TW := tw_t 931 (by decide +kernel) (by decide +kernel)
theorem kIX1_longestTrap : Cond.instanceMethod yX1_longestTrap ∈ TW := tw_t 932 (by decide +kernel) (by decide +kernel)
theorem kLX1_longestTrap : Cond.selects RX1 yX1_longestTrap yX1_longestTrap ∈ TW := tw_t 933 (by decide +kernel) (by decide +kernel)
theorem kCX1_longestTrap : Cond.code yX1_longestTrap cX1_longestTrap 7 (some .int) ∈ TW := tw_t 934 (by decide +kernel) (by decide +kernel)
theorem kMX1_135 : Cond.methodLink RX1 135 yX1_lowAtFirst ∈ TW := tw_t 935 (by decide +kernel) (by decide +kernel)
theorem kIX1_lowAtFirst : Cond.instanceMethod yX1_lowAtFirst ∈ TW := tw_t 937 (by decide +kernel) (by decide +kernel)
theorem kCX1_lowAtFirst : Cond.code yX1_lowAtFirst cX1_lowAtFirst 5 (some .int) ∈ TW := tw_t 938 (by decide +kernel) (by decide +kernel)
theorem kMX9_347 : Cond.methodLink RX9 347 yX1_trappedWages ∈ TW := tw_t 939 (by decide +kernel) (by decide +kernel)
theorem kIX1_trappedWages : Cond.instanceMethod yX1_trappedWages ∈ TW := tw_t 940 (by decide +kernel) (by decide +kernel)
theorem kLX1_trappedWages : Cond.selects RX1 yX1_trappedWages yX1_trappedWages ∈ TW := tw_t 941 (by decide +kernel) (by decide +kernel)
theorem kCX1_trappedWages : Cond.code yX1_trappedWages cX1_trappedWages 6 (some .int) ∈ TW := tw_t 942 (by decide +kernel) (by decide +kernel)
theorem kMX9_350 : Cond.methodLink RX9 350 yX1_greatestPiece ∈ TW := tw_t 943 (by decide +kernel) (by decide +kernel)
theorem kIX1_greatestPiece : Cond.instanceMethod yX1_greatestPiece ∈ TW := tw_t 944 (by decide +kernel) (by decide +kernel)
theorem kLX1_greatestPiece : Cond.selects RX1 yX1_greatestPiece yX1_greatestPiece ∈ TW := tw_t 945 (by decide +kernel) (by decide +kernel)
theorem kCX1_greatestPiece : Cond.code yX1_greatestPiece cX1_greatestPiece 3 (some .int) ∈ TW := tw_t 946 (by decide +kernel) (by decide +kernel)
theorem kMX9_353 : Cond.methodLink RX9 353 yX9_more ∈ TW := tw_t 947 (by decide +kernel) (by decide +kernel)
theorem kML_220 : Cond.methodLink RL 220 yX9_count ∈ TW := tw_t 948 (by decide +kernel) (by decide +kernel)
theorem kIX9_count : Cond.instanceMethod yX9_count ∈ TW := tw_t 949 (by decide +kernel) (by decide +kernel)
theorem kLX9_count : Cond.selects RX9 yX9_count yX9_count ∈ TW := tw_t 950 (by decide +kernel) (by decide +kernel)
theorem kCX9_count : Cond.code yX9_count cX9_count 4 (some .int) ∈ TW := tw_t 951 (by decide +kernel) (by decide +kernel)
theorem kML_43 : Cond.methodLink RL 43 yL_account ∈ TW := tw_t 952 (by decide +kernel) (by decide +kernel)
theorem kSL_account : Cond.static yL_account ∈ TW := tw_t 953 (by decide +kernel) (by decide +kernel)
theorem kML_7 : Cond.methodLink RL 7 yX9_account ∈ TW := tw_t 956 (by decide +kernel) (by decide +kernel)
theorem kIX9_account : Cond.instanceMethod yX9_account ∈ TW := tw_t 957 (by decide +kernel) (by decide +kernel)
theorem kLX9_account : Cond.selects RX9 yX9_account yX9_account ∈ TW := tw_t 958 (by decide +kernel) (by decide +kernel)
theorem kCX9_account : Cond.code yX9_account cX9_account 3 (some .int) ∈ TW := tw_t 959 (by decide +kernel) (by decide +kernel)
theorem kML_18 : Cond.methodLink RL 18 yX10_init ∈ TW := tw_t 1028 (by decide +kernel) (by decide +kernel)
theorem kIX10_init : Cond.instanceMethod yX10_init ∈ TW := tw_t 1029 (by decide +kernel) (by decide +kernel)
theorem kCX10_init : Cond.code yX10_init cX10_init 1 none ∈ TW := tw_t 1030 (by decide +kernel) (by decide +kernel)
theorem kFX10_72 : Cond.fieldLink RX10 72 RX10 "thrown" "I" ∈ TW := tw_t 1032 (by decide +kernel) (by decide +kernel)
theorem kFX10_9 : Cond.fieldLink RX10 9 RX10 "tape" "[I" ∈ TW := tw_t 1033 (by decide +kernel) (by decide +kernel)
theorem kFX10_79 : Cond.fieldLink RX10 79 RX10 "taped" "I" ∈ TW := tw_t 1034 (by decide +kernel) (by decide +kernel)
theorem kFX10_86 : Cond.fieldLink RX10 86 RX10 "at" "I" ∈ TW := tw_t 1035 (by decide +kernel) (by decide +kernel)
theorem kFX10_93 : Cond.fieldLink RX10 93 RX10 "wrong" "I" ∈ TW := tw_t 1036 (by decide +kernel) (by decide +kernel)
theorem kFX10_13 : Cond.fieldLink RX10 13 RX10 "readTerms" "[I" ∈ TW := tw_t 1037 (by decide +kernel) (by decide +kernel)
theorem kFX10_16 : Cond.fieldLink RX10 16 RX10 "terms" "[I" ∈ TW := tw_t 1038 (by decide +kernel) (by decide +kernel)
theorem kFX10_19 : Cond.fieldLink RX10 19 RX10 "readSign" "[I" ∈ TW := tw_t 1039 (by decide +kernel) (by decide +kernel)
theorem kFX10_22 : Cond.fieldLink RX10 22 RX10 "sign" "[I" ∈ TW := tw_t 1040 (by decide +kernel) (by decide +kernel)
theorem kFX10_25 : Cond.fieldLink RX10 25 RX10 "readWhat" "[I" ∈ TW := tw_t 1041 (by decide +kernel) (by decide +kernel)
theorem kFX10_28 : Cond.fieldLink RX10 28 RX10 "what" "[I" ∈ TW := tw_t 1042 (by decide +kernel) (by decide +kernel)
theorem kFX10_31 : Cond.fieldLink RX10 31 RX10 "readMany" "[I" ∈ TW := tw_t 1043 (by decide +kernel) (by decide +kernel)
theorem kFX10_34 : Cond.fieldLink RX10 34 RX10 "many" "[I" ∈ TW := tw_t 1044 (by decide +kernel) (by decide +kernel)
theorem kFX10_37 : Cond.fieldLink RX10 37 RX10 "readSegment" "[I" ∈ TW := tw_t 1045 (by decide +kernel) (by decide +kernel)
theorem kFX10_40 : Cond.fieldLink RX10 40 RX10 "segment" "[I" ∈ TW := tw_t 1046 (by decide +kernel) (by decide +kernel)
theorem kFX10_43 : Cond.fieldLink RX10 43 RX10 "readDeep" "[I" ∈ TW := tw_t 1047 (by decide +kernel) (by decide +kernel)
theorem kFX10_46 : Cond.fieldLink RX10 46 RX10 "deep" "[I" ∈ TW := tw_t 1048 (by decide +kernel) (by decide +kernel)
theorem kFX10_110 : Cond.fieldLink RX10 110 RX10 "readAccounts" "I" ∈ TW := tw_t 1049 (by decide +kernel) (by decide +kernel)
theorem kFX10_142 : Cond.fieldLink RX10 142 RX10 "readBenefit" "I" ∈ TW := tw_t 1050 (by decide +kernel) (by decide +kernel)
theorem kFX10_159 : Cond.fieldLink RX10 159 RX10 "accounts" "I" ∈ TW := tw_t 1051 (by decide +kernel) (by decide +kernel)
theorem kFX10_162 : Cond.fieldLink RX10 162 RX10 "benefit" "I" ∈ TW := tw_t 1052 (by decide +kernel) (by decide +kernel)
theorem kFX10_145 : Cond.fieldLink RX10 145 RX10 "hasBenefit" "Z" ∈ TW := tw_t 1053 (by decide +kernel) (by decide +kernel)
theorem kFX10_165 : Cond.fieldLink RX10 165 RX10 "isDesk" "Z" ∈ TW := tw_t 1054 (by decide +kernel) (by decide +kernel)
theorem kFX10_49 : Cond.fieldLink RX10 49 RX10 "refused" "[I" ∈ TW := tw_t 1055 (by decide +kernel) (by decide +kernel)
theorem kFX10_52 : Cond.fieldLink RX10 52 RX10 "wage" "[I" ∈ TW := tw_t 1056 (by decide +kernel) (by decide +kernel)
theorem kFX10_168 : Cond.fieldLink RX10 168 RX10 "months" "I" ∈ TW := tw_t 1057 (by decide +kernel) (by decide +kernel)
theorem kFX10_55 : Cond.fieldLink RX10 55 RX10 "is" "[J" ∈ TW := tw_t 1058 (by decide +kernel) (by decide +kernel)
theorem kFX10_59 : Cond.fieldLink RX10 59 RX10 "held" "I" ∈ TW := tw_t 1059 (by decide +kernel) (by decide +kernel)
theorem kFX10_202 : Cond.fieldLink RX10 202 RX10 "heldAt" "J" ∈ TW := tw_t 1060 (by decide +kernel) (by decide +kernel)
theorem kFX10_63 : Cond.fieldLink RX10 63 RX10 "line" "[J" ∈ TW := tw_t 1061 (by decide +kernel) (by decide +kernel)
theorem kFX10_66 : Cond.fieldLink RX10 66 RX10 "pieceFrom" "[I" ∈ TW := tw_t 1062 (by decide +kernel) (by decide +kernel)
theorem kFX10_222 : Cond.fieldLink RX10 222 RX10 "pieces" "I" ∈ TW := tw_t 1063 (by decide +kernel) (by decide +kernel)
theorem kFX10_69 : Cond.fieldLink RX10 69 RX10 "spelt" "[I" ∈ TW := tw_t 1064 (by decide +kernel) (by decide +kernel)
theorem kFX10_324 : Cond.fieldLink RX10 324 RX10 "speltMany" "I" ∈ TW := tw_t 1065 (by decide +kernel) (by decide +kernel)
theorem kML_49 : Cond.methodLink RL 49 yX10_thrown ∈ TW := tw_t 1135 (by decide +kernel) (by decide +kernel)
theorem kIX10_thrown : Cond.instanceMethod yX10_thrown ∈ TW := tw_t 1136 (by decide +kernel) (by decide +kernel)
theorem kLX10_thrown : Cond.selects RX10 yX10_thrown yX10_thrown ∈ TW := tw_t 1137 (by decide +kernel) (by decide +kernel)
theorem kCX10_thrown : Cond.code yX10_thrown cX10_thrown 1 (some .int) ∈ TW := tw_t 1138 (by decide +kernel) (by decide +kernel)
theorem kML_23 : Cond.methodLink RL 23 yX10_feed ∈ TW := tw_t 1139 (by decide +kernel) (by decide +kernel)
theorem kIX10_feed : Cond.instanceMethod yX10_feed ∈ TW := tw_t 1140 (by decide +kernel) (by decide +kernel)
theorem kLX10_feed : Cond.selects RX10 yX10_feed yX10_feed ∈ TW := tw_t 1141 (by decide +kernel) (by decide +kernel)
theorem kCX10_feed : Cond.code yX10_feed cX10_feed 9 (some .int) ∈ TW := tw_t 1142 (by decide +kernel) (by decide +kernel)
theorem kMX10_75 : Cond.methodLink RX10 75 yX10_byteOf ∈ TW := tw_t 1143 (by decide +kernel) (by decide +kernel)
theorem kSX10_byteOf : Cond.static yX10_byteOf ∈ TW := tw_t 1144 (by decide +kernel) (by decide +kernel)
theorem kCX10_byteOf : Cond.code yX10_byteOf cX10_byteOf 7 (some .int) ∈ TW := tw_t 1145 (by decide +kernel) (by decide +kernel)
theorem kML_28 : Cond.methodLink RL 28 yX10_end ∈ TW := tw_t 1146 (by decide +kernel) (by decide +kernel)
theorem kIX10_end : Cond.instanceMethod yX10_end ∈ TW := tw_t 1147 (by decide +kernel) (by decide +kernel)
theorem kLX10_end : Cond.selects RX10 yX10_end yX10_end ∈ TW := tw_t 1148 (by decide +kernel) (by decide +kernel)
theorem kCX10_end : Cond.code yX10_end cX10_end 2 (some .boolean) ∈ TW := tw_t 1149 (by decide +kernel) (by decide +kernel)
theorem kMX10_82 : Cond.methodLink RX10 82 yX10_in ∈ TW := tw_t 1150 (by decide +kernel) (by decide +kernel)
theorem kSX10_in : Cond.static yX10_in ∈ TW := tw_t 1151 (by decide +kernel) (by decide +kernel)
theorem kCX10_in : Cond.code yX10_in cX10_in 6 (some .boolean) ∈ TW := tw_t 1152 (by decide +kernel) (by decide +kernel)
theorem kML_33 : Cond.methodLink RL 33 yX10_fault ∈ TW := tw_t 1153 (by decide +kernel) (by decide +kernel)
theorem kIX10_fault : Cond.instanceMethod yX10_fault ∈ TW := tw_t 1154 (by decide +kernel) (by decide +kernel)
theorem kLX10_fault : Cond.selects RX10 yX10_fault yX10_fault ∈ TW := tw_t 1155 (by decide +kernel) (by decide +kernel)
theorem kCX10_fault : Cond.code yX10_fault cX10_fault 1 (some .int) ∈ TW := tw_t 1156 (by decide +kernel) (by decide +kernel)
theorem kMX10_152 : Cond.methodLink RX10 152 yX10_readDesk ∈ TW := tw_t 1157 (by decide +kernel) (by decide +kernel)
theorem kIX10_readDesk : Cond.instanceMethod yX10_readDesk ∈ TW := tw_t 1159 (by decide +kernel) (by decide +kernel)
theorem kCX10_readDesk : Cond.code yX10_readDesk cX10_readDesk 3 (some .int) ∈ TW := tw_t 1160 (by decide +kernel) (by decide +kernel)
theorem kMX10_100 : Cond.methodLink RX10 100 yX10_ahead ∈ TW := tw_t 1161 (by decide +kernel) (by decide +kernel)
theorem kIX10_ahead : Cond.instanceMethod yX10_ahead ∈ TW := tw_t 1163 (by decide +kernel) (by decide +kernel)
theorem kCX10_ahead : Cond.code yX10_ahead cX10_ahead 1 (some .int) ∈ TW := tw_t 1164 (by decide +kernel) (by decide +kernel)
theorem kMX10_89 : Cond.methodLink RX10 89 yX10_here ∈ TW := tw_t 1165 (by decide +kernel) (by decide +kernel)
theorem kIX10_here : Cond.instanceMethod yX10_here ∈ TW := tw_t 1167 (by decide +kernel) (by decide +kernel)
theorem kCX10_here : Cond.code yX10_here cX10_here 1 (some .int) ∈ TW := tw_t 1168 (by decide +kernel) (by decide +kernel)
theorem kMX10_132 : Cond.methodLink RX10 132 yX10_readSum ∈ TW := tw_t 1169 (by decide +kernel) (by decide +kernel)
theorem kIX10_readSum : Cond.instanceMethod yX10_readSum ∈ TW := tw_t 1171 (by decide +kernel) (by decide +kernel)
theorem kCX10_readSum : Cond.code yX10_readSum cX10_readSum 4 none ∈ TW := tw_t 1172 (by decide +kernel) (by decide +kernel)
theorem kMX10_113 : Cond.methodLink RX10 113 yX10_must ∈ TW := tw_t 1173 (by decide +kernel) (by decide +kernel)
theorem kIX10_must : Cond.instanceMethod yX10_must ∈ TW := tw_t 1175 (by decide +kernel) (by decide +kernel)
theorem kCX10_must : Cond.code yX10_must cX10_must 2 none ∈ TW := tw_t 1176 (by decide +kernel) (by decide +kernel)
theorem kMX10_103 : Cond.methodLink RX10 103 yX10_bad ∈ TW := tw_t 1177 (by decide +kernel) (by decide +kernel)
theorem kIX10_bad : Cond.instanceMethod yX10_bad ∈ TW := tw_t 1179 (by decide +kernel) (by decide +kernel)
theorem kCX10_bad : Cond.code yX10_bad cX10_bad 1 none ∈ TW := tw_t 1180 (by decide +kernel) (by decide +kernel)
theorem kMX10_96 : Cond.methodLink RX10 96 yX10_badAt ∈ TW := tw_t 1181 (by decide +kernel) (by decide +kernel)
theorem kIX10_badAt : Cond.instanceMethod yX10_badAt ∈ TW := tw_t 1183 (by decide +kernel) (by decide +kernel)
theorem kCX10_badAt : Cond.code yX10_badAt cX10_badAt 2 none ∈ TW := tw_t 1184 (by decide +kernel) (by decide +kernel)
theorem kMX10_116 : Cond.methodLink RX10 116 yX10_takes ∈ TW := tw_t 1185 (by decide +kernel) (by decide +kernel)
theorem kIX10_takes : Cond.instanceMethod yX10_takes ∈ TW := tw_t 1187 (by decide +kernel) (by decide +kernel)
theorem kCX10_takes : Cond.code yX10_takes cX10_takes 3 (some .boolean) ∈ TW := tw_t 1188 (by decide +kernel) (by decide +kernel)
theorem kMX10_119 : Cond.methodLink RX10 119 yX10_readTerm ∈ TW := tw_t 1189 (by decide +kernel) (by decide +kernel)
theorem kIX10_readTerm : Cond.instanceMethod yX10_readTerm ∈ TW := tw_t 1191 (by decide +kernel) (by decide +kernel)
theorem kCX10_readTerm : Cond.code yX10_readTerm cX10_readTerm 6 none ∈ TW := tw_t 1192 (by decide +kernel) (by decide +kernel)
theorem kMX10_129 : Cond.methodLink RX10 129 yX10_number ∈ TW := tw_t 1193 (by decide +kernel) (by decide +kernel)
theorem kIX10_number : Cond.instanceMethod yX10_number ∈ TW := tw_t 1195 (by decide +kernel) (by decide +kernel)
theorem kCX10_number : Cond.code yX10_number cX10_number 5 (some .int) ∈ TW := tw_t 1196 (by decide +kernel) (by decide +kernel)
theorem kMX10_106 : Cond.methodLink RX10 106 yX10_isDigit ∈ TW := tw_t 1197 (by decide +kernel) (by decide +kernel)
theorem kSX10_isDigit : Cond.static yX10_isDigit ∈ TW := tw_t 1198 (by decide +kernel) (by decide +kernel)
theorem kCX10_isDigit : Cond.code yX10_isDigit cX10_isDigit 1 (some .boolean) ∈ TW := tw_t 1199 (by decide +kernel) (by decide +kernel)
theorem kMX10_149 : Cond.methodLink RX10 149 yX10_readRule ∈ TW := tw_t 1200 (by decide +kernel) (by decide +kernel)
theorem kIX10_readRule : Cond.instanceMethod yX10_readRule ∈ TW := tw_t 1202 (by decide +kernel) (by decide +kernel)
theorem kCX10_readRule : Cond.code yX10_readRule cX10_readRule 4 none ∈ TW := tw_t 1203 (by decide +kernel) (by decide +kernel)
theorem kMX10_135 : Cond.methodLink RX10 135 yX10_deepBy ∈ TW := tw_t 1204 (by decide +kernel) (by decide +kernel)
theorem kIX10_deepBy : Cond.instanceMethod yX10_deepBy ∈ TW := tw_t 1206 (by decide +kernel) (by decide +kernel)
theorem kCX10_deepBy : Cond.code yX10_deepBy cX10_deepBy 5 (some .int) ∈ TW := tw_t 1207 (by decide +kernel) (by decide +kernel)
theorem kMX10_123 : Cond.methodLink RX10 123 yJ9_max_7cf53 ∈ TW := tw_t 1208 (by decide +kernel) (by decide +kernel)
theorem kMX10_139 : Cond.methodLink RX10 139 yX10_readsSegment ∈ TW := tw_t 1209 (by decide +kernel) (by decide +kernel)
theorem kIX10_readsSegment : Cond.instanceMethod yX10_readsSegment ∈ TW := tw_t 1211 (by decide +kernel) (by decide +kernel)
theorem kCX10_readsSegment : Cond.code yX10_readsSegment cX10_readsSegment 6 none ∈ TW := tw_t 1212 (by decide +kernel) (by decide +kernel)
theorem kML_37 : Cond.methodLink RL 37 yX10_desk ∈ TW := tw_t 1213 (by decide +kernel) (by decide +kernel)
theorem kIX10_desk : Cond.instanceMethod yX10_desk ∈ TW := tw_t 1214 (by decide +kernel) (by decide +kernel)
theorem kLX10_desk : Cond.selects RX10 yX10_desk yX10_desk ∈ TW := tw_t 1215 (by decide +kernel) (by decide +kernel)
theorem kCX10_desk : Cond.code yX10_desk cX10_desk 1 (some .int) ∈ TW := tw_t 1216 (by decide +kernel) (by decide +kernel)
theorem kMX10_155 : Cond.methodLink RX10 155 yX10_copies ∈ TW := tw_t 1217 (by decide +kernel) (by decide +kernel)
theorem kSX10_copies : Cond.static yX10_copies ∈ TW := tw_t 1218 (by decide +kernel) (by decide +kernel)
theorem kCX10_copies : Cond.code yX10_copies cX10_copies 3 none ∈ TW := tw_t 1219 (by decide +kernel) (by decide +kernel)
theorem kML_42 : Cond.methodLink RL 42 yX10_rule ∈ TW := tw_t 1220 (by decide +kernel) (by decide +kernel)
theorem kIX10_rule : Cond.instanceMethod yX10_rule ∈ TW := tw_t 1221 (by decide +kernel) (by decide +kernel)
theorem kLX10_rule : Cond.selects RX10 yX10_rule yX10_rule ∈ TW := tw_t 1222 (by decide +kernel) (by decide +kernel)
theorem kCX10_rule : Cond.code yX10_rule cX10_rule 2 (some .int) ∈ TW := tw_t 1223 (by decide +kernel) (by decide +kernel)
theorem kKX10_231 : Cond.constantLong RX10 231 (5) ∈ TW := tw_t 1224 (by decide +kernel) (by decide +kernel)
theorem kMX10_233 : Cond.methodLink RX10 233 yX10_piecesOf ∈ TW := tw_t 1225 (by decide +kernel) (by decide +kernel)
theorem kIX10_piecesOf : Cond.instanceMethod yX10_piecesOf ∈ TW := tw_t 1227 (by decide +kernel) (by decide +kernel)
theorem kCX10_piecesOf : Cond.code yX10_piecesOf cX10_piecesOf 2 (some .int) ∈ TW := tw_t 1228 (by decide +kernel) (by decide +kernel)
theorem kMX10_228 : Cond.methodLink RX10 228 yX10_laysPieces ∈ TW := tw_t 1229 (by decide +kernel) (by decide +kernel)
theorem kIX10_laysPieces : Cond.instanceMethod yX10_laysPieces ∈ TW := tw_t 1231 (by decide +kernel) (by decide +kernel)
theorem kCX10_laysPieces : Cond.code yX10_laysPieces cX10_laysPieces 5 none ∈ TW := tw_t 1232 (by decide +kernel) (by decide +kernel)
theorem kMX10_219 : Cond.methodLink RX10 219 yX10_laysLine ∈ TW := tw_t 1233 (by decide +kernel) (by decide +kernel)
theorem kIX10_laysLine : Cond.instanceMethod yX10_laysLine ∈ TW := tw_t 1235 (by decide +kernel) (by decide +kernel)
theorem kCX10_laysLine : Cond.code yX10_laysLine cX10_laysLine 3 none ∈ TW := tw_t 1236 (by decide +kernel) (by decide +kernel)
theorem kMX10_216 : Cond.methodLink RX10 216 yX10_valueAt ∈ TW := tw_t 1237 (by decide +kernel) (by decide +kernel)
theorem kIX10_valueAt : Cond.instanceMethod yX10_valueAt ∈ TW := tw_t 1239 (by decide +kernel) (by decide +kernel)
theorem kCX10_valueAt : Cond.code yX10_valueAt cX10_valueAt 3 (some .long) ∈ TW := tw_t 1240 (by decide +kernel) (by decide +kernel)
theorem kMX10_209 : Cond.methodLink RX10 209 yX10_laysAccounts ∈ TW := tw_t 1241 (by decide +kernel) (by decide +kernel)
theorem kIX10_laysAccounts : Cond.instanceMethod yX10_laysAccounts ∈ TW := tw_t 1243 (by decide +kernel) (by decide +kernel)
theorem kCX10_laysAccounts : Cond.code yX10_laysAccounts cX10_laysAccounts 3 none ∈ TW := tw_t 1244 (by decide +kernel) (by decide +kernel)
theorem kMX10_206 : Cond.methodLink RX10 206 yX10_lineAt ∈ TW := tw_t 1245 (by decide +kernel) (by decide +kernel)
theorem kIX10_lineAt : Cond.instanceMethod yX10_lineAt ∈ TW := tw_t 1247 (by decide +kernel) (by decide +kernel)
theorem kCX10_lineAt : Cond.code yX10_lineAt cX10_lineAt 6 (some .long) ∈ TW := tw_t 1248 (by decide +kernel) (by decide +kernel)
theorem kMX10_190 : Cond.methodLink RX10 190 yX10_sumAt ∈ TW := tw_t 1249 (by decide +kernel) (by decide +kernel)
theorem kIX10_sumAt : Cond.instanceMethod yX10_sumAt ∈ TW := tw_t 1251 (by decide +kernel) (by decide +kernel)
theorem kCX10_sumAt : Cond.code yX10_sumAt cX10_sumAt 9 (some .long) ∈ TW := tw_t 1252 (by decide +kernel) (by decide +kernel)
theorem kKX10_178 : Cond.constantLong RX10 178 (1000000000) ∈ TW := tw_t 1253 (by decide +kernel) (by decide +kernel)
theorem kMX10_193 : Cond.methodLink RX10 193 yJ9_max_f86c9 ∈ TW := tw_t 1254 (by decide +kernel) (by decide +kernel)
theorem kMX10_196 : Cond.methodLink RX10 196 yX10_whichBy ∈ TW := tw_t 1255 (by decide +kernel) (by decide +kernel)
theorem kIX10_whichBy : Cond.instanceMethod yX10_whichBy ∈ TW := tw_t 1257 (by decide +kernel) (by decide +kernel)
theorem kCX10_whichBy : Cond.code yX10_whichBy cX10_whichBy 5 (some .int) ∈ TW := tw_t 1258 (by decide +kernel) (by decide +kernel)
theorem kMX10_180 : Cond.methodLink RX10 180 yX10_part ∈ TW := tw_t 1259 (by decide +kernel) (by decide +kernel)
theorem kIX10_part : Cond.instanceMethod yX10_part ∈ TW := tw_t 1261 (by decide +kernel) (by decide +kernel)
theorem kCX10_part : Cond.code yX10_part cX10_part 4 (some .int) ∈ TW := tw_t 1262 (by decide +kernel) (by decide +kernel)
theorem kMX10_184 : Cond.methodLink RX10 184 yX10_beginOf ∈ TW := tw_t 1263 (by decide +kernel) (by decide +kernel)
theorem kIX10_beginOf : Cond.instanceMethod yX10_beginOf ∈ TW := tw_t 1265 (by decide +kernel) (by decide +kernel)
theorem kCX10_beginOf : Cond.code yX10_beginOf cX10_beginOf 3 (some .long) ∈ TW := tw_t 1266 (by decide +kernel) (by decide +kernel)
theorem kKX10_188 : Cond.constantLong RX10 188 (1000000) ∈ TW := tw_t 1267 (by decide +kernel) (by decide +kernel)
theorem kKX10_200 : Cond.constantLong RX10 200 (1000) ∈ TW := tw_t 1268 (by decide +kernel) (by decide +kernel)
theorem kMX10_225 : Cond.methodLink RX10 225 yX10_step ∈ TW := tw_t 1269 (by decide +kernel) (by decide +kernel)
theorem kIX10_step : Cond.instanceMethod yX10_step ∈ TW := tw_t 1271 (by decide +kernel) (by decide +kernel)
theorem kCX10_step : Cond.code yX10_step cX10_step 2 (some .long) ∈ TW := tw_t 1272 (by decide +kernel) (by decide +kernel)
theorem kMX10_236 : Cond.methodLink RX10 236 yX10_cliffsOf ∈ TW := tw_t 1273 (by decide +kernel) (by decide +kernel)
theorem kIX10_cliffsOf : Cond.instanceMethod yX10_cliffsOf ∈ TW := tw_t 1275 (by decide +kernel) (by decide +kernel)
theorem kCX10_cliffsOf : Cond.code yX10_cliffsOf cX10_cliffsOf 3 (some .int) ∈ TW := tw_t 1276 (by decide +kernel) (by decide +kernel)
theorem kML_48 : Cond.methodLink RL 48 yX10_account ∈ TW := tw_t 1277 (by decide +kernel) (by decide +kernel)
theorem kIX10_account : Cond.instanceMethod yX10_account ∈ TW := tw_t 1278 (by decide +kernel) (by decide +kernel)
theorem kLX10_account : Cond.selects RX10 yX10_account yX10_account ∈ TW := tw_t 1279 (by decide +kernel) (by decide +kernel)
theorem kCX10_account : Cond.code yX10_account cX10_account 3 (some .int) ∈ TW := tw_t 1280 (by decide +kernel) (by decide +kernel)
theorem kMX10_175 : Cond.methodLink RX10 175 yX10_isAccount ∈ TW := tw_t 1281 (by decide +kernel) (by decide +kernel)
theorem kIX10_isAccount : Cond.instanceMethod yX10_isAccount ∈ TW := tw_t 1283 (by decide +kernel) (by decide +kernel)
theorem kCX10_isAccount : Cond.code yX10_isAccount cX10_isAccount 2 (some .boolean) ∈ TW := tw_t 1284 (by decide +kernel) (by decide +kernel)
theorem kKX10_239 : Cond.constantLong RX10 239 (3) ∈ TW := tw_t 1285 (by decide +kernel) (by decide +kernel)
theorem kML_56 : Cond.methodLink RL 56 yX10_segment ∈ TW := tw_t 1286 (by decide +kernel) (by decide +kernel)
theorem kIX10_segment : Cond.instanceMethod yX10_segment ∈ TW := tw_t 1287 (by decide +kernel) (by decide +kernel)
theorem kLX10_segment : Cond.selects RX10 yX10_segment yX10_segment ∈ TW := tw_t 1288 (by decide +kernel) (by decide +kernel)
theorem kCX10_segment : Cond.code yX10_segment cX10_segment 6 (some .int) ∈ TW := tw_t 1289 (by decide +kernel) (by decide +kernel)
theorem kMX10_241 : Cond.methodLink RX10 241 yX10_isSegment ∈ TW := tw_t 1290 (by decide +kernel) (by decide +kernel)
theorem kIX10_isSegment : Cond.instanceMethod yX10_isSegment ∈ TW := tw_t 1292 (by decide +kernel) (by decide +kernel)
theorem kCX10_isSegment : Cond.code yX10_isSegment cX10_isSegment 3 (some .boolean) ∈ TW := tw_t 1293 (by decide +kernel) (by decide +kernel)
theorem kMX10_245 : Cond.methodLink RX10 245 yX10_segmentAt ∈ TW := tw_t 1294 (by decide +kernel) (by decide +kernel)
theorem kIX10_segmentAt : Cond.instanceMethod yX10_segmentAt ∈ TW := tw_t 1296 (by decide +kernel) (by decide +kernel)
theorem kCX10_segmentAt : Cond.code yX10_segmentAt cX10_segmentAt 3 (some .int) ∈ TW := tw_t 1297 (by decide +kernel) (by decide +kernel)
theorem kML_61 : Cond.methodLink RL 61 yX10_at ∈ TW := tw_t 1298 (by decide +kernel) (by decide +kernel)
theorem kIX10_at : Cond.instanceMethod yX10_at ∈ TW := tw_t 1299 (by decide +kernel) (by decide +kernel)
theorem kLX10_at : Cond.selects RX10 yX10_at yX10_at ∈ TW := tw_t 1300 (by decide +kernel) (by decide +kernel)
theorem kCX10_at : Cond.code yX10_at cX10_at 3 (some .long) ∈ TW := tw_t 1301 (by decide +kernel) (by decide +kernel)
theorem kMX10_248 : Cond.methodLink RX10 248 yX10_isLine ∈ TW := tw_t 1302 (by decide +kernel) (by decide +kernel)
theorem kIX10_isLine : Cond.instanceMethod yX10_isLine ∈ TW := tw_t 1304 (by decide +kernel) (by decide +kernel)
theorem kCX10_isLine : Cond.code yX10_isLine cX10_isLine 2 (some .boolean) ∈ TW := tw_t 1305 (by decide +kernel) (by decide +kernel)
theorem kKX10_171 : Cond.constantLong RX10 171 (-1) ∈ TW := tw_t 1306 (by decide +kernel) (by decide +kernel)
theorem kMX10_251 : Cond.methodLink RX10 251 yX10_isWage ∈ TW := tw_t 1307 (by decide +kernel) (by decide +kernel)
theorem kIX10_isWage : Cond.instanceMethod yX10_isWage ∈ TW := tw_t 1309 (by decide +kernel) (by decide +kernel)
theorem kCX10_isWage : Cond.code yX10_isWage cX10_isWage 2 (some .boolean) ∈ TW := tw_t 1310 (by decide +kernel) (by decide +kernel)
theorem kKX10_173 : Cond.constantLong RX10 173 (9999) ∈ TW := tw_t 1311 (by decide +kernel) (by decide +kernel)
theorem kKX10_254 : Cond.constantLong RX10 254 (-9000000000000000000) ∈ TW := tw_t 1312 (by decide +kernel) (by decide +kernel)
theorem kML_65 : Cond.methodLink RL 65 yX10_sum ∈ TW := tw_t 1313 (by decide +kernel) (by decide +kernel)
theorem kIX10_sum : Cond.instanceMethod yX10_sum ∈ TW := tw_t 1314 (by decide +kernel) (by decide +kernel)
theorem kLX10_sum : Cond.selects RX10 yX10_sum yX10_sum ∈ TW := tw_t 1315 (by decide +kernel) (by decide +kernel)
theorem kCX10_sum : Cond.code yX10_sum cX10_sum 3 (some .long) ∈ TW := tw_t 1316 (by decide +kernel) (by decide +kernel)
theorem kML_69 : Cond.methodLink RL 69 yX10_which ∈ TW := tw_t 1317 (by decide +kernel) (by decide +kernel)
theorem kIX10_which : Cond.instanceMethod yX10_which ∈ TW := tw_t 1318 (by decide +kernel) (by decide +kernel)
theorem kLX10_which : Cond.selects RX10 yX10_which yX10_which ∈ TW := tw_t 1319 (by decide +kernel) (by decide +kernel)
theorem kCX10_which : Cond.code yX10_which cX10_which 3 (some .int) ∈ TW := tw_t 1320 (by decide +kernel) (by decide +kernel)
theorem kML_74 : Cond.methodLink RL 74 yX10_piece ∈ TW := tw_t 1321 (by decide +kernel) (by decide +kernel)
theorem kIX10_piece : Cond.instanceMethod yX10_piece ∈ TW := tw_t 1322 (by decide +kernel) (by decide +kernel)
theorem kLX10_piece : Cond.selects RX10 yX10_piece yX10_piece ∈ TW := tw_t 1323 (by decide +kernel) (by decide +kernel)
theorem kCX10_piece : Cond.code yX10_piece cX10_piece 5 (some .long) ∈ TW := tw_t 1324 (by decide +kernel) (by decide +kernel)
theorem kMX10_256 : Cond.methodLink RX10 256 yX10_pieceTo ∈ TW := tw_t 1325 (by decide +kernel) (by decide +kernel)
theorem kIX10_pieceTo : Cond.instanceMethod yX10_pieceTo ∈ TW := tw_t 1327 (by decide +kernel) (by decide +kernel)
theorem kCX10_pieceTo : Cond.code yX10_pieceTo cX10_pieceTo 2 (some .int) ∈ TW := tw_t 1328 (by decide +kernel) (by decide +kernel)
theorem kML_78 : Cond.methodLink RL 78 yX10_pieceAt ∈ TW := tw_t 1329 (by decide +kernel) (by decide +kernel)
theorem kIX10_pieceAt : Cond.instanceMethod yX10_pieceAt ∈ TW := tw_t 1330 (by decide +kernel) (by decide +kernel)
theorem kLX10_pieceAt : Cond.selects RX10 yX10_pieceAt yX10_pieceAt ∈ TW := tw_t 1331 (by decide +kernel) (by decide +kernel)
theorem kCX10_pieceAt : Cond.code yX10_pieceAt cX10_pieceAt 4 (some .int) ∈ TW := tw_t 1332 (by decide +kernel) (by decide +kernel)
theorem kML_85 : Cond.methodLink RL 85 yX10_promised ∈ TW := tw_t 1333 (by decide +kernel) (by decide +kernel)
theorem kIX10_promised : Cond.instanceMethod yX10_promised ∈ TW := tw_t 1334 (by decide +kernel) (by decide +kernel)
theorem kLX10_promised : Cond.selects RX10 yX10_promised yX10_promised ∈ TW := tw_t 1335 (by decide +kernel) (by decide +kernel)
theorem kCX10_promised : Cond.code yX10_promised cX10_promised 9 (some .int) ∈ TW := tw_t 1336 (by decide +kernel) (by decide +kernel)
theorem kML_89 : Cond.methodLink RL 89 yX10_exactly ∈ TW := tw_t 1337 (by decide +kernel) (by decide +kernel)
theorem kIX10_exactly : Cond.instanceMethod yX10_exactly ∈ TW := tw_t 1338 (by decide +kernel) (by decide +kernel)
theorem kLX10_exactly : Cond.selects RX10 yX10_exactly yX10_exactly ∈ TW := tw_t 1339 (by decide +kernel) (by decide +kernel)
theorem kCX10_exactly : Cond.code yX10_exactly cX10_exactly 6 (some .int) ∈ TW := tw_t 1340 (by decide +kernel) (by decide +kernel)
theorem kML_93 : Cond.methodLink RL 93 yX10_cliff ∈ TW := tw_t 1341 (by decide +kernel) (by decide +kernel)
theorem kIX10_cliff : Cond.instanceMethod yX10_cliff ∈ TW := tw_t 1342 (by decide +kernel) (by decide +kernel)
theorem kLX10_cliff : Cond.selects RX10 yX10_cliff yX10_cliff ∈ TW := tw_t 1343 (by decide +kernel) (by decide +kernel)
theorem kCX10_cliff : Cond.code yX10_cliff cX10_cliff 5 (some .long) ∈ TW := tw_t 1344 (by decide +kernel) (by decide +kernel)
theorem kMX10_259 : Cond.methodLink RX10 259 yX10_backFrom ∈ TW := tw_t 1345 (by decide +kernel) (by decide +kernel)
theorem kIX10_backFrom : Cond.instanceMethod yX10_backFrom ∈ TW := tw_t 1347 (by decide +kernel) (by decide +kernel)
theorem kCX10_backFrom : Cond.code yX10_backFrom cX10_backFrom 3 (some .int) ∈ TW := tw_t 1348 (by decide +kernel) (by decide +kernel)
theorem kMX10_262 : Cond.methodLink RX10 262 yX10_trapOf ∈ TW := tw_t 1349 (by decide +kernel) (by decide +kernel)
theorem kIX10_trapOf : Cond.instanceMethod yX10_trapOf ∈ TW := tw_t 1351 (by decide +kernel) (by decide +kernel)
theorem kCX10_trapOf : Cond.code yX10_trapOf cX10_trapOf 3 (some .int) ∈ TW := tw_t 1352 (by decide +kernel) (by decide +kernel)
theorem kML_98 : Cond.methodLink RL 98 yX10_more ∈ TW := tw_t 1353 (by decide +kernel) (by decide +kernel)
theorem kIX10_more : Cond.instanceMethod yX10_more ∈ TW := tw_t 1354 (by decide +kernel) (by decide +kernel)
theorem kLX10_more : Cond.selects RX10 yX10_more yX10_more ∈ TW := tw_t 1355 (by decide +kernel) (by decide +kernel)
theorem kCX10_more : Cond.code yX10_more cX10_more 2 (some .long) ∈ TW := tw_t 1356 (by decide +kernel) (by decide +kernel)
theorem kKX10_265 : Cond.constantLong RX10 265 (9998) ∈ TW := tw_t 1357 (by decide +kernel) (by decide +kernel)
theorem kMX10_212 : Cond.methodLink RX10 212 yX10_paidAt ∈ TW := tw_t 1358 (by decide +kernel) (by decide +kernel)
theorem kIX10_paidAt : Cond.instanceMethod yX10_paidAt ∈ TW := tw_t 1360 (by decide +kernel) (by decide +kernel)
theorem kCX10_paidAt : Cond.code yX10_paidAt cX10_paidAt 2 (some .long) ∈ TW := tw_t 1361 (by decide +kernel) (by decide +kernel)
theorem kML_102 : Cond.methodLink RL 102 yX10_average ∈ TW := tw_t 1362 (by decide +kernel) (by decide +kernel)
theorem kIX10_average : Cond.instanceMethod yX10_average ∈ TW := tw_t 1363 (by decide +kernel) (by decide +kernel)
theorem kLX10_average : Cond.selects RX10 yX10_average yX10_average ∈ TW := tw_t 1364 (by decide +kernel) (by decide +kernel)
theorem kCX10_average : Cond.code yX10_average cX10_average 2 (some .long) ∈ TW := tw_t 1365 (by decide +kernel) (by decide +kernel)
theorem kMX10_267 : Cond.methodLink RX10 267 yX10_keptAt ∈ TW := tw_t 1366 (by decide +kernel) (by decide +kernel)
theorem kIX10_keptAt : Cond.instanceMethod yX10_keptAt ∈ TW := tw_t 1368 (by decide +kernel) (by decide +kernel)
theorem kCX10_keptAt : Cond.code yX10_keptAt cX10_keptAt 2 (some .long) ∈ TW := tw_t 1369 (by decide +kernel) (by decide +kernel)
theorem kMX10_270 : Cond.methodLink RX10 270 yJxe99ae_doubleToLongBits_ccdee ∈ TW := tw_t 1370 (by decide +kernel) (by decide +kernel)
theorem kSJxe99ae_doubleToLongBits_ccdee : Cond.static yJxe99ae_doubleToLongBits_ccdee ∈ TW := tw_t 1371 (by decide +kernel) (by decide +kernel)
theorem kCJxe99ae_doubleToLongBits_ccdee : Cond.code yJxe99ae_doubleToLongBits_ccdee cJxe99ae_doubleToLongBits_ccdee 2 (some .long) ∈ TW := tw_t 1372 (by decide +kernel) (by decide +kernel)
theorem kMJxe99ae_122 : Cond.methodLink RJxe99ae 122 yJxe99ae_isNaN_b9ae7 ∈ TW := tw_t 1373 (by decide +kernel) (by decide +kernel)
theorem kSJxe99ae_isNaN_b9ae7 : Cond.static yJxe99ae_isNaN_b9ae7 ∈ TW := tw_t 1374 (by decide +kernel) (by decide +kernel)
theorem kCJxe99ae_isNaN_b9ae7 : Cond.code yJxe99ae_isNaN_b9ae7 cJxe99ae_isNaN_b9ae7 2 (some .boolean) ∈ TW := tw_t 1375 (by decide +kernel) (by decide +kernel)
theorem kKJxe99ae_137 : Cond.constantLong RJxe99ae 137 (9221120237041090560) ∈ TW := tw_t 1379 (by decide +kernel) (by decide +kernel)
theorem kML_106 : Cond.methodLink RL 106 yX10_rate ∈ TW := tw_t 1380 (by decide +kernel) (by decide +kernel)
theorem kIX10_rate : Cond.instanceMethod yX10_rate ∈ TW := tw_t 1381 (by decide +kernel) (by decide +kernel)
theorem kLX10_rate : Cond.selects RX10 yX10_rate yX10_rate ∈ TW := tw_t 1382 (by decide +kernel) (by decide +kernel)
theorem kCX10_rate : Cond.code yX10_rate cX10_rate 4 (some .int) ∈ TW := tw_t 1383 (by decide +kernel) (by decide +kernel)
theorem kKX10_276 : Cond.constantFloat RX10 276 (1232348160) ∈ TW := tw_t 1384 (by decide +kernel) (by decide +kernel)
theorem kMX10_277 : Cond.methodLink RX10 277 yJxf58ca_floatToIntBits_5c35a ∈ TW := tw_t 1385 (by decide +kernel) (by decide +kernel)
theorem kSJxf58ca_floatToIntBits_5c35a : Cond.static yJxf58ca_floatToIntBits_5c35a ∈ TW := tw_t 1386 (by decide +kernel) (by decide +kernel)
theorem kCJxf58ca_floatToIntBits_5c35a : Cond.code yJxf58ca_floatToIntBits_5c35a cJxf58ca_floatToIntBits_5c35a 1 (some .int) ∈ TW := tw_t 1387 (by decide +kernel) (by decide +kernel)
theorem kMJxf58ca_59 : Cond.methodLink RJxf58ca 59 yJxf58ca_isNaN_12338 ∈ TW := tw_t 1388 (by decide +kernel) (by decide +kernel)
theorem kSJxf58ca_isNaN_12338 : Cond.static yJxf58ca_isNaN_12338 ∈ TW := tw_t 1389 (by decide +kernel) (by decide +kernel)
theorem kCJxf58ca_isNaN_12338 : Cond.code yJxf58ca_isNaN_12338 cJxf58ca_isNaN_12338 1 (some .boolean) ∈ TW := tw_t 1390 (by decide +kernel) (by decide +kernel)
theorem kKJxf58ca_77 : Cond.constant RJxf58ca 77 (2143289344) ∈ TW := tw_t 1394 (by decide +kernel) (by decide +kernel)
theorem kML_110 : Cond.methodLink RL 110 yX10_jumps ∈ TW := tw_t 1395 (by decide +kernel) (by decide +kernel)
theorem kIX10_jumps : Cond.instanceMethod yX10_jumps ∈ TW := tw_t 1396 (by decide +kernel) (by decide +kernel)
theorem kLX10_jumps : Cond.selects RX10 yX10_jumps yX10_jumps ∈ TW := tw_t 1397 (by decide +kernel) (by decide +kernel)
theorem kCX10_jumps : Cond.code yX10_jumps cX10_jumps 7 (some .int) ∈ TW := tw_t 1398 (by decide +kernel) (by decide +kernel)
theorem kML_115 : Cond.methodLink RL 115 yX10_bend ∈ TW := tw_t 1399 (by decide +kernel) (by decide +kernel)
theorem kIX10_bend : Cond.instanceMethod yX10_bend ∈ TW := tw_t 1400 (by decide +kernel) (by decide +kernel)
theorem kLX10_bend : Cond.selects RX10 yX10_bend yX10_bend ∈ TW := tw_t 1401 (by decide +kernel) (by decide +kernel)
theorem kCX10_bend : Cond.code yX10_bend cX10_bend 8 (some .int) ∈ TW := tw_t 1402 (by decide +kernel) (by decide +kernel)
theorem kKX10_283 : Cond.constantLong RX10 283 (2) ∈ TW := tw_t 1403 (by decide +kernel) (by decide +kernel)
theorem kMX10_285 : Cond.methodLink RX10 285 yX10_refuses ∈ TW := tw_t 1404 (by decide +kernel) (by decide +kernel)
theorem kIX10_refuses : Cond.instanceMethod yX10_refuses ∈ TW := tw_t 1406 (by decide +kernel) (by decide +kernel)
theorem kCX10_refuses : Cond.code yX10_refuses cX10_refuses 2 (some .int) ∈ TW := tw_t 1407 (by decide +kernel) (by decide +kernel)
theorem kMX10_288 : Cond.methodLink RX10 288 yX10_isFromFor ∈ TW := tw_t 1408 (by decide +kernel) (by decide +kernel)
theorem kIX10_isFromFor : Cond.instanceMethod yX10_isFromFor ∈ TW := tw_t 1410 (by decide +kernel) (by decide +kernel)
theorem kCX10_isFromFor : Cond.code yX10_isFromFor cX10_isFromFor 6 (some .boolean) ∈ TW := tw_t 1411 (by decide +kernel) (by decide +kernel)
theorem kKX10_292 : Cond.constantLong RX10 292 (1999) ∈ TW := tw_t 1412 (by decide +kernel) (by decide +kernel)
theorem kML_119 : Cond.methodLink RL 119 yX10_benefit ∈ TW := tw_t 1413 (by decide +kernel) (by decide +kernel)
theorem kIX10_benefit : Cond.instanceMethod yX10_benefit ∈ TW := tw_t 1414 (by decide +kernel) (by decide +kernel)
theorem kLX10_benefit : Cond.selects RX10 yX10_benefit yX10_benefit ∈ TW := tw_t 1415 (by decide +kernel) (by decide +kernel)
theorem kCX10_benefit : Cond.code yX10_benefit cX10_benefit 3 (some .int) ∈ TW := tw_t 1416 (by decide +kernel) (by decide +kernel)
theorem kKX10_294 : Cond.constantLong RX10 294 (999) ∈ TW := tw_t 1417 (by decide +kernel) (by decide +kernel)
theorem kML_123 : Cond.methodLink RL 123 yX10_month ∈ TW := tw_t 1418 (by decide +kernel) (by decide +kernel)
theorem kIX10_month : Cond.instanceMethod yX10_month ∈ TW := tw_t 1419 (by decide +kernel) (by decide +kernel)
theorem kLX10_month : Cond.selects RX10 yX10_month yX10_month ∈ TW := tw_t 1420 (by decide +kernel) (by decide +kernel)
theorem kCX10_month : Cond.code yX10_month cX10_month 3 (some .long) ∈ TW := tw_t 1421 (by decide +kernel) (by decide +kernel)
theorem kMX10_313 : Cond.methodLink RX10 313 yX10_paidIn ∈ TW := tw_t 1422 (by decide +kernel) (by decide +kernel)
theorem kIX10_paidIn : Cond.instanceMethod yX10_paidIn ∈ TW := tw_t 1424 (by decide +kernel) (by decide +kernel)
theorem kCX10_paidIn : Cond.code yX10_paidIn cX10_paidIn 2 (some .long) ∈ TW := tw_t 1425 (by decide +kernel) (by decide +kernel)
theorem kMX10_310 : Cond.methodLink RX10 310 yX10_dueBehind ∈ TW := tw_t 1426 (by decide +kernel) (by decide +kernel)
theorem kIX10_dueBehind : Cond.instanceMethod yX10_dueBehind ∈ TW := tw_t 1428 (by decide +kernel) (by decide +kernel)
theorem kCX10_dueBehind : Cond.code yX10_dueBehind cX10_dueBehind 2 (some .long) ∈ TW := tw_t 1429 (by decide +kernel) (by decide +kernel)
theorem kMX10_304 : Cond.methodLink RX10 304 yX10_wagesOf ∈ TW := tw_t 1430 (by decide +kernel) (by decide +kernel)
theorem kIX10_wagesOf : Cond.instanceMethod yX10_wagesOf ∈ TW := tw_t 1432 (by decide +kernel) (by decide +kernel)
theorem kCX10_wagesOf : Cond.code yX10_wagesOf cX10_wagesOf 4 (some .int) ∈ TW := tw_t 1433 (by decide +kernel) (by decide +kernel)
theorem kMX10_307 : Cond.methodLink RX10 307 yX10_due ∈ TW := tw_t 1434 (by decide +kernel) (by decide +kernel)
theorem kIX10_due : Cond.instanceMethod yX10_due ∈ TW := tw_t 1436 (by decide +kernel) (by decide +kernel)
theorem kCX10_due : Cond.code yX10_due cX10_due 3 (some .long) ∈ TW := tw_t 1437 (by decide +kernel) (by decide +kernel)
theorem kMX10_296 : Cond.methodLink RX10 296 yJ9_min_7cf53 ∈ TW := tw_t 1438 (by decide +kernel) (by decide +kernel)
theorem kKX10_299 : Cond.constantLong RX10 299 (12) ∈ TW := tw_t 1439 (by decide +kernel) (by decide +kernel)
theorem kMX10_301 : Cond.methodLink RX10 301 yX10_cutDown ∈ TW := tw_t 1440 (by decide +kernel) (by decide +kernel)
theorem kSX10_cutDown : Cond.static yX10_cutDown ∈ TW := tw_t 1441 (by decide +kernel) (by decide +kernel)
theorem kCX10_cutDown : Cond.code yX10_cutDown cX10_cutDown 6 (some .long) ∈ TW := tw_t 1442 (by decide +kernel) (by decide +kernel)
theorem kML_127 : Cond.methodLink RL 127 yX10_takeBack ∈ TW := tw_t 1443 (by decide +kernel) (by decide +kernel)
theorem kIX10_takeBack : Cond.instanceMethod yX10_takeBack ∈ TW := tw_t 1444 (by decide +kernel) (by decide +kernel)
theorem kLX10_takeBack : Cond.selects RX10 yX10_takeBack yX10_takeBack ∈ TW := tw_t 1445 (by decide +kernel) (by decide +kernel)
theorem kCX10_takeBack : Cond.code yX10_takeBack cX10_takeBack 1 (some .int) ∈ TW := tw_t 1446 (by decide +kernel) (by decide +kernel)
theorem kML_131 : Cond.methodLink RL 131 yX10_year ∈ TW := tw_t 1447 (by decide +kernel) (by decide +kernel)
theorem kIX10_year : Cond.instanceMethod yX10_year ∈ TW := tw_t 1448 (by decide +kernel) (by decide +kernel)
theorem kLX10_year : Cond.selects RX10 yX10_year yX10_year ∈ TW := tw_t 1449 (by decide +kernel) (by decide +kernel)
theorem kCX10_year : Cond.code yX10_year cX10_year 3 (some .long) ∈ TW := tw_t 1450 (by decide +kernel) (by decide +kernel)
theorem kML_135 : Cond.methodLink RL 135 yX10_sofar ∈ TW := tw_t 1451 (by decide +kernel) (by decide +kernel)
theorem kIX10_sofar : Cond.instanceMethod yX10_sofar ∈ TW := tw_t 1452 (by decide +kernel) (by decide +kernel)
theorem kLX10_sofar : Cond.selects RX10 yX10_sofar yX10_sofar ∈ TW := tw_t 1453 (by decide +kernel) (by decide +kernel)
theorem kCX10_sofar : Cond.code yX10_sofar cX10_sofar 11 (some .long) ∈ TW := tw_t 1454 (by decide +kernel) (by decide +kernel)
theorem kML_140 : Cond.methodLink RL 140 yX10_nextMonth ∈ TW := tw_t 1455 (by decide +kernel) (by decide +kernel)
theorem kIX10_nextMonth : Cond.instanceMethod yX10_nextMonth ∈ TW := tw_t 1456 (by decide +kernel) (by decide +kernel)
theorem kLX10_nextMonth : Cond.selects RX10 yX10_nextMonth yX10_nextMonth ∈ TW := tw_t 1457 (by decide +kernel) (by decide +kernel)
theorem kCX10_nextMonth : Cond.code yX10_nextMonth cX10_nextMonth 7 (some .int) ∈ TW := tw_t 1458 (by decide +kernel) (by decide +kernel)
theorem kML_144 : Cond.methodLink RL 144 yX10_level ∈ TW := tw_t 1459 (by decide +kernel) (by decide +kernel)
theorem kIX10_level : Cond.instanceMethod yX10_level ∈ TW := tw_t 1460 (by decide +kernel) (by decide +kernel)
theorem kLX10_level : Cond.selects RX10 yX10_level yX10_level ∈ TW := tw_t 1461 (by decide +kernel) (by decide +kernel)
theorem kCX10_level : Cond.code yX10_level cX10_level 6 (some .int) ∈ TW := tw_t 1462 (by decide +kernel) (by decide +kernel)
theorem kML_149 : Cond.methodLink RL 149 yX10_dueAhead ∈ TW := tw_t 1463 (by decide +kernel) (by decide +kernel)
theorem kIX10_dueAhead : Cond.instanceMethod yX10_dueAhead ∈ TW := tw_t 1464 (by decide +kernel) (by decide +kernel)
theorem kLX10_dueAhead : Cond.selects RX10 yX10_dueAhead yX10_dueAhead ∈ TW := tw_t 1465 (by decide +kernel) (by decide +kernel)
theorem kCX10_dueAhead : Cond.code yX10_dueAhead cX10_dueAhead 1 (some .long) ∈ TW := tw_t 1466 (by decide +kernel) (by decide +kernel)
theorem kML_158 : Cond.methodLink RL 158 yX10_both ∈ TW := tw_t 1467 (by decide +kernel) (by decide +kernel)
theorem kIX10_both : Cond.instanceMethod yX10_both ∈ TW := tw_t 1468 (by decide +kernel) (by decide +kernel)
theorem kLX10_both : Cond.selects RX10 yX10_both yX10_both ∈ TW := tw_t 1469 (by decide +kernel) (by decide +kernel)
theorem kCX10_both : Cond.code yX10_both cX10_both 3 (some .long) ∈ TW := tw_t 1470 (by decide +kernel) (by decide +kernel)
theorem kML_154 : Cond.methodLink RL 154 yX10_would ∈ TW := tw_t 1471 (by decide +kernel) (by decide +kernel)
theorem kIX10_would : Cond.instanceMethod yX10_would ∈ TW := tw_t 1472 (by decide +kernel) (by decide +kernel)
theorem kLX10_would : Cond.selects RX10 yX10_would yX10_would ∈ TW := tw_t 1473 (by decide +kernel) (by decide +kernel)
theorem kCX10_would : Cond.code yX10_would cX10_would 9 (some .long) ∈ TW := tw_t 1474 (by decide +kernel) (by decide +kernel)
theorem kML_162 : Cond.methodLink RL 162 yX10_without ∈ TW := tw_t 1475 (by decide +kernel) (by decide +kernel)
theorem kIX10_without : Cond.instanceMethod yX10_without ∈ TW := tw_t 1476 (by decide +kernel) (by decide +kernel)
theorem kLX10_without : Cond.selects RX10 yX10_without yX10_without ∈ TW := tw_t 1477 (by decide +kernel) (by decide +kernel)
theorem kCX10_without : Cond.code yX10_without cX10_without 3 (some .long) ∈ TW := tw_t 1478 (by decide +kernel) (by decide +kernel)
theorem kMX10_316 : Cond.methodLink RX10 316 yX10_paidWith ∈ TW := tw_t 1479 (by decide +kernel) (by decide +kernel)
theorem kIX10_paidWith : Cond.instanceMethod yX10_paidWith ∈ TW := tw_t 1481 (by decide +kernel) (by decide +kernel)
theorem kCX10_paidWith : Cond.code yX10_paidWith cX10_paidWith 7 (some .long) ∈ TW := tw_t 1482 (by decide +kernel) (by decide +kernel)
theorem kML_187 : Cond.methodLink RL 187 yX10_through ∈ TW := tw_t 1483 (by decide +kernel) (by decide +kernel)
theorem kIX10_through : Cond.instanceMethod yX10_through ∈ TW := tw_t 1484 (by decide +kernel) (by decide +kernel)
theorem kLX10_through : Cond.selects RX10 yX10_through yX10_through ∈ TW := tw_t 1485 (by decide +kernel) (by decide +kernel)
theorem kCX10_through : Cond.code yX10_through cX10_through 5 (some .long) ∈ TW := tw_t 1486 (by decide +kernel) (by decide +kernel)
theorem kML_191 : Cond.methodLink RL 191 yX10_crossings ∈ TW := tw_t 1487 (by decide +kernel) (by decide +kernel)
theorem kIX10_crossings : Cond.instanceMethod yX10_crossings ∈ TW := tw_t 1488 (by decide +kernel) (by decide +kernel)
theorem kLX10_crossings : Cond.selects RX10 yX10_crossings yX10_crossings ∈ TW := tw_t 1489 (by decide +kernel) (by decide +kernel)
theorem kCX10_crossings : Cond.code yX10_crossings cX10_crossings 12 (some .long) ∈ TW := tw_t 1490 (by decide +kernel) (by decide +kernel)
theorem kMX10_320 : Cond.methodLink RX10 320 yX10_side ∈ TW := tw_t 1491 (by decide +kernel) (by decide +kernel)
theorem kSX10_side : Cond.static yX10_side ∈ TW := tw_t 1492 (by decide +kernel) (by decide +kernel)
theorem kCX10_side : Cond.code yX10_side cX10_side 2 (some .int) ∈ TW := tw_t 1493 (by decide +kernel) (by decide +kernel)
theorem kML_195 : Cond.methodLink RL 195 yX10_kinks ∈ TW := tw_t 1494 (by decide +kernel) (by decide +kernel)
theorem kIX10_kinks : Cond.instanceMethod yX10_kinks ∈ TW := tw_t 1495 (by decide +kernel) (by decide +kernel)
theorem kLX10_kinks : Cond.selects RX10 yX10_kinks yX10_kinks ∈ TW := tw_t 1496 (by decide +kernel) (by decide +kernel)
theorem kCX10_kinks : Cond.code yX10_kinks cX10_kinks 7 (some .int) ∈ TW := tw_t 1497 (by decide +kernel) (by decide +kernel)
theorem kML_199 : Cond.methodLink RL 199 yX10_until ∈ TW := tw_t 1498 (by decide +kernel) (by decide +kernel)
theorem kIX10_until : Cond.instanceMethod yX10_until ∈ TW := tw_t 1499 (by decide +kernel) (by decide +kernel)
theorem kLX10_until : Cond.selects RX10 yX10_until yX10_until ∈ TW := tw_t 1500 (by decide +kernel) (by decide +kernel)
theorem kCX10_until : Cond.code yX10_until cX10_until 6 (some .int) ∈ TW := tw_t 1501 (by decide +kernel) (by decide +kernel)
theorem kML_203 : Cond.methodLink RL 203 yX10_free ∈ TW := tw_t 1502 (by decide +kernel) (by decide +kernel)
theorem kIX10_free : Cond.instanceMethod yX10_free ∈ TW := tw_t 1503 (by decide +kernel) (by decide +kernel)
theorem kLX10_free : Cond.selects RX10 yX10_free yX10_free ∈ TW := tw_t 1504 (by decide +kernel) (by decide +kernel)
theorem kCX10_free : Cond.code yX10_free cX10_free 3 (some .int) ∈ TW := tw_t 1505 (by decide +kernel) (by decide +kernel)
theorem kML_207 : Cond.methodLink RL 207 yX10_putIn ∈ TW := tw_t 1506 (by decide +kernel) (by decide +kernel)
theorem kIX10_putIn : Cond.instanceMethod yX10_putIn ∈ TW := tw_t 1507 (by decide +kernel) (by decide +kernel)
theorem kLX10_putIn : Cond.selects RX10 yX10_putIn yX10_putIn ∈ TW := tw_t 1508 (by decide +kernel) (by decide +kernel)
theorem kCX10_putIn : Cond.code yX10_putIn cX10_putIn 5 (some .long) ∈ TW := tw_t 1509 (by decide +kernel) (by decide +kernel)
theorem kML_166 : Cond.methodLink RL 166 yX10_kept ∈ TW := tw_t 1510 (by decide +kernel) (by decide +kernel)
theorem kIX10_kept : Cond.instanceMethod yX10_kept ∈ TW := tw_t 1511 (by decide +kernel) (by decide +kernel)
theorem kLX10_kept : Cond.selects RX10 yX10_kept yX10_kept ∈ TW := tw_t 1512 (by decide +kernel) (by decide +kernel)
theorem kCX10_kept : Cond.code yX10_kept cX10_kept 2 (some .long) ∈ TW := tw_t 1513 (by decide +kernel) (by decide +kernel)
theorem kML_170 : Cond.methodLink RL 170 yX10_first ∈ TW := tw_t 1514 (by decide +kernel) (by decide +kernel)
theorem kIX10_first : Cond.instanceMethod yX10_first ∈ TW := tw_t 1515 (by decide +kernel) (by decide +kernel)
theorem kLX10_first : Cond.selects RX10 yX10_first yX10_first ∈ TW := tw_t 1516 (by decide +kernel) (by decide +kernel)
theorem kCX10_first : Cond.code yX10_first cX10_first 3 (some .int) ∈ TW := tw_t 1517 (by decide +kernel) (by decide +kernel)
theorem kML_175 : Cond.methodLink RL 175 yX10_raise ∈ TW := tw_t 1518 (by decide +kernel) (by decide +kernel)
theorem kIX10_raise : Cond.instanceMethod yX10_raise ∈ TW := tw_t 1519 (by decide +kernel) (by decide +kernel)
theorem kLX10_raise : Cond.selects RX10 yX10_raise yX10_raise ∈ TW := tw_t 1520 (by decide +kernel) (by decide +kernel)
theorem kCX10_raise : Cond.code yX10_raise cX10_raise 7 (some .int) ∈ TW := tw_t 1521 (by decide +kernel) (by decide +kernel)
theorem kML_179 : Cond.methodLink RL 179 yX10_over ∈ TW := tw_t 1522 (by decide +kernel) (by decide +kernel)
theorem kIX10_over : Cond.instanceMethod yX10_over ∈ TW := tw_t 1523 (by decide +kernel) (by decide +kernel)
theorem kLX10_over : Cond.selects RX10 yX10_over yX10_over ∈ TW := tw_t 1524 (by decide +kernel) (by decide +kernel)
theorem kCX10_over : Cond.code yX10_over cX10_over 5 (some .int) ∈ TW := tw_t 1525 (by decide +kernel) (by decide +kernel)
theorem kML_183 : Cond.methodLink RL 183 yX10_inKind ∈ TW := tw_t 1526 (by decide +kernel) (by decide +kernel)
theorem kIX10_inKind : Cond.instanceMethod yX10_inKind ∈ TW := tw_t 1527 (by decide +kernel) (by decide +kernel)
theorem kLX10_inKind : Cond.selects RX10 yX10_inKind yX10_inKind ∈ TW := tw_t 1528 (by decide +kernel) (by decide +kernel)
theorem kCX10_inKind : Cond.code yX10_inKind cX10_inKind 6 (some .int) ∈ TW := tw_t 1529 (by decide +kernel) (by decide +kernel)
theorem kML_211 : Cond.methodLink RL 211 yX10_spell ∈ TW := tw_t 1530 (by decide +kernel) (by decide +kernel)
theorem kIX10_spell : Cond.instanceMethod yX10_spell ∈ TW := tw_t 1531 (by decide +kernel) (by decide +kernel)
theorem kLX10_spell : Cond.selects RX10 yX10_spell yX10_spell ∈ TW := tw_t 1532 (by decide +kernel) (by decide +kernel)
theorem kCX10_spell : Cond.code yX10_spell cX10_spell 3 (some .int) ∈ TW := tw_t 1533 (by decide +kernel) (by decide +kernel)
theorem kMX10_336 : Cond.methodLink RX10 336 yX10_spells ∈ TW := tw_t 1534 (by decide +kernel) (by decide +kernel)
theorem kIX10_spells : Cond.instanceMethod yX10_spells ∈ TW := tw_t 1536 (by decide +kernel) (by decide +kernel)
theorem kCX10_spells : Cond.code yX10_spells cX10_spells 3 none ∈ TW := tw_t 1537 (by decide +kernel) (by decide +kernel)
theorem kMX10_327 : Cond.methodLink RX10 327 yX10_says ∈ TW := tw_t 1538 (by decide +kernel) (by decide +kernel)
theorem kIX10_says : Cond.instanceMethod yX10_says ∈ TW := tw_t 1540 (by decide +kernel) (by decide +kernel)
theorem kCX10_says : Cond.code yX10_says cX10_says 2 none ∈ TW := tw_t 1541 (by decide +kernel) (by decide +kernel)
theorem kMX10_330 : Cond.methodLink RX10 330 yX10_saysSum ∈ TW := tw_t 1542 (by decide +kernel) (by decide +kernel)
theorem kIX10_saysSum : Cond.instanceMethod yX10_saysSum ∈ TW := tw_t 1544 (by decide +kernel) (by decide +kernel)
theorem kCX10_saysSum : Cond.code yX10_saysSum cX10_saysSum 4 none ∈ TW := tw_t 1545 (by decide +kernel) (by decide +kernel)
theorem kMX10_333 : Cond.methodLink RX10 333 yX10_saysNumber ∈ TW := tw_t 1546 (by decide +kernel) (by decide +kernel)
theorem kIX10_saysNumber : Cond.instanceMethod yX10_saysNumber ∈ TW := tw_t 1548 (by decide +kernel) (by decide +kernel)
theorem kCX10_saysNumber : Cond.code yX10_saysNumber cX10_saysNumber 3 none ∈ TW := tw_t 1549 (by decide +kernel) (by decide +kernel)
theorem kML_215 : Cond.methodLink RL 215 yX10_status ∈ TW := tw_t 1550 (by decide +kernel) (by decide +kernel)
theorem kIX10_status : Cond.instanceMethod yX10_status ∈ TW := tw_t 1551 (by decide +kernel) (by decide +kernel)
theorem kLX10_status : Cond.selects RX10 yX10_status yX10_status ∈ TW := tw_t 1552 (by decide +kernel) (by decide +kernel)
theorem kCX10_status : Cond.code yX10_status cX10_status 2 (some .int) ∈ TW := tw_t 1553 (by decide +kernel) (by decide +kernel)
theorem kML_219 : Cond.methodLink RL 219 yX10_most ∈ TW := tw_t 1554 (by decide +kernel) (by decide +kernel)
theorem kIX10_most : Cond.instanceMethod yX10_most ∈ TW := tw_t 1555 (by decide +kernel) (by decide +kernel)
theorem kLX10_most : Cond.selects RX10 yX10_most yX10_most ∈ TW := tw_t 1556 (by decide +kernel) (by decide +kernel)
theorem kCX10_most : Cond.code yX10_most cX10_most 2 (some .long) ∈ TW := tw_t 1557 (by decide +kernel) (by decide +kernel)
theorem kKX10_341 : Cond.constantLong RX10 341 (9) ∈ TW := tw_t 1558 (by decide +kernel) (by decide +kernel)
theorem kMX10_343 : Cond.methodLink RX10 343 yX10_extreme ∈ TW := tw_t 1559 (by decide +kernel) (by decide +kernel)
theorem kIX10_extreme : Cond.instanceMethod yX10_extreme ∈ TW := tw_t 1561 (by decide +kernel) (by decide +kernel)
theorem kCX10_extreme : Cond.code yX10_extreme cX10_extreme 5 (some .long) ∈ TW := tw_t 1562 (by decide +kernel) (by decide +kernel)
theorem kMX10_339 : Cond.methodLink RX10 339 yJ9_min_f86c9 ∈ TW := tw_t 1563 (by decide +kernel) (by decide +kernel)
theorem kMX10_347 : Cond.methodLink RX10 347 yX10_firstWith ∈ TW := tw_t 1564 (by decide +kernel) (by decide +kernel)
theorem kIX10_firstWith : Cond.instanceMethod yX10_firstWith ∈ TW := tw_t 1566 (by decide +kernel) (by decide +kernel)
theorem kCX10_firstWith : Cond.code yX10_firstWith cX10_firstWith 4 (some .int) ∈ TW := tw_t 1567 (by decide +kernel) (by decide +kernel)
theorem kMX10_350 : Cond.methodLink RX10 350 yX10_steepest ∈ TW := tw_t 1568 (by decide +kernel) (by decide +kernel)
theorem kIX10_steepest : Cond.instanceMethod yX10_steepest ∈ TW := tw_t 1570 (by decide +kernel) (by decide +kernel)
theorem kCX10_steepest : Cond.code yX10_steepest cX10_steepest 3 (some .int) ∈ TW := tw_t 1571 (by decide +kernel) (by decide +kernel)
theorem kMX10_353 : Cond.methodLink RX10 353 yX10_flatOnes ∈ TW := tw_t 1572 (by decide +kernel) (by decide +kernel)
theorem kIX10_flatOnes : Cond.instanceMethod yX10_flatOnes ∈ TW := tw_t 1574 (by decide +kernel) (by decide +kernel)
theorem kCX10_flatOnes : Cond.code yX10_flatOnes cX10_flatOnes 3 (some .int) ∈ TW := tw_t 1575 (by decide +kernel) (by decide +kernel)
theorem kMX10_356 : Cond.methodLink RX10 356 yX10_traps ∈ TW := tw_t 1576 (by decide +kernel) (by decide +kernel)
theorem kIX10_traps : Cond.instanceMethod yX10_traps ∈ TW := tw_t 1578 (by decide +kernel) (by decide +kernel)
theorem kCX10_traps : Cond.code yX10_traps cX10_traps 7 (some .int) ∈ TW := tw_t 1579 (by decide +kernel) (by decide +kernel)
theorem kMX10_360 : Cond.methodLink RX10 360 yX10_widest ∈ TW := tw_t 1580 (by decide +kernel) (by decide +kernel)
theorem kIX10_widest : Cond.instanceMethod yX10_widest ∈ TW := tw_t 1582 (by decide +kernel) (by decide +kernel)
theorem kCX10_widest : Cond.code yX10_widest cX10_widest 3 (some .int) ∈ TW := tw_t 1583 (by decide +kernel) (by decide +kernel)
theorem kML_223 : Cond.methodLink RL 223 yX10_count ∈ TW := tw_t 1584 (by decide +kernel) (by decide +kernel)
theorem kIX10_count : Cond.instanceMethod yX10_count ∈ TW := tw_t 1585 (by decide +kernel) (by decide +kernel)
theorem kLX10_count : Cond.selects RX10 yX10_count yX10_count ∈ TW := tw_t 1586 (by decide +kernel) (by decide +kernel)
theorem kCX10_count : Cond.code yX10_count cX10_count 4 (some .int) ∈ TW := tw_t 1587 (by decide +kernel) (by decide +kernel)
theorem kKL_79 : Cond.constantLong RL 79 (4294967295) ∈ TW := tw_t 1588 (by decide +kernel) (by decide +kernel)
theorem kLX4_look : Cond.selects RX4 yX4_look yX4_look ∈ TW := tw_s 0 (by decide +kernel) (by decide +kernel)
theorem kLX4_readPaid : Cond.selects RX4 yX4_readPaid yX4_readPaid ∈ TW := tw_s 1 (by decide +kernel) (by decide +kernel)
theorem kLX4_take : Cond.selects RX4 yX4_take yX4_take ∈ TW := tw_s 2 (by decide +kernel) (by decide +kernel)
theorem kLX4_fail : Cond.selects RX4 yX4_fail yX4_fail ∈ TW := tw_s 3 (by decide +kernel) (by decide +kernel)
theorem kLX4_readTerms : Cond.selects RX4 yX4_readTerms yX4_readTerms ∈ TW := tw_s 4 (by decide +kernel) (by decide +kernel)
theorem kLX4_readBenefit : Cond.selects RX4 yX4_readBenefit yX4_readBenefit ∈ TW := tw_s 5 (by decide +kernel) (by decide +kernel)
theorem kLX4_readNumber : Cond.selects RX4 yX4_readNumber yX4_readNumber ∈ TW := tw_s 6 (by decide +kernel) (by decide +kernel)
theorem kLX4_isDigit : Cond.selects RX4 yX4_isDigit yX4_isDigit ∈ TW := tw_s 7 (by decide +kernel) (by decide +kernel)
theorem kLX4_readRule : Cond.selects RX4 yX4_readRule yX4_readRule ∈ TW := tw_s 8 (by decide +kernel) (by decide +kernel)
theorem kLX4_readSegments : Cond.selects RX4 yX4_readSegments yX4_readSegments ∈ TW := tw_s 9 (by decide +kernel) (by decide +kernel)
theorem kLX4_readSegment : Cond.selects RX4 yX4_readSegment yX4_readSegment ∈ TW := tw_s 10 (by decide +kernel) (by decide +kernel)
theorem kLX9_line : Cond.selects RX9 yX9_line yX9_line ∈ TW := tw_s 11 (by decide +kernel) (by decide +kernel)
theorem kLX9_fresh : Cond.selects RX9 yX9_fresh yX9_fresh ∈ TW := tw_s 12 (by decide +kernel) (by decide +kernel)
theorem kLX3_addUp : Cond.selects RX3 yX3_addUp yX3_addUp ∈ TW := tw_s 13 (by decide +kernel) (by decide +kernel)
theorem kLX2_straightFor : Cond.selects RX2 yX2_straightFor yX2_straightFor ∈ TW := tw_s 14 (by decide +kernel) (by decide +kernel)
theorem kLX2_gainOfTerms : Cond.selects RX2 yX2_gainOfTerms yX2_gainOfTerms ∈ TW := tw_s 15 (by decide +kernel) (by decide +kernel)
theorem kLX1_open : Cond.selects RX1 yX1_open yX1_open ∈ TW := tw_s 16 (by decide +kernel) (by decide +kernel)
theorem kLX1_makeRoom : Cond.selects RX1 yX1_makeRoom yX1_makeRoom ∈ TW := tw_s 17 (by decide +kernel) (by decide +kernel)
theorem kLX1_go : Cond.selects RX1 yX1_go yX1_go ∈ TW := tw_s 18 (by decide +kernel) (by decide +kernel)
theorem kLX1_cliffsIn : Cond.selects RX1 yX1_cliffsIn yX1_cliffsIn ∈ TW := tw_s 19 (by decide +kernel) (by decide +kernel)
theorem kLX1_cliffInto : Cond.selects RX1 yX1_cliffInto yX1_cliffInto ∈ TW := tw_s 20 (by decide +kernel) (by decide +kernel)
theorem kLX1_gainInto : Cond.selects RX1 yX1_gainInto yX1_gainInto ∈ TW := tw_s 21 (by decide +kernel) (by decide +kernel)
theorem kLX1_lastValue : Cond.selects RX1 yX1_lastValue yX1_lastValue ∈ TW := tw_s 22 (by decide +kernel) (by decide +kernel)
theorem kLX1_valueIn : Cond.selects RX1 yX1_valueIn yX1_valueIn ∈ TW := tw_s 23 (by decide +kernel) (by decide +kernel)
theorem kLX1_further : Cond.selects RX1 yX1_further yX1_further ∈ TW := tw_s 24 (by decide +kernel) (by decide +kernel)
theorem kLX9_isSegment : Cond.selects RX9 yX9_isSegment yX9_isSegment ∈ TW := tw_s 25 (by decide +kernel) (by decide +kernel)
theorem kLX9_isAccount : Cond.selects RX9 yX9_isAccount yX9_isAccount ∈ TW := tw_s 26 (by decide +kernel) (by decide +kernel)
theorem kLX9_isLine : Cond.selects RX9 yX9_isLine yX9_isLine ∈ TW := tw_s 27 (by decide +kernel) (by decide +kernel)
theorem kLX1_timesIn : Cond.selects RX1 yX1_timesIn yX1_timesIn ∈ TW := tw_s 28 (by decide +kernel) (by decide +kernel)
theorem kLX9_keptAt : Cond.selects RX9 yX9_keptAt yX9_keptAt ∈ TW := tw_s 29 (by decide +kernel) (by decide +kernel)
theorem kLX9_refuse : Cond.selects RX9 yX9_refuse yX9_refuse ∈ TW := tw_s 30 (by decide +kernel) (by decide +kernel)
theorem kLX9_mayBend : Cond.selects RX9 yX9_mayBend yX9_mayBend ∈ TW := tw_s 31 (by decide +kernel) (by decide +kernel)
theorem kLX9_isMonth : Cond.selects RX9 yX9_isMonth yX9_isMonth ∈ TW := tw_s 32 (by decide +kernel) (by decide +kernel)
theorem kLX6_put : Cond.selects RX6 yX6_put yX6_put ∈ TW := tw_s 33 (by decide +kernel) (by decide +kernel)
theorem kLX6_writeTerms : Cond.selects RX6 yX6_writeTerms yX6_writeTerms ∈ TW := tw_s 34 (by decide +kernel) (by decide +kernel)
theorem kLX6_writeSegments : Cond.selects RX6 yX6_writeSegments yX6_writeSegments ∈ TW := tw_s 35 (by decide +kernel) (by decide +kernel)
theorem kLX6_writeNumber : Cond.selects RX6 yX6_writeNumber yX6_writeNumber ∈ TW := tw_s 36 (by decide +kernel) (by decide +kernel)
theorem kLX1_lowAtFirst : Cond.selects RX1 yX1_lowAtFirst yX1_lowAtFirst ∈ TW := tw_s 37 (by decide +kernel) (by decide +kernel)
theorem kLX10_readDesk : Cond.selects RX10 yX10_readDesk yX10_readDesk ∈ TW := tw_s 39 (by decide +kernel) (by decide +kernel)
theorem kLX10_ahead : Cond.selects RX10 yX10_ahead yX10_ahead ∈ TW := tw_s 40 (by decide +kernel) (by decide +kernel)
theorem kLX10_here : Cond.selects RX10 yX10_here yX10_here ∈ TW := tw_s 41 (by decide +kernel) (by decide +kernel)
theorem kLX10_readSum : Cond.selects RX10 yX10_readSum yX10_readSum ∈ TW := tw_s 42 (by decide +kernel) (by decide +kernel)
theorem kLX10_must : Cond.selects RX10 yX10_must yX10_must ∈ TW := tw_s 43 (by decide +kernel) (by decide +kernel)
theorem kLX10_bad : Cond.selects RX10 yX10_bad yX10_bad ∈ TW := tw_s 44 (by decide +kernel) (by decide +kernel)
theorem kLX10_badAt : Cond.selects RX10 yX10_badAt yX10_badAt ∈ TW := tw_s 45 (by decide +kernel) (by decide +kernel)
theorem kLX10_takes : Cond.selects RX10 yX10_takes yX10_takes ∈ TW := tw_s 46 (by decide +kernel) (by decide +kernel)
theorem kLX10_readTerm : Cond.selects RX10 yX10_readTerm yX10_readTerm ∈ TW := tw_s 47 (by decide +kernel) (by decide +kernel)
theorem kLX10_number : Cond.selects RX10 yX10_number yX10_number ∈ TW := tw_s 48 (by decide +kernel) (by decide +kernel)
theorem kLX10_readRule : Cond.selects RX10 yX10_readRule yX10_readRule ∈ TW := tw_s 49 (by decide +kernel) (by decide +kernel)
theorem kLX10_deepBy : Cond.selects RX10 yX10_deepBy yX10_deepBy ∈ TW := tw_s 50 (by decide +kernel) (by decide +kernel)
theorem kLX10_readsSegment : Cond.selects RX10 yX10_readsSegment yX10_readsSegment ∈ TW := tw_s 51 (by decide +kernel) (by decide +kernel)
theorem kLX10_piecesOf : Cond.selects RX10 yX10_piecesOf yX10_piecesOf ∈ TW := tw_s 52 (by decide +kernel) (by decide +kernel)
theorem kLX10_laysPieces : Cond.selects RX10 yX10_laysPieces yX10_laysPieces ∈ TW := tw_s 53 (by decide +kernel) (by decide +kernel)
theorem kLX10_laysLine : Cond.selects RX10 yX10_laysLine yX10_laysLine ∈ TW := tw_s 54 (by decide +kernel) (by decide +kernel)
theorem kLX10_valueAt : Cond.selects RX10 yX10_valueAt yX10_valueAt ∈ TW := tw_s 55 (by decide +kernel) (by decide +kernel)
theorem kLX10_laysAccounts : Cond.selects RX10 yX10_laysAccounts yX10_laysAccounts ∈ TW := tw_s 56 (by decide +kernel) (by decide +kernel)
theorem kLX10_lineAt : Cond.selects RX10 yX10_lineAt yX10_lineAt ∈ TW := tw_s 57 (by decide +kernel) (by decide +kernel)
theorem kLX10_sumAt : Cond.selects RX10 yX10_sumAt yX10_sumAt ∈ TW := tw_s 58 (by decide +kernel) (by decide +kernel)
theorem kLX10_whichBy : Cond.selects RX10 yX10_whichBy yX10_whichBy ∈ TW := tw_s 59 (by decide +kernel) (by decide +kernel)
theorem kLX10_part : Cond.selects RX10 yX10_part yX10_part ∈ TW := tw_s 60 (by decide +kernel) (by decide +kernel)
theorem kLX10_beginOf : Cond.selects RX10 yX10_beginOf yX10_beginOf ∈ TW := tw_s 61 (by decide +kernel) (by decide +kernel)
theorem kLX10_step : Cond.selects RX10 yX10_step yX10_step ∈ TW := tw_s 62 (by decide +kernel) (by decide +kernel)
theorem kLX10_cliffsOf : Cond.selects RX10 yX10_cliffsOf yX10_cliffsOf ∈ TW := tw_s 63 (by decide +kernel) (by decide +kernel)
theorem kLX10_isAccount : Cond.selects RX10 yX10_isAccount yX10_isAccount ∈ TW := tw_s 64 (by decide +kernel) (by decide +kernel)
theorem kLX10_isSegment : Cond.selects RX10 yX10_isSegment yX10_isSegment ∈ TW := tw_s 65 (by decide +kernel) (by decide +kernel)
theorem kLX10_segmentAt : Cond.selects RX10 yX10_segmentAt yX10_segmentAt ∈ TW := tw_s 66 (by decide +kernel) (by decide +kernel)
theorem kLX10_isLine : Cond.selects RX10 yX10_isLine yX10_isLine ∈ TW := tw_s 67 (by decide +kernel) (by decide +kernel)
theorem kLX10_isWage : Cond.selects RX10 yX10_isWage yX10_isWage ∈ TW := tw_s 68 (by decide +kernel) (by decide +kernel)
theorem kLX10_pieceTo : Cond.selects RX10 yX10_pieceTo yX10_pieceTo ∈ TW := tw_s 69 (by decide +kernel) (by decide +kernel)
theorem kLX10_backFrom : Cond.selects RX10 yX10_backFrom yX10_backFrom ∈ TW := tw_s 70 (by decide +kernel) (by decide +kernel)
theorem kLX10_trapOf : Cond.selects RX10 yX10_trapOf yX10_trapOf ∈ TW := tw_s 71 (by decide +kernel) (by decide +kernel)
theorem kLX10_paidAt : Cond.selects RX10 yX10_paidAt yX10_paidAt ∈ TW := tw_s 72 (by decide +kernel) (by decide +kernel)
theorem kLX10_keptAt : Cond.selects RX10 yX10_keptAt yX10_keptAt ∈ TW := tw_s 73 (by decide +kernel) (by decide +kernel)
theorem kLX10_refuses : Cond.selects RX10 yX10_refuses yX10_refuses ∈ TW := tw_s 74 (by decide +kernel) (by decide +kernel)
theorem kLX10_isFromFor : Cond.selects RX10 yX10_isFromFor yX10_isFromFor ∈ TW := tw_s 75 (by decide +kernel) (by decide +kernel)
theorem kLX10_paidIn : Cond.selects RX10 yX10_paidIn yX10_paidIn ∈ TW := tw_s 76 (by decide +kernel) (by decide +kernel)
theorem kLX10_dueBehind : Cond.selects RX10 yX10_dueBehind yX10_dueBehind ∈ TW := tw_s 77 (by decide +kernel) (by decide +kernel)
theorem kLX10_wagesOf : Cond.selects RX10 yX10_wagesOf yX10_wagesOf ∈ TW := tw_s 78 (by decide +kernel) (by decide +kernel)
theorem kLX10_due : Cond.selects RX10 yX10_due yX10_due ∈ TW := tw_s 79 (by decide +kernel) (by decide +kernel)
theorem kLX10_paidWith : Cond.selects RX10 yX10_paidWith yX10_paidWith ∈ TW := tw_s 80 (by decide +kernel) (by decide +kernel)
theorem kLX10_spells : Cond.selects RX10 yX10_spells yX10_spells ∈ TW := tw_s 81 (by decide +kernel) (by decide +kernel)
theorem kLX10_says : Cond.selects RX10 yX10_says yX10_says ∈ TW := tw_s 82 (by decide +kernel) (by decide +kernel)
theorem kLX10_saysSum : Cond.selects RX10 yX10_saysSum yX10_saysSum ∈ TW := tw_s 83 (by decide +kernel) (by decide +kernel)
theorem kLX10_saysNumber : Cond.selects RX10 yX10_saysNumber yX10_saysNumber ∈ TW := tw_s 84 (by decide +kernel) (by decide +kernel)
theorem kLX10_extreme : Cond.selects RX10 yX10_extreme yX10_extreme ∈ TW := tw_s 85 (by decide +kernel) (by decide +kernel)
theorem kLX10_firstWith : Cond.selects RX10 yX10_firstWith yX10_firstWith ∈ TW := tw_s 86 (by decide +kernel) (by decide +kernel)
theorem kLX10_steepest : Cond.selects RX10 yX10_steepest yX10_steepest ∈ TW := tw_s 87 (by decide +kernel) (by decide +kernel)
theorem kLX10_flatOnes : Cond.selects RX10 yX10_flatOnes yX10_flatOnes ∈ TW := tw_s 88 (by decide +kernel) (by decide +kernel)
theorem kLX10_traps : Cond.selects RX10 yX10_traps yX10_traps ∈ TW := tw_s 89 (by decide +kernel) (by decide +kernel)
theorem kLX10_widest : Cond.selects RX10 yX10_widest yX10_widest ∈ TW := tw_s 90 (by decide +kernel) (by decide +kernel)
theorem kWX1 : ∀ w ∈ u_ws RX1 TX1 8, w ∈ TW := tw_ps _ [105, 107, 109, 111, 113, 115, 117, 119] (by decide +kernel) (by decide +kernel)
theorem kWX2 : ∀ w ∈ u_ws RX2 TX2 3, w ∈ TW := tw_ps _ [127, 129, 131] (by decide +kernel) (by decide +kernel)
theorem kWX3 : ∀ w ∈ u_ws RX3 TX3 3, w ∈ TW := tw_ps _ [70, 72, 74] (by decide +kernel) (by decide +kernel)
theorem kWX4 : ∀ w ∈ u_ws RX4 TX4 5, w ∈ TW := tw_ps _ [43, 45, 47, 49, 51] (by decide +kernel) (by decide +kernel)
theorem kWX5 : ∀ w ∈ u_ws RX5 TX5 11, w ∈ TW := tw_ps _ [221, 223, 225, 227, 229, 231, 233, 235, 237, 239, 241] (by decide +kernel) (by decide +kernel)
theorem kWX6 : ∀ w ∈ u_ws RX6 TX6 3, w ∈ TW := tw_ps _ [160, 162, 164] (by decide +kernel) (by decide +kernel)
theorem kWX8 : ∀ w ∈ u_ws RX8 TX8 2, w ∈ TW := tw_ps _ [146, 148] (by decide +kernel) (by decide +kernel)
theorem kWX9 : ∀ w ∈ u_ws RX9 TX9 11, w ∈ TW := tw_ps _ [255, 257, 259, 261, 263, 265, 267, 269, 271, 273, 275] (by decide +kernel) (by decide +kernel)
theorem kWX10 : ∀ w ∈ u_ws RX10 TX10 34, w ∈ TW := tw_ps _ [1066, 1068, 1070, 1072, 1074, 1076, 1078, 1080, 1082, 1084, 1086, 1088, 1090, 1092, 1094, 1096, 1098, 1100, 1102, 1104, 1106, 1108, 1110, 1112, 1114, 1116, 1118, 1120, 1122, 1124, 1126, 1128, 1130, 1132] (by decide +kernel) (by decide +kernel)
end
section
/-! own text, printed by wip/whole/gen/rows_own.py: rows for places of locals, fields, arrays, methods -/
section Own
variable {K : Kx} {Y : Ys} {h : Nat} {Q : Qt} {pc pc' : Nat} {ls : List (Option AV)} {st : List AV} {N : Nm} {g : Ge}
theorem ld_i0 {z : Int} {t : List (Option AV)} (hat : At Y pc (.iload_n 0) 1 pc') (kk : AW K Y h Q pc' (some (vi z) :: t) (vi z :: st) N g) : AW K Y h Q pc (some (vi z) :: t) st N g := g_ild (i := 0) (Or.inr ⟨0, rfl, rfl, rfl⟩) hat rfl kk
theorem sv_i0 {z : Int} {x0 : Option AV} {t : List (Option AV)} (hn : 0 < Y.2.2.1) (hat : At Y pc (.istore_n 0) 1 pc') (kk : AW K Y h Q pc' (some (vi z) :: t) st N g) : AW K Y h Q pc (x0 :: t) (vi z :: st) N g := by
  refine g_ist (i := 0) hn (Or.inr ⟨0, rfl, rfl, rfl⟩) hat ⟨by simp, rfl, fun j q => by omega⟩ kk
theorem ld_l0 {z : Int} {t : List (Option AV)} (hat : At Y pc (.lload_n 0) 1 pc') (kk : AW K Y h Q pc' (some (vl z) :: t) (vl z :: st) N g) : AW K Y h Q pc (some (vl z) :: t) st N g := g_lld (i := 0) (Or.inr ⟨0, rfl, rfl, rfl⟩) hat rfl kk
theorem sv_l0 {z : Int} {x0 x1 : Option AV} {t : List (Option AV)} (hn : 1 < Y.2.2.1) (hat : At Y pc (.lstore_n 0) 1 pc') (kk : AW K Y h Q pc' (some (vl z) :: none :: t) st N g) : AW K Y h Q pc (x0 :: x1 :: t) (vl z :: st) N g := by
  refine g_lst (i := 0) hn (Or.inr ⟨0, rfl, rfl, rfl⟩) hat ⟨by simp, rfl, fun j q => by omega⟩ kk
theorem ld_a0 {k i : Nat} {t : List (Option AV)} (hat : At Y pc (.aload_n 0) 1 pc') (kk : AW K Y h Q pc' (some (vr k i) :: t) (vr k i :: st) N g) : AW K Y h Q pc (some (vr k i) :: t) st N g := g_ald (i := 0) (Or.inr ⟨0, rfl, rfl, rfl⟩) hat rfl kk
theorem sv_a0 {k i : Nat} {x0 : Option AV} {t : List (Option AV)} (hn : 0 < Y.2.2.1) (hat : At Y pc (.astore_n 0) 1 pc') (kk : AW K Y h Q pc' (some (vr k i) :: t) st N g) : AW K Y h Q pc (x0 :: t) (vr k i :: st) N g := by
  refine g_ast (i := 0) hn (Or.inr ⟨0, rfl, rfl, rfl⟩) hat ⟨by simp, rfl, fun j q => by omega⟩ kk
theorem ld_d0 {z : UInt64} {t : List (Option AV)} (hat : At Y pc (.dload_n 0) 1 pc') (kk : AW K Y h Q pc' (some (vd z) :: t) (vd z :: st) N g) : AW K Y h Q pc (some (vd z) :: t) st N g := g_dld (i := 0) (Or.inr ⟨0, rfl, rfl, rfl⟩) hat rfl kk
theorem sv_d0 {z : UInt64} {x0 x1 : Option AV} {t : List (Option AV)} (hn : 1 < Y.2.2.1) (hat : At Y pc (.dstore_n 0) 1 pc') (kk : AW K Y h Q pc' (some (vd z) :: none :: t) st N g) : AW K Y h Q pc (x0 :: x1 :: t) (vd z :: st) N g := by
  refine g_dst (i := 0) hn (Or.inr ⟨0, rfl, rfl, rfl⟩) hat ⟨by simp, rfl, fun j q => by omega⟩ kk
theorem ld_f0 {z : UInt32} {t : List (Option AV)} (hat : At Y pc (.fload_n 0) 1 pc') (kk : AW K Y h Q pc' (some (vf z) :: t) (vf z :: st) N g) : AW K Y h Q pc (some (vf z) :: t) st N g := g_fld (i := 0) (Or.inr ⟨0, rfl, rfl, rfl⟩) hat rfl kk
theorem inc_0 {z w : Int} {t : List (Option AV)} (hn : 0 < Y.2.2.1) (hat : At Y pc (.iinc 0 w) 3 pc') (kk : AW K Y h Q pc' (some (vi (z + w)) :: t) st N g) : AW K Y h Q pc (some (vi z) :: t) st N g := by
  refine g_iinc (i := 0) hn hat rfl ⟨by simp, rfl, fun j q => by omega⟩ kk
theorem fg_0 {x0 : Option AV} {t : List (Option AV)} (kk : AW K Y h Q pc (none :: t) st N g) : AW K Y h Q pc (x0 :: t) st N g := by
  refine AW.forget (fun i v hv => ?_) kk
  by_cases e : i = 0
  · subst e; exact absurd (Option.some.inj hv) (by simp)
  · rcases i with _ | i
    · exact absurd rfl e
    · exact hv
theorem ld_i1 {z : Int} {x0 : Option AV} {t : List (Option AV)} (hat : At Y pc (.iload_n 1) 1 pc') (kk : AW K Y h Q pc' (x0 :: some (vi z) :: t) (vi z :: st) N g) : AW K Y h Q pc (x0 :: some (vi z) :: t) st N g := g_ild (i := 1) (Or.inr ⟨1, rfl, rfl, rfl⟩) hat rfl kk
theorem sv_i1 {z : Int} {x0 x1 : Option AV} {t : List (Option AV)} (hn : 1 < Y.2.2.1) (hx : c1 x0 = true) (hat : At Y pc (.istore_n 1) 1 pc') (kk : AW K Y h Q pc' (x0 :: some (vi z) :: t) st N g) : AW K Y h Q pc (x0 :: x1 :: t) (vi z :: st) N g := by
  refine g_ist (i := 1) hn (Or.inr ⟨1, rfl, rfl, rfl⟩) hat ⟨by simp, rfl, fun j q w hw => by
    have e : j = 0 := by omega
    subst e
    have hw : x0 = some w := Option.some.inj hw
    rw [hw] at hx
    exact beq_iff_eq.mp hx⟩ kk
theorem ld_l1 {z : Int} {x0 : Option AV} {t : List (Option AV)} (hat : At Y pc (.lload_n 1) 1 pc') (kk : AW K Y h Q pc' (x0 :: some (vl z) :: t) (vl z :: st) N g) : AW K Y h Q pc (x0 :: some (vl z) :: t) st N g := g_lld (i := 1) (Or.inr ⟨1, rfl, rfl, rfl⟩) hat rfl kk
theorem sv_l1 {z : Int} {x0 x1 x2 : Option AV} {t : List (Option AV)} (hn : 2 < Y.2.2.1) (hx : c1 x0 = true) (hat : At Y pc (.lstore_n 1) 1 pc') (kk : AW K Y h Q pc' (x0 :: some (vl z) :: none :: t) st N g) : AW K Y h Q pc (x0 :: x1 :: x2 :: t) (vl z :: st) N g := by
  refine g_lst (i := 1) hn (Or.inr ⟨1, rfl, rfl, rfl⟩) hat ⟨by simp, rfl, fun j q w hw => by
    have e : j = 0 := by omega
    subst e
    have hw : x0 = some w := Option.some.inj hw
    rw [hw] at hx
    exact beq_iff_eq.mp hx⟩ kk
theorem ld_a1 {k i : Nat} {x0 : Option AV} {t : List (Option AV)} (hat : At Y pc (.aload_n 1) 1 pc') (kk : AW K Y h Q pc' (x0 :: some (vr k i) :: t) (vr k i :: st) N g) : AW K Y h Q pc (x0 :: some (vr k i) :: t) st N g := g_ald (i := 1) (Or.inr ⟨1, rfl, rfl, rfl⟩) hat rfl kk
theorem sv_a1 {k i : Nat} {x0 x1 : Option AV} {t : List (Option AV)} (hn : 1 < Y.2.2.1) (hx : c1 x0 = true) (hat : At Y pc (.astore_n 1) 1 pc') (kk : AW K Y h Q pc' (x0 :: some (vr k i) :: t) st N g) : AW K Y h Q pc (x0 :: x1 :: t) (vr k i :: st) N g := by
  refine g_ast (i := 1) hn (Or.inr ⟨1, rfl, rfl, rfl⟩) hat ⟨by simp, rfl, fun j q w hw => by
    have e : j = 0 := by omega
    subst e
    have hw : x0 = some w := Option.some.inj hw
    rw [hw] at hx
    exact beq_iff_eq.mp hx⟩ kk
theorem ld_d1 {z : UInt64} {x0 : Option AV} {t : List (Option AV)} (hat : At Y pc (.dload_n 1) 1 pc') (kk : AW K Y h Q pc' (x0 :: some (vd z) :: t) (vd z :: st) N g) : AW K Y h Q pc (x0 :: some (vd z) :: t) st N g := g_dld (i := 1) (Or.inr ⟨1, rfl, rfl, rfl⟩) hat rfl kk
theorem sv_d1 {z : UInt64} {x0 x1 x2 : Option AV} {t : List (Option AV)} (hn : 2 < Y.2.2.1) (hx : c1 x0 = true) (hat : At Y pc (.dstore_n 1) 1 pc') (kk : AW K Y h Q pc' (x0 :: some (vd z) :: none :: t) st N g) : AW K Y h Q pc (x0 :: x1 :: x2 :: t) (vd z :: st) N g := by
  refine g_dst (i := 1) hn (Or.inr ⟨1, rfl, rfl, rfl⟩) hat ⟨by simp, rfl, fun j q w hw => by
    have e : j = 0 := by omega
    subst e
    have hw : x0 = some w := Option.some.inj hw
    rw [hw] at hx
    exact beq_iff_eq.mp hx⟩ kk
theorem ld_f1 {z : UInt32} {x0 : Option AV} {t : List (Option AV)} (hat : At Y pc (.fload_n 1) 1 pc') (kk : AW K Y h Q pc' (x0 :: some (vf z) :: t) (vf z :: st) N g) : AW K Y h Q pc (x0 :: some (vf z) :: t) st N g := g_fld (i := 1) (Or.inr ⟨1, rfl, rfl, rfl⟩) hat rfl kk
theorem inc_1 {z w : Int} {x0 : Option AV} {t : List (Option AV)} (hn : 1 < Y.2.2.1) (hx : c1 x0 = true) (hat : At Y pc (.iinc 1 w) 3 pc') (kk : AW K Y h Q pc' (x0 :: some (vi (z + w)) :: t) st N g) : AW K Y h Q pc (x0 :: some (vi z) :: t) st N g := by
  refine g_iinc (i := 1) hn hat rfl ⟨by simp, rfl, fun j q w hw => by
    have e : j = 0 := by omega
    subst e
    have hw : x0 = some w := Option.some.inj hw
    rw [hw] at hx
    exact beq_iff_eq.mp hx⟩ kk
theorem fg_1 {x0 x1 : Option AV} {t : List (Option AV)} (kk : AW K Y h Q pc (x0 :: none :: t) st N g) : AW K Y h Q pc (x0 :: x1 :: t) st N g := by
  refine AW.forget (fun i v hv => ?_) kk
  by_cases e : i = 1
  · subst e; exact absurd (Option.some.inj hv) (by simp)
  · revert e hv
    rcases i with _ | _ | i
    all_goals intro hv e
    all_goals first | exact hv | exact absurd rfl e
theorem ld_i2 {z : Int} {x0 x1 : Option AV} {t : List (Option AV)} (hat : At Y pc (.iload_n 2) 1 pc') (kk : AW K Y h Q pc' (x0 :: x1 :: some (vi z) :: t) (vi z :: st) N g) : AW K Y h Q pc (x0 :: x1 :: some (vi z) :: t) st N g := g_ild (i := 2) (Or.inr ⟨2, rfl, rfl, rfl⟩) hat rfl kk
theorem sv_i2 {z : Int} {x0 x1 x2 : Option AV} {t : List (Option AV)} (hn : 2 < Y.2.2.1) (hx : c1 x1 = true) (hat : At Y pc (.istore_n 2) 1 pc') (kk : AW K Y h Q pc' (x0 :: x1 :: some (vi z) :: t) st N g) : AW K Y h Q pc (x0 :: x1 :: x2 :: t) (vi z :: st) N g := by
  refine g_ist (i := 2) hn (Or.inr ⟨2, rfl, rfl, rfl⟩) hat ⟨by simp, rfl, fun j q w hw => by
    have e : j = 1 := by omega
    subst e
    have hw : x1 = some w := Option.some.inj hw
    rw [hw] at hx
    exact beq_iff_eq.mp hx⟩ kk
theorem ld_l2 {z : Int} {x0 x1 : Option AV} {t : List (Option AV)} (hat : At Y pc (.lload_n 2) 1 pc') (kk : AW K Y h Q pc' (x0 :: x1 :: some (vl z) :: t) (vl z :: st) N g) : AW K Y h Q pc (x0 :: x1 :: some (vl z) :: t) st N g := g_lld (i := 2) (Or.inr ⟨2, rfl, rfl, rfl⟩) hat rfl kk
theorem sv_l2 {z : Int} {x0 x1 x2 x3 : Option AV} {t : List (Option AV)} (hn : 3 < Y.2.2.1) (hx : c1 x1 = true) (hat : At Y pc (.lstore_n 2) 1 pc') (kk : AW K Y h Q pc' (x0 :: x1 :: some (vl z) :: none :: t) st N g) : AW K Y h Q pc (x0 :: x1 :: x2 :: x3 :: t) (vl z :: st) N g := by
  refine g_lst (i := 2) hn (Or.inr ⟨2, rfl, rfl, rfl⟩) hat ⟨by simp, rfl, fun j q w hw => by
    have e : j = 1 := by omega
    subst e
    have hw : x1 = some w := Option.some.inj hw
    rw [hw] at hx
    exact beq_iff_eq.mp hx⟩ kk
theorem ld_a2 {k i : Nat} {x0 x1 : Option AV} {t : List (Option AV)} (hat : At Y pc (.aload_n 2) 1 pc') (kk : AW K Y h Q pc' (x0 :: x1 :: some (vr k i) :: t) (vr k i :: st) N g) : AW K Y h Q pc (x0 :: x1 :: some (vr k i) :: t) st N g := g_ald (i := 2) (Or.inr ⟨2, rfl, rfl, rfl⟩) hat rfl kk
theorem sv_a2 {k i : Nat} {x0 x1 x2 : Option AV} {t : List (Option AV)} (hn : 2 < Y.2.2.1) (hx : c1 x1 = true) (hat : At Y pc (.astore_n 2) 1 pc') (kk : AW K Y h Q pc' (x0 :: x1 :: some (vr k i) :: t) st N g) : AW K Y h Q pc (x0 :: x1 :: x2 :: t) (vr k i :: st) N g := by
  refine g_ast (i := 2) hn (Or.inr ⟨2, rfl, rfl, rfl⟩) hat ⟨by simp, rfl, fun j q w hw => by
    have e : j = 1 := by omega
    subst e
    have hw : x1 = some w := Option.some.inj hw
    rw [hw] at hx
    exact beq_iff_eq.mp hx⟩ kk
theorem ld_d2 {z : UInt64} {x0 x1 : Option AV} {t : List (Option AV)} (hat : At Y pc (.dload_n 2) 1 pc') (kk : AW K Y h Q pc' (x0 :: x1 :: some (vd z) :: t) (vd z :: st) N g) : AW K Y h Q pc (x0 :: x1 :: some (vd z) :: t) st N g := g_dld (i := 2) (Or.inr ⟨2, rfl, rfl, rfl⟩) hat rfl kk
theorem sv_d2 {z : UInt64} {x0 x1 x2 x3 : Option AV} {t : List (Option AV)} (hn : 3 < Y.2.2.1) (hx : c1 x1 = true) (hat : At Y pc (.dstore_n 2) 1 pc') (kk : AW K Y h Q pc' (x0 :: x1 :: some (vd z) :: none :: t) st N g) : AW K Y h Q pc (x0 :: x1 :: x2 :: x3 :: t) (vd z :: st) N g := by
  refine g_dst (i := 2) hn (Or.inr ⟨2, rfl, rfl, rfl⟩) hat ⟨by simp, rfl, fun j q w hw => by
    have e : j = 1 := by omega
    subst e
    have hw : x1 = some w := Option.some.inj hw
    rw [hw] at hx
    exact beq_iff_eq.mp hx⟩ kk
theorem ld_f2 {z : UInt32} {x0 x1 : Option AV} {t : List (Option AV)} (hat : At Y pc (.fload_n 2) 1 pc') (kk : AW K Y h Q pc' (x0 :: x1 :: some (vf z) :: t) (vf z :: st) N g) : AW K Y h Q pc (x0 :: x1 :: some (vf z) :: t) st N g := g_fld (i := 2) (Or.inr ⟨2, rfl, rfl, rfl⟩) hat rfl kk
theorem inc_2 {z w : Int} {x0 x1 : Option AV} {t : List (Option AV)} (hn : 2 < Y.2.2.1) (hx : c1 x1 = true) (hat : At Y pc (.iinc 2 w) 3 pc') (kk : AW K Y h Q pc' (x0 :: x1 :: some (vi (z + w)) :: t) st N g) : AW K Y h Q pc (x0 :: x1 :: some (vi z) :: t) st N g := by
  refine g_iinc (i := 2) hn hat rfl ⟨by simp, rfl, fun j q w hw => by
    have e : j = 1 := by omega
    subst e
    have hw : x1 = some w := Option.some.inj hw
    rw [hw] at hx
    exact beq_iff_eq.mp hx⟩ kk
theorem fg_2 {x0 x1 x2 : Option AV} {t : List (Option AV)} (kk : AW K Y h Q pc (x0 :: x1 :: none :: t) st N g) : AW K Y h Q pc (x0 :: x1 :: x2 :: t) st N g := by
  refine AW.forget (fun i v hv => ?_) kk
  by_cases e : i = 2
  · subst e; exact absurd (Option.some.inj hv) (by simp)
  · revert e hv
    rcases i with _ | _ | _ | i
    all_goals intro hv e
    all_goals first | exact hv | exact absurd rfl e
theorem ld_i3 {z : Int} {x0 x1 x2 : Option AV} {t : List (Option AV)} (hat : At Y pc (.iload_n 3) 1 pc') (kk : AW K Y h Q pc' (x0 :: x1 :: x2 :: some (vi z) :: t) (vi z :: st) N g) : AW K Y h Q pc (x0 :: x1 :: x2 :: some (vi z) :: t) st N g := g_ild (i := 3) (Or.inr ⟨3, rfl, rfl, rfl⟩) hat rfl kk
theorem sv_i3 {z : Int} {x0 x1 x2 x3 : Option AV} {t : List (Option AV)} (hn : 3 < Y.2.2.1) (hx : c1 x2 = true) (hat : At Y pc (.istore_n 3) 1 pc') (kk : AW K Y h Q pc' (x0 :: x1 :: x2 :: some (vi z) :: t) st N g) : AW K Y h Q pc (x0 :: x1 :: x2 :: x3 :: t) (vi z :: st) N g := by
  refine g_ist (i := 3) hn (Or.inr ⟨3, rfl, rfl, rfl⟩) hat ⟨by simp, rfl, fun j q w hw => by
    have e : j = 2 := by omega
    subst e
    have hw : x2 = some w := Option.some.inj hw
    rw [hw] at hx
    exact beq_iff_eq.mp hx⟩ kk
theorem ld_l3 {z : Int} {x0 x1 x2 : Option AV} {t : List (Option AV)} (hat : At Y pc (.lload_n 3) 1 pc') (kk : AW K Y h Q pc' (x0 :: x1 :: x2 :: some (vl z) :: t) (vl z :: st) N g) : AW K Y h Q pc (x0 :: x1 :: x2 :: some (vl z) :: t) st N g := g_lld (i := 3) (Or.inr ⟨3, rfl, rfl, rfl⟩) hat rfl kk
theorem sv_l3 {z : Int} {x0 x1 x2 x3 x4 : Option AV} {t : List (Option AV)} (hn : 4 < Y.2.2.1) (hx : c1 x2 = true) (hat : At Y pc (.lstore_n 3) 1 pc') (kk : AW K Y h Q pc' (x0 :: x1 :: x2 :: some (vl z) :: none :: t) st N g) : AW K Y h Q pc (x0 :: x1 :: x2 :: x3 :: x4 :: t) (vl z :: st) N g := by
  refine g_lst (i := 3) hn (Or.inr ⟨3, rfl, rfl, rfl⟩) hat ⟨by simp, rfl, fun j q w hw => by
    have e : j = 2 := by omega
    subst e
    have hw : x2 = some w := Option.some.inj hw
    rw [hw] at hx
    exact beq_iff_eq.mp hx⟩ kk
theorem ld_a3 {k i : Nat} {x0 x1 x2 : Option AV} {t : List (Option AV)} (hat : At Y pc (.aload_n 3) 1 pc') (kk : AW K Y h Q pc' (x0 :: x1 :: x2 :: some (vr k i) :: t) (vr k i :: st) N g) : AW K Y h Q pc (x0 :: x1 :: x2 :: some (vr k i) :: t) st N g := g_ald (i := 3) (Or.inr ⟨3, rfl, rfl, rfl⟩) hat rfl kk
theorem sv_a3 {k i : Nat} {x0 x1 x2 x3 : Option AV} {t : List (Option AV)} (hn : 3 < Y.2.2.1) (hx : c1 x2 = true) (hat : At Y pc (.astore_n 3) 1 pc') (kk : AW K Y h Q pc' (x0 :: x1 :: x2 :: some (vr k i) :: t) st N g) : AW K Y h Q pc (x0 :: x1 :: x2 :: x3 :: t) (vr k i :: st) N g := by
  refine g_ast (i := 3) hn (Or.inr ⟨3, rfl, rfl, rfl⟩) hat ⟨by simp, rfl, fun j q w hw => by
    have e : j = 2 := by omega
    subst e
    have hw : x2 = some w := Option.some.inj hw
    rw [hw] at hx
    exact beq_iff_eq.mp hx⟩ kk
theorem ld_d3 {z : UInt64} {x0 x1 x2 : Option AV} {t : List (Option AV)} (hat : At Y pc (.dload_n 3) 1 pc') (kk : AW K Y h Q pc' (x0 :: x1 :: x2 :: some (vd z) :: t) (vd z :: st) N g) : AW K Y h Q pc (x0 :: x1 :: x2 :: some (vd z) :: t) st N g := g_dld (i := 3) (Or.inr ⟨3, rfl, rfl, rfl⟩) hat rfl kk
theorem sv_d3 {z : UInt64} {x0 x1 x2 x3 x4 : Option AV} {t : List (Option AV)} (hn : 4 < Y.2.2.1) (hx : c1 x2 = true) (hat : At Y pc (.dstore_n 3) 1 pc') (kk : AW K Y h Q pc' (x0 :: x1 :: x2 :: some (vd z) :: none :: t) st N g) : AW K Y h Q pc (x0 :: x1 :: x2 :: x3 :: x4 :: t) (vd z :: st) N g := by
  refine g_dst (i := 3) hn (Or.inr ⟨3, rfl, rfl, rfl⟩) hat ⟨by simp, rfl, fun j q w hw => by
    have e : j = 2 := by omega
    subst e
    have hw : x2 = some w := Option.some.inj hw
    rw [hw] at hx
    exact beq_iff_eq.mp hx⟩ kk
theorem ld_f3 {z : UInt32} {x0 x1 x2 : Option AV} {t : List (Option AV)} (hat : At Y pc (.fload_n 3) 1 pc') (kk : AW K Y h Q pc' (x0 :: x1 :: x2 :: some (vf z) :: t) (vf z :: st) N g) : AW K Y h Q pc (x0 :: x1 :: x2 :: some (vf z) :: t) st N g := g_fld (i := 3) (Or.inr ⟨3, rfl, rfl, rfl⟩) hat rfl kk
theorem inc_3 {z w : Int} {x0 x1 x2 : Option AV} {t : List (Option AV)} (hn : 3 < Y.2.2.1) (hx : c1 x2 = true) (hat : At Y pc (.iinc 3 w) 3 pc') (kk : AW K Y h Q pc' (x0 :: x1 :: x2 :: some (vi (z + w)) :: t) st N g) : AW K Y h Q pc (x0 :: x1 :: x2 :: some (vi z) :: t) st N g := by
  refine g_iinc (i := 3) hn hat rfl ⟨by simp, rfl, fun j q w hw => by
    have e : j = 2 := by omega
    subst e
    have hw : x2 = some w := Option.some.inj hw
    rw [hw] at hx
    exact beq_iff_eq.mp hx⟩ kk
theorem fg_3 {x0 x1 x2 x3 : Option AV} {t : List (Option AV)} (kk : AW K Y h Q pc (x0 :: x1 :: x2 :: none :: t) st N g) : AW K Y h Q pc (x0 :: x1 :: x2 :: x3 :: t) st N g := by
  refine AW.forget (fun i v hv => ?_) kk
  by_cases e : i = 3
  · subst e; exact absurd (Option.some.inj hv) (by simp)
  · revert e hv
    rcases i with _ | _ | _ | _ | i
    all_goals intro hv e
    all_goals first | exact hv | exact absurd rfl e
theorem ld_i4 {z : Int} {x0 x1 x2 x3 : Option AV} {t : List (Option AV)} (hat : At Y pc (.iload 4) 2 pc') (kk : AW K Y h Q pc' (x0 :: x1 :: x2 :: x3 :: some (vi z) :: t) (vi z :: st) N g) : AW K Y h Q pc (x0 :: x1 :: x2 :: x3 :: some (vi z) :: t) st N g := g_ild (i := 4) (Or.inl ⟨rfl, rfl⟩) hat rfl kk
theorem sv_i4 {z : Int} {x0 x1 x2 x3 x4 : Option AV} {t : List (Option AV)} (hn : 4 < Y.2.2.1) (hx : c1 x3 = true) (hat : At Y pc (.istore 4) 2 pc') (kk : AW K Y h Q pc' (x0 :: x1 :: x2 :: x3 :: some (vi z) :: t) st N g) : AW K Y h Q pc (x0 :: x1 :: x2 :: x3 :: x4 :: t) (vi z :: st) N g := by
  refine g_ist (i := 4) hn (Or.inl ⟨rfl, rfl⟩) hat ⟨by simp, rfl, fun j q w hw => by
    have e : j = 3 := by omega
    subst e
    have hw : x3 = some w := Option.some.inj hw
    rw [hw] at hx
    exact beq_iff_eq.mp hx⟩ kk
theorem ld_l4 {z : Int} {x0 x1 x2 x3 : Option AV} {t : List (Option AV)} (hat : At Y pc (.lload 4) 2 pc') (kk : AW K Y h Q pc' (x0 :: x1 :: x2 :: x3 :: some (vl z) :: t) (vl z :: st) N g) : AW K Y h Q pc (x0 :: x1 :: x2 :: x3 :: some (vl z) :: t) st N g := g_lld (i := 4) (Or.inl ⟨rfl, rfl⟩) hat rfl kk
theorem sv_l4 {z : Int} {x0 x1 x2 x3 x4 x5 : Option AV} {t : List (Option AV)} (hn : 5 < Y.2.2.1) (hx : c1 x3 = true) (hat : At Y pc (.lstore 4) 2 pc') (kk : AW K Y h Q pc' (x0 :: x1 :: x2 :: x3 :: some (vl z) :: none :: t) st N g) : AW K Y h Q pc (x0 :: x1 :: x2 :: x3 :: x4 :: x5 :: t) (vl z :: st) N g := by
  refine g_lst (i := 4) hn (Or.inl ⟨rfl, rfl⟩) hat ⟨by simp, rfl, fun j q w hw => by
    have e : j = 3 := by omega
    subst e
    have hw : x3 = some w := Option.some.inj hw
    rw [hw] at hx
    exact beq_iff_eq.mp hx⟩ kk
theorem ld_a4 {k i : Nat} {x0 x1 x2 x3 : Option AV} {t : List (Option AV)} (hat : At Y pc (.aload 4) 2 pc') (kk : AW K Y h Q pc' (x0 :: x1 :: x2 :: x3 :: some (vr k i) :: t) (vr k i :: st) N g) : AW K Y h Q pc (x0 :: x1 :: x2 :: x3 :: some (vr k i) :: t) st N g := g_ald (i := 4) (Or.inl ⟨rfl, rfl⟩) hat rfl kk
theorem sv_a4 {k i : Nat} {x0 x1 x2 x3 x4 : Option AV} {t : List (Option AV)} (hn : 4 < Y.2.2.1) (hx : c1 x3 = true) (hat : At Y pc (.astore 4) 2 pc') (kk : AW K Y h Q pc' (x0 :: x1 :: x2 :: x3 :: some (vr k i) :: t) st N g) : AW K Y h Q pc (x0 :: x1 :: x2 :: x3 :: x4 :: t) (vr k i :: st) N g := by
  refine g_ast (i := 4) hn (Or.inl ⟨rfl, rfl⟩) hat ⟨by simp, rfl, fun j q w hw => by
    have e : j = 3 := by omega
    subst e
    have hw : x3 = some w := Option.some.inj hw
    rw [hw] at hx
    exact beq_iff_eq.mp hx⟩ kk
theorem ld_d4 {z : UInt64} {x0 x1 x2 x3 : Option AV} {t : List (Option AV)} (hat : At Y pc (.dload 4) 2 pc') (kk : AW K Y h Q pc' (x0 :: x1 :: x2 :: x3 :: some (vd z) :: t) (vd z :: st) N g) : AW K Y h Q pc (x0 :: x1 :: x2 :: x3 :: some (vd z) :: t) st N g := g_dld (i := 4) (Or.inl ⟨rfl, rfl⟩) hat rfl kk
theorem sv_d4 {z : UInt64} {x0 x1 x2 x3 x4 x5 : Option AV} {t : List (Option AV)} (hn : 5 < Y.2.2.1) (hx : c1 x3 = true) (hat : At Y pc (.dstore 4) 2 pc') (kk : AW K Y h Q pc' (x0 :: x1 :: x2 :: x3 :: some (vd z) :: none :: t) st N g) : AW K Y h Q pc (x0 :: x1 :: x2 :: x3 :: x4 :: x5 :: t) (vd z :: st) N g := by
  refine g_dst (i := 4) hn (Or.inl ⟨rfl, rfl⟩) hat ⟨by simp, rfl, fun j q w hw => by
    have e : j = 3 := by omega
    subst e
    have hw : x3 = some w := Option.some.inj hw
    rw [hw] at hx
    exact beq_iff_eq.mp hx⟩ kk
theorem ld_f4 {z : UInt32} {x0 x1 x2 x3 : Option AV} {t : List (Option AV)} (hat : At Y pc (.fload 4) 2 pc') (kk : AW K Y h Q pc' (x0 :: x1 :: x2 :: x3 :: some (vf z) :: t) (vf z :: st) N g) : AW K Y h Q pc (x0 :: x1 :: x2 :: x3 :: some (vf z) :: t) st N g := g_fld (i := 4) (Or.inl ⟨rfl, rfl⟩) hat rfl kk
theorem inc_4 {z w : Int} {x0 x1 x2 x3 : Option AV} {t : List (Option AV)} (hn : 4 < Y.2.2.1) (hx : c1 x3 = true) (hat : At Y pc (.iinc 4 w) 3 pc') (kk : AW K Y h Q pc' (x0 :: x1 :: x2 :: x3 :: some (vi (z + w)) :: t) st N g) : AW K Y h Q pc (x0 :: x1 :: x2 :: x3 :: some (vi z) :: t) st N g := by
  refine g_iinc (i := 4) hn hat rfl ⟨by simp, rfl, fun j q w hw => by
    have e : j = 3 := by omega
    subst e
    have hw : x3 = some w := Option.some.inj hw
    rw [hw] at hx
    exact beq_iff_eq.mp hx⟩ kk
theorem fg_4 {x0 x1 x2 x3 x4 : Option AV} {t : List (Option AV)} (kk : AW K Y h Q pc (x0 :: x1 :: x2 :: x3 :: none :: t) st N g) : AW K Y h Q pc (x0 :: x1 :: x2 :: x3 :: x4 :: t) st N g := by
  refine AW.forget (fun i v hv => ?_) kk
  by_cases e : i = 4
  · subst e; exact absurd (Option.some.inj hv) (by simp)
  · revert e hv
    rcases i with _ | _ | _ | _ | _ | i
    all_goals intro hv e
    all_goals first | exact hv | exact absurd rfl e
theorem ld_i5 {z : Int} {x0 x1 x2 x3 x4 : Option AV} {t : List (Option AV)} (hat : At Y pc (.iload 5) 2 pc') (kk : AW K Y h Q pc' (x0 :: x1 :: x2 :: x3 :: x4 :: some (vi z) :: t) (vi z :: st) N g) : AW K Y h Q pc (x0 :: x1 :: x2 :: x3 :: x4 :: some (vi z) :: t) st N g := g_ild (i := 5) (Or.inl ⟨rfl, rfl⟩) hat rfl kk
theorem sv_i5 {z : Int} {x0 x1 x2 x3 x4 x5 : Option AV} {t : List (Option AV)} (hn : 5 < Y.2.2.1) (hx : c1 x4 = true) (hat : At Y pc (.istore 5) 2 pc') (kk : AW K Y h Q pc' (x0 :: x1 :: x2 :: x3 :: x4 :: some (vi z) :: t) st N g) : AW K Y h Q pc (x0 :: x1 :: x2 :: x3 :: x4 :: x5 :: t) (vi z :: st) N g := by
  refine g_ist (i := 5) hn (Or.inl ⟨rfl, rfl⟩) hat ⟨by simp, rfl, fun j q w hw => by
    have e : j = 4 := by omega
    subst e
    have hw : x4 = some w := Option.some.inj hw
    rw [hw] at hx
    exact beq_iff_eq.mp hx⟩ kk
theorem ld_l5 {z : Int} {x0 x1 x2 x3 x4 : Option AV} {t : List (Option AV)} (hat : At Y pc (.lload 5) 2 pc') (kk : AW K Y h Q pc' (x0 :: x1 :: x2 :: x3 :: x4 :: some (vl z) :: t) (vl z :: st) N g) : AW K Y h Q pc (x0 :: x1 :: x2 :: x3 :: x4 :: some (vl z) :: t) st N g := g_lld (i := 5) (Or.inl ⟨rfl, rfl⟩) hat rfl kk
theorem sv_l5 {z : Int} {x0 x1 x2 x3 x4 x5 x6 : Option AV} {t : List (Option AV)} (hn : 6 < Y.2.2.1) (hx : c1 x4 = true) (hat : At Y pc (.lstore 5) 2 pc') (kk : AW K Y h Q pc' (x0 :: x1 :: x2 :: x3 :: x4 :: some (vl z) :: none :: t) st N g) : AW K Y h Q pc (x0 :: x1 :: x2 :: x3 :: x4 :: x5 :: x6 :: t) (vl z :: st) N g := by
  refine g_lst (i := 5) hn (Or.inl ⟨rfl, rfl⟩) hat ⟨by simp, rfl, fun j q w hw => by
    have e : j = 4 := by omega
    subst e
    have hw : x4 = some w := Option.some.inj hw
    rw [hw] at hx
    exact beq_iff_eq.mp hx⟩ kk
theorem ld_a5 {k i : Nat} {x0 x1 x2 x3 x4 : Option AV} {t : List (Option AV)} (hat : At Y pc (.aload 5) 2 pc') (kk : AW K Y h Q pc' (x0 :: x1 :: x2 :: x3 :: x4 :: some (vr k i) :: t) (vr k i :: st) N g) : AW K Y h Q pc (x0 :: x1 :: x2 :: x3 :: x4 :: some (vr k i) :: t) st N g := g_ald (i := 5) (Or.inl ⟨rfl, rfl⟩) hat rfl kk
theorem sv_a5 {k i : Nat} {x0 x1 x2 x3 x4 x5 : Option AV} {t : List (Option AV)} (hn : 5 < Y.2.2.1) (hx : c1 x4 = true) (hat : At Y pc (.astore 5) 2 pc') (kk : AW K Y h Q pc' (x0 :: x1 :: x2 :: x3 :: x4 :: some (vr k i) :: t) st N g) : AW K Y h Q pc (x0 :: x1 :: x2 :: x3 :: x4 :: x5 :: t) (vr k i :: st) N g := by
  refine g_ast (i := 5) hn (Or.inl ⟨rfl, rfl⟩) hat ⟨by simp, rfl, fun j q w hw => by
    have e : j = 4 := by omega
    subst e
    have hw : x4 = some w := Option.some.inj hw
    rw [hw] at hx
    exact beq_iff_eq.mp hx⟩ kk
theorem inc_5 {z w : Int} {x0 x1 x2 x3 x4 : Option AV} {t : List (Option AV)} (hn : 5 < Y.2.2.1) (hx : c1 x4 = true) (hat : At Y pc (.iinc 5 w) 3 pc') (kk : AW K Y h Q pc' (x0 :: x1 :: x2 :: x3 :: x4 :: some (vi (z + w)) :: t) st N g) : AW K Y h Q pc (x0 :: x1 :: x2 :: x3 :: x4 :: some (vi z) :: t) st N g := by
  refine g_iinc (i := 5) hn hat rfl ⟨by simp, rfl, fun j q w hw => by
    have e : j = 4 := by omega
    subst e
    have hw : x4 = some w := Option.some.inj hw
    rw [hw] at hx
    exact beq_iff_eq.mp hx⟩ kk
theorem fg_5 {x0 x1 x2 x3 x4 x5 : Option AV} {t : List (Option AV)} (kk : AW K Y h Q pc (x0 :: x1 :: x2 :: x3 :: x4 :: none :: t) st N g) : AW K Y h Q pc (x0 :: x1 :: x2 :: x3 :: x4 :: x5 :: t) st N g := by
  refine AW.forget (fun i v hv => ?_) kk
  by_cases e : i = 5
  · subst e; exact absurd (Option.some.inj hv) (by simp)
  · revert e hv
    rcases i with _ | _ | _ | _ | _ | _ | i
    all_goals intro hv e
    all_goals first | exact hv | exact absurd rfl e
theorem ld_i6 {z : Int} {x0 x1 x2 x3 x4 x5 : Option AV} {t : List (Option AV)} (hat : At Y pc (.iload 6) 2 pc') (kk : AW K Y h Q pc' (x0 :: x1 :: x2 :: x3 :: x4 :: x5 :: some (vi z) :: t) (vi z :: st) N g) : AW K Y h Q pc (x0 :: x1 :: x2 :: x3 :: x4 :: x5 :: some (vi z) :: t) st N g := g_ild (i := 6) (Or.inl ⟨rfl, rfl⟩) hat rfl kk
theorem sv_i6 {z : Int} {x0 x1 x2 x3 x4 x5 x6 : Option AV} {t : List (Option AV)} (hn : 6 < Y.2.2.1) (hx : c1 x5 = true) (hat : At Y pc (.istore 6) 2 pc') (kk : AW K Y h Q pc' (x0 :: x1 :: x2 :: x3 :: x4 :: x5 :: some (vi z) :: t) st N g) : AW K Y h Q pc (x0 :: x1 :: x2 :: x3 :: x4 :: x5 :: x6 :: t) (vi z :: st) N g := by
  refine g_ist (i := 6) hn (Or.inl ⟨rfl, rfl⟩) hat ⟨by simp, rfl, fun j q w hw => by
    have e : j = 5 := by omega
    subst e
    have hw : x5 = some w := Option.some.inj hw
    rw [hw] at hx
    exact beq_iff_eq.mp hx⟩ kk
theorem ld_l6 {z : Int} {x0 x1 x2 x3 x4 x5 : Option AV} {t : List (Option AV)} (hat : At Y pc (.lload 6) 2 pc') (kk : AW K Y h Q pc' (x0 :: x1 :: x2 :: x3 :: x4 :: x5 :: some (vl z) :: t) (vl z :: st) N g) : AW K Y h Q pc (x0 :: x1 :: x2 :: x3 :: x4 :: x5 :: some (vl z) :: t) st N g := g_lld (i := 6) (Or.inl ⟨rfl, rfl⟩) hat rfl kk
theorem sv_l6 {z : Int} {x0 x1 x2 x3 x4 x5 x6 x7 : Option AV} {t : List (Option AV)} (hn : 7 < Y.2.2.1) (hx : c1 x5 = true) (hat : At Y pc (.lstore 6) 2 pc') (kk : AW K Y h Q pc' (x0 :: x1 :: x2 :: x3 :: x4 :: x5 :: some (vl z) :: none :: t) st N g) : AW K Y h Q pc (x0 :: x1 :: x2 :: x3 :: x4 :: x5 :: x6 :: x7 :: t) (vl z :: st) N g := by
  refine g_lst (i := 6) hn (Or.inl ⟨rfl, rfl⟩) hat ⟨by simp, rfl, fun j q w hw => by
    have e : j = 5 := by omega
    subst e
    have hw : x5 = some w := Option.some.inj hw
    rw [hw] at hx
    exact beq_iff_eq.mp hx⟩ kk
theorem ld_a6 {k i : Nat} {x0 x1 x2 x3 x4 x5 : Option AV} {t : List (Option AV)} (hat : At Y pc (.aload 6) 2 pc') (kk : AW K Y h Q pc' (x0 :: x1 :: x2 :: x3 :: x4 :: x5 :: some (vr k i) :: t) (vr k i :: st) N g) : AW K Y h Q pc (x0 :: x1 :: x2 :: x3 :: x4 :: x5 :: some (vr k i) :: t) st N g := g_ald (i := 6) (Or.inl ⟨rfl, rfl⟩) hat rfl kk
theorem sv_a6 {k i : Nat} {x0 x1 x2 x3 x4 x5 x6 : Option AV} {t : List (Option AV)} (hn : 6 < Y.2.2.1) (hx : c1 x5 = true) (hat : At Y pc (.astore 6) 2 pc') (kk : AW K Y h Q pc' (x0 :: x1 :: x2 :: x3 :: x4 :: x5 :: some (vr k i) :: t) st N g) : AW K Y h Q pc (x0 :: x1 :: x2 :: x3 :: x4 :: x5 :: x6 :: t) (vr k i :: st) N g := by
  refine g_ast (i := 6) hn (Or.inl ⟨rfl, rfl⟩) hat ⟨by simp, rfl, fun j q w hw => by
    have e : j = 5 := by omega
    subst e
    have hw : x5 = some w := Option.some.inj hw
    rw [hw] at hx
    exact beq_iff_eq.mp hx⟩ kk
theorem inc_6 {z w : Int} {x0 x1 x2 x3 x4 x5 : Option AV} {t : List (Option AV)} (hn : 6 < Y.2.2.1) (hx : c1 x5 = true) (hat : At Y pc (.iinc 6 w) 3 pc') (kk : AW K Y h Q pc' (x0 :: x1 :: x2 :: x3 :: x4 :: x5 :: some (vi (z + w)) :: t) st N g) : AW K Y h Q pc (x0 :: x1 :: x2 :: x3 :: x4 :: x5 :: some (vi z) :: t) st N g := by
  refine g_iinc (i := 6) hn hat rfl ⟨by simp, rfl, fun j q w hw => by
    have e : j = 5 := by omega
    subst e
    have hw : x5 = some w := Option.some.inj hw
    rw [hw] at hx
    exact beq_iff_eq.mp hx⟩ kk
theorem fg_6 {x0 x1 x2 x3 x4 x5 x6 : Option AV} {t : List (Option AV)} (kk : AW K Y h Q pc (x0 :: x1 :: x2 :: x3 :: x4 :: x5 :: none :: t) st N g) : AW K Y h Q pc (x0 :: x1 :: x2 :: x3 :: x4 :: x5 :: x6 :: t) st N g := by
  refine AW.forget (fun i v hv => ?_) kk
  by_cases e : i = 6
  · subst e; exact absurd (Option.some.inj hv) (by simp)
  · revert e hv
    rcases i with _ | _ | _ | _ | _ | _ | _ | i
    all_goals intro hv e
    all_goals first | exact hv | exact absurd rfl e
theorem ld_i7 {z : Int} {x0 x1 x2 x3 x4 x5 x6 : Option AV} {t : List (Option AV)} (hat : At Y pc (.iload 7) 2 pc') (kk : AW K Y h Q pc' (x0 :: x1 :: x2 :: x3 :: x4 :: x5 :: x6 :: some (vi z) :: t) (vi z :: st) N g) : AW K Y h Q pc (x0 :: x1 :: x2 :: x3 :: x4 :: x5 :: x6 :: some (vi z) :: t) st N g := g_ild (i := 7) (Or.inl ⟨rfl, rfl⟩) hat rfl kk
theorem sv_i7 {z : Int} {x0 x1 x2 x3 x4 x5 x6 x7 : Option AV} {t : List (Option AV)} (hn : 7 < Y.2.2.1) (hx : c1 x6 = true) (hat : At Y pc (.istore 7) 2 pc') (kk : AW K Y h Q pc' (x0 :: x1 :: x2 :: x3 :: x4 :: x5 :: x6 :: some (vi z) :: t) st N g) : AW K Y h Q pc (x0 :: x1 :: x2 :: x3 :: x4 :: x5 :: x6 :: x7 :: t) (vi z :: st) N g := by
  refine g_ist (i := 7) hn (Or.inl ⟨rfl, rfl⟩) hat ⟨by simp, rfl, fun j q w hw => by
    have e : j = 6 := by omega
    subst e
    have hw : x6 = some w := Option.some.inj hw
    rw [hw] at hx
    exact beq_iff_eq.mp hx⟩ kk
theorem ld_l7 {z : Int} {x0 x1 x2 x3 x4 x5 x6 : Option AV} {t : List (Option AV)} (hat : At Y pc (.lload 7) 2 pc') (kk : AW K Y h Q pc' (x0 :: x1 :: x2 :: x3 :: x4 :: x5 :: x6 :: some (vl z) :: t) (vl z :: st) N g) : AW K Y h Q pc (x0 :: x1 :: x2 :: x3 :: x4 :: x5 :: x6 :: some (vl z) :: t) st N g := g_lld (i := 7) (Or.inl ⟨rfl, rfl⟩) hat rfl kk
theorem sv_l7 {z : Int} {x0 x1 x2 x3 x4 x5 x6 x7 x8 : Option AV} {t : List (Option AV)} (hn : 8 < Y.2.2.1) (hx : c1 x6 = true) (hat : At Y pc (.lstore 7) 2 pc') (kk : AW K Y h Q pc' (x0 :: x1 :: x2 :: x3 :: x4 :: x5 :: x6 :: some (vl z) :: none :: t) st N g) : AW K Y h Q pc (x0 :: x1 :: x2 :: x3 :: x4 :: x5 :: x6 :: x7 :: x8 :: t) (vl z :: st) N g := by
  refine g_lst (i := 7) hn (Or.inl ⟨rfl, rfl⟩) hat ⟨by simp, rfl, fun j q w hw => by
    have e : j = 6 := by omega
    subst e
    have hw : x6 = some w := Option.some.inj hw
    rw [hw] at hx
    exact beq_iff_eq.mp hx⟩ kk
theorem ld_a7 {k i : Nat} {x0 x1 x2 x3 x4 x5 x6 : Option AV} {t : List (Option AV)} (hat : At Y pc (.aload 7) 2 pc') (kk : AW K Y h Q pc' (x0 :: x1 :: x2 :: x3 :: x4 :: x5 :: x6 :: some (vr k i) :: t) (vr k i :: st) N g) : AW K Y h Q pc (x0 :: x1 :: x2 :: x3 :: x4 :: x5 :: x6 :: some (vr k i) :: t) st N g := g_ald (i := 7) (Or.inl ⟨rfl, rfl⟩) hat rfl kk
theorem sv_a7 {k i : Nat} {x0 x1 x2 x3 x4 x5 x6 x7 : Option AV} {t : List (Option AV)} (hn : 7 < Y.2.2.1) (hx : c1 x6 = true) (hat : At Y pc (.astore 7) 2 pc') (kk : AW K Y h Q pc' (x0 :: x1 :: x2 :: x3 :: x4 :: x5 :: x6 :: some (vr k i) :: t) st N g) : AW K Y h Q pc (x0 :: x1 :: x2 :: x3 :: x4 :: x5 :: x6 :: x7 :: t) (vr k i :: st) N g := by
  refine g_ast (i := 7) hn (Or.inl ⟨rfl, rfl⟩) hat ⟨by simp, rfl, fun j q w hw => by
    have e : j = 6 := by omega
    subst e
    have hw : x6 = some w := Option.some.inj hw
    rw [hw] at hx
    exact beq_iff_eq.mp hx⟩ kk
theorem inc_7 {z w : Int} {x0 x1 x2 x3 x4 x5 x6 : Option AV} {t : List (Option AV)} (hn : 7 < Y.2.2.1) (hx : c1 x6 = true) (hat : At Y pc (.iinc 7 w) 3 pc') (kk : AW K Y h Q pc' (x0 :: x1 :: x2 :: x3 :: x4 :: x5 :: x6 :: some (vi (z + w)) :: t) st N g) : AW K Y h Q pc (x0 :: x1 :: x2 :: x3 :: x4 :: x5 :: x6 :: some (vi z) :: t) st N g := by
  refine g_iinc (i := 7) hn hat rfl ⟨by simp, rfl, fun j q w hw => by
    have e : j = 6 := by omega
    subst e
    have hw : x6 = some w := Option.some.inj hw
    rw [hw] at hx
    exact beq_iff_eq.mp hx⟩ kk
theorem fg_7 {x0 x1 x2 x3 x4 x5 x6 x7 : Option AV} {t : List (Option AV)} (kk : AW K Y h Q pc (x0 :: x1 :: x2 :: x3 :: x4 :: x5 :: x6 :: none :: t) st N g) : AW K Y h Q pc (x0 :: x1 :: x2 :: x3 :: x4 :: x5 :: x6 :: x7 :: t) st N g := by
  refine AW.forget (fun i v hv => ?_) kk
  by_cases e : i = 7
  · subst e; exact absurd (Option.some.inj hv) (by simp)
  · revert e hv
    rcases i with _ | _ | _ | _ | _ | _ | _ | _ | i
    all_goals intro hv e
    all_goals first | exact hv | exact absurd rfl e
theorem ld_i8 {z : Int} {x0 x1 x2 x3 x4 x5 x6 x7 : Option AV} {t : List (Option AV)} (hat : At Y pc (.iload 8) 2 pc') (kk : AW K Y h Q pc' (x0 :: x1 :: x2 :: x3 :: x4 :: x5 :: x6 :: x7 :: some (vi z) :: t) (vi z :: st) N g) : AW K Y h Q pc (x0 :: x1 :: x2 :: x3 :: x4 :: x5 :: x6 :: x7 :: some (vi z) :: t) st N g := g_ild (i := 8) (Or.inl ⟨rfl, rfl⟩) hat rfl kk
theorem sv_i8 {z : Int} {x0 x1 x2 x3 x4 x5 x6 x7 x8 : Option AV} {t : List (Option AV)} (hn : 8 < Y.2.2.1) (hx : c1 x7 = true) (hat : At Y pc (.istore 8) 2 pc') (kk : AW K Y h Q pc' (x0 :: x1 :: x2 :: x3 :: x4 :: x5 :: x6 :: x7 :: some (vi z) :: t) st N g) : AW K Y h Q pc (x0 :: x1 :: x2 :: x3 :: x4 :: x5 :: x6 :: x7 :: x8 :: t) (vi z :: st) N g := by
  refine g_ist (i := 8) hn (Or.inl ⟨rfl, rfl⟩) hat ⟨by simp, rfl, fun j q w hw => by
    have e : j = 7 := by omega
    subst e
    have hw : x7 = some w := Option.some.inj hw
    rw [hw] at hx
    exact beq_iff_eq.mp hx⟩ kk
theorem ld_l8 {z : Int} {x0 x1 x2 x3 x4 x5 x6 x7 : Option AV} {t : List (Option AV)} (hat : At Y pc (.lload 8) 2 pc') (kk : AW K Y h Q pc' (x0 :: x1 :: x2 :: x3 :: x4 :: x5 :: x6 :: x7 :: some (vl z) :: t) (vl z :: st) N g) : AW K Y h Q pc (x0 :: x1 :: x2 :: x3 :: x4 :: x5 :: x6 :: x7 :: some (vl z) :: t) st N g := g_lld (i := 8) (Or.inl ⟨rfl, rfl⟩) hat rfl kk
theorem sv_l8 {z : Int} {x0 x1 x2 x3 x4 x5 x6 x7 x8 x9 : Option AV} {t : List (Option AV)} (hn : 9 < Y.2.2.1) (hx : c1 x7 = true) (hat : At Y pc (.lstore 8) 2 pc') (kk : AW K Y h Q pc' (x0 :: x1 :: x2 :: x3 :: x4 :: x5 :: x6 :: x7 :: some (vl z) :: none :: t) st N g) : AW K Y h Q pc (x0 :: x1 :: x2 :: x3 :: x4 :: x5 :: x6 :: x7 :: x8 :: x9 :: t) (vl z :: st) N g := by
  refine g_lst (i := 8) hn (Or.inl ⟨rfl, rfl⟩) hat ⟨by simp, rfl, fun j q w hw => by
    have e : j = 7 := by omega
    subst e
    have hw : x7 = some w := Option.some.inj hw
    rw [hw] at hx
    exact beq_iff_eq.mp hx⟩ kk
theorem ld_a8 {k i : Nat} {x0 x1 x2 x3 x4 x5 x6 x7 : Option AV} {t : List (Option AV)} (hat : At Y pc (.aload 8) 2 pc') (kk : AW K Y h Q pc' (x0 :: x1 :: x2 :: x3 :: x4 :: x5 :: x6 :: x7 :: some (vr k i) :: t) (vr k i :: st) N g) : AW K Y h Q pc (x0 :: x1 :: x2 :: x3 :: x4 :: x5 :: x6 :: x7 :: some (vr k i) :: t) st N g := g_ald (i := 8) (Or.inl ⟨rfl, rfl⟩) hat rfl kk
theorem sv_a8 {k i : Nat} {x0 x1 x2 x3 x4 x5 x6 x7 x8 : Option AV} {t : List (Option AV)} (hn : 8 < Y.2.2.1) (hx : c1 x7 = true) (hat : At Y pc (.astore 8) 2 pc') (kk : AW K Y h Q pc' (x0 :: x1 :: x2 :: x3 :: x4 :: x5 :: x6 :: x7 :: some (vr k i) :: t) st N g) : AW K Y h Q pc (x0 :: x1 :: x2 :: x3 :: x4 :: x5 :: x6 :: x7 :: x8 :: t) (vr k i :: st) N g := by
  refine g_ast (i := 8) hn (Or.inl ⟨rfl, rfl⟩) hat ⟨by simp, rfl, fun j q w hw => by
    have e : j = 7 := by omega
    subst e
    have hw : x7 = some w := Option.some.inj hw
    rw [hw] at hx
    exact beq_iff_eq.mp hx⟩ kk
theorem inc_8 {z w : Int} {x0 x1 x2 x3 x4 x5 x6 x7 : Option AV} {t : List (Option AV)} (hn : 8 < Y.2.2.1) (hx : c1 x7 = true) (hat : At Y pc (.iinc 8 w) 3 pc') (kk : AW K Y h Q pc' (x0 :: x1 :: x2 :: x3 :: x4 :: x5 :: x6 :: x7 :: some (vi (z + w)) :: t) st N g) : AW K Y h Q pc (x0 :: x1 :: x2 :: x3 :: x4 :: x5 :: x6 :: x7 :: some (vi z) :: t) st N g := by
  refine g_iinc (i := 8) hn hat rfl ⟨by simp, rfl, fun j q w hw => by
    have e : j = 7 := by omega
    subst e
    have hw : x7 = some w := Option.some.inj hw
    rw [hw] at hx
    exact beq_iff_eq.mp hx⟩ kk
theorem fg_8 {x0 x1 x2 x3 x4 x5 x6 x7 x8 : Option AV} {t : List (Option AV)} (kk : AW K Y h Q pc (x0 :: x1 :: x2 :: x3 :: x4 :: x5 :: x6 :: x7 :: none :: t) st N g) : AW K Y h Q pc (x0 :: x1 :: x2 :: x3 :: x4 :: x5 :: x6 :: x7 :: x8 :: t) st N g := by
  refine AW.forget (fun i v hv => ?_) kk
  by_cases e : i = 8
  · subst e; exact absurd (Option.some.inj hv) (by simp)
  · revert e hv
    rcases i with _ | _ | _ | _ | _ | _ | _ | _ | _ | i
    all_goals intro hv e
    all_goals first | exact hv | exact absurd rfl e
theorem ld_i9 {z : Int} {x0 x1 x2 x3 x4 x5 x6 x7 x8 : Option AV} {t : List (Option AV)} (hat : At Y pc (.iload 9) 2 pc') (kk : AW K Y h Q pc' (x0 :: x1 :: x2 :: x3 :: x4 :: x5 :: x6 :: x7 :: x8 :: some (vi z) :: t) (vi z :: st) N g) : AW K Y h Q pc (x0 :: x1 :: x2 :: x3 :: x4 :: x5 :: x6 :: x7 :: x8 :: some (vi z) :: t) st N g := g_ild (i := 9) (Or.inl ⟨rfl, rfl⟩) hat rfl kk
theorem sv_i9 {z : Int} {x0 x1 x2 x3 x4 x5 x6 x7 x8 x9 : Option AV} {t : List (Option AV)} (hn : 9 < Y.2.2.1) (hx : c1 x8 = true) (hat : At Y pc (.istore 9) 2 pc') (kk : AW K Y h Q pc' (x0 :: x1 :: x2 :: x3 :: x4 :: x5 :: x6 :: x7 :: x8 :: some (vi z) :: t) st N g) : AW K Y h Q pc (x0 :: x1 :: x2 :: x3 :: x4 :: x5 :: x6 :: x7 :: x8 :: x9 :: t) (vi z :: st) N g := by
  refine g_ist (i := 9) hn (Or.inl ⟨rfl, rfl⟩) hat ⟨by simp, rfl, fun j q w hw => by
    have e : j = 8 := by omega
    subst e
    have hw : x8 = some w := Option.some.inj hw
    rw [hw] at hx
    exact beq_iff_eq.mp hx⟩ kk
theorem ld_l9 {z : Int} {x0 x1 x2 x3 x4 x5 x6 x7 x8 : Option AV} {t : List (Option AV)} (hat : At Y pc (.lload 9) 2 pc') (kk : AW K Y h Q pc' (x0 :: x1 :: x2 :: x3 :: x4 :: x5 :: x6 :: x7 :: x8 :: some (vl z) :: t) (vl z :: st) N g) : AW K Y h Q pc (x0 :: x1 :: x2 :: x3 :: x4 :: x5 :: x6 :: x7 :: x8 :: some (vl z) :: t) st N g := g_lld (i := 9) (Or.inl ⟨rfl, rfl⟩) hat rfl kk
theorem sv_l9 {z : Int} {x0 x1 x2 x3 x4 x5 x6 x7 x8 x9 x10 : Option AV} {t : List (Option AV)} (hn : 10 < Y.2.2.1) (hx : c1 x8 = true) (hat : At Y pc (.lstore 9) 2 pc') (kk : AW K Y h Q pc' (x0 :: x1 :: x2 :: x3 :: x4 :: x5 :: x6 :: x7 :: x8 :: some (vl z) :: none :: t) st N g) : AW K Y h Q pc (x0 :: x1 :: x2 :: x3 :: x4 :: x5 :: x6 :: x7 :: x8 :: x9 :: x10 :: t) (vl z :: st) N g := by
  refine g_lst (i := 9) hn (Or.inl ⟨rfl, rfl⟩) hat ⟨by simp, rfl, fun j q w hw => by
    have e : j = 8 := by omega
    subst e
    have hw : x8 = some w := Option.some.inj hw
    rw [hw] at hx
    exact beq_iff_eq.mp hx⟩ kk
theorem ld_a9 {k i : Nat} {x0 x1 x2 x3 x4 x5 x6 x7 x8 : Option AV} {t : List (Option AV)} (hat : At Y pc (.aload 9) 2 pc') (kk : AW K Y h Q pc' (x0 :: x1 :: x2 :: x3 :: x4 :: x5 :: x6 :: x7 :: x8 :: some (vr k i) :: t) (vr k i :: st) N g) : AW K Y h Q pc (x0 :: x1 :: x2 :: x3 :: x4 :: x5 :: x6 :: x7 :: x8 :: some (vr k i) :: t) st N g := g_ald (i := 9) (Or.inl ⟨rfl, rfl⟩) hat rfl kk
theorem sv_a9 {k i : Nat} {x0 x1 x2 x3 x4 x5 x6 x7 x8 x9 : Option AV} {t : List (Option AV)} (hn : 9 < Y.2.2.1) (hx : c1 x8 = true) (hat : At Y pc (.astore 9) 2 pc') (kk : AW K Y h Q pc' (x0 :: x1 :: x2 :: x3 :: x4 :: x5 :: x6 :: x7 :: x8 :: some (vr k i) :: t) st N g) : AW K Y h Q pc (x0 :: x1 :: x2 :: x3 :: x4 :: x5 :: x6 :: x7 :: x8 :: x9 :: t) (vr k i :: st) N g := by
  refine g_ast (i := 9) hn (Or.inl ⟨rfl, rfl⟩) hat ⟨by simp, rfl, fun j q w hw => by
    have e : j = 8 := by omega
    subst e
    have hw : x8 = some w := Option.some.inj hw
    rw [hw] at hx
    exact beq_iff_eq.mp hx⟩ kk
theorem inc_9 {z w : Int} {x0 x1 x2 x3 x4 x5 x6 x7 x8 : Option AV} {t : List (Option AV)} (hn : 9 < Y.2.2.1) (hx : c1 x8 = true) (hat : At Y pc (.iinc 9 w) 3 pc') (kk : AW K Y h Q pc' (x0 :: x1 :: x2 :: x3 :: x4 :: x5 :: x6 :: x7 :: x8 :: some (vi (z + w)) :: t) st N g) : AW K Y h Q pc (x0 :: x1 :: x2 :: x3 :: x4 :: x5 :: x6 :: x7 :: x8 :: some (vi z) :: t) st N g := by
  refine g_iinc (i := 9) hn hat rfl ⟨by simp, rfl, fun j q w hw => by
    have e : j = 8 := by omega
    subst e
    have hw : x8 = some w := Option.some.inj hw
    rw [hw] at hx
    exact beq_iff_eq.mp hx⟩ kk
theorem fg_9 {x0 x1 x2 x3 x4 x5 x6 x7 x8 x9 : Option AV} {t : List (Option AV)} (kk : AW K Y h Q pc (x0 :: x1 :: x2 :: x3 :: x4 :: x5 :: x6 :: x7 :: x8 :: none :: t) st N g) : AW K Y h Q pc (x0 :: x1 :: x2 :: x3 :: x4 :: x5 :: x6 :: x7 :: x8 :: x9 :: t) st N g := by
  refine AW.forget (fun i v hv => ?_) kk
  by_cases e : i = 9
  · subst e; exact absurd (Option.some.inj hv) (by simp)
  · revert e hv
    rcases i with _ | _ | _ | _ | _ | _ | _ | _ | _ | _ | i
    all_goals intro hv e
    all_goals first | exact hv | exact absurd rfl e
theorem ld_i10 {z : Int} {x0 x1 x2 x3 x4 x5 x6 x7 x8 x9 : Option AV} {t : List (Option AV)} (hat : At Y pc (.iload 10) 2 pc') (kk : AW K Y h Q pc' (x0 :: x1 :: x2 :: x3 :: x4 :: x5 :: x6 :: x7 :: x8 :: x9 :: some (vi z) :: t) (vi z :: st) N g) : AW K Y h Q pc (x0 :: x1 :: x2 :: x3 :: x4 :: x5 :: x6 :: x7 :: x8 :: x9 :: some (vi z) :: t) st N g := g_ild (i := 10) (Or.inl ⟨rfl, rfl⟩) hat rfl kk
theorem sv_i10 {z : Int} {x0 x1 x2 x3 x4 x5 x6 x7 x8 x9 x10 : Option AV} {t : List (Option AV)} (hn : 10 < Y.2.2.1) (hx : c1 x9 = true) (hat : At Y pc (.istore 10) 2 pc') (kk : AW K Y h Q pc' (x0 :: x1 :: x2 :: x3 :: x4 :: x5 :: x6 :: x7 :: x8 :: x9 :: some (vi z) :: t) st N g) : AW K Y h Q pc (x0 :: x1 :: x2 :: x3 :: x4 :: x5 :: x6 :: x7 :: x8 :: x9 :: x10 :: t) (vi z :: st) N g := by
  refine g_ist (i := 10) hn (Or.inl ⟨rfl, rfl⟩) hat ⟨by simp, rfl, fun j q w hw => by
    have e : j = 9 := by omega
    subst e
    have hw : x9 = some w := Option.some.inj hw
    rw [hw] at hx
    exact beq_iff_eq.mp hx⟩ kk
theorem ld_l10 {z : Int} {x0 x1 x2 x3 x4 x5 x6 x7 x8 x9 : Option AV} {t : List (Option AV)} (hat : At Y pc (.lload 10) 2 pc') (kk : AW K Y h Q pc' (x0 :: x1 :: x2 :: x3 :: x4 :: x5 :: x6 :: x7 :: x8 :: x9 :: some (vl z) :: t) (vl z :: st) N g) : AW K Y h Q pc (x0 :: x1 :: x2 :: x3 :: x4 :: x5 :: x6 :: x7 :: x8 :: x9 :: some (vl z) :: t) st N g := g_lld (i := 10) (Or.inl ⟨rfl, rfl⟩) hat rfl kk
theorem sv_l10 {z : Int} {x0 x1 x2 x3 x4 x5 x6 x7 x8 x9 x10 x11 : Option AV} {t : List (Option AV)} (hn : 11 < Y.2.2.1) (hx : c1 x9 = true) (hat : At Y pc (.lstore 10) 2 pc') (kk : AW K Y h Q pc' (x0 :: x1 :: x2 :: x3 :: x4 :: x5 :: x6 :: x7 :: x8 :: x9 :: some (vl z) :: none :: t) st N g) : AW K Y h Q pc (x0 :: x1 :: x2 :: x3 :: x4 :: x5 :: x6 :: x7 :: x8 :: x9 :: x10 :: x11 :: t) (vl z :: st) N g := by
  refine g_lst (i := 10) hn (Or.inl ⟨rfl, rfl⟩) hat ⟨by simp, rfl, fun j q w hw => by
    have e : j = 9 := by omega
    subst e
    have hw : x9 = some w := Option.some.inj hw
    rw [hw] at hx
    exact beq_iff_eq.mp hx⟩ kk
theorem ld_a10 {k i : Nat} {x0 x1 x2 x3 x4 x5 x6 x7 x8 x9 : Option AV} {t : List (Option AV)} (hat : At Y pc (.aload 10) 2 pc') (kk : AW K Y h Q pc' (x0 :: x1 :: x2 :: x3 :: x4 :: x5 :: x6 :: x7 :: x8 :: x9 :: some (vr k i) :: t) (vr k i :: st) N g) : AW K Y h Q pc (x0 :: x1 :: x2 :: x3 :: x4 :: x5 :: x6 :: x7 :: x8 :: x9 :: some (vr k i) :: t) st N g := g_ald (i := 10) (Or.inl ⟨rfl, rfl⟩) hat rfl kk
theorem sv_a10 {k i : Nat} {x0 x1 x2 x3 x4 x5 x6 x7 x8 x9 x10 : Option AV} {t : List (Option AV)} (hn : 10 < Y.2.2.1) (hx : c1 x9 = true) (hat : At Y pc (.astore 10) 2 pc') (kk : AW K Y h Q pc' (x0 :: x1 :: x2 :: x3 :: x4 :: x5 :: x6 :: x7 :: x8 :: x9 :: some (vr k i) :: t) st N g) : AW K Y h Q pc (x0 :: x1 :: x2 :: x3 :: x4 :: x5 :: x6 :: x7 :: x8 :: x9 :: x10 :: t) (vr k i :: st) N g := by
  refine g_ast (i := 10) hn (Or.inl ⟨rfl, rfl⟩) hat ⟨by simp, rfl, fun j q w hw => by
    have e : j = 9 := by omega
    subst e
    have hw : x9 = some w := Option.some.inj hw
    rw [hw] at hx
    exact beq_iff_eq.mp hx⟩ kk
theorem inc_10 {z w : Int} {x0 x1 x2 x3 x4 x5 x6 x7 x8 x9 : Option AV} {t : List (Option AV)} (hn : 10 < Y.2.2.1) (hx : c1 x9 = true) (hat : At Y pc (.iinc 10 w) 3 pc') (kk : AW K Y h Q pc' (x0 :: x1 :: x2 :: x3 :: x4 :: x5 :: x6 :: x7 :: x8 :: x9 :: some (vi (z + w)) :: t) st N g) : AW K Y h Q pc (x0 :: x1 :: x2 :: x3 :: x4 :: x5 :: x6 :: x7 :: x8 :: x9 :: some (vi z) :: t) st N g := by
  refine g_iinc (i := 10) hn hat rfl ⟨by simp, rfl, fun j q w hw => by
    have e : j = 9 := by omega
    subst e
    have hw : x9 = some w := Option.some.inj hw
    rw [hw] at hx
    exact beq_iff_eq.mp hx⟩ kk
theorem fg_10 {x0 x1 x2 x3 x4 x5 x6 x7 x8 x9 x10 : Option AV} {t : List (Option AV)} (kk : AW K Y h Q pc (x0 :: x1 :: x2 :: x3 :: x4 :: x5 :: x6 :: x7 :: x8 :: x9 :: none :: t) st N g) : AW K Y h Q pc (x0 :: x1 :: x2 :: x3 :: x4 :: x5 :: x6 :: x7 :: x8 :: x9 :: x10 :: t) st N g := by
  refine AW.forget (fun i v hv => ?_) kk
  by_cases e : i = 10
  · subst e; exact absurd (Option.some.inj hv) (by simp)
  · revert e hv
    rcases i with _ | _ | _ | _ | _ | _ | _ | _ | _ | _ | _ | i
    all_goals intro hv e
    all_goals first | exact hv | exact absurd rfl e
theorem ld_i11 {z : Int} {x0 x1 x2 x3 x4 x5 x6 x7 x8 x9 x10 : Option AV} {t : List (Option AV)} (hat : At Y pc (.iload 11) 2 pc') (kk : AW K Y h Q pc' (x0 :: x1 :: x2 :: x3 :: x4 :: x5 :: x6 :: x7 :: x8 :: x9 :: x10 :: some (vi z) :: t) (vi z :: st) N g) : AW K Y h Q pc (x0 :: x1 :: x2 :: x3 :: x4 :: x5 :: x6 :: x7 :: x8 :: x9 :: x10 :: some (vi z) :: t) st N g := g_ild (i := 11) (Or.inl ⟨rfl, rfl⟩) hat rfl kk
theorem sv_i11 {z : Int} {x0 x1 x2 x3 x4 x5 x6 x7 x8 x9 x10 x11 : Option AV} {t : List (Option AV)} (hn : 11 < Y.2.2.1) (hx : c1 x10 = true) (hat : At Y pc (.istore 11) 2 pc') (kk : AW K Y h Q pc' (x0 :: x1 :: x2 :: x3 :: x4 :: x5 :: x6 :: x7 :: x8 :: x9 :: x10 :: some (vi z) :: t) st N g) : AW K Y h Q pc (x0 :: x1 :: x2 :: x3 :: x4 :: x5 :: x6 :: x7 :: x8 :: x9 :: x10 :: x11 :: t) (vi z :: st) N g := by
  refine g_ist (i := 11) hn (Or.inl ⟨rfl, rfl⟩) hat ⟨by simp, rfl, fun j q w hw => by
    have e : j = 10 := by omega
    subst e
    have hw : x10 = some w := Option.some.inj hw
    rw [hw] at hx
    exact beq_iff_eq.mp hx⟩ kk
theorem ld_l11 {z : Int} {x0 x1 x2 x3 x4 x5 x6 x7 x8 x9 x10 : Option AV} {t : List (Option AV)} (hat : At Y pc (.lload 11) 2 pc') (kk : AW K Y h Q pc' (x0 :: x1 :: x2 :: x3 :: x4 :: x5 :: x6 :: x7 :: x8 :: x9 :: x10 :: some (vl z) :: t) (vl z :: st) N g) : AW K Y h Q pc (x0 :: x1 :: x2 :: x3 :: x4 :: x5 :: x6 :: x7 :: x8 :: x9 :: x10 :: some (vl z) :: t) st N g := g_lld (i := 11) (Or.inl ⟨rfl, rfl⟩) hat rfl kk
theorem sv_l11 {z : Int} {x0 x1 x2 x3 x4 x5 x6 x7 x8 x9 x10 x11 x12 : Option AV} {t : List (Option AV)} (hn : 12 < Y.2.2.1) (hx : c1 x10 = true) (hat : At Y pc (.lstore 11) 2 pc') (kk : AW K Y h Q pc' (x0 :: x1 :: x2 :: x3 :: x4 :: x5 :: x6 :: x7 :: x8 :: x9 :: x10 :: some (vl z) :: none :: t) st N g) : AW K Y h Q pc (x0 :: x1 :: x2 :: x3 :: x4 :: x5 :: x6 :: x7 :: x8 :: x9 :: x10 :: x11 :: x12 :: t) (vl z :: st) N g := by
  refine g_lst (i := 11) hn (Or.inl ⟨rfl, rfl⟩) hat ⟨by simp, rfl, fun j q w hw => by
    have e : j = 10 := by omega
    subst e
    have hw : x10 = some w := Option.some.inj hw
    rw [hw] at hx
    exact beq_iff_eq.mp hx⟩ kk
theorem ld_a11 {k i : Nat} {x0 x1 x2 x3 x4 x5 x6 x7 x8 x9 x10 : Option AV} {t : List (Option AV)} (hat : At Y pc (.aload 11) 2 pc') (kk : AW K Y h Q pc' (x0 :: x1 :: x2 :: x3 :: x4 :: x5 :: x6 :: x7 :: x8 :: x9 :: x10 :: some (vr k i) :: t) (vr k i :: st) N g) : AW K Y h Q pc (x0 :: x1 :: x2 :: x3 :: x4 :: x5 :: x6 :: x7 :: x8 :: x9 :: x10 :: some (vr k i) :: t) st N g := g_ald (i := 11) (Or.inl ⟨rfl, rfl⟩) hat rfl kk
theorem sv_a11 {k i : Nat} {x0 x1 x2 x3 x4 x5 x6 x7 x8 x9 x10 x11 : Option AV} {t : List (Option AV)} (hn : 11 < Y.2.2.1) (hx : c1 x10 = true) (hat : At Y pc (.astore 11) 2 pc') (kk : AW K Y h Q pc' (x0 :: x1 :: x2 :: x3 :: x4 :: x5 :: x6 :: x7 :: x8 :: x9 :: x10 :: some (vr k i) :: t) st N g) : AW K Y h Q pc (x0 :: x1 :: x2 :: x3 :: x4 :: x5 :: x6 :: x7 :: x8 :: x9 :: x10 :: x11 :: t) (vr k i :: st) N g := by
  refine g_ast (i := 11) hn (Or.inl ⟨rfl, rfl⟩) hat ⟨by simp, rfl, fun j q w hw => by
    have e : j = 10 := by omega
    subst e
    have hw : x10 = some w := Option.some.inj hw
    rw [hw] at hx
    exact beq_iff_eq.mp hx⟩ kk
theorem inc_11 {z w : Int} {x0 x1 x2 x3 x4 x5 x6 x7 x8 x9 x10 : Option AV} {t : List (Option AV)} (hn : 11 < Y.2.2.1) (hx : c1 x10 = true) (hat : At Y pc (.iinc 11 w) 3 pc') (kk : AW K Y h Q pc' (x0 :: x1 :: x2 :: x3 :: x4 :: x5 :: x6 :: x7 :: x8 :: x9 :: x10 :: some (vi (z + w)) :: t) st N g) : AW K Y h Q pc (x0 :: x1 :: x2 :: x3 :: x4 :: x5 :: x6 :: x7 :: x8 :: x9 :: x10 :: some (vi z) :: t) st N g := by
  refine g_iinc (i := 11) hn hat rfl ⟨by simp, rfl, fun j q w hw => by
    have e : j = 10 := by omega
    subst e
    have hw : x10 = some w := Option.some.inj hw
    rw [hw] at hx
    exact beq_iff_eq.mp hx⟩ kk
theorem fg_11 {x0 x1 x2 x3 x4 x5 x6 x7 x8 x9 x10 x11 : Option AV} {t : List (Option AV)} (kk : AW K Y h Q pc (x0 :: x1 :: x2 :: x3 :: x4 :: x5 :: x6 :: x7 :: x8 :: x9 :: x10 :: none :: t) st N g) : AW K Y h Q pc (x0 :: x1 :: x2 :: x3 :: x4 :: x5 :: x6 :: x7 :: x8 :: x9 :: x10 :: x11 :: t) st N g := by
  refine AW.forget (fun i v hv => ?_) kk
  by_cases e : i = 11
  · subst e; exact absurd (Option.some.inj hv) (by simp)
  · revert e hv
    rcases i with _ | _ | _ | _ | _ | _ | _ | _ | _ | _ | _ | _ | i
    all_goals intro hv e
    all_goals first | exact hv | exact absurd rfl e
theorem ld_i12 {z : Int} {x0 x1 x2 x3 x4 x5 x6 x7 x8 x9 x10 x11 : Option AV} {t : List (Option AV)} (hat : At Y pc (.iload 12) 2 pc') (kk : AW K Y h Q pc' (x0 :: x1 :: x2 :: x3 :: x4 :: x5 :: x6 :: x7 :: x8 :: x9 :: x10 :: x11 :: some (vi z) :: t) (vi z :: st) N g) : AW K Y h Q pc (x0 :: x1 :: x2 :: x3 :: x4 :: x5 :: x6 :: x7 :: x8 :: x9 :: x10 :: x11 :: some (vi z) :: t) st N g := g_ild (i := 12) (Or.inl ⟨rfl, rfl⟩) hat rfl kk
theorem sv_i12 {z : Int} {x0 x1 x2 x3 x4 x5 x6 x7 x8 x9 x10 x11 x12 : Option AV} {t : List (Option AV)} (hn : 12 < Y.2.2.1) (hx : c1 x11 = true) (hat : At Y pc (.istore 12) 2 pc') (kk : AW K Y h Q pc' (x0 :: x1 :: x2 :: x3 :: x4 :: x5 :: x6 :: x7 :: x8 :: x9 :: x10 :: x11 :: some (vi z) :: t) st N g) : AW K Y h Q pc (x0 :: x1 :: x2 :: x3 :: x4 :: x5 :: x6 :: x7 :: x8 :: x9 :: x10 :: x11 :: x12 :: t) (vi z :: st) N g := by
  refine g_ist (i := 12) hn (Or.inl ⟨rfl, rfl⟩) hat ⟨by simp, rfl, fun j q w hw => by
    have e : j = 11 := by omega
    subst e
    have hw : x11 = some w := Option.some.inj hw
    rw [hw] at hx
    exact beq_iff_eq.mp hx⟩ kk
theorem ld_l12 {z : Int} {x0 x1 x2 x3 x4 x5 x6 x7 x8 x9 x10 x11 : Option AV} {t : List (Option AV)} (hat : At Y pc (.lload 12) 2 pc') (kk : AW K Y h Q pc' (x0 :: x1 :: x2 :: x3 :: x4 :: x5 :: x6 :: x7 :: x8 :: x9 :: x10 :: x11 :: some (vl z) :: t) (vl z :: st) N g) : AW K Y h Q pc (x0 :: x1 :: x2 :: x3 :: x4 :: x5 :: x6 :: x7 :: x8 :: x9 :: x10 :: x11 :: some (vl z) :: t) st N g := g_lld (i := 12) (Or.inl ⟨rfl, rfl⟩) hat rfl kk
theorem sv_l12 {z : Int} {x0 x1 x2 x3 x4 x5 x6 x7 x8 x9 x10 x11 x12 x13 : Option AV} {t : List (Option AV)} (hn : 13 < Y.2.2.1) (hx : c1 x11 = true) (hat : At Y pc (.lstore 12) 2 pc') (kk : AW K Y h Q pc' (x0 :: x1 :: x2 :: x3 :: x4 :: x5 :: x6 :: x7 :: x8 :: x9 :: x10 :: x11 :: some (vl z) :: none :: t) st N g) : AW K Y h Q pc (x0 :: x1 :: x2 :: x3 :: x4 :: x5 :: x6 :: x7 :: x8 :: x9 :: x10 :: x11 :: x12 :: x13 :: t) (vl z :: st) N g := by
  refine g_lst (i := 12) hn (Or.inl ⟨rfl, rfl⟩) hat ⟨by simp, rfl, fun j q w hw => by
    have e : j = 11 := by omega
    subst e
    have hw : x11 = some w := Option.some.inj hw
    rw [hw] at hx
    exact beq_iff_eq.mp hx⟩ kk
theorem ld_a12 {k i : Nat} {x0 x1 x2 x3 x4 x5 x6 x7 x8 x9 x10 x11 : Option AV} {t : List (Option AV)} (hat : At Y pc (.aload 12) 2 pc') (kk : AW K Y h Q pc' (x0 :: x1 :: x2 :: x3 :: x4 :: x5 :: x6 :: x7 :: x8 :: x9 :: x10 :: x11 :: some (vr k i) :: t) (vr k i :: st) N g) : AW K Y h Q pc (x0 :: x1 :: x2 :: x3 :: x4 :: x5 :: x6 :: x7 :: x8 :: x9 :: x10 :: x11 :: some (vr k i) :: t) st N g := g_ald (i := 12) (Or.inl ⟨rfl, rfl⟩) hat rfl kk
theorem sv_a12 {k i : Nat} {x0 x1 x2 x3 x4 x5 x6 x7 x8 x9 x10 x11 x12 : Option AV} {t : List (Option AV)} (hn : 12 < Y.2.2.1) (hx : c1 x11 = true) (hat : At Y pc (.astore 12) 2 pc') (kk : AW K Y h Q pc' (x0 :: x1 :: x2 :: x3 :: x4 :: x5 :: x6 :: x7 :: x8 :: x9 :: x10 :: x11 :: some (vr k i) :: t) st N g) : AW K Y h Q pc (x0 :: x1 :: x2 :: x3 :: x4 :: x5 :: x6 :: x7 :: x8 :: x9 :: x10 :: x11 :: x12 :: t) (vr k i :: st) N g := by
  refine g_ast (i := 12) hn (Or.inl ⟨rfl, rfl⟩) hat ⟨by simp, rfl, fun j q w hw => by
    have e : j = 11 := by omega
    subst e
    have hw : x11 = some w := Option.some.inj hw
    rw [hw] at hx
    exact beq_iff_eq.mp hx⟩ kk
theorem inc_12 {z w : Int} {x0 x1 x2 x3 x4 x5 x6 x7 x8 x9 x10 x11 : Option AV} {t : List (Option AV)} (hn : 12 < Y.2.2.1) (hx : c1 x11 = true) (hat : At Y pc (.iinc 12 w) 3 pc') (kk : AW K Y h Q pc' (x0 :: x1 :: x2 :: x3 :: x4 :: x5 :: x6 :: x7 :: x8 :: x9 :: x10 :: x11 :: some (vi (z + w)) :: t) st N g) : AW K Y h Q pc (x0 :: x1 :: x2 :: x3 :: x4 :: x5 :: x6 :: x7 :: x8 :: x9 :: x10 :: x11 :: some (vi z) :: t) st N g := by
  refine g_iinc (i := 12) hn hat rfl ⟨by simp, rfl, fun j q w hw => by
    have e : j = 11 := by omega
    subst e
    have hw : x11 = some w := Option.some.inj hw
    rw [hw] at hx
    exact beq_iff_eq.mp hx⟩ kk
theorem fg_12 {x0 x1 x2 x3 x4 x5 x6 x7 x8 x9 x10 x11 x12 : Option AV} {t : List (Option AV)} (kk : AW K Y h Q pc (x0 :: x1 :: x2 :: x3 :: x4 :: x5 :: x6 :: x7 :: x8 :: x9 :: x10 :: x11 :: none :: t) st N g) : AW K Y h Q pc (x0 :: x1 :: x2 :: x3 :: x4 :: x5 :: x6 :: x7 :: x8 :: x9 :: x10 :: x11 :: x12 :: t) st N g := by
  refine AW.forget (fun i v hv => ?_) kk
  by_cases e : i = 12
  · subst e; exact absurd (Option.some.inj hv) (by simp)
  · revert e hv
    rcases i with _ | _ | _ | _ | _ | _ | _ | _ | _ | _ | _ | _ | _ | i
    all_goals intro hv e
    all_goals first | exact hv | exact absurd rfl e
theorem gf_X1_pieces {idx i : Nat} (hlink : Cond.fieldLink Y.1.cls idx RX1 "pieces" "I" ∈ TW) (hat : At Y pc (.getfield idx) 3 pc') (kk : AW K Y h Q pc' ls (vi (N 12 i 0) :: st) N g) : AW K Y h Q pc ls (vr 12 i :: st) N g := r_get (k := 12) (j := 0) (c := 0) (C := RX1) (T := TX1) (n := 8) (v := vi (N 12 i 0)) rfl rfl (by decide) kWX1 rfl hlink (fun _ => rfl) (fun _ _ _ => trivial) hat kk
theorem pf_X1_pieces {idx i : Nat} {z : Int} (hlink : Cond.fieldLink Y.1.cls idx RX1 "pieces" "I" ∈ TW) (hat : At Y pc (.putfield idx) 3 pc') (kk : AW K Y h Q pc' ls st (upN N 12 i 0 z) g) : AW K Y h Q pc ls (vi z :: vr 12 i :: st) N g := r_put (k := 12) (j := 0) (c := 0) (C := RX1) (T := TX1) (n := 8) (ty0 := tyX1) (ty := .int) (v := vi z) (z := z) rfl rfl (by decide) kWX1 rfl hlink tyX1_ok nmX1 rfl (by decide +kernel) (fun _ => rfl) (fun _ => rfl) (fun _ => by show Value.int (Int32.ofInt (upN N 12 i 0 z 12 i 0)) = _; rw [upN_eq]; rfl) hat kk
theorem gf_X1_starts {idx i : Nat} (hlink : Cond.fieldLink Y.1.cls idx RX1 "starts" "[I" ∈ TW) (hat : At Y pc (.getfield idx) 3 pc') (kk : AW K Y h Q pc' ls (vr 13 (i) :: st) N g) : AW K Y h Q pc ls (vr 12 i :: st) N g := r_get (k := 12) (j := 1) (c := 0) (C := RX1) (T := TX1) (n := 8) (v := vr 13 (i)) rfl rfl (by decide) kWX1 rfl hlink (fun _ => rfl) (fun _ _ q => q) hat kk
theorem gf_X1_values {idx i : Nat} (hlink : Cond.fieldLink Y.1.cls idx RX1 "values" "[J" ∈ TW) (hat : At Y pc (.getfield idx) 3 pc') (kk : AW K Y h Q pc' ls (vr 14 (i) :: st) N g) : AW K Y h Q pc ls (vr 12 i :: st) N g := r_get (k := 12) (j := 2) (c := 0) (C := RX1) (T := TX1) (n := 8) (v := vr 14 (i)) rfl rfl (by decide) kWX1 rfl hlink (fun _ => rfl) (fun _ _ q => q) hat kk
theorem gf_X1_gains {idx i : Nat} (hlink : Cond.fieldLink Y.1.cls idx RX1 "gains" "[J" ∈ TW) (hat : At Y pc (.getfield idx) 3 pc') (kk : AW K Y h Q pc' ls (vr 15 (i) :: st) N g) : AW K Y h Q pc ls (vr 12 i :: st) N g := r_get (k := 12) (j := 3) (c := 0) (C := RX1) (T := TX1) (n := 8) (v := vr 15 (i)) rfl rfl (by decide) kWX1 rfl hlink (fun _ => rfl) (fun _ _ q => q) hat kk
theorem gf_X1_endWage {idx i : Nat} (hlink : Cond.fieldLink Y.1.cls idx RX1 "endWage" "I" ∈ TW) (hat : At Y pc (.getfield idx) 3 pc') (kk : AW K Y h Q pc' ls (vi (N 12 i 4) :: st) N g) : AW K Y h Q pc ls (vr 12 i :: st) N g := r_get (k := 12) (j := 4) (c := 0) (C := RX1) (T := TX1) (n := 8) (v := vi (N 12 i 4)) rfl rfl (by decide) kWX1 rfl hlink (fun _ => rfl) (fun _ _ _ => trivial) hat kk
theorem pf_X1_endWage {idx i : Nat} {z : Int} (hlink : Cond.fieldLink Y.1.cls idx RX1 "endWage" "I" ∈ TW) (hat : At Y pc (.putfield idx) 3 pc') (kk : AW K Y h Q pc' ls st (upN N 12 i 4 z) g) : AW K Y h Q pc ls (vi z :: vr 12 i :: st) N g := r_put (k := 12) (j := 4) (c := 0) (C := RX1) (T := TX1) (n := 8) (ty0 := tyX1) (ty := .int) (v := vi z) (z := z) rfl rfl (by decide) kWX1 rfl hlink tyX1_ok nmX1 rfl (by decide +kernel) (fun _ => rfl) (fun _ => rfl) (fun _ => by show Value.int (Int32.ofInt (upN N 12 i 4 z 12 i 4)) = _; rw [upN_eq]; rfl) hat kk
theorem gf_X1_endValue {idx i : Nat} (hlink : Cond.fieldLink Y.1.cls idx RX1 "endValue" "J" ∈ TW) (hat : At Y pc (.getfield idx) 3 pc') (kk : AW K Y h Q pc' ls (vl (N 12 i 5) :: st) N g) : AW K Y h Q pc ls (vr 12 i :: st) N g := r_get (k := 12) (j := 5) (c := 0) (C := RX1) (T := TX1) (n := 8) (v := vl (N 12 i 5)) rfl rfl (by decide) kWX1 rfl hlink (fun _ => rfl) (fun _ _ _ => trivial) hat kk
theorem pf_X1_endValue {idx i : Nat} {z : Int} (hlink : Cond.fieldLink Y.1.cls idx RX1 "endValue" "J" ∈ TW) (hat : At Y pc (.putfield idx) 3 pc') (kk : AW K Y h Q pc' ls st (upN N 12 i 5 z) g) : AW K Y h Q pc ls (vl z :: vr 12 i :: st) N g := r_put (k := 12) (j := 5) (c := 0) (C := RX1) (T := TX1) (n := 8) (ty0 := tyX1) (ty := .long) (v := vl z) (z := z) rfl rfl (by decide) kWX1 rfl hlink tyX1_ok nmX1 rfl (by decide +kernel) (fun _ => rfl) (fun _ => rfl) (fun _ => by show Value.long (Int64.ofInt (upN N 12 i 5 z 12 i 5)) = _; rw [upN_eq]; rfl) hat kk
theorem gf_X1_alone {idx i : Nat} (hlink : Cond.fieldLink Y.1.cls idx RX1 "alone" "Z" ∈ TW) (hat : At Y pc (.getfield idx) 3 pc') (kk : AW K Y h Q pc' ls (vi (N 12 i 6) :: st) N g) : AW K Y h Q pc ls (vr 12 i :: st) N g := r_get (k := 12) (j := 6) (c := 0) (C := RX1) (T := TX1) (n := 8) (v := vi (N 12 i 6)) rfl rfl (by decide) kWX1 rfl hlink (fun _ => rfl) (fun _ _ _ => trivial) hat kk
theorem pf_X1_alone {idx i : Nat} {z : Int} (hz : z = 0 ∨ z = 1) (hlink : Cond.fieldLink Y.1.cls idx RX1 "alone" "Z" ∈ TW) (hat : At Y pc (.putfield idx) 3 pc') (kk : AW K Y h Q pc' ls st (upN N 12 i 6 z) g) : AW K Y h Q pc ls (vi z :: vr 12 i :: st) N g := r_put (k := 12) (j := 6) (c := 0) (C := RX1) (T := TX1) (n := 8) (ty0 := tyX1) (ty := .boolean) (v := vi z) (z := z) rfl rfl (by decide) kWX1 rfl hlink tyX1_ok nmX1 rfl (by decide +kernel) (fun _ => by rcases hz with rfl | rfl <;> rfl) (fun _ => by rcases hz with rfl | rfl <;> rfl) (fun _ => by show Value.int (Int32.ofInt (upN N 12 i 6 z 12 i 6)) = _; rw [upN_eq]; rfl) hat kk
theorem gf_X1_seat {idx i : Nat} (hlink : Cond.fieldLink Y.1.cls idx RX1 "seat" "I" ∈ TW) (hat : At Y pc (.getfield idx) 3 pc') (kk : AW K Y h Q pc' ls (vi (N 12 i 7) :: st) N g) : AW K Y h Q pc ls (vr 12 i :: st) N g := r_get (k := 12) (j := 7) (c := 0) (C := RX1) (T := TX1) (n := 8) (v := vi (N 12 i 7)) rfl rfl (by decide) kWX1 rfl hlink (fun _ => rfl) (fun _ _ _ => trivial) hat kk
theorem pf_X1_seat {idx i : Nat} {z : Int} (hlink : Cond.fieldLink Y.1.cls idx RX1 "seat" "I" ∈ TW) (hat : At Y pc (.putfield idx) 3 pc') (kk : AW K Y h Q pc' ls st (upN N 12 i 7 z) g) : AW K Y h Q pc ls (vi z :: vr 12 i :: st) N g := r_put (k := 12) (j := 7) (c := 0) (C := RX1) (T := TX1) (n := 8) (ty0 := tyX1) (ty := .int) (v := vi z) (z := z) rfl rfl (by decide) kWX1 rfl hlink tyX1_ok nmX1 rfl (by decide +kernel) (fun _ => rfl) (fun _ => rfl) (fun _ => by show Value.int (Int32.ofInt (upN N 12 i 7 z 12 i 7)) = _; rw [upN_eq]; rfl) hat kk
theorem gf_X2_all {idx i : Nat} (hlink : Cond.fieldLink Y.1.cls idx RX2 "all" "[LPayPromise$Line;" ∈ TW) (hat : At Y pc (.getfield idx) 3 pc') (kk : AW K Y h Q pc' ls (vr 8 (0) :: st) N g) : AW K Y h Q pc ls (vr 7 i :: st) N g := r_get (k := 7) (j := 0) (c := 1) (C := RX2) (T := TX2) (n := 3) (v := vr 8 (0)) rfl rfl (by decide) kWX2 rfl hlink (fun _ => rfl) (fun _ _ _ => (show _ < _ by decide)) hat kk
theorem gf_X2_wagesOf {idx i : Nat} (hlink : Cond.fieldLink Y.1.cls idx RX2 "wagesOf" "[[I" ∈ TW) (hat : At Y pc (.getfield idx) 3 pc') (kk : AW K Y h Q pc' ls (vr 9 (0) :: st) N g) : AW K Y h Q pc ls (vr 7 i :: st) N g := r_get (k := 7) (j := 1) (c := 1) (C := RX2) (T := TX2) (n := 3) (v := vr 9 (0)) rfl rfl (by decide) kWX2 rfl hlink (fun _ => rfl) (fun _ _ _ => (show _ < _ by decide)) hat kk
theorem gf_X2_gains {idx i : Nat} (hlink : Cond.fieldLink Y.1.cls idx RX2 "gains" "[J" ∈ TW) (hat : At Y pc (.getfield idx) 3 pc') (kk : AW K Y h Q pc' ls (vr 11 (0) :: st) N g) : AW K Y h Q pc ls (vr 7 i :: st) N g := r_get (k := 7) (j := 2) (c := 1) (C := RX2) (T := TX2) (n := 3) (v := vr 11 (0)) rfl rfl (by decide) kWX2 rfl hlink (fun _ => rfl) (fun _ _ _ => (show _ < _ by decide)) hat kk
theorem gf_X3_sums {idx i : Nat} (hlink : Cond.fieldLink Y.1.cls idx RX3 "sums" "[J" ∈ TW) (hat : At Y pc (.getfield idx) 3 pc') (kk : AW K Y h Q pc' ls (vr 4 (0) :: st) N g) : AW K Y h Q pc ls (vr 3 i :: st) N g := r_get (k := 3) (j := 0) (c := 2) (C := RX3) (T := TX3) (n := 3) (v := vr 4 (0)) rfl rfl (by decide) kWX3 rfl hlink (fun _ => rfl) (fun _ _ _ => (show _ < _ by decide)) hat kk
theorem gf_X3_values {idx i : Nat} (hlink : Cond.fieldLink Y.1.cls idx RX3 "values" "[J" ∈ TW) (hat : At Y pc (.getfield idx) 3 pc') (kk : AW K Y h Q pc' ls (vr 5 (0) :: st) N g) : AW K Y h Q pc ls (vr 3 i :: st) N g := r_get (k := 3) (j := 1) (c := 2) (C := RX3) (T := TX3) (n := 3) (v := vr 5 (0)) rfl rfl (by decide) kWX3 rfl hlink (fun _ => rfl) (fun _ _ _ => (show _ < _ by decide)) hat kk
theorem gf_X3_segments {idx i : Nat} (hlink : Cond.fieldLink Y.1.cls idx RX3 "segments" "[I" ∈ TW) (hat : At Y pc (.getfield idx) 3 pc') (kk : AW K Y h Q pc' ls (vr 6 (0) :: st) N g) : AW K Y h Q pc ls (vr 3 i :: st) N g := r_get (k := 3) (j := 2) (c := 2) (C := RX3) (T := TX3) (n := 3) (v := vr 6 (0)) rfl rfl (by decide) kWX3 rfl hlink (fun _ => rfl) (fun _ _ _ => (show _ < _ by decide)) hat kk
theorem gf_X4_tape {idx i : Nat} (hlink : Cond.fieldLink Y.1.cls idx RX4 "tape" "[I" ∈ TW) (hat : At Y pc (.getfield idx) 3 pc') (kk : AW K Y h Q pc' ls (vr 2 (0) :: st) N g) : AW K Y h Q pc ls (vr 1 i :: st) N g := r_get (k := 1) (j := 0) (c := 3) (C := RX4) (T := TX4) (n := 5) (v := vr 2 (0)) rfl rfl (by decide) kWX4 rfl hlink (fun _ => rfl) (fun _ _ _ => (show _ < _ by decide)) hat kk
theorem gf_X4_length {idx i : Nat} (hlink : Cond.fieldLink Y.1.cls idx RX4 "length" "I" ∈ TW) (hat : At Y pc (.getfield idx) 3 pc') (kk : AW K Y h Q pc' ls (vi (N 1 i 1) :: st) N g) : AW K Y h Q pc ls (vr 1 i :: st) N g := r_get (k := 1) (j := 1) (c := 3) (C := RX4) (T := TX4) (n := 5) (v := vi (N 1 i 1)) rfl rfl (by decide) kWX4 rfl hlink (fun _ => rfl) (fun _ _ _ => trivial) hat kk
theorem pf_X4_length {idx i : Nat} {z : Int} (hlink : Cond.fieldLink Y.1.cls idx RX4 "length" "I" ∈ TW) (hat : At Y pc (.putfield idx) 3 pc') (kk : AW K Y h Q pc' ls st (upN N 1 i 1 z) g) : AW K Y h Q pc ls (vi z :: vr 1 i :: st) N g := r_put (k := 1) (j := 1) (c := 3) (C := RX4) (T := TX4) (n := 5) (ty0 := tyX4) (ty := .int) (v := vi z) (z := z) rfl rfl (by decide) kWX4 rfl hlink tyX4_ok nmX4 rfl (by decide +kernel) (fun _ => rfl) (fun _ => rfl) (fun _ => by show Value.int (Int32.ofInt (upN N 1 i 1 z 1 i 1)) = _; rw [upN_eq]; rfl) hat kk
theorem gf_X4_place {idx i : Nat} (hlink : Cond.fieldLink Y.1.cls idx RX4 "place" "I" ∈ TW) (hat : At Y pc (.getfield idx) 3 pc') (kk : AW K Y h Q pc' ls (vi (N 1 i 2) :: st) N g) : AW K Y h Q pc ls (vr 1 i :: st) N g := r_get (k := 1) (j := 2) (c := 3) (C := RX4) (T := TX4) (n := 5) (v := vi (N 1 i 2)) rfl rfl (by decide) kWX4 rfl hlink (fun _ => rfl) (fun _ _ _ => trivial) hat kk
theorem pf_X4_place {idx i : Nat} {z : Int} (hlink : Cond.fieldLink Y.1.cls idx RX4 "place" "I" ∈ TW) (hat : At Y pc (.putfield idx) 3 pc') (kk : AW K Y h Q pc' ls st (upN N 1 i 2 z) g) : AW K Y h Q pc ls (vi z :: vr 1 i :: st) N g := r_put (k := 1) (j := 2) (c := 3) (C := RX4) (T := TX4) (n := 5) (ty0 := tyX4) (ty := .int) (v := vi z) (z := z) rfl rfl (by decide) kWX4 rfl hlink tyX4_ok nmX4 rfl (by decide +kernel) (fun _ => rfl) (fun _ => rfl) (fun _ => by show Value.int (Int32.ofInt (upN N 1 i 2 z 1 i 2)) = _; rw [upN_eq]; rfl) hat kk
theorem gf_X4_wrong {idx i : Nat} (hlink : Cond.fieldLink Y.1.cls idx RX4 "wrong" "I" ∈ TW) (hat : At Y pc (.getfield idx) 3 pc') (kk : AW K Y h Q pc' ls (vi (N 1 i 3) :: st) N g) : AW K Y h Q pc ls (vr 1 i :: st) N g := r_get (k := 1) (j := 3) (c := 3) (C := RX4) (T := TX4) (n := 5) (v := vi (N 1 i 3)) rfl rfl (by decide) kWX4 rfl hlink (fun _ => rfl) (fun _ _ _ => trivial) hat kk
theorem pf_X4_wrong {idx i : Nat} {z : Int} (hlink : Cond.fieldLink Y.1.cls idx RX4 "wrong" "I" ∈ TW) (hat : At Y pc (.putfield idx) 3 pc') (kk : AW K Y h Q pc' ls st (upN N 1 i 3 z) g) : AW K Y h Q pc ls (vi z :: vr 1 i :: st) N g := r_put (k := 1) (j := 3) (c := 3) (C := RX4) (T := TX4) (n := 5) (ty0 := tyX4) (ty := .int) (v := vi z) (z := z) rfl rfl (by decide) kWX4 rfl hlink tyX4_ok nmX4 rfl (by decide +kernel) (fun _ => rfl) (fun _ => rfl) (fun _ => by show Value.int (Int32.ofInt (upN N 1 i 3 z 1 i 3)) = _; rw [upN_eq]; rfl) hat kk
theorem gf_X4_benefitTold {idx i : Nat} (hlink : Cond.fieldLink Y.1.cls idx RX4 "benefitTold" "Z" ∈ TW) (hat : At Y pc (.getfield idx) 3 pc') (kk : AW K Y h Q pc' ls (vi (N 1 i 4) :: st) N g) : AW K Y h Q pc ls (vr 1 i :: st) N g := r_get (k := 1) (j := 4) (c := 3) (C := RX4) (T := TX4) (n := 5) (v := vi (N 1 i 4)) rfl rfl (by decide) kWX4 rfl hlink (fun _ => rfl) (fun _ _ _ => trivial) hat kk
theorem pf_X4_benefitTold {idx i : Nat} {z : Int} (hz : z = 0 ∨ z = 1) (hlink : Cond.fieldLink Y.1.cls idx RX4 "benefitTold" "Z" ∈ TW) (hat : At Y pc (.putfield idx) 3 pc') (kk : AW K Y h Q pc' ls st (upN N 1 i 4 z) g) : AW K Y h Q pc ls (vi z :: vr 1 i :: st) N g := r_put (k := 1) (j := 4) (c := 3) (C := RX4) (T := TX4) (n := 5) (ty0 := tyX4) (ty := .boolean) (v := vi z) (z := z) rfl rfl (by decide) kWX4 rfl hlink tyX4_ok nmX4 rfl (by decide +kernel) (fun _ => by rcases hz with rfl | rfl <;> rfl) (fun _ => by rcases hz with rfl | rfl <;> rfl) (fun _ => by show Value.int (Int32.ofInt (upN N 1 i 4 z 1 i 4)) = _; rw [upN_eq]; rfl) hat kk
theorem gf_X5_accounts {idx i : Nat} (hlink : Cond.fieldLink Y.1.cls idx RX5 "accounts" "I" ∈ TW) (hat : At Y pc (.getfield idx) 3 pc') (kk : AW K Y h Q pc' ls (vi (N 20 i 0) :: st) N g) : AW K Y h Q pc ls (vr 20 i :: st) N g := r_get (k := 20) (j := 0) (c := 4) (C := RX5) (T := TX5) (n := 11) (v := vi (N 20 i 0)) rfl rfl (by decide) kWX5 rfl hlink (fun _ => rfl) (fun _ _ _ => trivial) hat kk
theorem pf_X5_accounts {idx i : Nat} {z : Int} (hlink : Cond.fieldLink Y.1.cls idx RX5 "accounts" "I" ∈ TW) (hat : At Y pc (.putfield idx) 3 pc') (kk : AW K Y h Q pc' ls st (upN N 20 i 0 z) g) : AW K Y h Q pc ls (vi z :: vr 20 i :: st) N g := r_put (k := 20) (j := 0) (c := 4) (C := RX5) (T := TX5) (n := 11) (ty0 := tyX5) (ty := .int) (v := vi z) (z := z) rfl rfl (by decide) kWX5 rfl hlink tyX5_ok nmX5 rfl (by decide +kernel) (fun _ => rfl) (fun _ => rfl) (fun _ => by show Value.int (Int32.ofInt (upN N 20 i 0 z 20 i 0)) = _; rw [upN_eq]; rfl) hat kk
theorem gf_X5_benefit {idx i : Nat} (hlink : Cond.fieldLink Y.1.cls idx RX5 "benefit" "I" ∈ TW) (hat : At Y pc (.getfield idx) 3 pc') (kk : AW K Y h Q pc' ls (vi (N 20 i 1) :: st) N g) : AW K Y h Q pc ls (vr 20 i :: st) N g := r_get (k := 20) (j := 1) (c := 4) (C := RX5) (T := TX5) (n := 11) (v := vi (N 20 i 1)) rfl rfl (by decide) kWX5 rfl hlink (fun _ => rfl) (fun _ _ _ => trivial) hat kk
theorem pf_X5_benefit {idx i : Nat} {z : Int} (hlink : Cond.fieldLink Y.1.cls idx RX5 "benefit" "I" ∈ TW) (hat : At Y pc (.putfield idx) 3 pc') (kk : AW K Y h Q pc' ls st (upN N 20 i 1 z) g) : AW K Y h Q pc ls (vi z :: vr 20 i :: st) N g := r_put (k := 20) (j := 1) (c := 4) (C := RX5) (T := TX5) (n := 11) (ty0 := tyX5) (ty := .int) (v := vi z) (z := z) rfl rfl (by decide) kWX5 rfl hlink tyX5_ok nmX5 rfl (by decide +kernel) (fun _ => rfl) (fun _ => rfl) (fun _ => by show Value.int (Int32.ofInt (upN N 20 i 1 z 20 i 1)) = _; rw [upN_eq]; rfl) hat kk
theorem gf_X5_termCounts {idx i : Nat} (hlink : Cond.fieldLink Y.1.cls idx RX5 "termCounts" "[I" ∈ TW) (hat : At Y pc (.getfield idx) 3 pc') (kk : AW K Y h Q pc' ls (vr 21 (i) :: st) N g) : AW K Y h Q pc ls (vr 20 i :: st) N g := r_get (k := 20) (j := 2) (c := 4) (C := RX5) (T := TX5) (n := 11) (v := vr 21 (i)) rfl rfl (by decide) kWX5 rfl hlink (fun _ => rfl) (fun _ _ q => q) hat kk
theorem gf_X5_terms {idx i : Nat} (hlink : Cond.fieldLink Y.1.cls idx RX5 "terms" "[[I" ∈ TW) (hat : At Y pc (.getfield idx) 3 pc') (kk : AW K Y h Q pc' ls (vr 22 (i) :: st) N g) : AW K Y h Q pc ls (vr 20 i :: st) N g := r_get (k := 20) (j := 3) (c := 4) (C := RX5) (T := TX5) (n := 11) (v := vr 22 (i)) rfl rfl (by decide) kWX5 rfl hlink (fun _ => rfl) (fun _ _ q => q) hat kk
theorem gf_X5_signs {idx i : Nat} (hlink : Cond.fieldLink Y.1.cls idx RX5 "signs" "[[I" ∈ TW) (hat : At Y pc (.getfield idx) 3 pc') (kk : AW K Y h Q pc' ls (vr 24 (i) :: st) N g) : AW K Y h Q pc ls (vr 20 i :: st) N g := r_get (k := 20) (j := 4) (c := 4) (C := RX5) (T := TX5) (n := 11) (v := vr 24 (i)) rfl rfl (by decide) kWX5 rfl hlink (fun _ => rfl) (fun _ _ q => q) hat kk
theorem gf_X5_depths {idx i : Nat} (hlink : Cond.fieldLink Y.1.cls idx RX5 "depths" "[I" ∈ TW) (hat : At Y pc (.getfield idx) 3 pc') (kk : AW K Y h Q pc' ls (vr 26 (i) :: st) N g) : AW K Y h Q pc ls (vr 20 i :: st) N g := r_get (k := 20) (j := 5) (c := 4) (C := RX5) (T := TX5) (n := 11) (v := vr 26 (i)) rfl rfl (by decide) kWX5 rfl hlink (fun _ => rfl) (fun _ _ q => q) hat kk
theorem gf_X5_segmentCounts {idx i : Nat} (hlink : Cond.fieldLink Y.1.cls idx RX5 "segmentCounts" "[I" ∈ TW) (hat : At Y pc (.getfield idx) 3 pc') (kk : AW K Y h Q pc' ls (vr 27 (i) :: st) N g) : AW K Y h Q pc ls (vr 20 i :: st) N g := r_get (k := 20) (j := 6) (c := 4) (C := RX5) (T := TX5) (n := 11) (v := vr 27 (i)) rfl rfl (by decide) kWX5 rfl hlink (fun _ => rfl) (fun _ _ q => q) hat kk
theorem gf_X5_froms {idx i : Nat} (hlink : Cond.fieldLink Y.1.cls idx RX5 "froms" "[[I" ∈ TW) (hat : At Y pc (.getfield idx) 3 pc') (kk : AW K Y h Q pc' ls (vr 28 (i) :: st) N g) : AW K Y h Q pc ls (vr 20 i :: st) N g := r_get (k := 20) (j := 7) (c := 4) (C := RX5) (T := TX5) (n := 11) (v := vr 28 (i)) rfl rfl (by decide) kWX5 rfl hlink (fun _ => rfl) (fun _ _ q => q) hat kk
theorem gf_X5_ats {idx i : Nat} (hlink : Cond.fieldLink Y.1.cls idx RX5 "ats" "[[I" ∈ TW) (hat : At Y pc (.getfield idx) 3 pc') (kk : AW K Y h Q pc' ls (vr 30 (i) :: st) N g) : AW K Y h Q pc ls (vr 20 i :: st) N g := r_get (k := 20) (j := 8) (c := 4) (C := RX5) (T := TX5) (n := 11) (v := vr 30 (i)) rfl rfl (by decide) kWX5 rfl hlink (fun _ => rfl) (fun _ _ q => q) hat kk
theorem gf_X5_slopes {idx i : Nat} (hlink : Cond.fieldLink Y.1.cls idx RX5 "slopes" "[[I" ∈ TW) (hat : At Y pc (.getfield idx) 3 pc') (kk : AW K Y h Q pc' ls (vr 32 (i) :: st) N g) : AW K Y h Q pc ls (vr 20 i :: st) N g := r_get (k := 20) (j := 9) (c := 4) (C := RX5) (T := TX5) (n := 11) (v := vr 32 (i)) rfl rfl (by decide) kWX5 rfl hlink (fun _ => rfl) (fun _ _ q => q) hat kk
theorem gf_X5_bases {idx i : Nat} (hlink : Cond.fieldLink Y.1.cls idx RX5 "bases" "[[J" ∈ TW) (hat : At Y pc (.getfield idx) 3 pc') (kk : AW K Y h Q pc' ls (vr 34 (i) :: st) N g) : AW K Y h Q pc ls (vr 20 i :: st) N g := r_get (k := 20) (j := 10) (c := 4) (C := RX5) (T := TX5) (n := 11) (v := vr 34 (i)) rfl rfl (by decide) kWX5 rfl hlink (fun _ => rfl) (fun _ _ q => q) hat kk
theorem gf_X6_written {idx i : Nat} (hlink : Cond.fieldLink Y.1.cls idx RX6 "written" "I" ∈ TW) (hat : At Y pc (.getfield idx) 3 pc') (kk : AW K Y h Q pc' ls (vi (N 18 i 0) :: st) N g) : AW K Y h Q pc ls (vr 18 i :: st) N g := r_get (k := 18) (j := 0) (c := 5) (C := RX6) (T := TX6) (n := 3) (v := vi (N 18 i 0)) rfl rfl (by decide) kWX6 rfl hlink (fun _ => rfl) (fun _ _ _ => trivial) hat kk
theorem pf_X6_written {idx i : Nat} {z : Int} (hlink : Cond.fieldLink Y.1.cls idx RX6 "written" "I" ∈ TW) (hat : At Y pc (.putfield idx) 3 pc') (kk : AW K Y h Q pc' ls st (upN N 18 i 0 z) g) : AW K Y h Q pc ls (vi z :: vr 18 i :: st) N g := r_put (k := 18) (j := 0) (c := 5) (C := RX6) (T := TX6) (n := 3) (ty0 := tyX6) (ty := .int) (v := vi z) (z := z) rfl rfl (by decide) kWX6 rfl hlink tyX6_ok nmX6 rfl (by decide +kernel) (fun _ => rfl) (fun _ => rfl) (fun _ => by show Value.int (Int32.ofInt (upN N 18 i 0 z 18 i 0)) = _; rw [upN_eq]; rfl) hat kk
theorem gf_X6_wanted {idx i : Nat} (hlink : Cond.fieldLink Y.1.cls idx RX6 "wanted" "I" ∈ TW) (hat : At Y pc (.getfield idx) 3 pc') (kk : AW K Y h Q pc' ls (vi (N 18 i 1) :: st) N g) : AW K Y h Q pc ls (vr 18 i :: st) N g := r_get (k := 18) (j := 1) (c := 5) (C := RX6) (T := TX6) (n := 3) (v := vi (N 18 i 1)) rfl rfl (by decide) kWX6 rfl hlink (fun _ => rfl) (fun _ _ _ => trivial) hat kk
theorem pf_X6_wanted {idx i : Nat} {z : Int} (hlink : Cond.fieldLink Y.1.cls idx RX6 "wanted" "I" ∈ TW) (hat : At Y pc (.putfield idx) 3 pc') (kk : AW K Y h Q pc' ls st (upN N 18 i 1 z) g) : AW K Y h Q pc ls (vi z :: vr 18 i :: st) N g := r_put (k := 18) (j := 1) (c := 5) (C := RX6) (T := TX6) (n := 3) (ty0 := tyX6) (ty := .int) (v := vi z) (z := z) rfl rfl (by decide) kWX6 rfl hlink tyX6_ok nmX6 rfl (by decide +kernel) (fun _ => rfl) (fun _ => rfl) (fun _ => by show Value.int (Int32.ofInt (upN N 18 i 1 z 18 i 1)) = _; rw [upN_eq]; rfl) hat kk
theorem gf_X6_found {idx i : Nat} (hlink : Cond.fieldLink Y.1.cls idx RX6 "found" "I" ∈ TW) (hat : At Y pc (.getfield idx) 3 pc') (kk : AW K Y h Q pc' ls (vi (N 18 i 2) :: st) N g) : AW K Y h Q pc ls (vr 18 i :: st) N g := r_get (k := 18) (j := 2) (c := 5) (C := RX6) (T := TX6) (n := 3) (v := vi (N 18 i 2)) rfl rfl (by decide) kWX6 rfl hlink (fun _ => rfl) (fun _ _ _ => trivial) hat kk
theorem pf_X6_found {idx i : Nat} {z : Int} (hlink : Cond.fieldLink Y.1.cls idx RX6 "found" "I" ∈ TW) (hat : At Y pc (.putfield idx) 3 pc') (kk : AW K Y h Q pc' ls st (upN N 18 i 2 z) g) : AW K Y h Q pc ls (vi z :: vr 18 i :: st) N g := r_put (k := 18) (j := 2) (c := 5) (C := RX6) (T := TX6) (n := 3) (ty0 := tyX6) (ty := .int) (v := vi z) (z := z) rfl rfl (by decide) kWX6 rfl hlink tyX6_ok nmX6 rfl (by decide +kernel) (fun _ => rfl) (fun _ => rfl) (fun _ => by show Value.int (Int32.ofInt (upN N 18 i 2 z 18 i 2)) = _; rw [upN_eq]; rfl) hat kk
theorem gf_X8_wages {idx i : Nat} (hlink : Cond.fieldLink Y.1.cls idx RX8 "wages" "[I" ∈ TW) (hat : At Y pc (.getfield idx) 3 pc') (kk : AW K Y h Q pc' ls (vr 17 (0) :: st) N g) : AW K Y h Q pc ls (vr 16 i :: st) N g := r_get (k := 16) (j := 0) (c := 6) (C := RX8) (T := TX8) (n := 2) (v := vr 17 (0)) rfl rfl (by decide) kWX8 rfl hlink (fun _ => rfl) (fun _ _ _ => (show _ < _ by decide)) hat kk
theorem gf_X8_passed {idx i : Nat} (hlink : Cond.fieldLink Y.1.cls idx RX8 "passed" "I" ∈ TW) (hat : At Y pc (.getfield idx) 3 pc') (kk : AW K Y h Q pc' ls (vi (N 16 i 1) :: st) N g) : AW K Y h Q pc ls (vr 16 i :: st) N g := r_get (k := 16) (j := 1) (c := 6) (C := RX8) (T := TX8) (n := 2) (v := vi (N 16 i 1)) rfl rfl (by decide) kWX8 rfl hlink (fun _ => rfl) (fun _ _ _ => trivial) hat kk
theorem pf_X8_passed {idx i : Nat} {z : Int} (hlink : Cond.fieldLink Y.1.cls idx RX8 "passed" "I" ∈ TW) (hat : At Y pc (.putfield idx) 3 pc') (kk : AW K Y h Q pc' ls st (upN N 16 i 1 z) g) : AW K Y h Q pc ls (vi z :: vr 16 i :: st) N g := r_put (k := 16) (j := 1) (c := 6) (C := RX8) (T := TX8) (n := 2) (ty0 := tyX8) (ty := .int) (v := vi z) (z := z) rfl rfl (by decide) kWX8 rfl hlink tyX8_ok nmX8 rfl (by decide +kernel) (fun _ => rfl) (fun _ => rfl) (fun _ => by show Value.int (Int32.ofInt (upN N 16 i 1 z 16 i 1)) = _; rw [upN_eq]; rfl) hat kk
theorem gf_X9_reader {idx i : Nat} (hlink : Cond.fieldLink Y.1.cls idx RX9 "reader" "LPayPromise$Reader;" ∈ TW) (hat : At Y pc (.getfield idx) 3 pc') (kk : AW K Y h Q pc' ls (vr 1 (0) :: st) N g) : AW K Y h Q pc ls (vr 0 i :: st) N g := r_get (k := 0) (j := 0) (c := 7) (C := RX9) (T := TX9) (n := 11) (v := vr 1 (0)) rfl rfl (by decide) kWX9 rfl hlink (fun _ => rfl) (fun _ _ _ => (show _ < _ by decide)) hat kk
theorem gf_X9_point {idx i : Nat} (hlink : Cond.fieldLink Y.1.cls idx RX9 "point" "LPayPromise$Point;" ∈ TW) (hat : At Y pc (.getfield idx) 3 pc') (kk : AW K Y h Q pc' ls (vr 3 (0) :: st) N g) : AW K Y h Q pc ls (vr 0 i :: st) N g := r_get (k := 0) (j := 1) (c := 7) (C := RX9) (T := TX9) (n := 11) (v := vr 3 (0)) rfl rfl (by decide) kWX9 rfl hlink (fun _ => rfl) (fun _ _ _ => (show _ < _ by decide)) hat kk
theorem gf_X9_lines {idx i : Nat} (hlink : Cond.fieldLink Y.1.cls idx RX9 "lines" "LPayPromise$Lines;" ∈ TW) (hat : At Y pc (.getfield idx) 3 pc') (kk : AW K Y h Q pc' ls (vr 7 (0) :: st) N g) : AW K Y h Q pc ls (vr 0 i :: st) N g := r_get (k := 0) (j := 2) (c := 7) (C := RX9) (T := TX9) (n := 11) (v := vr 7 (0)) rfl rfl (by decide) kWX9 rfl hlink (fun _ => rfl) (fun _ _ _ => (show _ < _ by decide)) hat kk
theorem gf_X9_between {idx i : Nat} (hlink : Cond.fieldLink Y.1.cls idx RX9 "between" "LPayPromise$Line;" ∈ TW) (hat : At Y pc (.getfield idx) 3 pc') (kk : AW K Y h Q pc' ls (vr 12 (7) :: st) N g) : AW K Y h Q pc ls (vr 0 i :: st) N g := r_get (k := 0) (j := 3) (c := 7) (C := RX9) (T := TX9) (n := 11) (v := vr 12 (7)) rfl rfl (by decide) kWX9 rfl hlink (fun _ => rfl) (fun _ _ _ => (show _ < _ by decide)) hat kk
theorem gf_X9_months {idx i : Nat} (hlink : Cond.fieldLink Y.1.cls idx RX9 "months" "LPayPromise$Year;" ∈ TW) (hat : At Y pc (.getfield idx) 3 pc') (kk : AW K Y h Q pc' ls (vr 16 (0) :: st) N g) : AW K Y h Q pc ls (vr 0 i :: st) N g := r_get (k := 0) (j := 4) (c := 7) (C := RX9) (T := TX9) (n := 11) (v := vr 16 (0)) rfl rfl (by decide) kWX9 rfl hlink (fun _ => rfl) (fun _ _ _ => (show _ < _ by decide)) hat kk
theorem gf_X9_speller {idx i : Nat} (hlink : Cond.fieldLink Y.1.cls idx RX9 "speller" "LPayPromise$Speller;" ∈ TW) (hat : At Y pc (.getfield idx) 3 pc') (kk : AW K Y h Q pc' ls (vr 18 (0) :: st) N g) : AW K Y h Q pc ls (vr 0 i :: st) N g := r_get (k := 0) (j := 5) (c := 7) (C := RX9) (T := TX9) (n := 11) (v := vr 18 (0)) rfl rfl (by decide) kWX9 rfl hlink (fun _ => rfl) (fun _ _ _ => (show _ < _ by decide)) hat kk
theorem gf_X9_refusals {idx i : Nat} (hlink : Cond.fieldLink Y.1.cls idx RX9 "refusals" "[I" ∈ TW) (hat : At Y pc (.getfield idx) 3 pc') (kk : AW K Y h Q pc' ls (vr 19 (0) :: st) N g) : AW K Y h Q pc ls (vr 0 i :: st) N g := r_get (k := 0) (j := 6) (c := 7) (C := RX9) (T := TX9) (n := 11) (v := vr 19 (0)) rfl rfl (by decide) kWX9 rfl hlink (fun _ => rfl) (fun _ _ _ => (show _ < _ by decide)) hat kk
theorem gf_X9_rules {idx i : Nat} (hlink : Cond.fieldLink Y.1.cls idx RX9 "rules" "LPayPromise$Rules;" ∈ TW) (hat : At Y pc (.getfield idx) 3 pc') (kk : AW K Y h Q pc' ls (vr 20 (g.1) :: st) N g) : AW K Y h Q pc ls (vr 0 i :: st) N g := r_get (k := 0) (j := 7) (c := 7) (C := RX9) (T := TX9) (n := 11) (v := vr 20 (g.1)) rfl rfl (by decide) kWX9 rfl hlink (fun _ => rfl) (fun q _ _ => q) hat kk
theorem gf_X9_draft {idx i : Nat} (hlink : Cond.fieldLink Y.1.cls idx RX9 "draft" "LPayPromise$Rules;" ∈ TW) (hat : At Y pc (.getfield idx) 3 pc') (kk : AW K Y h Q pc' ls (vr 20 (g.2.1) :: st) N g) : AW K Y h Q pc ls (vr 0 i :: st) N g := r_get (k := 0) (j := 8) (c := 7) (C := RX9) (T := TX9) (n := 11) (v := vr 20 (g.2.1)) rfl rfl (by decide) kWX9 rfl hlink (fun _ => rfl) (fun _ q _ => q) hat kk
theorem gf_X9_hasDesk {idx i : Nat} (hlink : Cond.fieldLink Y.1.cls idx RX9 "hasDesk" "Z" ∈ TW) (hat : At Y pc (.getfield idx) 3 pc') (kk : AW K Y h Q pc' ls (vi (N 0 i 9) :: st) N g) : AW K Y h Q pc ls (vr 0 i :: st) N g := r_get (k := 0) (j := 9) (c := 7) (C := RX9) (T := TX9) (n := 11) (v := vi (N 0 i 9)) rfl rfl (by decide) kWX9 rfl hlink (fun _ => rfl) (fun _ _ _ => trivial) hat kk
theorem pf_X9_hasDesk {idx i : Nat} {z : Int} (hz : z = 0 ∨ z = 1) (hlink : Cond.fieldLink Y.1.cls idx RX9 "hasDesk" "Z" ∈ TW) (hat : At Y pc (.putfield idx) 3 pc') (kk : AW K Y h Q pc' ls st (upN N 0 i 9 z) g) : AW K Y h Q pc ls (vi z :: vr 0 i :: st) N g := r_put (k := 0) (j := 9) (c := 7) (C := RX9) (T := TX9) (n := 11) (ty0 := tyX9) (ty := .boolean) (v := vi z) (z := z) rfl rfl (by decide) kWX9 rfl hlink tyX9_ok nmX9 rfl (by decide +kernel) (fun _ => by rcases hz with rfl | rfl <;> rfl) (fun _ => by rcases hz with rfl | rfl <;> rfl) (fun _ => by show Value.int (Int32.ofInt (upN N 0 i 9 z 0 i 9)) = _; rw [upN_eq]; rfl) hat kk
theorem gf_X9_stale {idx i : Nat} (hlink : Cond.fieldLink Y.1.cls idx RX9 "stale" "Z" ∈ TW) (hat : At Y pc (.getfield idx) 3 pc') (kk : AW K Y h Q pc' ls (vi (N 0 i 10) :: st) N g) : AW K Y h Q pc ls (vr 0 i :: st) N g := r_get (k := 0) (j := 10) (c := 7) (C := RX9) (T := TX9) (n := 11) (v := vi (N 0 i 10)) rfl rfl (by decide) kWX9 rfl hlink (fun _ => rfl) (fun _ _ _ => trivial) hat kk
theorem pf_X9_stale {idx i : Nat} {z : Int} (hz : z = 0 ∨ z = 1) (hlink : Cond.fieldLink Y.1.cls idx RX9 "stale" "Z" ∈ TW) (hat : At Y pc (.putfield idx) 3 pc') (kk : AW K Y h Q pc' ls st (upN N 0 i 10 z) g) : AW K Y h Q pc ls (vi z :: vr 0 i :: st) N g := r_put (k := 0) (j := 10) (c := 7) (C := RX9) (T := TX9) (n := 11) (ty0 := tyX9) (ty := .boolean) (v := vi z) (z := z) rfl rfl (by decide) kWX9 rfl hlink tyX9_ok nmX9 rfl (by decide +kernel) (fun _ => by rcases hz with rfl | rfl <;> rfl) (fun _ => by rcases hz with rfl | rfl <;> rfl) (fun _ => by show Value.int (Int32.ofInt (upN N 0 i 10 z 0 i 10)) = _; rw [upN_eq]; rfl) hat kk
theorem gf_X10_thrown {idx i : Nat} (hlink : Cond.fieldLink Y.1.cls idx RX10 "thrown" "I" ∈ TW) (hat : At Y pc (.getfield idx) 3 pc') (kk : AW K Y h Q pc' ls (vi (N 40 i 0) :: st) N g) : AW K Y h Q pc ls (vr 40 i :: st) N g := r_get (k := 40) (j := 0) (c := 8) (C := RX10) (T := TX10) (n := 34) (v := vi (N 40 i 0)) rfl rfl (by decide) kWX10 rfl hlink (fun _ => rfl) (fun _ _ _ => trivial) hat kk
theorem pf_X10_thrown {idx i : Nat} {z : Int} (hlink : Cond.fieldLink Y.1.cls idx RX10 "thrown" "I" ∈ TW) (hat : At Y pc (.putfield idx) 3 pc') (kk : AW K Y h Q pc' ls st (upN N 40 i 0 z) g) : AW K Y h Q pc ls (vi z :: vr 40 i :: st) N g := r_put (k := 40) (j := 0) (c := 8) (C := RX10) (T := TX10) (n := 34) (ty0 := tyX10) (ty := .int) (v := vi z) (z := z) rfl rfl (by decide) kWX10 rfl hlink tyX10_ok nmX10 rfl (by decide +kernel) (fun _ => rfl) (fun _ => rfl) (fun _ => by show Value.int (Int32.ofInt (upN N 40 i 0 z 40 i 0)) = _; rw [upN_eq]; rfl) hat kk
theorem gf_X10_tape {idx i : Nat} (hlink : Cond.fieldLink Y.1.cls idx RX10 "tape" "[I" ∈ TW) (hat : At Y pc (.getfield idx) 3 pc') (kk : AW K Y h Q pc' ls (vr 41 (0) :: st) N g) : AW K Y h Q pc ls (vr 40 i :: st) N g := r_get (k := 40) (j := 1) (c := 8) (C := RX10) (T := TX10) (n := 34) (v := vr 41 (0)) rfl rfl (by decide) kWX10 rfl hlink (fun _ => rfl) (fun _ _ _ => (show _ < _ by decide)) hat kk
theorem gf_X10_taped {idx i : Nat} (hlink : Cond.fieldLink Y.1.cls idx RX10 "taped" "I" ∈ TW) (hat : At Y pc (.getfield idx) 3 pc') (kk : AW K Y h Q pc' ls (vi (N 40 i 2) :: st) N g) : AW K Y h Q pc ls (vr 40 i :: st) N g := r_get (k := 40) (j := 2) (c := 8) (C := RX10) (T := TX10) (n := 34) (v := vi (N 40 i 2)) rfl rfl (by decide) kWX10 rfl hlink (fun _ => rfl) (fun _ _ _ => trivial) hat kk
theorem pf_X10_taped {idx i : Nat} {z : Int} (hlink : Cond.fieldLink Y.1.cls idx RX10 "taped" "I" ∈ TW) (hat : At Y pc (.putfield idx) 3 pc') (kk : AW K Y h Q pc' ls st (upN N 40 i 2 z) g) : AW K Y h Q pc ls (vi z :: vr 40 i :: st) N g := r_put (k := 40) (j := 2) (c := 8) (C := RX10) (T := TX10) (n := 34) (ty0 := tyX10) (ty := .int) (v := vi z) (z := z) rfl rfl (by decide) kWX10 rfl hlink tyX10_ok nmX10 rfl (by decide +kernel) (fun _ => rfl) (fun _ => rfl) (fun _ => by show Value.int (Int32.ofInt (upN N 40 i 2 z 40 i 2)) = _; rw [upN_eq]; rfl) hat kk
theorem gf_X10_at {idx i : Nat} (hlink : Cond.fieldLink Y.1.cls idx RX10 "at" "I" ∈ TW) (hat : At Y pc (.getfield idx) 3 pc') (kk : AW K Y h Q pc' ls (vi (N 40 i 3) :: st) N g) : AW K Y h Q pc ls (vr 40 i :: st) N g := r_get (k := 40) (j := 3) (c := 8) (C := RX10) (T := TX10) (n := 34) (v := vi (N 40 i 3)) rfl rfl (by decide) kWX10 rfl hlink (fun _ => rfl) (fun _ _ _ => trivial) hat kk
theorem pf_X10_at {idx i : Nat} {z : Int} (hlink : Cond.fieldLink Y.1.cls idx RX10 "at" "I" ∈ TW) (hat : At Y pc (.putfield idx) 3 pc') (kk : AW K Y h Q pc' ls st (upN N 40 i 3 z) g) : AW K Y h Q pc ls (vi z :: vr 40 i :: st) N g := r_put (k := 40) (j := 3) (c := 8) (C := RX10) (T := TX10) (n := 34) (ty0 := tyX10) (ty := .int) (v := vi z) (z := z) rfl rfl (by decide) kWX10 rfl hlink tyX10_ok nmX10 rfl (by decide +kernel) (fun _ => rfl) (fun _ => rfl) (fun _ => by show Value.int (Int32.ofInt (upN N 40 i 3 z 40 i 3)) = _; rw [upN_eq]; rfl) hat kk
theorem gf_X10_wrong {idx i : Nat} (hlink : Cond.fieldLink Y.1.cls idx RX10 "wrong" "I" ∈ TW) (hat : At Y pc (.getfield idx) 3 pc') (kk : AW K Y h Q pc' ls (vi (N 40 i 4) :: st) N g) : AW K Y h Q pc ls (vr 40 i :: st) N g := r_get (k := 40) (j := 4) (c := 8) (C := RX10) (T := TX10) (n := 34) (v := vi (N 40 i 4)) rfl rfl (by decide) kWX10 rfl hlink (fun _ => rfl) (fun _ _ _ => trivial) hat kk
theorem pf_X10_wrong {idx i : Nat} {z : Int} (hlink : Cond.fieldLink Y.1.cls idx RX10 "wrong" "I" ∈ TW) (hat : At Y pc (.putfield idx) 3 pc') (kk : AW K Y h Q pc' ls st (upN N 40 i 4 z) g) : AW K Y h Q pc ls (vi z :: vr 40 i :: st) N g := r_put (k := 40) (j := 4) (c := 8) (C := RX10) (T := TX10) (n := 34) (ty0 := tyX10) (ty := .int) (v := vi z) (z := z) rfl rfl (by decide) kWX10 rfl hlink tyX10_ok nmX10 rfl (by decide +kernel) (fun _ => rfl) (fun _ => rfl) (fun _ => by show Value.int (Int32.ofInt (upN N 40 i 4 z 40 i 4)) = _; rw [upN_eq]; rfl) hat kk
theorem gf_X10_readTerms {idx i : Nat} (hlink : Cond.fieldLink Y.1.cls idx RX10 "readTerms" "[I" ∈ TW) (hat : At Y pc (.getfield idx) 3 pc') (kk : AW K Y h Q pc' ls (vr 42 (0) :: st) N g) : AW K Y h Q pc ls (vr 40 i :: st) N g := r_get (k := 40) (j := 5) (c := 8) (C := RX10) (T := TX10) (n := 34) (v := vr 42 (0)) rfl rfl (by decide) kWX10 rfl hlink (fun _ => rfl) (fun _ _ _ => (show _ < _ by decide)) hat kk
theorem gf_X10_terms {idx i : Nat} (hlink : Cond.fieldLink Y.1.cls idx RX10 "terms" "[I" ∈ TW) (hat : At Y pc (.getfield idx) 3 pc') (kk : AW K Y h Q pc' ls (vr 43 (0) :: st) N g) : AW K Y h Q pc ls (vr 40 i :: st) N g := r_get (k := 40) (j := 6) (c := 8) (C := RX10) (T := TX10) (n := 34) (v := vr 43 (0)) rfl rfl (by decide) kWX10 rfl hlink (fun _ => rfl) (fun _ _ _ => (show _ < _ by decide)) hat kk
theorem gf_X10_readSign {idx i : Nat} (hlink : Cond.fieldLink Y.1.cls idx RX10 "readSign" "[I" ∈ TW) (hat : At Y pc (.getfield idx) 3 pc') (kk : AW K Y h Q pc' ls (vr 44 (0) :: st) N g) : AW K Y h Q pc ls (vr 40 i :: st) N g := r_get (k := 40) (j := 7) (c := 8) (C := RX10) (T := TX10) (n := 34) (v := vr 44 (0)) rfl rfl (by decide) kWX10 rfl hlink (fun _ => rfl) (fun _ _ _ => (show _ < _ by decide)) hat kk
theorem gf_X10_sign {idx i : Nat} (hlink : Cond.fieldLink Y.1.cls idx RX10 "sign" "[I" ∈ TW) (hat : At Y pc (.getfield idx) 3 pc') (kk : AW K Y h Q pc' ls (vr 45 (0) :: st) N g) : AW K Y h Q pc ls (vr 40 i :: st) N g := r_get (k := 40) (j := 8) (c := 8) (C := RX10) (T := TX10) (n := 34) (v := vr 45 (0)) rfl rfl (by decide) kWX10 rfl hlink (fun _ => rfl) (fun _ _ _ => (show _ < _ by decide)) hat kk
theorem gf_X10_readWhat {idx i : Nat} (hlink : Cond.fieldLink Y.1.cls idx RX10 "readWhat" "[I" ∈ TW) (hat : At Y pc (.getfield idx) 3 pc') (kk : AW K Y h Q pc' ls (vr 46 (0) :: st) N g) : AW K Y h Q pc ls (vr 40 i :: st) N g := r_get (k := 40) (j := 9) (c := 8) (C := RX10) (T := TX10) (n := 34) (v := vr 46 (0)) rfl rfl (by decide) kWX10 rfl hlink (fun _ => rfl) (fun _ _ _ => (show _ < _ by decide)) hat kk
theorem gf_X10_what {idx i : Nat} (hlink : Cond.fieldLink Y.1.cls idx RX10 "what" "[I" ∈ TW) (hat : At Y pc (.getfield idx) 3 pc') (kk : AW K Y h Q pc' ls (vr 47 (0) :: st) N g) : AW K Y h Q pc ls (vr 40 i :: st) N g := r_get (k := 40) (j := 10) (c := 8) (C := RX10) (T := TX10) (n := 34) (v := vr 47 (0)) rfl rfl (by decide) kWX10 rfl hlink (fun _ => rfl) (fun _ _ _ => (show _ < _ by decide)) hat kk
theorem gf_X10_readMany {idx i : Nat} (hlink : Cond.fieldLink Y.1.cls idx RX10 "readMany" "[I" ∈ TW) (hat : At Y pc (.getfield idx) 3 pc') (kk : AW K Y h Q pc' ls (vr 48 (0) :: st) N g) : AW K Y h Q pc ls (vr 40 i :: st) N g := r_get (k := 40) (j := 11) (c := 8) (C := RX10) (T := TX10) (n := 34) (v := vr 48 (0)) rfl rfl (by decide) kWX10 rfl hlink (fun _ => rfl) (fun _ _ _ => (show _ < _ by decide)) hat kk
theorem gf_X10_many {idx i : Nat} (hlink : Cond.fieldLink Y.1.cls idx RX10 "many" "[I" ∈ TW) (hat : At Y pc (.getfield idx) 3 pc') (kk : AW K Y h Q pc' ls (vr 49 (0) :: st) N g) : AW K Y h Q pc ls (vr 40 i :: st) N g := r_get (k := 40) (j := 12) (c := 8) (C := RX10) (T := TX10) (n := 34) (v := vr 49 (0)) rfl rfl (by decide) kWX10 rfl hlink (fun _ => rfl) (fun _ _ _ => (show _ < _ by decide)) hat kk
theorem gf_X10_readSegment {idx i : Nat} (hlink : Cond.fieldLink Y.1.cls idx RX10 "readSegment" "[I" ∈ TW) (hat : At Y pc (.getfield idx) 3 pc') (kk : AW K Y h Q pc' ls (vr 50 (0) :: st) N g) : AW K Y h Q pc ls (vr 40 i :: st) N g := r_get (k := 40) (j := 13) (c := 8) (C := RX10) (T := TX10) (n := 34) (v := vr 50 (0)) rfl rfl (by decide) kWX10 rfl hlink (fun _ => rfl) (fun _ _ _ => (show _ < _ by decide)) hat kk
theorem gf_X10_segment {idx i : Nat} (hlink : Cond.fieldLink Y.1.cls idx RX10 "segment" "[I" ∈ TW) (hat : At Y pc (.getfield idx) 3 pc') (kk : AW K Y h Q pc' ls (vr 51 (0) :: st) N g) : AW K Y h Q pc ls (vr 40 i :: st) N g := r_get (k := 40) (j := 14) (c := 8) (C := RX10) (T := TX10) (n := 34) (v := vr 51 (0)) rfl rfl (by decide) kWX10 rfl hlink (fun _ => rfl) (fun _ _ _ => (show _ < _ by decide)) hat kk
theorem gf_X10_readDeep {idx i : Nat} (hlink : Cond.fieldLink Y.1.cls idx RX10 "readDeep" "[I" ∈ TW) (hat : At Y pc (.getfield idx) 3 pc') (kk : AW K Y h Q pc' ls (vr 52 (0) :: st) N g) : AW K Y h Q pc ls (vr 40 i :: st) N g := r_get (k := 40) (j := 15) (c := 8) (C := RX10) (T := TX10) (n := 34) (v := vr 52 (0)) rfl rfl (by decide) kWX10 rfl hlink (fun _ => rfl) (fun _ _ _ => (show _ < _ by decide)) hat kk
theorem gf_X10_deep {idx i : Nat} (hlink : Cond.fieldLink Y.1.cls idx RX10 "deep" "[I" ∈ TW) (hat : At Y pc (.getfield idx) 3 pc') (kk : AW K Y h Q pc' ls (vr 53 (0) :: st) N g) : AW K Y h Q pc ls (vr 40 i :: st) N g := r_get (k := 40) (j := 16) (c := 8) (C := RX10) (T := TX10) (n := 34) (v := vr 53 (0)) rfl rfl (by decide) kWX10 rfl hlink (fun _ => rfl) (fun _ _ _ => (show _ < _ by decide)) hat kk
theorem gf_X10_readAccounts {idx i : Nat} (hlink : Cond.fieldLink Y.1.cls idx RX10 "readAccounts" "I" ∈ TW) (hat : At Y pc (.getfield idx) 3 pc') (kk : AW K Y h Q pc' ls (vi (N 40 i 17) :: st) N g) : AW K Y h Q pc ls (vr 40 i :: st) N g := r_get (k := 40) (j := 17) (c := 8) (C := RX10) (T := TX10) (n := 34) (v := vi (N 40 i 17)) rfl rfl (by decide) kWX10 rfl hlink (fun _ => rfl) (fun _ _ _ => trivial) hat kk
theorem pf_X10_readAccounts {idx i : Nat} {z : Int} (hlink : Cond.fieldLink Y.1.cls idx RX10 "readAccounts" "I" ∈ TW) (hat : At Y pc (.putfield idx) 3 pc') (kk : AW K Y h Q pc' ls st (upN N 40 i 17 z) g) : AW K Y h Q pc ls (vi z :: vr 40 i :: st) N g := r_put (k := 40) (j := 17) (c := 8) (C := RX10) (T := TX10) (n := 34) (ty0 := tyX10) (ty := .int) (v := vi z) (z := z) rfl rfl (by decide) kWX10 rfl hlink tyX10_ok nmX10 rfl (by decide +kernel) (fun _ => rfl) (fun _ => rfl) (fun _ => by show Value.int (Int32.ofInt (upN N 40 i 17 z 40 i 17)) = _; rw [upN_eq]; rfl) hat kk
theorem gf_X10_readBenefit {idx i : Nat} (hlink : Cond.fieldLink Y.1.cls idx RX10 "readBenefit" "I" ∈ TW) (hat : At Y pc (.getfield idx) 3 pc') (kk : AW K Y h Q pc' ls (vi (N 40 i 18) :: st) N g) : AW K Y h Q pc ls (vr 40 i :: st) N g := r_get (k := 40) (j := 18) (c := 8) (C := RX10) (T := TX10) (n := 34) (v := vi (N 40 i 18)) rfl rfl (by decide) kWX10 rfl hlink (fun _ => rfl) (fun _ _ _ => trivial) hat kk
theorem pf_X10_readBenefit {idx i : Nat} {z : Int} (hlink : Cond.fieldLink Y.1.cls idx RX10 "readBenefit" "I" ∈ TW) (hat : At Y pc (.putfield idx) 3 pc') (kk : AW K Y h Q pc' ls st (upN N 40 i 18 z) g) : AW K Y h Q pc ls (vi z :: vr 40 i :: st) N g := r_put (k := 40) (j := 18) (c := 8) (C := RX10) (T := TX10) (n := 34) (ty0 := tyX10) (ty := .int) (v := vi z) (z := z) rfl rfl (by decide) kWX10 rfl hlink tyX10_ok nmX10 rfl (by decide +kernel) (fun _ => rfl) (fun _ => rfl) (fun _ => by show Value.int (Int32.ofInt (upN N 40 i 18 z 40 i 18)) = _; rw [upN_eq]; rfl) hat kk
theorem gf_X10_accounts {idx i : Nat} (hlink : Cond.fieldLink Y.1.cls idx RX10 "accounts" "I" ∈ TW) (hat : At Y pc (.getfield idx) 3 pc') (kk : AW K Y h Q pc' ls (vi (N 40 i 19) :: st) N g) : AW K Y h Q pc ls (vr 40 i :: st) N g := r_get (k := 40) (j := 19) (c := 8) (C := RX10) (T := TX10) (n := 34) (v := vi (N 40 i 19)) rfl rfl (by decide) kWX10 rfl hlink (fun _ => rfl) (fun _ _ _ => trivial) hat kk
theorem pf_X10_accounts {idx i : Nat} {z : Int} (hlink : Cond.fieldLink Y.1.cls idx RX10 "accounts" "I" ∈ TW) (hat : At Y pc (.putfield idx) 3 pc') (kk : AW K Y h Q pc' ls st (upN N 40 i 19 z) g) : AW K Y h Q pc ls (vi z :: vr 40 i :: st) N g := r_put (k := 40) (j := 19) (c := 8) (C := RX10) (T := TX10) (n := 34) (ty0 := tyX10) (ty := .int) (v := vi z) (z := z) rfl rfl (by decide) kWX10 rfl hlink tyX10_ok nmX10 rfl (by decide +kernel) (fun _ => rfl) (fun _ => rfl) (fun _ => by show Value.int (Int32.ofInt (upN N 40 i 19 z 40 i 19)) = _; rw [upN_eq]; rfl) hat kk
theorem gf_X10_benefit {idx i : Nat} (hlink : Cond.fieldLink Y.1.cls idx RX10 "benefit" "I" ∈ TW) (hat : At Y pc (.getfield idx) 3 pc') (kk : AW K Y h Q pc' ls (vi (N 40 i 20) :: st) N g) : AW K Y h Q pc ls (vr 40 i :: st) N g := r_get (k := 40) (j := 20) (c := 8) (C := RX10) (T := TX10) (n := 34) (v := vi (N 40 i 20)) rfl rfl (by decide) kWX10 rfl hlink (fun _ => rfl) (fun _ _ _ => trivial) hat kk
theorem pf_X10_benefit {idx i : Nat} {z : Int} (hlink : Cond.fieldLink Y.1.cls idx RX10 "benefit" "I" ∈ TW) (hat : At Y pc (.putfield idx) 3 pc') (kk : AW K Y h Q pc' ls st (upN N 40 i 20 z) g) : AW K Y h Q pc ls (vi z :: vr 40 i :: st) N g := r_put (k := 40) (j := 20) (c := 8) (C := RX10) (T := TX10) (n := 34) (ty0 := tyX10) (ty := .int) (v := vi z) (z := z) rfl rfl (by decide) kWX10 rfl hlink tyX10_ok nmX10 rfl (by decide +kernel) (fun _ => rfl) (fun _ => rfl) (fun _ => by show Value.int (Int32.ofInt (upN N 40 i 20 z 40 i 20)) = _; rw [upN_eq]; rfl) hat kk
theorem gf_X10_hasBenefit {idx i : Nat} (hlink : Cond.fieldLink Y.1.cls idx RX10 "hasBenefit" "Z" ∈ TW) (hat : At Y pc (.getfield idx) 3 pc') (kk : AW K Y h Q pc' ls (vi (N 40 i 21) :: st) N g) : AW K Y h Q pc ls (vr 40 i :: st) N g := r_get (k := 40) (j := 21) (c := 8) (C := RX10) (T := TX10) (n := 34) (v := vi (N 40 i 21)) rfl rfl (by decide) kWX10 rfl hlink (fun _ => rfl) (fun _ _ _ => trivial) hat kk
theorem pf_X10_hasBenefit {idx i : Nat} {z : Int} (hz : z = 0 ∨ z = 1) (hlink : Cond.fieldLink Y.1.cls idx RX10 "hasBenefit" "Z" ∈ TW) (hat : At Y pc (.putfield idx) 3 pc') (kk : AW K Y h Q pc' ls st (upN N 40 i 21 z) g) : AW K Y h Q pc ls (vi z :: vr 40 i :: st) N g := r_put (k := 40) (j := 21) (c := 8) (C := RX10) (T := TX10) (n := 34) (ty0 := tyX10) (ty := .boolean) (v := vi z) (z := z) rfl rfl (by decide) kWX10 rfl hlink tyX10_ok nmX10 rfl (by decide +kernel) (fun _ => by rcases hz with rfl | rfl <;> rfl) (fun _ => by rcases hz with rfl | rfl <;> rfl) (fun _ => by show Value.int (Int32.ofInt (upN N 40 i 21 z 40 i 21)) = _; rw [upN_eq]; rfl) hat kk
theorem gf_X10_isDesk {idx i : Nat} (hlink : Cond.fieldLink Y.1.cls idx RX10 "isDesk" "Z" ∈ TW) (hat : At Y pc (.getfield idx) 3 pc') (kk : AW K Y h Q pc' ls (vi (N 40 i 22) :: st) N g) : AW K Y h Q pc ls (vr 40 i :: st) N g := r_get (k := 40) (j := 22) (c := 8) (C := RX10) (T := TX10) (n := 34) (v := vi (N 40 i 22)) rfl rfl (by decide) kWX10 rfl hlink (fun _ => rfl) (fun _ _ _ => trivial) hat kk
theorem pf_X10_isDesk {idx i : Nat} {z : Int} (hz : z = 0 ∨ z = 1) (hlink : Cond.fieldLink Y.1.cls idx RX10 "isDesk" "Z" ∈ TW) (hat : At Y pc (.putfield idx) 3 pc') (kk : AW K Y h Q pc' ls st (upN N 40 i 22 z) g) : AW K Y h Q pc ls (vi z :: vr 40 i :: st) N g := r_put (k := 40) (j := 22) (c := 8) (C := RX10) (T := TX10) (n := 34) (ty0 := tyX10) (ty := .boolean) (v := vi z) (z := z) rfl rfl (by decide) kWX10 rfl hlink tyX10_ok nmX10 rfl (by decide +kernel) (fun _ => by rcases hz with rfl | rfl <;> rfl) (fun _ => by rcases hz with rfl | rfl <;> rfl) (fun _ => by show Value.int (Int32.ofInt (upN N 40 i 22 z 40 i 22)) = _; rw [upN_eq]; rfl) hat kk
theorem gf_X10_refused {idx i : Nat} (hlink : Cond.fieldLink Y.1.cls idx RX10 "refused" "[I" ∈ TW) (hat : At Y pc (.getfield idx) 3 pc') (kk : AW K Y h Q pc' ls (vr 54 (0) :: st) N g) : AW K Y h Q pc ls (vr 40 i :: st) N g := r_get (k := 40) (j := 23) (c := 8) (C := RX10) (T := TX10) (n := 34) (v := vr 54 (0)) rfl rfl (by decide) kWX10 rfl hlink (fun _ => rfl) (fun _ _ _ => (show _ < _ by decide)) hat kk
theorem gf_X10_wage {idx i : Nat} (hlink : Cond.fieldLink Y.1.cls idx RX10 "wage" "[I" ∈ TW) (hat : At Y pc (.getfield idx) 3 pc') (kk : AW K Y h Q pc' ls (vr 55 (0) :: st) N g) : AW K Y h Q pc ls (vr 40 i :: st) N g := r_get (k := 40) (j := 24) (c := 8) (C := RX10) (T := TX10) (n := 34) (v := vr 55 (0)) rfl rfl (by decide) kWX10 rfl hlink (fun _ => rfl) (fun _ _ _ => (show _ < _ by decide)) hat kk
theorem gf_X10_months {idx i : Nat} (hlink : Cond.fieldLink Y.1.cls idx RX10 "months" "I" ∈ TW) (hat : At Y pc (.getfield idx) 3 pc') (kk : AW K Y h Q pc' ls (vi (N 40 i 25) :: st) N g) : AW K Y h Q pc ls (vr 40 i :: st) N g := r_get (k := 40) (j := 25) (c := 8) (C := RX10) (T := TX10) (n := 34) (v := vi (N 40 i 25)) rfl rfl (by decide) kWX10 rfl hlink (fun _ => rfl) (fun _ _ _ => trivial) hat kk
theorem pf_X10_months {idx i : Nat} {z : Int} (hlink : Cond.fieldLink Y.1.cls idx RX10 "months" "I" ∈ TW) (hat : At Y pc (.putfield idx) 3 pc') (kk : AW K Y h Q pc' ls st (upN N 40 i 25 z) g) : AW K Y h Q pc ls (vi z :: vr 40 i :: st) N g := r_put (k := 40) (j := 25) (c := 8) (C := RX10) (T := TX10) (n := 34) (ty0 := tyX10) (ty := .int) (v := vi z) (z := z) rfl rfl (by decide) kWX10 rfl hlink tyX10_ok nmX10 rfl (by decide +kernel) (fun _ => rfl) (fun _ => rfl) (fun _ => by show Value.int (Int32.ofInt (upN N 40 i 25 z 40 i 25)) = _; rw [upN_eq]; rfl) hat kk
theorem gf_X10_is {idx i : Nat} (hlink : Cond.fieldLink Y.1.cls idx RX10 "is" "[J" ∈ TW) (hat : At Y pc (.getfield idx) 3 pc') (kk : AW K Y h Q pc' ls (vr 56 (0) :: st) N g) : AW K Y h Q pc ls (vr 40 i :: st) N g := r_get (k := 40) (j := 26) (c := 8) (C := RX10) (T := TX10) (n := 34) (v := vr 56 (0)) rfl rfl (by decide) kWX10 rfl hlink (fun _ => rfl) (fun _ _ _ => (show _ < _ by decide)) hat kk
theorem gf_X10_held {idx i : Nat} (hlink : Cond.fieldLink Y.1.cls idx RX10 "held" "I" ∈ TW) (hat : At Y pc (.getfield idx) 3 pc') (kk : AW K Y h Q pc' ls (vi (N 40 i 27) :: st) N g) : AW K Y h Q pc ls (vr 40 i :: st) N g := r_get (k := 40) (j := 27) (c := 8) (C := RX10) (T := TX10) (n := 34) (v := vi (N 40 i 27)) rfl rfl (by decide) kWX10 rfl hlink (fun _ => rfl) (fun _ _ _ => trivial) hat kk
theorem pf_X10_held {idx i : Nat} {z : Int} (hlink : Cond.fieldLink Y.1.cls idx RX10 "held" "I" ∈ TW) (hat : At Y pc (.putfield idx) 3 pc') (kk : AW K Y h Q pc' ls st (upN N 40 i 27 z) g) : AW K Y h Q pc ls (vi z :: vr 40 i :: st) N g := r_put (k := 40) (j := 27) (c := 8) (C := RX10) (T := TX10) (n := 34) (ty0 := tyX10) (ty := .int) (v := vi z) (z := z) rfl rfl (by decide) kWX10 rfl hlink tyX10_ok nmX10 rfl (by decide +kernel) (fun _ => rfl) (fun _ => rfl) (fun _ => by show Value.int (Int32.ofInt (upN N 40 i 27 z 40 i 27)) = _; rw [upN_eq]; rfl) hat kk
theorem gf_X10_heldAt {idx i : Nat} (hlink : Cond.fieldLink Y.1.cls idx RX10 "heldAt" "J" ∈ TW) (hat : At Y pc (.getfield idx) 3 pc') (kk : AW K Y h Q pc' ls (vl (N 40 i 28) :: st) N g) : AW K Y h Q pc ls (vr 40 i :: st) N g := r_get (k := 40) (j := 28) (c := 8) (C := RX10) (T := TX10) (n := 34) (v := vl (N 40 i 28)) rfl rfl (by decide) kWX10 rfl hlink (fun _ => rfl) (fun _ _ _ => trivial) hat kk
theorem pf_X10_heldAt {idx i : Nat} {z : Int} (hlink : Cond.fieldLink Y.1.cls idx RX10 "heldAt" "J" ∈ TW) (hat : At Y pc (.putfield idx) 3 pc') (kk : AW K Y h Q pc' ls st (upN N 40 i 28 z) g) : AW K Y h Q pc ls (vl z :: vr 40 i :: st) N g := r_put (k := 40) (j := 28) (c := 8) (C := RX10) (T := TX10) (n := 34) (ty0 := tyX10) (ty := .long) (v := vl z) (z := z) rfl rfl (by decide) kWX10 rfl hlink tyX10_ok nmX10 rfl (by decide +kernel) (fun _ => rfl) (fun _ => rfl) (fun _ => by show Value.long (Int64.ofInt (upN N 40 i 28 z 40 i 28)) = _; rw [upN_eq]; rfl) hat kk
theorem gf_X10_line {idx i : Nat} (hlink : Cond.fieldLink Y.1.cls idx RX10 "line" "[J" ∈ TW) (hat : At Y pc (.getfield idx) 3 pc') (kk : AW K Y h Q pc' ls (vr 57 (0) :: st) N g) : AW K Y h Q pc ls (vr 40 i :: st) N g := r_get (k := 40) (j := 29) (c := 8) (C := RX10) (T := TX10) (n := 34) (v := vr 57 (0)) rfl rfl (by decide) kWX10 rfl hlink (fun _ => rfl) (fun _ _ _ => (show _ < _ by decide)) hat kk
theorem gf_X10_pieceFrom {idx i : Nat} (hlink : Cond.fieldLink Y.1.cls idx RX10 "pieceFrom" "[I" ∈ TW) (hat : At Y pc (.getfield idx) 3 pc') (kk : AW K Y h Q pc' ls (vr 58 (0) :: st) N g) : AW K Y h Q pc ls (vr 40 i :: st) N g := r_get (k := 40) (j := 30) (c := 8) (C := RX10) (T := TX10) (n := 34) (v := vr 58 (0)) rfl rfl (by decide) kWX10 rfl hlink (fun _ => rfl) (fun _ _ _ => (show _ < _ by decide)) hat kk
theorem gf_X10_pieces {idx i : Nat} (hlink : Cond.fieldLink Y.1.cls idx RX10 "pieces" "I" ∈ TW) (hat : At Y pc (.getfield idx) 3 pc') (kk : AW K Y h Q pc' ls (vi (N 40 i 31) :: st) N g) : AW K Y h Q pc ls (vr 40 i :: st) N g := r_get (k := 40) (j := 31) (c := 8) (C := RX10) (T := TX10) (n := 34) (v := vi (N 40 i 31)) rfl rfl (by decide) kWX10 rfl hlink (fun _ => rfl) (fun _ _ _ => trivial) hat kk
theorem pf_X10_pieces {idx i : Nat} {z : Int} (hlink : Cond.fieldLink Y.1.cls idx RX10 "pieces" "I" ∈ TW) (hat : At Y pc (.putfield idx) 3 pc') (kk : AW K Y h Q pc' ls st (upN N 40 i 31 z) g) : AW K Y h Q pc ls (vi z :: vr 40 i :: st) N g := r_put (k := 40) (j := 31) (c := 8) (C := RX10) (T := TX10) (n := 34) (ty0 := tyX10) (ty := .int) (v := vi z) (z := z) rfl rfl (by decide) kWX10 rfl hlink tyX10_ok nmX10 rfl (by decide +kernel) (fun _ => rfl) (fun _ => rfl) (fun _ => by show Value.int (Int32.ofInt (upN N 40 i 31 z 40 i 31)) = _; rw [upN_eq]; rfl) hat kk
theorem gf_X10_spelt {idx i : Nat} (hlink : Cond.fieldLink Y.1.cls idx RX10 "spelt" "[I" ∈ TW) (hat : At Y pc (.getfield idx) 3 pc') (kk : AW K Y h Q pc' ls (vr 59 (0) :: st) N g) : AW K Y h Q pc ls (vr 40 i :: st) N g := r_get (k := 40) (j := 32) (c := 8) (C := RX10) (T := TX10) (n := 34) (v := vr 59 (0)) rfl rfl (by decide) kWX10 rfl hlink (fun _ => rfl) (fun _ _ _ => (show _ < _ by decide)) hat kk
theorem gf_X10_speltMany {idx i : Nat} (hlink : Cond.fieldLink Y.1.cls idx RX10 "speltMany" "I" ∈ TW) (hat : At Y pc (.getfield idx) 3 pc') (kk : AW K Y h Q pc' ls (vi (N 40 i 33) :: st) N g) : AW K Y h Q pc ls (vr 40 i :: st) N g := r_get (k := 40) (j := 33) (c := 8) (C := RX10) (T := TX10) (n := 34) (v := vi (N 40 i 33)) rfl rfl (by decide) kWX10 rfl hlink (fun _ => rfl) (fun _ _ _ => trivial) hat kk
theorem pf_X10_speltMany {idx i : Nat} {z : Int} (hlink : Cond.fieldLink Y.1.cls idx RX10 "speltMany" "I" ∈ TW) (hat : At Y pc (.putfield idx) 3 pc') (kk : AW K Y h Q pc' ls st (upN N 40 i 33 z) g) : AW K Y h Q pc ls (vi z :: vr 40 i :: st) N g := r_put (k := 40) (j := 33) (c := 8) (C := RX10) (T := TX10) (n := 34) (ty0 := tyX10) (ty := .int) (v := vi z) (z := z) rfl rfl (by decide) kWX10 rfl hlink tyX10_ok nmX10 rfl (by decide +kernel) (fun _ => rfl) (fun _ => rfl) (fun _ => by show Value.int (Int32.ofInt (upN N 40 i 33 z 40 i 33)) = _; rw [upN_eq]; rfl) hat kk
theorem al_2 {i n : Nat} {j : Int} (hj : j = (n : Int)) (hn : n < 400) (hat : At Y pc .iaload 1 pc') (kk : AW K Y h Q pc' ls (vi (N 2 i n) :: st) N g) : AW K Y h Q pc ls (vi j :: vr 2 i :: st) N g := r_iald hj hn (Nat.lt_trans hn (show 400 < 2 ^ 31 by decide)) rfl hat kk
theorem as_2 {i n : Nat} {j v : Int} (hj : j = (n : Int)) (hn : n < 400) (hat : At Y pc .iastore 1 pc') (kk : AW K Y h Q pc' ls st (upN N 2 i n v) g) : AW K Y h Q pc ls (vi v :: vi j :: vr 2 i :: st) N g := r_iast hj hn (Nat.lt_trans hn (show 400 < 2 ^ 31 by decide)) rfl hat kk
theorem an_2 {i : Nat} (hat : At Y pc .arraylength 1 pc') (kk : AW K Y h Q pc' ls (vi ((400 : Nat) : Int) :: st) N g) : AW K Y h Q pc ls (vr 2 i :: st) N g := r_alen (c := 0) (Or.inl rfl) (Or.inl rfl) hat kk
theorem al_4 {i n : Nat} {j : Int} (hj : j = (n : Int)) (hn : n < 7) (hat : At Y pc .laload 1 pc') (kk : AW K Y h Q pc' ls (vl (N 4 i n) :: st) N g) : AW K Y h Q pc ls (vi j :: vr 4 i :: st) N g := r_lald hj hn (Nat.lt_trans hn (show 7 < 2 ^ 31 by decide)) rfl hat kk
theorem as_4 {i n : Nat} {j v : Int} (hj : j = (n : Int)) (hn : n < 7) (hat : At Y pc .lastore 1 pc') (kk : AW K Y h Q pc' ls st (upN N 4 i n v) g) : AW K Y h Q pc ls (vl v :: vi j :: vr 4 i :: st) N g := r_last hj hn (Nat.lt_trans hn (show 7 < 2 ^ 31 by decide)) rfl hat kk
theorem an_4 {i : Nat} (hat : At Y pc .arraylength 1 pc') (kk : AW K Y h Q pc' ls (vi ((7 : Nat) : Int) :: st) N g) : AW K Y h Q pc ls (vr 4 i :: st) N g := r_alen (c := 1) (Or.inr rfl) (Or.inr rfl) hat kk
theorem al_5 {i n : Nat} {j : Int} (hj : j = (n : Int)) (hn : n < 7) (hat : At Y pc .laload 1 pc') (kk : AW K Y h Q pc' ls (vl (N 5 i n) :: st) N g) : AW K Y h Q pc ls (vi j :: vr 5 i :: st) N g := r_lald hj hn (Nat.lt_trans hn (show 7 < 2 ^ 31 by decide)) rfl hat kk
theorem as_5 {i n : Nat} {j v : Int} (hj : j = (n : Int)) (hn : n < 7) (hat : At Y pc .lastore 1 pc') (kk : AW K Y h Q pc' ls st (upN N 5 i n v) g) : AW K Y h Q pc ls (vl v :: vi j :: vr 5 i :: st) N g := r_last hj hn (Nat.lt_trans hn (show 7 < 2 ^ 31 by decide)) rfl hat kk
theorem an_5 {i : Nat} (hat : At Y pc .arraylength 1 pc') (kk : AW K Y h Q pc' ls (vi ((7 : Nat) : Int) :: st) N g) : AW K Y h Q pc ls (vr 5 i :: st) N g := r_alen (c := 1) (Or.inr rfl) (Or.inr rfl) hat kk
theorem al_6 {i n : Nat} {j : Int} (hj : j = (n : Int)) (hn : n < 6) (hat : At Y pc .iaload 1 pc') (kk : AW K Y h Q pc' ls (vi (N 6 i n) :: st) N g) : AW K Y h Q pc ls (vi j :: vr 6 i :: st) N g := r_iald hj hn (Nat.lt_trans hn (show 6 < 2 ^ 31 by decide)) rfl hat kk
theorem as_6 {i n : Nat} {j v : Int} (hj : j = (n : Int)) (hn : n < 6) (hat : At Y pc .iastore 1 pc') (kk : AW K Y h Q pc' ls st (upN N 6 i n v) g) : AW K Y h Q pc ls (vi v :: vi j :: vr 6 i :: st) N g := r_iast hj hn (Nat.lt_trans hn (show 6 < 2 ^ 31 by decide)) rfl hat kk
theorem an_6 {i : Nat} (hat : At Y pc .arraylength 1 pc') (kk : AW K Y h Q pc' ls (vi ((6 : Nat) : Int) :: st) N g) : AW K Y h Q pc ls (vr 6 i :: st) N g := r_alen (c := 0) (Or.inl rfl) (Or.inl rfl) hat kk
theorem al_8 {i n : Nat} {j : Int} (hj : j = (n : Int)) (hn : n < 7) (hat : At Y pc .aaload 1 pc') (kk : AW K Y h Q pc' ls (vr 12 (n) :: st) N g) : AW K Y h Q pc ls (vi j :: vr 8 i :: st) N g := r_aald (c := 2) (ty := .object "PayPromise$Line") hj hn (Nat.lt_trans hn (show 7 < 2 ^ 31 by decide)) rfl rfl rfl rfl (fun q1 q2 => (show n < 8 from by have q1 : i < 1 := q1; have q2 : n < 7 := q2; omega)) hat kk
theorem al_9 {i n : Nat} {j : Int} (hj : j = (n : Int)) (hn : n < 6) (hat : At Y pc .aaload 1 pc') (kk : AW K Y h Q pc' ls (vr 10 (n) :: st) N g) : AW K Y h Q pc ls (vi j :: vr 9 i :: st) N g := r_aald (c := 3) (ty := .array .int) hj hn (Nat.lt_trans hn (show 6 < 2 ^ 31 by decide)) rfl rfl rfl rfl (fun q1 q2 => (show n < 6 from by have q1 : i < 1 := q1; have q2 : n < 6 := q2; omega)) hat kk
theorem al_10 {i n : Nat} {j : Int} (hj : j = (n : Int)) (hn : n < 6) (hat : At Y pc .iaload 1 pc') (kk : AW K Y h Q pc' ls (vi (N 10 i n) :: st) N g) : AW K Y h Q pc ls (vi j :: vr 10 i :: st) N g := r_iald hj hn (Nat.lt_trans hn (show 6 < 2 ^ 31 by decide)) rfl hat kk
theorem as_10 {i n : Nat} {j v : Int} (hj : j = (n : Int)) (hn : n < 6) (hat : At Y pc .iastore 1 pc') (kk : AW K Y h Q pc' ls st (upN N 10 i n v) g) : AW K Y h Q pc ls (vi v :: vi j :: vr 10 i :: st) N g := r_iast hj hn (Nat.lt_trans hn (show 6 < 2 ^ 31 by decide)) rfl hat kk
theorem an_10 {i : Nat} (hat : At Y pc .arraylength 1 pc') (kk : AW K Y h Q pc' ls (vi ((6 : Nat) : Int) :: st) N g) : AW K Y h Q pc ls (vr 10 i :: st) N g := r_alen (c := 0) (Or.inl rfl) (Or.inl rfl) hat kk
theorem al_11 {i n : Nat} {j : Int} (hj : j = (n : Int)) (hn : n < 7) (hat : At Y pc .laload 1 pc') (kk : AW K Y h Q pc' ls (vl (N 11 i n) :: st) N g) : AW K Y h Q pc ls (vi j :: vr 11 i :: st) N g := r_lald hj hn (Nat.lt_trans hn (show 7 < 2 ^ 31 by decide)) rfl hat kk
theorem as_11 {i n : Nat} {j v : Int} (hj : j = (n : Int)) (hn : n < 7) (hat : At Y pc .lastore 1 pc') (kk : AW K Y h Q pc' ls st (upN N 11 i n v) g) : AW K Y h Q pc ls (vl v :: vi j :: vr 11 i :: st) N g := r_last hj hn (Nat.lt_trans hn (show 7 < 2 ^ 31 by decide)) rfl hat kk
theorem an_11 {i : Nat} (hat : At Y pc .arraylength 1 pc') (kk : AW K Y h Q pc' ls (vi ((7 : Nat) : Int) :: st) N g) : AW K Y h Q pc ls (vr 11 i :: st) N g := r_alen (c := 1) (Or.inr rfl) (Or.inr rfl) hat kk
theorem al_13 {i n : Nat} {j : Int} (hj : j = (n : Int)) (hn : n < g.2.2 i) (hs : n < 2 ^ 31) (hat : At Y pc .iaload 1 pc') (kk : AW K Y h Q pc' ls (vi (N 13 i n) :: st) N g) : AW K Y h Q pc ls (vi j :: vr 13 i :: st) N g := r_iald hj hn hs rfl hat kk
theorem as_13 {i n : Nat} {j v : Int} (hj : j = (n : Int)) (hn : n < g.2.2 i) (hs : n < 2 ^ 31) (hat : At Y pc .iastore 1 pc') (kk : AW K Y h Q pc' ls st (upN N 13 i n v) g) : AW K Y h Q pc ls (vi v :: vi j :: vr 13 i :: st) N g := r_iast hj hn hs rfl hat kk
theorem an_13 {i : Nat} (hat : At Y pc .arraylength 1 pc') (kk : AW K Y h Q pc' ls (vi ((g.2.2 i : Nat) : Int) :: st) N g) : AW K Y h Q pc ls (vr 13 i :: st) N g := r_alen (c := 0) (Or.inl rfl) (Or.inl rfl) hat kk
theorem al_14 {i n : Nat} {j : Int} (hj : j = (n : Int)) (hn : n < g.2.2 i) (hs : n < 2 ^ 31) (hat : At Y pc .laload 1 pc') (kk : AW K Y h Q pc' ls (vl (N 14 i n) :: st) N g) : AW K Y h Q pc ls (vi j :: vr 14 i :: st) N g := r_lald hj hn hs rfl hat kk
theorem as_14 {i n : Nat} {j v : Int} (hj : j = (n : Int)) (hn : n < g.2.2 i) (hs : n < 2 ^ 31) (hat : At Y pc .lastore 1 pc') (kk : AW K Y h Q pc' ls st (upN N 14 i n v) g) : AW K Y h Q pc ls (vl v :: vi j :: vr 14 i :: st) N g := r_last hj hn hs rfl hat kk
theorem an_14 {i : Nat} (hat : At Y pc .arraylength 1 pc') (kk : AW K Y h Q pc' ls (vi ((g.2.2 i : Nat) : Int) :: st) N g) : AW K Y h Q pc ls (vr 14 i :: st) N g := r_alen (c := 1) (Or.inr rfl) (Or.inr rfl) hat kk
theorem al_15 {i n : Nat} {j : Int} (hj : j = (n : Int)) (hn : n < g.2.2 i) (hs : n < 2 ^ 31) (hat : At Y pc .laload 1 pc') (kk : AW K Y h Q pc' ls (vl (N 15 i n) :: st) N g) : AW K Y h Q pc ls (vi j :: vr 15 i :: st) N g := r_lald hj hn hs rfl hat kk
theorem as_15 {i n : Nat} {j v : Int} (hj : j = (n : Int)) (hn : n < g.2.2 i) (hs : n < 2 ^ 31) (hat : At Y pc .lastore 1 pc') (kk : AW K Y h Q pc' ls st (upN N 15 i n v) g) : AW K Y h Q pc ls (vl v :: vi j :: vr 15 i :: st) N g := r_last hj hn hs rfl hat kk
theorem an_15 {i : Nat} (hat : At Y pc .arraylength 1 pc') (kk : AW K Y h Q pc' ls (vi ((g.2.2 i : Nat) : Int) :: st) N g) : AW K Y h Q pc ls (vr 15 i :: st) N g := r_alen (c := 1) (Or.inr rfl) (Or.inr rfl) hat kk
theorem al_17 {i n : Nat} {j : Int} (hj : j = (n : Int)) (hn : n < 12) (hat : At Y pc .iaload 1 pc') (kk : AW K Y h Q pc' ls (vi (N 17 i n) :: st) N g) : AW K Y h Q pc ls (vi j :: vr 17 i :: st) N g := r_iald hj hn (Nat.lt_trans hn (show 12 < 2 ^ 31 by decide)) rfl hat kk
theorem as_17 {i n : Nat} {j v : Int} (hj : j = (n : Int)) (hn : n < 12) (hat : At Y pc .iastore 1 pc') (kk : AW K Y h Q pc' ls st (upN N 17 i n v) g) : AW K Y h Q pc ls (vi v :: vi j :: vr 17 i :: st) N g := r_iast hj hn (Nat.lt_trans hn (show 12 < 2 ^ 31 by decide)) rfl hat kk
theorem an_17 {i : Nat} (hat : At Y pc .arraylength 1 pc') (kk : AW K Y h Q pc' ls (vi ((12 : Nat) : Int) :: st) N g) : AW K Y h Q pc ls (vr 17 i :: st) N g := r_alen (c := 0) (Or.inl rfl) (Or.inl rfl) hat kk
theorem al_19 {i n : Nat} {j : Int} (hj : j = (n : Int)) (hn : n < 4) (hat : At Y pc .iaload 1 pc') (kk : AW K Y h Q pc' ls (vi (N 19 i n) :: st) N g) : AW K Y h Q pc ls (vi j :: vr 19 i :: st) N g := r_iald hj hn (Nat.lt_trans hn (show 4 < 2 ^ 31 by decide)) rfl hat kk
theorem as_19 {i n : Nat} {j v : Int} (hj : j = (n : Int)) (hn : n < 4) (hat : At Y pc .iastore 1 pc') (kk : AW K Y h Q pc' ls st (upN N 19 i n v) g) : AW K Y h Q pc ls (vi v :: vi j :: vr 19 i :: st) N g := r_iast hj hn (Nat.lt_trans hn (show 4 < 2 ^ 31 by decide)) rfl hat kk
theorem an_19 {i : Nat} (hat : At Y pc .arraylength 1 pc') (kk : AW K Y h Q pc' ls (vi ((4 : Nat) : Int) :: st) N g) : AW K Y h Q pc ls (vr 19 i :: st) N g := r_alen (c := 0) (Or.inl rfl) (Or.inl rfl) hat kk
theorem al_21 {i n : Nat} {j : Int} (hj : j = (n : Int)) (hn : n < 7) (hat : At Y pc .iaload 1 pc') (kk : AW K Y h Q pc' ls (vi (N 21 i n) :: st) N g) : AW K Y h Q pc ls (vi j :: vr 21 i :: st) N g := r_iald hj hn (Nat.lt_trans hn (show 7 < 2 ^ 31 by decide)) rfl hat kk
theorem as_21 {i n : Nat} {j v : Int} (hj : j = (n : Int)) (hn : n < 7) (hat : At Y pc .iastore 1 pc') (kk : AW K Y h Q pc' ls st (upN N 21 i n v) g) : AW K Y h Q pc ls (vi v :: vi j :: vr 21 i :: st) N g := r_iast hj hn (Nat.lt_trans hn (show 7 < 2 ^ 31 by decide)) rfl hat kk
theorem an_21 {i : Nat} (hat : At Y pc .arraylength 1 pc') (kk : AW K Y h Q pc' ls (vi ((7 : Nat) : Int) :: st) N g) : AW K Y h Q pc ls (vr 21 i :: st) N g := r_alen (c := 0) (Or.inl rfl) (Or.inl rfl) hat kk
theorem al_22 {i n : Nat} {j : Int} (hj : j = (n : Int)) (hn : n < 7) (hat : At Y pc .aaload 1 pc') (kk : AW K Y h Q pc' ls (vr 23 (7 * i + n) :: st) N g) : AW K Y h Q pc ls (vi j :: vr 22 i :: st) N g := r_aald (c := 3) (ty := .array .int) hj hn (Nat.lt_trans hn (show 7 < 2 ^ 31 by decide)) rfl rfl rfl rfl (fun q1 q2 => (show 7 * i + n < 14 from by have q1 : i < 2 := q1; have q2 : n < 7 := q2; omega)) hat kk
theorem al_23 {i n : Nat} {j : Int} (hj : j = (n : Int)) (hn : n < 6) (hat : At Y pc .iaload 1 pc') (kk : AW K Y h Q pc' ls (vi (N 23 i n) :: st) N g) : AW K Y h Q pc ls (vi j :: vr 23 i :: st) N g := r_iald hj hn (Nat.lt_trans hn (show 6 < 2 ^ 31 by decide)) rfl hat kk
theorem as_23 {i n : Nat} {j v : Int} (hj : j = (n : Int)) (hn : n < 6) (hat : At Y pc .iastore 1 pc') (kk : AW K Y h Q pc' ls st (upN N 23 i n v) g) : AW K Y h Q pc ls (vi v :: vi j :: vr 23 i :: st) N g := r_iast hj hn (Nat.lt_trans hn (show 6 < 2 ^ 31 by decide)) rfl hat kk
theorem an_23 {i : Nat} (hat : At Y pc .arraylength 1 pc') (kk : AW K Y h Q pc' ls (vi ((6 : Nat) : Int) :: st) N g) : AW K Y h Q pc ls (vr 23 i :: st) N g := r_alen (c := 0) (Or.inl rfl) (Or.inl rfl) hat kk
theorem al_24 {i n : Nat} {j : Int} (hj : j = (n : Int)) (hn : n < 7) (hat : At Y pc .aaload 1 pc') (kk : AW K Y h Q pc' ls (vr 25 (7 * i + n) :: st) N g) : AW K Y h Q pc ls (vi j :: vr 24 i :: st) N g := r_aald (c := 3) (ty := .array .int) hj hn (Nat.lt_trans hn (show 7 < 2 ^ 31 by decide)) rfl rfl rfl rfl (fun q1 q2 => (show 7 * i + n < 14 from by have q1 : i < 2 := q1; have q2 : n < 7 := q2; omega)) hat kk
theorem al_25 {i n : Nat} {j : Int} (hj : j = (n : Int)) (hn : n < 6) (hat : At Y pc .iaload 1 pc') (kk : AW K Y h Q pc' ls (vi (N 25 i n) :: st) N g) : AW K Y h Q pc ls (vi j :: vr 25 i :: st) N g := r_iald hj hn (Nat.lt_trans hn (show 6 < 2 ^ 31 by decide)) rfl hat kk
theorem as_25 {i n : Nat} {j v : Int} (hj : j = (n : Int)) (hn : n < 6) (hat : At Y pc .iastore 1 pc') (kk : AW K Y h Q pc' ls st (upN N 25 i n v) g) : AW K Y h Q pc ls (vi v :: vi j :: vr 25 i :: st) N g := r_iast hj hn (Nat.lt_trans hn (show 6 < 2 ^ 31 by decide)) rfl hat kk
theorem an_25 {i : Nat} (hat : At Y pc .arraylength 1 pc') (kk : AW K Y h Q pc' ls (vi ((6 : Nat) : Int) :: st) N g) : AW K Y h Q pc ls (vr 25 i :: st) N g := r_alen (c := 0) (Or.inl rfl) (Or.inl rfl) hat kk
theorem al_26 {i n : Nat} {j : Int} (hj : j = (n : Int)) (hn : n < 6) (hat : At Y pc .iaload 1 pc') (kk : AW K Y h Q pc' ls (vi (N 26 i n) :: st) N g) : AW K Y h Q pc ls (vi j :: vr 26 i :: st) N g := r_iald hj hn (Nat.lt_trans hn (show 6 < 2 ^ 31 by decide)) rfl hat kk
theorem as_26 {i n : Nat} {j v : Int} (hj : j = (n : Int)) (hn : n < 6) (hat : At Y pc .iastore 1 pc') (kk : AW K Y h Q pc' ls st (upN N 26 i n v) g) : AW K Y h Q pc ls (vi v :: vi j :: vr 26 i :: st) N g := r_iast hj hn (Nat.lt_trans hn (show 6 < 2 ^ 31 by decide)) rfl hat kk
theorem an_26 {i : Nat} (hat : At Y pc .arraylength 1 pc') (kk : AW K Y h Q pc' ls (vi ((6 : Nat) : Int) :: st) N g) : AW K Y h Q pc ls (vr 26 i :: st) N g := r_alen (c := 0) (Or.inl rfl) (Or.inl rfl) hat kk
theorem al_27 {i n : Nat} {j : Int} (hj : j = (n : Int)) (hn : n < 6) (hat : At Y pc .iaload 1 pc') (kk : AW K Y h Q pc' ls (vi (N 27 i n) :: st) N g) : AW K Y h Q pc ls (vi j :: vr 27 i :: st) N g := r_iald hj hn (Nat.lt_trans hn (show 6 < 2 ^ 31 by decide)) rfl hat kk
theorem as_27 {i n : Nat} {j v : Int} (hj : j = (n : Int)) (hn : n < 6) (hat : At Y pc .iastore 1 pc') (kk : AW K Y h Q pc' ls st (upN N 27 i n v) g) : AW K Y h Q pc ls (vi v :: vi j :: vr 27 i :: st) N g := r_iast hj hn (Nat.lt_trans hn (show 6 < 2 ^ 31 by decide)) rfl hat kk
theorem an_27 {i : Nat} (hat : At Y pc .arraylength 1 pc') (kk : AW K Y h Q pc' ls (vi ((6 : Nat) : Int) :: st) N g) : AW K Y h Q pc ls (vr 27 i :: st) N g := r_alen (c := 0) (Or.inl rfl) (Or.inl rfl) hat kk
theorem al_28 {i n : Nat} {j : Int} (hj : j = (n : Int)) (hn : n < 6) (hat : At Y pc .aaload 1 pc') (kk : AW K Y h Q pc' ls (vr 29 (6 * i + n) :: st) N g) : AW K Y h Q pc ls (vi j :: vr 28 i :: st) N g := r_aald (c := 3) (ty := .array .int) hj hn (Nat.lt_trans hn (show 6 < 2 ^ 31 by decide)) rfl rfl rfl rfl (fun q1 q2 => (show 6 * i + n < 12 from by have q1 : i < 2 := q1; have q2 : n < 6 := q2; omega)) hat kk
theorem al_29 {i n : Nat} {j : Int} (hj : j = (n : Int)) (hn : n < 6) (hat : At Y pc .iaload 1 pc') (kk : AW K Y h Q pc' ls (vi (N 29 i n) :: st) N g) : AW K Y h Q pc ls (vi j :: vr 29 i :: st) N g := r_iald hj hn (Nat.lt_trans hn (show 6 < 2 ^ 31 by decide)) rfl hat kk
theorem as_29 {i n : Nat} {j v : Int} (hj : j = (n : Int)) (hn : n < 6) (hat : At Y pc .iastore 1 pc') (kk : AW K Y h Q pc' ls st (upN N 29 i n v) g) : AW K Y h Q pc ls (vi v :: vi j :: vr 29 i :: st) N g := r_iast hj hn (Nat.lt_trans hn (show 6 < 2 ^ 31 by decide)) rfl hat kk
theorem an_29 {i : Nat} (hat : At Y pc .arraylength 1 pc') (kk : AW K Y h Q pc' ls (vi ((6 : Nat) : Int) :: st) N g) : AW K Y h Q pc ls (vr 29 i :: st) N g := r_alen (c := 0) (Or.inl rfl) (Or.inl rfl) hat kk
theorem al_30 {i n : Nat} {j : Int} (hj : j = (n : Int)) (hn : n < 6) (hat : At Y pc .aaload 1 pc') (kk : AW K Y h Q pc' ls (vr 31 (6 * i + n) :: st) N g) : AW K Y h Q pc ls (vi j :: vr 30 i :: st) N g := r_aald (c := 3) (ty := .array .int) hj hn (Nat.lt_trans hn (show 6 < 2 ^ 31 by decide)) rfl rfl rfl rfl (fun q1 q2 => (show 6 * i + n < 12 from by have q1 : i < 2 := q1; have q2 : n < 6 := q2; omega)) hat kk
theorem al_31 {i n : Nat} {j : Int} (hj : j = (n : Int)) (hn : n < 6) (hat : At Y pc .iaload 1 pc') (kk : AW K Y h Q pc' ls (vi (N 31 i n) :: st) N g) : AW K Y h Q pc ls (vi j :: vr 31 i :: st) N g := r_iald hj hn (Nat.lt_trans hn (show 6 < 2 ^ 31 by decide)) rfl hat kk
theorem as_31 {i n : Nat} {j v : Int} (hj : j = (n : Int)) (hn : n < 6) (hat : At Y pc .iastore 1 pc') (kk : AW K Y h Q pc' ls st (upN N 31 i n v) g) : AW K Y h Q pc ls (vi v :: vi j :: vr 31 i :: st) N g := r_iast hj hn (Nat.lt_trans hn (show 6 < 2 ^ 31 by decide)) rfl hat kk
theorem an_31 {i : Nat} (hat : At Y pc .arraylength 1 pc') (kk : AW K Y h Q pc' ls (vi ((6 : Nat) : Int) :: st) N g) : AW K Y h Q pc ls (vr 31 i :: st) N g := r_alen (c := 0) (Or.inl rfl) (Or.inl rfl) hat kk
theorem al_32 {i n : Nat} {j : Int} (hj : j = (n : Int)) (hn : n < 6) (hat : At Y pc .aaload 1 pc') (kk : AW K Y h Q pc' ls (vr 33 (6 * i + n) :: st) N g) : AW K Y h Q pc ls (vi j :: vr 32 i :: st) N g := r_aald (c := 3) (ty := .array .int) hj hn (Nat.lt_trans hn (show 6 < 2 ^ 31 by decide)) rfl rfl rfl rfl (fun q1 q2 => (show 6 * i + n < 12 from by have q1 : i < 2 := q1; have q2 : n < 6 := q2; omega)) hat kk
theorem al_33 {i n : Nat} {j : Int} (hj : j = (n : Int)) (hn : n < 6) (hat : At Y pc .iaload 1 pc') (kk : AW K Y h Q pc' ls (vi (N 33 i n) :: st) N g) : AW K Y h Q pc ls (vi j :: vr 33 i :: st) N g := r_iald hj hn (Nat.lt_trans hn (show 6 < 2 ^ 31 by decide)) rfl hat kk
theorem as_33 {i n : Nat} {j v : Int} (hj : j = (n : Int)) (hn : n < 6) (hat : At Y pc .iastore 1 pc') (kk : AW K Y h Q pc' ls st (upN N 33 i n v) g) : AW K Y h Q pc ls (vi v :: vi j :: vr 33 i :: st) N g := r_iast hj hn (Nat.lt_trans hn (show 6 < 2 ^ 31 by decide)) rfl hat kk
theorem an_33 {i : Nat} (hat : At Y pc .arraylength 1 pc') (kk : AW K Y h Q pc' ls (vi ((6 : Nat) : Int) :: st) N g) : AW K Y h Q pc ls (vr 33 i :: st) N g := r_alen (c := 0) (Or.inl rfl) (Or.inl rfl) hat kk
theorem al_34 {i n : Nat} {j : Int} (hj : j = (n : Int)) (hn : n < 6) (hat : At Y pc .aaload 1 pc') (kk : AW K Y h Q pc' ls (vr 35 (6 * i + n) :: st) N g) : AW K Y h Q pc ls (vi j :: vr 34 i :: st) N g := r_aald (c := 4) (ty := .array .long) hj hn (Nat.lt_trans hn (show 6 < 2 ^ 31 by decide)) rfl rfl rfl rfl (fun q1 q2 => (show 6 * i + n < 12 from by have q1 : i < 2 := q1; have q2 : n < 6 := q2; omega)) hat kk
theorem al_35 {i n : Nat} {j : Int} (hj : j = (n : Int)) (hn : n < 6) (hat : At Y pc .laload 1 pc') (kk : AW K Y h Q pc' ls (vl (N 35 i n) :: st) N g) : AW K Y h Q pc ls (vi j :: vr 35 i :: st) N g := r_lald hj hn (Nat.lt_trans hn (show 6 < 2 ^ 31 by decide)) rfl hat kk
theorem as_35 {i n : Nat} {j v : Int} (hj : j = (n : Int)) (hn : n < 6) (hat : At Y pc .lastore 1 pc') (kk : AW K Y h Q pc' ls st (upN N 35 i n v) g) : AW K Y h Q pc ls (vl v :: vi j :: vr 35 i :: st) N g := r_last hj hn (Nat.lt_trans hn (show 6 < 2 ^ 31 by decide)) rfl hat kk
theorem an_35 {i : Nat} (hat : At Y pc .arraylength 1 pc') (kk : AW K Y h Q pc' ls (vi ((6 : Nat) : Int) :: st) N g) : AW K Y h Q pc ls (vr 35 i :: st) N g := r_alen (c := 1) (Or.inr rfl) (Or.inr rfl) hat kk
theorem al_41 {i n : Nat} {j : Int} (hj : j = (n : Int)) (hn : n < 400) (hat : At Y pc .iaload 1 pc') (kk : AW K Y h Q pc' ls (vi (N 41 i n) :: st) N g) : AW K Y h Q pc ls (vi j :: vr 41 i :: st) N g := r_iald hj hn (Nat.lt_trans hn (show 400 < 2 ^ 31 by decide)) rfl hat kk
theorem as_41 {i n : Nat} {j v : Int} (hj : j = (n : Int)) (hn : n < 400) (hat : At Y pc .iastore 1 pc') (kk : AW K Y h Q pc' ls st (upN N 41 i n v) g) : AW K Y h Q pc ls (vi v :: vi j :: vr 41 i :: st) N g := r_iast hj hn (Nat.lt_trans hn (show 400 < 2 ^ 31 by decide)) rfl hat kk
theorem an_41 {i : Nat} (hat : At Y pc .arraylength 1 pc') (kk : AW K Y h Q pc' ls (vi ((400 : Nat) : Int) :: st) N g) : AW K Y h Q pc ls (vr 41 i :: st) N g := r_alen (c := 0) (Or.inl rfl) (Or.inl rfl) hat kk
theorem al_42 {i n : Nat} {j : Int} (hj : j = (n : Int)) (hn : n < 7) (hat : At Y pc .iaload 1 pc') (kk : AW K Y h Q pc' ls (vi (N 42 i n) :: st) N g) : AW K Y h Q pc ls (vi j :: vr 42 i :: st) N g := r_iald hj hn (Nat.lt_trans hn (show 7 < 2 ^ 31 by decide)) rfl hat kk
theorem as_42 {i n : Nat} {j v : Int} (hj : j = (n : Int)) (hn : n < 7) (hat : At Y pc .iastore 1 pc') (kk : AW K Y h Q pc' ls st (upN N 42 i n v) g) : AW K Y h Q pc ls (vi v :: vi j :: vr 42 i :: st) N g := r_iast hj hn (Nat.lt_trans hn (show 7 < 2 ^ 31 by decide)) rfl hat kk
theorem an_42 {i : Nat} (hat : At Y pc .arraylength 1 pc') (kk : AW K Y h Q pc' ls (vi ((7 : Nat) : Int) :: st) N g) : AW K Y h Q pc ls (vr 42 i :: st) N g := r_alen (c := 0) (Or.inl rfl) (Or.inl rfl) hat kk
theorem al_43 {i n : Nat} {j : Int} (hj : j = (n : Int)) (hn : n < 7) (hat : At Y pc .iaload 1 pc') (kk : AW K Y h Q pc' ls (vi (N 43 i n) :: st) N g) : AW K Y h Q pc ls (vi j :: vr 43 i :: st) N g := r_iald hj hn (Nat.lt_trans hn (show 7 < 2 ^ 31 by decide)) rfl hat kk
theorem as_43 {i n : Nat} {j v : Int} (hj : j = (n : Int)) (hn : n < 7) (hat : At Y pc .iastore 1 pc') (kk : AW K Y h Q pc' ls st (upN N 43 i n v) g) : AW K Y h Q pc ls (vi v :: vi j :: vr 43 i :: st) N g := r_iast hj hn (Nat.lt_trans hn (show 7 < 2 ^ 31 by decide)) rfl hat kk
theorem an_43 {i : Nat} (hat : At Y pc .arraylength 1 pc') (kk : AW K Y h Q pc' ls (vi ((7 : Nat) : Int) :: st) N g) : AW K Y h Q pc ls (vr 43 i :: st) N g := r_alen (c := 0) (Or.inl rfl) (Or.inl rfl) hat kk
theorem al_44 {i n : Nat} {j : Int} (hj : j = (n : Int)) (hn : n < 42) (hat : At Y pc .iaload 1 pc') (kk : AW K Y h Q pc' ls (vi (N 44 i n) :: st) N g) : AW K Y h Q pc ls (vi j :: vr 44 i :: st) N g := r_iald hj hn (Nat.lt_trans hn (show 42 < 2 ^ 31 by decide)) rfl hat kk
theorem as_44 {i n : Nat} {j v : Int} (hj : j = (n : Int)) (hn : n < 42) (hat : At Y pc .iastore 1 pc') (kk : AW K Y h Q pc' ls st (upN N 44 i n v) g) : AW K Y h Q pc ls (vi v :: vi j :: vr 44 i :: st) N g := r_iast hj hn (Nat.lt_trans hn (show 42 < 2 ^ 31 by decide)) rfl hat kk
theorem an_44 {i : Nat} (hat : At Y pc .arraylength 1 pc') (kk : AW K Y h Q pc' ls (vi ((42 : Nat) : Int) :: st) N g) : AW K Y h Q pc ls (vr 44 i :: st) N g := r_alen (c := 0) (Or.inl rfl) (Or.inl rfl) hat kk
theorem al_45 {i n : Nat} {j : Int} (hj : j = (n : Int)) (hn : n < 42) (hat : At Y pc .iaload 1 pc') (kk : AW K Y h Q pc' ls (vi (N 45 i n) :: st) N g) : AW K Y h Q pc ls (vi j :: vr 45 i :: st) N g := r_iald hj hn (Nat.lt_trans hn (show 42 < 2 ^ 31 by decide)) rfl hat kk
theorem as_45 {i n : Nat} {j v : Int} (hj : j = (n : Int)) (hn : n < 42) (hat : At Y pc .iastore 1 pc') (kk : AW K Y h Q pc' ls st (upN N 45 i n v) g) : AW K Y h Q pc ls (vi v :: vi j :: vr 45 i :: st) N g := r_iast hj hn (Nat.lt_trans hn (show 42 < 2 ^ 31 by decide)) rfl hat kk
theorem an_45 {i : Nat} (hat : At Y pc .arraylength 1 pc') (kk : AW K Y h Q pc' ls (vi ((42 : Nat) : Int) :: st) N g) : AW K Y h Q pc ls (vr 45 i :: st) N g := r_alen (c := 0) (Or.inl rfl) (Or.inl rfl) hat kk
theorem al_46 {i n : Nat} {j : Int} (hj : j = (n : Int)) (hn : n < 42) (hat : At Y pc .iaload 1 pc') (kk : AW K Y h Q pc' ls (vi (N 46 i n) :: st) N g) : AW K Y h Q pc ls (vi j :: vr 46 i :: st) N g := r_iald hj hn (Nat.lt_trans hn (show 42 < 2 ^ 31 by decide)) rfl hat kk
theorem as_46 {i n : Nat} {j v : Int} (hj : j = (n : Int)) (hn : n < 42) (hat : At Y pc .iastore 1 pc') (kk : AW K Y h Q pc' ls st (upN N 46 i n v) g) : AW K Y h Q pc ls (vi v :: vi j :: vr 46 i :: st) N g := r_iast hj hn (Nat.lt_trans hn (show 42 < 2 ^ 31 by decide)) rfl hat kk
theorem an_46 {i : Nat} (hat : At Y pc .arraylength 1 pc') (kk : AW K Y h Q pc' ls (vi ((42 : Nat) : Int) :: st) N g) : AW K Y h Q pc ls (vr 46 i :: st) N g := r_alen (c := 0) (Or.inl rfl) (Or.inl rfl) hat kk
theorem al_47 {i n : Nat} {j : Int} (hj : j = (n : Int)) (hn : n < 42) (hat : At Y pc .iaload 1 pc') (kk : AW K Y h Q pc' ls (vi (N 47 i n) :: st) N g) : AW K Y h Q pc ls (vi j :: vr 47 i :: st) N g := r_iald hj hn (Nat.lt_trans hn (show 42 < 2 ^ 31 by decide)) rfl hat kk
theorem as_47 {i n : Nat} {j v : Int} (hj : j = (n : Int)) (hn : n < 42) (hat : At Y pc .iastore 1 pc') (kk : AW K Y h Q pc' ls st (upN N 47 i n v) g) : AW K Y h Q pc ls (vi v :: vi j :: vr 47 i :: st) N g := r_iast hj hn (Nat.lt_trans hn (show 42 < 2 ^ 31 by decide)) rfl hat kk
theorem an_47 {i : Nat} (hat : At Y pc .arraylength 1 pc') (kk : AW K Y h Q pc' ls (vi ((42 : Nat) : Int) :: st) N g) : AW K Y h Q pc ls (vr 47 i :: st) N g := r_alen (c := 0) (Or.inl rfl) (Or.inl rfl) hat kk
theorem al_48 {i n : Nat} {j : Int} (hj : j = (n : Int)) (hn : n < 6) (hat : At Y pc .iaload 1 pc') (kk : AW K Y h Q pc' ls (vi (N 48 i n) :: st) N g) : AW K Y h Q pc ls (vi j :: vr 48 i :: st) N g := r_iald hj hn (Nat.lt_trans hn (show 6 < 2 ^ 31 by decide)) rfl hat kk
theorem as_48 {i n : Nat} {j v : Int} (hj : j = (n : Int)) (hn : n < 6) (hat : At Y pc .iastore 1 pc') (kk : AW K Y h Q pc' ls st (upN N 48 i n v) g) : AW K Y h Q pc ls (vi v :: vi j :: vr 48 i :: st) N g := r_iast hj hn (Nat.lt_trans hn (show 6 < 2 ^ 31 by decide)) rfl hat kk
theorem an_48 {i : Nat} (hat : At Y pc .arraylength 1 pc') (kk : AW K Y h Q pc' ls (vi ((6 : Nat) : Int) :: st) N g) : AW K Y h Q pc ls (vr 48 i :: st) N g := r_alen (c := 0) (Or.inl rfl) (Or.inl rfl) hat kk
theorem al_49 {i n : Nat} {j : Int} (hj : j = (n : Int)) (hn : n < 6) (hat : At Y pc .iaload 1 pc') (kk : AW K Y h Q pc' ls (vi (N 49 i n) :: st) N g) : AW K Y h Q pc ls (vi j :: vr 49 i :: st) N g := r_iald hj hn (Nat.lt_trans hn (show 6 < 2 ^ 31 by decide)) rfl hat kk
theorem as_49 {i n : Nat} {j v : Int} (hj : j = (n : Int)) (hn : n < 6) (hat : At Y pc .iastore 1 pc') (kk : AW K Y h Q pc' ls st (upN N 49 i n v) g) : AW K Y h Q pc ls (vi v :: vi j :: vr 49 i :: st) N g := r_iast hj hn (Nat.lt_trans hn (show 6 < 2 ^ 31 by decide)) rfl hat kk
theorem an_49 {i : Nat} (hat : At Y pc .arraylength 1 pc') (kk : AW K Y h Q pc' ls (vi ((6 : Nat) : Int) :: st) N g) : AW K Y h Q pc ls (vr 49 i :: st) N g := r_alen (c := 0) (Or.inl rfl) (Or.inl rfl) hat kk
theorem al_50 {i n : Nat} {j : Int} (hj : j = (n : Int)) (hn : n < 108) (hat : At Y pc .iaload 1 pc') (kk : AW K Y h Q pc' ls (vi (N 50 i n) :: st) N g) : AW K Y h Q pc ls (vi j :: vr 50 i :: st) N g := r_iald hj hn (Nat.lt_trans hn (show 108 < 2 ^ 31 by decide)) rfl hat kk
theorem as_50 {i n : Nat} {j v : Int} (hj : j = (n : Int)) (hn : n < 108) (hat : At Y pc .iastore 1 pc') (kk : AW K Y h Q pc' ls st (upN N 50 i n v) g) : AW K Y h Q pc ls (vi v :: vi j :: vr 50 i :: st) N g := r_iast hj hn (Nat.lt_trans hn (show 108 < 2 ^ 31 by decide)) rfl hat kk
theorem an_50 {i : Nat} (hat : At Y pc .arraylength 1 pc') (kk : AW K Y h Q pc' ls (vi ((108 : Nat) : Int) :: st) N g) : AW K Y h Q pc ls (vr 50 i :: st) N g := r_alen (c := 0) (Or.inl rfl) (Or.inl rfl) hat kk
theorem al_51 {i n : Nat} {j : Int} (hj : j = (n : Int)) (hn : n < 108) (hat : At Y pc .iaload 1 pc') (kk : AW K Y h Q pc' ls (vi (N 51 i n) :: st) N g) : AW K Y h Q pc ls (vi j :: vr 51 i :: st) N g := r_iald hj hn (Nat.lt_trans hn (show 108 < 2 ^ 31 by decide)) rfl hat kk
theorem as_51 {i n : Nat} {j v : Int} (hj : j = (n : Int)) (hn : n < 108) (hat : At Y pc .iastore 1 pc') (kk : AW K Y h Q pc' ls st (upN N 51 i n v) g) : AW K Y h Q pc ls (vi v :: vi j :: vr 51 i :: st) N g := r_iast hj hn (Nat.lt_trans hn (show 108 < 2 ^ 31 by decide)) rfl hat kk
theorem an_51 {i : Nat} (hat : At Y pc .arraylength 1 pc') (kk : AW K Y h Q pc' ls (vi ((108 : Nat) : Int) :: st) N g) : AW K Y h Q pc ls (vr 51 i :: st) N g := r_alen (c := 0) (Or.inl rfl) (Or.inl rfl) hat kk
theorem al_52 {i n : Nat} {j : Int} (hj : j = (n : Int)) (hn : n < 6) (hat : At Y pc .iaload 1 pc') (kk : AW K Y h Q pc' ls (vi (N 52 i n) :: st) N g) : AW K Y h Q pc ls (vi j :: vr 52 i :: st) N g := r_iald hj hn (Nat.lt_trans hn (show 6 < 2 ^ 31 by decide)) rfl hat kk
theorem as_52 {i n : Nat} {j v : Int} (hj : j = (n : Int)) (hn : n < 6) (hat : At Y pc .iastore 1 pc') (kk : AW K Y h Q pc' ls st (upN N 52 i n v) g) : AW K Y h Q pc ls (vi v :: vi j :: vr 52 i :: st) N g := r_iast hj hn (Nat.lt_trans hn (show 6 < 2 ^ 31 by decide)) rfl hat kk
theorem an_52 {i : Nat} (hat : At Y pc .arraylength 1 pc') (kk : AW K Y h Q pc' ls (vi ((6 : Nat) : Int) :: st) N g) : AW K Y h Q pc ls (vr 52 i :: st) N g := r_alen (c := 0) (Or.inl rfl) (Or.inl rfl) hat kk
theorem al_53 {i n : Nat} {j : Int} (hj : j = (n : Int)) (hn : n < 6) (hat : At Y pc .iaload 1 pc') (kk : AW K Y h Q pc' ls (vi (N 53 i n) :: st) N g) : AW K Y h Q pc ls (vi j :: vr 53 i :: st) N g := r_iald hj hn (Nat.lt_trans hn (show 6 < 2 ^ 31 by decide)) rfl hat kk
theorem as_53 {i n : Nat} {j v : Int} (hj : j = (n : Int)) (hn : n < 6) (hat : At Y pc .iastore 1 pc') (kk : AW K Y h Q pc' ls st (upN N 53 i n v) g) : AW K Y h Q pc ls (vi v :: vi j :: vr 53 i :: st) N g := r_iast hj hn (Nat.lt_trans hn (show 6 < 2 ^ 31 by decide)) rfl hat kk
theorem an_53 {i : Nat} (hat : At Y pc .arraylength 1 pc') (kk : AW K Y h Q pc' ls (vi ((6 : Nat) : Int) :: st) N g) : AW K Y h Q pc ls (vr 53 i :: st) N g := r_alen (c := 0) (Or.inl rfl) (Or.inl rfl) hat kk
theorem al_54 {i n : Nat} {j : Int} (hj : j = (n : Int)) (hn : n < 4) (hat : At Y pc .iaload 1 pc') (kk : AW K Y h Q pc' ls (vi (N 54 i n) :: st) N g) : AW K Y h Q pc ls (vi j :: vr 54 i :: st) N g := r_iald hj hn (Nat.lt_trans hn (show 4 < 2 ^ 31 by decide)) rfl hat kk
theorem as_54 {i n : Nat} {j v : Int} (hj : j = (n : Int)) (hn : n < 4) (hat : At Y pc .iastore 1 pc') (kk : AW K Y h Q pc' ls st (upN N 54 i n v) g) : AW K Y h Q pc ls (vi v :: vi j :: vr 54 i :: st) N g := r_iast hj hn (Nat.lt_trans hn (show 4 < 2 ^ 31 by decide)) rfl hat kk
theorem an_54 {i : Nat} (hat : At Y pc .arraylength 1 pc') (kk : AW K Y h Q pc' ls (vi ((4 : Nat) : Int) :: st) N g) : AW K Y h Q pc ls (vr 54 i :: st) N g := r_alen (c := 0) (Or.inl rfl) (Or.inl rfl) hat kk
theorem al_55 {i n : Nat} {j : Int} (hj : j = (n : Int)) (hn : n < 12) (hat : At Y pc .iaload 1 pc') (kk : AW K Y h Q pc' ls (vi (N 55 i n) :: st) N g) : AW K Y h Q pc ls (vi j :: vr 55 i :: st) N g := r_iald hj hn (Nat.lt_trans hn (show 12 < 2 ^ 31 by decide)) rfl hat kk
theorem as_55 {i n : Nat} {j v : Int} (hj : j = (n : Int)) (hn : n < 12) (hat : At Y pc .iastore 1 pc') (kk : AW K Y h Q pc' ls st (upN N 55 i n v) g) : AW K Y h Q pc ls (vi v :: vi j :: vr 55 i :: st) N g := r_iast hj hn (Nat.lt_trans hn (show 12 < 2 ^ 31 by decide)) rfl hat kk
theorem an_55 {i : Nat} (hat : At Y pc .arraylength 1 pc') (kk : AW K Y h Q pc' ls (vi ((12 : Nat) : Int) :: st) N g) : AW K Y h Q pc ls (vr 55 i :: st) N g := r_alen (c := 0) (Or.inl rfl) (Or.inl rfl) hat kk
theorem al_56 {i n : Nat} {j : Int} (hj : j = (n : Int)) (hn : n < 6) (hat : At Y pc .laload 1 pc') (kk : AW K Y h Q pc' ls (vl (N 56 i n) :: st) N g) : AW K Y h Q pc ls (vi j :: vr 56 i :: st) N g := r_lald hj hn (Nat.lt_trans hn (show 6 < 2 ^ 31 by decide)) rfl hat kk
theorem as_56 {i n : Nat} {j v : Int} (hj : j = (n : Int)) (hn : n < 6) (hat : At Y pc .lastore 1 pc') (kk : AW K Y h Q pc' ls st (upN N 56 i n v) g) : AW K Y h Q pc ls (vl v :: vi j :: vr 56 i :: st) N g := r_last hj hn (Nat.lt_trans hn (show 6 < 2 ^ 31 by decide)) rfl hat kk
theorem an_56 {i : Nat} (hat : At Y pc .arraylength 1 pc') (kk : AW K Y h Q pc' ls (vi ((6 : Nat) : Int) :: st) N g) : AW K Y h Q pc ls (vr 56 i :: st) N g := r_alen (c := 1) (Or.inr rfl) (Or.inr rfl) hat kk
theorem al_57 {i n : Nat} {j : Int} (hj : j = (n : Int)) (hn : n < 10000) (hat : At Y pc .laload 1 pc') (kk : AW K Y h Q pc' ls (vl (N 57 i n) :: st) N g) : AW K Y h Q pc ls (vi j :: vr 57 i :: st) N g := r_lald hj hn (Nat.lt_trans hn (show 10000 < 2 ^ 31 by decide)) rfl hat kk
theorem as_57 {i n : Nat} {j v : Int} (hj : j = (n : Int)) (hn : n < 10000) (hat : At Y pc .lastore 1 pc') (kk : AW K Y h Q pc' ls st (upN N 57 i n v) g) : AW K Y h Q pc ls (vl v :: vi j :: vr 57 i :: st) N g := r_last hj hn (Nat.lt_trans hn (show 10000 < 2 ^ 31 by decide)) rfl hat kk
theorem an_57 {i : Nat} (hat : At Y pc .arraylength 1 pc') (kk : AW K Y h Q pc' ls (vi ((10000 : Nat) : Int) :: st) N g) : AW K Y h Q pc ls (vr 57 i :: st) N g := r_alen (c := 1) (Or.inr rfl) (Or.inr rfl) hat kk
theorem al_58 {i n : Nat} {j : Int} (hj : j = (n : Int)) (hn : n < 10000) (hat : At Y pc .iaload 1 pc') (kk : AW K Y h Q pc' ls (vi (N 58 i n) :: st) N g) : AW K Y h Q pc ls (vi j :: vr 58 i :: st) N g := r_iald hj hn (Nat.lt_trans hn (show 10000 < 2 ^ 31 by decide)) rfl hat kk
theorem as_58 {i n : Nat} {j v : Int} (hj : j = (n : Int)) (hn : n < 10000) (hat : At Y pc .iastore 1 pc') (kk : AW K Y h Q pc' ls st (upN N 58 i n v) g) : AW K Y h Q pc ls (vi v :: vi j :: vr 58 i :: st) N g := r_iast hj hn (Nat.lt_trans hn (show 10000 < 2 ^ 31 by decide)) rfl hat kk
theorem an_58 {i : Nat} (hat : At Y pc .arraylength 1 pc') (kk : AW K Y h Q pc' ls (vi ((10000 : Nat) : Int) :: st) N g) : AW K Y h Q pc ls (vr 58 i :: st) N g := r_alen (c := 0) (Or.inl rfl) (Or.inl rfl) hat kk
theorem al_59 {i n : Nat} {j : Int} (hj : j = (n : Int)) (hn : n < 160) (hat : At Y pc .iaload 1 pc') (kk : AW K Y h Q pc' ls (vi (N 59 i n) :: st) N g) : AW K Y h Q pc ls (vi j :: vr 59 i :: st) N g := r_iald hj hn (Nat.lt_trans hn (show 160 < 2 ^ 31 by decide)) rfl hat kk
theorem as_59 {i n : Nat} {j v : Int} (hj : j = (n : Int)) (hn : n < 160) (hat : At Y pc .iastore 1 pc') (kk : AW K Y h Q pc' ls st (upN N 59 i n v) g) : AW K Y h Q pc ls (vi v :: vi j :: vr 59 i :: st) N g := r_iast hj hn (Nat.lt_trans hn (show 160 < 2 ^ 31 by decide)) rfl hat kk
theorem an_59 {i : Nat} (hat : At Y pc .arraylength 1 pc') (kk : AW K Y h Q pc' ls (vi ((160 : Nat) : Int) :: st) N g) : AW K Y h Q pc ls (vr 59 i :: st) N g := r_alen (c := 0) (Or.inl rfl) (Or.inl rfl) hat kk
theorem al_60 {i n : Nat} {j : Int} (hj : j = (n : Int)) (hn : n < 1) (hat : At Y pc .laload 1 pc') (kk : AW K Y h Q pc' ls (vl (N 60 i n) :: st) N g) : AW K Y h Q pc ls (vi j :: vr 60 i :: st) N g := r_lald hj hn (Nat.lt_trans hn (show 1 < 2 ^ 31 by decide)) rfl hat kk
theorem as_60 {i n : Nat} {j v : Int} (hj : j = (n : Int)) (hn : n < 1) (hat : At Y pc .lastore 1 pc') (kk : AW K Y h Q pc' ls st (upN N 60 i n v) g) : AW K Y h Q pc ls (vl v :: vi j :: vr 60 i :: st) N g := r_last hj hn (Nat.lt_trans hn (show 1 < 2 ^ 31 by decide)) rfl hat kk
theorem an_60 {i : Nat} (hat : At Y pc .arraylength 1 pc') (kk : AW K Y h Q pc' ls (vi ((1 : Nat) : Int) :: st) N g) : AW K Y h Q pc ls (vr 60 i :: st) N g := r_alen (c := 1) (Or.inr rfl) (Or.inr rfl) hat kk
end Own
end
section
/-! own text, printed by wip/whole/gen/rows_own.py: heights of methods, rows of calls -/
abbrev hX0_ofQuotient : Nat := 2
abbrev hX0_ofDouble : Nat := 1
abbrev hX0_ofFloat : Nat := 1
abbrev hX0_powerOf : Nat := 0
abbrev hX0_scaled : Nat := 0
abbrev hX1_addStretch : Nat := 3
abbrev hX1_makeRoom : Nat := 2
abbrev hX1_open : Nat := 0
abbrev hX1_go : Nat := 1
abbrev hX1_becomeDifference : Nat := 4
abbrev hX1_lastOf : Nat := 0
abbrev hX1_further : Nat := 1
abbrev hX1_valueIn : Nat := 0
abbrev hX1_lastValue : Nat := 1
abbrev hX1_gainInto : Nat := 2
abbrev hX1_pieceOf : Nat := 1
abbrev hX1_valueAt : Nat := 2
abbrev hX1_timesIn : Nat := 2
abbrev hX1_wagesWith : Nat := 3
abbrev hX1_wageWith : Nat := 3
abbrev hX1_leastNoLess : Nat := 2
abbrev hX1_greatestNoMore : Nat := 2
abbrev hX1_greatestKeptNoMore : Nat := 2
abbrev hX1_nearestBelow : Nat := 2
abbrev hX1_cliffInto : Nat := 3
abbrev hX1_cliffsIn : Nat := 4
abbrev hX1_cliffs : Nat := 5
abbrev hX1_cliffWage : Nat := 5
abbrev hX1_backFrom : Nat := 3
abbrev hX1_trapFrom : Nat := 4
abbrev hX1_lowAtFirst : Nat := 2
abbrev hX1_trappedWages : Nat := 3
abbrev hX1_longestTrap : Nat := 3
abbrev hX1_wageOfMost : Nat := 2
abbrev hX1_wageOfLeast : Nat := 2
abbrev hX1_widest : Nat := 3
abbrev hX1_steepest : Nat := 3
abbrev hX1_flatPieces : Nat := 2
abbrev hX1_greatestPiece : Nat := 2
abbrev hX1_jumpCount : Nat := 3
abbrev hX1_kinkCount : Nat := 0
abbrev hX1_signChanges : Nat := 3
abbrev hX2_draw : Nat := 4
abbrev hX2_straightFor : Nat := 1
abbrev hX2_gainOfTerms : Nat := 0
abbrev hX2_reachIn : Nat := 0
abbrev hX3_reckon : Nat := 2
abbrev hX3_reckonHeld : Nat := 1
abbrev hX3_addUp : Nat := 0
abbrev hX3_valueIn : Nat := 0
abbrev hX4_append : Nat := 0
abbrev hX4_read : Nat := 5
abbrev hX4_fail : Nat := 0
abbrev hX4_look : Nat := 0
abbrev hX4_take : Nat := 1
abbrev hX4_readBenefit : Nat := 2
abbrev hX4_readPaid : Nat := 2
abbrev hX4_readRule : Nat := 4
abbrev hX4_readTerms : Nat := 1
abbrev hX4_termOf : Nat := 0
abbrev hX4_readSegments : Nat := 3
abbrev hX4_readSegment : Nat := 2
abbrev hX4_readNumber : Nat := 1
abbrev hX4_isDigit : Nat := 0
abbrev hX5_clear : Nat := 1
abbrev hX5_addTerm : Nat := 0
abbrev hX5_addSegment : Nat := 0
abbrev hX5_depthOfTerms : Nat := 1
abbrev hX5_rowOfWhat : Nat := 0
abbrev hX5_mayStart : Nat := 0
abbrev hX5_settle : Nat := 0
abbrev hX5_segmentFor : Nat := 0
abbrev hX6_write : Nat := 3
abbrev hX6_put : Nat := 0
abbrev hX6_writeTerms : Nat := 1
abbrev hX6_letterOf : Nat := 0
abbrev hX6_writeSegments : Nat := 2
abbrev hX6_writeNumber : Nat := 1
abbrev hX7_firstNoLess : Nat := 0
abbrev hX7_lastNoMore : Nat := 0
abbrev hX7_nearestNoMore : Nat := 1
abbrev hX8_isFull : Nat := 0
abbrev hX8_wagesOf : Nat := 0
abbrev hX8_due : Nat := 3
abbrev hX8_paidOf : Nat := 4
abbrev hX8_paidIn : Nat := 4
abbrev hX8_paidBehind : Nat := 4
abbrev hX8_paidAboveWage : Nat := 5
abbrev hX8_leastPaid : Nat := 5
abbrev hX8_leastNext : Nat := 4
abbrev hX8_leastEach : Nat := 5
abbrev hX8_leastMonths : Nat := 5
abbrev hX9_feed : Nat := 1
abbrev hX9_end : Nat := 0
abbrev hX9_fault : Nat := 6
abbrev hX9_desk : Nat := 6
abbrev hX9_rule : Nat := 7
abbrev hX9_account : Nat := 7
abbrev hX9_segment : Nat := 6
abbrev hX9_at : Nat := 3
abbrev hX9_sum : Nat := 3
abbrev hX9_which : Nat := 3
abbrev hX9_piece : Nat := 7
abbrev hX9_pieceAt : Nat := 7
abbrev hX9_promised : Nat := 7
abbrev hX9_exactly : Nat := 7
abbrev hX9_cliff : Nat := 7
abbrev hX9_more : Nat := 3
abbrev hX9_average : Nat := 4
abbrev hX9_rate : Nat := 7
abbrev hX9_jumps : Nat := 7
abbrev hX9_bend : Nat := 2
abbrev hX9_benefit : Nat := 1
abbrev hX9_month : Nat := 7
abbrev hX9_takeBack : Nat := 1
abbrev hX9_year : Nat := 7
abbrev hX9_sofar : Nat := 7
abbrev hX9_nextMonth : Nat := 7
abbrev hX9_level : Nat := 7
abbrev hX9_dueAhead : Nat := 7
abbrev hX9_would : Nat := 3
abbrev hX9_both : Nat := 7
abbrev hX9_without : Nat := 2
abbrev hX9_kept : Nat := 4
abbrev hX9_first : Nat := 7
abbrev hX9_raise : Nat := 7
abbrev hX9_over : Nat := 7
abbrev hX9_inKind : Nat := 2
abbrev hX9_through : Nat := 3
abbrev hX9_crossings : Nat := 7
abbrev hX9_kinks : Nat := 7
abbrev hX9_until : Nat := 7
abbrev hX9_free : Nat := 7
abbrev hX9_putIn : Nat := 7
abbrev hX9_spell : Nat := 4
abbrev hX9_status : Nat := 0
abbrev hX9_most : Nat := 7
abbrev hX9_count : Nat := 7
abbrev hX9_isAccount : Nat := 0
abbrev hX9_isLine : Nat := 0
abbrev hX9_isSegment : Nat := 1
abbrev hX9_isMonth : Nat := 0
abbrev hX9_isWage : Nat := 0
abbrev hX9_rowOf : Nat := 0
abbrev hX9_line : Nat := 6
abbrev hX9_fresh : Nat := 5
abbrev hX9_keptAt : Nat := 3
abbrev hX9_refuse : Nat := 0
abbrev hX9_mayBend : Nat := 1
abbrev hX9_bytesIn : Nat := 0
abbrev hX10_in : Nat := 0
abbrev hX10_thrown : Nat := 0
abbrev hX10_byteOf : Nat := 0
abbrev hX10_feed : Nat := 1
abbrev hX10_end : Nat := 1
abbrev hX10_here : Nat := 0
abbrev hX10_ahead : Nat := 1
abbrev hX10_badAt : Nat := 0
abbrev hX10_bad : Nat := 1
abbrev hX10_must : Nat := 2
abbrev hX10_takes : Nat := 2
abbrev hX10_isDigit : Nat := 0
abbrev hX10_number : Nat := 2
abbrev hX10_readTerm : Nat := 2
abbrev hX10_readSum : Nat := 3
abbrev hX10_deepBy : Nat := 1
abbrev hX10_readsSegment : Nat := 3
abbrev hX10_readRule : Nat := 4
abbrev hX10_readDesk : Nat := 5
abbrev hX10_fault : Nat := 6
abbrev hX10_copies : Nat := 0
abbrev hX10_desk : Nat := 6
abbrev hX10_isAccount : Nat := 1
abbrev hX10_isLine : Nat := 1
abbrev hX10_isWage : Nat := 1
abbrev hX10_isSegment : Nat := 2
abbrev hX10_part : Nat := 0
abbrev hX10_sumAt : Nat := 0
abbrev hX10_whichBy : Nat := 1
abbrev hX10_beginOf : Nat := 9
abbrev hX10_lineAt : Nat := 10
abbrev hX10_laysAccounts : Nat := 11
abbrev hX10_paidAt : Nat := 12
abbrev hX10_valueAt : Nat := 12
abbrev hX10_keptAt : Nat := 13
abbrev hX10_laysLine : Nat := 13
abbrev hX10_step : Nat := 0
abbrev hX10_laysPieces : Nat := 14
abbrev hX10_pieceTo : Nat := 0
abbrev hX10_cliffsOf : Nat := 0
abbrev hX10_piecesOf : Nat := 15
abbrev hX10_rule : Nat := 16
abbrev hX10_account : Nat := 16
abbrev hX10_segmentAt : Nat := 12
abbrev hX10_segment : Nat := 13
abbrev hX10_at : Nat := 13
abbrev hX10_sum : Nat := 12
abbrev hX10_which : Nat := 13
abbrev hX10_piece : Nat := 16
abbrev hX10_pieceAt : Nat := 16
abbrev hX10_promised : Nat := 14
abbrev hX10_exactly : Nat := 14
abbrev hX10_backFrom : Nat := 0
abbrev hX10_trapOf : Nat := 1
abbrev hX10_cliff : Nat := 14
abbrev hX10_more : Nat := 13
abbrev hX10_average : Nat := 14
abbrev hX10_rate : Nat := 16
abbrev hX10_jumps : Nat := 15
abbrev hX10_refuses : Nat := 0
abbrev hX10_isFromFor : Nat := 1
abbrev hX10_bend : Nat := 3
abbrev hX10_benefit : Nat := 1
abbrev hX10_cutDown : Nat := 0
abbrev hX10_due : Nat := 14
abbrev hX10_wagesOf : Nat := 0
abbrev hX10_dueBehind : Nat := 15
abbrev hX10_paidIn : Nat := 16
abbrev hX10_month : Nat := 17
abbrev hX10_takeBack : Nat := 1
abbrev hX10_year : Nat := 17
abbrev hX10_sofar : Nat := 17
abbrev hX10_nextMonth : Nat := 16
abbrev hX10_level : Nat := 15
abbrev hX10_dueAhead : Nat := 16
abbrev hX10_both : Nat := 15
abbrev hX10_would : Nat := 13
abbrev hX10_without : Nat := 14
abbrev hX10_paidWith : Nat := 13
abbrev hX10_through : Nat := 14
abbrev hX10_side : Nat := 0
abbrev hX10_crossings : Nat := 13
abbrev hX10_kinks : Nat := 15
abbrev hX10_until : Nat := 15
abbrev hX10_free : Nat := 14
abbrev hX10_putIn : Nat := 15
abbrev hX10_kept : Nat := 14
abbrev hX10_first : Nat := 13
abbrev hX10_raise : Nat := 13
abbrev hX10_over : Nat := 13
abbrev hX10_inKind : Nat := 13
abbrev hX10_says : Nat := 0
abbrev hX10_saysNumber : Nat := 1
abbrev hX10_saysSum : Nat := 1
abbrev hX10_spells : Nat := 2
abbrev hX10_spell : Nat := 3
abbrev hX10_status : Nat := 1
abbrev hX10_firstWith : Nat := 0
abbrev hX10_extreme : Nat := 1
abbrev hX10_steepest : Nat := 1
abbrev hX10_flatOnes : Nat := 1
abbrev hX10_traps : Nat := 2
abbrev hX10_widest : Nat := 1
abbrev hX10_most : Nat := 15
abbrev hX10_count : Nat := 16
abbrev hJxe99ae_isNaN_b9ae7 : Nat := 0
abbrev hJxe99ae_doubleToLongBits_ccdee : Nat := 1
abbrev hJxf58ca_isNaN_12338 : Nat := 0
abbrev hJxf58ca_floatToIntBits_5c35a : Nat := 1
abbrev hJ13_signum_95d88 : Nat := 0
abbrev hJ9_floorDiv_f86c9 : Nat := 0
abbrev hJ9_abs_067f4 : Nat := 0
abbrev hJ9_max_7cf53 : Nat := 0
abbrev hJ9_max_f86c9 : Nat := 0
abbrev hJ9_min_7cf53 : Nat := 0
abbrev hJ9_min_f86c9 : Nat := 0
abbrev hJ7_fill_53178 : Nat := 0
abbrev hJ7_copyOf_59c91 : Nat := 1
abbrev hJ7_copyOf_c38d5 : Nat := 1
section Calls9
variable {K : Kx} {Y : Ys} {h : Nat} {Q : Qt} {pc pc' : Nat} {ls : List (Option AV)} {st : List AV} {N : Nm} {g : Ge}
theorem xX0_ofQuotient {idx : Nat} {a0 : Int} {a1 : Int} (hlink : Cond.methodLink Y.1.cls idx yX0_ofQuotient ∈ TW) (hat : At Y pc (.invokestatic idx) 3 pc') (hh : hX0_ofQuotient + 1 ≤ h) (hcat : (st.map cat).sum ≤ 8) (nL : ls.all nml = true) (nS : st.all nmo = true) (hck : Ck K YX0_ofQuotient hX0_ofQuotient [vl a0, vl a1] N g (qL (fun z N' g' => AW K Y h Q pc' ls (vl z :: st) N' g'))) : AW K Y h Q pc ls (vl a1 :: vl a0 :: st) N g := r_callS (Y' := YX0_ofQuotient) (as := [vl a0, vl a1]) hat hlink kSX0_ofQuotient kCX0_ofQuotient kNX0 (n := 2) (by decide +kernel) rfl (by decide) hh hcat nL nS (Ck.post (qL_b (fun _ _ _ q => q)) hck)
theorem xX0_ofDouble {idx : Nat} {a0 : UInt64} (hlink : Cond.methodLink Y.1.cls idx yX0_ofDouble ∈ TW) (hat : At Y pc (.invokestatic idx) 3 pc') (hh : hX0_ofDouble + 1 ≤ h) (hcat : (st.map cat).sum ≤ 8) (nL : ls.all nml = true) (nS : st.all nmo = true) (hck : Ck K YX0_ofDouble hX0_ofDouble [vd a0] N g (qL (fun z N' g' => AW K Y h Q pc' ls (vl z :: st) N' g'))) : AW K Y h Q pc ls (vd a0 :: st) N g := r_callS (Y' := YX0_ofDouble) (as := [vd a0]) hat hlink kSX0_ofDouble kCX0_ofDouble kNX0 (n := 1) (by decide +kernel) rfl (by decide) hh hcat nL nS (Ck.post (qL_b (fun _ _ _ q => q)) hck)
theorem xX0_ofFloat {idx : Nat} {a0 : UInt32} (hlink : Cond.methodLink Y.1.cls idx yX0_ofFloat ∈ TW) (hat : At Y pc (.invokestatic idx) 3 pc') (hh : hX0_ofFloat + 1 ≤ h) (hcat : (st.map cat).sum ≤ 8) (nL : ls.all nml = true) (nS : st.all nmo = true) (hck : Ck K YX0_ofFloat hX0_ofFloat [vf a0] N g (qI (fun z N' g' => AW K Y h Q pc' ls (vi z :: st) N' g'))) : AW K Y h Q pc ls (vf a0 :: st) N g := r_callS (Y' := YX0_ofFloat) (as := [vf a0]) hat hlink kSX0_ofFloat kCX0_ofFloat kNX0 (n := 1) (by decide +kernel) rfl (by decide) hh hcat nL nS (Ck.post (qI_b (fun _ _ _ q => q)) hck)
theorem xX0_powerOf {idx : Nat} {a0 : UInt64} (hlink : Cond.methodLink Y.1.cls idx yX0_powerOf ∈ TW) (hat : At Y pc (.invokestatic idx) 3 pc') (hh : hX0_powerOf + 1 ≤ h) (hcat : (st.map cat).sum ≤ 8) (nL : ls.all nml = true) (nS : st.all nmo = true) (hck : Ck K YX0_powerOf hX0_powerOf [vd a0] N g (qI (fun z N' g' => AW K Y h Q pc' ls (vi z :: st) N' g'))) : AW K Y h Q pc ls (vd a0 :: st) N g := r_callS (Y' := YX0_powerOf) (as := [vd a0]) hat hlink kSX0_powerOf kCX0_powerOf kNX0 (n := 1) (by decide +kernel) rfl (by decide) hh hcat nL nS (Ck.post (qI_b (fun _ _ _ q => q)) hck)
theorem xX0_scaled {idx : Nat} {a0 : UInt64} {a1 : Int} (hlink : Cond.methodLink Y.1.cls idx yX0_scaled ∈ TW) (hat : At Y pc (.invokestatic idx) 3 pc') (hh : hX0_scaled + 1 ≤ h) (hcat : (st.map cat).sum ≤ 8) (nL : ls.all nml = true) (nS : st.all nmo = true) (hck : Ck K YX0_scaled hX0_scaled [vd a0, vi a1] N g (qD (fun z N' g' => AW K Y h Q pc' ls (vd z :: st) N' g'))) : AW K Y h Q pc ls (vi a1 :: vd a0 :: st) N g := r_callS (Y' := YX0_scaled) (as := [vd a0, vi a1]) hat hlink kSX0_scaled kCX0_scaled kNX0 (n := 2) (by decide +kernel) rfl (by decide) hh hcat nL nS (Ck.post (qD_b (fun _ _ _ q => q)) hck)
theorem xX1_addStretch {idx i : Nat} {a0 : Int} {a1 : Int} {a2 : Int} {a3 : Int} (hlink : Cond.methodLink Y.1.cls idx yX1_addStretch ∈ TW) (hat : At Y pc (.invokevirtual idx) 3 pc') (hh : hX1_addStretch + 1 ≤ h) (hcat : (st.map cat).sum ≤ 8) (nL : ls.all nml = true) (nS : st.all nmo = true) (hck : Ck K YX1_addStretch hX1_addStretch [vr 12 i, vi a0, vl a1, vl a2, vi a3] N g (qV (fun N' g' => AW K Y h Q pc' ls st N' g'))) : AW K Y h Q pc ls (vi a3 :: vl a2 :: vl a1 :: vi a0 :: vr 12 i :: st) N g := r_callV (Y' := YX1_addStretch) (as := [vi a0, vl a1, vl a2, vi a3]) hat hlink kIX1_addStretch kLX1_addStretch kCX1_addStretch kNX1 (n := 4) (by decide +kernel) rfl (k := 12) (c := 0) rfl rfl rfl (by decide) hh hcat nL nS (Ck.post (qV_b (fun _ _ q => q)) hck)
theorem xX1_makeRoom {idx i : Nat}  (hlink : Cond.methodLink Y.1.cls idx yX1_makeRoom ∈ TW) (hat : At Y pc (.invokevirtual idx) 3 pc') (hh : hX1_makeRoom + 1 ≤ h) (hcat : (st.map cat).sum ≤ 8) (nL : ls.all nml = true) (nS : st.all nmo = true) (hck : Ck K YX1_makeRoom hX1_makeRoom [vr 12 i] N g (qV (fun N' g' => AW K Y h Q pc' ls st N' g'))) : AW K Y h Q pc ls (vr 12 i :: st) N g := r_callV (Y' := YX1_makeRoom) (as := []) hat hlink kIX1_makeRoom kLX1_makeRoom kCX1_makeRoom kNX1 (n := 0) (by decide +kernel) rfl (k := 12) (c := 0) rfl rfl rfl (by decide) hh hcat nL nS (Ck.post (qV_b (fun _ _ q => q)) hck)
theorem xX1_open {idx i : Nat} {a0 : Int} {a1 : Int} (hlink : Cond.methodLink Y.1.cls idx yX1_open ∈ TW) (hat : At Y pc (.invokevirtual idx) 3 pc') (hh : hX1_open + 1 ≤ h) (hcat : (st.map cat).sum ≤ 8) (nL : ls.all nml = true) (nS : st.all nmo = true) (hck : Ck K YX1_open hX1_open [vr 12 i, vi a0, vl a1] N g (qV (fun N' g' => AW K Y h Q pc' ls st N' g'))) : AW K Y h Q pc ls (vl a1 :: vi a0 :: vr 12 i :: st) N g := r_callV (Y' := YX1_open) (as := [vi a0, vl a1]) hat hlink kIX1_open kLX1_open kCX1_open kNX1 (n := 2) (by decide +kernel) rfl (k := 12) (c := 0) rfl rfl rfl (by decide) hh hcat nL nS (Ck.post (qV_b (fun _ _ q => q)) hck)
theorem xX1_go {idx i : Nat} {a0 : Int} {a1 : Int} (hlink : Cond.methodLink Y.1.cls idx yX1_go ∈ TW) (hat : At Y pc (.invokevirtual idx) 3 pc') (hh : hX1_go + 1 ≤ h) (hcat : (st.map cat).sum ≤ 8) (nL : ls.all nml = true) (nS : st.all nmo = true) (hck : Ck K YX1_go hX1_go [vr 12 i, vl a0, vi a1] N g (qV (fun N' g' => AW K Y h Q pc' ls st N' g'))) : AW K Y h Q pc ls (vi a1 :: vl a0 :: vr 12 i :: st) N g := r_callV (Y' := YX1_go) (as := [vl a0, vi a1]) hat hlink kIX1_go kLX1_go kCX1_go kNX1 (n := 2) (by decide +kernel) rfl (k := 12) (c := 0) rfl rfl rfl (by decide) hh hcat nL nS (Ck.post (qV_b (fun _ _ q => q)) hck)
theorem xX1_becomeDifference {idx i : Nat} {k0 a0 : Nat} {k1 a1 : Nat} (hlink : Cond.methodLink Y.1.cls idx yX1_becomeDifference ∈ TW) (hat : At Y pc (.invokevirtual idx) 3 pc') (hh : hX1_becomeDifference + 1 ≤ h) (hcat : (st.map cat).sum ≤ 8) (nL : ls.all nml = true) (nS : st.all nmo = true) (hck : Ck K YX1_becomeDifference hX1_becomeDifference [vr 12 i, vr k0 a0, vr k1 a1] N g (qV (fun N' g' => AW K Y h Q pc' ls st N' g'))) : AW K Y h Q pc ls (vr k1 a1 :: vr k0 a0 :: vr 12 i :: st) N g := r_callV (Y' := YX1_becomeDifference) (as := [vr k0 a0, vr k1 a1]) hat hlink kIX1_becomeDifference kLX1_becomeDifference kCX1_becomeDifference kNX1 (n := 2) (by decide +kernel) rfl (k := 12) (c := 0) rfl rfl rfl (by decide) hh hcat nL nS (Ck.post (qV_b (fun _ _ q => q)) hck)
theorem xX1_lastOf {idx i : Nat} {a0 : Int} (hlink : Cond.methodLink Y.1.cls idx yX1_lastOf ∈ TW) (hat : At Y pc (.invokevirtual idx) 3 pc') (hh : hX1_lastOf + 1 ≤ h) (hcat : (st.map cat).sum ≤ 8) (nL : ls.all nml = true) (nS : st.all nmo = true) (hck : Ck K YX1_lastOf hX1_lastOf [vr 12 i, vi a0] N g (qI (fun z N' g' => AW K Y h Q pc' ls (vi z :: st) N' g'))) : AW K Y h Q pc ls (vi a0 :: vr 12 i :: st) N g := r_callV (Y' := YX1_lastOf) (as := [vi a0]) hat hlink kIX1_lastOf kLX1_lastOf kCX1_lastOf kNX1 (n := 1) (by decide +kernel) rfl (k := 12) (c := 0) rfl rfl rfl (by decide) hh hcat nL nS (Ck.post (qI_b (fun _ _ _ q => q)) hck)
theorem xX1_further {idx i : Nat} {a0 : Int} (hlink : Cond.methodLink Y.1.cls idx yX1_further ∈ TW) (hat : At Y pc (.invokevirtual idx) 3 pc') (hh : hX1_further + 1 ≤ h) (hcat : (st.map cat).sum ≤ 8) (nL : ls.all nml = true) (nS : st.all nmo = true) (hck : Ck K YX1_further hX1_further [vr 12 i, vi a0] N g (qI (fun z N' g' => AW K Y h Q pc' ls (vi z :: st) N' g'))) : AW K Y h Q pc ls (vi a0 :: vr 12 i :: st) N g := r_callV (Y' := YX1_further) (as := [vi a0]) hat hlink kIX1_further kLX1_further kCX1_further kNX1 (n := 1) (by decide +kernel) rfl (k := 12) (c := 0) rfl rfl rfl (by decide) hh hcat nL nS (Ck.post (qI_b (fun _ _ _ q => q)) hck)
theorem xX1_valueIn {idx i : Nat} {a0 : Int} {a1 : Int} (hlink : Cond.methodLink Y.1.cls idx yX1_valueIn ∈ TW) (hat : At Y pc (.invokevirtual idx) 3 pc') (hh : hX1_valueIn + 1 ≤ h) (hcat : (st.map cat).sum ≤ 8) (nL : ls.all nml = true) (nS : st.all nmo = true) (hck : Ck K YX1_valueIn hX1_valueIn [vr 12 i, vi a0, vi a1] N g (qL (fun z N' g' => AW K Y h Q pc' ls (vl z :: st) N' g'))) : AW K Y h Q pc ls (vi a1 :: vi a0 :: vr 12 i :: st) N g := r_callV (Y' := YX1_valueIn) (as := [vi a0, vi a1]) hat hlink kIX1_valueIn kLX1_valueIn kCX1_valueIn kNX1 (n := 2) (by decide +kernel) rfl (k := 12) (c := 0) rfl rfl rfl (by decide) hh hcat nL nS (Ck.post (qL_b (fun _ _ _ q => q)) hck)
theorem xX1_lastValue {idx i : Nat} {a0 : Int} (hlink : Cond.methodLink Y.1.cls idx yX1_lastValue ∈ TW) (hat : At Y pc (.invokevirtual idx) 3 pc') (hh : hX1_lastValue + 1 ≤ h) (hcat : (st.map cat).sum ≤ 8) (nL : ls.all nml = true) (nS : st.all nmo = true) (hck : Ck K YX1_lastValue hX1_lastValue [vr 12 i, vi a0] N g (qL (fun z N' g' => AW K Y h Q pc' ls (vl z :: st) N' g'))) : AW K Y h Q pc ls (vi a0 :: vr 12 i :: st) N g := r_callV (Y' := YX1_lastValue) (as := [vi a0]) hat hlink kIX1_lastValue kLX1_lastValue kCX1_lastValue kNX1 (n := 1) (by decide +kernel) rfl (k := 12) (c := 0) rfl rfl rfl (by decide) hh hcat nL nS (Ck.post (qL_b (fun _ _ _ q => q)) hck)
theorem xX1_gainInto {idx i : Nat} {a0 : Int} (hlink : Cond.methodLink Y.1.cls idx yX1_gainInto ∈ TW) (hat : At Y pc (.invokevirtual idx) 3 pc') (hh : hX1_gainInto + 1 ≤ h) (hcat : (st.map cat).sum ≤ 8) (nL : ls.all nml = true) (nS : st.all nmo = true) (hck : Ck K YX1_gainInto hX1_gainInto [vr 12 i, vi a0] N g (qL (fun z N' g' => AW K Y h Q pc' ls (vl z :: st) N' g'))) : AW K Y h Q pc ls (vi a0 :: vr 12 i :: st) N g := r_callV (Y' := YX1_gainInto) (as := [vi a0]) hat hlink kIX1_gainInto kLX1_gainInto kCX1_gainInto kNX1 (n := 1) (by decide +kernel) rfl (k := 12) (c := 0) rfl rfl rfl (by decide) hh hcat nL nS (Ck.post (qL_b (fun _ _ _ q => q)) hck)
theorem xX1_pieceOf {idx i : Nat} {a0 : Int} (hlink : Cond.methodLink Y.1.cls idx yX1_pieceOf ∈ TW) (hat : At Y pc (.invokevirtual idx) 3 pc') (hh : hX1_pieceOf + 1 ≤ h) (hcat : (st.map cat).sum ≤ 8) (nL : ls.all nml = true) (nS : st.all nmo = true) (hck : Ck K YX1_pieceOf hX1_pieceOf [vr 12 i, vi a0] N g (qI (fun z N' g' => AW K Y h Q pc' ls (vi z :: st) N' g'))) : AW K Y h Q pc ls (vi a0 :: vr 12 i :: st) N g := r_callV (Y' := YX1_pieceOf) (as := [vi a0]) hat hlink kIX1_pieceOf kLX1_pieceOf kCX1_pieceOf kNX1 (n := 1) (by decide +kernel) rfl (k := 12) (c := 0) rfl rfl rfl (by decide) hh hcat nL nS (Ck.post (qI_b (fun _ _ _ q => q)) hck)
theorem xX1_valueAt {idx i : Nat} {a0 : Int} (hlink : Cond.methodLink Y.1.cls idx yX1_valueAt ∈ TW) (hat : At Y pc (.invokevirtual idx) 3 pc') (hh : hX1_valueAt + 1 ≤ h) (hcat : (st.map cat).sum ≤ 8) (nL : ls.all nml = true) (nS : st.all nmo = true) (hck : Ck K YX1_valueAt hX1_valueAt [vr 12 i, vi a0] N g (qL (fun z N' g' => AW K Y h Q pc' ls (vl z :: st) N' g'))) : AW K Y h Q pc ls (vi a0 :: vr 12 i :: st) N g := r_callV (Y' := YX1_valueAt) (as := [vi a0]) hat hlink kIX1_valueAt kLX1_valueAt kCX1_valueAt kNX1 (n := 1) (by decide +kernel) rfl (k := 12) (c := 0) rfl rfl rfl (by decide) hh hcat nL nS (Ck.post (qL_b (fun _ _ _ q => q)) hck)
theorem xX1_timesIn {idx i : Nat} {a0 : Int} {a1 : Int} (hlink : Cond.methodLink Y.1.cls idx yX1_timesIn ∈ TW) (hat : At Y pc (.invokevirtual idx) 3 pc') (hh : hX1_timesIn + 1 ≤ h) (hcat : (st.map cat).sum ≤ 8) (nL : ls.all nml = true) (nS : st.all nmo = true) (hck : Ck K YX1_timesIn hX1_timesIn [vr 12 i, vi a0, vl a1] N g (qI (fun z N' g' => AW K Y h Q pc' ls (vi z :: st) N' g'))) : AW K Y h Q pc ls (vl a1 :: vi a0 :: vr 12 i :: st) N g := r_callV (Y' := YX1_timesIn) (as := [vi a0, vl a1]) hat hlink kIX1_timesIn kLX1_timesIn kCX1_timesIn kNX1 (n := 2) (by decide +kernel) rfl (k := 12) (c := 0) rfl rfl rfl (by decide) hh hcat nL nS (Ck.post (qI_b (fun _ _ _ q => q)) hck)
theorem xX1_wagesWith {idx i : Nat} {a0 : Int} (hlink : Cond.methodLink Y.1.cls idx yX1_wagesWith ∈ TW) (hat : At Y pc (.invokevirtual idx) 3 pc') (hh : hX1_wagesWith + 1 ≤ h) (hcat : (st.map cat).sum ≤ 8) (nL : ls.all nml = true) (nS : st.all nmo = true) (hck : Ck K YX1_wagesWith hX1_wagesWith [vr 12 i, vl a0] N g (qI (fun z N' g' => AW K Y h Q pc' ls (vi z :: st) N' g'))) : AW K Y h Q pc ls (vl a0 :: vr 12 i :: st) N g := r_callV (Y' := YX1_wagesWith) (as := [vl a0]) hat hlink kIX1_wagesWith kLX1_wagesWith kCX1_wagesWith kNX1 (n := 1) (by decide +kernel) rfl (k := 12) (c := 0) rfl rfl rfl (by decide) hh hcat nL nS (Ck.post (qI_b (fun _ _ _ q => q)) hck)
theorem xX1_wageWith {idx i : Nat} {a0 : Int} {a1 : Int} (hlink : Cond.methodLink Y.1.cls idx yX1_wageWith ∈ TW) (hat : At Y pc (.invokevirtual idx) 3 pc') (hh : hX1_wageWith + 1 ≤ h) (hcat : (st.map cat).sum ≤ 8) (nL : ls.all nml = true) (nS : st.all nmo = true) (hck : Ck K YX1_wageWith hX1_wageWith [vr 12 i, vl a0, vi a1] N g (qI (fun z N' g' => AW K Y h Q pc' ls (vi z :: st) N' g'))) : AW K Y h Q pc ls (vi a1 :: vl a0 :: vr 12 i :: st) N g := r_callV (Y' := YX1_wageWith) (as := [vl a0, vi a1]) hat hlink kIX1_wageWith kLX1_wageWith kCX1_wageWith kNX1 (n := 2) (by decide +kernel) rfl (k := 12) (c := 0) rfl rfl rfl (by decide) hh hcat nL nS (Ck.post (qI_b (fun _ _ _ q => q)) hck)
theorem xX1_leastNoLess {idx i : Nat} {a0 : Int} {a1 : Int} (hlink : Cond.methodLink Y.1.cls idx yX1_leastNoLess ∈ TW) (hat : At Y pc (.invokevirtual idx) 3 pc') (hh : hX1_leastNoLess + 1 ≤ h) (hcat : (st.map cat).sum ≤ 8) (nL : ls.all nml = true) (nS : st.all nmo = true) (hck : Ck K YX1_leastNoLess hX1_leastNoLess [vr 12 i, vi a0, vl a1] N g (qI (fun z N' g' => AW K Y h Q pc' ls (vi z :: st) N' g'))) : AW K Y h Q pc ls (vl a1 :: vi a0 :: vr 12 i :: st) N g := r_callV (Y' := YX1_leastNoLess) (as := [vi a0, vl a1]) hat hlink kIX1_leastNoLess kLX1_leastNoLess kCX1_leastNoLess kNX1 (n := 2) (by decide +kernel) rfl (k := 12) (c := 0) rfl rfl rfl (by decide) hh hcat nL nS (Ck.post (qI_b (fun _ _ _ q => q)) hck)
theorem xX1_greatestNoMore {idx i : Nat} {a0 : Int} (hlink : Cond.methodLink Y.1.cls idx yX1_greatestNoMore ∈ TW) (hat : At Y pc (.invokevirtual idx) 3 pc') (hh : hX1_greatestNoMore + 1 ≤ h) (hcat : (st.map cat).sum ≤ 8) (nL : ls.all nml = true) (nS : st.all nmo = true) (hck : Ck K YX1_greatestNoMore hX1_greatestNoMore [vr 12 i, vl a0] N g (qI (fun z N' g' => AW K Y h Q pc' ls (vi z :: st) N' g'))) : AW K Y h Q pc ls (vl a0 :: vr 12 i :: st) N g := r_callV (Y' := YX1_greatestNoMore) (as := [vl a0]) hat hlink kIX1_greatestNoMore kLX1_greatestNoMore kCX1_greatestNoMore kNX1 (n := 1) (by decide +kernel) rfl (k := 12) (c := 0) rfl rfl rfl (by decide) hh hcat nL nS (Ck.post (qI_b (fun _ _ _ q => q)) hck)
theorem xX1_greatestKeptNoMore {idx i : Nat} {a0 : Int} (hlink : Cond.methodLink Y.1.cls idx yX1_greatestKeptNoMore ∈ TW) (hat : At Y pc (.invokevirtual idx) 3 pc') (hh : hX1_greatestKeptNoMore + 1 ≤ h) (hcat : (st.map cat).sum ≤ 8) (nL : ls.all nml = true) (nS : st.all nmo = true) (hck : Ck K YX1_greatestKeptNoMore hX1_greatestKeptNoMore [vr 12 i, vi a0] N g (qI (fun z N' g' => AW K Y h Q pc' ls (vi z :: st) N' g'))) : AW K Y h Q pc ls (vi a0 :: vr 12 i :: st) N g := r_callV (Y' := YX1_greatestKeptNoMore) (as := [vi a0]) hat hlink kIX1_greatestKeptNoMore kLX1_greatestKeptNoMore kCX1_greatestKeptNoMore kNX1 (n := 1) (by decide +kernel) rfl (k := 12) (c := 0) rfl rfl rfl (by decide) hh hcat nL nS (Ck.post (qI_b (fun _ _ _ q => q)) hck)
theorem xX1_nearestBelow {idx i : Nat} {a0 : Int} (hlink : Cond.methodLink Y.1.cls idx yX1_nearestBelow ∈ TW) (hat : At Y pc (.invokevirtual idx) 3 pc') (hh : hX1_nearestBelow + 1 ≤ h) (hcat : (st.map cat).sum ≤ 8) (nL : ls.all nml = true) (nS : st.all nmo = true) (hck : Ck K YX1_nearestBelow hX1_nearestBelow [vr 12 i, vl a0] N g (qI (fun z N' g' => AW K Y h Q pc' ls (vi z :: st) N' g'))) : AW K Y h Q pc ls (vl a0 :: vr 12 i :: st) N g := r_callV (Y' := YX1_nearestBelow) (as := [vl a0]) hat hlink kIX1_nearestBelow kLX1_nearestBelow kCX1_nearestBelow kNX1 (n := 1) (by decide +kernel) rfl (k := 12) (c := 0) rfl rfl rfl (by decide) hh hcat nL nS (Ck.post (qI_b (fun _ _ _ q => q)) hck)
theorem xX1_cliffInto {idx i : Nat} {a0 : Int} (hlink : Cond.methodLink Y.1.cls idx yX1_cliffInto ∈ TW) (hat : At Y pc (.invokevirtual idx) 3 pc') (hh : hX1_cliffInto + 1 ≤ h) (hcat : (st.map cat).sum ≤ 8) (nL : ls.all nml = true) (nS : st.all nmo = true) (hck : Ck K YX1_cliffInto hX1_cliffInto [vr 12 i, vi a0] N g (qI (fun z N' g' => AW K Y h Q pc' ls (vi z :: st) N' g'))) : AW K Y h Q pc ls (vi a0 :: vr 12 i :: st) N g := r_callV (Y' := YX1_cliffInto) (as := [vi a0]) hat hlink kIX1_cliffInto kLX1_cliffInto kCX1_cliffInto kNX1 (n := 1) (by decide +kernel) rfl (k := 12) (c := 0) rfl rfl rfl (by decide) hh hcat nL nS (Ck.post (qI_b (fun _ _ _ q => q)) hck)
theorem xX1_cliffsIn {idx i : Nat} {a0 : Int} (hlink : Cond.methodLink Y.1.cls idx yX1_cliffsIn ∈ TW) (hat : At Y pc (.invokevirtual idx) 3 pc') (hh : hX1_cliffsIn + 1 ≤ h) (hcat : (st.map cat).sum ≤ 8) (nL : ls.all nml = true) (nS : st.all nmo = true) (hck : Ck K YX1_cliffsIn hX1_cliffsIn [vr 12 i, vi a0] N g (qI (fun z N' g' => AW K Y h Q pc' ls (vi z :: st) N' g'))) : AW K Y h Q pc ls (vi a0 :: vr 12 i :: st) N g := r_callV (Y' := YX1_cliffsIn) (as := [vi a0]) hat hlink kIX1_cliffsIn kLX1_cliffsIn kCX1_cliffsIn kNX1 (n := 1) (by decide +kernel) rfl (k := 12) (c := 0) rfl rfl rfl (by decide) hh hcat nL nS (Ck.post (qI_b (fun _ _ _ q => q)) hck)
theorem xX1_cliffs {idx i : Nat}  (hlink : Cond.methodLink Y.1.cls idx yX1_cliffs ∈ TW) (hat : At Y pc (.invokevirtual idx) 3 pc') (hh : hX1_cliffs + 1 ≤ h) (hcat : (st.map cat).sum ≤ 8) (nL : ls.all nml = true) (nS : st.all nmo = true) (hck : Ck K YX1_cliffs hX1_cliffs [vr 12 i] N g (qI (fun z N' g' => AW K Y h Q pc' ls (vi z :: st) N' g'))) : AW K Y h Q pc ls (vr 12 i :: st) N g := r_callV (Y' := YX1_cliffs) (as := []) hat hlink kIX1_cliffs kLX1_cliffs kCX1_cliffs kNX1 (n := 0) (by decide +kernel) rfl (k := 12) (c := 0) rfl rfl rfl (by decide) hh hcat nL nS (Ck.post (qI_b (fun _ _ _ q => q)) hck)
theorem xX1_cliffWage {idx i : Nat} {a0 : Int} (hlink : Cond.methodLink Y.1.cls idx yX1_cliffWage ∈ TW) (hat : At Y pc (.invokevirtual idx) 3 pc') (hh : hX1_cliffWage + 1 ≤ h) (hcat : (st.map cat).sum ≤ 8) (nL : ls.all nml = true) (nS : st.all nmo = true) (hck : Ck K YX1_cliffWage hX1_cliffWage [vr 12 i, vi a0] N g (qI (fun z N' g' => AW K Y h Q pc' ls (vi z :: st) N' g'))) : AW K Y h Q pc ls (vi a0 :: vr 12 i :: st) N g := r_callV (Y' := YX1_cliffWage) (as := [vi a0]) hat hlink kIX1_cliffWage kLX1_cliffWage kCX1_cliffWage kNX1 (n := 1) (by decide +kernel) rfl (k := 12) (c := 0) rfl rfl rfl (by decide) hh hcat nL nS (Ck.post (qI_b (fun _ _ _ q => q)) hck)
theorem xX1_backFrom {idx i : Nat} {a0 : Int} (hlink : Cond.methodLink Y.1.cls idx yX1_backFrom ∈ TW) (hat : At Y pc (.invokevirtual idx) 3 pc') (hh : hX1_backFrom + 1 ≤ h) (hcat : (st.map cat).sum ≤ 8) (nL : ls.all nml = true) (nS : st.all nmo = true) (hck : Ck K YX1_backFrom hX1_backFrom [vr 12 i, vi a0] N g (qI (fun z N' g' => AW K Y h Q pc' ls (vi z :: st) N' g'))) : AW K Y h Q pc ls (vi a0 :: vr 12 i :: st) N g := r_callV (Y' := YX1_backFrom) (as := [vi a0]) hat hlink kIX1_backFrom kLX1_backFrom kCX1_backFrom kNX1 (n := 1) (by decide +kernel) rfl (k := 12) (c := 0) rfl rfl rfl (by decide) hh hcat nL nS (Ck.post (qI_b (fun _ _ _ q => q)) hck)
theorem xX1_trapFrom {idx i : Nat} {a0 : Int} (hlink : Cond.methodLink Y.1.cls idx yX1_trapFrom ∈ TW) (hat : At Y pc (.invokevirtual idx) 3 pc') (hh : hX1_trapFrom + 1 ≤ h) (hcat : (st.map cat).sum ≤ 8) (nL : ls.all nml = true) (nS : st.all nmo = true) (hck : Ck K YX1_trapFrom hX1_trapFrom [vr 12 i, vi a0] N g (qI (fun z N' g' => AW K Y h Q pc' ls (vi z :: st) N' g'))) : AW K Y h Q pc ls (vi a0 :: vr 12 i :: st) N g := r_callV (Y' := YX1_trapFrom) (as := [vi a0]) hat hlink kIX1_trapFrom kLX1_trapFrom kCX1_trapFrom kNX1 (n := 1) (by decide +kernel) rfl (k := 12) (c := 0) rfl rfl rfl (by decide) hh hcat nL nS (Ck.post (qI_b (fun _ _ _ q => q)) hck)
theorem xX1_lowAtFirst {idx i : Nat} {a0 : Int} {a1 : Int} (hlink : Cond.methodLink Y.1.cls idx yX1_lowAtFirst ∈ TW) (hat : At Y pc (.invokevirtual idx) 3 pc') (hh : hX1_lowAtFirst + 1 ≤ h) (hcat : (st.map cat).sum ≤ 8) (nL : ls.all nml = true) (nS : st.all nmo = true) (hck : Ck K YX1_lowAtFirst hX1_lowAtFirst [vr 12 i, vi a0, vl a1] N g (qI (fun z N' g' => AW K Y h Q pc' ls (vi z :: st) N' g'))) : AW K Y h Q pc ls (vl a1 :: vi a0 :: vr 12 i :: st) N g := r_callV (Y' := YX1_lowAtFirst) (as := [vi a0, vl a1]) hat hlink kIX1_lowAtFirst kLX1_lowAtFirst kCX1_lowAtFirst kNX1 (n := 2) (by decide +kernel) rfl (k := 12) (c := 0) rfl rfl rfl (by decide) hh hcat nL nS (Ck.post (qI_b (fun _ _ _ q => q)) hck)
theorem xX1_trappedWages {idx i : Nat}  (hlink : Cond.methodLink Y.1.cls idx yX1_trappedWages ∈ TW) (hat : At Y pc (.invokevirtual idx) 3 pc') (hh : hX1_trappedWages + 1 ≤ h) (hcat : (st.map cat).sum ≤ 8) (nL : ls.all nml = true) (nS : st.all nmo = true) (hck : Ck K YX1_trappedWages hX1_trappedWages [vr 12 i] N g (qI (fun z N' g' => AW K Y h Q pc' ls (vi z :: st) N' g'))) : AW K Y h Q pc ls (vr 12 i :: st) N g := r_callV (Y' := YX1_trappedWages) (as := []) hat hlink kIX1_trappedWages kLX1_trappedWages kCX1_trappedWages kNX1 (n := 0) (by decide +kernel) rfl (k := 12) (c := 0) rfl rfl rfl (by decide) hh hcat nL nS (Ck.post (qI_b (fun _ _ _ q => q)) hck)
theorem xX1_longestTrap {idx i : Nat}  (hlink : Cond.methodLink Y.1.cls idx yX1_longestTrap ∈ TW) (hat : At Y pc (.invokevirtual idx) 3 pc') (hh : hX1_longestTrap + 1 ≤ h) (hcat : (st.map cat).sum ≤ 8) (nL : ls.all nml = true) (nS : st.all nmo = true) (hck : Ck K YX1_longestTrap hX1_longestTrap [vr 12 i] N g (qI (fun z N' g' => AW K Y h Q pc' ls (vi z :: st) N' g'))) : AW K Y h Q pc ls (vr 12 i :: st) N g := r_callV (Y' := YX1_longestTrap) (as := []) hat hlink kIX1_longestTrap kLX1_longestTrap kCX1_longestTrap kNX1 (n := 0) (by decide +kernel) rfl (k := 12) (c := 0) rfl rfl rfl (by decide) hh hcat nL nS (Ck.post (qI_b (fun _ _ _ q => q)) hck)
theorem xX1_wageOfMost {idx i : Nat}  (hlink : Cond.methodLink Y.1.cls idx yX1_wageOfMost ∈ TW) (hat : At Y pc (.invokevirtual idx) 3 pc') (hh : hX1_wageOfMost + 1 ≤ h) (hcat : (st.map cat).sum ≤ 8) (nL : ls.all nml = true) (nS : st.all nmo = true) (hck : Ck K YX1_wageOfMost hX1_wageOfMost [vr 12 i] N g (qI (fun z N' g' => AW K Y h Q pc' ls (vi z :: st) N' g'))) : AW K Y h Q pc ls (vr 12 i :: st) N g := r_callV (Y' := YX1_wageOfMost) (as := []) hat hlink kIX1_wageOfMost kLX1_wageOfMost kCX1_wageOfMost kNX1 (n := 0) (by decide +kernel) rfl (k := 12) (c := 0) rfl rfl rfl (by decide) hh hcat nL nS (Ck.post (qI_b (fun _ _ _ q => q)) hck)
theorem xX1_wageOfLeast {idx i : Nat}  (hlink : Cond.methodLink Y.1.cls idx yX1_wageOfLeast ∈ TW) (hat : At Y pc (.invokevirtual idx) 3 pc') (hh : hX1_wageOfLeast + 1 ≤ h) (hcat : (st.map cat).sum ≤ 8) (nL : ls.all nml = true) (nS : st.all nmo = true) (hck : Ck K YX1_wageOfLeast hX1_wageOfLeast [vr 12 i] N g (qI (fun z N' g' => AW K Y h Q pc' ls (vi z :: st) N' g'))) : AW K Y h Q pc ls (vr 12 i :: st) N g := r_callV (Y' := YX1_wageOfLeast) (as := []) hat hlink kIX1_wageOfLeast kLX1_wageOfLeast kCX1_wageOfLeast kNX1 (n := 0) (by decide +kernel) rfl (k := 12) (c := 0) rfl rfl rfl (by decide) hh hcat nL nS (Ck.post (qI_b (fun _ _ _ q => q)) hck)
theorem xX1_widest {idx i : Nat}  (hlink : Cond.methodLink Y.1.cls idx yX1_widest ∈ TW) (hat : At Y pc (.invokevirtual idx) 3 pc') (hh : hX1_widest + 1 ≤ h) (hcat : (st.map cat).sum ≤ 8) (nL : ls.all nml = true) (nS : st.all nmo = true) (hck : Ck K YX1_widest hX1_widest [vr 12 i] N g (qI (fun z N' g' => AW K Y h Q pc' ls (vi z :: st) N' g'))) : AW K Y h Q pc ls (vr 12 i :: st) N g := r_callV (Y' := YX1_widest) (as := []) hat hlink kIX1_widest kLX1_widest kCX1_widest kNX1 (n := 0) (by decide +kernel) rfl (k := 12) (c := 0) rfl rfl rfl (by decide) hh hcat nL nS (Ck.post (qI_b (fun _ _ _ q => q)) hck)
theorem xX1_steepest {idx i : Nat}  (hlink : Cond.methodLink Y.1.cls idx yX1_steepest ∈ TW) (hat : At Y pc (.invokevirtual idx) 3 pc') (hh : hX1_steepest + 1 ≤ h) (hcat : (st.map cat).sum ≤ 8) (nL : ls.all nml = true) (nS : st.all nmo = true) (hck : Ck K YX1_steepest hX1_steepest [vr 12 i] N g (qI (fun z N' g' => AW K Y h Q pc' ls (vi z :: st) N' g'))) : AW K Y h Q pc ls (vr 12 i :: st) N g := r_callV (Y' := YX1_steepest) (as := []) hat hlink kIX1_steepest kLX1_steepest kCX1_steepest kNX1 (n := 0) (by decide +kernel) rfl (k := 12) (c := 0) rfl rfl rfl (by decide) hh hcat nL nS (Ck.post (qI_b (fun _ _ _ q => q)) hck)
theorem xX1_flatPieces {idx i : Nat}  (hlink : Cond.methodLink Y.1.cls idx yX1_flatPieces ∈ TW) (hat : At Y pc (.invokevirtual idx) 3 pc') (hh : hX1_flatPieces + 1 ≤ h) (hcat : (st.map cat).sum ≤ 8) (nL : ls.all nml = true) (nS : st.all nmo = true) (hck : Ck K YX1_flatPieces hX1_flatPieces [vr 12 i] N g (qI (fun z N' g' => AW K Y h Q pc' ls (vi z :: st) N' g'))) : AW K Y h Q pc ls (vr 12 i :: st) N g := r_callV (Y' := YX1_flatPieces) (as := []) hat hlink kIX1_flatPieces kLX1_flatPieces kCX1_flatPieces kNX1 (n := 0) (by decide +kernel) rfl (k := 12) (c := 0) rfl rfl rfl (by decide) hh hcat nL nS (Ck.post (qI_b (fun _ _ _ q => q)) hck)
theorem xX1_greatestPiece {idx i : Nat}  (hlink : Cond.methodLink Y.1.cls idx yX1_greatestPiece ∈ TW) (hat : At Y pc (.invokevirtual idx) 3 pc') (hh : hX1_greatestPiece + 1 ≤ h) (hcat : (st.map cat).sum ≤ 8) (nL : ls.all nml = true) (nS : st.all nmo = true) (hck : Ck K YX1_greatestPiece hX1_greatestPiece [vr 12 i] N g (qI (fun z N' g' => AW K Y h Q pc' ls (vi z :: st) N' g'))) : AW K Y h Q pc ls (vr 12 i :: st) N g := r_callV (Y' := YX1_greatestPiece) (as := []) hat hlink kIX1_greatestPiece kLX1_greatestPiece kCX1_greatestPiece kNX1 (n := 0) (by decide +kernel) rfl (k := 12) (c := 0) rfl rfl rfl (by decide) hh hcat nL nS (Ck.post (qI_b (fun _ _ _ q => q)) hck)
theorem xX1_jumpCount {idx i : Nat}  (hlink : Cond.methodLink Y.1.cls idx yX1_jumpCount ∈ TW) (hat : At Y pc (.invokevirtual idx) 3 pc') (hh : hX1_jumpCount + 1 ≤ h) (hcat : (st.map cat).sum ≤ 8) (nL : ls.all nml = true) (nS : st.all nmo = true) (hck : Ck K YX1_jumpCount hX1_jumpCount [vr 12 i] N g (qI (fun z N' g' => AW K Y h Q pc' ls (vi z :: st) N' g'))) : AW K Y h Q pc ls (vr 12 i :: st) N g := r_callV (Y' := YX1_jumpCount) (as := []) hat hlink kIX1_jumpCount kLX1_jumpCount kCX1_jumpCount kNX1 (n := 0) (by decide +kernel) rfl (k := 12) (c := 0) rfl rfl rfl (by decide) hh hcat nL nS (Ck.post (qI_b (fun _ _ _ q => q)) hck)
theorem xX1_kinkCount {idx i : Nat} {a0 : Int} (hlink : Cond.methodLink Y.1.cls idx yX1_kinkCount ∈ TW) (hat : At Y pc (.invokevirtual idx) 3 pc') (hh : hX1_kinkCount + 1 ≤ h) (hcat : (st.map cat).sum ≤ 8) (nL : ls.all nml = true) (nS : st.all nmo = true) (hck : Ck K YX1_kinkCount hX1_kinkCount [vr 12 i, vi a0] N g (qI (fun z N' g' => AW K Y h Q pc' ls (vi z :: st) N' g'))) : AW K Y h Q pc ls (vi a0 :: vr 12 i :: st) N g := r_callV (Y' := YX1_kinkCount) (as := [vi a0]) hat hlink kIX1_kinkCount kLX1_kinkCount kCX1_kinkCount kNX1 (n := 1) (by decide +kernel) rfl (k := 12) (c := 0) rfl rfl rfl (by decide) hh hcat nL nS (Ck.post (qI_b (fun _ _ _ q => q)) hck)
theorem xX1_signChanges {idx i : Nat}  (hlink : Cond.methodLink Y.1.cls idx yX1_signChanges ∈ TW) (hat : At Y pc (.invokevirtual idx) 3 pc') (hh : hX1_signChanges + 1 ≤ h) (hcat : (st.map cat).sum ≤ 8) (nL : ls.all nml = true) (nS : st.all nmo = true) (hck : Ck K YX1_signChanges hX1_signChanges [vr 12 i] N g (qI (fun z N' g' => AW K Y h Q pc' ls (vi z :: st) N' g'))) : AW K Y h Q pc ls (vr 12 i :: st) N g := r_callV (Y' := YX1_signChanges) (as := []) hat hlink kIX1_signChanges kLX1_signChanges kCX1_signChanges kNX1 (n := 0) (by decide +kernel) rfl (k := 12) (c := 0) rfl rfl rfl (by decide) hh hcat nL nS (Ck.post (qI_b (fun _ _ _ q => q)) hck)
theorem xX2_draw {idx i : Nat} {k0 a0 : Nat} {k1 a1 : Nat} (hlink : Cond.methodLink Y.1.cls idx yX2_draw ∈ TW) (hat : At Y pc (.invokevirtual idx) 3 pc') (hh : hX2_draw + 1 ≤ h) (hcat : (st.map cat).sum ≤ 8) (nL : ls.all nml = true) (nS : st.all nmo = true) (hck : Ck K YX2_draw hX2_draw [vr 7 i, vr k0 a0, vr k1 a1] N g (qV (fun N' g' => AW K Y h Q pc' ls st N' g'))) : AW K Y h Q pc ls (vr k1 a1 :: vr k0 a0 :: vr 7 i :: st) N g := r_callV (Y' := YX2_draw) (as := [vr k0 a0, vr k1 a1]) hat hlink kIX2_draw kLX2_draw kCX2_draw kNX2 (n := 2) (by decide +kernel) rfl (k := 7) (c := 1) rfl rfl rfl (by decide) hh hcat nL nS (Ck.post (qV_b (fun _ _ q => q)) hck)
theorem xX2_straightFor {idx i : Nat} {k0 a0 : Nat} {k1 a1 : Nat} {a2 : Int} (hlink : Cond.methodLink Y.1.cls idx yX2_straightFor ∈ TW) (hat : At Y pc (.invokevirtual idx) 3 pc') (hh : hX2_straightFor + 1 ≤ h) (hcat : (st.map cat).sum ≤ 8) (nL : ls.all nml = true) (nS : st.all nmo = true) (hck : Ck K YX2_straightFor hX2_straightFor [vr 7 i, vr k0 a0, vr k1 a1, vi a2] N g (qI (fun z N' g' => AW K Y h Q pc' ls (vi z :: st) N' g'))) : AW K Y h Q pc ls (vi a2 :: vr k1 a1 :: vr k0 a0 :: vr 7 i :: st) N g := r_callV (Y' := YX2_straightFor) (as := [vr k0 a0, vr k1 a1, vi a2]) hat hlink kIX2_straightFor kLX2_straightFor kCX2_straightFor kNX2 (n := 3) (by decide +kernel) rfl (k := 7) (c := 1) rfl rfl rfl (by decide) hh hcat nL nS (Ck.post (qI_b (fun _ _ _ q => q)) hck)
theorem xX2_gainOfTerms {idx i : Nat} {k0 a0 : Nat} {a1 : Int} (hlink : Cond.methodLink Y.1.cls idx yX2_gainOfTerms ∈ TW) (hat : At Y pc (.invokevirtual idx) 3 pc') (hh : hX2_gainOfTerms + 1 ≤ h) (hcat : (st.map cat).sum ≤ 8) (nL : ls.all nml = true) (nS : st.all nmo = true) (hck : Ck K YX2_gainOfTerms hX2_gainOfTerms [vr 7 i, vr k0 a0, vi a1] N g (qL (fun z N' g' => AW K Y h Q pc' ls (vl z :: st) N' g'))) : AW K Y h Q pc ls (vi a1 :: vr k0 a0 :: vr 7 i :: st) N g := r_callV (Y' := YX2_gainOfTerms) (as := [vr k0 a0, vi a1]) hat hlink kIX2_gainOfTerms kLX2_gainOfTerms kCX2_gainOfTerms kNX2 (n := 2) (by decide +kernel) rfl (k := 7) (c := 1) rfl rfl rfl (by decide) hh hcat nL nS (Ck.post (qL_b (fun _ _ _ q => q)) hck)
theorem xX2_reachIn {idx : Nat} {k0 a0 : Nat} {a1 : Int} {a2 : Int} {a3 : Int} {a4 : Int} (hlink : Cond.methodLink Y.1.cls idx yX2_reachIn ∈ TW) (hat : At Y pc (.invokestatic idx) 3 pc') (hh : hX2_reachIn + 1 ≤ h) (hcat : (st.map cat).sum ≤ 8) (nL : ls.all nml = true) (nS : st.all nmo = true) (hck : Ck K YX2_reachIn hX2_reachIn [vr k0 a0, vi a1, vi a2, vl a3, vl a4] N g (qL (fun z N' g' => AW K Y h Q pc' ls (vl z :: st) N' g'))) : AW K Y h Q pc ls (vl a4 :: vl a3 :: vi a2 :: vi a1 :: vr k0 a0 :: st) N g := r_callS (Y' := YX2_reachIn) (as := [vr k0 a0, vi a1, vi a2, vl a3, vl a4]) hat hlink kSX2_reachIn kCX2_reachIn kNX2 (n := 5) (by decide +kernel) rfl (by decide) hh hcat nL nS (Ck.post (qL_b (fun _ _ _ q => q)) hck)
theorem xX3_reckon {idx i : Nat} {k0 a0 : Nat} {a1 : Int} (hlink : Cond.methodLink Y.1.cls idx yX3_reckon ∈ TW) (hat : At Y pc (.invokevirtual idx) 3 pc') (hh : hX3_reckon + 1 ≤ h) (hcat : (st.map cat).sum ≤ 8) (nL : ls.all nml = true) (nS : st.all nmo = true) (hck : Ck K YX3_reckon hX3_reckon [vr 3 i, vr k0 a0, vi a1] N g (qL (fun z N' g' => AW K Y h Q pc' ls (vl z :: st) N' g'))) : AW K Y h Q pc ls (vi a1 :: vr k0 a0 :: vr 3 i :: st) N g := r_callV (Y' := YX3_reckon) (as := [vr k0 a0, vi a1]) hat hlink kIX3_reckon kLX3_reckon kCX3_reckon kNX3 (n := 2) (by decide +kernel) rfl (k := 3) (c := 2) rfl rfl rfl (by decide) hh hcat nL nS (Ck.post (qL_b (fun _ _ _ q => q)) hck)
theorem xX3_reckonHeld {idx i : Nat} {k0 a0 : Nat} {a1 : Int} {a2 : Int} {a3 : Int} {a4 : Int} (hlink : Cond.methodLink Y.1.cls idx yX3_reckonHeld ∈ TW) (hat : At Y pc (.invokevirtual idx) 3 pc') (hh : hX3_reckonHeld + 1 ≤ h) (hcat : (st.map cat).sum ≤ 8) (nL : ls.all nml = true) (nS : st.all nmo = true) (hck : Ck K YX3_reckonHeld hX3_reckonHeld [vr 3 i, vr k0 a0, vi a1, vi a2, vi a3, vl a4] N g (qL (fun z N' g' => AW K Y h Q pc' ls (vl z :: st) N' g'))) : AW K Y h Q pc ls (vl a4 :: vi a3 :: vi a2 :: vi a1 :: vr k0 a0 :: vr 3 i :: st) N g := r_callV (Y' := YX3_reckonHeld) (as := [vr k0 a0, vi a1, vi a2, vi a3, vl a4]) hat hlink kIX3_reckonHeld kLX3_reckonHeld kCX3_reckonHeld kNX3 (n := 5) (by decide +kernel) rfl (k := 3) (c := 2) rfl rfl rfl (by decide) hh hcat nL nS (Ck.post (qL_b (fun _ _ _ q => q)) hck)
theorem xX3_addUp {idx i : Nat} {k0 a0 : Nat} {a1 : Int} {a2 : Int} {a3 : Int} (hlink : Cond.methodLink Y.1.cls idx yX3_addUp ∈ TW) (hat : At Y pc (.invokevirtual idx) 3 pc') (hh : hX3_addUp + 1 ≤ h) (hcat : (st.map cat).sum ≤ 8) (nL : ls.all nml = true) (nS : st.all nmo = true) (hck : Ck K YX3_addUp hX3_addUp [vr 3 i, vr k0 a0, vi a1, vi a2, vi a3] N g (qL (fun z N' g' => AW K Y h Q pc' ls (vl z :: st) N' g'))) : AW K Y h Q pc ls (vi a3 :: vi a2 :: vi a1 :: vr k0 a0 :: vr 3 i :: st) N g := r_callV (Y' := YX3_addUp) (as := [vr k0 a0, vi a1, vi a2, vi a3]) hat hlink kIX3_addUp kLX3_addUp kCX3_addUp kNX3 (n := 4) (by decide +kernel) rfl (k := 3) (c := 2) rfl rfl rfl (by decide) hh hcat nL nS (Ck.post (qL_b (fun _ _ _ q => q)) hck)
theorem xX3_valueIn {idx : Nat} {k0 a0 : Nat} {a1 : Int} {a2 : Int} {a3 : Int} (hlink : Cond.methodLink Y.1.cls idx yX3_valueIn ∈ TW) (hat : At Y pc (.invokestatic idx) 3 pc') (hh : hX3_valueIn + 1 ≤ h) (hcat : (st.map cat).sum ≤ 8) (nL : ls.all nml = true) (nS : st.all nmo = true) (hck : Ck K YX3_valueIn hX3_valueIn [vr k0 a0, vi a1, vi a2, vl a3] N g (qL (fun z N' g' => AW K Y h Q pc' ls (vl z :: st) N' g'))) : AW K Y h Q pc ls (vl a3 :: vi a2 :: vi a1 :: vr k0 a0 :: st) N g := r_callS (Y' := YX3_valueIn) (as := [vr k0 a0, vi a1, vi a2, vl a3]) hat hlink kSX3_valueIn kCX3_valueIn kNX3 (n := 4) (by decide +kernel) rfl (by decide) hh hcat nL nS (Ck.post (qL_b (fun _ _ _ q => q)) hck)
theorem xX4_append {idx i : Nat} {a0 : Int} (hlink : Cond.methodLink Y.1.cls idx yX4_append ∈ TW) (hat : At Y pc (.invokevirtual idx) 3 pc') (hh : hX4_append + 1 ≤ h) (hcat : (st.map cat).sum ≤ 8) (nL : ls.all nml = true) (nS : st.all nmo = true) (hck : Ck K YX4_append hX4_append [vr 1 i, vi a0] N g (qV (fun N' g' => AW K Y h Q pc' ls st N' g'))) : AW K Y h Q pc ls (vi a0 :: vr 1 i :: st) N g := r_callV (Y' := YX4_append) (as := [vi a0]) hat hlink kIX4_append kLX4_append kCX4_append kNX4 (n := 1) (by decide +kernel) rfl (k := 1) (c := 3) rfl rfl rfl (by decide) hh hcat nL nS (Ck.post (qV_b (fun _ _ q => q)) hck)
theorem xX4_read {idx i : Nat} {k0 a0 : Nat} (hlink : Cond.methodLink Y.1.cls idx yX4_read ∈ TW) (hat : At Y pc (.invokevirtual idx) 3 pc') (hh : hX4_read + 1 ≤ h) (hcat : (st.map cat).sum ≤ 8) (nL : ls.all nml = true) (nS : st.all nmo = true) (hck : Ck K YX4_read hX4_read [vr 1 i, vr k0 a0] N g (qI (fun z N' g' => AW K Y h Q pc' ls (vi z :: st) N' g'))) : AW K Y h Q pc ls (vr k0 a0 :: vr 1 i :: st) N g := r_callV (Y' := YX4_read) (as := [vr k0 a0]) hat hlink kIX4_read kLX4_read kCX4_read kNX4 (n := 1) (by decide +kernel) rfl (k := 1) (c := 3) rfl rfl rfl (by decide) hh hcat nL nS (Ck.post (qI_b (fun _ _ _ q => q)) hck)
theorem xX4_fail {idx i : Nat} {a0 : Int} (hlink : Cond.methodLink Y.1.cls idx yX4_fail ∈ TW) (hat : At Y pc (.invokevirtual idx) 3 pc') (hh : hX4_fail + 1 ≤ h) (hcat : (st.map cat).sum ≤ 8) (nL : ls.all nml = true) (nS : st.all nmo = true) (hck : Ck K YX4_fail hX4_fail [vr 1 i, vi a0] N g (qI (fun z N' g' => AW K Y h Q pc' ls (vi z :: st) N' g'))) : AW K Y h Q pc ls (vi a0 :: vr 1 i :: st) N g := r_callV (Y' := YX4_fail) (as := [vi a0]) hat hlink kIX4_fail kLX4_fail kCX4_fail kNX4 (n := 1) (by decide +kernel) rfl (k := 1) (c := 3) rfl rfl rfl (by decide) hh hcat nL nS (Ck.post (qI_b (fun _ _ _ q => q)) hck)
theorem xX4_look {idx i : Nat}  (hlink : Cond.methodLink Y.1.cls idx yX4_look ∈ TW) (hat : At Y pc (.invokevirtual idx) 3 pc') (hh : hX4_look + 1 ≤ h) (hcat : (st.map cat).sum ≤ 8) (nL : ls.all nml = true) (nS : st.all nmo = true) (hck : Ck K YX4_look hX4_look [vr 1 i] N g (qI (fun z N' g' => AW K Y h Q pc' ls (vi z :: st) N' g'))) : AW K Y h Q pc ls (vr 1 i :: st) N g := r_callV (Y' := YX4_look) (as := []) hat hlink kIX4_look kLX4_look kCX4_look kNX4 (n := 0) (by decide +kernel) rfl (k := 1) (c := 3) rfl rfl rfl (by decide) hh hcat nL nS (Ck.post (qI_b (fun _ _ _ q => q)) hck)
theorem xX4_take {idx i : Nat} {a0 : Int} (hlink : Cond.methodLink Y.1.cls idx yX4_take ∈ TW) (hat : At Y pc (.invokevirtual idx) 3 pc') (hh : hX4_take + 1 ≤ h) (hcat : (st.map cat).sum ≤ 8) (nL : ls.all nml = true) (nS : st.all nmo = true) (hck : Ck K YX4_take hX4_take [vr 1 i, vi a0] N g (qI (fun z N' g' => AW K Y h Q pc' ls (vi z :: st) N' g'))) : AW K Y h Q pc ls (vi a0 :: vr 1 i :: st) N g := r_callV (Y' := YX4_take) (as := [vi a0]) hat hlink kIX4_take kLX4_take kCX4_take kNX4 (n := 1) (by decide +kernel) rfl (k := 1) (c := 3) rfl rfl rfl (by decide) hh hcat nL nS (Ck.post (qI_b (fun _ _ _ q => q)) hck)
theorem xX4_readBenefit {idx i : Nat} {k0 a0 : Nat} (hlink : Cond.methodLink Y.1.cls idx yX4_readBenefit ∈ TW) (hat : At Y pc (.invokevirtual idx) 3 pc') (hh : hX4_readBenefit + 1 ≤ h) (hcat : (st.map cat).sum ≤ 8) (nL : ls.all nml = true) (nS : st.all nmo = true) (hck : Ck K YX4_readBenefit hX4_readBenefit [vr 1 i, vr k0 a0] N g (qI (fun z N' g' => AW K Y h Q pc' ls (vi z :: st) N' g'))) : AW K Y h Q pc ls (vr k0 a0 :: vr 1 i :: st) N g := r_callV (Y' := YX4_readBenefit) (as := [vr k0 a0]) hat hlink kIX4_readBenefit kLX4_readBenefit kCX4_readBenefit kNX4 (n := 1) (by decide +kernel) rfl (k := 1) (c := 3) rfl rfl rfl (by decide) hh hcat nL nS (Ck.post (qI_b (fun _ _ _ q => q)) hck)
theorem xX4_readPaid {idx i : Nat} {k0 a0 : Nat} (hlink : Cond.methodLink Y.1.cls idx yX4_readPaid ∈ TW) (hat : At Y pc (.invokevirtual idx) 3 pc') (hh : hX4_readPaid + 1 ≤ h) (hcat : (st.map cat).sum ≤ 8) (nL : ls.all nml = true) (nS : st.all nmo = true) (hck : Ck K YX4_readPaid hX4_readPaid [vr 1 i, vr k0 a0] N g (qV (fun N' g' => AW K Y h Q pc' ls st N' g'))) : AW K Y h Q pc ls (vr k0 a0 :: vr 1 i :: st) N g := r_callV (Y' := YX4_readPaid) (as := [vr k0 a0]) hat hlink kIX4_readPaid kLX4_readPaid kCX4_readPaid kNX4 (n := 1) (by decide +kernel) rfl (k := 1) (c := 3) rfl rfl rfl (by decide) hh hcat nL nS (Ck.post (qV_b (fun _ _ q => q)) hck)
theorem xX4_readRule {idx i : Nat} {k0 a0 : Nat} (hlink : Cond.methodLink Y.1.cls idx yX4_readRule ∈ TW) (hat : At Y pc (.invokevirtual idx) 3 pc') (hh : hX4_readRule + 1 ≤ h) (hcat : (st.map cat).sum ≤ 8) (nL : ls.all nml = true) (nS : st.all nmo = true) (hck : Ck K YX4_readRule hX4_readRule [vr 1 i, vr k0 a0] N g (qI (fun z N' g' => AW K Y h Q pc' ls (vi z :: st) N' g'))) : AW K Y h Q pc ls (vr k0 a0 :: vr 1 i :: st) N g := r_callV (Y' := YX4_readRule) (as := [vr k0 a0]) hat hlink kIX4_readRule kLX4_readRule kCX4_readRule kNX4 (n := 1) (by decide +kernel) rfl (k := 1) (c := 3) rfl rfl rfl (by decide) hh hcat nL nS (Ck.post (qI_b (fun _ _ _ q => q)) hck)
theorem xX4_readTerms {idx i : Nat} {k0 a0 : Nat} {a1 : Int} (hlink : Cond.methodLink Y.1.cls idx yX4_readTerms ∈ TW) (hat : At Y pc (.invokevirtual idx) 3 pc') (hh : hX4_readTerms + 1 ≤ h) (hcat : (st.map cat).sum ≤ 8) (nL : ls.all nml = true) (nS : st.all nmo = true) (hck : Ck K YX4_readTerms hX4_readTerms [vr 1 i, vr k0 a0, vi a1] N g (qI (fun z N' g' => AW K Y h Q pc' ls (vi z :: st) N' g'))) : AW K Y h Q pc ls (vi a1 :: vr k0 a0 :: vr 1 i :: st) N g := r_callV (Y' := YX4_readTerms) (as := [vr k0 a0, vi a1]) hat hlink kIX4_readTerms kLX4_readTerms kCX4_readTerms kNX4 (n := 2) (by decide +kernel) rfl (k := 1) (c := 3) rfl rfl rfl (by decide) hh hcat nL nS (Ck.post (qI_b (fun _ _ _ q => q)) hck)
theorem xX4_termOf {idx : Nat} {a0 : Int} {a1 : Int} (hlink : Cond.methodLink Y.1.cls idx yX4_termOf ∈ TW) (hat : At Y pc (.invokestatic idx) 3 pc') (hh : hX4_termOf + 1 ≤ h) (hcat : (st.map cat).sum ≤ 8) (nL : ls.all nml = true) (nS : st.all nmo = true) (hck : Ck K YX4_termOf hX4_termOf [vi a0, vi a1] N g (qI (fun z N' g' => AW K Y h Q pc' ls (vi z :: st) N' g'))) : AW K Y h Q pc ls (vi a1 :: vi a0 :: st) N g := r_callS (Y' := YX4_termOf) (as := [vi a0, vi a1]) hat hlink kSX4_termOf kCX4_termOf kNX4 (n := 2) (by decide +kernel) rfl (by decide) hh hcat nL nS (Ck.post (qI_b (fun _ _ _ q => q)) hck)
theorem xX4_readSegments {idx i : Nat} {k0 a0 : Nat} {a1 : Int} (hlink : Cond.methodLink Y.1.cls idx yX4_readSegments ∈ TW) (hat : At Y pc (.invokevirtual idx) 3 pc') (hh : hX4_readSegments + 1 ≤ h) (hcat : (st.map cat).sum ≤ 8) (nL : ls.all nml = true) (nS : st.all nmo = true) (hck : Ck K YX4_readSegments hX4_readSegments [vr 1 i, vr k0 a0, vi a1] N g (qI (fun z N' g' => AW K Y h Q pc' ls (vi z :: st) N' g'))) : AW K Y h Q pc ls (vi a1 :: vr k0 a0 :: vr 1 i :: st) N g := r_callV (Y' := YX4_readSegments) (as := [vr k0 a0, vi a1]) hat hlink kIX4_readSegments kLX4_readSegments kCX4_readSegments kNX4 (n := 2) (by decide +kernel) rfl (k := 1) (c := 3) rfl rfl rfl (by decide) hh hcat nL nS (Ck.post (qI_b (fun _ _ _ q => q)) hck)
theorem xX4_readSegment {idx i : Nat} {k0 a0 : Nat} {a1 : Int} {a2 : Int} {a3 : Int} (hlink : Cond.methodLink Y.1.cls idx yX4_readSegment ∈ TW) (hat : At Y pc (.invokevirtual idx) 3 pc') (hh : hX4_readSegment + 1 ≤ h) (hcat : (st.map cat).sum ≤ 8) (nL : ls.all nml = true) (nS : st.all nmo = true) (hck : Ck K YX4_readSegment hX4_readSegment [vr 1 i, vr k0 a0, vi a1, vi a2, vi a3] N g (qI (fun z N' g' => AW K Y h Q pc' ls (vi z :: st) N' g'))) : AW K Y h Q pc ls (vi a3 :: vi a2 :: vi a1 :: vr k0 a0 :: vr 1 i :: st) N g := r_callV (Y' := YX4_readSegment) (as := [vr k0 a0, vi a1, vi a2, vi a3]) hat hlink kIX4_readSegment kLX4_readSegment kCX4_readSegment kNX4 (n := 4) (by decide +kernel) rfl (k := 1) (c := 3) rfl rfl rfl (by decide) hh hcat nL nS (Ck.post (qI_b (fun _ _ _ q => q)) hck)
theorem xX4_readNumber {idx i : Nat} {a0 : Int} {a1 : Int} (hlink : Cond.methodLink Y.1.cls idx yX4_readNumber ∈ TW) (hat : At Y pc (.invokevirtual idx) 3 pc') (hh : hX4_readNumber + 1 ≤ h) (hcat : (st.map cat).sum ≤ 8) (nL : ls.all nml = true) (nS : st.all nmo = true) (hck : Ck K YX4_readNumber hX4_readNumber [vr 1 i, vi a0, vi a1] N g (qI (fun z N' g' => AW K Y h Q pc' ls (vi z :: st) N' g'))) : AW K Y h Q pc ls (vi a1 :: vi a0 :: vr 1 i :: st) N g := r_callV (Y' := YX4_readNumber) (as := [vi a0, vi a1]) hat hlink kIX4_readNumber kLX4_readNumber kCX4_readNumber kNX4 (n := 2) (by decide +kernel) rfl (k := 1) (c := 3) rfl rfl rfl (by decide) hh hcat nL nS (Ck.post (qI_b (fun _ _ _ q => q)) hck)
theorem xX4_isDigit {idx i : Nat} {a0 : Int} (hlink : Cond.methodLink Y.1.cls idx yX4_isDigit ∈ TW) (hat : At Y pc (.invokevirtual idx) 3 pc') (hh : hX4_isDigit + 1 ≤ h) (hcat : (st.map cat).sum ≤ 8) (nL : ls.all nml = true) (nS : st.all nmo = true) (hck : Ck K YX4_isDigit hX4_isDigit [vr 1 i, vi a0] N g (qI (fun z N' g' => AW K Y h Q pc' ls (vi z :: st) N' g'))) : AW K Y h Q pc ls (vi a0 :: vr 1 i :: st) N g := r_callV (Y' := YX4_isDigit) (as := [vi a0]) hat hlink kIX4_isDigit kLX4_isDigit kCX4_isDigit kNX4 (n := 1) (by decide +kernel) rfl (k := 1) (c := 3) rfl rfl rfl (by decide) hh hcat nL nS (Ck.post (qI_b (fun _ _ _ q => q)) hck)
theorem xX5_clear {idx i : Nat}  (hlink : Cond.methodLink Y.1.cls idx yX5_clear ∈ TW) (hat : At Y pc (.invokevirtual idx) 3 pc') (hh : hX5_clear + 1 ≤ h) (hcat : (st.map cat).sum ≤ 8) (nL : ls.all nml = true) (nS : st.all nmo = true) (hck : Ck K YX5_clear hX5_clear [vr 20 i] N g (qV (fun N' g' => AW K Y h Q pc' ls st N' g'))) : AW K Y h Q pc ls (vr 20 i :: st) N g := r_callV (Y' := YX5_clear) (as := []) hat hlink kIX5_clear kLX5_clear kCX5_clear kNX5 (n := 0) (by decide +kernel) rfl (k := 20) (c := 4) rfl rfl rfl (by decide) hh hcat nL nS (Ck.post (qV_b (fun _ _ q => q)) hck)
theorem xX5_addTerm {idx i : Nat} {a0 : Int} {a1 : Int} {a2 : Int} (hlink : Cond.methodLink Y.1.cls idx yX5_addTerm ∈ TW) (hat : At Y pc (.invokevirtual idx) 3 pc') (hh : hX5_addTerm + 1 ≤ h) (hcat : (st.map cat).sum ≤ 8) (nL : ls.all nml = true) (nS : st.all nmo = true) (hck : Ck K YX5_addTerm hX5_addTerm [vr 20 i, vi a0, vi a1, vi a2] N g (qV (fun N' g' => AW K Y h Q pc' ls st N' g'))) : AW K Y h Q pc ls (vi a2 :: vi a1 :: vi a0 :: vr 20 i :: st) N g := r_callV (Y' := YX5_addTerm) (as := [vi a0, vi a1, vi a2]) hat hlink kIX5_addTerm kLX5_addTerm kCX5_addTerm kNX5 (n := 3) (by decide +kernel) rfl (k := 20) (c := 4) rfl rfl rfl (by decide) hh hcat nL nS (Ck.post (qV_b (fun _ _ q => q)) hck)
theorem xX5_addSegment {idx i : Nat} {a0 : Int} {a1 : Int} {a2 : Int} {a3 : Int} (hlink : Cond.methodLink Y.1.cls idx yX5_addSegment ∈ TW) (hat : At Y pc (.invokevirtual idx) 3 pc') (hh : hX5_addSegment + 1 ≤ h) (hcat : (st.map cat).sum ≤ 8) (nL : ls.all nml = true) (nS : st.all nmo = true) (hck : Ck K YX5_addSegment hX5_addSegment [vr 20 i, vi a0, vi a1, vi a2, vi a3] N g (qV (fun N' g' => AW K Y h Q pc' ls st N' g'))) : AW K Y h Q pc ls (vi a3 :: vi a2 :: vi a1 :: vi a0 :: vr 20 i :: st) N g := r_callV (Y' := YX5_addSegment) (as := [vi a0, vi a1, vi a2, vi a3]) hat hlink kIX5_addSegment kLX5_addSegment kCX5_addSegment kNX5 (n := 4) (by decide +kernel) rfl (k := 20) (c := 4) rfl rfl rfl (by decide) hh hcat nL nS (Ck.post (qV_b (fun _ _ q => q)) hck)
theorem xX5_depthOfTerms {idx i : Nat} {a0 : Int} (hlink : Cond.methodLink Y.1.cls idx yX5_depthOfTerms ∈ TW) (hat : At Y pc (.invokevirtual idx) 3 pc') (hh : hX5_depthOfTerms + 1 ≤ h) (hcat : (st.map cat).sum ≤ 8) (nL : ls.all nml = true) (nS : st.all nmo = true) (hck : Ck K YX5_depthOfTerms hX5_depthOfTerms [vr 20 i, vi a0] N g (qI (fun z N' g' => AW K Y h Q pc' ls (vi z :: st) N' g'))) : AW K Y h Q pc ls (vi a0 :: vr 20 i :: st) N g := r_callV (Y' := YX5_depthOfTerms) (as := [vi a0]) hat hlink kIX5_depthOfTerms kLX5_depthOfTerms kCX5_depthOfTerms kNX5 (n := 1) (by decide +kernel) rfl (k := 20) (c := 4) rfl rfl rfl (by decide) hh hcat nL nS (Ck.post (qI_b (fun _ _ _ q => q)) hck)
theorem xX5_rowOfWhat {idx i : Nat} {a0 : Int} {a1 : Int} (hlink : Cond.methodLink Y.1.cls idx yX5_rowOfWhat ∈ TW) (hat : At Y pc (.invokevirtual idx) 3 pc') (hh : hX5_rowOfWhat + 1 ≤ h) (hcat : (st.map cat).sum ≤ 8) (nL : ls.all nml = true) (nS : st.all nmo = true) (hck : Ck K YX5_rowOfWhat hX5_rowOfWhat [vr 20 i, vi a0, vi a1] N g (qR (fun k i N' g' => AW K Y h Q pc' ls (vr k i :: st) N' g'))) : AW K Y h Q pc ls (vi a1 :: vi a0 :: vr 20 i :: st) N g := r_callV (Y' := YX5_rowOfWhat) (as := [vi a0, vi a1]) hat hlink kIX5_rowOfWhat kLX5_rowOfWhat kCX5_rowOfWhat kNX5 (n := 2) (by decide +kernel) rfl (k := 20) (c := 4) rfl rfl rfl (by decide) hh hcat nL nS (Ck.post (qR_b (fun _ _ _ _ q => q)) hck)
theorem xX5_mayStart {idx i : Nat} {a0 : Int} {a1 : Int} {a2 : Int} (hlink : Cond.methodLink Y.1.cls idx yX5_mayStart ∈ TW) (hat : At Y pc (.invokevirtual idx) 3 pc') (hh : hX5_mayStart + 1 ≤ h) (hcat : (st.map cat).sum ≤ 8) (nL : ls.all nml = true) (nS : st.all nmo = true) (hck : Ck K YX5_mayStart hX5_mayStart [vr 20 i, vi a0, vi a1, vi a2] N g (qI (fun z N' g' => AW K Y h Q pc' ls (vi z :: st) N' g'))) : AW K Y h Q pc ls (vi a2 :: vi a1 :: vi a0 :: vr 20 i :: st) N g := r_callV (Y' := YX5_mayStart) (as := [vi a0, vi a1, vi a2]) hat hlink kIX5_mayStart kLX5_mayStart kCX5_mayStart kNX5 (n := 3) (by decide +kernel) rfl (k := 20) (c := 4) rfl rfl rfl (by decide) hh hcat nL nS (Ck.post (qI_b (fun _ _ _ q => q)) hck)
theorem xX5_settle {idx i : Nat} {a0 : Int} (hlink : Cond.methodLink Y.1.cls idx yX5_settle ∈ TW) (hat : At Y pc (.invokevirtual idx) 3 pc') (hh : hX5_settle + 1 ≤ h) (hcat : (st.map cat).sum ≤ 8) (nL : ls.all nml = true) (nS : st.all nmo = true) (hck : Ck K YX5_settle hX5_settle [vr 20 i, vi a0] N g (qV (fun N' g' => AW K Y h Q pc' ls st N' g'))) : AW K Y h Q pc ls (vi a0 :: vr 20 i :: st) N g := r_callV (Y' := YX5_settle) (as := [vi a0]) hat hlink kIX5_settle kLX5_settle kCX5_settle kNX5 (n := 1) (by decide +kernel) rfl (k := 20) (c := 4) rfl rfl rfl (by decide) hh hcat nL nS (Ck.post (qV_b (fun _ _ q => q)) hck)
theorem xX5_segmentFor {idx i : Nat} {a0 : Int} {a1 : Int} (hlink : Cond.methodLink Y.1.cls idx yX5_segmentFor ∈ TW) (hat : At Y pc (.invokevirtual idx) 3 pc') (hh : hX5_segmentFor + 1 ≤ h) (hcat : (st.map cat).sum ≤ 8) (nL : ls.all nml = true) (nS : st.all nmo = true) (hck : Ck K YX5_segmentFor hX5_segmentFor [vr 20 i, vi a0, vl a1] N g (qI (fun z N' g' => AW K Y h Q pc' ls (vi z :: st) N' g'))) : AW K Y h Q pc ls (vl a1 :: vi a0 :: vr 20 i :: st) N g := r_callV (Y' := YX5_segmentFor) (as := [vi a0, vl a1]) hat hlink kIX5_segmentFor kLX5_segmentFor kCX5_segmentFor kNX5 (n := 2) (by decide +kernel) rfl (k := 20) (c := 4) rfl rfl rfl (by decide) hh hcat nL nS (Ck.post (qI_b (fun _ _ _ q => q)) hck)
theorem xX6_write {idx i : Nat} {k0 a0 : Nat} {a1 : Int} {a2 : Int} (hlink : Cond.methodLink Y.1.cls idx yX6_write ∈ TW) (hat : At Y pc (.invokevirtual idx) 3 pc') (hh : hX6_write + 1 ≤ h) (hcat : (st.map cat).sum ≤ 8) (nL : ls.all nml = true) (nS : st.all nmo = true) (hck : Ck K YX6_write hX6_write [vr 18 i, vr k0 a0, vi a1, vi a2] N g (qI (fun z N' g' => AW K Y h Q pc' ls (vi z :: st) N' g'))) : AW K Y h Q pc ls (vi a2 :: vi a1 :: vr k0 a0 :: vr 18 i :: st) N g := r_callV (Y' := YX6_write) (as := [vr k0 a0, vi a1, vi a2]) hat hlink kIX6_write kLX6_write kCX6_write kNX6 (n := 3) (by decide +kernel) rfl (k := 18) (c := 5) rfl rfl rfl (by decide) hh hcat nL nS (Ck.post (qI_b (fun _ _ _ q => q)) hck)
theorem xX6_put {idx i : Nat} {a0 : Int} (hlink : Cond.methodLink Y.1.cls idx yX6_put ∈ TW) (hat : At Y pc (.invokevirtual idx) 3 pc') (hh : hX6_put + 1 ≤ h) (hcat : (st.map cat).sum ≤ 8) (nL : ls.all nml = true) (nS : st.all nmo = true) (hck : Ck K YX6_put hX6_put [vr 18 i, vi a0] N g (qV (fun N' g' => AW K Y h Q pc' ls st N' g'))) : AW K Y h Q pc ls (vi a0 :: vr 18 i :: st) N g := r_callV (Y' := YX6_put) (as := [vi a0]) hat hlink kIX6_put kLX6_put kCX6_put kNX6 (n := 1) (by decide +kernel) rfl (k := 18) (c := 5) rfl rfl rfl (by decide) hh hcat nL nS (Ck.post (qV_b (fun _ _ q => q)) hck)
theorem xX6_writeTerms {idx i : Nat} {k0 a0 : Nat} {a1 : Int} (hlink : Cond.methodLink Y.1.cls idx yX6_writeTerms ∈ TW) (hat : At Y pc (.invokevirtual idx) 3 pc') (hh : hX6_writeTerms + 1 ≤ h) (hcat : (st.map cat).sum ≤ 8) (nL : ls.all nml = true) (nS : st.all nmo = true) (hck : Ck K YX6_writeTerms hX6_writeTerms [vr 18 i, vr k0 a0, vi a1] N g (qV (fun N' g' => AW K Y h Q pc' ls st N' g'))) : AW K Y h Q pc ls (vi a1 :: vr k0 a0 :: vr 18 i :: st) N g := r_callV (Y' := YX6_writeTerms) (as := [vr k0 a0, vi a1]) hat hlink kIX6_writeTerms kLX6_writeTerms kCX6_writeTerms kNX6 (n := 2) (by decide +kernel) rfl (k := 18) (c := 5) rfl rfl rfl (by decide) hh hcat nL nS (Ck.post (qV_b (fun _ _ q => q)) hck)
theorem xX6_letterOf {idx : Nat} {a0 : Int} (hlink : Cond.methodLink Y.1.cls idx yX6_letterOf ∈ TW) (hat : At Y pc (.invokestatic idx) 3 pc') (hh : hX6_letterOf + 1 ≤ h) (hcat : (st.map cat).sum ≤ 8) (nL : ls.all nml = true) (nS : st.all nmo = true) (hck : Ck K YX6_letterOf hX6_letterOf [vi a0] N g (qI (fun z N' g' => AW K Y h Q pc' ls (vi z :: st) N' g'))) : AW K Y h Q pc ls (vi a0 :: st) N g := r_callS (Y' := YX6_letterOf) (as := [vi a0]) hat hlink kSX6_letterOf kCX6_letterOf kNX6 (n := 1) (by decide +kernel) rfl (by decide) hh hcat nL nS (Ck.post (qI_b (fun _ _ _ q => q)) hck)
theorem xX6_writeSegments {idx i : Nat} {k0 a0 : Nat} {a1 : Int} (hlink : Cond.methodLink Y.1.cls idx yX6_writeSegments ∈ TW) (hat : At Y pc (.invokevirtual idx) 3 pc') (hh : hX6_writeSegments + 1 ≤ h) (hcat : (st.map cat).sum ≤ 8) (nL : ls.all nml = true) (nS : st.all nmo = true) (hck : Ck K YX6_writeSegments hX6_writeSegments [vr 18 i, vr k0 a0, vi a1] N g (qV (fun N' g' => AW K Y h Q pc' ls st N' g'))) : AW K Y h Q pc ls (vi a1 :: vr k0 a0 :: vr 18 i :: st) N g := r_callV (Y' := YX6_writeSegments) (as := [vr k0 a0, vi a1]) hat hlink kIX6_writeSegments kLX6_writeSegments kCX6_writeSegments kNX6 (n := 2) (by decide +kernel) rfl (k := 18) (c := 5) rfl rfl rfl (by decide) hh hcat nL nS (Ck.post (qV_b (fun _ _ q => q)) hck)
theorem xX6_writeNumber {idx i : Nat} {a0 : Int} (hlink : Cond.methodLink Y.1.cls idx yX6_writeNumber ∈ TW) (hat : At Y pc (.invokevirtual idx) 3 pc') (hh : hX6_writeNumber + 1 ≤ h) (hcat : (st.map cat).sum ≤ 8) (nL : ls.all nml = true) (nS : st.all nmo = true) (hck : Ck K YX6_writeNumber hX6_writeNumber [vr 18 i, vi a0] N g (qV (fun N' g' => AW K Y h Q pc' ls st N' g'))) : AW K Y h Q pc ls (vi a0 :: vr 18 i :: st) N g := r_callV (Y' := YX6_writeNumber) (as := [vi a0]) hat hlink kIX6_writeNumber kLX6_writeNumber kCX6_writeNumber kNX6 (n := 1) (by decide +kernel) rfl (k := 18) (c := 5) rfl rfl rfl (by decide) hh hcat nL nS (Ck.post (qV_b (fun _ _ q => q)) hck)
theorem xX7_firstNoLess {idx : Nat} {a0 : Int} {a1 : Int} {a2 : Int} {a3 : Int} (hlink : Cond.methodLink Y.1.cls idx yX7_firstNoLess ∈ TW) (hat : At Y pc (.invokestatic idx) 3 pc') (hh : hX7_firstNoLess + 1 ≤ h) (hcat : (st.map cat).sum ≤ 8) (nL : ls.all nml = true) (nS : st.all nmo = true) (hck : Ck K YX7_firstNoLess hX7_firstNoLess [vl a0, vl a1, vi a2, vl a3] N g (qI (fun z N' g' => AW K Y h Q pc' ls (vi z :: st) N' g'))) : AW K Y h Q pc ls (vl a3 :: vi a2 :: vl a1 :: vl a0 :: st) N g := r_callS (Y' := YX7_firstNoLess) (as := [vl a0, vl a1, vi a2, vl a3]) hat hlink kSX7_firstNoLess kCX7_firstNoLess kNX7 (n := 4) (by decide +kernel) rfl (by decide) hh hcat nL nS (Ck.post (qI_b (fun _ _ _ q => q)) hck)
theorem xX7_lastNoMore {idx : Nat} {a0 : Int} {a1 : Int} {a2 : Int} {a3 : Int} (hlink : Cond.methodLink Y.1.cls idx yX7_lastNoMore ∈ TW) (hat : At Y pc (.invokestatic idx) 3 pc') (hh : hX7_lastNoMore + 1 ≤ h) (hcat : (st.map cat).sum ≤ 8) (nL : ls.all nml = true) (nS : st.all nmo = true) (hck : Ck K YX7_lastNoMore hX7_lastNoMore [vl a0, vl a1, vi a2, vl a3] N g (qI (fun z N' g' => AW K Y h Q pc' ls (vi z :: st) N' g'))) : AW K Y h Q pc ls (vl a3 :: vi a2 :: vl a1 :: vl a0 :: st) N g := r_callS (Y' := YX7_lastNoMore) (as := [vl a0, vl a1, vi a2, vl a3]) hat hlink kSX7_lastNoMore kCX7_lastNoMore kNX7 (n := 4) (by decide +kernel) rfl (by decide) hh hcat nL nS (Ck.post (qI_b (fun _ _ _ q => q)) hck)
theorem xX7_nearestNoMore {idx : Nat} {a0 : Int} {a1 : Int} {a2 : Int} {a3 : Int} (hlink : Cond.methodLink Y.1.cls idx yX7_nearestNoMore ∈ TW) (hat : At Y pc (.invokestatic idx) 3 pc') (hh : hX7_nearestNoMore + 1 ≤ h) (hcat : (st.map cat).sum ≤ 8) (nL : ls.all nml = true) (nS : st.all nmo = true) (hck : Ck K YX7_nearestNoMore hX7_nearestNoMore [vl a0, vl a1, vi a2, vl a3] N g (qI (fun z N' g' => AW K Y h Q pc' ls (vi z :: st) N' g'))) : AW K Y h Q pc ls (vl a3 :: vi a2 :: vl a1 :: vl a0 :: st) N g := r_callS (Y' := YX7_nearestNoMore) (as := [vl a0, vl a1, vi a2, vl a3]) hat hlink kSX7_nearestNoMore kCX7_nearestNoMore kNX7 (n := 4) (by decide +kernel) rfl (by decide) hh hcat nL nS (Ck.post (qI_b (fun _ _ _ q => q)) hck)
theorem xX8_isFull {idx i : Nat}  (hlink : Cond.methodLink Y.1.cls idx yX8_isFull ∈ TW) (hat : At Y pc (.invokevirtual idx) 3 pc') (hh : hX8_isFull + 1 ≤ h) (hcat : (st.map cat).sum ≤ 8) (nL : ls.all nml = true) (nS : st.all nmo = true) (hck : Ck K YX8_isFull hX8_isFull [vr 16 i] N g (qI (fun z N' g' => AW K Y h Q pc' ls (vi z :: st) N' g'))) : AW K Y h Q pc ls (vr 16 i :: st) N g := r_callV (Y' := YX8_isFull) (as := []) hat hlink kIX8_isFull kLX8_isFull kCX8_isFull kNX8 (n := 0) (by decide +kernel) rfl (k := 16) (c := 6) rfl rfl rfl (by decide) hh hcat nL nS (Ck.post (qI_b (fun _ _ _ q => q)) hck)
theorem xX8_wagesOf {idx i : Nat} {a0 : Int} (hlink : Cond.methodLink Y.1.cls idx yX8_wagesOf ∈ TW) (hat : At Y pc (.invokevirtual idx) 3 pc') (hh : hX8_wagesOf + 1 ≤ h) (hcat : (st.map cat).sum ≤ 8) (nL : ls.all nml = true) (nS : st.all nmo = true) (hck : Ck K YX8_wagesOf hX8_wagesOf [vr 16 i, vi a0] N g (qI (fun z N' g' => AW K Y h Q pc' ls (vi z :: st) N' g'))) : AW K Y h Q pc ls (vi a0 :: vr 16 i :: st) N g := r_callV (Y' := YX8_wagesOf) (as := [vi a0]) hat hlink kIX8_wagesOf kLX8_wagesOf kCX8_wagesOf kNX8 (n := 1) (by decide +kernel) rfl (k := 16) (c := 6) rfl rfl rfl (by decide) hh hcat nL nS (Ck.post (qI_b (fun _ _ _ q => q)) hck)
theorem xX8_due {idx : Nat} {k0 a0 : Nat} {a1 : Int} {a2 : Int} (hlink : Cond.methodLink Y.1.cls idx yX8_due ∈ TW) (hat : At Y pc (.invokestatic idx) 3 pc') (hh : hX8_due + 1 ≤ h) (hcat : (st.map cat).sum ≤ 8) (nL : ls.all nml = true) (nS : st.all nmo = true) (hck : Ck K YX8_due hX8_due [vr k0 a0, vi a1, vi a2] N g (qL (fun z N' g' => AW K Y h Q pc' ls (vl z :: st) N' g'))) : AW K Y h Q pc ls (vi a2 :: vi a1 :: vr k0 a0 :: st) N g := r_callS (Y' := YX8_due) (as := [vr k0 a0, vi a1, vi a2]) hat hlink kSX8_due kCX8_due kNX8 (n := 3) (by decide +kernel) rfl (by decide) hh hcat nL nS (Ck.post (qL_b (fun _ _ _ q => q)) hck)
theorem xX8_paidOf {idx : Nat} {k0 a0 : Nat} {a1 : Int} {a2 : Int} (hlink : Cond.methodLink Y.1.cls idx yX8_paidOf ∈ TW) (hat : At Y pc (.invokestatic idx) 3 pc') (hh : hX8_paidOf + 1 ≤ h) (hcat : (st.map cat).sum ≤ 8) (nL : ls.all nml = true) (nS : st.all nmo = true) (hck : Ck K YX8_paidOf hX8_paidOf [vr k0 a0, vi a1, vi a2] N g (qL (fun z N' g' => AW K Y h Q pc' ls (vl z :: st) N' g'))) : AW K Y h Q pc ls (vi a2 :: vi a1 :: vr k0 a0 :: st) N g := r_callS (Y' := YX8_paidOf) (as := [vr k0 a0, vi a1, vi a2]) hat hlink kSX8_paidOf kCX8_paidOf kNX8 (n := 3) (by decide +kernel) rfl (by decide) hh hcat nL nS (Ck.post (qL_b (fun _ _ _ q => q)) hck)
theorem xX8_paidIn {idx i : Nat} {k0 a0 : Nat} {a1 : Int} (hlink : Cond.methodLink Y.1.cls idx yX8_paidIn ∈ TW) (hat : At Y pc (.invokevirtual idx) 3 pc') (hh : hX8_paidIn + 1 ≤ h) (hcat : (st.map cat).sum ≤ 8) (nL : ls.all nml = true) (nS : st.all nmo = true) (hck : Ck K YX8_paidIn hX8_paidIn [vr 16 i, vr k0 a0, vi a1] N g (qL (fun z N' g' => AW K Y h Q pc' ls (vl z :: st) N' g'))) : AW K Y h Q pc ls (vi a1 :: vr k0 a0 :: vr 16 i :: st) N g := r_callV (Y' := YX8_paidIn) (as := [vr k0 a0, vi a1]) hat hlink kIX8_paidIn kLX8_paidIn kCX8_paidIn kNX8 (n := 2) (by decide +kernel) rfl (k := 16) (c := 6) rfl rfl rfl (by decide) hh hcat nL nS (Ck.post (qL_b (fun _ _ _ q => q)) hck)
theorem xX8_paidBehind {idx i : Nat} {k0 a0 : Nat} {a1 : Int} {a2 : Int} (hlink : Cond.methodLink Y.1.cls idx yX8_paidBehind ∈ TW) (hat : At Y pc (.invokevirtual idx) 3 pc') (hh : hX8_paidBehind + 1 ≤ h) (hcat : (st.map cat).sum ≤ 8) (nL : ls.all nml = true) (nS : st.all nmo = true) (hck : Ck K YX8_paidBehind hX8_paidBehind [vr 16 i, vr k0 a0, vi a1, vi a2] N g (qL (fun z N' g' => AW K Y h Q pc' ls (vl z :: st) N' g'))) : AW K Y h Q pc ls (vi a2 :: vi a1 :: vr k0 a0 :: vr 16 i :: st) N g := r_callV (Y' := YX8_paidBehind) (as := [vr k0 a0, vi a1, vi a2]) hat hlink kIX8_paidBehind kLX8_paidBehind kCX8_paidBehind kNX8 (n := 3) (by decide +kernel) rfl (k := 16) (c := 6) rfl rfl rfl (by decide) hh hcat nL nS (Ck.post (qL_b (fun _ _ _ q => q)) hck)
theorem xX8_paidAboveWage {idx i : Nat} {k0 a0 : Nat} (hlink : Cond.methodLink Y.1.cls idx yX8_paidAboveWage ∈ TW) (hat : At Y pc (.invokevirtual idx) 3 pc') (hh : hX8_paidAboveWage + 1 ≤ h) (hcat : (st.map cat).sum ≤ 8) (nL : ls.all nml = true) (nS : st.all nmo = true) (hck : Ck K YX8_paidAboveWage hX8_paidAboveWage [vr 16 i, vr k0 a0] N g (qI (fun z N' g' => AW K Y h Q pc' ls (vi z :: st) N' g'))) : AW K Y h Q pc ls (vr k0 a0 :: vr 16 i :: st) N g := r_callV (Y' := YX8_paidAboveWage) (as := [vr k0 a0]) hat hlink kIX8_paidAboveWage kLX8_paidAboveWage kCX8_paidAboveWage kNX8 (n := 1) (by decide +kernel) rfl (k := 16) (c := 6) rfl rfl rfl (by decide) hh hcat nL nS (Ck.post (qI_b (fun _ _ _ q => q)) hck)
theorem xX8_leastPaid {idx i : Nat} {k0 a0 : Nat} (hlink : Cond.methodLink Y.1.cls idx yX8_leastPaid ∈ TW) (hat : At Y pc (.invokevirtual idx) 3 pc') (hh : hX8_leastPaid + 1 ≤ h) (hcat : (st.map cat).sum ≤ 8) (nL : ls.all nml = true) (nS : st.all nmo = true) (hck : Ck K YX8_leastPaid hX8_leastPaid [vr 16 i, vr k0 a0] N g (qI (fun z N' g' => AW K Y h Q pc' ls (vi z :: st) N' g'))) : AW K Y h Q pc ls (vr k0 a0 :: vr 16 i :: st) N g := r_callV (Y' := YX8_leastPaid) (as := [vr k0 a0]) hat hlink kIX8_leastPaid kLX8_leastPaid kCX8_leastPaid kNX8 (n := 1) (by decide +kernel) rfl (k := 16) (c := 6) rfl rfl rfl (by decide) hh hcat nL nS (Ck.post (qI_b (fun _ _ _ q => q)) hck)
theorem xX8_leastNext {idx i : Nat} {k0 a0 : Nat} {a1 : Int} (hlink : Cond.methodLink Y.1.cls idx yX8_leastNext ∈ TW) (hat : At Y pc (.invokevirtual idx) 3 pc') (hh : hX8_leastNext + 1 ≤ h) (hcat : (st.map cat).sum ≤ 8) (nL : ls.all nml = true) (nS : st.all nmo = true) (hck : Ck K YX8_leastNext hX8_leastNext [vr 16 i, vr k0 a0, vl a1] N g (qI (fun z N' g' => AW K Y h Q pc' ls (vi z :: st) N' g'))) : AW K Y h Q pc ls (vl a1 :: vr k0 a0 :: vr 16 i :: st) N g := r_callV (Y' := YX8_leastNext) (as := [vr k0 a0, vl a1]) hat hlink kIX8_leastNext kLX8_leastNext kCX8_leastNext kNX8 (n := 2) (by decide +kernel) rfl (k := 16) (c := 6) rfl rfl rfl (by decide) hh hcat nL nS (Ck.post (qI_b (fun _ _ _ q => q)) hck)
theorem xX8_leastEach {idx i : Nat} {k0 a0 : Nat} {a1 : Int} (hlink : Cond.methodLink Y.1.cls idx yX8_leastEach ∈ TW) (hat : At Y pc (.invokevirtual idx) 3 pc') (hh : hX8_leastEach + 1 ≤ h) (hcat : (st.map cat).sum ≤ 8) (nL : ls.all nml = true) (nS : st.all nmo = true) (hck : Ck K YX8_leastEach hX8_leastEach [vr 16 i, vr k0 a0, vl a1] N g (qI (fun z N' g' => AW K Y h Q pc' ls (vi z :: st) N' g'))) : AW K Y h Q pc ls (vl a1 :: vr k0 a0 :: vr 16 i :: st) N g := r_callV (Y' := YX8_leastEach) (as := [vr k0 a0, vl a1]) hat hlink kIX8_leastEach kLX8_leastEach kCX8_leastEach kNX8 (n := 2) (by decide +kernel) rfl (k := 16) (c := 6) rfl rfl rfl (by decide) hh hcat nL nS (Ck.post (qI_b (fun _ _ _ q => q)) hck)
theorem xX8_leastMonths {idx i : Nat} {k0 a0 : Nat} {a1 : Int} {a2 : Int} (hlink : Cond.methodLink Y.1.cls idx yX8_leastMonths ∈ TW) (hat : At Y pc (.invokevirtual idx) 3 pc') (hh : hX8_leastMonths + 1 ≤ h) (hcat : (st.map cat).sum ≤ 8) (nL : ls.all nml = true) (nS : st.all nmo = true) (hck : Ck K YX8_leastMonths hX8_leastMonths [vr 16 i, vr k0 a0, vi a1, vl a2] N g (qI (fun z N' g' => AW K Y h Q pc' ls (vi z :: st) N' g'))) : AW K Y h Q pc ls (vl a2 :: vi a1 :: vr k0 a0 :: vr 16 i :: st) N g := r_callV (Y' := YX8_leastMonths) (as := [vr k0 a0, vi a1, vl a2]) hat hlink kIX8_leastMonths kLX8_leastMonths kCX8_leastMonths kNX8 (n := 3) (by decide +kernel) rfl (k := 16) (c := 6) rfl rfl rfl (by decide) hh hcat nL nS (Ck.post (qI_b (fun _ _ _ q => q)) hck)
theorem xX9_feed {idx i : Nat} {a0 : Int} {a1 : Int} {a2 : Int} {a3 : Int} {a4 : Int} (hlink : Cond.methodLink Y.1.cls idx yX9_feed ∈ TW) (hat : At Y pc (.invokevirtual idx) 3 pc') (hh : hX9_feed + 1 ≤ h) (hcat : (st.map cat).sum ≤ 8) (nL : ls.all nml = true) (nS : st.all nmo = true) (hck : Ck K YX9_feed hX9_feed [vr 0 i, vi a0, vi a1, vi a2, vi a3, vi a4] N g (qI (fun z N' g' => AW K Y h Q pc' ls (vi z :: st) N' g'))) : AW K Y h Q pc ls (vi a4 :: vi a3 :: vi a2 :: vi a1 :: vi a0 :: vr 0 i :: st) N g := r_callV (Y' := YX9_feed) (as := [vi a0, vi a1, vi a2, vi a3, vi a4]) hat hlink kIX9_feed kLX9_feed kCX9_feed kNX9 (n := 5) (by decide +kernel) rfl (k := 0) (c := 7) rfl rfl rfl (by decide) hh hcat nL nS (Ck.post (qI_b (fun _ _ _ q => q)) hck)
theorem xX9_end {idx i : Nat} {a0 : Int} (hlink : Cond.methodLink Y.1.cls idx yX9_end ∈ TW) (hat : At Y pc (.invokevirtual idx) 3 pc') (hh : hX9_end + 1 ≤ h) (hcat : (st.map cat).sum ≤ 8) (nL : ls.all nml = true) (nS : st.all nmo = true) (hck : Ck K YX9_end hX9_end [vr 0 i, vi a0] N g (qI (fun z N' g' => AW K Y h Q pc' ls (vi z :: st) N' g'))) : AW K Y h Q pc ls (vi a0 :: vr 0 i :: st) N g := r_callV (Y' := YX9_end) (as := [vi a0]) hat hlink kIX9_end kLX9_end kCX9_end kNX9 (n := 1) (by decide +kernel) rfl (k := 0) (c := 7) rfl rfl rfl (by decide) hh hcat nL nS (Ck.post (qI_b (fun _ _ _ q => q)) hck)
theorem xX9_fault {idx i : Nat}  (hlink : Cond.methodLink Y.1.cls idx yX9_fault ∈ TW) (hat : At Y pc (.invokevirtual idx) 3 pc') (hh : hX9_fault + 1 ≤ h) (hcat : (st.map cat).sum ≤ 8) (nL : ls.all nml = true) (nS : st.all nmo = true) (hck : Ck K YX9_fault hX9_fault [vr 0 i] N g (qI (fun z N' g' => AW K Y h Q pc' ls (vi z :: st) N' g'))) : AW K Y h Q pc ls (vr 0 i :: st) N g := r_callV (Y' := YX9_fault) (as := []) hat hlink kIX9_fault kLX9_fault kCX9_fault kNX9 (n := 0) (by decide +kernel) rfl (k := 0) (c := 7) rfl rfl rfl (by decide) hh hcat nL nS (Ck.post (qI_b (fun _ _ _ q => q)) hck)
theorem xX9_desk {idx i : Nat}  (hlink : Cond.methodLink Y.1.cls idx yX9_desk ∈ TW) (hat : At Y pc (.invokevirtual idx) 3 pc') (hh : hX9_desk + 1 ≤ h) (hcat : (st.map cat).sum ≤ 8) (nL : ls.all nml = true) (nS : st.all nmo = true) (hck : Ck K YX9_desk hX9_desk [vr 0 i] N g (qI (fun z N' g' => AW K Y h Q pc' ls (vi z :: st) N' g'))) : AW K Y h Q pc ls (vr 0 i :: st) N g := r_callV (Y' := YX9_desk) (as := []) hat hlink kIX9_desk kLX9_desk kCX9_desk kNX9 (n := 0) (by decide +kernel) rfl (k := 0) (c := 7) rfl rfl rfl (by decide) hh hcat nL nS (Ck.post (qI_b (fun _ _ _ q => q)) hck)
theorem xX9_rule {idx i : Nat} {a0 : Int} (hlink : Cond.methodLink Y.1.cls idx yX9_rule ∈ TW) (hat : At Y pc (.invokevirtual idx) 3 pc') (hh : hX9_rule + 1 ≤ h) (hcat : (st.map cat).sum ≤ 8) (nL : ls.all nml = true) (nS : st.all nmo = true) (hck : Ck K YX9_rule hX9_rule [vr 0 i, vi a0] N g (qI (fun z N' g' => AW K Y h Q pc' ls (vi z :: st) N' g'))) : AW K Y h Q pc ls (vi a0 :: vr 0 i :: st) N g := r_callV (Y' := YX9_rule) (as := [vi a0]) hat hlink kIX9_rule kLX9_rule kCX9_rule kNX9 (n := 1) (by decide +kernel) rfl (k := 0) (c := 7) rfl rfl rfl (by decide) hh hcat nL nS (Ck.post (qI_b (fun _ _ _ q => q)) hck)
theorem xX9_account {idx i : Nat} {a0 : Int} {a1 : Int} (hlink : Cond.methodLink Y.1.cls idx yX9_account ∈ TW) (hat : At Y pc (.invokevirtual idx) 3 pc') (hh : hX9_account + 1 ≤ h) (hcat : (st.map cat).sum ≤ 8) (nL : ls.all nml = true) (nS : st.all nmo = true) (hck : Ck K YX9_account hX9_account [vr 0 i, vi a0, vi a1] N g (qI (fun z N' g' => AW K Y h Q pc' ls (vi z :: st) N' g'))) : AW K Y h Q pc ls (vi a1 :: vi a0 :: vr 0 i :: st) N g := r_callV (Y' := YX9_account) (as := [vi a0, vi a1]) hat hlink kIX9_account kLX9_account kCX9_account kNX9 (n := 2) (by decide +kernel) rfl (k := 0) (c := 7) rfl rfl rfl (by decide) hh hcat nL nS (Ck.post (qI_b (fun _ _ _ q => q)) hck)
theorem xX9_segment {idx i : Nat} {a0 : Int} {a1 : Int} {a2 : Int} (hlink : Cond.methodLink Y.1.cls idx yX9_segment ∈ TW) (hat : At Y pc (.invokevirtual idx) 3 pc') (hh : hX9_segment + 1 ≤ h) (hcat : (st.map cat).sum ≤ 8) (nL : ls.all nml = true) (nS : st.all nmo = true) (hck : Ck K YX9_segment hX9_segment [vr 0 i, vi a0, vi a1, vi a2] N g (qI (fun z N' g' => AW K Y h Q pc' ls (vi z :: st) N' g'))) : AW K Y h Q pc ls (vi a2 :: vi a1 :: vi a0 :: vr 0 i :: st) N g := r_callV (Y' := YX9_segment) (as := [vi a0, vi a1, vi a2]) hat hlink kIX9_segment kLX9_segment kCX9_segment kNX9 (n := 3) (by decide +kernel) rfl (k := 0) (c := 7) rfl rfl rfl (by decide) hh hcat nL nS (Ck.post (qI_b (fun _ _ _ q => q)) hck)
theorem xX9_at {idx i : Nat} {a0 : Int} {a1 : Int} (hlink : Cond.methodLink Y.1.cls idx yX9_at ∈ TW) (hat : At Y pc (.invokevirtual idx) 3 pc') (hh : hX9_at + 1 ≤ h) (hcat : (st.map cat).sum ≤ 8) (nL : ls.all nml = true) (nS : st.all nmo = true) (hck : Ck K YX9_at hX9_at [vr 0 i, vi a0, vi a1] N g (qL (fun z N' g' => AW K Y h Q pc' ls (vl z :: st) N' g'))) : AW K Y h Q pc ls (vi a1 :: vi a0 :: vr 0 i :: st) N g := r_callV (Y' := YX9_at) (as := [vi a0, vi a1]) hat hlink kIX9_at kLX9_at kCX9_at kNX9 (n := 2) (by decide +kernel) rfl (k := 0) (c := 7) rfl rfl rfl (by decide) hh hcat nL nS (Ck.post (qL_b (fun _ _ _ q => q)) hck)
theorem xX9_sum {idx i : Nat} {a0 : Int} {a1 : Int} (hlink : Cond.methodLink Y.1.cls idx yX9_sum ∈ TW) (hat : At Y pc (.invokevirtual idx) 3 pc') (hh : hX9_sum + 1 ≤ h) (hcat : (st.map cat).sum ≤ 8) (nL : ls.all nml = true) (nS : st.all nmo = true) (hck : Ck K YX9_sum hX9_sum [vr 0 i, vi a0, vi a1] N g (qL (fun z N' g' => AW K Y h Q pc' ls (vl z :: st) N' g'))) : AW K Y h Q pc ls (vi a1 :: vi a0 :: vr 0 i :: st) N g := r_callV (Y' := YX9_sum) (as := [vi a0, vi a1]) hat hlink kIX9_sum kLX9_sum kCX9_sum kNX9 (n := 2) (by decide +kernel) rfl (k := 0) (c := 7) rfl rfl rfl (by decide) hh hcat nL nS (Ck.post (qL_b (fun _ _ _ q => q)) hck)
theorem xX9_which {idx i : Nat} {a0 : Int} {a1 : Int} (hlink : Cond.methodLink Y.1.cls idx yX9_which ∈ TW) (hat : At Y pc (.invokevirtual idx) 3 pc') (hh : hX9_which + 1 ≤ h) (hcat : (st.map cat).sum ≤ 8) (nL : ls.all nml = true) (nS : st.all nmo = true) (hck : Ck K YX9_which hX9_which [vr 0 i, vi a0, vi a1] N g (qI (fun z N' g' => AW K Y h Q pc' ls (vi z :: st) N' g'))) : AW K Y h Q pc ls (vi a1 :: vi a0 :: vr 0 i :: st) N g := r_callV (Y' := YX9_which) (as := [vi a0, vi a1]) hat hlink kIX9_which kLX9_which kCX9_which kNX9 (n := 2) (by decide +kernel) rfl (k := 0) (c := 7) rfl rfl rfl (by decide) hh hcat nL nS (Ck.post (qI_b (fun _ _ _ q => q)) hck)
theorem xX9_piece {idx i : Nat} {a0 : Int} {a1 : Int} {a2 : Int} (hlink : Cond.methodLink Y.1.cls idx yX9_piece ∈ TW) (hat : At Y pc (.invokevirtual idx) 3 pc') (hh : hX9_piece + 1 ≤ h) (hcat : (st.map cat).sum ≤ 8) (nL : ls.all nml = true) (nS : st.all nmo = true) (hck : Ck K YX9_piece hX9_piece [vr 0 i, vi a0, vi a1, vi a2] N g (qL (fun z N' g' => AW K Y h Q pc' ls (vl z :: st) N' g'))) : AW K Y h Q pc ls (vi a2 :: vi a1 :: vi a0 :: vr 0 i :: st) N g := r_callV (Y' := YX9_piece) (as := [vi a0, vi a1, vi a2]) hat hlink kIX9_piece kLX9_piece kCX9_piece kNX9 (n := 3) (by decide +kernel) rfl (k := 0) (c := 7) rfl rfl rfl (by decide) hh hcat nL nS (Ck.post (qL_b (fun _ _ _ q => q)) hck)
theorem xX9_pieceAt {idx i : Nat} {a0 : Int} {a1 : Int} (hlink : Cond.methodLink Y.1.cls idx yX9_pieceAt ∈ TW) (hat : At Y pc (.invokevirtual idx) 3 pc') (hh : hX9_pieceAt + 1 ≤ h) (hcat : (st.map cat).sum ≤ 8) (nL : ls.all nml = true) (nS : st.all nmo = true) (hck : Ck K YX9_pieceAt hX9_pieceAt [vr 0 i, vi a0, vi a1] N g (qI (fun z N' g' => AW K Y h Q pc' ls (vi z :: st) N' g'))) : AW K Y h Q pc ls (vi a1 :: vi a0 :: vr 0 i :: st) N g := r_callV (Y' := YX9_pieceAt) (as := [vi a0, vi a1]) hat hlink kIX9_pieceAt kLX9_pieceAt kCX9_pieceAt kNX9 (n := 2) (by decide +kernel) rfl (k := 0) (c := 7) rfl rfl rfl (by decide) hh hcat nL nS (Ck.post (qI_b (fun _ _ _ q => q)) hck)
theorem xX9_promised {idx i : Nat} {a0 : Int} {a1 : Int} (hlink : Cond.methodLink Y.1.cls idx yX9_promised ∈ TW) (hat : At Y pc (.invokevirtual idx) 3 pc') (hh : hX9_promised + 1 ≤ h) (hcat : (st.map cat).sum ≤ 8) (nL : ls.all nml = true) (nS : st.all nmo = true) (hck : Ck K YX9_promised hX9_promised [vr 0 i, vl a0, vi a1] N g (qI (fun z N' g' => AW K Y h Q pc' ls (vi z :: st) N' g'))) : AW K Y h Q pc ls (vi a1 :: vl a0 :: vr 0 i :: st) N g := r_callV (Y' := YX9_promised) (as := [vl a0, vi a1]) hat hlink kIX9_promised kLX9_promised kCX9_promised kNX9 (n := 2) (by decide +kernel) rfl (k := 0) (c := 7) rfl rfl rfl (by decide) hh hcat nL nS (Ck.post (qI_b (fun _ _ _ q => q)) hck)
theorem xX9_exactly {idx i : Nat} {a0 : Int} {a1 : Int} (hlink : Cond.methodLink Y.1.cls idx yX9_exactly ∈ TW) (hat : At Y pc (.invokevirtual idx) 3 pc') (hh : hX9_exactly + 1 ≤ h) (hcat : (st.map cat).sum ≤ 8) (nL : ls.all nml = true) (nS : st.all nmo = true) (hck : Ck K YX9_exactly hX9_exactly [vr 0 i, vl a0, vi a1] N g (qI (fun z N' g' => AW K Y h Q pc' ls (vi z :: st) N' g'))) : AW K Y h Q pc ls (vi a1 :: vl a0 :: vr 0 i :: st) N g := r_callV (Y' := YX9_exactly) (as := [vl a0, vi a1]) hat hlink kIX9_exactly kLX9_exactly kCX9_exactly kNX9 (n := 2) (by decide +kernel) rfl (k := 0) (c := 7) rfl rfl rfl (by decide) hh hcat nL nS (Ck.post (qI_b (fun _ _ _ q => q)) hck)
theorem xX9_cliff {idx i : Nat} {a0 : Int} {a1 : Int} (hlink : Cond.methodLink Y.1.cls idx yX9_cliff ∈ TW) (hat : At Y pc (.invokevirtual idx) 3 pc') (hh : hX9_cliff + 1 ≤ h) (hcat : (st.map cat).sum ≤ 8) (nL : ls.all nml = true) (nS : st.all nmo = true) (hck : Ck K YX9_cliff hX9_cliff [vr 0 i, vi a0, vi a1] N g (qL (fun z N' g' => AW K Y h Q pc' ls (vl z :: st) N' g'))) : AW K Y h Q pc ls (vi a1 :: vi a0 :: vr 0 i :: st) N g := r_callV (Y' := YX9_cliff) (as := [vi a0, vi a1]) hat hlink kIX9_cliff kLX9_cliff kCX9_cliff kNX9 (n := 2) (by decide +kernel) rfl (k := 0) (c := 7) rfl rfl rfl (by decide) hh hcat nL nS (Ck.post (qL_b (fun _ _ _ q => q)) hck)
theorem xX9_more {idx i : Nat} {a0 : Int} (hlink : Cond.methodLink Y.1.cls idx yX9_more ∈ TW) (hat : At Y pc (.invokevirtual idx) 3 pc') (hh : hX9_more + 1 ≤ h) (hcat : (st.map cat).sum ≤ 8) (nL : ls.all nml = true) (nS : st.all nmo = true) (hck : Ck K YX9_more hX9_more [vr 0 i, vi a0] N g (qL (fun z N' g' => AW K Y h Q pc' ls (vl z :: st) N' g'))) : AW K Y h Q pc ls (vi a0 :: vr 0 i :: st) N g := r_callV (Y' := YX9_more) (as := [vi a0]) hat hlink kIX9_more kLX9_more kCX9_more kNX9 (n := 1) (by decide +kernel) rfl (k := 0) (c := 7) rfl rfl rfl (by decide) hh hcat nL nS (Ck.post (qL_b (fun _ _ _ q => q)) hck)
theorem xX9_average {idx i : Nat} {a0 : Int} (hlink : Cond.methodLink Y.1.cls idx yX9_average ∈ TW) (hat : At Y pc (.invokevirtual idx) 3 pc') (hh : hX9_average + 1 ≤ h) (hcat : (st.map cat).sum ≤ 8) (nL : ls.all nml = true) (nS : st.all nmo = true) (hck : Ck K YX9_average hX9_average [vr 0 i, vi a0] N g (qL (fun z N' g' => AW K Y h Q pc' ls (vl z :: st) N' g'))) : AW K Y h Q pc ls (vi a0 :: vr 0 i :: st) N g := r_callV (Y' := YX9_average) (as := [vi a0]) hat hlink kIX9_average kLX9_average kCX9_average kNX9 (n := 1) (by decide +kernel) rfl (k := 0) (c := 7) rfl rfl rfl (by decide) hh hcat nL nS (Ck.post (qL_b (fun _ _ _ q => q)) hck)
theorem xX9_rate {idx i : Nat} {a0 : Int} (hlink : Cond.methodLink Y.1.cls idx yX9_rate ∈ TW) (hat : At Y pc (.invokevirtual idx) 3 pc') (hh : hX9_rate + 1 ≤ h) (hcat : (st.map cat).sum ≤ 8) (nL : ls.all nml = true) (nS : st.all nmo = true) (hck : Ck K YX9_rate hX9_rate [vr 0 i, vi a0] N g (qI (fun z N' g' => AW K Y h Q pc' ls (vi z :: st) N' g'))) : AW K Y h Q pc ls (vi a0 :: vr 0 i :: st) N g := r_callV (Y' := YX9_rate) (as := [vi a0]) hat hlink kIX9_rate kLX9_rate kCX9_rate kNX9 (n := 1) (by decide +kernel) rfl (k := 0) (c := 7) rfl rfl rfl (by decide) hh hcat nL nS (Ck.post (qI_b (fun _ _ _ q => q)) hck)
theorem xX9_jumps {idx i : Nat} {a0 : Int} (hlink : Cond.methodLink Y.1.cls idx yX9_jumps ∈ TW) (hat : At Y pc (.invokevirtual idx) 3 pc') (hh : hX9_jumps + 1 ≤ h) (hcat : (st.map cat).sum ≤ 8) (nL : ls.all nml = true) (nS : st.all nmo = true) (hck : Ck K YX9_jumps hX9_jumps [vr 0 i, vi a0] N g (qI (fun z N' g' => AW K Y h Q pc' ls (vi z :: st) N' g'))) : AW K Y h Q pc ls (vi a0 :: vr 0 i :: st) N g := r_callV (Y' := YX9_jumps) (as := [vi a0]) hat hlink kIX9_jumps kLX9_jumps kCX9_jumps kNX9 (n := 1) (by decide +kernel) rfl (k := 0) (c := 7) rfl rfl rfl (by decide) hh hcat nL nS (Ck.post (qI_b (fun _ _ _ q => q)) hck)
theorem xX9_bend {idx i : Nat} {a0 : Int} {a1 : Int} {a2 : Int} {a3 : Int} (hlink : Cond.methodLink Y.1.cls idx yX9_bend ∈ TW) (hat : At Y pc (.invokevirtual idx) 3 pc') (hh : hX9_bend + 1 ≤ h) (hcat : (st.map cat).sum ≤ 8) (nL : ls.all nml = true) (nS : st.all nmo = true) (hck : Ck K YX9_bend hX9_bend [vr 0 i, vi a0, vi a1, vi a2, vi a3] N g (qI (fun z N' g' => AW K Y h Q pc' ls (vi z :: st) N' g'))) : AW K Y h Q pc ls (vi a3 :: vi a2 :: vi a1 :: vi a0 :: vr 0 i :: st) N g := r_callV (Y' := YX9_bend) (as := [vi a0, vi a1, vi a2, vi a3]) hat hlink kIX9_bend kLX9_bend kCX9_bend kNX9 (n := 4) (by decide +kernel) rfl (k := 0) (c := 7) rfl rfl rfl (by decide) hh hcat nL nS (Ck.post (qI_b (fun _ _ _ q => q)) hck)
theorem xX9_benefit {idx i : Nat} {a0 : Int} (hlink : Cond.methodLink Y.1.cls idx yX9_benefit ∈ TW) (hat : At Y pc (.invokevirtual idx) 3 pc') (hh : hX9_benefit + 1 ≤ h) (hcat : (st.map cat).sum ≤ 8) (nL : ls.all nml = true) (nS : st.all nmo = true) (hck : Ck K YX9_benefit hX9_benefit [vr 0 i, vi a0] N g (qI (fun z N' g' => AW K Y h Q pc' ls (vi z :: st) N' g'))) : AW K Y h Q pc ls (vi a0 :: vr 0 i :: st) N g := r_callV (Y' := YX9_benefit) (as := [vi a0]) hat hlink kIX9_benefit kLX9_benefit kCX9_benefit kNX9 (n := 1) (by decide +kernel) rfl (k := 0) (c := 7) rfl rfl rfl (by decide) hh hcat nL nS (Ck.post (qI_b (fun _ _ _ q => q)) hck)
theorem xX9_month {idx i : Nat} {a0 : Int} (hlink : Cond.methodLink Y.1.cls idx yX9_month ∈ TW) (hat : At Y pc (.invokevirtual idx) 3 pc') (hh : hX9_month + 1 ≤ h) (hcat : (st.map cat).sum ≤ 8) (nL : ls.all nml = true) (nS : st.all nmo = true) (hck : Ck K YX9_month hX9_month [vr 0 i, vi a0] N g (qL (fun z N' g' => AW K Y h Q pc' ls (vl z :: st) N' g'))) : AW K Y h Q pc ls (vi a0 :: vr 0 i :: st) N g := r_callV (Y' := YX9_month) (as := [vi a0]) hat hlink kIX9_month kLX9_month kCX9_month kNX9 (n := 1) (by decide +kernel) rfl (k := 0) (c := 7) rfl rfl rfl (by decide) hh hcat nL nS (Ck.post (qL_b (fun _ _ _ q => q)) hck)
theorem xX9_takeBack {idx i : Nat}  (hlink : Cond.methodLink Y.1.cls idx yX9_takeBack ∈ TW) (hat : At Y pc (.invokevirtual idx) 3 pc') (hh : hX9_takeBack + 1 ≤ h) (hcat : (st.map cat).sum ≤ 8) (nL : ls.all nml = true) (nS : st.all nmo = true) (hck : Ck K YX9_takeBack hX9_takeBack [vr 0 i] N g (qI (fun z N' g' => AW K Y h Q pc' ls (vi z :: st) N' g'))) : AW K Y h Q pc ls (vr 0 i :: st) N g := r_callV (Y' := YX9_takeBack) (as := []) hat hlink kIX9_takeBack kLX9_takeBack kCX9_takeBack kNX9 (n := 0) (by decide +kernel) rfl (k := 0) (c := 7) rfl rfl rfl (by decide) hh hcat nL nS (Ck.post (qI_b (fun _ _ _ q => q)) hck)
theorem xX9_year {idx i : Nat} {a0 : Int} {a1 : Int} (hlink : Cond.methodLink Y.1.cls idx yX9_year ∈ TW) (hat : At Y pc (.invokevirtual idx) 3 pc') (hh : hX9_year + 1 ≤ h) (hcat : (st.map cat).sum ≤ 8) (nL : ls.all nml = true) (nS : st.all nmo = true) (hck : Ck K YX9_year hX9_year [vr 0 i, vi a0, vi a1] N g (qL (fun z N' g' => AW K Y h Q pc' ls (vl z :: st) N' g'))) : AW K Y h Q pc ls (vi a1 :: vi a0 :: vr 0 i :: st) N g := r_callV (Y' := YX9_year) (as := [vi a0, vi a1]) hat hlink kIX9_year kLX9_year kCX9_year kNX9 (n := 2) (by decide +kernel) rfl (k := 0) (c := 7) rfl rfl rfl (by decide) hh hcat nL nS (Ck.post (qL_b (fun _ _ _ q => q)) hck)
theorem xX9_sofar {idx i : Nat} {a0 : Int} (hlink : Cond.methodLink Y.1.cls idx yX9_sofar ∈ TW) (hat : At Y pc (.invokevirtual idx) 3 pc') (hh : hX9_sofar + 1 ≤ h) (hcat : (st.map cat).sum ≤ 8) (nL : ls.all nml = true) (nS : st.all nmo = true) (hck : Ck K YX9_sofar hX9_sofar [vr 0 i, vi a0] N g (qL (fun z N' g' => AW K Y h Q pc' ls (vl z :: st) N' g'))) : AW K Y h Q pc ls (vi a0 :: vr 0 i :: st) N g := r_callV (Y' := YX9_sofar) (as := [vi a0]) hat hlink kIX9_sofar kLX9_sofar kCX9_sofar kNX9 (n := 1) (by decide +kernel) rfl (k := 0) (c := 7) rfl rfl rfl (by decide) hh hcat nL nS (Ck.post (qL_b (fun _ _ _ q => q)) hck)
theorem xX9_nextMonth {idx i : Nat} {a0 : Int} (hlink : Cond.methodLink Y.1.cls idx yX9_nextMonth ∈ TW) (hat : At Y pc (.invokevirtual idx) 3 pc') (hh : hX9_nextMonth + 1 ≤ h) (hcat : (st.map cat).sum ≤ 8) (nL : ls.all nml = true) (nS : st.all nmo = true) (hck : Ck K YX9_nextMonth hX9_nextMonth [vr 0 i, vl a0] N g (qI (fun z N' g' => AW K Y h Q pc' ls (vi z :: st) N' g'))) : AW K Y h Q pc ls (vl a0 :: vr 0 i :: st) N g := r_callV (Y' := YX9_nextMonth) (as := [vl a0]) hat hlink kIX9_nextMonth kLX9_nextMonth kCX9_nextMonth kNX9 (n := 1) (by decide +kernel) rfl (k := 0) (c := 7) rfl rfl rfl (by decide) hh hcat nL nS (Ck.post (qI_b (fun _ _ _ q => q)) hck)
theorem xX9_level {idx i : Nat} {a0 : Int} (hlink : Cond.methodLink Y.1.cls idx yX9_level ∈ TW) (hat : At Y pc (.invokevirtual idx) 3 pc') (hh : hX9_level + 1 ≤ h) (hcat : (st.map cat).sum ≤ 8) (nL : ls.all nml = true) (nS : st.all nmo = true) (hck : Ck K YX9_level hX9_level [vr 0 i, vl a0] N g (qI (fun z N' g' => AW K Y h Q pc' ls (vi z :: st) N' g'))) : AW K Y h Q pc ls (vl a0 :: vr 0 i :: st) N g := r_callV (Y' := YX9_level) (as := [vl a0]) hat hlink kIX9_level kLX9_level kCX9_level kNX9 (n := 1) (by decide +kernel) rfl (k := 0) (c := 7) rfl rfl rfl (by decide) hh hcat nL nS (Ck.post (qI_b (fun _ _ _ q => q)) hck)
theorem xX9_dueAhead {idx i : Nat}  (hlink : Cond.methodLink Y.1.cls idx yX9_dueAhead ∈ TW) (hat : At Y pc (.invokevirtual idx) 3 pc') (hh : hX9_dueAhead + 1 ≤ h) (hcat : (st.map cat).sum ≤ 8) (nL : ls.all nml = true) (nS : st.all nmo = true) (hck : Ck K YX9_dueAhead hX9_dueAhead [vr 0 i] N g (qL (fun z N' g' => AW K Y h Q pc' ls (vl z :: st) N' g'))) : AW K Y h Q pc ls (vr 0 i :: st) N g := r_callV (Y' := YX9_dueAhead) (as := []) hat hlink kIX9_dueAhead kLX9_dueAhead kCX9_dueAhead kNX9 (n := 0) (by decide +kernel) rfl (k := 0) (c := 7) rfl rfl rfl (by decide) hh hcat nL nS (Ck.post (qL_b (fun _ _ _ q => q)) hck)
theorem xX9_would {idx i : Nat} {a0 : Int} {a1 : Int} {a2 : Int} {a3 : Int} (hlink : Cond.methodLink Y.1.cls idx yX9_would ∈ TW) (hat : At Y pc (.invokevirtual idx) 3 pc') (hh : hX9_would + 1 ≤ h) (hcat : (st.map cat).sum ≤ 8) (nL : ls.all nml = true) (nS : st.all nmo = true) (hck : Ck K YX9_would hX9_would [vr 0 i, vi a0, vi a1, vi a2, vi a3] N g (qL (fun z N' g' => AW K Y h Q pc' ls (vl z :: st) N' g'))) : AW K Y h Q pc ls (vi a3 :: vi a2 :: vi a1 :: vi a0 :: vr 0 i :: st) N g := r_callV (Y' := YX9_would) (as := [vi a0, vi a1, vi a2, vi a3]) hat hlink kIX9_would kLX9_would kCX9_would kNX9 (n := 4) (by decide +kernel) rfl (k := 0) (c := 7) rfl rfl rfl (by decide) hh hcat nL nS (Ck.post (qL_b (fun _ _ _ q => q)) hck)
theorem xX9_both {idx i : Nat} {a0 : Int} {a1 : Int} (hlink : Cond.methodLink Y.1.cls idx yX9_both ∈ TW) (hat : At Y pc (.invokevirtual idx) 3 pc') (hh : hX9_both + 1 ≤ h) (hcat : (st.map cat).sum ≤ 8) (nL : ls.all nml = true) (nS : st.all nmo = true) (hck : Ck K YX9_both hX9_both [vr 0 i, vi a0, vi a1] N g (qL (fun z N' g' => AW K Y h Q pc' ls (vl z :: st) N' g'))) : AW K Y h Q pc ls (vi a1 :: vi a0 :: vr 0 i :: st) N g := r_callV (Y' := YX9_both) (as := [vi a0, vi a1]) hat hlink kIX9_both kLX9_both kCX9_both kNX9 (n := 2) (by decide +kernel) rfl (k := 0) (c := 7) rfl rfl rfl (by decide) hh hcat nL nS (Ck.post (qL_b (fun _ _ _ q => q)) hck)
theorem xX9_without {idx i : Nat} {a0 : Int} {a1 : Int} (hlink : Cond.methodLink Y.1.cls idx yX9_without ∈ TW) (hat : At Y pc (.invokevirtual idx) 3 pc') (hh : hX9_without + 1 ≤ h) (hcat : (st.map cat).sum ≤ 8) (nL : ls.all nml = true) (nS : st.all nmo = true) (hck : Ck K YX9_without hX9_without [vr 0 i, vi a0, vi a1] N g (qL (fun z N' g' => AW K Y h Q pc' ls (vl z :: st) N' g'))) : AW K Y h Q pc ls (vi a1 :: vi a0 :: vr 0 i :: st) N g := r_callV (Y' := YX9_without) (as := [vi a0, vi a1]) hat hlink kIX9_without kLX9_without kCX9_without kNX9 (n := 2) (by decide +kernel) rfl (k := 0) (c := 7) rfl rfl rfl (by decide) hh hcat nL nS (Ck.post (qL_b (fun _ _ _ q => q)) hck)
theorem xX9_kept {idx i : Nat} {a0 : Int} (hlink : Cond.methodLink Y.1.cls idx yX9_kept ∈ TW) (hat : At Y pc (.invokevirtual idx) 3 pc') (hh : hX9_kept + 1 ≤ h) (hcat : (st.map cat).sum ≤ 8) (nL : ls.all nml = true) (nS : st.all nmo = true) (hck : Ck K YX9_kept hX9_kept [vr 0 i, vi a0] N g (qL (fun z N' g' => AW K Y h Q pc' ls (vl z :: st) N' g'))) : AW K Y h Q pc ls (vi a0 :: vr 0 i :: st) N g := r_callV (Y' := YX9_kept) (as := [vi a0]) hat hlink kIX9_kept kLX9_kept kCX9_kept kNX9 (n := 1) (by decide +kernel) rfl (k := 0) (c := 7) rfl rfl rfl (by decide) hh hcat nL nS (Ck.post (qL_b (fun _ _ _ q => q)) hck)
theorem xX9_first {idx i : Nat} {a0 : Int} (hlink : Cond.methodLink Y.1.cls idx yX9_first ∈ TW) (hat : At Y pc (.invokevirtual idx) 3 pc') (hh : hX9_first + 1 ≤ h) (hcat : (st.map cat).sum ≤ 8) (nL : ls.all nml = true) (nS : st.all nmo = true) (hck : Ck K YX9_first hX9_first [vr 0 i, vi a0] N g (qI (fun z N' g' => AW K Y h Q pc' ls (vi z :: st) N' g'))) : AW K Y h Q pc ls (vi a0 :: vr 0 i :: st) N g := r_callV (Y' := YX9_first) (as := [vi a0]) hat hlink kIX9_first kLX9_first kCX9_first kNX9 (n := 1) (by decide +kernel) rfl (k := 0) (c := 7) rfl rfl rfl (by decide) hh hcat nL nS (Ck.post (qI_b (fun _ _ _ q => q)) hck)
theorem xX9_raise {idx i : Nat} {a0 : Int} {a1 : Int} (hlink : Cond.methodLink Y.1.cls idx yX9_raise ∈ TW) (hat : At Y pc (.invokevirtual idx) 3 pc') (hh : hX9_raise + 1 ≤ h) (hcat : (st.map cat).sum ≤ 8) (nL : ls.all nml = true) (nS : st.all nmo = true) (hck : Ck K YX9_raise hX9_raise [vr 0 i, vi a0, vl a1] N g (qI (fun z N' g' => AW K Y h Q pc' ls (vi z :: st) N' g'))) : AW K Y h Q pc ls (vl a1 :: vi a0 :: vr 0 i :: st) N g := r_callV (Y' := YX9_raise) (as := [vi a0, vl a1]) hat hlink kIX9_raise kLX9_raise kCX9_raise kNX9 (n := 2) (by decide +kernel) rfl (k := 0) (c := 7) rfl rfl rfl (by decide) hh hcat nL nS (Ck.post (qI_b (fun _ _ _ q => q)) hck)
theorem xX9_over {idx i : Nat} {a0 : Int} {a1 : Int} {a2 : Int} (hlink : Cond.methodLink Y.1.cls idx yX9_over ∈ TW) (hat : At Y pc (.invokevirtual idx) 3 pc') (hh : hX9_over + 1 ≤ h) (hcat : (st.map cat).sum ≤ 8) (nL : ls.all nml = true) (nS : st.all nmo = true) (hck : Ck K YX9_over hX9_over [vr 0 i, vi a0, vi a1, vi a2] N g (qI (fun z N' g' => AW K Y h Q pc' ls (vi z :: st) N' g'))) : AW K Y h Q pc ls (vi a2 :: vi a1 :: vi a0 :: vr 0 i :: st) N g := r_callV (Y' := YX9_over) (as := [vi a0, vi a1, vi a2]) hat hlink kIX9_over kLX9_over kCX9_over kNX9 (n := 3) (by decide +kernel) rfl (k := 0) (c := 7) rfl rfl rfl (by decide) hh hcat nL nS (Ck.post (qI_b (fun _ _ _ q => q)) hck)
theorem xX9_inKind {idx i : Nat} {a0 : Int} {a1 : Int} (hlink : Cond.methodLink Y.1.cls idx yX9_inKind ∈ TW) (hat : At Y pc (.invokevirtual idx) 3 pc') (hh : hX9_inKind + 1 ≤ h) (hcat : (st.map cat).sum ≤ 8) (nL : ls.all nml = true) (nS : st.all nmo = true) (hck : Ck K YX9_inKind hX9_inKind [vr 0 i, vl a0, vi a1] N g (qI (fun z N' g' => AW K Y h Q pc' ls (vi z :: st) N' g'))) : AW K Y h Q pc ls (vi a1 :: vl a0 :: vr 0 i :: st) N g := r_callV (Y' := YX9_inKind) (as := [vl a0, vi a1]) hat hlink kIX9_inKind kLX9_inKind kCX9_inKind kNX9 (n := 2) (by decide +kernel) rfl (k := 0) (c := 7) rfl rfl rfl (by decide) hh hcat nL nS (Ck.post (qI_b (fun _ _ _ q => q)) hck)
theorem xX9_through {idx i : Nat} {a0 : Int} {a1 : Int} (hlink : Cond.methodLink Y.1.cls idx yX9_through ∈ TW) (hat : At Y pc (.invokevirtual idx) 3 pc') (hh : hX9_through + 1 ≤ h) (hcat : (st.map cat).sum ≤ 8) (nL : ls.all nml = true) (nS : st.all nmo = true) (hck : Ck K YX9_through hX9_through [vr 0 i, vi a0, vi a1] N g (qL (fun z N' g' => AW K Y h Q pc' ls (vl z :: st) N' g'))) : AW K Y h Q pc ls (vi a1 :: vi a0 :: vr 0 i :: st) N g := r_callV (Y' := YX9_through) (as := [vi a0, vi a1]) hat hlink kIX9_through kLX9_through kCX9_through kNX9 (n := 2) (by decide +kernel) rfl (k := 0) (c := 7) rfl rfl rfl (by decide) hh hcat nL nS (Ck.post (qL_b (fun _ _ _ q => q)) hck)
theorem xX9_crossings {idx i : Nat} {a0 : Int} {a1 : Int} {a2 : Int} (hlink : Cond.methodLink Y.1.cls idx yX9_crossings ∈ TW) (hat : At Y pc (.invokevirtual idx) 3 pc') (hh : hX9_crossings + 1 ≤ h) (hcat : (st.map cat).sum ≤ 8) (nL : ls.all nml = true) (nS : st.all nmo = true) (hck : Ck K YX9_crossings hX9_crossings [vr 0 i, vi a0, vi a1, vi a2] N g (qL (fun z N' g' => AW K Y h Q pc' ls (vl z :: st) N' g'))) : AW K Y h Q pc ls (vi a2 :: vi a1 :: vi a0 :: vr 0 i :: st) N g := r_callV (Y' := YX9_crossings) (as := [vi a0, vi a1, vi a2]) hat hlink kIX9_crossings kLX9_crossings kCX9_crossings kNX9 (n := 3) (by decide +kernel) rfl (k := 0) (c := 7) rfl rfl rfl (by decide) hh hcat nL nS (Ck.post (qL_b (fun _ _ _ q => q)) hck)
theorem xX9_kinks {idx i : Nat} {a0 : Int} {a1 : Int} (hlink : Cond.methodLink Y.1.cls idx yX9_kinks ∈ TW) (hat : At Y pc (.invokevirtual idx) 3 pc') (hh : hX9_kinks + 1 ≤ h) (hcat : (st.map cat).sum ≤ 8) (nL : ls.all nml = true) (nS : st.all nmo = true) (hck : Ck K YX9_kinks hX9_kinks [vr 0 i, vi a0, vi a1] N g (qI (fun z N' g' => AW K Y h Q pc' ls (vi z :: st) N' g'))) : AW K Y h Q pc ls (vi a1 :: vi a0 :: vr 0 i :: st) N g := r_callV (Y' := YX9_kinks) (as := [vi a0, vi a1]) hat hlink kIX9_kinks kLX9_kinks kCX9_kinks kNX9 (n := 2) (by decide +kernel) rfl (k := 0) (c := 7) rfl rfl rfl (by decide) hh hcat nL nS (Ck.post (qI_b (fun _ _ _ q => q)) hck)
theorem xX9_until {idx i : Nat} {a0 : Int} {a1 : Int} (hlink : Cond.methodLink Y.1.cls idx yX9_until ∈ TW) (hat : At Y pc (.invokevirtual idx) 3 pc') (hh : hX9_until + 1 ≤ h) (hcat : (st.map cat).sum ≤ 8) (nL : ls.all nml = true) (nS : st.all nmo = true) (hck : Ck K YX9_until hX9_until [vr 0 i, vi a0, vl a1] N g (qI (fun z N' g' => AW K Y h Q pc' ls (vi z :: st) N' g'))) : AW K Y h Q pc ls (vl a1 :: vi a0 :: vr 0 i :: st) N g := r_callV (Y' := YX9_until) (as := [vi a0, vl a1]) hat hlink kIX9_until kLX9_until kCX9_until kNX9 (n := 2) (by decide +kernel) rfl (k := 0) (c := 7) rfl rfl rfl (by decide) hh hcat nL nS (Ck.post (qI_b (fun _ _ _ q => q)) hck)
theorem xX9_free {idx i : Nat} {a0 : Int} (hlink : Cond.methodLink Y.1.cls idx yX9_free ∈ TW) (hat : At Y pc (.invokevirtual idx) 3 pc') (hh : hX9_free + 1 ≤ h) (hcat : (st.map cat).sum ≤ 8) (nL : ls.all nml = true) (nS : st.all nmo = true) (hck : Ck K YX9_free hX9_free [vr 0 i, vi a0] N g (qI (fun z N' g' => AW K Y h Q pc' ls (vi z :: st) N' g'))) : AW K Y h Q pc ls (vi a0 :: vr 0 i :: st) N g := r_callV (Y' := YX9_free) (as := [vi a0]) hat hlink kIX9_free kLX9_free kCX9_free kNX9 (n := 1) (by decide +kernel) rfl (k := 0) (c := 7) rfl rfl rfl (by decide) hh hcat nL nS (Ck.post (qI_b (fun _ _ _ q => q)) hck)
theorem xX9_putIn {idx i : Nat} {a0 : Int} {a1 : Int} {a2 : Int} (hlink : Cond.methodLink Y.1.cls idx yX9_putIn ∈ TW) (hat : At Y pc (.invokevirtual idx) 3 pc') (hh : hX9_putIn + 1 ≤ h) (hcat : (st.map cat).sum ≤ 8) (nL : ls.all nml = true) (nS : st.all nmo = true) (hck : Ck K YX9_putIn hX9_putIn [vr 0 i, vi a0, vi a1, vi a2] N g (qL (fun z N' g' => AW K Y h Q pc' ls (vl z :: st) N' g'))) : AW K Y h Q pc ls (vi a2 :: vi a1 :: vi a0 :: vr 0 i :: st) N g := r_callV (Y' := YX9_putIn) (as := [vi a0, vi a1, vi a2]) hat hlink kIX9_putIn kLX9_putIn kCX9_putIn kNX9 (n := 3) (by decide +kernel) rfl (k := 0) (c := 7) rfl rfl rfl (by decide) hh hcat nL nS (Ck.post (qL_b (fun _ _ _ q => q)) hck)
theorem xX9_spell {idx i : Nat} {a0 : Int} {a1 : Int} (hlink : Cond.methodLink Y.1.cls idx yX9_spell ∈ TW) (hat : At Y pc (.invokevirtual idx) 3 pc') (hh : hX9_spell + 1 ≤ h) (hcat : (st.map cat).sum ≤ 8) (nL : ls.all nml = true) (nS : st.all nmo = true) (hck : Ck K YX9_spell hX9_spell [vr 0 i, vi a0, vi a1] N g (qI (fun z N' g' => AW K Y h Q pc' ls (vi z :: st) N' g'))) : AW K Y h Q pc ls (vi a1 :: vi a0 :: vr 0 i :: st) N g := r_callV (Y' := YX9_spell) (as := [vi a0, vi a1]) hat hlink kIX9_spell kLX9_spell kCX9_spell kNX9 (n := 2) (by decide +kernel) rfl (k := 0) (c := 7) rfl rfl rfl (by decide) hh hcat nL nS (Ck.post (qI_b (fun _ _ _ q => q)) hck)
theorem xX9_status {idx i : Nat} {a0 : Int} (hlink : Cond.methodLink Y.1.cls idx yX9_status ∈ TW) (hat : At Y pc (.invokevirtual idx) 3 pc') (hh : hX9_status + 1 ≤ h) (hcat : (st.map cat).sum ≤ 8) (nL : ls.all nml = true) (nS : st.all nmo = true) (hck : Ck K YX9_status hX9_status [vr 0 i, vi a0] N g (qI (fun z N' g' => AW K Y h Q pc' ls (vi z :: st) N' g'))) : AW K Y h Q pc ls (vi a0 :: vr 0 i :: st) N g := r_callV (Y' := YX9_status) (as := [vi a0]) hat hlink kIX9_status kLX9_status kCX9_status kNX9 (n := 1) (by decide +kernel) rfl (k := 0) (c := 7) rfl rfl rfl (by decide) hh hcat nL nS (Ck.post (qI_b (fun _ _ _ q => q)) hck)
theorem xX9_most {idx i : Nat} {a0 : Int} (hlink : Cond.methodLink Y.1.cls idx yX9_most ∈ TW) (hat : At Y pc (.invokevirtual idx) 3 pc') (hh : hX9_most + 1 ≤ h) (hcat : (st.map cat).sum ≤ 8) (nL : ls.all nml = true) (nS : st.all nmo = true) (hck : Ck K YX9_most hX9_most [vr 0 i, vi a0] N g (qL (fun z N' g' => AW K Y h Q pc' ls (vl z :: st) N' g'))) : AW K Y h Q pc ls (vi a0 :: vr 0 i :: st) N g := r_callV (Y' := YX9_most) (as := [vi a0]) hat hlink kIX9_most kLX9_most kCX9_most kNX9 (n := 1) (by decide +kernel) rfl (k := 0) (c := 7) rfl rfl rfl (by decide) hh hcat nL nS (Ck.post (qL_b (fun _ _ _ q => q)) hck)
theorem xX9_count {idx i : Nat} {a0 : Int} (hlink : Cond.methodLink Y.1.cls idx yX9_count ∈ TW) (hat : At Y pc (.invokevirtual idx) 3 pc') (hh : hX9_count + 1 ≤ h) (hcat : (st.map cat).sum ≤ 8) (nL : ls.all nml = true) (nS : st.all nmo = true) (hck : Ck K YX9_count hX9_count [vr 0 i, vi a0] N g (qI (fun z N' g' => AW K Y h Q pc' ls (vi z :: st) N' g'))) : AW K Y h Q pc ls (vi a0 :: vr 0 i :: st) N g := r_callV (Y' := YX9_count) (as := [vi a0]) hat hlink kIX9_count kLX9_count kCX9_count kNX9 (n := 1) (by decide +kernel) rfl (k := 0) (c := 7) rfl rfl rfl (by decide) hh hcat nL nS (Ck.post (qI_b (fun _ _ _ q => q)) hck)
theorem xX9_isAccount {idx i : Nat} {a0 : Int} (hlink : Cond.methodLink Y.1.cls idx yX9_isAccount ∈ TW) (hat : At Y pc (.invokevirtual idx) 3 pc') (hh : hX9_isAccount + 1 ≤ h) (hcat : (st.map cat).sum ≤ 8) (nL : ls.all nml = true) (nS : st.all nmo = true) (hck : Ck K YX9_isAccount hX9_isAccount [vr 0 i, vi a0] N g (qI (fun z N' g' => AW K Y h Q pc' ls (vi z :: st) N' g'))) : AW K Y h Q pc ls (vi a0 :: vr 0 i :: st) N g := r_callV (Y' := YX9_isAccount) (as := [vi a0]) hat hlink kIX9_isAccount kLX9_isAccount kCX9_isAccount kNX9 (n := 1) (by decide +kernel) rfl (k := 0) (c := 7) rfl rfl rfl (by decide) hh hcat nL nS (Ck.post (qI_b (fun _ _ _ q => q)) hck)
theorem xX9_isLine {idx i : Nat} {a0 : Int} (hlink : Cond.methodLink Y.1.cls idx yX9_isLine ∈ TW) (hat : At Y pc (.invokevirtual idx) 3 pc') (hh : hX9_isLine + 1 ≤ h) (hcat : (st.map cat).sum ≤ 8) (nL : ls.all nml = true) (nS : st.all nmo = true) (hck : Ck K YX9_isLine hX9_isLine [vr 0 i, vi a0] N g (qI (fun z N' g' => AW K Y h Q pc' ls (vi z :: st) N' g'))) : AW K Y h Q pc ls (vi a0 :: vr 0 i :: st) N g := r_callV (Y' := YX9_isLine) (as := [vi a0]) hat hlink kIX9_isLine kLX9_isLine kCX9_isLine kNX9 (n := 1) (by decide +kernel) rfl (k := 0) (c := 7) rfl rfl rfl (by decide) hh hcat nL nS (Ck.post (qI_b (fun _ _ _ q => q)) hck)
theorem xX9_isSegment {idx i : Nat} {a0 : Int} {a1 : Int} (hlink : Cond.methodLink Y.1.cls idx yX9_isSegment ∈ TW) (hat : At Y pc (.invokevirtual idx) 3 pc') (hh : hX9_isSegment + 1 ≤ h) (hcat : (st.map cat).sum ≤ 8) (nL : ls.all nml = true) (nS : st.all nmo = true) (hck : Ck K YX9_isSegment hX9_isSegment [vr 0 i, vi a0, vi a1] N g (qI (fun z N' g' => AW K Y h Q pc' ls (vi z :: st) N' g'))) : AW K Y h Q pc ls (vi a1 :: vi a0 :: vr 0 i :: st) N g := r_callV (Y' := YX9_isSegment) (as := [vi a0, vi a1]) hat hlink kIX9_isSegment kLX9_isSegment kCX9_isSegment kNX9 (n := 2) (by decide +kernel) rfl (k := 0) (c := 7) rfl rfl rfl (by decide) hh hcat nL nS (Ck.post (qI_b (fun _ _ _ q => q)) hck)
theorem xX9_isMonth {idx i : Nat} {a0 : Int} (hlink : Cond.methodLink Y.1.cls idx yX9_isMonth ∈ TW) (hat : At Y pc (.invokevirtual idx) 3 pc') (hh : hX9_isMonth + 1 ≤ h) (hcat : (st.map cat).sum ≤ 8) (nL : ls.all nml = true) (nS : st.all nmo = true) (hck : Ck K YX9_isMonth hX9_isMonth [vr 0 i, vi a0] N g (qI (fun z N' g' => AW K Y h Q pc' ls (vi z :: st) N' g'))) : AW K Y h Q pc ls (vi a0 :: vr 0 i :: st) N g := r_callV (Y' := YX9_isMonth) (as := [vi a0]) hat hlink kIX9_isMonth kLX9_isMonth kCX9_isMonth kNX9 (n := 1) (by decide +kernel) rfl (k := 0) (c := 7) rfl rfl rfl (by decide) hh hcat nL nS (Ck.post (qI_b (fun _ _ _ q => q)) hck)
theorem xX9_isWage {idx : Nat} {a0 : Int} (hlink : Cond.methodLink Y.1.cls idx yX9_isWage ∈ TW) (hat : At Y pc (.invokestatic idx) 3 pc') (hh : hX9_isWage + 1 ≤ h) (hcat : (st.map cat).sum ≤ 8) (nL : ls.all nml = true) (nS : st.all nmo = true) (hck : Ck K YX9_isWage hX9_isWage [vi a0] N g (qI (fun z N' g' => AW K Y h Q pc' ls (vi z :: st) N' g'))) : AW K Y h Q pc ls (vi a0 :: st) N g := r_callS (Y' := YX9_isWage) (as := [vi a0]) hat hlink kSX9_isWage kCX9_isWage kNX9 (n := 1) (by decide +kernel) rfl (by decide) hh hcat nL nS (Ck.post (qI_b (fun _ _ _ q => q)) hck)
theorem xX9_rowOf {idx : Nat} {a0 : Int} (hlink : Cond.methodLink Y.1.cls idx yX9_rowOf ∈ TW) (hat : At Y pc (.invokestatic idx) 3 pc') (hh : hX9_rowOf + 1 ≤ h) (hcat : (st.map cat).sum ≤ 8) (nL : ls.all nml = true) (nS : st.all nmo = true) (hck : Ck K YX9_rowOf hX9_rowOf [vi a0] N g (qI (fun z N' g' => AW K Y h Q pc' ls (vi z :: st) N' g'))) : AW K Y h Q pc ls (vi a0 :: st) N g := r_callS (Y' := YX9_rowOf) (as := [vi a0]) hat hlink kSX9_rowOf kCX9_rowOf kNX9 (n := 1) (by decide +kernel) rfl (by decide) hh hcat nL nS (Ck.post (qI_b (fun _ _ _ q => q)) hck)
theorem xX9_line {idx i : Nat} {a0 : Int} (hlink : Cond.methodLink Y.1.cls idx yX9_line ∈ TW) (hat : At Y pc (.invokevirtual idx) 3 pc') (hh : hX9_line + 1 ≤ h) (hcat : (st.map cat).sum ≤ 8) (nL : ls.all nml = true) (nS : st.all nmo = true) (hck : Ck K YX9_line hX9_line [vr 0 i, vi a0] N g (qR (fun k i N' g' => AW K Y h Q pc' ls (vr k i :: st) N' g'))) : AW K Y h Q pc ls (vi a0 :: vr 0 i :: st) N g := r_callV (Y' := YX9_line) (as := [vi a0]) hat hlink kIX9_line kLX9_line kCX9_line kNX9 (n := 1) (by decide +kernel) rfl (k := 0) (c := 7) rfl rfl rfl (by decide) hh hcat nL nS (Ck.post (qR_b (fun _ _ _ _ q => q)) hck)
theorem xX9_fresh {idx i : Nat}  (hlink : Cond.methodLink Y.1.cls idx yX9_fresh ∈ TW) (hat : At Y pc (.invokevirtual idx) 3 pc') (hh : hX9_fresh + 1 ≤ h) (hcat : (st.map cat).sum ≤ 8) (nL : ls.all nml = true) (nS : st.all nmo = true) (hck : Ck K YX9_fresh hX9_fresh [vr 0 i] N g (qR (fun k i N' g' => AW K Y h Q pc' ls (vr k i :: st) N' g'))) : AW K Y h Q pc ls (vr 0 i :: st) N g := r_callV (Y' := YX9_fresh) (as := []) hat hlink kIX9_fresh kLX9_fresh kCX9_fresh kNX9 (n := 0) (by decide +kernel) rfl (k := 0) (c := 7) rfl rfl rfl (by decide) hh hcat nL nS (Ck.post (qR_b (fun _ _ _ _ q => q)) hck)
theorem xX9_keptAt {idx i : Nat} {a0 : Int} (hlink : Cond.methodLink Y.1.cls idx yX9_keptAt ∈ TW) (hat : At Y pc (.invokevirtual idx) 3 pc') (hh : hX9_keptAt + 1 ≤ h) (hcat : (st.map cat).sum ≤ 8) (nL : ls.all nml = true) (nS : st.all nmo = true) (hck : Ck K YX9_keptAt hX9_keptAt [vr 0 i, vi a0] N g (qL (fun z N' g' => AW K Y h Q pc' ls (vl z :: st) N' g'))) : AW K Y h Q pc ls (vi a0 :: vr 0 i :: st) N g := r_callV (Y' := YX9_keptAt) (as := [vi a0]) hat hlink kIX9_keptAt kLX9_keptAt kCX9_keptAt kNX9 (n := 1) (by decide +kernel) rfl (k := 0) (c := 7) rfl rfl rfl (by decide) hh hcat nL nS (Ck.post (qL_b (fun _ _ _ q => q)) hck)
theorem xX9_refuse {idx i : Nat} {a0 : Int} {a1 : Int} (hlink : Cond.methodLink Y.1.cls idx yX9_refuse ∈ TW) (hat : At Y pc (.invokevirtual idx) 3 pc') (hh : hX9_refuse + 1 ≤ h) (hcat : (st.map cat).sum ≤ 8) (nL : ls.all nml = true) (nS : st.all nmo = true) (hck : Ck K YX9_refuse hX9_refuse [vr 0 i, vi a0, vi a1] N g (qI (fun z N' g' => AW K Y h Q pc' ls (vi z :: st) N' g'))) : AW K Y h Q pc ls (vi a1 :: vi a0 :: vr 0 i :: st) N g := r_callV (Y' := YX9_refuse) (as := [vi a0, vi a1]) hat hlink kIX9_refuse kLX9_refuse kCX9_refuse kNX9 (n := 2) (by decide +kernel) rfl (k := 0) (c := 7) rfl rfl rfl (by decide) hh hcat nL nS (Ck.post (qI_b (fun _ _ _ q => q)) hck)
theorem xX9_mayBend {idx i : Nat} {a0 : Int} {a1 : Int} {a2 : Int} {a3 : Int} (hlink : Cond.methodLink Y.1.cls idx yX9_mayBend ∈ TW) (hat : At Y pc (.invokevirtual idx) 3 pc') (hh : hX9_mayBend + 1 ≤ h) (hcat : (st.map cat).sum ≤ 8) (nL : ls.all nml = true) (nS : st.all nmo = true) (hck : Ck K YX9_mayBend hX9_mayBend [vr 0 i, vi a0, vi a1, vi a2, vi a3] N g (qI (fun z N' g' => AW K Y h Q pc' ls (vi z :: st) N' g'))) : AW K Y h Q pc ls (vi a3 :: vi a2 :: vi a1 :: vi a0 :: vr 0 i :: st) N g := r_callV (Y' := YX9_mayBend) (as := [vi a0, vi a1, vi a2, vi a3]) hat hlink kIX9_mayBend kLX9_mayBend kCX9_mayBend kNX9 (n := 4) (by decide +kernel) rfl (k := 0) (c := 7) rfl rfl rfl (by decide) hh hcat nL nS (Ck.post (qI_b (fun _ _ _ q => q)) hck)
theorem xX9_bytesIn {idx : Nat} {a0 : Int} (hlink : Cond.methodLink Y.1.cls idx yX9_bytesIn ∈ TW) (hat : At Y pc (.invokestatic idx) 3 pc') (hh : hX9_bytesIn + 1 ≤ h) (hcat : (st.map cat).sum ≤ 8) (nL : ls.all nml = true) (nS : st.all nmo = true) (hck : Ck K YX9_bytesIn hX9_bytesIn [vi a0] N g (qI (fun z N' g' => AW K Y h Q pc' ls (vi z :: st) N' g'))) : AW K Y h Q pc ls (vi a0 :: st) N g := r_callS (Y' := YX9_bytesIn) (as := [vi a0]) hat hlink kSX9_bytesIn kCX9_bytesIn kNX9 (n := 1) (by decide +kernel) rfl (by decide) hh hcat nL nS (Ck.post (qI_b (fun _ _ _ q => q)) hck)
theorem xX10_in {idx : Nat} {a0 : Int} {a1 : Int} {a2 : Int} (hlink : Cond.methodLink Y.1.cls idx yX10_in ∈ TW) (hat : At Y pc (.invokestatic idx) 3 pc') (hh : hX10_in + 1 ≤ h) (hcat : (st.map cat).sum ≤ 8) (nL : ls.all nml = true) (nS : st.all nmo = true) (hck : Ck K YX10_in hX10_in [vl a0, vl a1, vl a2] N g (qI (fun z N' g' => AW K Y h Q pc' ls (vi z :: st) N' g'))) : AW K Y h Q pc ls (vl a2 :: vl a1 :: vl a0 :: st) N g := r_callS (Y' := YX10_in) (as := [vl a0, vl a1, vl a2]) hat hlink kSX10_in kCX10_in kNX10 (n := 3) (by decide +kernel) rfl (by decide) hh hcat nL nS (Ck.post (qI_b (fun _ _ _ q => q)) hck)
theorem xX10_thrown {idx i : Nat}  (hlink : Cond.methodLink Y.1.cls idx yX10_thrown ∈ TW) (hat : At Y pc (.invokevirtual idx) 3 pc') (hh : hX10_thrown + 1 ≤ h) (hcat : (st.map cat).sum ≤ 8) (nL : ls.all nml = true) (nS : st.all nmo = true) (hck : Ck K YX10_thrown hX10_thrown [vr 40 i] N g (qI (fun z N' g' => AW K Y h Q pc' ls (vi z :: st) N' g'))) : AW K Y h Q pc ls (vr 40 i :: st) N g := r_callV (Y' := YX10_thrown) (as := []) hat hlink kIX10_thrown kLX10_thrown kCX10_thrown kNX10 (n := 0) (by decide +kernel) rfl (k := 40) (c := 8) rfl rfl rfl (by decide) hh hcat nL nS (Ck.post (qI_b (fun _ _ _ q => q)) hck)
theorem xX10_byteOf {idx : Nat} {a0 : Int} {a1 : Int} {a2 : Int} {a3 : Int} {a4 : Int} {a5 : Int} (hlink : Cond.methodLink Y.1.cls idx yX10_byteOf ∈ TW) (hat : At Y pc (.invokestatic idx) 3 pc') (hh : hX10_byteOf + 1 ≤ h) (hcat : (st.map cat).sum ≤ 8) (nL : ls.all nml = true) (nS : st.all nmo = true) (hck : Ck K YX10_byteOf hX10_byteOf [vi a0, vi a1, vi a2, vi a3, vi a4, vi a5] N g (qI (fun z N' g' => AW K Y h Q pc' ls (vi z :: st) N' g'))) : AW K Y h Q pc ls (vi a5 :: vi a4 :: vi a3 :: vi a2 :: vi a1 :: vi a0 :: st) N g := r_callS (Y' := YX10_byteOf) (as := [vi a0, vi a1, vi a2, vi a3, vi a4, vi a5]) hat hlink kSX10_byteOf kCX10_byteOf kNX10 (n := 6) (by decide +kernel) rfl (by decide) hh hcat nL nS (Ck.post (qI_b (fun _ _ _ q => q)) hck)
theorem xX10_feed {idx i : Nat} {a0 : Int} {a1 : Int} {a2 : Int} {a3 : Int} {a4 : Int} (hlink : Cond.methodLink Y.1.cls idx yX10_feed ∈ TW) (hat : At Y pc (.invokevirtual idx) 3 pc') (hh : hX10_feed + 1 ≤ h) (hcat : (st.map cat).sum ≤ 8) (nL : ls.all nml = true) (nS : st.all nmo = true) (hck : Ck K YX10_feed hX10_feed [vr 40 i, vi a0, vi a1, vi a2, vi a3, vi a4] N g (qI (fun z N' g' => AW K Y h Q pc' ls (vi z :: st) N' g'))) : AW K Y h Q pc ls (vi a4 :: vi a3 :: vi a2 :: vi a1 :: vi a0 :: vr 40 i :: st) N g := r_callV (Y' := YX10_feed) (as := [vi a0, vi a1, vi a2, vi a3, vi a4]) hat hlink kIX10_feed kLX10_feed kCX10_feed kNX10 (n := 5) (by decide +kernel) rfl (k := 40) (c := 8) rfl rfl rfl (by decide) hh hcat nL nS (Ck.post (qI_b (fun _ _ _ q => q)) hck)
theorem xX10_end {idx i : Nat} {a0 : Int} (hlink : Cond.methodLink Y.1.cls idx yX10_end ∈ TW) (hat : At Y pc (.invokevirtual idx) 3 pc') (hh : hX10_end + 1 ≤ h) (hcat : (st.map cat).sum ≤ 8) (nL : ls.all nml = true) (nS : st.all nmo = true) (hck : Ck K YX10_end hX10_end [vr 40 i, vi a0] N g (qI (fun z N' g' => AW K Y h Q pc' ls (vi z :: st) N' g'))) : AW K Y h Q pc ls (vi a0 :: vr 40 i :: st) N g := r_callV (Y' := YX10_end) (as := [vi a0]) hat hlink kIX10_end kLX10_end kCX10_end kNX10 (n := 1) (by decide +kernel) rfl (k := 40) (c := 8) rfl rfl rfl (by decide) hh hcat nL nS (Ck.post (qI_b (fun _ _ _ q => q)) hck)
theorem xX10_here {idx i : Nat}  (hlink : Cond.methodLink Y.1.cls idx yX10_here ∈ TW) (hat : At Y pc (.invokevirtual idx) 3 pc') (hh : hX10_here + 1 ≤ h) (hcat : (st.map cat).sum ≤ 8) (nL : ls.all nml = true) (nS : st.all nmo = true) (hck : Ck K YX10_here hX10_here [vr 40 i] N g (qI (fun z N' g' => AW K Y h Q pc' ls (vi z :: st) N' g'))) : AW K Y h Q pc ls (vr 40 i :: st) N g := r_callV (Y' := YX10_here) (as := []) hat hlink kIX10_here kLX10_here kCX10_here kNX10 (n := 0) (by decide +kernel) rfl (k := 40) (c := 8) rfl rfl rfl (by decide) hh hcat nL nS (Ck.post (qI_b (fun _ _ _ q => q)) hck)
theorem xX10_ahead {idx i : Nat}  (hlink : Cond.methodLink Y.1.cls idx yX10_ahead ∈ TW) (hat : At Y pc (.invokevirtual idx) 3 pc') (hh : hX10_ahead + 1 ≤ h) (hcat : (st.map cat).sum ≤ 8) (nL : ls.all nml = true) (nS : st.all nmo = true) (hck : Ck K YX10_ahead hX10_ahead [vr 40 i] N g (qI (fun z N' g' => AW K Y h Q pc' ls (vi z :: st) N' g'))) : AW K Y h Q pc ls (vr 40 i :: st) N g := r_callV (Y' := YX10_ahead) (as := []) hat hlink kIX10_ahead kLX10_ahead kCX10_ahead kNX10 (n := 0) (by decide +kernel) rfl (k := 40) (c := 8) rfl rfl rfl (by decide) hh hcat nL nS (Ck.post (qI_b (fun _ _ _ q => q)) hck)
theorem xX10_badAt {idx i : Nat} {a0 : Int} (hlink : Cond.methodLink Y.1.cls idx yX10_badAt ∈ TW) (hat : At Y pc (.invokevirtual idx) 3 pc') (hh : hX10_badAt + 1 ≤ h) (hcat : (st.map cat).sum ≤ 8) (nL : ls.all nml = true) (nS : st.all nmo = true) (hck : Ck K YX10_badAt hX10_badAt [vr 40 i, vi a0] N g (qV (fun N' g' => AW K Y h Q pc' ls st N' g'))) : AW K Y h Q pc ls (vi a0 :: vr 40 i :: st) N g := r_callV (Y' := YX10_badAt) (as := [vi a0]) hat hlink kIX10_badAt kLX10_badAt kCX10_badAt kNX10 (n := 1) (by decide +kernel) rfl (k := 40) (c := 8) rfl rfl rfl (by decide) hh hcat nL nS (Ck.post (qV_b (fun _ _ q => q)) hck)
theorem xX10_bad {idx i : Nat}  (hlink : Cond.methodLink Y.1.cls idx yX10_bad ∈ TW) (hat : At Y pc (.invokevirtual idx) 3 pc') (hh : hX10_bad + 1 ≤ h) (hcat : (st.map cat).sum ≤ 8) (nL : ls.all nml = true) (nS : st.all nmo = true) (hck : Ck K YX10_bad hX10_bad [vr 40 i] N g (qV (fun N' g' => AW K Y h Q pc' ls st N' g'))) : AW K Y h Q pc ls (vr 40 i :: st) N g := r_callV (Y' := YX10_bad) (as := []) hat hlink kIX10_bad kLX10_bad kCX10_bad kNX10 (n := 0) (by decide +kernel) rfl (k := 40) (c := 8) rfl rfl rfl (by decide) hh hcat nL nS (Ck.post (qV_b (fun _ _ q => q)) hck)
theorem xX10_must {idx i : Nat} {a0 : Int} (hlink : Cond.methodLink Y.1.cls idx yX10_must ∈ TW) (hat : At Y pc (.invokevirtual idx) 3 pc') (hh : hX10_must + 1 ≤ h) (hcat : (st.map cat).sum ≤ 8) (nL : ls.all nml = true) (nS : st.all nmo = true) (hck : Ck K YX10_must hX10_must [vr 40 i, vi a0] N g (qV (fun N' g' => AW K Y h Q pc' ls st N' g'))) : AW K Y h Q pc ls (vi a0 :: vr 40 i :: st) N g := r_callV (Y' := YX10_must) (as := [vi a0]) hat hlink kIX10_must kLX10_must kCX10_must kNX10 (n := 1) (by decide +kernel) rfl (k := 40) (c := 8) rfl rfl rfl (by decide) hh hcat nL nS (Ck.post (qV_b (fun _ _ q => q)) hck)
theorem xX10_takes {idx i : Nat} {a0 : Int} (hlink : Cond.methodLink Y.1.cls idx yX10_takes ∈ TW) (hat : At Y pc (.invokevirtual idx) 3 pc') (hh : hX10_takes + 1 ≤ h) (hcat : (st.map cat).sum ≤ 8) (nL : ls.all nml = true) (nS : st.all nmo = true) (hck : Ck K YX10_takes hX10_takes [vr 40 i, vi a0] N g (qI (fun z N' g' => AW K Y h Q pc' ls (vi z :: st) N' g'))) : AW K Y h Q pc ls (vi a0 :: vr 40 i :: st) N g := r_callV (Y' := YX10_takes) (as := [vi a0]) hat hlink kIX10_takes kLX10_takes kCX10_takes kNX10 (n := 1) (by decide +kernel) rfl (k := 40) (c := 8) rfl rfl rfl (by decide) hh hcat nL nS (Ck.post (qI_b (fun _ _ _ q => q)) hck)
theorem xX10_isDigit {idx : Nat} {a0 : Int} (hlink : Cond.methodLink Y.1.cls idx yX10_isDigit ∈ TW) (hat : At Y pc (.invokestatic idx) 3 pc') (hh : hX10_isDigit + 1 ≤ h) (hcat : (st.map cat).sum ≤ 8) (nL : ls.all nml = true) (nS : st.all nmo = true) (hck : Ck K YX10_isDigit hX10_isDigit [vi a0] N g (qI (fun z N' g' => AW K Y h Q pc' ls (vi z :: st) N' g'))) : AW K Y h Q pc ls (vi a0 :: st) N g := r_callS (Y' := YX10_isDigit) (as := [vi a0]) hat hlink kSX10_isDigit kCX10_isDigit kNX10 (n := 1) (by decide +kernel) rfl (by decide) hh hcat nL nS (Ck.post (qI_b (fun _ _ _ q => q)) hck)
theorem xX10_number {idx i : Nat} {a0 : Int} {a1 : Int} (hlink : Cond.methodLink Y.1.cls idx yX10_number ∈ TW) (hat : At Y pc (.invokevirtual idx) 3 pc') (hh : hX10_number + 1 ≤ h) (hcat : (st.map cat).sum ≤ 8) (nL : ls.all nml = true) (nS : st.all nmo = true) (hck : Ck K YX10_number hX10_number [vr 40 i, vi a0, vi a1] N g (qI (fun z N' g' => AW K Y h Q pc' ls (vi z :: st) N' g'))) : AW K Y h Q pc ls (vi a1 :: vi a0 :: vr 40 i :: st) N g := r_callV (Y' := YX10_number) (as := [vi a0, vi a1]) hat hlink kIX10_number kLX10_number kCX10_number kNX10 (n := 2) (by decide +kernel) rfl (k := 40) (c := 8) rfl rfl rfl (by decide) hh hcat nL nS (Ck.post (qI_b (fun _ _ _ q => q)) hck)
theorem xX10_readTerm {idx i : Nat} {a0 : Int} {a1 : Int} (hlink : Cond.methodLink Y.1.cls idx yX10_readTerm ∈ TW) (hat : At Y pc (.invokevirtual idx) 3 pc') (hh : hX10_readTerm + 1 ≤ h) (hcat : (st.map cat).sum ≤ 8) (nL : ls.all nml = true) (nS : st.all nmo = true) (hck : Ck K YX10_readTerm hX10_readTerm [vr 40 i, vi a0, vi a1] N g (qV (fun N' g' => AW K Y h Q pc' ls st N' g'))) : AW K Y h Q pc ls (vi a1 :: vi a0 :: vr 40 i :: st) N g := r_callV (Y' := YX10_readTerm) (as := [vi a0, vi a1]) hat hlink kIX10_readTerm kLX10_readTerm kCX10_readTerm kNX10 (n := 2) (by decide +kernel) rfl (k := 40) (c := 8) rfl rfl rfl (by decide) hh hcat nL nS (Ck.post (qV_b (fun _ _ q => q)) hck)
theorem xX10_readSum {idx i : Nat} {a0 : Int} (hlink : Cond.methodLink Y.1.cls idx yX10_readSum ∈ TW) (hat : At Y pc (.invokevirtual idx) 3 pc') (hh : hX10_readSum + 1 ≤ h) (hcat : (st.map cat).sum ≤ 8) (nL : ls.all nml = true) (nS : st.all nmo = true) (hck : Ck K YX10_readSum hX10_readSum [vr 40 i, vi a0] N g (qV (fun N' g' => AW K Y h Q pc' ls st N' g'))) : AW K Y h Q pc ls (vi a0 :: vr 40 i :: st) N g := r_callV (Y' := YX10_readSum) (as := [vi a0]) hat hlink kIX10_readSum kLX10_readSum kCX10_readSum kNX10 (n := 1) (by decide +kernel) rfl (k := 40) (c := 8) rfl rfl rfl (by decide) hh hcat nL nS (Ck.post (qV_b (fun _ _ q => q)) hck)
theorem xX10_deepBy {idx i : Nat} {a0 : Int} (hlink : Cond.methodLink Y.1.cls idx yX10_deepBy ∈ TW) (hat : At Y pc (.invokevirtual idx) 3 pc') (hh : hX10_deepBy + 1 ≤ h) (hcat : (st.map cat).sum ≤ 8) (nL : ls.all nml = true) (nS : st.all nmo = true) (hck : Ck K YX10_deepBy hX10_deepBy [vr 40 i, vi a0] N g (qI (fun z N' g' => AW K Y h Q pc' ls (vi z :: st) N' g'))) : AW K Y h Q pc ls (vi a0 :: vr 40 i :: st) N g := r_callV (Y' := YX10_deepBy) (as := [vi a0]) hat hlink kIX10_deepBy kLX10_deepBy kCX10_deepBy kNX10 (n := 1) (by decide +kernel) rfl (k := 40) (c := 8) rfl rfl rfl (by decide) hh hcat nL nS (Ck.post (qI_b (fun _ _ _ q => q)) hck)
theorem xX10_readsSegment {idx i : Nat} {a0 : Int} (hlink : Cond.methodLink Y.1.cls idx yX10_readsSegment ∈ TW) (hat : At Y pc (.invokevirtual idx) 3 pc') (hh : hX10_readsSegment + 1 ≤ h) (hcat : (st.map cat).sum ≤ 8) (nL : ls.all nml = true) (nS : st.all nmo = true) (hck : Ck K YX10_readsSegment hX10_readsSegment [vr 40 i, vi a0] N g (qV (fun N' g' => AW K Y h Q pc' ls st N' g'))) : AW K Y h Q pc ls (vi a0 :: vr 40 i :: st) N g := r_callV (Y' := YX10_readsSegment) (as := [vi a0]) hat hlink kIX10_readsSegment kLX10_readsSegment kCX10_readsSegment kNX10 (n := 1) (by decide +kernel) rfl (k := 40) (c := 8) rfl rfl rfl (by decide) hh hcat nL nS (Ck.post (qV_b (fun _ _ q => q)) hck)
theorem xX10_readRule {idx i : Nat}  (hlink : Cond.methodLink Y.1.cls idx yX10_readRule ∈ TW) (hat : At Y pc (.invokevirtual idx) 3 pc') (hh : hX10_readRule + 1 ≤ h) (hcat : (st.map cat).sum ≤ 8) (nL : ls.all nml = true) (nS : st.all nmo = true) (hck : Ck K YX10_readRule hX10_readRule [vr 40 i] N g (qV (fun N' g' => AW K Y h Q pc' ls st N' g'))) : AW K Y h Q pc ls (vr 40 i :: st) N g := r_callV (Y' := YX10_readRule) (as := []) hat hlink kIX10_readRule kLX10_readRule kCX10_readRule kNX10 (n := 0) (by decide +kernel) rfl (k := 40) (c := 8) rfl rfl rfl (by decide) hh hcat nL nS (Ck.post (qV_b (fun _ _ q => q)) hck)
theorem xX10_readDesk {idx i : Nat}  (hlink : Cond.methodLink Y.1.cls idx yX10_readDesk ∈ TW) (hat : At Y pc (.invokevirtual idx) 3 pc') (hh : hX10_readDesk + 1 ≤ h) (hcat : (st.map cat).sum ≤ 8) (nL : ls.all nml = true) (nS : st.all nmo = true) (hck : Ck K YX10_readDesk hX10_readDesk [vr 40 i] N g (qI (fun z N' g' => AW K Y h Q pc' ls (vi z :: st) N' g'))) : AW K Y h Q pc ls (vr 40 i :: st) N g := r_callV (Y' := YX10_readDesk) (as := []) hat hlink kIX10_readDesk kLX10_readDesk kCX10_readDesk kNX10 (n := 0) (by decide +kernel) rfl (k := 40) (c := 8) rfl rfl rfl (by decide) hh hcat nL nS (Ck.post (qI_b (fun _ _ _ q => q)) hck)
theorem xX10_fault {idx i : Nat}  (hlink : Cond.methodLink Y.1.cls idx yX10_fault ∈ TW) (hat : At Y pc (.invokevirtual idx) 3 pc') (hh : hX10_fault + 1 ≤ h) (hcat : (st.map cat).sum ≤ 8) (nL : ls.all nml = true) (nS : st.all nmo = true) (hck : Ck K YX10_fault hX10_fault [vr 40 i] N g (qI (fun z N' g' => AW K Y h Q pc' ls (vi z :: st) N' g'))) : AW K Y h Q pc ls (vr 40 i :: st) N g := r_callV (Y' := YX10_fault) (as := []) hat hlink kIX10_fault kLX10_fault kCX10_fault kNX10 (n := 0) (by decide +kernel) rfl (k := 40) (c := 8) rfl rfl rfl (by decide) hh hcat nL nS (Ck.post (qI_b (fun _ _ _ q => q)) hck)
theorem xX10_copies {idx : Nat} {k0 a0 : Nat} {k1 a1 : Nat} (hlink : Cond.methodLink Y.1.cls idx yX10_copies ∈ TW) (hat : At Y pc (.invokestatic idx) 3 pc') (hh : hX10_copies + 1 ≤ h) (hcat : (st.map cat).sum ≤ 8) (nL : ls.all nml = true) (nS : st.all nmo = true) (hck : Ck K YX10_copies hX10_copies [vr k0 a0, vr k1 a1] N g (qV (fun N' g' => AW K Y h Q pc' ls st N' g'))) : AW K Y h Q pc ls (vr k1 a1 :: vr k0 a0 :: st) N g := r_callS (Y' := YX10_copies) (as := [vr k0 a0, vr k1 a1]) hat hlink kSX10_copies kCX10_copies kNX10 (n := 2) (by decide +kernel) rfl (by decide) hh hcat nL nS (Ck.post (qV_b (fun _ _ q => q)) hck)
theorem xX10_desk {idx i : Nat}  (hlink : Cond.methodLink Y.1.cls idx yX10_desk ∈ TW) (hat : At Y pc (.invokevirtual idx) 3 pc') (hh : hX10_desk + 1 ≤ h) (hcat : (st.map cat).sum ≤ 8) (nL : ls.all nml = true) (nS : st.all nmo = true) (hck : Ck K YX10_desk hX10_desk [vr 40 i] N g (qI (fun z N' g' => AW K Y h Q pc' ls (vi z :: st) N' g'))) : AW K Y h Q pc ls (vr 40 i :: st) N g := r_callV (Y' := YX10_desk) (as := []) hat hlink kIX10_desk kLX10_desk kCX10_desk kNX10 (n := 0) (by decide +kernel) rfl (k := 40) (c := 8) rfl rfl rfl (by decide) hh hcat nL nS (Ck.post (qI_b (fun _ _ _ q => q)) hck)
theorem xX10_isAccount {idx i : Nat} {a0 : Int} (hlink : Cond.methodLink Y.1.cls idx yX10_isAccount ∈ TW) (hat : At Y pc (.invokevirtual idx) 3 pc') (hh : hX10_isAccount + 1 ≤ h) (hcat : (st.map cat).sum ≤ 8) (nL : ls.all nml = true) (nS : st.all nmo = true) (hck : Ck K YX10_isAccount hX10_isAccount [vr 40 i, vi a0] N g (qI (fun z N' g' => AW K Y h Q pc' ls (vi z :: st) N' g'))) : AW K Y h Q pc ls (vi a0 :: vr 40 i :: st) N g := r_callV (Y' := YX10_isAccount) (as := [vi a0]) hat hlink kIX10_isAccount kLX10_isAccount kCX10_isAccount kNX10 (n := 1) (by decide +kernel) rfl (k := 40) (c := 8) rfl rfl rfl (by decide) hh hcat nL nS (Ck.post (qI_b (fun _ _ _ q => q)) hck)
theorem xX10_isLine {idx i : Nat} {a0 : Int} (hlink : Cond.methodLink Y.1.cls idx yX10_isLine ∈ TW) (hat : At Y pc (.invokevirtual idx) 3 pc') (hh : hX10_isLine + 1 ≤ h) (hcat : (st.map cat).sum ≤ 8) (nL : ls.all nml = true) (nS : st.all nmo = true) (hck : Ck K YX10_isLine hX10_isLine [vr 40 i, vi a0] N g (qI (fun z N' g' => AW K Y h Q pc' ls (vi z :: st) N' g'))) : AW K Y h Q pc ls (vi a0 :: vr 40 i :: st) N g := r_callV (Y' := YX10_isLine) (as := [vi a0]) hat hlink kIX10_isLine kLX10_isLine kCX10_isLine kNX10 (n := 1) (by decide +kernel) rfl (k := 40) (c := 8) rfl rfl rfl (by decide) hh hcat nL nS (Ck.post (qI_b (fun _ _ _ q => q)) hck)
theorem xX10_isWage {idx i : Nat} {a0 : Int} (hlink : Cond.methodLink Y.1.cls idx yX10_isWage ∈ TW) (hat : At Y pc (.invokevirtual idx) 3 pc') (hh : hX10_isWage + 1 ≤ h) (hcat : (st.map cat).sum ≤ 8) (nL : ls.all nml = true) (nS : st.all nmo = true) (hck : Ck K YX10_isWage hX10_isWage [vr 40 i, vi a0] N g (qI (fun z N' g' => AW K Y h Q pc' ls (vi z :: st) N' g'))) : AW K Y h Q pc ls (vi a0 :: vr 40 i :: st) N g := r_callV (Y' := YX10_isWage) (as := [vi a0]) hat hlink kIX10_isWage kLX10_isWage kCX10_isWage kNX10 (n := 1) (by decide +kernel) rfl (k := 40) (c := 8) rfl rfl rfl (by decide) hh hcat nL nS (Ck.post (qI_b (fun _ _ _ q => q)) hck)
theorem xX10_isSegment {idx i : Nat} {a0 : Int} {a1 : Int} (hlink : Cond.methodLink Y.1.cls idx yX10_isSegment ∈ TW) (hat : At Y pc (.invokevirtual idx) 3 pc') (hh : hX10_isSegment + 1 ≤ h) (hcat : (st.map cat).sum ≤ 8) (nL : ls.all nml = true) (nS : st.all nmo = true) (hck : Ck K YX10_isSegment hX10_isSegment [vr 40 i, vi a0, vi a1] N g (qI (fun z N' g' => AW K Y h Q pc' ls (vi z :: st) N' g'))) : AW K Y h Q pc ls (vi a1 :: vi a0 :: vr 40 i :: st) N g := r_callV (Y' := YX10_isSegment) (as := [vi a0, vi a1]) hat hlink kIX10_isSegment kLX10_isSegment kCX10_isSegment kNX10 (n := 2) (by decide +kernel) rfl (k := 40) (c := 8) rfl rfl rfl (by decide) hh hcat nL nS (Ck.post (qI_b (fun _ _ _ q => q)) hck)
theorem xX10_part {idx i : Nat} {a0 : Int} {a1 : Int} {a2 : Int} (hlink : Cond.methodLink Y.1.cls idx yX10_part ∈ TW) (hat : At Y pc (.invokevirtual idx) 3 pc') (hh : hX10_part + 1 ≤ h) (hcat : (st.map cat).sum ≤ 8) (nL : ls.all nml = true) (nS : st.all nmo = true) (hck : Ck K YX10_part hX10_part [vr 40 i, vi a0, vi a1, vi a2] N g (qI (fun z N' g' => AW K Y h Q pc' ls (vi z :: st) N' g'))) : AW K Y h Q pc ls (vi a2 :: vi a1 :: vi a0 :: vr 40 i :: st) N g := r_callV (Y' := YX10_part) (as := [vi a0, vi a1, vi a2]) hat hlink kIX10_part kLX10_part kCX10_part kNX10 (n := 3) (by decide +kernel) rfl (k := 40) (c := 8) rfl rfl rfl (by decide) hh hcat nL nS (Ck.post (qI_b (fun _ _ _ q => q)) hck)
theorem xX10_sumAt {idx i : Nat} {a0 : Int} {a1 : Int} (hlink : Cond.methodLink Y.1.cls idx yX10_sumAt ∈ TW) (hat : At Y pc (.invokevirtual idx) 3 pc') (hh : hX10_sumAt + 1 ≤ h) (hcat : (st.map cat).sum ≤ 8) (nL : ls.all nml = true) (nS : st.all nmo = true) (hck : Ck K YX10_sumAt hX10_sumAt [vr 40 i, vi a0, vi a1] N g (qL (fun z N' g' => AW K Y h Q pc' ls (vl z :: st) N' g'))) : AW K Y h Q pc ls (vi a1 :: vi a0 :: vr 40 i :: st) N g := r_callV (Y' := YX10_sumAt) (as := [vi a0, vi a1]) hat hlink kIX10_sumAt kLX10_sumAt kCX10_sumAt kNX10 (n := 2) (by decide +kernel) rfl (k := 40) (c := 8) rfl rfl rfl (by decide) hh hcat nL nS (Ck.post (qL_b (fun _ _ _ q => q)) hck)
theorem xX10_whichBy {idx i : Nat} {a0 : Int} {a1 : Int} (hlink : Cond.methodLink Y.1.cls idx yX10_whichBy ∈ TW) (hat : At Y pc (.invokevirtual idx) 3 pc') (hh : hX10_whichBy + 1 ≤ h) (hcat : (st.map cat).sum ≤ 8) (nL : ls.all nml = true) (nS : st.all nmo = true) (hck : Ck K YX10_whichBy hX10_whichBy [vr 40 i, vi a0, vl a1] N g (qI (fun z N' g' => AW K Y h Q pc' ls (vi z :: st) N' g'))) : AW K Y h Q pc ls (vl a1 :: vi a0 :: vr 40 i :: st) N g := r_callV (Y' := YX10_whichBy) (as := [vi a0, vl a1]) hat hlink kIX10_whichBy kLX10_whichBy kCX10_whichBy kNX10 (n := 2) (by decide +kernel) rfl (k := 40) (c := 8) rfl rfl rfl (by decide) hh hcat nL nS (Ck.post (qI_b (fun _ _ _ q => q)) hck)
theorem xX10_beginOf {idx i : Nat} {a0 : Int} {a1 : Int} (hlink : Cond.methodLink Y.1.cls idx yX10_beginOf ∈ TW) (hat : At Y pc (.invokevirtual idx) 3 pc') (hh : hX10_beginOf + 1 ≤ h) (hcat : (st.map cat).sum ≤ 8) (nL : ls.all nml = true) (nS : st.all nmo = true) (hck : Ck K YX10_beginOf hX10_beginOf [vr 40 i, vi a0, vi a1] N g (qL (fun z N' g' => AW K Y h Q pc' ls (vl z :: st) N' g'))) : AW K Y h Q pc ls (vi a1 :: vi a0 :: vr 40 i :: st) N g := r_callV (Y' := YX10_beginOf) (as := [vi a0, vi a1]) hat hlink kIX10_beginOf kLX10_beginOf kCX10_beginOf kNX10 (n := 2) (by decide +kernel) rfl (k := 40) (c := 8) rfl rfl rfl (by decide) hh hcat nL nS (Ck.post (qL_b (fun _ _ _ q => q)) hck)
theorem xX10_lineAt {idx i : Nat} {a0 : Int} {a1 : Int} (hlink : Cond.methodLink Y.1.cls idx yX10_lineAt ∈ TW) (hat : At Y pc (.invokevirtual idx) 3 pc') (hh : hX10_lineAt + 1 ≤ h) (hcat : (st.map cat).sum ≤ 8) (nL : ls.all nml = true) (nS : st.all nmo = true) (hck : Ck K YX10_lineAt hX10_lineAt [vr 40 i, vi a0, vi a1] N g (qL (fun z N' g' => AW K Y h Q pc' ls (vl z :: st) N' g'))) : AW K Y h Q pc ls (vi a1 :: vi a0 :: vr 40 i :: st) N g := r_callV (Y' := YX10_lineAt) (as := [vi a0, vi a1]) hat hlink kIX10_lineAt kLX10_lineAt kCX10_lineAt kNX10 (n := 2) (by decide +kernel) rfl (k := 40) (c := 8) rfl rfl rfl (by decide) hh hcat nL nS (Ck.post (qL_b (fun _ _ _ q => q)) hck)
theorem xX10_laysAccounts {idx i : Nat} {a0 : Int} (hlink : Cond.methodLink Y.1.cls idx yX10_laysAccounts ∈ TW) (hat : At Y pc (.invokevirtual idx) 3 pc') (hh : hX10_laysAccounts + 1 ≤ h) (hcat : (st.map cat).sum ≤ 8) (nL : ls.all nml = true) (nS : st.all nmo = true) (hck : Ck K YX10_laysAccounts hX10_laysAccounts [vr 40 i, vi a0] N g (qV (fun N' g' => AW K Y h Q pc' ls st N' g'))) : AW K Y h Q pc ls (vi a0 :: vr 40 i :: st) N g := r_callV (Y' := YX10_laysAccounts) (as := [vi a0]) hat hlink kIX10_laysAccounts kLX10_laysAccounts kCX10_laysAccounts kNX10 (n := 1) (by decide +kernel) rfl (k := 40) (c := 8) rfl rfl rfl (by decide) hh hcat nL nS (Ck.post (qV_b (fun _ _ q => q)) hck)
theorem xX10_paidAt {idx i : Nat} {a0 : Int} (hlink : Cond.methodLink Y.1.cls idx yX10_paidAt ∈ TW) (hat : At Y pc (.invokevirtual idx) 3 pc') (hh : hX10_paidAt + 1 ≤ h) (hcat : (st.map cat).sum ≤ 8) (nL : ls.all nml = true) (nS : st.all nmo = true) (hck : Ck K YX10_paidAt hX10_paidAt [vr 40 i, vi a0] N g (qL (fun z N' g' => AW K Y h Q pc' ls (vl z :: st) N' g'))) : AW K Y h Q pc ls (vi a0 :: vr 40 i :: st) N g := r_callV (Y' := YX10_paidAt) (as := [vi a0]) hat hlink kIX10_paidAt kLX10_paidAt kCX10_paidAt kNX10 (n := 1) (by decide +kernel) rfl (k := 40) (c := 8) rfl rfl rfl (by decide) hh hcat nL nS (Ck.post (qL_b (fun _ _ _ q => q)) hck)
theorem xX10_valueAt {idx i : Nat} {a0 : Int} {a1 : Int} (hlink : Cond.methodLink Y.1.cls idx yX10_valueAt ∈ TW) (hat : At Y pc (.invokevirtual idx) 3 pc') (hh : hX10_valueAt + 1 ≤ h) (hcat : (st.map cat).sum ≤ 8) (nL : ls.all nml = true) (nS : st.all nmo = true) (hck : Ck K YX10_valueAt hX10_valueAt [vr 40 i, vi a0, vi a1] N g (qL (fun z N' g' => AW K Y h Q pc' ls (vl z :: st) N' g'))) : AW K Y h Q pc ls (vi a1 :: vi a0 :: vr 40 i :: st) N g := r_callV (Y' := YX10_valueAt) (as := [vi a0, vi a1]) hat hlink kIX10_valueAt kLX10_valueAt kCX10_valueAt kNX10 (n := 2) (by decide +kernel) rfl (k := 40) (c := 8) rfl rfl rfl (by decide) hh hcat nL nS (Ck.post (qL_b (fun _ _ _ q => q)) hck)
theorem xX10_keptAt {idx i : Nat} {a0 : Int} (hlink : Cond.methodLink Y.1.cls idx yX10_keptAt ∈ TW) (hat : At Y pc (.invokevirtual idx) 3 pc') (hh : hX10_keptAt + 1 ≤ h) (hcat : (st.map cat).sum ≤ 8) (nL : ls.all nml = true) (nS : st.all nmo = true) (hck : Ck K YX10_keptAt hX10_keptAt [vr 40 i, vi a0] N g (qL (fun z N' g' => AW K Y h Q pc' ls (vl z :: st) N' g'))) : AW K Y h Q pc ls (vi a0 :: vr 40 i :: st) N g := r_callV (Y' := YX10_keptAt) (as := [vi a0]) hat hlink kIX10_keptAt kLX10_keptAt kCX10_keptAt kNX10 (n := 1) (by decide +kernel) rfl (k := 40) (c := 8) rfl rfl rfl (by decide) hh hcat nL nS (Ck.post (qL_b (fun _ _ _ q => q)) hck)
theorem xX10_laysLine {idx i : Nat} {a0 : Int} (hlink : Cond.methodLink Y.1.cls idx yX10_laysLine ∈ TW) (hat : At Y pc (.invokevirtual idx) 3 pc') (hh : hX10_laysLine + 1 ≤ h) (hcat : (st.map cat).sum ≤ 8) (nL : ls.all nml = true) (nS : st.all nmo = true) (hck : Ck K YX10_laysLine hX10_laysLine [vr 40 i, vi a0] N g (qV (fun N' g' => AW K Y h Q pc' ls st N' g'))) : AW K Y h Q pc ls (vi a0 :: vr 40 i :: st) N g := r_callV (Y' := YX10_laysLine) (as := [vi a0]) hat hlink kIX10_laysLine kLX10_laysLine kCX10_laysLine kNX10 (n := 1) (by decide +kernel) rfl (k := 40) (c := 8) rfl rfl rfl (by decide) hh hcat nL nS (Ck.post (qV_b (fun _ _ q => q)) hck)
theorem xX10_step {idx i : Nat} {a0 : Int} (hlink : Cond.methodLink Y.1.cls idx yX10_step ∈ TW) (hat : At Y pc (.invokevirtual idx) 3 pc') (hh : hX10_step + 1 ≤ h) (hcat : (st.map cat).sum ≤ 8) (nL : ls.all nml = true) (nS : st.all nmo = true) (hck : Ck K YX10_step hX10_step [vr 40 i, vi a0] N g (qL (fun z N' g' => AW K Y h Q pc' ls (vl z :: st) N' g'))) : AW K Y h Q pc ls (vi a0 :: vr 40 i :: st) N g := r_callV (Y' := YX10_step) (as := [vi a0]) hat hlink kIX10_step kLX10_step kCX10_step kNX10 (n := 1) (by decide +kernel) rfl (k := 40) (c := 8) rfl rfl rfl (by decide) hh hcat nL nS (Ck.post (qL_b (fun _ _ _ q => q)) hck)
theorem xX10_laysPieces {idx i : Nat} {a0 : Int} (hlink : Cond.methodLink Y.1.cls idx yX10_laysPieces ∈ TW) (hat : At Y pc (.invokevirtual idx) 3 pc') (hh : hX10_laysPieces + 1 ≤ h) (hcat : (st.map cat).sum ≤ 8) (nL : ls.all nml = true) (nS : st.all nmo = true) (hck : Ck K YX10_laysPieces hX10_laysPieces [vr 40 i, vi a0] N g (qV (fun N' g' => AW K Y h Q pc' ls st N' g'))) : AW K Y h Q pc ls (vi a0 :: vr 40 i :: st) N g := r_callV (Y' := YX10_laysPieces) (as := [vi a0]) hat hlink kIX10_laysPieces kLX10_laysPieces kCX10_laysPieces kNX10 (n := 1) (by decide +kernel) rfl (k := 40) (c := 8) rfl rfl rfl (by decide) hh hcat nL nS (Ck.post (qV_b (fun _ _ q => q)) hck)
theorem xX10_pieceTo {idx i : Nat} {a0 : Int} (hlink : Cond.methodLink Y.1.cls idx yX10_pieceTo ∈ TW) (hat : At Y pc (.invokevirtual idx) 3 pc') (hh : hX10_pieceTo + 1 ≤ h) (hcat : (st.map cat).sum ≤ 8) (nL : ls.all nml = true) (nS : st.all nmo = true) (hck : Ck K YX10_pieceTo hX10_pieceTo [vr 40 i, vi a0] N g (qI (fun z N' g' => AW K Y h Q pc' ls (vi z :: st) N' g'))) : AW K Y h Q pc ls (vi a0 :: vr 40 i :: st) N g := r_callV (Y' := YX10_pieceTo) (as := [vi a0]) hat hlink kIX10_pieceTo kLX10_pieceTo kCX10_pieceTo kNX10 (n := 1) (by decide +kernel) rfl (k := 40) (c := 8) rfl rfl rfl (by decide) hh hcat nL nS (Ck.post (qI_b (fun _ _ _ q => q)) hck)
theorem xX10_cliffsOf {idx i : Nat}  (hlink : Cond.methodLink Y.1.cls idx yX10_cliffsOf ∈ TW) (hat : At Y pc (.invokevirtual idx) 3 pc') (hh : hX10_cliffsOf + 1 ≤ h) (hcat : (st.map cat).sum ≤ 8) (nL : ls.all nml = true) (nS : st.all nmo = true) (hck : Ck K YX10_cliffsOf hX10_cliffsOf [vr 40 i] N g (qI (fun z N' g' => AW K Y h Q pc' ls (vi z :: st) N' g'))) : AW K Y h Q pc ls (vr 40 i :: st) N g := r_callV (Y' := YX10_cliffsOf) (as := []) hat hlink kIX10_cliffsOf kLX10_cliffsOf kCX10_cliffsOf kNX10 (n := 0) (by decide +kernel) rfl (k := 40) (c := 8) rfl rfl rfl (by decide) hh hcat nL nS (Ck.post (qI_b (fun _ _ _ q => q)) hck)
theorem xX10_piecesOf {idx i : Nat} {a0 : Int} (hlink : Cond.methodLink Y.1.cls idx yX10_piecesOf ∈ TW) (hat : At Y pc (.invokevirtual idx) 3 pc') (hh : hX10_piecesOf + 1 ≤ h) (hcat : (st.map cat).sum ≤ 8) (nL : ls.all nml = true) (nS : st.all nmo = true) (hck : Ck K YX10_piecesOf hX10_piecesOf [vr 40 i, vi a0] N g (qI (fun z N' g' => AW K Y h Q pc' ls (vi z :: st) N' g'))) : AW K Y h Q pc ls (vi a0 :: vr 40 i :: st) N g := r_callV (Y' := YX10_piecesOf) (as := [vi a0]) hat hlink kIX10_piecesOf kLX10_piecesOf kCX10_piecesOf kNX10 (n := 1) (by decide +kernel) rfl (k := 40) (c := 8) rfl rfl rfl (by decide) hh hcat nL nS (Ck.post (qI_b (fun _ _ _ q => q)) hck)
theorem xX10_rule {idx i : Nat} {a0 : Int} (hlink : Cond.methodLink Y.1.cls idx yX10_rule ∈ TW) (hat : At Y pc (.invokevirtual idx) 3 pc') (hh : hX10_rule + 1 ≤ h) (hcat : (st.map cat).sum ≤ 8) (nL : ls.all nml = true) (nS : st.all nmo = true) (hck : Ck K YX10_rule hX10_rule [vr 40 i, vi a0] N g (qI (fun z N' g' => AW K Y h Q pc' ls (vi z :: st) N' g'))) : AW K Y h Q pc ls (vi a0 :: vr 40 i :: st) N g := r_callV (Y' := YX10_rule) (as := [vi a0]) hat hlink kIX10_rule kLX10_rule kCX10_rule kNX10 (n := 1) (by decide +kernel) rfl (k := 40) (c := 8) rfl rfl rfl (by decide) hh hcat nL nS (Ck.post (qI_b (fun _ _ _ q => q)) hck)
theorem xX10_account {idx i : Nat} {a0 : Int} {a1 : Int} (hlink : Cond.methodLink Y.1.cls idx yX10_account ∈ TW) (hat : At Y pc (.invokevirtual idx) 3 pc') (hh : hX10_account + 1 ≤ h) (hcat : (st.map cat).sum ≤ 8) (nL : ls.all nml = true) (nS : st.all nmo = true) (hck : Ck K YX10_account hX10_account [vr 40 i, vi a0, vi a1] N g (qI (fun z N' g' => AW K Y h Q pc' ls (vi z :: st) N' g'))) : AW K Y h Q pc ls (vi a1 :: vi a0 :: vr 40 i :: st) N g := r_callV (Y' := YX10_account) (as := [vi a0, vi a1]) hat hlink kIX10_account kLX10_account kCX10_account kNX10 (n := 2) (by decide +kernel) rfl (k := 40) (c := 8) rfl rfl rfl (by decide) hh hcat nL nS (Ck.post (qI_b (fun _ _ _ q => q)) hck)
theorem xX10_segmentAt {idx i : Nat} {a0 : Int} {a1 : Int} (hlink : Cond.methodLink Y.1.cls idx yX10_segmentAt ∈ TW) (hat : At Y pc (.invokevirtual idx) 3 pc') (hh : hX10_segmentAt + 1 ≤ h) (hcat : (st.map cat).sum ≤ 8) (nL : ls.all nml = true) (nS : st.all nmo = true) (hck : Ck K YX10_segmentAt hX10_segmentAt [vr 40 i, vi a0, vi a1] N g (qI (fun z N' g' => AW K Y h Q pc' ls (vi z :: st) N' g'))) : AW K Y h Q pc ls (vi a1 :: vi a0 :: vr 40 i :: st) N g := r_callV (Y' := YX10_segmentAt) (as := [vi a0, vi a1]) hat hlink kIX10_segmentAt kLX10_segmentAt kCX10_segmentAt kNX10 (n := 2) (by decide +kernel) rfl (k := 40) (c := 8) rfl rfl rfl (by decide) hh hcat nL nS (Ck.post (qI_b (fun _ _ _ q => q)) hck)
theorem xX10_segment {idx i : Nat} {a0 : Int} {a1 : Int} {a2 : Int} (hlink : Cond.methodLink Y.1.cls idx yX10_segment ∈ TW) (hat : At Y pc (.invokevirtual idx) 3 pc') (hh : hX10_segment + 1 ≤ h) (hcat : (st.map cat).sum ≤ 8) (nL : ls.all nml = true) (nS : st.all nmo = true) (hck : Ck K YX10_segment hX10_segment [vr 40 i, vi a0, vi a1, vi a2] N g (qI (fun z N' g' => AW K Y h Q pc' ls (vi z :: st) N' g'))) : AW K Y h Q pc ls (vi a2 :: vi a1 :: vi a0 :: vr 40 i :: st) N g := r_callV (Y' := YX10_segment) (as := [vi a0, vi a1, vi a2]) hat hlink kIX10_segment kLX10_segment kCX10_segment kNX10 (n := 3) (by decide +kernel) rfl (k := 40) (c := 8) rfl rfl rfl (by decide) hh hcat nL nS (Ck.post (qI_b (fun _ _ _ q => q)) hck)
theorem xX10_at {idx i : Nat} {a0 : Int} {a1 : Int} (hlink : Cond.methodLink Y.1.cls idx yX10_at ∈ TW) (hat : At Y pc (.invokevirtual idx) 3 pc') (hh : hX10_at + 1 ≤ h) (hcat : (st.map cat).sum ≤ 8) (nL : ls.all nml = true) (nS : st.all nmo = true) (hck : Ck K YX10_at hX10_at [vr 40 i, vi a0, vi a1] N g (qL (fun z N' g' => AW K Y h Q pc' ls (vl z :: st) N' g'))) : AW K Y h Q pc ls (vi a1 :: vi a0 :: vr 40 i :: st) N g := r_callV (Y' := YX10_at) (as := [vi a0, vi a1]) hat hlink kIX10_at kLX10_at kCX10_at kNX10 (n := 2) (by decide +kernel) rfl (k := 40) (c := 8) rfl rfl rfl (by decide) hh hcat nL nS (Ck.post (qL_b (fun _ _ _ q => q)) hck)
theorem xX10_sum {idx i : Nat} {a0 : Int} {a1 : Int} (hlink : Cond.methodLink Y.1.cls idx yX10_sum ∈ TW) (hat : At Y pc (.invokevirtual idx) 3 pc') (hh : hX10_sum + 1 ≤ h) (hcat : (st.map cat).sum ≤ 8) (nL : ls.all nml = true) (nS : st.all nmo = true) (hck : Ck K YX10_sum hX10_sum [vr 40 i, vi a0, vi a1] N g (qL (fun z N' g' => AW K Y h Q pc' ls (vl z :: st) N' g'))) : AW K Y h Q pc ls (vi a1 :: vi a0 :: vr 40 i :: st) N g := r_callV (Y' := YX10_sum) (as := [vi a0, vi a1]) hat hlink kIX10_sum kLX10_sum kCX10_sum kNX10 (n := 2) (by decide +kernel) rfl (k := 40) (c := 8) rfl rfl rfl (by decide) hh hcat nL nS (Ck.post (qL_b (fun _ _ _ q => q)) hck)
theorem xX10_which {idx i : Nat} {a0 : Int} {a1 : Int} (hlink : Cond.methodLink Y.1.cls idx yX10_which ∈ TW) (hat : At Y pc (.invokevirtual idx) 3 pc') (hh : hX10_which + 1 ≤ h) (hcat : (st.map cat).sum ≤ 8) (nL : ls.all nml = true) (nS : st.all nmo = true) (hck : Ck K YX10_which hX10_which [vr 40 i, vi a0, vi a1] N g (qI (fun z N' g' => AW K Y h Q pc' ls (vi z :: st) N' g'))) : AW K Y h Q pc ls (vi a1 :: vi a0 :: vr 40 i :: st) N g := r_callV (Y' := YX10_which) (as := [vi a0, vi a1]) hat hlink kIX10_which kLX10_which kCX10_which kNX10 (n := 2) (by decide +kernel) rfl (k := 40) (c := 8) rfl rfl rfl (by decide) hh hcat nL nS (Ck.post (qI_b (fun _ _ _ q => q)) hck)
theorem xX10_piece {idx i : Nat} {a0 : Int} {a1 : Int} {a2 : Int} (hlink : Cond.methodLink Y.1.cls idx yX10_piece ∈ TW) (hat : At Y pc (.invokevirtual idx) 3 pc') (hh : hX10_piece + 1 ≤ h) (hcat : (st.map cat).sum ≤ 8) (nL : ls.all nml = true) (nS : st.all nmo = true) (hck : Ck K YX10_piece hX10_piece [vr 40 i, vi a0, vi a1, vi a2] N g (qL (fun z N' g' => AW K Y h Q pc' ls (vl z :: st) N' g'))) : AW K Y h Q pc ls (vi a2 :: vi a1 :: vi a0 :: vr 40 i :: st) N g := r_callV (Y' := YX10_piece) (as := [vi a0, vi a1, vi a2]) hat hlink kIX10_piece kLX10_piece kCX10_piece kNX10 (n := 3) (by decide +kernel) rfl (k := 40) (c := 8) rfl rfl rfl (by decide) hh hcat nL nS (Ck.post (qL_b (fun _ _ _ q => q)) hck)
theorem xX10_pieceAt {idx i : Nat} {a0 : Int} {a1 : Int} (hlink : Cond.methodLink Y.1.cls idx yX10_pieceAt ∈ TW) (hat : At Y pc (.invokevirtual idx) 3 pc') (hh : hX10_pieceAt + 1 ≤ h) (hcat : (st.map cat).sum ≤ 8) (nL : ls.all nml = true) (nS : st.all nmo = true) (hck : Ck K YX10_pieceAt hX10_pieceAt [vr 40 i, vi a0, vi a1] N g (qI (fun z N' g' => AW K Y h Q pc' ls (vi z :: st) N' g'))) : AW K Y h Q pc ls (vi a1 :: vi a0 :: vr 40 i :: st) N g := r_callV (Y' := YX10_pieceAt) (as := [vi a0, vi a1]) hat hlink kIX10_pieceAt kLX10_pieceAt kCX10_pieceAt kNX10 (n := 2) (by decide +kernel) rfl (k := 40) (c := 8) rfl rfl rfl (by decide) hh hcat nL nS (Ck.post (qI_b (fun _ _ _ q => q)) hck)
theorem xX10_promised {idx i : Nat} {a0 : Int} {a1 : Int} (hlink : Cond.methodLink Y.1.cls idx yX10_promised ∈ TW) (hat : At Y pc (.invokevirtual idx) 3 pc') (hh : hX10_promised + 1 ≤ h) (hcat : (st.map cat).sum ≤ 8) (nL : ls.all nml = true) (nS : st.all nmo = true) (hck : Ck K YX10_promised hX10_promised [vr 40 i, vl a0, vi a1] N g (qI (fun z N' g' => AW K Y h Q pc' ls (vi z :: st) N' g'))) : AW K Y h Q pc ls (vi a1 :: vl a0 :: vr 40 i :: st) N g := r_callV (Y' := YX10_promised) (as := [vl a0, vi a1]) hat hlink kIX10_promised kLX10_promised kCX10_promised kNX10 (n := 2) (by decide +kernel) rfl (k := 40) (c := 8) rfl rfl rfl (by decide) hh hcat nL nS (Ck.post (qI_b (fun _ _ _ q => q)) hck)
theorem xX10_exactly {idx i : Nat} {a0 : Int} {a1 : Int} (hlink : Cond.methodLink Y.1.cls idx yX10_exactly ∈ TW) (hat : At Y pc (.invokevirtual idx) 3 pc') (hh : hX10_exactly + 1 ≤ h) (hcat : (st.map cat).sum ≤ 8) (nL : ls.all nml = true) (nS : st.all nmo = true) (hck : Ck K YX10_exactly hX10_exactly [vr 40 i, vl a0, vi a1] N g (qI (fun z N' g' => AW K Y h Q pc' ls (vi z :: st) N' g'))) : AW K Y h Q pc ls (vi a1 :: vl a0 :: vr 40 i :: st) N g := r_callV (Y' := YX10_exactly) (as := [vl a0, vi a1]) hat hlink kIX10_exactly kLX10_exactly kCX10_exactly kNX10 (n := 2) (by decide +kernel) rfl (k := 40) (c := 8) rfl rfl rfl (by decide) hh hcat nL nS (Ck.post (qI_b (fun _ _ _ q => q)) hck)
theorem xX10_backFrom {idx i : Nat} {a0 : Int} (hlink : Cond.methodLink Y.1.cls idx yX10_backFrom ∈ TW) (hat : At Y pc (.invokevirtual idx) 3 pc') (hh : hX10_backFrom + 1 ≤ h) (hcat : (st.map cat).sum ≤ 8) (nL : ls.all nml = true) (nS : st.all nmo = true) (hck : Ck K YX10_backFrom hX10_backFrom [vr 40 i, vi a0] N g (qI (fun z N' g' => AW K Y h Q pc' ls (vi z :: st) N' g'))) : AW K Y h Q pc ls (vi a0 :: vr 40 i :: st) N g := r_callV (Y' := YX10_backFrom) (as := [vi a0]) hat hlink kIX10_backFrom kLX10_backFrom kCX10_backFrom kNX10 (n := 1) (by decide +kernel) rfl (k := 40) (c := 8) rfl rfl rfl (by decide) hh hcat nL nS (Ck.post (qI_b (fun _ _ _ q => q)) hck)
theorem xX10_trapOf {idx i : Nat} {a0 : Int} (hlink : Cond.methodLink Y.1.cls idx yX10_trapOf ∈ TW) (hat : At Y pc (.invokevirtual idx) 3 pc') (hh : hX10_trapOf + 1 ≤ h) (hcat : (st.map cat).sum ≤ 8) (nL : ls.all nml = true) (nS : st.all nmo = true) (hck : Ck K YX10_trapOf hX10_trapOf [vr 40 i, vi a0] N g (qI (fun z N' g' => AW K Y h Q pc' ls (vi z :: st) N' g'))) : AW K Y h Q pc ls (vi a0 :: vr 40 i :: st) N g := r_callV (Y' := YX10_trapOf) (as := [vi a0]) hat hlink kIX10_trapOf kLX10_trapOf kCX10_trapOf kNX10 (n := 1) (by decide +kernel) rfl (k := 40) (c := 8) rfl rfl rfl (by decide) hh hcat nL nS (Ck.post (qI_b (fun _ _ _ q => q)) hck)
theorem xX10_cliff {idx i : Nat} {a0 : Int} {a1 : Int} (hlink : Cond.methodLink Y.1.cls idx yX10_cliff ∈ TW) (hat : At Y pc (.invokevirtual idx) 3 pc') (hh : hX10_cliff + 1 ≤ h) (hcat : (st.map cat).sum ≤ 8) (nL : ls.all nml = true) (nS : st.all nmo = true) (hck : Ck K YX10_cliff hX10_cliff [vr 40 i, vi a0, vi a1] N g (qL (fun z N' g' => AW K Y h Q pc' ls (vl z :: st) N' g'))) : AW K Y h Q pc ls (vi a1 :: vi a0 :: vr 40 i :: st) N g := r_callV (Y' := YX10_cliff) (as := [vi a0, vi a1]) hat hlink kIX10_cliff kLX10_cliff kCX10_cliff kNX10 (n := 2) (by decide +kernel) rfl (k := 40) (c := 8) rfl rfl rfl (by decide) hh hcat nL nS (Ck.post (qL_b (fun _ _ _ q => q)) hck)
theorem xX10_more {idx i : Nat} {a0 : Int} (hlink : Cond.methodLink Y.1.cls idx yX10_more ∈ TW) (hat : At Y pc (.invokevirtual idx) 3 pc') (hh : hX10_more + 1 ≤ h) (hcat : (st.map cat).sum ≤ 8) (nL : ls.all nml = true) (nS : st.all nmo = true) (hck : Ck K YX10_more hX10_more [vr 40 i, vi a0] N g (qL (fun z N' g' => AW K Y h Q pc' ls (vl z :: st) N' g'))) : AW K Y h Q pc ls (vi a0 :: vr 40 i :: st) N g := r_callV (Y' := YX10_more) (as := [vi a0]) hat hlink kIX10_more kLX10_more kCX10_more kNX10 (n := 1) (by decide +kernel) rfl (k := 40) (c := 8) rfl rfl rfl (by decide) hh hcat nL nS (Ck.post (qL_b (fun _ _ _ q => q)) hck)
theorem xX10_average {idx i : Nat} {a0 : Int} (hlink : Cond.methodLink Y.1.cls idx yX10_average ∈ TW) (hat : At Y pc (.invokevirtual idx) 3 pc') (hh : hX10_average + 1 ≤ h) (hcat : (st.map cat).sum ≤ 8) (nL : ls.all nml = true) (nS : st.all nmo = true) (hck : Ck K YX10_average hX10_average [vr 40 i, vi a0] N g (qL (fun z N' g' => AW K Y h Q pc' ls (vl z :: st) N' g'))) : AW K Y h Q pc ls (vi a0 :: vr 40 i :: st) N g := r_callV (Y' := YX10_average) (as := [vi a0]) hat hlink kIX10_average kLX10_average kCX10_average kNX10 (n := 1) (by decide +kernel) rfl (k := 40) (c := 8) rfl rfl rfl (by decide) hh hcat nL nS (Ck.post (qL_b (fun _ _ _ q => q)) hck)
theorem xX10_rate {idx i : Nat} {a0 : Int} (hlink : Cond.methodLink Y.1.cls idx yX10_rate ∈ TW) (hat : At Y pc (.invokevirtual idx) 3 pc') (hh : hX10_rate + 1 ≤ h) (hcat : (st.map cat).sum ≤ 8) (nL : ls.all nml = true) (nS : st.all nmo = true) (hck : Ck K YX10_rate hX10_rate [vr 40 i, vi a0] N g (qI (fun z N' g' => AW K Y h Q pc' ls (vi z :: st) N' g'))) : AW K Y h Q pc ls (vi a0 :: vr 40 i :: st) N g := r_callV (Y' := YX10_rate) (as := [vi a0]) hat hlink kIX10_rate kLX10_rate kCX10_rate kNX10 (n := 1) (by decide +kernel) rfl (k := 40) (c := 8) rfl rfl rfl (by decide) hh hcat nL nS (Ck.post (qI_b (fun _ _ _ q => q)) hck)
theorem xX10_jumps {idx i : Nat} {a0 : Int} (hlink : Cond.methodLink Y.1.cls idx yX10_jumps ∈ TW) (hat : At Y pc (.invokevirtual idx) 3 pc') (hh : hX10_jumps + 1 ≤ h) (hcat : (st.map cat).sum ≤ 8) (nL : ls.all nml = true) (nS : st.all nmo = true) (hck : Ck K YX10_jumps hX10_jumps [vr 40 i, vi a0] N g (qI (fun z N' g' => AW K Y h Q pc' ls (vi z :: st) N' g'))) : AW K Y h Q pc ls (vi a0 :: vr 40 i :: st) N g := r_callV (Y' := YX10_jumps) (as := [vi a0]) hat hlink kIX10_jumps kLX10_jumps kCX10_jumps kNX10 (n := 1) (by decide +kernel) rfl (k := 40) (c := 8) rfl rfl rfl (by decide) hh hcat nL nS (Ck.post (qI_b (fun _ _ _ q => q)) hck)
theorem xX10_refuses {idx i : Nat} {a0 : Int} (hlink : Cond.methodLink Y.1.cls idx yX10_refuses ∈ TW) (hat : At Y pc (.invokevirtual idx) 3 pc') (hh : hX10_refuses + 1 ≤ h) (hcat : (st.map cat).sum ≤ 8) (nL : ls.all nml = true) (nS : st.all nmo = true) (hck : Ck K YX10_refuses hX10_refuses [vr 40 i, vi a0] N g (qI (fun z N' g' => AW K Y h Q pc' ls (vi z :: st) N' g'))) : AW K Y h Q pc ls (vi a0 :: vr 40 i :: st) N g := r_callV (Y' := YX10_refuses) (as := [vi a0]) hat hlink kIX10_refuses kLX10_refuses kCX10_refuses kNX10 (n := 1) (by decide +kernel) rfl (k := 40) (c := 8) rfl rfl rfl (by decide) hh hcat nL nS (Ck.post (qI_b (fun _ _ _ q => q)) hck)
theorem xX10_isFromFor {idx i : Nat} {a0 : Int} {a1 : Int} {a2 : Int} (hlink : Cond.methodLink Y.1.cls idx yX10_isFromFor ∈ TW) (hat : At Y pc (.invokevirtual idx) 3 pc') (hh : hX10_isFromFor + 1 ≤ h) (hcat : (st.map cat).sum ≤ 8) (nL : ls.all nml = true) (nS : st.all nmo = true) (hck : Ck K YX10_isFromFor hX10_isFromFor [vr 40 i, vi a0, vi a1, vi a2] N g (qI (fun z N' g' => AW K Y h Q pc' ls (vi z :: st) N' g'))) : AW K Y h Q pc ls (vi a2 :: vi a1 :: vi a0 :: vr 40 i :: st) N g := r_callV (Y' := YX10_isFromFor) (as := [vi a0, vi a1, vi a2]) hat hlink kIX10_isFromFor kLX10_isFromFor kCX10_isFromFor kNX10 (n := 3) (by decide +kernel) rfl (k := 40) (c := 8) rfl rfl rfl (by decide) hh hcat nL nS (Ck.post (qI_b (fun _ _ _ q => q)) hck)
theorem xX10_bend {idx i : Nat} {a0 : Int} {a1 : Int} {a2 : Int} {a3 : Int} (hlink : Cond.methodLink Y.1.cls idx yX10_bend ∈ TW) (hat : At Y pc (.invokevirtual idx) 3 pc') (hh : hX10_bend + 1 ≤ h) (hcat : (st.map cat).sum ≤ 8) (nL : ls.all nml = true) (nS : st.all nmo = true) (hck : Ck K YX10_bend hX10_bend [vr 40 i, vi a0, vi a1, vi a2, vi a3] N g (qI (fun z N' g' => AW K Y h Q pc' ls (vi z :: st) N' g'))) : AW K Y h Q pc ls (vi a3 :: vi a2 :: vi a1 :: vi a0 :: vr 40 i :: st) N g := r_callV (Y' := YX10_bend) (as := [vi a0, vi a1, vi a2, vi a3]) hat hlink kIX10_bend kLX10_bend kCX10_bend kNX10 (n := 4) (by decide +kernel) rfl (k := 40) (c := 8) rfl rfl rfl (by decide) hh hcat nL nS (Ck.post (qI_b (fun _ _ _ q => q)) hck)
theorem xX10_benefit {idx i : Nat} {a0 : Int} (hlink : Cond.methodLink Y.1.cls idx yX10_benefit ∈ TW) (hat : At Y pc (.invokevirtual idx) 3 pc') (hh : hX10_benefit + 1 ≤ h) (hcat : (st.map cat).sum ≤ 8) (nL : ls.all nml = true) (nS : st.all nmo = true) (hck : Ck K YX10_benefit hX10_benefit [vr 40 i, vi a0] N g (qI (fun z N' g' => AW K Y h Q pc' ls (vi z :: st) N' g'))) : AW K Y h Q pc ls (vi a0 :: vr 40 i :: st) N g := r_callV (Y' := YX10_benefit) (as := [vi a0]) hat hlink kIX10_benefit kLX10_benefit kCX10_benefit kNX10 (n := 1) (by decide +kernel) rfl (k := 40) (c := 8) rfl rfl rfl (by decide) hh hcat nL nS (Ck.post (qI_b (fun _ _ _ q => q)) hck)
theorem xX10_cutDown {idx : Nat} {a0 : Int} {a1 : Int} (hlink : Cond.methodLink Y.1.cls idx yX10_cutDown ∈ TW) (hat : At Y pc (.invokestatic idx) 3 pc') (hh : hX10_cutDown + 1 ≤ h) (hcat : (st.map cat).sum ≤ 8) (nL : ls.all nml = true) (nS : st.all nmo = true) (hck : Ck K YX10_cutDown hX10_cutDown [vl a0, vl a1] N g (qL (fun z N' g' => AW K Y h Q pc' ls (vl z :: st) N' g'))) : AW K Y h Q pc ls (vl a1 :: vl a0 :: st) N g := r_callS (Y' := YX10_cutDown) (as := [vl a0, vl a1]) hat hlink kSX10_cutDown kCX10_cutDown kNX10 (n := 2) (by decide +kernel) rfl (by decide) hh hcat nL nS (Ck.post (qL_b (fun _ _ _ q => q)) hck)
theorem xX10_due {idx i : Nat} {a0 : Int} {a1 : Int} (hlink : Cond.methodLink Y.1.cls idx yX10_due ∈ TW) (hat : At Y pc (.invokevirtual idx) 3 pc') (hh : hX10_due + 1 ≤ h) (hcat : (st.map cat).sum ≤ 8) (nL : ls.all nml = true) (nS : st.all nmo = true) (hck : Ck K YX10_due hX10_due [vr 40 i, vi a0, vi a1] N g (qL (fun z N' g' => AW K Y h Q pc' ls (vl z :: st) N' g'))) : AW K Y h Q pc ls (vi a1 :: vi a0 :: vr 40 i :: st) N g := r_callV (Y' := YX10_due) (as := [vi a0, vi a1]) hat hlink kIX10_due kLX10_due kCX10_due kNX10 (n := 2) (by decide +kernel) rfl (k := 40) (c := 8) rfl rfl rfl (by decide) hh hcat nL nS (Ck.post (qL_b (fun _ _ _ q => q)) hck)
theorem xX10_wagesOf {idx i : Nat} {a0 : Int} (hlink : Cond.methodLink Y.1.cls idx yX10_wagesOf ∈ TW) (hat : At Y pc (.invokevirtual idx) 3 pc') (hh : hX10_wagesOf + 1 ≤ h) (hcat : (st.map cat).sum ≤ 8) (nL : ls.all nml = true) (nS : st.all nmo = true) (hck : Ck K YX10_wagesOf hX10_wagesOf [vr 40 i, vi a0] N g (qI (fun z N' g' => AW K Y h Q pc' ls (vi z :: st) N' g'))) : AW K Y h Q pc ls (vi a0 :: vr 40 i :: st) N g := r_callV (Y' := YX10_wagesOf) (as := [vi a0]) hat hlink kIX10_wagesOf kLX10_wagesOf kCX10_wagesOf kNX10 (n := 1) (by decide +kernel) rfl (k := 40) (c := 8) rfl rfl rfl (by decide) hh hcat nL nS (Ck.post (qI_b (fun _ _ _ q => q)) hck)
theorem xX10_dueBehind {idx i : Nat} {a0 : Int} (hlink : Cond.methodLink Y.1.cls idx yX10_dueBehind ∈ TW) (hat : At Y pc (.invokevirtual idx) 3 pc') (hh : hX10_dueBehind + 1 ≤ h) (hcat : (st.map cat).sum ≤ 8) (nL : ls.all nml = true) (nS : st.all nmo = true) (hck : Ck K YX10_dueBehind hX10_dueBehind [vr 40 i, vi a0] N g (qL (fun z N' g' => AW K Y h Q pc' ls (vl z :: st) N' g'))) : AW K Y h Q pc ls (vi a0 :: vr 40 i :: st) N g := r_callV (Y' := YX10_dueBehind) (as := [vi a0]) hat hlink kIX10_dueBehind kLX10_dueBehind kCX10_dueBehind kNX10 (n := 1) (by decide +kernel) rfl (k := 40) (c := 8) rfl rfl rfl (by decide) hh hcat nL nS (Ck.post (qL_b (fun _ _ _ q => q)) hck)
theorem xX10_paidIn {idx i : Nat} {a0 : Int} (hlink : Cond.methodLink Y.1.cls idx yX10_paidIn ∈ TW) (hat : At Y pc (.invokevirtual idx) 3 pc') (hh : hX10_paidIn + 1 ≤ h) (hcat : (st.map cat).sum ≤ 8) (nL : ls.all nml = true) (nS : st.all nmo = true) (hck : Ck K YX10_paidIn hX10_paidIn [vr 40 i, vi a0] N g (qL (fun z N' g' => AW K Y h Q pc' ls (vl z :: st) N' g'))) : AW K Y h Q pc ls (vi a0 :: vr 40 i :: st) N g := r_callV (Y' := YX10_paidIn) (as := [vi a0]) hat hlink kIX10_paidIn kLX10_paidIn kCX10_paidIn kNX10 (n := 1) (by decide +kernel) rfl (k := 40) (c := 8) rfl rfl rfl (by decide) hh hcat nL nS (Ck.post (qL_b (fun _ _ _ q => q)) hck)
theorem xX10_month {idx i : Nat} {a0 : Int} (hlink : Cond.methodLink Y.1.cls idx yX10_month ∈ TW) (hat : At Y pc (.invokevirtual idx) 3 pc') (hh : hX10_month + 1 ≤ h) (hcat : (st.map cat).sum ≤ 8) (nL : ls.all nml = true) (nS : st.all nmo = true) (hck : Ck K YX10_month hX10_month [vr 40 i, vi a0] N g (qL (fun z N' g' => AW K Y h Q pc' ls (vl z :: st) N' g'))) : AW K Y h Q pc ls (vi a0 :: vr 40 i :: st) N g := r_callV (Y' := YX10_month) (as := [vi a0]) hat hlink kIX10_month kLX10_month kCX10_month kNX10 (n := 1) (by decide +kernel) rfl (k := 40) (c := 8) rfl rfl rfl (by decide) hh hcat nL nS (Ck.post (qL_b (fun _ _ _ q => q)) hck)
theorem xX10_takeBack {idx i : Nat}  (hlink : Cond.methodLink Y.1.cls idx yX10_takeBack ∈ TW) (hat : At Y pc (.invokevirtual idx) 3 pc') (hh : hX10_takeBack + 1 ≤ h) (hcat : (st.map cat).sum ≤ 8) (nL : ls.all nml = true) (nS : st.all nmo = true) (hck : Ck K YX10_takeBack hX10_takeBack [vr 40 i] N g (qI (fun z N' g' => AW K Y h Q pc' ls (vi z :: st) N' g'))) : AW K Y h Q pc ls (vr 40 i :: st) N g := r_callV (Y' := YX10_takeBack) (as := []) hat hlink kIX10_takeBack kLX10_takeBack kCX10_takeBack kNX10 (n := 0) (by decide +kernel) rfl (k := 40) (c := 8) rfl rfl rfl (by decide) hh hcat nL nS (Ck.post (qI_b (fun _ _ _ q => q)) hck)
theorem xX10_year {idx i : Nat} {a0 : Int} {a1 : Int} (hlink : Cond.methodLink Y.1.cls idx yX10_year ∈ TW) (hat : At Y pc (.invokevirtual idx) 3 pc') (hh : hX10_year + 1 ≤ h) (hcat : (st.map cat).sum ≤ 8) (nL : ls.all nml = true) (nS : st.all nmo = true) (hck : Ck K YX10_year hX10_year [vr 40 i, vi a0, vi a1] N g (qL (fun z N' g' => AW K Y h Q pc' ls (vl z :: st) N' g'))) : AW K Y h Q pc ls (vi a1 :: vi a0 :: vr 40 i :: st) N g := r_callV (Y' := YX10_year) (as := [vi a0, vi a1]) hat hlink kIX10_year kLX10_year kCX10_year kNX10 (n := 2) (by decide +kernel) rfl (k := 40) (c := 8) rfl rfl rfl (by decide) hh hcat nL nS (Ck.post (qL_b (fun _ _ _ q => q)) hck)
theorem xX10_sofar {idx i : Nat} {a0 : Int} (hlink : Cond.methodLink Y.1.cls idx yX10_sofar ∈ TW) (hat : At Y pc (.invokevirtual idx) 3 pc') (hh : hX10_sofar + 1 ≤ h) (hcat : (st.map cat).sum ≤ 8) (nL : ls.all nml = true) (nS : st.all nmo = true) (hck : Ck K YX10_sofar hX10_sofar [vr 40 i, vi a0] N g (qL (fun z N' g' => AW K Y h Q pc' ls (vl z :: st) N' g'))) : AW K Y h Q pc ls (vi a0 :: vr 40 i :: st) N g := r_callV (Y' := YX10_sofar) (as := [vi a0]) hat hlink kIX10_sofar kLX10_sofar kCX10_sofar kNX10 (n := 1) (by decide +kernel) rfl (k := 40) (c := 8) rfl rfl rfl (by decide) hh hcat nL nS (Ck.post (qL_b (fun _ _ _ q => q)) hck)
theorem xX10_nextMonth {idx i : Nat} {a0 : Int} (hlink : Cond.methodLink Y.1.cls idx yX10_nextMonth ∈ TW) (hat : At Y pc (.invokevirtual idx) 3 pc') (hh : hX10_nextMonth + 1 ≤ h) (hcat : (st.map cat).sum ≤ 8) (nL : ls.all nml = true) (nS : st.all nmo = true) (hck : Ck K YX10_nextMonth hX10_nextMonth [vr 40 i, vl a0] N g (qI (fun z N' g' => AW K Y h Q pc' ls (vi z :: st) N' g'))) : AW K Y h Q pc ls (vl a0 :: vr 40 i :: st) N g := r_callV (Y' := YX10_nextMonth) (as := [vl a0]) hat hlink kIX10_nextMonth kLX10_nextMonth kCX10_nextMonth kNX10 (n := 1) (by decide +kernel) rfl (k := 40) (c := 8) rfl rfl rfl (by decide) hh hcat nL nS (Ck.post (qI_b (fun _ _ _ q => q)) hck)
theorem xX10_level {idx i : Nat} {a0 : Int} (hlink : Cond.methodLink Y.1.cls idx yX10_level ∈ TW) (hat : At Y pc (.invokevirtual idx) 3 pc') (hh : hX10_level + 1 ≤ h) (hcat : (st.map cat).sum ≤ 8) (nL : ls.all nml = true) (nS : st.all nmo = true) (hck : Ck K YX10_level hX10_level [vr 40 i, vl a0] N g (qI (fun z N' g' => AW K Y h Q pc' ls (vi z :: st) N' g'))) : AW K Y h Q pc ls (vl a0 :: vr 40 i :: st) N g := r_callV (Y' := YX10_level) (as := [vl a0]) hat hlink kIX10_level kLX10_level kCX10_level kNX10 (n := 1) (by decide +kernel) rfl (k := 40) (c := 8) rfl rfl rfl (by decide) hh hcat nL nS (Ck.post (qI_b (fun _ _ _ q => q)) hck)
theorem xX10_dueAhead {idx i : Nat}  (hlink : Cond.methodLink Y.1.cls idx yX10_dueAhead ∈ TW) (hat : At Y pc (.invokevirtual idx) 3 pc') (hh : hX10_dueAhead + 1 ≤ h) (hcat : (st.map cat).sum ≤ 8) (nL : ls.all nml = true) (nS : st.all nmo = true) (hck : Ck K YX10_dueAhead hX10_dueAhead [vr 40 i] N g (qL (fun z N' g' => AW K Y h Q pc' ls (vl z :: st) N' g'))) : AW K Y h Q pc ls (vr 40 i :: st) N g := r_callV (Y' := YX10_dueAhead) (as := []) hat hlink kIX10_dueAhead kLX10_dueAhead kCX10_dueAhead kNX10 (n := 0) (by decide +kernel) rfl (k := 40) (c := 8) rfl rfl rfl (by decide) hh hcat nL nS (Ck.post (qL_b (fun _ _ _ q => q)) hck)
theorem xX10_both {idx i : Nat} {a0 : Int} {a1 : Int} (hlink : Cond.methodLink Y.1.cls idx yX10_both ∈ TW) (hat : At Y pc (.invokevirtual idx) 3 pc') (hh : hX10_both + 1 ≤ h) (hcat : (st.map cat).sum ≤ 8) (nL : ls.all nml = true) (nS : st.all nmo = true) (hck : Ck K YX10_both hX10_both [vr 40 i, vi a0, vi a1] N g (qL (fun z N' g' => AW K Y h Q pc' ls (vl z :: st) N' g'))) : AW K Y h Q pc ls (vi a1 :: vi a0 :: vr 40 i :: st) N g := r_callV (Y' := YX10_both) (as := [vi a0, vi a1]) hat hlink kIX10_both kLX10_both kCX10_both kNX10 (n := 2) (by decide +kernel) rfl (k := 40) (c := 8) rfl rfl rfl (by decide) hh hcat nL nS (Ck.post (qL_b (fun _ _ _ q => q)) hck)
theorem xX10_would {idx i : Nat} {a0 : Int} {a1 : Int} {a2 : Int} {a3 : Int} (hlink : Cond.methodLink Y.1.cls idx yX10_would ∈ TW) (hat : At Y pc (.invokevirtual idx) 3 pc') (hh : hX10_would + 1 ≤ h) (hcat : (st.map cat).sum ≤ 8) (nL : ls.all nml = true) (nS : st.all nmo = true) (hck : Ck K YX10_would hX10_would [vr 40 i, vi a0, vi a1, vi a2, vi a3] N g (qL (fun z N' g' => AW K Y h Q pc' ls (vl z :: st) N' g'))) : AW K Y h Q pc ls (vi a3 :: vi a2 :: vi a1 :: vi a0 :: vr 40 i :: st) N g := r_callV (Y' := YX10_would) (as := [vi a0, vi a1, vi a2, vi a3]) hat hlink kIX10_would kLX10_would kCX10_would kNX10 (n := 4) (by decide +kernel) rfl (k := 40) (c := 8) rfl rfl rfl (by decide) hh hcat nL nS (Ck.post (qL_b (fun _ _ _ q => q)) hck)
theorem xX10_without {idx i : Nat} {a0 : Int} {a1 : Int} (hlink : Cond.methodLink Y.1.cls idx yX10_without ∈ TW) (hat : At Y pc (.invokevirtual idx) 3 pc') (hh : hX10_without + 1 ≤ h) (hcat : (st.map cat).sum ≤ 8) (nL : ls.all nml = true) (nS : st.all nmo = true) (hck : Ck K YX10_without hX10_without [vr 40 i, vi a0, vi a1] N g (qL (fun z N' g' => AW K Y h Q pc' ls (vl z :: st) N' g'))) : AW K Y h Q pc ls (vi a1 :: vi a0 :: vr 40 i :: st) N g := r_callV (Y' := YX10_without) (as := [vi a0, vi a1]) hat hlink kIX10_without kLX10_without kCX10_without kNX10 (n := 2) (by decide +kernel) rfl (k := 40) (c := 8) rfl rfl rfl (by decide) hh hcat nL nS (Ck.post (qL_b (fun _ _ _ q => q)) hck)
theorem xX10_paidWith {idx i : Nat} {a0 : Int} {a1 : Int} {a2 : Int} (hlink : Cond.methodLink Y.1.cls idx yX10_paidWith ∈ TW) (hat : At Y pc (.invokevirtual idx) 3 pc') (hh : hX10_paidWith + 1 ≤ h) (hcat : (st.map cat).sum ≤ 8) (nL : ls.all nml = true) (nS : st.all nmo = true) (hck : Ck K YX10_paidWith hX10_paidWith [vr 40 i, vi a0, vl a1, vi a2] N g (qL (fun z N' g' => AW K Y h Q pc' ls (vl z :: st) N' g'))) : AW K Y h Q pc ls (vi a2 :: vl a1 :: vi a0 :: vr 40 i :: st) N g := r_callV (Y' := YX10_paidWith) (as := [vi a0, vl a1, vi a2]) hat hlink kIX10_paidWith kLX10_paidWith kCX10_paidWith kNX10 (n := 3) (by decide +kernel) rfl (k := 40) (c := 8) rfl rfl rfl (by decide) hh hcat nL nS (Ck.post (qL_b (fun _ _ _ q => q)) hck)
theorem xX10_through {idx i : Nat} {a0 : Int} {a1 : Int} (hlink : Cond.methodLink Y.1.cls idx yX10_through ∈ TW) (hat : At Y pc (.invokevirtual idx) 3 pc') (hh : hX10_through + 1 ≤ h) (hcat : (st.map cat).sum ≤ 8) (nL : ls.all nml = true) (nS : st.all nmo = true) (hck : Ck K YX10_through hX10_through [vr 40 i, vi a0, vi a1] N g (qL (fun z N' g' => AW K Y h Q pc' ls (vl z :: st) N' g'))) : AW K Y h Q pc ls (vi a1 :: vi a0 :: vr 40 i :: st) N g := r_callV (Y' := YX10_through) (as := [vi a0, vi a1]) hat hlink kIX10_through kLX10_through kCX10_through kNX10 (n := 2) (by decide +kernel) rfl (k := 40) (c := 8) rfl rfl rfl (by decide) hh hcat nL nS (Ck.post (qL_b (fun _ _ _ q => q)) hck)
theorem xX10_side {idx : Nat} {a0 : Int} (hlink : Cond.methodLink Y.1.cls idx yX10_side ∈ TW) (hat : At Y pc (.invokestatic idx) 3 pc') (hh : hX10_side + 1 ≤ h) (hcat : (st.map cat).sum ≤ 8) (nL : ls.all nml = true) (nS : st.all nmo = true) (hck : Ck K YX10_side hX10_side [vl a0] N g (qI (fun z N' g' => AW K Y h Q pc' ls (vi z :: st) N' g'))) : AW K Y h Q pc ls (vl a0 :: st) N g := r_callS (Y' := YX10_side) (as := [vl a0]) hat hlink kSX10_side kCX10_side kNX10 (n := 1) (by decide +kernel) rfl (by decide) hh hcat nL nS (Ck.post (qI_b (fun _ _ _ q => q)) hck)
theorem xX10_crossings {idx i : Nat} {a0 : Int} {a1 : Int} {a2 : Int} (hlink : Cond.methodLink Y.1.cls idx yX10_crossings ∈ TW) (hat : At Y pc (.invokevirtual idx) 3 pc') (hh : hX10_crossings + 1 ≤ h) (hcat : (st.map cat).sum ≤ 8) (nL : ls.all nml = true) (nS : st.all nmo = true) (hck : Ck K YX10_crossings hX10_crossings [vr 40 i, vi a0, vi a1, vi a2] N g (qL (fun z N' g' => AW K Y h Q pc' ls (vl z :: st) N' g'))) : AW K Y h Q pc ls (vi a2 :: vi a1 :: vi a0 :: vr 40 i :: st) N g := r_callV (Y' := YX10_crossings) (as := [vi a0, vi a1, vi a2]) hat hlink kIX10_crossings kLX10_crossings kCX10_crossings kNX10 (n := 3) (by decide +kernel) rfl (k := 40) (c := 8) rfl rfl rfl (by decide) hh hcat nL nS (Ck.post (qL_b (fun _ _ _ q => q)) hck)
theorem xX10_kinks {idx i : Nat} {a0 : Int} {a1 : Int} (hlink : Cond.methodLink Y.1.cls idx yX10_kinks ∈ TW) (hat : At Y pc (.invokevirtual idx) 3 pc') (hh : hX10_kinks + 1 ≤ h) (hcat : (st.map cat).sum ≤ 8) (nL : ls.all nml = true) (nS : st.all nmo = true) (hck : Ck K YX10_kinks hX10_kinks [vr 40 i, vi a0, vi a1] N g (qI (fun z N' g' => AW K Y h Q pc' ls (vi z :: st) N' g'))) : AW K Y h Q pc ls (vi a1 :: vi a0 :: vr 40 i :: st) N g := r_callV (Y' := YX10_kinks) (as := [vi a0, vi a1]) hat hlink kIX10_kinks kLX10_kinks kCX10_kinks kNX10 (n := 2) (by decide +kernel) rfl (k := 40) (c := 8) rfl rfl rfl (by decide) hh hcat nL nS (Ck.post (qI_b (fun _ _ _ q => q)) hck)
theorem xX10_until {idx i : Nat} {a0 : Int} {a1 : Int} (hlink : Cond.methodLink Y.1.cls idx yX10_until ∈ TW) (hat : At Y pc (.invokevirtual idx) 3 pc') (hh : hX10_until + 1 ≤ h) (hcat : (st.map cat).sum ≤ 8) (nL : ls.all nml = true) (nS : st.all nmo = true) (hck : Ck K YX10_until hX10_until [vr 40 i, vi a0, vl a1] N g (qI (fun z N' g' => AW K Y h Q pc' ls (vi z :: st) N' g'))) : AW K Y h Q pc ls (vl a1 :: vi a0 :: vr 40 i :: st) N g := r_callV (Y' := YX10_until) (as := [vi a0, vl a1]) hat hlink kIX10_until kLX10_until kCX10_until kNX10 (n := 2) (by decide +kernel) rfl (k := 40) (c := 8) rfl rfl rfl (by decide) hh hcat nL nS (Ck.post (qI_b (fun _ _ _ q => q)) hck)
theorem xX10_free {idx i : Nat} {a0 : Int} (hlink : Cond.methodLink Y.1.cls idx yX10_free ∈ TW) (hat : At Y pc (.invokevirtual idx) 3 pc') (hh : hX10_free + 1 ≤ h) (hcat : (st.map cat).sum ≤ 8) (nL : ls.all nml = true) (nS : st.all nmo = true) (hck : Ck K YX10_free hX10_free [vr 40 i, vi a0] N g (qI (fun z N' g' => AW K Y h Q pc' ls (vi z :: st) N' g'))) : AW K Y h Q pc ls (vi a0 :: vr 40 i :: st) N g := r_callV (Y' := YX10_free) (as := [vi a0]) hat hlink kIX10_free kLX10_free kCX10_free kNX10 (n := 1) (by decide +kernel) rfl (k := 40) (c := 8) rfl rfl rfl (by decide) hh hcat nL nS (Ck.post (qI_b (fun _ _ _ q => q)) hck)
theorem xX10_putIn {idx i : Nat} {a0 : Int} {a1 : Int} {a2 : Int} (hlink : Cond.methodLink Y.1.cls idx yX10_putIn ∈ TW) (hat : At Y pc (.invokevirtual idx) 3 pc') (hh : hX10_putIn + 1 ≤ h) (hcat : (st.map cat).sum ≤ 8) (nL : ls.all nml = true) (nS : st.all nmo = true) (hck : Ck K YX10_putIn hX10_putIn [vr 40 i, vi a0, vi a1, vi a2] N g (qL (fun z N' g' => AW K Y h Q pc' ls (vl z :: st) N' g'))) : AW K Y h Q pc ls (vi a2 :: vi a1 :: vi a0 :: vr 40 i :: st) N g := r_callV (Y' := YX10_putIn) (as := [vi a0, vi a1, vi a2]) hat hlink kIX10_putIn kLX10_putIn kCX10_putIn kNX10 (n := 3) (by decide +kernel) rfl (k := 40) (c := 8) rfl rfl rfl (by decide) hh hcat nL nS (Ck.post (qL_b (fun _ _ _ q => q)) hck)
theorem xX10_kept {idx i : Nat} {a0 : Int} (hlink : Cond.methodLink Y.1.cls idx yX10_kept ∈ TW) (hat : At Y pc (.invokevirtual idx) 3 pc') (hh : hX10_kept + 1 ≤ h) (hcat : (st.map cat).sum ≤ 8) (nL : ls.all nml = true) (nS : st.all nmo = true) (hck : Ck K YX10_kept hX10_kept [vr 40 i, vi a0] N g (qL (fun z N' g' => AW K Y h Q pc' ls (vl z :: st) N' g'))) : AW K Y h Q pc ls (vi a0 :: vr 40 i :: st) N g := r_callV (Y' := YX10_kept) (as := [vi a0]) hat hlink kIX10_kept kLX10_kept kCX10_kept kNX10 (n := 1) (by decide +kernel) rfl (k := 40) (c := 8) rfl rfl rfl (by decide) hh hcat nL nS (Ck.post (qL_b (fun _ _ _ q => q)) hck)
theorem xX10_first {idx i : Nat} {a0 : Int} (hlink : Cond.methodLink Y.1.cls idx yX10_first ∈ TW) (hat : At Y pc (.invokevirtual idx) 3 pc') (hh : hX10_first + 1 ≤ h) (hcat : (st.map cat).sum ≤ 8) (nL : ls.all nml = true) (nS : st.all nmo = true) (hck : Ck K YX10_first hX10_first [vr 40 i, vi a0] N g (qI (fun z N' g' => AW K Y h Q pc' ls (vi z :: st) N' g'))) : AW K Y h Q pc ls (vi a0 :: vr 40 i :: st) N g := r_callV (Y' := YX10_first) (as := [vi a0]) hat hlink kIX10_first kLX10_first kCX10_first kNX10 (n := 1) (by decide +kernel) rfl (k := 40) (c := 8) rfl rfl rfl (by decide) hh hcat nL nS (Ck.post (qI_b (fun _ _ _ q => q)) hck)
theorem xX10_raise {idx i : Nat} {a0 : Int} {a1 : Int} (hlink : Cond.methodLink Y.1.cls idx yX10_raise ∈ TW) (hat : At Y pc (.invokevirtual idx) 3 pc') (hh : hX10_raise + 1 ≤ h) (hcat : (st.map cat).sum ≤ 8) (nL : ls.all nml = true) (nS : st.all nmo = true) (hck : Ck K YX10_raise hX10_raise [vr 40 i, vi a0, vl a1] N g (qI (fun z N' g' => AW K Y h Q pc' ls (vi z :: st) N' g'))) : AW K Y h Q pc ls (vl a1 :: vi a0 :: vr 40 i :: st) N g := r_callV (Y' := YX10_raise) (as := [vi a0, vl a1]) hat hlink kIX10_raise kLX10_raise kCX10_raise kNX10 (n := 2) (by decide +kernel) rfl (k := 40) (c := 8) rfl rfl rfl (by decide) hh hcat nL nS (Ck.post (qI_b (fun _ _ _ q => q)) hck)
theorem xX10_over {idx i : Nat} {a0 : Int} {a1 : Int} {a2 : Int} (hlink : Cond.methodLink Y.1.cls idx yX10_over ∈ TW) (hat : At Y pc (.invokevirtual idx) 3 pc') (hh : hX10_over + 1 ≤ h) (hcat : (st.map cat).sum ≤ 8) (nL : ls.all nml = true) (nS : st.all nmo = true) (hck : Ck K YX10_over hX10_over [vr 40 i, vi a0, vi a1, vi a2] N g (qI (fun z N' g' => AW K Y h Q pc' ls (vi z :: st) N' g'))) : AW K Y h Q pc ls (vi a2 :: vi a1 :: vi a0 :: vr 40 i :: st) N g := r_callV (Y' := YX10_over) (as := [vi a0, vi a1, vi a2]) hat hlink kIX10_over kLX10_over kCX10_over kNX10 (n := 3) (by decide +kernel) rfl (k := 40) (c := 8) rfl rfl rfl (by decide) hh hcat nL nS (Ck.post (qI_b (fun _ _ _ q => q)) hck)
theorem xX10_inKind {idx i : Nat} {a0 : Int} {a1 : Int} (hlink : Cond.methodLink Y.1.cls idx yX10_inKind ∈ TW) (hat : At Y pc (.invokevirtual idx) 3 pc') (hh : hX10_inKind + 1 ≤ h) (hcat : (st.map cat).sum ≤ 8) (nL : ls.all nml = true) (nS : st.all nmo = true) (hck : Ck K YX10_inKind hX10_inKind [vr 40 i, vl a0, vi a1] N g (qI (fun z N' g' => AW K Y h Q pc' ls (vi z :: st) N' g'))) : AW K Y h Q pc ls (vi a1 :: vl a0 :: vr 40 i :: st) N g := r_callV (Y' := YX10_inKind) (as := [vl a0, vi a1]) hat hlink kIX10_inKind kLX10_inKind kCX10_inKind kNX10 (n := 2) (by decide +kernel) rfl (k := 40) (c := 8) rfl rfl rfl (by decide) hh hcat nL nS (Ck.post (qI_b (fun _ _ _ q => q)) hck)
theorem xX10_says {idx i : Nat} {a0 : Int} (hlink : Cond.methodLink Y.1.cls idx yX10_says ∈ TW) (hat : At Y pc (.invokevirtual idx) 3 pc') (hh : hX10_says + 1 ≤ h) (hcat : (st.map cat).sum ≤ 8) (nL : ls.all nml = true) (nS : st.all nmo = true) (hck : Ck K YX10_says hX10_says [vr 40 i, vi a0] N g (qV (fun N' g' => AW K Y h Q pc' ls st N' g'))) : AW K Y h Q pc ls (vi a0 :: vr 40 i :: st) N g := r_callV (Y' := YX10_says) (as := [vi a0]) hat hlink kIX10_says kLX10_says kCX10_says kNX10 (n := 1) (by decide +kernel) rfl (k := 40) (c := 8) rfl rfl rfl (by decide) hh hcat nL nS (Ck.post (qV_b (fun _ _ q => q)) hck)
theorem xX10_saysNumber {idx i : Nat} {a0 : Int} (hlink : Cond.methodLink Y.1.cls idx yX10_saysNumber ∈ TW) (hat : At Y pc (.invokevirtual idx) 3 pc') (hh : hX10_saysNumber + 1 ≤ h) (hcat : (st.map cat).sum ≤ 8) (nL : ls.all nml = true) (nS : st.all nmo = true) (hck : Ck K YX10_saysNumber hX10_saysNumber [vr 40 i, vi a0] N g (qV (fun N' g' => AW K Y h Q pc' ls st N' g'))) : AW K Y h Q pc ls (vi a0 :: vr 40 i :: st) N g := r_callV (Y' := YX10_saysNumber) (as := [vi a0]) hat hlink kIX10_saysNumber kLX10_saysNumber kCX10_saysNumber kNX10 (n := 1) (by decide +kernel) rfl (k := 40) (c := 8) rfl rfl rfl (by decide) hh hcat nL nS (Ck.post (qV_b (fun _ _ q => q)) hck)
theorem xX10_saysSum {idx i : Nat} {a0 : Int} (hlink : Cond.methodLink Y.1.cls idx yX10_saysSum ∈ TW) (hat : At Y pc (.invokevirtual idx) 3 pc') (hh : hX10_saysSum + 1 ≤ h) (hcat : (st.map cat).sum ≤ 8) (nL : ls.all nml = true) (nS : st.all nmo = true) (hck : Ck K YX10_saysSum hX10_saysSum [vr 40 i, vi a0] N g (qV (fun N' g' => AW K Y h Q pc' ls st N' g'))) : AW K Y h Q pc ls (vi a0 :: vr 40 i :: st) N g := r_callV (Y' := YX10_saysSum) (as := [vi a0]) hat hlink kIX10_saysSum kLX10_saysSum kCX10_saysSum kNX10 (n := 1) (by decide +kernel) rfl (k := 40) (c := 8) rfl rfl rfl (by decide) hh hcat nL nS (Ck.post (qV_b (fun _ _ q => q)) hck)
theorem xX10_spells {idx i : Nat} {a0 : Int} (hlink : Cond.methodLink Y.1.cls idx yX10_spells ∈ TW) (hat : At Y pc (.invokevirtual idx) 3 pc') (hh : hX10_spells + 1 ≤ h) (hcat : (st.map cat).sum ≤ 8) (nL : ls.all nml = true) (nS : st.all nmo = true) (hck : Ck K YX10_spells hX10_spells [vr 40 i, vi a0] N g (qV (fun N' g' => AW K Y h Q pc' ls st N' g'))) : AW K Y h Q pc ls (vi a0 :: vr 40 i :: st) N g := r_callV (Y' := YX10_spells) (as := [vi a0]) hat hlink kIX10_spells kLX10_spells kCX10_spells kNX10 (n := 1) (by decide +kernel) rfl (k := 40) (c := 8) rfl rfl rfl (by decide) hh hcat nL nS (Ck.post (qV_b (fun _ _ q => q)) hck)
theorem xX10_spell {idx i : Nat} {a0 : Int} {a1 : Int} (hlink : Cond.methodLink Y.1.cls idx yX10_spell ∈ TW) (hat : At Y pc (.invokevirtual idx) 3 pc') (hh : hX10_spell + 1 ≤ h) (hcat : (st.map cat).sum ≤ 8) (nL : ls.all nml = true) (nS : st.all nmo = true) (hck : Ck K YX10_spell hX10_spell [vr 40 i, vi a0, vi a1] N g (qI (fun z N' g' => AW K Y h Q pc' ls (vi z :: st) N' g'))) : AW K Y h Q pc ls (vi a1 :: vi a0 :: vr 40 i :: st) N g := r_callV (Y' := YX10_spell) (as := [vi a0, vi a1]) hat hlink kIX10_spell kLX10_spell kCX10_spell kNX10 (n := 2) (by decide +kernel) rfl (k := 40) (c := 8) rfl rfl rfl (by decide) hh hcat nL nS (Ck.post (qI_b (fun _ _ _ q => q)) hck)
theorem xX10_status {idx i : Nat} {a0 : Int} (hlink : Cond.methodLink Y.1.cls idx yX10_status ∈ TW) (hat : At Y pc (.invokevirtual idx) 3 pc') (hh : hX10_status + 1 ≤ h) (hcat : (st.map cat).sum ≤ 8) (nL : ls.all nml = true) (nS : st.all nmo = true) (hck : Ck K YX10_status hX10_status [vr 40 i, vi a0] N g (qI (fun z N' g' => AW K Y h Q pc' ls (vi z :: st) N' g'))) : AW K Y h Q pc ls (vi a0 :: vr 40 i :: st) N g := r_callV (Y' := YX10_status) (as := [vi a0]) hat hlink kIX10_status kLX10_status kCX10_status kNX10 (n := 1) (by decide +kernel) rfl (k := 40) (c := 8) rfl rfl rfl (by decide) hh hcat nL nS (Ck.post (qI_b (fun _ _ _ q => q)) hck)
theorem xX10_firstWith {idx i : Nat} {a0 : Int} (hlink : Cond.methodLink Y.1.cls idx yX10_firstWith ∈ TW) (hat : At Y pc (.invokevirtual idx) 3 pc') (hh : hX10_firstWith + 1 ≤ h) (hcat : (st.map cat).sum ≤ 8) (nL : ls.all nml = true) (nS : st.all nmo = true) (hck : Ck K YX10_firstWith hX10_firstWith [vr 40 i, vl a0] N g (qI (fun z N' g' => AW K Y h Q pc' ls (vi z :: st) N' g'))) : AW K Y h Q pc ls (vl a0 :: vr 40 i :: st) N g := r_callV (Y' := YX10_firstWith) (as := [vl a0]) hat hlink kIX10_firstWith kLX10_firstWith kCX10_firstWith kNX10 (n := 1) (by decide +kernel) rfl (k := 40) (c := 8) rfl rfl rfl (by decide) hh hcat nL nS (Ck.post (qI_b (fun _ _ _ q => q)) hck)
theorem xX10_extreme {idx i : Nat} {a0 : Int} (hlink : Cond.methodLink Y.1.cls idx yX10_extreme ∈ TW) (hat : At Y pc (.invokevirtual idx) 3 pc') (hh : hX10_extreme + 1 ≤ h) (hcat : (st.map cat).sum ≤ 8) (nL : ls.all nml = true) (nS : st.all nmo = true) (hck : Ck K YX10_extreme hX10_extreme [vr 40 i, vi a0] N g (qL (fun z N' g' => AW K Y h Q pc' ls (vl z :: st) N' g'))) : AW K Y h Q pc ls (vi a0 :: vr 40 i :: st) N g := r_callV (Y' := YX10_extreme) (as := [vi a0]) hat hlink kIX10_extreme kLX10_extreme kCX10_extreme kNX10 (n := 1) (by decide +kernel) rfl (k := 40) (c := 8) rfl rfl rfl (by decide) hh hcat nL nS (Ck.post (qL_b (fun _ _ _ q => q)) hck)
theorem xX10_steepest {idx i : Nat}  (hlink : Cond.methodLink Y.1.cls idx yX10_steepest ∈ TW) (hat : At Y pc (.invokevirtual idx) 3 pc') (hh : hX10_steepest + 1 ≤ h) (hcat : (st.map cat).sum ≤ 8) (nL : ls.all nml = true) (nS : st.all nmo = true) (hck : Ck K YX10_steepest hX10_steepest [vr 40 i] N g (qI (fun z N' g' => AW K Y h Q pc' ls (vi z :: st) N' g'))) : AW K Y h Q pc ls (vr 40 i :: st) N g := r_callV (Y' := YX10_steepest) (as := []) hat hlink kIX10_steepest kLX10_steepest kCX10_steepest kNX10 (n := 0) (by decide +kernel) rfl (k := 40) (c := 8) rfl rfl rfl (by decide) hh hcat nL nS (Ck.post (qI_b (fun _ _ _ q => q)) hck)
theorem xX10_flatOnes {idx i : Nat}  (hlink : Cond.methodLink Y.1.cls idx yX10_flatOnes ∈ TW) (hat : At Y pc (.invokevirtual idx) 3 pc') (hh : hX10_flatOnes + 1 ≤ h) (hcat : (st.map cat).sum ≤ 8) (nL : ls.all nml = true) (nS : st.all nmo = true) (hck : Ck K YX10_flatOnes hX10_flatOnes [vr 40 i] N g (qI (fun z N' g' => AW K Y h Q pc' ls (vi z :: st) N' g'))) : AW K Y h Q pc ls (vr 40 i :: st) N g := r_callV (Y' := YX10_flatOnes) (as := []) hat hlink kIX10_flatOnes kLX10_flatOnes kCX10_flatOnes kNX10 (n := 0) (by decide +kernel) rfl (k := 40) (c := 8) rfl rfl rfl (by decide) hh hcat nL nS (Ck.post (qI_b (fun _ _ _ q => q)) hck)
theorem xX10_traps {idx i : Nat} {a0 : Int} (hlink : Cond.methodLink Y.1.cls idx yX10_traps ∈ TW) (hat : At Y pc (.invokevirtual idx) 3 pc') (hh : hX10_traps + 1 ≤ h) (hcat : (st.map cat).sum ≤ 8) (nL : ls.all nml = true) (nS : st.all nmo = true) (hck : Ck K YX10_traps hX10_traps [vr 40 i, vi a0] N g (qI (fun z N' g' => AW K Y h Q pc' ls (vi z :: st) N' g'))) : AW K Y h Q pc ls (vi a0 :: vr 40 i :: st) N g := r_callV (Y' := YX10_traps) (as := [vi a0]) hat hlink kIX10_traps kLX10_traps kCX10_traps kNX10 (n := 1) (by decide +kernel) rfl (k := 40) (c := 8) rfl rfl rfl (by decide) hh hcat nL nS (Ck.post (qI_b (fun _ _ _ q => q)) hck)
theorem xX10_widest {idx i : Nat}  (hlink : Cond.methodLink Y.1.cls idx yX10_widest ∈ TW) (hat : At Y pc (.invokevirtual idx) 3 pc') (hh : hX10_widest + 1 ≤ h) (hcat : (st.map cat).sum ≤ 8) (nL : ls.all nml = true) (nS : st.all nmo = true) (hck : Ck K YX10_widest hX10_widest [vr 40 i] N g (qI (fun z N' g' => AW K Y h Q pc' ls (vi z :: st) N' g'))) : AW K Y h Q pc ls (vr 40 i :: st) N g := r_callV (Y' := YX10_widest) (as := []) hat hlink kIX10_widest kLX10_widest kCX10_widest kNX10 (n := 0) (by decide +kernel) rfl (k := 40) (c := 8) rfl rfl rfl (by decide) hh hcat nL nS (Ck.post (qI_b (fun _ _ _ q => q)) hck)
theorem xX10_most {idx i : Nat} {a0 : Int} (hlink : Cond.methodLink Y.1.cls idx yX10_most ∈ TW) (hat : At Y pc (.invokevirtual idx) 3 pc') (hh : hX10_most + 1 ≤ h) (hcat : (st.map cat).sum ≤ 8) (nL : ls.all nml = true) (nS : st.all nmo = true) (hck : Ck K YX10_most hX10_most [vr 40 i, vi a0] N g (qL (fun z N' g' => AW K Y h Q pc' ls (vl z :: st) N' g'))) : AW K Y h Q pc ls (vi a0 :: vr 40 i :: st) N g := r_callV (Y' := YX10_most) (as := [vi a0]) hat hlink kIX10_most kLX10_most kCX10_most kNX10 (n := 1) (by decide +kernel) rfl (k := 40) (c := 8) rfl rfl rfl (by decide) hh hcat nL nS (Ck.post (qL_b (fun _ _ _ q => q)) hck)
theorem xX10_count {idx i : Nat} {a0 : Int} (hlink : Cond.methodLink Y.1.cls idx yX10_count ∈ TW) (hat : At Y pc (.invokevirtual idx) 3 pc') (hh : hX10_count + 1 ≤ h) (hcat : (st.map cat).sum ≤ 8) (nL : ls.all nml = true) (nS : st.all nmo = true) (hck : Ck K YX10_count hX10_count [vr 40 i, vi a0] N g (qI (fun z N' g' => AW K Y h Q pc' ls (vi z :: st) N' g'))) : AW K Y h Q pc ls (vi a0 :: vr 40 i :: st) N g := r_callV (Y' := YX10_count) (as := [vi a0]) hat hlink kIX10_count kLX10_count kCX10_count kNX10 (n := 1) (by decide +kernel) rfl (k := 40) (c := 8) rfl rfl rfl (by decide) hh hcat nL nS (Ck.post (qI_b (fun _ _ _ q => q)) hck)
theorem xJxe99ae_isNaN_b9ae7 {idx : Nat} {a0 : UInt64} (hlink : Cond.methodLink Y.1.cls idx yJxe99ae_isNaN_b9ae7 ∈ TW) (hat : At Y pc (.invokestatic idx) 3 pc') (hh : hJxe99ae_isNaN_b9ae7 + 1 ≤ h) (hcat : (st.map cat).sum ≤ 8) (nL : ls.all nml = true) (nS : st.all nmo = true) (hck : Ck K YJxe99ae_isNaN_b9ae7 hJxe99ae_isNaN_b9ae7 [vd a0] N g (qI (fun z N' g' => AW K Y h Q pc' ls (vi z :: st) N' g'))) : AW K Y h Q pc ls (vd a0 :: st) N g := r_callS (Y' := YJxe99ae_isNaN_b9ae7) (as := [vd a0]) hat hlink kSJxe99ae_isNaN_b9ae7 kCJxe99ae_isNaN_b9ae7 kNJxe99ae (n := 1) (by decide +kernel) rfl (by decide) hh hcat nL nS (Ck.post (qI_b (fun _ _ _ q => q)) hck)
theorem xJxe99ae_doubleToLongBits_ccdee {idx : Nat} {a0 : UInt64} (hlink : Cond.methodLink Y.1.cls idx yJxe99ae_doubleToLongBits_ccdee ∈ TW) (hat : At Y pc (.invokestatic idx) 3 pc') (hh : hJxe99ae_doubleToLongBits_ccdee + 1 ≤ h) (hcat : (st.map cat).sum ≤ 8) (nL : ls.all nml = true) (nS : st.all nmo = true) (hck : Ck K YJxe99ae_doubleToLongBits_ccdee hJxe99ae_doubleToLongBits_ccdee [vd a0] N g (qL (fun z N' g' => AW K Y h Q pc' ls (vl z :: st) N' g'))) : AW K Y h Q pc ls (vd a0 :: st) N g := r_callS (Y' := YJxe99ae_doubleToLongBits_ccdee) (as := [vd a0]) hat hlink kSJxe99ae_doubleToLongBits_ccdee kCJxe99ae_doubleToLongBits_ccdee kNJxe99ae (n := 1) (by decide +kernel) rfl (by decide) hh hcat nL nS (Ck.post (qL_b (fun _ _ _ q => q)) hck)
theorem xJxf58ca_isNaN_12338 {idx : Nat} {a0 : UInt32} (hlink : Cond.methodLink Y.1.cls idx yJxf58ca_isNaN_12338 ∈ TW) (hat : At Y pc (.invokestatic idx) 3 pc') (hh : hJxf58ca_isNaN_12338 + 1 ≤ h) (hcat : (st.map cat).sum ≤ 8) (nL : ls.all nml = true) (nS : st.all nmo = true) (hck : Ck K YJxf58ca_isNaN_12338 hJxf58ca_isNaN_12338 [vf a0] N g (qI (fun z N' g' => AW K Y h Q pc' ls (vi z :: st) N' g'))) : AW K Y h Q pc ls (vf a0 :: st) N g := r_callS (Y' := YJxf58ca_isNaN_12338) (as := [vf a0]) hat hlink kSJxf58ca_isNaN_12338 kCJxf58ca_isNaN_12338 kNJxf58ca (n := 1) (by decide +kernel) rfl (by decide) hh hcat nL nS (Ck.post (qI_b (fun _ _ _ q => q)) hck)
theorem xJxf58ca_floatToIntBits_5c35a {idx : Nat} {a0 : UInt32} (hlink : Cond.methodLink Y.1.cls idx yJxf58ca_floatToIntBits_5c35a ∈ TW) (hat : At Y pc (.invokestatic idx) 3 pc') (hh : hJxf58ca_floatToIntBits_5c35a + 1 ≤ h) (hcat : (st.map cat).sum ≤ 8) (nL : ls.all nml = true) (nS : st.all nmo = true) (hck : Ck K YJxf58ca_floatToIntBits_5c35a hJxf58ca_floatToIntBits_5c35a [vf a0] N g (qI (fun z N' g' => AW K Y h Q pc' ls (vi z :: st) N' g'))) : AW K Y h Q pc ls (vf a0 :: st) N g := r_callS (Y' := YJxf58ca_floatToIntBits_5c35a) (as := [vf a0]) hat hlink kSJxf58ca_floatToIntBits_5c35a kCJxf58ca_floatToIntBits_5c35a kNJxf58ca (n := 1) (by decide +kernel) rfl (by decide) hh hcat nL nS (Ck.post (qI_b (fun _ _ _ q => q)) hck)
theorem xJ13_signum_95d88 {idx : Nat} {a0 : Int} (hlink : Cond.methodLink Y.1.cls idx yJ13_signum_95d88 ∈ TW) (hat : At Y pc (.invokestatic idx) 3 pc') (hh : hJ13_signum_95d88 + 1 ≤ h) (hcat : (st.map cat).sum ≤ 8) (nL : ls.all nml = true) (nS : st.all nmo = true) (hck : Ck K YJ13_signum_95d88 hJ13_signum_95d88 [vl a0] N g (qI (fun z N' g' => AW K Y h Q pc' ls (vi z :: st) N' g'))) : AW K Y h Q pc ls (vl a0 :: st) N g := r_callS (Y' := YJ13_signum_95d88) (as := [vl a0]) hat hlink kSJ13_signum_95d88 kCJ13_signum_95d88 kNJ13 (n := 1) (by decide +kernel) rfl (by decide) hh hcat nL nS (Ck.post (qI_b (fun _ _ _ q => q)) hck)
theorem xJ9_floorDiv_f86c9 {idx : Nat} {a0 : Int} {a1 : Int} (hlink : Cond.methodLink Y.1.cls idx yJ9_floorDiv_f86c9 ∈ TW) (hat : At Y pc (.invokestatic idx) 3 pc') (hh : hJ9_floorDiv_f86c9 + 1 ≤ h) (hcat : (st.map cat).sum ≤ 8) (nL : ls.all nml = true) (nS : st.all nmo = true) (hck : Ck K YJ9_floorDiv_f86c9 hJ9_floorDiv_f86c9 [vl a0, vl a1] N g (qL (fun z N' g' => AW K Y h Q pc' ls (vl z :: st) N' g'))) : AW K Y h Q pc ls (vl a1 :: vl a0 :: st) N g := r_callS (Y' := YJ9_floorDiv_f86c9) (as := [vl a0, vl a1]) hat hlink kSJ9_floorDiv_f86c9 kCJ9_floorDiv_f86c9 kNJ9 (n := 2) (by decide +kernel) rfl (by decide) hh hcat nL nS (Ck.post (qL_b (fun _ _ _ q => q)) hck)
theorem xJ9_abs_067f4 {idx : Nat} {a0 : Int} (hlink : Cond.methodLink Y.1.cls idx yJ9_abs_067f4 ∈ TW) (hat : At Y pc (.invokestatic idx) 3 pc') (hh : hJ9_abs_067f4 + 1 ≤ h) (hcat : (st.map cat).sum ≤ 8) (nL : ls.all nml = true) (nS : st.all nmo = true) (hck : Ck K YJ9_abs_067f4 hJ9_abs_067f4 [vl a0] N g (qL (fun z N' g' => AW K Y h Q pc' ls (vl z :: st) N' g'))) : AW K Y h Q pc ls (vl a0 :: st) N g := r_callS (Y' := YJ9_abs_067f4) (as := [vl a0]) hat hlink kSJ9_abs_067f4 kCJ9_abs_067f4 kNJ9 (n := 1) (by decide +kernel) rfl (by decide) hh hcat nL nS (Ck.post (qL_b (fun _ _ _ q => q)) hck)
theorem xJ9_max_7cf53 {idx : Nat} {a0 : Int} {a1 : Int} (hlink : Cond.methodLink Y.1.cls idx yJ9_max_7cf53 ∈ TW) (hat : At Y pc (.invokestatic idx) 3 pc') (hh : hJ9_max_7cf53 + 1 ≤ h) (hcat : (st.map cat).sum ≤ 8) (nL : ls.all nml = true) (nS : st.all nmo = true) (hck : Ck K YJ9_max_7cf53 hJ9_max_7cf53 [vi a0, vi a1] N g (qI (fun z N' g' => AW K Y h Q pc' ls (vi z :: st) N' g'))) : AW K Y h Q pc ls (vi a1 :: vi a0 :: st) N g := r_callS (Y' := YJ9_max_7cf53) (as := [vi a0, vi a1]) hat hlink kSJ9_max_7cf53 kCJ9_max_7cf53 kNJ9 (n := 2) (by decide +kernel) rfl (by decide) hh hcat nL nS (Ck.post (qI_b (fun _ _ _ q => q)) hck)
theorem xJ9_max_f86c9 {idx : Nat} {a0 : Int} {a1 : Int} (hlink : Cond.methodLink Y.1.cls idx yJ9_max_f86c9 ∈ TW) (hat : At Y pc (.invokestatic idx) 3 pc') (hh : hJ9_max_f86c9 + 1 ≤ h) (hcat : (st.map cat).sum ≤ 8) (nL : ls.all nml = true) (nS : st.all nmo = true) (hck : Ck K YJ9_max_f86c9 hJ9_max_f86c9 [vl a0, vl a1] N g (qL (fun z N' g' => AW K Y h Q pc' ls (vl z :: st) N' g'))) : AW K Y h Q pc ls (vl a1 :: vl a0 :: st) N g := r_callS (Y' := YJ9_max_f86c9) (as := [vl a0, vl a1]) hat hlink kSJ9_max_f86c9 kCJ9_max_f86c9 kNJ9 (n := 2) (by decide +kernel) rfl (by decide) hh hcat nL nS (Ck.post (qL_b (fun _ _ _ q => q)) hck)
theorem xJ9_min_7cf53 {idx : Nat} {a0 : Int} {a1 : Int} (hlink : Cond.methodLink Y.1.cls idx yJ9_min_7cf53 ∈ TW) (hat : At Y pc (.invokestatic idx) 3 pc') (hh : hJ9_min_7cf53 + 1 ≤ h) (hcat : (st.map cat).sum ≤ 8) (nL : ls.all nml = true) (nS : st.all nmo = true) (hck : Ck K YJ9_min_7cf53 hJ9_min_7cf53 [vi a0, vi a1] N g (qI (fun z N' g' => AW K Y h Q pc' ls (vi z :: st) N' g'))) : AW K Y h Q pc ls (vi a1 :: vi a0 :: st) N g := r_callS (Y' := YJ9_min_7cf53) (as := [vi a0, vi a1]) hat hlink kSJ9_min_7cf53 kCJ9_min_7cf53 kNJ9 (n := 2) (by decide +kernel) rfl (by decide) hh hcat nL nS (Ck.post (qI_b (fun _ _ _ q => q)) hck)
theorem xJ9_min_f86c9 {idx : Nat} {a0 : Int} {a1 : Int} (hlink : Cond.methodLink Y.1.cls idx yJ9_min_f86c9 ∈ TW) (hat : At Y pc (.invokestatic idx) 3 pc') (hh : hJ9_min_f86c9 + 1 ≤ h) (hcat : (st.map cat).sum ≤ 8) (nL : ls.all nml = true) (nS : st.all nmo = true) (hck : Ck K YJ9_min_f86c9 hJ9_min_f86c9 [vl a0, vl a1] N g (qL (fun z N' g' => AW K Y h Q pc' ls (vl z :: st) N' g'))) : AW K Y h Q pc ls (vl a1 :: vl a0 :: st) N g := r_callS (Y' := YJ9_min_f86c9) (as := [vl a0, vl a1]) hat hlink kSJ9_min_f86c9 kCJ9_min_f86c9 kNJ9 (n := 2) (by decide +kernel) rfl (by decide) hh hcat nL nS (Ck.post (qL_b (fun _ _ _ q => q)) hck)
theorem xJ7_fill_53178 {idx : Nat} {k0 a0 : Nat} {a1 : Int} (hlink : Cond.methodLink Y.1.cls idx yJ7_fill_53178 ∈ TW) (hat : At Y pc (.invokestatic idx) 3 pc') (hh : hJ7_fill_53178 + 1 ≤ h) (hcat : (st.map cat).sum ≤ 8) (nL : ls.all nml = true) (nS : st.all nmo = true) (hck : Ck K YJ7_fill_53178 hJ7_fill_53178 [vr k0 a0, vi a1] N g (qV (fun N' g' => AW K Y h Q pc' ls st N' g'))) : AW K Y h Q pc ls (vi a1 :: vr k0 a0 :: st) N g := r_callS (Y' := YJ7_fill_53178) (as := [vr k0 a0, vi a1]) hat hlink kSJ7_fill_53178 kCJ7_fill_53178 kNJ7 (n := 2) (by decide +kernel) rfl (by decide) hh hcat nL nS (Ck.post (qV_b (fun _ _ q => q)) hck)
theorem xJ7_copyOf_59c91 {idx : Nat} {k0 a0 : Nat} {a1 : Int} (hlink : Cond.methodLink Y.1.cls idx yJ7_copyOf_59c91 ∈ TW) (hat : At Y pc (.invokestatic idx) 3 pc') (hh : hJ7_copyOf_59c91 + 1 ≤ h) (hcat : (st.map cat).sum ≤ 8) (nL : ls.all nml = true) (nS : st.all nmo = true) (hck : Ck K YJ7_copyOf_59c91 hJ7_copyOf_59c91 [vr k0 a0, vi a1] N g (qR (fun k i N' g' => AW K Y h Q pc' ls (vr k i :: st) N' g'))) : AW K Y h Q pc ls (vi a1 :: vr k0 a0 :: st) N g := r_callS (Y' := YJ7_copyOf_59c91) (as := [vr k0 a0, vi a1]) hat hlink kSJ7_copyOf_59c91 kCJ7_copyOf_59c91 kNJ7 (n := 2) (by decide +kernel) rfl (by decide) hh hcat nL nS (Ck.post (qR_b (fun _ _ _ _ q => q)) hck)
theorem xJ7_copyOf_c38d5 {idx : Nat} {k0 a0 : Nat} {a1 : Int} (hlink : Cond.methodLink Y.1.cls idx yJ7_copyOf_c38d5 ∈ TW) (hat : At Y pc (.invokestatic idx) 3 pc') (hh : hJ7_copyOf_c38d5 + 1 ≤ h) (hcat : (st.map cat).sum ≤ 8) (nL : ls.all nml = true) (nS : st.all nmo = true) (hck : Ck K YJ7_copyOf_c38d5 hJ7_copyOf_c38d5 [vr k0 a0, vi a1] N g (qR (fun k i N' g' => AW K Y h Q pc' ls (vr k i :: st) N' g'))) : AW K Y h Q pc ls (vi a1 :: vr k0 a0 :: st) N g := r_callS (Y' := YJ7_copyOf_c38d5) (as := [vr k0 a0, vi a1]) hat hlink kSJ7_copyOf_c38d5 kCJ7_copyOf_c38d5 kNJ7 (n := 2) (by decide +kernel) rfl (by decide) hh hcat nL nS (Ck.post (qR_b (fun _ _ _ _ q => q)) hck)
end Calls9
end
