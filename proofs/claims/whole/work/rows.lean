section
-- ===== PART A: goes FIRST, ahead of the names: the tables' words, and 'selects' of the private methods out of them =====
/-- a private method of a class that the tables say can be made, by its rows of tables_1 -/
def lw_okq (q : MethodName × Nat) : Prop := (q.1.cls ≠ "java/lang/invoke/MethodHandle" ∧ q.1.cls ≠ "java/lang/invoke/VarHandle") ∧ Cond.instantiable q.1.cls q.2 ∈ tables_1 ∧ Cond.privateMethod q.1 ∈ tables_1 ∧ Cond.instanceMethod q.1 ∈ tables_1
theorem lw_p0 : lw_okq (⟨"ObjectLinks$Linker", "addressOf", "(LObjectLinks$Meaning;)I"⟩, 18) := ⟨⟨by decide +kernel, by decide +kernel⟩, List.mem_of_getElem? (i := 32) (by decide +kernel), List.mem_of_getElem? (i := 210) (by decide +kernel), List.mem_of_getElem? (i := 211) (by decide +kernel)⟩
theorem lw_p1 : lw_okq (⟨"ObjectLinks", "countOfLatest", "(I)I"⟩, 4) := ⟨⟨by decide +kernel, by decide +kernel⟩, List.mem_of_getElem? (i := 22) (by decide +kernel), List.mem_of_getElem? (i := 218) (by decide +kernel), List.mem_of_getElem? (i := 219) (by decide +kernel)⟩
theorem lw_p2 : lw_okq (⟨"ObjectLinks", "unitOrNull", "(I)LObjectLinks$Unit;"⟩, 4) := ⟨⟨by decide +kernel, by decide +kernel⟩, List.mem_of_getElem? (i := 22) (by decide +kernel), List.mem_of_getElem? (i := 222) (by decide +kernel), List.mem_of_getElem? (i := 223) (by decide +kernel)⟩
theorem lw_p3 : lw_okq (⟨"java/lang/Throwable", "fillInStackTrace", "(I)Ljava/lang/Throwable;"⟩, 6) := ⟨⟨by decide +kernel, by decide +kernel⟩, List.mem_of_getElem? (i := 273) (by decide +kernel), List.mem_of_getElem? (i := 271) (by decide +kernel), List.mem_of_getElem? (i := 272) (by decide +kernel)⟩
theorem lw_p4 : lw_okq (⟨"ObjectLinks", "keep", "(LObjectLinks$Unit;)I"⟩, 4) := ⟨⟨by decide +kernel, by decide +kernel⟩, List.mem_of_getElem? (i := 22) (by decide +kernel), List.mem_of_getElem? (i := 348) (by decide +kernel), List.mem_of_getElem? (i := 349) (by decide +kernel)⟩
theorem lw_p5 : lw_okq (⟨"ObjectLinks", "known", "(I)LObjectLinks$Unit;"⟩, 4) := ⟨⟨by decide +kernel, by decide +kernel⟩, List.mem_of_getElem? (i := 22) (by decide +kernel), List.mem_of_getElem? (i := 361) (by decide +kernel), List.mem_of_getElem? (i := 362) (by decide +kernel)⟩
theorem lw_p6 : lw_okq (⟨"ObjectLinks$Unit", "sortCanBe", "(III)Z"⟩, 6) := ⟨⟨by decide +kernel, by decide +kernel⟩, List.mem_of_getElem? (i := 302) (by decide +kernel), List.mem_of_getElem? (i := 470) (by decide +kernel), List.mem_of_getElem? (i := 471) (by decide +kernel)⟩
theorem lw_p7 : lw_okq (⟨"ObjectLinks$Unit", "hasName", "(I)Z"⟩, 6) := ⟨⟨by decide +kernel, by decide +kernel⟩, List.mem_of_getElem? (i := 302) (by decide +kernel), List.mem_of_getElem? (i := 480) (by decide +kernel), List.mem_of_getElem? (i := 481) (by decide +kernel)⟩
theorem lw_p8 : lw_okq (⟨"ObjectLinks$Linker", "forget", "()V"⟩, 18) := ⟨⟨by decide +kernel, by decide +kernel⟩, List.mem_of_getElem? (i := 32) (by decide +kernel), List.mem_of_getElem? (i := 615) (by decide +kernel), List.mem_of_getElem? (i := 616) (by decide +kernel)⟩
theorem lw_p9 : lw_okq (⟨"ObjectLinks$Linker", "dropImage", "()V"⟩, 18) := ⟨⟨by decide +kernel, by decide +kernel⟩, List.mem_of_getElem? (i := 32) (by decide +kernel), List.mem_of_getElem? (i := 619) (by decide +kernel), List.mem_of_getElem? (i := 620) (by decide +kernel)⟩
theorem lw_p10 : lw_okq (⟨"ObjectLinks$Linker", "tell", "(III)Z"⟩, 18) := ⟨⟨by decide +kernel, by decide +kernel⟩, List.mem_of_getElem? (i := 32) (by decide +kernel), List.mem_of_getElem? (i := 623) (by decide +kernel), List.mem_of_getElem? (i := 624) (by decide +kernel)⟩
theorem lw_p11 : lw_okq (⟨"ObjectLinks$Linker", "gatherNames", "()Z"⟩, 18) := ⟨⟨by decide +kernel, by decide +kernel⟩, List.mem_of_getElem? (i := 32) (by decide +kernel), List.mem_of_getElem? (i := 631) (by decide +kernel), List.mem_of_getElem? (i := 632) (by decide +kernel)⟩
theorem lw_p12 : lw_okq (⟨"ObjectLinks$NameTable", "findOrBegin", "(I)LObjectLinks$Meaning;"⟩, 5) := ⟨⟨by decide +kernel, by decide +kernel⟩, List.mem_of_getElem? (i := 39) (by decide +kernel), List.mem_of_getElem? (i := 639) (by decide +kernel), List.mem_of_getElem? (i := 640) (by decide +kernel)⟩
theorem lw_p13 : lw_okq (⟨"ObjectLinks$NameTable", "enterCommon", "(LObjectLinks$Meaning;LObjectLinks$Name;)V"⟩, 5) := ⟨⟨by decide +kernel, by decide +kernel⟩, List.mem_of_getElem? (i := 39) (by decide +kernel), List.mem_of_getElem? (i := 655) (by decide +kernel), List.mem_of_getElem? (i := 656) (by decide +kernel)⟩
theorem lw_p14 : lw_okq (⟨"ObjectLinks$Linker", "reachFrom", "(I)Z"⟩, 18) := ⟨⟨by decide +kernel, by decide +kernel⟩, List.mem_of_getElem? (i := 32) (by decide +kernel), List.mem_of_getElem? (i := 666) (by decide +kernel), List.mem_of_getElem? (i := 667) (by decide +kernel)⟩
theorem lw_p15 : lw_okq (⟨"ObjectLinks$Linker", "reach", "(LObjectLinks$Meaning;)V"⟩, 18) := ⟨⟨by decide +kernel, by decide +kernel⟩, List.mem_of_getElem? (i := 32) (by decide +kernel), List.mem_of_getElem? (i := 670) (by decide +kernel), List.mem_of_getElem? (i := 671) (by decide +kernel)⟩
def lw_privs_1 : List (MethodName × Nat) := [(⟨"ObjectLinks$Linker", "addressOf", "(LObjectLinks$Meaning;)I"⟩, 18), (⟨"ObjectLinks", "countOfLatest", "(I)I"⟩, 4), (⟨"ObjectLinks", "unitOrNull", "(I)LObjectLinks$Unit;"⟩, 4), (⟨"java/lang/Throwable", "fillInStackTrace", "(I)Ljava/lang/Throwable;"⟩, 6), (⟨"ObjectLinks", "keep", "(LObjectLinks$Unit;)I"⟩, 4), (⟨"ObjectLinks", "known", "(I)LObjectLinks$Unit;"⟩, 4), (⟨"ObjectLinks$Unit", "sortCanBe", "(III)Z"⟩, 6), (⟨"ObjectLinks$Unit", "hasName", "(I)Z"⟩, 6), (⟨"ObjectLinks$Linker", "forget", "()V"⟩, 18), (⟨"ObjectLinks$Linker", "dropImage", "()V"⟩, 18), (⟨"ObjectLinks$Linker", "tell", "(III)Z"⟩, 18), (⟨"ObjectLinks$Linker", "gatherNames", "()Z"⟩, 18), (⟨"ObjectLinks$NameTable", "findOrBegin", "(I)LObjectLinks$Meaning;"⟩, 5), (⟨"ObjectLinks$NameTable", "enterCommon", "(LObjectLinks$Meaning;LObjectLinks$Name;)V"⟩, 5), (⟨"ObjectLinks$Linker", "reachFrom", "(I)Z"⟩, 18), (⟨"ObjectLinks$Linker", "reach", "(LObjectLinks$Meaning;)V"⟩, 18)]
theorem lw_r1 : ∀ q ∈ lw_privs_1, lw_okq q := List.forall_mem_cons.mpr ⟨lw_p0, List.forall_mem_cons.mpr ⟨lw_p1, List.forall_mem_cons.mpr ⟨lw_p2, List.forall_mem_cons.mpr ⟨lw_p3, List.forall_mem_cons.mpr ⟨lw_p4, List.forall_mem_cons.mpr ⟨lw_p5, List.forall_mem_cons.mpr ⟨lw_p6, List.forall_mem_cons.mpr ⟨lw_p7, List.forall_mem_cons.mpr ⟨lw_p8, List.forall_mem_cons.mpr ⟨lw_p9, List.forall_mem_cons.mpr ⟨lw_p10, List.forall_mem_cons.mpr ⟨lw_p11, List.forall_mem_cons.mpr ⟨lw_p12, List.forall_mem_cons.mpr ⟨lw_p13, List.forall_mem_cons.mpr ⟨lw_p14, List.forall_mem_cons.mpr ⟨lw_p15, fun _ h => absurd h List.not_mem_nil⟩⟩⟩⟩⟩⟩⟩⟩⟩⟩⟩⟩⟩⟩⟩⟩
theorem lw_p16 : lw_okq (⟨"ObjectLinks$Linker", "reachFromSection", "(II)V"⟩, 18) := ⟨⟨by decide +kernel, by decide +kernel⟩, List.mem_of_getElem? (i := 32) (by decide +kernel), List.mem_of_getElem? (i := 674) (by decide +kernel), List.mem_of_getElem? (i := 675) (by decide +kernel)⟩
theorem lw_p17 : lw_okq (⟨"ObjectLinks$Linker", "nothingIsMissing", "()Z"⟩, 18) := ⟨⟨by decide +kernel, by decide +kernel⟩, List.mem_of_getElem? (i := 32) (by decide +kernel), List.mem_of_getElem? (i := 682) (by decide +kernel), List.mem_of_getElem? (i := 683) (by decide +kernel)⟩
theorem lw_p18 : lw_okq (⟨"ObjectLinks$Linker", "layOut", "()Z"⟩, 18) := ⟨⟨by decide +kernel, by decide +kernel⟩, List.mem_of_getElem? (i := 32) (by decide +kernel), List.mem_of_getElem? (i := 687) (by decide +kernel), List.mem_of_getElem? (i := 688) (by decide +kernel)⟩
theorem lw_p19 : lw_okq (⟨"ObjectLinks$Linker", "layOutKind", "(II)V"⟩, 18) := ⟨⟨by decide +kernel, by decide +kernel⟩, List.mem_of_getElem? (i := 32) (by decide +kernel), List.mem_of_getElem? (i := 691) (by decide +kernel), List.mem_of_getElem? (i := 692) (by decide +kernel)⟩
theorem lw_p20 : lw_okq (⟨"ObjectLinks$Linker", "nextPlace", "(II)I"⟩, 18) := ⟨⟨by decide +kernel, by decide +kernel⟩, List.mem_of_getElem? (i := 32) (by decide +kernel), List.mem_of_getElem? (i := 695) (by decide +kernel), List.mem_of_getElem? (i := 696) (by decide +kernel)⟩
theorem lw_p21 : lw_okq (⟨"ObjectLinks$Linker", "layOutCommons", "()V"⟩, 18) := ⟨⟨by decide +kernel, by decide +kernel⟩, List.mem_of_getElem? (i := 32) (by decide +kernel), List.mem_of_getElem? (i := 699) (by decide +kernel), List.mem_of_getElem? (i := 700) (by decide +kernel)⟩
theorem lw_p22 : lw_okq (⟨"ObjectLinks$Linker", "copyBytes", "()V"⟩, 18) := ⟨⟨by decide +kernel, by decide +kernel⟩, List.mem_of_getElem? (i := 32) (by decide +kernel), List.mem_of_getElem? (i := 703) (by decide +kernel), List.mem_of_getElem? (i := 704) (by decide +kernel)⟩
theorem lw_p23 : lw_okq (⟨"ObjectLinks$Linker", "workIn", "()Z"⟩, 18) := ⟨⟨by decide +kernel, by decide +kernel⟩, List.mem_of_getElem? (i := 32) (by decide +kernel), List.mem_of_getElem? (i := 710) (by decide +kernel), List.mem_of_getElem? (i := 711) (by decide +kernel)⟩
theorem lw_p24 : lw_okq (⟨"ObjectLinks$Linker", "workInOne", "(ILObjectLinks$Reference;)I"⟩, 18) := ⟨⟨by decide +kernel, by decide +kernel⟩, List.mem_of_getElem? (i := 32) (by decide +kernel), List.mem_of_getElem? (i := 714) (by decide +kernel), List.mem_of_getElem? (i := 715) (by decide +kernel)⟩
theorem lw_p25 : lw_okq (⟨"ObjectLinks$Linker", "putInto", "(IIJ)V"⟩, 18) := ⟨⟨by decide +kernel, by decide +kernel⟩, List.mem_of_getElem? (i := 32) (by decide +kernel), List.mem_of_getElem? (i := 732) (by decide +kernel), List.mem_of_getElem? (i := 733) (by decide +kernel)⟩
theorem lw_p26 : lw_okq (⟨"ObjectLinks$Octets", "put", "(II)V"⟩, 2) := ⟨⟨by decide +kernel, by decide +kernel⟩, List.mem_of_getElem? (i := 170) (by decide +kernel), List.mem_of_getElem? (i := 777) (by decide +kernel), List.mem_of_getElem? (i := 778) (by decide +kernel)⟩
theorem lw_p27 : lw_okq (⟨"ObjectLinks$Octets", "putSection", "(LObjectLinks$Section;)V"⟩, 2) := ⟨⟨by decide +kernel, by decide +kernel⟩, List.mem_of_getElem? (i := 170) (by decide +kernel), List.mem_of_getElem? (i := 781) (by decide +kernel), List.mem_of_getElem? (i := 782) (by decide +kernel)⟩
theorem lw_p28 : lw_okq (⟨"ObjectLinks$Octets", "putName", "(LObjectLinks$Name;)V"⟩, 2) := ⟨⟨by decide +kernel, by decide +kernel⟩, List.mem_of_getElem? (i := 170) (by decide +kernel), List.mem_of_getElem? (i := 785) (by decide +kernel), List.mem_of_getElem? (i := 786) (by decide +kernel)⟩
theorem lw_p29 : lw_okq (⟨"ObjectLinks$Octets", "putReference", "(LObjectLinks$Reference;)V"⟩, 2) := ⟨⟨by decide +kernel, by decide +kernel⟩, List.mem_of_getElem? (i := 170) (by decide +kernel), List.mem_of_getElem? (i := 789) (by decide +kernel), List.mem_of_getElem? (i := 790) (by decide +kernel)⟩
theorem lw_p30 : lw_okq (⟨"ObjectLinks$Reader", "take", "(I)I"⟩, 4) := ⟨⟨by decide +kernel, by decide +kernel⟩, List.mem_of_getElem? (i := 821) (by decide +kernel), List.mem_of_getElem? (i := 844) (by decide +kernel), List.mem_of_getElem? (i := 845) (by decide +kernel)⟩
theorem lw_p31 : lw_okq (⟨"ObjectLinks$Reader", "sumIsRight", "()Z"⟩, 4) := ⟨⟨by decide +kernel, by decide +kernel⟩, List.mem_of_getElem? (i := 821) (by decide +kernel), List.mem_of_getElem? (i := 848) (by decide +kernel), List.mem_of_getElem? (i := 849) (by decide +kernel)⟩
def lw_privs_2 : List (MethodName × Nat) := [(⟨"ObjectLinks$Linker", "reachFromSection", "(II)V"⟩, 18), (⟨"ObjectLinks$Linker", "nothingIsMissing", "()Z"⟩, 18), (⟨"ObjectLinks$Linker", "layOut", "()Z"⟩, 18), (⟨"ObjectLinks$Linker", "layOutKind", "(II)V"⟩, 18), (⟨"ObjectLinks$Linker", "nextPlace", "(II)I"⟩, 18), (⟨"ObjectLinks$Linker", "layOutCommons", "()V"⟩, 18), (⟨"ObjectLinks$Linker", "copyBytes", "()V"⟩, 18), (⟨"ObjectLinks$Linker", "workIn", "()Z"⟩, 18), (⟨"ObjectLinks$Linker", "workInOne", "(ILObjectLinks$Reference;)I"⟩, 18), (⟨"ObjectLinks$Linker", "putInto", "(IIJ)V"⟩, 18), (⟨"ObjectLinks$Octets", "put", "(II)V"⟩, 2), (⟨"ObjectLinks$Octets", "putSection", "(LObjectLinks$Section;)V"⟩, 2), (⟨"ObjectLinks$Octets", "putName", "(LObjectLinks$Name;)V"⟩, 2), (⟨"ObjectLinks$Octets", "putReference", "(LObjectLinks$Reference;)V"⟩, 2), (⟨"ObjectLinks$Reader", "take", "(I)I"⟩, 4), (⟨"ObjectLinks$Reader", "sumIsRight", "()Z"⟩, 4)]
theorem lw_r2 : ∀ q ∈ lw_privs_2, lw_okq q := List.forall_mem_cons.mpr ⟨lw_p16, List.forall_mem_cons.mpr ⟨lw_p17, List.forall_mem_cons.mpr ⟨lw_p18, List.forall_mem_cons.mpr ⟨lw_p19, List.forall_mem_cons.mpr ⟨lw_p20, List.forall_mem_cons.mpr ⟨lw_p21, List.forall_mem_cons.mpr ⟨lw_p22, List.forall_mem_cons.mpr ⟨lw_p23, List.forall_mem_cons.mpr ⟨lw_p24, List.forall_mem_cons.mpr ⟨lw_p25, List.forall_mem_cons.mpr ⟨lw_p26, List.forall_mem_cons.mpr ⟨lw_p27, List.forall_mem_cons.mpr ⟨lw_p28, List.forall_mem_cons.mpr ⟨lw_p29, List.forall_mem_cons.mpr ⟨lw_p30, List.forall_mem_cons.mpr ⟨lw_p31, fun _ h => absurd h List.not_mem_nil⟩⟩⟩⟩⟩⟩⟩⟩⟩⟩⟩⟩⟩⟩⟩⟩
theorem lw_p32 : lw_okq (⟨"ObjectLinks$Reader", "takeSections", "(LObjectLinks$Unit;I)Z"⟩, 4) := ⟨⟨by decide +kernel, by decide +kernel⟩, List.mem_of_getElem? (i := 821) (by decide +kernel), List.mem_of_getElem? (i := 855) (by decide +kernel), List.mem_of_getElem? (i := 856) (by decide +kernel)⟩
theorem lw_p33 : lw_okq (⟨"ObjectLinks$Reader", "takeNames", "(LObjectLinks$Unit;I)Z"⟩, 4) := ⟨⟨by decide +kernel, by decide +kernel⟩, List.mem_of_getElem? (i := 821) (by decide +kernel), List.mem_of_getElem? (i := 863) (by decide +kernel), List.mem_of_getElem? (i := 864) (by decide +kernel)⟩
theorem lw_p34 : lw_okq (⟨"ObjectLinks$Reader", "takeReferences", "(LObjectLinks$Unit;I)Z"⟩, 4) := ⟨⟨by decide +kernel, by decide +kernel⟩, List.mem_of_getElem? (i := 821) (by decide +kernel), List.mem_of_getElem? (i := 871) (by decide +kernel), List.mem_of_getElem? (i := 872) (by decide +kernel)⟩
theorem lw_p35 : lw_okq (⟨"ObjectLinksModel", "fail", "(I)I"⟩, 42) := ⟨⟨by decide +kernel, by decide +kernel⟩, List.mem_of_getElem? (i := 880) (by decide +kernel), List.mem_of_getElem? (i := 1021) (by decide +kernel), List.mem_of_getElem? (i := 1022) (by decide +kernel)⟩
theorem lw_p36 : lw_okq (⟨"ObjectLinksModel", "emptyObject", "(I)V"⟩, 42) := ⟨⟨by decide +kernel, by decide +kernel⟩, List.mem_of_getElem? (i := 880) (by decide +kernel), List.mem_of_getElem? (i := 1025) (by decide +kernel), List.mem_of_getElem? (i := 1026) (by decide +kernel)⟩
theorem lw_p37 : lw_okq (⟨"ObjectLinksModel", "isObject", "(I)Z"⟩, 42) := ⟨⟨by decide +kernel, by decide +kernel⟩, List.mem_of_getElem? (i := 880) (by decide +kernel), List.mem_of_getElem? (i := 1033) (by decide +kernel), List.mem_of_getElem? (i := 1034) (by decide +kernel)⟩
theorem lw_p38 : lw_okq (⟨"ObjectLinksModel", "addSection", "(IIII)V"⟩, 42) := ⟨⟨by decide +kernel, by decide +kernel⟩, List.mem_of_getElem? (i := 880) (by decide +kernel), List.mem_of_getElem? (i := 1043) (by decide +kernel), List.mem_of_getElem? (i := 1044) (by decide +kernel)⟩
theorem lw_p39 : lw_okq (⟨"ObjectLinksModel", "hasSection", "(II)Z"⟩, 42) := ⟨⟨by decide +kernel, by decide +kernel⟩, List.mem_of_getElem? (i := 880) (by decide +kernel), List.mem_of_getElem? (i := 1051) (by decide +kernel), List.mem_of_getElem? (i := 1052) (by decide +kernel)⟩
theorem lw_p40 : lw_okq (⟨"ObjectLinksModel", "isName", "(IIIII)Z"⟩, 42) := ⟨⟨by decide +kernel, by decide +kernel⟩, List.mem_of_getElem? (i := 880) (by decide +kernel), List.mem_of_getElem? (i := 1059) (by decide +kernel), List.mem_of_getElem? (i := 1060) (by decide +kernel)⟩
theorem lw_p41 : lw_okq (⟨"ObjectLinksModel", "hasName", "(II)Z"⟩, 42) := ⟨⟨by decide +kernel, by decide +kernel⟩, List.mem_of_getElem? (i := 880) (by decide +kernel), List.mem_of_getElem? (i := 1063) (by decide +kernel), List.mem_of_getElem? (i := 1064) (by decide +kernel)⟩
theorem lw_p42 : lw_okq (⟨"ObjectLinksModel", "addName", "(IIIII)V"⟩, 42) := ⟨⟨by decide +kernel, by decide +kernel⟩, List.mem_of_getElem? (i := 880) (by decide +kernel), List.mem_of_getElem? (i := 1067) (by decide +kernel), List.mem_of_getElem? (i := 1068) (by decide +kernel)⟩
theorem lw_p43 : lw_okq (⟨"ObjectLinksModel", "isReference", "(IIIII)Z"⟩, 42) := ⟨⟨by decide +kernel, by decide +kernel⟩, List.mem_of_getElem? (i := 880) (by decide +kernel), List.mem_of_getElem? (i := 1075) (by decide +kernel), List.mem_of_getElem? (i := 1076) (by decide +kernel)⟩
theorem lw_p44 : lw_okq (⟨"ObjectLinksModel", "addReference", "(IIIIII)V"⟩, 42) := ⟨⟨by decide +kernel, by decide +kernel⟩, List.mem_of_getElem? (i := 880) (by decide +kernel), List.mem_of_getElem? (i := 1079) (by decide +kernel), List.mem_of_getElem? (i := 1080) (by decide +kernel)⟩
theorem lw_p45 : lw_okq (⟨"ObjectLinksModel", "findDoubled", "()V"⟩, 42) := ⟨⟨by decide +kernel, by decide +kernel⟩, List.mem_of_getElem? (i := 880) (by decide +kernel), List.mem_of_getElem? (i := 1092) (by decide +kernel), List.mem_of_getElem? (i := 1093) (by decide +kernel)⟩
theorem lw_p46 : lw_okq (⟨"ObjectLinksModel", "firstOf", "(II)I"⟩, 42) := ⟨⟨by decide +kernel, by decide +kernel⟩, List.mem_of_getElem? (i := 880) (by decide +kernel), List.mem_of_getElem? (i := 1096) (by decide +kernel), List.mem_of_getElem? (i := 1097) (by decide +kernel)⟩
theorem lw_p47 : lw_okq (⟨"ObjectLinksModel", "tell", "(III)V"⟩, 42) := ⟨⟨by decide +kernel, by decide +kernel⟩, List.mem_of_getElem? (i := 880) (by decide +kernel), List.mem_of_getElem? (i := 1100) (by decide +kernel), List.mem_of_getElem? (i := 1101) (by decide +kernel)⟩
def lw_privs_3 : List (MethodName × Nat) := [(⟨"ObjectLinks$Reader", "takeSections", "(LObjectLinks$Unit;I)Z"⟩, 4), (⟨"ObjectLinks$Reader", "takeNames", "(LObjectLinks$Unit;I)Z"⟩, 4), (⟨"ObjectLinks$Reader", "takeReferences", "(LObjectLinks$Unit;I)Z"⟩, 4), (⟨"ObjectLinksModel", "fail", "(I)I"⟩, 42), (⟨"ObjectLinksModel", "emptyObject", "(I)V"⟩, 42), (⟨"ObjectLinksModel", "isObject", "(I)Z"⟩, 42), (⟨"ObjectLinksModel", "addSection", "(IIII)V"⟩, 42), (⟨"ObjectLinksModel", "hasSection", "(II)Z"⟩, 42), (⟨"ObjectLinksModel", "isName", "(IIIII)Z"⟩, 42), (⟨"ObjectLinksModel", "hasName", "(II)Z"⟩, 42), (⟨"ObjectLinksModel", "addName", "(IIIII)V"⟩, 42), (⟨"ObjectLinksModel", "isReference", "(IIIII)Z"⟩, 42), (⟨"ObjectLinksModel", "addReference", "(IIIIII)V"⟩, 42), (⟨"ObjectLinksModel", "findDoubled", "()V"⟩, 42), (⟨"ObjectLinksModel", "firstOf", "(II)I"⟩, 42), (⟨"ObjectLinksModel", "tell", "(III)V"⟩, 42)]
theorem lw_r3 : ∀ q ∈ lw_privs_3, lw_okq q := List.forall_mem_cons.mpr ⟨lw_p32, List.forall_mem_cons.mpr ⟨lw_p33, List.forall_mem_cons.mpr ⟨lw_p34, List.forall_mem_cons.mpr ⟨lw_p35, List.forall_mem_cons.mpr ⟨lw_p36, List.forall_mem_cons.mpr ⟨lw_p37, List.forall_mem_cons.mpr ⟨lw_p38, List.forall_mem_cons.mpr ⟨lw_p39, List.forall_mem_cons.mpr ⟨lw_p40, List.forall_mem_cons.mpr ⟨lw_p41, List.forall_mem_cons.mpr ⟨lw_p42, List.forall_mem_cons.mpr ⟨lw_p43, List.forall_mem_cons.mpr ⟨lw_p44, List.forall_mem_cons.mpr ⟨lw_p45, List.forall_mem_cons.mpr ⟨lw_p46, List.forall_mem_cons.mpr ⟨lw_p47, fun _ h => absurd h List.not_mem_nil⟩⟩⟩⟩⟩⟩⟩⟩⟩⟩⟩⟩⟩⟩⟩⟩
theorem lw_p48 : lw_okq (⟨"ObjectLinksModel", "findReached", "(I)V"⟩, 42) := ⟨⟨by decide +kernel, by decide +kernel⟩, List.mem_of_getElem? (i := 880) (by decide +kernel), List.mem_of_getElem? (i := 1104) (by decide +kernel), List.mem_of_getElem? (i := 1105) (by decide +kernel)⟩
theorem lw_p49 : lw_okq (⟨"ObjectLinksModel", "meaning", "(I)I"⟩, 42) := ⟨⟨by decide +kernel, by decide +kernel⟩, List.mem_of_getElem? (i := 880) (by decide +kernel), List.mem_of_getElem? (i := 1108) (by decide +kernel), List.mem_of_getElem? (i := 1109) (by decide +kernel)⟩
theorem lw_p50 : lw_okq (⟨"ObjectLinksModel", "reach", "(I)Z"⟩, 42) := ⟨⟨by decide +kernel, by decide +kernel⟩, List.mem_of_getElem? (i := 880) (by decide +kernel), List.mem_of_getElem? (i := 1112) (by decide +kernel), List.mem_of_getElem? (i := 1113) (by decide +kernel)⟩
theorem lw_p51 : lw_okq (⟨"ObjectLinksModel", "isWorked", "(II)Z"⟩, 42) := ⟨⟨by decide +kernel, by decide +kernel⟩, List.mem_of_getElem? (i := 880) (by decide +kernel), List.mem_of_getElem? (i := 1116) (by decide +kernel), List.mem_of_getElem? (i := 1117) (by decide +kernel)⟩
theorem lw_p52 : lw_okq (⟨"ObjectLinksModel", "meaningOf", "(II)I"⟩, 42) := ⟨⟨by decide +kernel, by decide +kernel⟩, List.mem_of_getElem? (i := 880) (by decide +kernel), List.mem_of_getElem? (i := 1120) (by decide +kernel), List.mem_of_getElem? (i := 1121) (by decide +kernel)⟩
theorem lw_p53 : lw_okq (⟨"ObjectLinksModel", "order", "()V"⟩, 42) := ⟨⟨by decide +kernel, by decide +kernel⟩, List.mem_of_getElem? (i := 880) (by decide +kernel), List.mem_of_getElem? (i := 1124) (by decide +kernel), List.mem_of_getElem? (i := 1125) (by decide +kernel)⟩
theorem lw_p54 : lw_okq (⟨"ObjectLinksModel", "next", "(I)I"⟩, 42) := ⟨⟨by decide +kernel, by decide +kernel⟩, List.mem_of_getElem? (i := 880) (by decide +kernel), List.mem_of_getElem? (i := 1128) (by decide +kernel), List.mem_of_getElem? (i := 1129) (by decide +kernel)⟩
theorem lw_p55 : lw_okq (⟨"ObjectLinksModel", "greatest", "(IZ)I"⟩, 42) := ⟨⟨by decide +kernel, by decide +kernel⟩, List.mem_of_getElem? (i := 880) (by decide +kernel), List.mem_of_getElem? (i := 1132) (by decide +kernel), List.mem_of_getElem? (i := 1133) (by decide +kernel)⟩
theorem lw_p56 : lw_okq (⟨"ObjectLinksModel", "copySections", "()V"⟩, 42) := ⟨⟨by decide +kernel, by decide +kernel⟩, List.mem_of_getElem? (i := 880) (by decide +kernel), List.mem_of_getElem? (i := 1136) (by decide +kernel), List.mem_of_getElem? (i := 1137) (by decide +kernel)⟩
theorem lw_p57 : lw_okq (⟨"ObjectLinksModel", "workIn", "(II)V"⟩, 42) := ⟨⟨by decide +kernel, by decide +kernel⟩, List.mem_of_getElem? (i := 880) (by decide +kernel), List.mem_of_getElem? (i := 1140) (by decide +kernel), List.mem_of_getElem? (i := 1141) (by decide +kernel)⟩
theorem lw_p58 : lw_okq (⟨"ObjectLinksModel", "placeOfMeaning", "(I)I"⟩, 42) := ⟨⟨by decide +kernel, by decide +kernel⟩, List.mem_of_getElem? (i := 880) (by decide +kernel), List.mem_of_getElem? (i := 1144) (by decide +kernel), List.mem_of_getElem? (i := 1145) (by decide +kernel)⟩
theorem lw_p59 : lw_okq (⟨"ObjectLinksModel", "put", "(IJI)V"⟩, 42) := ⟨⟨by decide +kernel, by decide +kernel⟩, List.mem_of_getElem? (i := 880) (by decide +kernel), List.mem_of_getElem? (i := 1148) (by decide +kernel), List.mem_of_getElem? (i := 1149) (by decide +kernel)⟩
theorem lw_p60 : lw_okq (⟨"ObjectLinksModel", "know", "()V"⟩, 42) := ⟨⟨by decide +kernel, by decide +kernel⟩, List.mem_of_getElem? (i := 880) (by decide +kernel), List.mem_of_getElem? (i := 1163) (by decide +kernel), List.mem_of_getElem? (i := 1164) (by decide +kernel)⟩
theorem lw_p61 : lw_okq (⟨"ObjectLinksModel", "noImage", "()V"⟩, 42) := ⟨⟨by decide +kernel, by decide +kernel⟩, List.mem_of_getElem? (i := 880) (by decide +kernel), List.mem_of_getElem? (i := 1167) (by decide +kernel), List.mem_of_getElem? (i := 1168) (by decide +kernel)⟩
theorem lw_p62 : lw_okq (⟨"ObjectLinksModel", "say", "(II)V"⟩, 42) := ⟨⟨by decide +kernel, by decide +kernel⟩, List.mem_of_getElem? (i := 880) (by decide +kernel), List.mem_of_getElem? (i := 1191) (by decide +kernel), List.mem_of_getElem? (i := 1192) (by decide +kernel)⟩
theorem lw_p63 : lw_okq (⟨"ObjectLinksModel", "sumOf", "(I)I"⟩, 42) := ⟨⟨by decide +kernel, by decide +kernel⟩, List.mem_of_getElem? (i := 880) (by decide +kernel), List.mem_of_getElem? (i := 1195) (by decide +kernel), List.mem_of_getElem? (i := 1196) (by decide +kernel)⟩
def lw_privs_4 : List (MethodName × Nat) := [(⟨"ObjectLinksModel", "findReached", "(I)V"⟩, 42), (⟨"ObjectLinksModel", "meaning", "(I)I"⟩, 42), (⟨"ObjectLinksModel", "reach", "(I)Z"⟩, 42), (⟨"ObjectLinksModel", "isWorked", "(II)Z"⟩, 42), (⟨"ObjectLinksModel", "meaningOf", "(II)I"⟩, 42), (⟨"ObjectLinksModel", "order", "()V"⟩, 42), (⟨"ObjectLinksModel", "next", "(I)I"⟩, 42), (⟨"ObjectLinksModel", "greatest", "(IZ)I"⟩, 42), (⟨"ObjectLinksModel", "copySections", "()V"⟩, 42), (⟨"ObjectLinksModel", "workIn", "(II)V"⟩, 42), (⟨"ObjectLinksModel", "placeOfMeaning", "(I)I"⟩, 42), (⟨"ObjectLinksModel", "put", "(IJI)V"⟩, 42), (⟨"ObjectLinksModel", "know", "()V"⟩, 42), (⟨"ObjectLinksModel", "noImage", "()V"⟩, 42), (⟨"ObjectLinksModel", "say", "(II)V"⟩, 42), (⟨"ObjectLinksModel", "sumOf", "(I)I"⟩, 42)]
theorem lw_r4 : ∀ q ∈ lw_privs_4, lw_okq q := List.forall_mem_cons.mpr ⟨lw_p48, List.forall_mem_cons.mpr ⟨lw_p49, List.forall_mem_cons.mpr ⟨lw_p50, List.forall_mem_cons.mpr ⟨lw_p51, List.forall_mem_cons.mpr ⟨lw_p52, List.forall_mem_cons.mpr ⟨lw_p53, List.forall_mem_cons.mpr ⟨lw_p54, List.forall_mem_cons.mpr ⟨lw_p55, List.forall_mem_cons.mpr ⟨lw_p56, List.forall_mem_cons.mpr ⟨lw_p57, List.forall_mem_cons.mpr ⟨lw_p58, List.forall_mem_cons.mpr ⟨lw_p59, List.forall_mem_cons.mpr ⟨lw_p60, List.forall_mem_cons.mpr ⟨lw_p61, List.forall_mem_cons.mpr ⟨lw_p62, List.forall_mem_cons.mpr ⟨lw_p63, fun _ h => absurd h List.not_mem_nil⟩⟩⟩⟩⟩⟩⟩⟩⟩⟩⟩⟩⟩⟩⟩⟩
theorem lw_p64 : lw_okq (⟨"ObjectLinksModel", "fill", "(II)V"⟩, 42) := ⟨⟨by decide +kernel, by decide +kernel⟩, List.mem_of_getElem? (i := 880) (by decide +kernel), List.mem_of_getElem? (i := 1212) (by decide +kernel), List.mem_of_getElem? (i := 1213) (by decide +kernel)⟩
theorem lw_p65 : lw_okq (⟨"ObjectLinksModel", "take", "(II)I"⟩, 42) := ⟨⟨by decide +kernel, by decide +kernel⟩, List.mem_of_getElem? (i := 880) (by decide +kernel), List.mem_of_getElem? (i := 1216) (by decide +kernel), List.mem_of_getElem? (i := 1217) (by decide +kernel)⟩
theorem lw_p66 : lw_okq (⟨"ObjectLinksModel", "need", "(Z)V"⟩, 42) := ⟨⟨by decide +kernel, by decide +kernel⟩, List.mem_of_getElem? (i := 880) (by decide +kernel), List.mem_of_getElem? (i := 1220) (by decide +kernel), List.mem_of_getElem? (i := 1221) (by decide +kernel)⟩
def lw_privs_5 : List (MethodName × Nat) := [(⟨"ObjectLinksModel", "fill", "(II)V"⟩, 42), (⟨"ObjectLinksModel", "take", "(II)I"⟩, 42), (⟨"ObjectLinksModel", "need", "(Z)V"⟩, 42)]
theorem lw_r5 : ∀ q ∈ lw_privs_5, lw_okq q := List.forall_mem_cons.mpr ⟨lw_p64, List.forall_mem_cons.mpr ⟨lw_p65, List.forall_mem_cons.mpr ⟨lw_p66, fun _ h => absurd h List.not_mem_nil⟩⟩⟩
def lw_privs : List (MethodName × Nat) := lw_privs_1 ++ (lw_privs_2 ++ (lw_privs_3 ++ (lw_privs_4 ++ (lw_privs_5))))
def lw_tbl : List Cond := k2_sels lw_privs ++ tables_1
theorem lw_privs_ok : ∀ q ∈ lw_privs, lw_okq q := by
  show ∀ q ∈ lw_privs_1 ++ (lw_privs_2 ++ (lw_privs_3 ++ (lw_privs_4 ++ (lw_privs_5)))), lw_okq q
  exact List.forall_mem_append.mpr ⟨lw_r1, List.forall_mem_append.mpr ⟨lw_r2, List.forall_mem_append.mpr ⟨lw_r3, List.forall_mem_append.mpr ⟨lw_r4, lw_r5⟩⟩⟩⟩
end
section
/-! ===== BEGIN words of one list among another's, by their places ===== -/
theorem goodIn_r {big : List Cond} (ws : List Cond) (ps : List Nat) (hp : ws = ps.filterMap (fun i => big[i]?)) (h : ws.all goodWord = true) : GoodIn big ws := by
  intro w hw
  have h1 := List.all_eq_true.mp h w hw
  rw [hp] at hw
  obtain ⟨i, -, hi⟩ := List.mem_filterMap.mp hw
  have hm : w ∈ big := by first | exact List.mem_of_getElem? hi | exact List.getElem?_mem hi
  exact ⟨hm, good_of_word h1⟩
theorem goodIn_app {big a b : List Cond} (ha : GoodIn big a) (hb : GoodIn big b) : GoodIn big (a ++ b) := fun w h => (List.mem_append.mp h).elim (ha w) (hb w)
theorem goodIn_ca {big a b : List Cond} {c : Cond} (ha : GoodIn big (c :: a)) (hb : GoodIn big b) : GoodIn big (c :: (a ++ b)) := fun w h => (List.mem_cons.mp h).elim (fun e => ha w (List.mem_cons.mpr (Or.inl e))) (fun h => (List.mem_append.mp h).elim (fun h => ha w (List.mem_cons.mpr (Or.inr h))) (hb w))
theorem goodIn_sub {big ws : List Cond} (hm : ∀ w ∈ ws, w ∈ big) (h : ws.all goodWord = true) : GoodIn big ws := fun w hw => ⟨hm w hw, good_of_word (List.all_eq_true.mp h w hw)⟩
/-! ===== END ===== -/

/-! ===== BEGIN exceptions that leave a method, and their catching by the caller (launches without stack traces) ===== -/
section VXA
/-! The laws vx_back, vx_callV, vx_callS, vx_callSW, vx_throw0, vx_throwS follow proofs of the library, with one case more: JvmDerived/Free/Laws.lean (Back.of_free), Shelf42/LK1.lean (callV, callS), Shelf/KitTraced.lean (throwNew0V, throwNewS). -/
/-- where a method has thrown q: the class by its name, the cell, what was written, the world -/
def vx_T (XC : String → State → State → Prop) (st : State) (q : Addr) (t : State) (mc ms : Nat) (free : Addr → Prop) : Prop :=
  ∃ (E : String) (ce : Cell) (L : List Loc), XC E st t ∧ t.heap[q]? = some ce ∧ ce.vm = .none ∧ st.vm.findClass E = some ce.cls ∧ st.WarmedH t.vm ∧ st.sameButNew ({ t with vm := st.vm } : State) L mc ms ∧ ∀ z ∈ L, free z.base
def vx_Q (Qc : Array Value → State → Outcome → State → Prop) (XC : String → State → State → Prop) (mc ms : Nat) (free : Addr → Prop) : Array Value → State → Outcome → State → Prop := fun a st o t =>
  (Qc a st o t ∧ ∃ L, FrameEnd st o t L mc ms ∧ ∀ q ∈ L, free q.base) ∨ ∃ q, o = .threw q ∧ vx_T XC st q t mc ms free
/-- a callee that returns or throws -/
def vx_Met (l : Launch) (y : MethodName) (ws : List Cond) (rm : Room) (Pc : Array Value → State → Prop) (Qc : Array Value → State → Outcome → State → Prop) (XC : String → State → State → Prop) (mc ms : Nat) (free : Addr → Prop) : Prop :=
  MetFree l y (headSpec ws rm) Pc (fun _ _ _ _ _ => True) (vx_Q Qc XC mc ms free)
def vx_Post (XC : String → State → State → Prop) (mc ms : Nat) (free : Addr → Prop) : Pt → Array Value → Addr → Pt → Prop := fun A a q B =>
  ∃ (g : JFrame) (mk : MethodId) (t : State) (L : List Loc) (E : String) (ce : Cell), B.U.heap = t.heap ∧ B.U.vm = t.vm ∧ XC E (A.U.calling g mk a) t ∧ t.heap[q]? = some ce ∧ ce.vm = .none ∧ A.U.vm.findClass E = some ce.cls ∧ B.locs = A.locs ++ L ∧ (∀ z ∈ L, free z.base) ∧ B.cells = A.cells + mc ∧ B.slots = A.slots + ms
def vx_Back (l : Launch) (R : Room) (p : Program) (e : Env) (below : List Frame) (s : State) (sargs : Array Value) (y : MethodName) (len W9 : Nat)
    (Pre : Pt → Array Value → Prop) (Post : Pt → Array Value → Option Value → Pt → Prop) (PostX : Pt → Array Value → Addr → Pt → Prop) : Prop :=
  ∀ (m : MethodId) (meth : Method) (c : Code) (A : Pt) (g : JFrame) (ig : Instr) (mk : MethodId) (a : Array Value),
    Stand p l e R s m sargs below meth c A.U A.locs A.cells A.slots → g.method = m → g.locals.size = c.maxLocals → decode c.code g.pc = .ok (ig, len) →
    2 * g.monitorRoom + (g.stack.map fun v => v.category).sum ≤ W9 → A.U.methodNamed? y = some mk → Pre A a →
    (∃ (v : Option Value) (B : Pt), Stand p l e R s m sargs below meth c B.U B.locs B.cells B.slots ∧ Post A a v B ∧
      Steps p.tables e below (doInvoke e (A.U.setTop g) [] mk a).1 (B.U.setTop { g with pc := g.pc + len, stack := v.toList ++ g.stack })) ∨
    (∃ (q : Addr) (B : Pt), Stand p l e R s m sargs below meth c B.U B.locs B.cells B.slots ∧ PostX A a q B ∧
      Steps p.tables e below (doInvoke e (A.U.setTop g) [] mk a).1 ((B.U.setTop g).pushFrame (.throwing q)))
section Payer
variable {l : Launch} {R : Room} {p : Program} {e : Env} {below : List Frame} {s : State} {sargs : Array Value} {y : MethodName} {len W9 : Nat}
theorem vx_back {ws : List Cond} {rm : Room} {Pc : Array Value → State → Prop} {Qc : Array Value → State → Outcome → State → Prop} {XC : String → State → State → Prop} {mc ms : Nat} {free : Addr → Prop} {bytes : ByteArray} {maxL : Nat} {ret : Option FieldType}
    (hM : vx_Met l y ws rm Pc Qc XC mc ms free) (hblind : FrameBlind Pc) (hrc : rm.cells = mc) (hrs : rm.slots = ms)
    (hframes : rm.frames + 1 ≤ R.frames) (hlocals : W9 + (maxL + 11) + rm.locals ≤ R.locals)
    (hws : ∀ w ∈ ws, ∀ a' U, s.WarmedH U.vm → w.before a' U = true) (hcode : Cond.code y bytes maxL ret ∈ ws) (hinit : ∀ a' U, s.WarmedH U.vm → (Cond.initialized y.cls).before a' U = true) :
    vx_Back l R p e below s sargs y len W9 (PreOf R mc ms Pc) (PostOf Qc mc ms free) (vx_Post XC mc ms free) := by
  intro m meth c A g ig mk a X hg hsize hdg hW hn hp
  have h1 : (headSpec ws rm).pre.before a A.U = true := atoms_intro fun w hw => hws w hw _ _ X.warmed
  have h2 : (Cond.code y bytes maxL ret).before a A.U = true := hws _ hcode _ _ X.warmed
  have h3 : (Cond.initialized y.cls).before a A.U = true := hinit _ _ X.warmed
  have h4 : A.cells + (headSpec ws rm).room.cells ≤ R.cells := by rw [show (headSpec ws rm).room.cells = mc from hrc]; exact hp.1
  have h5 : A.slots + (headSpec ws rm).room.slots ≤ R.slots := by rw [show (headSpec ws rm).room.slots = ms from hrs]; exact hp.2.1
  have hPc : Pc a (A.U.calling g mk a) := hblind _ _ _ _ hp.2.2
  obtain ⟨U, Ls, c0, s0⟩ := A
  dsimp only [Pt.U, Pt.locs, Pt.cells, Pt.slots] at h1 h2 h3 h4 h5 X hn hPc ⊢
  obtain ⟨methY, cY, hmY, hcY, -, hlY, -, -, -, -⟩ := Cond.code_spec hn h2
  obtain ⟨kY, hkY, -⟩ := className_of_methodNamed hn
  have hinitY : kY.init = .initialized := Cond.initialized_spec (findClass_of_methodNamed hn) hkY h3
  have h : At U g.method c below := by rw [hg]; exact X.here
  have hlocals9 : W9 + (maxL + 11) + (headSpec ws rm).room.locals ≤ R.locals := hlocals
  have happ : (headSpec ws rm).appliesLoose y e.platform (U.calling g mk a) = true :=
    Spec.appliesLoose_calling (g := g) h hdg hn hkY hinitY
      (X.room_calling (g := g) (R' := (headSpec ws rm).room) hsize hmY hcY hframes (by rw [hlY]; omega) h4 h5) h1
  obtain ⟨mid, hmid⟩ := h.above
  have hfr : (U.setTop g).frames = (.java g :: mid) ++ below := by rw [State.frames_setTop' g h.top, hmid]; rfl
  obtain ⟨o, s₂, hsteps, -, hend, hq⟩ := Steps.callFree hM p X.admits X.cas X.clock (acts := []) hfr happ hPc trivial
  have hq' : vx_Q Qc XC mc ms free a (U.calling g mk a) o s₂ := hq
  rw [State.frames_setTop' g h.top] at hend
  obtain ⟨g₀, hg0⟩ := Option.isSome_iff_exists.mp h.top
  obtain ⟨r, hr⟩ := State.topJava?_eq_some.mp hg0
  have hr' : (({ U with heap := s₂.heap, slotsUsed := s₂.slotsUsed } : State).setVm s₂.vm).frames = .java g₀ :: r := hr
  rcases hq' with ⟨hqc, L, hfe, hL⟩ | ⟨q, rfl, E, ce, L, hx, hce, hcv, hcl, hW₂, hsm, hL⟩
  · obtain ⟨⟨v, rfl⟩, hW₂, e2, q2, q3, q4, q5, q6⟩ := id hfe
    have e3 : s₂ = ({ (U.calling g mk a).setFrames s₂.frames with heap := s₂.heap, slotsUsed := s₂.slotsUsed } : State).setVm s₂.vm := by
      have : s₂ = ({ s₂ with vm := (U.calling g mk a).vm } : State).setVm s₂.vm := rfl
      rw [e2] at this
      exact this
    obtain ⟨c₂, i₂, len₂, hc₂, hd₂, hf₂⟩ := hend
    have hW' : U.WarmedH s₂.vm := hW₂
    have hcc : c₂ = c := by
      have h1 : s₂.code? g.method = U.code? g.method := by
        rw [State.code?_eq, State.code?_eq, hW'.alike.method?]
      exact Option.some.inj (hc₂.symm.trans (h1.trans h.code))
    subst hcc
    have hlen : len₂ = len := by rw [hdg] at hd₂; cases hd₂; rfl
    subst hlen
    have hs₂ : s₂ = (({ U with heap := s₂.heap, slotsUsed := s₂.slotsUsed } : State).setVm s₂.vm).setTop { g with pc := g.pc + len₂, stack := v.toList ++ g.stack } := by
      refine e3.trans ?_
      rw [hf₂, State.calling_eq h.top, State.setFrames_setFrames, State.setTop_of_frames _ hr', hr]
      rfl
    have hsame : U.sameButNew ({ U with heap := s₂.heap, slotsUsed := s₂.slotsUsed } : State) L mc ms := by
      refine ⟨?_, q2, q3, q4, q5, q6⟩
      obtain ⟨t, ht, -⟩ := State.frames_cons hr
      show ({ U with heap := s₂.heap, slotsUsed := s₂.slotsUsed } : State) = { U.setFrames U.frames with heap := s₂.heap, slotsUsed := s₂.slotsUsed }
      rw [State.setFrames_self ht]
    subst hg
    refine Or.inl ⟨v, ⟨(({ U with heap := s₂.heap, slotsUsed := s₂.slotsUsed } : State).setVm s₂.vm), Ls ++ L, c0 + mc, s0 + ms⟩,
      ⟨X.admits, X.cas, X.clock, X.frames, X.room, X.hears, X.method, X.code, (X.here.setHeapUsed s₂.heap s₂.slotsUsed).setVm hW'.alike, X.tail, State.WarmedH.trans X.warmed hW', X.limits, X.bytes, X.same.trans (hsame.setVm s.vm)⟩,
      ⟨g, mk, s₂, L, rfl, rfl, hqc, rfl, hL, rfl, rfl⟩, ?_⟩
    show Steps p.tables e below _ ((({ U with heap := s₂.heap, slotsUsed := s₂.slotsUsed } : State).setVm s₂.vm).setTop { g with pc := g.pc + len₂, stack := v.toList ++ g.stack })
    rw [← hs₂]
    exact hsteps
  · obtain ⟨e2, q2, q3, q4, q5, q6⟩ := id hsm
    have e3 : s₂ = ({ (U.calling g mk a).setFrames s₂.frames with heap := s₂.heap, slotsUsed := s₂.slotsUsed } : State).setVm s₂.vm := by
      have : s₂ = ({ s₂ with vm := (U.calling g mk a).vm } : State).setVm s₂.vm := rfl
      rw [e2] at this
      exact this
    have hf₂ : s₂.frames = .throwing q :: .java g :: U.frames.tail := hend
    have hW' : U.WarmedH s₂.vm := hW₂
    have hs₂ : s₂ = ((({ U with heap := s₂.heap, slotsUsed := s₂.slotsUsed } : State).setVm s₂.vm).setTop g).pushFrame (.throwing q) := by
      refine e3.trans ?_
      rw [hf₂, State.calling_eq h.top, State.setFrames_setFrames, State.pushFrame, State.frames_setTop _ hr', State.setTop_of_frames _ hr', State.setFrames_setFrames, hr]
      rfl
    have hsame : U.sameButNew ({ U with heap := s₂.heap, slotsUsed := s₂.slotsUsed } : State) L mc ms := by
      refine ⟨?_, q2, q3, q4, q5, q6⟩
      obtain ⟨t, ht, -⟩ := State.frames_cons hr
      show ({ U with heap := s₂.heap, slotsUsed := s₂.slotsUsed } : State) = { U.setFrames U.frames with heap := s₂.heap, slotsUsed := s₂.slotsUsed }
      rw [State.setFrames_self ht]
    subst hg
    refine Or.inr ⟨q, ⟨(({ U with heap := s₂.heap, slotsUsed := s₂.slotsUsed } : State).setVm s₂.vm), Ls ++ L, c0 + mc, s0 + ms⟩,
      ⟨X.admits, X.cas, X.clock, X.frames, X.room, X.hears, X.method, X.code, (X.here.setHeapUsed s₂.heap s₂.slotsUsed).setVm hW'.alike, X.tail, State.WarmedH.trans X.warmed hW', X.limits, X.bytes, X.same.trans (hsame.setVm s.vm)⟩,
      ⟨g, mk, s₂, L, E, ce, rfl, rfl, hx, hce, hcv, hcl, rfl, hL, rfl, rfl⟩, ?_⟩
    show Steps p.tables e below _ (((({ U with heap := s₂.heap, slotsUsed := s₂.slotsUsed } : State).setVm s₂.vm).setTop g).pushFrame (.throwing q))
    rw [← hs₂]
    exact hsteps
end Payer
section Calls
variable {p : Program} {l : Launch} {e : Env} {R : Room} {s : State} {m : MethodId} {args : Array Value} {below : List Frame} {meth : Method} {c : Code} {T : State} {locs : List Loc} {cells slots : Nat}
theorem vx_callV (X : Stand p l e R s m args below meth c T locs cells slots) (hexec : p.tables.exec = Jvm.exec) {own C : String} {index : Nat} {y : MethodName} {bytes : ByteArray} {maxL : Nat} {ret : Option FieldType}
    (hown : s.vm.findClass own = some m.cls) (hlink : (Cond.methodLink own index y).before args s = true) (hinst : (Cond.instanceMethod y).before args s = true) (hsel : (Cond.selects C y y).before args s = true)
    (hcode : (Cond.code y bytes maxL ret).before args s = true) (hy : y.cls ≠ "java/lang/invoke/MethodHandle" ∧ y.cls ≠ "java/lang/invoke/VarHandle")
    {W9 : Nat} {Pre : Pt → Array Value → Prop} {Post : Pt → Array Value → Option Value → Pt → Prop} {PostX : Pt → Array Value → Addr → Pt → Prop} (hK : vx_Back l R p e below s args y 3 W9 Pre Post PostX)
    {b : Addr} {cellB : Cell} (hcell : T.heap[b]? = some cellB) (hobj : cellB.vm.isStatics = false) (hcls : s.vm.findClass C = some cellB.cls)
    {g : JFrame} (hg : g.method = m) (hsize : g.locals.size = c.maxLocals) {argsL rest : List Value} (hlen : ∀ sig, parseMethodDescriptor y.desc = some sig → argsL.length = sig.parameters.length)
    (hstack : g.stack = argsL.reverse ++ .ref b :: rest) (hW : 2 * g.monitorRoom + (rest.map fun v => v.category).sum ≤ W9) (hdg : decode c.code g.pc = .ok (.invokevirtual index, 3))
    (hpre : ∀ vm₁, s.WarmedH vm₁ → Pre ⟨T.setVm vm₁, locs, cells, slots⟩ (Value.ref b :: argsL).toArray) :
    (∃ (v : Option Value) (vm₁ : Vm) (B : Pt), s.WarmedH vm₁ ∧ Stand p l e R s m args below meth c B.U B.locs B.cells B.slots ∧ Post ⟨T.setVm vm₁, locs, cells, slots⟩ (Value.ref b :: argsL).toArray v B ∧
      ∀ target, Steps p.tables e below (B.U.setTop { g with pc := g.pc + 3, stack := v.toList ++ rest }) target → Steps p.tables e below (T.setTop g) target) ∨
    (∃ (q : Addr) (vm₁ : Vm) (B : Pt), s.WarmedH vm₁ ∧ Stand p l e R s m args below meth c B.U B.locs B.cells B.slots ∧ PostX ⟨T.setVm vm₁, locs, cells, slots⟩ (Value.ref b :: argsL).toArray q B ∧
      Steps p.tables e below (T.setTop g) ((B.U.setTop { g with stack := rest }).pushFrame (.throwing q))) := by
  obtain ⟨mk, methM, hnamed, hmethM, hstM, habM⟩ := Cond.instanceMethod_spec hinst
  obtain ⟨methM', cM, hmethM', -, -, -, -, -, -, hsigM⟩ := Cond.code_spec hnamed hcode
  cases hmethM.symm.trans hmethM'
  obtain ⟨c2, r2, m2, q1, q2, q3, q4, kP, hkP, hkPi⟩ := Cond.selects_spec hsel
  cases hcls.symm.trans q1
  cases (State.methodFound?_of_named hnamed hy).symm.trans q2
  cases hnamed.symm.trans q3
  have hselP : selectMethod e.platform s.vm cellB.cls mk = .method mk := by rw [Launch.admits_selectMethod X.admits]; exact q4
  obtain ⟨vm₁, X₁, hstep₁⟩ := X.invokevirtual hexec hown hlink hnamed hmethM hstM hkP hkPi hy (a := b) (cell := cellB) hcell
    (fun z h => by rw [h] at hobj; cases hobj) hselP hmethM habM hkP hkPi (g := g) hg (argsL := argsL) (rest := rest) (hlen _ hsigM) hstack hdg
  rcases hK m meth c ⟨T.setVm vm₁, locs, cells, slots⟩ { g with stack := rest } (.invokevirtual index) mk (Value.ref b :: argsL).toArray X₁ hg hsize hdg hW (X₁.named hnamed) (hpre vm₁ X₁.warmed) with ⟨v, B, X', hpost, hsteps⟩ | ⟨q, B, X', hpost, hsteps⟩
  · exact Or.inl ⟨v, vm₁, B, X₁.warmed, X', hpost, fun target h => hstep₁ _ fun acts => by rw [doInvoke_state]; exact hsteps.trans h⟩
  · exact Or.inr ⟨q, vm₁, B, X₁.warmed, X', hpost, hstep₁ _ fun acts => by rw [doInvoke_state]; exact hsteps⟩
theorem vx_callS (X : Stand p l e R s m args below meth c T locs cells slots) (hexec : p.tables.exec = Jvm.exec) {own : String} {index : Nat} {y : MethodName} {bytes : ByteArray} {maxL : Nat} {ret : Option FieldType}
    (hown : s.vm.findClass own = some m.cls) (hlink : (Cond.methodLink own index y).before args s = true) (hstat : (Cond.static y).before args s = true) (hinit : (Cond.initialized y.cls).before args s = true)
    (hcode : (Cond.code y bytes maxL ret).before args s = true) (hy : y.cls ≠ "java/lang/invoke/MethodHandle" ∧ y.cls ≠ "java/lang/invoke/VarHandle")
    {W9 : Nat} {Pre : Pt → Array Value → Prop} {Post : Pt → Array Value → Option Value → Pt → Prop} {PostX : Pt → Array Value → Addr → Pt → Prop} (hK : vx_Back l R p e below s args y 3 W9 Pre Post PostX)
    {g : JFrame} (hg : g.method = m) (hsize : g.locals.size = c.maxLocals) {argsL rest : List Value} (hlen : ∀ sig, parseMethodDescriptor y.desc = some sig → argsL.length = sig.parameters.length)
    (hstack : g.stack = argsL.reverse ++ rest) (hW : 2 * g.monitorRoom + (rest.map fun v => v.category).sum ≤ W9) (hdg : decode c.code g.pc = .ok (.invokestatic index, 3))
    (hpre : ∀ vm₁, s.WarmedH vm₁ → Pre ⟨T.setVm vm₁, locs, cells, slots⟩ argsL.toArray) :
    (∃ (v : Option Value) (vm₁ : Vm) (B : Pt), s.WarmedH vm₁ ∧ Stand p l e R s m args below meth c B.U B.locs B.cells B.slots ∧ Post ⟨T.setVm vm₁, locs, cells, slots⟩ argsL.toArray v B ∧
      ∀ target, Steps p.tables e below (B.U.setTop { g with pc := g.pc + 3, stack := v.toList ++ rest }) target → Steps p.tables e below (T.setTop g) target) ∨
    (∃ (q : Addr) (vm₁ : Vm) (B : Pt), s.WarmedH vm₁ ∧ Stand p l e R s m args below meth c B.U B.locs B.cells B.slots ∧ PostX ⟨T.setVm vm₁, locs, cells, slots⟩ argsL.toArray q B ∧
      Steps p.tables e below (T.setTop g) ((B.U.setTop { g with stack := rest }).pushFrame (.throwing q))) := by
  obtain ⟨mk, hnamed⟩ := Cond.code_named hcode
  obtain ⟨methM, cM, hmethM, -, -, -, -, -, -, hsigM⟩ := Cond.code_spec hnamed hcode
  have hstatic : methM.isStatic = true := Cond.static_spec hnamed hmethM hstat
  obtain ⟨kP, hkP, -⟩ := className_of_methodNamed hnamed
  have hinitP : kP.init = .initialized := Cond.initialized_spec (findClass_of_methodNamed hnamed) hkP hinit
  obtain ⟨vm₁, X₁, hstep₁⟩ := X.invokestatic hexec hown hlink hnamed hmethM hstatic hkP hinitP hy (g := g) hg (argsL := argsL) (rest := rest) (hlen _ hsigM) hstack hdg
  rcases hK m meth c ⟨T.setVm vm₁, locs, cells, slots⟩ { g with stack := rest } (.invokestatic index) mk argsL.toArray X₁ hg hsize hdg hW (X₁.named hnamed) (hpre vm₁ X₁.warmed) with ⟨v, B, X', hpost, hsteps⟩ | ⟨q, B, X', hpost, hsteps⟩
  · exact Or.inl ⟨v, vm₁, B, X₁.warmed, X', hpost, fun target h => hstep₁ _ fun acts => by rw [doInvoke_state]; exact hsteps.trans h⟩
  · exact Or.inr ⟨q, vm₁, B, X₁.warmed, X', hpost, hstep₁ _ fun acts => by rw [doInvoke_state]; exact hsteps⟩
end Calls
theorem vx_cls {s : State} {T : State} {vm₁ : Vm} {E : String} {k : ClassId} (hW : s.WarmedH vm₁) (h : (T.setVm vm₁).vm.findClass E = some k) : s.vm.findClass E = some k := by
  have h1 : vm₁.findClass E = some k := h
  rw [hW.alike.findClass] at h1
  exact h1
/-- the method's frame g, with q thrown over it -/
def vx_W (p : Program) (l : Launch) (e : Env) (R : Room) (s : State) (m : MethodId) (args : Array Value) (below : List Frame) (meth : Method) (c : Code) (H : Heap) (locs : List Loc) (cells slots : Nat) (Q : State → Prop) (g : JFrame) (q : Addr) : Prop :=
  ∀ T : State, T.heap = H → Stand p l e R s m args below meth c T locs cells slots → ∃ t, Steps p.tables e below ((T.setTop g).pushFrame (.throwing q)) t ∧ Q t
def vx_Run (p : Program) (l : Launch) (e : Env) (R : Room) (s : State) (m : MethodId) (args : Array Value) (below : List Frame) (meth : Method) (c : Code) (H : Heap) (locs : List Loc) (cells slots mc ms : Nat) (g : JFrame) (rest : List Value) (Qa : State → Outcome → State → Prop) (XC : String → State → State → Prop) (free : Addr → Prop) : Prop :=
  ∀ T : State, T.heap = H → Stand p l e R s m args below meth c T locs cells slots →
    (∃ (v : Option Value) (st₀ t T' : State) (L : List Loc), st₀.heap = H ∧ Stand p l e R s m args below meth c T' (locs ++ L) (cells + mc) (slots + ms) ∧ (∀ q ∈ L, free q.base) ∧ T'.heap = t.heap ∧ T'.vm = t.vm ∧ Qa st₀ (.returned v) t ∧
      Goes p e below T g T' { g with pc := g.pc + 3, stack := v.toList ++ rest }) ∨
    (∃ (q : Addr) (st₀ t T' : State) (L : List Loc) (E : String) (ce : Cell), st₀.heap = H ∧ Stand p l e R s m args below meth c T' (locs ++ L) (cells + mc) (slots + ms) ∧ (∀ z ∈ L, free z.base) ∧ T'.heap = t.heap ∧ T'.vm = t.vm ∧ XC E st₀ t ∧ t.heap[q]? = some ce ∧ ce.vm = .none ∧ s.vm.findClass E = some ce.cls ∧
      Steps p.tables e below (T.setTop g) ((T'.setTop { g with stack := rest }).pushFrame (.throwing q)))
def vx_X {S : Type} (px : S → Prop) (B : String → S → State → Prop) (A : Nat → Prop) : String → State → State → Prop := fun E st t => ∃ u : S, px u ∧ B E u t ∧ va_F A st t
section Runs
variable {p : Program} {l : Launch} {e : Env} {R : Room} {s : State} {m : MethodId} {args : Array Value} {below : List Frame} {meth : Method} {c : Code} {H : Heap} {locs : List Loc} {cells slots : Nat}
variable {y : MethodName} {bytes cc : ByteArray} {maxL nL mc ms n index : Nat} {ret : Option FieldType} {ws : List Cond} {rm : Room} {Pc : Array Value → State → Prop} {Qc : Array Value → State → Outcome → State → Prop} {XC : String → State → State → Prop} {free : Addr → Prop} {Ts : List Cond} {own C : String} {b : Addr} {As rest : List Value} {g : JFrame}
theorem vx_callBack (cb : CallB R s args own index y bytes maxL ret ws rm mc ms n) (hM : vx_Met l y ws rm Pc Qc XC mc ms free) (hbl : FrameBlind Pc) : vx_Back l R p e below s args y 3 8 (PreOf R mc ms Pc) (PostOf Qc mc ms free) (vx_Post XC mc ms free) := by
  obtain ⟨hrc, hrs, hfr, hlo, hws, hcw, -, hini, -⟩ := cb
  exact vx_back (bytes := bytes) (maxL := maxL) (ret := ret) hM hbl hrc hrs hfr hlo hws hcw (fun a' U hW => word_at hW (Or.inl (by first | rfl | simp [Cond.onTables, Cond.keeps, Cond.steady])) hini)
theorem vx_runV (S : CallFix p m c cc nL s args Ts own) (hM : vx_Met l y ws rm Pc Qc XC mc ms free) (cw : CallW R s args own C index y bytes maxL ret ws rm mc ms n) (hp : PreV s H C b Pc As)
    (hg : g.method = m) (hn : As.length = n) (hsize : g.locals.size = nL) (hstack : g.stack = As.reverse ++ .ref b :: rest) (hW : 2 * g.monitorRoom + (rest.map fun v => v.category).sum ≤ 8) (hdg : decode cc g.pc = .ok (.invokevirtual index, 3)) (hf : cells + mc ≤ R.cells ∧ slots + ms ≤ R.slots) :
    vx_Run p l e R s m args below meth c H locs cells slots mc ms g rest (Qc (Value.ref b :: As).toArray) XC free := by
  have hK : vx_Back l R p e below s args y 3 8 (PreOf R mc ms Pc) (PostOf Qc mc ms free) (vx_Post XC mc ms free) := vx_callBack cw.1 hM hp.1
  obtain ⟨⟨-, -, -, -, -, -, hcode, -, hy, hlen, hl⟩, hin, hse⟩ := cw
  obtain ⟨hx, hb, hml, ho, -⟩ := S
  obtain ⟨-, ⟨cellB, hcB, hoB, hclB⟩, hPc⟩ := hp
  intro T hT X
  rcases vx_callV X hx (C := C) (bytes := bytes) (maxL := maxL) (ret := ret) ho hl hin hse hcode hy hK (by rw [hT]; exact hcB) hoB hclB hg (hsize.trans hml.symm) (argsL := As) (rest := rest) (fun sig h => hn.trans (hlen sig h)) hstack hW (by rw [hb]; exact hdg)
    (fun vm₁ hW₁ => ⟨hf.1, hf.2, hPc (T.setVm vm₁) hT hW₁⟩) with ⟨v, vm₁, ⟨U', l2, c2, s2⟩, hW₁, X', ⟨g', mk, t, L, e1, e2, hq, h1, hL, h2, h3⟩, st⟩ | ⟨q, vm₁, ⟨U', l2, c2, s2⟩, hW₁, X', ⟨g', mk, t, L, E, ce, e1, e2, hq, hce, hcv, hcl, h1, hL, h2, h3⟩, st⟩
  · dsimp only [Pt.U, Pt.locs, Pt.cells, Pt.slots] at X' e1 e2 h1 h2 h3 st
    subst h1; subst h2; subst h3
    exact Or.inl ⟨v, (T.setVm vm₁).calling g' mk (Value.ref b :: As).toArray, t, U', L, hT, X', hL, e1, e2, hq, st⟩
  · dsimp only [Pt.U, Pt.locs, Pt.cells, Pt.slots] at X' e1 e2 h1 h2 h3 st hcl
    subst h1; subst h2; subst h3
    exact Or.inr ⟨q, (T.setVm vm₁).calling g' mk (Value.ref b :: As).toArray, t, U', L, E, ce, hT, X', hL, e1, e2, hq, hce, hcv, vx_cls hW₁ hcl, st⟩
theorem vx_runS (S : CallFix p m c cc nL s args Ts own) (hM : vx_Met l y ws rm Pc Qc XC mc ms free) (cw : CallB R s args own index y bytes maxL ret ws rm mc ms n ∧ (Cond.static y).before args s = true) (hp : PreS s H Pc As)
    (hg : g.method = m) (hn : As.length = n) (hsize : g.locals.size = nL) (hstack : g.stack = As.reverse ++ rest) (hW : 2 * g.monitorRoom + (rest.map fun v => v.category).sum ≤ 8) (hdg : decode cc g.pc = .ok (.invokestatic index, 3)) (hf : cells + mc ≤ R.cells ∧ slots + ms ≤ R.slots) :
    vx_Run p l e R s m args below meth c H locs cells slots mc ms g rest (Qc As.toArray) XC free := by
  have hK : vx_Back l R p e below s args y 3 8 (PreOf R mc ms Pc) (PostOf Qc mc ms free) (vx_Post XC mc ms free) := vx_callBack cw.1 hM hp.1
  obtain ⟨⟨-, -, -, -, -, -, hcode, hini, hy, hlen, hl⟩, hstt⟩ := cw
  obtain ⟨hx, hb, hml, ho, -⟩ := S
  intro T hT X
  rcases vx_callS X hx (bytes := bytes) (maxL := maxL) (ret := ret) ho hl hstt hini hcode hy hK hg (hsize.trans hml.symm) (argsL := As) (rest := rest) (fun sig h => hn.trans (hlen sig h)) hstack hW (by rw [hb]; exact hdg)
    (fun vm₁ hW₁ => ⟨hf.1, hf.2, hp.2 (T.setVm vm₁) hT hW₁⟩) with ⟨v, vm₁, ⟨U', l2, c2, s2⟩, hW₁, X', ⟨g', mk, t, L, e1, e2, hq, h1, hL, h2, h3⟩, st⟩ | ⟨q, vm₁, ⟨U', l2, c2, s2⟩, hW₁, X', ⟨g', mk, t, L, E, ce, e1, e2, hq, hce, hcv, hcl, h1, hL, h2, h3⟩, st⟩
  · dsimp only [Pt.U, Pt.locs, Pt.cells, Pt.slots] at X' e1 e2 h1 h2 h3 st
    subst h1; subst h2; subst h3
    exact Or.inl ⟨v, (T.setVm vm₁).calling g' mk As.toArray, t, U', L, hT, X', hL, e1, e2, hq, st⟩
  · dsimp only [Pt.U, Pt.locs, Pt.cells, Pt.slots] at X' e1 e2 h1 h2 h3 st hcl
    subst h1; subst h2; subst h3
    exact Or.inr ⟨q, (T.setVm vm₁).calling g' mk As.toArray, t, U', L, E, ce, hT, X', hL, e1, e2, hq, hce, hcv, vx_cls hW₁ hcl, st⟩
end Runs
section Rows
variable {p : Program} {l : Launch} {e : Env} {R : Room} {s : State} {m : MethodId} {args : Array Value} {below : List Frame} {meth : Method} {c : Code} {H : Heap} {locs : List Loc} {cells slots : Nat} {Q : State → Prop}
variable {mc ms : Nat} {free : Addr → Prop} {A0 A1 : Nat → Prop} {H0 : Heap} {a : Array Value} {pc : Nat} {ls : Array Slot} {st0 rest : List Value}
theorem vx_keep {st₀ t T' : State} {L : List Loc} (h0 : st₀.heap = H) (e1 : T'.heap = t.heap) (hS : va_S A0 H0 H locs) (hA : ∀ q, q < H.size → A1 q → A0 q) (hf : ∀ q, free q → A0 q) (hL : ∀ q ∈ L, free q.base) (hF : va_F A1 st₀ t) :
    H.size ≤ T'.heap.size ∧ (∀ q : Nat, q < H.size → ¬ A1 q → T'.heap[q]? = H[q]?) ∧ va_S A0 H0 T'.heap (locs ++ L) := by
  obtain ⟨hz, hk⟩ := hF
  rw [h0] at hz hk
  exact ⟨by rw [e1]; exact hz, fun q h1 h2 => by rw [e1]; exact hk q h1 h2,
    ⟨Nat.le_trans hS.1 (by rw [e1]; exact hz), fun q h1 h2 => by rw [e1, hk q (Nat.lt_of_lt_of_le h1 hS.1) (fun z => h2 (hA q (Nat.lt_of_lt_of_le h1 hS.1) z))]; exact hS.2.1 q h1 h2, fun q hq => by
      rcases List.mem_append.mp hq with h | h
      · exact hS.2.2 q h
      · exact hf _ (hL q h)⟩⟩
theorem vx_calli {S SX : Type} {post : Int32 → S → Prop} {px : SX → Prop} {B : S → State → Prop} {BX : String → SX → State → Prop} {AX : Nat → Prop} (hr : vx_Run p l e R s m args below meth c H locs cells slots mc ms (F0 m pc ls st0) rest (va_Qi post B A1 a) (vx_X px BX AX) free) (hS : va_S A0 H0 H locs) (hA : ∀ q, q < H.size → A1 q → A0 q) (hf : ∀ q, free q → A0 q) (hAX : ∀ q, q < H.size → AX q → A0 q)
    (kx : ∀ (E : String) (ce : Cell) (q9 : Addr) (u : SX) (t : State) (H1 : Heap) (locs1 : List Loc), t.heap = H1 → s.vm.Alike t.vm → px u → BX E u t → H.size ≤ H1.size → (∀ q : Nat, q < H.size → ¬ AX q → H1[q]? = H[q]?) → va_S A0 H0 H1 locs1 → H1[q9]? = some ce → ce.vm = .none → s.vm.findClass E = some ce.cls → vx_W p l e R s m args below meth c H1 locs1 (cells + mc) (slots + ms) Q (F0 m pc ls rest) q9)
    (kk : ∀ (r : Int32) (u : S) (t : State) (H1 : Heap) (locs1 : List Loc), t.heap = H1 → s.vm.Alike t.vm → post r u → B u t → H.size ≤ H1.size → (∀ q : Nat, q < H.size → ¬ A1 q → H1[q]? = H[q]?) → va_S A0 H0 H1 locs1 → W p l e R s m args below meth c H1 locs1 (cells + mc) (slots + ms) Q (F0 m (pc + 3) ls (.int r :: rest))) : W p l e R s m args below meth c H locs cells slots Q (F0 m pc ls st0) := by
  intro T hT X
  rcases hr T hT X with ⟨v, st₀, t, T', L, h0, X', hL, e1, e2, ⟨⟨r, u, hv, hp, hb⟩, hF⟩, st⟩ | ⟨q, st₀, t, T', L, E, ce, h0, X', hL, e1, e2, ⟨u, hp, hb, hF⟩, hce, hcv, hcl, st⟩
  · cases hv
    obtain ⟨k1, k2, k3⟩ := vx_keep h0 e1 hS hA hf hL hF
    obtain ⟨t2, a1, b1⟩ := kk r u t T'.heap (locs ++ L) e1.symm (by rw [← e2]; exact X'.warmed.alike) hp hb k1 k2 k3 T' rfl X'
    exact ⟨t2, st t2 a1, b1⟩
  · obtain ⟨k1, k2, k3⟩ := vx_keep h0 e1 hS hAX hf hL hF
    obtain ⟨t2, a1, b1⟩ := kx E ce q u t T'.heap (locs ++ L) e1.symm (by rw [← e2]; exact X'.warmed.alike) hp hb k1 k2 k3 (by rw [e1]; exact hce) hcv hcl T' rfl X'
    exact ⟨t2, st.trans a1, b1⟩
theorem vx_calll {S SX : Type} {post : Int64 → S → Prop} {px : SX → Prop} {B : S → State → Prop} {BX : String → SX → State → Prop} {AX : Nat → Prop} (hr : vx_Run p l e R s m args below meth c H locs cells slots mc ms (F0 m pc ls st0) rest (va_Ql post B A1 a) (vx_X px BX AX) free) (hS : va_S A0 H0 H locs) (hA : ∀ q, q < H.size → A1 q → A0 q) (hf : ∀ q, free q → A0 q) (hAX : ∀ q, q < H.size → AX q → A0 q)
    (kx : ∀ (E : String) (ce : Cell) (q9 : Addr) (u : SX) (t : State) (H1 : Heap) (locs1 : List Loc), t.heap = H1 → s.vm.Alike t.vm → px u → BX E u t → H.size ≤ H1.size → (∀ q : Nat, q < H.size → ¬ AX q → H1[q]? = H[q]?) → va_S A0 H0 H1 locs1 → H1[q9]? = some ce → ce.vm = .none → s.vm.findClass E = some ce.cls → vx_W p l e R s m args below meth c H1 locs1 (cells + mc) (slots + ms) Q (F0 m pc ls rest) q9)
    (kk : ∀ (r : Int64) (u : S) (t : State) (H1 : Heap) (locs1 : List Loc), t.heap = H1 → s.vm.Alike t.vm → post r u → B u t → H.size ≤ H1.size → (∀ q : Nat, q < H.size → ¬ A1 q → H1[q]? = H[q]?) → va_S A0 H0 H1 locs1 → W p l e R s m args below meth c H1 locs1 (cells + mc) (slots + ms) Q (F0 m (pc + 3) ls (.long r :: rest))) : W p l e R s m args below meth c H locs cells slots Q (F0 m pc ls st0) := by
  intro T hT X
  rcases hr T hT X with ⟨v, st₀, t, T', L, h0, X', hL, e1, e2, ⟨⟨r, u, hv, hp, hb⟩, hF⟩, st⟩ | ⟨q, st₀, t, T', L, E, ce, h0, X', hL, e1, e2, ⟨u, hp, hb, hF⟩, hce, hcv, hcl, st⟩
  · cases hv
    obtain ⟨k1, k2, k3⟩ := vx_keep h0 e1 hS hA hf hL hF
    obtain ⟨t2, a1, b1⟩ := kk r u t T'.heap (locs ++ L) e1.symm (by rw [← e2]; exact X'.warmed.alike) hp hb k1 k2 k3 T' rfl X'
    exact ⟨t2, st t2 a1, b1⟩
  · obtain ⟨k1, k2, k3⟩ := vx_keep h0 e1 hS hAX hf hL hF
    obtain ⟨t2, a1, b1⟩ := kx E ce q u t T'.heap (locs ++ L) e1.symm (by rw [← e2]; exact X'.warmed.alike) hp hb k1 k2 k3 (by rw [e1]; exact hce) hcv hcl T' rfl X'
    exact ⟨t2, st.trans a1, b1⟩
theorem vx_callf {S SX : Type} {post : UInt32 → S → Prop} {px : SX → Prop} {B : S → State → Prop} {BX : String → SX → State → Prop} {AX : Nat → Prop} (hr : vx_Run p l e R s m args below meth c H locs cells slots mc ms (F0 m pc ls st0) rest (va_Qf post B A1 a) (vx_X px BX AX) free) (hS : va_S A0 H0 H locs) (hA : ∀ q, q < H.size → A1 q → A0 q) (hf : ∀ q, free q → A0 q) (hAX : ∀ q, q < H.size → AX q → A0 q)
    (kx : ∀ (E : String) (ce : Cell) (q9 : Addr) (u : SX) (t : State) (H1 : Heap) (locs1 : List Loc), t.heap = H1 → s.vm.Alike t.vm → px u → BX E u t → H.size ≤ H1.size → (∀ q : Nat, q < H.size → ¬ AX q → H1[q]? = H[q]?) → va_S A0 H0 H1 locs1 → H1[q9]? = some ce → ce.vm = .none → s.vm.findClass E = some ce.cls → vx_W p l e R s m args below meth c H1 locs1 (cells + mc) (slots + ms) Q (F0 m pc ls rest) q9)
    (kk : ∀ (r : UInt32) (u : S) (t : State) (H1 : Heap) (locs1 : List Loc), t.heap = H1 → s.vm.Alike t.vm → post r u → B u t → H.size ≤ H1.size → (∀ q : Nat, q < H.size → ¬ A1 q → H1[q]? = H[q]?) → va_S A0 H0 H1 locs1 → W p l e R s m args below meth c H1 locs1 (cells + mc) (slots + ms) Q (F0 m (pc + 3) ls (.float r :: rest))) : W p l e R s m args below meth c H locs cells slots Q (F0 m pc ls st0) := by
  intro T hT X
  rcases hr T hT X with ⟨v, st₀, t, T', L, h0, X', hL, e1, e2, ⟨⟨r, u, hv, hp, hb⟩, hF⟩, st⟩ | ⟨q, st₀, t, T', L, E, ce, h0, X', hL, e1, e2, ⟨u, hp, hb, hF⟩, hce, hcv, hcl, st⟩
  · cases hv
    obtain ⟨k1, k2, k3⟩ := vx_keep h0 e1 hS hA hf hL hF
    obtain ⟨t2, a1, b1⟩ := kk r u t T'.heap (locs ++ L) e1.symm (by rw [← e2]; exact X'.warmed.alike) hp hb k1 k2 k3 T' rfl X'
    exact ⟨t2, st t2 a1, b1⟩
  · obtain ⟨k1, k2, k3⟩ := vx_keep h0 e1 hS hAX hf hL hF
    obtain ⟨t2, a1, b1⟩ := kx E ce q u t T'.heap (locs ++ L) e1.symm (by rw [← e2]; exact X'.warmed.alike) hp hb k1 k2 k3 (by rw [e1]; exact hce) hcv hcl T' rfl X'
    exact ⟨t2, st.trans a1, b1⟩
theorem vx_calld {S SX : Type} {post : UInt64 → S → Prop} {px : SX → Prop} {B : S → State → Prop} {BX : String → SX → State → Prop} {AX : Nat → Prop} (hr : vx_Run p l e R s m args below meth c H locs cells slots mc ms (F0 m pc ls st0) rest (va_Qd post B A1 a) (vx_X px BX AX) free) (hS : va_S A0 H0 H locs) (hA : ∀ q, q < H.size → A1 q → A0 q) (hf : ∀ q, free q → A0 q) (hAX : ∀ q, q < H.size → AX q → A0 q)
    (kx : ∀ (E : String) (ce : Cell) (q9 : Addr) (u : SX) (t : State) (H1 : Heap) (locs1 : List Loc), t.heap = H1 → s.vm.Alike t.vm → px u → BX E u t → H.size ≤ H1.size → (∀ q : Nat, q < H.size → ¬ AX q → H1[q]? = H[q]?) → va_S A0 H0 H1 locs1 → H1[q9]? = some ce → ce.vm = .none → s.vm.findClass E = some ce.cls → vx_W p l e R s m args below meth c H1 locs1 (cells + mc) (slots + ms) Q (F0 m pc ls rest) q9)
    (kk : ∀ (r : UInt64) (u : S) (t : State) (H1 : Heap) (locs1 : List Loc), t.heap = H1 → s.vm.Alike t.vm → post r u → B u t → H.size ≤ H1.size → (∀ q : Nat, q < H.size → ¬ A1 q → H1[q]? = H[q]?) → va_S A0 H0 H1 locs1 → W p l e R s m args below meth c H1 locs1 (cells + mc) (slots + ms) Q (F0 m (pc + 3) ls (.double r :: rest))) : W p l e R s m args below meth c H locs cells slots Q (F0 m pc ls st0) := by
  intro T hT X
  rcases hr T hT X with ⟨v, st₀, t, T', L, h0, X', hL, e1, e2, ⟨⟨r, u, hv, hp, hb⟩, hF⟩, st⟩ | ⟨q, st₀, t, T', L, E, ce, h0, X', hL, e1, e2, ⟨u, hp, hb, hF⟩, hce, hcv, hcl, st⟩
  · cases hv
    obtain ⟨k1, k2, k3⟩ := vx_keep h0 e1 hS hA hf hL hF
    obtain ⟨t2, a1, b1⟩ := kk r u t T'.heap (locs ++ L) e1.symm (by rw [← e2]; exact X'.warmed.alike) hp hb k1 k2 k3 T' rfl X'
    exact ⟨t2, st t2 a1, b1⟩
  · obtain ⟨k1, k2, k3⟩ := vx_keep h0 e1 hS hAX hf hL hF
    obtain ⟨t2, a1, b1⟩ := kx E ce q u t T'.heap (locs ++ L) e1.symm (by rw [← e2]; exact X'.warmed.alike) hp hb k1 k2 k3 (by rw [e1]; exact hce) hcv hcl T' rfl X'
    exact ⟨t2, st.trans a1, b1⟩
theorem vx_callv {S SX : Type} {post : S → Prop} {px : SX → Prop} {B : S → State → Prop} {BX : String → SX → State → Prop} {AX : Nat → Prop} (hr : vx_Run p l e R s m args below meth c H locs cells slots mc ms (F0 m pc ls st0) rest (va_Qv post B A1 a) (vx_X px BX AX) free) (hS : va_S A0 H0 H locs) (hA : ∀ q, q < H.size → A1 q → A0 q) (hf : ∀ q, free q → A0 q) (hAX : ∀ q, q < H.size → AX q → A0 q)
    (kx : ∀ (E : String) (ce : Cell) (q9 : Addr) (u : SX) (t : State) (H1 : Heap) (locs1 : List Loc), t.heap = H1 → s.vm.Alike t.vm → px u → BX E u t → H.size ≤ H1.size → (∀ q : Nat, q < H.size → ¬ AX q → H1[q]? = H[q]?) → va_S A0 H0 H1 locs1 → H1[q9]? = some ce → ce.vm = .none → s.vm.findClass E = some ce.cls → vx_W p l e R s m args below meth c H1 locs1 (cells + mc) (slots + ms) Q (F0 m pc ls rest) q9)
    (kk : ∀ (u : S) (t : State) (H1 : Heap) (locs1 : List Loc), t.heap = H1 → s.vm.Alike t.vm → post u → B u t → H.size ≤ H1.size → (∀ q : Nat, q < H.size → ¬ A1 q → H1[q]? = H[q]?) → va_S A0 H0 H1 locs1 → W p l e R s m args below meth c H1 locs1 (cells + mc) (slots + ms) Q (F0 m (pc + 3) ls (rest))) : W p l e R s m args below meth c H locs cells slots Q (F0 m pc ls st0) := by
  intro T hT X
  rcases hr T hT X with ⟨v, st₀, t, T', L, h0, X', hL, e1, e2, ⟨⟨u, hv, hp, hb⟩, hF⟩, st⟩ | ⟨q, st₀, t, T', L, E, ce, h0, X', hL, e1, e2, ⟨u, hp, hb, hF⟩, hce, hcv, hcl, st⟩
  · cases hv
    obtain ⟨k1, k2, k3⟩ := vx_keep h0 e1 hS hA hf hL hF
    obtain ⟨t2, a1, b1⟩ := kk u t T'.heap (locs ++ L) e1.symm (by rw [← e2]; exact X'.warmed.alike) hp hb k1 k2 k3 T' rfl X'
    exact ⟨t2, st t2 a1, b1⟩
  · obtain ⟨k1, k2, k3⟩ := vx_keep h0 e1 hS hAX hf hL hF
    obtain ⟨t2, a1, b1⟩ := kx E ce q u t T'.heap (locs ++ L) e1.symm (by rw [← e2]; exact X'.warmed.alike) hp hb k1 k2 k3 (by rw [e1]; exact hce) hcv hcl T' rfl X'
    exact ⟨t2, st.trans a1, b1⟩
/-- caught by the row x of this method's table; the rows ahead don't take it -/
theorem vx_catch {own name : String} {E : String} {ce : Cell} {q : Addr} (hown : s.vm.findClass own = some m.cls) (pre : List ExceptionTableEntry) (x : ExceptionTableEntry) (suf : List ExceptionTableEntry) (hsplit : c.exceptionTable.toList = pre ++ x :: suf)
    (hpass : ∀ z ∈ pre, covers z pc = false ∨ (z.catchType ≠ 0 ∧ ∃ nm : String, (Cond.classLink own z.catchType nm).before args s = true ∧ va_Nc E nm s)) (hx : covers x pc = true) (h0 : x.catchType ≠ 0)
    (hlink : (Cond.classLink own x.catchType name).before args s = true) (hcast : (Cond.castable E name).before args s = true) (hcell : H[q]? = some ce) (hv : ce.vm = .none) (hcl : s.vm.findClass E = some ce.cls)
    (kk : W p l e R s m args below meth c H locs cells slots Q (F0 m x.handlerPc ls [.ref q])) : vx_W p l e R s m args below meth c H locs cells slots Q (F0 m pc ls rest) q := by
  intro T hT X
  have hpl : e.platform.magicAccessors = ({} : Platform).magicAccessors := by rw [X.admits.platform]
  obtain ⟨c3, c4, hc3, hc4, hasg⟩ := Cond.castable_spec hcast
  cases Option.some.inj (hc3.symm.trans hcl)
  obtain ⟨c5, hc5, hcl5⟩ := Cond.classLink_spec hown hlink e.platform hpl
  cases Option.some.inj (hc4.symm.trans hc5)
  obtain ⟨vm', X', st⟩ := X.thenCaughtThrough q (g := F0 m pc ls rest) rfl (Steps.refl _) (by rw [hT]; exact hcell) (by rw [hv]; rfl) (by obtain ⟨k9, h9, -⟩ := Vm.findClass_spec hcl; exact ⟨k9, h9⟩) pre x suf hsplit
    (fun z hz => by
      rcases hpass z hz with h | ⟨hz0, nm, hl1, hn1⟩
      · exact Or.inl h
      · obtain ⟨c6, hc6, hcl6⟩ := Cond.classLink_spec hown hl1 e.platform hpl
        obtain ⟨a8, b8, h1, h2, h3⟩ := hn1
        cases Option.some.inj (h1.symm.trans hcl)
        cases Option.some.inj (h2.symm.trans hc6)
        exact Or.inr ⟨hz0, _, hcl6, h3⟩) hx (Or.inr ⟨h0, c4, hcl5, hasg⟩)
  obtain ⟨t, a1, b1⟩ := kk (T.setVm vm') hT X'
  exact ⟨t, st.trans a1, b1⟩
end Rows
section Ends
variable {p : Program} {l : Launch} {e : Env} {R : Room} {s : State} {m : MethodId} {args : Array Value} {below : List Frame} {meth : Method} {c : Code} {H : Heap} {locs : List Loc} {cells slots : Nat} {Q : State → Prop}
variable {mc ms : Nat} {free : Addr → Prop} {A0 A1 : Nat → Prop} {H0 : Heap} {a : Array Value} {ls : Array Slot} {st0 rest : List Value}
variable {Qc : Array Value → State → Outcome → State → Prop} {XC : String → State → State → Prop}
/-- what a body that may throw owes at its end -/
def vx_MQ (below : List Frame) (Qc : Array Value → State → Outcome → State → Prop) (XC : String → State → State → Prop) (a : Array Value) (s : State) (mc ms : Nat) (free : Addr → Prop) : State → Prop := fun t =>
  ∃ o, t.status = .running ∧ Ended t below o ∧ vx_Q Qc XC mc ms free a s o t
theorem vx_ret {g : JFrame} {mc ms : Nat} (k : W p l e R s m args below meth c H locs cells slots (MQ below Qc args s mc ms free) g) : W p l e R s m args below meth c H locs cells slots (vx_MQ below Qc XC args s mc ms free) g := by
  intro T hT X
  obtain ⟨t, a1, o, b1, b2, b3, b4⟩ := k T hT X
  exact ⟨t, a1, o, b1, b2, Or.inl ⟨b3, b4⟩⟩
/-- not caught here: it goes on to the caller -/
theorem vx_widen {g : JFrame} {q : Addr} {k n : Nat} (h1 : cells ≤ k) (h2 : slots ≤ n) (kk : vx_W p l e R s m args below meth c H locs k n Q g q) : vx_W p l e R s m args below meth c H locs cells slots Q g q := fun T hT X => kk T hT (stand_widen X h1 h2)
theorem vx_out {pc : Nat} {E : String} {ce : Cell} {q : Addr} {mc ms : Nat} (hout : ∀ x ∈ c.exceptionTable.toList, covers x pc = false) (hlocks : meth.locks = false) (hcell : H[q]? = some ce) (hv : ce.vm = .none) (hcl : s.vm.findClass E = some ce.cls)
    (hx : ∀ t : State, t.heap = H → s.vm.Alike t.vm → XC E s t) (hf : ∀ z ∈ locs, free z.base) (hc : cells ≤ mc) (hs : slots ≤ ms) :
    vx_W p l e R s m args below meth c H locs cells slots (vx_MQ below Qc XC args s mc ms free) (F0 m pc ls rest) q := by
  intro T hT X
  obtain ⟨st1, hrun, hend, hW, hsm⟩ := X.leaveThrown q (g := F0 m pc ls rest) rfl rfl rfl hout hlocks
  have hcell9 : (T.setFrames (.throwing q :: below)).heap[q]? = some ce := by
    show T.heap[q]? = some ce
    rw [hT]; exact hcell
  exact ⟨_, st1, .threw q, hrun, hend, Or.inr ⟨q, rfl, E, ce, locs, hx _ hT hW.alike, hcell9, hv, hcl, hW, hsm.mono hc hs, hf⟩⟩
theorem vx_frame {U : State} {k n : Nat} (h : s.sameButNew ({ U with vm := s.vm } : State) locs k n) : s.heap.size ≤ U.heap.size ∧ ∀ q : Nat, q < s.heap.size → (∀ z ∈ locs, z.base ≠ q) → U.heap[q]? = s.heap[q]? := by
  obtain ⟨-, h2, -, -, -, h6⟩ := h
  refine ⟨h2, fun q hq hz => ?_⟩
  obtain ⟨c9, e1, e2, e3, e4⟩ := h6 q _ (Array.getElem?_eq_getElem hq)
  have hs : c9.slots = (s.heap[q]).slots := Array.ext_getElem? fun i => e4 i fun hm => hz _ hm rfl
  have h9 : c9 = s.heap[q] := by
    rw [hs] at e2
    exact e2
  have e5 : U.heap[q]? = some c9 := e1
  rw [e5, h9, Array.getElem?_eq_getElem hq]
/-- the words of a throw but the four that speak of the heap -/
def vx_no (w : Cond) : Bool := decide (w ≠ .isRef (.static Bundle.tN "UNASSIGNED_STACK" Bundle.steD)) && decide (w ≠ .isRef (.static Bundle.tN "SUPPRESSED_SENTINEL" Bundle.listD)) && decide (w ≠ .laysStatic Bundle.tN "UNASSIGNED_STACK" Bundle.steD) && decide (w ≠ .laysStatic Bundle.tN "SUPPRESSED_SENTINEL" Bundle.listD)
def vx_at0 (own : String) (ic : Nat) (X : String) (names : List String) : List Cond := (Bundle.ownAtoms0 own ic X names).filter vx_no
def vx_atS (own : String) (ic : Nat) (X : String) (names : List String) : List Cond := (Bundle.ownAtoms own ic X names).filter vx_no
/-- a word that the tables alone decide, or a good one -/
def vx_ot (w : Cond) : Bool := w.onTables || goodWord w
theorem vx_ot_at {args a' : Array Value} {s U : State} {w : Cond} (hW : s.WarmedH U.vm) (hvm : s.vm = U.vm) (hg : vx_ot w = true) (h : w.before args s = true) : w.before a' U = true := by
  simp only [vx_ot, Bool.or_eq_true] at hg
  rcases hg with hg | hg
  · exact va_tabs hg hvm h
  · exact word_at hW (good_of_word hg) h
/-- a list's words: the good ones out of the method's own list, the others by premises of their own -/
theorem vx_hat {args : Array Value} {s : State} {L B : List Cond} (h1 : ∀ w ∈ L.filter goodWord, w.before args s = true) (h2 : ∀ w ∈ L.filter (fun w => !goodWord w), w ∈ B) (h3 : ∀ w ∈ B, w.before args s = true) : ∀ w ∈ L, w.before args s = true := by
  intro w hw
  by_cases g : goodWord w = true
  · exact h1 w (List.mem_filter.mpr ⟨hw, g⟩)
  · refine h3 w (h2 w (List.mem_filter.mpr ⟨hw, ?_⟩))
    show (!goodWord w) = true
    cases hgw : goodWord w
    · rfl
    · exact absurd hgw g
theorem vx_c {args : Array Value} {s : State} {w : Cond} {B : List Cond} (h : w.before args s = true) (t : ∀ w ∈ B, w.before args s = true) : ∀ w' ∈ w :: B, w'.before args s = true := fun w' h' => (List.mem_cons.mp h').elim (fun e => by rw [e]; exact h) (t w')
theorem vx_n {args : Array Value} {s : State} : ∀ w ∈ ([] : List Cond), w.before args s = true := fun _ h => nomatch h
theorem vx_own {args : Array Value} {s : State} {L : List Cond} (h1 : ∀ w ∈ L.filter vx_no, w.before args s = true)
    (hU : (Cond.isRef (.static Bundle.tN "UNASSIGNED_STACK" Bundle.steD)).before args s = true) (hN : (Cond.isRef (.static Bundle.tN "SUPPRESSED_SENTINEL" Bundle.listD)).before args s = true)
    (lU : (Cond.laysStatic Bundle.tN "UNASSIGNED_STACK" Bundle.steD).before args s = true) (lN : (Cond.laysStatic Bundle.tN "SUPPRESSED_SENTINEL" Bundle.listD).before args s = true) : ∀ w ∈ L, w.before args s = true := by
  intro w hw
  by_cases e1 : w = .isRef (.static Bundle.tN "UNASSIGNED_STACK" Bundle.steD)
  · rw [e1]; exact hU
  · by_cases e2 : w = .isRef (.static Bundle.tN "SUPPRESSED_SENTINEL" Bundle.listD)
    · rw [e2]; exact hN
    · by_cases e3 : w = .laysStatic Bundle.tN "UNASSIGNED_STACK" Bundle.steD
      · rw [e3]; exact lU
      · by_cases e4 : w = .laysStatic Bundle.tN "SUPPRESSED_SENTINEL" Bundle.listD
        · rw [e4]; exact lN
        · exact h1 w (List.mem_filter.mpr ⟨hw, by unfold vx_no; rw [decide_eq_true e1, decide_eq_true e2, decide_eq_true e3, decide_eq_true e4]; rfl⟩)
/-- where a static field lies, its class's statics cell in H -/
def vx_L (C n d : String) (A : Nat → Prop) (U : State) (H : Heap) : Prop := ∃ (c : ClassId) (k : Class) (i : Nat) (f : Field) (a : Nat) (cell : Cell), U.vm.findClass C = some c ∧ U.fieldFound? C n d = some (c, k, i, f) ∧ f.isStatic = true ∧ k.statics = some a ∧ H[a]? = some cell ∧ cell.vm.isStatics = true ∧ cell.cls = c ∧ f.slot < cell.slots.size ∧ k.staticTypes[f.slot]? = some f.type ∧ ¬ A a
theorem vx_L.moved {C n d : String} {A : Nat → Prop} {u U : State} {H : Heap} (hvm : u.vm.Alike U.vm) (h : vx_L C n d A u H) : vx_L C n d A U H := by
  obtain ⟨c, k, i, f, a, cell, h1, h2, h3, h4, h5, h6, h7, h8, h9, h10⟩ := h
  obtain ⟨k', hi', he⟩ := State.fieldFound?_setVm hvm h2
  exact ⟨c, k', i, f, a, cell, by rw [hvm.findClass]; exact h1, hi', h3, by rw [he]; exact h4, h5, h6, h7, h8, by rw [he]; exact h9, h10⟩
theorem vx_L.kept {C n d : String} {A : Nat → Prop} {U : State} {H H1 : Heap} (h : vx_L C n d A U H) (hq : ∀ a : Nat, a < H.size → ¬ A a → H1[a]? = H[a]?) : vx_L C n d A U H1 := by
  obtain ⟨c, k, i, f, a, cell, h1, h2, h3, h4, h5, h6, h7, h8, h9, h10⟩ := h
  exact ⟨c, k, i, f, a, cell, h1, h2, h3, h4, by rw [hq a (Array.getElem?_eq_some_iff.mp h5).1 h10]; exact h5, h6, h7, h8, h9, h10⟩
theorem vx_L.narrow {C n d : String} {A B : Nat → Prop} {U : State} {H : Heap} (h : vx_L C n d A U H) (hAB : ∀ q, B q → A q) : vx_L C n d B U H := by
  obtain ⟨c, k, i, f, a, cell, h1, h2, h3, h4, h5, h6, h7, h8, h9, h10⟩ := h
  exact ⟨c, k, i, f, a, cell, h1, h2, h3, h4, h5, h6, h7, h8, h9, fun z => h10 (hAB _ z)⟩
theorem vx_L.word {C n d : String} {A : Nat → Prop} {s : State} {args : Array Value} (h : vx_L C n d A s s.heap) : (Cond.laysStatic C n d).before args s = true := by
  obtain ⟨c, k, i, f, a, cell, h1, h2, h3, h4, h5, h6, h7, h8, h9, -⟩ := h
  show (Cond.laysStatic C n d).holds args s none s [] = true
  exact Cond.laysStatic_of h1 h2 h3 h4 h5 h6 h7 h8 h9
/-- .. and what it holds: null or some reference -/
def vx_Zq (C n d : String) (A : Nat → Prop) (U : State) (H : Heap) : Prop := va_Zq C n d A U H ∧ vx_L C n d A U H
theorem vx_Zq.moved {C n d : String} {A : Nat → Prop} {u U : State} {H : Heap} (hvm : u.vm.Alike U.vm) (h : vx_Zq C n d A u H) : vx_Zq C n d A U H := ⟨va_Zq.moved hvm h.1, vx_L.moved hvm h.2⟩
theorem vx_Zq.kept {C n d : String} {A : Nat → Prop} {U : State} {H H1 : Heap} (h : vx_Zq C n d A U H) (hq : ∀ a : Nat, a < H.size → ¬ A a → H1[a]? = H[a]?) : vx_Zq C n d A U H1 := ⟨va_Zq.kept h.1 hq, vx_L.kept h.2 hq⟩
theorem vx_Zq.narrow {C n d : String} {A B : Nat → Prop} {U : State} {H : Heap} (h : vx_Zq C n d A U H) (hAB : ∀ q, B q → A q) : vx_Zq C n d B U H := ⟨va_Zq.narrow h.1 hAB, vx_L.narrow h.2 hAB⟩
theorem vx_Zqof {args : Array Value} {s : State} {C n d : String} {A : Nat → Prop} (hl : (Cond.laysStatic C n d).before args s = true) (hini : (Cond.initialized C).before args s = true) (h : (Cond.isRef (.static C n d)).before args s = true) (hA : ∀ a : Nat, a < s.heap.size → ¬ A a) : vx_Zq C n d A s s.heap := by
  refine ⟨va_Zqof hl hini h hA, ?_⟩
  obtain ⟨c, k, i, f, a, cell, h1, h2, h3, h4, h5, h6, h7, h8, h9⟩ := Cond.laysStatic_spec hl
  exact ⟨c, k, i, f, a, cell, h1, h2, h3, h4, h5, h6, h7, h8, h9, hA a (Array.getElem?_eq_some_iff.mp h5).1⟩
theorem vx_isRef {C n d : String} {v : Value} {A : Nat → Prop} {s : State} {args : Array Value} (h : va_Z C n d v A s s.heap) (hv : v.isRef = true) : (Cond.isRef (.static C n d)).before args s = true := by
  obtain ⟨cf, kf, fi, f, a, cell, h1, h2, h3, h4, h5, h6, h7, -⟩ := h
  have he : (Term.static C n d).eval args s none [] s = some v := by
    simp [Term.eval, State.fieldNamed?, h1, h2, h4, h5, h6, h7]
  simp only [Cond.before, Cond.holds, Cond.value, he]
  cases v <;> simp_all [Value.isRef]
theorem vx_isRefq {C n d : String} {A : Nat → Prop} {s : State} {args : Array Value} (h : va_Zq C n d A s s.heap) : (Cond.isRef (.static C n d)).before args s = true := by
  rcases h with h | ⟨t, h⟩
  · exact vx_isRef h rfl
  · exact vx_isRef h rfl
/-- the same frame, seen from here: as if the method were called anew in this heap -/
theorem vx_rebase {T : State} (X : Stand p l e R s m args below meth c T locs cells slots) {R' : Room} (hf : R'.frames ≤ R.frames) (hl : R'.locals ≤ R.locals) (hc : cells + R'.cells ≤ R.cells) (hs : slots + R'.slots ≤ R.slots) :
    Stand p l e R' ((T.setVm s.vm).setFrames (.invoking m args :: below)) m args below meth c T [] 0 0 := by
  have htop : (T.setVm s.vm).topJava?.isSome := X.here.top
  have hF : ((T.setVm s.vm).setFrames (.invoking m args :: below)).frames = .invoking m args :: below := State.frames_setFrames _ (State.cur_lt_of_top htop)
  obtain ⟨g₀, hg0⟩ := Option.isSome_iff_exists.mp htop
  obtain ⟨r, hr⟩ := State.topJava?_eq_some.mp hg0
  have hl9 : e.platform.stackLimits (T.setVm s.vm).me = e.platform.stackLimits s.me := X.limits
  have hb9 : (T.setVm s.vm).me.stackBytes = s.me.stackBytes := X.bytes
  refine ⟨X.admits, X.cas, X.clock, hF, ?_, X.hears, X.method, X.code, X.here, X.tail, X.warmed, ?_, ?_, ?_⟩
  · have h := X.room
    have hU : ((T.setVm s.vm).setFrames (.invoking m args :: below)).localsInUse = s.localsInUse := by
      rw [State.localsInUse_invoking hF (meth := meth) (c := c) X.method X.code, State.localsInUse_invoking X.frames X.method X.code]
    simp only [State.hasRoom, Bool.and_eq_true, decide_eq_true_eq] at h ⊢
    obtain ⟨⟨⟨⟨h1, h2, h3, h4, h5, h6⟩, h7⟩, h8⟩, h9⟩ := h
    rw [X.frames, List.length_cons] at h2 h3
    have q1 := X.heapSize
    have q2 := X.used
    simp only [hF, hU, List.length_cons, State.stackLimits_setFrames, State.stackBytes_setFrames, hl9, hb9]
    refine ⟨⟨⟨⟨by omega, by omega, by omega, by omega, by omega, h6⟩, ?_⟩, ?_⟩, X.book⟩
    · show T.heap.size + R'.cells ≤ e.platform.maxCells
      omega
    · show T.slotsUsed + R'.slots ≤ e.platform.maxSlots
      omega
  · rw [State.stackLimits_setFrames]; rfl
  · rw [State.stackBytes_setFrames]; rfl
  · refine ⟨?_, Nat.le_refl _, Nat.le_refl _, ?_, ?_, fun a c9 h9 => ⟨c9, h9, rfl, rfl, fun _ _ => rfl⟩⟩
    · obtain ⟨t, ht, -⟩ := State.frames_cons hr
      show T.setVm s.vm = { ((T.setVm s.vm).setFrames (.invoking m args :: below)).setFrames (T.setVm s.vm).frames with heap := T.heap, slotsUsed := T.slotsUsed }
      rw [State.setFrames_setFrames, State.setFrames_self ht]
      rfl
    · show T.slotsUsed = T.slotsUsed + ((T.heap.toList.drop T.heap.size).map (·.slots.size)).sum
      rw [List.drop_eq_nil_of_le (Nat.le_of_eq Array.length_toList)]
      rfl
    · show ((T.heap.toList.drop T.heap.size).map (·.slots.size)).sum ≤ 0
      rw [List.drop_eq_nil_of_le (Nat.le_of_eq Array.length_toList)]
      exact Nat.le_refl _
/-- 'throw new E()': new; dup; invokespecial; athrow -/
theorem vx_throw0 {cc : ByteArray} {pc : Nat} (hexec : p.tables.exec = Jvm.exec) (hb : c.code = cc) (hl : l.stackTraces = false) {own cls : String} {names : List String} {ik ic mc ms : Nat} {A : Nat → Prop}
    (hown : s.vm.findClass own = some m.cls) (hcls : Bundle.fit cls = true) (hnames : ∀ n ∈ names, Bundle.fit n = true)
    (hk : (Cond.classLink own ik cls).before args s = true) (hini : (Cond.initialized cls).before args s = true) (hat : ∀ w ∈ vx_at0 own ic cls names, w.before args s = true)
    (hgood : ∀ w ∈ Cond.classLink own ik cls :: Cond.initialized cls :: vx_at0 own ic cls names, vx_ot w = true)
    (hU : vx_Zq Bundle.tN "UNASSIGNED_STACK" Bundle.steD A s s.heap) (hN : vx_Zq Bundle.tN "SUPPRESSED_SENTINEL" Bundle.listD A s s.heap) (hS : va_S A s.heap H locs) (hsize : ls.size = c.maxLocals)
    (d0 : decode cc pc = .ok (.new ik, 3)) (d3 : decode cc (pc + 3) = .ok (.dup, 1)) (d4 : decode cc (pc + 4) = .ok (.invokespecial ic, 3)) (d7 : decode cc (pc + 7) = .ok (.athrow, 1))
    (hout : ∀ x ∈ c.exceptionTable.toList, covers x (pc + 7) = false)
    (hRframes : names.length + 3 < R.frames) (hRlocals : (rest.map fun v => v.category).sum + (13 * (names.length + 1) + 42) ≤ R.locals) (hRcells : cells + 1 ≤ R.cells) (hRslots : slots + 6 ≤ R.slots) (hlocks : meth.locks = false)
    (hx : ∀ t : State, s.vm.Alike t.vm → H.size ≤ t.heap.size → (∀ q : Nat, q < H.size → t.heap[q]? = H[q]?) → XC cls s t)
    (hf : ∀ z ∈ locs, free z.base) (hc : cells + 1 ≤ mc) (hs : slots + 6 ≤ ms) :
    W p l e R s m args below meth c H locs cells slots (vx_MQ below Qc XC args s mc ms free) (F0 m pc ls rest) := by
  intro T hT X
  have htr : e.platform.stackTraces = false := (show e.platform.stackTraces = l.stackTraces by rw [X.admits.platform]).trans hl
  have Y := vx_rebase X (R' := { frames := R.frames, locals := R.locals, cells := 1, slots := 6 }) (Nat.le_refl _) (Nat.le_refl _) hRcells hRslots
  obtain ⟨s', hA⟩ : ∃ z, z = (T.setVm s.vm).setFrames (.invoking m args :: below) := ⟨_, rfl⟩
  rw [← hA] at Y
  have hvm : s'.vm = s.vm := by rw [hA]; rfl
  have hhp : s'.heap = H := by rw [hA]; exact hT
  have hW0 : s.WarmedH s'.vm := by rw [hvm]; exact State.WarmedH.refl s
  have hat' : ∀ w ∈ vx_at0 own ic cls names, w.before args s' = true := fun w hw => vx_ot_at hW0 hvm.symm (hgood w (List.mem_cons_of_mem _ (List.mem_cons_of_mem _ hw))) (hat w hw)
  have hk' : (Cond.classLink own ik cls).before args s' = true := vx_ot_at hW0 hvm.symm (hgood _ List.mem_cons_self) hk
  have hini' : (Cond.initialized cls).before args s' = true := vx_ot_at hW0 hvm.symm (hgood _ (List.mem_cons_of_mem _ List.mem_cons_self)) hini
  have hU' : vx_Zq Bundle.tN "UNASSIGNED_STACK" Bundle.steD A s' s'.heap := by rw [hhp]; exact vx_Zq.moved hW0.alike (hU.kept hS.2.1)
  have hN' : vx_Zq Bundle.tN "SUPPRESSED_SENTINEL" Bundle.listD A s' s'.heap := by rw [hhp]; exact vx_Zq.moved hW0.alike (hN.kept hS.2.1)
  have h : ∀ w ∈ Bundle.ownAtoms0 own ic cls names, w.before args s' = true := vx_own hat' (vx_isRefq hU'.1) (vx_isRefq hN'.1) hU'.2.word hN'.2.word
  have hown' : s'.vm.findClass own = some m.cls := by rw [hvm]; exact hown
  have hins : (Cond.instantiable cls 6).before args s' = true := h _ (by simp [Bundle.ownAtoms0])
  obtain ⟨vm₁, cX, kX, hfX, hkX, -, -, X₁, st1⟩ := Y.newCold hexec (own := own) (C := cls) (index := ik) (n := 6) hown' hk' hins hini'
    (g := F0 m pc ls rest) rfl (by rw [hb]; exact d0) (Nat.le_refl _) (Nat.le_refl _)
  generalize hT1 : (T.setVm vm₁).pushCell { cls := cX, slots := kX.instanceTypes.map defaultValue, vm := .none } = T1 at X₁ st1
  have hcat : (Value.ref T.heap.size).category = 1 := rfl
  have hcellA : T1.heap[T.heap.size]? = some (freshCell cX kX) := by rw [← hT1]; exact State.heap_pushCell_size _ _
  have d3' : decode c.code (pc + 3) = .ok (.dup, 1) := by rw [hb]; exact d3
  obtain ⟨U, hsteps, hrun, hend, hW, hsame, ce, hce, hO⟩ := X₁.ctorThrow0 hexec htr (own := own) (cls := cls) (names := names) (ic := ic) hown' hcls hnames h (fun x hx => nomatch hx) hfX hkX hcellA (by rw [hhp, hT]; exact Nat.le_refl _)
    (g := { method := m, pc := pc + 4, locals := ls, stack := .ref T.heap.size :: .ref T.heap.size :: rest, locked := none }) rfl hsize rfl rfl (rest := rest) rfl
    (by rw [hb]; exact d4) (by rw [hb]; exact d7) hout hRframes (by simp only [List.map_cons, List.sum_cons, hcat]; omega) hlocks
  obtain ⟨f1, f2⟩ := vx_frame hsame
  rw [hhp] at f1 f2
  have hWs : s.WarmedH U.vm := State.WarmedH.trans hW0 hW
  have hcl : s.vm.findClass cls = some ce.cls := by
    have h9 := hO.cls
    rw [hvm] at h9
    exact h9
  have hall : s.sameButNew ({ U with vm := s.vm } : State) locs mc ms := by
    subst hA
    obtain ⟨e1, e2⟩ := hsame
    rw [State.setFrames_setFrames] at e1
    have h2 : (T.setVm s.vm).sameButNew ({ U with vm := s.vm } : State) [] (0 + 1) (0 + 6) := ⟨e1, e2⟩
    have h3 := X.same.trans h2
    rw [List.append_nil] at h3
    exact h3.mono hc hs
  refine ⟨U, ?_, .threw T.heap.size, hrun, hend, Or.inr ⟨T.heap.size, rfl, cls, ce, locs, hx U hWs.alike f1 (fun q hq => f2 q hq (fun z hz => nomatch hz)), hce, hO.vm, hcl, hWs, hall, hf⟩⟩
  refine st1 _ ?_
  show Steps p.tables e below (T1.setTop { method := m, pc := pc + 3, locals := ls, stack := .ref T.heap.size :: rest, locked := none }) _
  jvm_step X₁.here [X₁.here.top, hexec, d3', Value.category]
  exact hsteps
/-- 'throw new E("text")': new; dup; ldc; invokespecial; athrow -/
theorem vx_throwS {cc : ByteArray} {pc : Nat} (hexec : p.tables.exec = Jvm.exec) (hb : c.code = cc) (hl : l.stackTraces = false) {own cls text : String} {names : List String} {ik is ic mc ms sa : Nat} {A : Nat → Prop}
    (hown : s.vm.findClass own = some m.cls) (hcls : Bundle.fit cls = true) (hnames : ∀ n ∈ names, Bundle.fit n = true)
    (hk : (Cond.classLink own ik cls).before args s = true) (hini : (Cond.initialized cls).before args s = true) (hstr : vk_R own is text sa s) (hat : ∀ w ∈ vx_atS own ic cls names, w.before args s = true)
    (hgood : ∀ w ∈ Cond.classLink own ik cls :: Cond.initialized cls :: vx_atS own ic cls names, vx_ot w = true)
    (hU : vx_Zq Bundle.tN "UNASSIGNED_STACK" Bundle.steD A s s.heap) (hN : vx_Zq Bundle.tN "SUPPRESSED_SENTINEL" Bundle.listD A s s.heap) (hS : va_S A s.heap H locs) (hsize : ls.size = c.maxLocals)
    (d0 : decode cc pc = .ok (.new ik, 3)) (d3 : decode cc (pc + 3) = .ok (.dup, 1)) (d4 : decode cc (pc + 4) = .ok (.ldc is, 2)) (d6 : decode cc (pc + 6) = .ok (.invokespecial ic, 3)) (d9 : decode cc (pc + 9) = .ok (.athrow, 1))
    (hout : ∀ x ∈ c.exceptionTable.toList, covers x (pc + 9) = false)
    (hRframes : names.length + 3 < R.frames) (hRlocals : (rest.map fun v => v.category).sum + (13 * (names.length + 1) + 43) ≤ R.locals) (hRcells : cells + 1 ≤ R.cells) (hRslots : slots + 6 ≤ R.slots) (hlocks : meth.locks = false)
    (hx : ∀ t : State, s.vm.Alike t.vm → H.size ≤ t.heap.size → (∀ q : Nat, q < H.size → t.heap[q]? = H[q]?) → XC cls s t)
    (hf : ∀ z ∈ locs, free z.base) (hc : cells + 1 ≤ mc) (hs : slots + 6 ≤ ms) :
    W p l e R s m args below meth c H locs cells slots (vx_MQ below Qc XC args s mc ms free) (F0 m pc ls rest) := by
  intro T hT X
  have htr : e.platform.stackTraces = false := (show e.platform.stackTraces = l.stackTraces by rw [X.admits.platform]).trans hl
  have Y := vx_rebase X (R' := { frames := R.frames, locals := R.locals, cells := 1, slots := 6 }) (Nat.le_refl _) (Nat.le_refl _) hRcells hRslots
  obtain ⟨s', hA⟩ : ∃ z, z = (T.setVm s.vm).setFrames (.invoking m args :: below) := ⟨_, rfl⟩
  rw [← hA] at Y
  have hvm : s'.vm = s.vm := by rw [hA]; rfl
  have hhp : s'.heap = H := by rw [hA]; exact hT
  have hW0 : s.WarmedH s'.vm := by rw [hvm]; exact State.WarmedH.refl s
  have hat' : ∀ w ∈ vx_atS own ic cls names, w.before args s' = true := fun w hw => vx_ot_at hW0 hvm.symm (hgood w (List.mem_cons_of_mem _ (List.mem_cons_of_mem _ hw))) (hat w hw)
  have hk' : (Cond.classLink own ik cls).before args s' = true := vx_ot_at hW0 hvm.symm (hgood _ List.mem_cons_self) hk
  have hini' : (Cond.initialized cls).before args s' = true := vx_ot_at hW0 hvm.symm (hgood _ (List.mem_cons_of_mem _ List.mem_cons_self)) hini
  have hU' : vx_Zq Bundle.tN "UNASSIGNED_STACK" Bundle.steD A s' s'.heap := by rw [hhp]; exact vx_Zq.moved hW0.alike (hU.kept hS.2.1)
  have hN' : vx_Zq Bundle.tN "SUPPRESSED_SENTINEL" Bundle.listD A s' s'.heap := by rw [hhp]; exact vx_Zq.moved hW0.alike (hN.kept hS.2.1)
  have h : ∀ w ∈ Bundle.ownAtoms own ic cls names, w.before args s' = true := vx_own hat' (vx_isRefq hU'.1) (vx_isRefq hN'.1) hU'.2.word hN'.2.word
  have hown' : s'.vm.findClass own = some m.cls := by rw [hvm]; exact hown
  have hins : (Cond.instantiable cls 6).before args s' = true := h _ (by simp [Bundle.ownAtoms])
  obtain ⟨vm₁, cX, kX, hfX, hkX, -, -, X₁, st1⟩ := Y.newCold hexec (own := own) (C := cls) (index := ik) (n := 6) hown' hk' hins hini'
    (g := F0 m pc ls rest) rfl (by rw [hb]; exact d0) (Nat.le_refl _) (Nat.le_refl _)
  generalize hT1 : (T.setVm vm₁).pushCell { cls := cX, slots := kX.instanceTypes.map defaultValue, vm := .none } = T1 at X₁ st1
  have hcat : (Value.ref T.heap.size).category = 1 := rfl
  have hcellA : T1.heap[T.heap.size]? = some (freshCell cX kX) := by rw [← hT1]; exact State.heap_pushCell_size _ _
  have d3' : decode c.code (pc + 3) = .ok (.dup, 1) := by rw [hb]; exact d3
  have d4' : decode c.code (pc + 4) = .ok (.ldc is, 2) := by rw [hb]; exact d4
  have hstr' : vk_R own is text sa s' := vk_R.warm hW0 hstr
  obtain ⟨U, hsteps, hrun, hend, hW, hsame, ce, hce, hO⟩ := X₁.ctorThrowS hexec htr (own := own) (cls := cls) (names := names) (ic := ic) hown' hcls hnames h (fun x hx => nomatch hx) hfX hkX hcellA (by rw [hhp, hT]; exact Nat.le_refl _) (msg := .ref sa) rfl
    (g := { method := m, pc := pc + 6, locals := ls, stack := .ref sa :: .ref T.heap.size :: .ref T.heap.size :: rest, locked := none }) rfl hsize rfl rfl (rest := rest) rfl
    (by rw [hb]; exact d6) (by rw [hb]; exact d9) hout hRframes (by simp only [List.map_cons, List.sum_cons, hcat]; omega) hlocks
  obtain ⟨f1, f2⟩ := vx_frame hsame
  rw [hhp] at f1 f2
  have hWs : s.WarmedH U.vm := State.WarmedH.trans hW0 hW
  have hcl : s.vm.findClass cls = some ce.cls := by
    have h9 := hO.cls
    rw [hvm] at h9
    exact h9
  have hall : s.sameButNew ({ U with vm := s.vm } : State) locs mc ms := by
    subst hA
    obtain ⟨e1, e2⟩ := hsame
    rw [State.setFrames_setFrames] at e1
    have h2 : (T.setVm s.vm).sameButNew ({ U with vm := s.vm } : State) [] (0 + 1) (0 + 6) := ⟨e1, e2⟩
    have h3 := X.same.trans h2
    rw [List.append_nil] at h3
    exact h3.mono hc hs
  refine ⟨U, ?_, .threw T.heap.size, hrun, hend, Or.inr ⟨T.heap.size, rfl, cls, ce, locs, hx U hWs.alike f1 (fun q hq => f2 q hq (fun z hz => nomatch hz)), hce, hO.vm, hcl, hWs, hall, hf⟩⟩
  refine st1 _ ?_
  show Steps p.tables e below (T1.setTop { method := m, pc := pc + 3, locals := ls, stack := .ref T.heap.size :: rest, locked := none }) _
  jvm_step X₁.here [X₁.here.top, hexec, d3', Value.category]
  exact X₁.ldcString hexec (own := own) (text := text) (index := is) (a := sa) hown' hstr'.1 hstr'.2
    (g := { method := m, pc := pc + 4, locals := ls, stack := .ref T.heap.size :: .ref T.heap.size :: rest, locked := none }) rfl d4' _ hsteps
/-- 'throw new E("text")', the text by a wide index -/
theorem vx_throwSW {cc : ByteArray} {pc : Nat} (hexec : p.tables.exec = Jvm.exec) (hb : c.code = cc) (hl : l.stackTraces = false) {own cls text : String} {names : List String} {ik is ic mc ms sa : Nat} {A : Nat → Prop}
    (hown : s.vm.findClass own = some m.cls) (hcls : Bundle.fit cls = true) (hnames : ∀ n ∈ names, Bundle.fit n = true)
    (hk : (Cond.classLink own ik cls).before args s = true) (hini : (Cond.initialized cls).before args s = true) (hstr : vk_R own is text sa s) (hat : ∀ w ∈ vx_atS own ic cls names, w.before args s = true)
    (hgood : ∀ w ∈ Cond.classLink own ik cls :: Cond.initialized cls :: vx_atS own ic cls names, vx_ot w = true)
    (hU : vx_Zq Bundle.tN "UNASSIGNED_STACK" Bundle.steD A s s.heap) (hN : vx_Zq Bundle.tN "SUPPRESSED_SENTINEL" Bundle.listD A s s.heap) (hS : va_S A s.heap H locs) (hsize : ls.size = c.maxLocals)
    (d0 : decode cc pc = .ok (.new ik, 3)) (d3 : decode cc (pc + 3) = .ok (.dup, 1)) (d4 : decode cc (pc + 4) = .ok (.ldc_w is, 3)) (d7 : decode cc (pc + 7) = .ok (.invokespecial ic, 3)) (d10 : decode cc (pc + 10) = .ok (.athrow, 1))
    (hout : ∀ x ∈ c.exceptionTable.toList, covers x (pc + 10) = false)
    (hRframes : names.length + 3 < R.frames) (hRlocals : (rest.map fun v => v.category).sum + (13 * (names.length + 1) + 43) ≤ R.locals) (hRcells : cells + 1 ≤ R.cells) (hRslots : slots + 6 ≤ R.slots) (hlocks : meth.locks = false)
    (hx : ∀ t : State, s.vm.Alike t.vm → H.size ≤ t.heap.size → (∀ q : Nat, q < H.size → t.heap[q]? = H[q]?) → XC cls s t)
    (hf : ∀ z ∈ locs, free z.base) (hc : cells + 1 ≤ mc) (hs : slots + 6 ≤ ms) :
    W p l e R s m args below meth c H locs cells slots (vx_MQ below Qc XC args s mc ms free) (F0 m pc ls rest) := by
  intro T hT X
  have htr : e.platform.stackTraces = false := (show e.platform.stackTraces = l.stackTraces by rw [X.admits.platform]).trans hl
  have Y := vx_rebase X (R' := { frames := R.frames, locals := R.locals, cells := 1, slots := 6 }) (Nat.le_refl _) (Nat.le_refl _) hRcells hRslots
  obtain ⟨s', hA⟩ : ∃ z, z = (T.setVm s.vm).setFrames (.invoking m args :: below) := ⟨_, rfl⟩
  rw [← hA] at Y
  have hvm : s'.vm = s.vm := by rw [hA]; rfl
  have hhp : s'.heap = H := by rw [hA]; exact hT
  have hW0 : s.WarmedH s'.vm := by rw [hvm]; exact State.WarmedH.refl s
  have hat' : ∀ w ∈ vx_atS own ic cls names, w.before args s' = true := fun w hw => vx_ot_at hW0 hvm.symm (hgood w (List.mem_cons_of_mem _ (List.mem_cons_of_mem _ hw))) (hat w hw)
  have hk' : (Cond.classLink own ik cls).before args s' = true := vx_ot_at hW0 hvm.symm (hgood _ List.mem_cons_self) hk
  have hini' : (Cond.initialized cls).before args s' = true := vx_ot_at hW0 hvm.symm (hgood _ (List.mem_cons_of_mem _ List.mem_cons_self)) hini
  have hU' : vx_Zq Bundle.tN "UNASSIGNED_STACK" Bundle.steD A s' s'.heap := by rw [hhp]; exact vx_Zq.moved hW0.alike (hU.kept hS.2.1)
  have hN' : vx_Zq Bundle.tN "SUPPRESSED_SENTINEL" Bundle.listD A s' s'.heap := by rw [hhp]; exact vx_Zq.moved hW0.alike (hN.kept hS.2.1)
  have h : ∀ w ∈ Bundle.ownAtoms own ic cls names, w.before args s' = true := vx_own hat' (vx_isRefq hU'.1) (vx_isRefq hN'.1) hU'.2.word hN'.2.word
  have hown' : s'.vm.findClass own = some m.cls := by rw [hvm]; exact hown
  have hins : (Cond.instantiable cls 6).before args s' = true := h _ (by simp [Bundle.ownAtoms])
  obtain ⟨vm₁, cX, kX, hfX, hkX, -, -, X₁, st1⟩ := Y.newCold hexec (own := own) (C := cls) (index := ik) (n := 6) hown' hk' hins hini'
    (g := F0 m pc ls rest) rfl (by rw [hb]; exact d0) (Nat.le_refl _) (Nat.le_refl _)
  generalize hT1 : (T.setVm vm₁).pushCell { cls := cX, slots := kX.instanceTypes.map defaultValue, vm := .none } = T1 at X₁ st1
  have hcat : (Value.ref T.heap.size).category = 1 := rfl
  have hcellA : T1.heap[T.heap.size]? = some (freshCell cX kX) := by rw [← hT1]; exact State.heap_pushCell_size _ _
  have d3' : decode c.code (pc + 3) = .ok (.dup, 1) := by rw [hb]; exact d3
  have d4' : decode c.code (pc + 4) = .ok (.ldc_w is, 3) := by rw [hb]; exact d4
  have hstr' : vk_R own is text sa s' := vk_R.warm hW0 hstr
  obtain ⟨U, hsteps, hrun, hend, hW, hsame, ce, hce, hO⟩ := X₁.ctorThrowS hexec htr (own := own) (cls := cls) (names := names) (ic := ic) hown' hcls hnames h (fun x hx => nomatch hx) hfX hkX hcellA (by rw [hhp, hT]; exact Nat.le_refl _) (msg := .ref sa) rfl
    (g := { method := m, pc := pc + 7, locals := ls, stack := .ref sa :: .ref T.heap.size :: .ref T.heap.size :: rest, locked := none }) rfl hsize rfl rfl (rest := rest) rfl
    (by rw [hb]; exact d7) (by rw [hb]; exact d10) hout hRframes (by simp only [List.map_cons, List.sum_cons, hcat]; omega) hlocks
  obtain ⟨f1, f2⟩ := vx_frame hsame
  rw [hhp] at f1 f2
  have hWs : s.WarmedH U.vm := State.WarmedH.trans hW0 hW
  have hcl : s.vm.findClass cls = some ce.cls := by
    have h9 := hO.cls
    rw [hvm] at h9
    exact h9
  have hall : s.sameButNew ({ U with vm := s.vm } : State) locs mc ms := by
    subst hA
    obtain ⟨e1, e2⟩ := hsame
    rw [State.setFrames_setFrames] at e1
    have h2 : (T.setVm s.vm).sameButNew ({ U with vm := s.vm } : State) [] (0 + 1) (0 + 6) := ⟨e1, e2⟩
    have h3 := X.same.trans h2
    rw [List.append_nil] at h3
    exact h3.mono hc hs
  refine ⟨U, ?_, .threw T.heap.size, hrun, hend, Or.inr ⟨T.heap.size, rfl, cls, ce, locs, hx U hWs.alike f1 (fun q hq => f2 q hq (fun z hz => nomatch hz)), hce, hO.vm, hcl, hWs, hall, hf⟩⟩
  refine st1 _ ?_
  show Steps p.tables e below (T1.setTop { method := m, pc := pc + 3, locals := ls, stack := .ref T.heap.size :: rest, locked := none }) _
  jvm_step X₁.here [X₁.here.top, hexec, d3', Value.category]
  exact X₁.ldcStringW hexec (own := own) (text := text) (index := is) (a := sa) hown' hstr'.1 hstr'.2
    (g := { method := m, pc := pc + 4, locals := ls, stack := .ref T.heap.size :: .ref T.heap.size :: rest, locked := none }) rfl d4' _ hsteps
end Ends
section Bodies
variable {l : Launch}
theorem vx_ofW {y : MethodName} {ws ws' : List Cond} {rm : Room} {Pc : Array Value → State → Prop} {Qc : Array Value → State → Outcome → State → Prop} {XC : String → State → State → Prop} {mc ms : Nat} {free : Addr → Prop} {cc : ByteArray} {maxL : Nat} {ret : Option FieldType}
    (hy : plainName y.cls = true) (hw : ws = Cond.code y cc maxL ret :: ws')
    (body : ∀ p e s m args below meth c s₁, BodyLoose p l y (headSpec ws rm) cc maxL ret e s m args below meth c s₁ → c.maxLocals = maxL → (∀ x ∈ c.exceptionTable.toList, False) → Pc args s →
      W p l e (headSpec ws rm).room s m args below meth c s.heap [] 0 0 (vx_MQ below Qc XC args s mc ms free) (entryFrame m args maxL)) : vx_Met l y ws rm Pc Qc XC mc ms free := by
  refine MetFree.of_bodyS (code := cc) (maxLocals := maxL) (ret := ret) hy ?_ ?_
  · intro args s m h hn
    obtain ⟨meth, c, h1, h2, h3, h4, h5, h6, -, -⟩ := Cond.code_spec hn (atoms_spec (ws := ws) h _ (by rw [hw]; exact List.mem_cons_self))
    exact ⟨meth, c, h1, h2, h3, h4, h5, h6⟩
  · intro p e s m args below meth c s₁ B hml hP _
    have hh0 : s₁.heap = s.heap := by rw [B.state]; rfl
    have ht : ∀ x ∈ c.exceptionTable.toList, False := by
      obtain ⟨meth9, c9, h1, h2, -, -, -, -, h7, -⟩ := Cond.code_spec B.named (atoms_spec (ws := ws) B.pre _ (by rw [hw]; exact List.mem_cons_self))
      cases Option.some.inj (h1.symm.trans B.method)
      cases Option.some.inj (h2.symm.trans (Stand.of_body B).code)
      intro x hx
      rw [Array.isEmpty_iff.mp h7] at hx
      cases hx
    obtain ⟨t, a1, o, b1, b2, b3⟩ := body p e s m args below meth c s₁ B hml ht hP s₁ hh0 (Stand.of_body B)
    exact ⟨t, o, a1, b1, b2, b3⟩
/-- the table of a body with handlers -/
theorem vx_table {p : Program} {x y : MethodName} {S : Spec} {cc bytes : ByteArray} {maxL maxL' : Nat} {ret ret' : Option FieldType} {e : Env} {s s₁ : State} {m : MethodId} {args : Array Value} {below : List Frame} {meth : Method} {c : Code} {hh : List (Nat × Nat × Nat × Nat)}
    (B : BodyLoose p l y S cc maxL ret e s m args below meth c s₁) (h : (Cond.codeWith y bytes maxL' ret' hh).before args s = true) : c.exceptionTable.toList = tableOf hh := by
  obtain ⟨m9, meth9, c9, hn9, h1, h2, -, -, h6, -⟩ := Cond.codeWith_spec h
  cases Option.some.inj (hn9.symm.trans B.named)
  cases Option.some.inj (h1.symm.trans B.method)
  cases Option.some.inj (h2.symm.trans (Stand.of_body B).code)
  rw [← h6, table_eq]
end Bodies
end VXA
/-! ===== END ===== -/
/-! ===== BEGIN a static call of a method with an exception table ===== -/
section VXS
variable {p : Program} {l : Launch} {e : Env} {R : Room} {s : State} {m : MethodId} {args : Array Value} {below : List Frame} {meth : Method} {c : Code} {T : State} {H : Heap} {locs : List Loc} {cells slots : Nat}
abbrev vx_CSW (R : Room) (s : State) (args : Array Value) (own : String) (index : Nat) (y : MethodName) (bytes : ByteArray) (maxL : Nat) (ret : Option FieldType) (hh : List (Nat × Nat × Nat × Nat)) (ws : List Cond) (rm : Room) (mc ms n : Nat) : Prop :=
  (rm.cells = mc ∧ rm.slots = ms ∧ rm.frames + 1 ≤ R.frames ∧ 8 + (maxL + 11) + rm.locals ≤ R.locals ∧ (∀ w ∈ ws, ∀ (a' : Array Value) (U : State), s.WarmedH U.vm → w.before a' U = true) ∧ Cond.codeWith y bytes maxL ret hh ∈ ws) ∧
  (Cond.codeWith y bytes maxL ret hh).before args s = true ∧ (Cond.initialized y.cls).before args s = true ∧ (y.cls ≠ "java/lang/invoke/MethodHandle" ∧ y.cls ≠ "java/lang/invoke/VarHandle") ∧
  (∀ sig, parseMethodDescriptor y.desc = some sig → n = sig.parameters.length) ∧ (Cond.methodLink own index y).before args s = true ∧ (Cond.static y).before args s = true
theorem vx_cwSW {own : String} {index maxL mc ms : Nat} {y : MethodName} {bytes : ByteArray} {ret : Option FieldType} {hh : List (Nat × Nat × Nat × Nat)} {Ts ws ws' : List Cond} {rm : Room} (n : Nat) (ht : ∀ w ∈ Ts, w.before args s = true) (hT : GoodIn Ts (va_wsS own index y ws)) (hw : ws = Cond.codeWith y bytes maxL ret hh :: ws') (hrc : rm.cells = mc) (hrs : rm.slots = ms)
    (hd : y.cls ≠ "java/lang/invoke/MethodHandle" ∧ y.cls ≠ "java/lang/invoke/VarHandle" ∧ (parseMethodDescriptor y.desc).map (fun d => d.parameters.length) = some n) (hR : rm.frames + 1 ≤ R.frames ∧ 8 + (maxL + 11) + rm.locals ≤ R.locals) :
    vx_CSW R s args own index y bytes maxL ret hh ws rm mc ms n := by
  have ok : ∀ w ∈ va_wsS own index y ws, w.before args s = true := fun w h => ht w (hT w h).1
  have hG : GoodIn Ts ws := fun w h => hT w (by unfold va_wsS; exact List.mem_append_right _ h)
  have hc : Cond.codeWith y bytes maxL ret hh ∈ ws := by rw [hw]; exact List.mem_cons_self
  refine ⟨⟨hrc, hrs, hR.1, hR.2, pay_in ht hG, hc⟩, ht _ (hG _ hc).1, ok _ (by simp [va_wsS]), ⟨hd.1, hd.2.1⟩, fun sig h => ?_, ok _ (by simp [va_wsS]), ok _ (by simp [va_wsS])⟩
  have h2 := hd.2.2
  rw [h] at h2
  exact (Option.some.inj h2).symm
theorem vx_callSW (X : Stand p l e R s m args below meth c T locs cells slots) (hexec : p.tables.exec = Jvm.exec) {own : String} {index : Nat} {y : MethodName} {bytes : ByteArray} {maxL : Nat} {ret : Option FieldType} {hh : List (Nat × Nat × Nat × Nat)}
    (hown : s.vm.findClass own = some m.cls) (hlink : (Cond.methodLink own index y).before args s = true) (hstat : (Cond.static y).before args s = true) (hinit : (Cond.initialized y.cls).before args s = true)
    (hcode : (Cond.codeWith y bytes maxL ret hh).before args s = true) (hy : y.cls ≠ "java/lang/invoke/MethodHandle" ∧ y.cls ≠ "java/lang/invoke/VarHandle")
    {W9 : Nat} {Pre : Pt → Array Value → Prop} {Post : Pt → Array Value → Option Value → Pt → Prop} (hK : Back l R p e below s args y 3 W9 Pre Post)
    {g : JFrame} (hg : g.method = m) (hsize : g.locals.size = c.maxLocals) {argsL rest : List Value} (hlen : ∀ sig, parseMethodDescriptor y.desc = some sig → argsL.length = sig.parameters.length)
    (hstack : g.stack = argsL.reverse ++ rest) (hW : 2 * g.monitorRoom + (rest.map fun v => v.category).sum ≤ W9) (hdg : decode c.code g.pc = .ok (.invokestatic index, 3))
    (hpre : ∀ vm₁, s.WarmedH vm₁ → Pre ⟨T.setVm vm₁, locs, cells, slots⟩ argsL.toArray) :
    ∃ (v : Option Value) (vm₁ : Vm) (B : Pt), s.WarmedH vm₁ ∧ Stand p l e R s m args below meth c B.U B.locs B.cells B.slots ∧ Post ⟨T.setVm vm₁, locs, cells, slots⟩ argsL.toArray v B ∧
      ∀ target, Steps p.tables e below (B.U.setTop { g with pc := g.pc + 3, stack := v.toList ++ rest }) target → Steps p.tables e below (T.setTop g) target := by
  obtain ⟨mk, methM, cM, hnamed, hmethM, -, -, -, -, -, -, hsigM⟩ := Cond.codeWith_spec hcode
  have hstatic : methM.isStatic = true := Cond.static_spec hnamed hmethM hstat
  obtain ⟨kP, hkP, -⟩ := className_of_methodNamed hnamed
  have hinitP : kP.init = .initialized := Cond.initialized_spec (findClass_of_methodNamed hnamed) hkP hinit
  obtain ⟨vm₁, X₁, hstep₁⟩ := X.invokestatic hexec hown hlink hnamed hmethM hstatic hkP hinitP hy (g := g) hg (argsL := argsL) (rest := rest) (hlen _ hsigM) hstack hdg
  obtain ⟨v, B, X', hpost, hsteps⟩ := hK m meth c ⟨T.setVm vm₁, locs, cells, slots⟩ { g with stack := rest } (.invokestatic index) mk argsL.toArray X₁ hg hsize hdg hW (X₁.named hnamed) (hpre vm₁ X₁.warmed)
  exact ⟨v, vm₁, B, X₁.warmed, X', hpost, fun target h => hstep₁ _ fun acts => by rw [doInvoke_state]; exact hsteps.trans h⟩
theorem vx_runSW {y : MethodName} {bytes cc : ByteArray} {maxL nL mc ms n index : Nat} {ret : Option FieldType} {hh : List (Nat × Nat × Nat × Nat)} {ws : List Cond} {rm : Room} {Pc : Array Value → State → Prop} {Qc : Array Value → State → Outcome → State → Prop} {free : Addr → Prop} {Ts : List Cond} {own : String} {As rest : List Value} {g : JFrame}
    (S : CallFix p m c cc nL s args Ts own) (hM : Met l y ws rm Pc Qc mc ms free) (cw : vx_CSW R s args own index y bytes maxL ret hh ws rm mc ms n) (hp : PreS s H Pc As)
    (hg : g.method = m) (hn : As.length = n) (hsize : g.locals.size = nL) (hstack : g.stack = As.reverse ++ rest) (hW : 2 * g.monitorRoom + (rest.map fun v => v.category).sum ≤ 8) (hdg : decode cc g.pc = .ok (.invokestatic index, 3)) (hf : cells + mc ≤ R.cells ∧ slots + ms ≤ R.slots) :
    va_Run p l e R s m args below meth c H locs cells slots mc ms g rest (Qc As.toArray) (free) := by
  obtain ⟨⟨hrc, hrs, hfr, hlo, hws, hcw⟩, hcode, hini, hy, hlen, hl, hstt⟩ := cw
  have hK : Back l R p e below s args y 3 8 (PreOf R mc ms Pc) (PostOf Qc mc ms free) := va_backW (hh := hh) (bytes := bytes) (maxL := maxL) (ret := ret) hM hp.1 hrc hrs hfr hlo hws hcw (fun a' U hW => word_at hW (Or.inl (by first | rfl | simp [Cond.onTables, Cond.keeps, Cond.steady])) hini)
  obtain ⟨hx, hb, hml, ho, -⟩ := S
  intro T hT X
  obtain ⟨v, vm₁, ⟨U', l2, c2, s2⟩, hW₁, X', ⟨g', mk, t, L, e1, e2, hq, h1, hL, h2, h3⟩, st⟩ := vx_callSW X hx (hh := hh) (bytes := bytes) (maxL := maxL) (ret := ret) ho hl hstt hini hcode hy hK hg (hsize.trans hml.symm) (argsL := As) (rest := rest) (fun sig h => hn.trans (hlen sig h)) hstack hW (by rw [hb]; exact hdg)
    (fun vm₁ hW₁ => ⟨hf.1, hf.2, hp.2 (T.setVm vm₁) hT hW₁⟩)
  dsimp only [Pt.U, Pt.locs, Pt.cells, Pt.slots] at X' e1 e2 h1 h2 h3 st
  subst h1; subst h2; subst h3
  exact ⟨v, (T.setVm vm₁).calling g' mk As.toArray, t, U', L, hT, X', hL, e1, e2, hq, st⟩
/-- not caught here, past rows that name other classes: it goes on to the caller -/
theorem vx_outP {p : Program} {l : Launch} {e : Env} {R : Room} {s : State} {m : MethodId} {args : Array Value} {below : List Frame} {meth : Method} {c : Code} {H : Heap} {locs : List Loc} {cells slots : Nat} {free : Addr → Prop} {ls : Array Slot} {rest : List Value} {Qc : Array Value → State → Outcome → State → Prop} {XC : String → State → State → Prop}
    {pc : Nat} {own E : String} {ce : Cell} {q : Addr} {mc ms : Nat} (hown : s.vm.findClass own = some m.cls) (hlocks : meth.locks = false)
    (hpass : ∀ z ∈ c.exceptionTable.toList, covers z pc = false ∨ (z.catchType ≠ 0 ∧ ∃ nm : String, (Cond.classLink own z.catchType nm).before args s = true ∧ va_Nc E nm s)) (hcell : H[q]? = some ce) (hv : ce.vm = .none) (hcl : s.vm.findClass E = some ce.cls)
    (hx : ∀ t : State, t.heap = H → s.vm.Alike t.vm → XC E s t) (hf : ∀ z ∈ locs, free z.base) (hc : cells ≤ mc) (hs : slots ≤ ms) :
    vx_W p l e R s m args below meth c H locs cells slots (vx_MQ below Qc XC args s mc ms free) (F0 m pc ls rest) q := by
  intro T hT X
  have hpl : e.platform.magicAccessors = ({} : Platform).magicAccessors := by rw [X.admits.platform]
  obtain ⟨vm', hW', X', st⟩ := X.outThrough hlocks q (g := F0 m pc ls rest) rfl rfl rfl (cell := ce) (by rw [hT]; exact hcell) (by rw [hv]; rfl)
    (by obtain ⟨k9, h9, -⟩ := Vm.findClass_spec hcl; exact ⟨k9, h9⟩) (fun z hz => by
      rcases hpass z hz with h | ⟨hz0, nm, hl1, hn1⟩
      · exact Or.inl h
      · obtain ⟨c6, hc6, hcl6⟩ := Cond.classLink_spec hown hl1 e.platform hpl
        obtain ⟨a8, b8, h1, h2, h3⟩ := hn1
        cases Option.some.inj (h1.symm.trans hcl)
        cases Option.some.inj (h2.symm.trans hc6)
        exact Or.inr ⟨hz0, _, hcl6, h3⟩)
  obtain ⟨g₀, hfr⟩ := X'.frames_eq
  have hcell9 : ((T.setVm vm').setFrames (.throwing q :: below)).heap[q]? = some ce := by
    show T.heap[q]? = some ce
    rw [hT]; exact hcell
  have hend : Ended ((T.setVm vm').setFrames (.throwing q :: below)) below (.threw q) := State.frames_setFrames _ (State.cur_lt_of_frames hfr)
  refine ⟨(T.setVm vm').setFrames (.throwing q :: below), ?_, .threw q, X'.here.running, hend, Or.inr ⟨q, rfl, E, ce, locs, hx _ hT (X'.ends _).1.alike, hcell9, hv, hcl, (X'.ends _).1, (X'.ends _).2.mono hc hs, hf⟩⟩
  rw [X.pushThrowing_eq]
  exact st
/-- a thing of a world lies in the heap -/
theorem vx_lt {D : va_G} {cl : List vw_C} {ws : va_W} {H1 : Heap} (h : va_P D cl ws H1) {k : Nat} {q : Nat × va_E} (hk : ws[k]? = some q) : q.1 < H1.size := (h k q hk).lt
end VXS
/-! ===== END ===== -/
/-! ===== BEGIN methods with a table of their own: called by a name, returning or throwing ===== -/
section VXH
/-! vx_backW, vx_callVX, vx_callSX, vx_callVW, vx_runVW, vx_runVX, vx_runSX, vx_ofWH follow the same proofs as their sisters above (Free/Laws.lean, Shelf42/LK1.lean); vx_outP calls Shelf42/NT130.lean (outThrough). -/
section
variable {l : Launch} {R : Room} {p : Program} {e : Env} {below : List Frame} {s : State} {sargs : Array Value} {y : MethodName} {len W9 : Nat}
theorem vx_backW {ws : List Cond} {rm : Room} {Pc : Array Value → State → Prop} {Qc : Array Value → State → Outcome → State → Prop} {XC : String → State → State → Prop} {mc ms : Nat} {free : Addr → Prop} {bytes : ByteArray} {maxL : Nat} {ret : Option FieldType} {hh : List (Nat × Nat × Nat × Nat)}
    (hM : vx_Met l y ws rm Pc Qc XC mc ms free) (hblind : FrameBlind Pc) (hrc : rm.cells = mc) (hrs : rm.slots = ms)
    (hframes : rm.frames + 1 ≤ R.frames) (hlocals : W9 + (maxL + 11) + rm.locals ≤ R.locals)
    (hws : ∀ w ∈ ws, ∀ a' U, s.WarmedH U.vm → w.before a' U = true) (hcode : Cond.codeWith y bytes maxL ret hh ∈ ws) (hinit : ∀ a' U, s.WarmedH U.vm → (Cond.initialized y.cls).before a' U = true) :
    vx_Back l R p e below s sargs y len W9 (PreOf R mc ms Pc) (PostOf Qc mc ms free) (vx_Post XC mc ms free) := by
  intro m meth c A g ig mk a X hg hsize hdg hW hn hp
  have h1 : (headSpec ws rm).pre.before a A.U = true := atoms_intro fun w hw => hws w hw _ _ X.warmed
  have h2 : (Cond.codeWith y bytes maxL ret hh).before a A.U = true := hws _ hcode _ _ X.warmed
  have h3 : (Cond.initialized y.cls).before a A.U = true := hinit _ _ X.warmed
  have h4 : A.cells + (headSpec ws rm).room.cells ≤ R.cells := by rw [show (headSpec ws rm).room.cells = mc from hrc]; exact hp.1
  have h5 : A.slots + (headSpec ws rm).room.slots ≤ R.slots := by rw [show (headSpec ws rm).room.slots = ms from hrs]; exact hp.2.1
  have hPc : Pc a (A.U.calling g mk a) := hblind _ _ _ _ hp.2.2
  obtain ⟨U, Ls, c0, s0⟩ := A
  dsimp only [Pt.U, Pt.locs, Pt.cells, Pt.slots] at h1 h2 h3 h4 h5 X hn hPc ⊢
  obtain ⟨m9, methY, cY, hn9, hmY, hcY, -, hlY, -⟩ := Cond.codeWith_spec h2
  cases Option.some.inj (hn9.symm.trans hn)
  obtain ⟨kY, hkY, -⟩ := className_of_methodNamed hn
  have hinitY : kY.init = .initialized := Cond.initialized_spec (findClass_of_methodNamed hn) hkY h3
  have h : At U g.method c below := by rw [hg]; exact X.here
  have hlocals9 : W9 + (maxL + 11) + (headSpec ws rm).room.locals ≤ R.locals := hlocals
  have happ : (headSpec ws rm).appliesLoose y e.platform (U.calling g mk a) = true :=
    Spec.appliesLoose_calling (g := g) h hdg hn hkY hinitY
      (X.room_calling (g := g) (R' := (headSpec ws rm).room) hsize hmY hcY hframes (by rw [hlY]; omega) h4 h5) h1
  obtain ⟨mid, hmid⟩ := h.above
  have hfr : (U.setTop g).frames = (.java g :: mid) ++ below := by rw [State.frames_setTop' g h.top, hmid]; rfl
  obtain ⟨o, s₂, hsteps, -, hend, hq⟩ := Steps.callFree hM p X.admits X.cas X.clock (acts := []) hfr happ hPc trivial
  have hq' : vx_Q Qc XC mc ms free a (U.calling g mk a) o s₂ := hq
  rw [State.frames_setTop' g h.top] at hend
  obtain ⟨g₀, hg0⟩ := Option.isSome_iff_exists.mp h.top
  obtain ⟨r, hr⟩ := State.topJava?_eq_some.mp hg0
  have hr' : (({ U with heap := s₂.heap, slotsUsed := s₂.slotsUsed } : State).setVm s₂.vm).frames = .java g₀ :: r := hr
  rcases hq' with ⟨hqc, L, hfe, hL⟩ | ⟨q, rfl, E, ce, L, hx, hce, hcv, hcl, hW₂, hsm, hL⟩
  · obtain ⟨⟨v, rfl⟩, hW₂, e2, q2, q3, q4, q5, q6⟩ := id hfe
    have e3 : s₂ = ({ (U.calling g mk a).setFrames s₂.frames with heap := s₂.heap, slotsUsed := s₂.slotsUsed } : State).setVm s₂.vm := by
      have : s₂ = ({ s₂ with vm := (U.calling g mk a).vm } : State).setVm s₂.vm := rfl
      rw [e2] at this
      exact this
    obtain ⟨c₂, i₂, len₂, hc₂, hd₂, hf₂⟩ := hend
    have hW' : U.WarmedH s₂.vm := hW₂
    have hcc : c₂ = c := by
      have h1 : s₂.code? g.method = U.code? g.method := by
        rw [State.code?_eq, State.code?_eq, hW'.alike.method?]
      exact Option.some.inj (hc₂.symm.trans (h1.trans h.code))
    subst hcc
    have hlen : len₂ = len := by rw [hdg] at hd₂; cases hd₂; rfl
    subst hlen
    have hs₂ : s₂ = (({ U with heap := s₂.heap, slotsUsed := s₂.slotsUsed } : State).setVm s₂.vm).setTop { g with pc := g.pc + len₂, stack := v.toList ++ g.stack } := by
      refine e3.trans ?_
      rw [hf₂, State.calling_eq h.top, State.setFrames_setFrames, State.setTop_of_frames _ hr', hr]
      rfl
    have hsame : U.sameButNew ({ U with heap := s₂.heap, slotsUsed := s₂.slotsUsed } : State) L mc ms := by
      refine ⟨?_, q2, q3, q4, q5, q6⟩
      obtain ⟨t, ht, -⟩ := State.frames_cons hr
      show ({ U with heap := s₂.heap, slotsUsed := s₂.slotsUsed } : State) = { U.setFrames U.frames with heap := s₂.heap, slotsUsed := s₂.slotsUsed }
      rw [State.setFrames_self ht]
    subst hg
    refine Or.inl ⟨v, ⟨(({ U with heap := s₂.heap, slotsUsed := s₂.slotsUsed } : State).setVm s₂.vm), Ls ++ L, c0 + mc, s0 + ms⟩,
      ⟨X.admits, X.cas, X.clock, X.frames, X.room, X.hears, X.method, X.code, (X.here.setHeapUsed s₂.heap s₂.slotsUsed).setVm hW'.alike, X.tail, State.WarmedH.trans X.warmed hW', X.limits, X.bytes, X.same.trans (hsame.setVm s.vm)⟩,
      ⟨g, mk, s₂, L, rfl, rfl, hqc, rfl, hL, rfl, rfl⟩, ?_⟩
    show Steps p.tables e below _ ((({ U with heap := s₂.heap, slotsUsed := s₂.slotsUsed } : State).setVm s₂.vm).setTop { g with pc := g.pc + len₂, stack := v.toList ++ g.stack })
    rw [← hs₂]
    exact hsteps
  · obtain ⟨e2, q2, q3, q4, q5, q6⟩ := id hsm
    have e3 : s₂ = ({ (U.calling g mk a).setFrames s₂.frames with heap := s₂.heap, slotsUsed := s₂.slotsUsed } : State).setVm s₂.vm := by
      have : s₂ = ({ s₂ with vm := (U.calling g mk a).vm } : State).setVm s₂.vm := rfl
      rw [e2] at this
      exact this
    have hf₂ : s₂.frames = .throwing q :: .java g :: U.frames.tail := hend
    have hW' : U.WarmedH s₂.vm := hW₂
    have hs₂ : s₂ = ((({ U with heap := s₂.heap, slotsUsed := s₂.slotsUsed } : State).setVm s₂.vm).setTop g).pushFrame (.throwing q) := by
      refine e3.trans ?_
      rw [hf₂, State.calling_eq h.top, State.setFrames_setFrames, State.pushFrame, State.frames_setTop _ hr', State.setTop_of_frames _ hr', State.setFrames_setFrames, hr]
      rfl
    have hsame : U.sameButNew ({ U with heap := s₂.heap, slotsUsed := s₂.slotsUsed } : State) L mc ms := by
      refine ⟨?_, q2, q3, q4, q5, q6⟩
      obtain ⟨t, ht, -⟩ := State.frames_cons hr
      show ({ U with heap := s₂.heap, slotsUsed := s₂.slotsUsed } : State) = { U.setFrames U.frames with heap := s₂.heap, slotsUsed := s₂.slotsUsed }
      rw [State.setFrames_self ht]
    subst hg
    refine Or.inr ⟨q, ⟨(({ U with heap := s₂.heap, slotsUsed := s₂.slotsUsed } : State).setVm s₂.vm), Ls ++ L, c0 + mc, s0 + ms⟩,
      ⟨X.admits, X.cas, X.clock, X.frames, X.room, X.hears, X.method, X.code, (X.here.setHeapUsed s₂.heap s₂.slotsUsed).setVm hW'.alike, X.tail, State.WarmedH.trans X.warmed hW', X.limits, X.bytes, X.same.trans (hsame.setVm s.vm)⟩,
      ⟨g, mk, s₂, L, E, ce, rfl, rfl, hx, hce, hcv, hcl, rfl, hL, rfl, rfl⟩, ?_⟩
    show Steps p.tables e below _ (((({ U with heap := s₂.heap, slotsUsed := s₂.slotsUsed } : State).setVm s₂.vm).setTop g).pushFrame (.throwing q))
    rw [← hs₂]
    exact hsteps
end
variable {p : Program} {l : Launch} {e : Env} {R : Room} {s : State} {m : MethodId} {args : Array Value} {below : List Frame} {meth : Method} {c : Code} {T : State} {H : Heap} {locs : List Loc} {cells slots : Nat}
theorem vx_callVX (X : Stand p l e R s m args below meth c T locs cells slots) (hexec : p.tables.exec = Jvm.exec) {own C : String} {index : Nat} {y : MethodName} {bytes : ByteArray} {maxL : Nat} {ret : Option FieldType} {hh : List (Nat × Nat × Nat × Nat)}
    (hown : s.vm.findClass own = some m.cls) (hlink : (Cond.methodLink own index y).before args s = true) (hinst : (Cond.instanceMethod y).before args s = true) (hsel : (Cond.selects C y y).before args s = true)
    (hcode : (Cond.codeWith y bytes maxL ret hh).before args s = true) (hy : y.cls ≠ "java/lang/invoke/MethodHandle" ∧ y.cls ≠ "java/lang/invoke/VarHandle")
    {W9 : Nat} {Pre : Pt → Array Value → Prop} {Post : Pt → Array Value → Option Value → Pt → Prop} {PostX : Pt → Array Value → Addr → Pt → Prop} (hK : vx_Back l R p e below s args y 3 W9 Pre Post PostX)
    {b : Addr} {cellB : Cell} (hcell : T.heap[b]? = some cellB) (hobj : cellB.vm.isStatics = false) (hcls : s.vm.findClass C = some cellB.cls)
    {g : JFrame} (hg : g.method = m) (hsize : g.locals.size = c.maxLocals) {argsL rest : List Value} (hlen : ∀ sig, parseMethodDescriptor y.desc = some sig → argsL.length = sig.parameters.length)
    (hstack : g.stack = argsL.reverse ++ .ref b :: rest) (hW : 2 * g.monitorRoom + (rest.map fun v => v.category).sum ≤ W9) (hdg : decode c.code g.pc = .ok (.invokevirtual index, 3))
    (hpre : ∀ vm₁, s.WarmedH vm₁ → Pre ⟨T.setVm vm₁, locs, cells, slots⟩ (Value.ref b :: argsL).toArray) :
    (∃ (v : Option Value) (vm₁ : Vm) (B : Pt), s.WarmedH vm₁ ∧ Stand p l e R s m args below meth c B.U B.locs B.cells B.slots ∧ Post ⟨T.setVm vm₁, locs, cells, slots⟩ (Value.ref b :: argsL).toArray v B ∧
      ∀ target, Steps p.tables e below (B.U.setTop { g with pc := g.pc + 3, stack := v.toList ++ rest }) target → Steps p.tables e below (T.setTop g) target) ∨
    (∃ (q : Addr) (vm₁ : Vm) (B : Pt), s.WarmedH vm₁ ∧ Stand p l e R s m args below meth c B.U B.locs B.cells B.slots ∧ PostX ⟨T.setVm vm₁, locs, cells, slots⟩ (Value.ref b :: argsL).toArray q B ∧
      Steps p.tables e below (T.setTop g) ((B.U.setTop { g with stack := rest }).pushFrame (.throwing q))) := by
  obtain ⟨mk, methM, hnamed, hmethM, hstM, habM⟩ := Cond.instanceMethod_spec hinst
  obtain ⟨m8, methM', cM, hn8, hmethM', -, -, -, -, -, -, hsigM⟩ := Cond.codeWith_spec hcode
  cases Option.some.inj (hn8.symm.trans hnamed)
  cases hmethM.symm.trans hmethM'
  obtain ⟨c2, r2, m2, q1, q2, q3, q4, kP, hkP, hkPi⟩ := Cond.selects_spec hsel
  cases hcls.symm.trans q1
  cases (State.methodFound?_of_named hnamed hy).symm.trans q2
  cases hnamed.symm.trans q3
  have hselP : selectMethod e.platform s.vm cellB.cls mk = .method mk := by rw [Launch.admits_selectMethod X.admits]; exact q4
  obtain ⟨vm₁, X₁, hstep₁⟩ := X.invokevirtual hexec hown hlink hnamed hmethM hstM hkP hkPi hy (a := b) (cell := cellB) hcell
    (fun z h => by rw [h] at hobj; cases hobj) hselP hmethM habM hkP hkPi (g := g) hg (argsL := argsL) (rest := rest) (hlen _ hsigM) hstack hdg
  rcases hK m meth c ⟨T.setVm vm₁, locs, cells, slots⟩ { g with stack := rest } (.invokevirtual index) mk (Value.ref b :: argsL).toArray X₁ hg hsize hdg hW (X₁.named hnamed) (hpre vm₁ X₁.warmed) with ⟨v, B, X', hpost, hsteps⟩ | ⟨q, B, X', hpost, hsteps⟩
  · exact Or.inl ⟨v, vm₁, B, X₁.warmed, X', hpost, fun target h => hstep₁ _ fun acts => by rw [doInvoke_state]; exact hsteps.trans h⟩
  · exact Or.inr ⟨q, vm₁, B, X₁.warmed, X', hpost, hstep₁ _ fun acts => by rw [doInvoke_state]; exact hsteps⟩
theorem vx_callSX (X : Stand p l e R s m args below meth c T locs cells slots) (hexec : p.tables.exec = Jvm.exec) {own : String} {index : Nat} {y : MethodName} {bytes : ByteArray} {maxL : Nat} {ret : Option FieldType} {hh : List (Nat × Nat × Nat × Nat)}
    (hown : s.vm.findClass own = some m.cls) (hlink : (Cond.methodLink own index y).before args s = true) (hstat : (Cond.static y).before args s = true) (hinit : (Cond.initialized y.cls).before args s = true)
    (hcode : (Cond.codeWith y bytes maxL ret hh).before args s = true) (hy : y.cls ≠ "java/lang/invoke/MethodHandle" ∧ y.cls ≠ "java/lang/invoke/VarHandle")
    {W9 : Nat} {Pre : Pt → Array Value → Prop} {Post : Pt → Array Value → Option Value → Pt → Prop} {PostX : Pt → Array Value → Addr → Pt → Prop} (hK : vx_Back l R p e below s args y 3 W9 Pre Post PostX)
    {g : JFrame} (hg : g.method = m) (hsize : g.locals.size = c.maxLocals) {argsL rest : List Value} (hlen : ∀ sig, parseMethodDescriptor y.desc = some sig → argsL.length = sig.parameters.length)
    (hstack : g.stack = argsL.reverse ++ rest) (hW : 2 * g.monitorRoom + (rest.map fun v => v.category).sum ≤ W9) (hdg : decode c.code g.pc = .ok (.invokestatic index, 3))
    (hpre : ∀ vm₁, s.WarmedH vm₁ → Pre ⟨T.setVm vm₁, locs, cells, slots⟩ argsL.toArray) :
    (∃ (v : Option Value) (vm₁ : Vm) (B : Pt), s.WarmedH vm₁ ∧ Stand p l e R s m args below meth c B.U B.locs B.cells B.slots ∧ Post ⟨T.setVm vm₁, locs, cells, slots⟩ argsL.toArray v B ∧
      ∀ target, Steps p.tables e below (B.U.setTop { g with pc := g.pc + 3, stack := v.toList ++ rest }) target → Steps p.tables e below (T.setTop g) target) ∨
    (∃ (q : Addr) (vm₁ : Vm) (B : Pt), s.WarmedH vm₁ ∧ Stand p l e R s m args below meth c B.U B.locs B.cells B.slots ∧ PostX ⟨T.setVm vm₁, locs, cells, slots⟩ argsL.toArray q B ∧
      Steps p.tables e below (T.setTop g) ((B.U.setTop { g with stack := rest }).pushFrame (.throwing q))) := by
  obtain ⟨mk, methM, cM, hnamed, hmethM, -, -, -, -, -, -, hsigM⟩ := Cond.codeWith_spec hcode
  have hstatic : methM.isStatic = true := Cond.static_spec hnamed hmethM hstat
  obtain ⟨kP, hkP, -⟩ := className_of_methodNamed hnamed
  have hinitP : kP.init = .initialized := Cond.initialized_spec (findClass_of_methodNamed hnamed) hkP hinit
  obtain ⟨vm₁, X₁, hstep₁⟩ := X.invokestatic hexec hown hlink hnamed hmethM hstatic hkP hinitP hy (g := g) hg (argsL := argsL) (rest := rest) (hlen _ hsigM) hstack hdg
  rcases hK m meth c ⟨T.setVm vm₁, locs, cells, slots⟩ { g with stack := rest } (.invokestatic index) mk argsL.toArray X₁ hg hsize hdg hW (X₁.named hnamed) (hpre vm₁ X₁.warmed) with ⟨v, B, X', hpost, hsteps⟩ | ⟨q, B, X', hpost, hsteps⟩
  · exact Or.inl ⟨v, vm₁, B, X₁.warmed, X', hpost, fun target h => hstep₁ _ fun acts => by rw [doInvoke_state]; exact hsteps.trans h⟩
  · exact Or.inr ⟨q, vm₁, B, X₁.warmed, X', hpost, hstep₁ _ fun acts => by rw [doInvoke_state]; exact hsteps⟩
theorem vx_callVW (X : Stand p l e R s m args below meth c T locs cells slots) (hexec : p.tables.exec = Jvm.exec) {own C : String} {index : Nat} {y : MethodName} {bytes : ByteArray} {maxL : Nat} {ret : Option FieldType} {hh : List (Nat × Nat × Nat × Nat)}
    (hown : s.vm.findClass own = some m.cls) (hlink : (Cond.methodLink own index y).before args s = true) (hinst : (Cond.instanceMethod y).before args s = true) (hsel : (Cond.selects C y y).before args s = true)
    (hcode : (Cond.codeWith y bytes maxL ret hh).before args s = true) (hy : y.cls ≠ "java/lang/invoke/MethodHandle" ∧ y.cls ≠ "java/lang/invoke/VarHandle")
    {W9 : Nat} {Pre : Pt → Array Value → Prop} {Post : Pt → Array Value → Option Value → Pt → Prop} (hK : Back l R p e below s args y 3 W9 Pre Post)
    {b : Addr} {cellB : Cell} (hcell : T.heap[b]? = some cellB) (hobj : cellB.vm.isStatics = false) (hcls : s.vm.findClass C = some cellB.cls)
    {g : JFrame} (hg : g.method = m) (hsize : g.locals.size = c.maxLocals) {argsL rest : List Value} (hlen : ∀ sig, parseMethodDescriptor y.desc = some sig → argsL.length = sig.parameters.length)
    (hstack : g.stack = argsL.reverse ++ .ref b :: rest) (hW : 2 * g.monitorRoom + (rest.map fun v => v.category).sum ≤ W9) (hdg : decode c.code g.pc = .ok (.invokevirtual index, 3))
    (hpre : ∀ vm₁, s.WarmedH vm₁ → Pre ⟨T.setVm vm₁, locs, cells, slots⟩ (Value.ref b :: argsL).toArray) :
    ∃ (v : Option Value) (vm₁ : Vm) (B : Pt), s.WarmedH vm₁ ∧ Stand p l e R s m args below meth c B.U B.locs B.cells B.slots ∧ Post ⟨T.setVm vm₁, locs, cells, slots⟩ (Value.ref b :: argsL).toArray v B ∧
      ∀ target, Steps p.tables e below (B.U.setTop { g with pc := g.pc + 3, stack := v.toList ++ rest }) target → Steps p.tables e below (T.setTop g) target := by
  obtain ⟨mk, methM, hnamed, hmethM, hstM, habM⟩ := Cond.instanceMethod_spec hinst
  obtain ⟨m8, methM', cM, hn8, hmethM', -, -, -, -, -, -, hsigM⟩ := Cond.codeWith_spec hcode
  cases Option.some.inj (hn8.symm.trans hnamed)
  cases hmethM.symm.trans hmethM'
  obtain ⟨c2, r2, m2, q1, q2, q3, q4, kP, hkP, hkPi⟩ := Cond.selects_spec hsel
  cases hcls.symm.trans q1
  cases (State.methodFound?_of_named hnamed hy).symm.trans q2
  cases hnamed.symm.trans q3
  have hselP : selectMethod e.platform s.vm cellB.cls mk = .method mk := by rw [Launch.admits_selectMethod X.admits]; exact q4
  obtain ⟨vm₁, X₁, hstep₁⟩ := X.invokevirtual hexec hown hlink hnamed hmethM hstM hkP hkPi hy (a := b) (cell := cellB) hcell
    (fun z h => by rw [h] at hobj; cases hobj) hselP hmethM habM hkP hkPi (g := g) hg (argsL := argsL) (rest := rest) (hlen _ hsigM) hstack hdg
  obtain ⟨v, B, X', hpost, hsteps⟩ := hK m meth c ⟨T.setVm vm₁, locs, cells, slots⟩ { g with stack := rest } (.invokevirtual index) mk (Value.ref b :: argsL).toArray X₁ hg hsize hdg hW (X₁.named hnamed) (hpre vm₁ X₁.warmed)
  exact ⟨v, vm₁, B, X₁.warmed, X', hpost, fun target h => hstep₁ _ fun acts => by rw [doInvoke_state]; exact hsteps.trans h⟩
abbrev vx_CVW (R : Room) (s : State) (args : Array Value) (own C : String) (index : Nat) (y : MethodName) (bytes : ByteArray) (maxL : Nat) (ret : Option FieldType) (hh : List (Nat × Nat × Nat × Nat)) (ws : List Cond) (rm : Room) (mc ms n : Nat) : Prop :=
  (rm.cells = mc ∧ rm.slots = ms ∧ rm.frames + 1 ≤ R.frames ∧ 8 + (maxL + 11) + rm.locals ≤ R.locals ∧ (∀ w ∈ ws, ∀ (a' : Array Value) (U : State), s.WarmedH U.vm → w.before a' U = true) ∧ Cond.codeWith y bytes maxL ret hh ∈ ws) ∧
  (Cond.codeWith y bytes maxL ret hh).before args s = true ∧ (Cond.initialized y.cls).before args s = true ∧ (y.cls ≠ "java/lang/invoke/MethodHandle" ∧ y.cls ≠ "java/lang/invoke/VarHandle") ∧
  (∀ sig, parseMethodDescriptor y.desc = some sig → n = sig.parameters.length) ∧ (Cond.methodLink own index y).before args s = true ∧ (Cond.instanceMethod y).before args s = true ∧ (Cond.selects C y y).before args s = true
theorem vx_cwVW {own C : String} {index maxL mc ms : Nat} {y : MethodName} {bytes : ByteArray} {ret : Option FieldType} {hh : List (Nat × Nat × Nat × Nat)} {Ts ws ws' : List Cond} {rm : Room} (n : Nat) (ht : ∀ w ∈ Ts, w.before args s = true) (hT : GoodIn Ts (wsV own index C y ws)) (hw : ws = Cond.codeWith y bytes maxL ret hh :: ws') (hrc : rm.cells = mc) (hrs : rm.slots = ms)
    (hd : y.cls = C ∧ y.cls ≠ "java/lang/invoke/MethodHandle" ∧ y.cls ≠ "java/lang/invoke/VarHandle" ∧ (parseMethodDescriptor y.desc).map (fun d => d.parameters.length) = some n) (hR : rm.frames + 1 ≤ R.frames ∧ 8 + (maxL + 11) + rm.locals ≤ R.locals) :
    vx_CVW R s args own C index y bytes maxL ret hh ws rm mc ms n := by
  obtain ⟨hC, hd⟩ := hd
  subst hC
  have ok : ∀ w ∈ wsV own index y.cls y ws, w.before args s = true := fun w h => ht w (hT w h).1
  have hG : GoodIn Ts ws := fun w h => hT w (by unfold wsV; exact List.mem_append_right _ h)
  have hc : Cond.codeWith y bytes maxL ret hh ∈ ws := by rw [hw]; exact List.mem_cons_self
  refine ⟨⟨hrc, hrs, hR.1, hR.2, pay_in ht hG, hc⟩, ht _ (hG _ hc).1, ok _ (by simp [wsV]), ⟨hd.1, hd.2.1⟩, fun sig h => ?_, ok _ (by simp [wsV]), ok _ (by simp [wsV]), ok _ (by simp [wsV])⟩
  have h2 := hd.2.2
  rw [h] at h2
  exact (Option.some.inj h2).symm
theorem vx_runVW {y : MethodName} {bytes cc : ByteArray} {maxL nL mc ms n index : Nat} {ret : Option FieldType} {hh : List (Nat × Nat × Nat × Nat)} {ws : List Cond} {rm : Room} {Pc : Array Value → State → Prop} {Qc : Array Value → State → Outcome → State → Prop} {free : Addr → Prop} {Ts : List Cond} {own C : String} {b : Addr} {As rest : List Value} {g : JFrame}
    (S : CallFix p m c cc nL s args Ts own) (hM : Met l y ws rm Pc Qc mc ms free) (cw : vx_CVW R s args own C index y bytes maxL ret hh ws rm mc ms n) (hp : PreV s H C b Pc As)
    (hg : g.method = m) (hn : As.length = n) (hsize : g.locals.size = nL) (hstack : g.stack = As.reverse ++ .ref b :: rest) (hW : 2 * g.monitorRoom + (rest.map fun v => v.category).sum ≤ 8) (hdg : decode cc g.pc = .ok (.invokevirtual index, 3)) (hf : cells + mc ≤ R.cells ∧ slots + ms ≤ R.slots) :
    va_Run p l e R s m args below meth c H locs cells slots mc ms g rest (Qc (Value.ref b :: As).toArray) free := by
  obtain ⟨⟨hrc, hrs, hfr, hlo, hws, hcw⟩, hcode, hini, hy, hlen, hl, hin, hse⟩ := cw
  have hK : Back l R p e below s args y 3 8 (PreOf R mc ms Pc) (PostOf Qc mc ms free) := va_backW (hh := hh) (bytes := bytes) (maxL := maxL) (ret := ret) hM hp.1 hrc hrs hfr hlo hws hcw (fun a' U hW => word_at hW (Or.inl (by first | rfl | simp [Cond.onTables, Cond.keeps, Cond.steady])) hini)
  obtain ⟨hx, hb, hml, ho, -⟩ := S
  obtain ⟨-, ⟨cellB, hcB, hoB, hclB⟩, hPc⟩ := hp
  intro T hT X
  obtain ⟨v, vm₁, ⟨U', l2, c2, s2⟩, hW₁, X', ⟨g', mk, t, L, e1, e2, hq, h1, hL, h2, h3⟩, st⟩ := vx_callVW X hx (C := C) (hh := hh) (bytes := bytes) (maxL := maxL) (ret := ret) ho hl hin hse hcode hy hK (by rw [hT]; exact hcB) hoB hclB hg (hsize.trans hml.symm) (argsL := As) (rest := rest) (fun sig h => hn.trans (hlen sig h)) hstack hW (by rw [hb]; exact hdg)
    (fun vm₁ hW₁ => ⟨hf.1, hf.2, hPc (T.setVm vm₁) hT hW₁⟩)
  dsimp only [Pt.U, Pt.locs, Pt.cells, Pt.slots] at X' e1 e2 h1 h2 h3 st
  subst h1; subst h2; subst h3
  exact ⟨v, (T.setVm vm₁).calling g' mk (Value.ref b :: As).toArray, t, U', L, hT, X', hL, e1, e2, hq, st⟩
section
variable {y : MethodName} {bytes cc : ByteArray} {maxL nL mc ms n index : Nat} {ret : Option FieldType} {ws : List Cond} {rm : Room} {Pc : Array Value → State → Prop} {Qc : Array Value → State → Outcome → State → Prop} {XC : String → State → State → Prop} {free : Addr → Prop} {Ts : List Cond} {own C : String} {b : Addr} {As rest : List Value} {g : JFrame}
theorem vx_runVX {hh : List (Nat × Nat × Nat × Nat)} (S : CallFix p m c cc nL s args Ts own) (hM : vx_Met l y ws rm Pc Qc XC mc ms free) (cw : vx_CVW R s args own C index y bytes maxL ret hh ws rm mc ms n) (hp : PreV s H C b Pc As)
    (hg : g.method = m) (hn : As.length = n) (hsize : g.locals.size = nL) (hstack : g.stack = As.reverse ++ .ref b :: rest) (hW : 2 * g.monitorRoom + (rest.map fun v => v.category).sum ≤ 8) (hdg : decode cc g.pc = .ok (.invokevirtual index, 3)) (hf : cells + mc ≤ R.cells ∧ slots + ms ≤ R.slots) :
    vx_Run p l e R s m args below meth c H locs cells slots mc ms g rest (Qc (Value.ref b :: As).toArray) XC free := by
  obtain ⟨⟨hrc, hrs, hfr, hlo, hws, hcw⟩, hcode, hini, hy, hlen, hl, hin, hse⟩ := cw
  have hK : vx_Back l R p e below s args y 3 8 (PreOf R mc ms Pc) (PostOf Qc mc ms free) (vx_Post XC mc ms free) := vx_backW (hh := hh) (bytes := bytes) (maxL := maxL) (ret := ret) hM hp.1 hrc hrs hfr hlo hws hcw (fun a' U hW => word_at hW (Or.inl (by first | rfl | simp [Cond.onTables, Cond.keeps, Cond.steady])) hini)
  obtain ⟨hx, hb, hml, ho, -⟩ := S
  obtain ⟨-, ⟨cellB, hcB, hoB, hclB⟩, hPc⟩ := hp
  intro T hT X
  rcases vx_callVX X hx (C := C) (hh := hh) (bytes := bytes) (maxL := maxL) (ret := ret) ho hl hin hse hcode hy hK (by rw [hT]; exact hcB) hoB hclB hg (hsize.trans hml.symm) (argsL := As) (rest := rest) (fun sig h => hn.trans (hlen sig h)) hstack hW (by rw [hb]; exact hdg)
    (fun vm₁ hW₁ => ⟨hf.1, hf.2, hPc (T.setVm vm₁) hT hW₁⟩) with ⟨v, vm₁, ⟨U', l2, c2, s2⟩, hW₁, X', ⟨g', mk, t, L, e1, e2, hq, h1, hL, h2, h3⟩, st⟩ | ⟨q, vm₁, ⟨U', l2, c2, s2⟩, hW₁, X', ⟨g', mk, t, L, E, ce, e1, e2, hq, hce, hcv, hcl, h1, hL, h2, h3⟩, st⟩
  · dsimp only [Pt.U, Pt.locs, Pt.cells, Pt.slots] at X' e1 e2 h1 h2 h3 st
    subst h1; subst h2; subst h3
    exact Or.inl ⟨v, (T.setVm vm₁).calling g' mk (Value.ref b :: As).toArray, t, U', L, hT, X', hL, e1, e2, hq, st⟩
  · dsimp only [Pt.U, Pt.locs, Pt.cells, Pt.slots] at X' e1 e2 h1 h2 h3 st hcl
    subst h1; subst h2; subst h3
    exact Or.inr ⟨q, (T.setVm vm₁).calling g' mk (Value.ref b :: As).toArray, t, U', L, E, ce, hT, X', hL, e1, e2, hq, hce, hcv, vx_cls hW₁ hcl, st⟩
theorem vx_runSX {hh : List (Nat × Nat × Nat × Nat)} (S : CallFix p m c cc nL s args Ts own) (hM : vx_Met l y ws rm Pc Qc XC mc ms free) (cw : vx_CSW R s args own index y bytes maxL ret hh ws rm mc ms n) (hp : PreS s H Pc As)
    (hg : g.method = m) (hn : As.length = n) (hsize : g.locals.size = nL) (hstack : g.stack = As.reverse ++ rest) (hW : 2 * g.monitorRoom + (rest.map fun v => v.category).sum ≤ 8) (hdg : decode cc g.pc = .ok (.invokestatic index, 3)) (hf : cells + mc ≤ R.cells ∧ slots + ms ≤ R.slots) :
    vx_Run p l e R s m args below meth c H locs cells slots mc ms g rest (Qc As.toArray) XC free := by
  obtain ⟨⟨hrc, hrs, hfr, hlo, hws, hcw⟩, hcode, hini, hy, hlen, hl, hstt⟩ := cw
  have hK : vx_Back l R p e below s args y 3 8 (PreOf R mc ms Pc) (PostOf Qc mc ms free) (vx_Post XC mc ms free) := vx_backW (hh := hh) (bytes := bytes) (maxL := maxL) (ret := ret) hM hp.1 hrc hrs hfr hlo hws hcw (fun a' U hW => word_at hW (Or.inl (by first | rfl | simp [Cond.onTables, Cond.keeps, Cond.steady])) hini)
  obtain ⟨hx, hb, hml, ho, -⟩ := S
  intro T hT X
  rcases vx_callSX X hx (hh := hh) (bytes := bytes) (maxL := maxL) (ret := ret) ho hl hstt hini hcode hy hK hg (hsize.trans hml.symm) (argsL := As) (rest := rest) (fun sig h => hn.trans (hlen sig h)) hstack hW (by rw [hb]; exact hdg)
    (fun vm₁ hW₁ => ⟨hf.1, hf.2, hp.2 (T.setVm vm₁) hT hW₁⟩) with ⟨v, vm₁, ⟨U', l2, c2, s2⟩, hW₁, X', ⟨g', mk, t, L, e1, e2, hq, h1, hL, h2, h3⟩, st⟩ | ⟨q, vm₁, ⟨U', l2, c2, s2⟩, hW₁, X', ⟨g', mk, t, L, E, ce, e1, e2, hq, hce, hcv, hcl, h1, hL, h2, h3⟩, st⟩
  · dsimp only [Pt.U, Pt.locs, Pt.cells, Pt.slots] at X' e1 e2 h1 h2 h3 st
    subst h1; subst h2; subst h3
    exact Or.inl ⟨v, (T.setVm vm₁).calling g' mk As.toArray, t, U', L, hT, X', hL, e1, e2, hq, st⟩
  · dsimp only [Pt.U, Pt.locs, Pt.cells, Pt.slots] at X' e1 e2 h1 h2 h3 st hcl
    subst h1; subst h2; subst h3
    exact Or.inr ⟨q, (T.setVm vm₁).calling g' mk As.toArray, t, U', L, E, ce, hT, X', hL, e1, e2, hq, hce, hcv, vx_cls hW₁ hcl, st⟩
end
end VXH
theorem vx_ofWH {l : Launch} {y : MethodName} {ws ws' : List Cond} {rm : Room} {Pc : Array Value → State → Prop} {Qc : Array Value → State → Outcome → State → Prop} {XC : String → State → State → Prop} {mc ms : Nat} {free : Addr → Prop} {cc : ByteArray} {maxL : Nat} {ret : Option FieldType} {hh : List (Nat × Nat × Nat × Nat)}
    (hy : plainName y.cls = true) (hw : ws = Cond.codeWith y cc maxL ret hh :: ws')
    (body : ∀ p e s m args below meth c s₁, BodyLoose p l y (headSpec ws rm) cc maxL ret e s m args below meth c s₁ → c.maxLocals = maxL → Pc args s →
      W p l e (headSpec ws rm).room s m args below meth c s.heap [] 0 0 (vx_MQ below Qc XC args s mc ms free) (entryFrame m args maxL)) : vx_Met l y ws rm Pc Qc XC mc ms free := by
  refine MetFree.of_bodyS (code := cc) (maxLocals := maxL) (ret := ret) hy ?_ ?_
  · intro args s m h hn
    obtain ⟨m9, meth, c, hn9, h1, h2, h3, h4, -, h5, h6, -⟩ := Cond.codeWith_spec (atoms_spec (ws := ws) h _ (by rw [hw]; exact List.mem_cons_self))
    cases hn.symm.trans hn9
    exact ⟨meth, c, h1, h2, h3, h4, h5, h6⟩
  · intro p e s m args below meth c s₁ B hml hP _
    have hh0 : s₁.heap = s.heap := by rw [B.state]; rfl
    obtain ⟨t, a1, o, b1, b2, b3⟩ := body p e s m args below meth c s₁ B hml hP s₁ hh0 (Stand.of_body B)
    exact ⟨t, o, a1, b1, b2, b3⟩
/-! ===== END ===== -/
end
section
def R_Li : String := "ObjectLinks$Linker"
def F_Li : u_T := fun k => match k with
  | 0 => ("ObjectLinks$Linker", "units", "[LObjectLinks$Unit;", true)
  | 1 => ("ObjectLinks$Linker", "order", "[I", true)
  | 2 => ("ObjectLinks$Linker", "chosen", "I", false)
  | 3 => ("ObjectLinks$Linker", "table", "LObjectLinks$NameTable;", true)
  | 4 => ("ObjectLinks$Linker", "reached", "[Z", true)
  | 5 => ("ObjectLinks$Linker", "queue", "[I", true)
  | 6 => ("ObjectLinks$Linker", "queued", "I", false)
  | 7 => ("ObjectLinks$Linker", "places", "[I", true)
  | 8 => ("ObjectLinks$Linker", "present", "Z", false)
  | 9 => ("ObjectLinks$Linker", "base", "I", false)
  | 10 => ("ObjectLinks$Linker", "content", "[I", true)
  | 11 => ("ObjectLinks$Linker", "length", "I", false)
  | 12 => ("ObjectLinks$Linker", "sectionsIn", "I", false)
  | 13 => ("ObjectLinks$Linker", "commonsIn", "I", false)
  | 14 => ("ObjectLinks$Linker", "gapBytes", "I", false)
  | 15 => ("ObjectLinks$Linker", "faultSort", "I", false)
  | 16 => ("ObjectLinks$Linker", "faultObject", "I", false)
  | _ => ("ObjectLinks$Linker", "faultNumber", "I", false)
def t_Li : Nat → FieldType := fun k => match k with
  | 0 => .array (.object "ObjectLinks$Unit")
  | 1 => .array .int
  | 2 => .int
  | 3 => .object "ObjectLinks$NameTable"
  | 4 => .array .boolean
  | 5 => .array .int
  | 6 => .int
  | 7 => .array .int
  | 8 => .boolean
  | 9 => .int
  | 10 => .array .int
  | 11 => .int
  | 12 => .int
  | 13 => .int
  | 14 => .int
  | 15 => .int
  | 16 => .int
  | _ => .int
theorem n_Li : ∀ a, a < 18 → ∀ b, b < 18 → a ≠ b → (F_Li a).2.1 ≠ (F_Li b).2.1 := by decide +kernel
theorem t_Li_ok : ∀ k, k < 18 → parseFieldDescriptor (F_Li k).2.2.1 = some (t_Li k) := by decide +kernel
def R_Me : String := "ObjectLinks$Meaning"
def F_Me : u_T := fun k => match k with
  | 0 => ("ObjectLinks$Meaning", "number", "I", false)
  | 1 => ("ObjectLinks$Meaning", "sort", "I", false)
  | 2 => ("ObjectLinks$Meaning", "slot", "I", false)
  | 3 => ("ObjectLinks$Meaning", "place", "I", false)
  | 4 => ("ObjectLinks$Meaning", "power", "I", false)
  | 5 => ("ObjectLinks$Meaning", "size", "I", false)
  | 6 => ("ObjectLinks$Meaning", "reached", "Z", false)
  | _ => ("ObjectLinks$Meaning", "address", "I", false)
def t_Me : Nat → FieldType := fun k => match k with
  | 0 => .int
  | 1 => .int
  | 2 => .int
  | 3 => .int
  | 4 => .int
  | 5 => .int
  | 6 => .boolean
  | _ => .int
theorem n_Me : ∀ a, a < 8 → ∀ b, b < 8 → a ≠ b → (F_Me a).2.1 ≠ (F_Me b).2.1 := by decide +kernel
theorem t_Me_ok : ∀ k, k < 8 → parseFieldDescriptor (F_Me k).2.2.1 = some (t_Me k) := by decide +kernel
def R_Na : String := "ObjectLinks$Name"
def F_Na : u_T := fun k => match k with
  | 0 => ("ObjectLinks$Name", "number", "I", true)
  | 1 => ("ObjectLinks$Name", "sort", "I", true)
  | 2 => ("ObjectLinks$Name", "section", "I", true)
  | _ => ("ObjectLinks$Name", "place", "I", true)
def t_Na : Nat → FieldType := fun k => match k with
  | 0 => .int
  | 1 => .int
  | 2 => .int
  | _ => .int
theorem n_Na : ∀ a, a < 4 → ∀ b, b < 4 → a ≠ b → (F_Na a).2.1 ≠ (F_Na b).2.1 := by decide +kernel
theorem t_Na_ok : ∀ k, k < 4 → parseFieldDescriptor (F_Na k).2.2.1 = some (t_Na k) := by decide +kernel
def R_NT : String := "ObjectLinks$NameTable"
def F_NT : u_T := fun k => match k with
  | 0 => ("ObjectLinks$NameTable", "meanings", "[LObjectLinks$Meaning;", true)
  | 1 => ("ObjectLinks$NameTable", "size", "I", false)
  | 2 => ("ObjectLinks$NameTable", "meant", "[LObjectLinks$Meaning;", true)
  | 3 => ("ObjectLinks$NameTable", "commons", "[LObjectLinks$Meaning;", true)
  | _ => ("ObjectLinks$NameTable", "commonCount", "I", false)
def t_NT : Nat → FieldType := fun k => match k with
  | 0 => .array (.object "ObjectLinks$Meaning")
  | 1 => .int
  | 2 => .array (.object "ObjectLinks$Meaning")
  | 3 => .array (.object "ObjectLinks$Meaning")
  | _ => .int
theorem n_NT : ∀ a, a < 5 → ∀ b, b < 5 → a ≠ b → (F_NT a).2.1 ≠ (F_NT b).2.1 := by decide +kernel
theorem t_NT_ok : ∀ k, k < 5 → parseFieldDescriptor (F_NT k).2.2.1 = some (t_NT k) := by decide +kernel
def R_Oc : String := "ObjectLinks$Octets"
def F_Oc : u_T := fun k => match k with
  | 0 => ("ObjectLinks$Octets", "row", "[I", true)
  | _ => ("ObjectLinks$Octets", "length", "I", false)
def t_Oc : Nat → FieldType := fun k => match k with
  | 0 => .array .int
  | _ => .int
theorem n_Oc : ∀ a, a < 2 → ∀ b, b < 2 → a ≠ b → (F_Oc a).2.1 ≠ (F_Oc b).2.1 := by decide +kernel
theorem t_Oc_ok : ∀ k, k < 2 → parseFieldDescriptor (F_Oc k).2.2.1 = some (t_Oc k) := by decide +kernel
def R_Re : String := "ObjectLinks$Reader"
def F_Re : u_T := fun k => match k with
  | 0 => ("ObjectLinks$Reader", "row", "[I", true)
  | 1 => ("ObjectLinks$Reader", "end", "I", true)
  | 2 => ("ObjectLinks$Reader", "at", "I", false)
  | _ => ("ObjectLinks$Reader", "broken", "Z", false)
def t_Re : Nat → FieldType := fun k => match k with
  | 0 => .array .int
  | 1 => .int
  | 2 => .int
  | _ => .boolean
theorem n_Re : ∀ a, a < 4 → ∀ b, b < 4 → a ≠ b → (F_Re a).2.1 ≠ (F_Re b).2.1 := by decide +kernel
theorem t_Re_ok : ∀ k, k < 4 → parseFieldDescriptor (F_Re k).2.2.1 = some (t_Re k) := by decide +kernel
def R_Rf : String := "ObjectLinks$Reference"
def F_Rf : u_T := fun k => match k with
  | 0 => ("ObjectLinks$Reference", "section", "I", true)
  | 1 => ("ObjectLinks$Reference", "place", "I", true)
  | 2 => ("ObjectLinks$Reference", "way", "I", true)
  | 3 => ("ObjectLinks$Reference", "name", "I", true)
  | _ => ("ObjectLinks$Reference", "addend", "I", true)
def t_Rf : Nat → FieldType := fun k => match k with
  | 0 => .int
  | 1 => .int
  | 2 => .int
  | 3 => .int
  | _ => .int
theorem n_Rf : ∀ a, a < 5 → ∀ b, b < 5 → a ≠ b → (F_Rf a).2.1 ≠ (F_Rf b).2.1 := by decide +kernel
theorem t_Rf_ok : ∀ k, k < 5 → parseFieldDescriptor (F_Rf k).2.2.1 = some (t_Rf k) := by decide +kernel
def R_Se : String := "ObjectLinks$Section"
def F_Se : u_T := fun k => match k with
  | 0 => ("ObjectLinks$Section", "kind", "I", true)
  | 1 => ("ObjectLinks$Section", "power", "I", true)
  | 2 => ("ObjectLinks$Section", "length", "I", true)
  | _ => ("ObjectLinks$Section", "data", "[I", true)
def t_Se : Nat → FieldType := fun k => match k with
  | 0 => .int
  | 1 => .int
  | 2 => .int
  | _ => .array .int
theorem n_Se : ∀ a, a < 4 → ∀ b, b < 4 → a ≠ b → (F_Se a).2.1 ≠ (F_Se b).2.1 := by decide +kernel
theorem t_Se_ok : ∀ k, k < 4 → parseFieldDescriptor (F_Se k).2.2.1 = some (t_Se k) := by decide +kernel
def R_Un : String := "ObjectLinks$Unit"
def F_Un : u_T := fun k => match k with
  | 0 => ("ObjectLinks$Unit", "sections", "[LObjectLinks$Section;", true)
  | 1 => ("ObjectLinks$Unit", "sectionCount", "I", false)
  | 2 => ("ObjectLinks$Unit", "names", "[LObjectLinks$Name;", true)
  | 3 => ("ObjectLinks$Unit", "nameCount", "I", false)
  | 4 => ("ObjectLinks$Unit", "references", "[LObjectLinks$Reference;", true)
  | _ => ("ObjectLinks$Unit", "referenceCount", "I", false)
def t_Un : Nat → FieldType := fun k => match k with
  | 0 => .array (.object "ObjectLinks$Section")
  | 1 => .int
  | 2 => .array (.object "ObjectLinks$Name")
  | 3 => .int
  | 4 => .array (.object "ObjectLinks$Reference")
  | _ => .int
theorem n_Un : ∀ a, a < 6 → ∀ b, b < 6 → a ≠ b → (F_Un a).2.1 ≠ (F_Un b).2.1 := by decide +kernel
theorem t_Un_ok : ∀ k, k < 6 → parseFieldDescriptor (F_Un k).2.2.1 = some (t_Un k) := by decide +kernel
def R_OL : String := "ObjectLinks"
def F_OL : u_T := fun k => match k with
  | 0 => ("ObjectLinks", "units", "[LObjectLinks$Unit;", true)
  | 1 => ("ObjectLinks", "unitCount", "I", false)
  | 2 => ("ObjectLinks", "linker", "LObjectLinks$Linker;", true)
  | _ => ("ObjectLinks", "octets", "LObjectLinks$Octets;", true)
def t_OL : Nat → FieldType := fun k => match k with
  | 0 => .array (.object "ObjectLinks$Unit")
  | 1 => .int
  | 2 => .object "ObjectLinks$Linker"
  | _ => .object "ObjectLinks$Octets"
theorem n_OL : ∀ a, a < 4 → ∀ b, b < 4 → a ≠ b → (F_OL a).2.1 ≠ (F_OL b).2.1 := by decide +kernel
theorem t_OL_ok : ∀ k, k < 4 → parseFieldDescriptor (F_OL k).2.2.1 = some (t_OL k) := by decide +kernel
def R_Mo : String := "ObjectLinksModel"
def F_Mo : u_T := fun k => match k with
  | 0 => ("ObjectLinksModel", "thrown", "I", false)
  | 1 => ("ObjectLinksModel", "objects", "I", false)
  | 2 => ("ObjectLinksModel", "sections", "[I", true)
  | 3 => ("ObjectLinksModel", "kind", "[I", true)
  | 4 => ("ObjectLinksModel", "power", "[I", true)
  | 5 => ("ObjectLinksModel", "length", "[I", true)
  | 6 => ("ObjectLinksModel", "data", "[I", true)
  | 7 => ("ObjectLinksModel", "names", "[I", true)
  | 8 => ("ObjectLinksModel", "number", "[I", true)
  | 9 => ("ObjectLinksModel", "sort", "[I", true)
  | 10 => ("ObjectLinksModel", "where", "[I", true)
  | 11 => ("ObjectLinksModel", "size", "[I", true)
  | 12 => ("ObjectLinksModel", "references", "[I", true)
  | 13 => ("ObjectLinksModel", "refSection", "[I", true)
  | 14 => ("ObjectLinksModel", "refPlace", "[I", true)
  | 15 => ("ObjectLinksModel", "refWay", "[I", true)
  | 16 => ("ObjectLinksModel", "refName", "[I", true)
  | 17 => ("ObjectLinksModel", "refAddend", "[I", true)
  | 18 => ("ObjectLinksModel", "chosen", "I", false)
  | 19 => ("ObjectLinksModel", "choice", "[I", true)
  | 20 => ("ObjectLinksModel", "base", "I", false)
  | 21 => ("ObjectLinksModel", "reached", "[Z", true)
  | 22 => ("ObjectLinksModel", "common", "[Z", true)
  | 23 => ("ObjectLinksModel", "commonAt", "[I", true)
  | 24 => ("ObjectLinksModel", "lies", "[I", true)
  | 25 => ("ObjectLinksModel", "fault", "I", false)
  | 26 => ("ObjectLinksModel", "faultObject", "I", false)
  | 27 => ("ObjectLinksModel", "faultNumber", "I", false)
  | 28 => ("ObjectLinksModel", "isImage", "Z", false)
  | 29 => ("ObjectLinksModel", "imageSize", "I", false)
  | 30 => ("ObjectLinksModel", "imageSections", "I", false)
  | 31 => ("ObjectLinksModel", "imageGaps", "I", false)
  | 32 => ("ObjectLinksModel", "imageCommons", "I", false)
  | 33 => ("ObjectLinksModel", "image", "[I", true)
  | 34 => ("ObjectLinksModel", "known", "I", false)
  | 35 => ("ObjectLinksModel", "knownName", "[I", true)
  | 36 => ("ObjectLinksModel", "knownAt", "[I", true)
  | 37 => ("ObjectLinksModel", "written", "I", false)
  | 38 => ("ObjectLinksModel", "bytes", "[I", true)
  | 39 => ("ObjectLinksModel", "at", "I", false)
  | 40 => ("ObjectLinksModel", "good", "Z", false)
  | _ => ("ObjectLinksModel", "end", "I", false)
def t_Mo : Nat → FieldType := fun k => match k with
  | 0 => .int
  | 1 => .int
  | 2 => .array .int
  | 3 => .array .int
  | 4 => .array .int
  | 5 => .array .int
  | 6 => .array .int
  | 7 => .array .int
  | 8 => .array .int
  | 9 => .array .int
  | 10 => .array .int
  | 11 => .array .int
  | 12 => .array .int
  | 13 => .array .int
  | 14 => .array .int
  | 15 => .array .int
  | 16 => .array .int
  | 17 => .array .int
  | 18 => .int
  | 19 => .array .int
  | 20 => .int
  | 21 => .array .boolean
  | 22 => .array .boolean
  | 23 => .array .int
  | 24 => .array .int
  | 25 => .int
  | 26 => .int
  | 27 => .int
  | 28 => .boolean
  | 29 => .int
  | 30 => .int
  | 31 => .int
  | 32 => .int
  | 33 => .array .int
  | 34 => .int
  | 35 => .array .int
  | 36 => .array .int
  | 37 => .int
  | 38 => .array .int
  | 39 => .int
  | 40 => .boolean
  | _ => .int
theorem n_Mo : ∀ a, a < 42 → ∀ b, b < 42 → a ≠ b → (F_Mo a).2.1 ≠ (F_Mo b).2.1 := by decide +kernel
theorem t_Mo_ok : ∀ k, k < 42 → parseFieldDescriptor (F_Mo k).2.2.1 = some (t_Mo k) := by decide +kernel
def R_La : String := "ObjectLinksLaw"
abbrev cls_ : List vw_C := [(R_Li, F_Li, 18), (R_Me, F_Me, 8), (R_Na, F_Na, 4), (R_NT, F_NT, 5), (R_Oc, F_Oc, 2), (R_Re, F_Re, 4), (R_Rf, F_Rf, 5), (R_Se, F_Se, 4), (R_Un, F_Un, 6), (R_OL, F_OL, 4), (R_Mo, F_Mo, 42)]
def oty (r : Nat) (k : Nat) : FieldType := match r with
  | 0 => t_Li k
  | 1 => t_Me k
  | 2 => t_Na k
  | 3 => t_NT k
  | 4 => t_Oc k
  | 5 => t_Re k
  | 6 => t_Rf k
  | 7 => t_Se k
  | 8 => t_Un k
  | 9 => t_OL k
  | _ => t_Mo k
def aty (t : Nat) : FieldType := match t with
  | 0 => .int
  | 1 => .boolean
  | 2 => .long
  | 3 => .object "ObjectLinks$Unit"
  | 4 => .object "ObjectLinks$Section"
  | 5 => .object "ObjectLinks$Name"
  | 6 => .object "ObjectLinks$Reference"
  | _ => .object "ObjectLinks$Meaning"
/-- which kind of array a role is -/
def art (r : Nat) : Nat := match r with
  | 20 => 3
  | 21 => 4
  | 22 => 5
  | 23 => 6
  | 26 => 3
  | 28 => 1
  | 32 => 7
  | 33 => 7
  | 34 => 7
  | 61 => 1
  | 62 => 1
  | 90 => 2
  | _ => 0
def slt (r k : Nat) : FieldType := if r < 20 then oty r k else aty (art r)
def kd (t : FieldType) : Nat := match t with
  | .int => 0 | .boolean => 0 | .long => 2 | .object _ => 1 | .array _ => 1 | _ => 3
def tb_ : List Cond := lw_tbl.filter goodWord
theorem tb_in {w : Cond} (i : Nat) (h : lw_tbl[i]? = some w) (hg : goodWord w = true) : w ∈ tb_ := List.mem_filter.mpr ⟨List.mem_of_getElem? h, hg⟩
theorem tb_good : ∀ w ∈ tb_, goodWord w = true := fun w h => (List.mem_filter.mp h).2
theorem i_Li : ∀ w ∈ u_ws R_Li F_Li 18, w ∈ tb_ := by
  intro w h
  exact List.mem_filter.mpr ⟨(by revert w; decide +kernel : ∀ w ∈ u_ws R_Li F_Li 18, w ∈ lw_tbl) w h, (by revert w; decide +kernel : ∀ w ∈ u_ws R_Li F_Li 18, goodWord w = true) w h⟩
theorem i_Me : ∀ w ∈ u_ws R_Me F_Me 8, w ∈ tb_ := by
  intro w h
  exact List.mem_filter.mpr ⟨(by revert w; decide +kernel : ∀ w ∈ u_ws R_Me F_Me 8, w ∈ lw_tbl) w h, (by revert w; decide +kernel : ∀ w ∈ u_ws R_Me F_Me 8, goodWord w = true) w h⟩
theorem i_Na : ∀ w ∈ u_ws R_Na F_Na 4, w ∈ tb_ := by
  intro w h
  exact List.mem_filter.mpr ⟨(by revert w; decide +kernel : ∀ w ∈ u_ws R_Na F_Na 4, w ∈ lw_tbl) w h, (by revert w; decide +kernel : ∀ w ∈ u_ws R_Na F_Na 4, goodWord w = true) w h⟩
theorem i_NT : ∀ w ∈ u_ws R_NT F_NT 5, w ∈ tb_ := by
  intro w h
  exact List.mem_filter.mpr ⟨(by revert w; decide +kernel : ∀ w ∈ u_ws R_NT F_NT 5, w ∈ lw_tbl) w h, (by revert w; decide +kernel : ∀ w ∈ u_ws R_NT F_NT 5, goodWord w = true) w h⟩
theorem i_Oc : ∀ w ∈ u_ws R_Oc F_Oc 2, w ∈ tb_ := by
  intro w h
  exact List.mem_filter.mpr ⟨(by revert w; decide +kernel : ∀ w ∈ u_ws R_Oc F_Oc 2, w ∈ lw_tbl) w h, (by revert w; decide +kernel : ∀ w ∈ u_ws R_Oc F_Oc 2, goodWord w = true) w h⟩
theorem i_Re : ∀ w ∈ u_ws R_Re F_Re 4, w ∈ tb_ := by
  intro w h
  exact List.mem_filter.mpr ⟨(by revert w; decide +kernel : ∀ w ∈ u_ws R_Re F_Re 4, w ∈ lw_tbl) w h, (by revert w; decide +kernel : ∀ w ∈ u_ws R_Re F_Re 4, goodWord w = true) w h⟩
theorem i_Rf : ∀ w ∈ u_ws R_Rf F_Rf 5, w ∈ tb_ := by
  intro w h
  exact List.mem_filter.mpr ⟨(by revert w; decide +kernel : ∀ w ∈ u_ws R_Rf F_Rf 5, w ∈ lw_tbl) w h, (by revert w; decide +kernel : ∀ w ∈ u_ws R_Rf F_Rf 5, goodWord w = true) w h⟩
theorem i_Se : ∀ w ∈ u_ws R_Se F_Se 4, w ∈ tb_ := by
  intro w h
  exact List.mem_filter.mpr ⟨(by revert w; decide +kernel : ∀ w ∈ u_ws R_Se F_Se 4, w ∈ lw_tbl) w h, (by revert w; decide +kernel : ∀ w ∈ u_ws R_Se F_Se 4, goodWord w = true) w h⟩
theorem i_Un : ∀ w ∈ u_ws R_Un F_Un 6, w ∈ tb_ := by
  intro w h
  exact List.mem_filter.mpr ⟨(by revert w; decide +kernel : ∀ w ∈ u_ws R_Un F_Un 6, w ∈ lw_tbl) w h, (by revert w; decide +kernel : ∀ w ∈ u_ws R_Un F_Un 6, goodWord w = true) w h⟩
theorem i_OL : ∀ w ∈ u_ws R_OL F_OL 4, w ∈ tb_ := by
  intro w h
  exact List.mem_filter.mpr ⟨(by revert w; decide +kernel : ∀ w ∈ u_ws R_OL F_OL 4, w ∈ lw_tbl) w h, (by revert w; decide +kernel : ∀ w ∈ u_ws R_OL F_OL 4, goodWord w = true) w h⟩
theorem i_Mo : ∀ w ∈ u_ws R_Mo F_Mo 42, w ∈ tb_ := by
  intro w h
  exact List.mem_filter.mpr ⟨(by revert w; decide +kernel : ∀ w ∈ u_ws R_Mo F_Mo 42, w ∈ lw_tbl) w h, (by revert w; decide +kernel : ∀ w ∈ u_ws R_Mo F_Mo 42, goodWord w = true) w h⟩
end
section
/-! the abstract machine: cells have names (role, i, j); a state is: which are there, their whole numbers, their references, their longs -/
abbrev Pt3 : Type := Nat × Nat × Nat
abbrev SV : Type := Int32 ⊕ (Int64 ⊕ Option Pt3)
abbrev Ad : Type := Nat → Nat → Nat → Nat
abbrev Nu : Type := Nat → Nat → Nat → Option Nat
abbrev Io : Type := Nat → Nat → Nat → Nat → Int32
abbrev Ro : Type := Nat → Nat → Nat → Nat → Option Pt3
abbrev Lo : Type := Nat → Nat → Nat → Nat → Int64
abbrev GD : Type := (Nat → ClassId) × (Nat → Nat → Nat) × (Nat → ClassId)
abbrev sI (x : Int32) : SV := Sum.inl x
abbrev sL (x : Int64) : SV := Sum.inr (Sum.inl x)
abbrev sQ (q : Option Pt3) : SV := Sum.inr (Sum.inr q)
abbrev sN : SV := Sum.inr (Sum.inr none)
abbrev sR (r i j : Nat) : SV := Sum.inr (Sum.inr (some (r, i, j)))
def ad3 (α : Ad) (q : Pt3) : Nat := α q.1 q.2.1 q.2.2
def enc (α : Ad) : SV → Value
  | .inl x => .int x
  | .inr (.inl x) => .long x
  | .inr (.inr none) => .null
  | .inr (.inr (some q)) => .ref (ad3 α q)
def scat : SV → Nat
  | .inr (.inl _) => 2
  | _ => 1
theorem enc_cat (α : Ad) (v : SV) : (enc α v).category = scat v := by
  rcases v with x | x | _ | q <;> rfl
def up3 {β : Type} (f : Nat → Nat → Nat → β) (r i j : Nat) (x : β) : Nat → Nat → Nat → β := fun r' i' j' => if r' = r ∧ i' = i ∧ j' = j then x else f r' i' j'
def up4 {β : Type} (f : Nat → Nat → Nat → Nat → β) (r i j k : Nat) (x : β) : Nat → Nat → Nat → Nat → β := fun r' i' j' k' => if r' = r ∧ i' = i ∧ j' = j ∧ k' = k then x else f r' i' j' k'
def upA {β : Type} (f : Nat → Nat → Nat → Nat → β) (r i j : Nat) (x : Nat → β) : Nat → Nat → Nat → Nat → β := fun r' i' j' k' => if r' = r ∧ i' = i ∧ j' = j then x k' else f r' i' j' k'
theorem up3_s {β : Type} {f : Nat → Nat → Nat → β} {r i j : Nat} {x : β} : up3 f r i j x r i j = x := by simp [up3]
theorem up4_s {β : Type} {f : Nat → Nat → Nat → Nat → β} {r i j k : Nat} {x : β} : up4 f r i j k x r i j k = x := by simp [up4]
theorem upA_s {β : Type} {f : Nat → Nat → Nat → Nat → β} {r i j k : Nat} {x : Nat → β} : upA f r i j x r i j k = x k := by simp [upA]
def cont (α : Ad) (ι : Io) (ρ : Ro) (ℓ : Lo) (r i j k : Nat) : Value := match kd (slt r k) with
  | 0 => .int (ι r i j k)
  | 1 => enc α (sQ (ρ r i j k))
  | _ => .long (ℓ r i j k)
theorem cont_I {α : Ad} {ι : Io} {ρ : Ro} {ℓ : Lo} {r i j k : Nat} (h : kd (slt r k) = 0) : cont α ι ρ ℓ r i j k = .int (ι r i j k) := by simp [cont, h]
theorem cont_R {α : Ad} {ι : Io} {ρ : Ro} {ℓ : Lo} {r i j k : Nat} (h : kd (slt r k) = 1) : cont α ι ρ ℓ r i j k = enc α (sQ (ρ r i j k)) := by simp [cont, h]
theorem cont_L {α : Ad} {ι : Io} {ρ : Ro} {ℓ : Lo} {r i j k : Nat} (h : kd (slt r k) = 2) : cont α ι ρ ℓ r i j k = .long (ℓ r i j k) := by simp [cont, h]
def cellA (D : GD) (α : Ad) (ι : Io) (ρ : Ro) (ℓ : Lo) (r i j n : Nat) (H : Heap) : Prop :=
  (r < 20 → ∃ q : vw_C, cls_[r]? = some q ∧ n = q.2.2 ∧ t_OB (α r i j) (D.1 r) q.2.2 (D.2.1 r) H (cont α ι ρ ℓ r i j)) ∧
  (20 ≤ r → H[α r i j]? = some (arrV (D.2.2 (art r)) n (cont α ι ρ ℓ r i j)))
theorem arrV_congr {c : ClassId} {n : Nat} {f g : Nat → Value} (h : ∀ k, k < n → f k = g k) : arrV c n f = arrV c n g := by
  unfold arrV
  congr 2
  funext j
  exact h j.val j.isLt
theorem cellA.to {D : GD} {α α' : Ad} {ι ι' : Io} {ρ ρ' : Ro} {ℓ ℓ' : Lo} {r i j n : Nat} {H H' : Heap} (h : cellA D α ι ρ ℓ r i j n H) (ha : α' r i j = α r i j) (hH : H'[α r i j]? = H[α r i j]?) (hc : ∀ k, k < n → cont α ι ρ ℓ r i j k = cont α' ι' ρ' ℓ' r i j k) : cellA D α' ι' ρ' ℓ' r i j n H' := by
  refine ⟨fun hr => ?_, fun hr => ?_⟩
  · obtain ⟨q, h1, h2, h3⟩ := h.1 hr
    refine ⟨q, h1, h2, ?_⟩
    rw [ha]
    exact (h3.kept hH).to (fun k hk => hc k (by omega))
  · rw [ha, hH, h.2 hr, arrV_congr hc]
theorem cellA.lt {D : GD} {α : Ad} {ι : Io} {ρ : Ro} {ℓ : Lo} {r i j n : Nat} {H : Heap} (h : cellA D α ι ρ ℓ r i j n H) : α r i j < H.size := by
  by_cases hr : r < 20
  · obtain ⟨q, -, -, cell, h3, -⟩ := h.1 hr
    exact (Array.getElem?_eq_some_iff.mp h3).1
  · exact (Array.getElem?_eq_some_iff.mp (h.2 (by omega))).1
/-- a name that may stand on a stack: its cell is there; or one of the two given arrays -/
def alv (ν : Nu) (q : Pt3) : Prop := ν q.1 q.2.1 q.2.2 ≠ none ∨ 98 ≤ q.1
def wfv (ν : Nu) (v : SV) : Prop := ∀ q, v = sQ (some q) → alv ν q
def wfl (ν : Nu) (l : List SV) : Prop := ∀ v ∈ l, wfv ν v
theorem wfv_I {ν : Nu} {x : Int32} : wfv ν (sI x) := fun q h => by cases h
theorem wfv_L {ν : Nu} {x : Int64} : wfv ν (sL x) := fun q h => by cases h
theorem wfv_N {ν : Nu} : wfv ν sN := fun q h => by cases h
theorem wfl_c {ν : Nu} {v : SV} {l : List SV} (h : wfv ν v) (h2 : wfl ν l) : wfl ν (v :: l) := fun w hw => by
  rcases List.mem_cons.mp hw with e | e
  · rw [e]; exact h
  · exact h2 w e
theorem wfl_h {ν : Nu} {v : SV} {l : List SV} (h : wfl ν (v :: l)) : wfv ν v := h v List.mem_cons_self
theorem wfl_t {ν : Nu} {v : SV} {l : List SV} (h : wfl ν (v :: l)) : wfl ν l := fun w hw => h w (List.mem_cons_of_mem _ hw)
theorem wfl_n {ν : Nu} : wfl ν [] := fun w hw => by cases hw
theorem wfl_up {ν ν' : Nu} {l : List SV} (h : wfl ν l) (hn : ∀ q, alv ν q → alv ν' q) : wfl ν' l := fun v hv q e => hn q (h v hv q e)
def Rh (D : GD) (B : Nat) (α : Ad) (ν : Nu) (ι : Io) (ρ : Ro) (ℓ : Lo) (H : Heap) : Prop :=
  (∀ a b c a' b' c', a < 98 → a' < 98 → α a b c = α a' b' c' → a = a' ∧ b = b' ∧ c = c') ∧
  (∀ r i j n, ν r i j = some n → r < 98 ∧ n < 2147483648 ∧ cellA D α ι ρ ℓ r i j n H ∧ B ≤ α r i j) ∧
  (∀ r i j n k q, ν r i j = some n → k < n → kd (slt r k) = 1 → ρ r i j k = some q → alv ν q) ∧ B ≤ H.size
theorem enc_ag {α α' : Ad} {ν : Nu} {v : SV} (hw : wfv ν v) (h : ∀ r i j, 98 ≤ r ∨ ν r i j ≠ none → α' r i j = α r i j) : enc α' v = enc α v := by
  rcases v with x | x | _ | q
  · rfl
  · rfl
  · rfl
  · have := hw q rfl
    show Value.ref (ad3 α' q) = Value.ref (ad3 α q)
    unfold ad3
    rw [h q.1 q.2.1 q.2.2 (this.elim Or.inr Or.inl)]
theorem encl_ag {α α' : Ad} {ν : Nu} {l : List SV} (hw : wfl ν l) (h : ∀ r i j, 98 ≤ r ∨ ν r i j ≠ none → α' r i j = α r i j) : l.map (enc α') = l.map (enc α) :=
  List.map_congr_left fun v hv => enc_ag (hw v hv) h
def nwM : List (String × Nat × MethodName × String) := [("ObjectLinks", 17, ⟨"ObjectLinks$Linker", "<init>", "()V"⟩, "ObjectLinks"), ("ObjectLinks$NameTable", 23, ⟨"ObjectLinks$Meaning", "<init>", "()V"⟩, "ObjectLinks"), ("ObjectLinks", 24, ⟨"ObjectLinks$Octets", "<init>", "()V"⟩, "ObjectLinks"), ("ObjectLinks", 40, ⟨"ObjectLinks$Unit", "<init>", "()V"⟩, "ObjectLinks"), ("ObjectLinks$NameTable", 55, ⟨"ObjectLinks", "slotOf", "(II)I"⟩, "ObjectLinks"), ("ObjectLinks$Linker", 168, ⟨"ObjectLinks", "slotOf", "(II)I"⟩, "ObjectLinks"), ("ObjectLinks$Reader", 29, ⟨"ObjectLinks$Unit", "<init>", "()V"⟩, "ObjectLinks")]
def nwF : List (String × Nat × String × String × String × String) := [("ObjectLinks$Unit", 60, "ObjectLinks", "WIDTHS", "[I", "ObjectLinks"), ("ObjectLinks$Linker", 224, "ObjectLinks", "WIDTHS", "[I", "ObjectLinks")]
def nwC : List (String × String) := [("java/lang/UnsupportedOperationException", "java/lang/UnsupportedOperationException"), ("java/lang/IndexOutOfBoundsException", "java/lang/IndexOutOfBoundsException"), ("java/lang/IllegalArgumentException", "java/lang/IllegalArgumentException"), ("java/lang/IllegalStateException", "java/lang/IllegalStateException")]
def ao_ : List String := ["ObjectLinks$Unit", "ObjectLinks$Meaning", "ObjectLinks$Section", "ObjectLinks$Name", "ObjectLinks$Reference"]
def nc_ : List (String × String) := [("java/lang/IndexOutOfBoundsException", "java/lang/UnsupportedOperationException"), ("java/lang/IllegalArgumentException", "java/lang/UnsupportedOperationException"), ("java/lang/IllegalStateException", "java/lang/UnsupportedOperationException"), ("java/lang/UnsupportedOperationException", "java/lang/IndexOutOfBoundsException"), ("java/lang/IllegalArgumentException", "java/lang/IndexOutOfBoundsException"), ("java/lang/IllegalStateException", "java/lang/IndexOutOfBoundsException"), ("java/lang/UnsupportedOperationException", "java/lang/IllegalArgumentException"), ("java/lang/IndexOutOfBoundsException", "java/lang/IllegalArgumentException"), ("java/lang/IllegalStateException", "java/lang/IllegalArgumentException"), ("java/lang/UnsupportedOperationException", "java/lang/IllegalStateException"), ("java/lang/IndexOutOfBoundsException", "java/lang/IllegalStateException"), ("java/lang/IllegalArgumentException", "java/lang/IllegalStateException")]
def st_ : List (String × Nat × String) := [("ObjectLinks", 35, "there are twelve objects"), ("ObjectLinks", 230, "no such object"), ("ObjectLinks", 57, "no such kind, alignment or length"), ("ObjectLinks", 63, "there are eight sections"), ("ObjectLinks", 79, "no such section, or it is empty"), ("ObjectLinks", 85, "the section has no such byte"), ("ObjectLinks", 95, "such a name can not be, or is there already"), ("ObjectLinks", 100, "there are twelve names"), ("ObjectLinks", 114, "no such section, place, way or name"), ("ObjectLinks", 119, "there are sixteen references"), ("ObjectLinks", 134, "the object is chosen already"), ("ObjectLinks", 141, "no such base"), ("ObjectLinks", 148, "nothing is chosen"), ("ObjectLinks", 155, "the linking has a fault"), ("ObjectLinks", 171, "a fault is told by 0, 1 and 2"), ("ObjectLinks", 174, "the image has no such byte"), ("ObjectLinks", 179, "no such section"), ("ObjectLinks", 196, "no such byte was written"), ("ObjectLinks", 201, "that is no byte"), ("ObjectLinks", 203, "no so many bytes to cut"), ("ObjectLinks", 214, "those are no object as bytes")]
def wid_ : Nat → Value := fun j => match j with
  | 0 => .int 4
  | 1 => .int 2
  | 2 => .int 2
  | 3 => .int 1
  | _ => .int 2
abbrev uB (B : Nat) : Nat → Prop := fun q => B ≤ q
/-- the given cells of the start that throws and the static array need -/
def KH (B tW : Nat) (U : State) (H : Heap) : Prop := vx_Zq Bundle.tN "UNASSIGNED_STACK" Bundle.steD (uB B) U H ∧ vx_Zq Bundle.tN "SUPPRESSED_SENTINEL" Bundle.listD (uB B) U H ∧ va_Z "ObjectLinks" "WIDTHS" "[I" (.ref tW) (uB B) U H ∧ va_T .int tW 5 wid_ (uB B) U H
def KT (D : GD) (U : State) : Prop :=
  (∀ (c : Nat) (q : vw_C), cls_[c]? = some q → u_Kn U q.1 q.2.1 q.2.2 (D.1 c) (D.2.1 c)) ∧ (∀ t, t < 8 → ArrOfT U (D.2.2 t) (aty t) ∧ va_RA U (D.2.2 t) (aty t)) ∧
  (∀ q ∈ nwM, va_Nw (.methodLinkNest q.1 q.2.1 q.2.2.1 q.2.2.2) U) ∧ (∀ q ∈ nwF, va_Nw (.fieldLinkNest q.1 q.2.1 q.2.2.1 q.2.2.2.1 q.2.2.2.2.1 q.2.2.2.2.2) U) ∧ (∀ q ∈ nwC, va_Nw (.castable q.1 q.2) U) ∧
  (∀ C ∈ ao_, va_AO C U) ∧ (∀ q ∈ nc_, va_Nc q.1 q.2 U) ∧ (∀ q ∈ st_, ∃ a, vk_R q.1 q.2.1 q.2.2 a U)
def KS (D : GD) (B tW : Nat) (U : State) : Prop := KT D U ∧ KH B tW U U.heap
theorem KT.to {D : GD} {s U : State} (h : KT D s) (hW : s.WarmedH U.vm) : KT D U := by
  obtain ⟨h1, h2, h3, h4, h5, h6, h7, h8⟩ := h
  refine ⟨fun c q hq => u_Kn_moved hW.alike (h1 c q hq), fun t ht => ⟨arrOfT_moved hW.alike (h2 t ht).1, (h2 t ht).2.moved hW.alike⟩, fun q hq => va_Nw.warmM hW (h3 q hq), fun q hq => va_Nw.warmF hW (h4 q hq), fun q hq => va_Nw.warmC hW (h5 q hq), fun C hC => va_AO.moved hW.alike (h6 C hC), fun q hq => va_Nc.moved hW.alike (h7 q hq), fun q hq => ?_⟩
  obtain ⟨a, ha⟩ := h8 q hq
  exact ⟨a, vk_R.warm hW ha⟩
theorem KH.to {B tW : Nat} {s U : State} {H H' : Heap} (h : KH B tW s H) (hW : s.vm.Alike U.vm) (hq : ∀ q : Nat, q < H.size → ¬ uB B q → H'[q]? = H[q]?) : KH B tW U H' :=
  ⟨(h.1.kept hq).moved hW, (h.2.1.kept hq).moved hW, (h.2.2.1.kept hq).moved hW, (h.2.2.2.kept hq).moved hW⟩
theorem KS.to {D : GD} {B tW : Nat} {s U : State} (h : KS D B tW s) (hW : s.WarmedH U.vm) (hq : ∀ q : Nat, q < s.heap.size → ¬ uB B q → U.heap[q]? = s.heap[q]?) : KS D B tW U :=
  ⟨h.1.to hW, h.2.to hW.alike hq⟩
abbrev PoT : Type := Option SV → Nu → Io → Ro → Lo → Prop
abbrev PxT : Type := String → Nu → Io → Ro → Lo → Prop
/-- names that were there stay, at their places -/
def agr (α0 : Ad) (ν0 : Nu) (α : Ad) (ν : Nu) : Prop := (∀ r i j, ν0 r i j ≠ none → ν r i j ≠ none) ∧ ∀ r i j, 98 ≤ r ∨ ν0 r i j ≠ none → α r i j = α0 r i j
theorem agr.rf {α : Ad} {ν : Nu} : agr α ν α ν := ⟨fun _ _ _ h => h, fun _ _ _ _ => rfl⟩
theorem agr.tr {α0 α1 α2 : Ad} {ν0 ν1 ν2 : Nu} (h : agr α0 ν0 α1 ν1) (k : agr α1 ν1 α2 ν2) : agr α0 ν0 α2 ν2 :=
  ⟨fun r i j h0 => k.1 r i j (h.1 r i j h0), fun r i j h0 => by rw [k.2 r i j (h0.imp id (h.1 r i j)), h.2 r i j h0]⟩
theorem agr.alv {α0 α1 : Ad} {ν0 ν1 : Nu} (h : agr α0 ν0 α1 ν1) (q : Pt3) (hq : alv ν0 q) : alv ν1 q := hq.imp (h.1 _ _ _) id
def cP (D : GD) (B tW : Nat) (α : Ad) (ν : Nu) (ι : Io) (ρ : Ro) (ℓ : Lo) (as : List SV) : Array Value → State → Prop := fun a U => a = (as.map (enc α)).toArray ∧ Rh D B α ν ι ρ ℓ U.heap ∧ KS D B tW U ∧ α 99 0 0 = tW ∧ wfl ν as
def cQ (D : GD) (B : Nat) (α0 : Ad) (ν0 : Nu) (Po : PoT) : Array Value → State → Outcome → State → Prop := fun _ st oc t => (∃ (α : Ad) (ν : Nu) (ι : Io) (ρ : Ro) (ℓ : Lo) (v : Option SV), oc = .returned (v.map (enc α)) ∧ Po v ν ι ρ ℓ ∧ Rh D B α ν ι ρ ℓ t.heap ∧ agr α0 ν0 α ν ∧ (∀ w, v = some w → wfv ν w)) ∧ va_F (uB B) st t
def cX (D : GD) (B : Nat) (α0 : Ad) (ν0 : Nu) (PX : PxT) : String → State → State → Prop := fun E st t => (∃ (α : Ad) (ν : Nu) (ι : Io) (ρ : Ro) (ℓ : Lo), PX E ν ι ρ ℓ ∧ Rh D B α ν ι ρ ℓ t.heap ∧ agr α0 ν0 α ν) ∧ va_F (uB B) st t
/-- THE CONTRACT of a method: from the named state, at these arguments: it returns with Po, or throws with PX -/
def Ct (y : MethodName) (ws : List Cond) (rm : Room) (as : List SV) (ν : Nu) (ι : Io) (ρ : Ro) (ℓ : Lo) (Po : PoT) (PX : PxT) : Prop :=
  ∀ (l : Launch) (D : GD) (B tW : Nat) (α : Ad), l.stackTraces = false → vx_Met l y ws rm (cP D B tW α ν ι ρ ℓ as) (cQ D B α ν Po) (cX D B α ν PX) rm.cells rm.slots (uB B)
abbrev noX : PxT := fun _ _ _ _ _ => False
end
section
section Am
variable {p : Program} {l : Launch} {e : Env} {R : Room} {s : State} {m : MethodId} {args : Array Value} {below : List Frame} {meth : Method} {c : Code} {D : GD} {B tW : Nat} {α0 : Ad} {ν0 : Nu} {own : String} {cc : ByteArray} {nL : Nat} {ret : Option FieldType} {mn : String} {tab : List ExceptionTableEntry} {Q : State → Prop} {cells slots : Nat} {ν : Nu} {ι : Io} {ρ : Ro} {ℓ : Lo} {pc : Nat} {lv lv' : List (Nat × SV)} {st : List SV}
/-- what is known in a method's body -/
def Cx (p : Program) (l : Launch) (s : State) (m : MethodId) (args : Array Value) (meth : Method) (c : Code) (D : GD) (B tW : Nat) (α0 : Ad) (own : String) (cc : ByteArray) (nL : Nat) (ret : Option FieldType) (mn : String) (tab : List ExceptionTableEntry) : Prop :=
  p.tables.exec = Jvm.exec ∧ c.code = cc ∧ c.maxLocals = nL ∧ s.vm.findClass own = some m.cls ∧ (∀ w ∈ tb_, w.before args s = true) ∧ KS D B tW s ∧ B ≤ s.heap.size ∧ meth.sig.returnType = ret ∧ meth.locks = false ∧ l.stackTraces = false ∧ c.exceptionTable.toList = tab ∧ meth.name = mn ∧ α0 99 0 0 = tW
/-- THE JUDGEMENT: from this point of the body, in this named state, the machine comes to Q -/
def V (p : Program) (l : Launch) (e : Env) (R : Room) (s : State) (m : MethodId) (args : Array Value) (below : List Frame) (meth : Method) (c : Code) (D : GD) (B : Nat) (α0 : Ad) (ν0 : Nu) (nL : Nat) (Q : State → Prop) (cells slots : Nat) (ν : Nu) (ι : Io) (ρ : Ro) (ℓ : Lo) (pc : Nat) (lv : List (Nat × SV)) (st : List SV) : Prop :=
  ∀ (α : Ad) (H : Heap) (locs : List Loc) (ls : Array Slot), Rh D B α ν ι ρ ℓ H → va_S (uB B) s.heap H locs → lv_has ls nL (lv.map (fun q => (q.1, enc α q.2))) → agr α0 ν0 α ν → wfl ν (lv.map Prod.snd) → wfl ν st → W p l e R s m args below meth c H locs cells slots Q (F0 m pc ls (st.map (enc α)))
def lget : List (Nat × SV) → Nat → Option SV
  | [], _ => none
  | (j, v) :: t, i => cond (Nat.beq j i) (some v) (lget t i)
theorem lget_mem {lv : List (Nat × SV)} {i : Nat} {v : SV} (h : lget lv i = some v) : (i, v) ∈ lv := by
  induction lv with
  | nil => cases h
  | cons a t ih =>
    obtain ⟨j, w⟩ := a
    unfold lget at h
    cases hb : Nat.beq j i with
    | true =>
      rw [hb] at h
      have e1 := Nat.eq_of_beq_eq_true hb
      cases h
      rw [e1]
      exact List.mem_cons_self
    | false =>
      rw [hb] at h
      exact List.mem_cons_of_mem _ (ih h)
theorem lget_at {α : Ad} {ls : Array Slot} {i : Nat} {v : SV} (h : lget lv i = some v) (hl : lv_has ls nL (lv.map (fun q => (q.1, enc α q.2)))) : ls[i]? = some (.val (enc α v)) :=
  hl.2.2 (i, enc α v) (List.mem_map.mpr ⟨(i, v), lget_mem h, rfl⟩)
theorem lget_wf {i : Nat} {v : SV} (h : lget lv i = some v) (hw : wfl ν (lv.map Prod.snd)) : wfv ν v := hw v (List.mem_map.mpr ⟨(i, v), lget_mem h, rfl⟩)
def ldel : Nat → List (Nat × SV) → List (Nat × SV)
  | _, [] => []
  | i, (j, v) :: t => cond (Nat.beq j i || (Nat.beq (j + 1) i && Nat.beq (scat v) 2)) (ldel i t) ((j, v) :: ldel i t)
def ldel2 : Nat → List (Nat × SV) → List (Nat × SV)
  | _, [] => []
  | i, (j, v) :: t => cond (Nat.beq j i || (Nat.beq j (i + 1) || (Nat.beq (j + 1) i && Nat.beq (scat v) 2))) (ldel2 i t) ((j, v) :: ldel2 i t)
theorem nbeq (a b : Nat) : Nat.beq a b = (a == b) := by rw [Bool.eq_iff_iff, Nat.beq_eq, beq_iff_eq]
theorem ldel_f (α : Ad) (i : Nat) (lv : List (Nat × SV)) : (lv.map (fun q => (q.1, enc α q.2))).filter (fun q => !(q.1 == i) && !(q.1 + 1 == i && q.2.category == 2)) = (ldel i lv).map (fun q => (q.1, enc α q.2)) := by
  induction lv with
  | nil => rfl
  | cons a t ih =>
    obtain ⟨j, v⟩ := a
    unfold ldel
    rw [List.map_cons, List.filter_cons, ih]
    simp only [enc_cat, nbeq]
    cases h1 : (j == i) <;> cases h2 : (j + 1 == i && scat v == 2) <;> simp
theorem ldel2_f (α : Ad) (i : Nat) (lv : List (Nat × SV)) : (lv.map (fun q => (q.1, enc α q.2))).filter (fun q => !(q.1 == i) && (!(q.1 == i + 1) && !(q.1 + 1 == i && q.2.category == 2))) = (ldel2 i lv).map (fun q => (q.1, enc α q.2)) := by
  induction lv with
  | nil => rfl
  | cons a t ih =>
    obtain ⟨j, v⟩ := a
    unfold ldel2
    rw [List.map_cons, List.filter_cons, ih]
    simp only [enc_cat, nbeq]
    cases h1 : (j == i) <;> cases h3 : (j == i + 1) <;> cases h2 : (j + 1 == i && scat v == 2) <;> simp
theorem ldel_wf {i : Nat} (hw : wfl ν (lv.map Prod.snd)) : wfl ν ((ldel i lv).map Prod.snd) := by
  induction lv with
  | nil => exact hw
  | cons a t ih =>
    obtain ⟨j, v⟩ := a
    unfold ldel
    cases (Nat.beq j i || (Nat.beq (j + 1) i && Nat.beq (scat v) 2))
    · exact wfl_c (wfl_h hw) (ih (wfl_t hw))
    · exact ih (wfl_t hw)
theorem ldel2_wf {i : Nat} (hw : wfl ν (lv.map Prod.snd)) : wfl ν ((ldel2 i lv).map Prod.snd) := by
  induction lv with
  | nil => exact hw
  | cons a t ih =>
    obtain ⟨j, v⟩ := a
    unfold ldel2
    cases (Nat.beq j i || (Nat.beq j (i + 1) || (Nat.beq (j + 1) i && Nat.beq (scat v) 2)))
    · exact wfl_c (wfl_h hw) (ih (wfl_t hw))
    · exact ih (wfl_t hw)
theorem V_iconst {n : Int} {v : Int32} (C : Cx p l s m args meth c D B tW α0 own cc nL ret mn tab) (hd : decode cc pc = .ok (.iconst n, 1)) (hv : Int32.ofInt n = v) (k : V p l e R s m args below meth c D B α0 ν0 nL Q cells slots ν ι ρ ℓ (pc + 1) lv (sI v :: st)) : V p l e R s m args below meth c D B α0 ν0 nL Q cells slots ν ι ρ ℓ pc lv st := by
  intro α H locs ls hR hS hl h0 h1 h2
  exact lv_iconst C.1 C.2.1 hd hv (k α H locs ls hR hS hl h0 h1 (wfl_c wfv_I h2))
theorem V_bipush {n : Int} {v : Int32} (C : Cx p l s m args meth c D B tW α0 own cc nL ret mn tab) (hd : decode cc pc = .ok (.bipush n, 2)) (hv : (Int8.ofInt n).toInt32 = v) (k : V p l e R s m args below meth c D B α0 ν0 nL Q cells slots ν ι ρ ℓ (pc + 2) lv (sI v :: st)) : V p l e R s m args below meth c D B α0 ν0 nL Q cells slots ν ι ρ ℓ pc lv st := by
  intro α H locs ls hR hS hl h0 h1 h2
  exact lv_bipush C.1 C.2.1 hd hv (k α H locs ls hR hS hl h0 h1 (wfl_c wfv_I h2))
theorem V_sipush {n : Int} {v : Int32} (C : Cx p l s m args meth c D B tW α0 own cc nL ret mn tab) (hd : decode cc pc = .ok (.sipush n, 3)) (hv : (Int16.ofInt n).toInt32 = v) (k : V p l e R s m args below meth c D B α0 ν0 nL Q cells slots ν ι ρ ℓ (pc + 3) lv (sI v :: st)) : V p l e R s m args below meth c D B α0 ν0 nL Q cells slots ν ι ρ ℓ pc lv st := by
  intro α H locs ls hR hS hl h0 h1 h2
  exact lv_sipush C.1 C.2.1 hd hv (k α H locs ls hR hS hl h0 h1 (wfl_c wfv_I h2))
theorem V_lconst {n : Fin 2} {v : Int64} (C : Cx p l s m args meth c D B tW α0 own cc nL ret mn tab) (hd : decode cc pc = .ok (.lconst n, 1)) (hv : Int64.ofNat (n : Nat) = v) (k : V p l e R s m args below meth c D B α0 ν0 nL Q cells slots ν ι ρ ℓ (pc + 1) lv (sL v :: st)) : V p l e R s m args below meth c D B α0 ν0 nL Q cells slots ν ι ρ ℓ pc lv st := by
  intro α H locs ls hR hS hl h0 h1 h2
  exact lv_lconst C.1 C.2.1 hd hv (k α H locs ls hR hS hl h0 h1 (wfl_c wfv_L h2))
theorem V_ldc {i : Nat} {v : Int32} (C : Cx p l s m args meth c D B tW α0 own cc nL ret mn tab) (hd : decode cc pc = .ok (.ldc i, 2)) (hw : Cond.constant own i v ∈ tb_) (k : V p l e R s m args below meth c D B α0 ν0 nL Q cells slots ν ι ρ ℓ (pc + 2) lv (sI v :: st)) : V p l e R s m args below meth c D B α0 ν0 nL Q cells slots ν ι ρ ℓ pc lv st := by
  intro α H locs ls hR hS hl h0 h1 h2
  exact lv_ldc C.1 C.2.1 C.2.2.2.1 (C.2.2.2.2.1 _ hw) hd (k α H locs ls hR hS hl h0 h1 (wfl_c wfv_I h2))
theorem V_ldc2 {i : Nat} {v : Int64} (C : Cx p l s m args meth c D B tW α0 own cc nL ret mn tab) (hd : decode cc pc = .ok (.ldc2_w i, 3)) (hw : Cond.constantLong own i v ∈ tb_) (k : V p l e R s m args below meth c D B α0 ν0 nL Q cells slots ν ι ρ ℓ (pc + 3) lv (sL v :: st)) : V p l e R s m args below meth c D B α0 ν0 nL Q cells slots ν ι ρ ℓ pc lv st := by
  intro α H locs ls hR hS hl h0 h1 h2
  exact lv_ldc2 C.1 C.2.1 C.2.2.2.1 (C.2.2.2.2.1 _ hw) hd (k α H locs ls hR hS hl h0 h1 (wfl_c wfv_L h2))
theorem V_null  (C : Cx p l s m args meth c D B tW α0 own cc nL ret mn tab) (hd : decode cc pc = .ok (.aconst_null, 1)) (k : V p l e R s m args below meth c D B α0 ν0 nL Q cells slots ν ι ρ ℓ (pc + 1) lv (sN :: st)) : V p l e R s m args below meth c D B α0 ν0 nL Q cells slots ν ι ρ ℓ pc lv st := by
  intro α H locs ls hR hS hl h0 h1 h2
  exact lv_null C.1 C.2.1 hd (k α H locs ls hR hS hl h0 h1 (wfl_c wfv_N h2))
theorem V_iload_n {n : Fin 4} {x : Int32} (C : Cx p l s m args meth c D B tW α0 own cc nL ret mn tab) (hd : decode cc pc = .ok (.iload_n n, 1)) (hg : lget lv n = some (sI x)) (k : V p l e R s m args below meth c D B α0 ν0 nL Q cells slots ν ι ρ ℓ (pc + 1) lv (sI x :: st)) : V p l e R s m args below meth c D B α0 ν0 nL Q cells slots ν ι ρ ℓ pc lv st := by
  intro α H locs ls hR hS hl h0 h1 h2
  exact lv_iload_n C.1 C.2.1 hd rfl (lget_at hg hl) (k α H locs ls hR hS hl h0 h1 (wfl_c wfv_I h2))
theorem V_iload {n : Nat} {x : Int32} (C : Cx p l s m args meth c D B tW α0 own cc nL ret mn tab) (hd : decode cc pc = .ok (.iload n, 2)) (hg : lget lv n = some (sI x)) (k : V p l e R s m args below meth c D B α0 ν0 nL Q cells slots ν ι ρ ℓ (pc + 2) lv (sI x :: st)) : V p l e R s m args below meth c D B α0 ν0 nL Q cells slots ν ι ρ ℓ pc lv st := by
  intro α H locs ls hR hS hl h0 h1 h2
  exact lv_iload C.1 C.2.1 hd (lget_at hg hl) (k α H locs ls hR hS hl h0 h1 (wfl_c wfv_I h2))
theorem V_lload_n {n : Fin 4} {x : Int64} (C : Cx p l s m args meth c D B tW α0 own cc nL ret mn tab) (hd : decode cc pc = .ok (.lload_n n, 1)) (hg : lget lv n = some (sL x)) (k : V p l e R s m args below meth c D B α0 ν0 nL Q cells slots ν ι ρ ℓ (pc + 1) lv (sL x :: st)) : V p l e R s m args below meth c D B α0 ν0 nL Q cells slots ν ι ρ ℓ pc lv st := by
  intro α H locs ls hR hS hl h0 h1 h2
  exact lv_lload_n C.1 C.2.1 hd rfl (lget_at hg hl) (k α H locs ls hR hS hl h0 h1 (wfl_c wfv_L h2))
theorem V_lload {n : Nat} {x : Int64} (C : Cx p l s m args meth c D B tW α0 own cc nL ret mn tab) (hd : decode cc pc = .ok (.lload n, 2)) (hg : lget lv n = some (sL x)) (k : V p l e R s m args below meth c D B α0 ν0 nL Q cells slots ν ι ρ ℓ (pc + 2) lv (sL x :: st)) : V p l e R s m args below meth c D B α0 ν0 nL Q cells slots ν ι ρ ℓ pc lv st := by
  intro α H locs ls hR hS hl h0 h1 h2
  exact lv_lload C.1 C.2.1 hd (lget_at hg hl) (k α H locs ls hR hS hl h0 h1 (wfl_c wfv_L h2))
theorem V_aload_n {n : Fin 4} {x : Option Pt3} (C : Cx p l s m args meth c D B tW α0 own cc nL ret mn tab) (hd : decode cc pc = .ok (.aload_n n, 1)) (hg : lget lv n = some (sQ x)) (k : V p l e R s m args below meth c D B α0 ν0 nL Q cells slots ν ι ρ ℓ (pc + 1) lv (sQ x :: st)) : V p l e R s m args below meth c D B α0 ν0 nL Q cells slots ν ι ρ ℓ pc lv st := by
  intro α H locs ls hR hS hl h0 h1 h2
  cases x with
  | none => exact lv_aload_nN C.1 C.2.1 hd rfl (lget_at hg hl) (k α H locs ls hR hS hl h0 h1 (wfl_c (lget_wf hg h1) h2))
  | some q => exact lv_aload_n C.1 C.2.1 hd rfl (lget_at hg hl) (k α H locs ls hR hS hl h0 h1 (wfl_c (lget_wf hg h1) h2))
theorem V_aload {n : Nat} {x : Option Pt3} (C : Cx p l s m args meth c D B tW α0 own cc nL ret mn tab) (hd : decode cc pc = .ok (.aload n, 2)) (hg : lget lv n = some (sQ x)) (k : V p l e R s m args below meth c D B α0 ν0 nL Q cells slots ν ι ρ ℓ (pc + 2) lv (sQ x :: st)) : V p l e R s m args below meth c D B α0 ν0 nL Q cells slots ν ι ρ ℓ pc lv st := by
  intro α H locs ls hR hS hl h0 h1 h2
  cases x with
  | none => exact lv_aloadN C.1 C.2.1 hd (lget_at hg hl) (k α H locs ls hR hS hl h0 h1 (wfl_c (lget_wf hg h1) h2))
  | some q => exact lv_aload C.1 C.2.1 hd (lget_at hg hl) (k α H locs ls hR hS hl h0 h1 (wfl_c (lget_wf hg h1) h2))
theorem V_istore_n {n : Fin 4} {x : Int32} (C : Cx p l s m args meth c D B tW α0 own cc nL ret mn tab) (hd : decode cc pc = .ok (.istore_n n, 1)) (hn : (n : Nat) < nL) (hs : ((n : Nat), sI x) :: ldel n lv = lv') (k : V p l e R s m args below meth c D B α0 ν0 nL Q cells slots ν ι ρ ℓ (pc + 1) lv' st) : V p l e R s m args below meth c D B α0 ν0 nL Q cells slots ν ι ρ ℓ pc lv (sI x :: st) := by
  intro α H locs ls hR hS hl h0 h1 h2
  subst hs
  exact lv_istore_n C.1 C.2.1 hd rfl hl hn (by rw [ldel_f]; rfl) (fun ls' hl' => k α H locs ls' hR hS hl' h0 (wfl_c wfv_I (ldel_wf h1)) (wfl_t h2))
theorem V_istore {n : Nat} {x : Int32} (C : Cx p l s m args meth c D B tW α0 own cc nL ret mn tab) (hd : decode cc pc = .ok (.istore n, 2)) (hn : n < nL) (hs : (n, sI x) :: ldel n lv = lv') (k : V p l e R s m args below meth c D B α0 ν0 nL Q cells slots ν ι ρ ℓ (pc + 2) lv' st) : V p l e R s m args below meth c D B α0 ν0 nL Q cells slots ν ι ρ ℓ pc lv (sI x :: st) := by
  intro α H locs ls hR hS hl h0 h1 h2
  subst hs
  exact lv_istore C.1 C.2.1 hd hl hn (by rw [ldel_f]; rfl) (fun ls' hl' => k α H locs ls' hR hS hl' h0 (wfl_c wfv_I (ldel_wf h1)) (wfl_t h2))
theorem V_lstore_n {n : Fin 4} {x : Int64} (C : Cx p l s m args meth c D B tW α0 own cc nL ret mn tab) (hd : decode cc pc = .ok (.lstore_n n, 1)) (hn : (n : Nat) + 1 < nL) (hs : ((n : Nat), sL x) :: ldel2 n lv = lv') (k : V p l e R s m args below meth c D B α0 ν0 nL Q cells slots ν ι ρ ℓ (pc + 1) lv' st) : V p l e R s m args below meth c D B α0 ν0 nL Q cells slots ν ι ρ ℓ pc lv (sL x :: st) := by
  intro α H locs ls hR hS hl h0 h1 h2
  subst hs
  exact lv_lstore_n C.1 C.2.1 hd rfl hl hn (by rw [ldel2_f]; rfl) (fun ls' hl' => k α H locs ls' hR hS hl' h0 (wfl_c wfv_L (ldel2_wf h1)) (wfl_t h2))
theorem V_lstore {n : Nat} {x : Int64} (C : Cx p l s m args meth c D B tW α0 own cc nL ret mn tab) (hd : decode cc pc = .ok (.lstore n, 2)) (hn : n + 1 < nL) (hs : (n, sL x) :: ldel2 n lv = lv') (k : V p l e R s m args below meth c D B α0 ν0 nL Q cells slots ν ι ρ ℓ (pc + 2) lv' st) : V p l e R s m args below meth c D B α0 ν0 nL Q cells slots ν ι ρ ℓ pc lv (sL x :: st) := by
  intro α H locs ls hR hS hl h0 h1 h2
  subst hs
  exact lv_lstore C.1 C.2.1 hd hl hn (by rw [ldel2_f]; rfl) (fun ls' hl' => k α H locs ls' hR hS hl' h0 (wfl_c wfv_L (ldel2_wf h1)) (wfl_t h2))
theorem V_astore_n {n : Fin 4} {x : Option Pt3} (C : Cx p l s m args meth c D B tW α0 own cc nL ret mn tab) (hd : decode cc pc = .ok (.astore_n n, 1)) (hn : (n : Nat) < nL) (hs : ((n : Nat), sQ x) :: ldel n lv = lv') (k : V p l e R s m args below meth c D B α0 ν0 nL Q cells slots ν ι ρ ℓ (pc + 1) lv' st) : V p l e R s m args below meth c D B α0 ν0 nL Q cells slots ν ι ρ ℓ pc lv (sQ x :: st) := by
  intro α H locs ls hR hS hl h0 h1 h2
  subst hs
  cases x with
  | none => exact lv_astore_nN C.1 C.2.1 hd rfl hl hn (by rw [ldel_f]; rfl) (fun ls' hl' => k α H locs ls' hR hS hl' h0 (wfl_c (wfl_h h2) (ldel_wf h1)) (wfl_t h2))
  | some q => exact lv_astore_n C.1 C.2.1 hd rfl hl hn (by rw [ldel_f]; rfl) (fun ls' hl' => k α H locs ls' hR hS hl' h0 (wfl_c (wfl_h h2) (ldel_wf h1)) (wfl_t h2))
theorem V_astore {n : Nat} {x : Option Pt3} (C : Cx p l s m args meth c D B tW α0 own cc nL ret mn tab) (hd : decode cc pc = .ok (.astore n, 2)) (hn : n < nL) (hs : (n, sQ x) :: ldel n lv = lv') (k : V p l e R s m args below meth c D B α0 ν0 nL Q cells slots ν ι ρ ℓ (pc + 2) lv' st) : V p l e R s m args below meth c D B α0 ν0 nL Q cells slots ν ι ρ ℓ pc lv (sQ x :: st) := by
  intro α H locs ls hR hS hl h0 h1 h2
  subst hs
  cases x with
  | none => exact lv_astoreN C.1 C.2.1 hd hl hn (by rw [ldel_f]; rfl) (fun ls' hl' => k α H locs ls' hR hS hl' h0 (wfl_c (wfl_h h2) (ldel_wf h1)) (wfl_t h2))
  | some q => exact lv_astore C.1 C.2.1 hd hl hn (by rw [ldel_f]; rfl) (fun ls' hl' => k α H locs ls' hR hS hl' h0 (wfl_c (wfl_h h2) (ldel_wf h1)) (wfl_t h2))
theorem lget_ix {α : Ad} {i : Nat} {v : SV} (h : lget lv i = some v) : ∃ k : Nat, (lv.map (fun q => (q.1, enc α q.2)))[k]? = some (i, enc α v) := by
  obtain ⟨k, hk⟩ := List.getElem?_of_mem (List.mem_map.mpr ⟨(i, v), lget_mem h, rfl⟩ : (i, enc α v) ∈ lv.map (fun q => (q.1, enc α q.2)))
  exact ⟨k, hk⟩
theorem V_iinc {n : Nat} {d : Int} {x v : Int32} (C : Cx p l s m args meth c D B tW α0 own cc nL ret mn tab) (hd : decode cc pc = .ok (.iinc n d, 3)) (hg : lget lv n = some (sI x)) (hv : x + Int32.ofInt d = v) (hn : n < nL) (hs : (n, sI v) :: ldel n lv = lv') (k : V p l e R s m args below meth c D B α0 ν0 nL Q cells slots ν ι ρ ℓ (pc + 3) lv' st) : V p l e R s m args below meth c D B α0 ν0 nL Q cells slots ν ι ρ ℓ pc lv st := by
  intro α H locs ls hR hS hl h0 h1 h2
  subst hs
  obtain ⟨k9, hk9⟩ := lget_ix (α := α) hg
  exact lv_iinc C.1 C.2.1 hd hl hk9 hv hn (by rw [ldel_f]; rfl) (fun ls' hl' => k α H locs ls' hR hS hl' h0 (wfl_c wfv_I (ldel_wf h1)) h2)
theorem V_iadd {x y : Int32} (C : Cx p l s m args meth c D B tW α0 own cc nL ret mn tab) (hd : decode cc pc = .ok (.iadd, 1)) (k : V p l e R s m args below meth c D B α0 ν0 nL Q cells slots ν ι ρ ℓ (pc + 1) lv (sI (x + y) :: st)) : V p l e R s m args below meth c D B α0 ν0 nL Q cells slots ν ι ρ ℓ pc lv (sI y :: sI x :: st) := by
  intro α H locs ls hR hS hl h0 h1 h2
  exact lv_iadd C.1 C.2.1 hd (k α H locs ls hR hS hl h0 h1 (wfl_c wfv_I (wfl_t (wfl_t h2))))
theorem V_isub {x y : Int32} (C : Cx p l s m args meth c D B tW α0 own cc nL ret mn tab) (hd : decode cc pc = .ok (.isub, 1)) (k : V p l e R s m args below meth c D B α0 ν0 nL Q cells slots ν ι ρ ℓ (pc + 1) lv (sI (x - y) :: st)) : V p l e R s m args below meth c D B α0 ν0 nL Q cells slots ν ι ρ ℓ pc lv (sI y :: sI x :: st) := by
  intro α H locs ls hR hS hl h0 h1 h2
  exact lv_isub C.1 C.2.1 hd (k α H locs ls hR hS hl h0 h1 (wfl_c wfv_I (wfl_t (wfl_t h2))))
theorem V_imul {x y : Int32} (C : Cx p l s m args meth c D B tW α0 own cc nL ret mn tab) (hd : decode cc pc = .ok (.imul, 1)) (k : V p l e R s m args below meth c D B α0 ν0 nL Q cells slots ν ι ρ ℓ (pc + 1) lv (sI (x * y) :: st)) : V p l e R s m args below meth c D B α0 ν0 nL Q cells slots ν ι ρ ℓ pc lv (sI y :: sI x :: st) := by
  intro α H locs ls hR hS hl h0 h1 h2
  exact lv_imul C.1 C.2.1 hd (k α H locs ls hR hS hl h0 h1 (wfl_c wfv_I (wfl_t (wfl_t h2))))
theorem V_iand {x y : Int32} (C : Cx p l s m args meth c D B tW α0 own cc nL ret mn tab) (hd : decode cc pc = .ok (.iand, 1)) (k : V p l e R s m args below meth c D B α0 ν0 nL Q cells slots ν ι ρ ℓ (pc + 1) lv (sI (x &&& y) :: st)) : V p l e R s m args below meth c D B α0 ν0 nL Q cells slots ν ι ρ ℓ pc lv (sI y :: sI x :: st) := by
  intro α H locs ls hR hS hl h0 h1 h2
  exact lv_iand C.1 C.2.1 hd (k α H locs ls hR hS hl h0 h1 (wfl_c wfv_I (wfl_t (wfl_t h2))))
theorem V_ior {x y : Int32} (C : Cx p l s m args meth c D B tW α0 own cc nL ret mn tab) (hd : decode cc pc = .ok (.ior, 1)) (k : V p l e R s m args below meth c D B α0 ν0 nL Q cells slots ν ι ρ ℓ (pc + 1) lv (sI (x ||| y) :: st)) : V p l e R s m args below meth c D B α0 ν0 nL Q cells slots ν ι ρ ℓ pc lv (sI y :: sI x :: st) := by
  intro α H locs ls hR hS hl h0 h1 h2
  exact lv_ior C.1 C.2.1 hd (k α H locs ls hR hS hl h0 h1 (wfl_c wfv_I (wfl_t (wfl_t h2))))
theorem V_ixor {x y : Int32} (C : Cx p l s m args meth c D B tW α0 own cc nL ret mn tab) (hd : decode cc pc = .ok (.ixor, 1)) (k : V p l e R s m args below meth c D B α0 ν0 nL Q cells slots ν ι ρ ℓ (pc + 1) lv (sI (x ^^^ y) :: st)) : V p l e R s m args below meth c D B α0 ν0 nL Q cells slots ν ι ρ ℓ pc lv (sI y :: sI x :: st) := by
  intro α H locs ls hR hS hl h0 h1 h2
  exact lv_ixor C.1 C.2.1 hd (k α H locs ls hR hS hl h0 h1 (wfl_c wfv_I (wfl_t (wfl_t h2))))
theorem V_ishl {x y : Int32} (C : Cx p l s m args meth c D B tW α0 own cc nL ret mn tab) (hd : decode cc pc = .ok (.ishl, 1)) (k : V p l e R s m args below meth c D B α0 ν0 nL Q cells slots ν ι ρ ℓ (pc + 1) lv (sI (x <<< (y &&& 31)) :: st)) : V p l e R s m args below meth c D B α0 ν0 nL Q cells slots ν ι ρ ℓ pc lv (sI y :: sI x :: st) := by
  intro α H locs ls hR hS hl h0 h1 h2
  exact lv_ishl C.1 C.2.1 hd (k α H locs ls hR hS hl h0 h1 (wfl_c wfv_I (wfl_t (wfl_t h2))))
theorem V_ishr {x y : Int32} (C : Cx p l s m args meth c D B tW α0 own cc nL ret mn tab) (hd : decode cc pc = .ok (.ishr, 1)) (k : V p l e R s m args below meth c D B α0 ν0 nL Q cells slots ν ι ρ ℓ (pc + 1) lv (sI (x >>> (y &&& 31)) :: st)) : V p l e R s m args below meth c D B α0 ν0 nL Q cells slots ν ι ρ ℓ pc lv (sI y :: sI x :: st) := by
  intro α H locs ls hR hS hl h0 h1 h2
  exact lv_ishr C.1 C.2.1 hd (k α H locs ls hR hS hl h0 h1 (wfl_c wfv_I (wfl_t (wfl_t h2))))
theorem V_idiv {x y : Int32} (C : Cx p l s m args meth c D B tW α0 own cc nL ret mn tab) (hd : decode cc pc = .ok (.idiv, 1)) (hne : ¬ y = 0) (k : V p l e R s m args below meth c D B α0 ν0 nL Q cells slots ν ι ρ ℓ (pc + 1) lv (sI (x / y) :: st)) : V p l e R s m args below meth c D B α0 ν0 nL Q cells slots ν ι ρ ℓ pc lv (sI y :: sI x :: st) := by
  intro α H locs ls hR hS hl h0 h1 h2
  exact lv_idiv C.1 C.2.1 hd hne (k α H locs ls hR hS hl h0 h1 (wfl_c wfv_I (wfl_t (wfl_t h2))))
theorem V_irem {x y : Int32} (C : Cx p l s m args meth c D B tW α0 own cc nL ret mn tab) (hd : decode cc pc = .ok (.irem, 1)) (hne : ¬ y = 0) (k : V p l e R s m args below meth c D B α0 ν0 nL Q cells slots ν ι ρ ℓ (pc + 1) lv (sI (x - x / y * y) :: st)) : V p l e R s m args below meth c D B α0 ν0 nL Q cells slots ν ι ρ ℓ pc lv (sI y :: sI x :: st) := by
  intro α H locs ls hR hS hl h0 h1 h2
  exact lv_irem C.1 C.2.1 hd hne (k α H locs ls hR hS hl h0 h1 (wfl_c wfv_I (wfl_t (wfl_t h2))))
theorem V_iushr {x y : Int32} (C : Cx p l s m args meth c D B tW α0 own cc nL ret mn tab) (hd : decode cc pc = .ok (.iushr, 1)) (k : V p l e R s m args below meth c D B α0 ν0 nL Q cells slots ν ι ρ ℓ (pc + 1) lv (sI (x.toUInt32 >>> (y.toUInt32 &&& Int32.toUInt32 31)).toInt32 :: st)) : V p l e R s m args below meth c D B α0 ν0 nL Q cells slots ν ι ρ ℓ pc lv (sI y :: sI x :: st) := by
  intro α H locs ls hR hS hl h0 h1 h2
  exact lv_iushr C.1 C.2.1 hd rfl (k α H locs ls hR hS hl h0 h1 (wfl_c wfv_I (wfl_t (wfl_t h2))))
theorem V_ladd {x y : Int64} (C : Cx p l s m args meth c D B tW α0 own cc nL ret mn tab) (hd : decode cc pc = .ok (.ladd, 1)) (k : V p l e R s m args below meth c D B α0 ν0 nL Q cells slots ν ι ρ ℓ (pc + 1) lv (sL (x + y) :: st)) : V p l e R s m args below meth c D B α0 ν0 nL Q cells slots ν ι ρ ℓ pc lv (sL y :: sL x :: st) := by
  intro α H locs ls hR hS hl h0 h1 h2
  exact lv_ladd C.1 C.2.1 hd (k α H locs ls hR hS hl h0 h1 (wfl_c wfv_L (wfl_t (wfl_t h2))))
theorem V_lsub {x y : Int64} (C : Cx p l s m args meth c D B tW α0 own cc nL ret mn tab) (hd : decode cc pc = .ok (.lsub, 1)) (k : V p l e R s m args below meth c D B α0 ν0 nL Q cells slots ν ι ρ ℓ (pc + 1) lv (sL (x - y) :: st)) : V p l e R s m args below meth c D B α0 ν0 nL Q cells slots ν ι ρ ℓ pc lv (sL y :: sL x :: st) := by
  intro α H locs ls hR hS hl h0 h1 h2
  exact lv_lsub C.1 C.2.1 hd (k α H locs ls hR hS hl h0 h1 (wfl_c wfv_L (wfl_t (wfl_t h2))))
theorem V_land {x y : Int64} (C : Cx p l s m args meth c D B tW α0 own cc nL ret mn tab) (hd : decode cc pc = .ok (.land, 1)) (k : V p l e R s m args below meth c D B α0 ν0 nL Q cells slots ν ι ρ ℓ (pc + 1) lv (sL (x &&& y) :: st)) : V p l e R s m args below meth c D B α0 ν0 nL Q cells slots ν ι ρ ℓ pc lv (sL y :: sL x :: st) := by
  intro α H locs ls hR hS hl h0 h1 h2
  exact lv_land C.1 C.2.1 hd (k α H locs ls hR hS hl h0 h1 (wfl_c wfv_L (wfl_t (wfl_t h2))))
theorem V_lor {x y : Int64} (C : Cx p l s m args meth c D B tW α0 own cc nL ret mn tab) (hd : decode cc pc = .ok (.lor, 1)) (k : V p l e R s m args below meth c D B α0 ν0 nL Q cells slots ν ι ρ ℓ (pc + 1) lv (sL (x ||| y) :: st)) : V p l e R s m args below meth c D B α0 ν0 nL Q cells slots ν ι ρ ℓ pc lv (sL y :: sL x :: st) := by
  intro α H locs ls hR hS hl h0 h1 h2
  exact lv_lor C.1 C.2.1 hd (k α H locs ls hR hS hl h0 h1 (wfl_c wfv_L (wfl_t (wfl_t h2))))
theorem V_lshr {x : Int64} {y : Int32} (C : Cx p l s m args meth c D B tW α0 own cc nL ret mn tab) (hd : decode cc pc = .ok (.lshr, 1)) (k : V p l e R s m args below meth c D B α0 ν0 nL Q cells slots ν ι ρ ℓ (pc + 1) lv (sL (x >>> (y.toInt64 &&& 63)) :: st)) : V p l e R s m args below meth c D B α0 ν0 nL Q cells slots ν ι ρ ℓ pc lv (sI y :: sL x :: st) := by
  intro α H locs ls hR hS hl h0 h1 h2
  exact lv_lshr C.1 C.2.1 hd rfl (k α H locs ls hR hS hl h0 h1 (wfl_c wfv_L (wfl_t (wfl_t h2))))
theorem V_i2l {x : Int32} (C : Cx p l s m args meth c D B tW α0 own cc nL ret mn tab) (hd : decode cc pc = .ok (.i2l, 1)) (k : V p l e R s m args below meth c D B α0 ν0 nL Q cells slots ν ι ρ ℓ (pc + 1) lv (sL x.toInt64 :: st)) : V p l e R s m args below meth c D B α0 ν0 nL Q cells slots ν ι ρ ℓ pc lv (sI x :: st) := by
  intro α H locs ls hR hS hl h0 h1 h2
  exact lv_i2l C.1 C.2.1 hd rfl (k α H locs ls hR hS hl h0 h1 (wfl_c wfv_L (wfl_t h2)))
theorem V_l2i {x : Int64} (C : Cx p l s m args meth c D B tW α0 own cc nL ret mn tab) (hd : decode cc pc = .ok (.l2i, 1)) (k : V p l e R s m args below meth c D B α0 ν0 nL Q cells slots ν ι ρ ℓ (pc + 1) lv (sI x.toInt32 :: st)) : V p l e R s m args below meth c D B α0 ν0 nL Q cells slots ν ι ρ ℓ pc lv (sL x :: st) := by
  intro α H locs ls hR hS hl h0 h1 h2
  exact lv_l2i C.1 C.2.1 hd rfl (k α H locs ls hR hS hl h0 h1 (wfl_c wfv_I (wfl_t h2)))
theorem V_lcmp {x y : Int64} (C : Cx p l s m args meth c D B tW α0 own cc nL ret mn tab) (hd : decode cc pc = .ok (.lcmp, 1)) (k : V p l e R s m args below meth c D B α0 ν0 nL Q cells slots ν ι ρ ℓ (pc + 1) lv (sI (lg_cmp x y) :: st)) : V p l e R s m args below meth c D B α0 ν0 nL Q cells slots ν ι ρ ℓ pc lv (sL y :: sL x :: st) := by
  intro α H locs ls hR hS hl h0 h1 h2
  exact W.lcmp C.1 C.2.1 hd (k α H locs ls hR hS hl h0 h1 (wfl_c wfv_I (wfl_t (wfl_t h2))))
theorem V_dup {v : SV} (C : Cx p l s m args meth c D B tW α0 own cc nL ret mn tab) (hd : decode cc pc = .ok (.dup, 1)) (hc : scat v = 1) (k : V p l e R s m args below meth c D B α0 ν0 nL Q cells slots ν ι ρ ℓ (pc + 1) lv (v :: v :: st)) : V p l e R s m args below meth c D B α0 ν0 nL Q cells slots ν ι ρ ℓ pc lv (v :: st) := by
  intro α H locs ls hR hS hl h0 h1 h2
  exact lv_dup C.1 C.2.1 hd ((enc_cat α v).trans hc) (k α H locs ls hR hS hl h0 h1 (wfl_c (wfl_h h2) h2))
theorem V_pop {v : SV} (C : Cx p l s m args meth c D B tW α0 own cc nL ret mn tab) (hd : decode cc pc = .ok (.pop, 1)) (hc : scat v = 1) (k : V p l e R s m args below meth c D B α0 ν0 nL Q cells slots ν ι ρ ℓ (pc + 1) lv st) : V p l e R s m args below meth c D B α0 ν0 nL Q cells slots ν ι ρ ℓ pc lv (v :: st) := by
  intro α H locs ls hR hS hl h0 h1 h2
  exact lv_pop C.1 C.2.1 hd ((enc_cat α v).trans hc) (k α H locs ls hR hS hl h0 h1 (wfl_t h2))
theorem V_dup_x1 {v w : SV} (C : Cx p l s m args meth c D B tW α0 own cc nL ret mn tab) (hd : decode cc pc = .ok (.dup_x1, 1)) (hc : scat v = 1) (hc2 : scat w = 1) (k : V p l e R s m args below meth c D B α0 ν0 nL Q cells slots ν ι ρ ℓ (pc + 1) lv (v :: w :: v :: st)) : V p l e R s m args below meth c D B α0 ν0 nL Q cells slots ν ι ρ ℓ pc lv (v :: w :: st) := by
  intro α H locs ls hR hS hl h0 h1 h2
  exact lv_dup_x1 C.1 C.2.1 hd ((enc_cat α v).trans hc) ((enc_cat α w).trans hc2) (k α H locs ls hR hS hl h0 h1 (wfl_c (wfl_h h2) (wfl_c (wfl_h (wfl_t h2)) (wfl_c (wfl_h h2) (wfl_t (wfl_t h2))))))
theorem V_dup_x2 {v w u : SV} (C : Cx p l s m args meth c D B tW α0 own cc nL ret mn tab) (hd : decode cc pc = .ok (.dup_x2, 1)) (hc : scat v = 1) (hc2 : scat w = 1) (hc3 : scat u = 1) (k : V p l e R s m args below meth c D B α0 ν0 nL Q cells slots ν ι ρ ℓ (pc + 1) lv (v :: w :: u :: v :: st)) : V p l e R s m args below meth c D B α0 ν0 nL Q cells slots ν ι ρ ℓ pc lv (v :: w :: u :: st) := by
  intro α H locs ls hR hS hl h0 h1 h2
  exact lv_dup_x2 C.1 C.2.1 hd ((enc_cat α v).trans hc) ((enc_cat α w).trans hc2) ((enc_cat α u).trans hc3) (k α H locs ls hR hS hl h0 h1 (wfl_c (wfl_h h2) (wfl_c (wfl_h (wfl_t h2)) (wfl_c (wfl_h (wfl_t (wfl_t h2))) (wfl_c (wfl_h h2) (wfl_t (wfl_t (wfl_t h2))))))))
theorem V_dup2 {v w : SV} (C : Cx p l s m args meth c D B tW α0 own cc nL ret mn tab) (hd : decode cc pc = .ok (.dup2, 1)) (hc : scat v = 1) (hc2 : scat w = 1) (k : V p l e R s m args below meth c D B α0 ν0 nL Q cells slots ν ι ρ ℓ (pc + 1) lv (v :: w :: v :: w :: st)) : V p l e R s m args below meth c D B α0 ν0 nL Q cells slots ν ι ρ ℓ pc lv (v :: w :: st) := by
  intro α H locs ls hR hS hl h0 h1 h2
  exact lv_dup2_11 C.1 C.2.1 hd ((enc_cat α v).trans hc) ((enc_cat α w).trans hc2) (k α H locs ls hR hS hl h0 h1 (wfl_c (wfl_h h2) (wfl_c (wfl_h (wfl_t h2)) h2)))
theorem V_if_eq {x : Int32} {off : Int} {tgt : Nat} (C : Cx p l s m args meth c D B tW α0 own cc nL ret mn tab) (hd : decode cc pc = .ok (.ifCond .eq off, 3)) (ht : (pc : Int) + off = (tgt : Int)) (kt : x = 0 → V p l e R s m args below meth c D B α0 ν0 nL Q cells slots ν ι ρ ℓ tgt lv st) (kf : ¬ x = 0 → V p l e R s m args below meth c D B α0 ν0 nL Q cells slots ν ι ρ ℓ (pc + 3) lv st) : V p l e R s m args below meth c D B α0 ν0 nL Q cells slots ν ι ρ ℓ pc lv (sI x :: st) := by
  intro α H locs ls hR hS hl h0 h1 h2
  exact lv_if_eq C.1 C.2.1 hd ht (fun z => kt z α H locs ls hR hS hl h0 h1 (wfl_t h2)) (fun z => kf z α H locs ls hR hS hl h0 h1 (wfl_t h2))
theorem V_icmp_eq {x y : Int32} {off : Int} {tgt : Nat} (C : Cx p l s m args meth c D B tW α0 own cc nL ret mn tab) (hd : decode cc pc = .ok (.if_icmp .eq off, 3)) (ht : (pc : Int) + off = (tgt : Int)) (kt : x = y → V p l e R s m args below meth c D B α0 ν0 nL Q cells slots ν ι ρ ℓ tgt lv st) (kf : ¬ x = y → V p l e R s m args below meth c D B α0 ν0 nL Q cells slots ν ι ρ ℓ (pc + 3) lv st) : V p l e R s m args below meth c D B α0 ν0 nL Q cells slots ν ι ρ ℓ pc lv (sI y :: sI x :: st) := by
  intro α H locs ls hR hS hl h0 h1 h2
  exact lv_icmp_eq C.1 C.2.1 hd ht (fun z => kt z α H locs ls hR hS hl h0 h1 (wfl_t (wfl_t h2))) (fun z => kf z α H locs ls hR hS hl h0 h1 (wfl_t (wfl_t h2)))
theorem V_if_ne {x : Int32} {off : Int} {tgt : Nat} (C : Cx p l s m args meth c D B tW α0 own cc nL ret mn tab) (hd : decode cc pc = .ok (.ifCond .ne off, 3)) (ht : (pc : Int) + off = (tgt : Int)) (kt : ¬ x = 0 → V p l e R s m args below meth c D B α0 ν0 nL Q cells slots ν ι ρ ℓ tgt lv st) (kf : x = 0 → V p l e R s m args below meth c D B α0 ν0 nL Q cells slots ν ι ρ ℓ (pc + 3) lv st) : V p l e R s m args below meth c D B α0 ν0 nL Q cells slots ν ι ρ ℓ pc lv (sI x :: st) := by
  intro α H locs ls hR hS hl h0 h1 h2
  exact lv_if_ne C.1 C.2.1 hd ht (fun z => kt z α H locs ls hR hS hl h0 h1 (wfl_t h2)) (fun z => kf z α H locs ls hR hS hl h0 h1 (wfl_t h2))
theorem V_icmp_ne {x y : Int32} {off : Int} {tgt : Nat} (C : Cx p l s m args meth c D B tW α0 own cc nL ret mn tab) (hd : decode cc pc = .ok (.if_icmp .ne off, 3)) (ht : (pc : Int) + off = (tgt : Int)) (kt : ¬ x = y → V p l e R s m args below meth c D B α0 ν0 nL Q cells slots ν ι ρ ℓ tgt lv st) (kf : x = y → V p l e R s m args below meth c D B α0 ν0 nL Q cells slots ν ι ρ ℓ (pc + 3) lv st) : V p l e R s m args below meth c D B α0 ν0 nL Q cells slots ν ι ρ ℓ pc lv (sI y :: sI x :: st) := by
  intro α H locs ls hR hS hl h0 h1 h2
  exact lv_icmp_ne C.1 C.2.1 hd ht (fun z => kt z α H locs ls hR hS hl h0 h1 (wfl_t (wfl_t h2))) (fun z => kf z α H locs ls hR hS hl h0 h1 (wfl_t (wfl_t h2)))
theorem V_if_lt {x : Int32} {off : Int} {tgt : Nat} (C : Cx p l s m args meth c D B tW α0 own cc nL ret mn tab) (hd : decode cc pc = .ok (.ifCond .lt off, 3)) (ht : (pc : Int) + off = (tgt : Int)) (kt : x < 0 → V p l e R s m args below meth c D B α0 ν0 nL Q cells slots ν ι ρ ℓ tgt lv st) (kf : ¬ x < 0 → V p l e R s m args below meth c D B α0 ν0 nL Q cells slots ν ι ρ ℓ (pc + 3) lv st) : V p l e R s m args below meth c D B α0 ν0 nL Q cells slots ν ι ρ ℓ pc lv (sI x :: st) := by
  intro α H locs ls hR hS hl h0 h1 h2
  exact lv_if_lt C.1 C.2.1 hd ht (fun z => kt z α H locs ls hR hS hl h0 h1 (wfl_t h2)) (fun z => kf z α H locs ls hR hS hl h0 h1 (wfl_t h2))
theorem V_icmp_lt {x y : Int32} {off : Int} {tgt : Nat} (C : Cx p l s m args meth c D B tW α0 own cc nL ret mn tab) (hd : decode cc pc = .ok (.if_icmp .lt off, 3)) (ht : (pc : Int) + off = (tgt : Int)) (kt : x < y → V p l e R s m args below meth c D B α0 ν0 nL Q cells slots ν ι ρ ℓ tgt lv st) (kf : ¬ x < y → V p l e R s m args below meth c D B α0 ν0 nL Q cells slots ν ι ρ ℓ (pc + 3) lv st) : V p l e R s m args below meth c D B α0 ν0 nL Q cells slots ν ι ρ ℓ pc lv (sI y :: sI x :: st) := by
  intro α H locs ls hR hS hl h0 h1 h2
  exact lv_icmp_lt C.1 C.2.1 hd ht (fun z => kt z α H locs ls hR hS hl h0 h1 (wfl_t (wfl_t h2))) (fun z => kf z α H locs ls hR hS hl h0 h1 (wfl_t (wfl_t h2)))
theorem V_if_ge {x : Int32} {off : Int} {tgt : Nat} (C : Cx p l s m args meth c D B tW α0 own cc nL ret mn tab) (hd : decode cc pc = .ok (.ifCond .ge off, 3)) (ht : (pc : Int) + off = (tgt : Int)) (kt : 0 ≤ x → V p l e R s m args below meth c D B α0 ν0 nL Q cells slots ν ι ρ ℓ tgt lv st) (kf : ¬ 0 ≤ x → V p l e R s m args below meth c D B α0 ν0 nL Q cells slots ν ι ρ ℓ (pc + 3) lv st) : V p l e R s m args below meth c D B α0 ν0 nL Q cells slots ν ι ρ ℓ pc lv (sI x :: st) := by
  intro α H locs ls hR hS hl h0 h1 h2
  exact lv_if_ge C.1 C.2.1 hd ht (fun z => kt z α H locs ls hR hS hl h0 h1 (wfl_t h2)) (fun z => kf z α H locs ls hR hS hl h0 h1 (wfl_t h2))
theorem V_icmp_ge {x y : Int32} {off : Int} {tgt : Nat} (C : Cx p l s m args meth c D B tW α0 own cc nL ret mn tab) (hd : decode cc pc = .ok (.if_icmp .ge off, 3)) (ht : (pc : Int) + off = (tgt : Int)) (kt : y ≤ x → V p l e R s m args below meth c D B α0 ν0 nL Q cells slots ν ι ρ ℓ tgt lv st) (kf : ¬ y ≤ x → V p l e R s m args below meth c D B α0 ν0 nL Q cells slots ν ι ρ ℓ (pc + 3) lv st) : V p l e R s m args below meth c D B α0 ν0 nL Q cells slots ν ι ρ ℓ pc lv (sI y :: sI x :: st) := by
  intro α H locs ls hR hS hl h0 h1 h2
  exact lv_icmp_ge C.1 C.2.1 hd ht (fun z => kt z α H locs ls hR hS hl h0 h1 (wfl_t (wfl_t h2))) (fun z => kf z α H locs ls hR hS hl h0 h1 (wfl_t (wfl_t h2)))
theorem V_if_gt {x : Int32} {off : Int} {tgt : Nat} (C : Cx p l s m args meth c D B tW α0 own cc nL ret mn tab) (hd : decode cc pc = .ok (.ifCond .gt off, 3)) (ht : (pc : Int) + off = (tgt : Int)) (kt : 0 < x → V p l e R s m args below meth c D B α0 ν0 nL Q cells slots ν ι ρ ℓ tgt lv st) (kf : ¬ 0 < x → V p l e R s m args below meth c D B α0 ν0 nL Q cells slots ν ι ρ ℓ (pc + 3) lv st) : V p l e R s m args below meth c D B α0 ν0 nL Q cells slots ν ι ρ ℓ pc lv (sI x :: st) := by
  intro α H locs ls hR hS hl h0 h1 h2
  exact lv_if_gt C.1 C.2.1 hd ht (fun z => kt z α H locs ls hR hS hl h0 h1 (wfl_t h2)) (fun z => kf z α H locs ls hR hS hl h0 h1 (wfl_t h2))
theorem V_icmp_gt {x y : Int32} {off : Int} {tgt : Nat} (C : Cx p l s m args meth c D B tW α0 own cc nL ret mn tab) (hd : decode cc pc = .ok (.if_icmp .gt off, 3)) (ht : (pc : Int) + off = (tgt : Int)) (kt : y < x → V p l e R s m args below meth c D B α0 ν0 nL Q cells slots ν ι ρ ℓ tgt lv st) (kf : ¬ y < x → V p l e R s m args below meth c D B α0 ν0 nL Q cells slots ν ι ρ ℓ (pc + 3) lv st) : V p l e R s m args below meth c D B α0 ν0 nL Q cells slots ν ι ρ ℓ pc lv (sI y :: sI x :: st) := by
  intro α H locs ls hR hS hl h0 h1 h2
  exact lv_icmp_gt C.1 C.2.1 hd ht (fun z => kt z α H locs ls hR hS hl h0 h1 (wfl_t (wfl_t h2))) (fun z => kf z α H locs ls hR hS hl h0 h1 (wfl_t (wfl_t h2)))
theorem V_if_le {x : Int32} {off : Int} {tgt : Nat} (C : Cx p l s m args meth c D B tW α0 own cc nL ret mn tab) (hd : decode cc pc = .ok (.ifCond .le off, 3)) (ht : (pc : Int) + off = (tgt : Int)) (kt : x ≤ 0 → V p l e R s m args below meth c D B α0 ν0 nL Q cells slots ν ι ρ ℓ tgt lv st) (kf : ¬ x ≤ 0 → V p l e R s m args below meth c D B α0 ν0 nL Q cells slots ν ι ρ ℓ (pc + 3) lv st) : V p l e R s m args below meth c D B α0 ν0 nL Q cells slots ν ι ρ ℓ pc lv (sI x :: st) := by
  intro α H locs ls hR hS hl h0 h1 h2
  exact lv_if_le C.1 C.2.1 hd ht (fun z => kt z α H locs ls hR hS hl h0 h1 (wfl_t h2)) (fun z => kf z α H locs ls hR hS hl h0 h1 (wfl_t h2))
theorem V_icmp_le {x y : Int32} {off : Int} {tgt : Nat} (C : Cx p l s m args meth c D B tW α0 own cc nL ret mn tab) (hd : decode cc pc = .ok (.if_icmp .le off, 3)) (ht : (pc : Int) + off = (tgt : Int)) (kt : x ≤ y → V p l e R s m args below meth c D B α0 ν0 nL Q cells slots ν ι ρ ℓ tgt lv st) (kf : ¬ x ≤ y → V p l e R s m args below meth c D B α0 ν0 nL Q cells slots ν ι ρ ℓ (pc + 3) lv st) : V p l e R s m args below meth c D B α0 ν0 nL Q cells slots ν ι ρ ℓ pc lv (sI y :: sI x :: st) := by
  intro α H locs ls hR hS hl h0 h1 h2
  exact lv_icmp_le C.1 C.2.1 hd ht (fun z => kt z α H locs ls hR hS hl h0 h1 (wfl_t (wfl_t h2))) (fun z => kf z α H locs ls hR hS hl h0 h1 (wfl_t (wfl_t h2)))
theorem V_goto {off : Int} {tgt : Nat} (C : Cx p l s m args meth c D B tW α0 own cc nL ret mn tab) (hd : decode cc pc = .ok (.goto off, 3)) (ht : (pc : Int) + off = (tgt : Int)) (k : V p l e R s m args below meth c D B α0 ν0 nL Q cells slots ν ι ρ ℓ tgt lv st) : V p l e R s m args below meth c D B α0 ν0 nL Q cells slots ν ι ρ ℓ pc lv st := by
  intro α H locs ls hR hS hl h0 h1 h2
  exact lv_goto C.1 C.2.1 hd ht (k α H locs ls hR hS hl h0 h1 h2)
theorem V_ifnull {q : Option Pt3} {off : Int} {tgt : Nat} (C : Cx p l s m args meth c D B tW α0 own cc nL ret mn tab) (hd : decode cc pc = .ok (.ifnull off, 3)) (ht : (pc : Int) + off = (tgt : Int)) (kt : q = none → V p l e R s m args below meth c D B α0 ν0 nL Q cells slots ν ι ρ ℓ tgt lv st) (kf : ∀ z, q = some z → V p l e R s m args below meth c D B α0 ν0 nL Q cells slots ν ι ρ ℓ (pc + 3) lv st) : V p l e R s m args below meth c D B α0 ν0 nL Q cells slots ν ι ρ ℓ pc lv (sQ q :: st) := by
  intro α H locs ls hR hS hl h0 h1 h2
  cases q with
  | none => exact lv_ifnullN C.1 C.2.1 hd ht (kt rfl α H locs ls hR hS hl h0 h1 (wfl_t h2))
  | some z => exact lv_ifnull C.1 C.2.1 hd (kf z rfl α H locs ls hR hS hl h0 h1 (wfl_t h2))
theorem V_ifnonnull {q : Option Pt3} {off : Int} {tgt : Nat} (C : Cx p l s m args meth c D B tW α0 own cc nL ret mn tab) (hd : decode cc pc = .ok (.ifnonnull off, 3)) (ht : (pc : Int) + off = (tgt : Int)) (kt : ∀ z, q = some z → V p l e R s m args below meth c D B α0 ν0 nL Q cells slots ν ι ρ ℓ tgt lv st) (kf : q = none → V p l e R s m args below meth c D B α0 ν0 nL Q cells slots ν ι ρ ℓ (pc + 3) lv st) : V p l e R s m args below meth c D B α0 ν0 nL Q cells slots ν ι ρ ℓ pc lv (sQ q :: st) := by
  intro α H locs ls hR hS hl h0 h1 h2
  cases q with
  | none => exact lv_ifnonnullN C.1 C.2.1 hd (kf rfl α H locs ls hR hS hl h0 h1 (wfl_t h2))
  | some z => exact lv_ifnonnull C.1 C.2.1 hd ht (kt z rfl α H locs ls hR hS hl h0 h1 (wfl_t h2))
theorem V_tswI {x : Int32} {dflt lo hi : Int} {offs : Array Int} {len : Nat} {off : Int} {tgt : Nat} (C : Cx p l s m args meth c D B tW α0 own cc nL ret mn tab) (hd : decode cc pc = .ok (.tableswitch dflt lo hi offs, len)) (hx1 : ¬ x.toInt < lo) (hx2 : ¬ hi < x.toInt) (ho : offs[(x.toInt - lo).toNat]? = some off) (ht : (pc : Int) + off = (tgt : Int)) (k : V p l e R s m args below meth c D B α0 ν0 nL Q cells slots ν ι ρ ℓ tgt lv st) : V p l e R s m args below meth c D B α0 ν0 nL Q cells slots ν ι ρ ℓ pc lv (sI x :: st) := by
  intro α H locs ls hR hS hl h0 h1 h2
  exact lv_tableIn C.1 C.2.1 hd hx1 hx2 ho ht (k α H locs ls hR hS hl h0 h1 (wfl_t h2))
theorem V_tswO {x : Int32} {dflt lo hi : Int} {offs : Array Int} {len : Nat} {tgt : Nat} (C : Cx p l s m args meth c D B tW α0 own cc nL ret mn tab) (hd : decode cc pc = .ok (.tableswitch dflt lo hi offs, len)) (hx1 : x.toInt < lo ∨ hi < x.toInt) (ht : (pc : Int) + dflt = (tgt : Int)) (k : V p l e R s m args below meth c D B α0 ν0 nL Q cells slots ν ι ρ ℓ tgt lv st) : V p l e R s m args below meth c D B α0 ν0 nL Q cells slots ν ι ρ ℓ pc lv (sI x :: st) := by
  intro α H locs ls hR hS hl h0 h1 h2
  exact lv_tableOut C.1 C.2.1 hd hx1 ht (k α H locs ls hR hS hl h0 h1 (wfl_t h2))
theorem tsw_out {x : Int32} {lo : Int} (n : Nat) (hlo : -1000 ≤ lo ∧ lo + n ≤ 1000) (h : ∀ t : Nat, t < n → x ≠ Int32.ofInt (lo + t)) : x.toInt < lo ∨ lo + n - 1 < x.toInt := by
  rcases Int.lt_or_le x.toInt lo with h1 | h1
  · exact Or.inl h1
  · rcases Int.lt_or_le (lo + n - 1) x.toInt with h2 | h2
    · exact Or.inr h2
    · refine absurd ?_ (h (x.toInt - lo).toNat (by omega))
      apply Int32.toInt_inj.mp
      rw [Int32.toInt_ofInt_of_le (by omega) (by omega)]
      omega
theorem V_topi {x : Int32} (k : ∀ y : Int32, y = x → V p l e R s m args below meth c D B α0 ν0 nL Q cells slots ν ι ρ ℓ pc lv (sI y :: st)) : V p l e R s m args below meth c D B α0 ν0 nL Q cells slots ν ι ρ ℓ pc lv (sI x :: st) := k x rfl
theorem V_topl {x : Int64} (k : ∀ y : Int64, y = x → V p l e R s m args below meth c D B α0 ν0 nL Q cells slots ν ι ρ ℓ pc lv (sL y :: st)) : V p l e R s m args below meth c D B α0 ν0 nL Q cells slots ν ι ρ ℓ pc lv (sL x :: st) := k x rfl
theorem V_eqi {x y : Int32} (h : x = y) (k : V p l e R s m args below meth c D B α0 ν0 nL Q cells slots ν ι ρ ℓ pc lv (sI y :: st)) : V p l e R s m args below meth c D B α0 ν0 nL Q cells slots ν ι ρ ℓ pc lv (sI x :: st) := h ▸ k
theorem V_eql {x y : Int64} (h : x = y) (k : V p l e R s m args below meth c D B α0 ν0 nL Q cells slots ν ι ρ ℓ pc lv (sL y :: st)) : V p l e R s m args below meth c D B α0 ν0 nL Q cells slots ν ι ρ ℓ pc lv (sL x :: st) := h ▸ k
theorem V_wid {k n : Nat} (h1 : cells ≤ k) (h2 : slots ≤ n) (kk : V p l e R s m args below meth c D B α0 ν0 nL Q k n ν ι ρ ℓ pc lv st) : V p l e R s m args below meth c D B α0 ν0 nL Q cells slots ν ι ρ ℓ pc lv st := fun α H locs ls hR hS hl h0 g1 g2 => W.widen h1 h2 (kk α H locs ls hR hS hl h0 g1 g2)
section Ret
variable {mc ms : Nat} {Po : PoT} {PX : PxT}
theorem V_iret {x : Int32} (C : Cx p l s m args meth c D B tW α0 own cc nL ret mn tab) (hQ : Q = vx_MQ below (cQ D B α0 ν0 Po) (cX D B α0 ν0 PX) args s mc ms (uB B)) (hc : cells ≤ mc) (hs : slots ≤ ms) (hd : decode cc pc = .ok (.ireturn, 1)) (hr : ret = some .int) (hp : Po (some (sI x)) ν ι ρ ℓ) : V p l e R s m args below meth c D B α0 ν0 nL Q cells slots ν ι ρ ℓ pc lv [sI x] := by
  intro α H locs ls hR hS hl h0 h1 h2
  subst hQ
  refine W.widen hc hs (vx_ret ?_)
  exact W.iret C.1 C.2.1 (C.2.2.2.2.2.2.2.1.trans hr) (fun t ht hW => ⟨⟨α, ν, ι, ρ, ℓ, some (sI x), rfl, hp, by rw [ht]; exact hR, h0, fun w hw => by cases hw; exact wfv_I⟩, hS.F ht⟩) hS.2.2 hd C.2.2.2.2.2.2.2.2.1
theorem V_zret {x : Int32} (C : Cx p l s m args meth c D B tW α0 own cc nL ret mn tab) (hQ : Q = vx_MQ below (cQ D B α0 ν0 Po) (cX D B α0 ν0 PX) args s mc ms (uB B)) (hc : cells ≤ mc) (hs : slots ≤ ms) (hd : decode cc pc = .ok (.ireturn, 1)) (hr : ret = some .boolean) (hn : narrow .boolean (.int x) = .int x) (hp : Po (some (sI x)) ν ι ρ ℓ) : V p l e R s m args below meth c D B α0 ν0 nL Q cells slots ν ι ρ ℓ pc lv [sI x] := by
  intro α H locs ls hR hS hl h0 h1 h2
  subst hQ
  refine W.widen hc hs (vx_ret ?_)
  exact W.zret C.1 C.2.1 (C.2.2.2.2.2.2.2.1.trans hr) hn (fun t ht hW => ⟨⟨α, ν, ι, ρ, ℓ, some (sI x), rfl, hp, by rw [ht]; exact hR, h0, fun w hw => by cases hw; exact wfv_I⟩, hS.F ht⟩) hS.2.2 hd C.2.2.2.2.2.2.2.2.1
theorem V_lret {x : Int64} (C : Cx p l s m args meth c D B tW α0 own cc nL ret mn tab) (hQ : Q = vx_MQ below (cQ D B α0 ν0 Po) (cX D B α0 ν0 PX) args s mc ms (uB B)) (hc : cells ≤ mc) (hs : slots ≤ ms) (hd : decode cc pc = .ok (.lreturn, 1)) (hr : ret = some .long) (hp : Po (some (sL x)) ν ι ρ ℓ) : V p l e R s m args below meth c D B α0 ν0 nL Q cells slots ν ι ρ ℓ pc lv [sL x] := by
  intro α H locs ls hR hS hl h0 h1 h2
  subst hQ
  refine W.widen hc hs (vx_ret ?_)
  exact W.lret C.1 C.2.1 (C.2.2.2.2.2.2.2.1.trans hr) (fun t ht hW => ⟨⟨α, ν, ι, ρ, ℓ, some (sL x), rfl, hp, by rw [ht]; exact hR, h0, fun w hw => by cases hw; exact wfv_L⟩, hS.F ht⟩) hS.2.2 hd C.2.2.2.2.2.2.2.2.1
theorem V_vret  (C : Cx p l s m args meth c D B tW α0 own cc nL ret mn tab) (hQ : Q = vx_MQ below (cQ D B α0 ν0 Po) (cX D B α0 ν0 PX) args s mc ms (uB B)) (hc : cells ≤ mc) (hs : slots ≤ ms) (hd : decode cc pc = .ok (.return_, 1)) (hr : ret = none) (hp : Po none ν ι ρ ℓ) : V p l e R s m args below meth c D B α0 ν0 nL Q cells slots ν ι ρ ℓ pc lv [] := by
  intro α H locs ls hR hS hl h0 h1 h2
  subst hQ
  refine W.widen hc hs (vx_ret ?_)
  exact W.vret C.1 C.2.1 (C.2.2.2.2.2.2.2.1.trans hr) (fun t ht hW => ⟨⟨α, ν, ι, ρ, ℓ, none, rfl, hp, by rw [ht]; exact hR, h0, fun w hw => by cases hw⟩, hS.F ht⟩) hS.2.2 hd C.2.2.2.2.2.2.2.2.1
theorem V_aret {q : Option Pt3} {rc : String} (C : Cx p l s m args meth c D B tW α0 own cc nL ret mn tab) (hQ : Q = vx_MQ below (cQ D B α0 ν0 Po) (cX D B α0 ν0 PX) args s mc ms (uB B)) (hc : cells ≤ mc) (hs : slots ≤ ms) (hd : decode cc pc = .ok (.areturn, 1)) (hr : ret = some (.object rc)) (hp : Po (some (sQ q)) ν ι ρ ℓ) : V p l e R s m args below meth c D B α0 ν0 nL Q cells slots ν ι ρ ℓ pc lv [sQ q] := by
  intro α H locs ls hR hS hl h0 h1 h2
  subst hQ
  refine W.widen hc hs (vx_ret ?_)
  exact W.aret (v := enc α (sQ q)) C.1 C.2.1 (C.2.2.2.2.2.2.2.1.trans hr) (Or.inl ⟨_, rfl⟩) (by cases q with | none => exact Or.inl rfl | some z => exact Or.inr ⟨_, rfl⟩) (fun t ht hW => ⟨⟨α, ν, ι, ρ, ℓ, some (sQ q), rfl, hp, by rw [ht]; exact hR, h0, fun w hw => by cases hw; exact wfl_h h2⟩, hS.F ht⟩) hS.2.2 hd C.2.2.2.2.2.2.2.2.1
theorem V_throwS {E text : String} {ik is ic : Nat} (C : Cx p l s m args meth c D B tW α0 own cc nL ret mn tab) (hQ : Q = vx_MQ below (cQ D B α0 ν0 Po) (cX D B α0 ν0 PX) args s mc ms (uB B)) (ht : tab = []) (hE : Bundle.fit E = true) (hk : Cond.classLink own ik E ∈ tb_) (hini : Cond.initialized E ∈ tb_) (hstr : (own, is, text) ∈ st_)
    (hat : ∀ w ∈ (vx_atS own ic E ["java/lang/RuntimeException", "java/lang/Exception"]).filter goodWord, w ∈ tb_) (hat2 : ∀ w ∈ (vx_atS own ic E ["java/lang/RuntimeException", "java/lang/Exception"]).filter (fun w => !goodWord w), w ∈ [Cond.castable E E]) (hca : (E, E) ∈ nwC)
    (hgd : ∀ w ∈ Cond.classLink own ik E :: Cond.initialized E :: vx_atS own ic E ["java/lang/RuntimeException", "java/lang/Exception"], vx_ot w = true)
    (d0 : decode cc pc = .ok (.new ik, 3)) (d3 : decode cc (pc + 3) = .ok (.dup, 1)) (d4 : decode cc (pc + 4) = .ok (.ldc is, 2)) (d6 : decode cc (pc + 6) = .ok (.invokespecial ic, 3)) (d9 : decode cc (pc + 9) = .ok (.athrow, 1))
    (hRf : 5 < R.frames) (hRl : (st.map scat).sum + 82 ≤ R.locals) (hRc : cells + 1 ≤ R.cells) (hRs : slots + 6 ≤ R.slots) (hc1 : cells + 1 ≤ mc) (hs1 : slots + 6 ≤ ms) (hp : PX E ν ι ρ ℓ) : V p l e R s m args below meth c D B α0 ν0 nL Q cells slots ν ι ρ ℓ pc lv st := by
  intro α H locs ls hR hS hl h0 h1 h2
  subst hQ
  obtain ⟨a, ha⟩ := C.2.2.2.2.2.1.1.2.2.2.2.2.2.2 _ hstr
  have hcat : ((st.map (enc α)).map fun v => v.category).sum = (st.map scat).sum := by
    rw [List.map_map]
    exact congrArg List.sum (List.map_congr_left fun v _ => enc_cat α v)
  refine vx_throwS (names := ["java/lang/RuntimeException", "java/lang/Exception"]) (A := uB B) C.1 C.2.1 C.2.2.2.2.2.2.2.2.2.1 C.2.2.2.1 hE (by decide) (C.2.2.2.2.1 _ hk) (C.2.2.2.2.1 _ hini) ha ?_ hgd C.2.2.2.2.2.1.2.1 C.2.2.2.2.2.1.2.2.1 hS (hl.1.trans C.2.2.1.symm) d0 d3 d4 d6 d9 ?_ hRf ?_ hRc hRs C.2.2.2.2.2.2.2.2.1 ?_ hS.2.2 hc1 hs1
  · refine vx_hat (B := [Cond.castable E E]) (fun w hw => C.2.2.2.2.1 w (hat w hw)) hat2 (vx_c ?_ vx_n)
    exact va_Nw.use rfl (C.2.2.2.2.2.1.1.2.2.2.2.1 _ hca)
  · rw [C.2.2.2.2.2.2.2.2.2.2.1, ht]
    exact fun x hx => nomatch hx
  · rw [hcat]; exact hRl
  · intro t hal hz hq
    refine ⟨⟨α, ν, ι, ρ, ℓ, hp, ?_, h0⟩, ?_, ?_⟩
    · refine ⟨hR.1, fun r i j n hn => ?_, hR.2.2.1, Nat.le_trans hR.2.2.2 hz⟩
      obtain ⟨g1, g2, g3, g4⟩ := hR.2.1 r i j n hn
      exact ⟨g1, g2, g3.to rfl (hq _ g3.lt) (fun _ _ => rfl), g4⟩
    · exact Nat.le_trans hS.1 hz
    · intro q hq1 hq2
      rw [hq q (Nat.lt_of_lt_of_le hq1 hS.1)]
      exact hS.2.1 q hq1 hq2
end Ret
end Am
end
section
/-- what is known of a class of objects -/
def ClF (r : Nat) (C : String) (T : u_T) (N : Nat) : Prop := r < 20 ∧ cls_[r]? = some (C, T, N) ∧ (∀ w ∈ u_ws C T N, w ∈ tb_) ∧ (∀ k, k < N → parseFieldDescriptor (T k).2.2.1 = some (slt r k)) ∧ (∀ a, a < N → ∀ b, b < N → a ≠ b → (T a).2.1 ≠ (T b).2.1) ∧ Cond.instantiable C N ∈ tb_ ∧ Cond.initialized C ∈ tb_ ∧ N < 1000
theorem Rh.put {D : GD} {B : Nat} {α : Ad} {ν : Nu} {ι ι' : Io} {ρ ρ' : Ro} {ℓ ℓ' : Lo} {H H' : Heap} {r i j n : Nat} (hR : Rh D B α ν ι ρ ℓ H) (hν : ν r i j = some n) (hz : H'.size = H.size) (ho : ∀ q, q ≠ α r i j → H'[q]? = H[q]?)
    (hι : ∀ a b d k, ¬ (a = r ∧ b = i ∧ d = j) → ι' a b d k = ι a b d k) (hρ : ∀ a b d k, ¬ (a = r ∧ b = i ∧ d = j) → ρ' a b d k = ρ a b d k) (hℓ : ∀ a b d k, ¬ (a = r ∧ b = i ∧ d = j) → ℓ' a b d k = ℓ a b d k)
    (hc : cellA D α ι' ρ' ℓ' r i j n H') (hw : ∀ k q, k < n → kd (slt r k) = 1 → ρ' r i j k = some q → alv ν q) : Rh D B α ν ι' ρ' ℓ' H' := by
  refine ⟨hR.1, fun a b d n' hn => ?_, fun a b d n' k q hn hk ht hq => ?_, by rw [hz]; exact hR.2.2.2⟩
  · obtain ⟨g1, g2, g3, g4⟩ := hR.2.1 a b d n' hn
    by_cases e : a = r ∧ b = i ∧ d = j
    · obtain ⟨rfl, rfl, rfl⟩ := e
      cases hν.symm.trans hn
      exact ⟨g1, g2, hc, g4⟩
    · refine ⟨g1, g2, g3.to rfl (ho _ fun q => e ?_) (fun k hk => ?_), g4⟩
      · exact hR.1 _ _ _ _ _ _ g1 (hR.2.1 r i j n hν).1 q
      · unfold cont
        rw [hι a b d k e, hρ a b d k e, hℓ a b d k e]
  · by_cases e : a = r ∧ b = i ∧ d = j
    · obtain ⟨rfl, rfl, rfl⟩ := e
      cases hν.symm.trans hn
      exact hw k q hk ht hq
    · rw [hρ a b d k e] at hq
      exact hR.2.2.1 a b d n' k q hn hk ht hq
theorem alv_up {ν : Nu} {r i j n : Nat} (q : Pt3) (h : alv ν q) : alv (up3 ν r i j (some n)) q := by
  rcases h with h | h
  · left
    unfold up3
    by_cases e : q.1 = r ∧ q.2.1 = i ∧ q.2.2 = j
    · rw [if_pos e]; exact fun z => by cases z
    · rw [if_neg e]; exact h
  · exact Or.inr h
theorem Rh.grow {D : GD} {B : Nat} {α : Ad} {ν : Nu} {ι ι' : Io} {ρ ρ' : Ro} {ℓ ℓ' : Lo} {H H' : Heap} {r i j n : Nat} (hR : Rh D B α ν ι ρ ℓ H) (hr : r < 98) (hn : n < 2147483648) (hν : ν r i j = none) (hz : H'.size = H.size + 1) (ho : ∀ q, q < H.size → H'[q]? = H[q]?)
    (hι : ∀ a b d k, ¬ (a = r ∧ b = i ∧ d = j) → ι' a b d k = ι a b d k) (hρ : ∀ a b d k, ¬ (a = r ∧ b = i ∧ d = j) → ρ' a b d k = ρ a b d k) (hℓ : ∀ a b d k, ¬ (a = r ∧ b = i ∧ d = j) → ℓ' a b d k = ℓ a b d k) (hρn : ∀ k, kd (slt r k) = 1 → ρ' r i j k = none)
    (hc : ∀ α' : Ad, α' r i j = H.size → cellA D α' ι' ρ' ℓ' r i j n H') : ∃ α' : Ad, agr α ν α' (up3 ν r i j (some n)) ∧ α' r i j = H.size ∧ Rh D B α' (up3 ν r i j (some n)) ι' ρ' ℓ' H' := by
  obtain ⟨α', hα⟩ : ∃ α' : Ad, α' = fun a b d => if a = r ∧ b = i ∧ d = j then H.size else if a < 98 ∧ α a b d = H.size then α r i j else α a b d := ⟨_, rfl⟩
  have hat : α' r i j = H.size := by rw [hα]; simp
  have hold : ∀ a b d, 98 ≤ a ∨ ν a b d ≠ none → α' a b d = α a b d := by
    intro a b d h
    have e : ¬ (a = r ∧ b = i ∧ d = j) := by
      rintro ⟨rfl, rfl, rfl⟩
      rcases h with h | h
      · omega
      · exact h hν
    have e2 : ¬ (a < 98 ∧ α a b d = H.size) := by
      rintro ⟨g1, g2⟩
      rcases h with h | h
      · omega
      · cases hx : ν a b d with
        | none => exact h hx
        | some n' =>
          have := (hR.2.1 a b d n' hx).2.2.1.lt
          omega
    rw [hα]
    simp only [if_neg e, if_neg e2]
  refine ⟨α', ⟨fun a b d h => ?_, hold⟩, hat, fun a b d a' b' d' g g' he => ?_, fun a b d n' hn' => ?_, fun a b d n' k q hn' hk ht hq => ?_, by have := hR.2.2.2; omega⟩
  · unfold up3
    by_cases e : a = r ∧ b = i ∧ d = j
    · rw [if_pos e]; exact fun z => by cases z
    · rw [if_neg e]; exact h
  · rw [hα] at he
    simp only at he
    by_cases e : a = r ∧ b = i ∧ d = j <;> by_cases e' : a' = r ∧ b' = i ∧ d' = j
    · obtain ⟨rfl, rfl, rfl⟩ := e
      obtain ⟨rfl, rfl, rfl⟩ := e'
      exact ⟨rfl, rfl, rfl⟩
    · rw [if_pos e, if_neg e'] at he
      by_cases f' : a' < 98 ∧ α a' b' d' = H.size
      · rw [if_pos f'] at he
        have := hR.1 _ _ _ _ _ _ hr g' (he.symm.trans f'.2.symm)
        exact absurd ⟨this.1.symm, this.2.1.symm, this.2.2.symm⟩ e'
      · rw [if_neg f'] at he
        exact absurd ⟨g', he.symm⟩ f'
    · rw [if_neg e, if_pos e'] at he
      by_cases f : a < 98 ∧ α a b d = H.size
      · rw [if_pos f] at he
        have := hR.1 _ _ _ _ _ _ hr g (he.trans f.2.symm)
        exact absurd ⟨this.1.symm, this.2.1.symm, this.2.2.symm⟩ e
      · rw [if_neg f] at he
        exact absurd ⟨g, he⟩ f
    · rw [if_neg e, if_neg e'] at he
      by_cases f : a < 98 ∧ α a b d = H.size <;> by_cases f' : a' < 98 ∧ α a' b' d' = H.size
      · exact hR.1 _ _ _ _ _ _ g g' (f.2.trans f'.2.symm)
      · rw [if_pos f, if_neg f'] at he
        have := hR.1 _ _ _ _ _ _ hr g' he
        exact absurd ⟨this.1.symm, this.2.1.symm, this.2.2.symm⟩ e'
      · rw [if_neg f, if_pos f'] at he
        have := hR.1 _ _ _ _ _ _ g hr he
        exact absurd this e
      · rw [if_neg f, if_neg f'] at he
        exact hR.1 _ _ _ _ _ _ g g' he
  · by_cases e : a = r ∧ b = i ∧ d = j
    · obtain ⟨rfl, rfl, rfl⟩ := e
      rw [up3_s] at hn'
      cases hn'
      exact ⟨hr, hn, hc α' hat, by rw [hat]; exact hR.2.2.2⟩
    · have hn2 : ν a b d = some n' := by unfold up3 at hn'; rwa [if_neg e] at hn'
      obtain ⟨g1, g2, g3, g4⟩ := hR.2.1 a b d n' hn2
      have ha := hold a b d (Or.inr (by rw [hn2]; exact fun z => by cases z))
      refine ⟨g1, g2, g3.to ha (ho _ g3.lt) (fun k hk => ?_), by rw [ha]; exact g4⟩
      unfold cont
      rw [hι a b d k e, hρ a b d k e, hℓ a b d k e]
      split
      · rfl
      · rename_i ht
        exact (enc_ag (ν := ν) (fun q hq => hR.2.2.1 a b d n' k q hn2 hk ht (Sum.inr.inj (Sum.inr.inj hq))) hold).symm
      · rfl
  · by_cases e : a = r ∧ b = i ∧ d = j
    · obtain ⟨rfl, rfl, rfl⟩ := e
      rw [hρn k ht] at hq
      cases hq
    · have hn2 : ν a b d = some n' := by unfold up3 at hn'; rwa [if_neg e] at hn'
      rw [hρ a b d k e] at hq
      exact alv_up q (hR.2.2.1 a b d n' k q hn2 hk ht hq)
theorem up4_o {β : Type} {f : Nat → Nat → Nat → Nat → β} {r i j k : Nat} {x : β} (a b d k' : Nat) (h : ¬ (a = r ∧ b = i ∧ d = j)) : up4 f r i j k x a b d k' = f a b d k' := by
  unfold up4
  exact if_neg fun z => h ⟨z.1, z.2.1, z.2.2.1⟩
theorem upA_o {β : Type} {f : Nat → Nat → Nat → Nat → β} {r i j : Nat} {x : Nat → β} (a b d k' : Nat) (h : ¬ (a = r ∧ b = i ∧ d = j)) : upA f r i j x a b d k' = f a b d k' := by
  unfold upA
  exact if_neg h
theorem updV_at {f : Nat → Value} {k : Nat} {v : Value} : updV f k v k = v := by simp [updV]
theorem updV_ne {f : Nat → Value} {k j : Nat} {v : Value} (h : j ≠ k) : updV f k v j = f j := by simp [updV, h]
theorem cont_upI {α : Ad} {ι : Io} {ρ : Ro} {ℓ : Lo} {r i j k : Nat} {x : Int32} (h : kd (slt r k) = 0) (k' : Nat) : updV (cont α ι ρ ℓ r i j) k (.int x) k' = cont α (up4 ι r i j k x) ρ ℓ r i j k' := by
  by_cases e : k' = k
  · subst e
    rw [updV_at, cont_I h, up4_s]
  · rw [updV_ne e]
    unfold cont
    rw [show up4 ι r i j k x r i j k' = ι r i j k' from if_neg fun z => e z.2.2.2]
theorem cont_upR {α : Ad} {ι : Io} {ρ : Ro} {ℓ : Lo} {r i j k : Nat} {x : Option Pt3} (h : kd (slt r k) = 1) (k' : Nat) : updV (cont α ι ρ ℓ r i j) k (enc α (sQ x)) k' = cont α ι (up4 ρ r i j k x) ℓ r i j k' := by
  by_cases e : k' = k
  · subst e
    rw [updV_at, cont_R h, up4_s]
  · rw [updV_ne e]
    unfold cont
    rw [show up4 ρ r i j k x r i j k' = ρ r i j k' from if_neg fun z => e z.2.2.2]
theorem cont_upL {α : Ad} {ι : Io} {ρ : Ro} {ℓ : Lo} {r i j k : Nat} {x : Int64} (h : kd (slt r k) = 2) (k' : Nat) : updV (cont α ι ρ ℓ r i j) k (.long x) k' = cont α ι ρ (up4 ℓ r i j k x) r i j k' := by
  by_cases e : k' = k
  · subst e
    rw [updV_at, cont_L h, up4_s]
  · rw [updV_ne e]
    unfold cont
    rw [show up4 ℓ r i j k x r i j k' = ℓ r i j k' from if_neg fun z => e z.2.2.2]
section Am2
variable {p : Program} {l : Launch} {e : Env} {R : Room} {s : State} {m : MethodId} {args : Array Value} {below : List Frame} {meth : Method} {c : Code} {D : GD} {B tW : Nat} {α0 : Ad} {ν0 : Nu} {own : String} {cc : ByteArray} {nL : Nat} {ret : Option FieldType} {mn : String} {tab : List ExceptionTableEntry} {Q : State → Prop} {cells slots : Nat} {ν : Nu} {ι : Io} {ρ : Ro} {ℓ : Lo} {pc : Nat} {lv lv' : List (Nat × SV)} {st : List SV}
theorem Cx.vk {D : GD} {B tW : Nat} {s : State} (h : KS D B tW s) : va_K (D.1, D.2.1) cls_ [] s := ⟨h.1.1, fun k q z => by simp at z⟩
theorem V_getI {r i j kx N idx : Nat} {C1 : String} {T : u_T} (C : Cx p l s m args meth c D B tW α0 own cc nL ret mn tab) (hd : decode cc pc = .ok (.getfield idx, 3)) (hF : ClF r C1 T N) (hk : kx < N) (hw : Cond.fieldLink own idx (T kx).1 (T kx).2.1 (T kx).2.2.1 ∈ tb_) (ha : ν r i j ≠ none) (ht : kd (slt r kx) = 0) (k : V p l e R s m args below meth c D B α0 ν0 nL Q cells slots ν ι ρ ℓ (pc + 3) lv (sI (ι r i j kx) :: st)) : V p l e R s m args below meth c D B α0 ν0 nL Q cells slots ν ι ρ ℓ pc lv (sR r i j :: st) := by
  intro α H locs ls hR hS hl h0 h1 h2
  obtain ⟨n, hn⟩ := Option.ne_none_iff_exists'.mp ha
  obtain ⟨-, -, g3, -⟩ := hR.2.1 r i j n hn
  obtain ⟨q, h3, h4, cell, q1, q2, q3, q4⟩ := g3.1 hF.1
  cases hF.2.1.symm.trans h3
  obtain ⟨hS1, hfc, kC, hkC, hkind⟩ := C.2.2.2.2.2.1.1.1 r _ hF.2.1
  obtain ⟨cf, kf, fi, f, hi, hsl⟩ := hS1 kx hk
  exact W.getf C.1 C.2.1 C.2.2.2.1 (C.2.2.2.2.1 _ hw) hi (u_facts hfc hkC (u_lays C.2.2.2.2.1 hF.2.2.1 hk) hi).1 q1 (by rw [q3]; exact fun h => by cases h) (v := .int (ι r i j kx)) (by rw [hsl, q4 kx hk, cont_I ht]) rfl rfl hd (k α H locs ls hR hS hl h0 h1 (wfl_c wfv_I (wfl_t h2)))
theorem V_getR {r i j kx N idx : Nat} {C1 : String} {T : u_T} {x : Option Pt3} (C : Cx p l s m args meth c D B tW α0 own cc nL ret mn tab) (hd : decode cc pc = .ok (.getfield idx, 3)) (hF : ClF r C1 T N) (hk : kx < N) (hw : Cond.fieldLink own idx (T kx).1 (T kx).2.1 (T kx).2.2.1 ∈ tb_) (ha : ν r i j ≠ none) (ht : kd (slt r kx) = 1) (hx : ρ r i j kx = x) (k : V p l e R s m args below meth c D B α0 ν0 nL Q cells slots ν ι ρ ℓ (pc + 3) lv (sQ x :: st)) : V p l e R s m args below meth c D B α0 ν0 nL Q cells slots ν ι ρ ℓ pc lv (sR r i j :: st) := by
  intro α H locs ls hR hS hl h0 h1 h2
  obtain ⟨n, hn⟩ := Option.ne_none_iff_exists'.mp ha
  obtain ⟨-, -, g3, -⟩ := hR.2.1 r i j n hn
  obtain ⟨q, h3, h4, cell, q1, q2, q3, q4⟩ := g3.1 hF.1
  cases hF.2.1.symm.trans h3
  obtain ⟨hS1, hfc, kC, hkC, hkind⟩ := C.2.2.2.2.2.1.1.1 r _ hF.2.1
  obtain ⟨cf, kf, fi, f, hi, hsl⟩ := hS1 kx hk
  have hkn : kx < n := by rw [h4]; exact hk
  exact W.getf C.1 C.2.1 C.2.2.2.1 (C.2.2.2.2.1 _ hw) hi (u_facts hfc hkC (u_lays C.2.2.2.2.1 hF.2.2.1 hk) hi).1 q1 (by rw [q3]; exact fun h => by cases h) (v := enc α (sQ x)) (by rw [hsl, q4 kx hk, cont_R ht, hx]) rfl rfl hd (k α H locs ls hR hS hl h0 h1 (wfl_c (fun q hq => hR.2.2.1 r i j n kx q hn hkn ht (by cases hq; exact hx)) (wfl_t h2)))
theorem V_putI {r i j kx N idx : Nat} {C1 : String} {T : u_T} {x : Int32} (C : Cx p l s m args meth c D B tW α0 own cc nL ret mn tab) (hd : decode cc pc = .ok (.putfield idx, 3)) (hF : ClF r C1 T N) (hk : kx < N) (hw : Cond.fieldLink own idx (T kx).1 (T kx).2.1 (T kx).2.2.1 ∈ tb_) (ha : ν r i j ≠ none) (ht : kd (slt r kx) = 0) (hf : (T kx).2.2.2 = false) (hx : narrow (slt r kx) (.int x) = .int x) (hy : fits (slt r kx) (.int x) = true) (k : V p l e R s m args below meth c D B α0 ν0 nL Q cells slots ν (up4 ι r i j kx x) ρ ℓ (pc + 3) lv st) : V p l e R s m args below meth c D B α0 ν0 nL Q cells slots ν ι ρ ℓ pc lv (sI x :: sR r i j :: st) := by
  intro α H locs ls hR hS hl h0 h1 h2
  obtain ⟨n, hn⟩ := Option.ne_none_iff_exists'.mp ha
  obtain ⟨-, -, g3, -⟩ := hR.2.1 r i j n hn
  obtain ⟨q, h3, h4, cell, q1, q2, q3, q4⟩ := g3.1 hF.1
  cases hF.2.1.symm.trans h3
  obtain ⟨hS1, hfc, kC, hkC, hkind⟩ := C.2.2.2.2.2.1.1.1 r _ hF.2.1
  obtain ⟨cf, kf, fi, f, hi, hsl⟩ := hS1 kx hk
  have hap := va_apart (own := own) C.2.2.2.2.1 hF.2.2.1 (slt r) hF.2.2.2.1 hF.2.2.2.2.1 (Cx.vk C.2.2.2.2.2.1) hF.2.1
  have hlay := C.2.2.2.2.1 _ (hF.2.2.1 _ (u_in_lay hk))
  unfold u_lay at hlay
  rw [if_neg (by rw [hf]; decide)] at hlay
  have h6 := u_store hfc hkC hkind hlay hi (hF.2.2.2.1 kx hk) hx hy
  refine W.putK C.1 C.2.1 (f := f) ⟨C.2.2.2.1, C.2.2.2.2.1 _ hw, ⟨_, _, _, hi⟩, (u_facts hfc hkC (u_lays C.2.2.2.2.1 hF.2.2.1 hk) hi).1⟩ (v := .int x) (by rw [q2]; exact h6) q1 q3 (by rw [hsl]; exact k2_hasslot (q4 kx hk)) rfl rfl hd fun H' e1 e2 e3 => ?_
  rw [hsl] at e1 ⊢
  refine k α H' _ ls (hR.put hn e2 e3 up4_o (fun _ _ _ _ _ => rfl) (fun _ _ _ _ _ => rfl) ⟨fun _ => ⟨_, hF.2.1, h4, t_OB.to (V := updV (cont α ι ρ ℓ r i j) kx _) ⟨_, e1, q2, q3, t_set q4 hap hk _⟩ (fun k' _ => cont_upI ht k')⟩, fun z => absurd hF.1 (by omega)⟩ (fun k9 q9 z1 z2 z3 => hR.2.2.1 r i j n k9 q9 hn z1 z2 z3)) (hS.put e2 e3 (hR.2.1 r i j n hn).2.2.2) hl h0 h1 (wfl_t (wfl_t h2))
theorem V_putIF {r i j kx N idx : Nat} {C1 : String} {T : u_T} {x : Int32} (C : Cx p l s m args meth c D B tW α0 own cc nL ret mn tab) (hd : decode cc pc = .ok (.putfield idx, 3)) (hF : ClF r C1 T N) (hk : kx < N) (hw : Cond.fieldLink own idx (T kx).1 (T kx).2.1 (T kx).2.2.1 ∈ tb_) (ha : ν r i j ≠ none) (ht : kd (slt r kx) = 0) (hf : (T kx).2.2.2 = true) (hmn : mn = "<init>") (hdc : (T kx).1 = own) (hx : narrow (slt r kx) (.int x) = .int x) (hy : fits (slt r kx) (.int x) = true) (k : V p l e R s m args below meth c D B α0 ν0 nL Q cells slots ν (up4 ι r i j kx x) ρ ℓ (pc + 3) lv st) : V p l e R s m args below meth c D B α0 ν0 nL Q cells slots ν ι ρ ℓ pc lv (sI x :: sR r i j :: st) := by
  intro α H locs ls hR hS hl h0 h1 h2
  obtain ⟨n, hn⟩ := Option.ne_none_iff_exists'.mp ha
  obtain ⟨-, -, g3, -⟩ := hR.2.1 r i j n hn
  obtain ⟨q, h3, h4, cell, q1, q2, q3, q4⟩ := g3.1 hF.1
  cases hF.2.1.symm.trans h3
  obtain ⟨hS1, hfc, kC, hkC, hkind⟩ := C.2.2.2.2.2.1.1.1 r _ hF.2.1
  obtain ⟨cf, kf, fi, f, hi, hsl⟩ := hS1 kx hk
  have hap := va_apart (own := own) C.2.2.2.2.1 hF.2.2.1 (slt r) hF.2.2.2.1 hF.2.2.2.2.1 (Cx.vk C.2.2.2.2.2.1) hF.2.1
  have hlay := C.2.2.2.2.1 _ (hF.2.2.1 _ (u_in_lay hk))
  unfold u_lay at hlay
  rw [if_pos hf] at hlay
  have hcf : m.cls = cf := by
    obtain ⟨_, _, c', _, _, _, -, -, hf', -, -, -, hown2, -⟩ := Cond.laysFinal_spec hlay
    have e1 : c' = cf := by have := hi.symm.trans hf'; simp at this; exact this.1.symm
    rw [hdc] at hown2
    rw [← e1]; exact Option.some.inj (C.2.2.2.1.symm.trans hown2)
  have h6 := u_fits hfc hkC hkind (Or.inr hlay) hi (hF.2.2.2.1 kx hk) hx hy
  refine W.putFinK C.1 C.2.1 C.2.2.2.1 (C.2.2.2.2.1 _ hw) hi (u_facts hfc hkC (u_lays C.2.2.2.2.1 hF.2.2.1 hk) hi).1 hcf (C.2.2.2.2.2.2.2.2.2.2.2.1.trans hmn) (v := .int x) (by rw [q2]; exact h6) q1 q3 (by rw [hsl]; exact k2_hasslot (q4 kx hk)) rfl rfl hd fun H' e1 e2 e3 => ?_
  rw [hsl] at e1 ⊢
  refine k α H' _ ls (hR.put hn e2 e3 up4_o (fun _ _ _ _ _ => rfl) (fun _ _ _ _ _ => rfl) ⟨fun _ => ⟨_, hF.2.1, h4, t_OB.to (V := updV (cont α ι ρ ℓ r i j) kx _) ⟨_, e1, q2, q3, t_set q4 hap hk _⟩ (fun k' _ => cont_upI ht k')⟩, fun z => absurd hF.1 (by omega)⟩ (fun k9 q9 z1 z2 z3 => hR.2.2.1 r i j n k9 q9 hn z1 z2 z3)) (hS.put e2 e3 (hR.2.1 r i j n hn).2.2.2) hl h0 h1 (wfl_t (wfl_t h2))
theorem V_putRF {r i j kx N idx : Nat} {C1 : String} {T : u_T} {x : Pt3} (C : Cx p l s m args meth c D B tW α0 own cc nL ret mn tab) (hd : decode cc pc = .ok (.putfield idx, 3)) (hF : ClF r C1 T N) (hk : kx < N) (hw : Cond.fieldLink own idx (T kx).1 (T kx).2.1 (T kx).2.2.1 ∈ tb_) (ha : ν r i j ≠ none) (ht : kd (slt r kx) = 1) (hf : (T kx).2.2.2 = true) (hmn : mn = "<init>") (hdc : (T kx).1 = own) (hx : ∀ a, narrow (slt r kx) (.ref a) = .ref a) (hy : ∀ a, fits (slt r kx) (.ref a) = true) (k : V p l e R s m args below meth c D B α0 ν0 nL Q cells slots ν ι (up4 ρ r i j kx (some x)) ℓ (pc + 3) lv st) : V p l e R s m args below meth c D B α0 ν0 nL Q cells slots ν ι ρ ℓ pc lv (sQ (some x) :: sR r i j :: st) := by
  intro α H locs ls hR hS hl h0 h1 h2
  obtain ⟨n, hn⟩ := Option.ne_none_iff_exists'.mp ha
  obtain ⟨-, -, g3, -⟩ := hR.2.1 r i j n hn
  obtain ⟨q, h3, h4, cell, q1, q2, q3, q4⟩ := g3.1 hF.1
  cases hF.2.1.symm.trans h3
  obtain ⟨hS1, hfc, kC, hkC, hkind⟩ := C.2.2.2.2.2.1.1.1 r _ hF.2.1
  obtain ⟨cf, kf, fi, f, hi, hsl⟩ := hS1 kx hk
  have hap := va_apart (own := own) C.2.2.2.2.1 hF.2.2.1 (slt r) hF.2.2.2.1 hF.2.2.2.2.1 (Cx.vk C.2.2.2.2.2.1) hF.2.1
  have hlay := C.2.2.2.2.1 _ (hF.2.2.1 _ (u_in_lay hk))
  unfold u_lay at hlay
  rw [if_pos hf] at hlay
  have hcf : m.cls = cf := by
    obtain ⟨_, _, c', _, _, _, -, -, hf', -, -, -, hown2, -⟩ := Cond.laysFinal_spec hlay
    have e1 : c' = cf := by have := hi.symm.trans hf'; simp at this; exact this.1.symm
    rw [hdc] at hown2
    rw [← e1]; exact Option.some.inj (C.2.2.2.1.symm.trans hown2)
  have h6 := u_fits hfc hkC hkind (Or.inr hlay) hi (hF.2.2.2.1 kx hk) (hx (ad3 α x)) (hy (ad3 α x))
  refine W.putFinK C.1 C.2.1 C.2.2.2.1 (C.2.2.2.2.1 _ hw) hi (u_facts hfc hkC (u_lays C.2.2.2.2.1 hF.2.2.1 hk) hi).1 hcf (C.2.2.2.2.2.2.2.2.2.2.2.1.trans hmn) (v := .ref (ad3 α x)) (by rw [q2]; exact h6) q1 q3 (by rw [hsl]; exact k2_hasslot (q4 kx hk)) rfl rfl hd fun H' e1 e2 e3 => ?_
  rw [hsl] at e1 ⊢
  refine k α H' _ ls (hR.put hn e2 e3 (fun _ _ _ _ _ => rfl) up4_o (fun _ _ _ _ _ => rfl) ⟨fun _ => ⟨_, hF.2.1, h4, t_OB.to (V := updV (cont α ι ρ ℓ r i j) kx _) ⟨_, e1, q2, q3, t_set q4 hap hk _⟩ (fun k' _ => cont_upR (x := some x) ht k')⟩, fun z => absurd hF.1 (by omega)⟩ (fun k9 q9 z1 z2 z3 => by
      by_cases e9 : k9 = kx
      · subst e9
        rw [up4_s] at z3
        cases z3
        exact wfl_h h2 x rfl
      · rw [show up4 ρ r i j kx (some x) r i j k9 = ρ r i j k9 from if_neg fun z => e9 z.2.2.2] at z3
        exact hR.2.2.1 r i j n k9 q9 hn z1 z2 z3)) (hS.put e2 e3 (hR.2.1 r i j n hn).2.2.2) hl h0 h1 (wfl_t (wfl_t h2))
end Am2
end
section
section Am3
variable {p : Program} {l : Launch} {e : Env} {R : Room} {s : State} {m : MethodId} {args : Array Value} {below : List Frame} {meth : Method} {c : Code} {D : GD} {B tW : Nat} {α0 : Ad} {ν0 : Nu} {own : String} {cc : ByteArray} {nL : Nat} {ret : Option FieldType} {mn : String} {tab : List ExceptionTableEntry} {Q : State → Prop} {cells slots : Nat} {ν : Nu} {ι : Io} {ρ : Ro} {ℓ : Lo} {pc : Nat} {lv lv' : List (Nat × SV)} {st : List SV}
/-- what the tables say of the arrays' class -/
theorem Cx.ar {D : GD} {B tW : Nat} {s : State} (h : KS D B tW s) {r : Nat} (hr : art r < 8) (n : Nat) (z : Nat → Value) : s.isArrayOf (arrV (D.2.2 (art r)) n z) (aty (art r)) := (h.1.2.1 (art r) hr).1 n z
theorem nI_in' {x : Int32} {t n : Nat} (hx : x = nI t) (ht : t < n) (hn : n < 2147483648) : ¬ (x < 0 ∨ n ≤ x.toNatClampNeg) := by rw [hx]; exact nI_in ht hn
theorem nI_cl' {x : Int32} {t n : Nat} (hx : x = nI t) (ht : t < n) (hn : n < 2147483648) : x.toNatClampNeg = t := by rw [hx]; exact nI_clamp (by omega)
theorem V_iald {r i j n t : Nat} {x : Int32} (C : Cx p l s m args meth c D B tW α0 own cc nL ret mn tab) (hd : decode cc pc = .ok (.iaload, 1)) (hr : 20 ≤ r) (ha : art r = 0) (hn : ν r i j = some n) (hx : x = nI t) (ht : t < n) (hk : kd (slt r t) = 0) (k : V p l e R s m args below meth c D B α0 ν0 nL Q cells slots ν ι ρ ℓ (pc + 1) lv (sI (ι r i j t) :: st)) : V p l e R s m args below meth c D B α0 ν0 nL Q cells slots ν ι ρ ℓ pc lv (sI x :: sR r i j :: st) := by
  intro α H locs ls hR hS hl h0 h1 h2
  obtain ⟨-, hn31, g3, g4⟩ := hR.2.1 r i j n hn
  have hcell := g3.2 hr
  have hcl := nI_cl' hx ht hn31
  have hin : ¬ (x < 0 ∨ (arrV (D.2.2 (art r)) n (cont α ι ρ ℓ r i j)).slots.size ≤ x.toNatClampNeg) := by rw [arrV_size]; exact nI_in' hx ht hn31
  have har := Cx.ar C.2.2.2.2.2.1 (r := r) (by rw [ha]; decide) n (cont α ι ρ ℓ r i j)
  rw [show aty (art r) = aty 0 by rw [ha]] at har
  exact W.iald (v := .int (ι r i j t)) C.1 C.2.1 hcell har (fun q => by cases q) hin (by rw [hcl, arrV_read _ _ ht, cont_I hk]) rfl rfl hd (k α H locs ls hR hS hl h0 h1 (wfl_c wfv_I (wfl_t (wfl_t h2))))
theorem V_zald {r i j n t : Nat} {x : Int32} (C : Cx p l s m args meth c D B tW α0 own cc nL ret mn tab) (hd : decode cc pc = .ok (.baload, 1)) (hr : 20 ≤ r) (ha : art r = 1) (hn : ν r i j = some n) (hx : x = nI t) (ht : t < n) (hk : kd (slt r t) = 0) (k : V p l e R s m args below meth c D B α0 ν0 nL Q cells slots ν ι ρ ℓ (pc + 1) lv (sI (ι r i j t) :: st)) : V p l e R s m args below meth c D B α0 ν0 nL Q cells slots ν ι ρ ℓ pc lv (sI x :: sR r i j :: st) := by
  intro α H locs ls hR hS hl h0 h1 h2
  obtain ⟨-, hn31, g3, g4⟩ := hR.2.1 r i j n hn
  have hcell := g3.2 hr
  have hcl := nI_cl' hx ht hn31
  have hin : ¬ (x < 0 ∨ (arrV (D.2.2 (art r)) n (cont α ι ρ ℓ r i j)).slots.size ≤ x.toNatClampNeg) := by rw [arrV_size]; exact nI_in' hx ht hn31
  have har := Cx.ar C.2.2.2.2.2.1 (r := r) (by rw [ha]; decide) n (cont α ι ρ ℓ r i j)
  rw [show aty (art r) = aty 1 by rw [ha]] at har
  exact W.zald (v := .int (ι r i j t)) C.1 C.2.1 hcell har (fun q => by cases q) hin (by rw [hcl, arrV_read _ _ ht, cont_I hk]) rfl rfl hd (k α H locs ls hR hS hl h0 h1 (wfl_c wfv_I (wfl_t (wfl_t h2))))
theorem V_lald {r i j n t : Nat} {x : Int32} (C : Cx p l s m args meth c D B tW α0 own cc nL ret mn tab) (hd : decode cc pc = .ok (.laload, 1)) (hr : 20 ≤ r) (ha : art r = 2) (hn : ν r i j = some n) (hx : x = nI t) (ht : t < n) (hk : kd (slt r t) = 2) (k : V p l e R s m args below meth c D B α0 ν0 nL Q cells slots ν ι ρ ℓ (pc + 1) lv (sL (ℓ r i j t) :: st)) : V p l e R s m args below meth c D B α0 ν0 nL Q cells slots ν ι ρ ℓ pc lv (sI x :: sR r i j :: st) := by
  intro α H locs ls hR hS hl h0 h1 h2
  obtain ⟨-, hn31, g3, g4⟩ := hR.2.1 r i j n hn
  have hcell := g3.2 hr
  have hcl := nI_cl' hx ht hn31
  have hin : ¬ (x < 0 ∨ (arrV (D.2.2 (art r)) n (cont α ι ρ ℓ r i j)).slots.size ≤ x.toNatClampNeg) := by rw [arrV_size]; exact nI_in' hx ht hn31
  have har := Cx.ar C.2.2.2.2.2.1 (r := r) (by rw [ha]; decide) n (cont α ι ρ ℓ r i j)
  rw [show aty (art r) = aty 2 by rw [ha]] at har
  exact W.lald (v := .long (ℓ r i j t)) C.1 C.2.1 hcell har (fun q => by cases q) hin (by rw [hcl, arrV_read _ _ ht, cont_L hk]) rfl rfl hd (k α H locs ls hR hS hl h0 h1 (wfl_c wfv_L (wfl_t (wfl_t h2))))
theorem V_aald {r i j n t : Nat} {x : Int32} {q : Option Pt3} {C1 : String} (C : Cx p l s m args meth c D B tW α0 own cc nL ret mn tab) (hd : decode cc pc = .ok (.aaload, 1)) (hr : 20 ≤ r) (ha8 : art r < 8) (ha : aty (art r) = .object C1) (hn : ν r i j = some n) (hx : x = nI t) (ht : t < n) (hk : kd (slt r t) = 1) (hq : ρ r i j t = q) (k : V p l e R s m args below meth c D B α0 ν0 nL Q cells slots ν ι ρ ℓ (pc + 1) lv (sQ q :: st)) : V p l e R s m args below meth c D B α0 ν0 nL Q cells slots ν ι ρ ℓ pc lv (sI x :: sR r i j :: st) := by
  intro α H locs ls hR hS hl h0 h1 h2
  obtain ⟨-, hn31, g3, g4⟩ := hR.2.1 r i j n hn
  have hcell := g3.2 hr
  have hcl := nI_cl' hx ht hn31
  have hin : ¬ (x < 0 ∨ (arrV (D.2.2 (art r)) n (cont α ι ρ ℓ r i j)).slots.size ≤ x.toNatClampNeg) := by rw [arrV_size]; exact nI_in' hx ht hn31
  have har := Cx.ar C.2.2.2.2.2.1 (r := r) ha8 n (cont α ι ρ ℓ r i j)
  rw [ha] at har
  exact W.aald (v := enc α (sQ q)) (ty := .object C1) C.1 C.2.1 hcell har rfl (fun q => by cases q) hin (by rw [hcl, arrV_read _ _ ht, cont_R hk, hq]) rfl rfl hd (k α H locs ls hR hS hl h0 h1 (wfl_c (fun z hz => hR.2.2.1 r i j n t z hn ht hk (hq.trans (Sum.inr.inj (Sum.inr.inj hz)))) (wfl_t (wfl_t h2))))
theorem V_alen {r i j n ti : Nat} {v : Int32} (C : Cx p l s m args meth c D B tW α0 own cc nL ret mn tab) (hd : decode cc pc = .ok (.arraylength, 1)) (hr : 20 ≤ r) (ha : art r < 8) (hn : ν r i j = some n) (hv : nI n = v) (k : V p l e R s m args below meth c D B α0 ν0 nL Q cells slots ν ι ρ ℓ (pc + 1) lv (sI v :: st)) : V p l e R s m args below meth c D B α0 ν0 nL Q cells slots ν ι ρ ℓ pc lv (sR r i j :: st) := by
  intro α H locs ls hR hS hl h0 h1 h2
  obtain ⟨-, hn31, g3, g4⟩ := hR.2.1 r i j n hn
  exact W.alen (n := v) C.1 C.2.1 (g3.2 hr) (Cx.ar C.2.2.2.2.2.1 ha n _) (by rw [arrV_size]; exact hv) rfl rfl hd (k α H locs ls hR hS hl h0 h1 (wfl_c wfv_I (wfl_t h2)))
theorem V_iast {r i j n t : Nat} {x : Int32} {y : Int32} (C : Cx p l s m args meth c D B tW α0 own cc nL ret mn tab) (hd : decode cc pc = .ok (.iastore, 1)) (hr : 20 ≤ r) (ha : art r = 0) (hn : ν r i j = some n) (hx : x = nI t) (ht : t < n) (hk : kd (slt r t) = 0) (k : V p l e R s m args below meth c D B α0 ν0 nL Q cells slots ν (up4 ι r i j t y) ρ ℓ (pc + 1) lv st) : V p l e R s m args below meth c D B α0 ν0 nL Q cells slots ν ι ρ ℓ pc lv (sI y :: sI x :: sR r i j :: st) := by
  intro α H locs ls hR hS hl h0 h1 h2
  obtain ⟨-, hn31, g3, g4⟩ := hR.2.1 r i j n hn
  have hcell := g3.2 hr
  have hcl := nI_cl' hx ht hn31
  have hin : ¬ (x < 0 ∨ (arrV (D.2.2 (art r)) n (cont α ι ρ ℓ r i j)).slots.size ≤ x.toNatClampNeg) := by rw [arrV_size]; exact nI_in' hx ht hn31
  have har := Cx.ar C.2.2.2.2.2.1 (r := r) (by rw [ha]; decide) n (cont α ι ρ ℓ r i j)
  rw [show aty (art r) = aty 0 by rw [ha]] at har
  refine W.iast C.1 C.2.1 hcell har (fun q => by cases q) hin rfl rfl hd fun H' e1 e2 e3 => ?_
  refine k α H' _ ls (hR.put hn e2 e3 up4_o (fun _ _ _ _ _ => rfl) (fun _ _ _ _ _ => rfl) ⟨fun z => absurd z (by omega), fun _ => ?_⟩ (fun k9 q9 z1 z2 z3 => hR.2.2.1 r i j n k9 q9 hn z1 z2 z3)) (hS.put e2 e3 g4) hl h0 h1 (wfl_t (wfl_t (wfl_t h2)))
  rw [hcl] at e1
  rw [e1, arrV_store]
  exact congrArg some (arrV_congr fun k' _ => cont_upI hk k')
theorem V_zast {r i j n t : Nat} {x : Int32} {y : Int32} (C : Cx p l s m args meth c D B tW α0 own cc nL ret mn tab) (hd : decode cc pc = .ok (.bastore, 1)) (hr : 20 ≤ r) (ha : art r = 1) (hn : ν r i j = some n) (hx : x = nI t) (ht : t < n) (hy : narrow .boolean (.int y) = .int y) (hk : kd (slt r t) = 0) (k : V p l e R s m args below meth c D B α0 ν0 nL Q cells slots ν (up4 ι r i j t y) ρ ℓ (pc + 1) lv st) : V p l e R s m args below meth c D B α0 ν0 nL Q cells slots ν ι ρ ℓ pc lv (sI y :: sI x :: sR r i j :: st) := by
  intro α H locs ls hR hS hl h0 h1 h2
  obtain ⟨-, hn31, g3, g4⟩ := hR.2.1 r i j n hn
  have hcell := g3.2 hr
  have hcl := nI_cl' hx ht hn31
  have hin : ¬ (x < 0 ∨ (arrV (D.2.2 (art r)) n (cont α ι ρ ℓ r i j)).slots.size ≤ x.toNatClampNeg) := by rw [arrV_size]; exact nI_in' hx ht hn31
  have har := Cx.ar C.2.2.2.2.2.1 (r := r) (by rw [ha]; decide) n (cont α ι ρ ℓ r i j)
  rw [show aty (art r) = aty 1 by rw [ha]] at har
  refine W.zast C.1 C.2.1 hcell har (fun q => by cases q) hin rfl rfl hd fun H' e1 e2 e3 => ?_
  rw [hy] at e1
  refine k α H' _ ls (hR.put hn e2 e3 up4_o (fun _ _ _ _ _ => rfl) (fun _ _ _ _ _ => rfl) ⟨fun z => absurd z (by omega), fun _ => ?_⟩ (fun k9 q9 z1 z2 z3 => hR.2.2.1 r i j n k9 q9 hn z1 z2 z3)) (hS.put e2 e3 g4) hl h0 h1 (wfl_t (wfl_t (wfl_t h2)))
  rw [hcl] at e1
  rw [e1, arrV_store]
  exact congrArg some (arrV_congr fun k' _ => cont_upI hk k')
theorem V_last {r i j n t : Nat} {x : Int32} {y : Int64} (C : Cx p l s m args meth c D B tW α0 own cc nL ret mn tab) (hd : decode cc pc = .ok (.lastore, 1)) (hr : 20 ≤ r) (ha : art r = 2) (hn : ν r i j = some n) (hx : x = nI t) (ht : t < n) (hk : kd (slt r t) = 2) (k : V p l e R s m args below meth c D B α0 ν0 nL Q cells slots ν ι ρ (up4 ℓ r i j t y) (pc + 1) lv st) : V p l e R s m args below meth c D B α0 ν0 nL Q cells slots ν ι ρ ℓ pc lv (sL y :: sI x :: sR r i j :: st) := by
  intro α H locs ls hR hS hl h0 h1 h2
  obtain ⟨-, hn31, g3, g4⟩ := hR.2.1 r i j n hn
  have hcell := g3.2 hr
  have hcl := nI_cl' hx ht hn31
  have hin : ¬ (x < 0 ∨ (arrV (D.2.2 (art r)) n (cont α ι ρ ℓ r i j)).slots.size ≤ x.toNatClampNeg) := by rw [arrV_size]; exact nI_in' hx ht hn31
  have har := Cx.ar C.2.2.2.2.2.1 (r := r) (by rw [ha]; decide) n (cont α ι ρ ℓ r i j)
  rw [show aty (art r) = aty 2 by rw [ha]] at har
  refine W.last C.1 C.2.1 hcell har (fun q => by cases q) hin rfl rfl hd fun H' e1 e2 e3 => ?_
  refine k α H' _ ls (hR.put hn e2 e3 (fun _ _ _ _ _ => rfl) (fun _ _ _ _ _ => rfl) up4_o ⟨fun z => absurd z (by omega), fun _ => ?_⟩ (fun k9 q9 z1 z2 z3 => hR.2.2.1 r i j n k9 q9 hn z1 z2 z3)) (hS.put e2 e3 g4) hl h0 h1 (wfl_t (wfl_t (wfl_t h2)))
  rw [hcl] at e1
  rw [e1, arrV_store]
  exact congrArg some (arrV_congr fun k' _ => cont_upL hk k')
theorem V_aast {r i j n t : Nat} {x : Int32} {r2 i2 j2 N2 : Nat} {C2 : String} {T2 : u_T} (C : Cx p l s m args meth c D B tW α0 own cc nL ret mn tab) (hd : decode cc pc = .ok (.aastore, 1)) (hr : 20 ≤ r) (ha8 : art r < 8) (ha : aty (art r) = .object C2) (hF : ClF r2 C2 T2 N2) (hn : ν r i j = some n) (hx : x = nI t) (ht : t < n) (hk : kd (slt r t) = 1) (hv : ν r2 i2 j2 ≠ none) (k : V p l e R s m args below meth c D B α0 ν0 nL Q cells slots ν ι (up4 ρ r i j t (some (r2, i2, j2))) ℓ (pc + 1) lv st) : V p l e R s m args below meth c D B α0 ν0 nL Q cells slots ν ι ρ ℓ pc lv (sR r2 i2 j2 :: sI x :: sR r i j :: st) := by
  intro α H locs ls hR hS hl h0 h1 h2
  obtain ⟨-, hn31, g3, g4⟩ := hR.2.1 r i j n hn
  have hcell := g3.2 hr
  have hcl := nI_cl' hx ht hn31
  have h00 : ¬ x < 0 := fun z => nI_in' hx ht hn31 (Or.inl z)
  obtain ⟨n2, hn2⟩ := Option.ne_none_iff_exists'.mp hv
  obtain ⟨-, -, g6, -⟩ := hR.2.1 r2 i2 j2 n2 hn2
  obtain ⟨q, w3, w4, cell, q1, q2, q3, -⟩ := g6.1 hF.1
  cases hF.2.1.symm.trans w3
  have hcls := (C.2.2.2.2.2.1.1.1 r2 _ hF.2.1).2
  have hra := (C.2.2.2.2.2.1.1.2.1 (art r) ha8).2
  rw [ha] at hra
  obtain ⟨kA, comp, k1, k2, k3, -⟩ := hra
  have hcomp : comp = D.1 r2 := Option.some.inj (k3.symm.trans hcls.1)
  subst hcomp
  obtain ⟨kC, hkC, -⟩ := hcls.2
  refine W.aast C.1 C.2.1 hcell (fun q h => by cases h) (fun h => by cases h) k1 k2 rfl hkC ⟨h00, by rw [arrV_size, hcl]; exact ht⟩ q1 (fun q h => by rw [q3] at h; cases h) (by rw [q2]; exact hkC) (by rw [q2]; exact va_assign hcls) rfl rfl hd fun H' e1 e2 e3 => ?_
  refine k α H' _ ls (hR.put hn e2 e3 (fun _ _ _ _ _ => rfl) up4_o (fun _ _ _ _ _ => rfl) ⟨fun z => absurd z (by omega), fun _ => ?_⟩ (fun k9 q9 z1 z2 z3 => by
      by_cases e9 : k9 = t
      · subst e9
        rw [up4_s] at z3
        cases z3
        exact Or.inl hv
      · rw [show up4 ρ r i j t (some (r2, i2, j2)) r i j k9 = ρ r i j k9 from if_neg fun z => e9 z.2.2.2] at z3
        exact hR.2.2.1 r i j n k9 q9 hn z1 z2 z3)) (hS.put e2 e3 g4) hl h0 h1 (wfl_t (wfl_t (wfl_t h2)))
  rw [hcl] at e1
  rw [e1, arrV_store]
  exact congrArg some (arrV_congr fun k' _ => cont_upR (x := some (r2, i2, j2)) hk k')
theorem V_newa {r i j n : Nat} {x : Int32} {at9 : ArrayType} (C : Cx p l s m args meth c D B tW α0 own cc nL ret mn tab) (hd : decode cc pc = .ok (.newarray at9, 2)) (hw : Cond.arrayClass (newarray.typeOf at9) ∈ tb_) (hr : 20 ≤ r) (hr2 : r < 98) (ha8 : art r < 8) (ha : aty (art r) = newarray.typeOf at9) (hdf : ∀ k', k' < n → kd (slt r k') = 0 ∧ defaultValue (newarray.typeOf at9) = .int 0) (hν : ν r i j = none) (hx : x = nI n) (hb : n ≤ 60000000) (hcb : componentBytes (newarray.typeOf at9) ≤ 8) (hc : cells + 1 ≤ R.cells) (hs : slots + n ≤ R.slots) (hkr : ∀ k', kd (slt r k') ≠ 1) (k : V p l e R s m args below meth c D B α0 ν0 nL Q (cells + 1) (slots + n) (up3 ν r i j (some n)) (upA ι r i j (fun _ => 0)) ρ ℓ (pc + 2) lv (sR r i j :: st)) : V p l e R s m args below meth c D B α0 ν0 nL Q cells slots ν ι ρ ℓ pc lv (sI x :: st) := by
  intro α H locs ls hR hS hl h0 h1 h2
  have hcl : x.toNatClampNeg = n := by rw [hx]; exact nI_clamp (by omega)
  have h00 : ¬ x < 0 := by rw [hx]; exact nI_pos (by omega)
  refine va_newaK C.1 C.2.1 (C.2.2.2.2.1 _ hw) rfl hd rfl h00 hcl (Nat.le_trans (Nat.mul_le_mul hb hcb) (by decide)) hc hs rfl fun H' cA e1 z1 o1 hAr hNm => ?_
  have hcA : cA = D.2.2 (art r) := by
    have hra := (C.2.2.2.2.2.1.1.2.1 (art r) ha8).2
    rw [ha] at hra
    have : s.vm.findClass ("[" ++ (newarray.typeOf at9).toString) = some (D.2.2 (art r)) := by cases at9 <;> exact hra
    exact Option.some.inj (hNm.symm.trans this)
  have hcc : ∀ α' : Ad, α' r i j = H.size → cellA D α' (upA ι r i j (fun _ => 0)) ρ ℓ r i j n H' := by
    intro α' hα'
    refine ⟨fun z => absurd z (by omega), fun _ => ?_⟩
    rw [hα', e1, hcA]
    exact congrArg some (arrV_congr fun k' hk' => by rw [cont_I (hdf k' hk').1, upA_s, (hdf k' hk').2])
  obtain ⟨α', ag, hat, hR'⟩ := hR.grow (r := r) (i := i) (j := j) (n := n) hr2 (by omega) hν z1 o1 upA_o (fun _ _ _ _ _ => rfl) (fun _ _ _ _ _ => rfl) (fun k' hk' => absurd hk' (hkr k')) hcc
  have hl' : lv_has ls nL (lv.map (fun q => (q.1, enc α' q.2))) := by
    rw [show lv.map (fun q => (q.1, enc α' q.2)) = lv.map (fun q => (q.1, enc α q.2)) from List.map_congr_left fun q hq => by rw [enc_ag (h1 q.2 (List.mem_map.mpr ⟨q, hq, rfl⟩)) ag.2]]
    exact hl
  have hst : st.map (enc α') = st.map (enc α) := encl_ag (wfl_t h2) ag.2
  have hk := k α' H' locs ls hR' ⟨Nat.le_trans hS.1 (by omega), fun x g1 g2 => (o1 x (Nat.lt_of_lt_of_le g1 hS.1)).trans (hS.2.1 x g1 g2), hS.2.2⟩ hl' (h0.tr ag) (wfl_up h1 alv_up) (wfl_c (fun q hq => by cases hq; exact Or.inl (by show up3 ν r i j (some n) r i j ≠ none; rw [up3_s]; exact fun z => by cases z)) (wfl_up (wfl_t h2) alv_up))
  rw [List.map_cons, hst, show enc α' (sR r i j) = .ref H.size from congrArg Value.ref hat] at hk
  exact hk

theorem V_newl {r i j n : Nat} {x : Int32} (C : Cx p l s m args meth c D B tW α0 own cc nL ret mn tab) (hd : decode cc pc = .ok (.newarray .long, 2)) (hw : Cond.arrayClass .long ∈ tb_) (hr : 20 ≤ r) (hr2 : r < 98) (ha : art r = 2) (hdf : ∀ k', kd (slt r k') = 2) (hν : ν r i j = none) (hx : x = nI n) (hb : n ≤ 60000000) (hc : cells + 1 ≤ R.cells) (hs : slots + n ≤ R.slots) (k : V p l e R s m args below meth c D B α0 ν0 nL Q (cells + 1) (slots + n) (up3 ν r i j (some n)) ι ρ (upA ℓ r i j (fun _ => 0)) (pc + 2) lv (sR r i j :: st)) : V p l e R s m args below meth c D B α0 ν0 nL Q cells slots ν ι ρ ℓ pc lv (sI x :: st) := by
  intro α H locs ls hR hS hl h0 h1 h2
  have hcl : x.toNatClampNeg = n := by rw [hx]; exact nI_clamp (by omega)
  have h00 : ¬ x < 0 := by rw [hx]; exact nI_pos (by omega)
  refine va_newaK (atype := .long) C.1 C.2.1 (C.2.2.2.2.1 _ hw) rfl hd rfl h00 hcl (Nat.le_trans (Nat.mul_le_mul hb (show componentBytes (newarray.typeOf .long) ≤ 8 by decide)) (by decide)) hc hs rfl fun H' cA e1 z1 o1 hAr hNm => ?_
  have hcA : cA = D.2.2 (art r) := by
    have hra := (C.2.2.2.2.2.1.1.2.1 (art r) (by rw [ha]; decide)).2
    rw [ha] at hra ⊢
    exact Option.some.inj (hNm.symm.trans hra)
  have hcc : ∀ α' : Ad, α' r i j = H.size → cellA D α' ι ρ (upA ℓ r i j (fun _ => 0)) r i j n H' := by
    intro α' hα'
    refine ⟨fun z => absurd z (by omega), fun _ => ?_⟩
    rw [hα', e1, hcA]
    exact congrArg some (arrV_congr fun k' hk' => by rw [cont_L (hdf k'), upA_s]; rfl)
  obtain ⟨α', ag, hat, hR'⟩ := hR.grow (r := r) (i := i) (j := j) (n := n) hr2 (by omega) hν z1 o1 (fun _ _ _ _ _ => rfl) (fun _ _ _ _ _ => rfl) upA_o (fun k' hk' => absurd (hk'.symm.trans (hdf k')) (by decide)) hcc
  have hl' : lv_has ls nL (lv.map (fun q => (q.1, enc α' q.2))) := by
    rw [show lv.map (fun q => (q.1, enc α' q.2)) = lv.map (fun q => (q.1, enc α q.2)) from List.map_congr_left fun q hq => by rw [enc_ag (h1 q.2 (List.mem_map.mpr ⟨q, hq, rfl⟩)) ag.2]]
    exact hl
  have hst : st.map (enc α') = st.map (enc α) := encl_ag (wfl_t h2) ag.2
  have hk := k α' H' locs ls hR' ⟨Nat.le_trans hS.1 (by omega), fun x g1 g2 => (o1 x (Nat.lt_of_lt_of_le g1 hS.1)).trans (hS.2.1 x g1 g2), hS.2.2⟩ hl' (h0.tr ag) (wfl_up h1 alv_up) (wfl_c (fun q hq => by cases hq; exact Or.inl (by show up3 ν r i j (some n) r i j ≠ none; rw [up3_s]; exact fun z => by cases z)) (wfl_up (wfl_t h2) alv_up))
  rw [List.map_cons, hst, show enc α' (sR r i j) = .ref H.size from congrArg Value.ref hat] at hk
  exact hk

theorem V_anew {r i j n idx : Nat} {x : Int32} {C1 : String} (C : Cx p l s m args meth c D B tW α0 own cc nL ret mn tab) (hd : decode cc pc = .ok (.anewarray idx, 3)) (hw : Cond.classLink own idx C1 ∈ tb_) (hao : C1 ∈ ao_) (hr : 20 ≤ r) (hr2 : r < 98) (ha8 : art r < 8) (ha : aty (art r) = .object C1) (hdf : ∀ k', kd (slt r k') = 1) (hν : ν r i j = none) (hx : x = nI n) (hb : n ≤ 60000000) (hc : cells + 1 ≤ R.cells) (hs : slots + n ≤ R.slots) (k : V p l e R s m args below meth c D B α0 ν0 nL Q (cells + 1) (slots + n) (up3 ν r i j (some n)) ι (upA ρ r i j (fun _ => none)) ℓ (pc + 3) lv (sR r i j :: st)) : V p l e R s m args below meth c D B α0 ν0 nL Q cells slots ν ι ρ ℓ pc lv (sI x :: st) := by
  intro α H locs ls hR hS hl h0 h1 h2
  have hcl : x.toNatClampNeg = n := by rw [hx]; exact nI_clamp (by omega)
  have h00 : ¬ x < 0 := by rw [hx]; exact nI_pos (by omega)
  refine W.anew C.1 C.2.1 C.2.2.2.1 (C.2.2.2.2.1 _ hw) (va_AO.use (C.2.2.2.2.2.1.1.2.2.2.2.2.1 _ hao)) rfl hd rfl h00 (by rw [hcl]; omega) hc (by rw [hcl]; exact hs) fun cA kA comp f1 f2 f3 f4 => ?_
  rw [hcl]
  generalize hH1 : H.push ({ cls := cA, slots := Array.replicate n .null, vm := .none } : Cell) = H'
  have z1 : H'.size = H.size + 1 := by rw [← hH1, Array.size_push]
  have e1 : H'[H.size]? = some (arrV cA n (fun _ => .null)) := by rw [← hH1, Array.getElem?_push_size, ← arrV_new]
  have o1 : ∀ q : Nat, q < H.size → H'[q]? = H[q]? := fun q hq => by rw [← hH1, Array.getElem?_push, if_neg (Nat.ne_of_lt hq)]
  have hcA : cA = D.2.2 (art r) := by
    have hra := (C.2.2.2.2.2.1.1.2.1 (art r) ha8).2
    rw [ha] at hra
    obtain ⟨_, _, _, _, _, h9⟩ := hra
    exact Option.some.inj (f1.symm.trans h9)
  have hcc : ∀ α' : Ad, α' r i j = H.size → cellA D α' ι (upA ρ r i j (fun _ => none)) ℓ r i j n H' := by
    intro α' hα'
    refine ⟨fun z => absurd z (by omega), fun _ => ?_⟩
    rw [hα', e1, hcA]
    exact congrArg some (arrV_congr fun k' hk' => by rw [cont_R (hdf k'), upA_s]; rfl)
  obtain ⟨α', ag, hat, hR'⟩ := hR.grow (r := r) (i := i) (j := j) (n := n) hr2 (by omega) hν z1 o1 (fun _ _ _ _ _ => rfl) upA_o (fun _ _ _ _ _ => rfl) (fun k' hk' => upA_s) hcc
  have hl' : lv_has ls nL (lv.map (fun q => (q.1, enc α' q.2))) := by
    rw [show lv.map (fun q => (q.1, enc α' q.2)) = lv.map (fun q => (q.1, enc α q.2)) from List.map_congr_left fun q hq => by rw [enc_ag (h1 q.2 (List.mem_map.mpr ⟨q, hq, rfl⟩)) ag.2]]
    exact hl
  have hst : st.map (enc α') = st.map (enc α) := encl_ag (wfl_t h2) ag.2
  have hk := k α' H' locs ls hR' ⟨Nat.le_trans hS.1 (by omega), fun x g1 g2 => (o1 x (Nat.lt_of_lt_of_le g1 hS.1)).trans (hS.2.1 x g1 g2), hS.2.2⟩ hl' (h0.tr ag) (wfl_up h1 alv_up) (wfl_c (fun q hq => by cases hq; exact Or.inl (by show up3 ν r i j (some n) r i j ≠ none; rw [up3_s]; exact fun z => by cases z)) (wfl_up (wfl_t h2) alv_up))
  rw [List.map_cons, hst, show enc α' (sR r i j) = .ref H.size from congrArg Value.ref hat] at hk
  exact hk

theorem V_new {r i j n idx : Nat} {C1 : String} {T : u_T} (C : Cx p l s m args meth c D B tW α0 own cc nL ret mn tab) (hd : decode cc pc = .ok (.new idx, 3)) (hF : ClF r C1 T n) (hw : Cond.classLink own idx C1 ∈ tb_) (hν : ν r i j = none) (hdf : ∀ k', k' < n → (kd (slt r k') = 0 ∧ defaultValue (slt r k') = .int 0) ∨ (kd (slt r k') = 1 ∧ defaultValue (slt r k') = .null)) (hc : cells + 1 ≤ R.cells) (hs : slots + n ≤ R.slots) (k : V p l e R s m args below meth c D B α0 ν0 nL Q (cells + 1) (slots + n) (up3 ν r i j (some n)) (upA ι r i j (fun _ => 0)) (upA ρ r i j (fun _ => none)) ℓ (pc + 3) lv (sR r i j :: st)) : V p l e R s m args below meth c D B α0 ν0 nL Q cells slots ν ι ρ ℓ pc lv st := by
  intro α H locs ls hR hS hl h0 h1 h2
  have hKn := C.2.2.2.2.2.1.1.1 r _ hF.2.1
  refine W.newcK C.1 C.2.1 C.2.2.2.1 (C.2.2.2.2.1 _ hw) (C.2.2.2.2.1 _ hF.2.2.2.2.2.1) (C.2.2.2.2.1 _ hF.2.2.2.2.2.2.1) rfl hd hc hs hKn.2.1 rfl fun H' kC hkC e1 z1 o1 => ?_
  have hn1000 := hF.2.2.2.2.2.2.2
  have hr20 := hF.1
  have hcc : ∀ α' : Ad, α' r i j = H.size → cellA D α' (upA ι r i j (fun _ => 0)) (upA ρ r i j (fun _ => none)) ℓ r i j n H' := by
    intro α' hα'
    refine ⟨fun _ => ⟨_, hF.2.1, rfl, ?_⟩, fun z => absurd z (by omega)⟩
    rw [hα']
    refine (u_born (slt r) C.2.2.2.2.1 hF.2.2.1 hKn hkC e1 hF.2.2.2.1).to (fun k' hk' => ?_)
    rcases hdf k' hk' with h | h
    · rw [h.2, cont_I h.1, upA_s]
    · rw [h.2, cont_R h.1, upA_s]; rfl
  obtain ⟨α', ag, hat, hR'⟩ := hR.grow (r := r) (i := i) (j := j) (n := n) (by omega) (by omega) hν z1 o1 upA_o upA_o (fun _ _ _ _ _ => rfl) (fun k' hk' => upA_s) hcc
  have hl' : lv_has ls nL (lv.map (fun q => (q.1, enc α' q.2))) := by
    rw [show lv.map (fun q => (q.1, enc α' q.2)) = lv.map (fun q => (q.1, enc α q.2)) from List.map_congr_left fun q hq => by rw [enc_ag (h1 q.2 (List.mem_map.mpr ⟨q, hq, rfl⟩)) ag.2]]
    exact hl
  have hst : st.map (enc α') = st.map (enc α) := encl_ag h2 ag.2
  have hk := k α' H' locs ls hR' ⟨Nat.le_trans hS.1 (by omega), fun x g1 g2 => (o1 x (Nat.lt_of_lt_of_le g1 hS.1)).trans (hS.2.1 x g1 g2), hS.2.2⟩ hl' (h0.tr ag) (wfl_up h1 alv_up) (wfl_c (fun q hq => by cases hq; exact Or.inl (by show up3 ν r i j (some n) r i j ≠ none; rw [up3_s]; exact fun z => by cases z)) (wfl_up h2 alv_up))
  rw [List.map_cons, hst, show enc α' (sR r i j) = .ref H.size from congrArg Value.ref hat] at hk
  exact hk

theorem V_forget {ν1 : Nu} (hsub : ∀ r i j n, ν1 r i j = some n → ν r i j = some n) (hk0 : ∀ r i j, ν0 r i j ≠ none → ν1 r i j ≠ none) (hρ : ∀ r i j n k q, ν1 r i j = some n → k < n → kd (slt r k) = 1 → ρ r i j k = some q → alv ν q → alv ν1 q) (hst : ∀ v ∈ st, wfv ν v → wfv ν1 v) (hlv : ∀ q ∈ lv, wfv ν q.2 → wfv ν1 q.2) (k : V p l e R s m args below meth c D B α0 ν0 nL Q cells slots ν1 ι ρ ℓ pc lv st) : V p l e R s m args below meth c D B α0 ν0 nL Q cells slots ν ι ρ ℓ pc lv st := by
  intro α H locs ls hR hS hl h0 h1 h2
  refine k α H locs ls ⟨hR.1, fun r i j n hn => hR.2.1 r i j n (hsub r i j n hn), fun r i j n k q hn hk ht hq => hρ r i j n k q hn hk ht hq (hR.2.2.1 r i j n k q (hsub r i j n hn) hk ht hq), hR.2.2.2⟩ hS hl ⟨hk0, h0.2⟩ (fun v hv => ?_) (fun v hv => hst v hv (h2 v hv))
  obtain ⟨q, hq, rfl⟩ := List.mem_map.mp hv
  exact hlv q hq (h1 q.2 hv)
theorem V_gWid {idx : Nat} {host : String} (C : Cx p l s m args meth c D B tW α0 own cc nL ret mn tab) (hd : decode cc pc = .ok (.getstatic idx, 3)) (hw : (own, idx, "ObjectLinks", "WIDTHS", "[I", host) ∈ nwF) (k : V p l e R s m args below meth c D B α0 ν0 nL Q cells slots ν ι ρ ℓ (pc + 3) lv (sR 99 0 0 :: st)) : V p l e R s m args below meth c D B α0 ν0 nL Q cells slots ν ι ρ ℓ pc lv st := by
  intro α H locs ls hR hS hl h0 h1 h2
  have e9 : α 99 0 0 = tW := (h0.2 99 0 0 (Or.inl (by decide))).trans C.2.2.2.2.2.2.2.2.2.2.2.2
  have hk := k α H locs ls hR hS hl h0 h1 (wfl_c (fun q hq => by cases hq; exact Or.inr (by decide)) h2)
  rw [List.map_cons, show enc α (sR 99 0 0) = .ref tW from congrArg Value.ref e9] at hk
  exact va_getsN C.1 C.2.1 C.2.2.2.2.2.1.2.2.2.1 hS C.2.2.2.1 (va_Nw.use rfl (C.2.2.2.2.2.1.1.2.2.2.1 _ hw)) (fun x h => h) hd hk
theorem V_lWid  (C : Cx p l s m args meth c D B tW α0 own cc nL ret mn tab) (hd : decode cc pc = .ok (.arraylength, 1)) (k : V p l e R s m args below meth c D B α0 ν0 nL Q cells slots ν ι ρ ℓ (pc + 1) lv (sI 5 :: st)) : V p l e R s m args below meth c D B α0 ν0 nL Q cells slots ν ι ρ ℓ pc lv (sR 99 0 0 :: st) := by
  intro α H locs ls hR hS hl h0 h1 h2
  have e9 : α 99 0 0 = tW := (h0.2 99 0 0 (Or.inl (by decide))).trans C.2.2.2.2.2.2.2.2.2.2.2.2
  rw [List.map_cons, show enc α (sR 99 0 0) = .ref tW from congrArg Value.ref e9]
  exact va_tlen C.1 C.2.1 C.2.2.2.2.2.1.2.2.2.2 hS (v := 5) rfl hd (k α H locs ls hR hS hl h0 h1 (wfl_c wfv_I (wfl_t h2)))
theorem V_eWid {x v : Int32} {t : Nat} (C : Cx p l s m args meth c D B tW α0 own cc nL ret mn tab) (hd : decode cc pc = .ok (.iaload, 1)) (hx : x = nI t) (ht : t < 5) (hv : wid_ t = .int v) (k : V p l e R s m args below meth c D B α0 ν0 nL Q cells slots ν ι ρ ℓ (pc + 1) lv (sI v :: st)) : V p l e R s m args below meth c D B α0 ν0 nL Q cells slots ν ι ρ ℓ pc lv (sI x :: sR 99 0 0 :: st) := by
  intro α H locs ls hR hS hl h0 h1 h2
  have e9 : α 99 0 0 = tW := (h0.2 99 0 0 (Or.inl (by decide))).trans C.2.2.2.2.2.2.2.2.2.2.2.2
  rw [List.map_cons, List.map_cons, show enc α (sR 99 0 0) = .ref tW from congrArg Value.ref e9]
  exact va_ti C.1 C.2.1 C.2.2.2.2.2.1.2.2.2.2 hS (by rw [hx]; exact vp_in_nI ht (by decide)) (v := .int v) (by rw [hx, nI_clamp (by omega)]; exact hv) hd (k α H locs ls hR hS hl h0 h1 (wfl_c wfv_I (wfl_t (wfl_t h2))))
end Am3
end
section
def sarg : Nat → List SV → List (Nat × SV)
  | _, [] => []
  | i, v :: t => (i, v) :: sarg (i + scat v) t
theorem sarg_eq (α : Ad) (as : List SV) : ∀ i, lv_args i (as.map (enc α)) = (sarg i as).map (fun q => (q.1, enc α q.2)) := by
  induction as with
  | nil => intro i; rfl
  | cons v t ih =>
    intro i
    show (i, enc α v) :: lv_args (if (enc α v).category = 2 then i + 2 else i + 1) (t.map (enc α)) = (i, enc α v) :: (sarg (i + scat v) t).map (fun q => (q.1, enc α q.2))
    rw [enc_cat, ih]
    rcases v with x | x | _ | q <;> rfl
theorem sarg_snd (as : List SV) : ∀ i, (sarg i as).map Prod.snd = as := by
  induction as with
  | nil => intro i; rfl
  | cons v t ih =>
    intro i
    show v :: (sarg (i + scat v) t).map Prod.snd = v :: t
    rw [ih]
theorem lg_sl_len (α : Ad) (as : List SV) : (lg_sl (as.map (enc α))).length = (as.map scat).sum := by
  induction as with
  | nil => rfl
  | cons v t ih =>
    have e : lg_sl ((v :: t).map (enc α)) = (if (enc α v).category = 2 then [Slot.val (enc α v), .second] else [Slot.val (enc α v)]) ++ lg_sl (t.map (enc α)) := rfl
    rw [e, List.length_append, ih, enc_cat, List.map_cons, List.sum_cons]
    rcases v with x | x | _ | q <;> rfl
theorem goodTb {ws : List Cond} (h : ∀ w ∈ ws, w ∈ tb_) : GoodIn tb_ ws := fun w hw => ⟨h w hw, good_of_word (tb_good w (h w hw))⟩
theorem Ct.ofV {y : MethodName} {cc : ByteArray} {maxL : Nat} {ret : Option FieldType} {rm : Room} {as : List SV} {ν : Nu} {ι : Io} {ρ : Ro} {ℓ : Lo} {Po : PoT} {PX : PxT} {lv : List (Nat × SV)} (hy : plainName y.cls = true) (hlen : (as.map scat).sum ≤ maxL) (hlv : sarg 0 as = lv)
    (body : ∀ (p : Program) (l : Launch) (e : Env) (s : State) (m : MethodId) (args : Array Value) (below : List Frame) (meth : Method) (c : Code) (D : GD) (B tW : Nat) (α0 : Ad) (Q : State → Prop), Cx p l s m args meth c D B tW α0 y.cls cc maxL ret y.name [] → Q = vx_MQ below (cQ D B α0 ν Po) (cX D B α0 ν PX) args s rm.cells rm.slots (uB B) →
      V p l e rm s m args below meth c D B α0 ν maxL Q 0 0 ν ι ρ ℓ 0 lv []) : Ct y (Cond.code y cc maxL ret :: tb_) rm as ν ι ρ ℓ Po PX := by
  intro l D B tW α hl
  refine vx_ofW (cc := cc) (maxL := maxL) (ret := ret) hy rfl ?_
  intro p e s m args below meth c s₁ Bd hml ht hv
  obtain ⟨rfl, hR, hK, h99, hwf⟩ := hv
  have hts := atoms_spec (ws := Cond.code y cc maxL ret :: tb_) Bd.pre
  have htab : c.exceptionTable.toList = [] := List.eq_nil_iff_forall_not_mem.mpr fun x hx => ht x hx
  rw [lg_entry_eq]
  have hle := lv_entry (as.map (enc α)) (n := maxL) (by rw [lg_sl_len]; exact hlen)
  rw [sarg_eq, hlv] at hle
  exact body p l e s m _ below meth c D B tW α _ ⟨Bd.exec, Bd.bytes, hml, findClass_of_methodNamed Bd.named, fun w hw => hts w (List.mem_cons_of_mem _ hw), hK, hR.2.2.2, Bd.returns, Bd.notSynchronized, hl, htab, (name_of_methodNamed Bd.named Bd.method).1, h99⟩ rfl α s.heap [] _ hR va_S.rf hle agr.rf (by rw [← hlv, sarg_snd]; exact hwf) wfl_n
theorem Ct.ofVH {y : MethodName} {cc : ByteArray} {maxL : Nat} {ret : Option FieldType} {hh : List (Nat × Nat × Nat × Nat)} {rm : Room} {as : List SV} {ν : Nu} {ι : Io} {ρ : Ro} {ℓ : Lo} {Po : PoT} {PX : PxT} {lv : List (Nat × SV)} (hy : plainName y.cls = true) (hlen : (as.map scat).sum ≤ maxL) (hlv : sarg 0 as = lv)
    (body : ∀ (p : Program) (l : Launch) (e : Env) (s : State) (m : MethodId) (args : Array Value) (below : List Frame) (meth : Method) (c : Code) (D : GD) (B tW : Nat) (α0 : Ad) (Q : State → Prop), Cx p l s m args meth c D B tW α0 y.cls cc maxL ret y.name (tableOf hh) → Q = vx_MQ below (cQ D B α0 ν Po) (cX D B α0 ν PX) args s rm.cells rm.slots (uB B) →
      V p l e rm s m args below meth c D B α0 ν maxL Q 0 0 ν ι ρ ℓ 0 lv []) : Ct y (Cond.codeWith y cc maxL ret hh :: tb_) rm as ν ι ρ ℓ Po PX := by
  intro l D B tW α hl
  refine vx_ofWH (cc := cc) (maxL := maxL) (ret := ret) (hh := hh) hy rfl ?_
  intro p e s m args below meth c s₁ Bd hml hv
  obtain ⟨rfl, hR, hK, h99, hwf⟩ := hv
  have hts := atoms_spec (ws := Cond.codeWith y cc maxL ret hh :: tb_) Bd.pre
  have htab : c.exceptionTable.toList = tableOf hh := vx_table (x := y) Bd (hts _ List.mem_cons_self)
  rw [lg_entry_eq]
  have hle := lv_entry (as.map (enc α)) (n := maxL) (by rw [lg_sl_len]; exact hlen)
  rw [sarg_eq, hlv] at hle
  exact body p l e s m _ below meth c D B tW α _ ⟨Bd.exec, Bd.bytes, hml, findClass_of_methodNamed Bd.named, fun w hw => hts w (List.mem_cons_of_mem _ hw), hK, hR.2.2.2, Bd.returns, Bd.notSynchronized, hl, htab, (name_of_methodNamed Bd.named Bd.method).1, h99⟩ rfl α s.heap [] _ hR va_S.rf hle agr.rf (by rw [← hlv, sarg_snd]; exact hwf) wfl_n
theorem Ct.met {y : MethodName} {ws : List Cond} {rm : Room} {as : List SV} {ν : Nu} {ι : Io} {ρ : Ro} {ℓ : Lo} {Po : PoT} (h : Ct y ws rm as ν ι ρ ℓ Po noX) (l : Launch) (D : GD) (B tW : Nat) (α : Ad) (hl : l.stackTraces = false) : Met l y ws rm (cP D B tW α ν ι ρ ℓ as) (cQ D B α ν Po) rm.cells rm.slots (uB B) := by
  intro p e ha hc hk s m args below hf happ hP hK
  obtain ⟨n, o, h1, h2, h3, h4⟩ := h l D B tW α hl p e ha hc hk s m args below hf happ hP hK
  refine ⟨n, o, h1, h2, h3, ?_⟩
  rcases h4 with h | ⟨q, -, E, ce, L, ⟨⟨α, ν, ι, ρ, ℓ, hF, -⟩, -⟩, -⟩
  · exact h
  · exact hF.elim
theorem cP_blind {D : GD} {B tW : Nat} {α : Ad} {ν : Nu} {ι : Io} {ρ : Ro} {ℓ : Lo} {as : List SV} : FrameBlind (cP D B tW α ν ι ρ ℓ as) := by
  intro a U g mk h
  exact ⟨h.1, h.2.1, KS.to (U := U.calling g mk a) h.2.2.1 (State.WarmedH.refl U) (fun _ _ _ => rfl), h.2.2.2⟩
/-- what the tables say of a method of ours -/
def MtV (y : MethodName) (bytes : ByteArray) (maxL : Nat) (ret : Option FieldType) (n : Nat) : Prop := Cond.instanceMethod y ∈ tb_ ∧ Cond.selects y.cls y y ∈ tb_ ∧ Cond.initialized y.cls ∈ tb_ ∧ Cond.code y bytes maxL ret ∈ tb_ ∧ y.cls ≠ "java/lang/invoke/MethodHandle" ∧ y.cls ≠ "java/lang/invoke/VarHandle" ∧ (parseMethodDescriptor y.desc).map (fun d => d.parameters.length) = some n
def MtS (y : MethodName) (bytes : ByteArray) (maxL : Nat) (ret : Option FieldType) (n : Nat) : Prop := Cond.static y ∈ tb_ ∧ Cond.initialized y.cls ∈ tb_ ∧ Cond.code y bytes maxL ret ∈ tb_ ∧ y.cls ≠ "java/lang/invoke/MethodHandle" ∧ y.cls ≠ "java/lang/invoke/VarHandle" ∧ (parseMethodDescriptor y.desc).map (fun d => d.parameters.length) = some n
def MtI (y : MethodName) (bytes : ByteArray) (maxL : Nat) (n : Nat) : Prop := Cond.instanceMethod y ∈ tb_ ∧ Cond.initialized y.cls ∈ tb_ ∧ Cond.code y bytes maxL none ∈ tb_ ∧ y.cls ≠ "java/lang/invoke/MethodHandle" ∧ y.cls ≠ "java/lang/invoke/VarHandle" ∧ (parseMethodDescriptor y.desc).map (fun d => d.parameters.length) = some n ∧ y.name = "<init>"
def MtW (y : MethodName) (bytes : ByteArray) (maxL : Nat) (ret : Option FieldType) (hh : List (Nat × Nat × Nat × Nat)) (n : Nat) : Prop := Cond.static y ∈ tb_ ∧ Cond.initialized y.cls ∈ tb_ ∧ Cond.codeWith y bytes maxL ret hh ∈ tb_ ∧ y.cls ≠ "java/lang/invoke/MethodHandle" ∧ y.cls ≠ "java/lang/invoke/VarHandle" ∧ (parseMethodDescriptor y.desc).map (fun d => d.parameters.length) = some n
section Am4
variable {p : Program} {l : Launch} {e : Env} {R : Room} {s : State} {m : MethodId} {args : Array Value} {below : List Frame} {meth : Method} {c : Code} {D : GD} {B tW : Nat} {α0 : Ad} {ν0 : Nu} {own : String} {cc : ByteArray} {nL : Nat} {ret : Option FieldType} {mn : String} {tab : List ExceptionTableEntry} {Q : State → Prop} {cells slots : Nat} {ν : Nu} {ι : Io} {ρ : Ro} {ℓ : Lo} {pc : Nat} {lv lv' : List (Nat × SV)} {st : List SV}
theorem cat_sum (α : Ad) (st : List SV) : ((st.map (enc α)).map fun v => v.category).sum = (st.map scat).sum := by
  rw [List.map_map]
  exact congrArg List.sum (List.map_congr_left fun v _ => enc_cat α v)
/-- behind a call that returned -/
theorem call_back {α : Ad} {H : Heap} {locs : List Loc} {ls : Array Slot} {Po' : PoT} {mc' ms' : Nat} {a : Array Value} {st₀ t T' : State} {v : Option Value} {L : List Loc}
    (hS : va_S (uB B) s.heap H locs) (hl : lv_has ls nL (lv.map (fun q => (q.1, enc α q.2)))) (h0 : agr α0 ν0 α ν) (h1 : wfl ν (lv.map Prod.snd)) (h2 : wfl ν st)
    (e0 : st₀.heap = H) (X' : Stand p l e R s m args below meth c T' (locs ++ L) (cells + mc') (slots + ms')) (hL : ∀ q ∈ L, uB B q.base) (e1 : T'.heap = t.heap) (hq : cQ D B α ν Po' a st₀ (.returned v) t)
    (kk : ∀ (v' : Option SV) (ν' : Nu) (ι' : Io) (ρ' : Ro) (ℓ' : Lo), Po' v' ν' ι' ρ' ℓ' → V p l e R s m args below meth c D B α0 ν0 nL Q (cells + mc') (slots + ms') ν' ι' ρ' ℓ' (pc + 3) lv (v'.toList ++ st)) : ∃ t2, Steps p.tables e below (T'.setTop (F0 m (pc + 3) ls (v.toList ++ st.map (enc α)))) t2 ∧ Q t2 := by
  obtain ⟨⟨α', ν', ι', ρ', ℓ', v', hv, hp, hR', ag, hwv⟩, hF⟩ := hq
  cases Outcome.returned.inj hv
  have hl' : lv_has ls nL (lv.map (fun q => (q.1, enc α' q.2))) := by
    rw [show lv.map (fun q => (q.1, enc α' q.2)) = lv.map (fun q => (q.1, enc α q.2)) from List.map_congr_left fun q hq => by rw [enc_ag (h1 q.2 (List.mem_map.mpr ⟨q, hq, rfl⟩)) ag.2]]
    exact hl
  have hst : st.map (enc α') = st.map (enc α) := encl_ag h2 ag.2
  obtain ⟨k1, k2, k3⟩ := vx_keep (H0 := s.heap) (A0 := uB B) (free := uB B) e0 e1 hS (fun q _ h => h) (fun q h => h) hL hF
  have hw2 : wfl ν' (v'.toList ++ st) := by
    intro w hw
    rcases List.mem_append.mp hw with h | h
    · cases v' with
      | none => cases h
      | some z => exact hwv w (by rw [List.mem_singleton.mp h])
    · exact wfl_up h2 ag.alv w h
  obtain ⟨t2, g1, g2⟩ := kk v' ν' ι' ρ' ℓ' hp α' T'.heap (locs ++ L) ls (by rw [e1]; exact hR') k3 hl' (h0.tr ag) (wfl_up h1 ag.alv) hw2 T' rfl X'
  refine ⟨t2, ?_, g2⟩
  rw [List.map_append, hst] at g1
  have e5 : (v'.map (enc α')).toList = v'.toList.map (enc α') := by cases v' <;> rfl
  rw [e5]
  exact g1
theorem V_callV {y : MethodName} {bytes : ByteArray} {maxL' n' idx : Nat} {ret' : Option FieldType} {rm' : Room} {as : List SV} {Po' : PoT} {r i j N : Nat} {T1 : u_T} (C : Cx p l s m args meth c D B tW α0 own cc nL ret mn tab) (hd : decode cc pc = .ok (.invokevirtual idx, 3)) (hM : Ct y (Cond.code y bytes maxL' ret' :: tb_) rm' (sR r i j :: as) ν ι ρ ℓ Po' noX) (hY : MtV y bytes maxL' ret' n') (hF : ClF r y.cls T1 N) (hw : Cond.methodLink own idx y ∈ tb_) (ha : ν r i j ≠ none) (hRm : rm'.frames + 1 ≤ R.frames ∧ 8 + (maxL' + 11) + rm'.locals ≤ R.locals) (hst8 : (st.map scat).sum ≤ 8) (hfit : cells + rm'.cells ≤ R.cells ∧ slots + rm'.slots ≤ R.slots) (hlen : as.length = n') (kk : ∀ (v' : Option SV) (ν' : Nu) (ι' : Io) (ρ' : Ro) (ℓ' : Lo), Po' v' ν' ι' ρ' ℓ' → V p l e R s m args below meth c D B α0 ν0 nL Q (cells + rm'.cells) (slots + rm'.slots) ν' ι' ρ' ℓ' (pc + 3) lv (v'.toList ++ st)) : V p l e R s m args below meth c D B α0 ν0 nL Q cells slots ν ι ρ ℓ pc lv (as.reverse ++ sR r i j :: st) := by
  intro α H locs ls hR hS hl h0 h1 h2
  obtain ⟨n9, hn9⟩ := Option.ne_none_iff_exists'.mp ha
  obtain ⟨q9, w3, w4, cell, q1, q2, q3, -⟩ := (hR.2.1 r i j n9 hn9).2.2.1.1 hF.1
  cases hF.2.1.symm.trans w3
  have hrec : ∃ cellB : Cell, H[α r i j]? = some cellB ∧ cellB.vm.isStatics = false ∧ s.vm.findClass y.cls = some cellB.cls := ⟨cell, q1, by rw [q3]; rfl, by rw [q2]; exact (C.2.2.2.2.2.1.1.1 r _ hF.2.1).2.1⟩
  have hpre : ∀ U : State, U.heap = H → s.WarmedH U.vm → cP D B tW α ν ι ρ ℓ (sR r i j :: as) (Value.ref (α r i j) :: as.map (enc α)).toArray U := fun U hU hW => ⟨rfl, by rw [hU]; exact hR, C.2.2.2.2.2.1.to hW (fun q g1 g2 => by rw [hU]; exact hS.2.1 q g1 g2), (h0.2 99 0 0 (Or.inl (by decide))).trans C.2.2.2.2.2.2.2.2.2.2.2.2, fun w hw => h2 w ((List.mem_cons.mp hw).elim (fun z => z ▸ List.mem_append_right _ List.mem_cons_self) (fun z => List.mem_append_left _ (List.mem_reverse.mpr z)))⟩
  have h2s : wfl ν st := fun w hw => h2 w (List.mem_append_right _ (List.mem_cons_of_mem _ hw))
  rw [List.map_append, List.map_reverse, List.map_cons]
  have hrun := va_runV (e := e) (below := below) (meth := meth) (locs := locs) (cells := cells) (slots := slots) (As := as.map (enc α)) (b := α r i j) (rest := st.map (enc α)) (g := F0 m pc ls ((as.map (enc α)).reverse ++ .ref (α r i j) :: st.map (enc α))) (Ts := tb_) (n := n') ⟨C.1, C.2.1, C.2.2.1, C.2.2.2.1, C.2.2.2.2.1⟩ (hM.met l D B tW α C.2.2.2.2.2.2.2.2.2.1)
    (cwV (C := y.cls) n' C.2.2.2.2.1 (goodTb (by
      intro w hw9
      simp only [wsV, List.mem_append, List.mem_cons, List.not_mem_nil, or_false] at hw9
      rcases hw9 with (rfl | rfl | rfl | rfl) | rfl | h
      · exact hw
      · exact hY.1
      · exact hY.2.1
      · exact hY.2.2.1
      · exact hY.2.2.2.1
      · exact h)) rfl rfl rfl ⟨rfl, hY.2.2.2.2⟩ hRm) ⟨cP_blind, hrec, hpre⟩ rfl (by rw [List.length_map]; exact hlen) hl.1 rfl (lv_room (by rw [cat_sum]; exact hst8)) hd hfit
  intro T hT X
  obtain ⟨v, st₀, t, T', L, e0, X', hL, e1, e2, hq, hgo⟩ := hrun T hT X
  obtain ⟨t2, g1, g2⟩ := call_back hS hl h0 h1 h2s e0 X' hL e1 hq kk
  exact ⟨t2, hgo t2 g1, g2⟩
theorem V_callS {y : MethodName} {bytes : ByteArray} {maxL' n' idx : Nat} {ret' : Option FieldType} {rm' : Room} {as : List SV} {Po' : PoT} (C : Cx p l s m args meth c D B tW α0 own cc nL ret mn tab) (hd : decode cc pc = .ok (.invokestatic idx, 3)) (hM : Ct y (Cond.code y bytes maxL' ret' :: tb_) rm' as ν ι ρ ℓ Po' noX) (hY : MtS y bytes maxL' ret' n') (hw : Cond.methodLink own idx y ∈ tb_) (hRm : rm'.frames + 1 ≤ R.frames ∧ 8 + (maxL' + 11) + rm'.locals ≤ R.locals) (hst8 : (st.map scat).sum ≤ 8) (hfit : cells + rm'.cells ≤ R.cells ∧ slots + rm'.slots ≤ R.slots) (hlen : as.length = n') (kk : ∀ (v' : Option SV) (ν' : Nu) (ι' : Io) (ρ' : Ro) (ℓ' : Lo), Po' v' ν' ι' ρ' ℓ' → V p l e R s m args below meth c D B α0 ν0 nL Q (cells + rm'.cells) (slots + rm'.slots) ν' ι' ρ' ℓ' (pc + 3) lv (v'.toList ++ st)) : V p l e R s m args below meth c D B α0 ν0 nL Q cells slots ν ι ρ ℓ pc lv (as.reverse ++ st) := by
  intro α H locs ls hR hS hl h0 h1 h2
  have hpre : ∀ U : State, U.heap = H → s.WarmedH U.vm → cP D B tW α ν ι ρ ℓ (as) (as.map (enc α)).toArray U := fun U hU hW => ⟨rfl, by rw [hU]; exact hR, C.2.2.2.2.2.1.to hW (fun q g1 g2 => by rw [hU]; exact hS.2.1 q g1 g2), (h0.2 99 0 0 (Or.inl (by decide))).trans C.2.2.2.2.2.2.2.2.2.2.2.2, fun w hw => h2 w (List.mem_append_left _ (List.mem_reverse.mpr hw))⟩
  have h2s : wfl ν st := fun w hw => h2 w (List.mem_append_right _ hw)
  rw [List.map_append, List.map_reverse]
  have hrun := va_runS (e := e) (below := below) (meth := meth) (locs := locs) (cells := cells) (slots := slots) (As := as.map (enc α)) (rest := st.map (enc α)) (g := F0 m pc ls ((as.map (enc α)).reverse ++ st.map (enc α))) (Ts := tb_) (n := n') ⟨C.1, C.2.1, C.2.2.1, C.2.2.2.1, C.2.2.2.2.1⟩ (hM.met l D B tW α C.2.2.2.2.2.2.2.2.2.1)
    (va_cwS n' C.2.2.2.2.1 (goodTb (by
      intro w hw9
      simp only [va_wsS, List.mem_append, List.mem_cons, List.not_mem_nil, or_false] at hw9
      rcases hw9 with (rfl | rfl | rfl) | rfl | h
      · exact hw
      · exact hY.1
      · exact hY.2.1
      · exact hY.2.2.1
      · exact h)) rfl rfl rfl hY.2.2.2 hRm) ⟨cP_blind, hpre⟩ rfl (by rw [List.length_map]; exact hlen) hl.1 rfl (lv_room (by rw [cat_sum]; exact hst8)) hd hfit
  intro T hT X
  obtain ⟨v, st₀, t, T', L, e0, X', hL, e1, e2, hq, hgo⟩ := hrun T hT X
  obtain ⟨t2, g1, g2⟩ := call_back hS hl h0 h1 h2s e0 X' hL e1 hq kk
  exact ⟨t2, hgo t2 g1, g2⟩
theorem V_callSN {y : MethodName} {bytes : ByteArray} {maxL' n' idx : Nat} {ret' : Option FieldType} {rm' : Room} {as : List SV} {Po' : PoT} {host : String} (C : Cx p l s m args meth c D B tW α0 own cc nL ret mn tab) (hd : decode cc pc = .ok (.invokestatic idx, 3)) (hM : Ct y (Cond.code y bytes maxL' ret' :: tb_) rm' as ν ι ρ ℓ Po' noX) (hY : MtS y bytes maxL' ret' n') (hw : (own, idx, y, host) ∈ nwM) (hRm : rm'.frames + 1 ≤ R.frames ∧ 8 + (maxL' + 11) + rm'.locals ≤ R.locals) (hst8 : (st.map scat).sum ≤ 8) (hfit : cells + rm'.cells ≤ R.cells ∧ slots + rm'.slots ≤ R.slots) (hlen : as.length = n') (kk : ∀ (v' : Option SV) (ν' : Nu) (ι' : Io) (ρ' : Ro) (ℓ' : Lo), Po' v' ν' ι' ρ' ℓ' → V p l e R s m args below meth c D B α0 ν0 nL Q (cells + rm'.cells) (slots + rm'.slots) ν' ι' ρ' ℓ' (pc + 3) lv (v'.toList ++ st)) : V p l e R s m args below meth c D B α0 ν0 nL Q cells slots ν ι ρ ℓ pc lv (as.reverse ++ st) := by
  intro α H locs ls hR hS hl h0 h1 h2
  have hpre : ∀ U : State, U.heap = H → s.WarmedH U.vm → cP D B tW α ν ι ρ ℓ (as) (as.map (enc α)).toArray U := fun U hU hW => ⟨rfl, by rw [hU]; exact hR, C.2.2.2.2.2.1.to hW (fun q g1 g2 => by rw [hU]; exact hS.2.1 q g1 g2), (h0.2 99 0 0 (Or.inl (by decide))).trans C.2.2.2.2.2.2.2.2.2.2.2.2, fun w hw => h2 w (List.mem_append_left _ (List.mem_reverse.mpr hw))⟩
  have h2s : wfl ν st := fun w hw => h2 w (List.mem_append_right _ hw)
  rw [List.map_append, List.map_reverse]
  have hrun := va_runSN (host := host) (e := e) (below := below) (meth := meth) (locs := locs) (cells := cells) (slots := slots) (As := as.map (enc α)) (rest := st.map (enc α)) (g := F0 m pc ls ((as.map (enc α)).reverse ++ st.map (enc α))) (Ts := tb_) (n := n') ⟨C.1, C.2.1, C.2.2.1, C.2.2.2.1, C.2.2.2.2.1⟩ (hM.met l D B tW α C.2.2.2.2.2.2.2.2.2.1)
    ⟨va_cnB n' C.2.2.2.2.1 (goodTb (by
      intro w hw9
      rcases List.mem_cons.mp hw9 with rfl | h
      · exact hY.2.2.1
      · exact h)) rfl rfl rfl (C.2.2.2.2.2.1.1.2.2.1 _ hw) (C.2.2.2.2.1 _ hY.2.1) hY.2.2.2 hRm, C.2.2.2.2.1 _ hY.1, trivial⟩ ⟨cP_blind, hpre⟩ rfl (by rw [List.length_map]; exact hlen) hl.1 rfl (lv_room (by rw [cat_sum]; exact hst8)) hd hfit
  intro T hT X
  obtain ⟨v, st₀, t, T', L, e0, X', hL, e1, e2, hq, hgo⟩ := hrun T hT X
  obtain ⟨t2, g1, g2⟩ := call_back hS hl h0 h1 h2s e0 X' hL e1 hq kk
  exact ⟨t2, hgo t2 g1, g2⟩
theorem V_callI {y : MethodName} {bytes : ByteArray} {maxL' n' idx : Nat} {rm' : Room} {as : List SV} {Po' : PoT} {r i j : Nat} (C : Cx p l s m args meth c D B tW α0 own cc nL ret mn tab) (hd : decode cc pc = .ok (.invokespecial idx, 3)) (hM : Ct y (Cond.code y bytes maxL' none :: tb_) rm' (sR r i j :: as) ν ι ρ ℓ Po' noX) (hY : MtI y bytes maxL' n') (hw : Cond.methodLink own idx y ∈ tb_) (hRm : rm'.frames + 1 ≤ R.frames ∧ 8 + (maxL' + 11) + rm'.locals ≤ R.locals) (hst8 : (st.map scat).sum ≤ 8) (hfit : cells + rm'.cells ≤ R.cells ∧ slots + rm'.slots ≤ R.slots) (hlen : as.length = n') (kk : ∀ (v' : Option SV) (ν' : Nu) (ι' : Io) (ρ' : Ro) (ℓ' : Lo), Po' v' ν' ι' ρ' ℓ' → V p l e R s m args below meth c D B α0 ν0 nL Q (cells + rm'.cells) (slots + rm'.slots) ν' ι' ρ' ℓ' (pc + 3) lv (v'.toList ++ st)) : V p l e R s m args below meth c D B α0 ν0 nL Q cells slots ν ι ρ ℓ pc lv (as.reverse ++ sR r i j :: st) := by
  intro α H locs ls hR hS hl h0 h1 h2
  have hpre : ∀ U : State, U.heap = H → s.WarmedH U.vm → cP D B tW α ν ι ρ ℓ (sR r i j :: as) (Value.ref (α r i j) :: as.map (enc α)).toArray U := fun U hU hW => ⟨rfl, by rw [hU]; exact hR, C.2.2.2.2.2.1.to hW (fun q g1 g2 => by rw [hU]; exact hS.2.1 q g1 g2), (h0.2 99 0 0 (Or.inl (by decide))).trans C.2.2.2.2.2.2.2.2.2.2.2.2, fun w hw => h2 w ((List.mem_cons.mp hw).elim (fun z => z ▸ List.mem_append_right _ List.mem_cons_self) (fun z => List.mem_append_left _ (List.mem_reverse.mpr z)))⟩
  have h2s : wfl ν st := fun w hw => h2 w (List.mem_append_right _ (List.mem_cons_of_mem _ hw))
  rw [List.map_append, List.map_reverse, List.map_cons]
  have hrun := va_runI (e := e) (below := below) (meth := meth) (locs := locs) (cells := cells) (slots := slots) (As := as.map (enc α)) (b := α r i j) (rest := st.map (enc α)) (g := F0 m pc ls ((as.map (enc α)).reverse ++ .ref (α r i j) :: st.map (enc α))) (Ts := tb_) (n := n') ⟨C.1, C.2.1, C.2.2.1, C.2.2.2.1, C.2.2.2.2.1⟩ (hM.met l D B tW α C.2.2.2.2.2.2.2.2.2.1)
    ⟨callB_of n' C.2.2.2.2.1 (goodTb (by
      intro w hw9
      rcases List.mem_cons.mp hw9 with rfl | h
      · exact hY.2.2.1
      · exact h)) rfl rfl rfl (C.2.2.2.2.1 _ hY.2.1) (C.2.2.2.2.1 _ hw) ⟨hY.2.2.2.1, hY.2.2.2.2.1, hY.2.2.2.2.2.1⟩ hRm, hY.2.2.2.2.2.2, C.2.2.2.2.1 _ hY.1⟩ ⟨cP_blind, hpre⟩ rfl (by rw [List.length_map]; exact hlen) hl.1 rfl (lv_room (by rw [cat_sum]; exact hst8)) hd hfit
  intro T hT X
  obtain ⟨v, st₀, t, T', L, e0, X', hL, e1, e2, hq, hgo⟩ := hrun T hT X
  obtain ⟨t2, g1, g2⟩ := call_back hS hl h0 h1 h2s e0 X' hL e1 hq kk
  exact ⟨t2, hgo t2 g1, g2⟩
theorem V_callIN {y : MethodName} {bytes : ByteArray} {maxL' n' idx : Nat} {rm' : Room} {as : List SV} {Po' : PoT} {r i j : Nat} {host : String} (C : Cx p l s m args meth c D B tW α0 own cc nL ret mn tab) (hd : decode cc pc = .ok (.invokespecial idx, 3)) (hM : Ct y (Cond.code y bytes maxL' none :: tb_) rm' (sR r i j :: as) ν ι ρ ℓ Po' noX) (hY : MtI y bytes maxL' n') (hw : (own, idx, y, host) ∈ nwM) (hRm : rm'.frames + 1 ≤ R.frames ∧ 8 + (maxL' + 11) + rm'.locals ≤ R.locals) (hst8 : (st.map scat).sum ≤ 8) (hfit : cells + rm'.cells ≤ R.cells ∧ slots + rm'.slots ≤ R.slots) (hlen : as.length = n') (kk : ∀ (v' : Option SV) (ν' : Nu) (ι' : Io) (ρ' : Ro) (ℓ' : Lo), Po' v' ν' ι' ρ' ℓ' → V p l e R s m args below meth c D B α0 ν0 nL Q (cells + rm'.cells) (slots + rm'.slots) ν' ι' ρ' ℓ' (pc + 3) lv (v'.toList ++ st)) : V p l e R s m args below meth c D B α0 ν0 nL Q cells slots ν ι ρ ℓ pc lv (as.reverse ++ sR r i j :: st) := by
  intro α H locs ls hR hS hl h0 h1 h2
  have hpre : ∀ U : State, U.heap = H → s.WarmedH U.vm → cP D B tW α ν ι ρ ℓ (sR r i j :: as) (Value.ref (α r i j) :: as.map (enc α)).toArray U := fun U hU hW => ⟨rfl, by rw [hU]; exact hR, C.2.2.2.2.2.1.to hW (fun q g1 g2 => by rw [hU]; exact hS.2.1 q g1 g2), (h0.2 99 0 0 (Or.inl (by decide))).trans C.2.2.2.2.2.2.2.2.2.2.2.2, fun w hw => h2 w ((List.mem_cons.mp hw).elim (fun z => z ▸ List.mem_append_right _ List.mem_cons_self) (fun z => List.mem_append_left _ (List.mem_reverse.mpr z)))⟩
  have h2s : wfl ν st := fun w hw => h2 w (List.mem_append_right _ (List.mem_cons_of_mem _ hw))
  rw [List.map_append, List.map_reverse, List.map_cons]
  have hrun := va_runIN (host := host) (e := e) (below := below) (meth := meth) (locs := locs) (cells := cells) (slots := slots) (As := as.map (enc α)) (b := α r i j) (rest := st.map (enc α)) (g := F0 m pc ls ((as.map (enc α)).reverse ++ .ref (α r i j) :: st.map (enc α))) (Ts := tb_) (n := n') ⟨C.1, C.2.1, C.2.2.1, C.2.2.2.1, C.2.2.2.2.1⟩ (hM.met l D B tW α C.2.2.2.2.2.2.2.2.2.1)
    ⟨va_cnB n' C.2.2.2.2.1 (goodTb (by
      intro w hw9
      rcases List.mem_cons.mp hw9 with rfl | h
      · exact hY.2.2.1
      · exact h)) rfl rfl rfl (C.2.2.2.2.2.1.1.2.2.1 _ hw) (C.2.2.2.2.1 _ hY.2.1) ⟨hY.2.2.2.1, hY.2.2.2.2.1, hY.2.2.2.2.2.1⟩ hRm, hY.2.2.2.2.2.2, C.2.2.2.2.1 _ hY.1⟩ ⟨cP_blind, hpre⟩ rfl (by rw [List.length_map]; exact hlen) hl.1 rfl (lv_room (by rw [cat_sum]; exact hst8)) hd hfit
  intro T hT X
  obtain ⟨v, st₀, t, T', L, e0, X', hL, e1, e2, hq, hgo⟩ := hrun T hT X
  obtain ⟨t2, g1, g2⟩ := call_back hS hl h0 h1 h2s e0 X' hL e1 hq kk
  exact ⟨t2, hgo t2 g1, g2⟩
theorem V_objI {r i j idx : Nat} (C : Cx p l s m args meth c D B tW α0 own cc nL ret mn tab) (hd : decode cc pc = .ok (.invokespecial idx, 3)) (hw : Cond.methodLink own idx Lib.objectInit ∈ tb_) (hw2 : Cond.instanceMethod Lib.objectInit ∈ tb_ ∧ Cond.code Lib.objectInit ⟨#[0xb1]⟩ 1 none ∈ tb_) (hRf : 1 ≤ R.frames) (hRl : (st.map scat).sum + 12 ≤ R.locals) (k : V p l e R s m args below meth c D B α0 ν0 nL Q cells slots ν ι ρ ℓ (pc + 3) lv st) : V p l e R s m args below meth c D B α0 ν0 nL Q cells slots ν ι ρ ℓ pc lv (sR r i j :: st) := by
  intro α H locs ls hR hS hl h0 h1 h2
  exact W.objInit C.1 C.2.1 C.2.2.2.1 (C.2.2.2.2.1 _ hw) (C.2.2.2.2.1 _ hw2.1) (C.2.2.2.2.1 _ hw2.2) rfl (hl.1.trans C.2.2.1.symm) rfl hd hRf (by show 2 * 0 + _ + 12 ≤ _; rw [cat_sum]; omega) (k α H locs ls hR hS hl h0 h1 (wfl_t h2))
theorem V_mmax {x y : Int32} {idx : Nat} (C : Cx p l s m args meth c D B tW α0 own cc nL ret mn tab) (hd : decode cc pc = .ok (.invokestatic idx, 3)) (hw : Cond.methodLink own idx Lib.Math.max.name ∈ tb_) (hw2 : Cond.static Lib.Math.max.name ∈ tb_ ∧ Cond.initialized "java/lang/Math" ∈ tb_ ∧ Cond.code Lib.Math.max.name Lib.Math.max.code 2 (some .int) ∈ tb_) (hRf : 1 ≤ R.frames) (hRl : (st.map scat).sum + 13 ≤ R.locals) (hc : cells ≤ R.cells) (hs : slots ≤ R.slots) (k : V p l e R s m args below meth c D B α0 ν0 nL Q cells slots ν ι ρ ℓ (pc + 3) lv (sI (if x < y then y else x) :: st)) : V p l e R s m args below meth c D B α0 ν0 nL Q cells slots ν ι ρ ℓ pc lv (sI y :: sI x :: st) := by
  intro α H locs ls hR hS hl h0 h1 h2
  exact va_mmax C.1 C.2.1 (C.2.2.1.trans hl.1.symm) C.2.2.2.1 (C.2.2.2.2.1 _ hw) (C.2.2.2.2.1 _ hw2.1) (C.2.2.2.2.1 _ hw2.2.1) (C.2.2.2.2.1 _ hw2.2.2) hRf (by rw [cat_sum]; exact hRl) hc hs hd (k α H locs ls hR hS hl h0 h1 (wfl_c wfv_I (wfl_t (wfl_t h2))))
theorem V_mmin {x y : Int32} {idx : Nat} (C : Cx p l s m args meth c D B tW α0 own cc nL ret mn tab) (hd : decode cc pc = .ok (.invokestatic idx, 3)) (hw : Cond.methodLink own idx Lib.Math.min.name ∈ tb_) (hw2 : Cond.static Lib.Math.min.name ∈ tb_ ∧ Cond.initialized "java/lang/Math" ∈ tb_ ∧ Cond.code Lib.Math.min.name Lib.Math.min.code 2 (some .int) ∈ tb_) (hRf : 1 ≤ R.frames) (hRl : (st.map scat).sum + 13 ≤ R.locals) (hc : cells ≤ R.cells) (hs : slots ≤ R.slots) (k : V p l e R s m args below meth c D B α0 ν0 nL Q cells slots ν ι ρ ℓ (pc + 3) lv (sI (if y < x then y else x) :: st)) : V p l e R s m args below meth c D B α0 ν0 nL Q cells slots ν ι ρ ℓ pc lv (sI y :: sI x :: st) := by
  intro α H locs ls hR hS hl h0 h1 h2
  exact va_mmin C.1 C.2.1 (C.2.2.1.trans hl.1.symm) C.2.2.2.1 (C.2.2.2.2.1 _ hw) (C.2.2.2.2.1 _ hw2.1) (C.2.2.2.2.1 _ hw2.2.1) (C.2.2.2.2.1 _ hw2.2.2) hRf (by rw [cat_sum]; exact hRl) hc hs hd (k α H locs ls hR hS hl h0 h1 (wfl_c wfv_I (wfl_t (wfl_t h2))))
end Am4
end
section
section Am5
variable {p : Program} {l : Launch} {e : Env} {R : Room} {s : State} {m : MethodId} {args : Array Value} {below : List Frame} {meth : Method} {c : Code} {D : GD} {B tW : Nat} {α0 : Ad} {ν0 : Nu} {own : String} {cc : ByteArray} {nL : Nat} {ret : Option FieldType} {mn : String} {tab : List ExceptionTableEntry} {Q : State → Prop} {cells slots : Nat} {ν : Nu} {ι : Io} {ρ : Ro} {ℓ : Lo} {pc : Nat} {lv lv' : List (Nat × SV)} {st : List SV}
variable {mc ms : Nat} {Po : PoT} {PX : PxT}
theorem V_callVX {y : MethodName} {bytes : ByteArray} {maxL' n' idx : Nat} {ret' : Option FieldType} {rm' : Room} {as : List SV} {Po' : PoT} {PX' : PxT} {r i j N : Nat} {T1 : u_T} (C : Cx p l s m args meth c D B tW α0 own cc nL ret mn tab) (hQ : Q = vx_MQ below (cQ D B α0 ν0 Po) (cX D B α0 ν0 PX) args s mc ms (uB B)) (htab : tab = []) (hd : decode cc pc = .ok (.invokevirtual idx, 3)) (hM : Ct y (Cond.code y bytes maxL' ret' :: tb_) rm' (sR r i j :: as) ν ι ρ ℓ Po' PX') (hY : MtV y bytes maxL' ret' n') (hF : ClF r y.cls T1 N) (hw : Cond.methodLink own idx y ∈ tb_) (ha : ν r i j ≠ none) (hRm : rm'.frames + 1 ≤ R.frames ∧ 8 + (maxL' + 11) + rm'.locals ≤ R.locals) (hst8 : (st.map scat).sum ≤ 8) (hfit : cells + rm'.cells ≤ R.cells ∧ slots + rm'.slots ≤ R.slots) (hlen : as.length = n') (hxc : cells + rm'.cells ≤ mc) (hxs : slots + rm'.slots ≤ ms) (kx : ∀ (E : String) (ν' : Nu) (ι' : Io) (ρ' : Ro) (ℓ' : Lo), PX' E ν' ι' ρ' ℓ' → PX E ν' ι' ρ' ℓ') (kk : ∀ (v' : Option SV) (ν' : Nu) (ι' : Io) (ρ' : Ro) (ℓ' : Lo), Po' v' ν' ι' ρ' ℓ' → V p l e R s m args below meth c D B α0 ν0 nL Q (cells + rm'.cells) (slots + rm'.slots) ν' ι' ρ' ℓ' (pc + 3) lv (v'.toList ++ st)) : V p l e R s m args below meth c D B α0 ν0 nL Q cells slots ν ι ρ ℓ pc lv (as.reverse ++ sR r i j :: st) := by
  intro α H locs ls hR hS hl h0 h1 h2
  subst hQ
  obtain ⟨n9, hn9⟩ := Option.ne_none_iff_exists'.mp ha
  obtain ⟨q9, w3, w4, cell, q1, q2, q3, -⟩ := (hR.2.1 r i j n9 hn9).2.2.1.1 hF.1
  cases hF.2.1.symm.trans w3
  have hrec : ∃ cellB : Cell, H[α r i j]? = some cellB ∧ cellB.vm.isStatics = false ∧ s.vm.findClass y.cls = some cellB.cls := ⟨cell, q1, by rw [q3]; rfl, by rw [q2]; exact (C.2.2.2.2.2.1.1.1 r _ hF.2.1).2.1⟩
  have hpre : ∀ U : State, U.heap = H → s.WarmedH U.vm → cP D B tW α ν ι ρ ℓ (sR r i j :: as) (Value.ref (α r i j) :: as.map (enc α)).toArray U := fun U hU hW => ⟨rfl, by rw [hU]; exact hR, C.2.2.2.2.2.1.to hW (fun q g1 g2 => by rw [hU]; exact hS.2.1 q g1 g2), (h0.2 99 0 0 (Or.inl (by decide))).trans C.2.2.2.2.2.2.2.2.2.2.2.2, fun w hw => h2 w ((List.mem_cons.mp hw).elim (fun z => z ▸ List.mem_append_right _ List.mem_cons_self) (fun z => List.mem_append_left _ (List.mem_reverse.mpr z)))⟩
  have h2s : wfl ν st := fun w hw => h2 w (List.mem_append_right _ (List.mem_cons_of_mem _ hw))
  rw [List.map_append, List.map_reverse, List.map_cons]
  have hrun := vx_runV (e := e) (below := below) (meth := meth) (locs := locs) (cells := cells) (slots := slots) (As := as.map (enc α)) (b := α r i j) (rest := st.map (enc α)) (g := F0 m pc ls ((as.map (enc α)).reverse ++ .ref (α r i j) :: st.map (enc α))) (Ts := tb_) (n := n') ⟨C.1, C.2.1, C.2.2.1, C.2.2.2.1, C.2.2.2.2.1⟩ (hM l D B tW α C.2.2.2.2.2.2.2.2.2.1)
    (cwV (C := y.cls) n' C.2.2.2.2.1 (goodTb (by
      intro w hw9
      simp only [wsV, List.mem_append, List.mem_cons, List.not_mem_nil, or_false] at hw9
      rcases hw9 with (rfl | rfl | rfl | rfl) | rfl | h
      · exact hw
      · exact hY.1
      · exact hY.2.1
      · exact hY.2.2.1
      · exact hY.2.2.2.1
      · exact h)) rfl rfl rfl ⟨rfl, hY.2.2.2.2⟩ hRm) ⟨cP_blind, hrec, hpre⟩ rfl (by rw [List.length_map]; exact hlen) hl.1 rfl (lv_room (by rw [cat_sum]; exact hst8)) hd hfit
  intro T hT X
  rcases hrun T hT X with ⟨v, st₀, t, T', L, e0, X', hL, e1, e2, hq, hgo⟩ | ⟨q, st₀, t, T', L, E, ce, e0, X', hL, e1, e2, ⟨⟨α', ν', ι', ρ', ℓ', hp, hR', ag⟩, hFx⟩, hce, hcv, hcl, hgo⟩
  · obtain ⟨t2, g1, g2⟩ := call_back hS hl h0 h1 h2s e0 X' hL e1 hq kk
    exact ⟨t2, hgo t2 g1, g2⟩
  · obtain ⟨k1, k2, k3⟩ := vx_keep (H0 := s.heap) (A0 := uB B) (free := uB B) e0 e1 hS (fun q _ h => h) (fun q h => h) hL hFx
    obtain ⟨t2, g1, g2⟩ := vx_out (Qc := cQ D B α0 ν0 Po) (XC := cX D B α0 ν0 PX) (mc := mc) (ms := ms) (free := uB B) (ls := ls) (rest := st.map (enc α)) (pc := pc) (by rw [C.2.2.2.2.2.2.2.2.2.2.1, htab]; exact fun x hx => nomatch hx) C.2.2.2.2.2.2.2.2.1 (show T'.heap[q]? = some ce by rw [e1]; exact hce) hcv hcl
      (fun t9 ht9 hal => ⟨⟨α', ν', ι', ρ', ℓ', kx E ν' ι' ρ' ℓ' hp, by rw [ht9, e1]; exact hR', h0.tr ag⟩, k3.F ht9⟩) k3.2.2 hxc hxs T' rfl X'
    exact ⟨t2, hgo.trans g1, g2⟩
theorem V_callVH {y : MethodName} {bytes : ByteArray} {maxL' n' idx : Nat} {ret' : Option FieldType} {rm' : Room} {as : List SV} {Po' : PoT} {PX' : PxT} {r i j N : Nat} {T1 : u_T} (C : Cx p l s m args meth c D B tW α0 own cc nL ret mn tab) (hd : decode cc pc = .ok (.invokevirtual idx, 3)) (hM : Ct y (Cond.code y bytes maxL' ret' :: tb_) rm' (sR r i j :: as) ν ι ρ ℓ Po' PX') (hY : MtV y bytes maxL' ret' n') (hF : ClF r y.cls T1 N) (hw : Cond.methodLink own idx y ∈ tb_) (ha : ν r i j ≠ none) (hRm : rm'.frames + 1 ≤ R.frames ∧ 8 + (maxL' + 11) + rm'.locals ≤ R.locals) (hst8 : (st.map scat).sum ≤ 8) (hfit : cells + rm'.cells ≤ R.cells ∧ slots + rm'.slots ≤ R.slots) (hlen : as.length = n') (kx : ∀ (E : String) (ν' : Nu) (ι' : Io) (ρ' : Ro) (ℓ' : Lo), PX' E ν' ι' ρ' ℓ' → ∃ (pre : List ExceptionTableEntry) (x : ExceptionTableEntry) (suf : List ExceptionTableEntry) (n9 hp2 : Nat), tab = pre ++ x :: suf ∧ (∀ z ∈ pre, z.catchType ≠ 0 ∧ ∃ nm : String, Cond.classLink own z.catchType nm ∈ tb_ ∧ (E, nm) ∈ nc_) ∧ covers x pc = true ∧ x.catchType ≠ 0 ∧ Cond.classLink own x.catchType E ∈ tb_ ∧ (E, E) ∈ nwC ∧ n9 < nL ∧ ((decode cc x.handlerPc = .ok (.astore n9, 2) ∧ hp2 = x.handlerPc + 2) ∨ ∃ k9 : Fin 4, (k9 : Nat) = n9 ∧ decode cc x.handlerPc = .ok (.astore_n k9, 1) ∧ hp2 = x.handlerPc + 1) ∧ V p l e R s m args below meth c D B α0 ν0 nL Q (cells + rm'.cells) (slots + rm'.slots) ν' ι' ρ' ℓ' hp2 (ldel n9 lv) []) (kk : ∀ (v' : Option SV) (ν' : Nu) (ι' : Io) (ρ' : Ro) (ℓ' : Lo), Po' v' ν' ι' ρ' ℓ' → V p l e R s m args below meth c D B α0 ν0 nL Q (cells + rm'.cells) (slots + rm'.slots) ν' ι' ρ' ℓ' (pc + 3) lv (v'.toList ++ st)) : V p l e R s m args below meth c D B α0 ν0 nL Q cells slots ν ι ρ ℓ pc lv (as.reverse ++ sR r i j :: st) := by
  intro α H locs ls hR hS hl h0 h1 h2
  obtain ⟨n9, hn9⟩ := Option.ne_none_iff_exists'.mp ha
  obtain ⟨q9, w3, w4, cell, q1, q2, q3, -⟩ := (hR.2.1 r i j n9 hn9).2.2.1.1 hF.1
  cases hF.2.1.symm.trans w3
  have hrec : ∃ cellB : Cell, H[α r i j]? = some cellB ∧ cellB.vm.isStatics = false ∧ s.vm.findClass y.cls = some cellB.cls := ⟨cell, q1, by rw [q3]; rfl, by rw [q2]; exact (C.2.2.2.2.2.1.1.1 r _ hF.2.1).2.1⟩
  have hpre : ∀ U : State, U.heap = H → s.WarmedH U.vm → cP D B tW α ν ι ρ ℓ (sR r i j :: as) (Value.ref (α r i j) :: as.map (enc α)).toArray U := fun U hU hW => ⟨rfl, by rw [hU]; exact hR, C.2.2.2.2.2.1.to hW (fun q g1 g2 => by rw [hU]; exact hS.2.1 q g1 g2), (h0.2 99 0 0 (Or.inl (by decide))).trans C.2.2.2.2.2.2.2.2.2.2.2.2, fun w hw => h2 w ((List.mem_cons.mp hw).elim (fun z => z ▸ List.mem_append_right _ List.mem_cons_self) (fun z => List.mem_append_left _ (List.mem_reverse.mpr z)))⟩
  have h2s : wfl ν st := fun w hw => h2 w (List.mem_append_right _ (List.mem_cons_of_mem _ hw))
  rw [List.map_append, List.map_reverse, List.map_cons]
  have hrun := vx_runV (e := e) (below := below) (meth := meth) (locs := locs) (cells := cells) (slots := slots) (As := as.map (enc α)) (b := α r i j) (rest := st.map (enc α)) (g := F0 m pc ls ((as.map (enc α)).reverse ++ .ref (α r i j) :: st.map (enc α))) (Ts := tb_) (n := n') ⟨C.1, C.2.1, C.2.2.1, C.2.2.2.1, C.2.2.2.2.1⟩ (hM l D B tW α C.2.2.2.2.2.2.2.2.2.1)
    (cwV (C := y.cls) n' C.2.2.2.2.1 (goodTb (by
      intro w hw9
      simp only [wsV, List.mem_append, List.mem_cons, List.not_mem_nil, or_false] at hw9
      rcases hw9 with (rfl | rfl | rfl | rfl) | rfl | h
      · exact hw
      · exact hY.1
      · exact hY.2.1
      · exact hY.2.2.1
      · exact hY.2.2.2.1
      · exact h)) rfl rfl rfl ⟨rfl, hY.2.2.2.2⟩ hRm) ⟨cP_blind, hrec, hpre⟩ rfl (by rw [List.length_map]; exact hlen) hl.1 rfl (lv_room (by rw [cat_sum]; exact hst8)) hd hfit
  intro T hT X
  rcases hrun T hT X with ⟨v, st₀, t, T', L, e0, X', hL, e1, e2, hq, hgo⟩ | ⟨q, st₀, t, T', L, E, ce, e0, X', hL, e1, e2, ⟨⟨α', ν', ι', ρ', ℓ', hp, hR', ag⟩, hFx⟩, hce, hcv, hcl, hgo⟩
  · obtain ⟨t2, g1, g2⟩ := call_back hS hl h0 h1 h2s e0 X' hL e1 hq kk
    exact ⟨t2, hgo t2 g1, g2⟩
  · obtain ⟨k1, k2, k3⟩ := vx_keep (H0 := s.heap) (A0 := uB B) (free := uB B) e0 e1 hS (fun q _ h => h) (fun q h => h) hL hFx
    obtain ⟨pre, x, suf, n9, hp2, hsp, hpass, hcov, hct, hlk, hcast, hn9, hst9, hV⟩ := kx E ν' ι' ρ' ℓ' hp
    have hl' : lv_has ls nL (lv.map (fun q => (q.1, enc α' q.2))) := by
      rw [show lv.map (fun q => (q.1, enc α' q.2)) = lv.map (fun q => (q.1, enc α q.2)) from List.map_congr_left fun q hq => by rw [enc_ag (h1 q.2 (List.mem_map.mpr ⟨q, hq, rfl⟩)) ag.2]]
      exact hl
    have fin : W p l e R s m args below meth c T'.heap (locs ++ L) (cells + rm'.cells) (slots + rm'.slots) Q (F0 m x.handlerPc ls [.ref q]) := by
      have go : ∀ ls' : Array Slot, lv_has ls' nL ((n9, Value.ref q) :: (ldel n9 lv).map (fun q => (q.1, enc α' q.2))) → W p l e R s m args below meth c T'.heap (locs ++ L) (cells + rm'.cells) (slots + rm'.slots) Q (F0 m hp2 ls' []) := fun ls' hls' =>
        hV α' T'.heap (locs ++ L) ls' (by rw [e1]; exact hR') k3 ⟨hls'.1, hls'.2.1, fun z hz => hls'.2.2 z (List.mem_cons_of_mem _ hz)⟩ (h0.tr ag) (ldel_wf (wfl_up h1 ag.alv)) wfl_n
      rcases hst9 with ⟨hdx, rfl⟩ | ⟨k9, hk9, hdx, rfl⟩
      · exact lv_astore C.1 C.2.1 hdx hl' hn9 (by rw [ldel_f]) go
      · exact lv_astore_n C.1 C.2.1 hdx hk9 hl' hn9 (by rw [ldel_f]) go
    obtain ⟨t2, g1, g2⟩ := vx_catch (own := own) (name := E) (rest := st.map (enc α)) (pc := pc) C.2.2.2.1 pre x suf (C.2.2.2.2.2.2.2.2.2.2.1.trans hsp) (fun z hz => Or.inr ⟨(hpass z hz).1, (hpass z hz).2.choose, C.2.2.2.2.1 _ (hpass z hz).2.choose_spec.1, C.2.2.2.2.2.1.1.2.2.2.2.2.2.1 _ (hpass z hz).2.choose_spec.2⟩) hcov hct (C.2.2.2.2.1 _ hlk) (va_Nw.use rfl (C.2.2.2.2.2.1.1.2.2.2.2.1 _ hcast)) (show T'.heap[q]? = some ce by rw [e1]; exact hce) hcv hcl fin T' rfl X'
    exact ⟨t2, hgo.trans g1, g2⟩
theorem V_callSW {y : MethodName} {bytes : ByteArray} {maxL' n' idx : Nat} {ret' : Option FieldType} {rm' : Room} {as : List SV} {Po' : PoT} {hh : List (Nat × Nat × Nat × Nat)} (C : Cx p l s m args meth c D B tW α0 own cc nL ret mn tab) (hd : decode cc pc = .ok (.invokestatic idx, 3)) (hM : Ct y (Cond.codeWith y bytes maxL' ret' hh :: tb_) rm' as ν ι ρ ℓ Po' noX) (hY : MtW y bytes maxL' ret' hh n') (hw : Cond.methodLink own idx y ∈ tb_) (hRm : rm'.frames + 1 ≤ R.frames ∧ 8 + (maxL' + 11) + rm'.locals ≤ R.locals) (hst8 : (st.map scat).sum ≤ 8) (hfit : cells + rm'.cells ≤ R.cells ∧ slots + rm'.slots ≤ R.slots) (hlen : as.length = n') (kk : ∀ (v' : Option SV) (ν' : Nu) (ι' : Io) (ρ' : Ro) (ℓ' : Lo), Po' v' ν' ι' ρ' ℓ' → V p l e R s m args below meth c D B α0 ν0 nL Q (cells + rm'.cells) (slots + rm'.slots) ν' ι' ρ' ℓ' (pc + 3) lv (v'.toList ++ st)) : V p l e R s m args below meth c D B α0 ν0 nL Q cells slots ν ι ρ ℓ pc lv (as.reverse ++ st) := by
  intro α H locs ls hR hS hl h0 h1 h2
  have hpre : ∀ U : State, U.heap = H → s.WarmedH U.vm → cP D B tW α ν ι ρ ℓ (as) (as.map (enc α)).toArray U := fun U hU hW => ⟨rfl, by rw [hU]; exact hR, C.2.2.2.2.2.1.to hW (fun q g1 g2 => by rw [hU]; exact hS.2.1 q g1 g2), (h0.2 99 0 0 (Or.inl (by decide))).trans C.2.2.2.2.2.2.2.2.2.2.2.2, fun w hw => h2 w (List.mem_append_left _ (List.mem_reverse.mpr hw))⟩
  have h2s : wfl ν st := fun w hw => h2 w (List.mem_append_right _ hw)
  rw [List.map_append, List.map_reverse]
  have hrun := vx_runSW (e := e) (below := below) (meth := meth) (locs := locs) (cells := cells) (slots := slots) (As := as.map (enc α)) (rest := st.map (enc α)) (g := F0 m pc ls ((as.map (enc α)).reverse ++ st.map (enc α))) (Ts := tb_) (n := n') ⟨C.1, C.2.1, C.2.2.1, C.2.2.2.1, C.2.2.2.2.1⟩ (hM.met l D B tW α C.2.2.2.2.2.2.2.2.2.1)
    (vx_cwSW n' C.2.2.2.2.1 (goodTb (by
      intro w hw9
      simp only [va_wsS, List.mem_append, List.mem_cons, List.not_mem_nil, or_false] at hw9
      rcases hw9 with (rfl | rfl | rfl) | rfl | h
      · exact hw
      · exact hY.1
      · exact hY.2.1
      · exact hY.2.2.1
      · exact h)) rfl rfl rfl hY.2.2.2 hRm) ⟨cP_blind, hpre⟩ rfl (by rw [List.length_map]; exact hlen) hl.1 rfl (lv_room (by rw [cat_sum]; exact hst8)) hd hfit
  intro T hT X
  obtain ⟨v, st₀, t, T', L, e0, X', hL, e1, e2, hq, hgo⟩ := hrun T hT X
  obtain ⟨t2, g1, g2⟩ := call_back hS hl h0 h1 h2s e0 X' hL e1 hq kk
  exact ⟨t2, hgo t2 g1, g2⟩
theorem toInt_nn {z : Int32} (hz : ¬ z < 0) : z.toInt = (z.toNatClampNeg : Int) := by
  have hz0 : (0 : Int) ≤ z.toInt := by
    have := Int32.not_lt.mp hz
    simpa using Int32.le_iff_toInt_le.mp this
  show z.toInt = ((z.toInt.toNat : Nat) : Int)
  omega
theorem V_copy {r i j n r2 i2 j2 n2 idx t k9 d9 : Nat} {sp dp len : Int32} (C : Cx p l s m args meth c D B tW α0 own cc nL ret mn tab) (hd : decode cc pc = .ok (.invokestatic idx, 3)) (hw : Cond.methodLink own idx arraycopyName ∈ tb_) (hw2 : Cond.native arraycopyName ∈ tb_ ∧ Cond.static arraycopyName ∈ tb_ ∧ Cond.initialized "java/lang/System" ∈ tb_) (hr : 20 ≤ r) (ha : art r = 0) (hr2 : 20 ≤ r2) (ha2 : art r2 = 0) (hk : ∀ q, kd (slt r q) = 0) (hk2 : ∀ q, kd (slt r2 q) = 0) (hn : ν r i j = some n) (hn2 : ν r2 i2 j2 = some n2) (hsp : sp = nI t) (hdp : dp = nI d9) (hlen : len = nI k9) (hb1 : t + k9 ≤ n) (hb2 : d9 + k9 ≤ n2) (hRf : 1 ≤ R.frames) (hRl : (st.map scat).sum + (nativeFrameWords "java/lang/System" "arraycopy" 5 + 11) ≤ R.locals) (k : V p l e R s m args below meth c D B α0 ν0 nL Q cells slots ν (upA ι r2 i2 j2 (va_cpy (ι r i j) (ι r2 i2 j2) t d9 k9)) ρ ℓ (pc + 3) lv st) : V p l e R s m args below meth c D B α0 ν0 nL Q cells slots ν ι ρ ℓ pc lv (sI len :: sI dp :: sR r2 i2 j2 :: sI sp :: sR r i j :: st) := by
  intro α H locs ls hR hS hl h0 h1 h2
  obtain ⟨-, hn31, g3, g4⟩ := hR.2.1 r i j n hn
  obtain ⟨-, hm31, g5, g6⟩ := hR.2.1 r2 i2 j2 n2 hn2
  have hc0 : H[α r i j]? = some (arrV (D.2.2 0) n (fun q => .int (ι r i j q))) := by
    rw [g3.2 hr, ha]; exact congrArg some (arrV_congr fun q _ => cont_I (hk q))
  have hc1 : H[α r2 i2 j2]? = some (arrV (D.2.2 0) n2 (fun q => .int (ι r2 i2 j2 q))) := by
    rw [g5.2 hr2, ha2]; exact congrArg some (arrV_congr fun q _ => cont_I (hk2 q))
  obtain ⟨-, k0, hk0, cm0, hkk0⟩ := (C.2.2.2.2.2.1.1.2.1 0 (by decide)).1 n (fun q => .int (ι r i j q))
  obtain ⟨-, k1, hk1, cm1, hkk1⟩ := (C.2.2.2.2.2.1.1.2.1 0 (by decide)).1 n2 (fun q => .int (ι r2 i2 j2 q))
  have c1 : sp.toNatClampNeg = t := by rw [hsp]; exact nI_clamp (by omega)
  have c2 : dp.toNatClampNeg = d9 := by rw [hdp]; exact nI_clamp (by omega)
  have c3 : len.toNatClampNeg = k9 := by rw [hlen]; exact nI_clamp (by omega)
  have p1 : ¬ sp < 0 := by rw [hsp]; exact nI_pos (by omega)
  have p2 : ¬ dp < 0 := by rw [hdp]; exact nI_pos (by omega)
  have p3 : ¬ len < 0 := by rw [hlen]; exact nI_pos (by omega)
  intro T hT X
  obtain ⟨vm', X', step⟩ := X.arraycopy C.1 C.2.2.2.1 (C.2.2.2.2.1 _ hw) (C.2.2.2.2.1 _ hw2.1) (C.2.2.2.2.1 _ hw2.2.1) (C.2.2.2.2.1 _ hw2.2.2) (src := α r i j) (dst := α r2 i2 j2) (cs := arrV (D.2.2 0) n (fun q => .int (ι r i j q))) (cd := arrV (D.2.2 0) n2 (fun q => .int (ι r2 i2 j2 q))) (srcPos := sp) (destPos := dp) (n := len) (by rw [hT]; exact hc0) (by rw [hT]; exact hc1)
    (fun _ h => by cases h) (fun _ h => by cases h) (fun h => by cases h) (fun h => by cases h) hk0 hk1 hkk0 hkk1 (by simp [aty, refKind]) p1 p2 p3
    (by rw [toInt_nn p1, toInt_nn p3, arrV_size]; omega)
    (by rw [toInt_nn p2, toInt_nn p3, arrV_size]; omega)
    (fun vm₁ _ q hq => by
      have e : (arrV (D.2.2 0) n (fun q => .int (ι r i j q))).slots.getD (sp.toNatClampNeg + q) .null = .int (ι r i j (sp.toNatClampNeg + q)) := by
        rw [Array.getD_eq_getD_getElem?, arrV_read _ _ (by omega)]
        rfl
      exact ⟨by rw [e]; rfl, by rw [e]; exact trivial⟩)
    (g := F0 m pc ls ((sI len :: sI dp :: sR r2 i2 j2 :: sI sp :: sR r i j :: st).map (enc α))) rfl (hl.1.trans C.2.2.1.symm) (rest := st.map (enc α)) rfl (by rw [C.2.1]; exact hd) hRf (by show 2 * 0 + _ + _ ≤ _; rw [cat_sum]; omega)
  have e1 : copied (arrV (D.2.2 0) n (fun q => .int (ι r i j q))) (arrV (D.2.2 0) n2 (fun q => .int (ι r2 i2 j2 q))) sp dp len = arrV (D.2.2 0) n2 (fun q => .int (va_cpy (ι r i j) (ι r2 i2 j2) t d9 k9 q)) := by
    rw [← c1, ← c2, ← c3]
    exact va_copied (fun z => .int z) _ _ (ι r i j) (ι r2 i2 j2) (by omega)
  rw [e1] at X' step
  have hlt : α r2 i2 j2 < H.size := g5.lt
  obtain ⟨H', hH'⟩ : ∃ H' : Heap, H' = H.setIfInBounds (α r2 i2 j2) (arrV (D.2.2 0) n2 (fun q => .int (va_cpy (ι r i j) (ι r2 i2 j2) t d9 k9 q))) := ⟨_, rfl⟩
  have hheap : ((T.setVm vm').setCell (α r2 i2 j2) (arrV (D.2.2 0) n2 (fun q => .int (va_cpy (ι r i j) (ι r2 i2 j2) t d9 k9 q)))).heap = H' := by rw [hH', ← hT]; rfl
  have hz : H'.size = H.size := by rw [hH']; simp
  have oq : ∀ q : Nat, q ≠ α r2 i2 j2 → H'[q]? = H[q]? := fun q hq => by rw [hH']; simp [Array.getElem?_setIfInBounds, Ne.symm hq]
  have eq : H'[α r2 i2 j2]? = some (arrV (D.2.2 0) n2 (fun q => .int (va_cpy (ι r i j) (ι r2 i2 j2) t d9 k9 q))) := by rw [hH']; simp [Array.getElem?_setIfInBounds, hlt]
  obtain ⟨t9, a1, b1⟩ := k α H' _ ls (hR.put hn2 hz oq upA_o (fun _ _ _ _ _ => rfl) (fun _ _ _ _ _ => rfl) ⟨fun z => absurd z (by omega), fun _ => by
      rw [eq, ha2]
      exact congrArg some (arrV_congr fun q _ => by rw [cont_I (hk2 q), upA_s])⟩ (fun k9 q9 z1 z2 z3 => hR.2.2.1 r2 i2 j2 n2 k9 q9 hn2 z1 z2 z3)) ⟨by rw [hz]; exact hS.1, fun q u1 u2 => by
      rw [oq q (fun z => u2 (by rw [z]; exact g6))]
      exact hS.2.1 q u1 u2, fun q hq => by
      rcases List.mem_append.mp hq with h | h
      · exact hS.2.2 q h
      · obtain ⟨z, -, hz⟩ := List.mem_map.mp h
        rw [← hz]
        exact g6⟩ hl h0 h1 (wfl_t (wfl_t (wfl_t (wfl_t (wfl_t h2))))) _ hheap X'
  exact ⟨t9, step t9 a1, b1⟩
end Am5
end
