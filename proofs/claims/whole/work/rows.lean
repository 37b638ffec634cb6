section
-- ===== PART A: goes FIRST, ahead of the names: the tables' words, and 'selects' of the private methods out of them =====
/-- a private method of a class that the tables say can be made, by its rows of tables_1 -/
def lw_okq (q : MethodName × Nat) : Prop := (q.1.cls ≠ "java/lang/invoke/MethodHandle" ∧ q.1.cls ≠ "java/lang/invoke/VarHandle") ∧ Cond.instantiable q.1.cls q.2 ∈ tables_1 ∧ Cond.privateMethod q.1 ∈ tables_1 ∧ Cond.instanceMethod q.1 ∈ tables_1
theorem lw_p0 : lw_okq (⟨"ObjectLinks$Linker", "addressOf", "(LObjectLinks$Meaning;)I"⟩, 18) := ⟨⟨by decide +kernel, by decide +kernel⟩, List.mem_of_getElem? (i := 32) (by decide +kernel), List.mem_of_getElem? (i := 210) (by decide +kernel), List.mem_of_getElem? (i := 211) (by decide +kernel)⟩
theorem lw_p1 : lw_okq (⟨"ObjectLinks", "countOfLatest", "(I)I"⟩, 4) := ⟨⟨by decide +kernel, by decide +kernel⟩, List.mem_of_getElem? (i := 22) (by decide +kernel), List.mem_of_getElem? (i := 218) (by decide +kernel), List.mem_of_getElem? (i := 219) (by decide +kernel)⟩
theorem lw_p2 : lw_okq (⟨"ObjectLinks", "unitOrNull", "(I)LObjectLinks$Unit;"⟩, 4) := ⟨⟨by decide +kernel, by decide +kernel⟩, List.mem_of_getElem? (i := 22) (by decide +kernel), List.mem_of_getElem? (i := 222) (by decide +kernel), List.mem_of_getElem? (i := 223) (by decide +kernel)⟩
theorem lw_p3 : lw_okq (⟨"java/lang/Throwable", "fillInStackTrace", "(I)Ljava/lang/Throwable;"⟩, 6) := ⟨⟨by decide +kernel, by decide +kernel⟩, List.mem_of_getElem? (i := 273) (by decide +kernel), List.mem_of_getElem? (i := 271) (by decide +kernel), List.mem_of_getElem? (i := 272) (by decide +kernel)⟩
theorem lw_p4 : lw_okq (⟨"ObjectLinks", "keep", "(LObjectLinks$Unit;)I"⟩, 4) := ⟨⟨by decide +kernel, by decide +kernel⟩, List.mem_of_getElem? (i := 22) (by decide +kernel), List.mem_of_getElem? (i := 348) (by decide +kernel), List.mem_of_getElem? (i := 349) (by decide +kernel)⟩
theorem lw_p5 : lw_okq (⟨"ObjectLinks", "known", "(I)LObjectLinks$Unit;"⟩, 4) := ⟨⟨by decide +kernel, by decide +kernel⟩, List.mem_of_getElem? (i := 22) (by decide +kernel), List.mem_of_getElem? (i := 361) (by decide +kernel), List.mem_of_getElem? (i := 362) (by decide +kernel)⟩
theorem lw_p6 : lw_okq (⟨"ObjectLinks$Unit", "sortCanBe", "(III)Z"⟩, 6) := ⟨⟨by decide +kernel, by decide +kernel⟩, List.mem_of_getElem? (i := 302) (by decide +kernel), List.mem_of_getElem? (i := 470) (by decide +kernel), List.mem_of_getElem? (i := 471) (by decide +kernel)⟩
theorem lw_p7 : lw_okq (⟨"ObjectLinks$Unit", "hasName", "(I)Z"⟩, 6) := ⟨⟨by decide +kernel, by decide +kernel⟩, List.mem_of_getElem? (i := 302) (by decide +kernel), List.mem_of_getElem? (i := 480) (by decide +kernel), List.mem_of_getElem? (i := 481) (by decide +kernel)⟩
theorem lw_p8 : lw_okq (⟨"ObjectLinks$Linker", "forget", "()V"⟩, 18) := ⟨⟨by decide +kernel, by decide +kernel⟩, List.mem_of_getElem? (i := 32) (by decide +kernel), List.mem_of_getElem? (i := 615) (by decide +kernel), List.mem_of_getElem? (i := 616) (by decide +kernel)⟩
theorem lw_p9 : lw_okq (⟨"ObjectLinks$Linker", "dropImage", "()V"⟩, 18) := ⟨⟨by decide +kernel, by decide +kernel⟩, List.mem_of_getElem? (i := 32) (by decide +kernel), List.mem_of_getElem? (i := 619) (by decide +kernel), List.mem_of_getElem? (i := 620) (by decide +kernel)⟩
theorem lw_p10 : lw_okq (⟨"ObjectLinks$Linker", "tell", "(III)Z"⟩, 18) := ⟨⟨by decide +kernel, by decide +kernel⟩, List.mem_of_getElem? (i := 32) (by decide +kernel), List.mem_of_getElem? (i := 623) (by decide +kernel), List.mem_of_getElem? (i := 624) (by decide +kernel)⟩
theorem lw_p11 : lw_okq (⟨"ObjectLinks$Linker", "gatherNames", "()Z"⟩, 18) := ⟨⟨by decide +kernel, by decide +kernel⟩, List.mem_of_getElem? (i := 32) (by decide +kernel), List.mem_of_getElem? (i := 631) (by decide +kernel), List.mem_of_getElem? (i := 632) (by decide +kernel)⟩
theorem lw_p12 : lw_okq (⟨"ObjectLinks$NameTable", "findOrBegin", "(I)LObjectLinks$Meaning;"⟩, 5) := ⟨⟨by decide +kernel, by decide +kernel⟩, List.mem_of_getElem? (i := 39) (by decide +kernel), List.mem_of_getElem? (i := 639) (by decide +kernel), List.mem_of_getElem? (i := 640) (by decide +kernel)⟩
theorem lw_p13 : lw_okq (⟨"ObjectLinks$NameTable", "enterCommon", "(LObjectLinks$Meaning;LObjectLinks$Name;)V"⟩, 5) := ⟨⟨by decide +kernel, by decide +kernel⟩, List.mem_of_getElem? (i := 39) (by decide +kernel), List.mem_of_getElem? (i := 655) (by decide +kernel), List.mem_of_getElem? (i := 656) (by decide +kernel)⟩
theorem lw_p14 : lw_okq (⟨"ObjectLinks$Linker", "reachFrom", "(I)Z"⟩, 18) := ⟨⟨by decide +kernel, by decide +kernel⟩, List.mem_of_getElem? (i := 32) (by decide +kernel), List.mem_of_getElem? (i := 666) (by decide +kernel), List.mem_of_getElem? (i := 667) (by decide +kernel)⟩
theorem lw_p15 : lw_okq (⟨"ObjectLinks$Linker", "reach", "(LObjectLinks$Meaning;)V"⟩, 18) := ⟨⟨by decide +kernel, by decide +kernel⟩, List.mem_of_getElem? (i := 32) (by decide +kernel), List.mem_of_getElem? (i := 670) (by decide +kernel), List.mem_of_getElem? (i := 671) (by decide +kernel)⟩
def lw_privs_1 : List (MethodName × Nat) := [(⟨"ObjectLinks$Linker", "addressOf", "(LObjectLinks$Meaning;)I"⟩, 18), (⟨"ObjectLinks", "countOfLatest", "(I)I"⟩, 4), (⟨"ObjectLinks", "unitOrNull", "(I)LObjectLinks$Unit;"⟩, 4), (⟨"java/lang/Throwable", "fillInStackTrace", "(I)Ljava/lang/Throwable;"⟩, 6), (⟨"ObjectLinks", "keep", "(LObjectLinks$Unit;)I"⟩, 4), (⟨"ObjectLinks", "known", "(I)LObjectLinks$Unit;"⟩, 4), (⟨"ObjectLinks$Unit", "sortCanBe", "(III)Z"⟩, 6), (⟨"ObjectLinks$Unit", "hasName", "(I)Z"⟩, 6), (⟨"ObjectLinks$Linker", "forget", "()V"⟩, 18), (⟨"ObjectLinks$Linker", "dropImage", "()V"⟩, 18), (⟨"ObjectLinks$Linker", "tell", "(III)Z"⟩, 18), (⟨"ObjectLinks$Linker", "gatherNames", "()Z"⟩, 18), (⟨"ObjectLinks$NameTable", "findOrBegin", "(I)LObjectLinks$Meaning;"⟩, 5), (⟨"ObjectLinks$NameTable", "enterCommon", "(LObjectLinks$Meaning;LObjectLinks$Name;)V"⟩, 5), (⟨"ObjectLinks$Linker", "reachFrom", "(I)Z"⟩, 18), (⟨"ObjectLinks$Linker", "reach", "(LObjectLinks$Meaning;)V"⟩, 18)]
theorem lw_r1 : ∀ q ∈ lw_privs_1, lw_okq q := List.forall_mem_cons.mpr ⟨lw_p0, List.forall_mem_cons.mpr ⟨lw_p1, List.forall_mem_cons.mpr ⟨lw_p2, List.forall_mem_cons.mpr ⟨lw_p3, List.forall_mem_cons.mpr ⟨lw_p4, List.forall_mem_cons.mpr ⟨lw_p5, List.forall_mem_cons.mpr ⟨lw_p6, List.forall_mem_cons.mpr ⟨lw_p7, List.forall_mem_cons.mpr ⟨lw_p8, List.forall_mem_cons.mpr ⟨lw_p9, List.forall_mem_cons.mpr ⟨lw_p10, List.forall_mem_cons.mpr ⟨lw_p11, List.forall_mem_cons.mpr ⟨lw_p12, List.forall_mem_cons.mpr ⟨lw_p13, List.forall_mem_cons.mpr ⟨lw_p14, List.forall_mem_cons.mpr ⟨lw_p15, fun _ h => absurd h List.not_mem_nil⟩⟩⟩⟩⟩⟩⟩⟩⟩⟩⟩⟩⟩⟩⟩⟩
theorem lw_p16 : lw_okq (⟨"ObjectLinks$Linker", "reachFromSection", "(II)V"⟩, 18) := ⟨⟨by decide +kernel, by decide +kernel⟩, List.mem_of_getElem? (i := 32) (by decide +kernel), List.mem_of_getElem? (i := 674) (by decide +kernel), List.mem_of_getElem? (i := 675) (by decide +kernel)⟩
theorem lw_p17 : lw_okq (⟨"ObjectLinks$Linker", "nothingIsMissing", "()Z"⟩, 18) := ⟨⟨by decide +kernel, by decide +kernel⟩, List.mem_of_getElem? (i := 32) (by decide +kernel), List.mem_of_getElem? (i := 682) (by decide +kernel), List.mem_of_getElem? (i := 683) (by decide +kernel)⟩
theorem lw_p18 : lw_okq (⟨"ObjectLinks$Linker", "layOut", "()Z"⟩, 18) := ⟨⟨by decide +kernel, by decide +kernel⟩, List.mem_of_getElem? (i := 32) (by decide +kernel), List.mem_of_getElem? (i := 687) (by decide +kernel), List.mem_of_getElem? (i := 688) (by decide +kernel)⟩
theorem lw_p19 : lw_okq (⟨"ObjectLinks$Linker", "layOutKind", "(II)V"⟩, 18) := ⟨⟨by decide +kernel, by decide +kernel⟩, List.mem_of_getElem? (i := 32) (by decide +kernel), List.mem_of_getElem? (i := 691) (by decide +kernel), List.mem_of_getElem? (i := 692) (by decide +kernel)⟩
theorem lw_p20 : lw_okq (⟨"ObjectLinks$Linker", "nextPlace", "(II)I"⟩, 18) := ⟨⟨by decide +kernel, by decide +kernel⟩, List.mem_of_getElem? (i := 32) (by decide +kernel), List.mem_of_getElem? (i := 695) (by decide +kernel), List.mem_of_getElem? (i := 696) (by decide +kernel)⟩
theorem lw_p21 : lw_okq (⟨"ObjectLinks$Linker", "layOutCommons", "()V"⟩, 18) := ⟨⟨by decide +kernel, by decide +kernel⟩, List.mem_of_getElem? (i := 32) (by decide +kernel), List.mem_of_getElem? (i := 699) (by decide +kernel), List.mem_of_getElem? (i := 700) (by decide +kernel)⟩
theorem lw_p22 : lw_okq (⟨"ObjectLinks$Linker", "copyBytes", "()V"⟩, 18) := ⟨⟨by decide +kernel, by decide +kernel⟩, List.mem_of_getElem? (i := 32) (by decide +kernel), List.mem_of_getElem? (i := 703) (by decide +kernel), List.mem_of_getElem? (i := 704) (by decide +kernel)⟩
theorem lw_p23 : lw_okq (⟨"ObjectLinks$Linker", "workIn", "()Z"⟩, 18) := ⟨⟨by decide +kernel, by decide +kernel⟩, List.mem_of_getElem? (i := 32) (by decide +kernel), List.mem_of_getElem? (i := 710) (by decide +kernel), List.mem_of_getElem? (i := 711) (by decide +kernel)⟩
theorem lw_p24 : lw_okq (⟨"ObjectLinks$Linker", "workInOne", "(ILObjectLinks$Reference;)I"⟩, 18) := ⟨⟨by decide +kernel, by decide +kernel⟩, List.mem_of_getElem? (i := 32) (by decide +kernel), List.mem_of_getElem? (i := 714) (by decide +kernel), List.mem_of_getElem? (i := 715) (by decide +kernel)⟩
theorem lw_p25 : lw_okq (⟨"ObjectLinks$Linker", "putInto", "(IIJ)V"⟩, 18) := ⟨⟨by decide +kernel, by decide +kernel⟩, List.mem_of_getElem? (i := 32) (by decide +kernel), List.mem_of_getElem? (i := 732) (by decide +kernel), List.mem_of_getElem? (i := 733) (by decide +kernel)⟩
theorem lw_p26 : lw_okq (⟨"ObjectLinks$Octets", "put", "(II)V"⟩, 2) := ⟨⟨by decide +kernel, by decide +kernel⟩, List.mem_of_getElem? (i := 170) (by decide +kernel), List.mem_of_getElem? (i := 777) (by decide +kernel), List.mem_of_getElem? (i := 778) (by decide +kernel)⟩
theorem lw_p27 : lw_okq (⟨"ObjectLinks$Octets", "putSection", "(LObjectLinks$Section;)V"⟩, 2) := ⟨⟨by decide +kernel, by decide +kernel⟩, List.mem_of_getElem? (i := 170) (by decide +kernel), List.mem_of_getElem? (i := 781) (by decide +kernel), List.mem_of_getElem? (i := 782) (by decide +kernel)⟩
theorem lw_p28 : lw_okq (⟨"ObjectLinks$Octets", "putName", "(LObjectLinks$Name;)V"⟩, 2) := ⟨⟨by decide +kernel, by decide +kernel⟩, List.mem_of_getElem? (i := 170) (by decide +kernel), List.mem_of_getElem? (i := 785) (by decide +kernel), List.mem_of_getElem? (i := 786) (by decide +kernel)⟩
theorem lw_p29 : lw_okq (⟨"ObjectLinks$Octets", "putReference", "(LObjectLinks$Reference;)V"⟩, 2) := ⟨⟨by decide +kernel, by decide +kernel⟩, List.mem_of_getElem? (i := 170) (by decide +kernel), List.mem_of_getElem? (i := 789) (by decide +kernel), List.mem_of_getElem? (i := 790) (by decide +kernel)⟩
theorem lw_p30 : lw_okq (⟨"ObjectLinks$Reader", "take", "(I)I"⟩, 4) := ⟨⟨by decide +kernel, by decide +kernel⟩, List.mem_of_getElem? (i := 821) (by decide +kernel), List.mem_of_getElem? (i := 844) (by decide +kernel), List.mem_of_getElem? (i := 845) (by decide +kernel)⟩
theorem lw_p31 : lw_okq (⟨"ObjectLinks$Reader", "sumIsRight", "()Z"⟩, 4) := ⟨⟨by decide +kernel, by decide +kernel⟩, List.mem_of_getElem? (i := 821) (by decide +kernel), List.mem_of_getElem? (i := 848) (by decide +kernel), List.mem_of_getElem? (i := 849) (by decide +kernel)⟩
def lw_privs_2 : List (MethodName × Nat) := [(⟨"ObjectLinks$Linker", "reachFromSection", "(II)V"⟩, 18), (⟨"ObjectLinks$Linker", "nothingIsMissing", "()Z"⟩, 18), (⟨"ObjectLinks$Linker", "layOut", "()Z"⟩, 18), (⟨"ObjectLinks$Linker", "layOutKind", "(II)V"⟩, 18), (⟨"ObjectLinks$Linker", "nextPlace", "(II)I"⟩, 18), (⟨"ObjectLinks$Linker", "layOutCommons", "()V"⟩, 18), (⟨"ObjectLinks$Linker", "copyBytes", "()V"⟩, 18), (⟨"ObjectLinks$Linker", "workIn", "()Z"⟩, 18), (⟨"ObjectLinks$Linker", "workInOne", "(ILObjectLinks$Reference;)I"⟩, 18), (⟨"ObjectLinks$Linker", "putInto", "(IIJ)V"⟩, 18), (⟨"ObjectLinks$Octets", "put", "(II)V"⟩, 2), (⟨"ObjectLinks$Octets", "putSection", "(LObjectLinks$Section;)V"⟩, 2), (⟨"ObjectLinks$Octets", "putName", "(LObjectLinks$Name;)V"⟩, 2), (⟨"ObjectLinks$Octets", "putReference", "(LObjectLinks$Reference;)V"⟩, 2), (⟨"ObjectLinks$Reader", "take", "(I)I"⟩, 4), (⟨"ObjectLinks$Reader", "sumIsRight", "()Z"⟩, 4)]
theorem lw_r2 : ∀ q ∈ lw_privs_2, lw_okq q := List.forall_mem_cons.mpr ⟨lw_p16, List.forall_mem_cons.mpr ⟨lw_p17, List.forall_mem_cons.mpr ⟨lw_p18, List.forall_mem_cons.mpr ⟨lw_p19, List.forall_mem_cons.mpr ⟨lw_p20, List.forall_mem_cons.mpr ⟨lw_p21, List.forall_mem_cons.mpr ⟨lw_p22, List.forall_mem_cons.mpr ⟨lw_p23, List.forall_mem_cons.mpr ⟨lw_p24, List.forall_mem_cons.mpr ⟨lw_p25, List.forall_mem_cons.mpr ⟨lw_p26, List.forall_mem_cons.mpr ⟨lw_p27, List.forall_mem_cons.mpr ⟨lw_p28, List.forall_mem_cons.mpr ⟨lw_p29, List.forall_mem_cons.mpr ⟨lw_p30, List.forall_mem_cons.mpr ⟨lw_p31, fun _ h => absurd h List.not_mem_nil⟩⟩⟩⟩⟩⟩⟩⟩⟩⟩⟩⟩⟩⟩⟩⟩
theorem lw_p32 : lw_okq (⟨"ObjectLinks$Reader", "takeSections", "(LObjectLinks$Unit;I)Z"⟩, 4) := ⟨⟨by decide +kernel, by decide +kernel⟩, List.mem_of_getElem? (i := 821) (by decide +kernel), List.mem_of_getElem? (i := 855) (by decide +kernel), List.mem_of_getElem? (i := 856) (by decide +kernel)⟩
theorem lw_p33 : lw_okq (⟨"ObjectLinks$Reader", "takeNames", "(LObjectLinks$Unit;I)Z"⟩, 4) := ⟨⟨by decide +kernel, by decide +kernel⟩, List.mem_of_getElem? (i := 821) (by decide +kernel), List.mem_of_getElem? (i := 863) (by decide +kernel), List.mem_of_getElem? (i := 864) (by decide +kernel)⟩
theorem lw_p34 : lw_okq (⟨"ObjectLinks$Reader", "takeReferences", "(LObjectLinks$Unit;I)Z"⟩, 4) := ⟨⟨by decide +kernel, by decide +kernel⟩, List.mem_of_getElem? (i := 821) (by decide +kernel), List.mem_of_getElem? (i := 871) (by decide +kernel), List.mem_of_getElem? (i := 872) (by decide +kernel)⟩
theorem lw_p35 : lw_okq (⟨"ObjectLinksModel", "fail", "(I)I"⟩, 42) := ⟨⟨by decide +kernel, by decide +kernel⟩, List.mem_of_getElem? (i := 880) (by decide +kernel), List.mem_of_getElem? (i := 1021) (by decide +kernel), List.mem_of_getElem? (i := 1022) (by decide +kernel)⟩
theorem lw_p36 : lw_okq (⟨"ObjectLinksModel", "emptyObject", "(I)V"⟩, 42) := ⟨⟨by decide +kernel, by decide +kernel⟩, List.mem_of_getElem? (i := 880) (by decide +kernel), List.mem_of_getElem? (i := 1025) (by decide +kernel), List.mem_of_getElem? (i := 1026) (by decide +kernel)⟩
theorem lw_p37 : lw_okq (⟨"ObjectLinksModel", "isObject", "(I)Z"⟩, 42) := ⟨⟨by decide +kernel, by decide +kernel⟩, List.mem_of_getElem? (i := 880) (by decide +kernel), List.mem_of_getElem? (i := 1033) (by decide +kernel), List.mem_of_getElem? (i := 1034) (by decide +kernel)⟩
theorem lw_p38 : lw_okq (⟨"ObjectLinksModel", "addSection", "(IIII)V"⟩, 42) := ⟨⟨by decide +kernel, by decide +kernel⟩, List.mem_of_getElem? (i := 880) (by decide +kernel), List.mem_of_getElem? (i := 1043) (by decide +kernel), List.mem_of_getElem? (i := 1044) (by decide +kernel)⟩
theorem lw_p39 : lw_okq (⟨"ObjectLinksModel", "hasSection", "(II)Z"⟩, 42) := ⟨⟨by decide +kernel, by decide +kernel⟩, List.mem_of_getElem? (i := 880) (by decide +kernel), List.mem_of_getElem? (i := 1051) (by decide +kernel), List.mem_of_getElem? (i := 1052) (by decide +kernel)⟩
theorem lw_p40 : lw_okq (⟨"ObjectLinksModel", "isName", "(IIIII)Z"⟩, 42) := ⟨⟨by decide +kernel, by decide +kernel⟩, List.mem_of_getElem? (i := 880) (by decide +kernel), List.mem_of_getElem? (i := 1059) (by decide +kernel), List.mem_of_getElem? (i := 1060) (by decide +kernel)⟩
theorem lw_p41 : lw_okq (⟨"ObjectLinksModel", "hasName", "(II)Z"⟩, 42) := ⟨⟨by decide +kernel, by decide +kernel⟩, List.mem_of_getElem? (i := 880) (by decide +kernel), List.mem_of_getElem? (i := 1063) (by decide +kernel), List.mem_of_getElem? (i := 1064) (by decide +kernel)⟩
theorem lw_p42 : lw_okq (⟨"ObjectLinksModel", "addName", "(IIIII)V"⟩, 42) := ⟨⟨by decide +kernel, by decide +kernel⟩, List.mem_of_getElem? (i := 880) (by decide +kernel), List.mem_of_getElem? (i := 1067) (by decide +kernel), List.mem_of_getElem? (i := 1068) (by decide +kernel)⟩
theorem lw_p43 : lw_okq (⟨"ObjectLinksModel", "isReference", "(IIIII)Z"⟩, 42) := ⟨⟨by decide +kernel, by decide +kernel⟩, List.mem_of_getElem? (i := 880) (by decide +kernel), List.mem_of_getElem? (i := 1075) (by decide +kernel), List.mem_of_getElem? (i := 1076) (by decide +kernel)⟩
theorem lw_p44 : lw_okq (⟨"ObjectLinksModel", "addReference", "(IIIIII)V"⟩, 42) := ⟨⟨by decide +kernel, by decide +kernel⟩, List.mem_of_getElem? (i := 880) (by decide +kernel), List.mem_of_getElem? (i := 1079) (by decide +kernel), List.mem_of_getElem? (i := 1080) (by decide +kernel)⟩
theorem lw_p45 : lw_okq (⟨"ObjectLinksModel", "findDoubled", "()V"⟩, 42) := ⟨⟨by decide +kernel, by decide +kernel⟩, List.mem_of_getElem? (i := 880) (by decide +kernel), List.mem_of_getElem? (i := 1092) (by decide +kernel), List.mem_of_getElem? (i := 1093) (by decide +kernel)⟩
theorem lw_p46 : lw_okq (⟨"ObjectLinksModel", "firstOf", "(II)I"⟩, 42) := ⟨⟨by decide +kernel, by decide +kernel⟩, List.mem_of_getElem? (i := 880) (by decide +kernel), List.mem_of_getElem? (i := 1096) (by decide +kernel), List.mem_of_getElem? (i := 1097) (by decide +kernel)⟩
theorem lw_p47 : lw_okq (⟨"ObjectLinksModel", "tell", "(III)V"⟩, 42) := ⟨⟨by decide +kernel, by decide +kernel⟩, List.mem_of_getElem? (i := 880) (by decide +kernel), List.mem_of_getElem? (i := 1100) (by decide +kernel), List.mem_of_getElem? (i := 1101) (by decide +kernel)⟩
def lw_privs_3 : List (MethodName × Nat) := [(⟨"ObjectLinks$Reader", "takeSections", "(LObjectLinks$Unit;I)Z"⟩, 4), (⟨"ObjectLinks$Reader", "takeNames", "(LObjectLinks$Unit;I)Z"⟩, 4), (⟨"ObjectLinks$Reader", "takeReferences", "(LObjectLinks$Unit;I)Z"⟩, 4), (⟨"ObjectLinksModel", "fail", "(I)I"⟩, 42), (⟨"ObjectLinksModel", "emptyObject", "(I)V"⟩, 42), (⟨"ObjectLinksModel", "isObject", "(I)Z"⟩, 42), (⟨"ObjectLinksModel", "addSection", "(IIII)V"⟩, 42), (⟨"ObjectLinksModel", "hasSection", "(II)Z"⟩, 42), (⟨"ObjectLinksModel", "isName", "(IIIII)Z"⟩, 42), (⟨"ObjectLinksModel", "hasName", "(II)Z"⟩, 42), (⟨"ObjectLinksModel", "addName", "(IIIII)V"⟩, 42), (⟨"ObjectLinksModel", "isReference", "(IIIII)Z"⟩, 42), (⟨"ObjectLinksModel", "addReference", "(IIIIII)V"⟩, 42), (⟨"ObjectLinksModel", "findDoubled", "()V"⟩, 42), (⟨"ObjectLinksModel", "firstOf", "(II)I"⟩, 42), (⟨"ObjectLinksModel", "tell", "(III)V"⟩, 42)]
theorem lw_r3 : ∀ q ∈ lw_privs_3, lw_okq q := List.forall_mem_cons.mpr ⟨lw_p32, List.forall_mem_cons.mpr ⟨lw_p33, List.forall_mem_cons.mpr ⟨lw_p34, List.forall_mem_cons.mpr ⟨lw_p35, List.forall_mem_cons.mpr ⟨lw_p36, List.forall_mem_cons.mpr ⟨lw_p37, List.forall_mem_cons.mpr ⟨lw_p38, List.forall_mem_cons.mpr ⟨lw_p39, List.forall_mem_cons.mpr ⟨lw_p40, List.forall_mem_cons.mpr ⟨lw_p41, List.forall_mem_cons.mpr ⟨lw_p42, List.forall_mem_cons.mpr ⟨lw_p43, List.forall_mem_cons.mpr ⟨lw_p44, List.forall_mem_cons.mpr ⟨lw_p45, List.forall_mem_cons.mpr ⟨lw_p46, List.forall_mem_cons.mpr ⟨lw_p47, fun _ h => absurd h List.not_mem_nil⟩⟩⟩⟩⟩⟩⟩⟩⟩⟩⟩⟩⟩⟩⟩⟩
theorem lw_p48 : lw_okq (⟨"ObjectLinksModel", "findReached", "(I)V"⟩, 42) := ⟨⟨by decide +kernel, by decide +kernel⟩, List.mem_of_getElem? (i := 880) (by decide +kernel), List.mem_of_getElem? (i := 1104) (by decide +kernel), List.mem_of_getElem? (i := 1105) (by decide +kernel)⟩
theorem lw_p49 : lw_okq (⟨"ObjectLinksModel", "meaning", "(I)I"⟩, 42) := ⟨⟨by decide +kernel, by decide +kernel⟩, List.mem_of_getElem? (i := 880) (by decide +kernel), List.mem_of_getElem? (i := 1108) (by decide +kernel), List.mem_of_getElem? (i := 1109) (by decide +kernel)⟩
theorem lw_p50 : lw_okq (⟨"ObjectLinksModel", "reach", "(I)Z"⟩, 42) := ⟨⟨by decide +kernel, by decide +kernel⟩, List.mem_of_getElem? (i := 880) (by decide +kernel), List.mem_of_getElem? (i := 1112) (by decide +kernel), List.mem_of_getElem? (i := 1113) (by decide +kernel)⟩
theorem lw_p51 : lw_okq (⟨"ObjectLinksModel", "isWorked", "(II)Z"⟩, 42) := ⟨⟨by decide +kernel, by decide +kernel⟩, List.mem_of_getElem? (i := 880) (by decide +kernel), List.mem_of_getElem? (i := 1116) (by decide +kernel), List.mem_of_getElem? (i := 1117) (by decide +kernel)⟩
theorem lw_p52 : lw_okq (⟨"ObjectLinksModel", "meaningOf", "(II)I"⟩, 42) := ⟨⟨by decide +kernel, by decide +kernel⟩, List.mem_of_getElem? (i := 880) (by decide +kernel), List.mem_of_getElem? (i := 1120) (by decide +kernel), List.mem_of_getElem? (i := 1121) (by decide +kernel)⟩
theorem lw_p53 : lw_okq (⟨"ObjectLinksModel", "order", "()V"⟩, 42) := ⟨⟨by decide +kernel, by decide +kernel⟩, List.mem_of_getElem? (i := 880) (by decide +kernel), List.mem_of_getElem? (i := 1124) (by decide +kernel), List.mem_of_getElem? (i := 1125) (by decide +kernel)⟩
theorem lw_p54 : lw_okq (⟨"ObjectLinksModel", "next", "(I)I"⟩, 42) := ⟨⟨by decide +kernel, by decide +kernel⟩, List.mem_of_getElem? (i := 880) (by decide +kernel), List.mem_of_getElem? (i := 1128) (by decide +kernel), List.mem_of_getElem? (i := 1129) (by decide +kernel)⟩
theorem lw_p55 : lw_okq (⟨"ObjectLinksModel", "greatest", "(IZ)I"⟩, 42) := ⟨⟨by decide +kernel, by decide +kernel⟩, List.mem_of_getElem? (i := 880) (by decide +kernel), List.mem_of_getElem? (i := 1132) (by decide +kernel), List.mem_of_getElem? (i := 1133) (by decide +kernel)⟩
theorem lw_p56 : lw_okq (⟨"ObjectLinksModel", "copySections", "()V"⟩, 42) := ⟨⟨by decide +kernel, by decide +kernel⟩, List.mem_of_getElem? (i := 880) (by decide +kernel), List.mem_of_getElem? (i := 1136) (by decide +kernel), List.mem_of_getElem? (i := 1137) (by decide +kernel)⟩
theorem lw_p57 : lw_okq (⟨"ObjectLinksModel", "workIn", "(II)V"⟩, 42) := ⟨⟨by decide +kernel, by decide +kernel⟩, List.mem_of_getElem? (i := 880) (by decide +kernel), List.mem_of_getElem? (i := 1140) (by decide +kernel), List.mem_of_getElem? (i := 1141) (by decide +kernel)⟩
theorem lw_p58 : lw_okq (⟨"ObjectLinksModel", "placeOfMeaning", "(I)I"⟩, 42) := ⟨⟨by decide +kernel, by decide +kernel⟩, List.mem_of_getElem? (i := 880) (by decide +kernel), List.mem_of_getElem? (i := 1144) (by decide +kernel), List.mem_of_getElem? (i := 1145) (by decide +kernel)⟩
theorem lw_p59 : lw_okq (⟨"ObjectLinksModel", "put", "(IJI)V"⟩, 42) := ⟨⟨by decide +kernel, by decide +kernel⟩, List.mem_of_getElem? (i := 880) (by decide +kernel), List.mem_of_getElem? (i := 1148) (by decide +kernel), List.mem_of_getElem? (i := 1149) (by decide +kernel)⟩
theorem lw_p60 : lw_okq (⟨"ObjectLinksModel", "know", "()V"⟩, 42) := ⟨⟨by decide +kernel, by decide +kernel⟩, List.mem_of_getElem? (i := 880) (by decide +kernel), List.mem_of_getElem? (i := 1163) (by decide +kernel), List.mem_of_getElem? (i := 1164) (by decide +kernel)⟩
theorem lw_p61 : lw_okq (⟨"ObjectLinksModel", "noImage", "()V"⟩, 42) := ⟨⟨by decide +kernel, by decide +kernel⟩, List.mem_of_getElem? (i := 880) (by decide +kernel), List.mem_of_getElem? (i := 1167) (by decide +kernel), List.mem_of_getElem? (i := 1168) (by decide +kernel)⟩
theorem lw_p62 : lw_okq (⟨"ObjectLinksModel", "say", "(II)V"⟩, 42) := ⟨⟨by decide +kernel, by decide +kernel⟩, List.mem_of_getElem? (i := 880) (by decide +kernel), List.mem_of_getElem? (i := 1191) (by decide +kernel), List.mem_of_getElem? (i := 1192) (by decide +kernel)⟩
theorem lw_p63 : lw_okq (⟨"ObjectLinksModel", "sumOf", "(I)I"⟩, 42) := ⟨⟨by decide +kernel, by decide +kernel⟩, List.mem_of_getElem? (i := 880) (by decide +kernel), List.mem_of_getElem? (i := 1195) (by decide +kernel), List.mem_of_getElem? (i := 1196) (by decide +kernel)⟩
def lw_privs_4 : List (MethodName × Nat) := [(⟨"ObjectLinksModel", "findReached", "(I)V"⟩, 42), (⟨"ObjectLinksModel", "meaning", "(I)I"⟩, 42), (⟨"ObjectLinksModel", "reach", "(I)Z"⟩, 42), (⟨"ObjectLinksModel", "isWorked", "(II)Z"⟩, 42), (⟨"ObjectLinksModel", "meaningOf", "(II)I"⟩, 42), (⟨"ObjectLinksModel", "order", "()V"⟩, 42), (⟨"ObjectLinksModel", "next", "(I)I"⟩, 42), (⟨"ObjectLinksModel", "greatest", "(IZ)I"⟩, 42), (⟨"ObjectLinksModel", "copySections", "()V"⟩, 42), (⟨"ObjectLinksModel", "workIn", "(II)V"⟩, 42), (⟨"ObjectLinksModel", "placeOfMeaning", "(I)I"⟩, 42), (⟨"ObjectLinksModel", "put", "(IJI)V"⟩, 42), (⟨"ObjectLinksModel", "know", "()V"⟩, 42), (⟨"ObjectLinksModel", "noImage", "()V"⟩, 42), (⟨"ObjectLinksModel", "say", "(II)V"⟩, 42), (⟨"ObjectLinksModel", "sumOf", "(I)I"⟩, 42)]
theorem lw_r4 : ∀ q ∈ lw_privs_4, lw_okq q := List.forall_mem_cons.mpr ⟨lw_p48, List.forall_mem_cons.mpr ⟨lw_p49, List.forall_mem_cons.mpr ⟨lw_p50, List.forall_mem_cons.mpr ⟨lw_p51, List.forall_mem_cons.mpr ⟨lw_p52, List.forall_mem_cons.mpr ⟨lw_p53, List.forall_mem_cons.mpr ⟨lw_p54, List.forall_mem_cons.mpr ⟨lw_p55, List.forall_mem_cons.mpr ⟨lw_p56, List.forall_mem_cons.mpr ⟨lw_p57, List.forall_mem_cons.mpr ⟨lw_p58, List.forall_mem_cons.mpr ⟨lw_p59, List.forall_mem_cons.mpr ⟨lw_p60, List.forall_mem_cons.mpr ⟨lw_p61, List.forall_mem_cons.mpr ⟨lw_p62, List.forall_mem_cons.mpr ⟨lw_p63, fun _ h => absurd h List.not_mem_nil⟩⟩⟩⟩⟩⟩⟩⟩⟩⟩⟩⟩⟩⟩⟩⟩
theorem lw_p64 : lw_okq (⟨"ObjectLinksModel", "fill", "(II)V"⟩, 42) := ⟨⟨by decide +kernel, by decide +kernel⟩, List.mem_of_getElem? (i := 880) (by decide +kernel), List.mem_of_getElem? (i := 1212) (by decide +kernel), List.mem_of_getElem? (i := 1213) (by decide +kernel)⟩
theorem lw_p65 : lw_okq (⟨"ObjectLinksModel", "take", "(II)I"⟩, 42) := ⟨⟨by decide +kernel, by decide +kernel⟩, List.mem_of_getElem? (i := 880) (by decide +kernel), List.mem_of_getElem? (i := 1216) (by decide +kernel), List.mem_of_getElem? (i := 1217) (by decide +kernel)⟩
theorem lw_p66 : lw_okq (⟨"ObjectLinksModel", "need", "(Z)V"⟩, 42) := ⟨⟨by decide +kernel, by decide +kernel⟩, List.mem_of_getElem? (i := 880) (by decide +kernel), List.mem_of_getElem? (i := 1220) (by decide +kernel), List.mem_of_getElem? (i := 1221) (by decide +kernel)⟩
def lw_privs_5 : List (MethodName × Nat) := [(⟨"ObjectLinksModel", "fill", "(II)V"⟩, 42), (⟨"ObjectLinksModel", "take", "(II)I"⟩, 42), (⟨"ObjectLinksModel", "need", "(Z)V"⟩, 42)]
theorem lw_r5 : ∀ q ∈ lw_privs_5, lw_okq q := List.forall_mem_cons.mpr ⟨lw_p64, List.forall_mem_cons.mpr ⟨lw_p65, List.forall_mem_cons.mpr ⟨lw_p66, fun _ h => absurd h List.not_mem_nil⟩⟩⟩
def lw_privs : List (MethodName × Nat) := lw_privs_1 ++ (lw_privs_2 ++ (lw_privs_3 ++ (lw_privs_4 ++ (lw_privs_5))))
def lw_tbl : List Cond := k2_sels lw_privs ++ tables_1
theorem lw_privs_ok : ∀ q ∈ lw_privs, lw_okq q := by
  show ∀ q ∈ lw_privs_1 ++ (lw_privs_2 ++ (lw_privs_3 ++ (lw_privs_4 ++ (lw_privs_5)))), lw_okq q
  exact List.forall_mem_append.mpr ⟨lw_r1, List.forall_mem_append.mpr ⟨lw_r2, List.forall_mem_append.mpr ⟨lw_r3, List.forall_mem_append.mpr ⟨lw_r4, lw_r5⟩⟩⟩⟩
end
section
/-! ===== BEGIN words of one list among another's, by their places ===== -/
theorem goodIn_r {big : List Cond} (ws : List Cond) (ps : List Nat) (hp : ws = ps.filterMap (fun i => big[i]?)) (h : ws.all goodWord = true) : GoodIn big ws := by
  intro w hw
  have h1 := List.all_eq_true.mp h w hw
  rw [hp] at hw
  obtain ⟨i, -, hi⟩ := List.mem_filterMap.mp hw
  have hm : w ∈ big := by first | exact List.mem_of_getElem? hi | exact List.getElem?_mem hi
  exact ⟨hm, good_of_word h1⟩
theorem goodIn_app {big a b : List Cond} (ha : GoodIn big a) (hb : GoodIn big b) : GoodIn big (a ++ b) := fun w h => (List.mem_append.mp h).elim (ha w) (hb w)
theorem goodIn_ca {big a b : List Cond} {c : Cond} (ha : GoodIn big (c :: a)) (hb : GoodIn big b) : GoodIn big (c :: (a ++ b)) := fun w h => (List.mem_cons.mp h).elim (fun e => ha w (List.mem_cons.mpr (Or.inl e))) (fun h => (List.mem_append.mp h).elim (fun h => ha w (List.mem_cons.mpr (Or.inr h))) (hb w))
theorem goodIn_sub {big ws : List Cond} (hm : ∀ w ∈ ws, w ∈ big) (h : ws.all goodWord = true) : GoodIn big ws := fun w hw => ⟨hm w hw, good_of_word (List.all_eq_true.mp h w hw)⟩
/-! ===== END ===== -/

/-! ===== BEGIN exceptions that leave a method, and their catching by the caller (launches without stack traces) ===== -/
section VXA
/-! The laws vx_back, vx_callV, vx_callS, vx_callSW, vx_throw0, vx_throwS follow proofs of the library, with one case more: JvmDerived/Free/Laws.lean (Back.of_free), Shelf42/LK1.lean (callV, callS), Shelf/KitTraced.lean (throwNew0V, throwNewS). -/
/-- where a method has thrown q: the class by its name, the cell, what was written, the world -/
def vx_T (XC : String → State → State → Prop) (st : State) (q : Addr) (t : State) (mc ms : Nat) (free : Addr → Prop) : Prop :=
  ∃ (E : String) (ce : Cell) (L : List Loc), XC E st t ∧ t.heap[q]? = some ce ∧ ce.vm = .none ∧ st.vm.findClass E = some ce.cls ∧ st.WarmedH t.vm ∧ st.sameButNew ({ t with vm := st.vm } : State) L mc ms ∧ ∀ z ∈ L, free z.base
def vx_Q (Qc : Array Value → State → Outcome → State → Prop) (XC : String → State → State → Prop) (mc ms : Nat) (free : Addr → Prop) : Array Value → State → Outcome → State → Prop := fun a st o t =>
  (Qc a st o t ∧ ∃ L, FrameEnd st o t L mc ms ∧ ∀ q ∈ L, free q.base) ∨ ∃ q, o = .threw q ∧ vx_T XC st q t mc ms free
/-- a callee that returns or throws -/
def vx_Met (l : Launch) (y : MethodName) (ws : List Cond) (rm : Room) (Pc : Array Value → State → Prop) (Qc : Array Value → State → Outcome → State → Prop) (XC : String → State → State → Prop) (mc ms : Nat) (free : Addr → Prop) : Prop :=
  MetFree l y (headSpec ws rm) Pc (fun _ _ _ _ _ => True) (vx_Q Qc XC mc ms free)
def vx_Post (XC : String → State → State → Prop) (mc ms : Nat) (free : Addr → Prop) : Pt → Array Value → Addr → Pt → Prop := fun A a q B =>
  ∃ (g : JFrame) (mk : MethodId) (t : State) (L : List Loc) (E : String) (ce : Cell), B.U.heap = t.heap ∧ B.U.vm = t.vm ∧ XC E (A.U.calling g mk a) t ∧ t.heap[q]? = some ce ∧ ce.vm = .none ∧ A.U.vm.findClass E = some ce.cls ∧ B.locs = A.locs ++ L ∧ (∀ z ∈ L, free z.base) ∧ B.cells = A.cells + mc ∧ B.slots = A.slots + ms
def vx_Back (l : Launch) (R : Room) (p : Program) (e : Env) (below : List Frame) (s : State) (sargs : Array Value) (y : MethodName) (len W9 : Nat)
    (Pre : Pt → Array Value → Prop) (Post : Pt → Array Value → Option Value → Pt → Prop) (PostX : Pt → Array Value → Addr → Pt → Prop) : Prop :=
  ∀ (m : MethodId) (meth : Method) (c : Code) (A : Pt) (g : JFrame) (ig : Instr) (mk : MethodId) (a : Array Value),
    Stand p l e R s m sargs below meth c A.U A.locs A.cells A.slots → g.method = m → g.locals.size = c.maxLocals → decode c.code g.pc = .ok (ig, len) →
    2 * g.monitorRoom + (g.stack.map fun v => v.category).sum ≤ W9 → A.U.methodNamed? y = some mk → Pre A a →
    (∃ (v : Option Value) (B : Pt), Stand p l e R s m sargs below meth c B.U B.locs B.cells B.slots ∧ Post A a v B ∧
      Steps p.tables e below (doInvoke e (A.U.setTop g) [] mk a).1 (B.U.setTop { g with pc := g.pc + len, stack := v.toList ++ g.stack })) ∨
    (∃ (q : Addr) (B : Pt), Stand p l e R s m sargs below meth c B.U B.locs B.cells B.slots ∧ PostX A a q B ∧
      Steps p.tables e below (doInvoke e (A.U.setTop g) [] mk a).1 ((B.U.setTop g).pushFrame (.throwing q)))
section Payer
variable {l : Launch} {R : Room} {p : Program} {e : Env} {below : List Frame} {s : State} {sargs : Array Value} {y : MethodName} {len W9 : Nat}
theorem vx_back {ws : List Cond} {rm : Room} {Pc : Array Value → State → Prop} {Qc : Array Value → State → Outcome → State → Prop} {XC : String → State → State → Prop} {mc ms : Nat} {free : Addr → Prop} {bytes : ByteArray} {maxL : Nat} {ret : Option FieldType}
    (hM : vx_Met l y ws rm Pc Qc XC mc ms free) (hblind : FrameBlind Pc) (hrc : rm.cells = mc) (hrs : rm.slots = ms)
    (hframes : rm.frames + 1 ≤ R.frames) (hlocals : W9 + (maxL + 11) + rm.locals ≤ R.locals)
    (hws : ∀ w ∈ ws, ∀ a' U, s.WarmedH U.vm → w.before a' U = true) (hcode : Cond.code y bytes maxL ret ∈ ws) (hinit : ∀ a' U, s.WarmedH U.vm → (Cond.initialized y.cls).before a' U = true) :
    vx_Back l R p e below s sargs y len W9 (PreOf R mc ms Pc) (PostOf Qc mc ms free) (vx_Post XC mc ms free) := by
  intro m meth c A g ig mk a X hg hsize hdg hW hn hp
  have h1 : (headSpec ws rm).pre.before a A.U = true := atoms_intro fun w hw => hws w hw _ _ X.warmed
  have h2 : (Cond.code y bytes maxL ret).before a A.U = true := hws _ hcode _ _ X.warmed
  have h3 : (Cond.initialized y.cls).before a A.U = true := hinit _ _ X.warmed
  have h4 : A.cells + (headSpec ws rm).room.cells ≤ R.cells := by rw [show (headSpec ws rm).room.cells = mc from hrc]; exact hp.1
  have h5 : A.slots + (headSpec ws rm).room.slots ≤ R.slots := by rw [show (headSpec ws rm).room.slots = ms from hrs]; exact hp.2.1
  have hPc : Pc a (A.U.calling g mk a) := hblind _ _ _ _ hp.2.2
  obtain ⟨U, Ls, c0, s0⟩ := A
  dsimp only [Pt.U, Pt.locs, Pt.cells, Pt.slots] at h1 h2 h3 h4 h5 X hn hPc ⊢
  obtain ⟨methY, cY, hmY, hcY, -, hlY, -, -, -, -⟩ := Cond.code_spec hn h2
  obtain ⟨kY, hkY, -⟩ := className_of_methodNamed hn
  have hinitY : kY.init = .initialized := Cond.initialized_spec (findClass_of_methodNamed hn) hkY h3
  have h : At U g.method c below := by rw [hg]; exact X.here
  have hlocals9 : W9 + (maxL + 11) + (headSpec ws rm).room.locals ≤ R.locals := hlocals
  have happ : (headSpec ws rm).appliesLoose y e.platform (U.calling g mk a) = true :=
    Spec.appliesLoose_calling (g := g) h hdg hn hkY hinitY
      (X.room_calling (g := g) (R' := (headSpec ws rm).room) hsize hmY hcY hframes (by rw [hlY]; omega) h4 h5) h1
  obtain ⟨mid, hmid⟩ := h.above
  have hfr : (U.setTop g).frames = (.java g :: mid) ++ below := by rw [State.frames_setTop' g h.top, hmid]; rfl
  obtain ⟨o, s₂, hsteps, -, hend, hq⟩ := Steps.callFree hM p X.admits X.cas X.clock (acts := []) hfr happ hPc trivial
  have hq' : vx_Q Qc XC mc ms free a (U.calling g mk a) o s₂ := hq
  rw [State.frames_setTop' g h.top] at hend
  obtain ⟨g₀, hg0⟩ := Option.isSome_iff_exists.mp h.top
  obtain ⟨r, hr⟩ := State.topJava?_eq_some.mp hg0
  have hr' : (({ U with heap := s₂.heap, slotsUsed := s₂.slotsUsed } : State).setVm s₂.vm).frames = .java g₀ :: r := hr
  rcases hq' with ⟨hqc, L, hfe, hL⟩ | ⟨q, rfl, E, ce, L, hx, hce, hcv, hcl, hW₂, hsm, hL⟩
  · obtain ⟨⟨v, rfl⟩, hW₂, e2, q2, q3, q4, q5, q6⟩ := id hfe
    have e3 : s₂ = ({ (U.calling g mk a).setFrames s₂.frames with heap := s₂.heap, slotsUsed := s₂.slotsUsed } : State).setVm s₂.vm := by
      have : s₂ = ({ s₂ with vm := (U.calling g mk a).vm } : State).setVm s₂.vm := rfl
      rw [e2] at this
      exact this
    obtain ⟨c₂, i₂, len₂, hc₂, hd₂, hf₂⟩ := hend
    have hW' : U.WarmedH s₂.vm := hW₂
    have hcc : c₂ = c := by
      have h1 : s₂.code? g.method = U.code? g.method := by
        rw [State.code?_eq, State.code?_eq, hW'.alike.method?]
      exact Option.some.inj (hc₂.symm.trans (h1.trans h.code))
    subst hcc
    have hlen : len₂ = len := by rw [hdg] at hd₂; cases hd₂; rfl
    subst hlen
    have hs₂ : s₂ = (({ U with heap := s₂.heap, slotsUsed := s₂.slotsUsed } : State).setVm s₂.vm).setTop { g with pc := g.pc + len₂, stack := v.toList ++ g.stack } := by
      refine e3.trans ?_
      rw [hf₂, State.calling_eq h.top, State.setFrames_setFrames, State.setTop_of_frames _ hr', hr]
      rfl
    have hsame : U.sameButNew ({ U with heap := s₂.heap, slotsUsed := s₂.slotsUsed } : State) L mc ms := by
      refine ⟨?_, q2, q3, q4, q5, q6⟩
      obtain ⟨t, ht, -⟩ := State.frames_cons hr
      show ({ U with heap := s₂.heap, slotsUsed := s₂.slotsUsed } : State) = { U.setFrames U.frames with heap := s₂.heap, slotsUsed := s₂.slotsUsed }
      rw [State.setFrames_self ht]
    subst hg
    refine Or.inl ⟨v, ⟨(({ U with heap := s₂.heap, slotsUsed := s₂.slotsUsed } : State).setVm s₂.vm), Ls ++ L, c0 + mc, s0 + ms⟩,
      ⟨X.admits, X.cas, X.clock, X.frames, X.room, X.hears, X.method, X.code, (X.here.setHeapUsed s₂.heap s₂.slotsUsed).setVm hW'.alike, X.tail, State.WarmedH.trans X.warmed hW', X.limits, X.bytes, X.same.trans (hsame.setVm s.vm)⟩,
      ⟨g, mk, s₂, L, rfl, rfl, hqc, rfl, hL, rfl, rfl⟩, ?_⟩
    show Steps p.tables e below _ ((({ U with heap := s₂.heap, slotsUsed := s₂.slotsUsed } : State).setVm s₂.vm).setTop { g with pc := g.pc + len₂, stack := v.toList ++ g.stack })
    rw [← hs₂]
    exact hsteps
  · obtain ⟨e2, q2, q3, q4, q5, q6⟩ := id hsm
    have e3 : s₂ = ({ (U.calling g mk a).setFrames s₂.frames with heap := s₂.heap, slotsUsed := s₂.slotsUsed } : State).setVm s₂.vm := by
      have : s₂ = ({ s₂ with vm := (U.calling g mk a).vm } : State).setVm s₂.vm := rfl
      rw [e2] at this
      exact this
    have hf₂ : s₂.frames = .throwing q :: .java g :: U.frames.tail := hend
    have hW' : U.WarmedH s₂.vm := hW₂
    have hs₂ : s₂ = ((({ U with heap := s₂.heap, slotsUsed := s₂.slotsUsed } : State).setVm s₂.vm).setTop g).pushFrame (.throwing q) := by
      refine e3.trans ?_
      rw [hf₂, State.calling_eq h.top, State.setFrames_setFrames, State.pushFrame, State.frames_setTop _ hr', State.setTop_of_frames _ hr', State.setFrames_setFrames, hr]
      rfl
    have hsame : U.sameButNew ({ U with heap := s₂.heap, slotsUsed := s₂.slotsUsed } : State) L mc ms := by
      refine ⟨?_, q2, q3, q4, q5, q6⟩
      obtain ⟨t, ht, -⟩ := State.frames_cons hr
      show ({ U with heap := s₂.heap, slotsUsed := s₂.slotsUsed } : State) = { U.setFrames U.frames with heap := s₂.heap, slotsUsed := s₂.slotsUsed }
      rw [State.setFrames_self ht]
    subst hg
    refine Or.inr ⟨q, ⟨(({ U with heap := s₂.heap, slotsUsed := s₂.slotsUsed } : State).setVm s₂.vm), Ls ++ L, c0 + mc, s0 + ms⟩,
      ⟨X.admits, X.cas, X.clock, X.frames, X.room, X.hears, X.method, X.code, (X.here.setHeapUsed s₂.heap s₂.slotsUsed).setVm hW'.alike, X.tail, State.WarmedH.trans X.warmed hW', X.limits, X.bytes, X.same.trans (hsame.setVm s.vm)⟩,
      ⟨g, mk, s₂, L, E, ce, rfl, rfl, hx, hce, hcv, hcl, rfl, hL, rfl, rfl⟩, ?_⟩
    show Steps p.tables e below _ (((({ U with heap := s₂.heap, slotsUsed := s₂.slotsUsed } : State).setVm s₂.vm).setTop g).pushFrame (.throwing q))
    rw [← hs₂]
    exact hsteps
end Payer
section Calls
variable {p : Program} {l : Launch} {e : Env} {R : Room} {s : State} {m : MethodId} {args : Array Value} {below : List Frame} {meth : Method} {c : Code} {T : State} {locs : List Loc} {cells slots : Nat}
theorem vx_callV (X : Stand p l e R s m args below meth c T locs cells slots) (hexec : p.tables.exec = Jvm.exec) {own C : String} {index : Nat} {y : MethodName} {bytes : ByteArray} {maxL : Nat} {ret : Option FieldType}
    (hown : s.vm.findClass own = some m.cls) (hlink : (Cond.methodLink own index y).before args s = true) (hinst : (Cond.instanceMethod y).before args s = true) (hsel : (Cond.selects C y y).before args s = true)
    (hcode : (Cond.code y bytes maxL ret).before args s = true) (hy : y.cls ≠ "java/lang/invoke/MethodHandle" ∧ y.cls ≠ "java/lang/invoke/VarHandle")
    {W9 : Nat} {Pre : Pt → Array Value → Prop} {Post : Pt → Array Value → Option Value → Pt → Prop} {PostX : Pt → Array Value → Addr → Pt → Prop} (hK : vx_Back l R p e below s args y 3 W9 Pre Post PostX)
    {b : Addr} {cellB : Cell} (hcell : T.heap[b]? = some cellB) (hobj : cellB.vm.isStatics = false) (hcls : s.vm.findClass C = some cellB.cls)
    {g : JFrame} (hg : g.method = m) (hsize : g.locals.size = c.maxLocals) {argsL rest : List Value} (hlen : ∀ sig, parseMethodDescriptor y.desc = some sig → argsL.length = sig.parameters.length)
    (hstack : g.stack = argsL.reverse ++ .ref b :: rest) (hW : 2 * g.monitorRoom + (rest.map fun v => v.category).sum ≤ W9) (hdg : decode c.code g.pc = .ok (.invokevirtual index, 3))
    (hpre : ∀ vm₁, s.WarmedH vm₁ → Pre ⟨T.setVm vm₁, locs, cells, slots⟩ (Value.ref b :: argsL).toArray) :
    (∃ (v : Option Value) (vm₁ : Vm) (B : Pt), s.WarmedH vm₁ ∧ Stand p l e R s m args below meth c B.U B.locs B.cells B.slots ∧ Post ⟨T.setVm vm₁, locs, cells, slots⟩ (Value.ref b :: argsL).toArray v B ∧
      ∀ target, Steps p.tables e below (B.U.setTop { g with pc := g.pc + 3, stack := v.toList ++ rest }) target → Steps p.tables e below (T.setTop g) target) ∨
    (∃ (q : Addr) (vm₁ : Vm) (B : Pt), s.WarmedH vm₁ ∧ Stand p l e R s m args below meth c B.U B.locs B.cells B.slots ∧ PostX ⟨T.setVm vm₁, locs, cells, slots⟩ (Value.ref b :: argsL).toArray q B ∧
      Steps p.tables e below (T.setTop g) ((B.U.setTop { g with stack := rest }).pushFrame (.throwing q))) := by
  obtain ⟨mk, methM, hnamed, hmethM, hstM, habM⟩ := Cond.instanceMethod_spec hinst
  obtain ⟨methM', cM, hmethM', -, -, -, -, -, -, hsigM⟩ := Cond.code_spec hnamed hcode
  cases hmethM.symm.trans hmethM'
  obtain ⟨c2, r2, m2, q1, q2, q3, q4, kP, hkP, hkPi⟩ := Cond.selects_spec hsel
  cases hcls.symm.trans q1
  cases (State.methodFound?_of_named hnamed hy).symm.trans q2
  cases hnamed.symm.trans q3
  have hselP : selectMethod e.platform s.vm cellB.cls mk = .method mk := by rw [Launch.admits_selectMethod X.admits]; exact q4
  obtain ⟨vm₁, X₁, hstep₁⟩ := X.invokevirtual hexec hown hlink hnamed hmethM hstM hkP hkPi hy (a := b) (cell := cellB) hcell
    (fun z h => by rw [h] at hobj; cases hobj) hselP hmethM habM hkP hkPi (g := g) hg (argsL := argsL) (rest := rest) (hlen _ hsigM) hstack hdg
  rcases hK m meth c ⟨T.setVm vm₁, locs, cells, slots⟩ { g with stack := rest } (.invokevirtual index) mk (Value.ref b :: argsL).toArray X₁ hg hsize hdg hW (X₁.named hnamed) (hpre vm₁ X₁.warmed) with ⟨v, B, X', hpost, hsteps⟩ | ⟨q, B, X', hpost, hsteps⟩
  · exact Or.inl ⟨v, vm₁, B, X₁.warmed, X', hpost, fun target h => hstep₁ _ fun acts => by rw [doInvoke_state]; exact hsteps.trans h⟩
  · exact Or.inr ⟨q, vm₁, B, X₁.warmed, X', hpost, hstep₁ _ fun acts => by rw [doInvoke_state]; exact hsteps⟩
theorem vx_callS (X : Stand p l e R s m args below meth c T locs cells slots) (hexec : p.tables.exec = Jvm.exec) {own : String} {index : Nat} {y : MethodName} {bytes : ByteArray} {maxL : Nat} {ret : Option FieldType}
    (hown : s.vm.findClass own = some m.cls) (hlink : (Cond.methodLink own index y).before args s = true) (hstat : (Cond.static y).before args s = true) (hinit : (Cond.initialized y.cls).before args s = true)
    (hcode : (Cond.code y bytes maxL ret).before args s = true) (hy : y.cls ≠ "java/lang/invoke/MethodHandle" ∧ y.cls ≠ "java/lang/invoke/VarHandle")
    {W9 : Nat} {Pre : Pt → Array Value → Prop} {Post : Pt → Array Value → Option Value → Pt → Prop} {PostX : Pt → Array Value → Addr → Pt → Prop} (hK : vx_Back l R p e below s args y 3 W9 Pre Post PostX)
    {g : JFrame} (hg : g.method = m) (hsize : g.locals.size = c.maxLocals) {argsL rest : List Value} (hlen : ∀ sig, parseMethodDescriptor y.desc = some sig → argsL.length = sig.parameters.length)
    (hstack : g.stack = argsL.reverse ++ rest) (hW : 2 * g.monitorRoom + (rest.map fun v => v.category).sum ≤ W9) (hdg : decode c.code g.pc = .ok (.invokestatic index, 3))
    (hpre : ∀ vm₁, s.WarmedH vm₁ → Pre ⟨T.setVm vm₁, locs, cells, slots⟩ argsL.toArray) :
    (∃ (v : Option Value) (vm₁ : Vm) (B : Pt), s.WarmedH vm₁ ∧ Stand p l e R s m args below meth c B.U B.locs B.cells B.slots ∧ Post ⟨T.setVm vm₁, locs, cells, slots⟩ argsL.toArray v B ∧
      ∀ target, Steps p.tables e below (B.U.setTop { g with pc := g.pc + 3, stack := v.toList ++ rest }) target → Steps p.tables e below (T.setTop g) target) ∨
    (∃ (q : Addr) (vm₁ : Vm) (B : Pt), s.WarmedH vm₁ ∧ Stand p l e R s m args below meth c B.U B.locs B.cells B.slots ∧ PostX ⟨T.setVm vm₁, locs, cells, slots⟩ argsL.toArray q B ∧
      Steps p.tables e below (T.setTop g) ((B.U.setTop { g with stack := rest }).pushFrame (.throwing q))) := by
  obtain ⟨mk, hnamed⟩ := Cond.code_named hcode
  obtain ⟨methM, cM, hmethM, -, -, -, -, -, -, hsigM⟩ := Cond.code_spec hnamed hcode
  have hstatic : methM.isStatic = true := Cond.static_spec hnamed hmethM hstat
  obtain ⟨kP, hkP, -⟩ := className_of_methodNamed hnamed
  have hinitP : kP.init = .initialized := Cond.initialized_spec (findClass_of_methodNamed hnamed) hkP hinit
  obtain ⟨vm₁, X₁, hstep₁⟩ := X.invokestatic hexec hown hlink hnamed hmethM hstatic hkP hinitP hy (g := g) hg (argsL := argsL) (rest := rest) (hlen _ hsigM) hstack hdg
  rcases hK m meth c ⟨T.setVm vm₁, locs, cells, slots⟩ { g with stack := rest } (.invokestatic index) mk argsL.toArray X₁ hg hsize hdg hW (X₁.named hnamed) (hpre vm₁ X₁.warmed) with ⟨v, B, X', hpost, hsteps⟩ | ⟨q, B, X', hpost, hsteps⟩
  · exact Or.inl ⟨v, vm₁, B, X₁.warmed, X', hpost, fun target h => hstep₁ _ fun acts => by rw [doInvoke_state]; exact hsteps.trans h⟩
  · exact Or.inr ⟨q, vm₁, B, X₁.warmed, X', hpost, hstep₁ _ fun acts => by rw [doInvoke_state]; exact hsteps⟩
end Calls
theorem vx_cls {s : State} {T : State} {vm₁ : Vm} {E : String} {k : ClassId} (hW : s.WarmedH vm₁) (h : (T.setVm vm₁).vm.findClass E = some k) : s.vm.findClass E = some k := by
  have h1 : vm₁.findClass E = some k := h
  rw [hW.alike.findClass] at h1
  exact h1
/-- the method's frame g, with q thrown over it -/
def vx_W (p : Program) (l : Launch) (e : Env) (R : Room) (s : State) (m : MethodId) (args : Array Value) (below : List Frame) (meth : Method) (c : Code) (H : Heap) (locs : List Loc) (cells slots : Nat) (Q : State → Prop) (g : JFrame) (q : Addr) : Prop :=
  ∀ T : State, T.heap = H → Stand p l e R s m args below meth c T locs cells slots → ∃ t, Steps p.tables e below ((T.setTop g).pushFrame (.throwing q)) t ∧ Q t
def vx_Run (p : Program) (l : Launch) (e : Env) (R : Room) (s : State) (m : MethodId) (args : Array Value) (below : List Frame) (meth : Method) (c : Code) (H : Heap) (locs : List Loc) (cells slots mc ms : Nat) (g : JFrame) (rest : List Value) (Qa : State → Outcome → State → Prop) (XC : String → State → State → Prop) (free : Addr → Prop) : Prop :=
  ∀ T : State, T.heap = H → Stand p l e R s m args below meth c T locs cells slots →
    (∃ (v : Option Value) (st₀ t T' : State) (L : List Loc), st₀.heap = H ∧ Stand p l e R s m args below meth c T' (locs ++ L) (cells + mc) (slots + ms) ∧ (∀ q ∈ L, free q.base) ∧ T'.heap = t.heap ∧ T'.vm = t.vm ∧ Qa st₀ (.returned v) t ∧
      Goes p e below T g T' { g with pc := g.pc + 3, stack := v.toList ++ rest }) ∨
    (∃ (q : Addr) (st₀ t T' : State) (L : List Loc) (E : String) (ce : Cell), st₀.heap = H ∧ Stand p l e R s m args below meth c T' (locs ++ L) (cells + mc) (slots + ms) ∧ (∀ z ∈ L, free z.base) ∧ T'.heap = t.heap ∧ T'.vm = t.vm ∧ XC E st₀ t ∧ t.heap[q]? = some ce ∧ ce.vm = .none ∧ s.vm.findClass E = some ce.cls ∧
      Steps p.tables e below (T.setTop g) ((T'.setTop { g with stack := rest }).pushFrame (.throwing q)))
def vx_X {S : Type} (px : S → Prop) (B : String → S → State → Prop) (A : Nat → Prop) : String → State → State → Prop := fun E st t => ∃ u : S, px u ∧ B E u t ∧ va_F A st t
section Runs
variable {p : Program} {l : Launch} {e : Env} {R : Room} {s : State} {m : MethodId} {args : Array Value} {below : List Frame} {meth : Method} {c : Code} {H : Heap} {locs : List Loc} {cells slots : Nat}
variable {y : MethodName} {bytes cc : ByteArray} {maxL nL mc ms n index : Nat} {ret : Option FieldType} {ws : List Cond} {rm : Room} {Pc : Array Value → State → Prop} {Qc : Array Value → State → Outcome → State → Prop} {XC : String → State → State → Prop} {free : Addr → Prop} {Ts : List Cond} {own C : String} {b : Addr} {As rest : List Value} {g : JFrame}
theorem vx_callBack (cb : CallB R s args own index y bytes maxL ret ws rm mc ms n) (hM : vx_Met l y ws rm Pc Qc XC mc ms free) (hbl : FrameBlind Pc) : vx_Back l R p e below s args y 3 8 (PreOf R mc ms Pc) (PostOf Qc mc ms free) (vx_Post XC mc ms free) := by
  obtain ⟨hrc, hrs, hfr, hlo, hws, hcw, -, hini, -⟩ := cb
  exact vx_back (bytes := bytes) (maxL := maxL) (ret := ret) hM hbl hrc hrs hfr hlo hws hcw (fun a' U hW => word_at hW (Or.inl (by first | rfl | simp [Cond.onTables, Cond.keeps, Cond.steady])) hini)
theorem vx_runV (S : CallFix p m c cc nL s args Ts own) (hM : vx_Met l y ws rm Pc Qc XC mc ms free) (cw : CallW R s args own C index y bytes maxL ret ws rm mc ms n) (hp : PreV s H C b Pc As)
    (hg : g.method = m) (hn : As.length = n) (hsize : g.locals.size = nL) (hstack : g.stack = As.reverse ++ .ref b :: rest) (hW : 2 * g.monitorRoom + (rest.map fun v => v.category).sum ≤ 8) (hdg : decode cc g.pc = .ok (.invokevirtual index, 3)) (hf : cells + mc ≤ R.cells ∧ slots + ms ≤ R.slots) :
    vx_Run p l e R s m args below meth c H locs cells slots mc ms g rest (Qc (Value.ref b :: As).toArray) XC free := by
  have hK : vx_Back l R p e below s args y 3 8 (PreOf R mc ms Pc) (PostOf Qc mc ms free) (vx_Post XC mc ms free) := vx_callBack cw.1 hM hp.1
  obtain ⟨⟨-, -, -, -, -, -, hcode, -, hy, hlen, hl⟩, hin, hse⟩ := cw
  obtain ⟨hx, hb, hml, ho, -⟩ := S
  obtain ⟨-, ⟨cellB, hcB, hoB, hclB⟩, hPc⟩ := hp
  intro T hT X
  rcases vx_callV X hx (C := C) (bytes := bytes) (maxL := maxL) (ret := ret) ho hl hin hse hcode hy hK (by rw [hT]; exact hcB) hoB hclB hg (hsize.trans hml.symm) (argsL := As) (rest := rest) (fun sig h => hn.trans (hlen sig h)) hstack hW (by rw [hb]; exact hdg)
    (fun vm₁ hW₁ => ⟨hf.1, hf.2, hPc (T.setVm vm₁) hT hW₁⟩) with ⟨v, vm₁, ⟨U', l2, c2, s2⟩, hW₁, X', ⟨g', mk, t, L, e1, e2, hq, h1, hL, h2, h3⟩, st⟩ | ⟨q, vm₁, ⟨U', l2, c2, s2⟩, hW₁, X', ⟨g', mk, t, L, E, ce, e1, e2, hq, hce, hcv, hcl, h1, hL, h2, h3⟩, st⟩
  · dsimp only [Pt.U, Pt.locs, Pt.cells, Pt.slots] at X' e1 e2 h1 h2 h3 st
    subst h1; subst h2; subst h3
    exact Or.inl ⟨v, (T.setVm vm₁).calling g' mk (Value.ref b :: As).toArray, t, U', L, hT, X', hL, e1, e2, hq, st⟩
  · dsimp only [Pt.U, Pt.locs, Pt.cells, Pt.slots] at X' e1 e2 h1 h2 h3 st hcl
    subst h1; subst h2; subst h3
    exact Or.inr ⟨q, (T.setVm vm₁).calling g' mk (Value.ref b :: As).toArray, t, U', L, E, ce, hT, X', hL, e1, e2, hq, hce, hcv, vx_cls hW₁ hcl, st⟩
theorem vx_runS (S : CallFix p m c cc nL s args Ts own) (hM : vx_Met l y ws rm Pc Qc XC mc ms free) (cw : CallB R s args own index y bytes maxL ret ws rm mc ms n ∧ (Cond.static y).before args s = true) (hp : PreS s H Pc As)
    (hg : g.method = m) (hn : As.length = n) (hsize : g.locals.size = nL) (hstack : g.stack = As.reverse ++ rest) (hW : 2 * g.monitorRoom + (rest.map fun v => v.category).sum ≤ 8) (hdg : decode cc g.pc = .ok (.invokestatic index, 3)) (hf : cells + mc ≤ R.cells ∧ slots + ms ≤ R.slots) :
    vx_Run p l e R s m args below meth c H locs cells slots mc ms g rest (Qc As.toArray) XC free := by
  have hK : vx_Back l R p e below s args y 3 8 (PreOf R mc ms Pc) (PostOf Qc mc ms free) (vx_Post XC mc ms free) := vx_callBack cw.1 hM hp.1
  obtain ⟨⟨-, -, -, -, -, -, hcode, hini, hy, hlen, hl⟩, hstt⟩ := cw
  obtain ⟨hx, hb, hml, ho, -⟩ := S
  intro T hT X
  rcases vx_callS X hx (bytes := bytes) (maxL := maxL) (ret := ret) ho hl hstt hini hcode hy hK hg (hsize.trans hml.symm) (argsL := As) (rest := rest) (fun sig h => hn.trans (hlen sig h)) hstack hW (by rw [hb]; exact hdg)
    (fun vm₁ hW₁ => ⟨hf.1, hf.2, hp.2 (T.setVm vm₁) hT hW₁⟩) with ⟨v, vm₁, ⟨U', l2, c2, s2⟩, hW₁, X', ⟨g', mk, t, L, e1, e2, hq, h1, hL, h2, h3⟩, st⟩ | ⟨q, vm₁, ⟨U', l2, c2, s2⟩, hW₁, X', ⟨g', mk, t, L, E, ce, e1, e2, hq, hce, hcv, hcl, h1, hL, h2, h3⟩, st⟩
  · dsimp only [Pt.U, Pt.locs, Pt.cells, Pt.slots] at X' e1 e2 h1 h2 h3 st
    subst h1; subst h2; subst h3
    exact Or.inl ⟨v, (T.setVm vm₁).calling g' mk As.toArray, t, U', L, hT, X', hL, e1, e2, hq, st⟩
  · dsimp only [Pt.U, Pt.locs, Pt.cells, Pt.slots] at X' e1 e2 h1 h2 h3 st hcl
    subst h1; subst h2; subst h3
    exact Or.inr ⟨q, (T.setVm vm₁).calling g' mk As.toArray, t, U', L, E, ce, hT, X', hL, e1, e2, hq, hce, hcv, vx_cls hW₁ hcl, st⟩
end Runs
section Rows
variable {p : Program} {l : Launch} {e : Env} {R : Room} {s : State} {m : MethodId} {args : Array Value} {below : List Frame} {meth : Method} {c : Code} {H : Heap} {locs : List Loc} {cells slots : Nat} {Q : State → Prop}
variable {mc ms : Nat} {free : Addr → Prop} {A0 A1 : Nat → Prop} {H0 : Heap} {a : Array Value} {pc : Nat} {ls : Array Slot} {st0 rest : List Value}
theorem vx_keep {st₀ t T' : State} {L : List Loc} (h0 : st₀.heap = H) (e1 : T'.heap = t.heap) (hS : va_S A0 H0 H locs) (hA : ∀ q, q < H.size → A1 q → A0 q) (hf : ∀ q, free q → A0 q) (hL : ∀ q ∈ L, free q.base) (hF : va_F A1 st₀ t) :
    H.size ≤ T'.heap.size ∧ (∀ q : Nat, q < H.size → ¬ A1 q → T'.heap[q]? = H[q]?) ∧ va_S A0 H0 T'.heap (locs ++ L) := by
  obtain ⟨hz, hk⟩ := hF
  rw [h0] at hz hk
  exact ⟨by rw [e1]; exact hz, fun q h1 h2 => by rw [e1]; exact hk q h1 h2,
    ⟨Nat.le_trans hS.1 (by rw [e1]; exact hz), fun q h1 h2 => by rw [e1, hk q (Nat.lt_of_lt_of_le h1 hS.1) (fun z => h2 (hA q (Nat.lt_of_lt_of_le h1 hS.1) z))]; exact hS.2.1 q h1 h2, fun q hq => by
      rcases List.mem_append.mp hq with h | h
      · exact hS.2.2 q h
      · exact hf _ (hL q h)⟩⟩
theorem vx_calli {S SX : Type} {post : Int32 → S → Prop} {px : SX → Prop} {B : S → State → Prop} {BX : String → SX → State → Prop} {AX : Nat → Prop} (hr : vx_Run p l e R s m args below meth c H locs cells slots mc ms (F0 m pc ls st0) rest (va_Qi post B A1 a) (vx_X px BX AX) free) (hS : va_S A0 H0 H locs) (hA : ∀ q, q < H.size → A1 q → A0 q) (hf : ∀ q, free q → A0 q) (hAX : ∀ q, q < H.size → AX q → A0 q)
    (kx : ∀ (E : String) (ce : Cell) (q9 : Addr) (u : SX) (t : State) (H1 : Heap) (locs1 : List Loc), t.heap = H1 → s.vm.Alike t.vm → px u → BX E u t → H.size ≤ H1.size → (∀ q : Nat, q < H.size → ¬ AX q → H1[q]? = H[q]?) → va_S A0 H0 H1 locs1 → H1[q9]? = some ce → ce.vm = .none → s.vm.findClass E = some ce.cls → vx_W p l e R s m args below meth c H1 locs1 (cells + mc) (slots + ms) Q (F0 m pc ls rest) q9)
    (kk : ∀ (r : Int32) (u : S) (t : State) (H1 : Heap) (locs1 : List Loc), t.heap = H1 → s.vm.Alike t.vm → post r u → B u t → H.size ≤ H1.size → (∀ q : Nat, q < H.size → ¬ A1 q → H1[q]? = H[q]?) → va_S A0 H0 H1 locs1 → W p l e R s m args below meth c H1 locs1 (cells + mc) (slots + ms) Q (F0 m (pc + 3) ls (.int r :: rest))) : W p l e R s m args below meth c H locs cells slots Q (F0 m pc ls st0) := by
  intro T hT X
  rcases hr T hT X with ⟨v, st₀, t, T', L, h0, X', hL, e1, e2, ⟨⟨r, u, hv, hp, hb⟩, hF⟩, st⟩ | ⟨q, st₀, t, T', L, E, ce, h0, X', hL, e1, e2, ⟨u, hp, hb, hF⟩, hce, hcv, hcl, st⟩
  · cases hv
    obtain ⟨k1, k2, k3⟩ := vx_keep h0 e1 hS hA hf hL hF
    obtain ⟨t2, a1, b1⟩ := kk r u t T'.heap (locs ++ L) e1.symm (by rw [← e2]; exact X'.warmed.alike) hp hb k1 k2 k3 T' rfl X'
    exact ⟨t2, st t2 a1, b1⟩
  · obtain ⟨k1, k2, k3⟩ := vx_keep h0 e1 hS hAX hf hL hF
    obtain ⟨t2, a1, b1⟩ := kx E ce q u t T'.heap (locs ++ L) e1.symm (by rw [← e2]; exact X'.warmed.alike) hp hb k1 k2 k3 (by rw [e1]; exact hce) hcv hcl T' rfl X'
    exact ⟨t2, st.trans a1, b1⟩
theorem vx_calll {S SX : Type} {post : Int64 → S → Prop} {px : SX → Prop} {B : S → State → Prop} {BX : String → SX → State → Prop} {AX : Nat → Prop} (hr : vx_Run p l e R s m args below meth c H locs cells slots mc ms (F0 m pc ls st0) rest (va_Ql post B A1 a) (vx_X px BX AX) free) (hS : va_S A0 H0 H locs) (hA : ∀ q, q < H.size → A1 q → A0 q) (hf : ∀ q, free q → A0 q) (hAX : ∀ q, q < H.size → AX q → A0 q)
    (kx : ∀ (E : String) (ce : Cell) (q9 : Addr) (u : SX) (t : State) (H1 : Heap) (locs1 : List Loc), t.heap = H1 → s.vm.Alike t.vm → px u → BX E u t → H.size ≤ H1.size → (∀ q : Nat, q < H.size → ¬ AX q → H1[q]? = H[q]?) → va_S A0 H0 H1 locs1 → H1[q9]? = some ce → ce.vm = .none → s.vm.findClass E = some ce.cls → vx_W p l e R s m args below meth c H1 locs1 (cells + mc) (slots + ms) Q (F0 m pc ls rest) q9)
    (kk : ∀ (r : Int64) (u : S) (t : State) (H1 : Heap) (locs1 : List Loc), t.heap = H1 → s.vm.Alike t.vm → post r u → B u t → H.size ≤ H1.size → (∀ q : Nat, q < H.size → ¬ A1 q → H1[q]? = H[q]?) → va_S A0 H0 H1 locs1 → W p l e R s m args below meth c H1 locs1 (cells + mc) (slots + ms) Q (F0 m (pc + 3) ls (.long r :: rest))) : W p l e R s m args below meth c H locs cells slots Q (F0 m pc ls st0) := by
  intro T hT X
  rcases hr T hT X with ⟨v, st₀, t, T', L, h0, X', hL, e1, e2, ⟨⟨r, u, hv, hp, hb⟩, hF⟩, st⟩ | ⟨q, st₀, t, T', L, E, ce, h0, X', hL, e1, e2, ⟨u, hp, hb, hF⟩, hce, hcv, hcl, st⟩
  · cases hv
    obtain ⟨k1, k2, k3⟩ := vx_keep h0 e1 hS hA hf hL hF
    obtain ⟨t2, a1, b1⟩ := kk r u t T'.heap (locs ++ L) e1.symm (by rw [← e2]; exact X'.warmed.alike) hp hb k1 k2 k3 T' rfl X'
    exact ⟨t2, st t2 a1, b1⟩
  · obtain ⟨k1, k2, k3⟩ := vx_keep h0 e1 hS hAX hf hL hF
    obtain ⟨t2, a1, b1⟩ := kx E ce q u t T'.heap (locs ++ L) e1.symm (by rw [← e2]; exact X'.warmed.alike) hp hb k1 k2 k3 (by rw [e1]; exact hce) hcv hcl T' rfl X'
    exact ⟨t2, st.trans a1, b1⟩
theorem vx_callf {S SX : Type} {post : UInt32 → S → Prop} {px : SX → Prop} {B : S → State → Prop} {BX : String → SX → State → Prop} {AX : Nat → Prop} (hr : vx_Run p l e R s m args below meth c H locs cells slots mc ms (F0 m pc ls st0) rest (va_Qf post B A1 a) (vx_X px BX AX) free) (hS : va_S A0 H0 H locs) (hA : ∀ q, q < H.size → A1 q → A0 q) (hf : ∀ q, free q → A0 q) (hAX : ∀ q, q < H.size → AX q → A0 q)
    (kx : ∀ (E : String) (ce : Cell) (q9 : Addr) (u : SX) (t : State) (H1 : Heap) (locs1 : List Loc), t.heap = H1 → s.vm.Alike t.vm → px u → BX E u t → H.size ≤ H1.size → (∀ q : Nat, q < H.size → ¬ AX q → H1[q]? = H[q]?) → va_S A0 H0 H1 locs1 → H1[q9]? = some ce → ce.vm = .none → s.vm.findClass E = some ce.cls → vx_W p l e R s m args below meth c H1 locs1 (cells + mc) (slots + ms) Q (F0 m pc ls rest) q9)
    (kk : ∀ (r : UInt32) (u : S) (t : State) (H1 : Heap) (locs1 : List Loc), t.heap = H1 → s.vm.Alike t.vm → post r u → B u t → H.size ≤ H1.size → (∀ q : Nat, q < H.size → ¬ A1 q → H1[q]? = H[q]?) → va_S A0 H0 H1 locs1 → W p l e R s m args below meth c H1 locs1 (cells + mc) (slots + ms) Q (F0 m (pc + 3) ls (.float r :: rest))) : W p l e R s m args below meth c H locs cells slots Q (F0 m pc ls st0) := by
  intro T hT X
  rcases hr T hT X with ⟨v, st₀, t, T', L, h0, X', hL, e1, e2, ⟨⟨r, u, hv, hp, hb⟩, hF⟩, st⟩ | ⟨q, st₀, t, T', L, E, ce, h0, X', hL, e1, e2, ⟨u, hp, hb, hF⟩, hce, hcv, hcl, st⟩
  · cases hv
    obtain ⟨k1, k2, k3⟩ := vx_keep h0 e1 hS hA hf hL hF
    obtain ⟨t2, a1, b1⟩ := kk r u t T'.heap (locs ++ L) e1.symm (by rw [← e2]; exact X'.warmed.alike) hp hb k1 k2 k3 T' rfl X'
    exact ⟨t2, st t2 a1, b1⟩
  · obtain ⟨k1, k2, k3⟩ := vx_keep h0 e1 hS hAX hf hL hF
    obtain ⟨t2, a1, b1⟩ := kx E ce q u t T'.heap (locs ++ L) e1.symm (by rw [← e2]; exact X'.warmed.alike) hp hb k1 k2 k3 (by rw [e1]; exact hce) hcv hcl T' rfl X'
    exact ⟨t2, st.trans a1, b1⟩
theorem vx_calld {S SX : Type} {post : UInt64 → S → Prop} {px : SX → Prop} {B : S → State → Prop} {BX : String → SX → State → Prop} {AX : Nat → Prop} (hr : vx_Run p l e R s m args below meth c H locs cells slots mc ms (F0 m pc ls st0) rest (va_Qd post B A1 a) (vx_X px BX AX) free) (hS : va_S A0 H0 H locs) (hA : ∀ q, q < H.size → A1 q → A0 q) (hf : ∀ q, free q → A0 q) (hAX : ∀ q, q < H.size → AX q → A0 q)
    (kx : ∀ (E : String) (ce : Cell) (q9 : Addr) (u : SX) (t : State) (H1 : Heap) (locs1 : List Loc), t.heap = H1 → s.vm.Alike t.vm → px u → BX E u t → H.size ≤ H1.size → (∀ q : Nat, q < H.size → ¬ AX q → H1[q]? = H[q]?) → va_S A0 H0 H1 locs1 → H1[q9]? = some ce → ce.vm = .none → s.vm.findClass E = some ce.cls → vx_W p l e R s m args below meth c H1 locs1 (cells + mc) (slots + ms) Q (F0 m pc ls rest) q9)
    (kk : ∀ (r : UInt64) (u : S) (t : State) (H1 : Heap) (locs1 : List Loc), t.heap = H1 → s.vm.Alike t.vm → post r u → B u t → H.size ≤ H1.size → (∀ q : Nat, q < H.size → ¬ A1 q → H1[q]? = H[q]?) → va_S A0 H0 H1 locs1 → W p l e R s m args below meth c H1 locs1 (cells + mc) (slots + ms) Q (F0 m (pc + 3) ls (.double r :: rest))) : W p l e R s m args below meth c H locs cells slots Q (F0 m pc ls st0) := by
  intro T hT X
  rcases hr T hT X with ⟨v, st₀, t, T', L, h0, X', hL, e1, e2, ⟨⟨r, u, hv, hp, hb⟩, hF⟩, st⟩ | ⟨q, st₀, t, T', L, E, ce, h0, X', hL, e1, e2, ⟨u, hp, hb, hF⟩, hce, hcv, hcl, st⟩
  · cases hv
    obtain ⟨k1, k2, k3⟩ := vx_keep h0 e1 hS hA hf hL hF
    obtain ⟨t2, a1, b1⟩ := kk r u t T'.heap (locs ++ L) e1.symm (by rw [← e2]; exact X'.warmed.alike) hp hb k1 k2 k3 T' rfl X'
    exact ⟨t2, st t2 a1, b1⟩
  · obtain ⟨k1, k2, k3⟩ := vx_keep h0 e1 hS hAX hf hL hF
    obtain ⟨t2, a1, b1⟩ := kx E ce q u t T'.heap (locs ++ L) e1.symm (by rw [← e2]; exact X'.warmed.alike) hp hb k1 k2 k3 (by rw [e1]; exact hce) hcv hcl T' rfl X'
    exact ⟨t2, st.trans a1, b1⟩
theorem vx_callv {S SX : Type} {post : S → Prop} {px : SX → Prop} {B : S → State → Prop} {BX : String → SX → State → Prop} {AX : Nat → Prop} (hr : vx_Run p l e R s m args below meth c H locs cells slots mc ms (F0 m pc ls st0) rest (va_Qv post B A1 a) (vx_X px BX AX) free) (hS : va_S A0 H0 H locs) (hA : ∀ q, q < H.size → A1 q → A0 q) (hf : ∀ q, free q → A0 q) (hAX : ∀ q, q < H.size → AX q → A0 q)
    (kx : ∀ (E : String) (ce : Cell) (q9 : Addr) (u : SX) (t : State) (H1 : Heap) (locs1 : List Loc), t.heap = H1 → s.vm.Alike t.vm → px u → BX E u t → H.size ≤ H1.size → (∀ q : Nat, q < H.size → ¬ AX q → H1[q]? = H[q]?) → va_S A0 H0 H1 locs1 → H1[q9]? = some ce → ce.vm = .none → s.vm.findClass E = some ce.cls → vx_W p l e R s m args below meth c H1 locs1 (cells + mc) (slots + ms) Q (F0 m pc ls rest) q9)
    (kk : ∀ (u : S) (t : State) (H1 : Heap) (locs1 : List Loc), t.heap = H1 → s.vm.Alike t.vm → post u → B u t → H.size ≤ H1.size → (∀ q : Nat, q < H.size → ¬ A1 q → H1[q]? = H[q]?) → va_S A0 H0 H1 locs1 → W p l e R s m args below meth c H1 locs1 (cells + mc) (slots + ms) Q (F0 m (pc + 3) ls (rest))) : W p l e R s m args below meth c H locs cells slots Q (F0 m pc ls st0) := by
  intro T hT X
  rcases hr T hT X with ⟨v, st₀, t, T', L, h0, X', hL, e1, e2, ⟨⟨u, hv, hp, hb⟩, hF⟩, st⟩ | ⟨q, st₀, t, T', L, E, ce, h0, X', hL, e1, e2, ⟨u, hp, hb, hF⟩, hce, hcv, hcl, st⟩
  · cases hv
    obtain ⟨k1, k2, k3⟩ := vx_keep h0 e1 hS hA hf hL hF
    obtain ⟨t2, a1, b1⟩ := kk u t T'.heap (locs ++ L) e1.symm (by rw [← e2]; exact X'.warmed.alike) hp hb k1 k2 k3 T' rfl X'
    exact ⟨t2, st t2 a1, b1⟩
  · obtain ⟨k1, k2, k3⟩ := vx_keep h0 e1 hS hAX hf hL hF
    obtain ⟨t2, a1, b1⟩ := kx E ce q u t T'.heap (locs ++ L) e1.symm (by rw [← e2]; exact X'.warmed.alike) hp hb k1 k2 k3 (by rw [e1]; exact hce) hcv hcl T' rfl X'
    exact ⟨t2, st.trans a1, b1⟩
/-- caught by the row x of this method's table; the rows ahead don't take it -/
theorem vx_catch {own name : String} {E : String} {ce : Cell} {q : Addr} (hown : s.vm.findClass own = some m.cls) (pre : List ExceptionTableEntry) (x : ExceptionTableEntry) (suf : List ExceptionTableEntry) (hsplit : c.exceptionTable.toList = pre ++ x :: suf)
    (hpass : ∀ z ∈ pre, covers z pc = false ∨ (z.catchType ≠ 0 ∧ ∃ nm : String, (Cond.classLink own z.catchType nm).before args s = true ∧ va_Nc E nm s)) (hx : covers x pc = true) (h0 : x.catchType ≠ 0)
    (hlink : (Cond.classLink own x.catchType name).before args s = true) (hcast : (Cond.castable E name).before args s = true) (hcell : H[q]? = some ce) (hv : ce.vm = .none) (hcl : s.vm.findClass E = some ce.cls)
    (kk : W p l e R s m args below meth c H locs cells slots Q (F0 m x.handlerPc ls [.ref q])) : vx_W p l e R s m args below meth c H locs cells slots Q (F0 m pc ls rest) q := by
  intro T hT X
  have hpl : e.platform.magicAccessors = ({} : Platform).magicAccessors := by rw [X.admits.platform]
  obtain ⟨c3, c4, hc3, hc4, hasg⟩ := Cond.castable_spec hcast
  cases Option.some.inj (hc3.symm.trans hcl)
  obtain ⟨c5, hc5, hcl5⟩ := Cond.classLink_spec hown hlink e.platform hpl
  cases Option.some.inj (hc4.symm.trans hc5)
  obtain ⟨vm', X', st⟩ := X.thenCaughtThrough q (g := F0 m pc ls rest) rfl (Steps.refl _) (by rw [hT]; exact hcell) (by rw [hv]; rfl) (by obtain ⟨k9, h9, -⟩ := Vm.findClass_spec hcl; exact ⟨k9, h9⟩) pre x suf hsplit
    (fun z hz => by
      rcases hpass z hz with h | ⟨hz0, nm, hl1, hn1⟩
      · exact Or.inl h
      · obtain ⟨c6, hc6, hcl6⟩ := Cond.classLink_spec hown hl1 e.platform hpl
        obtain ⟨a8, b8, h1, h2, h3⟩ := hn1
        cases Option.some.inj (h1.symm.trans hcl)
        cases Option.some.inj (h2.symm.trans hc6)
        exact Or.inr ⟨hz0, _, hcl6, h3⟩) hx (Or.inr ⟨h0, c4, hcl5, hasg⟩)
  obtain ⟨t, a1, b1⟩ := kk (T.setVm vm') hT X'
  exact ⟨t, st.trans a1, b1⟩
end Rows
section Ends
variable {p : Program} {l : Launch} {e : Env} {R : Room} {s : State} {m : MethodId} {args : Array Value} {below : List Frame} {meth : Method} {c : Code} {H : Heap} {locs : List Loc} {cells slots : Nat} {Q : State → Prop}
variable {mc ms : Nat} {free : Addr → Prop} {A0 A1 : Nat → Prop} {H0 : Heap} {a : Array Value} {ls : Array Slot} {st0 rest : List Value}
variable {Qc : Array Value → State → Outcome → State → Prop} {XC : String → State → State → Prop}
/-- what a body that may throw owes at its end -/
def vx_MQ (below : List Frame) (Qc : Array Value → State → Outcome → State → Prop) (XC : String → State → State → Prop) (a : Array Value) (s : State) (mc ms : Nat) (free : Addr → Prop) : State → Prop := fun t =>
  ∃ o, t.status = .running ∧ Ended t below o ∧ vx_Q Qc XC mc ms free a s o t
theorem vx_ret {g : JFrame} {mc ms : Nat} (k : W p l e R s m args below meth c H locs cells slots (MQ below Qc args s mc ms free) g) : W p l e R s m args below meth c H locs cells slots (vx_MQ below Qc XC args s mc ms free) g := by
  intro T hT X
  obtain ⟨t, a1, o, b1, b2, b3, b4⟩ := k T hT X
  exact ⟨t, a1, o, b1, b2, Or.inl ⟨b3, b4⟩⟩
/-- not caught here: it goes on to the caller -/
theorem vx_widen {g : JFrame} {q : Addr} {k n : Nat} (h1 : cells ≤ k) (h2 : slots ≤ n) (kk : vx_W p l e R s m args below meth c H locs k n Q g q) : vx_W p l e R s m args below meth c H locs cells slots Q g q := fun T hT X => kk T hT (stand_widen X h1 h2)
theorem vx_out {pc : Nat} {E : String} {ce : Cell} {q : Addr} {mc ms : Nat} (hout : ∀ x ∈ c.exceptionTable.toList, covers x pc = false) (hlocks : meth.locks = false) (hcell : H[q]? = some ce) (hv : ce.vm = .none) (hcl : s.vm.findClass E = some ce.cls)
    (hx : ∀ t : State, t.heap = H → s.vm.Alike t.vm → XC E s t) (hf : ∀ z ∈ locs, free z.base) (hc : cells ≤ mc) (hs : slots ≤ ms) :
    vx_W p l e R s m args below meth c H locs cells slots (vx_MQ below Qc XC args s mc ms free) (F0 m pc ls rest) q := by
  intro T hT X
  obtain ⟨st1, hrun, hend, hW, hsm⟩ := X.leaveThrown q (g := F0 m pc ls rest) rfl rfl rfl hout hlocks
  have hcell9 : (T.setFrames (.throwing q :: below)).heap[q]? = some ce := by
    show T.heap[q]? = some ce
    rw [hT]; exact hcell
  exact ⟨_, st1, .threw q, hrun, hend, Or.inr ⟨q, rfl, E, ce, locs, hx _ hT hW.alike, hcell9, hv, hcl, hW, hsm.mono hc hs, hf⟩⟩
theorem vx_frame {U : State} {k n : Nat} (h : s.sameButNew ({ U with vm := s.vm } : State) locs k n) : s.heap.size ≤ U.heap.size ∧ ∀ q : Nat, q < s.heap.size → (∀ z ∈ locs, z.base ≠ q) → U.heap[q]? = s.heap[q]? := by
  obtain ⟨-, h2, -, -, -, h6⟩ := h
  refine ⟨h2, fun q hq hz => ?_⟩
  obtain ⟨c9, e1, e2, e3, e4⟩ := h6 q _ (Array.getElem?_eq_getElem hq)
  have hs : c9.slots = (s.heap[q]).slots := Array.ext_getElem? fun i => e4 i fun hm => hz _ hm rfl
  have h9 : c9 = s.heap[q] := by
    rw [hs] at e2
    exact e2
  have e5 : U.heap[q]? = some c9 := e1
  rw [e5, h9, Array.getElem?_eq_getElem hq]
/-- the words of a throw but the four that speak of the heap -/
def vx_no (w : Cond) : Bool := decide (w ≠ .isRef (.static Bundle.tN "UNASSIGNED_STACK" Bundle.steD)) && decide (w ≠ .isRef (.static Bundle.tN "SUPPRESSED_SENTINEL" Bundle.listD)) && decide (w ≠ .laysStatic Bundle.tN "UNASSIGNED_STACK" Bundle.steD) && decide (w ≠ .laysStatic Bundle.tN "SUPPRESSED_SENTINEL" Bundle.listD)
def vx_at0 (own : String) (ic : Nat) (X : String) (names : List String) : List Cond := (Bundle.ownAtoms0 own ic X names).filter vx_no
def vx_atS (own : String) (ic : Nat) (X : String) (names : List String) : List Cond := (Bundle.ownAtoms own ic X names).filter vx_no
/-- a word that the tables alone decide, or a good one -/
def vx_ot (w : Cond) : Bool := w.onTables || goodWord w
theorem vx_ot_at {args a' : Array Value} {s U : State} {w : Cond} (hW : s.WarmedH U.vm) (hvm : s.vm = U.vm) (hg : vx_ot w = true) (h : w.before args s = true) : w.before a' U = true := by
  simp only [vx_ot, Bool.or_eq_true] at hg
  rcases hg with hg | hg
  · exact va_tabs hg hvm h
  · exact word_at hW (good_of_word hg) h
/-- a list's words: the good ones out of the method's own list, the others by premises of their own -/
theorem vx_hat {args : Array Value} {s : State} {L B : List Cond} (h1 : ∀ w ∈ L.filter goodWord, w.before args s = true) (h2 : ∀ w ∈ L.filter (fun w => !goodWord w), w ∈ B) (h3 : ∀ w ∈ B, w.before args s = true) : ∀ w ∈ L, w.before args s = true := by
  intro w hw
  by_cases g : goodWord w = true
  · exact h1 w (List.mem_filter.mpr ⟨hw, g⟩)
  · refine h3 w (h2 w (List.mem_filter.mpr ⟨hw, ?_⟩))
    show (!goodWord w) = true
    cases hgw : goodWord w
    · rfl
    · exact absurd hgw g
theorem vx_c {args : Array Value} {s : State} {w : Cond} {B : List Cond} (h : w.before args s = true) (t : ∀ w ∈ B, w.before args s = true) : ∀ w' ∈ w :: B, w'.before args s = true := fun w' h' => (List.mem_cons.mp h').elim (fun e => by rw [e]; exact h) (t w')
theorem vx_n {args : Array Value} {s : State} : ∀ w ∈ ([] : List Cond), w.before args s = true := fun _ h => nomatch h
theorem vx_own {args : Array Value} {s : State} {L : List Cond} (h1 : ∀ w ∈ L.filter vx_no, w.before args s = true)
    (hU : (Cond.isRef (.static Bundle.tN "UNASSIGNED_STACK" Bundle.steD)).before args s = true) (hN : (Cond.isRef (.static Bundle.tN "SUPPRESSED_SENTINEL" Bundle.listD)).before args s = true)
    (lU : (Cond.laysStatic Bundle.tN "UNASSIGNED_STACK" Bundle.steD).before args s = true) (lN : (Cond.laysStatic Bundle.tN "SUPPRESSED_SENTINEL" Bundle.listD).before args s = true) : ∀ w ∈ L, w.before args s = true := by
  intro w hw
  by_cases e1 : w = .isRef (.static Bundle.tN "UNASSIGNED_STACK" Bundle.steD)
  · rw [e1]; exact hU
  · by_cases e2 : w = .isRef (.static Bundle.tN "SUPPRESSED_SENTINEL" Bundle.listD)
    · rw [e2]; exact hN
    · by_cases e3 : w = .laysStatic Bundle.tN "UNASSIGNED_STACK" Bundle.steD
      · rw [e3]; exact lU
      · by_cases e4 : w = .laysStatic Bundle.tN "SUPPRESSED_SENTINEL" Bundle.listD
        · rw [e4]; exact lN
        · exact h1 w (List.mem_filter.mpr ⟨hw, by unfold vx_no; rw [decide_eq_true e1, decide_eq_true e2, decide_eq_true e3, decide_eq_true e4]; rfl⟩)
/-- where a static field lies, its class's statics cell in H -/
def vx_L (C n d : String) (A : Nat → Prop) (U : State) (H : Heap) : Prop := ∃ (c : ClassId) (k : Class) (i : Nat) (f : Field) (a : Nat) (cell : Cell), U.vm.findClass C = some c ∧ U.fieldFound? C n d = some (c, k, i, f) ∧ f.isStatic = true ∧ k.statics = some a ∧ H[a]? = some cell ∧ cell.vm.isStatics = true ∧ cell.cls = c ∧ f.slot < cell.slots.size ∧ k.staticTypes[f.slot]? = some f.type ∧ ¬ A a
theorem vx_L.moved {C n d : String} {A : Nat → Prop} {u U : State} {H : Heap} (hvm : u.vm.Alike U.vm) (h : vx_L C n d A u H) : vx_L C n d A U H := by
  obtain ⟨c, k, i, f, a, cell, h1, h2, h3, h4, h5, h6, h7, h8, h9, h10⟩ := h
  obtain ⟨k', hi', he⟩ := State.fieldFound?_setVm hvm h2
  exact ⟨c, k', i, f, a, cell, by rw [hvm.findClass]; exact h1, hi', h3, by rw [he]; exact h4, h5, h6, h7, h8, by rw [he]; exact h9, h10⟩
theorem vx_L.kept {C n d : String} {A : Nat → Prop} {U : State} {H H1 : Heap} (h : vx_L C n d A U H) (hq : ∀ a : Nat, a < H.size → ¬ A a → H1[a]? = H[a]?) : vx_L C n d A U H1 := by
  obtain ⟨c, k, i, f, a, cell, h1, h2, h3, h4, h5, h6, h7, h8, h9, h10⟩ := h
  exact ⟨c, k, i, f, a, cell, h1, h2, h3, h4, by rw [hq a (Array.getElem?_eq_some_iff.mp h5).1 h10]; exact h5, h6, h7, h8, h9, h10⟩
theorem vx_L.narrow {C n d : String} {A B : Nat → Prop} {U : State} {H : Heap} (h : vx_L C n d A U H) (hAB : ∀ q, B q → A q) : vx_L C n d B U H := by
  obtain ⟨c, k, i, f, a, cell, h1, h2, h3, h4, h5, h6, h7, h8, h9, h10⟩ := h
  exact ⟨c, k, i, f, a, cell, h1, h2, h3, h4, h5, h6, h7, h8, h9, fun z => h10 (hAB _ z)⟩
theorem vx_L.word {C n d : String} {A : Nat → Prop} {s : State} {args : Array Value} (h : vx_L C n d A s s.heap) : (Cond.laysStatic C n d).before args s = true := by
  obtain ⟨c, k, i, f, a, cell, h1, h2, h3, h4, h5, h6, h7, h8, h9, -⟩ := h
  show (Cond.laysStatic C n d).holds args s none s [] = true
  exact Cond.laysStatic_of h1 h2 h3 h4 h5 h6 h7 h8 h9
/-- .. and what it holds: null or some reference -/
def vx_Zq (C n d : String) (A : Nat → Prop) (U : State) (H : Heap) : Prop := va_Zq C n d A U H ∧ vx_L C n d A U H
theorem vx_Zq.moved {C n d : String} {A : Nat → Prop} {u U : State} {H : Heap} (hvm : u.vm.Alike U.vm) (h : vx_Zq C n d A u H) : vx_Zq C n d A U H := ⟨va_Zq.moved hvm h.1, vx_L.moved hvm h.2⟩
theorem vx_Zq.kept {C n d : String} {A : Nat → Prop} {U : State} {H H1 : Heap} (h : vx_Zq C n d A U H) (hq : ∀ a : Nat, a < H.size → ¬ A a → H1[a]? = H[a]?) : vx_Zq C n d A U H1 := ⟨va_Zq.kept h.1 hq, vx_L.kept h.2 hq⟩
theorem vx_Zq.narrow {C n d : String} {A B : Nat → Prop} {U : State} {H : Heap} (h : vx_Zq C n d A U H) (hAB : ∀ q, B q → A q) : vx_Zq C n d B U H := ⟨va_Zq.narrow h.1 hAB, vx_L.narrow h.2 hAB⟩
theorem vx_Zqof {args : Array Value} {s : State} {C n d : String} {A : Nat → Prop} (hl : (Cond.laysStatic C n d).before args s = true) (hini : (Cond.initialized C).before args s = true) (h : (Cond.isRef (.static C n d)).before args s = true) (hA : ∀ a : Nat, a < s.heap.size → ¬ A a) : vx_Zq C n d A s s.heap := by
  refine ⟨va_Zqof hl hini h hA, ?_⟩
  obtain ⟨c, k, i, f, a, cell, h1, h2, h3, h4, h5, h6, h7, h8, h9⟩ := Cond.laysStatic_spec hl
  exact ⟨c, k, i, f, a, cell, h1, h2, h3, h4, h5, h6, h7, h8, h9, hA a (Array.getElem?_eq_some_iff.mp h5).1⟩
theorem vx_isRef {C n d : String} {v : Value} {A : Nat → Prop} {s : State} {args : Array Value} (h : va_Z C n d v A s s.heap) (hv : v.isRef = true) : (Cond.isRef (.static C n d)).before args s = true := by
  obtain ⟨cf, kf, fi, f, a, cell, h1, h2, h3, h4, h5, h6, h7, -⟩ := h
  have he : (Term.static C n d).eval args s none [] s = some v := by
    simp [Term.eval, State.fieldNamed?, h1, h2, h4, h5, h6, h7]
  simp only [Cond.before, Cond.holds, Cond.value, he]
  cases v <;> simp_all [Value.isRef]
theorem vx_isRefq {C n d : String} {A : Nat → Prop} {s : State} {args : Array Value} (h : va_Zq C n d A s s.heap) : (Cond.isRef (.static C n d)).before args s = true := by
  rcases h with h | ⟨t, h⟩
  · exact vx_isRef h rfl
  · exact vx_isRef h rfl
/-- the same frame, seen from here: as if the method were called anew in this heap -/
theorem vx_rebase {T : State} (X : Stand p l e R s m args below meth c T locs cells slots) {R' : Room} (hf : R'.frames ≤ R.frames) (hl : R'.locals ≤ R.locals) (hc : cells + R'.cells ≤ R.cells) (hs : slots + R'.slots ≤ R.slots) :
    Stand p l e R' ((T.setVm s.vm).setFrames (.invoking m args :: below)) m args below meth c T [] 0 0 := by
  have htop : (T.setVm s.vm).topJava?.isSome := X.here.top
  have hF : ((T.setVm s.vm).setFrames (.invoking m args :: below)).frames = .invoking m args :: below := State.frames_setFrames _ (State.cur_lt_of_top htop)
  obtain ⟨g₀, hg0⟩ := Option.isSome_iff_exists.mp htop
  obtain ⟨r, hr⟩ := State.topJava?_eq_some.mp hg0
  have hl9 : e.platform.stackLimits (T.setVm s.vm).me = e.platform.stackLimits s.me := X.limits
  have hb9 : (T.setVm s.vm).me.stackBytes = s.me.stackBytes := X.bytes
  refine ⟨X.admits, X.cas, X.clock, hF, ?_, X.hears, X.method, X.code, X.here, X.tail, X.warmed, ?_, ?_, ?_⟩
  · have h := X.room
    have hU : ((T.setVm s.vm).setFrames (.invoking m args :: below)).localsInUse = s.localsInUse := by
      rw [State.localsInUse_invoking hF (meth := meth) (c := c) X.method X.code, State.localsInUse_invoking X.frames X.method X.code]
    simp only [State.hasRoom, Bool.and_eq_true, decide_eq_true_eq] at h ⊢
    obtain ⟨⟨⟨⟨h1, h2, h3, h4, h5, h6⟩, h7⟩, h8⟩, h9⟩ := h
    rw [X.frames, List.length_cons] at h2 h3
    have q1 := X.heapSize
    have q2 := X.used
    simp only [hF, hU, List.length_cons, State.stackLimits_setFrames, State.stackBytes_setFrames, hl9, hb9]
    refine ⟨⟨⟨⟨by omega, by omega, by omega, by omega, by omega, h6⟩, ?_⟩, ?_⟩, X.book⟩
    · show T.heap.size + R'.cells ≤ e.platform.maxCells
      omega
    · show T.slotsUsed + R'.slots ≤ e.platform.maxSlots
      omega
  · rw [State.stackLimits_setFrames]; rfl
  · rw [State.stackBytes_setFrames]; rfl
  · refine ⟨?_, Nat.le_refl _, Nat.le_refl _, ?_, ?_, fun a c9 h9 => ⟨c9, h9, rfl, rfl, fun _ _ => rfl⟩⟩
    · obtain ⟨t, ht, -⟩ := State.frames_cons hr
      show T.setVm s.vm = { ((T.setVm s.vm).setFrames (.invoking m args :: below)).setFrames (T.setVm s.vm).frames with heap := T.heap, slotsUsed := T.slotsUsed }
      rw [State.setFrames_setFrames, State.setFrames_self ht]
      rfl
    · show T.slotsUsed = T.slotsUsed + ((T.heap.toList.drop T.heap.size).map (·.slots.size)).sum
      rw [List.drop_eq_nil_of_le (Nat.le_of_eq Array.length_toList)]
      rfl
    · show ((T.heap.toList.drop T.heap.size).map (·.slots.size)).sum ≤ 0
      rw [List.drop_eq_nil_of_le (Nat.le_of_eq Array.length_toList)]
      exact Nat.le_refl _
/-- 'throw new E()': new; dup; invokespecial; athrow -/
theorem vx_throw0 {cc : ByteArray} {pc : Nat} (hexec : p.tables.exec = Jvm.exec) (hb : c.code = cc) (hl : l.stackTraces = false) {own cls : String} {names : List String} {ik ic mc ms : Nat} {A : Nat → Prop}
    (hown : s.vm.findClass own = some m.cls) (hcls : Bundle.fit cls = true) (hnames : ∀ n ∈ names, Bundle.fit n = true)
    (hk : (Cond.classLink own ik cls).before args s = true) (hini : (Cond.initialized cls).before args s = true) (hat : ∀ w ∈ vx_at0 own ic cls names, w.before args s = true)
    (hgood : ∀ w ∈ Cond.classLink own ik cls :: Cond.initialized cls :: vx_at0 own ic cls names, vx_ot w = true)
    (hU : vx_Zq Bundle.tN "UNASSIGNED_STACK" Bundle.steD A s s.heap) (hN : vx_Zq Bundle.tN "SUPPRESSED_SENTINEL" Bundle.listD A s s.heap) (hS : va_S A s.heap H locs) (hsize : ls.size = c.maxLocals)
    (d0 : decode cc pc = .ok (.new ik, 3)) (d3 : decode cc (pc + 3) = .ok (.dup, 1)) (d4 : decode cc (pc + 4) = .ok (.invokespecial ic, 3)) (d7 : decode cc (pc + 7) = .ok (.athrow, 1))
    (hout : ∀ x ∈ c.exceptionTable.toList, covers x (pc + 7) = false)
    (hRframes : names.length + 3 < R.frames) (hRlocals : (rest.map fun v => v.category).sum + (13 * (names.length + 1) + 42) ≤ R.locals) (hRcells : cells + 1 ≤ R.cells) (hRslots : slots + 6 ≤ R.slots) (hlocks : meth.locks = false)
    (hx : ∀ t : State, s.vm.Alike t.vm → H.size ≤ t.heap.size → (∀ q : Nat, q < H.size → t.heap[q]? = H[q]?) → XC cls s t)
    (hf : ∀ z ∈ locs, free z.base) (hc : cells + 1 ≤ mc) (hs : slots + 6 ≤ ms) :
    W p l e R s m args below meth c H locs cells slots (vx_MQ below Qc XC args s mc ms free) (F0 m pc ls rest) := by
  intro T hT X
  have htr : e.platform.stackTraces = false := (show e.platform.stackTraces = l.stackTraces by rw [X.admits.platform]).trans hl
  have Y := vx_rebase X (R' := { frames := R.frames, locals := R.locals, cells := 1, slots := 6 }) (Nat.le_refl _) (Nat.le_refl _) hRcells hRslots
  obtain ⟨s', hA⟩ : ∃ z, z = (T.setVm s.vm).setFrames (.invoking m args :: below) := ⟨_, rfl⟩
  rw [← hA] at Y
  have hvm : s'.vm = s.vm := by rw [hA]; rfl
  have hhp : s'.heap = H := by rw [hA]; exact hT
  have hW0 : s.WarmedH s'.vm := by rw [hvm]; exact State.WarmedH.refl s
  have hat' : ∀ w ∈ vx_at0 own ic cls names, w.before args s' = true := fun w hw => vx_ot_at hW0 hvm.symm (hgood w (List.mem_cons_of_mem _ (List.mem_cons_of_mem _ hw))) (hat w hw)
  have hk' : (Cond.classLink own ik cls).before args s' = true := vx_ot_at hW0 hvm.symm (hgood _ List.mem_cons_self) hk
  have hini' : (Cond.initialized cls).before args s' = true := vx_ot_at hW0 hvm.symm (hgood _ (List.mem_cons_of_mem _ List.mem_cons_self)) hini
  have hU' : vx_Zq Bundle.tN "UNASSIGNED_STACK" Bundle.steD A s' s'.heap := by rw [hhp]; exact vx_Zq.moved hW0.alike (hU.kept hS.2.1)
  have hN' : vx_Zq Bundle.tN "SUPPRESSED_SENTINEL" Bundle.listD A s' s'.heap := by rw [hhp]; exact vx_Zq.moved hW0.alike (hN.kept hS.2.1)
  have h : ∀ w ∈ Bundle.ownAtoms0 own ic cls names, w.before args s' = true := vx_own hat' (vx_isRefq hU'.1) (vx_isRefq hN'.1) hU'.2.word hN'.2.word
  have hown' : s'.vm.findClass own = some m.cls := by rw [hvm]; exact hown
  have hins : (Cond.instantiable cls 6).before args s' = true := h _ (by simp [Bundle.ownAtoms0])
  obtain ⟨vm₁, cX, kX, hfX, hkX, -, -, X₁, st1⟩ := Y.newCold hexec (own := own) (C := cls) (index := ik) (n := 6) hown' hk' hins hini'
    (g := F0 m pc ls rest) rfl (by rw [hb]; exact d0) (Nat.le_refl _) (Nat.le_refl _)
  generalize hT1 : (T.setVm vm₁).pushCell { cls := cX, slots := kX.instanceTypes.map defaultValue, vm := .none } = T1 at X₁ st1
  have hcat : (Value.ref T.heap.size).category = 1 := rfl
  have hcellA : T1.heap[T.heap.size]? = some (freshCell cX kX) := by rw [← hT1]; exact State.heap_pushCell_size _ _
  have d3' : decode c.code (pc + 3) = .ok (.dup, 1) := by rw [hb]; exact d3
  obtain ⟨U, hsteps, hrun, hend, hW, hsame, ce, hce, hO⟩ := X₁.ctorThrow0 hexec htr (own := own) (cls := cls) (names := names) (ic := ic) hown' hcls hnames h (fun x hx => nomatch hx) hfX hkX hcellA (by rw [hhp, hT]; exact Nat.le_refl _)
    (g := { method := m, pc := pc + 4, locals := ls, stack := .ref T.heap.size :: .ref T.heap.size :: rest, locked := none }) rfl hsize rfl rfl (rest := rest) rfl
    (by rw [hb]; exact d4) (by rw [hb]; exact d7) hout hRframes (by simp only [List.map_cons, List.sum_cons, hcat]; omega) hlocks
  obtain ⟨f1, f2⟩ := vx_frame hsame
  rw [hhp] at f1 f2
  have hWs : s.WarmedH U.vm := State.WarmedH.trans hW0 hW
  have hcl : s.vm.findClass cls = some ce.cls := by
    have h9 := hO.cls
    rw [hvm] at h9
    exact h9
  have hall : s.sameButNew ({ U with vm := s.vm } : State) locs mc ms := by
    subst hA
    obtain ⟨e1, e2⟩ := hsame
    rw [State.setFrames_setFrames] at e1
    have h2 : (T.setVm s.vm).sameButNew ({ U with vm := s.vm } : State) [] (0 + 1) (0 + 6) := ⟨e1, e2⟩
    have h3 := X.same.trans h2
    rw [List.append_nil] at h3
    exact h3.mono hc hs
  refine ⟨U, ?_, .threw T.heap.size, hrun, hend, Or.inr ⟨T.heap.size, rfl, cls, ce, locs, hx U hWs.alike f1 (fun q hq => f2 q hq (fun z hz => nomatch hz)), hce, hO.vm, hcl, hWs, hall, hf⟩⟩
  refine st1 _ ?_
  show Steps p.tables e below (T1.setTop { method := m, pc := pc + 3, locals := ls, stack := .ref T.heap.size :: rest, locked := none }) _
  jvm_step X₁.here [X₁.here.top, hexec, d3', Value.category]
  exact hsteps
/-- 'throw new E("text")': new; dup; ldc; invokespecial; athrow -/
theorem vx_throwS {cc : ByteArray} {pc : Nat} (hexec : p.tables.exec = Jvm.exec) (hb : c.code = cc) (hl : l.stackTraces = false) {own cls text : String} {names : List String} {ik is ic mc ms sa : Nat} {A : Nat → Prop}
    (hown : s.vm.findClass own = some m.cls) (hcls : Bundle.fit cls = true) (hnames : ∀ n ∈ names, Bundle.fit n = true)
    (hk : (Cond.classLink own ik cls).before args s = true) (hini : (Cond.initialized cls).before args s = true) (hstr : vk_R own is text sa s) (hat : ∀ w ∈ vx_atS own ic cls names, w.before args s = true)
    (hgood : ∀ w ∈ Cond.classLink own ik cls :: Cond.initialized cls :: vx_atS own ic cls names, vx_ot w = true)
    (hU : vx_Zq Bundle.tN "UNASSIGNED_STACK" Bundle.steD A s s.heap) (hN : vx_Zq Bundle.tN "SUPPRESSED_SENTINEL" Bundle.listD A s s.heap) (hS : va_S A s.heap H locs) (hsize : ls.size = c.maxLocals)
    (d0 : decode cc pc = .ok (.new ik, 3)) (d3 : decode cc (pc + 3) = .ok (.dup, 1)) (d4 : decode cc (pc + 4) = .ok (.ldc is, 2)) (d6 : decode cc (pc + 6) = .ok (.invokespecial ic, 3)) (d9 : decode cc (pc + 9) = .ok (.athrow, 1))
    (hout : ∀ x ∈ c.exceptionTable.toList, covers x (pc + 9) = false)
    (hRframes : names.length + 3 < R.frames) (hRlocals : (rest.map fun v => v.category).sum + (13 * (names.length + 1) + 43) ≤ R.locals) (hRcells : cells + 1 ≤ R.cells) (hRslots : slots + 6 ≤ R.slots) (hlocks : meth.locks = false)
    (hx : ∀ t : State, s.vm.Alike t.vm → H.size ≤ t.heap.size → (∀ q : Nat, q < H.size → t.heap[q]? = H[q]?) → XC cls s t)
    (hf : ∀ z ∈ locs, free z.base) (hc : cells + 1 ≤ mc) (hs : slots + 6 ≤ ms) :
    W p l e R s m args below meth c H locs cells slots (vx_MQ below Qc XC args s mc ms free) (F0 m pc ls rest) := by
  intro T hT X
  have htr : e.platform.stackTraces = false := (show e.platform.stackTraces = l.stackTraces by rw [X.admits.platform]).trans hl
  have Y := vx_rebase X (R' := { frames := R.frames, locals := R.locals, cells := 1, slots := 6 }) (Nat.le_refl _) (Nat.le_refl _) hRcells hRslots
  obtain ⟨s', hA⟩ : ∃ z, z = (T.setVm s.vm).setFrames (.invoking m args :: below) := ⟨_, rfl⟩
  rw [← hA] at Y
  have hvm : s'.vm = s.vm := by rw [hA]; rfl
  have hhp : s'.heap = H := by rw [hA]; exact hT
  have hW0 : s.WarmedH s'.vm := by rw [hvm]; exact State.WarmedH.refl s
  have hat' : ∀ w ∈ vx_atS own ic cls names, w.before args s' = true := fun w hw => vx_ot_at hW0 hvm.symm (hgood w (List.mem_cons_of_mem _ (List.mem_cons_of_mem _ hw))) (hat w hw)
  have hk' : (Cond.classLink own ik cls).before args s' = true := vx_ot_at hW0 hvm.symm (hgood _ List.mem_cons_self) hk
  have hini' : (Cond.initialized cls).before args s' = true := vx_ot_at hW0 hvm.symm (hgood _ (List.mem_cons_of_mem _ List.mem_cons_self)) hini
  have hU' : vx_Zq Bundle.tN "UNASSIGNED_STACK" Bundle.steD A s' s'.heap := by rw [hhp]; exact vx_Zq.moved hW0.alike (hU.kept hS.2.1)
  have hN' : vx_Zq Bundle.tN "SUPPRESSED_SENTINEL" Bundle.listD A s' s'.heap := by rw [hhp]; exact vx_Zq.moved hW0.alike (hN.kept hS.2.1)
  have h : ∀ w ∈ Bundle.ownAtoms own ic cls names, w.before args s' = true := vx_own hat' (vx_isRefq hU'.1) (vx_isRefq hN'.1) hU'.2.word hN'.2.word
  have hown' : s'.vm.findClass own = some m.cls := by rw [hvm]; exact hown
  have hins : (Cond.instantiable cls 6).before args s' = true := h _ (by simp [Bundle.ownAtoms])
  obtain ⟨vm₁, cX, kX, hfX, hkX, -, -, X₁, st1⟩ := Y.newCold hexec (own := own) (C := cls) (index := ik) (n := 6) hown' hk' hins hini'
    (g := F0 m pc ls rest) rfl (by rw [hb]; exact d0) (Nat.le_refl _) (Nat.le_refl _)
  generalize hT1 : (T.setVm vm₁).pushCell { cls := cX, slots := kX.instanceTypes.map defaultValue, vm := .none } = T1 at X₁ st1
  have hcat : (Value.ref T.heap.size).category = 1 := rfl
  have hcellA : T1.heap[T.heap.size]? = some (freshCell cX kX) := by rw [← hT1]; exact State.heap_pushCell_size _ _
  have d3' : decode c.code (pc + 3) = .ok (.dup, 1) := by rw [hb]; exact d3
  have d4' : decode c.code (pc + 4) = .ok (.ldc is, 2) := by rw [hb]; exact d4
  have hstr' : vk_R own is text sa s' := vk_R.warm hW0 hstr
  obtain ⟨U, hsteps, hrun, hend, hW, hsame, ce, hce, hO⟩ := X₁.ctorThrowS hexec htr (own := own) (cls := cls) (names := names) (ic := ic) hown' hcls hnames h (fun x hx => nomatch hx) hfX hkX hcellA (by rw [hhp, hT]; exact Nat.le_refl _) (msg := .ref sa) rfl
    (g := { method := m, pc := pc + 6, locals := ls, stack := .ref sa :: .ref T.heap.size :: .ref T.heap.size :: rest, locked := none }) rfl hsize rfl rfl (rest := rest) rfl
    (by rw [hb]; exact d6) (by rw [hb]; exact d9) hout hRframes (by simp only [List.map_cons, List.sum_cons, hcat]; omega) hlocks
  obtain ⟨f1, f2⟩ := vx_frame hsame
  rw [hhp] at f1 f2
  have hWs : s.WarmedH U.vm := State.WarmedH.trans hW0 hW
  have hcl : s.vm.findClass cls = some ce.cls := by
    have h9 := hO.cls
    rw [hvm] at h9
    exact h9
  have hall : s.sameButNew ({ U with vm := s.vm } : State) locs mc ms := by
    subst hA
    obtain ⟨e1, e2⟩ := hsame
    rw [State.setFrames_setFrames] at e1
    have h2 : (T.setVm s.vm).sameButNew ({ U with vm := s.vm } : State) [] (0 + 1) (0 + 6) := ⟨e1, e2⟩
    have h3 := X.same.trans h2
    rw [List.append_nil] at h3
    exact h3.mono hc hs
  refine ⟨U, ?_, .threw T.heap.size, hrun, hend, Or.inr ⟨T.heap.size, rfl, cls, ce, locs, hx U hWs.alike f1 (fun q hq => f2 q hq (fun z hz => nomatch hz)), hce, hO.vm, hcl, hWs, hall, hf⟩⟩
  refine st1 _ ?_
  show Steps p.tables e below (T1.setTop { method := m, pc := pc + 3, locals := ls, stack := .ref T.heap.size :: rest, locked := none }) _
  jvm_step X₁.here [X₁.here.top, hexec, d3', Value.category]
  exact X₁.ldcString hexec (own := own) (text := text) (index := is) (a := sa) hown' hstr'.1 hstr'.2
    (g := { method := m, pc := pc + 4, locals := ls, stack := .ref T.heap.size :: .ref T.heap.size :: rest, locked := none }) rfl d4' _ hsteps
/-- 'throw new E("text")', the text by a wide index -/
theorem vx_throwSW {cc : ByteArray} {pc : Nat} (hexec : p.tables.exec = Jvm.exec) (hb : c.code = cc) (hl : l.stackTraces = false) {own cls text : String} {names : List String} {ik is ic mc ms sa : Nat} {A : Nat → Prop}
    (hown : s.vm.findClass own = some m.cls) (hcls : Bundle.fit cls = true) (hnames : ∀ n ∈ names, Bundle.fit n = true)
    (hk : (Cond.classLink own ik cls).before args s = true) (hini : (Cond.initialized cls).before args s = true) (hstr : vk_R own is text sa s) (hat : ∀ w ∈ vx_atS own ic cls names, w.before args s = true)
    (hgood : ∀ w ∈ Cond.classLink own ik cls :: Cond.initialized cls :: vx_atS own ic cls names, vx_ot w = true)
    (hU : vx_Zq Bundle.tN "UNASSIGNED_STACK" Bundle.steD A s s.heap) (hN : vx_Zq Bundle.tN "SUPPRESSED_SENTINEL" Bundle.listD A s s.heap) (hS : va_S A s.heap H locs) (hsize : ls.size = c.maxLocals)
    (d0 : decode cc pc = .ok (.new ik, 3)) (d3 : decode cc (pc + 3) = .ok (.dup, 1)) (d4 : decode cc (pc + 4) = .ok (.ldc_w is, 3)) (d7 : decode cc (pc + 7) = .ok (.invokespecial ic, 3)) (d10 : decode cc (pc + 10) = .ok (.athrow, 1))
    (hout : ∀ x ∈ c.exceptionTable.toList, covers x (pc + 10) = false)
    (hRframes : names.length + 3 < R.frames) (hRlocals : (rest.map fun v => v.category).sum + (13 * (names.length + 1) + 43) ≤ R.locals) (hRcells : cells + 1 ≤ R.cells) (hRslots : slots + 6 ≤ R.slots) (hlocks : meth.locks = false)
    (hx : ∀ t : State, s.vm.Alike t.vm → H.size ≤ t.heap.size → (∀ q : Nat, q < H.size → t.heap[q]? = H[q]?) → XC cls s t)
    (hf : ∀ z ∈ locs, free z.base) (hc : cells + 1 ≤ mc) (hs : slots + 6 ≤ ms) :
    W p l e R s m args below meth c H locs cells slots (vx_MQ below Qc XC args s mc ms free) (F0 m pc ls rest) := by
  intro T hT X
  have htr : e.platform.stackTraces = false := (show e.platform.stackTraces = l.stackTraces by rw [X.admits.platform]).trans hl
  have Y := vx_rebase X (R' := { frames := R.frames, locals := R.locals, cells := 1, slots := 6 }) (Nat.le_refl _) (Nat.le_refl _) hRcells hRslots
  obtain ⟨s', hA⟩ : ∃ z, z = (T.setVm s.vm).setFrames (.invoking m args :: below) := ⟨_, rfl⟩
  rw [← hA] at Y
  have hvm : s'.vm = s.vm := by rw [hA]; rfl
  have hhp : s'.heap = H := by rw [hA]; exact hT
  have hW0 : s.WarmedH s'.vm := by rw [hvm]; exact State.WarmedH.refl s
  have hat' : ∀ w ∈ vx_atS own ic cls names, w.before args s' = true := fun w hw => vx_ot_at hW0 hvm.symm (hgood w (List.mem_cons_of_mem _ (List.mem_cons_of_mem _ hw))) (hat w hw)
  have hk' : (Cond.classLink own ik cls).before args s' = true := vx_ot_at hW0 hvm.symm (hgood _ List.mem_cons_self) hk
  have hini' : (Cond.initialized cls).before args s' = true := vx_ot_at hW0 hvm.symm (hgood _ (List.mem_cons_of_mem _ List.mem_cons_self)) hini
  have hU' : vx_Zq Bundle.tN "UNASSIGNED_STACK" Bundle.steD A s' s'.heap := by rw [hhp]; exact vx_Zq.moved hW0.alike (hU.kept hS.2.1)
  have hN' : vx_Zq Bundle.tN "SUPPRESSED_SENTINEL" Bundle.listD A s' s'.heap := by rw [hhp]; exact vx_Zq.moved hW0.alike (hN.kept hS.2.1)
  have h : ∀ w ∈ Bundle.ownAtoms own ic cls names, w.before args s' = true := vx_own hat' (vx_isRefq hU'.1) (vx_isRefq hN'.1) hU'.2.word hN'.2.word
  have hown' : s'.vm.findClass own = some m.cls := by rw [hvm]; exact hown
  have hins : (Cond.instantiable cls 6).before args s' = true := h _ (by simp [Bundle.ownAtoms])
  obtain ⟨vm₁, cX, kX, hfX, hkX, -, -, X₁, st1⟩ := Y.newCold hexec (own := own) (C := cls) (index := ik) (n := 6) hown' hk' hins hini'
    (g := F0 m pc ls rest) rfl (by rw [hb]; exact d0) (Nat.le_refl _) (Nat.le_refl _)
  generalize hT1 : (T.setVm vm₁).pushCell { cls := cX, slots := kX.instanceTypes.map defaultValue, vm := .none } = T1 at X₁ st1
  have hcat : (Value.ref T.heap.size).category = 1 := rfl
  have hcellA : T1.heap[T.heap.size]? = some (freshCell cX kX) := by rw [← hT1]; exact State.heap_pushCell_size _ _
  have d3' : decode c.code (pc + 3) = .ok (.dup, 1) := by rw [hb]; exact d3
  have d4' : decode c.code (pc + 4) = .ok (.ldc_w is, 3) := by rw [hb]; exact d4
  have hstr' : vk_R own is text sa s' := vk_R.warm hW0 hstr
  obtain ⟨U, hsteps, hrun, hend, hW, hsame, ce, hce, hO⟩ := X₁.ctorThrowS hexec htr (own := own) (cls := cls) (names := names) (ic := ic) hown' hcls hnames h (fun x hx => nomatch hx) hfX hkX hcellA (by rw [hhp, hT]; exact Nat.le_refl _) (msg := .ref sa) rfl
    (g := { method := m, pc := pc + 7, locals := ls, stack := .ref sa :: .ref T.heap.size :: .ref T.heap.size :: rest, locked := none }) rfl hsize rfl rfl (rest := rest) rfl
    (by rw [hb]; exact d7) (by rw [hb]; exact d10) hout hRframes (by simp only [List.map_cons, List.sum_cons, hcat]; omega) hlocks
  obtain ⟨f1, f2⟩ := vx_frame hsame
  rw [hhp] at f1 f2
  have hWs : s.WarmedH U.vm := State.WarmedH.trans hW0 hW
  have hcl : s.vm.findClass cls = some ce.cls := by
    have h9 := hO.cls
    rw [hvm] at h9
    exact h9
  have hall : s.sameButNew ({ U with vm := s.vm } : State) locs mc ms := by
    subst hA
    obtain ⟨e1, e2⟩ := hsame
    rw [State.setFrames_setFrames] at e1
    have h2 : (T.setVm s.vm).sameButNew ({ U with vm := s.vm } : State) [] (0 + 1) (0 + 6) := ⟨e1, e2⟩
    have h3 := X.same.trans h2
    rw [List.append_nil] at h3
    exact h3.mono hc hs
  refine ⟨U, ?_, .threw T.heap.size, hrun, hend, Or.inr ⟨T.heap.size, rfl, cls, ce, locs, hx U hWs.alike f1 (fun q hq => f2 q hq (fun z hz => nomatch hz)), hce, hO.vm, hcl, hWs, hall, hf⟩⟩
  refine st1 _ ?_
  show Steps p.tables e below (T1.setTop { method := m, pc := pc + 3, locals := ls, stack := .ref T.heap.size :: rest, locked := none }) _
  jvm_step X₁.here [X₁.here.top, hexec, d3', Value.category]
  exact X₁.ldcStringW hexec (own := own) (text := text) (index := is) (a := sa) hown' hstr'.1 hstr'.2
    (g := { method := m, pc := pc + 4, locals := ls, stack := .ref T.heap.size :: .ref T.heap.size :: rest, locked := none }) rfl d4' _ hsteps
end Ends
section Bodies
variable {l : Launch}
theorem vx_ofW {y : MethodName} {ws ws' : List Cond} {rm : Room} {Pc : Array Value → State → Prop} {Qc : Array Value → State → Outcome → State → Prop} {XC : String → State → State → Prop} {mc ms : Nat} {free : Addr → Prop} {cc : ByteArray} {maxL : Nat} {ret : Option FieldType}
    (hy : plainName y.cls = true) (hw : ws = Cond.code y cc maxL ret :: ws')
    (body : ∀ p e s m args below meth c s₁, BodyLoose p l y (headSpec ws rm) cc maxL ret e s m args below meth c s₁ → c.maxLocals = maxL → (∀ x ∈ c.exceptionTable.toList, False) → Pc args s →
      W p l e (headSpec ws rm).room s m args below meth c s.heap [] 0 0 (vx_MQ below Qc XC args s mc ms free) (entryFrame m args maxL)) : vx_Met l y ws rm Pc Qc XC mc ms free := by
  refine MetFree.of_bodyS (code := cc) (maxLocals := maxL) (ret := ret) hy ?_ ?_
  · intro args s m h hn
    obtain ⟨meth, c, h1, h2, h3, h4, h5, h6, -, -⟩ := Cond.code_spec hn (atoms_spec (ws := ws) h _ (by rw [hw]; exact List.mem_cons_self))
    exact ⟨meth, c, h1, h2, h3, h4, h5, h6⟩
  · intro p e s m args below meth c s₁ B hml hP _
    have hh0 : s₁.heap = s.heap := by rw [B.state]; rfl
    have ht : ∀ x ∈ c.exceptionTable.toList, False := by
      obtain ⟨meth9, c9, h1, h2, -, -, -, -, h7, -⟩ := Cond.code_spec B.named (atoms_spec (ws := ws) B.pre _ (by rw [hw]; exact List.mem_cons_self))
      cases Option.some.inj (h1.symm.trans B.method)
      cases Option.some.inj (h2.symm.trans (Stand.of_body B).code)
      intro x hx
      rw [Array.isEmpty_iff.mp h7] at hx
      cases hx
    obtain ⟨t, a1, o, b1, b2, b3⟩ := body p e s m args below meth c s₁ B hml ht hP s₁ hh0 (Stand.of_body B)
    exact ⟨t, o, a1, b1, b2, b3⟩
/-- the table of a body with handlers -/
theorem vx_table {p : Program} {x y : MethodName} {S : Spec} {cc bytes : ByteArray} {maxL maxL' : Nat} {ret ret' : Option FieldType} {e : Env} {s s₁ : State} {m : MethodId} {args : Array Value} {below : List Frame} {meth : Method} {c : Code} {hh : List (Nat × Nat × Nat × Nat)}
    (B : BodyLoose p l y S cc maxL ret e s m args below meth c s₁) (h : (Cond.codeWith y bytes maxL' ret' hh).before args s = true) : c.exceptionTable.toList = tableOf hh := by
  obtain ⟨m9, meth9, c9, hn9, h1, h2, -, -, h6, -⟩ := Cond.codeWith_spec h
  cases Option.some.inj (hn9.symm.trans B.named)
  cases Option.some.inj (h1.symm.trans B.method)
  cases Option.some.inj (h2.symm.trans (Stand.of_body B).code)
  rw [← h6, table_eq]
end Bodies
end VXA
/-! ===== END ===== -/
/-! ===== BEGIN a static call of a method with an exception table ===== -/
section VXS
variable {p : Program} {l : Launch} {e : Env} {R : Room} {s : State} {m : MethodId} {args : Array Value} {below : List Frame} {meth : Method} {c : Code} {T : State} {H : Heap} {locs : List Loc} {cells slots : Nat}
abbrev vx_CSW (R : Room) (s : State) (args : Array Value) (own : String) (index : Nat) (y : MethodName) (bytes : ByteArray) (maxL : Nat) (ret : Option FieldType) (hh : List (Nat × Nat × Nat × Nat)) (ws : List Cond) (rm : Room) (mc ms n : Nat) : Prop :=
  (rm.cells = mc ∧ rm.slots = ms ∧ rm.frames + 1 ≤ R.frames ∧ 8 + (maxL + 11) + rm.locals ≤ R.locals ∧ (∀ w ∈ ws, ∀ (a' : Array Value) (U : State), s.WarmedH U.vm → w.before a' U = true) ∧ Cond.codeWith y bytes maxL ret hh ∈ ws) ∧
  (Cond.codeWith y bytes maxL ret hh).before args s = true ∧ (Cond.initialized y.cls).before args s = true ∧ (y.cls ≠ "java/lang/invoke/MethodHandle" ∧ y.cls ≠ "java/lang/invoke/VarHandle") ∧
  (∀ sig, parseMethodDescriptor y.desc = some sig → n = sig.parameters.length) ∧ (Cond.methodLink own index y).before args s = true ∧ (Cond.static y).before args s = true
theorem vx_cwSW {own : String} {index maxL mc ms : Nat} {y : MethodName} {bytes : ByteArray} {ret : Option FieldType} {hh : List (Nat × Nat × Nat × Nat)} {Ts ws ws' : List Cond} {rm : Room} (n : Nat) (ht : ∀ w ∈ Ts, w.before args s = true) (hT : GoodIn Ts (va_wsS own index y ws)) (hw : ws = Cond.codeWith y bytes maxL ret hh :: ws') (hrc : rm.cells = mc) (hrs : rm.slots = ms)
    (hd : y.cls ≠ "java/lang/invoke/MethodHandle" ∧ y.cls ≠ "java/lang/invoke/VarHandle" ∧ (parseMethodDescriptor y.desc).map (fun d => d.parameters.length) = some n) (hR : rm.frames + 1 ≤ R.frames ∧ 8 + (maxL + 11) + rm.locals ≤ R.locals) :
    vx_CSW R s args own index y bytes maxL ret hh ws rm mc ms n := by
  have ok : ∀ w ∈ va_wsS own index y ws, w.before args s = true := fun w h => ht w (hT w h).1
  have hG : GoodIn Ts ws := fun w h => hT w (by unfold va_wsS; exact List.mem_append_right _ h)
  have hc : Cond.codeWith y bytes maxL ret hh ∈ ws := by rw [hw]; exact List.mem_cons_self
  refine ⟨⟨hrc, hrs, hR.1, hR.2, pay_in ht hG, hc⟩, ht _ (hG _ hc).1, ok _ (by simp [va_wsS]), ⟨hd.1, hd.2.1⟩, fun sig h => ?_, ok _ (by simp [va_wsS]), ok _ (by simp [va_wsS])⟩
  have h2 := hd.2.2
  rw [h] at h2
  exact (Option.some.inj h2).symm
theorem vx_callSW (X : Stand p l e R s m args below meth c T locs cells slots) (hexec : p.tables.exec = Jvm.exec) {own : String} {index : Nat} {y : MethodName} {bytes : ByteArray} {maxL : Nat} {ret : Option FieldType} {hh : List (Nat × Nat × Nat × Nat)}
    (hown : s.vm.findClass own = some m.cls) (hlink : (Cond.methodLink own index y).before args s = true) (hstat : (Cond.static y).before args s = true) (hinit : (Cond.initialized y.cls).before args s = true)
    (hcode : (Cond.codeWith y bytes maxL ret hh).before args s = true) (hy : y.cls ≠ "java/lang/invoke/MethodHandle" ∧ y.cls ≠ "java/lang/invoke/VarHandle")
    {W9 : Nat} {Pre : Pt → Array Value → Prop} {Post : Pt → Array Value → Option Value → Pt → Prop} (hK : Back l R p e below s args y 3 W9 Pre Post)
    {g : JFrame} (hg : g.method = m) (hsize : g.locals.size = c.maxLocals) {argsL rest : List Value} (hlen : ∀ sig, parseMethodDescriptor y.desc = some sig → argsL.length = sig.parameters.length)
    (hstack : g.stack = argsL.reverse ++ rest) (hW : 2 * g.monitorRoom + (rest.map fun v => v.category).sum ≤ W9) (hdg : decode c.code g.pc = .ok (.invokestatic index, 3))
    (hpre : ∀ vm₁, s.WarmedH vm₁ → Pre ⟨T.setVm vm₁, locs, cells, slots⟩ argsL.toArray) :
    ∃ (v : Option Value) (vm₁ : Vm) (B : Pt), s.WarmedH vm₁ ∧ Stand p l e R s m args below meth c B.U B.locs B.cells B.slots ∧ Post ⟨T.setVm vm₁, locs, cells, slots⟩ argsL.toArray v B ∧
      ∀ target, Steps p.tables e below (B.U.setTop { g with pc := g.pc + 3, stack := v.toList ++ rest }) target → Steps p.tables e below (T.setTop g) target := by
  obtain ⟨mk, methM, cM, hnamed, hmethM, -, -, -, -, -, -, hsigM⟩ := Cond.codeWith_spec hcode
  have hstatic : methM.isStatic = true := Cond.static_spec hnamed hmethM hstat
  obtain ⟨kP, hkP, -⟩ := className_of_methodNamed hnamed
  have hinitP : kP.init = .initialized := Cond.initialized_spec (findClass_of_methodNamed hnamed) hkP hinit
  obtain ⟨vm₁, X₁, hstep₁⟩ := X.invokestatic hexec hown hlink hnamed hmethM hstatic hkP hinitP hy (g := g) hg (argsL := argsL) (rest := rest) (hlen _ hsigM) hstack hdg
  obtain ⟨v, B, X', hpost, hsteps⟩ := hK m meth c ⟨T.setVm vm₁, locs, cells, slots⟩ { g with stack := rest } (.invokestatic index) mk argsL.toArray X₁ hg hsize hdg hW (X₁.named hnamed) (hpre vm₁ X₁.warmed)
  exact ⟨v, vm₁, B, X₁.warmed, X', hpost, fun target h => hstep₁ _ fun acts => by rw [doInvoke_state]; exact hsteps.trans h⟩
theorem vx_runSW {y : MethodName} {bytes cc : ByteArray} {maxL nL mc ms n index : Nat} {ret : Option FieldType} {hh : List (Nat × Nat × Nat × Nat)} {ws : List Cond} {rm : Room} {Pc : Array Value → State → Prop} {Qc : Array Value → State → Outcome → State → Prop} {free : Addr → Prop} {Ts : List Cond} {own : String} {As rest : List Value} {g : JFrame}
    (S : CallFix p m c cc nL s args Ts own) (hM : Met l y ws rm Pc Qc mc ms free) (cw : vx_CSW R s args own index y bytes maxL ret hh ws rm mc ms n) (hp : PreS s H Pc As)
    (hg : g.method = m) (hn : As.length = n) (hsize : g.locals.size = nL) (hstack : g.stack = As.reverse ++ rest) (hW : 2 * g.monitorRoom + (rest.map fun v => v.category).sum ≤ 8) (hdg : decode cc g.pc = .ok (.invokestatic index, 3)) (hf : cells + mc ≤ R.cells ∧ slots + ms ≤ R.slots) :
    va_Run p l e R s m args below meth c H locs cells slots mc ms g rest (Qc As.toArray) (free) := by
  obtain ⟨⟨hrc, hrs, hfr, hlo, hws, hcw⟩, hcode, hini, hy, hlen, hl, hstt⟩ := cw
  have hK : Back l R p e below s args y 3 8 (PreOf R mc ms Pc) (PostOf Qc mc ms free) := va_backW (hh := hh) (bytes := bytes) (maxL := maxL) (ret := ret) hM hp.1 hrc hrs hfr hlo hws hcw (fun a' U hW => word_at hW (Or.inl (by first | rfl | simp [Cond.onTables, Cond.keeps, Cond.steady])) hini)
  obtain ⟨hx, hb, hml, ho, -⟩ := S
  intro T hT X
  obtain ⟨v, vm₁, ⟨U', l2, c2, s2⟩, hW₁, X', ⟨g', mk, t, L, e1, e2, hq, h1, hL, h2, h3⟩, st⟩ := vx_callSW X hx (hh := hh) (bytes := bytes) (maxL := maxL) (ret := ret) ho hl hstt hini hcode hy hK hg (hsize.trans hml.symm) (argsL := As) (rest := rest) (fun sig h => hn.trans (hlen sig h)) hstack hW (by rw [hb]; exact hdg)
    (fun vm₁ hW₁ => ⟨hf.1, hf.2, hp.2 (T.setVm vm₁) hT hW₁⟩)
  dsimp only [Pt.U, Pt.locs, Pt.cells, Pt.slots] at X' e1 e2 h1 h2 h3 st
  subst h1; subst h2; subst h3
  exact ⟨v, (T.setVm vm₁).calling g' mk As.toArray, t, U', L, hT, X', hL, e1, e2, hq, st⟩
/-- not caught here, past rows that name other classes: it goes on to the caller -/
theorem vx_outP {p : Program} {l : Launch} {e : Env} {R : Room} {s : State} {m : MethodId} {args : Array Value} {below : List Frame} {meth : Method} {c : Code} {H : Heap} {locs : List Loc} {cells slots : Nat} {free : Addr → Prop} {ls : Array Slot} {rest : List Value} {Qc : Array Value → State → Outcome → State → Prop} {XC : String → State → State → Prop}
    {pc : Nat} {own E : String} {ce : Cell} {q : Addr} {mc ms : Nat} (hown : s.vm.findClass own = some m.cls) (hlocks : meth.locks = false)
    (hpass : ∀ z ∈ c.exceptionTable.toList, covers z pc = false ∨ (z.catchType ≠ 0 ∧ ∃ nm : String, (Cond.classLink own z.catchType nm).before args s = true ∧ va_Nc E nm s)) (hcell : H[q]? = some ce) (hv : ce.vm = .none) (hcl : s.vm.findClass E = some ce.cls)
    (hx : ∀ t : State, t.heap = H → s.vm.Alike t.vm → XC E s t) (hf : ∀ z ∈ locs, free z.base) (hc : cells ≤ mc) (hs : slots ≤ ms) :
    vx_W p l e R s m args below meth c H locs cells slots (vx_MQ below Qc XC args s mc ms free) (F0 m pc ls rest) q := by
  intro T hT X
  have hpl : e.platform.magicAccessors = ({} : Platform).magicAccessors := by rw [X.admits.platform]
  obtain ⟨vm', hW', X', st⟩ := X.outThrough hlocks q (g := F0 m pc ls rest) rfl rfl rfl (cell := ce) (by rw [hT]; exact hcell) (by rw [hv]; rfl)
    (by obtain ⟨k9, h9, -⟩ := Vm.findClass_spec hcl; exact ⟨k9, h9⟩) (fun z hz => by
      rcases hpass z hz with h | ⟨hz0, nm, hl1, hn1⟩
      · exact Or.inl h
      · obtain ⟨c6, hc6, hcl6⟩ := Cond.classLink_spec hown hl1 e.platform hpl
        obtain ⟨a8, b8, h1, h2, h3⟩ := hn1
        cases Option.some.inj (h1.symm.trans hcl)
        cases Option.some.inj (h2.symm.trans hc6)
        exact Or.inr ⟨hz0, _, hcl6, h3⟩)
  obtain ⟨g₀, hfr⟩ := X'.frames_eq
  have hcell9 : ((T.setVm vm').setFrames (.throwing q :: below)).heap[q]? = some ce := by
    show T.heap[q]? = some ce
    rw [hT]; exact hcell
  have hend : Ended ((T.setVm vm').setFrames (.throwing q :: below)) below (.threw q) := State.frames_setFrames _ (State.cur_lt_of_frames hfr)
  refine ⟨(T.setVm vm').setFrames (.throwing q :: below), ?_, .threw q, X'.here.running, hend, Or.inr ⟨q, rfl, E, ce, locs, hx _ hT (X'.ends _).1.alike, hcell9, hv, hcl, (X'.ends _).1, (X'.ends _).2.mono hc hs, hf⟩⟩
  rw [X.pushThrowing_eq]
  exact st
/-- a thing of a world lies in the heap -/
theorem vx_lt {D : va_G} {cl : List vw_C} {ws : va_W} {H1 : Heap} (h : va_P D cl ws H1) {k : Nat} {q : Nat × va_E} (hk : ws[k]? = some q) : q.1 < H1.size := (h k q hk).lt
end VXS
/-! ===== END ===== -/
/-! ===== BEGIN methods with a table of their own: called by a name, returning or throwing ===== -/
section VXH
/-! vx_backW, vx_callVX, vx_callSX, vx_callVW, vx_runVW, vx_runVX, vx_runSX, vx_ofWH follow the same proofs as their sisters above (Free/Laws.lean, Shelf42/LK1.lean); vx_outP calls Shelf42/NT130.lean (outThrough). -/
section
variable {l : Launch} {R : Room} {p : Program} {e : Env} {below : List Frame} {s : State} {sargs : Array Value} {y : MethodName} {len W9 : Nat}
theorem vx_backW {ws : List Cond} {rm : Room} {Pc : Array Value → State → Prop} {Qc : Array Value → State → Outcome → State → Prop} {XC : String → State → State → Prop} {mc ms : Nat} {free : Addr → Prop} {bytes : ByteArray} {maxL : Nat} {ret : Option FieldType} {hh : List (Nat × Nat × Nat × Nat)}
    (hM : vx_Met l y ws rm Pc Qc XC mc ms free) (hblind : FrameBlind Pc) (hrc : rm.cells = mc) (hrs : rm.slots = ms)
    (hframes : rm.frames + 1 ≤ R.frames) (hlocals : W9 + (maxL + 11) + rm.locals ≤ R.locals)
    (hws : ∀ w ∈ ws, ∀ a' U, s.WarmedH U.vm → w.before a' U = true) (hcode : Cond.codeWith y bytes maxL ret hh ∈ ws) (hinit : ∀ a' U, s.WarmedH U.vm → (Cond.initialized y.cls).before a' U = true) :
    vx_Back l R p e below s sargs y len W9 (PreOf R mc ms Pc) (PostOf Qc mc ms free) (vx_Post XC mc ms free) := by
  intro m meth c A g ig mk a X hg hsize hdg hW hn hp
  have h1 : (headSpec ws rm).pre.before a A.U = true := atoms_intro fun w hw => hws w hw _ _ X.warmed
  have h2 : (Cond.codeWith y bytes maxL ret hh).before a A.U = true := hws _ hcode _ _ X.warmed
  have h3 : (Cond.initialized y.cls).before a A.U = true := hinit _ _ X.warmed
  have h4 : A.cells + (headSpec ws rm).room.cells ≤ R.cells := by rw [show (headSpec ws rm).room.cells = mc from hrc]; exact hp.1
  have h5 : A.slots + (headSpec ws rm).room.slots ≤ R.slots := by rw [show (headSpec ws rm).room.slots = ms from hrs]; exact hp.2.1
  have hPc : Pc a (A.U.calling g mk a) := hblind _ _ _ _ hp.2.2
  obtain ⟨U, Ls, c0, s0⟩ := A
  dsimp only [Pt.U, Pt.locs, Pt.cells, Pt.slots] at h1 h2 h3 h4 h5 X hn hPc ⊢
  obtain ⟨m9, methY, cY, hn9, hmY, hcY, -, hlY, -⟩ := Cond.codeWith_spec h2
  cases Option.some.inj (hn9.symm.trans hn)
  obtain ⟨kY, hkY, -⟩ := className_of_methodNamed hn
  have hinitY : kY.init = .initialized := Cond.initialized_spec (findClass_of_methodNamed hn) hkY h3
  have h : At U g.method c below := by rw [hg]; exact X.here
  have hlocals9 : W9 + (maxL + 11) + (headSpec ws rm).room.locals ≤ R.locals := hlocals
  have happ : (headSpec ws rm).appliesLoose y e.platform (U.calling g mk a) = true :=
    Spec.appliesLoose_calling (g := g) h hdg hn hkY hinitY
      (X.room_calling (g := g) (R' := (headSpec ws rm).room) hsize hmY hcY hframes (by rw [hlY]; omega) h4 h5) h1
  obtain ⟨mid, hmid⟩ := h.above
  have hfr : (U.setTop g).frames = (.java g :: mid) ++ below := by rw [State.frames_setTop' g h.top, hmid]; rfl
  obtain ⟨o, s₂, hsteps, -, hend, hq⟩ := Steps.callFree hM p X.admits X.cas X.clock (acts := []) hfr happ hPc trivial
  have hq' : vx_Q Qc XC mc ms free a (U.calling g mk a) o s₂ := hq
  rw [State.frames_setTop' g h.top] at hend
  obtain ⟨g₀, hg0⟩ := Option.isSome_iff_exists.mp h.top
  obtain ⟨r, hr⟩ := State.topJava?_eq_some.mp hg0
  have hr' : (({ U with heap := s₂.heap, slotsUsed := s₂.slotsUsed } : State).setVm s₂.vm).frames = .java g₀ :: r := hr
  rcases hq' with ⟨hqc, L, hfe, hL⟩ | ⟨q, rfl, E, ce, L, hx, hce, hcv, hcl, hW₂, hsm, hL⟩
  · obtain ⟨⟨v, rfl⟩, hW₂, e2, q2, q3, q4, q5, q6⟩ := id hfe
    have e3 : s₂ = ({ (U.calling g mk a).setFrames s₂.frames with heap := s₂.heap, slotsUsed := s₂.slotsUsed } : State).setVm s₂.vm := by
      have : s₂ = ({ s₂ with vm := (U.calling g mk a).vm } : State).setVm s₂.vm := rfl
      rw [e2] at this
      exact this
    obtain ⟨c₂, i₂, len₂, hc₂, hd₂, hf₂⟩ := hend
    have hW' : U.WarmedH s₂.vm := hW₂
    have hcc : c₂ = c := by
      have h1 : s₂.code? g.method = U.code? g.method := by
        rw [State.code?_eq, State.code?_eq, hW'.alike.method?]
      exact Option.some.inj (hc₂.symm.trans (h1.trans h.code))
    subst hcc
    have hlen : len₂ = len := by rw [hdg] at hd₂; cases hd₂; rfl
    subst hlen
    have hs₂ : s₂ = (({ U with heap := s₂.heap, slotsUsed := s₂.slotsUsed } : State).setVm s₂.vm).setTop { g with pc := g.pc + len₂, stack := v.toList ++ g.stack } := by
      refine e3.trans ?_
      rw [hf₂, State.calling_eq h.top, State.setFrames_setFrames, State.setTop_of_frames _ hr', hr]
      rfl
    have hsame : U.sameButNew ({ U with heap := s₂.heap, slotsUsed := s₂.slotsUsed } : State) L mc ms := by
      refine ⟨?_, q2, q3, q4, q5, q6⟩
      obtain ⟨t, ht, -⟩ := State.frames_cons hr
      show ({ U with heap := s₂.heap, slotsUsed := s₂.slotsUsed } : State) = { U.setFrames U.frames with heap := s₂.heap, slotsUsed := s₂.slotsUsed }
      rw [State.setFrames_self ht]
    subst hg
    refine Or.inl ⟨v, ⟨(({ U with heap := s₂.heap, slotsUsed := s₂.slotsUsed } : State).setVm s₂.vm), Ls ++ L, c0 + mc, s0 + ms⟩,
      ⟨X.admits, X.cas, X.clock, X.frames, X.room, X.hears, X.method, X.code, (X.here.setHeapUsed s₂.heap s₂.slotsUsed).setVm hW'.alike, X.tail, State.WarmedH.trans X.warmed hW', X.limits, X.bytes, X.same.trans (hsame.setVm s.vm)⟩,
      ⟨g, mk, s₂, L, rfl, rfl, hqc, rfl, hL, rfl, rfl⟩, ?_⟩
    show Steps p.tables e below _ ((({ U with heap := s₂.heap, slotsUsed := s₂.slotsUsed } : State).setVm s₂.vm).setTop { g with pc := g.pc + len₂, stack := v.toList ++ g.stack })
    rw [← hs₂]
    exact hsteps
  · obtain ⟨e2, q2, q3, q4, q5, q6⟩ := id hsm
    have e3 : s₂ = ({ (U.calling g mk a).setFrames s₂.frames with heap := s₂.heap, slotsUsed := s₂.slotsUsed } : State).setVm s₂.vm := by
      have : s₂ = ({ s₂ with vm := (U.calling g mk a).vm } : State).setVm s₂.vm := rfl
      rw [e2] at this
      exact this
    have hf₂ : s₂.frames = .throwing q :: .java g :: U.frames.tail := hend
    have hW' : U.WarmedH s₂.vm := hW₂
    have hs₂ : s₂ = ((({ U with heap := s₂.heap, slotsUsed := s₂.slotsUsed } : State).setVm s₂.vm).setTop g).pushFrame (.throwing q) := by
      refine e3.trans ?_
      rw [hf₂, State.calling_eq h.top, State.setFrames_setFrames, State.pushFrame, State.frames_setTop _ hr', State.setTop_of_frames _ hr', State.setFrames_setFrames, hr]
      rfl
    have hsame : U.sameButNew ({ U with heap := s₂.heap, slotsUsed := s₂.slotsUsed } : State) L mc ms := by
      refine ⟨?_, q2, q3, q4, q5, q6⟩
      obtain ⟨t, ht, -⟩ := State.frames_cons hr
      show ({ U with heap := s₂.heap, slotsUsed := s₂.slotsUsed } : State) = { U.setFrames U.frames with heap := s₂.heap, slotsUsed := s₂.slotsUsed }
      rw [State.setFrames_self ht]
    subst hg
    refine Or.inr ⟨q, ⟨(({ U with heap := s₂.heap, slotsUsed := s₂.slotsUsed } : State).setVm s₂.vm), Ls ++ L, c0 + mc, s0 + ms⟩,
      ⟨X.admits, X.cas, X.clock, X.frames, X.room, X.hears, X.method, X.code, (X.here.setHeapUsed s₂.heap s₂.slotsUsed).setVm hW'.alike, X.tail, State.WarmedH.trans X.warmed hW', X.limits, X.bytes, X.same.trans (hsame.setVm s.vm)⟩,
      ⟨g, mk, s₂, L, E, ce, rfl, rfl, hx, hce, hcv, hcl, rfl, hL, rfl, rfl⟩, ?_⟩
    show Steps p.tables e below _ (((({ U with heap := s₂.heap, slotsUsed := s₂.slotsUsed } : State).setVm s₂.vm).setTop g).pushFrame (.throwing q))
    rw [← hs₂]
    exact hsteps
end
variable {p : Program} {l : Launch} {e : Env} {R : Room} {s : State} {m : MethodId} {args : Array Value} {below : List Frame} {meth : Method} {c : Code} {T : State} {H : Heap} {locs : List Loc} {cells slots : Nat}
theorem vx_callVX (X : Stand p l e R s m args below meth c T locs cells slots) (hexec : p.tables.exec = Jvm.exec) {own C : String} {index : Nat} {y : MethodName} {bytes : ByteArray} {maxL : Nat} {ret : Option FieldType} {hh : List (Nat × Nat × Nat × Nat)}
    (hown : s.vm.findClass own = some m.cls) (hlink : (Cond.methodLink own index y).before args s = true) (hinst : (Cond.instanceMethod y).before args s = true) (hsel : (Cond.selects C y y).before args s = true)
    (hcode : (Cond.codeWith y bytes maxL ret hh).before args s = true) (hy : y.cls ≠ "java/lang/invoke/MethodHandle" ∧ y.cls ≠ "java/lang/invoke/VarHandle")
    {W9 : Nat} {Pre : Pt → Array Value → Prop} {Post : Pt → Array Value → Option Value → Pt → Prop} {PostX : Pt → Array Value → Addr → Pt → Prop} (hK : vx_Back l R p e below s args y 3 W9 Pre Post PostX)
    {b : Addr} {cellB : Cell} (hcell : T.heap[b]? = some cellB) (hobj : cellB.vm.isStatics = false) (hcls : s.vm.findClass C = some cellB.cls)
    {g : JFrame} (hg : g.method = m) (hsize : g.locals.size = c.maxLocals) {argsL rest : List Value} (hlen : ∀ sig, parseMethodDescriptor y.desc = some sig → argsL.length = sig.parameters.length)
    (hstack : g.stack = argsL.reverse ++ .ref b :: rest) (hW : 2 * g.monitorRoom + (rest.map fun v => v.category).sum ≤ W9) (hdg : decode c.code g.pc = .ok (.invokevirtual index, 3))
    (hpre : ∀ vm₁, s.WarmedH vm₁ → Pre ⟨T.setVm vm₁, locs, cells, slots⟩ (Value.ref b :: argsL).toArray) :
    (∃ (v : Option Value) (vm₁ : Vm) (B : Pt), s.WarmedH vm₁ ∧ Stand p l e R s m args below meth c B.U B.locs B.cells B.slots ∧ Post ⟨T.setVm vm₁, locs, cells, slots⟩ (Value.ref b :: argsL).toArray v B ∧
      ∀ target, Steps p.tables e below (B.U.setTop { g with pc := g.pc + 3, stack := v.toList ++ rest }) target → Steps p.tables e below (T.setTop g) target) ∨
    (∃ (q : Addr) (vm₁ : Vm) (B : Pt), s.WarmedH vm₁ ∧ Stand p l e R s m args below meth c B.U B.locs B.cells B.slots ∧ PostX ⟨T.setVm vm₁, locs, cells, slots⟩ (Value.ref b :: argsL).toArray q B ∧
      Steps p.tables e below (T.setTop g) ((B.U.setTop { g with stack := rest }).pushFrame (.throwing q))) := by
  obtain ⟨mk, methM, hnamed, hmethM, hstM, habM⟩ := Cond.instanceMethod_spec hinst
  obtain ⟨m8, methM', cM, hn8, hmethM', -, -, -, -, -, -, hsigM⟩ := Cond.codeWith_spec hcode
  cases Option.some.inj (hn8.symm.trans hnamed)
  cases hmethM.symm.trans hmethM'
  obtain ⟨c2, r2, m2, q1, q2, q3, q4, kP, hkP, hkPi⟩ := Cond.selects_spec hsel
  cases hcls.symm.trans q1
  cases (State.methodFound?_of_named hnamed hy).symm.trans q2
  cases hnamed.symm.trans q3
  have hselP : selectMethod e.platform s.vm cellB.cls mk = .method mk := by rw [Launch.admits_selectMethod X.admits]; exact q4
  obtain ⟨vm₁, X₁, hstep₁⟩ := X.invokevirtual hexec hown hlink hnamed hmethM hstM hkP hkPi hy (a := b) (cell := cellB) hcell
    (fun z h => by rw [h] at hobj; cases hobj) hselP hmethM habM hkP hkPi (g := g) hg (argsL := argsL) (rest := rest) (hlen _ hsigM) hstack hdg
  rcases hK m meth c ⟨T.setVm vm₁, locs, cells, slots⟩ { g with stack := rest } (.invokevirtual index) mk (Value.ref b :: argsL).toArray X₁ hg hsize hdg hW (X₁.named hnamed) (hpre vm₁ X₁.warmed) with ⟨v, B, X', hpost, hsteps⟩ | ⟨q, B, X', hpost, hsteps⟩
  · exact Or.inl ⟨v, vm₁, B, X₁.warmed, X', hpost, fun target h => hstep₁ _ fun acts => by rw [doInvoke_state]; exact hsteps.trans h⟩
  · exact Or.inr ⟨q, vm₁, B, X₁.warmed, X', hpost, hstep₁ _ fun acts => by rw [doInvoke_state]; exact hsteps⟩
theorem vx_callSX (X : Stand p l e R s m args below meth c T locs cells slots) (hexec : p.tables.exec = Jvm.exec) {own : String} {index : Nat} {y : MethodName} {bytes : ByteArray} {maxL : Nat} {ret : Option FieldType} {hh : List (Nat × Nat × Nat × Nat)}
    (hown : s.vm.findClass own = some m.cls) (hlink : (Cond.methodLink own index y).before args s = true) (hstat : (Cond.static y).before args s = true) (hinit : (Cond.initialized y.cls).before args s = true)
    (hcode : (Cond.codeWith y bytes maxL ret hh).before args s = true) (hy : y.cls ≠ "java/lang/invoke/MethodHandle" ∧ y.cls ≠ "java/lang/invoke/VarHandle")
    {W9 : Nat} {Pre : Pt → Array Value → Prop} {Post : Pt → Array Value → Option Value → Pt → Prop} {PostX : Pt → Array Value → Addr → Pt → Prop} (hK : vx_Back l R p e below s args y 3 W9 Pre Post PostX)
    {g : JFrame} (hg : g.method = m) (hsize : g.locals.size = c.maxLocals) {argsL rest : List Value} (hlen : ∀ sig, parseMethodDescriptor y.desc = some sig → argsL.length = sig.parameters.length)
    (hstack : g.stack = argsL.reverse ++ rest) (hW : 2 * g.monitorRoom + (rest.map fun v => v.category).sum ≤ W9) (hdg : decode c.code g.pc = .ok (.invokestatic index, 3))
    (hpre : ∀ vm₁, s.WarmedH vm₁ → Pre ⟨T.setVm vm₁, locs, cells, slots⟩ argsL.toArray) :
    (∃ (v : Option Value) (vm₁ : Vm) (B : Pt), s.WarmedH vm₁ ∧ Stand p l e R s m args below meth c B.U B.locs B.cells B.slots ∧ Post ⟨T.setVm vm₁, locs, cells, slots⟩ argsL.toArray v B ∧
      ∀ target, Steps p.tables e below (B.U.setTop { g with pc := g.pc + 3, stack := v.toList ++ rest }) target → Steps p.tables e below (T.setTop g) target) ∨
    (∃ (q : Addr) (vm₁ : Vm) (B : Pt), s.WarmedH vm₁ ∧ Stand p l e R s m args below meth c B.U B.locs B.cells B.slots ∧ PostX ⟨T.setVm vm₁, locs, cells, slots⟩ argsL.toArray q B ∧
      Steps p.tables e below (T.setTop g) ((B.U.setTop { g with stack := rest }).pushFrame (.throwing q))) := by
  obtain ⟨mk, methM, cM, hnamed, hmethM, -, -, -, -, -, -, hsigM⟩ := Cond.codeWith_spec hcode
  have hstatic : methM.isStatic = true := Cond.static_spec hnamed hmethM hstat
  obtain ⟨kP, hkP, -⟩ := className_of_methodNamed hnamed
  have hinitP : kP.init = .initialized := Cond.initialized_spec (findClass_of_methodNamed hnamed) hkP hinit
  obtain ⟨vm₁, X₁, hstep₁⟩ := X.invokestatic hexec hown hlink hnamed hmethM hstatic hkP hinitP hy (g := g) hg (argsL := argsL) (rest := rest) (hlen _ hsigM) hstack hdg
  rcases hK m meth c ⟨T.setVm vm₁, locs, cells, slots⟩ { g with stack := rest } (.invokestatic index) mk argsL.toArray X₁ hg hsize hdg hW (X₁.named hnamed) (hpre vm₁ X₁.warmed) with ⟨v, B, X', hpost, hsteps⟩ | ⟨q, B, X', hpost, hsteps⟩
  · exact Or.inl ⟨v, vm₁, B, X₁.warmed, X', hpost, fun target h => hstep₁ _ fun acts => by rw [doInvoke_state]; exact hsteps.trans h⟩
  · exact Or.inr ⟨q, vm₁, B, X₁.warmed, X', hpost, hstep₁ _ fun acts => by rw [doInvoke_state]; exact hsteps⟩
theorem vx_callVW (X : Stand p l e R s m args below meth c T locs cells slots) (hexec : p.tables.exec = Jvm.exec) {own C : String} {index : Nat} {y : MethodName} {bytes : ByteArray} {maxL : Nat} {ret : Option FieldType} {hh : List (Nat × Nat × Nat × Nat)}
    (hown : s.vm.findClass own = some m.cls) (hlink : (Cond.methodLink own index y).before args s = true) (hinst : (Cond.instanceMethod y).before args s = true) (hsel : (Cond.selects C y y).before args s = true)
    (hcode : (Cond.codeWith y bytes maxL ret hh).before args s = true) (hy : y.cls ≠ "java/lang/invoke/MethodHandle" ∧ y.cls ≠ "java/lang/invoke/VarHandle")
    {W9 : Nat} {Pre : Pt → Array Value → Prop} {Post : Pt → Array Value → Option Value → Pt → Prop} (hK : Back l R p e below s args y 3 W9 Pre Post)
    {b : Addr} {cellB : Cell} (hcell : T.heap[b]? = some cellB) (hobj : cellB.vm.isStatics = false) (hcls : s.vm.findClass C = some cellB.cls)
    {g : JFrame} (hg : g.method = m) (hsize : g.locals.size = c.maxLocals) {argsL rest : List Value} (hlen : ∀ sig, parseMethodDescriptor y.desc = some sig → argsL.length = sig.parameters.length)
    (hstack : g.stack = argsL.reverse ++ .ref b :: rest) (hW : 2 * g.monitorRoom + (rest.map fun v => v.category).sum ≤ W9) (hdg : decode c.code g.pc = .ok (.invokevirtual index, 3))
    (hpre : ∀ vm₁, s.WarmedH vm₁ → Pre ⟨T.setVm vm₁, locs, cells, slots⟩ (Value.ref b :: argsL).toArray) :
    ∃ (v : Option Value) (vm₁ : Vm) (B : Pt), s.WarmedH vm₁ ∧ Stand p l e R s m args below meth c B.U B.locs B.cells B.slots ∧ Post ⟨T.setVm vm₁, locs, cells, slots⟩ (Value.ref b :: argsL).toArray v B ∧
      ∀ target, Steps p.tables e below (B.U.setTop { g with pc := g.pc + 3, stack := v.toList ++ rest }) target → Steps p.tables e below (T.setTop g) target := by
  obtain ⟨mk, methM, hnamed, hmethM, hstM, habM⟩ := Cond.instanceMethod_spec hinst
  obtain ⟨m8, methM', cM, hn8, hmethM', -, -, -, -, -, -, hsigM⟩ := Cond.codeWith_spec hcode
  cases Option.some.inj (hn8.symm.trans hnamed)
  cases hmethM.symm.trans hmethM'
  obtain ⟨c2, r2, m2, q1, q2, q3, q4, kP, hkP, hkPi⟩ := Cond.selects_spec hsel
  cases hcls.symm.trans q1
  cases (State.methodFound?_of_named hnamed hy).symm.trans q2
  cases hnamed.symm.trans q3
  have hselP : selectMethod e.platform s.vm cellB.cls mk = .method mk := by rw [Launch.admits_selectMethod X.admits]; exact q4
  obtain ⟨vm₁, X₁, hstep₁⟩ := X.invokevirtual hexec hown hlink hnamed hmethM hstM hkP hkPi hy (a := b) (cell := cellB) hcell
    (fun z h => by rw [h] at hobj; cases hobj) hselP hmethM habM hkP hkPi (g := g) hg (argsL := argsL) (rest := rest) (hlen _ hsigM) hstack hdg
  obtain ⟨v, B, X', hpost, hsteps⟩ := hK m meth c ⟨T.setVm vm₁, locs, cells, slots⟩ { g with stack := rest } (.invokevirtual index) mk (Value.ref b :: argsL).toArray X₁ hg hsize hdg hW (X₁.named hnamed) (hpre vm₁ X₁.warmed)
  exact ⟨v, vm₁, B, X₁.warmed, X', hpost, fun target h => hstep₁ _ fun acts => by rw [doInvoke_state]; exact hsteps.trans h⟩
abbrev vx_CVW (R : Room) (s : State) (args : Array Value) (own C : String) (index : Nat) (y : MethodName) (bytes : ByteArray) (maxL : Nat) (ret : Option FieldType) (hh : List (Nat × Nat × Nat × Nat)) (ws : List Cond) (rm : Room) (mc ms n : Nat) : Prop :=
  (rm.cells = mc ∧ rm.slots = ms ∧ rm.frames + 1 ≤ R.frames ∧ 8 + (maxL + 11) + rm.locals ≤ R.locals ∧ (∀ w ∈ ws, ∀ (a' : Array Value) (U : State), s.WarmedH U.vm → w.before a' U = true) ∧ Cond.codeWith y bytes maxL ret hh ∈ ws) ∧
  (Cond.codeWith y bytes maxL ret hh).before args s = true ∧ (Cond.initialized y.cls).before args s = true ∧ (y.cls ≠ "java/lang/invoke/MethodHandle" ∧ y.cls ≠ "java/lang/invoke/VarHandle") ∧
  (∀ sig, parseMethodDescriptor y.desc = some sig → n = sig.parameters.length) ∧ (Cond.methodLink own index y).before args s = true ∧ (Cond.instanceMethod y).before args s = true ∧ (Cond.selects C y y).before args s = true
theorem vx_cwVW {own C : String} {index maxL mc ms : Nat} {y : MethodName} {bytes : ByteArray} {ret : Option FieldType} {hh : List (Nat × Nat × Nat × Nat)} {Ts ws ws' : List Cond} {rm : Room} (n : Nat) (ht : ∀ w ∈ Ts, w.before args s = true) (hT : GoodIn Ts (wsV own index C y ws)) (hw : ws = Cond.codeWith y bytes maxL ret hh :: ws') (hrc : rm.cells = mc) (hrs : rm.slots = ms)
    (hd : y.cls = C ∧ y.cls ≠ "java/lang/invoke/MethodHandle" ∧ y.cls ≠ "java/lang/invoke/VarHandle" ∧ (parseMethodDescriptor y.desc).map (fun d => d.parameters.length) = some n) (hR : rm.frames + 1 ≤ R.frames ∧ 8 + (maxL + 11) + rm.locals ≤ R.locals) :
    vx_CVW R s args own C index y bytes maxL ret hh ws rm mc ms n := by
  obtain ⟨hC, hd⟩ := hd
  subst hC
  have ok : ∀ w ∈ wsV own index y.cls y ws, w.before args s = true := fun w h => ht w (hT w h).1
  have hG : GoodIn Ts ws := fun w h => hT w (by unfold wsV; exact List.mem_append_right _ h)
  have hc : Cond.codeWith y bytes maxL ret hh ∈ ws := by rw [hw]; exact List.mem_cons_self
  refine ⟨⟨hrc, hrs, hR.1, hR.2, pay_in ht hG, hc⟩, ht _ (hG _ hc).1, ok _ (by simp [wsV]), ⟨hd.1, hd.2.1⟩, fun sig h => ?_, ok _ (by simp [wsV]), ok _ (by simp [wsV]), ok _ (by simp [wsV])⟩
  have h2 := hd.2.2
  rw [h] at h2
  exact (Option.some.inj h2).symm
theorem vx_runVW {y : MethodName} {bytes cc : ByteArray} {maxL nL mc ms n index : Nat} {ret : Option FieldType} {hh : List (Nat × Nat × Nat × Nat)} {ws : List Cond} {rm : Room} {Pc : Array Value → State → Prop} {Qc : Array Value → State → Outcome → State → Prop} {free : Addr → Prop} {Ts : List Cond} {own C : String} {b : Addr} {As rest : List Value} {g : JFrame}
    (S : CallFix p m c cc nL s args Ts own) (hM : Met l y ws rm Pc Qc mc ms free) (cw : vx_CVW R s args own C index y bytes maxL ret hh ws rm mc ms n) (hp : PreV s H C b Pc As)
    (hg : g.method = m) (hn : As.length = n) (hsize : g.locals.size = nL) (hstack : g.stack = As.reverse ++ .ref b :: rest) (hW : 2 * g.monitorRoom + (rest.map fun v => v.category).sum ≤ 8) (hdg : decode cc g.pc = .ok (.invokevirtual index, 3)) (hf : cells + mc ≤ R.cells ∧ slots + ms ≤ R.slots) :
    va_Run p l e R s m args below meth c H locs cells slots mc ms g rest (Qc (Value.ref b :: As).toArray) free := by
  obtain ⟨⟨hrc, hrs, hfr, hlo, hws, hcw⟩, hcode, hini, hy, hlen, hl, hin, hse⟩ := cw
  have hK : Back l R p e below s args y 3 8 (PreOf R mc ms Pc) (PostOf Qc mc ms free) := va_backW (hh := hh) (bytes := bytes) (maxL := maxL) (ret := ret) hM hp.1 hrc hrs hfr hlo hws hcw (fun a' U hW => word_at hW (Or.inl (by first | rfl | simp [Cond.onTables, Cond.keeps, Cond.steady])) hini)
  obtain ⟨hx, hb, hml, ho, -⟩ := S
  obtain ⟨-, ⟨cellB, hcB, hoB, hclB⟩, hPc⟩ := hp
  intro T hT X
  obtain ⟨v, vm₁, ⟨U', l2, c2, s2⟩, hW₁, X', ⟨g', mk, t, L, e1, e2, hq, h1, hL, h2, h3⟩, st⟩ := vx_callVW X hx (C := C) (hh := hh) (bytes := bytes) (maxL := maxL) (ret := ret) ho hl hin hse hcode hy hK (by rw [hT]; exact hcB) hoB hclB hg (hsize.trans hml.symm) (argsL := As) (rest := rest) (fun sig h => hn.trans (hlen sig h)) hstack hW (by rw [hb]; exact hdg)
    (fun vm₁ hW₁ => ⟨hf.1, hf.2, hPc (T.setVm vm₁) hT hW₁⟩)
  dsimp only [Pt.U, Pt.locs, Pt.cells, Pt.slots] at X' e1 e2 h1 h2 h3 st
  subst h1; subst h2; subst h3
  exact ⟨v, (T.setVm vm₁).calling g' mk (Value.ref b :: As).toArray, t, U', L, hT, X', hL, e1, e2, hq, st⟩
section
variable {y : MethodName} {bytes cc : ByteArray} {maxL nL mc ms n index : Nat} {ret : Option FieldType} {ws : List Cond} {rm : Room} {Pc : Array Value → State → Prop} {Qc : Array Value → State → Outcome → State → Prop} {XC : String → State → State → Prop} {free : Addr → Prop} {Ts : List Cond} {own C : String} {b : Addr} {As rest : List Value} {g : JFrame}
theorem vx_runVX {hh : List (Nat × Nat × Nat × Nat)} (S : CallFix p m c cc nL s args Ts own) (hM : vx_Met l y ws rm Pc Qc XC mc ms free) (cw : vx_CVW R s args own C index y bytes maxL ret hh ws rm mc ms n) (hp : PreV s H C b Pc As)
    (hg : g.method = m) (hn : As.length = n) (hsize : g.locals.size = nL) (hstack : g.stack = As.reverse ++ .ref b :: rest) (hW : 2 * g.monitorRoom + (rest.map fun v => v.category).sum ≤ 8) (hdg : decode cc g.pc = .ok (.invokevirtual index, 3)) (hf : cells + mc ≤ R.cells ∧ slots + ms ≤ R.slots) :
    vx_Run p l e R s m args below meth c H locs cells slots mc ms g rest (Qc (Value.ref b :: As).toArray) XC free := by
  obtain ⟨⟨hrc, hrs, hfr, hlo, hws, hcw⟩, hcode, hini, hy, hlen, hl, hin, hse⟩ := cw
  have hK : vx_Back l R p e below s args y 3 8 (PreOf R mc ms Pc) (PostOf Qc mc ms free) (vx_Post XC mc ms free) := vx_backW (hh := hh) (bytes := bytes) (maxL := maxL) (ret := ret) hM hp.1 hrc hrs hfr hlo hws hcw (fun a' U hW => word_at hW (Or.inl (by first | rfl | simp [Cond.onTables, Cond.keeps, Cond.steady])) hini)
  obtain ⟨hx, hb, hml, ho, -⟩ := S
  obtain ⟨-, ⟨cellB, hcB, hoB, hclB⟩, hPc⟩ := hp
  intro T hT X
  rcases vx_callVX X hx (C := C) (hh := hh) (bytes := bytes) (maxL := maxL) (ret := ret) ho hl hin hse hcode hy hK (by rw [hT]; exact hcB) hoB hclB hg (hsize.trans hml.symm) (argsL := As) (rest := rest) (fun sig h => hn.trans (hlen sig h)) hstack hW (by rw [hb]; exact hdg)
    (fun vm₁ hW₁ => ⟨hf.1, hf.2, hPc (T.setVm vm₁) hT hW₁⟩) with ⟨v, vm₁, ⟨U', l2, c2, s2⟩, hW₁, X', ⟨g', mk, t, L, e1, e2, hq, h1, hL, h2, h3⟩, st⟩ | ⟨q, vm₁, ⟨U', l2, c2, s2⟩, hW₁, X', ⟨g', mk, t, L, E, ce, e1, e2, hq, hce, hcv, hcl, h1, hL, h2, h3⟩, st⟩
  · dsimp only [Pt.U, Pt.locs, Pt.cells, Pt.slots] at X' e1 e2 h1 h2 h3 st
    subst h1; subst h2; subst h3
    exact Or.inl ⟨v, (T.setVm vm₁).calling g' mk (Value.ref b :: As).toArray, t, U', L, hT, X', hL, e1, e2, hq, st⟩
  · dsimp only [Pt.U, Pt.locs, Pt.cells, Pt.slots] at X' e1 e2 h1 h2 h3 st hcl
    subst h1; subst h2; subst h3
    exact Or.inr ⟨q, (T.setVm vm₁).calling g' mk (Value.ref b :: As).toArray, t, U', L, E, ce, hT, X', hL, e1, e2, hq, hce, hcv, vx_cls hW₁ hcl, st⟩
theorem vx_runSX {hh : List (Nat × Nat × Nat × Nat)} (S : CallFix p m c cc nL s args Ts own) (hM : vx_Met l y ws rm Pc Qc XC mc ms free) (cw : vx_CSW R s args own index y bytes maxL ret hh ws rm mc ms n) (hp : PreS s H Pc As)
    (hg : g.method = m) (hn : As.length = n) (hsize : g.locals.size = nL) (hstack : g.stack = As.reverse ++ rest) (hW : 2 * g.monitorRoom + (rest.map fun v => v.category).sum ≤ 8) (hdg : decode cc g.pc = .ok (.invokestatic index, 3)) (hf : cells + mc ≤ R.cells ∧ slots + ms ≤ R.slots) :
    vx_Run p l e R s m args below meth c H locs cells slots mc ms g rest (Qc As.toArray) XC free := by
  obtain ⟨⟨hrc, hrs, hfr, hlo, hws, hcw⟩, hcode, hini, hy, hlen, hl, hstt⟩ := cw
  have hK : vx_Back l R p e below s args y 3 8 (PreOf R mc ms Pc) (PostOf Qc mc ms free) (vx_Post XC mc ms free) := vx_backW (hh := hh) (bytes := bytes) (maxL := maxL) (ret := ret) hM hp.1 hrc hrs hfr hlo hws hcw (fun a' U hW => word_at hW (Or.inl (by first | rfl | simp [Cond.onTables, Cond.keeps, Cond.steady])) hini)
  obtain ⟨hx, hb, hml, ho, -⟩ := S
  intro T hT X
  rcases vx_callSX X hx (hh := hh) (bytes := bytes) (maxL := maxL) (ret := ret) ho hl hstt hini hcode hy hK hg (hsize.trans hml.symm) (argsL := As) (rest := rest) (fun sig h => hn.trans (hlen sig h)) hstack hW (by rw [hb]; exact hdg)
    (fun vm₁ hW₁ => ⟨hf.1, hf.2, hp.2 (T.setVm vm₁) hT hW₁⟩) with ⟨v, vm₁, ⟨U', l2, c2, s2⟩, hW₁, X', ⟨g', mk, t, L, e1, e2, hq, h1, hL, h2, h3⟩, st⟩ | ⟨q, vm₁, ⟨U', l2, c2, s2⟩, hW₁, X', ⟨g', mk, t, L, E, ce, e1, e2, hq, hce, hcv, hcl, h1, hL, h2, h3⟩, st⟩
  · dsimp only [Pt.U, Pt.locs, Pt.cells, Pt.slots] at X' e1 e2 h1 h2 h3 st
    subst h1; subst h2; subst h3
    exact Or.inl ⟨v, (T.setVm vm₁).calling g' mk As.toArray, t, U', L, hT, X', hL, e1, e2, hq, st⟩
  · dsimp only [Pt.U, Pt.locs, Pt.cells, Pt.slots] at X' e1 e2 h1 h2 h3 st hcl
    subst h1; subst h2; subst h3
    exact Or.inr ⟨q, (T.setVm vm₁).calling g' mk As.toArray, t, U', L, E, ce, hT, X', hL, e1, e2, hq, hce, hcv, vx_cls hW₁ hcl, st⟩
end
end VXH
theorem vx_ofWH {l : Launch} {y : MethodName} {ws ws' : List Cond} {rm : Room} {Pc : Array Value → State → Prop} {Qc : Array Value → State → Outcome → State → Prop} {XC : String → State → State → Prop} {mc ms : Nat} {free : Addr → Prop} {cc : ByteArray} {maxL : Nat} {ret : Option FieldType} {hh : List (Nat × Nat × Nat × Nat)}
    (hy : plainName y.cls = true) (hw : ws = Cond.codeWith y cc maxL ret hh :: ws')
    (body : ∀ p e s m args below meth c s₁, BodyLoose p l y (headSpec ws rm) cc maxL ret e s m args below meth c s₁ → c.maxLocals = maxL → Pc args s →
      W p l e (headSpec ws rm).room s m args below meth c s.heap [] 0 0 (vx_MQ below Qc XC args s mc ms free) (entryFrame m args maxL)) : vx_Met l y ws rm Pc Qc XC mc ms free := by
  refine MetFree.of_bodyS (code := cc) (maxLocals := maxL) (ret := ret) hy ?_ ?_
  · intro args s m h hn
    obtain ⟨m9, meth, c, hn9, h1, h2, h3, h4, -, h5, h6, -⟩ := Cond.codeWith_spec (atoms_spec (ws := ws) h _ (by rw [hw]; exact List.mem_cons_self))
    cases hn.symm.trans hn9
    exact ⟨meth, c, h1, h2, h3, h4, h5, h6⟩
  · intro p e s m args below meth c s₁ B hml hP _
    have hh0 : s₁.heap = s.heap := by rw [B.state]; rfl
    obtain ⟨t, a1, o, b1, b2, b3⟩ := body p e s m args below meth c s₁ B hml hP s₁ hh0 (Stand.of_body B)
    exact ⟨t, o, a1, b1, b2, b3⟩
/-! ===== END ===== -/
end
section
def R_Li : String := "ObjectLinks$Linker"
def F_Li : u_T := fun k => match k with
  | 0 => ("ObjectLinks$Linker", "units", "[LObjectLinks$Unit;", true)
  | 1 => ("ObjectLinks$Linker", "order", "[I", true)
  | 2 => ("ObjectLinks$Linker", "chosen", "I", false)
  | 3 => ("ObjectLinks$Linker", "table", "LObjectLinks$NameTable;", true)
  | 4 => ("ObjectLinks$Linker", "reached", "[Z", true)
  | 5 => ("ObjectLinks$Linker", "queue", "[I", true)
  | 6 => ("ObjectLinks$Linker", "queued", "I", false)
  | 7 => ("ObjectLinks$Linker", "places", "[I", true)
  | 8 => ("ObjectLinks$Linker", "present", "Z", false)
  | 9 => ("ObjectLinks$Linker", "base", "I", false)
  | 10 => ("ObjectLinks$Linker", "content", "[I", true)
  | 11 => ("ObjectLinks$Linker", "length", "I", false)
  | 12 => ("ObjectLinks$Linker", "sectionsIn", "I", false)
  | 13 => ("ObjectLinks$Linker", "commonsIn", "I", false)
  | 14 => ("ObjectLinks$Linker", "gapBytes", "I", false)
  | 15 => ("ObjectLinks$Linker", "faultSort", "I", false)
  | 16 => ("ObjectLinks$Linker", "faultObject", "I", false)
  | _ => ("ObjectLinks$Linker", "faultNumber", "I", false)
def t_Li : Nat → FieldType := fun k => match k with
  | 0 => .array (.object "ObjectLinks$Unit")
  | 1 => .array .int
  | 2 => .int
  | 3 => .object "ObjectLinks$NameTable"
  | 4 => .array .boolean
  | 5 => .array .int
  | 6 => .int
  | 7 => .array .int
  | 8 => .boolean
  | 9 => .int
  | 10 => .array .int
  | 11 => .int
  | 12 => .int
  | 13 => .int
  | 14 => .int
  | 15 => .int
  | 16 => .int
  | _ => .int
theorem n_Li : ∀ a, a < 18 → ∀ b, b < 18 → a ≠ b → (F_Li a).2.1 ≠ (F_Li b).2.1 := by decide +kernel
theorem t_Li_ok : ∀ k, k < 18 → parseFieldDescriptor (F_Li k).2.2.1 = some (t_Li k) := by decide +kernel
def R_Me : String := "ObjectLinks$Meaning"
def F_Me : u_T := fun k => match k with
  | 0 => ("ObjectLinks$Meaning", "number", "I", false)
  | 1 => ("ObjectLinks$Meaning", "sort", "I", false)
  | 2 => ("ObjectLinks$Meaning", "slot", "I", false)
  | 3 => ("ObjectLinks$Meaning", "place", "I", false)
  | 4 => ("ObjectLinks$Meaning", "power", "I", false)
  | 5 => ("ObjectLinks$Meaning", "size", "I", false)
  | 6 => ("ObjectLinks$Meaning", "reached", "Z", false)
  | _ => ("ObjectLinks$Meaning", "address", "I", false)
def t_Me : Nat → FieldType := fun k => match k with
  | 0 => .int
  | 1 => .int
  | 2 => .int
  | 3 => .int
  | 4 => .int
  | 5 => .int
  | 6 => .boolean
  | _ => .int
theorem n_Me : ∀ a, a < 8 → ∀ b, b < 8 → a ≠ b → (F_Me a).2.1 ≠ (F_Me b).2.1 := by decide +kernel
theorem t_Me_ok : ∀ k, k < 8 → parseFieldDescriptor (F_Me k).2.2.1 = some (t_Me k) := by decide +kernel
def R_Na : String := "ObjectLinks$Name"
def F_Na : u_T := fun k => match k with
  | 0 => ("ObjectLinks$Name", "number", "I", true)
  | 1 => ("ObjectLinks$Name", "sort", "I", true)
  | 2 => ("ObjectLinks$Name", "section", "I", true)
  | _ => ("ObjectLinks$Name", "place", "I", true)
def t_Na : Nat → FieldType := fun k => match k with
  | 0 => .int
  | 1 => .int
  | 2 => .int
  | _ => .int
theorem n_Na : ∀ a, a < 4 → ∀ b, b < 4 → a ≠ b → (F_Na a).2.1 ≠ (F_Na b).2.1 := by decide +kernel
theorem t_Na_ok : ∀ k, k < 4 → parseFieldDescriptor (F_Na k).2.2.1 = some (t_Na k) := by decide +kernel
def R_NT : String := "ObjectLinks$NameTable"
def F_NT : u_T := fun k => match k with
  | 0 => ("ObjectLinks$NameTable", "meanings", "[LObjectLinks$Meaning;", true)
  | 1 => ("ObjectLinks$NameTable", "size", "I", false)
  | 2 => ("ObjectLinks$NameTable", "meant", "[LObjectLinks$Meaning;", true)
  | 3 => ("ObjectLinks$NameTable", "commons", "[LObjectLinks$Meaning;", true)
  | _ => ("ObjectLinks$NameTable", "commonCount", "I", false)
def t_NT : Nat → FieldType := fun k => match k with
  | 0 => .array (.object "ObjectLinks$Meaning")
  | 1 => .int
  | 2 => .array (.object "ObjectLinks$Meaning")
  | 3 => .array (.object "ObjectLinks$Meaning")
  | _ => .int
theorem n_NT : ∀ a, a < 5 → ∀ b, b < 5 → a ≠ b → (F_NT a).2.1 ≠ (F_NT b).2.1 := by decide +kernel
theorem t_NT_ok : ∀ k, k < 5 → parseFieldDescriptor (F_NT k).2.2.1 = some (t_NT k) := by decide +kernel
def R_Oc : String := "ObjectLinks$Octets"
def F_Oc : u_T := fun k => match k with
  | 0 => ("ObjectLinks$Octets", "row", "[I", true)
  | _ => ("ObjectLinks$Octets", "length", "I", false)
def t_Oc : Nat → FieldType := fun k => match k with
  | 0 => .array .int
  | _ => .int
theorem n_Oc : ∀ a, a < 2 → ∀ b, b < 2 → a ≠ b → (F_Oc a).2.1 ≠ (F_Oc b).2.1 := by decide +kernel
theorem t_Oc_ok : ∀ k, k < 2 → parseFieldDescriptor (F_Oc k).2.2.1 = some (t_Oc k) := by decide +kernel
def R_Re : String := "ObjectLinks$Reader"
def F_Re : u_T := fun k => match k with
  | 0 => ("ObjectLinks$Reader", "row", "[I", true)
  | 1 => ("ObjectLinks$Reader", "end", "I", true)
  | 2 => ("ObjectLinks$Reader", "at", "I", false)
  | _ => ("ObjectLinks$Reader", "broken", "Z", false)
def t_Re : Nat → FieldType := fun k => match k with
  | 0 => .array .int
  | 1 => .int
  | 2 => .int
  | _ => .boolean
theorem n_Re : ∀ a, a < 4 → ∀ b, b < 4 → a ≠ b → (F_Re a).2.1 ≠ (F_Re b).2.1 := by decide +kernel
theorem t_Re_ok : ∀ k, k < 4 → parseFieldDescriptor (F_Re k).2.2.1 = some (t_Re k) := by decide +kernel
def R_Rf : String := "ObjectLinks$Reference"
def F_Rf : u_T := fun k => match k with
  | 0 => ("ObjectLinks$Reference", "section", "I", true)
  | 1 => ("ObjectLinks$Reference", "place", "I", true)
  | 2 => ("ObjectLinks$Reference", "way", "I", true)
  | 3 => ("ObjectLinks$Reference", "name", "I", true)
  | _ => ("ObjectLinks$Reference", "addend", "I", true)
def t_Rf : Nat → FieldType := fun k => match k with
  | 0 => .int
  | 1 => .int
  | 2 => .int
  | 3 => .int
  | _ => .int
theorem n_Rf : ∀ a, a < 5 → ∀ b, b < 5 → a ≠ b → (F_Rf a).2.1 ≠ (F_Rf b).2.1 := by decide +kernel
theorem t_Rf_ok : ∀ k, k < 5 → parseFieldDescriptor (F_Rf k).2.2.1 = some (t_Rf k) := by decide +kernel
def R_Se : String := "ObjectLinks$Section"
def F_Se : u_T := fun k => match k with
  | 0 => ("ObjectLinks$Section", "kind", "I", true)
  | 1 => ("ObjectLinks$Section", "power", "I", true)
  | 2 => ("ObjectLinks$Section", "length", "I", true)
  | _ => ("ObjectLinks$Section", "data", "[I", true)
def t_Se : Nat → FieldType := fun k => match k with
  | 0 => .int
  | 1 => .int
  | 2 => .int
  | _ => .array .int
theorem n_Se : ∀ a, a < 4 → ∀ b, b < 4 → a ≠ b → (F_Se a).2.1 ≠ (F_Se b).2.1 := by decide +kernel
theorem t_Se_ok : ∀ k, k < 4 → parseFieldDescriptor (F_Se k).2.2.1 = some (t_Se k) := by decide +kernel
def R_Un : String := "ObjectLinks$Unit"
def F_Un : u_T := fun k => match k with
  | 0 => ("ObjectLinks$Unit", "sections", "[LObjectLinks$Section;", true)
  | 1 => ("ObjectLinks$Unit", "sectionCount", "I", false)
  | 2 => ("ObjectLinks$Unit", "names", "[LObjectLinks$Name;", true)
  | 3 => ("ObjectLinks$Unit", "nameCount", "I", false)
  | 4 => ("ObjectLinks$Unit", "references", "[LObjectLinks$Reference;", true)
  | _ => ("ObjectLinks$Unit", "referenceCount", "I", false)
def t_Un : Nat → FieldType := fun k => match k with
  | 0 => .array (.object "ObjectLinks$Section")
  | 1 => .int
  | 2 => .array (.object "ObjectLinks$Name")
  | 3 => .int
  | 4 => .array (.object "ObjectLinks$Reference")
  | _ => .int
theorem n_Un : ∀ a, a < 6 → ∀ b, b < 6 → a ≠ b → (F_Un a).2.1 ≠ (F_Un b).2.1 := by decide +kernel
theorem t_Un_ok : ∀ k, k < 6 → parseFieldDescriptor (F_Un k).2.2.1 = some (t_Un k) := by decide +kernel
def R_OL : String := "ObjectLinks"
def F_OL : u_T := fun k => match k with
  | 0 => ("ObjectLinks", "units", "[LObjectLinks$Unit;", true)
  | 1 => ("ObjectLinks", "unitCount", "I", false)
  | 2 => ("ObjectLinks", "linker", "LObjectLinks$Linker;", true)
  | _ => ("ObjectLinks", "octets", "LObjectLinks$Octets;", true)
def t_OL : Nat → FieldType := fun k => match k with
  | 0 => .array (.object "ObjectLinks$Unit")
  | 1 => .int
  | 2 => .object "ObjectLinks$Linker"
  | _ => .object "ObjectLinks$Octets"
theorem n_OL : ∀ a, a < 4 → ∀ b, b < 4 → a ≠ b → (F_OL a).2.1 ≠ (F_OL b).2.1 := by decide +kernel
theorem t_OL_ok : ∀ k, k < 4 → parseFieldDescriptor (F_OL k).2.2.1 = some (t_OL k) := by decide +kernel
def R_Mo : String := "ObjectLinksModel"
def F_Mo : u_T := fun k => match k with
  | 0 => ("ObjectLinksModel", "thrown", "I", false)
  | 1 => ("ObjectLinksModel", "objects", "I", false)
  | 2 => ("ObjectLinksModel", "sections", "[I", true)
  | 3 => ("ObjectLinksModel", "kind", "[I", true)
  | 4 => ("ObjectLinksModel", "power", "[I", true)
  | 5 => ("ObjectLinksModel", "length", "[I", true)
  | 6 => ("ObjectLinksModel", "data", "[I", true)
  | 7 => ("ObjectLinksModel", "names", "[I", true)
  | 8 => ("ObjectLinksModel", "number", "[I", true)
  | 9 => ("ObjectLinksModel", "sort", "[I", true)
  | 10 => ("ObjectLinksModel", "where", "[I", true)
  | 11 => ("ObjectLinksModel", "size", "[I", true)
  | 12 => ("ObjectLinksModel", "references", "[I", true)
  | 13 => ("ObjectLinksModel", "refSection", "[I", true)
  | 14 => ("ObjectLinksModel", "refPlace", "[I", true)
  | 15 => ("ObjectLinksModel", "refWay", "[I", true)
  | 16 => ("ObjectLinksModel", "refName", "[I", true)
  | 17 => ("ObjectLinksModel", "refAddend", "[I", true)
  | 18 => ("ObjectLinksModel", "chosen", "I", false)
  | 19 => ("ObjectLinksModel", "choice", "[I", true)
  | 20 => ("ObjectLinksModel", "base", "I", false)
  | 21 => ("ObjectLinksModel", "reached", "[Z", true)
  | 22 => ("ObjectLinksModel", "common", "[Z", true)
  | 23 => ("ObjectLinksModel", "commonAt", "[I", true)
  | 24 => ("ObjectLinksModel", "lies", "[I", true)
  | 25 => ("ObjectLinksModel", "fault", "I", false)
  | 26 => ("ObjectLinksModel", "faultObject", "I", false)
  | 27 => ("ObjectLinksModel", "faultNumber", "I", false)
  | 28 => ("ObjectLinksModel", "isImage", "Z", false)
  | 29 => ("ObjectLinksModel", "imageSize", "I", false)
  | 30 => ("ObjectLinksModel", "imageSections", "I", false)
  | 31 => ("ObjectLinksModel", "imageGaps", "I", false)
  | 32 => ("ObjectLinksModel", "imageCommons", "I", false)
  | 33 => ("ObjectLinksModel", "image", "[I", true)
  | 34 => ("ObjectLinksModel", "known", "I", false)
  | 35 => ("ObjectLinksModel", "knownName", "[I", true)
  | 36 => ("ObjectLinksModel", "knownAt", "[I", true)
  | 37 => ("ObjectLinksModel", "written", "I", false)
  | 38 => ("ObjectLinksModel", "bytes", "[I", true)
  | 39 => ("ObjectLinksModel", "at", "I", false)
  | 40 => ("ObjectLinksModel", "good", "Z", false)
  | _ => ("ObjectLinksModel", "end", "I", false)
def t_Mo : Nat → FieldType := fun k => match k with
  | 0 => .int
  | 1 => .int
  | 2 => .array .int
  | 3 => .array .int
  | 4 => .array .int
  | 5 => .array .int
  | 6 => .array .int
  | 7 => .array .int
  | 8 => .array .int
  | 9 => .array .int
  | 10 => .array .int
  | 11 => .array .int
  | 12 => .array .int
  | 13 => .array .int
  | 14 => .array .int
  | 15 => .array .int
  | 16 => .array .int
  | 17 => .array .int
  | 18 => .int
  | 19 => .array .int
  | 20 => .int
  | 21 => .array .boolean
  | 22 => .array .boolean
  | 23 => .array .int
  | 24 => .array .int
  | 25 => .int
  | 26 => .int
  | 27 => .int
  | 28 => .boolean
  | 29 => .int
  | 30 => .int
  | 31 => .int
  | 32 => .int
  | 33 => .array .int
  | 34 => .int
  | 35 => .array .int
  | 36 => .array .int
  | 37 => .int
  | 38 => .array .int
  | 39 => .int
  | 40 => .boolean
  | _ => .int
theorem n_Mo : ∀ a, a < 42 → ∀ b, b < 42 → a ≠ b → (F_Mo a).2.1 ≠ (F_Mo b).2.1 := by decide +kernel
theorem t_Mo_ok : ∀ k, k < 42 → parseFieldDescriptor (F_Mo k).2.2.1 = some (t_Mo k) := by decide +kernel
def R_La : String := "ObjectLinksLaw"
abbrev cls_ : List vw_C := [(R_Li, F_Li, 18), (R_Me, F_Me, 8), (R_Na, F_Na, 4), (R_NT, F_NT, 5), (R_Oc, F_Oc, 2), (R_Re, F_Re, 4), (R_Rf, F_Rf, 5), (R_Se, F_Se, 4), (R_Un, F_Un, 6), (R_OL, F_OL, 4), (R_Mo, F_Mo, 42)]
def oty (r : Nat) (k : Nat) : FieldType := match r with
  | 0 => t_Li k
  | 1 => t_Me k
  | 2 => t_Na k
  | 3 => t_NT k
  | 4 => t_Oc k
  | 5 => t_Re k
  | 6 => t_Rf k
  | 7 => t_Se k
  | 8 => t_Un k
  | 9 => t_OL k
  | _ => t_Mo k
def aty (t : Nat) : FieldType := match t with
  | 0 => .int
  | 1 => .boolean
  | 2 => .long
  | 3 => .object "ObjectLinks$Unit"
  | 4 => .object "ObjectLinks$Section"
  | 5 => .object "ObjectLinks$Name"
  | 6 => .object "ObjectLinks$Reference"
  | _ => .object "ObjectLinks$Meaning"
/-- which kind of array a role is -/
def art (r : Nat) : Nat := match r with
  | 20 => 3
  | 21 => 4
  | 22 => 5
  | 23 => 6
  | 26 => 3
  | 28 => 1
  | 32 => 7
  | 33 => 7
  | 34 => 7
  | 61 => 1
  | 62 => 1
  | 90 => 2
  | _ => 0
def slt (r k : Nat) : FieldType := if r < 20 then oty r k else aty (art r)
def kd (t : FieldType) : Nat := match t with
  | .int => 0 | .boolean => 0 | .long => 2 | .object _ => 1 | .array _ => 1 | _ => 3
def tb_ : List Cond := lw_tbl.filter goodWord
theorem tb_in {w : Cond} (i : Nat) (h : lw_tbl[i]? = some w) (hg : goodWord w = true) : w ∈ tb_ := List.mem_filter.mpr ⟨List.mem_of_getElem? h, hg⟩
theorem tb_good : ∀ w ∈ tb_, goodWord w = true := fun w h => (List.mem_filter.mp h).2
theorem i_Li : ∀ w ∈ u_ws R_Li F_Li 18, w ∈ tb_ := by
  intro w h
  exact List.mem_filter.mpr ⟨(by revert w; decide +kernel : ∀ w ∈ u_ws R_Li F_Li 18, w ∈ lw_tbl) w h, (by revert w; decide +kernel : ∀ w ∈ u_ws R_Li F_Li 18, goodWord w = true) w h⟩
theorem i_Me : ∀ w ∈ u_ws R_Me F_Me 8, w ∈ tb_ := by
  intro w h
  exact List.mem_filter.mpr ⟨(by revert w; decide +kernel : ∀ w ∈ u_ws R_Me F_Me 8, w ∈ lw_tbl) w h, (by revert w; decide +kernel : ∀ w ∈ u_ws R_Me F_Me 8, goodWord w = true) w h⟩
theorem i_Na : ∀ w ∈ u_ws R_Na F_Na 4, w ∈ tb_ := by
  intro w h
  exact List.mem_filter.mpr ⟨(by revert w; decide +kernel : ∀ w ∈ u_ws R_Na F_Na 4, w ∈ lw_tbl) w h, (by revert w; decide +kernel : ∀ w ∈ u_ws R_Na F_Na 4, goodWord w = true) w h⟩
theorem i_NT : ∀ w ∈ u_ws R_NT F_NT 5, w ∈ tb_ := by
  intro w h
  exact List.mem_filter.mpr ⟨(by revert w; decide +kernel : ∀ w ∈ u_ws R_NT F_NT 5, w ∈ lw_tbl) w h, (by revert w; decide +kernel : ∀ w ∈ u_ws R_NT F_NT 5, goodWord w = true) w h⟩
theorem i_Oc : ∀ w ∈ u_ws R_Oc F_Oc 2, w ∈ tb_ := by
  intro w h
  exact List.mem_filter.mpr ⟨(by revert w; decide +kernel : ∀ w ∈ u_ws R_Oc F_Oc 2, w ∈ lw_tbl) w h, (by revert w; decide +kernel : ∀ w ∈ u_ws R_Oc F_Oc 2, goodWord w = true) w h⟩
theorem i_Re : ∀ w ∈ u_ws R_Re F_Re 4, w ∈ tb_ := by
  intro w h
  exact List.mem_filter.mpr ⟨(by revert w; decide +kernel : ∀ w ∈ u_ws R_Re F_Re 4, w ∈ lw_tbl) w h, (by revert w; decide +kernel : ∀ w ∈ u_ws R_Re F_Re 4, goodWord w = true) w h⟩
theorem i_Rf : ∀ w ∈ u_ws R_Rf F_Rf 5, w ∈ tb_ := by
  intro w h
  exact List.mem_filter.mpr ⟨(by revert w; decide +kernel : ∀ w ∈ u_ws R_Rf F_Rf 5, w ∈ lw_tbl) w h, (by revert w; decide +kernel : ∀ w ∈ u_ws R_Rf F_Rf 5, goodWord w = true) w h⟩
theorem i_Se : ∀ w ∈ u_ws R_Se F_Se 4, w ∈ tb_ := by
  intro w h
  exact List.mem_filter.mpr ⟨(by revert w; decide +kernel : ∀ w ∈ u_ws R_Se F_Se 4, w ∈ lw_tbl) w h, (by revert w; decide +kernel : ∀ w ∈ u_ws R_Se F_Se 4, goodWord w = true) w h⟩
theorem i_Un : ∀ w ∈ u_ws R_Un F_Un 6, w ∈ tb_ := by
  intro w h
  exact List.mem_filter.mpr ⟨(by revert w; decide +kernel : ∀ w ∈ u_ws R_Un F_Un 6, w ∈ lw_tbl) w h, (by revert w; decide +kernel : ∀ w ∈ u_ws R_Un F_Un 6, goodWord w = true) w h⟩
theorem i_OL : ∀ w ∈ u_ws R_OL F_OL 4, w ∈ tb_ := by
  intro w h
  exact List.mem_filter.mpr ⟨(by revert w; decide +kernel : ∀ w ∈ u_ws R_OL F_OL 4, w ∈ lw_tbl) w h, (by revert w; decide +kernel : ∀ w ∈ u_ws R_OL F_OL 4, goodWord w = true) w h⟩
theorem i_Mo : ∀ w ∈ u_ws R_Mo F_Mo 42, w ∈ tb_ := by
  intro w h
  exact List.mem_filter.mpr ⟨(by revert w; decide +kernel : ∀ w ∈ u_ws R_Mo F_Mo 42, w ∈ lw_tbl) w h, (by revert w; decide +kernel : ∀ w ∈ u_ws R_Mo F_Mo 42, goodWord w = true) w h⟩
end
section
/-! the abstract machine: cells have names (role, i, j); a state is: which are there, their whole numbers, their references, their longs -/
abbrev Pt3 : Type := Nat × Nat × Nat
abbrev SV : Type := Int32 ⊕ (Int64 ⊕ Option Pt3)
abbrev Ad : Type := Nat → Nat → Nat → Nat
abbrev Nu : Type := Nat → Nat → Nat → Option Nat
abbrev Io : Type := Nat → Nat → Nat → Nat → Int32
abbrev Ro : Type := Nat → Nat → Nat → Nat → Option Pt3
abbrev Lo : Type := Nat → Nat → Nat → Nat → Int64
abbrev GD : Type := (Nat → ClassId) × (Nat → Nat → Nat) × (Nat → ClassId)
abbrev sI (x : Int32) : SV := Sum.inl x
abbrev sL (x : Int64) : SV := Sum.inr (Sum.inl x)
abbrev sQ (q : Option Pt3) : SV := Sum.inr (Sum.inr q)
abbrev sN : SV := Sum.inr (Sum.inr none)
abbrev sR (r i j : Nat) : SV := Sum.inr (Sum.inr (some (r, i, j)))
def ad3 (α : Ad) (q : Pt3) : Nat := α q.1 q.2.1 q.2.2
def enc (α : Ad) : SV → Value
  | .inl x => .int x
  | .inr (.inl x) => .long x
  | .inr (.inr none) => .null
  | .inr (.inr (some q)) => .ref (ad3 α q)
def scat : SV → Nat
  | .inr (.inl _) => 2
  | _ => 1
theorem enc_cat (α : Ad) (v : SV) : (enc α v).category = scat v := by
  rcases v with x | x | _ | q <;> rfl
def up3 {β : Type} (f : Nat → Nat → Nat → β) (r i j : Nat) (x : β) : Nat → Nat → Nat → β := fun r' i' j' => if r' = r ∧ i' = i ∧ j' = j then x else f r' i' j'
def up4 {β : Type} (f : Nat → Nat → Nat → Nat → β) (r i j k : Nat) (x : β) : Nat → Nat → Nat → Nat → β := fun r' i' j' k' => if r' = r ∧ i' = i ∧ j' = j ∧ k' = k then x else f r' i' j' k'
def upA {β : Type} (f : Nat → Nat → Nat → Nat → β) (r i j : Nat) (x : Nat → β) : Nat → Nat → Nat → Nat → β := fun r' i' j' k' => if r' = r ∧ i' = i ∧ j' = j then x k' else f r' i' j' k'
theorem up3_s {β : Type} {f : Nat → Nat → Nat → β} {r i j : Nat} {x : β} : up3 f r i j x r i j = x := by simp [up3]
theorem up4_s {β : Type} {f : Nat → Nat → Nat → Nat → β} {r i j k : Nat} {x : β} : up4 f r i j k x r i j k = x := by simp [up4]
theorem upA_s {β : Type} {f : Nat → Nat → Nat → Nat → β} {r i j k : Nat} {x : Nat → β} : upA f r i j x r i j k = x k := by simp [upA]
def cont (α : Ad) (ι : Io) (ρ : Ro) (ℓ : Lo) (r i j k : Nat) : Value := match kd (slt r k) with
  | 0 => .int (ι r i j k)
  | 1 => enc α (sQ (ρ r i j k))
  | _ => .long (ℓ r i j k)
theorem cont_I {α : Ad} {ι : Io} {ρ : Ro} {ℓ : Lo} {r i j k : Nat} (h : kd (slt r k) = 0) : cont α ι ρ ℓ r i j k = .int (ι r i j k) := by simp [cont, h]
theorem cont_R {α : Ad} {ι : Io} {ρ : Ro} {ℓ : Lo} {r i j k : Nat} (h : kd (slt r k) = 1) : cont α ι ρ ℓ r i j k = enc α (sQ (ρ r i j k)) := by simp [cont, h]
theorem cont_L {α : Ad} {ι : Io} {ρ : Ro} {ℓ : Lo} {r i j k : Nat} (h : kd (slt r k) = 2) : cont α ι ρ ℓ r i j k = .long (ℓ r i j k) := by simp [cont, h]
def cellA (D : GD) (α : Ad) (ι : Io) (ρ : Ro) (ℓ : Lo) (r i j n : Nat) (H : Heap) : Prop :=
  (r < 20 → ∃ q : vw_C, cls_[r]? = some q ∧ n = q.2.2 ∧ t_OB (α r i j) (D.1 r) q.2.2 (D.2.1 r) H (cont α ι ρ ℓ r i j)) ∧
  (20 ≤ r → H[α r i j]? = some (arrV (D.2.2 (art r)) n (cont α ι ρ ℓ r i j)))
theorem arrV_congr {c : ClassId} {n : Nat} {f g : Nat → Value} (h : ∀ k, k < n → f k = g k) : arrV c n f = arrV c n g := by
  unfold arrV
  congr 2
  funext j
  exact h j.val j.isLt
theorem cellA.to {D : GD} {α α' : Ad} {ι ι' : Io} {ρ ρ' : Ro} {ℓ ℓ' : Lo} {r i j n : Nat} {H H' : Heap} (h : cellA D α ι ρ ℓ r i j n H) (ha : α' r i j = α r i j) (hH : H'[α r i j]? = H[α r i j]?) (hc : ∀ k, k < n → cont α ι ρ ℓ r i j k = cont α' ι' ρ' ℓ' r i j k) : cellA D α' ι' ρ' ℓ' r i j n H' := by
  refine ⟨fun hr => ?_, fun hr => ?_⟩
  · obtain ⟨q, h1, h2, h3⟩ := h.1 hr
    refine ⟨q, h1, h2, ?_⟩
    rw [ha]
    exact (h3.kept hH).to (fun k hk => hc k (by omega))
  · rw [ha, hH, h.2 hr, arrV_congr hc]
theorem cellA.lt {D : GD} {α : Ad} {ι : Io} {ρ : Ro} {ℓ : Lo} {r i j n : Nat} {H : Heap} (h : cellA D α ι ρ ℓ r i j n H) : α r i j < H.size := by
  by_cases hr : r < 20
  · obtain ⟨q, -, -, cell, h3, -⟩ := h.1 hr
    exact (Array.getElem?_eq_some_iff.mp h3).1
  · exact (Array.getElem?_eq_some_iff.mp (h.2 (by omega))).1
/-- a name that may stand on a stack: its cell is there; or one of the two given arrays -/
def alv (ν : Nu) (q : Pt3) : Prop := ν q.1 q.2.1 q.2.2 ≠ none ∨ 98 ≤ q.1
def wfv (ν : Nu) (v : SV) : Prop := ∀ q, v = sQ (some q) → alv ν q
def wfl (ν : Nu) (l : List SV) : Prop := ∀ v ∈ l, wfv ν v
theorem wfv_I {ν : Nu} {x : Int32} : wfv ν (sI x) := fun q h => by cases h
theorem wfv_L {ν : Nu} {x : Int64} : wfv ν (sL x) := fun q h => by cases h
theorem wfv_N {ν : Nu} : wfv ν sN := fun q h => by cases h
theorem wfl_c {ν : Nu} {v : SV} {l : List SV} (h : wfv ν v) (h2 : wfl ν l) : wfl ν (v :: l) := fun w hw => by
  rcases List.mem_cons.mp hw with e | e
  · rw [e]; exact h
  · exact h2 w e
theorem wfl_h {ν : Nu} {v : SV} {l : List SV} (h : wfl ν (v :: l)) : wfv ν v := h v List.mem_cons_self
theorem wfl_t {ν : Nu} {v : SV} {l : List SV} (h : wfl ν (v :: l)) : wfl ν l := fun w hw => h w (List.mem_cons_of_mem _ hw)
theorem wfl_n {ν : Nu} : wfl ν [] := fun w hw => by cases hw
theorem wfl_up {ν ν' : Nu} {l : List SV} (h : wfl ν l) (hn : ∀ q, alv ν q → alv ν' q) : wfl ν' l := fun v hv q e => hn q (h v hv q e)
def Rh (D : GD) (B : Nat) (α : Ad) (ν : Nu) (ι : Io) (ρ : Ro) (ℓ : Lo) (H : Heap) : Prop :=
  (∀ a b c a' b' c', a < 98 → a' < 98 → α a b c = α a' b' c' → a = a' ∧ b = b' ∧ c = c') ∧
  (∀ r i j n, ν r i j = some n → r < 98 ∧ n < 2147483648 ∧ cellA D α ι ρ ℓ r i j n H ∧ B ≤ α r i j) ∧
  (∀ r i j n k q, ν r i j = some n → k < n → kd (slt r k) = 1 → ρ r i j k = some q → alv ν q) ∧ B ≤ H.size
theorem enc_ag {α α' : Ad} {ν : Nu} {v : SV} (hw : wfv ν v) (h : ∀ r i j, 98 ≤ r ∨ ν r i j ≠ none → α' r i j = α r i j) : enc α' v = enc α v := by
  rcases v with x | x | _ | q
  · rfl
  · rfl
  · rfl
  · have := hw q rfl
    show Value.ref (ad3 α' q) = Value.ref (ad3 α q)
    unfold ad3
    rw [h q.1 q.2.1 q.2.2 (this.elim Or.inr Or.inl)]
theorem encl_ag {α α' : Ad} {ν : Nu} {l : List SV} (hw : wfl ν l) (h : ∀ r i j, 98 ≤ r ∨ ν r i j ≠ none → α' r i j = α r i j) : l.map (enc α') = l.map (enc α) :=
  List.map_congr_left fun v hv => enc_ag (hw v hv) h
def nwM : List (String × Nat × MethodName × String) := [("ObjectLinks", 17, ⟨"ObjectLinks$Linker", "<init>", "()V"⟩, "ObjectLinks"), ("ObjectLinks$NameTable", 23, ⟨"ObjectLinks$Meaning", "<init>", "()V"⟩, "ObjectLinks"), ("ObjectLinks", 24, ⟨"ObjectLinks$Octets", "<init>", "()V"⟩, "ObjectLinks"), ("ObjectLinks", 40, ⟨"ObjectLinks$Unit", "<init>", "()V"⟩, "ObjectLinks"), ("ObjectLinks$NameTable", 55, ⟨"ObjectLinks", "slotOf", "(II)I"⟩, "ObjectLinks"), ("ObjectLinks$Linker", 168, ⟨"ObjectLinks", "slotOf", "(II)I"⟩, "ObjectLinks"), ("ObjectLinks$Reader", 29, ⟨"ObjectLinks$Unit", "<init>", "()V"⟩, "ObjectLinks")]
def nwF : List (String × Nat × String × String × String × String) := [("ObjectLinks$Unit", 60, "ObjectLinks", "WIDTHS", "[I", "ObjectLinks"), ("ObjectLinks$Linker", 224, "ObjectLinks", "WIDTHS", "[I", "ObjectLinks")]
def nwC : List (String × String) := [("java/lang/UnsupportedOperationException", "java/lang/UnsupportedOperationException"), ("java/lang/IndexOutOfBoundsException", "java/lang/IndexOutOfBoundsException"), ("java/lang/IllegalArgumentException", "java/lang/IllegalArgumentException"), ("java/lang/IllegalStateException", "java/lang/IllegalStateException")]
def ao_ : List String := ["ObjectLinks$Unit", "ObjectLinks$Meaning", "ObjectLinks$Section", "ObjectLinks$Name", "ObjectLinks$Reference"]
def nc_ : List (String × String) := [("java/lang/IndexOutOfBoundsException", "java/lang/UnsupportedOperationException"), ("java/lang/IllegalArgumentException", "java/lang/UnsupportedOperationException"), ("java/lang/IllegalStateException", "java/lang/UnsupportedOperationException"), ("java/lang/UnsupportedOperationException", "java/lang/IndexOutOfBoundsException"), ("java/lang/IllegalArgumentException", "java/lang/IndexOutOfBoundsException"), ("java/lang/IllegalStateException", "java/lang/IndexOutOfBoundsException"), ("java/lang/UnsupportedOperationException", "java/lang/IllegalArgumentException"), ("java/lang/IndexOutOfBoundsException", "java/lang/IllegalArgumentException"), ("java/lang/IllegalStateException", "java/lang/IllegalArgumentException"), ("java/lang/UnsupportedOperationException", "java/lang/IllegalStateException"), ("java/lang/IndexOutOfBoundsException", "java/lang/IllegalStateException"), ("java/lang/IllegalArgumentException", "java/lang/IllegalStateException")]
def st_ : List (String × Nat × String) := [("ObjectLinks", 35, "there are twelve objects"), ("ObjectLinks", 230, "no such object"), ("ObjectLinks", 57, "no such kind, alignment or length"), ("ObjectLinks", 63, "there are eight sections"), ("ObjectLinks", 79, "no such section, or it is empty"), ("ObjectLinks", 85, "the section has no such byte"), ("ObjectLinks", 95, "such a name can not be, or is there already"), ("ObjectLinks", 100, "there are twelve names"), ("ObjectLinks", 114, "no such section, place, way or name"), ("ObjectLinks", 119, "there are sixteen references"), ("ObjectLinks", 134, "the object is chosen already"), ("ObjectLinks", 141, "no such base"), ("ObjectLinks", 148, "nothing is chosen"), ("ObjectLinks", 155, "the linking has a fault"), ("ObjectLinks", 171, "a fault is told by 0, 1 and 2"), ("ObjectLinks", 174, "the image has no such byte"), ("ObjectLinks", 179, "no such section"), ("ObjectLinks", 196, "no such byte was written"), ("ObjectLinks", 201, "that is no byte"), ("ObjectLinks", 203, "no so many bytes to cut"), ("ObjectLinks", 214, "those are no object as bytes")]
def wid_ : Nat → Value := fun j => match j with
  | 0 => .int 4
  | 1 => .int 2
  | 2 => .int 2
  | 3 => .int 1
  | _ => .int 2
abbrev uB (B : Nat) : Nat → Prop := fun q => B ≤ q
/-- the given cells of the start that throws and the static array need -/
def KH (B tW : Nat) (U : State) (H : Heap) : Prop := vx_Zq Bundle.tN "UNASSIGNED_STACK" Bundle.steD (uB B) U H ∧ vx_Zq Bundle.tN "SUPPRESSED_SENTINEL" Bundle.listD (uB B) U H ∧ va_Z "ObjectLinks" "WIDTHS" "[I" (.ref tW) (uB B) U H ∧ va_T .int tW 5 wid_ (uB B) U H
def KT (D : GD) (U : State) : Prop :=
  (∀ (c : Nat) (q : vw_C), cls_[c]? = some q → u_Kn U q.1 q.2.1 q.2.2 (D.1 c) (D.2.1 c)) ∧ (∀ t, t < 8 → ArrOfT U (D.2.2 t) (aty t) ∧ va_RA U (D.2.2 t) (aty t)) ∧
  (∀ q ∈ nwM, va_Nw (.methodLinkNest q.1 q.2.1 q.2.2.1 q.2.2.2) U) ∧ (∀ q ∈ nwF, va_Nw (.fieldLinkNest q.1 q.2.1 q.2.2.1 q.2.2.2.1 q.2.2.2.2.1 q.2.2.2.2.2) U) ∧ (∀ q ∈ nwC, va_Nw (.castable q.1 q.2) U) ∧
  (∀ C ∈ ao_, va_AO C U) ∧ (∀ q ∈ nc_, va_Nc q.1 q.2 U) ∧ (∀ q ∈ st_, ∃ a, vk_R q.1 q.2.1 q.2.2 a U)
def KS (D : GD) (B tW : Nat) (U : State) : Prop := KT D U ∧ KH B tW U U.heap
theorem KT.to {D : GD} {s U : State} (h : KT D s) (hW : s.WarmedH U.vm) : KT D U := by
  obtain ⟨h1, h2, h3, h4, h5, h6, h7, h8⟩ := h
  refine ⟨fun c q hq => u_Kn_moved hW.alike (h1 c q hq), fun t ht => ⟨arrOfT_moved hW.alike (h2 t ht).1, (h2 t ht).2.moved hW.alike⟩, fun q hq => va_Nw.warmM hW (h3 q hq), fun q hq => va_Nw.warmF hW (h4 q hq), fun q hq => va_Nw.warmC hW (h5 q hq), fun C hC => va_AO.moved hW.alike (h6 C hC), fun q hq => va_Nc.moved hW.alike (h7 q hq), fun q hq => ?_⟩
  obtain ⟨a, ha⟩ := h8 q hq
  exact ⟨a, vk_R.warm hW ha⟩
theorem KH.to {B tW : Nat} {s U : State} {H H' : Heap} (h : KH B tW s H) (hW : s.vm.Alike U.vm) (hq : ∀ q : Nat, q < H.size → ¬ uB B q → H'[q]? = H[q]?) : KH B tW U H' :=
  ⟨(h.1.kept hq).moved hW, (h.2.1.kept hq).moved hW, (h.2.2.1.kept hq).moved hW, (h.2.2.2.kept hq).moved hW⟩
theorem KS.to {D : GD} {B tW : Nat} {s U : State} (h : KS D B tW s) (hW : s.WarmedH U.vm) (hq : ∀ q : Nat, q < s.heap.size → ¬ uB B q → U.heap[q]? = s.heap[q]?) : KS D B tW U :=
  ⟨h.1.to hW, h.2.to hW.alike hq⟩
abbrev PoT : Type := Option SV → Nu → Io → Ro → Lo → Prop
abbrev PxT : Type := String → Nu → Io → Ro → Lo → Prop
/-- names that were there stay, at their places -/
def agr (α0 : Ad) (ν0 : Nu) (α : Ad) (ν : Nu) : Prop := (∀ r i j, ν0 r i j ≠ none → ν r i j ≠ none) ∧ ∀ r i j, 98 ≤ r ∨ ν0 r i j ≠ none → α r i j = α0 r i j
theorem agr.rf {α : Ad} {ν : Nu} : agr α ν α ν := ⟨fun _ _ _ h => h, fun _ _ _ _ => rfl⟩
theorem agr.tr {α0 α1 α2 : Ad} {ν0 ν1 ν2 : Nu} (h : agr α0 ν0 α1 ν1) (k : agr α1 ν1 α2 ν2) : agr α0 ν0 α2 ν2 :=
  ⟨fun r i j h0 => k.1 r i j (h.1 r i j h0), fun r i j h0 => by rw [k.2 r i j (h0.imp id (h.1 r i j)), h.2 r i j h0]⟩
theorem agr.alv {α0 α1 : Ad} {ν0 ν1 : Nu} (h : agr α0 ν0 α1 ν1) (q : Pt3) (hq : alv ν0 q) : alv ν1 q := hq.imp (h.1 _ _ _) id
def cP (D : GD) (B tW : Nat) (α : Ad) (ν : Nu) (ι : Io) (ρ : Ro) (ℓ : Lo) (as : List SV) : Array Value → State → Prop := fun a U => a = (as.map (enc α)).toArray ∧ Rh D B α ν ι ρ ℓ U.heap ∧ KS D B tW U ∧ α 99 0 0 = tW ∧ wfl ν as
def cQ (D : GD) (B : Nat) (α0 : Ad) (ν0 : Nu) (Po : PoT) : Array Value → State → Outcome → State → Prop := fun _ st oc t => (∃ (α : Ad) (ν : Nu) (ι : Io) (ρ : Ro) (ℓ : Lo) (v : Option SV), oc = .returned (v.map (enc α)) ∧ Po v ν ι ρ ℓ ∧ Rh D B α ν ι ρ ℓ t.heap ∧ agr α0 ν0 α ν ∧ (∀ w, v = some w → wfv ν w)) ∧ va_F (uB B) st t
def cX (D : GD) (B : Nat) (α0 : Ad) (ν0 : Nu) (PX : PxT) : String → State → State → Prop := fun E st t => (∃ (α : Ad) (ν : Nu) (ι : Io) (ρ : Ro) (ℓ : Lo), PX E ν ι ρ ℓ ∧ Rh D B α ν ι ρ ℓ t.heap ∧ agr α0 ν0 α ν) ∧ va_F (uB B) st t
/-- THE CONTRACT of a method: from the named state, at these arguments: it returns with Po, or throws with PX -/
def Ct (y : MethodName) (ws : List Cond) (rm : Room) (as : List SV) (ν : Nu) (ι : Io) (ρ : Ro) (ℓ : Lo) (Po : PoT) (PX : PxT) : Prop :=
  ∀ (l : Launch) (D : GD) (B tW : Nat) (α : Ad), l.stackTraces = false → vx_Met l y ws rm (cP D B tW α ν ι ρ ℓ as) (cQ D B α ν Po) (cX D B α ν PX) rm.cells rm.slots (uB B)
abbrev noX : PxT := fun _ _ _ _ _ => False
end
section
section Am
variable {p : Program} {l : Launch} {e : Env} {R : Room} {s : State} {m : MethodId} {args : Array Value} {below : List Frame} {meth : Method} {c : Code} {D : GD} {B tW : Nat} {α0 : Ad} {ν0 : Nu} {own : String} {cc : ByteArray} {nL : Nat} {ret : Option FieldType} {mn : String} {tab : List ExceptionTableEntry} {Q : State → Prop} {cells slots : Nat} {ν : Nu} {ι : Io} {ρ : Ro} {ℓ : Lo} {pc : Nat} {lv lv' : List (Nat × SV)} {st : List SV}
/-- what is known in a method's body -/
def Cx (p : Program) (l : Launch) (s : State) (m : MethodId) (args : Array Value) (meth : Method) (c : Code) (D : GD) (B tW : Nat) (α0 : Ad) (own : String) (cc : ByteArray) (nL : Nat) (ret : Option FieldType) (mn : String) (tab : List ExceptionTableEntry) : Prop :=
  p.tables.exec = Jvm.exec ∧ c.code = cc ∧ c.maxLocals = nL ∧ s.vm.findClass own = some m.cls ∧ (∀ w ∈ tb_, w.before args s = true) ∧ KS D B tW s ∧ B ≤ s.heap.size ∧ meth.sig.returnType = ret ∧ meth.locks = false ∧ l.stackTraces = false ∧ c.exceptionTable.toList = tab ∧ meth.name = mn ∧ α0 99 0 0 = tW
/-- THE JUDGEMENT: from this point of the body, in this named state, the machine comes to Q -/
def V (p : Program) (l : Launch) (e : Env) (R : Room) (s : State) (m : MethodId) (args : Array Value) (below : List Frame) (meth : Method) (c : Code) (D : GD) (B : Nat) (α0 : Ad) (ν0 : Nu) (nL : Nat) (Q : State → Prop) (cells slots : Nat) (ν : Nu) (ι : Io) (ρ : Ro) (ℓ : Lo) (pc : Nat) (lv : List (Nat × SV)) (st : List SV) : Prop :=
  ∀ (α : Ad) (H : Heap) (locs : List Loc) (ls : Array Slot), Rh D B α ν ι ρ ℓ H → va_S (uB B) s.heap H locs → lv_has ls nL (lv.map (fun q => (q.1, enc α q.2))) → agr α0 ν0 α ν → wfl ν (lv.map Prod.snd) → wfl ν st → W p l e R s m args below meth c H locs cells slots Q (F0 m pc ls (st.map (enc α)))
def lget : List (Nat × SV) → Nat → Option SV
  | [], _ => none
  | (j, v) :: t, i => cond (Nat.beq j i) (some v) (lget t i)
theorem lget_mem {lv : List (Nat × SV)} {i : Nat} {v : SV} (h : lget lv i = some v) : (i, v) ∈ lv := by
  induction lv with
  | nil => cases h
  | cons a t ih =>
    obtain ⟨j, w⟩ := a
    unfold lget at h
    cases hb : Nat.beq j i with
    | true =>
      rw [hb] at h
      have e1 := Nat.eq_of_beq_eq_true hb
      cases h
      rw [e1]
      exact List.mem_cons_self
    | false =>
      rw [hb] at h
      exact List.mem_cons_of_mem _ (ih h)
theorem lget_at {α : Ad} {ls : Array Slot} {i : Nat} {v : SV} (h : lget lv i = some v) (hl : lv_has ls nL (lv.map (fun q => (q.1, enc α q.2)))) : ls[i]? = some (.val (enc α v)) :=
  hl.2.2 (i, enc α v) (List.mem_map.mpr ⟨(i, v), lget_mem h, rfl⟩)
theorem lget_wf {i : Nat} {v : SV} (h : lget lv i = some v) (hw : wfl ν (lv.map Prod.snd)) : wfv ν v := hw v (List.mem_map.mpr ⟨(i, v), lget_mem h, rfl⟩)
def ldel : Nat → List (Nat × SV) → List (Nat × SV)
  | _, [] => []
  | i, (j, v) :: t => cond (Nat.beq j i || (Nat.beq (j + 1) i && Nat.beq (scat v) 2)) (ldel i t) ((j, v) :: ldel i t)
def ldel2 : Nat → List (Nat × SV) → List (Nat × SV)
  | _, [] => []
  | i, (j, v) :: t => cond (Nat.beq j i || (Nat.beq j (i + 1) || (Nat.beq (j + 1) i && Nat.beq (scat v) 2))) (ldel2 i t) ((j, v) :: ldel2 i t)
theorem nbeq (a b : Nat) : Nat.beq a b = (a == b) := by rw [Bool.eq_iff_iff, Nat.beq_eq, beq_iff_eq]
theorem ldel_f (α : Ad) (i : Nat) (lv : List (Nat × SV)) : (lv.map (fun q => (q.1, enc α q.2))).filter (fun q => !(q.1 == i) && !(q.1 + 1 == i && q.2.category == 2)) = (ldel i lv).map (fun q => (q.1, enc α q.2)) := by
  induction lv with
  | nil => rfl
  | cons a t ih =>
    obtain ⟨j, v⟩ := a
    unfold ldel
    rw [List.map_cons, List.filter_cons, ih]
    simp only [enc_cat, nbeq]
    cases h1 : (j == i) <;> cases h2 : (j + 1 == i && scat v == 2) <;> simp
theorem ldel2_f (α : Ad) (i : Nat) (lv : List (Nat × SV)) : (lv.map (fun q => (q.1, enc α q.2))).filter (fun q => !(q.1 == i) && (!(q.1 == i + 1) && !(q.1 + 1 == i && q.2.category == 2))) = (ldel2 i lv).map (fun q => (q.1, enc α q.2)) := by
  induction lv with
  | nil => rfl
  | cons a t ih =>
    obtain ⟨j, v⟩ := a
    unfold ldel2
    rw [List.map_cons, List.filter_cons, ih]
    simp only [enc_cat, nbeq]
    cases h1 : (j == i) <;> cases h3 : (j == i + 1) <;> cases h2 : (j + 1 == i && scat v == 2) <;> simp
theorem ldel_wf {i : Nat} (hw : wfl ν (lv.map Prod.snd)) : wfl ν ((ldel i lv).map Prod.snd) := by
  induction lv with
  | nil => exact hw
  | cons a t ih =>
    obtain ⟨j, v⟩ := a
    unfold ldel
    cases (Nat.beq j i || (Nat.beq (j + 1) i && Nat.beq (scat v) 2))
    · exact wfl_c (wfl_h hw) (ih (wfl_t hw))
    · exact ih (wfl_t hw)
theorem ldel2_wf {i : Nat} (hw : wfl ν (lv.map Prod.snd)) : wfl ν ((ldel2 i lv).map Prod.snd) := by
  induction lv with
  | nil => exact hw
  | cons a t ih =>
    obtain ⟨j, v⟩ := a
    unfold ldel2
    cases (Nat.beq j i || (Nat.beq j (i + 1) || (Nat.beq (j + 1) i && Nat.beq (scat v) 2)))
    · exact wfl_c (wfl_h hw) (ih (wfl_t hw))
    · exact ih (wfl_t hw)
theorem V_iconst {n : Int} {v : Int32} (C : Cx p l s m args meth c D B tW α0 own cc nL ret mn tab) (hd : decode cc pc = .ok (.iconst n, 1)) (hv : Int32.ofInt n = v) (k : V p l e R s m args below meth c D B α0 ν0 nL Q cells slots ν ι ρ ℓ (pc + 1) lv (sI v :: st)) : V p l e R s m args below meth c D B α0 ν0 nL Q cells slots ν ι ρ ℓ pc lv st := by
  intro α H locs ls hR hS hl h0 h1 h2
  exact lv_iconst C.1 C.2.1 hd hv (k α H locs ls hR hS hl h0 h1 (wfl_c wfv_I h2))
theorem V_bipush {n : Int} {v : Int32} (C : Cx p l s m args meth c D B tW α0 own cc nL ret mn tab) (hd : decode cc pc = .ok (.bipush n, 2)) (hv : (Int8.ofInt n).toInt32 = v) (k : V p l e R s m args below meth c D B α0 ν0 nL Q cells slots ν ι ρ ℓ (pc + 2) lv (sI v :: st)) : V p l e R s m args below meth c D B α0 ν0 nL Q cells slots ν ι ρ ℓ pc lv st := by
  intro α H locs ls hR hS hl h0 h1 h2
  exact lv_bipush C.1 C.2.1 hd hv (k α H locs ls hR hS hl h0 h1 (wfl_c wfv_I h2))
theorem V_sipush {n : Int} {v : Int32} (C : Cx p l s m args meth c D B tW α0 own cc nL ret mn tab) (hd : decode cc pc = .ok (.sipush n, 3)) (hv : (Int16.ofInt n).toInt32 = v) (k : V p l e R s m args below meth c D B α0 ν0 nL Q cells slots ν ι ρ ℓ (pc + 3) lv (sI v :: st)) : V p l e R s m args below meth c D B α0 ν0 nL Q cells slots ν ι ρ ℓ pc lv st := by
  intro α H locs ls hR hS hl h0 h1 h2
  exact lv_sipush C.1 C.2.1 hd hv (k α H locs ls hR hS hl h0 h1 (wfl_c wfv_I h2))
theorem V_lconst {n : Fin 2} {v : Int64} (C : Cx p l s m args meth c D B tW α0 own cc nL ret mn tab) (hd : decode cc pc = .ok (.lconst n, 1)) (hv : Int64.ofNat (n : Nat) = v) (k : V p l e R s m args below meth c D B α0 ν0 nL Q cells slots ν ι ρ ℓ (pc + 1) lv (sL v :: st)) : V p l e R s m args below meth c D B α0 ν0 nL Q cells slots ν ι ρ ℓ pc lv st := by
  intro α H locs ls hR hS hl h0 h1 h2
  exact lv_lconst C.1 C.2.1 hd hv (k α H locs ls hR hS hl h0 h1 (wfl_c wfv_L h2))
theorem V_ldc {i : Nat} {v : Int32} (C : Cx p l s m args meth c D B tW α0 own cc nL ret mn tab) (hd : decode cc pc = .ok (.ldc i, 2)) (hw : Cond.constant own i v ∈ tb_) (k : V p l e R s m args below meth c D B α0 ν0 nL Q cells slots ν ι ρ ℓ (pc + 2) lv (sI v :: st)) : V p l e R s m args below meth c D B α0 ν0 nL Q cells slots ν ι ρ ℓ pc lv st := by
  intro α H locs ls hR hS hl h0 h1 h2
  exact lv_ldc C.1 C.2.1 C.2.2.2.1 (C.2.2.2.2.1 _ hw) hd (k α H locs ls hR hS hl h0 h1 (wfl_c wfv_I h2))
theorem V_ldc2 {i : Nat} {v : Int64} (C : Cx p l s m args meth c D B tW α0 own cc nL ret mn tab) (hd : decode cc pc = .ok (.ldc2_w i, 3)) (hw : Cond.constantLong own i v ∈ tb_) (k : V p l e R s m args below meth c D B α0 ν0 nL Q cells slots ν ι ρ ℓ (pc + 3) lv (sL v :: st)) : V p l e R s m args below meth c D B α0 ν0 nL Q cells slots ν ι ρ ℓ pc lv st := by
  intro α H locs ls hR hS hl h0 h1 h2
  exact lv_ldc2 C.1 C.2.1 C.2.2.2.1 (C.2.2.2.2.1 _ hw) hd (k α H locs ls hR hS hl h0 h1 (wfl_c wfv_L h2))
theorem V_null  (C : Cx p l s m args meth c D B tW α0 own cc nL ret mn tab) (hd : decode cc pc = .ok (.aconst_null, 1)) (k : V p l e R s m args below meth c D B α0 ν0 nL Q cells slots ν ι ρ ℓ (pc + 1) lv (sN :: st)) : V p l e R s m args below meth c D B α0 ν0 nL Q cells slots ν ι ρ ℓ pc lv st := by
  intro α H locs ls hR hS hl h0 h1 h2
  exact lv_null C.1 C.2.1 hd (k α H locs ls hR hS hl h0 h1 (wfl_c wfv_N h2))
theorem V_iload_n {n : Fin 4} {x : Int32} (C : Cx p l s m args meth c D B tW α0 own cc nL ret mn tab) (hd : decode cc pc = .ok (.iload_n n, 1)) (hg : lget lv n = some (sI x)) (k : V p l e R s m args below meth c D B α0 ν0 nL Q cells slots ν ι ρ ℓ (pc + 1) lv (sI x :: st)) : V p l e R s m args below meth c D B α0 ν0 nL Q cells slots ν ι ρ ℓ pc lv st := by
  intro α H locs ls hR hS hl h0 h1 h2
  exact lv_iload_n C.1 C.2.1 hd rfl (lget_at hg hl) (k α H locs ls hR hS hl h0 h1 (wfl_c wfv_I h2))
theorem V_iload {n : Nat} {x : Int32} (C : Cx p l s m args meth c D B tW α0 own cc nL ret mn tab) (hd : decode cc pc = .ok (.iload n, 2)) (hg : lget lv n = some (sI x)) (k : V p l e R s m args below meth c D B α0 ν0 nL Q cells slots ν ι ρ ℓ (pc + 2) lv (sI x :: st)) : V p l e R s m args below meth c D B α0 ν0 nL Q cells slots ν ι ρ ℓ pc lv st := by
  intro α H locs ls hR hS hl h0 h1 h2
  exact lv_iload C.1 C.2.1 hd (lget_at hg hl) (k α H locs ls hR hS hl h0 h1 (wfl_c wfv_I h2))
theorem V_lload_n {n : Fin 4} {x : Int64} (C : Cx p l s m args meth c D B tW α0 own cc nL ret mn tab) (hd : decode cc pc = .ok (.lload_n n, 1)) (hg : lget lv n = some (sL x)) (k : V p l e R s m args below meth c D B α0 ν0 nL Q cells slots ν ι ρ ℓ (pc + 1) lv (sL x :: st)) : V p l e R s m args below meth c D B α0 ν0 nL Q cells slots ν ι ρ ℓ pc lv st := by
  intro α H locs ls hR hS hl h0 h1 h2
  exact lv_lload_n C.1 C.2.1 hd rfl (lget_at hg hl) (k α H locs ls hR hS hl h0 h1 (wfl_c wfv_L h2))
theorem V_lload {n : Nat} {x : Int64} (C : Cx p l s m args meth c D B tW α0 own cc nL ret mn tab) (hd : decode cc pc = .ok (.lload n, 2)) (hg : lget lv n = some (sL x)) (k : V p l e R s m args below meth c D B α0 ν0 nL Q cells slots ν ι ρ ℓ (pc + 2) lv (sL x :: st)) : V p l e R s m args below meth c D B α0 ν0 nL Q cells slots ν ι ρ ℓ pc lv st := by
  intro α H locs ls hR hS hl h0 h1 h2
  exact lv_lload C.1 C.2.1 hd (lget_at hg hl) (k α H locs ls hR hS hl h0 h1 (wfl_c wfv_L h2))
theorem V_aload_n {n : Fin 4} {x : Option Pt3} (C : Cx p l s m args meth c D B tW α0 own cc nL ret mn tab) (hd : decode cc pc = .ok (.aload_n n, 1)) (hg : lget lv n = some (sQ x)) (k : V p l e R s m args below meth c D B α0 ν0 nL Q cells slots ν ι ρ ℓ (pc + 1) lv (sQ x :: st)) : V p l e R s m args below meth c D B α0 ν0 nL Q cells slots ν ι ρ ℓ pc lv st := by
  intro α H locs ls hR hS hl h0 h1 h2
  cases x with
  | none => exact lv_aload_nN C.1 C.2.1 hd rfl (lget_at hg hl) (k α H locs ls hR hS hl h0 h1 (wfl_c (lget_wf hg h1) h2))
  | some q => exact lv_aload_n C.1 C.2.1 hd rfl (lget_at hg hl) (k α H locs ls hR hS hl h0 h1 (wfl_c (lget_wf hg h1) h2))
theorem V_aload {n : Nat} {x : Option Pt3} (C : Cx p l s m args meth c D B tW α0 own cc nL ret mn tab) (hd : decode cc pc = .ok (.aload n, 2)) (hg : lget lv n = some (sQ x)) (k : V p l e R s m args below meth c D B α0 ν0 nL Q cells slots ν ι ρ ℓ (pc + 2) lv (sQ x :: st)) : V p l e R s m args below meth c D B α0 ν0 nL Q cells slots ν ι ρ ℓ pc lv st := by
  intro α H locs ls hR hS hl h0 h1 h2
  cases x with
  | none => exact lv_aloadN C.1 C.2.1 hd (lget_at hg hl) (k α H locs ls hR hS hl h0 h1 (wfl_c (lget_wf hg h1) h2))
  | some q => exact lv_aload C.1 C.2.1 hd (lget_at hg hl) (k α H locs ls hR hS hl h0 h1 (wfl_c (lget_wf hg h1) h2))
theorem V_istore_n {n : Fin 4} {x : Int32} (C : Cx p l s m args meth c D B tW α0 own cc nL ret mn tab) (hd : decode cc pc = .ok (.istore_n n, 1)) (hn : (n : Nat) < nL) (hs : ((n : Nat), sI x) :: ldel n lv = lv') (k : V p l e R s m args below meth c D B α0 ν0 nL Q cells slots ν ι ρ ℓ (pc + 1) lv' st) : V p l e R s m args below meth c D B α0 ν0 nL Q cells slots ν ι ρ ℓ pc lv (sI x :: st) := by
  intro α H locs ls hR hS hl h0 h1 h2
  subst hs
  exact lv_istore_n C.1 C.2.1 hd rfl hl hn (by rw [ldel_f]; rfl) (fun ls' hl' => k α H locs ls' hR hS hl' h0 (wfl_c wfv_I (ldel_wf h1)) (wfl_t h2))
theorem V_istore {n : Nat} {x : Int32} (C : Cx p l s m args meth c D B tW α0 own cc nL ret mn tab) (hd : decode cc pc = .ok (.istore n, 2)) (hn : n < nL) (hs : (n, sI x) :: ldel n lv = lv') (k : V p l e R s m args below meth c D B α0 ν0 nL Q cells slots ν ι ρ ℓ (pc + 2) lv' st) : V p l e R s m args below meth c D B α0 ν0 nL Q cells slots ν ι ρ ℓ pc lv (sI x :: st) := by
  intro α H locs ls hR hS hl h0 h1 h2
  subst hs
  exact lv_istore C.1 C.2.1 hd hl hn (by rw [ldel_f]; rfl) (fun ls' hl' => k α H locs ls' hR hS hl' h0 (wfl_c wfv_I (ldel_wf h1)) (wfl_t h2))
theorem V_lstore_n {n : Fin 4} {x : Int64} (C : Cx p l s m args meth c D B tW α0 own cc nL ret mn tab) (hd : decode cc pc = .ok (.lstore_n n, 1)) (hn : (n : Nat) + 1 < nL) (hs : ((n : Nat), sL x) :: ldel2 n lv = lv') (k : V p l e R s m args below meth c D B α0 ν0 nL Q cells slots ν ι ρ ℓ (pc + 1) lv' st) : V p l e R s m args below meth c D B α0 ν0 nL Q cells slots ν ι ρ ℓ pc lv (sL x :: st) := by
  intro α H locs ls hR hS hl h0 h1 h2
  subst hs
  exact lv_lstore_n C.1 C.2.1 hd rfl hl hn (by rw [ldel2_f]; rfl) (fun ls' hl' => k α H locs ls' hR hS hl' h0 (wfl_c wfv_L (ldel2_wf h1)) (wfl_t h2))
theorem V_lstore {n : Nat} {x : Int64} (C : Cx p l s m args meth c D B tW α0 own cc nL ret mn tab) (hd : decode cc pc = .ok (.lstore n, 2)) (hn : n + 1 < nL) (hs : (n, sL x) :: ldel2 n lv = lv') (k : V p l e R s m args below meth c D B α0 ν0 nL Q cells slots ν ι ρ ℓ (pc + 2) lv' st) : V p l e R s m args below meth c D B α0 ν0 nL Q cells slots ν ι ρ ℓ pc lv (sL x :: st) := by
  intro α H locs ls hR hS hl h0 h1 h2
  subst hs
  exact lv_lstore C.1 C.2.1 hd hl hn (by rw [ldel2_f]; rfl) (fun ls' hl' => k α H locs ls' hR hS hl' h0 (wfl_c wfv_L (ldel2_wf h1)) (wfl_t h2))
theorem V_astore_n {n : Fin 4} {x : Option Pt3} (C : Cx p l s m args meth c D B tW α0 own cc nL ret mn tab) (hd : decode cc pc = .ok (.astore_n n, 1)) (hn : (n : Nat) < nL) (hs : ((n : Nat), sQ x) :: ldel n lv = lv') (k : V p l e R s m args below meth c D B α0 ν0 nL Q cells slots ν ι ρ ℓ (pc + 1) lv' st) : V p l e R s m args below meth c D B α0 ν0 nL Q cells slots ν ι ρ ℓ pc lv (sQ x :: st) := by
  intro α H locs ls hR hS hl h0 h1 h2
  subst hs
  cases x with
  | none => exact lv_astore_nN C.1 C.2.1 hd rfl hl hn (by rw [ldel_f]; rfl) (fun ls' hl' => k α H locs ls' hR hS hl' h0 (wfl_c (wfl_h h2) (ldel_wf h1)) (wfl_t h2))
  | some q => exact lv_astore_n C.1 C.2.1 hd rfl hl hn (by rw [ldel_f]; rfl) (fun ls' hl' => k α H locs ls' hR hS hl' h0 (wfl_c (wfl_h h2) (ldel_wf h1)) (wfl_t h2))
theorem V_astore {n : Nat} {x : Option Pt3} (C : Cx p l s m args meth c D B tW α0 own cc nL ret mn tab) (hd : decode cc pc = .ok (.astore n, 2)) (hn : n < nL) (hs : (n, sQ x) :: ldel n lv = lv') (k : V p l e R s m args below meth c D B α0 ν0 nL Q cells slots ν ι ρ ℓ (pc + 2) lv' st) : V p l e R s m args below meth c D B α0 ν0 nL Q cells slots ν ι ρ ℓ pc lv (sQ x :: st) := by
  intro α H locs ls hR hS hl h0 h1 h2
  subst hs
  cases x with
  | none => exact lv_astoreN C.1 C.2.1 hd hl hn (by rw [ldel_f]; rfl) (fun ls' hl' => k α H locs ls' hR hS hl' h0 (wfl_c (wfl_h h2) (ldel_wf h1)) (wfl_t h2))
  | some q => exact lv_astore C.1 C.2.1 hd hl hn (by rw [ldel_f]; rfl) (fun ls' hl' => k α H locs ls' hR hS hl' h0 (wfl_c (wfl_h h2) (ldel_wf h1)) (wfl_t h2))
theorem lget_ix {α : Ad} {i : Nat} {v : SV} (h : lget lv i = some v) : ∃ k : Nat, (lv.map (fun q => (q.1, enc α q.2)))[k]? = some (i, enc α v) := by
  obtain ⟨k, hk⟩ := List.getElem?_of_mem (List.mem_map.mpr ⟨(i, v), lget_mem h, rfl⟩ : (i, enc α v) ∈ lv.map (fun q => (q.1, enc α q.2)))
  exact ⟨k, hk⟩
theorem V_iinc {n : Nat} {d : Int} {x v : Int32} (C : Cx p l s m args meth c D B tW α0 own cc nL ret mn tab) (hd : decode cc pc = .ok (.iinc n d, 3)) (hg : lget lv n = some (sI x)) (hv : x + Int32.ofInt d = v) (hn : n < nL) (hs : (n, sI v) :: ldel n lv = lv') (k : V p l e R s m args below meth c D B α0 ν0 nL Q cells slots ν ι ρ ℓ (pc + 3) lv' st) : V p l e R s m args below meth c D B α0 ν0 nL Q cells slots ν ι ρ ℓ pc lv st := by
  intro α H locs ls hR hS hl h0 h1 h2
  subst hs
  obtain ⟨k9, hk9⟩ := lget_ix (α := α) hg
  exact lv_iinc C.1 C.2.1 hd hl hk9 hv hn (by rw [ldel_f]; rfl) (fun ls' hl' => k α H locs ls' hR hS hl' h0 (wfl_c wfv_I (ldel_wf h1)) h2)
theorem V_iadd {x y : Int32} (C : Cx p l s m args meth c D B tW α0 own cc nL ret mn tab) (hd : decode cc pc = .ok (.iadd, 1)) (k : V p l e R s m args below meth c D B α0 ν0 nL Q cells slots ν ι ρ ℓ (pc + 1) lv (sI (x + y) :: st)) : V p l e R s m args below meth c D B α0 ν0 nL Q cells slots ν ι ρ ℓ pc lv (sI y :: sI x :: st) := by
  intro α H locs ls hR hS hl h0 h1 h2
  exact lv_iadd C.1 C.2.1 hd (k α H locs ls hR hS hl h0 h1 (wfl_c wfv_I (wfl_t (wfl_t h2))))
theorem V_isub {x y : Int32} (C : Cx p l s m args meth c D B tW α0 own cc nL ret mn tab) (hd : decode cc pc = .ok (.isub, 1)) (k : V p l e R s m args below meth c D B α0 ν0 nL Q cells slots ν ι ρ ℓ (pc + 1) lv (sI (x - y) :: st)) : V p l e R s m args below meth c D B α0 ν0 nL Q cells slots ν ι ρ ℓ pc lv (sI y :: sI x :: st) := by
  intro α H locs ls hR hS hl h0 h1 h2
  exact lv_isub C.1 C.2.1 hd (k α H locs ls hR hS hl h0 h1 (wfl_c wfv_I (wfl_t (wfl_t h2))))
theorem V_imul {x y : Int32} (C : Cx p l s m args meth c D B tW α0 own cc nL ret mn tab) (hd : decode cc pc = .ok (.imul, 1)) (k : V p l e R s m args below meth c D B α0 ν0 nL Q cells slots ν ι ρ ℓ (pc + 1) lv (sI (x * y) :: st)) : V p l e R s m args below meth c D B α0 ν0 nL Q cells slots ν ι ρ ℓ pc lv (sI y :: sI x :: st) := by
  intro α H locs ls hR hS hl h0 h1 h2
  exact lv_imul C.1 C.2.1 hd (k α H locs ls hR hS hl h0 h1 (wfl_c wfv_I (wfl_t (wfl_t h2))))
theorem V_iand {x y : Int32} (C : Cx p l s m args meth c D B tW α0 own cc nL ret mn tab) (hd : decode cc pc = .ok (.iand, 1)) (k : V p l e R s m args below meth c D B α0 ν0 nL Q cells slots ν ι ρ ℓ (pc + 1) lv (sI (x &&& y) :: st)) : V p l e R s m args below meth c D B α0 ν0 nL Q cells slots ν ι ρ ℓ pc lv (sI y :: sI x :: st) := by
  intro α H locs ls hR hS hl h0 h1 h2
  exact lv_iand C.1 C.2.1 hd (k α H locs ls hR hS hl h0 h1 (wfl_c wfv_I (wfl_t (wfl_t h2))))
theorem V_ior {x y : Int32} (C : Cx p l s m args meth c D B tW α0 own cc nL ret mn tab) (hd : decode cc pc = .ok (.ior, 1)) (k : V p l e R s m args below meth c D B α0 ν0 nL Q cells slots ν ι ρ ℓ (pc + 1) lv (sI (x ||| y) :: st)) : V p l e R s m args below meth c D B α0 ν0 nL Q cells slots ν ι ρ ℓ pc lv (sI y :: sI x :: st) := by
  intro α H locs ls hR hS hl h0 h1 h2
  exact lv_ior C.1 C.2.1 hd (k α H locs ls hR hS hl h0 h1 (wfl_c wfv_I (wfl_t (wfl_t h2))))
theorem V_ixor {x y : Int32} (C : Cx p l s m args meth c D B tW α0 own cc nL ret mn tab) (hd : decode cc pc = .ok (.ixor, 1)) (k : V p l e R s m args below meth c D B α0 ν0 nL Q cells slots ν ι ρ ℓ (pc + 1) lv (sI (x ^^^ y) :: st)) : V p l e R s m args below meth c D B α0 ν0 nL Q cells slots ν ι ρ ℓ pc lv (sI y :: sI x :: st) := by
  intro α H locs ls hR hS hl h0 h1 h2
  exact lv_ixor C.1 C.2.1 hd (k α H locs ls hR hS hl h0 h1 (wfl_c wfv_I (wfl_t (wfl_t h2))))
theorem V_ishl {x y : Int32} (C : Cx p l s m args meth c D B tW α0 own cc nL ret mn tab) (hd : decode cc pc = .ok (.ishl, 1)) (k : V p l e R s m args below meth c D B α0 ν0 nL Q cells slots ν ι ρ ℓ (pc + 1) lv (sI (x <<< (y &&& 31)) :: st)) : V p l e R s m args below meth c D B α0 ν0 nL Q cells slots ν ι ρ ℓ pc lv (sI y :: sI x :: st) := by
  intro α H locs ls hR hS hl h0 h1 h2
  exact lv_ishl C.1 C.2.1 hd (k α H locs ls hR hS hl h0 h1 (wfl_c wfv_I (wfl_t (wfl_t h2))))
theorem V_ishr {x y : Int32} (C : Cx p l s m args meth c D B tW α0 own cc nL ret mn tab) (hd : decode cc pc = .ok (.ishr, 1)) (k : V p l e R s m args below meth c D B α0 ν0 nL Q cells slots ν ι ρ ℓ (pc + 1) lv (sI (x >>> (y &&& 31)) :: st)) : V p l e R s m args below meth c D B α0 ν0 nL Q cells slots ν ι ρ ℓ pc lv (sI y :: sI x :: st) := by
  intro α H locs ls hR hS hl h0 h1 h2
  exact lv_ishr C.1 C.2.1 hd (k α H locs ls hR hS hl h0 h1 (wfl_c wfv_I (wfl_t (wfl_t h2))))
theorem V_idiv {x y : Int32} (C : Cx p l s m args meth c D B tW α0 own cc nL ret mn tab) (hd : decode cc pc = .ok (.idiv, 1)) (hne : ¬ y = 0) (k : V p l e R s m args below meth c D B α0 ν0 nL Q cells slots ν ι ρ ℓ (pc + 1) lv (sI (x / y) :: st)) : V p l e R s m args below meth c D B α0 ν0 nL Q cells slots ν ι ρ ℓ pc lv (sI y :: sI x :: st) := by
  intro α H locs ls hR hS hl h0 h1 h2
  exact lv_idiv C.1 C.2.1 hd hne (k α H locs ls hR hS hl h0 h1 (wfl_c wfv_I (wfl_t (wfl_t h2))))
theorem V_irem {x y : Int32} (C : Cx p l s m args meth c D B tW α0 own cc nL ret mn tab) (hd : decode cc pc = .ok (.irem, 1)) (hne : ¬ y = 0) (k : V p l e R s m args below meth c D B α0 ν0 nL Q cells slots ν ι ρ ℓ (pc + 1) lv (sI (x - x / y * y) :: st)) : V p l e R s m args below meth c D B α0 ν0 nL Q cells slots ν ι ρ ℓ pc lv (sI y :: sI x :: st) := by
  intro α H locs ls hR hS hl h0 h1 h2
  exact lv_irem C.1 C.2.1 hd hne (k α H locs ls hR hS hl h0 h1 (wfl_c wfv_I (wfl_t (wfl_t h2))))
theorem V_iushr {x y : Int32} (C : Cx p l s m args meth c D B tW α0 own cc nL ret mn tab) (hd : decode cc pc = .ok (.iushr, 1)) (k : V p l e R s m args below meth c D B α0 ν0 nL Q cells slots ν ι ρ ℓ (pc + 1) lv (sI (x.toUInt32 >>> (y.toUInt32 &&& Int32.toUInt32 31)).toInt32 :: st)) : V p l e R s m args below meth c D B α0 ν0 nL Q cells slots ν ι ρ ℓ pc lv (sI y :: sI x :: st) := by
  intro α H locs ls hR hS hl h0 h1 h2
  exact lv_iushr C.1 C.2.1 hd rfl (k α H locs ls hR hS hl h0 h1 (wfl_c wfv_I (wfl_t (wfl_t h2))))
theorem V_ladd {x y : Int64} (C : Cx p l s m args meth c D B tW α0 own cc nL ret mn tab) (hd : decode cc pc = .ok (.ladd, 1)) (k : V p l e R s m args below meth c D B α0 ν0 nL Q cells slots ν ι ρ ℓ (pc + 1) lv (sL (x + y) :: st)) : V p l e R s m args below meth c D B α0 ν0 nL Q cells slots ν ι ρ ℓ pc lv (sL y :: sL x :: st) := by
  intro α H locs ls hR hS hl h0 h1 h2
  exact lv_ladd C.1 C.2.1 hd (k α H locs ls hR hS hl h0 h1 (wfl_c wfv_L (wfl_t (wfl_t h2))))
theorem V_lsub {x y : Int64} (C : Cx p l s m args meth c D B tW α0 own cc nL ret mn tab) (hd : decode cc pc = .ok (.lsub, 1)) (k : V p l e R s m args below meth c D B α0 ν0 nL Q cells slots ν ι ρ ℓ (pc + 1) lv (sL (x - y) :: st)) : V p l e R s m args below meth c D B α0 ν0 nL Q cells slots ν ι ρ ℓ pc lv (sL y :: sL x :: st) := by
  intro α H locs ls hR hS hl h0 h1 h2
  exact lv_lsub C.1 C.2.1 hd (k α H locs ls hR hS hl h0 h1 (wfl_c wfv_L (wfl_t (wfl_t h2))))
theorem V_land {x y : Int64} (C : Cx p l s m args meth c D B tW α0 own cc nL ret mn tab) (hd : decode cc pc = .ok (.land, 1)) (k : V p l e R s m args below meth c D B α0 ν0 nL Q cells slots ν ι ρ ℓ (pc + 1) lv (sL (x &&& y) :: st)) : V p l e R s m args below meth c D B α0 ν0 nL Q cells slots ν ι ρ ℓ pc lv (sL y :: sL x :: st) := by
  intro α H locs ls hR hS hl h0 h1 h2
  exact lv_land C.1 C.2.1 hd (k α H locs ls hR hS hl h0 h1 (wfl_c wfv_L (wfl_t (wfl_t h2))))
theorem V_lor {x y : Int64} (C : Cx p l s m args meth c D B tW α0 own cc nL ret mn tab) (hd : decode cc pc = .ok (.lor, 1)) (k : V p l e R s m args below meth c D B α0 ν0 nL Q cells slots ν ι ρ ℓ (pc + 1) lv (sL (x ||| y) :: st)) : V p l e R s m args below meth c D B α0 ν0 nL Q cells slots ν ι ρ ℓ pc lv (sL y :: sL x :: st) := by
  intro α H locs ls hR hS hl h0 h1 h2
  exact lv_lor C.1 C.2.1 hd (k α H locs ls hR hS hl h0 h1 (wfl_c wfv_L (wfl_t (wfl_t h2))))
theorem V_lshr {x : Int64} {y : Int32} (C : Cx p l s m args meth c D B tW α0 own cc nL ret mn tab) (hd : decode cc pc = .ok (.lshr, 1)) (k : V p l e R s m args below meth c D B α0 ν0 nL Q cells slots ν ι ρ ℓ (pc + 1) lv (sL (x >>> (y.toInt64 &&& 63)) :: st)) : V p l e R s m args below meth c D B α0 ν0 nL Q cells slots ν ι ρ ℓ pc lv (sI y :: sL x :: st) := by
  intro α H locs ls hR hS hl h0 h1 h2
  exact lv_lshr C.1 C.2.1 hd rfl (k α H locs ls hR hS hl h0 h1 (wfl_c wfv_L (wfl_t (wfl_t h2))))
theorem V_i2l {x : Int32} (C : Cx p l s m args meth c D B tW α0 own cc nL ret mn tab) (hd : decode cc pc = .ok (.i2l, 1)) (k : V p l e R s m args below meth c D B α0 ν0 nL Q cells slots ν ι ρ ℓ (pc + 1) lv (sL x.toInt64 :: st)) : V p l e R s m args below meth c D B α0 ν0 nL Q cells slots ν ι ρ ℓ pc lv (sI x :: st) := by
  intro α H locs ls hR hS hl h0 h1 h2
  exact lv_i2l C.1 C.2.1 hd rfl (k α H locs ls hR hS hl h0 h1 (wfl_c wfv_L (wfl_t h2)))
theorem V_l2i {x : Int64} (C : Cx p l s m args meth c D B tW α0 own cc nL ret mn tab) (hd : decode cc pc = .ok (.l2i, 1)) (k : V p l e R s m args below meth c D B α0 ν0 nL Q cells slots ν ι ρ ℓ (pc + 1) lv (sI x.toInt32 :: st)) : V p l e R s m args below meth c D B α0 ν0 nL Q cells slots ν ι ρ ℓ pc lv (sL x :: st) := by
  intro α H locs ls hR hS hl h0 h1 h2
  exact lv_l2i C.1 C.2.1 hd rfl (k α H locs ls hR hS hl h0 h1 (wfl_c wfv_I (wfl_t h2)))
theorem V_lcmp {x y : Int64} (C : Cx p l s m args meth c D B tW α0 own cc nL ret mn tab) (hd : decode cc pc = .ok (.lcmp, 1)) (k : V p l e R s m args below meth c D B α0 ν0 nL Q cells slots ν ι ρ ℓ (pc + 1) lv (sI (lg_cmp x y) :: st)) : V p l e R s m args below meth c D B α0 ν0 nL Q cells slots ν ι ρ ℓ pc lv (sL y :: sL x :: st) := by
  intro α H locs ls hR hS hl h0 h1 h2
  exact W.lcmp C.1 C.2.1 hd (k α H locs ls hR hS hl h0 h1 (wfl_c wfv_I (wfl_t (wfl_t h2))))
theorem V_dup {v : SV} (C : Cx p l s m args meth c D B tW α0 own cc nL ret mn tab) (hd : decode cc pc = .ok (.dup, 1)) (hc : scat v = 1) (k : V p l e R s m args below meth c D B α0 ν0 nL Q cells slots ν ι ρ ℓ (pc + 1) lv (v :: v :: st)) : V p l e R s m args below meth c D B α0 ν0 nL Q cells slots ν ι ρ ℓ pc lv (v :: st) := by
  intro α H locs ls hR hS hl h0 h1 h2
  exact lv_dup C.1 C.2.1 hd ((enc_cat α v).trans hc) (k α H locs ls hR hS hl h0 h1 (wfl_c (wfl_h h2) h2))
theorem V_pop {v : SV} (C : Cx p l s m args meth c D B tW α0 own cc nL ret mn tab) (hd : decode cc pc = .ok (.pop, 1)) (hc : scat v = 1) (k : V p l e R s m args below meth c D B α0 ν0 nL Q cells slots ν ι ρ ℓ (pc + 1) lv st) : V p l e R s m args below meth c D B α0 ν0 nL Q cells slots ν ι ρ ℓ pc lv (v :: st) := by
  intro α H locs ls hR hS hl h0 h1 h2
  exact lv_pop C.1 C.2.1 hd ((enc_cat α v).trans hc) (k α H locs ls hR hS hl h0 h1 (wfl_t h2))
theorem V_dup_x1 {v w : SV} (C : Cx p l s m args meth c D B tW α0 own cc nL ret mn tab) (hd : decode cc pc = .ok (.dup_x1, 1)) (hc : scat v = 1) (hc2 : scat w = 1) (k : V p l e R s m args below meth c D B α0 ν0 nL Q cells slots ν ι ρ ℓ (pc + 1) lv (v :: w :: v :: st)) : V p l e R s m args below meth c D B α0 ν0 nL Q cells slots ν ι ρ ℓ pc lv (v :: w :: st) := by
  intro α H locs ls hR hS hl h0 h1 h2
  exact lv_dup_x1 C.1 C.2.1 hd ((enc_cat α v).trans hc) ((enc_cat α w).trans hc2) (k α H locs ls hR hS hl h0 h1 (wfl_c (wfl_h h2) (wfl_c (wfl_h (wfl_t h2)) (wfl_c (wfl_h h2) (wfl_t (wfl_t h2))))))
theorem V_dup_x2 {v w u : SV} (C : Cx p l s m args meth c D B tW α0 own cc nL ret mn tab) (hd : decode cc pc = .ok (.dup_x2, 1)) (hc : scat v = 1) (hc2 : scat w = 1) (hc3 : scat u = 1) (k : V p l e R s m args below meth c D B α0 ν0 nL Q cells slots ν ι ρ ℓ (pc + 1) lv (v :: w :: u :: v :: st)) : V p l e R s m args below meth c D B α0 ν0 nL Q cells slots ν ι ρ ℓ pc lv (v :: w :: u :: st) := by
  intro α H locs ls hR hS hl h0 h1 h2
  exact lv_dup_x2 C.1 C.2.1 hd ((enc_cat α v).trans hc) ((enc_cat α w).trans hc2) ((enc_cat α u).trans hc3) (k α H locs ls hR hS hl h0 h1 (wfl_c (wfl_h h2) (wfl_c (wfl_h (wfl_t h2)) (wfl_c (wfl_h (wfl_t (wfl_t h2))) (wfl_c (wfl_h h2) (wfl_t (wfl_t (wfl_t h2))))))))
theorem V_dup2 {v w : SV} (C : Cx p l s m args meth c D B tW α0 own cc nL ret mn tab) (hd : decode cc pc = .ok (.dup2, 1)) (hc : scat v = 1) (hc2 : scat w = 1) (k : V p l e R s m args below meth c D B α0 ν0 nL Q cells slots ν ι ρ ℓ (pc + 1) lv (v :: w :: v :: w :: st)) : V p l e R s m args below meth c D B α0 ν0 nL Q cells slots ν ι ρ ℓ pc lv (v :: w :: st) := by
  intro α H locs ls hR hS hl h0 h1 h2
  exact lv_dup2_11 C.1 C.2.1 hd ((enc_cat α v).trans hc) ((enc_cat α w).trans hc2) (k α H locs ls hR hS hl h0 h1 (wfl_c (wfl_h h2) (wfl_c (wfl_h (wfl_t h2)) h2)))
theorem V_if_eq {x : Int32} {off : Int} {tgt : Nat} (C : Cx p l s m args meth c D B tW α0 own cc nL ret mn tab) (hd : decode cc pc = .ok (.ifCond .eq off, 3)) (ht : (pc : Int) + off = (tgt : Int)) (kt : x = 0 → V p l e R s m args below meth c D B α0 ν0 nL Q cells slots ν ι ρ ℓ tgt lv st) (kf : ¬ x = 0 → V p l e R s m args below meth c D B α0 ν0 nL Q cells slots ν ι ρ ℓ (pc + 3) lv st) : V p l e R s m args below meth c D B α0 ν0 nL Q cells slots ν ι ρ ℓ pc lv (sI x :: st) := by
  intro α H locs ls hR hS hl h0 h1 h2
  exact lv_if_eq C.1 C.2.1 hd ht (fun z => kt z α H locs ls hR hS hl h0 h1 (wfl_t h2)) (fun z => kf z α H locs ls hR hS hl h0 h1 (wfl_t h2))
theorem V_icmp_eq {x y : Int32} {off : Int} {tgt : Nat} (C : Cx p l s m args meth c D B tW α0 own cc nL ret mn tab) (hd : decode cc pc = .ok (.if_icmp .eq off, 3)) (ht : (pc : Int) + off = (tgt : Int)) (kt : x = y → V p l e R s m args below meth c D B α0 ν0 nL Q cells slots ν ι ρ ℓ tgt lv st) (kf : ¬ x = y → V p l e R s m args below meth c D B α0 ν0 nL Q cells slots ν ι ρ ℓ (pc + 3) lv st) : V p l e R s m args below meth c D B α0 ν0 nL Q cells slots ν ι ρ ℓ pc lv (sI y :: sI x :: st) := by
  intro α H locs ls hR hS hl h0 h1 h2
  exact lv_icmp_eq C.1 C.2.1 hd ht (fun z => kt z α H locs ls hR hS hl h0 h1 (wfl_t (wfl_t h2))) (fun z => kf z α H locs ls hR hS hl h0 h1 (wfl_t (wfl_t h2)))
theorem V_if_ne {x : Int32} {off : Int} {tgt : Nat} (C : Cx p l s m args meth c D B tW α0 own cc nL ret mn tab) (hd : decode cc pc = .ok (.ifCond .ne off, 3)) (ht : (pc : Int) + off = (tgt : Int)) (kt : ¬ x = 0 → V p l e R s m args below meth c D B α0 ν0 nL Q cells slots ν ι ρ ℓ tgt lv st) (kf : x = 0 → V p l e R s m args below meth c D B α0 ν0 nL Q cells slots ν ι ρ ℓ (pc + 3) lv st) : V p l e R s m args below meth c D B α0 ν0 nL Q cells slots ν ι ρ ℓ pc lv (sI x :: st) := by
  intro α H locs ls hR hS hl h0 h1 h2
  exact lv_if_ne C.1 C.2.1 hd ht (fun z => kt z α H locs ls hR hS hl h0 h1 (wfl_t h2)) (fun z => kf z α H locs ls hR hS hl h0 h1 (wfl_t h2))
theorem V_icmp_ne {x y : Int32} {off : Int} {tgt : Nat} (C : Cx p l s m args meth c D B tW α0 own cc nL ret mn tab) (hd : decode cc pc = .ok (.if_icmp .ne off, 3)) (ht : (pc : Int) + off = (tgt : Int)) (kt : ¬ x = y → V p l e R s m args below meth c D B α0 ν0 nL Q cells slots ν ι ρ ℓ tgt lv st) (kf : x = y → V p l e R s m args below meth c D B α0 ν0 nL Q cells slots ν ι ρ ℓ (pc + 3) lv st) : V p l e R s m args below meth c D B α0 ν0 nL Q cells slots ν ι ρ ℓ pc lv (sI y :: sI x :: st) := by
  intro α H locs ls hR hS hl h0 h1 h2
  exact lv_icmp_ne C.1 C.2.1 hd ht (fun z => kt z α H locs ls hR hS hl h0 h1 (wfl_t (wfl_t h2))) (fun z => kf z α H locs ls hR hS hl h0 h1 (wfl_t (wfl_t h2)))
theorem V_if_lt {x : Int32} {off : Int} {tgt : Nat} (C : Cx p l s m args meth c D B tW α0 own cc nL ret mn tab) (hd : decode cc pc = .ok (.ifCond .lt off, 3)) (ht : (pc : Int) + off = (tgt : Int)) (kt : x < 0 → V p l e R s m args below meth c D B α0 ν0 nL Q cells slots ν ι ρ ℓ tgt lv st) (kf : ¬ x < 0 → V p l e R s m args below meth c D B α0 ν0 nL Q cells slots ν ι ρ ℓ (pc + 3) lv st) : V p l e R s m args below meth c D B α0 ν0 nL Q cells slots ν ι ρ ℓ pc lv (sI x :: st) := by
  intro α H locs ls hR hS hl h0 h1 h2
  exact lv_if_lt C.1 C.2.1 hd ht (fun z => kt z α H locs ls hR hS hl h0 h1 (wfl_t h2)) (fun z => kf z α H locs ls hR hS hl h0 h1 (wfl_t h2))
theorem V_icmp_lt {x y : Int32} {off : Int} {tgt : Nat} (C : Cx p l s m args meth c D B tW α0 own cc nL ret mn tab) (hd : decode cc pc = .ok (.if_icmp .lt off, 3)) (ht : (pc : Int) + off = (tgt : Int)) (kt : x < y → V p l e R s m args below meth c D B α0 ν0 nL Q cells slots ν ι ρ ℓ tgt lv st) (kf : ¬ x < y → V p l e R s m args below meth c D B α0 ν0 nL Q cells slots ν ι ρ ℓ (pc + 3) lv st) : V p l e R s m args below meth c D B α0 ν0 nL Q cells slots ν ι ρ ℓ pc lv (sI y :: sI x :: st) := by
  intro α H locs ls hR hS hl h0 h1 h2
  exact lv_icmp_lt C.1 C.2.1 hd ht (fun z => kt z α H locs ls hR hS hl h0 h1 (wfl_t (wfl_t h2))) (fun z => kf z α H locs ls hR hS hl h0 h1 (wfl_t (wfl_t h2)))
theorem V_if_ge {x : Int32} {off : Int} {tgt : Nat} (C : Cx p l s m args meth c D B tW α0 own cc nL ret mn tab) (hd : decode cc pc = .ok (.ifCond .ge off, 3)) (ht : (pc : Int) + off = (tgt : Int)) (kt : 0 ≤ x → V p l e R s m args below meth c D B α0 ν0 nL Q cells slots ν ι ρ ℓ tgt lv st) (kf : ¬ 0 ≤ x → V p l e R s m args below meth c D B α0 ν0 nL Q cells slots ν ι ρ ℓ (pc + 3) lv st) : V p l e R s m args below meth c D B α0 ν0 nL Q cells slots ν ι ρ ℓ pc lv (sI x :: st) := by
  intro α H locs ls hR hS hl h0 h1 h2
  exact lv_if_ge C.1 C.2.1 hd ht (fun z => kt z α H locs ls hR hS hl h0 h1 (wfl_t h2)) (fun z => kf z α H locs ls hR hS hl h0 h1 (wfl_t h2))
theorem V_icmp_ge {x y : Int32} {off : Int} {tgt : Nat} (C : Cx p l s m args meth c D B tW α0 own cc nL ret mn tab) (hd : decode cc pc = .ok (.if_icmp .ge off, 3)) (ht : (pc : Int) + off = (tgt : Int)) (kt : y ≤ x → V p l e R s m args below meth c D B α0 ν0 nL Q cells slots ν ι ρ ℓ tgt lv st) (kf : ¬ y ≤ x → V p l e R s m args below meth c D B α0 ν0 nL Q cells slots ν ι ρ ℓ (pc + 3) lv st) : V p l e R s m args below meth c D B α0 ν0 nL Q cells slots ν ι ρ ℓ pc lv (sI y :: sI x :: st) := by
  intro α H locs ls hR hS hl h0 h1 h2
  exact lv_icmp_ge C.1 C.2.1 hd ht (fun z => kt z α H locs ls hR hS hl h0 h1 (wfl_t (wfl_t h2))) (fun z => kf z α H locs ls hR hS hl h0 h1 (wfl_t (wfl_t h2)))
theorem V_if_gt {x : Int32} {off : Int} {tgt : Nat} (C : Cx p l s m args meth c D B tW α0 own cc nL ret mn tab) (hd : decode cc pc = .ok (.ifCond .gt off, 3)) (ht : (pc : Int) + off = (tgt : Int)) (kt : 0 < x → V p l e R s m args below meth c D B α0 ν0 nL Q cells slots ν ι ρ ℓ tgt lv st) (kf : ¬ 0 < x → V p l e R s m args below meth c D B α0 ν0 nL Q cells slots ν ι ρ ℓ (pc + 3) lv st) : V p l e R s m args below meth c D B α0 ν0 nL Q cells slots ν ι ρ ℓ pc lv (sI x :: st) := by
  intro α H locs ls hR hS hl h0 h1 h2
  exact lv_if_gt C.1 C.2.1 hd ht (fun z => kt z α H locs ls hR hS hl h0 h1 (wfl_t h2)) (fun z => kf z α H locs ls hR hS hl h0 h1 (wfl_t h2))
theorem V_icmp_gt {x y : Int32} {off : Int} {tgt : Nat} (C : Cx p l s m args meth c D B tW α0 own cc nL ret mn tab) (hd : decode cc pc = .ok (.if_icmp .gt off, 3)) (ht : (pc : Int) + off = (tgt : Int)) (kt : y < x → V p l e R s m args below meth c D B α0 ν0 nL Q cells slots ν ι ρ ℓ tgt lv st) (kf : ¬ y < x → V p l e R s m args below meth c D B α0 ν0 nL Q cells slots ν ι ρ ℓ (pc + 3) lv st) : V p l e R s m args below meth c D B α0 ν0 nL Q cells slots ν ι ρ ℓ pc lv (sI y :: sI x :: st) := by
  intro α H locs ls hR hS hl h0 h1 h2
  exact lv_icmp_gt C.1 C.2.1 hd ht (fun z => kt z α H locs ls hR hS hl h0 h1 (wfl_t (wfl_t h2))) (fun z => kf z α H locs ls hR hS hl h0 h1 (wfl_t (wfl_t h2)))
theorem V_if_le {x : Int32} {off : Int} {tgt : Nat} (C : Cx p l s m args meth c D B tW α0 own cc nL ret mn tab) (hd : decode cc pc = .ok (.ifCond .le off, 3)) (ht : (pc : Int) + off = (tgt : Int)) (kt : x ≤ 0 → V p l e R s m args below meth c D B α0 ν0 nL Q cells slots ν ι ρ ℓ tgt lv st) (kf : ¬ x ≤ 0 → V p l e R s m args below meth c D B α0 ν0 nL Q cells slots ν ι ρ ℓ (pc + 3) lv st) : V p l e R s m args below meth c D B α0 ν0 nL Q cells slots ν ι ρ ℓ pc lv (sI x :: st) := by
  intro α H locs ls hR hS hl h0 h1 h2
  exact lv_if_le C.1 C.2.1 hd ht (fun z => kt z α H locs ls hR hS hl h0 h1 (wfl_t h2)) (fun z => kf z α H locs ls hR hS hl h0 h1 (wfl_t h2))
theorem V_icmp_le {x y : Int32} {off : Int} {tgt : Nat} (C : Cx p l s m args meth c D B tW α0 own cc nL ret mn tab) (hd : decode cc pc = .ok (.if_icmp .le off, 3)) (ht : (pc : Int) + off = (tgt : Int)) (kt : x ≤ y → V p l e R s m args below meth c D B α0 ν0 nL Q cells slots ν ι ρ ℓ tgt lv st) (kf : ¬ x ≤ y → V p l e R s m args below meth c D B α0 ν0 nL Q cells slots ν ι ρ ℓ (pc + 3) lv st) : V p l e R s m args below meth c D B α0 ν0 nL Q cells slots ν ι ρ ℓ pc lv (sI y :: sI x :: st) := by
  intro α H locs ls hR hS hl h0 h1 h2
  exact lv_icmp_le C.1 C.2.1 hd ht (fun z => kt z α H locs ls hR hS hl h0 h1 (wfl_t (wfl_t h2))) (fun z => kf z α H locs ls hR hS hl h0 h1 (wfl_t (wfl_t h2)))
theorem V_goto {off : Int} {tgt : Nat} (C : Cx p l s m args meth c D B tW α0 own cc nL ret mn tab) (hd : decode cc pc = .ok (.goto off, 3)) (ht : (pc : Int) + off = (tgt : Int)) (k : V p l e R s m args below meth c D B α0 ν0 nL Q cells slots ν ι ρ ℓ tgt lv st) : V p l e R s m args below meth c D B α0 ν0 nL Q cells slots ν ι ρ ℓ pc lv st := by
  intro α H locs ls hR hS hl h0 h1 h2
  exact lv_goto C.1 C.2.1 hd ht (k α H locs ls hR hS hl h0 h1 h2)
theorem V_ifnull {q : Option Pt3} {off : Int} {tgt : Nat} (C : Cx p l s m args meth c D B tW α0 own cc nL ret mn tab) (hd : decode cc pc = .ok (.ifnull off, 3)) (ht : (pc : Int) + off = (tgt : Int)) (kt : q = none → V p l e R s m args below meth c D B α0 ν0 nL Q cells slots ν ι ρ ℓ tgt lv st) (kf : ∀ z, q = some z → V p l e R s m args below meth c D B α0 ν0 nL Q cells slots ν ι ρ ℓ (pc + 3) lv st) : V p l e R s m args below meth c D B α0 ν0 nL Q cells slots ν ι ρ ℓ pc lv (sQ q :: st) := by
  intro α H locs ls hR hS hl h0 h1 h2
  cases q with
  | none => exact lv_ifnullN C.1 C.2.1 hd ht (kt rfl α H locs ls hR hS hl h0 h1 (wfl_t h2))
  | some z => exact lv_ifnull C.1 C.2.1 hd (kf z rfl α H locs ls hR hS hl h0 h1 (wfl_t h2))
theorem V_ifnonnull {q : Option Pt3} {off : Int} {tgt : Nat} (C : Cx p l s m args meth c D B tW α0 own cc nL ret mn tab) (hd : decode cc pc = .ok (.ifnonnull off, 3)) (ht : (pc : Int) + off = (tgt : Int)) (kt : ∀ z, q = some z → V p l e R s m args below meth c D B α0 ν0 nL Q cells slots ν ι ρ ℓ tgt lv st) (kf : q = none → V p l e R s m args below meth c D B α0 ν0 nL Q cells slots ν ι ρ ℓ (pc + 3) lv st) : V p l e R s m args below meth c D B α0 ν0 nL Q cells slots ν ι ρ ℓ pc lv (sQ q :: st) := by
  intro α H locs ls hR hS hl h0 h1 h2
  cases q with
  | none => exact lv_ifnonnullN C.1 C.2.1 hd (kf rfl α H locs ls hR hS hl h0 h1 (wfl_t h2))
  | some z => exact lv_ifnonnull C.1 C.2.1 hd ht (kt z rfl α H locs ls hR hS hl h0 h1 (wfl_t h2))
theorem V_tswI {x : Int32} {dflt lo hi : Int} {offs : Array Int} {len : Nat} {off : Int} {tgt : Nat} (C : Cx p l s m args meth c D B tW α0 own cc nL ret mn tab) (hd : decode cc pc = .ok (.tableswitch dflt lo hi offs, len)) (hx1 : ¬ x.toInt < lo) (hx2 : ¬ hi < x.toInt) (ho : offs[(x.toInt - lo).toNat]? = some off) (ht : (pc : Int) + off = (tgt : Int)) (k : V p l e R s m args below meth c D B α0 ν0 nL Q cells slots ν ι ρ ℓ tgt lv st) : V p l e R s m args below meth c D B α0 ν0 nL Q cells slots ν ι ρ ℓ pc lv (sI x :: st) := by
  intro α H locs ls hR hS hl h0 h1 h2
  exact lv_tableIn C.1 C.2.1 hd hx1 hx2 ho ht (k α H locs ls hR hS hl h0 h1 (wfl_t h2))
theorem V_tswO {x : Int32} {dflt lo hi : Int} {offs : Array Int} {len : Nat} {tgt : Nat} (C : Cx p l s m args meth c D B tW α0 own cc nL ret mn tab) (hd : decode cc pc = .ok (.tableswitch dflt lo hi offs, len)) (hx1 : x.toInt < lo ∨ hi < x.toInt) (ht : (pc : Int) + dflt = (tgt : Int)) (k : V p l e R s m args below meth c D B α0 ν0 nL Q cells slots ν ι ρ ℓ tgt lv st) : V p l e R s m args below meth c D B α0 ν0 nL Q cells slots ν ι ρ ℓ pc lv (sI x :: st) := by
  intro α H locs ls hR hS hl h0 h1 h2
  exact lv_tableOut C.1 C.2.1 hd hx1 ht (k α H locs ls hR hS hl h0 h1 (wfl_t h2))
theorem tsw_out {x : Int32} {lo : Int} (n : Nat) (hlo : -1000 ≤ lo ∧ lo + n ≤ 1000) (h : ∀ t : Nat, t < n → x ≠ Int32.ofInt (lo + t)) : x.toInt < lo ∨ lo + n - 1 < x.toInt := by
  rcases Int.lt_or_le x.toInt lo with h1 | h1
  · exact Or.inl h1
  · rcases Int.lt_or_le (lo + n - 1) x.toInt with h2 | h2
    · exact Or.inr h2
    · refine absurd ?_ (h (x.toInt - lo).toNat (by omega))
      apply Int32.toInt_inj.mp
      rw [Int32.toInt_ofInt_of_le (by omega) (by omega)]
      omega
theorem V_topi {x : Int32} (k : ∀ y : Int32, y = x → V p l e R s m args below meth c D B α0 ν0 nL Q cells slots ν ι ρ ℓ pc lv (sI y :: st)) : V p l e R s m args below meth c D B α0 ν0 nL Q cells slots ν ι ρ ℓ pc lv (sI x :: st) := k x rfl
theorem V_topl {x : Int64} (k : ∀ y : Int64, y = x → V p l e R s m args below meth c D B α0 ν0 nL Q cells slots ν ι ρ ℓ pc lv (sL y :: st)) : V p l e R s m args below meth c D B α0 ν0 nL Q cells slots ν ι ρ ℓ pc lv (sL x :: st) := k x rfl
theorem V_eqi {x y : Int32} (h : x = y) (k : V p l e R s m args below meth c D B α0 ν0 nL Q cells slots ν ι ρ ℓ pc lv (sI y :: st)) : V p l e R s m args below meth c D B α0 ν0 nL Q cells slots ν ι ρ ℓ pc lv (sI x :: st) := h ▸ k
theorem V_eql {x y : Int64} (h : x = y) (k : V p l e R s m args below meth c D B α0 ν0 nL Q cells slots ν ι ρ ℓ pc lv (sL y :: st)) : V p l e R s m args below meth c D B α0 ν0 nL Q cells slots ν ι ρ ℓ pc lv (sL x :: st) := h ▸ k
theorem V_wid {k n : Nat} (h1 : cells ≤ k) (h2 : slots ≤ n) (kk : V p l e R s m args below meth c D B α0 ν0 nL Q k n ν ι ρ ℓ pc lv st) : V p l e R s m args below meth c D B α0 ν0 nL Q cells slots ν ι ρ ℓ pc lv st := fun α H locs ls hR hS hl h0 g1 g2 => W.widen h1 h2 (kk α H locs ls hR hS hl h0 g1 g2)
section Ret
variable {mc ms : Nat} {Po : PoT} {PX : PxT}
theorem V_iret {x : Int32} (C : Cx p l s m args meth c D B tW α0 own cc nL ret mn tab) (hQ : Q = vx_MQ below (cQ D B α0 ν0 Po) (cX D B α0 ν0 PX) args s mc ms (uB B)) (hc : cells ≤ mc) (hs : slots ≤ ms) (hd : decode cc pc = .ok (.ireturn, 1)) (hr : ret = some .int) (hp : Po (some (sI x)) ν ι ρ ℓ) : V p l e R s m args below meth c D B α0 ν0 nL Q cells slots ν ι ρ ℓ pc lv [sI x] := by
  intro α H locs ls hR hS hl h0 h1 h2
  subst hQ
  refine W.widen hc hs (vx_ret ?_)
  exact W.iret C.1 C.2.1 (C.2.2.2.2.2.2.2.1.trans hr) (fun t ht hW => ⟨⟨α, ν, ι, ρ, ℓ, some (sI x), rfl, hp, by rw [ht]; exact hR, h0, fun w hw => by cases hw; exact wfv_I⟩, hS.F ht⟩) hS.2.2 hd C.2.2.2.2.2.2.2.2.1
theorem V_zret {x : Int32} (C : Cx p l s m args meth c D B tW α0 own cc nL ret mn tab) (hQ : Q = vx_MQ below (cQ D B α0 ν0 Po) (cX D B α0 ν0 PX) args s mc ms (uB B)) (hc : cells ≤ mc) (hs : slots ≤ ms) (hd : decode cc pc = .ok (.ireturn, 1)) (hr : ret = some .boolean) (hn : narrow .boolean (.int x) = .int x) (hp : Po (some (sI x)) ν ι ρ ℓ) : V p l e R s m args below meth c D B α0 ν0 nL Q cells slots ν ι ρ ℓ pc lv [sI x] := by
  intro α H locs ls hR hS hl h0 h1 h2
  subst hQ
  refine W.widen hc hs (vx_ret ?_)
  exact W.zret C.1 C.2.1 (C.2.2.2.2.2.2.2.1.trans hr) hn (fun t ht hW => ⟨⟨α, ν, ι, ρ, ℓ, some (sI x), rfl, hp, by rw [ht]; exact hR, h0, fun w hw => by cases hw; exact wfv_I⟩, hS.F ht⟩) hS.2.2 hd C.2.2.2.2.2.2.2.2.1
theorem V_lret {x : Int64} (C : Cx p l s m args meth c D B tW α0 own cc nL ret mn tab) (hQ : Q = vx_MQ below (cQ D B α0 ν0 Po) (cX D B α0 ν0 PX) args s mc ms (uB B)) (hc : cells ≤ mc) (hs : slots ≤ ms) (hd : decode cc pc = .ok (.lreturn, 1)) (hr : ret = some .long) (hp : Po (some (sL x)) ν ι ρ ℓ) : V p l e R s m args below meth c D B α0 ν0 nL Q cells slots ν ι ρ ℓ pc lv [sL x] := by
  intro α H locs ls hR hS hl h0 h1 h2
  subst hQ
  refine W.widen hc hs (vx_ret ?_)
  exact W.lret C.1 C.2.1 (C.2.2.2.2.2.2.2.1.trans hr) (fun t ht hW => ⟨⟨α, ν, ι, ρ, ℓ, some (sL x), rfl, hp, by rw [ht]; exact hR, h0, fun w hw => by cases hw; exact wfv_L⟩, hS.F ht⟩) hS.2.2 hd C.2.2.2.2.2.2.2.2.1
theorem V_vret  (C : Cx p l s m args meth c D B tW α0 own cc nL ret mn tab) (hQ : Q = vx_MQ below (cQ D B α0 ν0 Po) (cX D B α0 ν0 PX) args s mc ms (uB B)) (hc : cells ≤ mc) (hs : slots ≤ ms) (hd : decode cc pc = .ok (.return_, 1)) (hr : ret = none) (hp : Po none ν ι ρ ℓ) : V p l e R s m args below meth c D B α0 ν0 nL Q cells slots ν ι ρ ℓ pc lv [] := by
  intro α H locs ls hR hS hl h0 h1 h2
  subst hQ
  refine W.widen hc hs (vx_ret ?_)
  exact W.vret C.1 C.2.1 (C.2.2.2.2.2.2.2.1.trans hr) (fun t ht hW => ⟨⟨α, ν, ι, ρ, ℓ, none, rfl, hp, by rw [ht]; exact hR, h0, fun w hw => by cases hw⟩, hS.F ht⟩) hS.2.2 hd C.2.2.2.2.2.2.2.2.1
theorem V_aret {q : Option Pt3} {rc : String} (C : Cx p l s m args meth c D B tW α0 own cc nL ret mn tab) (hQ : Q = vx_MQ below (cQ D B α0 ν0 Po) (cX D B α0 ν0 PX) args s mc ms (uB B)) (hc : cells ≤ mc) (hs : slots ≤ ms) (hd : decode cc pc = .ok (.areturn, 1)) (hr : ret = some (.object rc)) (hp : Po (some (sQ q)) ν ι ρ ℓ) : V p l e R s m args below meth c D B α0 ν0 nL Q cells slots ν ι ρ ℓ pc lv [sQ q] := by
  intro α H locs ls hR hS hl h0 h1 h2
  subst hQ
  refine W.widen hc hs (vx_ret ?_)
  exact W.aret (v := enc α (sQ q)) C.1 C.2.1 (C.2.2.2.2.2.2.2.1.trans hr) (Or.inl ⟨_, rfl⟩) (by cases q with | none => exact Or.inl rfl | some z => exact Or.inr ⟨_, rfl⟩) (fun t ht hW => ⟨⟨α, ν, ι, ρ, ℓ, some (sQ q), rfl, hp, by rw [ht]; exact hR, h0, fun w hw => by cases hw; exact wfl_h h2⟩, hS.F ht⟩) hS.2.2 hd C.2.2.2.2.2.2.2.2.1
theorem V_throwS {E text : String} {ik is ic : Nat} (C : Cx p l s m args meth c D B tW α0 own cc nL ret mn tab) (hQ : Q = vx_MQ below (cQ D B α0 ν0 Po) (cX D B α0 ν0 PX) args s mc ms (uB B)) (ht : tab = []) (hE : Bundle.fit E = true) (hk : Cond.classLink own ik E ∈ tb_) (hini : Cond.initialized E ∈ tb_) (hstr : (own, is, text) ∈ st_)
    (hat : ∀ w ∈ (vx_atS own ic E ["java/lang/RuntimeException", "java/lang/Exception"]).filter goodWord, w ∈ tb_) (hat2 : ∀ w ∈ (vx_atS own ic E ["java/lang/RuntimeException", "java/lang/Exception"]).filter (fun w => !goodWord w), w ∈ [Cond.castable E E]) (hca : (E, E) ∈ nwC)
    (hgd : ∀ w ∈ Cond.classLink own ik E :: Cond.initialized E :: vx_atS own ic E ["java/lang/RuntimeException", "java/lang/Exception"], vx_ot w = true)
    (d0 : decode cc pc = .ok (.new ik, 3)) (d3 : decode cc (pc + 3) = .ok (.dup, 1)) (d4 : decode cc (pc + 4) = .ok (.ldc is, 2)) (d6 : decode cc (pc + 6) = .ok (.invokespecial ic, 3)) (d9 : decode cc (pc + 9) = .ok (.athrow, 1))
    (hRf : 5 < R.frames) (hRl : (st.map scat).sum + 82 ≤ R.locals) (hRc : cells + 1 ≤ R.cells) (hRs : slots + 6 ≤ R.slots) (hc1 : cells + 1 ≤ mc) (hs1 : slots + 6 ≤ ms) (hp : PX E ν ι ρ ℓ) : V p l e R s m args below meth c D B α0 ν0 nL Q cells slots ν ι ρ ℓ pc lv st := by
  intro α H locs ls hR hS hl h0 h1 h2
  subst hQ
  obtain ⟨a, ha⟩ := C.2.2.2.2.2.1.1.2.2.2.2.2.2.2 _ hstr
  have hcat : ((st.map (enc α)).map fun v => v.category).sum = (st.map scat).sum := by
    rw [List.map_map]
    exact congrArg List.sum (List.map_congr_left fun v _ => enc_cat α v)
  refine vx_throwS (names := ["java/lang/RuntimeException", "java/lang/Exception"]) (A := uB B) C.1 C.2.1 C.2.2.2.2.2.2.2.2.2.1 C.2.2.2.1 hE (by decide) (C.2.2.2.2.1 _ hk) (C.2.2.2.2.1 _ hini) ha ?_ hgd C.2.2.2.2.2.1.2.1 C.2.2.2.2.2.1.2.2.1 hS (hl.1.trans C.2.2.1.symm) d0 d3 d4 d6 d9 ?_ hRf ?_ hRc hRs C.2.2.2.2.2.2.2.2.1 ?_ hS.2.2 hc1 hs1
  · refine vx_hat (B := [Cond.castable E E]) (fun w hw => C.2.2.2.2.1 w (hat w hw)) hat2 (vx_c ?_ vx_n)
    exact va_Nw.use rfl (C.2.2.2.2.2.1.1.2.2.2.2.1 _ hca)
  · rw [C.2.2.2.2.2.2.2.2.2.2.1, ht]
    exact fun x hx => nomatch hx
  · rw [hcat]; exact hRl
  · intro t hal hz hq
    refine ⟨⟨α, ν, ι, ρ, ℓ, hp, ?_, h0⟩, ?_, ?_⟩
    · refine ⟨hR.1, fun r i j n hn => ?_, hR.2.2.1, Nat.le_trans hR.2.2.2 hz⟩
      obtain ⟨g1, g2, g3, g4⟩ := hR.2.1 r i j n hn
      exact ⟨g1, g2, g3.to rfl (hq _ g3.lt) (fun _ _ => rfl), g4⟩
    · exact Nat.le_trans hS.1 hz
    · intro q hq1 hq2
      rw [hq q (Nat.lt_of_lt_of_le hq1 hS.1)]
      exact hS.2.1 q hq1 hq2
end Ret
end Am
end
section
/-- what is known of a class of objects -/
def ClF (r : Nat) (C : String) (T : u_T) (N : Nat) : Prop := r < 20 ∧ cls_[r]? = some (C, T, N) ∧ (∀ w ∈ u_ws C T N, w ∈ tb_) ∧ (∀ k, k < N → parseFieldDescriptor (T k).2.2.1 = some (slt r k)) ∧ (∀ a, a < N → ∀ b, b < N → a ≠ b → (T a).2.1 ≠ (T b).2.1) ∧ Cond.instantiable C N ∈ tb_ ∧ Cond.initialized C ∈ tb_ ∧ N < 1000
theorem Rh.put {D : GD} {B : Nat} {α : Ad} {ν : Nu} {ι ι' : Io} {ρ ρ' : Ro} {ℓ ℓ' : Lo} {H H' : Heap} {r i j n : Nat} (hR : Rh D B α ν ι ρ ℓ H) (hν : ν r i j = some n) (hz : H'.size = H.size) (ho : ∀ q, q ≠ α r i j → H'[q]? = H[q]?)
    (hι : ∀ a b d k, ¬ (a = r ∧ b = i ∧ d = j) → ι' a b d k = ι a b d k) (hρ : ∀ a b d k, ¬ (a = r ∧ b = i ∧ d = j) → ρ' a b d k = ρ a b d k) (hℓ : ∀ a b d k, ¬ (a = r ∧ b = i ∧ d = j) → ℓ' a b d k = ℓ a b d k)
    (hc : cellA D α ι' ρ' ℓ' r i j n H') (hw : ∀ k q, k < n → kd (slt r k) = 1 → ρ' r i j k = some q → alv ν q) : Rh D B α ν ι' ρ' ℓ' H' := by
  refine ⟨hR.1, fun a b d n' hn => ?_, fun a b d n' k q hn hk ht hq => ?_, by rw [hz]; exact hR.2.2.2⟩
  · obtain ⟨g1, g2, g3, g4⟩ := hR.2.1 a b d n' hn
    by_cases e : a = r ∧ b = i ∧ d = j
    · obtain ⟨rfl, rfl, rfl⟩ := e
      cases hν.symm.trans hn
      exact ⟨g1, g2, hc, g4⟩
    · refine ⟨g1, g2, g3.to rfl (ho _ fun q => e ?_) (fun k hk => ?_), g4⟩
      · exact hR.1 _ _ _ _ _ _ g1 (hR.2.1 r i j n hν).1 q
      · unfold cont
        rw [hι a b d k e, hρ a b d k e, hℓ a b d k e]
  · by_cases e : a = r ∧ b = i ∧ d = j
    · obtain ⟨rfl, rfl, rfl⟩ := e
      cases hν.symm.trans hn
      exact hw k q hk ht hq
    · rw [hρ a b d k e] at hq
      exact hR.2.2.1 a b d n' k q hn hk ht hq
theorem alv_up {ν : Nu} {r i j n : Nat} (q : Pt3) (h : alv ν q) : alv (up3 ν r i j (some n)) q := by
  rcases h with h | h
  · left
    unfold up3
    by_cases e : q.1 = r ∧ q.2.1 = i ∧ q.2.2 = j
    · rw [if_pos e]; exact fun z => by cases z
    · rw [if_neg e]; exact h
  · exact Or.inr h
theorem Rh.grow {D : GD} {B : Nat} {α : Ad} {ν : Nu} {ι ι' : Io} {ρ ρ' : Ro} {ℓ ℓ' : Lo} {H H' : Heap} {r i j n : Nat} (hR : Rh D B α ν ι ρ ℓ H) (hr : r < 98) (hn : n < 2147483648) (hν : ν r i j = none) (hz : H'.size = H.size + 1) (ho : ∀ q, q < H.size → H'[q]? = H[q]?)
    (hι : ∀ a b d k, ¬ (a = r ∧ b = i ∧ d = j) → ι' a b d k = ι a b d k) (hρ : ∀ a b d k, ¬ (a = r ∧ b = i ∧ d = j) → ρ' a b d k = ρ a b d k) (hℓ : ∀ a b d k, ¬ (a = r ∧ b = i ∧ d = j) → ℓ' a b d k = ℓ a b d k) (hρn : ∀ k, kd (slt r k) = 1 → ρ' r i j k = none)
    (hc : ∀ α' : Ad, α' r i j = H.size → cellA D α' ι' ρ' ℓ' r i j n H') : ∃ α' : Ad, agr α ν α' (up3 ν r i j (some n)) ∧ α' r i j = H.size ∧ Rh D B α' (up3 ν r i j (some n)) ι' ρ' ℓ' H' := by
  obtain ⟨α', hα⟩ : ∃ α' : Ad, α' = fun a b d => if a = r ∧ b = i ∧ d = j then H.size else if a < 98 ∧ α a b d = H.size then α r i j else α a b d := ⟨_, rfl⟩
  have hat : α' r i j = H.size := by rw [hα]; simp
  have hold : ∀ a b d, 98 ≤ a ∨ ν a b d ≠ none → α' a b d = α a b d := by
    intro a b d h
    have e : ¬ (a = r ∧ b = i ∧ d = j) := by
      rintro ⟨rfl, rfl, rfl⟩
      rcases h with h | h
      · omega
      · exact h hν
    have e2 : ¬ (a < 98 ∧ α a b d = H.size) := by
      rintro ⟨g1, g2⟩
      rcases h with h | h
      · omega
      · cases hx : ν a b d with
        | none => exact h hx
        | some n' =>
          have := (hR.2.1 a b d n' hx).2.2.1.lt
          omega
    rw [hα]
    simp only [if_neg e, if_neg e2]
  refine ⟨α', ⟨fun a b d h => ?_, hold⟩, hat, fun a b d a' b' d' g g' he => ?_, fun a b d n' hn' => ?_, fun a b d n' k q hn' hk ht hq => ?_, by have := hR.2.2.2; omega⟩
  · unfold up3
    by_cases e : a = r ∧ b = i ∧ d = j
    · rw [if_pos e]; exact fun z => by cases z
    · rw [if_neg e]; exact h
  · rw [hα] at he
    simp only at he
    by_cases e : a = r ∧ b = i ∧ d = j <;> by_cases e' : a' = r ∧ b' = i ∧ d' = j
    · obtain ⟨rfl, rfl, rfl⟩ := e
      obtain ⟨rfl, rfl, rfl⟩ := e'
      exact ⟨rfl, rfl, rfl⟩
    · rw [if_pos e, if_neg e'] at he
      by_cases f' : a' < 98 ∧ α a' b' d' = H.size
      · rw [if_pos f'] at he
        have := hR.1 _ _ _ _ _ _ hr g' (he.symm.trans f'.2.symm)
        exact absurd ⟨this.1.symm, this.2.1.symm, this.2.2.symm⟩ e'
      · rw [if_neg f'] at he
        exact absurd ⟨g', he.symm⟩ f'
    · rw [if_neg e, if_pos e'] at he
      by_cases f : a < 98 ∧ α a b d = H.size
      · rw [if_pos f] at he
        have := hR.1 _ _ _ _ _ _ hr g (he.trans f.2.symm)
        exact absurd ⟨this.1.symm, this.2.1.symm, this.2.2.symm⟩ e
      · rw [if_neg f] at he
        exact absurd ⟨g, he⟩ f
    · rw [if_neg e, if_neg e'] at he
      by_cases f : a < 98 ∧ α a b d = H.size <;> by_cases f' : a' < 98 ∧ α a' b' d' = H.size
      · exact hR.1 _ _ _ _ _ _ g g' (f.2.trans f'.2.symm)
      · rw [if_pos f, if_neg f'] at he
        have := hR.1 _ _ _ _ _ _ hr g' he
        exact absurd ⟨this.1.symm, this.2.1.symm, this.2.2.symm⟩ e'
      · rw [if_neg f, if_pos f'] at he
        have := hR.1 _ _ _ _ _ _ g hr he
        exact absurd this e
      · rw [if_neg f, if_neg f'] at he
        exact hR.1 _ _ _ _ _ _ g g' he
  · by_cases e : a = r ∧ b = i ∧ d = j
    · obtain ⟨rfl, rfl, rfl⟩ := e
      rw [up3_s] at hn'
      cases hn'
      exact ⟨hr, hn, hc α' hat, by rw [hat]; exact hR.2.2.2⟩
    · have hn2 : ν a b d = some n' := by unfold up3 at hn'; rwa [if_neg e] at hn'
      obtain ⟨g1, g2, g3, g4⟩ := hR.2.1 a b d n' hn2
      have ha := hold a b d (Or.inr (by rw [hn2]; exact fun z => by cases z))
      refine ⟨g1, g2, g3.to ha (ho _ g3.lt) (fun k hk => ?_), by rw [ha]; exact g4⟩
      unfold cont
      rw [hι a b d k e, hρ a b d k e, hℓ a b d k e]
      split
      · rfl
      · rename_i ht
        exact (enc_ag (ν := ν) (fun q hq => hR.2.2.1 a b d n' k q hn2 hk ht (Sum.inr.inj (Sum.inr.inj hq))) hold).symm
      · rfl
  · by_cases e : a = r ∧ b = i ∧ d = j
    · obtain ⟨rfl, rfl, rfl⟩ := e
      rw [hρn k ht] at hq
      cases hq
    · have hn2 : ν a b d = some n' := by unfold up3 at hn'; rwa [if_neg e] at hn'
      rw [hρ a b d k e] at hq
      exact alv_up q (hR.2.2.1 a b d n' k q hn2 hk ht hq)
theorem up4_o {β : Type} {f : Nat → Nat → Nat → Nat → β} {r i j k : Nat} {x : β} (a b d k' : Nat) (h : ¬ (a = r ∧ b = i ∧ d = j)) : up4 f r i j k x a b d k' = f a b d k' := by
  unfold up4
  exact if_neg fun z => h ⟨z.1, z.2.1, z.2.2.1⟩
theorem upA_o {β : Type} {f : Nat → Nat → Nat → Nat → β} {r i j : Nat} {x : Nat → β} (a b d k' : Nat) (h : ¬ (a = r ∧ b = i ∧ d = j)) : upA f r i j x a b d k' = f a b d k' := by
  unfold upA
  exact if_neg h
theorem updV_at {f : Nat → Value} {k : Nat} {v : Value} : updV f k v k = v := by simp [updV]
theorem updV_ne {f : Nat → Value} {k j : Nat} {v : Value} (h : j ≠ k) : updV f k v j = f j := by simp [updV, h]
theorem cont_upI {α : Ad} {ι : Io} {ρ : Ro} {ℓ : Lo} {r i j k : Nat} {x : Int32} (h : kd (slt r k) = 0) (k' : Nat) : updV (cont α ι ρ ℓ r i j) k (.int x) k' = cont α (up4 ι r i j k x) ρ ℓ r i j k' := by
  by_cases e : k' = k
  · subst e
    rw [updV_at, cont_I h, up4_s]
  · rw [updV_ne e]
    unfold cont
    rw [show up4 ι r i j k x r i j k' = ι r i j k' from if_neg fun z => e z.2.2.2]
theorem cont_upR {α : Ad} {ι : Io} {ρ : Ro} {ℓ : Lo} {r i j k : Nat} {x : Option Pt3} (h : kd (slt r k) = 1) (k' : Nat) : updV (cont α ι ρ ℓ r i j) k (enc α (sQ x)) k' = cont α ι (up4 ρ r i j k x) ℓ r i j k' := by
  by_cases e : k' = k
  · subst e
    rw [updV_at, cont_R h, up4_s]
  · rw [updV_ne e]
    unfold cont
    rw [show up4 ρ r i j k x r i j k' = ρ r i j k' from if_neg fun z => e z.2.2.2]
theorem cont_upL {α : Ad} {ι : Io} {ρ : Ro} {ℓ : Lo} {r i j k : Nat} {x : Int64} (h : kd (slt r k) = 2) (k' : Nat) : updV (cont α ι ρ ℓ r i j) k (.long x) k' = cont α ι ρ (up4 ℓ r i j k x) r i j k' := by
  by_cases e : k' = k
  · subst e
    rw [updV_at, cont_L h, up4_s]
  · rw [updV_ne e]
    unfold cont
    rw [show up4 ℓ r i j k x r i j k' = ℓ r i j k' from if_neg fun z => e z.2.2.2]
section Am2
variable {p : Program} {l : Launch} {e : Env} {R : Room} {s : State} {m : MethodId} {args : Array Value} {below : List Frame} {meth : Method} {c : Code} {D : GD} {B tW : Nat} {α0 : Ad} {ν0 : Nu} {own : String} {cc : ByteArray} {nL : Nat} {ret : Option FieldType} {mn : String} {tab : List ExceptionTableEntry} {Q : State → Prop} {cells slots : Nat} {ν : Nu} {ι : Io} {ρ : Ro} {ℓ : Lo} {pc : Nat} {lv lv' : List (Nat × SV)} {st : List SV}
theorem Cx.vk {D : GD} {B tW : Nat} {s : State} (h : KS D B tW s) : va_K (D.1, D.2.1) cls_ [] s := ⟨h.1.1, fun k q z => by simp at z⟩
theorem V_getI {r i j kx N idx : Nat} {C1 : String} {T : u_T} (C : Cx p l s m args meth c D B tW α0 own cc nL ret mn tab) (hd : decode cc pc = .ok (.getfield idx, 3)) (hF : ClF r C1 T N) (hk : kx < N) (hw : Cond.fieldLink own idx (T kx).1 (T kx).2.1 (T kx).2.2.1 ∈ tb_) (ha : ν r i j ≠ none) (ht : kd (slt r kx) = 0) (k : V p l e R s m args below meth c D B α0 ν0 nL Q cells slots ν ι ρ ℓ (pc + 3) lv (sI (ι r i j kx) :: st)) : V p l e R s m args below meth c D B α0 ν0 nL Q cells slots ν ι ρ ℓ pc lv (sR r i j :: st) := by
  intro α H locs ls hR hS hl h0 h1 h2
  obtain ⟨n, hn⟩ := Option.ne_none_iff_exists'.mp ha
  obtain ⟨-, -, g3, -⟩ := hR.2.1 r i j n hn
  obtain ⟨q, h3, h4, cell, q1, q2, q3, q4⟩ := g3.1 hF.1
  cases hF.2.1.symm.trans h3
  obtain ⟨hS1, hfc, kC, hkC, hkind⟩ := C.2.2.2.2.2.1.1.1 r _ hF.2.1
  obtain ⟨cf, kf, fi, f, hi, hsl⟩ := hS1 kx hk
  exact W.getf C.1 C.2.1 C.2.2.2.1 (C.2.2.2.2.1 _ hw) hi (u_facts hfc hkC (u_lays C.2.2.2.2.1 hF.2.2.1 hk) hi).1 q1 (by rw [q3]; exact fun h => by cases h) (v := .int (ι r i j kx)) (by rw [hsl, q4 kx hk, cont_I ht]) rfl rfl hd (k α H locs ls hR hS hl h0 h1 (wfl_c wfv_I (wfl_t h2)))
theorem V_getR {r i j kx N idx : Nat} {C1 : String} {T : u_T} {x : Option Pt3} (C : Cx p l s m args meth c D B tW α0 own cc nL ret mn tab) (hd : decode cc pc = .ok (.getfield idx, 3)) (hF : ClF r C1 T N) (hk : kx < N) (hw : Cond.fieldLink own idx (T kx).1 (T kx).2.1 (T kx).2.2.1 ∈ tb_) (ha : ν r i j ≠ none) (ht : kd (slt r kx) = 1) (hx : ρ r i j kx = x) (k : V p l e R s m args below meth c D B α0 ν0 nL Q cells slots ν ι ρ ℓ (pc + 3) lv (sQ x :: st)) : V p l e R s m args below meth c D B α0 ν0 nL Q cells slots ν ι ρ ℓ pc lv (sR r i j :: st) := by
  intro α H locs ls hR hS hl h0 h1 h2
  obtain ⟨n, hn⟩ := Option.ne_none_iff_exists'.mp ha
  obtain ⟨-, -, g3, -⟩ := hR.2.1 r i j n hn
  obtain ⟨q, h3, h4, cell, q1, q2, q3, q4⟩ := g3.1 hF.1
  cases hF.2.1.symm.trans h3
  obtain ⟨hS1, hfc, kC, hkC, hkind⟩ := C.2.2.2.2.2.1.1.1 r _ hF.2.1
  obtain ⟨cf, kf, fi, f, hi, hsl⟩ := hS1 kx hk
  have hkn : kx < n := by rw [h4]; exact hk
  exact W.getf C.1 C.2.1 C.2.2.2.1 (C.2.2.2.2.1 _ hw) hi (u_facts hfc hkC (u_lays C.2.2.2.2.1 hF.2.2.1 hk) hi).1 q1 (by rw [q3]; exact fun h => by cases h) (v := enc α (sQ x)) (by rw [hsl, q4 kx hk, cont_R ht, hx]) rfl rfl hd (k α H locs ls hR hS hl h0 h1 (wfl_c (fun q hq => hR.2.2.1 r i j n kx q hn hkn ht (by cases hq; exact hx)) (wfl_t h2)))
theorem V_putI {r i j kx N idx : Nat} {C1 : String} {T : u_T} {x : Int32} (C : Cx p l s m args meth c D B tW α0 own cc nL ret mn tab) (hd : decode cc pc = .ok (.putfield idx, 3)) (hF : ClF r C1 T N) (hk : kx < N) (hw : Cond.fieldLink own idx (T kx).1 (T kx).2.1 (T kx).2.2.1 ∈ tb_) (ha : ν r i j ≠ none) (ht : kd (slt r kx) = 0) (hf : (T kx).2.2.2 = false) (hx : narrow (slt r kx) (.int x) = .int x) (hy : fits (slt r kx) (.int x) = true) (k : V p l e R s m args below meth c D B α0 ν0 nL Q cells slots ν (up4 ι r i j kx x) ρ ℓ (pc + 3) lv st) : V p l e R s m args below meth c D B α0 ν0 nL Q cells slots ν ι ρ ℓ pc lv (sI x :: sR r i j :: st) := by
  intro α H locs ls hR hS hl h0 h1 h2
  obtain ⟨n, hn⟩ := Option.ne_none_iff_exists'.mp ha
  obtain ⟨-, -, g3, -⟩ := hR.2.1 r i j n hn
  obtain ⟨q, h3, h4, cell, q1, q2, q3, q4⟩ := g3.1 hF.1
  cases hF.2.1.symm.trans h3
  obtain ⟨hS1, hfc, kC, hkC, hkind⟩ := C.2.2.2.2.2.1.1.1 r _ hF.2.1
  obtain ⟨cf, kf, fi, f, hi, hsl⟩ := hS1 kx hk
  have hap := va_apart (own := own) C.2.2.2.2.1 hF.2.2.1 (slt r) hF.2.2.2.1 hF.2.2.2.2.1 (Cx.vk C.2.2.2.2.2.1) hF.2.1
  have hlay := C.2.2.2.2.1 _ (hF.2.2.1 _ (u_in_lay hk))
  unfold u_lay at hlay
  rw [if_neg (by rw [hf]; decide)] at hlay
  have h6 := u_store hfc hkC hkind hlay hi (hF.2.2.2.1 kx hk) hx hy
  refine W.putK C.1 C.2.1 (f := f) ⟨C.2.2.2.1, C.2.2.2.2.1 _ hw, ⟨_, _, _, hi⟩, (u_facts hfc hkC (u_lays C.2.2.2.2.1 hF.2.2.1 hk) hi).1⟩ (v := .int x) (by rw [q2]; exact h6) q1 q3 (by rw [hsl]; exact k2_hasslot (q4 kx hk)) rfl rfl hd fun H' e1 e2 e3 => ?_
  rw [hsl] at e1 ⊢
  refine k α H' _ ls (hR.put hn e2 e3 up4_o (fun _ _ _ _ _ => rfl) (fun _ _ _ _ _ => rfl) ⟨fun _ => ⟨_, hF.2.1, h4, t_OB.to (V := updV (cont α ι ρ ℓ r i j) kx _) ⟨_, e1, q2, q3, t_set q4 hap hk _⟩ (fun k' _ => cont_upI ht k')⟩, fun z => absurd hF.1 (by omega)⟩ (fun k9 q9 z1 z2 z3 => hR.2.2.1 r i j n k9 q9 hn z1 z2 z3)) (hS.put e2 e3 (hR.2.1 r i j n hn).2.2.2) hl h0 h1 (wfl_t (wfl_t h2))
theorem V_putIF {r i j kx N idx : Nat} {C1 : String} {T : u_T} {x : Int32} (C : Cx p l s m args meth c D B tW α0 own cc nL ret mn tab) (hd : decode cc pc = .ok (.putfield idx, 3)) (hF : ClF r C1 T N) (hk : kx < N) (hw : Cond.fieldLink own idx (T kx).1 (T kx).2.1 (T kx).2.2.1 ∈ tb_) (ha : ν r i j ≠ none) (ht : kd (slt r kx) = 0) (hf : (T kx).2.2.2 = true) (hmn : mn = "<init>") (hdc : (T kx).1 = own) (hx : narrow (slt r kx) (.int x) = .int x) (hy : fits (slt r kx) (.int x) = true) (k : V p l e R s m args below meth c D B α0 ν0 nL Q cells slots ν (up4 ι r i j kx x) ρ ℓ (pc + 3) lv st) : V p l e R s m args below meth c D B α0 ν0 nL Q cells slots ν ι ρ ℓ pc lv (sI x :: sR r i j :: st) := by
  intro α H locs ls hR hS hl h0 h1 h2
  obtain ⟨n, hn⟩ := Option.ne_none_iff_exists'.mp ha
  obtain ⟨-, -, g3, -⟩ := hR.2.1 r i j n hn
  obtain ⟨q, h3, h4, cell, q1, q2, q3, q4⟩ := g3.1 hF.1
  cases hF.2.1.symm.trans h3
  obtain ⟨hS1, hfc, kC, hkC, hkind⟩ := C.2.2.2.2.2.1.1.1 r _ hF.2.1
  obtain ⟨cf, kf, fi, f, hi, hsl⟩ := hS1 kx hk
  have hap := va_apart (own := own) C.2.2.2.2.1 hF.2.2.1 (slt r) hF.2.2.2.1 hF.2.2.2.2.1 (Cx.vk C.2.2.2.2.2.1) hF.2.1
  have hlay := C.2.2.2.2.1 _ (hF.2.2.1 _ (u_in_lay hk))
  unfold u_lay at hlay
  rw [if_pos hf] at hlay
  have hcf : m.cls = cf := by
    obtain ⟨_, _, c', _, _, _, -, -, hf', -, -, -, hown2, -⟩ := Cond.laysFinal_spec hlay
    have e1 : c' = cf := by have := hi.symm.trans hf'; simp at this; exact this.1.symm
    rw [hdc] at hown2
    rw [← e1]; exact Option.some.inj (C.2.2.2.1.symm.trans hown2)
  have h6 := u_fits hfc hkC hkind (Or.inr hlay) hi (hF.2.2.2.1 kx hk) hx hy
  refine W.putFinK C.1 C.2.1 C.2.2.2.1 (C.2.2.2.2.1 _ hw) hi (u_facts hfc hkC (u_lays C.2.2.2.2.1 hF.2.2.1 hk) hi).1 hcf (C.2.2.2.2.2.2.2.2.2.2.2.1.trans hmn) (v := .int x) (by rw [q2]; exact h6) q1 q3 (by rw [hsl]; exact k2_hasslot (q4 kx hk)) rfl rfl hd fun H' e1 e2 e3 => ?_
  rw [hsl] at e1 ⊢
  refine k α H' _ ls (hR.put hn e2 e3 up4_o (fun _ _ _ _ _ => rfl) (fun _ _ _ _ _ => rfl) ⟨fun _ => ⟨_, hF.2.1, h4, t_OB.to (V := updV (cont α ι ρ ℓ r i j) kx _) ⟨_, e1, q2, q3, t_set q4 hap hk _⟩ (fun k' _ => cont_upI ht k')⟩, fun z => absurd hF.1 (by omega)⟩ (fun k9 q9 z1 z2 z3 => hR.2.2.1 r i j n k9 q9 hn z1 z2 z3)) (hS.put e2 e3 (hR.2.1 r i j n hn).2.2.2) hl h0 h1 (wfl_t (wfl_t h2))
theorem V_putRF {r i j kx N idx : Nat} {C1 : String} {T : u_T} {x : Pt3} (C : Cx p l s m args meth c D B tW α0 own cc nL ret mn tab) (hd : decode cc pc = .ok (.putfield idx, 3)) (hF : ClF r C1 T N) (hk : kx < N) (hw : Cond.fieldLink own idx (T kx).1 (T kx).2.1 (T kx).2.2.1 ∈ tb_) (ha : ν r i j ≠ none) (ht : kd (slt r kx) = 1) (hf : (T kx).2.2.2 = true) (hmn : mn = "<init>") (hdc : (T kx).1 = own) (hx : ∀ a, narrow (slt r kx) (.ref a) = .ref a) (hy : ∀ a, fits (slt r kx) (.ref a) = true) (k : V p l e R s m args below meth c D B α0 ν0 nL Q cells slots ν ι (up4 ρ r i j kx (some x)) ℓ (pc + 3) lv st) : V p l e R s m args below meth c D B α0 ν0 nL Q cells slots ν ι ρ ℓ pc lv (sQ (some x) :: sR r i j :: st) := by
  intro α H locs ls hR hS hl h0 h1 h2
  obtain ⟨n, hn⟩ := Option.ne_none_iff_exists'.mp ha
  obtain ⟨-, -, g3, -⟩ := hR.2.1 r i j n hn
  obtain ⟨q, h3, h4, cell, q1, q2, q3, q4⟩ := g3.1 hF.1
  cases hF.2.1.symm.trans h3
  obtain ⟨hS1, hfc, kC, hkC, hkind⟩ := C.2.2.2.2.2.1.1.1 r _ hF.2.1
  obtain ⟨cf, kf, fi, f, hi, hsl⟩ := hS1 kx hk
  have hap := va_apart (own := own) C.2.2.2.2.1 hF.2.2.1 (slt r) hF.2.2.2.1 hF.2.2.2.2.1 (Cx.vk C.2.2.2.2.2.1) hF.2.1
  have hlay := C.2.2.2.2.1 _ (hF.2.2.1 _ (u_in_lay hk))
  unfold u_lay at hlay
  rw [if_pos hf] at hlay
  have hcf : m.cls = cf := by
    obtain ⟨_, _, c', _, _, _, -, -, hf', -, -, -, hown2, -⟩ := Cond.laysFinal_spec hlay
    have e1 : c' = cf := by have := hi.symm.trans hf'; simp at this; exact this.1.symm
    rw [hdc] at hown2
    rw [← e1]; exact Option.some.inj (C.2.2.2.1.symm.trans hown2)
  have h6 := u_fits hfc hkC hkind (Or.inr hlay) hi (hF.2.2.2.1 kx hk) (hx (ad3 α x)) (hy (ad3 α x))
  refine W.putFinK C.1 C.2.1 C.2.2.2.1 (C.2.2.2.2.1 _ hw) hi (u_facts hfc hkC (u_lays C.2.2.2.2.1 hF.2.2.1 hk) hi).1 hcf (C.2.2.2.2.2.2.2.2.2.2.2.1.trans hmn) (v := .ref (ad3 α x)) (by rw [q2]; exact h6) q1 q3 (by rw [hsl]; exact k2_hasslot (q4 kx hk)) rfl rfl hd fun H' e1 e2 e3 => ?_
  rw [hsl] at e1 ⊢
  refine k α H' _ ls (hR.put hn e2 e3 (fun _ _ _ _ _ => rfl) up4_o (fun _ _ _ _ _ => rfl) ⟨fun _ => ⟨_, hF.2.1, h4, t_OB.to (V := updV (cont α ι ρ ℓ r i j) kx _) ⟨_, e1, q2, q3, t_set q4 hap hk _⟩ (fun k' _ => cont_upR (x := some x) ht k')⟩, fun z => absurd hF.1 (by omega)⟩ (fun k9 q9 z1 z2 z3 => by
      by_cases e9 : k9 = kx
      · subst e9
        rw [up4_s] at z3
        cases z3
        exact wfl_h h2 x rfl
      · rw [show up4 ρ r i j kx (some x) r i j k9 = ρ r i j k9 from if_neg fun z => e9 z.2.2.2] at z3
        exact hR.2.2.1 r i j n k9 q9 hn z1 z2 z3)) (hS.put e2 e3 (hR.2.1 r i j n hn).2.2.2) hl h0 h1 (wfl_t (wfl_t h2))
end Am2
end
section
section Am3
variable {p : Program} {l : Launch} {e : Env} {R : Room} {s : State} {m : MethodId} {args : Array Value} {below : List Frame} {meth : Method} {c : Code} {D : GD} {B tW : Nat} {α0 : Ad} {ν0 : Nu} {own : String} {cc : ByteArray} {nL : Nat} {ret : Option FieldType} {mn : String} {tab : List ExceptionTableEntry} {Q : State → Prop} {cells slots : Nat} {ν : Nu} {ι : Io} {ρ : Ro} {ℓ : Lo} {pc : Nat} {lv lv' : List (Nat × SV)} {st : List SV}
/-- what the tables say of the arrays' class -/
theorem Cx.ar {D : GD} {B tW : Nat} {s : State} (h : KS D B tW s) {r : Nat} (hr : art r < 8) (n : Nat) (z : Nat → Value) : s.isArrayOf (arrV (D.2.2 (art r)) n z) (aty (art r)) := (h.1.2.1 (art r) hr).1 n z
theorem nI_in' {x : Int32} {t n : Nat} (hx : x = nI t) (ht : t < n) (hn : n < 2147483648) : ¬ (x < 0 ∨ n ≤ x.toNatClampNeg) := by rw [hx]; exact nI_in ht hn
theorem nI_cl' {x : Int32} {t n : Nat} (hx : x = nI t) (ht : t < n) (hn : n < 2147483648) : x.toNatClampNeg = t := by rw [hx]; exact nI_clamp (by omega)
theorem V_iald {r i j n t : Nat} {x : Int32} (C : Cx p l s m args meth c D B tW α0 own cc nL ret mn tab) (hd : decode cc pc = .ok (.iaload, 1)) (hr : 20 ≤ r) (ha : art r = 0) (hn : ν r i j = some n) (hx : x = nI t) (ht : t < n) (hk : kd (slt r t) = 0) (k : V p l e R s m args below meth c D B α0 ν0 nL Q cells slots ν ι ρ ℓ (pc + 1) lv (sI (ι r i j t) :: st)) : V p l e R s m args below meth c D B α0 ν0 nL Q cells slots ν ι ρ ℓ pc lv (sI x :: sR r i j :: st) := by
  intro α H locs ls hR hS hl h0 h1 h2
  obtain ⟨-, hn31, g3, g4⟩ := hR.2.1 r i j n hn
  have hcell := g3.2 hr
  have hcl := nI_cl' hx ht hn31
  have hin : ¬ (x < 0 ∨ (arrV (D.2.2 (art r)) n (cont α ι ρ ℓ r i j)).slots.size ≤ x.toNatClampNeg) := by rw [arrV_size]; exact nI_in' hx ht hn31
  have har := Cx.ar C.2.2.2.2.2.1 (r := r) (by rw [ha]; decide) n (cont α ι ρ ℓ r i j)
  rw [show aty (art r) = aty 0 by rw [ha]] at har
  exact W.iald (v := .int (ι r i j t)) C.1 C.2.1 hcell har (fun q => by cases q) hin (by rw [hcl, arrV_read _ _ ht, cont_I hk]) rfl rfl hd (k α H locs ls hR hS hl h0 h1 (wfl_c wfv_I (wfl_t (wfl_t h2))))
theorem V_zald {r i j n t : Nat} {x : Int32} (C : Cx p l s m args meth c D B tW α0 own cc nL ret mn tab) (hd : decode cc pc = .ok (.baload, 1)) (hr : 20 ≤ r) (ha : art r = 1) (hn : ν r i j = some n) (hx : x = nI t) (ht : t < n) (hk : kd (slt r t) = 0) (k : V p l e R s m args below meth c D B α0 ν0 nL Q cells slots ν ι ρ ℓ (pc + 1) lv (sI (ι r i j t) :: st)) : V p l e R s m args below meth c D B α0 ν0 nL Q cells slots ν ι ρ ℓ pc lv (sI x :: sR r i j :: st) := by
  intro α H locs ls hR hS hl h0 h1 h2
  obtain ⟨-, hn31, g3, g4⟩ := hR.2.1 r i j n hn
  have hcell := g3.2 hr
  have hcl := nI_cl' hx ht hn31
  have hin : ¬ (x < 0 ∨ (arrV (D.2.2 (art r)) n (cont α ι ρ ℓ r i j)).slots.size ≤ x.toNatClampNeg) := by rw [arrV_size]; exact nI_in' hx ht hn31
  have har := Cx.ar C.2.2.2.2.2.1 (r := r) (by rw [ha]; decide) n (cont α ι ρ ℓ r i j)
  rw [show aty (art r) = aty 1 by rw [ha]] at har
  exact W.zald (v := .int (ι r i j t)) C.1 C.2.1 hcell har (fun q => by cases q) hin (by rw [hcl, arrV_read _ _ ht, cont_I hk]) rfl rfl hd (k α H locs ls hR hS hl h0 h1 (wfl_c wfv_I (wfl_t (wfl_t h2))))
theorem V_lald {r i j n t : Nat} {x : Int32} (C : Cx p l s m args meth c D B tW α0 own cc nL ret mn tab) (hd : decode cc pc = .ok (.laload, 1)) (hr : 20 ≤ r) (ha : art r = 2) (hn : ν r i j = some n) (hx : x = nI t) (ht : t < n) (hk : kd (slt r t) = 2) (k : V p l e R s m args below meth c D B α0 ν0 nL Q cells slots ν ι ρ ℓ (pc + 1) lv (sL (ℓ r i j t) :: st)) : V p l e R s m args below meth c D B α0 ν0 nL Q cells slots ν ι ρ ℓ pc lv (sI x :: sR r i j :: st) := by
  intro α H locs ls hR hS hl h0 h1 h2
  obtain ⟨-, hn31, g3, g4⟩ := hR.2.1 r i j n hn
  have hcell := g3.2 hr
  have hcl := nI_cl' hx ht hn31
  have hin : ¬ (x < 0 ∨ (arrV (D.2.2 (art r)) n (cont α ι ρ ℓ r i j)).slots.size ≤ x.toNatClampNeg) := by rw [arrV_size]; exact nI_in' hx ht hn31
  have har := Cx.ar C.2.2.2.2.2.1 (r := r) (by rw [ha]; decide) n (cont α ι ρ ℓ r i j)
  rw [show aty (art r) = aty 2 by rw [ha]] at har
  exact W.lald (v := .long (ℓ r i j t)) C.1 C.2.1 hcell har (fun q => by cases q) hin (by rw [hcl, arrV_read _ _ ht, cont_L hk]) rfl rfl hd (k α H locs ls hR hS hl h0 h1 (wfl_c wfv_L (wfl_t (wfl_t h2))))
theorem V_aald {r i j n t : Nat} {x : Int32} {q : Option Pt3} {C1 : String} (C : Cx p l s m args meth c D B tW α0 own cc nL ret mn tab) (hd : decode cc pc = .ok (.aaload, 1)) (hr : 20 ≤ r) (ha8 : art r < 8) (ha : aty (art r) = .object C1) (hn : ν r i j = some n) (hx : x = nI t) (ht : t < n) (hk : kd (slt r t) = 1) (hq : ρ r i j t = q) (k : V p l e R s m args below meth c D B α0 ν0 nL Q cells slots ν ι ρ ℓ (pc + 1) lv (sQ q :: st)) : V p l e R s m args below meth c D B α0 ν0 nL Q cells slots ν ι ρ ℓ pc lv (sI x :: sR r i j :: st) := by
  intro α H locs ls hR hS hl h0 h1 h2
  obtain ⟨-, hn31, g3, g4⟩ := hR.2.1 r i j n hn
  have hcell := g3.2 hr
  have hcl := nI_cl' hx ht hn31
  have hin : ¬ (x < 0 ∨ (arrV (D.2.2 (art r)) n (cont α ι ρ ℓ r i j)).slots.size ≤ x.toNatClampNeg) := by rw [arrV_size]; exact nI_in' hx ht hn31
  have har := Cx.ar C.2.2.2.2.2.1 (r := r) ha8 n (cont α ι ρ ℓ r i j)
  rw [ha] at har
  exact W.aald (v := enc α (sQ q)) (ty := .object C1) C.1 C.2.1 hcell har rfl (fun q => by cases q) hin (by rw [hcl, arrV_read _ _ ht, cont_R hk, hq]) rfl rfl hd (k α H locs ls hR hS hl h0 h1 (wfl_c (fun z hz => hR.2.2.1 r i j n t z hn ht hk (hq.trans (Sum.inr.inj (Sum.inr.inj hz)))) (wfl_t (wfl_t h2))))
theorem V_alen {r i j n ti : Nat} {v : Int32} (C : Cx p l s m args meth c D B tW α0 own cc nL ret mn tab) (hd : decode cc pc = .ok (.arraylength, 1)) (hr : 20 ≤ r) (ha : art r < 8) (hn : ν r i j = some n) (hv : nI n = v) (k : V p l e R s m args below meth c D B α0 ν0 nL Q cells slots ν ι ρ ℓ (pc + 1) lv (sI v :: st)) : V p l e R s m args below meth c D B α0 ν0 nL Q cells slots ν ι ρ ℓ pc lv (sR r i j :: st) := by
  intro α H locs ls hR hS hl h0 h1 h2
  obtain ⟨-, hn31, g3, g4⟩ := hR.2.1 r i j n hn
  exact W.alen (n := v) C.1 C.2.1 (g3.2 hr) (Cx.ar C.2.2.2.2.2.1 ha n _) (by rw [arrV_size]; exact hv) rfl rfl hd (k α H locs ls hR hS hl h0 h1 (wfl_c wfv_I (wfl_t h2)))
theorem V_iast {r i j n t : Nat} {x : Int32} {y : Int32} (C : Cx p l s m args meth c D B tW α0 own cc nL ret mn tab) (hd : decode cc pc = .ok (.iastore, 1)) (hr : 20 ≤ r) (ha : art r = 0) (hn : ν r i j = some n) (hx : x = nI t) (ht : t < n) (hk : kd (slt r t) = 0) (k : V p l e R s m args below meth c D B α0 ν0 nL Q cells slots ν (up4 ι r i j t y) ρ ℓ (pc + 1) lv st) : V p l e R s m args below meth c D B α0 ν0 nL Q cells slots ν ι ρ ℓ pc lv (sI y :: sI x :: sR r i j :: st) := by
  intro α H locs ls hR hS hl h0 h1 h2
  obtain ⟨-, hn31, g3, g4⟩ := hR.2.1 r i j n hn
  have hcell := g3.2 hr
  have hcl := nI_cl' hx ht hn31
  have hin : ¬ (x < 0 ∨ (arrV (D.2.2 (art r)) n (cont α ι ρ ℓ r i j)).slots.size ≤ x.toNatClampNeg) := by rw [arrV_size]; exact nI_in' hx ht hn31
  have har := Cx.ar C.2.2.2.2.2.1 (r := r) (by rw [ha]; decide) n (cont α ι ρ ℓ r i j)
  rw [show aty (art r) = aty 0 by rw [ha]] at har
  refine W.iast C.1 C.2.1 hcell har (fun q => by cases q) hin rfl rfl hd fun H' e1 e2 e3 => ?_
  refine k α H' _ ls (hR.put hn e2 e3 up4_o (fun _ _ _ _ _ => rfl) (fun _ _ _ _ _ => rfl) ⟨fun z => absurd z (by omega), fun _ => ?_⟩ (fun k9 q9 z1 z2 z3 => hR.2.2.1 r i j n k9 q9 hn z1 z2 z3)) (hS.put e2 e3 g4) hl h0 h1 (wfl_t (wfl_t (wfl_t h2)))
  rw [hcl] at e1
  rw [e1, arrV_store]
  exact congrArg some (arrV_congr fun k' _ => cont_upI hk k')
theorem V_zast {r i j n t : Nat} {x : Int32} {y : Int32} (C : Cx p l s m args meth c D B tW α0 own cc nL ret mn tab) (hd : decode cc pc = .ok (.bastore, 1)) (hr : 20 ≤ r) (ha : art r = 1) (hn : ν r i j = some n) (hx : x = nI t) (ht : t < n) (hy : narrow .boolean (.int y) = .int y) (hk : kd (slt r t) = 0) (k : V p l e R s m args below meth c D B α0 ν0 nL Q cells slots ν (up4 ι r i j t y) ρ ℓ (pc + 1) lv st) : V p l e R s m args below meth c D B α0 ν0 nL Q cells slots ν ι ρ ℓ pc lv (sI y :: sI x :: sR r i j :: st) := by
  intro α H locs ls hR hS hl h0 h1 h2
  obtain ⟨-, hn31, g3, g4⟩ := hR.2.1 r i j n hn
  have hcell := g3.2 hr
  have hcl := nI_cl' hx ht hn31
  have hin : ¬ (x < 0 ∨ (arrV (D.2.2 (art r)) n (cont α ι ρ ℓ r i j)).slots.size ≤ x.toNatClampNeg) := by rw [arrV_size]; exact nI_in' hx ht hn31
  have har := Cx.ar C.2.2.2.2.2.1 (r := r) (by rw [ha]; decide) n (cont α ι ρ ℓ r i j)
  rw [show aty (art r) = aty 1 by rw [ha]] at har
  refine W.zast C.1 C.2.1 hcell har (fun q => by cases q) hin rfl rfl hd fun H' e1 e2 e3 => ?_
  rw [hy] at e1
  refine k α H' _ ls (hR.put hn e2 e3 up4_o (fun _ _ _ _ _ => rfl) (fun _ _ _ _ _ => rfl) ⟨fun z => absurd z (by omega), fun _ => ?_⟩ (fun k9 q9 z1 z2 z3 => hR.2.2.1 r i j n k9 q9 hn z1 z2 z3)) (hS.put e2 e3 g4) hl h0 h1 (wfl_t (wfl_t (wfl_t h2)))
  rw [hcl] at e1
  rw [e1, arrV_store]
  exact congrArg some (arrV_congr fun k' _ => cont_upI hk k')
theorem V_last {r i j n t : Nat} {x : Int32} {y : Int64} (C : Cx p l s m args meth c D B tW α0 own cc nL ret mn tab) (hd : decode cc pc = .ok (.lastore, 1)) (hr : 20 ≤ r) (ha : art r = 2) (hn : ν r i j = some n) (hx : x = nI t) (ht : t < n) (hk : kd (slt r t) = 2) (k : V p l e R s m args below meth c D B α0 ν0 nL Q cells slots ν ι ρ (up4 ℓ r i j t y) (pc + 1) lv st) : V p l e R s m args below meth c D B α0 ν0 nL Q cells slots ν ι ρ ℓ pc lv (sL y :: sI x :: sR r i j :: st) := by
  intro α H locs ls hR hS hl h0 h1 h2
  obtain ⟨-, hn31, g3, g4⟩ := hR.2.1 r i j n hn
  have hcell := g3.2 hr
  have hcl := nI_cl' hx ht hn31
  have hin : ¬ (x < 0 ∨ (arrV (D.2.2 (art r)) n (cont α ι ρ ℓ r i j)).slots.size ≤ x.toNatClampNeg) := by rw [arrV_size]; exact nI_in' hx ht hn31
  have har := Cx.ar C.2.2.2.2.2.1 (r := r) (by rw [ha]; decide) n (cont α ι ρ ℓ r i j)
  rw [show aty (art r) = aty 2 by rw [ha]] at har
  refine W.last C.1 C.2.1 hcell har (fun q => by cases q) hin rfl rfl hd fun H' e1 e2 e3 => ?_
  refine k α H' _ ls (hR.put hn e2 e3 (fun _ _ _ _ _ => rfl) (fun _ _ _ _ _ => rfl) up4_o ⟨fun z => absurd z (by omega), fun _ => ?_⟩ (fun k9 q9 z1 z2 z3 => hR.2.2.1 r i j n k9 q9 hn z1 z2 z3)) (hS.put e2 e3 g4) hl h0 h1 (wfl_t (wfl_t (wfl_t h2)))
  rw [hcl] at e1
  rw [e1, arrV_store]
  exact congrArg some (arrV_congr fun k' _ => cont_upL hk k')
theorem V_aast {r i j n t : Nat} {x : Int32} {r2 i2 j2 N2 : Nat} {C2 : String} {T2 : u_T} (C : Cx p l s m args meth c D B tW α0 own cc nL ret mn tab) (hd : decode cc pc = .ok (.aastore, 1)) (hr : 20 ≤ r) (ha8 : art r < 8) (ha : aty (art r) = .object C2) (hF : ClF r2 C2 T2 N2) (hn : ν r i j = some n) (hx : x = nI t) (ht : t < n) (hk : kd (slt r t) = 1) (hv : ν r2 i2 j2 ≠ none) (k : V p l e R s m args below meth c D B α0 ν0 nL Q cells slots ν ι (up4 ρ r i j t (some (r2, i2, j2))) ℓ (pc + 1) lv st) : V p l e R s m args below meth c D B α0 ν0 nL Q cells slots ν ι ρ ℓ pc lv (sR r2 i2 j2 :: sI x :: sR r i j :: st) := by
  intro α H locs ls hR hS hl h0 h1 h2
  obtain ⟨-, hn31, g3, g4⟩ := hR.2.1 r i j n hn
  have hcell := g3.2 hr
  have hcl := nI_cl' hx ht hn31
  have h00 : ¬ x < 0 := fun z => nI_in' hx ht hn31 (Or.inl z)
  obtain ⟨n2, hn2⟩ := Option.ne_none_iff_exists'.mp hv
  obtain ⟨-, -, g6, -⟩ := hR.2.1 r2 i2 j2 n2 hn2
  obtain ⟨q, w3, w4, cell, q1, q2, q3, -⟩ := g6.1 hF.1
  cases hF.2.1.symm.trans w3
  have hcls := (C.2.2.2.2.2.1.1.1 r2 _ hF.2.1).2
  have hra := (C.2.2.2.2.2.1.1.2.1 (art r) ha8).2
  rw [ha] at hra
  obtain ⟨kA, comp, k1, k2, k3, -⟩ := hra
  have hcomp : comp = D.1 r2 := Option.some.inj (k3.symm.trans hcls.1)
  subst hcomp
  obtain ⟨kC, hkC, -⟩ := hcls.2
  refine W.aast C.1 C.2.1 hcell (fun q h => by cases h) (fun h => by cases h) k1 k2 rfl hkC ⟨h00, by rw [arrV_size, hcl]; exact ht⟩ q1 (fun q h => by rw [q3] at h; cases h) (by rw [q2]; exact hkC) (by rw [q2]; exact va_assign hcls) rfl rfl hd fun H' e1 e2 e3 => ?_
  refine k α H' _ ls (hR.put hn e2 e3 (fun _ _ _ _ _ => rfl) up4_o (fun _ _ _ _ _ => rfl) ⟨fun z => absurd z (by omega), fun _ => ?_⟩ (fun k9 q9 z1 z2 z3 => by
      by_cases e9 : k9 = t
      · subst e9
        rw [up4_s] at z3
        cases z3
        exact Or.inl hv
      · rw [show up4 ρ r i j t (some (r2, i2, j2)) r i j k9 = ρ r i j k9 from if_neg fun z => e9 z.2.2.2] at z3
        exact hR.2.2.1 r i j n k9 q9 hn z1 z2 z3)) (hS.put e2 e3 g4) hl h0 h1 (wfl_t (wfl_t (wfl_t h2)))
  rw [hcl] at e1
  rw [e1, arrV_store]
  exact congrArg some (arrV_congr fun k' _ => cont_upR (x := some (r2, i2, j2)) hk k')
theorem V_newa {r i j n : Nat} {x : Int32} {at9 : ArrayType} (C : Cx p l s m args meth c D B tW α0 own cc nL ret mn tab) (hd : decode cc pc = .ok (.newarray at9, 2)) (hw : Cond.arrayClass (newarray.typeOf at9) ∈ tb_) (hr : 20 ≤ r) (hr2 : r < 98) (ha8 : art r < 8) (ha : aty (art r) = newarray.typeOf at9) (hdf : ∀ k', k' < n → kd (slt r k') = 0 ∧ defaultValue (newarray.typeOf at9) = .int 0) (hν : ν r i j = none) (hx : x = nI n) (hb : n ≤ 60000000) (hcb : componentBytes (newarray.typeOf at9) ≤ 8) (hc : cells + 1 ≤ R.cells) (hs : slots + n ≤ R.slots) (hkr : ∀ k', kd (slt r k') ≠ 1) (k : V p l e R s m args below meth c D B α0 ν0 nL Q (cells + 1) (slots + n) (up3 ν r i j (some n)) (upA ι r i j (fun _ => 0)) ρ ℓ (pc + 2) lv (sR r i j :: st)) : V p l e R s m args below meth c D B α0 ν0 nL Q cells slots ν ι ρ ℓ pc lv (sI x :: st) := by
  intro α H locs ls hR hS hl h0 h1 h2
  have hcl : x.toNatClampNeg = n := by rw [hx]; exact nI_clamp (by omega)
  have h00 : ¬ x < 0 := by rw [hx]; exact nI_pos (by omega)
  refine va_newaK C.1 C.2.1 (C.2.2.2.2.1 _ hw) rfl hd rfl h00 hcl (Nat.le_trans (Nat.mul_le_mul hb hcb) (by decide)) hc hs rfl fun H' cA e1 z1 o1 hAr hNm => ?_
  have hcA : cA = D.2.2 (art r) := by
    have hra := (C.2.2.2.2.2.1.1.2.1 (art r) ha8).2
    rw [ha] at hra
    have : s.vm.findClass ("[" ++ (newarray.typeOf at9).toString) = some (D.2.2 (art r)) := by cases at9 <;> exact hra
    exact Option.some.inj (hNm.symm.trans this)
  have hcc : ∀ α' : Ad, α' r i j = H.size → cellA D α' (upA ι r i j (fun _ => 0)) ρ ℓ r i j n H' := by
    intro α' hα'
    refine ⟨fun z => absurd z (by omega), fun _ => ?_⟩
    rw [hα', e1, hcA]
    exact congrArg some (arrV_congr fun k' hk' => by rw [cont_I (hdf k' hk').1, upA_s, (hdf k' hk').2])
  obtain ⟨α', ag, hat, hR'⟩ := hR.grow (r := r) (i := i) (j := j) (n := n) hr2 (by omega) hν z1 o1 upA_o (fun _ _ _ _ _ => rfl) (fun _ _ _ _ _ => rfl) (fun k' hk' => absurd hk' (hkr k')) hcc
  have hl' : lv_has ls nL (lv.map (fun q => (q.1, enc α' q.2))) := by
    rw [show lv.map (fun q => (q.1, enc α' q.2)) = lv.map (fun q => (q.1, enc α q.2)) from List.map_congr_left fun q hq => by rw [enc_ag (h1 q.2 (List.mem_map.mpr ⟨q, hq, rfl⟩)) ag.2]]
    exact hl
  have hst : st.map (enc α') = st.map (enc α) := encl_ag (wfl_t h2) ag.2
  have hk := k α' H' locs ls hR' ⟨Nat.le_trans hS.1 (by omega), fun x g1 g2 => (o1 x (Nat.lt_of_lt_of_le g1 hS.1)).trans (hS.2.1 x g1 g2), hS.2.2⟩ hl' (h0.tr ag) (wfl_up h1 alv_up) (wfl_c (fun q hq => by cases hq; exact Or.inl (by show up3 ν r i j (some n) r i j ≠ none; rw [up3_s]; exact fun z => by cases z)) (wfl_up (wfl_t h2) alv_up))
  rw [List.map_cons, hst, show enc α' (sR r i j) = .ref H.size from congrArg Value.ref hat] at hk
  exact hk

theorem V_newl {r i j n : Nat} {x : Int32} (C : Cx p l s m args meth c D B tW α0 own cc nL ret mn tab) (hd : decode cc pc = .ok (.newarray .long, 2)) (hw : Cond.arrayClass .long ∈ tb_) (hr : 20 ≤ r) (hr2 : r < 98) (ha : art r = 2) (hdf : ∀ k', kd (slt r k') = 2) (hν : ν r i j = none) (hx : x = nI n) (hb : n ≤ 60000000) (hc : cells + 1 ≤ R.cells) (hs : slots + n ≤ R.slots) (k : V p l e R s m args below meth c D B α0 ν0 nL Q (cells + 1) (slots + n) (up3 ν r i j (some n)) ι ρ (upA ℓ r i j (fun _ => 0)) (pc + 2) lv (sR r i j :: st)) : V p l e R s m args below meth c D B α0 ν0 nL Q cells slots ν ι ρ ℓ pc lv (sI x :: st) := by
  intro α H locs ls hR hS hl h0 h1 h2
  have hcl : x.toNatClampNeg = n := by rw [hx]; exact nI_clamp (by omega)
  have h00 : ¬ x < 0 := by rw [hx]; exact nI_pos (by omega)
  refine va_newaK (atype := .long) C.1 C.2.1 (C.2.2.2.2.1 _ hw) rfl hd rfl h00 hcl (Nat.le_trans (Nat.mul_le_mul hb (show componentBytes (newarray.typeOf .long) ≤ 8 by decide)) (by decide)) hc hs rfl fun H' cA e1 z1 o1 hAr hNm => ?_
  have hcA : cA = D.2.2 (art r) := by
    have hra := (C.2.2.2.2.2.1.1.2.1 (art r) (by rw [ha]; decide)).2
    rw [ha] at hra ⊢
    exact Option.some.inj (hNm.symm.trans hra)
  have hcc : ∀ α' : Ad, α' r i j = H.size → cellA D α' ι ρ (upA ℓ r i j (fun _ => 0)) r i j n H' := by
    intro α' hα'
    refine ⟨fun z => absurd z (by omega), fun _ => ?_⟩
    rw [hα', e1, hcA]
    exact congrArg some (arrV_congr fun k' hk' => by rw [cont_L (hdf k'), upA_s]; rfl)
  obtain ⟨α', ag, hat, hR'⟩ := hR.grow (r := r) (i := i) (j := j) (n := n) hr2 (by omega) hν z1 o1 (fun _ _ _ _ _ => rfl) (fun _ _ _ _ _ => rfl) upA_o (fun k' hk' => absurd (hk'.symm.trans (hdf k')) (by decide)) hcc
  have hl' : lv_has ls nL (lv.map (fun q => (q.1, enc α' q.2))) := by
    rw [show lv.map (fun q => (q.1, enc α' q.2)) = lv.map (fun q => (q.1, enc α q.2)) from List.map_congr_left fun q hq => by rw [enc_ag (h1 q.2 (List.mem_map.mpr ⟨q, hq, rfl⟩)) ag.2]]
    exact hl
  have hst : st.map (enc α') = st.map (enc α) := encl_ag (wfl_t h2) ag.2
  have hk := k α' H' locs ls hR' ⟨Nat.le_trans hS.1 (by omega), fun x g1 g2 => (o1 x (Nat.lt_of_lt_of_le g1 hS.1)).trans (hS.2.1 x g1 g2), hS.2.2⟩ hl' (h0.tr ag) (wfl_up h1 alv_up) (wfl_c (fun q hq => by cases hq; exact Or.inl (by show up3 ν r i j (some n) r i j ≠ none; rw [up3_s]; exact fun z => by cases z)) (wfl_up (wfl_t h2) alv_up))
  rw [List.map_cons, hst, show enc α' (sR r i j) = .ref H.size from congrArg Value.ref hat] at hk
  exact hk

theorem V_anew {r i j n idx : Nat} {x : Int32} {C1 : String} (C : Cx p l s m args meth c D B tW α0 own cc nL ret mn tab) (hd : decode cc pc = .ok (.anewarray idx, 3)) (hw : Cond.classLink own idx C1 ∈ tb_) (hao : C1 ∈ ao_) (hr : 20 ≤ r) (hr2 : r < 98) (ha8 : art r < 8) (ha : aty (art r) = .object C1) (hdf : ∀ k', kd (slt r k') = 1) (hν : ν r i j = none) (hx : x = nI n) (hb : n ≤ 60000000) (hc : cells + 1 ≤ R.cells) (hs : slots + n ≤ R.slots) (k : V p l e R s m args below meth c D B α0 ν0 nL Q (cells + 1) (slots + n) (up3 ν r i j (some n)) ι (upA ρ r i j (fun _ => none)) ℓ (pc + 3) lv (sR r i j :: st)) : V p l e R s m args below meth c D B α0 ν0 nL Q cells slots ν ι ρ ℓ pc lv (sI x :: st) := by
  intro α H locs ls hR hS hl h0 h1 h2
  have hcl : x.toNatClampNeg = n := by rw [hx]; exact nI_clamp (by omega)
  have h00 : ¬ x < 0 := by rw [hx]; exact nI_pos (by omega)
  refine W.anew C.1 C.2.1 C.2.2.2.1 (C.2.2.2.2.1 _ hw) (va_AO.use (C.2.2.2.2.2.1.1.2.2.2.2.2.1 _ hao)) rfl hd rfl h00 (by rw [hcl]; omega) hc (by rw [hcl]; exact hs) fun cA kA comp f1 f2 f3 f4 => ?_
  rw [hcl]
  generalize hH1 : H.push ({ cls := cA, slots := Array.replicate n .null, vm := .none } : Cell) = H'
  have z1 : H'.size = H.size + 1 := by rw [← hH1, Array.size_push]
  have e1 : H'[H.size]? = some (arrV cA n (fun _ => .null)) := by rw [← hH1, Array.getElem?_push_size, ← arrV_new]
  have o1 : ∀ q : Nat, q < H.size → H'[q]? = H[q]? := fun q hq => by rw [← hH1, Array.getElem?_push, if_neg (Nat.ne_of_lt hq)]
  have hcA : cA = D.2.2 (art r) := by
    have hra := (C.2.2.2.2.2.1.1.2.1 (art r) ha8).2
    rw [ha] at hra
    obtain ⟨_, _, _, _, _, h9⟩ := hra
    exact Option.some.inj (f1.symm.trans h9)
  have hcc : ∀ α' : Ad, α' r i j = H.size → cellA D α' ι (upA ρ r i j (fun _ => none)) ℓ r i j n H' := by
    intro α' hα'
    refine ⟨fun z => absurd z (by omega), fun _ => ?_⟩
    rw [hα', e1, hcA]
    exact congrArg some (arrV_congr fun k' hk' => by rw [cont_R (hdf k'), upA_s]; rfl)
  obtain ⟨α', ag, hat, hR'⟩ := hR.grow (r := r) (i := i) (j := j) (n := n) hr2 (by omega) hν z1 o1 (fun _ _ _ _ _ => rfl) upA_o (fun _ _ _ _ _ => rfl) (fun k' hk' => upA_s) hcc
  have hl' : lv_has ls nL (lv.map (fun q => (q.1, enc α' q.2))) := by
    rw [show lv.map (fun q => (q.1, enc α' q.2)) = lv.map (fun q => (q.1, enc α q.2)) from List.map_congr_left fun q hq => by rw [enc_ag (h1 q.2 (List.mem_map.mpr ⟨q, hq, rfl⟩)) ag.2]]
    exact hl
  have hst : st.map (enc α') = st.map (enc α) := encl_ag (wfl_t h2) ag.2
  have hk := k α' H' locs ls hR' ⟨Nat.le_trans hS.1 (by omega), fun x g1 g2 => (o1 x (Nat.lt_of_lt_of_le g1 hS.1)).trans (hS.2.1 x g1 g2), hS.2.2⟩ hl' (h0.tr ag) (wfl_up h1 alv_up) (wfl_c (fun q hq => by cases hq; exact Or.inl (by show up3 ν r i j (some n) r i j ≠ none; rw [up3_s]; exact fun z => by cases z)) (wfl_up (wfl_t h2) alv_up))
  rw [List.map_cons, hst, show enc α' (sR r i j) = .ref H.size from congrArg Value.ref hat] at hk
  exact hk

theorem V_new {r i j n idx : Nat} {C1 : String} {T : u_T} (C : Cx p l s m args meth c D B tW α0 own cc nL ret mn tab) (hd : decode cc pc = .ok (.new idx, 3)) (hF : ClF r C1 T n) (hw : Cond.classLink own idx C1 ∈ tb_) (hν : ν r i j = none) (hdf : ∀ k', k' < n → (kd (slt r k') = 0 ∧ defaultValue (slt r k') = .int 0) ∨ (kd (slt r k') = 1 ∧ defaultValue (slt r k') = .null)) (hc : cells + 1 ≤ R.cells) (hs : slots + n ≤ R.slots) (k : V p l e R s m args below meth c D B α0 ν0 nL Q (cells + 1) (slots + n) (up3 ν r i j (some n)) (upA ι r i j (fun _ => 0)) (upA ρ r i j (fun _ => none)) ℓ (pc + 3) lv (sR r i j :: st)) : V p l e R s m args below meth c D B α0 ν0 nL Q cells slots ν ι ρ ℓ pc lv st := by
  intro α H locs ls hR hS hl h0 h1 h2
  have hKn := C.2.2.2.2.2.1.1.1 r _ hF.2.1
  refine W.newcK C.1 C.2.1 C.2.2.2.1 (C.2.2.2.2.1 _ hw) (C.2.2.2.2.1 _ hF.2.2.2.2.2.1) (C.2.2.2.2.1 _ hF.2.2.2.2.2.2.1) rfl hd hc hs hKn.2.1 rfl fun H' kC hkC e1 z1 o1 => ?_
  have hn1000 := hF.2.2.2.2.2.2.2
  have hr20 := hF.1
  have hcc : ∀ α' : Ad, α' r i j = H.size → cellA D α' (upA ι r i j (fun _ => 0)) (upA ρ r i j (fun _ => none)) ℓ r i j n H' := by
    intro α' hα'
    refine ⟨fun _ => ⟨_, hF.2.1, rfl, ?_⟩, fun z => absurd z (by omega)⟩
    rw [hα']
    refine (u_born (slt r) C.2.2.2.2.1 hF.2.2.1 hKn hkC e1 hF.2.2.2.1).to (fun k' hk' => ?_)
    rcases hdf k' hk' with h | h
    · rw [h.2, cont_I h.1, upA_s]
    · rw [h.2, cont_R h.1, upA_s]; rfl
  obtain ⟨α', ag, hat, hR'⟩ := hR.grow (r := r) (i := i) (j := j) (n := n) (by omega) (by omega) hν z1 o1 upA_o upA_o (fun _ _ _ _ _ => rfl) (fun k' hk' => upA_s) hcc
  have hl' : lv_has ls nL (lv.map (fun q => (q.1, enc α' q.2))) := by
    rw [show lv.map (fun q => (q.1, enc α' q.2)) = lv.map (fun q => (q.1, enc α q.2)) from List.map_congr_left fun q hq => by rw [enc_ag (h1 q.2 (List.mem_map.mpr ⟨q, hq, rfl⟩)) ag.2]]
    exact hl
  have hst : st.map (enc α') = st.map (enc α) := encl_ag h2 ag.2
  have hk := k α' H' locs ls hR' ⟨Nat.le_trans hS.1 (by omega), fun x g1 g2 => (o1 x (Nat.lt_of_lt_of_le g1 hS.1)).trans (hS.2.1 x g1 g2), hS.2.2⟩ hl' (h0.tr ag) (wfl_up h1 alv_up) (wfl_c (fun q hq => by cases hq; exact Or.inl (by show up3 ν r i j (some n) r i j ≠ none; rw [up3_s]; exact fun z => by cases z)) (wfl_up h2 alv_up))
  rw [List.map_cons, hst, show enc α' (sR r i j) = .ref H.size from congrArg Value.ref hat] at hk
  exact hk

theorem V_forget {ν1 : Nu} (hsub : ∀ r i j n, ν1 r i j = some n → ν r i j = some n) (hk0 : ∀ r i j, ν0 r i j ≠ none → ν1 r i j ≠ none) (hρ : ∀ r i j n k q, ν1 r i j = some n → k < n → kd (slt r k) = 1 → ρ r i j k = some q → alv ν q → alv ν1 q) (hst : ∀ v ∈ st, wfv ν v → wfv ν1 v) (hlv : ∀ q ∈ lv, wfv ν q.2 → wfv ν1 q.2) (k : V p l e R s m args below meth c D B α0 ν0 nL Q cells slots ν1 ι ρ ℓ pc lv st) : V p l e R s m args below meth c D B α0 ν0 nL Q cells slots ν ι ρ ℓ pc lv st := by
  intro α H locs ls hR hS hl h0 h1 h2
  refine k α H locs ls ⟨hR.1, fun r i j n hn => hR.2.1 r i j n (hsub r i j n hn), fun r i j n k q hn hk ht hq => hρ r i j n k q hn hk ht hq (hR.2.2.1 r i j n k q (hsub r i j n hn) hk ht hq), hR.2.2.2⟩ hS hl ⟨hk0, h0.2⟩ (fun v hv => ?_) (fun v hv => hst v hv (h2 v hv))
  obtain ⟨q, hq, rfl⟩ := List.mem_map.mp hv
  exact hlv q hq (h1 q.2 hv)
theorem V_gWid {idx : Nat} {host : String} (C : Cx p l s m args meth c D B tW α0 own cc nL ret mn tab) (hd : decode cc pc = .ok (.getstatic idx, 3)) (hw : (own, idx, "ObjectLinks", "WIDTHS", "[I", host) ∈ nwF) (k : V p l e R s m args below meth c D B α0 ν0 nL Q cells slots ν ι ρ ℓ (pc + 3) lv (sR 99 0 0 :: st)) : V p l e R s m args below meth c D B α0 ν0 nL Q cells slots ν ι ρ ℓ pc lv st := by
  intro α H locs ls hR hS hl h0 h1 h2
  have e9 : α 99 0 0 = tW := (h0.2 99 0 0 (Or.inl (by decide))).trans C.2.2.2.2.2.2.2.2.2.2.2.2
  have hk := k α H locs ls hR hS hl h0 h1 (wfl_c (fun q hq => by cases hq; exact Or.inr (by decide)) h2)
  rw [List.map_cons, show enc α (sR 99 0 0) = .ref tW from congrArg Value.ref e9] at hk
  exact va_getsN C.1 C.2.1 C.2.2.2.2.2.1.2.2.2.1 hS C.2.2.2.1 (va_Nw.use rfl (C.2.2.2.2.2.1.1.2.2.2.1 _ hw)) (fun x h => h) hd hk
theorem V_lWid  (C : Cx p l s m args meth c D B tW α0 own cc nL ret mn tab) (hd : decode cc pc = .ok (.arraylength, 1)) (k : V p l e R s m args below meth c D B α0 ν0 nL Q cells slots ν ι ρ ℓ (pc + 1) lv (sI 5 :: st)) : V p l e R s m args below meth c D B α0 ν0 nL Q cells slots ν ι ρ ℓ pc lv (sR 99 0 0 :: st) := by
  intro α H locs ls hR hS hl h0 h1 h2
  have e9 : α 99 0 0 = tW := (h0.2 99 0 0 (Or.inl (by decide))).trans C.2.2.2.2.2.2.2.2.2.2.2.2
  rw [List.map_cons, show enc α (sR 99 0 0) = .ref tW from congrArg Value.ref e9]
  exact va_tlen C.1 C.2.1 C.2.2.2.2.2.1.2.2.2.2 hS (v := 5) rfl hd (k α H locs ls hR hS hl h0 h1 (wfl_c wfv_I (wfl_t h2)))
theorem V_eWid {x v : Int32} {t : Nat} (C : Cx p l s m args meth c D B tW α0 own cc nL ret mn tab) (hd : decode cc pc = .ok (.iaload, 1)) (hx : x = nI t) (ht : t < 5) (hv : wid_ t = .int v) (k : V p l e R s m args below meth c D B α0 ν0 nL Q cells slots ν ι ρ ℓ (pc + 1) lv (sI v :: st)) : V p l e R s m args below meth c D B α0 ν0 nL Q cells slots ν ι ρ ℓ pc lv (sI x :: sR 99 0 0 :: st) := by
  intro α H locs ls hR hS hl h0 h1 h2
  have e9 : α 99 0 0 = tW := (h0.2 99 0 0 (Or.inl (by decide))).trans C.2.2.2.2.2.2.2.2.2.2.2.2
  rw [List.map_cons, List.map_cons, show enc α (sR 99 0 0) = .ref tW from congrArg Value.ref e9]
  exact va_ti C.1 C.2.1 C.2.2.2.2.2.1.2.2.2.2 hS (by rw [hx]; exact vp_in_nI ht (by decide)) (v := .int v) (by rw [hx, nI_clamp (by omega)]; exact hv) hd (k α H locs ls hR hS hl h0 h1 (wfl_c wfv_I (wfl_t (wfl_t h2))))
end Am3
end
section
def sarg : Nat → List SV → List (Nat × SV)
  | _, [] => []
  | i, v :: t => (i, v) :: sarg (i + scat v) t
theorem sarg_eq (α : Ad) (as : List SV) : ∀ i, lv_args i (as.map (enc α)) = (sarg i as).map (fun q => (q.1, enc α q.2)) := by
  induction as with
  | nil => intro i; rfl
  | cons v t ih =>
    intro i
    show (i, enc α v) :: lv_args (if (enc α v).category = 2 then i + 2 else i + 1) (t.map (enc α)) = (i, enc α v) :: (sarg (i + scat v) t).map (fun q => (q.1, enc α q.2))
    rw [enc_cat, ih]
    rcases v with x | x | _ | q <;> rfl
theorem sarg_snd (as : List SV) : ∀ i, (sarg i as).map Prod.snd = as := by
  induction as with
  | nil => intro i; rfl
  | cons v t ih =>
    intro i
    show v :: (sarg (i + scat v) t).map Prod.snd = v :: t
    rw [ih]
theorem lg_sl_len (α : Ad) (as : List SV) : (lg_sl (as.map (enc α))).length = (as.map scat).sum := by
  induction as with
  | nil => rfl
  | cons v t ih =>
    have e : lg_sl ((v :: t).map (enc α)) = (if (enc α v).category = 2 then [Slot.val (enc α v), .second] else [Slot.val (enc α v)]) ++ lg_sl (t.map (enc α)) := rfl
    rw [e, List.length_append, ih, enc_cat, List.map_cons, List.sum_cons]
    rcases v with x | x | _ | q <;> rfl
theorem goodTb {ws : List Cond} (h : ∀ w ∈ ws, w ∈ tb_) : GoodIn tb_ ws := fun w hw => ⟨h w hw, good_of_word (tb_good w (h w hw))⟩
theorem Ct.ofV {y : MethodName} {cc : ByteArray} {maxL : Nat} {ret : Option FieldType} {rm : Room} {as : List SV} {ν : Nu} {ι : Io} {ρ : Ro} {ℓ : Lo} {Po : PoT} {PX : PxT} {lv : List (Nat × SV)} (hy : plainName y.cls = true) (hlen : (as.map scat).sum ≤ maxL) (hlv : sarg 0 as = lv)
    (body : ∀ (p : Program) (l : Launch) (e : Env) (s : State) (m : MethodId) (args : Array Value) (below : List Frame) (meth : Method) (c : Code) (D : GD) (B tW : Nat) (α0 : Ad) (Q : State → Prop), Cx p l s m args meth c D B tW α0 y.cls cc maxL ret y.name [] → Q = vx_MQ below (cQ D B α0 ν Po) (cX D B α0 ν PX) args s rm.cells rm.slots (uB B) →
      V p l e rm s m args below meth c D B α0 ν maxL Q 0 0 ν ι ρ ℓ 0 lv []) : Ct y (Cond.code y cc maxL ret :: tb_) rm as ν ι ρ ℓ Po PX := by
  intro l D B tW α hl
  refine vx_ofW (cc := cc) (maxL := maxL) (ret := ret) hy rfl ?_
  intro p e s m args below meth c s₁ Bd hml ht hv
  obtain ⟨rfl, hR, hK, h99, hwf⟩ := hv
  have hts := atoms_spec (ws := Cond.code y cc maxL ret :: tb_) Bd.pre
  have htab : c.exceptionTable.toList = [] := List.eq_nil_iff_forall_not_mem.mpr fun x hx => ht x hx
  rw [lg_entry_eq]
  have hle := lv_entry (as.map (enc α)) (n := maxL) (by rw [lg_sl_len]; exact hlen)
  rw [sarg_eq, hlv] at hle
  exact body p l e s m _ below meth c D B tW α _ ⟨Bd.exec, Bd.bytes, hml, findClass_of_methodNamed Bd.named, fun w hw => hts w (List.mem_cons_of_mem _ hw), hK, hR.2.2.2, Bd.returns, Bd.notSynchronized, hl, htab, (name_of_methodNamed Bd.named Bd.method).1, h99⟩ rfl α s.heap [] _ hR va_S.rf hle agr.rf (by rw [← hlv, sarg_snd]; exact hwf) wfl_n
theorem Ct.ofVH {y : MethodName} {cc : ByteArray} {maxL : Nat} {ret : Option FieldType} {hh : List (Nat × Nat × Nat × Nat)} {rm : Room} {as : List SV} {ν : Nu} {ι : Io} {ρ : Ro} {ℓ : Lo} {Po : PoT} {PX : PxT} {lv : List (Nat × SV)} (hy : plainName y.cls = true) (hlen : (as.map scat).sum ≤ maxL) (hlv : sarg 0 as = lv)
    (body : ∀ (p : Program) (l : Launch) (e : Env) (s : State) (m : MethodId) (args : Array Value) (below : List Frame) (meth : Method) (c : Code) (D : GD) (B tW : Nat) (α0 : Ad) (Q : State → Prop), Cx p l s m args meth c D B tW α0 y.cls cc maxL ret y.name (tableOf hh) → Q = vx_MQ below (cQ D B α0 ν Po) (cX D B α0 ν PX) args s rm.cells rm.slots (uB B) →
      V p l e rm s m args below meth c D B α0 ν maxL Q 0 0 ν ι ρ ℓ 0 lv []) : Ct y (Cond.codeWith y cc maxL ret hh :: tb_) rm as ν ι ρ ℓ Po PX := by
  intro l D B tW α hl
  refine vx_ofWH (cc := cc) (maxL := maxL) (ret := ret) (hh := hh) hy rfl ?_
  intro p e s m args below meth c s₁ Bd hml hv
  obtain ⟨rfl, hR, hK, h99, hwf⟩ := hv
  have hts := atoms_spec (ws := Cond.codeWith y cc maxL ret hh :: tb_) Bd.pre
  have htab : c.exceptionTable.toList = tableOf hh := vx_table (x := y) Bd (hts _ List.mem_cons_self)
  rw [lg_entry_eq]
  have hle := lv_entry (as.map (enc α)) (n := maxL) (by rw [lg_sl_len]; exact hlen)
  rw [sarg_eq, hlv] at hle
  exact body p l e s m _ below meth c D B tW α _ ⟨Bd.exec, Bd.bytes, hml, findClass_of_methodNamed Bd.named, fun w hw => hts w (List.mem_cons_of_mem _ hw), hK, hR.2.2.2, Bd.returns, Bd.notSynchronized, hl, htab, (name_of_methodNamed Bd.named Bd.method).1, h99⟩ rfl α s.heap [] _ hR va_S.rf hle agr.rf (by rw [← hlv, sarg_snd]; exact hwf) wfl_n
theorem Ct.met {y : MethodName} {ws : List Cond} {rm : Room} {as : List SV} {ν : Nu} {ι : Io} {ρ : Ro} {ℓ : Lo} {Po : PoT} (h : Ct y ws rm as ν ι ρ ℓ Po noX) (l : Launch) (D : GD) (B tW : Nat) (α : Ad) (hl : l.stackTraces = false) : Met l y ws rm (cP D B tW α ν ι ρ ℓ as) (cQ D B α ν Po) rm.cells rm.slots (uB B) := by
  intro p e ha hc hk s m args below hf happ hP hK
  obtain ⟨n, o, h1, h2, h3, h4⟩ := h l D B tW α hl p e ha hc hk s m args below hf happ hP hK
  refine ⟨n, o, h1, h2, h3, ?_⟩
  rcases h4 with h | ⟨q, -, E, ce, L, ⟨⟨α, ν, ι, ρ, ℓ, hF, -⟩, -⟩, -⟩
  · exact h
  · exact hF.elim
theorem cP_blind {D : GD} {B tW : Nat} {α : Ad} {ν : Nu} {ι : Io} {ρ : Ro} {ℓ : Lo} {as : List SV} : FrameBlind (cP D B tW α ν ι ρ ℓ as) := by
  intro a U g mk h
  exact ⟨h.1, h.2.1, KS.to (U := U.calling g mk a) h.2.2.1 (State.WarmedH.refl U) (fun _ _ _ => rfl), h.2.2.2⟩
/-- what the tables say of a method of ours -/
def MtV (y : MethodName) (bytes : ByteArray) (maxL : Nat) (ret : Option FieldType) (n : Nat) : Prop := Cond.instanceMethod y ∈ tb_ ∧ Cond.selects y.cls y y ∈ tb_ ∧ Cond.initialized y.cls ∈ tb_ ∧ Cond.code y bytes maxL ret ∈ tb_ ∧ y.cls ≠ "java/lang/invoke/MethodHandle" ∧ y.cls ≠ "java/lang/invoke/VarHandle" ∧ (parseMethodDescriptor y.desc).map (fun d => d.parameters.length) = some n
def MtS (y : MethodName) (bytes : ByteArray) (maxL : Nat) (ret : Option FieldType) (n : Nat) : Prop := Cond.static y ∈ tb_ ∧ Cond.initialized y.cls ∈ tb_ ∧ Cond.code y bytes maxL ret ∈ tb_ ∧ y.cls ≠ "java/lang/invoke/MethodHandle" ∧ y.cls ≠ "java/lang/invoke/VarHandle" ∧ (parseMethodDescriptor y.desc).map (fun d => d.parameters.length) = some n
def MtI (y : MethodName) (bytes : ByteArray) (maxL : Nat) (n : Nat) : Prop := Cond.instanceMethod y ∈ tb_ ∧ Cond.initialized y.cls ∈ tb_ ∧ Cond.code y bytes maxL none ∈ tb_ ∧ y.cls ≠ "java/lang/invoke/MethodHandle" ∧ y.cls ≠ "java/lang/invoke/VarHandle" ∧ (parseMethodDescriptor y.desc).map (fun d => d.parameters.length) = some n ∧ y.name = "<init>"
def MtW (y : MethodName) (bytes : ByteArray) (maxL : Nat) (ret : Option FieldType) (hh : List (Nat × Nat × Nat × Nat)) (n : Nat) : Prop := Cond.static y ∈ tb_ ∧ Cond.initialized y.cls ∈ tb_ ∧ Cond.codeWith y bytes maxL ret hh ∈ tb_ ∧ y.cls ≠ "java/lang/invoke/MethodHandle" ∧ y.cls ≠ "java/lang/invoke/VarHandle" ∧ (parseMethodDescriptor y.desc).map (fun d => d.parameters.length) = some n
section Am4
variable {p : Program} {l : Launch} {e : Env} {R : Room} {s : State} {m : MethodId} {args : Array Value} {below : List Frame} {meth : Method} {c : Code} {D : GD} {B tW : Nat} {α0 : Ad} {ν0 : Nu} {own : String} {cc : ByteArray} {nL : Nat} {ret : Option FieldType} {mn : String} {tab : List ExceptionTableEntry} {Q : State → Prop} {cells slots : Nat} {ν : Nu} {ι : Io} {ρ : Ro} {ℓ : Lo} {pc : Nat} {lv lv' : List (Nat × SV)} {st : List SV}
theorem cat_sum (α : Ad) (st : List SV) : ((st.map (enc α)).map fun v => v.category).sum = (st.map scat).sum := by
  rw [List.map_map]
  exact congrArg List.sum (List.map_congr_left fun v _ => enc_cat α v)
/-- behind a call that returned -/
theorem call_back {α : Ad} {H : Heap} {locs : List Loc} {ls : Array Slot} {Po' : PoT} {mc' ms' : Nat} {a : Array Value} {st₀ t T' : State} {v : Option Value} {L : List Loc}
    (hS : va_S (uB B) s.heap H locs) (hl : lv_has ls nL (lv.map (fun q => (q.1, enc α q.2)))) (h0 : agr α0 ν0 α ν) (h1 : wfl ν (lv.map Prod.snd)) (h2 : wfl ν st)
    (e0 : st₀.heap = H) (X' : Stand p l e R s m args below meth c T' (locs ++ L) (cells + mc') (slots + ms')) (hL : ∀ q ∈ L, uB B q.base) (e1 : T'.heap = t.heap) (hq : cQ D B α ν Po' a st₀ (.returned v) t)
    (kk : ∀ (v' : Option SV) (ν' : Nu) (ι' : Io) (ρ' : Ro) (ℓ' : Lo), Po' v' ν' ι' ρ' ℓ' → V p l e R s m args below meth c D B α0 ν0 nL Q (cells + mc') (slots + ms') ν' ι' ρ' ℓ' (pc + 3) lv (v'.toList ++ st)) : ∃ t2, Steps p.tables e below (T'.setTop (F0 m (pc + 3) ls (v.toList ++ st.map (enc α)))) t2 ∧ Q t2 := by
  obtain ⟨⟨α', ν', ι', ρ', ℓ', v', hv, hp, hR', ag, hwv⟩, hF⟩ := hq
  cases Outcome.returned.inj hv
  have hl' : lv_has ls nL (lv.map (fun q => (q.1, enc α' q.2))) := by
    rw [show lv.map (fun q => (q.1, enc α' q.2)) = lv.map (fun q => (q.1, enc α q.2)) from List.map_congr_left fun q hq => by rw [enc_ag (h1 q.2 (List.mem_map.mpr ⟨q, hq, rfl⟩)) ag.2]]
    exact hl
  have hst : st.map (enc α') = st.map (enc α) := encl_ag h2 ag.2
  obtain ⟨k1, k2, k3⟩ := vx_keep (H0 := s.heap) (A0 := uB B) (free := uB B) e0 e1 hS (fun q _ h => h) (fun q h => h) hL hF
  have hw2 : wfl ν' (v'.toList ++ st) := by
    intro w hw
    rcases List.mem_append.mp hw with h | h
    · cases v' with
      | none => cases h
      | some z => exact hwv w (by rw [List.mem_singleton.mp h])
    · exact wfl_up h2 ag.alv w h
  obtain ⟨t2, g1, g2⟩ := kk v' ν' ι' ρ' ℓ' hp α' T'.heap (locs ++ L) ls (by rw [e1]; exact hR') k3 hl' (h0.tr ag) (wfl_up h1 ag.alv) hw2 T' rfl X'
  refine ⟨t2, ?_, g2⟩
  rw [List.map_append, hst] at g1
  have e5 : (v'.map (enc α')).toList = v'.toList.map (enc α') := by cases v' <;> rfl
  rw [e5]
  exact g1
theorem V_callV {y : MethodName} {bytes : ByteArray} {maxL' n' idx : Nat} {ret' : Option FieldType} {rm' : Room} {as : List SV} {Po' : PoT} {r i j N : Nat} {T1 : u_T} (C : Cx p l s m args meth c D B tW α0 own cc nL ret mn tab) (hd : decode cc pc = .ok (.invokevirtual idx, 3)) (hM : Ct y (Cond.code y bytes maxL' ret' :: tb_) rm' (sR r i j :: as) ν ι ρ ℓ Po' noX) (hY : MtV y bytes maxL' ret' n') (hF : ClF r y.cls T1 N) (hw : Cond.methodLink own idx y ∈ tb_) (ha : ν r i j ≠ none) (hRm : rm'.frames + 1 ≤ R.frames ∧ 8 + (maxL' + 11) + rm'.locals ≤ R.locals) (hst8 : (st.map scat).sum ≤ 8) (hfit : cells + rm'.cells ≤ R.cells ∧ slots + rm'.slots ≤ R.slots) (hlen : as.length = n') (kk : ∀ (v' : Option SV) (ν' : Nu) (ι' : Io) (ρ' : Ro) (ℓ' : Lo), Po' v' ν' ι' ρ' ℓ' → V p l e R s m args below meth c D B α0 ν0 nL Q (cells + rm'.cells) (slots + rm'.slots) ν' ι' ρ' ℓ' (pc + 3) lv (v'.toList ++ st)) : V p l e R s m args below meth c D B α0 ν0 nL Q cells slots ν ι ρ ℓ pc lv (as.reverse ++ sR r i j :: st) := by
  intro α H locs ls hR hS hl h0 h1 h2
  obtain ⟨n9, hn9⟩ := Option.ne_none_iff_exists'.mp ha
  obtain ⟨q9, w3, w4, cell, q1, q2, q3, -⟩ := (hR.2.1 r i j n9 hn9).2.2.1.1 hF.1
  cases hF.2.1.symm.trans w3
  have hrec : ∃ cellB : Cell, H[α r i j]? = some cellB ∧ cellB.vm.isStatics = false ∧ s.vm.findClass y.cls = some cellB.cls := ⟨cell, q1, by rw [q3]; rfl, by rw [q2]; exact (C.2.2.2.2.2.1.1.1 r _ hF.2.1).2.1⟩
  have hpre : ∀ U : State, U.heap = H → s.WarmedH U.vm → cP D B tW α ν ι ρ ℓ (sR r i j :: as) (Value.ref (α r i j) :: as.map (enc α)).toArray U := fun U hU hW => ⟨rfl, by rw [hU]; exact hR, C.2.2.2.2.2.1.to hW (fun q g1 g2 => by rw [hU]; exact hS.2.1 q g1 g2), (h0.2 99 0 0 (Or.inl (by decide))).trans C.2.2.2.2.2.2.2.2.2.2.2.2, fun w hw => h2 w ((List.mem_cons.mp hw).elim (fun z => z ▸ List.mem_append_right _ List.mem_cons_self) (fun z => List.mem_append_left _ (List.mem_reverse.mpr z)))⟩
  have h2s : wfl ν st := fun w hw => h2 w (List.mem_append_right _ (List.mem_cons_of_mem _ hw))
  rw [List.map_append, List.map_reverse, List.map_cons]
  have hrun := va_runV (e := e) (below := below) (meth := meth) (locs := locs) (cells := cells) (slots := slots) (As := as.map (enc α)) (b := α r i j) (rest := st.map (enc α)) (g := F0 m pc ls ((as.map (enc α)).reverse ++ .ref (α r i j) :: st.map (enc α))) (Ts := tb_) (n := n') ⟨C.1, C.2.1, C.2.2.1, C.2.2.2.1, C.2.2.2.2.1⟩ (hM.met l D B tW α C.2.2.2.2.2.2.2.2.2.1)
    (cwV (C := y.cls) n' C.2.2.2.2.1 (goodTb (by
      intro w hw9
      simp only [wsV, List.mem_append, List.mem_cons, List.not_mem_nil, or_false] at hw9
      rcases hw9 with (rfl | rfl | rfl | rfl) | rfl | h
      · exact hw
      · exact hY.1
      · exact hY.2.1
      · exact hY.2.2.1
      · exact hY.2.2.2.1
      · exact h)) rfl rfl rfl ⟨rfl, hY.2.2.2.2⟩ hRm) ⟨cP_blind, hrec, hpre⟩ rfl (by rw [List.length_map]; exact hlen) hl.1 rfl (lv_room (by rw [cat_sum]; exact hst8)) hd hfit
  intro T hT X
  obtain ⟨v, st₀, t, T', L, e0, X', hL, e1, e2, hq, hgo⟩ := hrun T hT X
  obtain ⟨t2, g1, g2⟩ := call_back hS hl h0 h1 h2s e0 X' hL e1 hq kk
  exact ⟨t2, hgo t2 g1, g2⟩
theorem V_callS {y : MethodName} {bytes : ByteArray} {maxL' n' idx : Nat} {ret' : Option FieldType} {rm' : Room} {as : List SV} {Po' : PoT} (C : Cx p l s m args meth c D B tW α0 own cc nL ret mn tab) (hd : decode cc pc = .ok (.invokestatic idx, 3)) (hM : Ct y (Cond.code y bytes maxL' ret' :: tb_) rm' as ν ι ρ ℓ Po' noX) (hY : MtS y bytes maxL' ret' n') (hw : Cond.methodLink own idx y ∈ tb_) (hRm : rm'.frames + 1 ≤ R.frames ∧ 8 + (maxL' + 11) + rm'.locals ≤ R.locals) (hst8 : (st.map scat).sum ≤ 8) (hfit : cells + rm'.cells ≤ R.cells ∧ slots + rm'.slots ≤ R.slots) (hlen : as.length = n') (kk : ∀ (v' : Option SV) (ν' : Nu) (ι' : Io) (ρ' : Ro) (ℓ' : Lo), Po' v' ν' ι' ρ' ℓ' → V p l e R s m args below meth c D B α0 ν0 nL Q (cells + rm'.cells) (slots + rm'.slots) ν' ι' ρ' ℓ' (pc + 3) lv (v'.toList ++ st)) : V p l e R s m args below meth c D B α0 ν0 nL Q cells slots ν ι ρ ℓ pc lv (as.reverse ++ st) := by
  intro α H locs ls hR hS hl h0 h1 h2
  have hpre : ∀ U : State, U.heap = H → s.WarmedH U.vm → cP D B tW α ν ι ρ ℓ (as) (as.map (enc α)).toArray U := fun U hU hW => ⟨rfl, by rw [hU]; exact hR, C.2.2.2.2.2.1.to hW (fun q g1 g2 => by rw [hU]; exact hS.2.1 q g1 g2), (h0.2 99 0 0 (Or.inl (by decide))).trans C.2.2.2.2.2.2.2.2.2.2.2.2, fun w hw => h2 w (List.mem_append_left _ (List.mem_reverse.mpr hw))⟩
  have h2s : wfl ν st := fun w hw => h2 w (List.mem_append_right _ hw)
  rw [List.map_append, List.map_reverse]
  have hrun := va_runS (e := e) (below := below) (meth := meth) (locs := locs) (cells := cells) (slots := slots) (As := as.map (enc α)) (rest := st.map (enc α)) (g := F0 m pc ls ((as.map (enc α)).reverse ++ st.map (enc α))) (Ts := tb_) (n := n') ⟨C.1, C.2.1, C.2.2.1, C.2.2.2.1, C.2.2.2.2.1⟩ (hM.met l D B tW α C.2.2.2.2.2.2.2.2.2.1)
    (va_cwS n' C.2.2.2.2.1 (goodTb (by
      intro w hw9
      simp only [va_wsS, List.mem_append, List.mem_cons, List.not_mem_nil, or_false] at hw9
      rcases hw9 with (rfl | rfl | rfl) | rfl | h
      · exact hw
      · exact hY.1
      · exact hY.2.1
      · exact hY.2.2.1
      · exact h)) rfl rfl rfl hY.2.2.2 hRm) ⟨cP_blind, hpre⟩ rfl (by rw [List.length_map]; exact hlen) hl.1 rfl (lv_room (by rw [cat_sum]; exact hst8)) hd hfit
  intro T hT X
  obtain ⟨v, st₀, t, T', L, e0, X', hL, e1, e2, hq, hgo⟩ := hrun T hT X
  obtain ⟨t2, g1, g2⟩ := call_back hS hl h0 h1 h2s e0 X' hL e1 hq kk
  exact ⟨t2, hgo t2 g1, g2⟩
theorem V_callSN {y : MethodName} {bytes : ByteArray} {maxL' n' idx : Nat} {ret' : Option FieldType} {rm' : Room} {as : List SV} {Po' : PoT} {host : String} (C : Cx p l s m args meth c D B tW α0 own cc nL ret mn tab) (hd : decode cc pc = .ok (.invokestatic idx, 3)) (hM : Ct y (Cond.code y bytes maxL' ret' :: tb_) rm' as ν ι ρ ℓ Po' noX) (hY : MtS y bytes maxL' ret' n') (hw : (own, idx, y, host) ∈ nwM) (hRm : rm'.frames + 1 ≤ R.frames ∧ 8 + (maxL' + 11) + rm'.locals ≤ R.locals) (hst8 : (st.map scat).sum ≤ 8) (hfit : cells + rm'.cells ≤ R.cells ∧ slots + rm'.slots ≤ R.slots) (hlen : as.length = n') (kk : ∀ (v' : Option SV) (ν' : Nu) (ι' : Io) (ρ' : Ro) (ℓ' : Lo), Po' v' ν' ι' ρ' ℓ' → V p l e R s m args below meth c D B α0 ν0 nL Q (cells + rm'.cells) (slots + rm'.slots) ν' ι' ρ' ℓ' (pc + 3) lv (v'.toList ++ st)) : V p l e R s m args below meth c D B α0 ν0 nL Q cells slots ν ι ρ ℓ pc lv (as.reverse ++ st) := by
  intro α H locs ls hR hS hl h0 h1 h2
  have hpre : ∀ U : State, U.heap = H → s.WarmedH U.vm → cP D B tW α ν ι ρ ℓ (as) (as.map (enc α)).toArray U := fun U hU hW => ⟨rfl, by rw [hU]; exact hR, C.2.2.2.2.2.1.to hW (fun q g1 g2 => by rw [hU]; exact hS.2.1 q g1 g2), (h0.2 99 0 0 (Or.inl (by decide))).trans C.2.2.2.2.2.2.2.2.2.2.2.2, fun w hw => h2 w (List.mem_append_left _ (List.mem_reverse.mpr hw))⟩
  have h2s : wfl ν st := fun w hw => h2 w (List.mem_append_right _ hw)
  rw [List.map_append, List.map_reverse]
  have hrun := va_runSN (host := host) (e := e) (below := below) (meth := meth) (locs := locs) (cells := cells) (slots := slots) (As := as.map (enc α)) (rest := st.map (enc α)) (g := F0 m pc ls ((as.map (enc α)).reverse ++ st.map (enc α))) (Ts := tb_) (n := n') ⟨C.1, C.2.1, C.2.2.1, C.2.2.2.1, C.2.2.2.2.1⟩ (hM.met l D B tW α C.2.2.2.2.2.2.2.2.2.1)
    ⟨va_cnB n' C.2.2.2.2.1 (goodTb (by
      intro w hw9
      rcases List.mem_cons.mp hw9 with rfl | h
      · exact hY.2.2.1
      · exact h)) rfl rfl rfl (C.2.2.2.2.2.1.1.2.2.1 _ hw) (C.2.2.2.2.1 _ hY.2.1) hY.2.2.2 hRm, C.2.2.2.2.1 _ hY.1, trivial⟩ ⟨cP_blind, hpre⟩ rfl (by rw [List.length_map]; exact hlen) hl.1 rfl (lv_room (by rw [cat_sum]; exact hst8)) hd hfit
  intro T hT X
  obtain ⟨v, st₀, t, T', L, e0, X', hL, e1, e2, hq, hgo⟩ := hrun T hT X
  obtain ⟨t2, g1, g2⟩ := call_back hS hl h0 h1 h2s e0 X' hL e1 hq kk
  exact ⟨t2, hgo t2 g1, g2⟩
theorem V_callI {y : MethodName} {bytes : ByteArray} {maxL' n' idx : Nat} {rm' : Room} {as : List SV} {Po' : PoT} {r i j : Nat} (C : Cx p l s m args meth c D B tW α0 own cc nL ret mn tab) (hd : decode cc pc = .ok (.invokespecial idx, 3)) (hM : Ct y (Cond.code y bytes maxL' none :: tb_) rm' (sR r i j :: as) ν ι ρ ℓ Po' noX) (hY : MtI y bytes maxL' n') (hw : Cond.methodLink own idx y ∈ tb_) (hRm : rm'.frames + 1 ≤ R.frames ∧ 8 + (maxL' + 11) + rm'.locals ≤ R.locals) (hst8 : (st.map scat).sum ≤ 8) (hfit : cells + rm'.cells ≤ R.cells ∧ slots + rm'.slots ≤ R.slots) (hlen : as.length = n') (kk : ∀ (v' : Option SV) (ν' : Nu) (ι' : Io) (ρ' : Ro) (ℓ' : Lo), Po' v' ν' ι' ρ' ℓ' → V p l e R s m args below meth c D B α0 ν0 nL Q (cells + rm'.cells) (slots + rm'.slots) ν' ι' ρ' ℓ' (pc + 3) lv (v'.toList ++ st)) : V p l e R s m args below meth c D B α0 ν0 nL Q cells slots ν ι ρ ℓ pc lv (as.reverse ++ sR r i j :: st) := by
  intro α H locs ls hR hS hl h0 h1 h2
  have hpre : ∀ U : State, U.heap = H → s.WarmedH U.vm → cP D B tW α ν ι ρ ℓ (sR r i j :: as) (Value.ref (α r i j) :: as.map (enc α)).toArray U := fun U hU hW => ⟨rfl, by rw [hU]; exact hR, C.2.2.2.2.2.1.to hW (fun q g1 g2 => by rw [hU]; exact hS.2.1 q g1 g2), (h0.2 99 0 0 (Or.inl (by decide))).trans C.2.2.2.2.2.2.2.2.2.2.2.2, fun w hw => h2 w ((List.mem_cons.mp hw).elim (fun z => z ▸ List.mem_append_right _ List.mem_cons_self) (fun z => List.mem_append_left _ (List.mem_reverse.mpr z)))⟩
  have h2s : wfl ν st := fun w hw => h2 w (List.mem_append_right _ (List.mem_cons_of_mem _ hw))
  rw [List.map_append, List.map_reverse, List.map_cons]
  have hrun := va_runI (e := e) (below := below) (meth := meth) (locs := locs) (cells := cells) (slots := slots) (As := as.map (enc α)) (b := α r i j) (rest := st.map (enc α)) (g := F0 m pc ls ((as.map (enc α)).reverse ++ .ref (α r i j) :: st.map (enc α))) (Ts := tb_) (n := n') ⟨C.1, C.2.1, C.2.2.1, C.2.2.2.1, C.2.2.2.2.1⟩ (hM.met l D B tW α C.2.2.2.2.2.2.2.2.2.1)
    ⟨callB_of n' C.2.2.2.2.1 (goodTb (by
      intro w hw9
      rcases List.mem_cons.mp hw9 with rfl | h
      · exact hY.2.2.1
      · exact h)) rfl rfl rfl (C.2.2.2.2.1 _ hY.2.1) (C.2.2.2.2.1 _ hw) ⟨hY.2.2.2.1, hY.2.2.2.2.1, hY.2.2.2.2.2.1⟩ hRm, hY.2.2.2.2.2.2, C.2.2.2.2.1 _ hY.1⟩ ⟨cP_blind, hpre⟩ rfl (by rw [List.length_map]; exact hlen) hl.1 rfl (lv_room (by rw [cat_sum]; exact hst8)) hd hfit
  intro T hT X
  obtain ⟨v, st₀, t, T', L, e0, X', hL, e1, e2, hq, hgo⟩ := hrun T hT X
  obtain ⟨t2, g1, g2⟩ := call_back hS hl h0 h1 h2s e0 X' hL e1 hq kk
  exact ⟨t2, hgo t2 g1, g2⟩
theorem V_callIN {y : MethodName} {bytes : ByteArray} {maxL' n' idx : Nat} {rm' : Room} {as : List SV} {Po' : PoT} {r i j : Nat} {host : String} (C : Cx p l s m args meth c D B tW α0 own cc nL ret mn tab) (hd : decode cc pc = .ok (.invokespecial idx, 3)) (hM : Ct y (Cond.code y bytes maxL' none :: tb_) rm' (sR r i j :: as) ν ι ρ ℓ Po' noX) (hY : MtI y bytes maxL' n') (hw : (own, idx, y, host) ∈ nwM) (hRm : rm'.frames + 1 ≤ R.frames ∧ 8 + (maxL' + 11) + rm'.locals ≤ R.locals) (hst8 : (st.map scat).sum ≤ 8) (hfit : cells + rm'.cells ≤ R.cells ∧ slots + rm'.slots ≤ R.slots) (hlen : as.length = n') (kk : ∀ (v' : Option SV) (ν' : Nu) (ι' : Io) (ρ' : Ro) (ℓ' : Lo), Po' v' ν' ι' ρ' ℓ' → V p l e R s m args below meth c D B α0 ν0 nL Q (cells + rm'.cells) (slots + rm'.slots) ν' ι' ρ' ℓ' (pc + 3) lv (v'.toList ++ st)) : V p l e R s m args below meth c D B α0 ν0 nL Q cells slots ν ι ρ ℓ pc lv (as.reverse ++ sR r i j :: st) := by
  intro α H locs ls hR hS hl h0 h1 h2
  have hpre : ∀ U : State, U.heap = H → s.WarmedH U.vm → cP D B tW α ν ι ρ ℓ (sR r i j :: as) (Value.ref (α r i j) :: as.map (enc α)).toArray U := fun U hU hW => ⟨rfl, by rw [hU]; exact hR, C.2.2.2.2.2.1.to hW (fun q g1 g2 => by rw [hU]; exact hS.2.1 q g1 g2), (h0.2 99 0 0 (Or.inl (by decide))).trans C.2.2.2.2.2.2.2.2.2.2.2.2, fun w hw => h2 w ((List.mem_cons.mp hw).elim (fun z => z ▸ List.mem_append_right _ List.mem_cons_self) (fun z => List.mem_append_left _ (List.mem_reverse.mpr z)))⟩
  have h2s : wfl ν st := fun w hw => h2 w (List.mem_append_right _ (List.mem_cons_of_mem _ hw))
  rw [List.map_append, List.map_reverse, List.map_cons]
  have hrun := va_runIN (host := host) (e := e) (below := below) (meth := meth) (locs := locs) (cells := cells) (slots := slots) (As := as.map (enc α)) (b := α r i j) (rest := st.map (enc α)) (g := F0 m pc ls ((as.map (enc α)).reverse ++ .ref (α r i j) :: st.map (enc α))) (Ts := tb_) (n := n') ⟨C.1, C.2.1, C.2.2.1, C.2.2.2.1, C.2.2.2.2.1⟩ (hM.met l D B tW α C.2.2.2.2.2.2.2.2.2.1)
    ⟨va_cnB n' C.2.2.2.2.1 (goodTb (by
      intro w hw9
      rcases List.mem_cons.mp hw9 with rfl | h
      · exact hY.2.2.1
      · exact h)) rfl rfl rfl (C.2.2.2.2.2.1.1.2.2.1 _ hw) (C.2.2.2.2.1 _ hY.2.1) ⟨hY.2.2.2.1, hY.2.2.2.2.1, hY.2.2.2.2.2.1⟩ hRm, hY.2.2.2.2.2.2, C.2.2.2.2.1 _ hY.1⟩ ⟨cP_blind, hpre⟩ rfl (by rw [List.length_map]; exact hlen) hl.1 rfl (lv_room (by rw [cat_sum]; exact hst8)) hd hfit
  intro T hT X
  obtain ⟨v, st₀, t, T', L, e0, X', hL, e1, e2, hq, hgo⟩ := hrun T hT X
  obtain ⟨t2, g1, g2⟩ := call_back hS hl h0 h1 h2s e0 X' hL e1 hq kk
  exact ⟨t2, hgo t2 g1, g2⟩
theorem V_objI {r i j idx : Nat} (C : Cx p l s m args meth c D B tW α0 own cc nL ret mn tab) (hd : decode cc pc = .ok (.invokespecial idx, 3)) (hw : Cond.methodLink own idx Lib.objectInit ∈ tb_) (hw2 : Cond.instanceMethod Lib.objectInit ∈ tb_ ∧ Cond.code Lib.objectInit ⟨#[0xb1]⟩ 1 none ∈ tb_) (hRf : 1 ≤ R.frames) (hRl : (st.map scat).sum + 12 ≤ R.locals) (k : V p l e R s m args below meth c D B α0 ν0 nL Q cells slots ν ι ρ ℓ (pc + 3) lv st) : V p l e R s m args below meth c D B α0 ν0 nL Q cells slots ν ι ρ ℓ pc lv (sR r i j :: st) := by
  intro α H locs ls hR hS hl h0 h1 h2
  exact W.objInit C.1 C.2.1 C.2.2.2.1 (C.2.2.2.2.1 _ hw) (C.2.2.2.2.1 _ hw2.1) (C.2.2.2.2.1 _ hw2.2) rfl (hl.1.trans C.2.2.1.symm) rfl hd hRf (by show 2 * 0 + _ + 12 ≤ _; rw [cat_sum]; omega) (k α H locs ls hR hS hl h0 h1 (wfl_t h2))
theorem V_mmax {x y : Int32} {idx : Nat} (C : Cx p l s m args meth c D B tW α0 own cc nL ret mn tab) (hd : decode cc pc = .ok (.invokestatic idx, 3)) (hw : Cond.methodLink own idx Lib.Math.max.name ∈ tb_) (hw2 : Cond.static Lib.Math.max.name ∈ tb_ ∧ Cond.initialized "java/lang/Math" ∈ tb_ ∧ Cond.code Lib.Math.max.name Lib.Math.max.code 2 (some .int) ∈ tb_) (hRf : 1 ≤ R.frames) (hRl : (st.map scat).sum + 13 ≤ R.locals) (hc : cells ≤ R.cells) (hs : slots ≤ R.slots) (k : V p l e R s m args below meth c D B α0 ν0 nL Q cells slots ν ι ρ ℓ (pc + 3) lv (sI (if x < y then y else x) :: st)) : V p l e R s m args below meth c D B α0 ν0 nL Q cells slots ν ι ρ ℓ pc lv (sI y :: sI x :: st) := by
  intro α H locs ls hR hS hl h0 h1 h2
  exact va_mmax C.1 C.2.1 (C.2.2.1.trans hl.1.symm) C.2.2.2.1 (C.2.2.2.2.1 _ hw) (C.2.2.2.2.1 _ hw2.1) (C.2.2.2.2.1 _ hw2.2.1) (C.2.2.2.2.1 _ hw2.2.2) hRf (by rw [cat_sum]; exact hRl) hc hs hd (k α H locs ls hR hS hl h0 h1 (wfl_c wfv_I (wfl_t (wfl_t h2))))
theorem V_mmin {x y : Int32} {idx : Nat} (C : Cx p l s m args meth c D B tW α0 own cc nL ret mn tab) (hd : decode cc pc = .ok (.invokestatic idx, 3)) (hw : Cond.methodLink own idx Lib.Math.min.name ∈ tb_) (hw2 : Cond.static Lib.Math.min.name ∈ tb_ ∧ Cond.initialized "java/lang/Math" ∈ tb_ ∧ Cond.code Lib.Math.min.name Lib.Math.min.code 2 (some .int) ∈ tb_) (hRf : 1 ≤ R.frames) (hRl : (st.map scat).sum + 13 ≤ R.locals) (hc : cells ≤ R.cells) (hs : slots ≤ R.slots) (k : V p l e R s m args below meth c D B α0 ν0 nL Q cells slots ν ι ρ ℓ (pc + 3) lv (sI (if y < x then y else x) :: st)) : V p l e R s m args below meth c D B α0 ν0 nL Q cells slots ν ι ρ ℓ pc lv (sI y :: sI x :: st) := by
  intro α H locs ls hR hS hl h0 h1 h2
  exact va_mmin C.1 C.2.1 (C.2.2.1.trans hl.1.symm) C.2.2.2.1 (C.2.2.2.2.1 _ hw) (C.2.2.2.2.1 _ hw2.1) (C.2.2.2.2.1 _ hw2.2.1) (C.2.2.2.2.1 _ hw2.2.2) hRf (by rw [cat_sum]; exact hRl) hc hs hd (k α H locs ls hR hS hl h0 h1 (wfl_c wfv_I (wfl_t (wfl_t h2))))
end Am4
end
section
section Am5
variable {p : Program} {l : Launch} {e : Env} {R : Room} {s : State} {m : MethodId} {args : Array Value} {below : List Frame} {meth : Method} {c : Code} {D : GD} {B tW : Nat} {α0 : Ad} {ν0 : Nu} {own : String} {cc : ByteArray} {nL : Nat} {ret : Option FieldType} {mn : String} {tab : List ExceptionTableEntry} {Q : State → Prop} {cells slots : Nat} {ν : Nu} {ι : Io} {ρ : Ro} {ℓ : Lo} {pc : Nat} {lv lv' : List (Nat × SV)} {st : List SV}
variable {mc ms : Nat} {Po : PoT} {PX : PxT}
theorem V_callVX {y : MethodName} {bytes : ByteArray} {maxL' n' idx : Nat} {ret' : Option FieldType} {rm' : Room} {as : List SV} {Po' : PoT} {PX' : PxT} {r i j N : Nat} {T1 : u_T} (C : Cx p l s m args meth c D B tW α0 own cc nL ret mn tab) (hQ : Q = vx_MQ below (cQ D B α0 ν0 Po) (cX D B α0 ν0 PX) args s mc ms (uB B)) (htab : tab = []) (hd : decode cc pc = .ok (.invokevirtual idx, 3)) (hM : Ct y (Cond.code y bytes maxL' ret' :: tb_) rm' (sR r i j :: as) ν ι ρ ℓ Po' PX') (hY : MtV y bytes maxL' ret' n') (hF : ClF r y.cls T1 N) (hw : Cond.methodLink own idx y ∈ tb_) (ha : ν r i j ≠ none) (hRm : rm'.frames + 1 ≤ R.frames ∧ 8 + (maxL' + 11) + rm'.locals ≤ R.locals) (hst8 : (st.map scat).sum ≤ 8) (hfit : cells + rm'.cells ≤ R.cells ∧ slots + rm'.slots ≤ R.slots) (hlen : as.length = n') (hxc : cells + rm'.cells ≤ mc) (hxs : slots + rm'.slots ≤ ms) (kx : ∀ (E : String) (ν' : Nu) (ι' : Io) (ρ' : Ro) (ℓ' : Lo), PX' E ν' ι' ρ' ℓ' → PX E ν' ι' ρ' ℓ') (kk : ∀ (v' : Option SV) (ν' : Nu) (ι' : Io) (ρ' : Ro) (ℓ' : Lo), Po' v' ν' ι' ρ' ℓ' → V p l e R s m args below meth c D B α0 ν0 nL Q (cells + rm'.cells) (slots + rm'.slots) ν' ι' ρ' ℓ' (pc + 3) lv (v'.toList ++ st)) : V p l e R s m args below meth c D B α0 ν0 nL Q cells slots ν ι ρ ℓ pc lv (as.reverse ++ sR r i j :: st) := by
  intro α H locs ls hR hS hl h0 h1 h2
  subst hQ
  obtain ⟨n9, hn9⟩ := Option.ne_none_iff_exists'.mp ha
  obtain ⟨q9, w3, w4, cell, q1, q2, q3, -⟩ := (hR.2.1 r i j n9 hn9).2.2.1.1 hF.1
  cases hF.2.1.symm.trans w3
  have hrec : ∃ cellB : Cell, H[α r i j]? = some cellB ∧ cellB.vm.isStatics = false ∧ s.vm.findClass y.cls = some cellB.cls := ⟨cell, q1, by rw [q3]; rfl, by rw [q2]; exact (C.2.2.2.2.2.1.1.1 r _ hF.2.1).2.1⟩
  have hpre : ∀ U : State, U.heap = H → s.WarmedH U.vm → cP D B tW α ν ι ρ ℓ (sR r i j :: as) (Value.ref (α r i j) :: as.map (enc α)).toArray U := fun U hU hW => ⟨rfl, by rw [hU]; exact hR, C.2.2.2.2.2.1.to hW (fun q g1 g2 => by rw [hU]; exact hS.2.1 q g1 g2), (h0.2 99 0 0 (Or.inl (by decide))).trans C.2.2.2.2.2.2.2.2.2.2.2.2, fun w hw => h2 w ((List.mem_cons.mp hw).elim (fun z => z ▸ List.mem_append_right _ List.mem_cons_self) (fun z => List.mem_append_left _ (List.mem_reverse.mpr z)))⟩
  have h2s : wfl ν st := fun w hw => h2 w (List.mem_append_right _ (List.mem_cons_of_mem _ hw))
  rw [List.map_append, List.map_reverse, List.map_cons]
  have hrun := vx_runV (e := e) (below := below) (meth := meth) (locs := locs) (cells := cells) (slots := slots) (As := as.map (enc α)) (b := α r i j) (rest := st.map (enc α)) (g := F0 m pc ls ((as.map (enc α)).reverse ++ .ref (α r i j) :: st.map (enc α))) (Ts := tb_) (n := n') ⟨C.1, C.2.1, C.2.2.1, C.2.2.2.1, C.2.2.2.2.1⟩ (hM l D B tW α C.2.2.2.2.2.2.2.2.2.1)
    (cwV (C := y.cls) n' C.2.2.2.2.1 (goodTb (by
      intro w hw9
      simp only [wsV, List.mem_append, List.mem_cons, List.not_mem_nil, or_false] at hw9
      rcases hw9 with (rfl | rfl | rfl | rfl) | rfl | h
      · exact hw
      · exact hY.1
      · exact hY.2.1
      · exact hY.2.2.1
      · exact hY.2.2.2.1
      · exact h)) rfl rfl rfl ⟨rfl, hY.2.2.2.2⟩ hRm) ⟨cP_blind, hrec, hpre⟩ rfl (by rw [List.length_map]; exact hlen) hl.1 rfl (lv_room (by rw [cat_sum]; exact hst8)) hd hfit
  intro T hT X
  rcases hrun T hT X with ⟨v, st₀, t, T', L, e0, X', hL, e1, e2, hq, hgo⟩ | ⟨q, st₀, t, T', L, E, ce, e0, X', hL, e1, e2, ⟨⟨α', ν', ι', ρ', ℓ', hp, hR', ag⟩, hFx⟩, hce, hcv, hcl, hgo⟩
  · obtain ⟨t2, g1, g2⟩ := call_back hS hl h0 h1 h2s e0 X' hL e1 hq kk
    exact ⟨t2, hgo t2 g1, g2⟩
  · obtain ⟨k1, k2, k3⟩ := vx_keep (H0 := s.heap) (A0 := uB B) (free := uB B) e0 e1 hS (fun q _ h => h) (fun q h => h) hL hFx
    obtain ⟨t2, g1, g2⟩ := vx_out (Qc := cQ D B α0 ν0 Po) (XC := cX D B α0 ν0 PX) (mc := mc) (ms := ms) (free := uB B) (ls := ls) (rest := st.map (enc α)) (pc := pc) (by rw [C.2.2.2.2.2.2.2.2.2.2.1, htab]; exact fun x hx => nomatch hx) C.2.2.2.2.2.2.2.2.1 (show T'.heap[q]? = some ce by rw [e1]; exact hce) hcv hcl
      (fun t9 ht9 hal => ⟨⟨α', ν', ι', ρ', ℓ', kx E ν' ι' ρ' ℓ' hp, by rw [ht9, e1]; exact hR', h0.tr ag⟩, k3.F ht9⟩) k3.2.2 hxc hxs T' rfl X'
    exact ⟨t2, hgo.trans g1, g2⟩
theorem V_callVH {y : MethodName} {bytes : ByteArray} {maxL' n' idx : Nat} {ret' : Option FieldType} {rm' : Room} {as : List SV} {Po' : PoT} {PX' : PxT} {r i j N : Nat} {T1 : u_T} (C : Cx p l s m args meth c D B tW α0 own cc nL ret mn tab) (hd : decode cc pc = .ok (.invokevirtual idx, 3)) (hM : Ct y (Cond.code y bytes maxL' ret' :: tb_) rm' (sR r i j :: as) ν ι ρ ℓ Po' PX') (hY : MtV y bytes maxL' ret' n') (hF : ClF r y.cls T1 N) (hw : Cond.methodLink own idx y ∈ tb_) (ha : ν r i j ≠ none) (hRm : rm'.frames + 1 ≤ R.frames ∧ 8 + (maxL' + 11) + rm'.locals ≤ R.locals) (hst8 : (st.map scat).sum ≤ 8) (hfit : cells + rm'.cells ≤ R.cells ∧ slots + rm'.slots ≤ R.slots) (hlen : as.length = n') (kx : ∀ (E : String) (ν' : Nu) (ι' : Io) (ρ' : Ro) (ℓ' : Lo), PX' E ν' ι' ρ' ℓ' → ∃ (pre : List ExceptionTableEntry) (x : ExceptionTableEntry) (suf : List ExceptionTableEntry) (n9 hp2 : Nat), tab = pre ++ x :: suf ∧ (∀ z ∈ pre, z.catchType ≠ 0 ∧ ∃ nm : String, Cond.classLink own z.catchType nm ∈ tb_ ∧ (E, nm) ∈ nc_) ∧ covers x pc = true ∧ x.catchType ≠ 0 ∧ Cond.classLink own x.catchType E ∈ tb_ ∧ (E, E) ∈ nwC ∧ n9 < nL ∧ ((decode cc x.handlerPc = .ok (.astore n9, 2) ∧ hp2 = x.handlerPc + 2) ∨ ∃ k9 : Fin 4, (k9 : Nat) = n9 ∧ decode cc x.handlerPc = .ok (.astore_n k9, 1) ∧ hp2 = x.handlerPc + 1) ∧ V p l e R s m args below meth c D B α0 ν0 nL Q (cells + rm'.cells) (slots + rm'.slots) ν' ι' ρ' ℓ' hp2 (ldel n9 lv) []) (kk : ∀ (v' : Option SV) (ν' : Nu) (ι' : Io) (ρ' : Ro) (ℓ' : Lo), Po' v' ν' ι' ρ' ℓ' → V p l e R s m args below meth c D B α0 ν0 nL Q (cells + rm'.cells) (slots + rm'.slots) ν' ι' ρ' ℓ' (pc + 3) lv (v'.toList ++ st)) : V p l e R s m args below meth c D B α0 ν0 nL Q cells slots ν ι ρ ℓ pc lv (as.reverse ++ sR r i j :: st) := by
  intro α H locs ls hR hS hl h0 h1 h2
  obtain ⟨n9, hn9⟩ := Option.ne_none_iff_exists'.mp ha
  obtain ⟨q9, w3, w4, cell, q1, q2, q3, -⟩ := (hR.2.1 r i j n9 hn9).2.2.1.1 hF.1
  cases hF.2.1.symm.trans w3
  have hrec : ∃ cellB : Cell, H[α r i j]? = some cellB ∧ cellB.vm.isStatics = false ∧ s.vm.findClass y.cls = some cellB.cls := ⟨cell, q1, by rw [q3]; rfl, by rw [q2]; exact (C.2.2.2.2.2.1.1.1 r _ hF.2.1).2.1⟩
  have hpre : ∀ U : State, U.heap = H → s.WarmedH U.vm → cP D B tW α ν ι ρ ℓ (sR r i j :: as) (Value.ref (α r i j) :: as.map (enc α)).toArray U := fun U hU hW => ⟨rfl, by rw [hU]; exact hR, C.2.2.2.2.2.1.to hW (fun q g1 g2 => by rw [hU]; exact hS.2.1 q g1 g2), (h0.2 99 0 0 (Or.inl (by decide))).trans C.2.2.2.2.2.2.2.2.2.2.2.2, fun w hw => h2 w ((List.mem_cons.mp hw).elim (fun z => z ▸ List.mem_append_right _ List.mem_cons_self) (fun z => List.mem_append_left _ (List.mem_reverse.mpr z)))⟩
  have h2s : wfl ν st := fun w hw => h2 w (List.mem_append_right _ (List.mem_cons_of_mem _ hw))
  rw [List.map_append, List.map_reverse, List.map_cons]
  have hrun := vx_runV (e := e) (below := below) (meth := meth) (locs := locs) (cells := cells) (slots := slots) (As := as.map (enc α)) (b := α r i j) (rest := st.map (enc α)) (g := F0 m pc ls ((as.map (enc α)).reverse ++ .ref (α r i j) :: st.map (enc α))) (Ts := tb_) (n := n') ⟨C.1, C.2.1, C.2.2.1, C.2.2.2.1, C.2.2.2.2.1⟩ (hM l D B tW α C.2.2.2.2.2.2.2.2.2.1)
    (cwV (C := y.cls) n' C.2.2.2.2.1 (goodTb (by
      intro w hw9
      simp only [wsV, List.mem_append, List.mem_cons, List.not_mem_nil, or_false] at hw9
      rcases hw9 with (rfl | rfl | rfl | rfl) | rfl | h
      · exact hw
      · exact hY.1
      · exact hY.2.1
      · exact hY.2.2.1
      · exact hY.2.2.2.1
      · exact h)) rfl rfl rfl ⟨rfl, hY.2.2.2.2⟩ hRm) ⟨cP_blind, hrec, hpre⟩ rfl (by rw [List.length_map]; exact hlen) hl.1 rfl (lv_room (by rw [cat_sum]; exact hst8)) hd hfit
  intro T hT X
  rcases hrun T hT X with ⟨v, st₀, t, T', L, e0, X', hL, e1, e2, hq, hgo⟩ | ⟨q, st₀, t, T', L, E, ce, e0, X', hL, e1, e2, ⟨⟨α', ν', ι', ρ', ℓ', hp, hR', ag⟩, hFx⟩, hce, hcv, hcl, hgo⟩
  · obtain ⟨t2, g1, g2⟩ := call_back hS hl h0 h1 h2s e0 X' hL e1 hq kk
    exact ⟨t2, hgo t2 g1, g2⟩
  · obtain ⟨k1, k2, k3⟩ := vx_keep (H0 := s.heap) (A0 := uB B) (free := uB B) e0 e1 hS (fun q _ h => h) (fun q h => h) hL hFx
    obtain ⟨pre, x, suf, n9, hp2, hsp, hpass, hcov, hct, hlk, hcast, hn9, hst9, hV⟩ := kx E ν' ι' ρ' ℓ' hp
    have hl' : lv_has ls nL (lv.map (fun q => (q.1, enc α' q.2))) := by
      rw [show lv.map (fun q => (q.1, enc α' q.2)) = lv.map (fun q => (q.1, enc α q.2)) from List.map_congr_left fun q hq => by rw [enc_ag (h1 q.2 (List.mem_map.mpr ⟨q, hq, rfl⟩)) ag.2]]
      exact hl
    have fin : W p l e R s m args below meth c T'.heap (locs ++ L) (cells + rm'.cells) (slots + rm'.slots) Q (F0 m x.handlerPc ls [.ref q]) := by
      have go : ∀ ls' : Array Slot, lv_has ls' nL ((n9, Value.ref q) :: (ldel n9 lv).map (fun q => (q.1, enc α' q.2))) → W p l e R s m args below meth c T'.heap (locs ++ L) (cells + rm'.cells) (slots + rm'.slots) Q (F0 m hp2 ls' []) := fun ls' hls' =>
        hV α' T'.heap (locs ++ L) ls' (by rw [e1]; exact hR') k3 ⟨hls'.1, hls'.2.1, fun z hz => hls'.2.2 z (List.mem_cons_of_mem _ hz)⟩ (h0.tr ag) (ldel_wf (wfl_up h1 ag.alv)) wfl_n
      rcases hst9 with ⟨hdx, rfl⟩ | ⟨k9, hk9, hdx, rfl⟩
      · exact lv_astore C.1 C.2.1 hdx hl' hn9 (by rw [ldel_f]) go
      · exact lv_astore_n C.1 C.2.1 hdx hk9 hl' hn9 (by rw [ldel_f]) go
    obtain ⟨t2, g1, g2⟩ := vx_catch (own := own) (name := E) (rest := st.map (enc α)) (pc := pc) C.2.2.2.1 pre x suf (C.2.2.2.2.2.2.2.2.2.2.1.trans hsp) (fun z hz => Or.inr ⟨(hpass z hz).1, (hpass z hz).2.choose, C.2.2.2.2.1 _ (hpass z hz).2.choose_spec.1, C.2.2.2.2.2.1.1.2.2.2.2.2.2.1 _ (hpass z hz).2.choose_spec.2⟩) hcov hct (C.2.2.2.2.1 _ hlk) (va_Nw.use rfl (C.2.2.2.2.2.1.1.2.2.2.2.1 _ hcast)) (show T'.heap[q]? = some ce by rw [e1]; exact hce) hcv hcl fin T' rfl X'
    exact ⟨t2, hgo.trans g1, g2⟩
theorem V_callSW {y : MethodName} {bytes : ByteArray} {maxL' n' idx : Nat} {ret' : Option FieldType} {rm' : Room} {as : List SV} {Po' : PoT} {hh : List (Nat × Nat × Nat × Nat)} (C : Cx p l s m args meth c D B tW α0 own cc nL ret mn tab) (hd : decode cc pc = .ok (.invokestatic idx, 3)) (hM : Ct y (Cond.codeWith y bytes maxL' ret' hh :: tb_) rm' as ν ι ρ ℓ Po' noX) (hY : MtW y bytes maxL' ret' hh n') (hw : Cond.methodLink own idx y ∈ tb_) (hRm : rm'.frames + 1 ≤ R.frames ∧ 8 + (maxL' + 11) + rm'.locals ≤ R.locals) (hst8 : (st.map scat).sum ≤ 8) (hfit : cells + rm'.cells ≤ R.cells ∧ slots + rm'.slots ≤ R.slots) (hlen : as.length = n') (kk : ∀ (v' : Option SV) (ν' : Nu) (ι' : Io) (ρ' : Ro) (ℓ' : Lo), Po' v' ν' ι' ρ' ℓ' → V p l e R s m args below meth c D B α0 ν0 nL Q (cells + rm'.cells) (slots + rm'.slots) ν' ι' ρ' ℓ' (pc + 3) lv (v'.toList ++ st)) : V p l e R s m args below meth c D B α0 ν0 nL Q cells slots ν ι ρ ℓ pc lv (as.reverse ++ st) := by
  intro α H locs ls hR hS hl h0 h1 h2
  have hpre : ∀ U : State, U.heap = H → s.WarmedH U.vm → cP D B tW α ν ι ρ ℓ (as) (as.map (enc α)).toArray U := fun U hU hW => ⟨rfl, by rw [hU]; exact hR, C.2.2.2.2.2.1.to hW (fun q g1 g2 => by rw [hU]; exact hS.2.1 q g1 g2), (h0.2 99 0 0 (Or.inl (by decide))).trans C.2.2.2.2.2.2.2.2.2.2.2.2, fun w hw => h2 w (List.mem_append_left _ (List.mem_reverse.mpr hw))⟩
  have h2s : wfl ν st := fun w hw => h2 w (List.mem_append_right _ hw)
  rw [List.map_append, List.map_reverse]
  have hrun := vx_runSW (e := e) (below := below) (meth := meth) (locs := locs) (cells := cells) (slots := slots) (As := as.map (enc α)) (rest := st.map (enc α)) (g := F0 m pc ls ((as.map (enc α)).reverse ++ st.map (enc α))) (Ts := tb_) (n := n') ⟨C.1, C.2.1, C.2.2.1, C.2.2.2.1, C.2.2.2.2.1⟩ (hM.met l D B tW α C.2.2.2.2.2.2.2.2.2.1)
    (vx_cwSW n' C.2.2.2.2.1 (goodTb (by
      intro w hw9
      simp only [va_wsS, List.mem_append, List.mem_cons, List.not_mem_nil, or_false] at hw9
      rcases hw9 with (rfl | rfl | rfl) | rfl | h
      · exact hw
      · exact hY.1
      · exact hY.2.1
      · exact hY.2.2.1
      · exact h)) rfl rfl rfl hY.2.2.2 hRm) ⟨cP_blind, hpre⟩ rfl (by rw [List.length_map]; exact hlen) hl.1 rfl (lv_room (by rw [cat_sum]; exact hst8)) hd hfit
  intro T hT X
  obtain ⟨v, st₀, t, T', L, e0, X', hL, e1, e2, hq, hgo⟩ := hrun T hT X
  obtain ⟨t2, g1, g2⟩ := call_back hS hl h0 h1 h2s e0 X' hL e1 hq kk
  exact ⟨t2, hgo t2 g1, g2⟩
theorem toInt_nn {z : Int32} (hz : ¬ z < 0) : z.toInt = (z.toNatClampNeg : Int) := by
  have hz0 : (0 : Int) ≤ z.toInt := by
    have := Int32.not_lt.mp hz
    simpa using Int32.le_iff_toInt_le.mp this
  show z.toInt = ((z.toInt.toNat : Nat) : Int)
  omega
theorem V_copy {r i j n r2 i2 j2 n2 idx t k9 d9 : Nat} {sp dp len : Int32} (C : Cx p l s m args meth c D B tW α0 own cc nL ret mn tab) (hd : decode cc pc = .ok (.invokestatic idx, 3)) (hw : Cond.methodLink own idx arraycopyName ∈ tb_) (hw2 : Cond.native arraycopyName ∈ tb_ ∧ Cond.static arraycopyName ∈ tb_ ∧ Cond.initialized "java/lang/System" ∈ tb_) (hr : 20 ≤ r) (ha : art r = 0) (hr2 : 20 ≤ r2) (ha2 : art r2 = 0) (hk : ∀ q, kd (slt r q) = 0) (hk2 : ∀ q, kd (slt r2 q) = 0) (hn : ν r i j = some n) (hn2 : ν r2 i2 j2 = some n2) (hsp : sp = nI t) (hdp : dp = nI d9) (hlen : len = nI k9) (hb1 : t + k9 ≤ n) (hb2 : d9 + k9 ≤ n2) (hRf : 1 ≤ R.frames) (hRl : (st.map scat).sum + (nativeFrameWords "java/lang/System" "arraycopy" 5 + 11) ≤ R.locals) (k : V p l e R s m args below meth c D B α0 ν0 nL Q cells slots ν (upA ι r2 i2 j2 (va_cpy (ι r i j) (ι r2 i2 j2) t d9 k9)) ρ ℓ (pc + 3) lv st) : V p l e R s m args below meth c D B α0 ν0 nL Q cells slots ν ι ρ ℓ pc lv (sI len :: sI dp :: sR r2 i2 j2 :: sI sp :: sR r i j :: st) := by
  intro α H locs ls hR hS hl h0 h1 h2
  obtain ⟨-, hn31, g3, g4⟩ := hR.2.1 r i j n hn
  obtain ⟨-, hm31, g5, g6⟩ := hR.2.1 r2 i2 j2 n2 hn2
  have hc0 : H[α r i j]? = some (arrV (D.2.2 0) n (fun q => .int (ι r i j q))) := by
    rw [g3.2 hr, ha]; exact congrArg some (arrV_congr fun q _ => cont_I (hk q))
  have hc1 : H[α r2 i2 j2]? = some (arrV (D.2.2 0) n2 (fun q => .int (ι r2 i2 j2 q))) := by
    rw [g5.2 hr2, ha2]; exact congrArg some (arrV_congr fun q _ => cont_I (hk2 q))
  obtain ⟨-, k0, hk0, cm0, hkk0⟩ := (C.2.2.2.2.2.1.1.2.1 0 (by decide)).1 n (fun q => .int (ι r i j q))
  obtain ⟨-, k1, hk1, cm1, hkk1⟩ := (C.2.2.2.2.2.1.1.2.1 0 (by decide)).1 n2 (fun q => .int (ι r2 i2 j2 q))
  have c1 : sp.toNatClampNeg = t := by rw [hsp]; exact nI_clamp (by omega)
  have c2 : dp.toNatClampNeg = d9 := by rw [hdp]; exact nI_clamp (by omega)
  have c3 : len.toNatClampNeg = k9 := by rw [hlen]; exact nI_clamp (by omega)
  have p1 : ¬ sp < 0 := by rw [hsp]; exact nI_pos (by omega)
  have p2 : ¬ dp < 0 := by rw [hdp]; exact nI_pos (by omega)
  have p3 : ¬ len < 0 := by rw [hlen]; exact nI_pos (by omega)
  intro T hT X
  obtain ⟨vm', X', step⟩ := X.arraycopy C.1 C.2.2.2.1 (C.2.2.2.2.1 _ hw) (C.2.2.2.2.1 _ hw2.1) (C.2.2.2.2.1 _ hw2.2.1) (C.2.2.2.2.1 _ hw2.2.2) (src := α r i j) (dst := α r2 i2 j2) (cs := arrV (D.2.2 0) n (fun q => .int (ι r i j q))) (cd := arrV (D.2.2 0) n2 (fun q => .int (ι r2 i2 j2 q))) (srcPos := sp) (destPos := dp) (n := len) (by rw [hT]; exact hc0) (by rw [hT]; exact hc1)
    (fun _ h => by cases h) (fun _ h => by cases h) (fun h => by cases h) (fun h => by cases h) hk0 hk1 hkk0 hkk1 (by simp [aty, refKind]) p1 p2 p3
    (by rw [toInt_nn p1, toInt_nn p3, arrV_size]; omega)
    (by rw [toInt_nn p2, toInt_nn p3, arrV_size]; omega)
    (fun vm₁ _ q hq => by
      have e : (arrV (D.2.2 0) n (fun q => .int (ι r i j q))).slots.getD (sp.toNatClampNeg + q) .null = .int (ι r i j (sp.toNatClampNeg + q)) := by
        rw [Array.getD_eq_getD_getElem?, arrV_read _ _ (by omega)]
        rfl
      exact ⟨by rw [e]; rfl, by rw [e]; exact trivial⟩)
    (g := F0 m pc ls ((sI len :: sI dp :: sR r2 i2 j2 :: sI sp :: sR r i j :: st).map (enc α))) rfl (hl.1.trans C.2.2.1.symm) (rest := st.map (enc α)) rfl (by rw [C.2.1]; exact hd) hRf (by show 2 * 0 + _ + _ ≤ _; rw [cat_sum]; omega)
  have e1 : copied (arrV (D.2.2 0) n (fun q => .int (ι r i j q))) (arrV (D.2.2 0) n2 (fun q => .int (ι r2 i2 j2 q))) sp dp len = arrV (D.2.2 0) n2 (fun q => .int (va_cpy (ι r i j) (ι r2 i2 j2) t d9 k9 q)) := by
    rw [← c1, ← c2, ← c3]
    exact va_copied (fun z => .int z) _ _ (ι r i j) (ι r2 i2 j2) (by omega)
  rw [e1] at X' step
  have hlt : α r2 i2 j2 < H.size := g5.lt
  obtain ⟨H', hH'⟩ : ∃ H' : Heap, H' = H.setIfInBounds (α r2 i2 j2) (arrV (D.2.2 0) n2 (fun q => .int (va_cpy (ι r i j) (ι r2 i2 j2) t d9 k9 q))) := ⟨_, rfl⟩
  have hheap : ((T.setVm vm').setCell (α r2 i2 j2) (arrV (D.2.2 0) n2 (fun q => .int (va_cpy (ι r i j) (ι r2 i2 j2) t d9 k9 q)))).heap = H' := by rw [hH', ← hT]; rfl
  have hz : H'.size = H.size := by rw [hH']; simp
  have oq : ∀ q : Nat, q ≠ α r2 i2 j2 → H'[q]? = H[q]? := fun q hq => by rw [hH']; simp [Array.getElem?_setIfInBounds, Ne.symm hq]
  have eq : H'[α r2 i2 j2]? = some (arrV (D.2.2 0) n2 (fun q => .int (va_cpy (ι r i j) (ι r2 i2 j2) t d9 k9 q))) := by rw [hH']; simp [Array.getElem?_setIfInBounds, hlt]
  obtain ⟨t9, a1, b1⟩ := k α H' _ ls (hR.put hn2 hz oq upA_o (fun _ _ _ _ _ => rfl) (fun _ _ _ _ _ => rfl) ⟨fun z => absurd z (by omega), fun _ => by
      rw [eq, ha2]
      exact congrArg some (arrV_congr fun q _ => by rw [cont_I (hk2 q), upA_s])⟩ (fun k9 q9 z1 z2 z3 => hR.2.2.1 r2 i2 j2 n2 k9 q9 hn2 z1 z2 z3)) ⟨by rw [hz]; exact hS.1, fun q u1 u2 => by
      rw [oq q (fun z => u2 (by rw [z]; exact g6))]
      exact hS.2.1 q u1 u2, fun q hq => by
      rcases List.mem_append.mp hq with h | h
      · exact hS.2.2 q h
      · obtain ⟨z, -, hz⟩ := List.mem_map.mp h
        rw [← hz]
        exact g6⟩ hl h0 h1 (wfl_t (wfl_t (wfl_t (wfl_t (wfl_t h2))))) _ hheap X'
  exact ⟨t9, step t9 a1, b1⟩
end Am5
end
section
theorem cf_Li : ClF 0 R_Li F_Li 18 := ⟨by decide, rfl, i_Li, t_Li_ok, n_Li, tb_in 99 (by decide +kernel) rfl, tb_in 69 (by decide +kernel) rfl, by decide⟩
theorem cf_Me : ClF 1 R_Me F_Me 8 := ⟨by decide, rfl, i_Me, t_Me_ok, n_Me, tb_in 113 (by decide +kernel) rfl, tb_in 71 (by decide +kernel) rfl, by decide⟩
theorem cf_Na : ClF 2 R_Na F_Na 4 := ⟨by decide, rfl, i_Na, t_Na_ok, n_Na, tb_in 553 (by decide +kernel) rfl, tb_in 83 (by decide +kernel) rfl, by decide⟩
theorem cf_NT : ClF 3 R_NT F_NT 5 := ⟨by decide, rfl, i_NT, t_NT_ok, n_NT, tb_in 106 (by decide +kernel) rfl, tb_in 70 (by decide +kernel) rfl, by decide⟩
theorem cf_Oc : ClF 4 R_Oc F_Oc 2 := ⟨by decide, rfl, i_Oc, t_Oc_ok, n_Oc, tb_in 237 (by decide +kernel) rfl, tb_in 72 (by decide +kernel) rfl, by decide⟩
theorem cf_Re : ClF 5 R_Re F_Re 4 := ⟨by decide, rfl, i_Re, t_Re_ok, n_Re, tb_in 888 (by decide +kernel) rfl, tb_in 87 (by decide +kernel) rfl, by decide⟩
theorem cf_Rf : ClF 6 R_Rf F_Rf 5 := ⟨by decide, rfl, i_Rf, t_Rf_ok, n_Rf, tb_in 600 (by decide +kernel) rfl, tb_in 84 (by decide +kernel) rfl, by decide⟩
theorem cf_Se : ClF 7 R_Se F_Se 4 := ⟨by decide, rfl, i_Se, t_Se_ok, n_Se, tb_in 471 (by decide +kernel) rfl, tb_in 80 (by decide +kernel) rfl, by decide⟩
theorem cf_Un : ClF 8 R_Un F_Un 6 := ⟨by decide, rfl, i_Un, t_Un_ok, n_Un, tb_in 369 (by decide +kernel) rfl, tb_in 78 (by decide +kernel) rfl, by decide⟩
theorem cf_OL : ClF 9 R_OL F_OL 4 := ⟨by decide, rfl, i_OL, t_OL_ok, n_OL, tb_in 89 (by decide +kernel) rfl, tb_in 68 (by decide +kernel) rfl, by decide⟩
theorem cf_Mo : ClF 10 R_Mo F_Mo 42 := ⟨by decide, rfl, i_Mo, t_Mo_ok, n_Mo, tb_in 947 (by decide +kernel) rfl, tb_in 73 (by decide +kernel) rfl, by decide⟩
abbrev b_OL_init : ByteArray := prog_1_method_1_code
def y_OL_init : MethodName := ⟨R_OL, "<init>", "()V"⟩
theorem m_OL_init : MtI y_OL_init b_OL_init 1 0 := ⟨tb_in 91 (by decide +kernel) rfl, tb_in 68 (by decide +kernel) rfl, tb_in 92 (by decide +kernel) rfl, by decide, by decide, by decide +kernel, rfl⟩
abbrev b_Li_init : ByteArray := prog_2_method_1_code
def y_Li_init : MethodName := ⟨R_Li, "<init>", "()V"⟩
theorem m_Li_init : MtI y_Li_init b_Li_init 1 0 := ⟨tb_in 101 (by decide +kernel) rfl, tb_in 69 (by decide +kernel) rfl, tb_in 102 (by decide +kernel) rfl, by decide, by decide, by decide +kernel, rfl⟩
abbrev b_NT_init : ByteArray := prog_5_method_1_code
def y_NT_init : MethodName := ⟨R_NT, "<init>", "()V"⟩
theorem m_NT_init : MtI y_NT_init b_NT_init 2 0 := ⟨tb_in 108 (by decide +kernel) rfl, tb_in 70 (by decide +kernel) rfl, tb_in 109 (by decide +kernel) rfl, by decide, by decide, by decide +kernel, rfl⟩
abbrev b_Me_init : ByteArray := prog_3_method_1_code
def y_Me_init : MethodName := ⟨R_Me, "<init>", "()V"⟩
theorem m_Me_init : MtI y_Me_init b_Me_init 1 0 := ⟨tb_in 115 (by decide +kernel) rfl, tb_in 71 (by decide +kernel) rfl, tb_in 116 (by decide +kernel) rfl, by decide, by decide, by decide +kernel, rfl⟩
abbrev b_Oc_init : ByteArray := prog_6_method_1_code
def y_Oc_init : MethodName := ⟨R_Oc, "<init>", "()V"⟩
theorem m_Oc_init : MtI y_Oc_init b_Oc_init 1 0 := ⟨tb_in 239 (by decide +kernel) rfl, tb_in 72 (by decide +kernel) rfl, tb_in 240 (by decide +kernel) rfl, by decide, by decide, by decide +kernel, rfl⟩
abbrev b_OL_nameAt : ByteArray := prog_1_method_12_code
def y_OL_nameAt : MethodName := ⟨R_OL, "nameAt", "(I)I"⟩
theorem m_OL_nameAt : MtV y_OL_nameAt b_OL_nameAt 2 (some .int) 1 := ⟨tb_in 265 (by decide +kernel) rfl, tb_in 266 (by decide +kernel) rfl, tb_in 68 (by decide +kernel) rfl, tb_in 267 (by decide +kernel) rfl, by decide, by decide, by decide +kernel⟩
abbrev b_Li_addressOfNumber : ByteArray := prog_2_method_5_code
def y_Li_addressOfNumber : MethodName := ⟨R_Li, "addressOfNumber", "(I)I"⟩
theorem m_Li_addressOfNumber : MtV y_Li_addressOfNumber b_Li_addressOfNumber 3 (some .int) 1 := ⟨tb_in 269 (by decide +kernel) rfl, tb_in 270 (by decide +kernel) rfl, tb_in 69 (by decide +kernel) rfl, tb_in 271 (by decide +kernel) rfl, by decide, by decide, by decide +kernel⟩
abbrev b_NT_findOrNull : ByteArray := prog_5_method_3_code
def y_NT_findOrNull : MethodName := ⟨R_NT, "findOrNull", "(I)LObjectLinks$Meaning;"⟩
theorem m_NT_findOrNull : MtV y_NT_findOrNull b_NT_findOrNull 3 (some (.object "ObjectLinks$Meaning")) 1 := ⟨tb_in 273 (by decide +kernel) rfl, tb_in 274 (by decide +kernel) rfl, tb_in 70 (by decide +kernel) rfl, tb_in 275 (by decide +kernel) rfl, by decide, by decide, by decide +kernel⟩
abbrev b_Li_addressOf : ByteArray := prog_2_method_6_code
def y_Li_addressOf : MethodName := ⟨R_Li, "addressOf", "(LObjectLinks$Meaning;)I"⟩
theorem m_Li_addressOf : MtV y_Li_addressOf b_Li_addressOf 2 (some .int) 1 := ⟨tb_in 278 (by decide +kernel) rfl, tb_in 0 (by decide +kernel) rfl, tb_in 69 (by decide +kernel) rfl, tb_in 279 (by decide +kernel) rfl, by decide, by decide, by decide +kernel⟩
abbrev b_OL_count : ByteArray := prog_1_method_17_code
def y_OL_count : MethodName := ⟨R_OL, "count", "(I)I"⟩
theorem m_OL_count : MtV y_OL_count b_OL_count 2 (some .int) 1 := ⟨tb_in 281 (by decide +kernel) rfl, tb_in 282 (by decide +kernel) rfl, tb_in 68 (by decide +kernel) rfl, tb_in 283 (by decide +kernel) rfl, by decide, by decide, by decide +kernel⟩
abbrev b_OL_countOfLatest : ByteArray := prog_1_method_18_code
def y_OL_countOfLatest : MethodName := ⟨R_OL, "countOfLatest", "(I)I"⟩
theorem m_OL_countOfLatest : MtV y_OL_countOfLatest b_OL_countOfLatest 3 (some .int) 1 := ⟨tb_in 286 (by decide +kernel) rfl, tb_in 1 (by decide +kernel) rfl, tb_in 68 (by decide +kernel) rfl, tb_in 287 (by decide +kernel) rfl, by decide, by decide, by decide +kernel⟩
abbrev b_OL_unitOrNull : ByteArray := prog_1_method_19_code
def y_OL_unitOrNull : MethodName := ⟨R_OL, "unitOrNull", "(I)LObjectLinks$Unit;"⟩
theorem m_OL_unitOrNull : MtV y_OL_unitOrNull b_OL_unitOrNull 2 (some (.object "ObjectLinks$Unit")) 1 := ⟨tb_in 290 (by decide +kernel) rfl, tb_in 2 (by decide +kernel) rfl, tb_in 68 (by decide +kernel) rfl, tb_in 291 (by decide +kernel) rfl, by decide, by decide, by decide +kernel⟩
abbrev b_La_object : ByteArray := method_3_code
def y_La_object : MethodName := ⟨R_La, "object", "(LObjectLinks;[J)I"⟩
theorem m_La_object : MtW y_La_object b_La_object 3 (some .int) [(0, 8, 11, 13)] 2 := ⟨tb_in 293 (by decide +kernel) rfl, tb_in 67 (by decide +kernel) rfl, tb_in 294 (by decide +kernel) rfl, by decide, by decide, by decide +kernel⟩
abbrev b_OL_object : ByteArray := prog_1_method_2_code
def y_OL_object : MethodName := ⟨R_OL, "object", "()I"⟩
theorem m_OL_object : MtV y_OL_object b_OL_object 1 (some .int) 0 := ⟨tb_in 297 (by decide +kernel) rfl, tb_in 298 (by decide +kernel) rfl, tb_in 68 (by decide +kernel) rfl, tb_in 299 (by decide +kernel) rfl, by decide, by decide, by decide +kernel⟩
abbrev b_Un_init : ByteArray := prog_10_method_1_code
def y_Un_init : MethodName := ⟨R_Un, "<init>", "()V"⟩
theorem m_Un_init : MtI y_Un_init b_Un_init 1 0 := ⟨tb_in 371 (by decide +kernel) rfl, tb_in 78 (by decide +kernel) rfl, tb_in 372 (by decide +kernel) rfl, by decide, by decide, by decide +kernel, rfl⟩
abbrev b_OL_keep : ByteArray := prog_1_method_21_code
def y_OL_keep : MethodName := ⟨R_OL, "keep", "(LObjectLinks$Unit;)I"⟩
theorem m_OL_keep : MtV y_OL_keep b_OL_keep 2 (some .int) 1 := ⟨tb_in 416 (by decide +kernel) rfl, tb_in 4 (by decide +kernel) rfl, tb_in 68 (by decide +kernel) rfl, tb_in 417 (by decide +kernel) rfl, by decide, by decide, by decide +kernel⟩
abbrev b_La_section : ByteArray := method_4_code
def y_La_section : MethodName := ⟨R_La, "section", "(LObjectLinks;IIII[J)I"⟩
theorem m_La_section : MtW y_La_section b_La_section 7 (some .int) [(0, 14, 17, 19), (0, 14, 21, 21), (0, 14, 25, 13)] 6 := ⟨tb_in 419 (by decide +kernel) rfl, tb_in 67 (by decide +kernel) rfl, tb_in 420 (by decide +kernel) rfl, by decide, by decide, by decide +kernel⟩
abbrev b_OL_section : ByteArray := prog_1_method_3_code
def y_OL_section : MethodName := ⟨R_OL, "section", "(IIII)I"⟩
theorem m_OL_section : MtV y_OL_section b_OL_section 6 (some .int) 4 := ⟨tb_in 424 (by decide +kernel) rfl, tb_in 425 (by decide +kernel) rfl, tb_in 68 (by decide +kernel) rfl, tb_in 426 (by decide +kernel) rfl, by decide, by decide, by decide +kernel⟩
abbrev b_OL_known : ByteArray := prog_1_method_20_code
def y_OL_known : MethodName := ⟨R_OL, "known", "(I)LObjectLinks$Unit;"⟩
theorem m_OL_known : MtV y_OL_known b_OL_known 3 (some (.object "ObjectLinks$Unit")) 1 := ⟨tb_in 429 (by decide +kernel) rfl, tb_in 5 (by decide +kernel) rfl, tb_in 68 (by decide +kernel) rfl, tb_in 430 (by decide +kernel) rfl, by decide, by decide, by decide +kernel⟩
abbrev b_Se_canBe : ByteArray := prog_9_method_2_code
def y_Se_canBe : MethodName := ⟨R_Se, "canBe", "(III)Z"⟩
theorem m_Se_canBe : MtS y_Se_canBe b_Se_canBe 3 (some .boolean) 3 := ⟨tb_in 448 (by decide +kernel) rfl, tb_in 80 (by decide +kernel) rfl, tb_in 449 (by decide +kernel) rfl, by decide, by decide, by decide +kernel⟩
abbrev b_Se_powerCanBe : ByteArray := prog_9_method_3_code
def y_Se_powerCanBe : MethodName := ⟨R_Se, "powerCanBe", "(I)Z"⟩
theorem m_Se_powerCanBe : MtS y_Se_powerCanBe b_Se_powerCanBe 1 (some .boolean) 1 := ⟨tb_in 451 (by decide +kernel) rfl, tb_in 80 (by decide +kernel) rfl, tb_in 452 (by decide +kernel) rfl, by decide, by decide, by decide +kernel⟩
abbrev b_Se_init : ByteArray := prog_9_method_1_code
def y_Se_init : MethodName := ⟨R_Se, "<init>", "(III)V"⟩
theorem m_Se_init : MtI y_Se_init b_Se_init 4 3 := ⟨tb_in 473 (by decide +kernel) rfl, tb_in 80 (by decide +kernel) rfl, tb_in 474 (by decide +kernel) rfl, by decide, by decide, by decide +kernel, rfl⟩
abbrev b_Un_addSection : ByteArray := prog_10_method_3_code
def y_Un_addSection : MethodName := ⟨R_Un, "addSection", "(LObjectLinks$Section;)I"⟩
theorem m_Un_addSection : MtV y_Un_addSection b_Un_addSection 2 (some .int) 1 := ⟨tb_in 502 (by decide +kernel) rfl, tb_in 503 (by decide +kernel) rfl, tb_in 78 (by decide +kernel) rfl, tb_in 504 (by decide +kernel) rfl, by decide, by decide, by decide +kernel⟩
abbrev b_La_bytes : ByteArray := method_5_code
def y_La_bytes : MethodName := ⟨R_La, "bytes", "(LObjectLinks;IIII[J)I"⟩
theorem m_La_bytes : MtW y_La_bytes b_La_bytes 7 (some .int) [(0, 14, 17, 19), (0, 14, 21, 21)] 6 := ⟨tb_in 506 (by decide +kernel) rfl, tb_in 67 (by decide +kernel) rfl, tb_in 507 (by decide +kernel) rfl, by decide, by decide, by decide +kernel⟩
abbrev b_OL_bytes : ByteArray := prog_1_method_4_code
def y_OL_bytes : MethodName := ⟨R_OL, "bytes", "(IIII)I"⟩
theorem m_OL_bytes : MtV y_OL_bytes b_OL_bytes 6 (some .int) 4 := ⟨tb_in 509 (by decide +kernel) rfl, tb_in 510 (by decide +kernel) rfl, tb_in 68 (by decide +kernel) rfl, tb_in 511 (by decide +kernel) rfl, by decide, by decide, by decide +kernel⟩
abbrev b_Un_sectionOrNull : ByteArray := prog_10_method_2_code
def y_Un_sectionOrNull : MethodName := ⟨R_Un, "sectionOrNull", "(I)LObjectLinks$Section;"⟩
theorem m_Un_sectionOrNull : MtV y_Un_sectionOrNull b_Un_sectionOrNull 2 (some (.object "ObjectLinks$Section")) 1 := ⟨tb_in 513 (by decide +kernel) rfl, tb_in 514 (by decide +kernel) rfl, tb_in 78 (by decide +kernel) rfl, tb_in 515 (by decide +kernel) rfl, by decide, by decide, by decide +kernel⟩
abbrev b_Se_overwrite : ByteArray := prog_9_method_5_code
def y_Se_overwrite : MethodName := ⟨R_Se, "overwrite", "(II)I"⟩
theorem m_Se_overwrite : MtV y_Se_overwrite b_Se_overwrite 5 (some .int) 2 := ⟨tb_in 519 (by decide +kernel) rfl, tb_in 520 (by decide +kernel) rfl, tb_in 80 (by decide +kernel) rfl, tb_in 521 (by decide +kernel) rfl, by decide, by decide, by decide +kernel⟩
abbrev b_La_name : ByteArray := method_6_code
def y_La_name : MethodName := ⟨R_La, "name", "(LObjectLinks;IIIII[J)I"⟩
theorem m_La_name : MtW y_La_name b_La_name 8 (some .int) [(0, 16, 19, 19), (0, 16, 23, 21), (0, 16, 27, 13)] 7 := ⟨tb_in 526 (by decide +kernel) rfl, tb_in 67 (by decide +kernel) rfl, tb_in 527 (by decide +kernel) rfl, by decide, by decide, by decide +kernel⟩
abbrev b_OL_name : ByteArray := prog_1_method_5_code
def y_OL_name : MethodName := ⟨R_OL, "name", "(IIIII)I"⟩
theorem m_OL_name : MtV y_OL_name b_OL_name 7 (some .int) 5 := ⟨tb_in 529 (by decide +kernel) rfl, tb_in 530 (by decide +kernel) rfl, tb_in 68 (by decide +kernel) rfl, tb_in 531 (by decide +kernel) rfl, by decide, by decide, by decide +kernel⟩
abbrev b_Un_canName : ByteArray := prog_10_method_4_code
def y_Un_canName : MethodName := ⟨R_Un, "canName", "(IIII)Z"⟩
theorem m_Un_canName : MtV y_Un_canName b_Un_canName 5 (some .boolean) 4 := ⟨tb_in 533 (by decide +kernel) rfl, tb_in 534 (by decide +kernel) rfl, tb_in 78 (by decide +kernel) rfl, tb_in 535 (by decide +kernel) rfl, by decide, by decide, by decide +kernel⟩
abbrev b_Un_sortCanBe : ByteArray := prog_10_method_5_code
def y_Un_sortCanBe : MethodName := ⟨R_Un, "sortCanBe", "(III)Z"⟩
theorem m_Un_sortCanBe : MtV y_Un_sortCanBe b_Un_sortCanBe 5 (some .boolean) 3 := ⟨tb_in 538 (by decide +kernel) rfl, tb_in 6 (by decide +kernel) rfl, tb_in 78 (by decide +kernel) rfl, tb_in 539 (by decide +kernel) rfl, by decide, by decide, by decide +kernel⟩
abbrev b_Se_hasPlace : ByteArray := prog_9_method_4_code
def y_Se_hasPlace : MethodName := ⟨R_Se, "hasPlace", "(I)Z"⟩
theorem m_Se_hasPlace : MtV y_Se_hasPlace b_Se_hasPlace 2 (some .boolean) 1 := ⟨tb_in 542 (by decide +kernel) rfl, tb_in 543 (by decide +kernel) rfl, tb_in 80 (by decide +kernel) rfl, tb_in 544 (by decide +kernel) rfl, by decide, by decide, by decide +kernel⟩
abbrev b_Un_hasName : ByteArray := prog_10_method_6_code
def y_Un_hasName : MethodName := ⟨R_Un, "hasName", "(I)Z"⟩
theorem m_Un_hasName : MtV y_Un_hasName b_Un_hasName 3 (some .boolean) 1 := ⟨tb_in 548 (by decide +kernel) rfl, tb_in 7 (by decide +kernel) rfl, tb_in 78 (by decide +kernel) rfl, tb_in 549 (by decide +kernel) rfl, by decide, by decide, by decide +kernel⟩
abbrev b_Na_init : ByteArray := prog_4_method_1_code
def y_Na_init : MethodName := ⟨R_Na, "<init>", "(IIII)V"⟩
theorem m_Na_init : MtI y_Na_init b_Na_init 5 4 := ⟨tb_in 555 (by decide +kernel) rfl, tb_in 83 (by decide +kernel) rfl, tb_in 556 (by decide +kernel) rfl, by decide, by decide, by decide +kernel, rfl⟩
abbrev b_Un_addName : ByteArray := prog_10_method_7_code
def y_Un_addName : MethodName := ⟨R_Un, "addName", "(LObjectLinks$Name;)I"⟩
theorem m_Un_addName : MtV y_Un_addName b_Un_addName 2 (some .int) 1 := ⟨tb_in 581 (by decide +kernel) rfl, tb_in 582 (by decide +kernel) rfl, tb_in 78 (by decide +kernel) rfl, tb_in 583 (by decide +kernel) rfl, by decide, by decide, by decide +kernel⟩
abbrev b_La_reference : ByteArray := method_7_code
def y_La_reference : MethodName := ⟨R_La, "reference", "(LObjectLinks;IIIIII[J)I"⟩
theorem m_La_reference : MtW y_La_reference b_La_reference 9 (some .int) [(0, 18, 21, 19), (0, 18, 25, 21), (0, 18, 29, 13)] 8 := ⟨tb_in 585 (by decide +kernel) rfl, tb_in 67 (by decide +kernel) rfl, tb_in 586 (by decide +kernel) rfl, by decide, by decide, by decide +kernel⟩
abbrev b_OL_reference : ByteArray := prog_1_method_6_code
def y_OL_reference : MethodName := ⟨R_OL, "reference", "(IIIIII)I"⟩
theorem m_OL_reference : MtV y_OL_reference b_OL_reference 8 (some .int) 6 := ⟨tb_in 588 (by decide +kernel) rfl, tb_in 589 (by decide +kernel) rfl, tb_in 68 (by decide +kernel) rfl, tb_in 590 (by decide +kernel) rfl, by decide, by decide, by decide +kernel⟩
abbrev b_Un_canRefer : ByteArray := prog_10_method_8_code
def y_Un_canRefer : MethodName := ⟨R_Un, "canRefer", "(IIII)Z"⟩
theorem m_Un_canRefer : MtV y_Un_canRefer b_Un_canRefer 6 (some .boolean) 4 := ⟨tb_in 592 (by decide +kernel) rfl, tb_in 593 (by decide +kernel) rfl, tb_in 78 (by decide +kernel) rfl, tb_in 594 (by decide +kernel) rfl, by decide, by decide, by decide +kernel⟩
abbrev b_Rf_init : ByteArray := prog_8_method_1_code
def y_Rf_init : MethodName := ⟨R_Rf, "<init>", "(IIIII)V"⟩
theorem m_Rf_init : MtI y_Rf_init b_Rf_init 6 5 := ⟨tb_in 602 (by decide +kernel) rfl, tb_in 84 (by decide +kernel) rfl, tb_in 603 (by decide +kernel) rfl, by decide, by decide, by decide +kernel, rfl⟩
abbrev b_Un_addReference : ByteArray := prog_10_method_9_code
def y_Un_addReference : MethodName := ⟨R_Un, "addReference", "(LObjectLinks$Reference;)I"⟩
theorem m_Un_addReference : MtV y_Un_addReference b_Un_addReference 2 (some .int) 1 := ⟨tb_in 632 (by decide +kernel) rfl, tb_in 633 (by decide +kernel) rfl, tb_in 78 (by decide +kernel) rfl, tb_in 634 (by decide +kernel) rfl, by decide, by decide, by decide +kernel⟩
abbrev b_La_choose : ByteArray := method_8_code
def y_La_choose : MethodName := ⟨R_La, "choose", "(LObjectLinks;I[J)I"⟩
theorem m_La_choose : MtW y_La_choose b_La_choose 4 (some .int) [(0, 9, 12, 19), (0, 9, 15, 21)] 3 := ⟨tb_in 636 (by decide +kernel) rfl, tb_in 67 (by decide +kernel) rfl, tb_in 637 (by decide +kernel) rfl, by decide, by decide, by decide +kernel⟩
abbrev b_OL_choose : ByteArray := prog_1_method_7_code
def y_OL_choose : MethodName := ⟨R_OL, "choose", "(I)I"⟩
theorem m_OL_choose : MtV y_OL_choose b_OL_choose 3 (some .int) 1 := ⟨tb_in 639 (by decide +kernel) rfl, tb_in 640 (by decide +kernel) rfl, tb_in 68 (by decide +kernel) rfl, tb_in 641 (by decide +kernel) rfl, by decide, by decide, by decide +kernel⟩
abbrev b_Li_isChosen : ByteArray := prog_2_method_2_code
def y_Li_isChosen : MethodName := ⟨R_Li, "isChosen", "(I)Z"⟩
theorem m_Li_isChosen : MtV y_Li_isChosen b_Li_isChosen 3 (some .boolean) 1 := ⟨tb_in 643 (by decide +kernel) rfl, tb_in 644 (by decide +kernel) rfl, tb_in 69 (by decide +kernel) rfl, tb_in 645 (by decide +kernel) rfl, by decide, by decide, by decide +kernel⟩
abbrev b_Li_takeBehind : ByteArray := prog_2_method_3_code
def y_Li_takeBehind : MethodName := ⟨R_Li, "takeBehind", "(ILObjectLinks$Unit;)I"⟩
theorem m_Li_takeBehind : MtV y_Li_takeBehind b_Li_takeBehind 3 (some .int) 2 := ⟨tb_in 648 (by decide +kernel) rfl, tb_in 649 (by decide +kernel) rfl, tb_in 69 (by decide +kernel) rfl, tb_in 650 (by decide +kernel) rfl, by decide, by decide, by decide +kernel⟩
abbrev b_La_link : ByteArray := method_9_code
def y_La_link : MethodName := ⟨R_La, "link", "(LObjectLinks;II[J)I"⟩
theorem m_La_link : MtW y_La_link b_La_link 5 (some .int) [(0, 10, 13, 21), (0, 10, 17, 42), (0, 10, 21, 13)] 4 := ⟨tb_in 652 (by decide +kernel) rfl, tb_in 67 (by decide +kernel) rfl, tb_in 653 (by decide +kernel) rfl, by decide, by decide, by decide +kernel⟩
abbrev b_OL_link : ByteArray := prog_1_method_8_code
def y_OL_link : MethodName := ⟨R_OL, "link", "(II)I"⟩
theorem m_OL_link : MtV y_OL_link b_OL_link 3 (some .int) 2 := ⟨tb_in 656 (by decide +kernel) rfl, tb_in 657 (by decide +kernel) rfl, tb_in 68 (by decide +kernel) rfl, tb_in 658 (by decide +kernel) rfl, by decide, by decide, by decide +kernel⟩
abbrev b_Li_makeImage : ByteArray := prog_2_method_7_code
def y_Li_makeImage : MethodName := ⟨R_Li, "makeImage", "(II)Z"⟩
theorem m_Li_makeImage : MtV y_Li_makeImage b_Li_makeImage 3 (some .boolean) 2 := ⟨tb_in 678 (by decide +kernel) rfl, tb_in 679 (by decide +kernel) rfl, tb_in 69 (by decide +kernel) rfl, tb_in 680 (by decide +kernel) rfl, by decide, by decide, by decide +kernel⟩
abbrev b_Li_forget : ByteArray := prog_2_method_8_code
def y_Li_forget : MethodName := ⟨R_Li, "forget", "()V"⟩
theorem m_Li_forget : MtV y_Li_forget b_Li_forget 2 none 0 := ⟨tb_in 683 (by decide +kernel) rfl, tb_in 8 (by decide +kernel) rfl, tb_in 69 (by decide +kernel) rfl, tb_in 684 (by decide +kernel) rfl, by decide, by decide, by decide +kernel⟩
abbrev b_Li_dropImage : ByteArray := prog_2_method_9_code
def y_Li_dropImage : MethodName := ⟨R_Li, "dropImage", "()V"⟩
theorem m_Li_dropImage : MtV y_Li_dropImage b_Li_dropImage 1 none 0 := ⟨tb_in 687 (by decide +kernel) rfl, tb_in 9 (by decide +kernel) rfl, tb_in 69 (by decide +kernel) rfl, tb_in 688 (by decide +kernel) rfl, by decide, by decide, by decide +kernel⟩
abbrev b_Li_tell : ByteArray := prog_2_method_10_code
def y_Li_tell : MethodName := ⟨R_Li, "tell", "(III)Z"⟩
theorem m_Li_tell : MtV y_Li_tell b_Li_tell 4 (some .boolean) 3 := ⟨tb_in 691 (by decide +kernel) rfl, tb_in 10 (by decide +kernel) rfl, tb_in 69 (by decide +kernel) rfl, tb_in 692 (by decide +kernel) rfl, by decide, by decide, by decide +kernel⟩
abbrev b_NT_clear : ByteArray := prog_5_method_2_code
def y_NT_clear : MethodName := ⟨R_NT, "clear", "()V"⟩
theorem m_NT_clear : MtV y_NT_clear b_NT_clear 1 none 0 := ⟨tb_in 694 (by decide +kernel) rfl, tb_in 695 (by decide +kernel) rfl, tb_in 70 (by decide +kernel) rfl, tb_in 696 (by decide +kernel) rfl, by decide, by decide, by decide +kernel⟩
abbrev b_Li_gatherNames : ByteArray := prog_2_method_11_code
def y_Li_gatherNames : MethodName := ⟨R_Li, "gatherNames", "()Z"⟩
theorem m_Li_gatherNames : MtV y_Li_gatherNames b_Li_gatherNames 4 (some .boolean) 0 := ⟨tb_in 699 (by decide +kernel) rfl, tb_in 11 (by decide +kernel) rfl, tb_in 69 (by decide +kernel) rfl, tb_in 700 (by decide +kernel) rfl, by decide, by decide, by decide +kernel⟩
abbrev b_NT_enter : ByteArray := prog_5_method_6_code
def y_NT_enter : MethodName := ⟨R_NT, "enter", "(IILObjectLinks$Name;)Z"⟩
theorem m_NT_enter : MtV y_NT_enter b_NT_enter 5 (some .boolean) 3 := ⟨tb_in 702 (by decide +kernel) rfl, tb_in 703 (by decide +kernel) rfl, tb_in 70 (by decide +kernel) rfl, tb_in 704 (by decide +kernel) rfl, by decide, by decide, by decide +kernel⟩
abbrev b_NT_findOrBegin : ByteArray := prog_5_method_4_code
def y_NT_findOrBegin : MethodName := ⟨R_NT, "findOrBegin", "(I)LObjectLinks$Meaning;"⟩
theorem m_NT_findOrBegin : MtV y_NT_findOrBegin b_NT_findOrBegin 4 (some (.object "ObjectLinks$Meaning")) 1 := ⟨tb_in 707 (by decide +kernel) rfl, tb_in 12 (by decide +kernel) rfl, tb_in 70 (by decide +kernel) rfl, tb_in 708 (by decide +kernel) rfl, by decide, by decide, by decide +kernel⟩
abbrev b_Me_begin : ByteArray := prog_3_method_2_code
def y_Me_begin : MethodName := ⟨R_Me, "begin", "(I)V"⟩
theorem m_Me_begin : MtV y_Me_begin b_Me_begin 2 none 1 := ⟨tb_in 711 (by decide +kernel) rfl, tb_in 712 (by decide +kernel) rfl, tb_in 71 (by decide +kernel) rfl, tb_in 713 (by decide +kernel) rfl, by decide, by decide, by decide +kernel⟩
abbrev b_OL_slotOf : ByteArray := prog_1_method_22_code
def y_OL_slotOf : MethodName := ⟨R_OL, "slotOf", "(II)I"⟩
theorem m_OL_slotOf : MtS y_OL_slotOf b_OL_slotOf 2 (some .int) 2 := ⟨tb_in 715 (by decide +kernel) rfl, tb_in 68 (by decide +kernel) rfl, tb_in 716 (by decide +kernel) rfl, by decide, by decide, by decide +kernel⟩
abbrev b_Me_define : ByteArray := prog_3_method_3_code
def y_Me_define : MethodName := ⟨R_Me, "define", "(III)V"⟩
theorem m_Me_define : MtV y_Me_define b_Me_define 4 none 3 := ⟨tb_in 718 (by decide +kernel) rfl, tb_in 719 (by decide +kernel) rfl, tb_in 71 (by decide +kernel) rfl, tb_in 720 (by decide +kernel) rfl, by decide, by decide, by decide +kernel⟩
abbrev b_NT_enterCommon : ByteArray := prog_5_method_7_code
def y_NT_enterCommon : MethodName := ⟨R_NT, "enterCommon", "(LObjectLinks$Meaning;LObjectLinks$Name;)V"⟩
theorem m_NT_enterCommon : MtV y_NT_enterCommon b_NT_enterCommon 3 none 2 := ⟨tb_in 723 (by decide +kernel) rfl, tb_in 13 (by decide +kernel) rfl, tb_in 70 (by decide +kernel) rfl, tb_in 724 (by decide +kernel) rfl, by decide, by decide, by decide +kernel⟩
abbrev b_Me_widen : ByteArray := prog_3_method_4_code
def y_Me_widen : MethodName := ⟨R_Me, "widen", "(II)V"⟩
theorem m_Me_widen : MtV y_Me_widen b_Me_widen 3 none 2 := ⟨tb_in 726 (by decide +kernel) rfl, tb_in 727 (by decide +kernel) rfl, tb_in 71 (by decide +kernel) rfl, tb_in 728 (by decide +kernel) rfl, by decide, by decide, by decide +kernel⟩
abbrev b_Li_reachFrom : ByteArray := prog_2_method_12_code
def y_Li_reachFrom : MethodName := ⟨R_Li, "reachFrom", "(I)Z"⟩
theorem m_Li_reachFrom : MtV y_Li_reachFrom b_Li_reachFrom 4 (some .boolean) 1 := ⟨tb_in 734 (by decide +kernel) rfl, tb_in 14 (by decide +kernel) rfl, tb_in 69 (by decide +kernel) rfl, tb_in 735 (by decide +kernel) rfl, by decide, by decide, by decide +kernel⟩
abbrev b_Li_reach : ByteArray := prog_2_method_14_code
def y_Li_reach : MethodName := ⟨R_Li, "reach", "(LObjectLinks$Meaning;)V"⟩
theorem m_Li_reach : MtV y_Li_reach b_Li_reach 2 none 1 := ⟨tb_in 738 (by decide +kernel) rfl, tb_in 15 (by decide +kernel) rfl, tb_in 69 (by decide +kernel) rfl, tb_in 739 (by decide +kernel) rfl, by decide, by decide, by decide +kernel⟩
abbrev b_Li_reachFromSection : ByteArray := prog_2_method_13_code
def y_Li_reachFromSection : MethodName := ⟨R_Li, "reachFromSection", "(II)V"⟩
theorem m_Li_reachFromSection : MtV y_Li_reachFromSection b_Li_reachFromSection 5 none 2 := ⟨tb_in 742 (by decide +kernel) rfl, tb_in 16 (by decide +kernel) rfl, tb_in 69 (by decide +kernel) rfl, tb_in 743 (by decide +kernel) rfl, by decide, by decide, by decide +kernel⟩
abbrev b_NT_meaningOf : ByteArray := prog_5_method_5_code
def y_NT_meaningOf : MethodName := ⟨R_NT, "meaningOf", "(II)LObjectLinks$Meaning;"⟩
theorem m_NT_meaningOf : MtV y_NT_meaningOf b_NT_meaningOf 3 (some (.object "ObjectLinks$Meaning")) 2 := ⟨tb_in 745 (by decide +kernel) rfl, tb_in 746 (by decide +kernel) rfl, tb_in 70 (by decide +kernel) rfl, tb_in 747 (by decide +kernel) rfl, by decide, by decide, by decide +kernel⟩
abbrev b_Li_nothingIsMissing : ByteArray := prog_2_method_15_code
def y_Li_nothingIsMissing : MethodName := ⟨R_Li, "nothingIsMissing", "()Z"⟩
theorem m_Li_nothingIsMissing : MtV y_Li_nothingIsMissing b_Li_nothingIsMissing 5 (some .boolean) 0 := ⟨tb_in 750 (by decide +kernel) rfl, tb_in 17 (by decide +kernel) rfl, tb_in 69 (by decide +kernel) rfl, tb_in 751 (by decide +kernel) rfl, by decide, by decide, by decide +kernel⟩
abbrev b_Li_layOut : ByteArray := prog_2_method_16_code
def y_Li_layOut : MethodName := ⟨R_Li, "layOut", "()Z"⟩
theorem m_Li_layOut : MtV y_Li_layOut b_Li_layOut 3 (some .boolean) 0 := ⟨tb_in 755 (by decide +kernel) rfl, tb_in 18 (by decide +kernel) rfl, tb_in 69 (by decide +kernel) rfl, tb_in 756 (by decide +kernel) rfl, by decide, by decide, by decide +kernel⟩
abbrev b_Li_layOutKind : ByteArray := prog_2_method_17_code
def y_Li_layOutKind : MethodName := ⟨R_Li, "layOutKind", "(II)V"⟩
theorem m_Li_layOutKind : MtV y_Li_layOutKind b_Li_layOutKind 6 none 2 := ⟨tb_in 759 (by decide +kernel) rfl, tb_in 19 (by decide +kernel) rfl, tb_in 69 (by decide +kernel) rfl, tb_in 760 (by decide +kernel) rfl, by decide, by decide, by decide +kernel⟩
abbrev b_Li_nextPlace : ByteArray := prog_2_method_19_code
def y_Li_nextPlace : MethodName := ⟨R_Li, "nextPlace", "(II)I"⟩
theorem m_Li_nextPlace : MtV y_Li_nextPlace b_Li_nextPlace 6 (some .int) 2 := ⟨tb_in 763 (by decide +kernel) rfl, tb_in 20 (by decide +kernel) rfl, tb_in 69 (by decide +kernel) rfl, tb_in 764 (by decide +kernel) rfl, by decide, by decide, by decide +kernel⟩
abbrev b_Li_layOutCommons : ByteArray := prog_2_method_18_code
def y_Li_layOutCommons : MethodName := ⟨R_Li, "layOutCommons", "()V"⟩
theorem m_Li_layOutCommons : MtV y_Li_layOutCommons b_Li_layOutCommons 3 none 0 := ⟨tb_in 767 (by decide +kernel) rfl, tb_in 21 (by decide +kernel) rfl, tb_in 69 (by decide +kernel) rfl, tb_in 768 (by decide +kernel) rfl, by decide, by decide, by decide +kernel⟩
abbrev b_Li_copyBytes : ByteArray := prog_2_method_20_code
def y_Li_copyBytes : MethodName := ⟨R_Li, "copyBytes", "()V"⟩
theorem m_Li_copyBytes : MtV y_Li_copyBytes b_Li_copyBytes 4 none 0 := ⟨tb_in 771 (by decide +kernel) rfl, tb_in 22 (by decide +kernel) rfl, tb_in 69 (by decide +kernel) rfl, tb_in 772 (by decide +kernel) rfl, by decide, by decide, by decide +kernel⟩
abbrev b_Li_workIn : ByteArray := prog_2_method_21_code
def y_Li_workIn : MethodName := ⟨R_Li, "workIn", "()Z"⟩
theorem m_Li_workIn : MtV y_Li_workIn b_Li_workIn 5 (some .boolean) 0 := ⟨tb_in 778 (by decide +kernel) rfl, tb_in 23 (by decide +kernel) rfl, tb_in 69 (by decide +kernel) rfl, tb_in 779 (by decide +kernel) rfl, by decide, by decide, by decide +kernel⟩
abbrev b_Li_workInOne : ByteArray := prog_2_method_22_code
def y_Li_workInOne : MethodName := ⟨R_Li, "workInOne", "(ILObjectLinks$Reference;)I"⟩
theorem m_Li_workInOne : MtV y_Li_workInOne b_Li_workInOne 11 (some .int) 2 := ⟨tb_in 782 (by decide +kernel) rfl, tb_in 24 (by decide +kernel) rfl, tb_in 69 (by decide +kernel) rfl, tb_in 783 (by decide +kernel) rfl, by decide, by decide, by decide +kernel⟩
abbrev b_Li_faultOfWay : ByteArray := prog_2_method_23_code
def y_Li_faultOfWay : MethodName := ⟨R_Li, "faultOfWay", "(IJJ)I"⟩
theorem m_Li_faultOfWay : MtS y_Li_faultOfWay b_Li_faultOfWay 5 (some .int) 3 := ⟨tb_in 786 (by decide +kernel) rfl, tb_in 69 (by decide +kernel) rfl, tb_in 787 (by decide +kernel) rfl, by decide, by decide, by decide +kernel⟩
abbrev b_Li_valueOfWay : ByteArray := prog_2_method_24_code
def y_Li_valueOfWay : MethodName := ⟨R_Li, "valueOfWay", "(IJJ)J"⟩
theorem m_Li_valueOfWay : MtS y_Li_valueOfWay b_Li_valueOfWay 5 (some .long) 3 := ⟨tb_in 795 (by decide +kernel) rfl, tb_in 69 (by decide +kernel) rfl, tb_in 796 (by decide +kernel) rfl, by decide, by decide, by decide +kernel⟩
abbrev b_Li_putInto : ByteArray := prog_2_method_25_code
def y_Li_putInto : MethodName := ⟨R_Li, "putInto", "(IIJ)V"⟩
theorem m_Li_putInto : MtV y_Li_putInto b_Li_putInto 6 none 3 := ⟨tb_in 800 (by decide +kernel) rfl, tb_in 25 (by decide +kernel) rfl, tb_in 69 (by decide +kernel) rfl, tb_in 801 (by decide +kernel) rfl, by decide, by decide, by decide +kernel⟩
abbrev b_La_fault : ByteArray := method_10_code
def y_La_fault : MethodName := ⟨R_La, "fault", "(LObjectLinks;I[J)I"⟩
theorem m_La_fault : MtW y_La_fault b_La_fault 4 (some .int) [(0, 9, 12, 19)] 3 := ⟨tb_in 804 (by decide +kernel) rfl, tb_in 67 (by decide +kernel) rfl, tb_in 805 (by decide +kernel) rfl, by decide, by decide, by decide +kernel⟩
abbrev b_OL_fault : ByteArray := prog_1_method_9_code
def y_OL_fault : MethodName := ⟨R_OL, "fault", "(I)I"⟩
theorem m_OL_fault : MtV y_OL_fault b_OL_fault 2 (some .int) 1 := ⟨tb_in 807 (by decide +kernel) rfl, tb_in 808 (by decide +kernel) rfl, tb_in 68 (by decide +kernel) rfl, tb_in 809 (by decide +kernel) rfl, by decide, by decide, by decide +kernel⟩
abbrev b_La_image : ByteArray := method_11_code
def y_La_image : MethodName := ⟨R_La, "image", "(LObjectLinks;I[J)I"⟩
theorem m_La_image : MtW y_La_image b_La_image 4 (some .int) [(0, 9, 12, 19)] 3 := ⟨tb_in 812 (by decide +kernel) rfl, tb_in 67 (by decide +kernel) rfl, tb_in 813 (by decide +kernel) rfl, by decide, by decide, by decide +kernel⟩
abbrev b_OL_image : ByteArray := prog_1_method_10_code
def y_OL_image : MethodName := ⟨R_OL, "image", "(I)I"⟩
theorem m_OL_image : MtV y_OL_image b_OL_image 2 (some .int) 1 := ⟨tb_in 815 (by decide +kernel) rfl, tb_in 816 (by decide +kernel) rfl, tb_in 68 (by decide +kernel) rfl, tb_in 817 (by decide +kernel) rfl, by decide, by decide, by decide +kernel⟩
abbrev b_La_placeOf : ByteArray := method_12_code
def y_La_placeOf : MethodName := ⟨R_La, "placeOf", "(LObjectLinks;II[J)I"⟩
theorem m_La_placeOf : MtW y_La_placeOf b_La_placeOf 5 (some .int) [(0, 10, 13, 19), (0, 10, 17, 21)] 4 := ⟨tb_in 820 (by decide +kernel) rfl, tb_in 67 (by decide +kernel) rfl, tb_in 821 (by decide +kernel) rfl, by decide, by decide, by decide +kernel⟩
abbrev b_OL_placeOf : ByteArray := prog_1_method_11_code
def y_OL_placeOf : MethodName := ⟨R_OL, "placeOf", "(II)I"⟩
theorem m_OL_placeOf : MtV y_OL_placeOf b_OL_placeOf 3 (some .int) 2 := ⟨tb_in 823 (by decide +kernel) rfl, tb_in 824 (by decide +kernel) rfl, tb_in 68 (by decide +kernel) rfl, tb_in 825 (by decide +kernel) rfl, by decide, by decide, by decide +kernel⟩
abbrev b_Li_placeInImage : ByteArray := prog_2_method_4_code
def y_Li_placeInImage : MethodName := ⟨R_Li, "placeInImage", "(I)I"⟩
theorem m_Li_placeInImage : MtV y_Li_placeInImage b_Li_placeInImage 2 (some .int) 1 := ⟨tb_in 829 (by decide +kernel) rfl, tb_in 830 (by decide +kernel) rfl, tb_in 69 (by decide +kernel) rfl, tb_in 831 (by decide +kernel) rfl, by decide, by decide, by decide +kernel⟩
abbrev b_La_write : ByteArray := method_13_code
def y_La_write : MethodName := ⟨R_La, "write", "(LObjectLinks;I[J)I"⟩
theorem m_La_write : MtW y_La_write b_La_write 4 (some .int) [(0, 9, 12, 19)] 3 := ⟨tb_in 833 (by decide +kernel) rfl, tb_in 67 (by decide +kernel) rfl, tb_in 834 (by decide +kernel) rfl, by decide, by decide, by decide +kernel⟩
abbrev b_OL_write : ByteArray := prog_1_method_13_code
def y_OL_write : MethodName := ⟨R_OL, "write", "(I)I"⟩
theorem m_OL_write : MtV y_OL_write b_OL_write 2 (some .int) 1 := ⟨tb_in 836 (by decide +kernel) rfl, tb_in 837 (by decide +kernel) rfl, tb_in 68 (by decide +kernel) rfl, tb_in 838 (by decide +kernel) rfl, by decide, by decide, by decide +kernel⟩
abbrev b_Oc_store : ByteArray := prog_6_method_2_code
def y_Oc_store : MethodName := ⟨R_Oc, "store", "(LObjectLinks$Unit;)V"⟩
theorem m_Oc_store : MtV y_Oc_store b_Oc_store 3 none 1 := ⟨tb_in 840 (by decide +kernel) rfl, tb_in 841 (by decide +kernel) rfl, tb_in 72 (by decide +kernel) rfl, tb_in 842 (by decide +kernel) rfl, by decide, by decide, by decide +kernel⟩
abbrev b_Oc_put : ByteArray := prog_6_method_6_code
def y_Oc_put : MethodName := ⟨R_Oc, "put", "(II)V"⟩
theorem m_Oc_put : MtV y_Oc_put b_Oc_put 4 none 2 := ⟨tb_in 845 (by decide +kernel) rfl, tb_in 26 (by decide +kernel) rfl, tb_in 72 (by decide +kernel) rfl, tb_in 846 (by decide +kernel) rfl, by decide, by decide, by decide +kernel⟩
abbrev b_Oc_putSection : ByteArray := prog_6_method_3_code
def y_Oc_putSection : MethodName := ⟨R_Oc, "putSection", "(LObjectLinks$Section;)V"⟩
theorem m_Oc_putSection : MtV y_Oc_putSection b_Oc_putSection 3 none 1 := ⟨tb_in 849 (by decide +kernel) rfl, tb_in 27 (by decide +kernel) rfl, tb_in 72 (by decide +kernel) rfl, tb_in 850 (by decide +kernel) rfl, by decide, by decide, by decide +kernel⟩
abbrev b_Oc_putName : ByteArray := prog_6_method_4_code
def y_Oc_putName : MethodName := ⟨R_Oc, "putName", "(LObjectLinks$Name;)V"⟩
theorem m_Oc_putName : MtV y_Oc_putName b_Oc_putName 2 none 1 := ⟨tb_in 853 (by decide +kernel) rfl, tb_in 28 (by decide +kernel) rfl, tb_in 72 (by decide +kernel) rfl, tb_in 854 (by decide +kernel) rfl, by decide, by decide, by decide +kernel⟩
abbrev b_Oc_putReference : ByteArray := prog_6_method_5_code
def y_Oc_putReference : MethodName := ⟨R_Oc, "putReference", "(LObjectLinks$Reference;)V"⟩
theorem m_Oc_putReference : MtV y_Oc_putReference b_Oc_putReference 2 none 1 := ⟨tb_in 857 (by decide +kernel) rfl, tb_in 29 (by decide +kernel) rfl, tb_in 72 (by decide +kernel) rfl, tb_in 858 (by decide +kernel) rfl, by decide, by decide, by decide +kernel⟩
abbrev b_Oc_sumOf : ByteArray := prog_6_method_7_code
def y_Oc_sumOf : MethodName := ⟨R_Oc, "sumOf", "([II)I"⟩
theorem m_Oc_sumOf : MtS y_Oc_sumOf b_Oc_sumOf 4 (some .int) 2 := ⟨tb_in 860 (by decide +kernel) rfl, tb_in 72 (by decide +kernel) rfl, tb_in 861 (by decide +kernel) rfl, by decide, by decide, by decide +kernel⟩
abbrev b_La_written : ByteArray := method_14_code
def y_La_written : MethodName := ⟨R_La, "written", "(LObjectLinks;I[J)I"⟩
theorem m_La_written : MtW y_La_written b_La_written 4 (some .int) [(0, 9, 12, 19)] 3 := ⟨tb_in 864 (by decide +kernel) rfl, tb_in 67 (by decide +kernel) rfl, tb_in 865 (by decide +kernel) rfl, by decide, by decide, by decide +kernel⟩
abbrev b_OL_written : ByteArray := prog_1_method_14_code
def y_OL_written : MethodName := ⟨R_OL, "written", "(I)I"⟩
theorem m_OL_written : MtV y_OL_written b_OL_written 2 (some .int) 1 := ⟨tb_in 867 (by decide +kernel) rfl, tb_in 868 (by decide +kernel) rfl, tb_in 68 (by decide +kernel) rfl, tb_in 869 (by decide +kernel) rfl, by decide, by decide, by decide +kernel⟩
abbrev b_La_alter : ByteArray := method_15_code
def y_La_alter : MethodName := ⟨R_La, "alter", "(LObjectLinks;II[J)I"⟩
theorem m_La_alter : MtW y_La_alter b_La_alter 5 (some .int) [(0, 10, 13, 19), (0, 10, 17, 21)] 4 := ⟨tb_in 872 (by decide +kernel) rfl, tb_in 67 (by decide +kernel) rfl, tb_in 873 (by decide +kernel) rfl, by decide, by decide, by decide +kernel⟩
abbrev b_OL_alter : ByteArray := prog_1_method_15_code
def y_OL_alter : MethodName := ⟨R_OL, "alter", "(II)I"⟩
theorem m_OL_alter : MtV y_OL_alter b_OL_alter 4 (some .int) 2 := ⟨tb_in 875 (by decide +kernel) rfl, tb_in 876 (by decide +kernel) rfl, tb_in 68 (by decide +kernel) rfl, tb_in 877 (by decide +kernel) rfl, by decide, by decide, by decide +kernel⟩
abbrev b_La_read : ByteArray := method_16_code
def y_La_read : MethodName := ⟨R_La, "read", "(LObjectLinks;I[J)I"⟩
theorem m_La_read : MtW y_La_read b_La_read 4 (some .int) [(0, 9, 12, 21), (0, 9, 15, 13)] 3 := ⟨tb_in 880 (by decide +kernel) rfl, tb_in 67 (by decide +kernel) rfl, tb_in 881 (by decide +kernel) rfl, by decide, by decide, by decide +kernel⟩
abbrev b_OL_read : ByteArray := prog_1_method_16_code
def y_OL_read : MethodName := ⟨R_OL, "read", "(I)I"⟩
theorem m_OL_read : MtV y_OL_read b_OL_read 3 (some .int) 1 := ⟨tb_in 883 (by decide +kernel) rfl, tb_in 884 (by decide +kernel) rfl, tb_in 68 (by decide +kernel) rfl, tb_in 885 (by decide +kernel) rfl, by decide, by decide, by decide +kernel⟩
abbrev b_Re_init : ByteArray := prog_7_method_1_code
def y_Re_init : MethodName := ⟨R_Re, "<init>", "([II)V"⟩
theorem m_Re_init : MtI y_Re_init b_Re_init 3 2 := ⟨tb_in 890 (by decide +kernel) rfl, tb_in 87 (by decide +kernel) rfl, tb_in 891 (by decide +kernel) rfl, by decide, by decide, by decide +kernel, rfl⟩
abbrev b_Re_unitOrNull : ByteArray := prog_7_method_2_code
def y_Re_unitOrNull : MethodName := ⟨R_Re, "unitOrNull", "()LObjectLinks$Unit;"⟩
theorem m_Re_unitOrNull : MtV y_Re_unitOrNull b_Re_unitOrNull 6 (some (.object "ObjectLinks$Unit")) 0 := ⟨tb_in 907 (by decide +kernel) rfl, tb_in 908 (by decide +kernel) rfl, tb_in 87 (by decide +kernel) rfl, tb_in 909 (by decide +kernel) rfl, by decide, by decide, by decide +kernel⟩
abbrev b_Re_take : ByteArray := prog_7_method_7_code
def y_Re_take : MethodName := ⟨R_Re, "take", "(I)I"⟩
theorem m_Re_take : MtV y_Re_take b_Re_take 4 (some .int) 1 := ⟨tb_in 912 (by decide +kernel) rfl, tb_in 30 (by decide +kernel) rfl, tb_in 87 (by decide +kernel) rfl, tb_in 913 (by decide +kernel) rfl, by decide, by decide, by decide +kernel⟩
abbrev b_Re_sumIsRight : ByteArray := prog_7_method_3_code
def y_Re_sumIsRight : MethodName := ⟨R_Re, "sumIsRight", "()Z"⟩
theorem m_Re_sumIsRight : MtV y_Re_sumIsRight b_Re_sumIsRight 2 (some .boolean) 0 := ⟨tb_in 916 (by decide +kernel) rfl, tb_in 31 (by decide +kernel) rfl, tb_in 87 (by decide +kernel) rfl, tb_in 917 (by decide +kernel) rfl, by decide, by decide, by decide +kernel⟩
abbrev b_Re_takeSections : ByteArray := prog_7_method_4_code
def y_Re_takeSections : MethodName := ⟨R_Re, "takeSections", "(LObjectLinks$Unit;I)Z"⟩
theorem m_Re_takeSections : MtV y_Re_takeSections b_Re_takeSections 9 (some .boolean) 2 := ⟨tb_in 923 (by decide +kernel) rfl, tb_in 32 (by decide +kernel) rfl, tb_in 87 (by decide +kernel) rfl, tb_in 924 (by decide +kernel) rfl, by decide, by decide, by decide +kernel⟩
abbrev b_Re_takeNames : ByteArray := prog_7_method_5_code
def y_Re_takeNames : MethodName := ⟨R_Re, "takeNames", "(LObjectLinks$Unit;I)Z"⟩
theorem m_Re_takeNames : MtV y_Re_takeNames b_Re_takeNames 8 (some .boolean) 2 := ⟨tb_in 931 (by decide +kernel) rfl, tb_in 33 (by decide +kernel) rfl, tb_in 87 (by decide +kernel) rfl, tb_in 932 (by decide +kernel) rfl, by decide, by decide, by decide +kernel⟩
abbrev b_Re_takeReferences : ByteArray := prog_7_method_6_code
def y_Re_takeReferences : MethodName := ⟨R_Re, "takeReferences", "(LObjectLinks$Unit;I)Z"⟩
theorem m_Re_takeReferences : MtV y_Re_takeReferences b_Re_takeReferences 9 (some .boolean) 2 := ⟨tb_in 939 (by decide +kernel) rfl, tb_in 34 (by decide +kernel) rfl, tb_in 87 (by decide +kernel) rfl, tb_in 940 (by decide +kernel) rfl, by decide, by decide, by decide +kernel⟩
abbrev b_Mo_init : ByteArray := prog_12_method_1_code
def y_Mo_init : MethodName := ⟨R_Mo, "<init>", "()V"⟩
theorem m_Mo_init : MtI y_Mo_init b_Mo_init 2 0 := ⟨tb_in 949 (by decide +kernel) rfl, tb_in 73 (by decide +kernel) rfl, tb_in 950 (by decide +kernel) rfl, by decide, by decide, by decide +kernel, rfl⟩
abbrev b_Mo_thrown : ByteArray := prog_12_method_2_code
def y_Mo_thrown : MethodName := ⟨R_Mo, "thrown", "()I"⟩
theorem m_Mo_thrown : MtV y_Mo_thrown b_Mo_thrown 1 (some .int) 0 := ⟨tb_in 1080 (by decide +kernel) rfl, tb_in 1081 (by decide +kernel) rfl, tb_in 73 (by decide +kernel) rfl, tb_in 1082 (by decide +kernel) rfl, by decide, by decide, by decide +kernel⟩
abbrev b_Mo_object : ByteArray := prog_12_method_7_code
def y_Mo_object : MethodName := ⟨R_Mo, "object", "()I"⟩
theorem m_Mo_object : MtV y_Mo_object b_Mo_object 1 (some .int) 0 := ⟨tb_in 1084 (by decide +kernel) rfl, tb_in 1085 (by decide +kernel) rfl, tb_in 73 (by decide +kernel) rfl, tb_in 1086 (by decide +kernel) rfl, by decide, by decide, by decide +kernel⟩
abbrev b_Mo_fail : ByteArray := prog_12_method_3_code
def y_Mo_fail : MethodName := ⟨R_Mo, "fail", "(I)I"⟩
theorem m_Mo_fail : MtV y_Mo_fail b_Mo_fail 2 (some .int) 1 := ⟨tb_in 1089 (by decide +kernel) rfl, tb_in 35 (by decide +kernel) rfl, tb_in 73 (by decide +kernel) rfl, tb_in 1090 (by decide +kernel) rfl, by decide, by decide, by decide +kernel⟩
abbrev b_Mo_emptyObject : ByteArray := prog_12_method_6_code
def y_Mo_emptyObject : MethodName := ⟨R_Mo, "emptyObject", "(I)V"⟩
theorem m_Mo_emptyObject : MtV y_Mo_emptyObject b_Mo_emptyObject 2 none 1 := ⟨tb_in 1093 (by decide +kernel) rfl, tb_in 36 (by decide +kernel) rfl, tb_in 73 (by decide +kernel) rfl, tb_in 1094 (by decide +kernel) rfl, by decide, by decide, by decide +kernel⟩
abbrev b_Mo_section : ByteArray := prog_12_method_10_code
def y_Mo_section : MethodName := ⟨R_Mo, "section", "(IIII)I"⟩
theorem m_Mo_section : MtV y_Mo_section b_Mo_section 5 (some .int) 4 := ⟨tb_in 1096 (by decide +kernel) rfl, tb_in 1097 (by decide +kernel) rfl, tb_in 73 (by decide +kernel) rfl, tb_in 1098 (by decide +kernel) rfl, by decide, by decide, by decide +kernel⟩
abbrev b_Mo_isObject : ByteArray := prog_12_method_5_code
def y_Mo_isObject : MethodName := ⟨R_Mo, "isObject", "(I)Z"⟩
theorem m_Mo_isObject : MtV y_Mo_isObject b_Mo_isObject 2 (some .boolean) 1 := ⟨tb_in 1101 (by decide +kernel) rfl, tb_in 37 (by decide +kernel) rfl, tb_in 73 (by decide +kernel) rfl, tb_in 1102 (by decide +kernel) rfl, by decide, by decide, by decide +kernel⟩
abbrev b_Mo_within : ByteArray := prog_12_method_4_code
def y_Mo_within : MethodName := ⟨R_Mo, "within", "(III)Z"⟩
theorem m_Mo_within : MtS y_Mo_within b_Mo_within 3 (some .boolean) 3 := ⟨tb_in 1104 (by decide +kernel) rfl, tb_in 73 (by decide +kernel) rfl, tb_in 1105 (by decide +kernel) rfl, by decide, by decide, by decide +kernel⟩
abbrev b_Mo_isSection : ByteArray := prog_12_method_8_code
def y_Mo_isSection : MethodName := ⟨R_Mo, "isSection", "(III)Z"⟩
theorem m_Mo_isSection : MtS y_Mo_isSection b_Mo_isSection 3 (some .boolean) 3 := ⟨tb_in 1107 (by decide +kernel) rfl, tb_in 73 (by decide +kernel) rfl, tb_in 1108 (by decide +kernel) rfl, by decide, by decide, by decide +kernel⟩
abbrev b_Mo_addSection : ByteArray := prog_12_method_9_code
def y_Mo_addSection : MethodName := ⟨R_Mo, "addSection", "(IIII)V"⟩
theorem m_Mo_addSection : MtV y_Mo_addSection b_Mo_addSection 7 none 4 := ⟨tb_in 1111 (by decide +kernel) rfl, tb_in 38 (by decide +kernel) rfl, tb_in 73 (by decide +kernel) rfl, tb_in 1112 (by decide +kernel) rfl, by decide, by decide, by decide +kernel⟩
abbrev b_Mo_bytes : ByteArray := prog_12_method_12_code
def y_Mo_bytes : MethodName := ⟨R_Mo, "bytes", "(IIII)I"⟩
theorem m_Mo_bytes : MtV y_Mo_bytes b_Mo_bytes 8 (some .int) 4 := ⟨tb_in 1114 (by decide +kernel) rfl, tb_in 1115 (by decide +kernel) rfl, tb_in 73 (by decide +kernel) rfl, tb_in 1116 (by decide +kernel) rfl, by decide, by decide, by decide +kernel⟩
abbrev b_Mo_hasSection : ByteArray := prog_12_method_11_code
def y_Mo_hasSection : MethodName := ⟨R_Mo, "hasSection", "(II)Z"⟩
theorem m_Mo_hasSection : MtV y_Mo_hasSection b_Mo_hasSection 3 (some .boolean) 2 := ⟨tb_in 1119 (by decide +kernel) rfl, tb_in 39 (by decide +kernel) rfl, tb_in 73 (by decide +kernel) rfl, tb_in 1120 (by decide +kernel) rfl, by decide, by decide, by decide +kernel⟩
abbrev b_Mo_name : ByteArray := prog_12_method_16_code
def y_Mo_name : MethodName := ⟨R_Mo, "name", "(IIIII)I"⟩
theorem m_Mo_name : MtV y_Mo_name b_Mo_name 6 (some .int) 5 := ⟨tb_in 1122 (by decide +kernel) rfl, tb_in 1123 (by decide +kernel) rfl, tb_in 73 (by decide +kernel) rfl, tb_in 1124 (by decide +kernel) rfl, by decide, by decide, by decide +kernel⟩
abbrev b_Mo_isName : ByteArray := prog_12_method_14_code
def y_Mo_isName : MethodName := ⟨R_Mo, "isName", "(IIIII)Z"⟩
theorem m_Mo_isName : MtV y_Mo_isName b_Mo_isName 6 (some .boolean) 5 := ⟨tb_in 1127 (by decide +kernel) rfl, tb_in 40 (by decide +kernel) rfl, tb_in 73 (by decide +kernel) rfl, tb_in 1128 (by decide +kernel) rfl, by decide, by decide, by decide +kernel⟩
abbrev b_Mo_hasName : ByteArray := prog_12_method_13_code
def y_Mo_hasName : MethodName := ⟨R_Mo, "hasName", "(II)Z"⟩
theorem m_Mo_hasName : MtV y_Mo_hasName b_Mo_hasName 5 (some .boolean) 2 := ⟨tb_in 1131 (by decide +kernel) rfl, tb_in 41 (by decide +kernel) rfl, tb_in 73 (by decide +kernel) rfl, tb_in 1132 (by decide +kernel) rfl, by decide, by decide, by decide +kernel⟩
abbrev b_Mo_addName : ByteArray := prog_12_method_15_code
def y_Mo_addName : MethodName := ⟨R_Mo, "addName", "(IIIII)V"⟩
theorem m_Mo_addName : MtV y_Mo_addName b_Mo_addName 7 none 5 := ⟨tb_in 1135 (by decide +kernel) rfl, tb_in 42 (by decide +kernel) rfl, tb_in 73 (by decide +kernel) rfl, tb_in 1136 (by decide +kernel) rfl, by decide, by decide, by decide +kernel⟩
abbrev b_Mo_reference : ByteArray := prog_12_method_19_code
def y_Mo_reference : MethodName := ⟨R_Mo, "reference", "(IIIIII)I"⟩
theorem m_Mo_reference : MtV y_Mo_reference b_Mo_reference 7 (some .int) 6 := ⟨tb_in 1138 (by decide +kernel) rfl, tb_in 1139 (by decide +kernel) rfl, tb_in 73 (by decide +kernel) rfl, tb_in 1140 (by decide +kernel) rfl, by decide, by decide, by decide +kernel⟩
abbrev b_Mo_isReference : ByteArray := prog_12_method_17_code
def y_Mo_isReference : MethodName := ⟨R_Mo, "isReference", "(IIIII)Z"⟩
theorem m_Mo_isReference : MtV y_Mo_isReference b_Mo_isReference 6 (some .boolean) 5 := ⟨tb_in 1143 (by decide +kernel) rfl, tb_in 43 (by decide +kernel) rfl, tb_in 73 (by decide +kernel) rfl, tb_in 1144 (by decide +kernel) rfl, by decide, by decide, by decide +kernel⟩
abbrev b_Mo_addReference : ByteArray := prog_12_method_18_code
def y_Mo_addReference : MethodName := ⟨R_Mo, "addReference", "(IIIIII)V"⟩
theorem m_Mo_addReference : MtV y_Mo_addReference b_Mo_addReference 8 none 6 := ⟨tb_in 1147 (by decide +kernel) rfl, tb_in 44 (by decide +kernel) rfl, tb_in 73 (by decide +kernel) rfl, tb_in 1148 (by decide +kernel) rfl, by decide, by decide, by decide +kernel⟩
abbrev b_Mo_choose : ByteArray := prog_12_method_20_code
def y_Mo_choose : MethodName := ⟨R_Mo, "choose", "(I)I"⟩
theorem m_Mo_choose : MtV y_Mo_choose b_Mo_choose 3 (some .int) 1 := ⟨tb_in 1150 (by decide +kernel) rfl, tb_in 1151 (by decide +kernel) rfl, tb_in 73 (by decide +kernel) rfl, tb_in 1152 (by decide +kernel) rfl, by decide, by decide, by decide +kernel⟩
abbrev b_Mo_link : ByteArray := prog_12_method_39_code
def y_Mo_link : MethodName := ⟨R_Mo, "link", "(II)I"⟩
theorem m_Mo_link : MtV y_Mo_link b_Mo_link 5 (some .int) 2 := ⟨tb_in 1154 (by decide +kernel) rfl, tb_in 1155 (by decide +kernel) rfl, tb_in 73 (by decide +kernel) rfl, tb_in 1156 (by decide +kernel) rfl, by decide, by decide, by decide +kernel⟩
abbrev b_Mo_findDoubled : ByteArray := prog_12_method_27_code
def y_Mo_findDoubled : MethodName := ⟨R_Mo, "findDoubled", "()V"⟩
theorem m_Mo_findDoubled : MtV y_Mo_findDoubled b_Mo_findDoubled 5 none 0 := ⟨tb_in 1160 (by decide +kernel) rfl, tb_in 45 (by decide +kernel) rfl, tb_in 73 (by decide +kernel) rfl, tb_in 1161 (by decide +kernel) rfl, by decide, by decide, by decide +kernel⟩
abbrev b_Mo_firstOf : ByteArray := prog_12_method_21_code
def y_Mo_firstOf : MethodName := ⟨R_Mo, "firstOf", "(II)I"⟩
theorem m_Mo_firstOf : MtV y_Mo_firstOf b_Mo_firstOf 6 (some .int) 2 := ⟨tb_in 1164 (by decide +kernel) rfl, tb_in 46 (by decide +kernel) rfl, tb_in 73 (by decide +kernel) rfl, tb_in 1165 (by decide +kernel) rfl, by decide, by decide, by decide +kernel⟩
abbrev b_Mo_tell : ByteArray := prog_12_method_26_code
def y_Mo_tell : MethodName := ⟨R_Mo, "tell", "(III)V"⟩
theorem m_Mo_tell : MtV y_Mo_tell b_Mo_tell 4 none 3 := ⟨tb_in 1168 (by decide +kernel) rfl, tb_in 47 (by decide +kernel) rfl, tb_in 73 (by decide +kernel) rfl, tb_in 1169 (by decide +kernel) rfl, by decide, by decide, by decide +kernel⟩
abbrev b_Mo_findReached : ByteArray := prog_12_method_28_code
def y_Mo_findReached : MethodName := ⟨R_Mo, "findReached", "(I)V"⟩
theorem m_Mo_findReached : MtV y_Mo_findReached b_Mo_findReached 7 none 1 := ⟨tb_in 1172 (by decide +kernel) rfl, tb_in 48 (by decide +kernel) rfl, tb_in 73 (by decide +kernel) rfl, tb_in 1173 (by decide +kernel) rfl, by decide, by decide, by decide +kernel⟩
abbrev b_Mo_meaning : ByteArray := prog_12_method_22_code
def y_Mo_meaning : MethodName := ⟨R_Mo, "meaning", "(I)I"⟩
theorem m_Mo_meaning : MtV y_Mo_meaning b_Mo_meaning 4 (some .int) 1 := ⟨tb_in 1176 (by decide +kernel) rfl, tb_in 49 (by decide +kernel) rfl, tb_in 73 (by decide +kernel) rfl, tb_in 1177 (by decide +kernel) rfl, by decide, by decide, by decide +kernel⟩
abbrev b_Mo_reach : ByteArray := prog_12_method_23_code
def y_Mo_reach : MethodName := ⟨R_Mo, "reach", "(I)Z"⟩
theorem m_Mo_reach : MtV y_Mo_reach b_Mo_reach 4 (some .boolean) 1 := ⟨tb_in 1180 (by decide +kernel) rfl, tb_in 50 (by decide +kernel) rfl, tb_in 73 (by decide +kernel) rfl, tb_in 1181 (by decide +kernel) rfl, by decide, by decide, by decide +kernel⟩
abbrev b_Mo_isWorked : ByteArray := prog_12_method_25_code
def y_Mo_isWorked : MethodName := ⟨R_Mo, "isWorked", "(II)Z"⟩
theorem m_Mo_isWorked : MtV y_Mo_isWorked b_Mo_isWorked 3 (some .boolean) 2 := ⟨tb_in 1184 (by decide +kernel) rfl, tb_in 51 (by decide +kernel) rfl, tb_in 73 (by decide +kernel) rfl, tb_in 1185 (by decide +kernel) rfl, by decide, by decide, by decide +kernel⟩
abbrev b_Mo_meaningOf : ByteArray := prog_12_method_24_code
def y_Mo_meaningOf : MethodName := ⟨R_Mo, "meaningOf", "(II)I"⟩
theorem m_Mo_meaningOf : MtV y_Mo_meaningOf b_Mo_meaningOf 3 (some .int) 2 := ⟨tb_in 1188 (by decide +kernel) rfl, tb_in 52 (by decide +kernel) rfl, tb_in 73 (by decide +kernel) rfl, tb_in 1189 (by decide +kernel) rfl, by decide, by decide, by decide +kernel⟩
abbrev b_Mo_order : ByteArray := prog_12_method_31_code
def y_Mo_order : MethodName := ⟨R_Mo, "order", "()V"⟩
theorem m_Mo_order : MtV y_Mo_order b_Mo_order 4 none 0 := ⟨tb_in 1192 (by decide +kernel) rfl, tb_in 53 (by decide +kernel) rfl, tb_in 73 (by decide +kernel) rfl, tb_in 1193 (by decide +kernel) rfl, by decide, by decide, by decide +kernel⟩
abbrev b_Mo_next : ByteArray := prog_12_method_29_code
def y_Mo_next : MethodName := ⟨R_Mo, "next", "(I)I"⟩
theorem m_Mo_next : MtV y_Mo_next b_Mo_next 3 (some .int) 1 := ⟨tb_in 1196 (by decide +kernel) rfl, tb_in 54 (by decide +kernel) rfl, tb_in 73 (by decide +kernel) rfl, tb_in 1197 (by decide +kernel) rfl, by decide, by decide, by decide +kernel⟩
abbrev b_Mo_greatest : ByteArray := prog_12_method_30_code
def y_Mo_greatest : MethodName := ⟨R_Mo, "greatest", "(IZ)I"⟩
theorem m_Mo_greatest : MtV y_Mo_greatest b_Mo_greatest 8 (some .int) 2 := ⟨tb_in 1200 (by decide +kernel) rfl, tb_in 55 (by decide +kernel) rfl, tb_in 73 (by decide +kernel) rfl, tb_in 1201 (by decide +kernel) rfl, by decide, by decide, by decide +kernel⟩
abbrev b_Mo_copySections : ByteArray := prog_12_method_33_code
def y_Mo_copySections : MethodName := ⟨R_Mo, "copySections", "()V"⟩
theorem m_Mo_copySections : MtV y_Mo_copySections b_Mo_copySections 3 none 0 := ⟨tb_in 1204 (by decide +kernel) rfl, tb_in 56 (by decide +kernel) rfl, tb_in 73 (by decide +kernel) rfl, tb_in 1205 (by decide +kernel) rfl, by decide, by decide, by decide +kernel⟩
abbrev b_Mo_workIn : ByteArray := prog_12_method_36_code
def y_Mo_workIn : MethodName := ⟨R_Mo, "workIn", "(II)V"⟩
theorem m_Mo_workIn : MtV y_Mo_workIn b_Mo_workIn 12 none 2 := ⟨tb_in 1208 (by decide +kernel) rfl, tb_in 57 (by decide +kernel) rfl, tb_in 73 (by decide +kernel) rfl, tb_in 1209 (by decide +kernel) rfl, by decide, by decide, by decide +kernel⟩
abbrev b_Mo_placeOfMeaning : ByteArray := prog_12_method_32_code
def y_Mo_placeOfMeaning : MethodName := ⟨R_Mo, "placeOfMeaning", "(I)I"⟩
theorem m_Mo_placeOfMeaning : MtV y_Mo_placeOfMeaning b_Mo_placeOfMeaning 3 (some .int) 1 := ⟨tb_in 1212 (by decide +kernel) rfl, tb_in 58 (by decide +kernel) rfl, tb_in 73 (by decide +kernel) rfl, tb_in 1213 (by decide +kernel) rfl, by decide, by decide, by decide +kernel⟩
abbrev b_Mo_put : ByteArray := prog_12_method_34_code
def y_Mo_put : MethodName := ⟨R_Mo, "put", "(IJI)V"⟩
theorem m_Mo_put : MtV y_Mo_put b_Mo_put 6 none 3 := ⟨tb_in 1216 (by decide +kernel) rfl, tb_in 59 (by decide +kernel) rfl, tb_in 73 (by decide +kernel) rfl, tb_in 1217 (by decide +kernel) rfl, by decide, by decide, by decide +kernel⟩
abbrev b_Mo_in : ByteArray := prog_12_method_35_code
def y_Mo_in : MethodName := ⟨R_Mo, "in", "(JJJ)Z"⟩
theorem m_Mo_in : MtS y_Mo_in b_Mo_in 6 (some .boolean) 3 := ⟨tb_in 1222 (by decide +kernel) rfl, tb_in 73 (by decide +kernel) rfl, tb_in 1223 (by decide +kernel) rfl, by decide, by decide, by decide +kernel⟩
abbrev b_Mo_know : ByteArray := prog_12_method_37_code
def y_Mo_know : MethodName := ⟨R_Mo, "know", "()V"⟩
theorem m_Mo_know : MtV y_Mo_know b_Mo_know 4 none 0 := ⟨tb_in 1231 (by decide +kernel) rfl, tb_in 60 (by decide +kernel) rfl, tb_in 73 (by decide +kernel) rfl, tb_in 1232 (by decide +kernel) rfl, by decide, by decide, by decide +kernel⟩
abbrev b_Mo_noImage : ByteArray := prog_12_method_38_code
def y_Mo_noImage : MethodName := ⟨R_Mo, "noImage", "()V"⟩
theorem m_Mo_noImage : MtV y_Mo_noImage b_Mo_noImage 2 none 0 := ⟨tb_in 1235 (by decide +kernel) rfl, tb_in 61 (by decide +kernel) rfl, tb_in 73 (by decide +kernel) rfl, tb_in 1236 (by decide +kernel) rfl, by decide, by decide, by decide +kernel⟩
abbrev b_Mo_fault : ByteArray := prog_12_method_40_code
def y_Mo_fault : MethodName := ⟨R_Mo, "fault", "(I)I"⟩
theorem m_Mo_fault : MtV y_Mo_fault b_Mo_fault 2 (some .int) 1 := ⟨tb_in 1238 (by decide +kernel) rfl, tb_in 1239 (by decide +kernel) rfl, tb_in 73 (by decide +kernel) rfl, tb_in 1240 (by decide +kernel) rfl, by decide, by decide, by decide +kernel⟩
abbrev b_Mo_image : ByteArray := prog_12_method_41_code
def y_Mo_image : MethodName := ⟨R_Mo, "image", "(I)I"⟩
theorem m_Mo_image : MtV y_Mo_image b_Mo_image 2 (some .int) 1 := ⟨tb_in 1242 (by decide +kernel) rfl, tb_in 1243 (by decide +kernel) rfl, tb_in 73 (by decide +kernel) rfl, tb_in 1244 (by decide +kernel) rfl, by decide, by decide, by decide +kernel⟩
abbrev b_Mo_placeOf : ByteArray := prog_12_method_42_code
def y_Mo_placeOf : MethodName := ⟨R_Mo, "placeOf", "(II)I"⟩
theorem m_Mo_placeOf : MtV y_Mo_placeOf b_Mo_placeOf 4 (some .int) 2 := ⟨tb_in 1246 (by decide +kernel) rfl, tb_in 1247 (by decide +kernel) rfl, tb_in 73 (by decide +kernel) rfl, tb_in 1248 (by decide +kernel) rfl, by decide, by decide, by decide +kernel⟩
abbrev b_Mo_nameAt : ByteArray := prog_12_method_43_code
def y_Mo_nameAt : MethodName := ⟨R_Mo, "nameAt", "(I)I"⟩
theorem m_Mo_nameAt : MtV y_Mo_nameAt b_Mo_nameAt 3 (some .int) 1 := ⟨tb_in 1250 (by decide +kernel) rfl, tb_in 1251 (by decide +kernel) rfl, tb_in 73 (by decide +kernel) rfl, tb_in 1252 (by decide +kernel) rfl, by decide, by decide, by decide +kernel⟩
abbrev b_Mo_write : ByteArray := prog_12_method_46_code
def y_Mo_write : MethodName := ⟨R_Mo, "write", "(I)I"⟩
theorem m_Mo_write : MtV y_Mo_write b_Mo_write 4 (some .int) 1 := ⟨tb_in 1254 (by decide +kernel) rfl, tb_in 1255 (by decide +kernel) rfl, tb_in 73 (by decide +kernel) rfl, tb_in 1256 (by decide +kernel) rfl, by decide, by decide, by decide +kernel⟩
abbrev b_Mo_say : ByteArray := prog_12_method_44_code
def y_Mo_say : MethodName := ⟨R_Mo, "say", "(II)V"⟩
theorem m_Mo_say : MtV y_Mo_say b_Mo_say 4 none 2 := ⟨tb_in 1259 (by decide +kernel) rfl, tb_in 62 (by decide +kernel) rfl, tb_in 73 (by decide +kernel) rfl, tb_in 1260 (by decide +kernel) rfl, by decide, by decide, by decide +kernel⟩
abbrev b_Mo_sumOf : ByteArray := prog_12_method_45_code
def y_Mo_sumOf : MethodName := ⟨R_Mo, "sumOf", "(I)I"⟩
theorem m_Mo_sumOf : MtV y_Mo_sumOf b_Mo_sumOf 4 (some .int) 1 := ⟨tb_in 1263 (by decide +kernel) rfl, tb_in 63 (by decide +kernel) rfl, tb_in 73 (by decide +kernel) rfl, tb_in 1264 (by decide +kernel) rfl, by decide, by decide, by decide +kernel⟩
abbrev b_Mo_written : ByteArray := prog_12_method_47_code
def y_Mo_written : MethodName := ⟨R_Mo, "written", "(I)I"⟩
theorem m_Mo_written : MtV y_Mo_written b_Mo_written 2 (some .int) 1 := ⟨tb_in 1267 (by decide +kernel) rfl, tb_in 1268 (by decide +kernel) rfl, tb_in 73 (by decide +kernel) rfl, tb_in 1269 (by decide +kernel) rfl, by decide, by decide, by decide +kernel⟩
abbrev b_Mo_alter : ByteArray := prog_12_method_48_code
def y_Mo_alter : MethodName := ⟨R_Mo, "alter", "(II)I"⟩
theorem m_Mo_alter : MtV y_Mo_alter b_Mo_alter 4 (some .int) 2 := ⟨tb_in 1271 (by decide +kernel) rfl, tb_in 1272 (by decide +kernel) rfl, tb_in 73 (by decide +kernel) rfl, tb_in 1273 (by decide +kernel) rfl, by decide, by decide, by decide +kernel⟩
abbrev b_Mo_read : ByteArray := prog_12_method_52_code
def y_Mo_read : MethodName := ⟨R_Mo, "read", "(I)I"⟩
theorem m_Mo_read : MtV y_Mo_read b_Mo_read 3 (some .int) 1 := ⟨tb_in 1275 (by decide +kernel) rfl, tb_in 1276 (by decide +kernel) rfl, tb_in 73 (by decide +kernel) rfl, tb_in 1277 (by decide +kernel) rfl, by decide, by decide, by decide +kernel⟩
abbrev b_Mo_fill : ByteArray := prog_12_method_51_code
def y_Mo_fill : MethodName := ⟨R_Mo, "fill", "(II)V"⟩
theorem m_Mo_fill : MtV y_Mo_fill b_Mo_fill 12 none 2 := ⟨tb_in 1280 (by decide +kernel) rfl, tb_in 64 (by decide +kernel) rfl, tb_in 73 (by decide +kernel) rfl, tb_in 1281 (by decide +kernel) rfl, by decide, by decide, by decide +kernel⟩
abbrev b_Mo_take : ByteArray := prog_12_method_49_code
def y_Mo_take : MethodName := ⟨R_Mo, "take", "(II)I"⟩
theorem m_Mo_take : MtV y_Mo_take b_Mo_take 5 (some .int) 2 := ⟨tb_in 1284 (by decide +kernel) rfl, tb_in 65 (by decide +kernel) rfl, tb_in 73 (by decide +kernel) rfl, tb_in 1285 (by decide +kernel) rfl, by decide, by decide, by decide +kernel⟩
abbrev b_Mo_need : ByteArray := prog_12_method_50_code
def y_Mo_need : MethodName := ⟨R_Mo, "need", "(Z)V"⟩
theorem m_Mo_need : MtV y_Mo_need b_Mo_need 2 none 1 := ⟨tb_in 1288 (by decide +kernel) rfl, tb_in 66 (by decide +kernel) rfl, tb_in 73 (by decide +kernel) rfl, tb_in 1289 (by decide +kernel) rfl, by decide, by decide, by decide +kernel⟩
abbrev b_Mo_count : ByteArray := prog_12_method_53_code
def y_Mo_count : MethodName := ⟨R_Mo, "count", "(I)I"⟩
theorem m_Mo_count : MtV y_Mo_count b_Mo_count 2 (some .int) 1 := ⟨tb_in 1291 (by decide +kernel) rfl, tb_in 1292 (by decide +kernel) rfl, tb_in 73 (by decide +kernel) rfl, tb_in 1293 (by decide +kernel) rfl, by decide, by decide, by decide +kernel⟩
abbrev b_La_law : ByteArray := code
def y_La_law : MethodName := ⟨R_La, "law", "([I)Z"⟩
theorem k_OL_11 : Cond.fieldLink R_OL 11 "ObjectLinks" "units" "[LObjectLinks$Unit;" ∈ tb_ := tb_in 251 (by decide +kernel) rfl
theorem k_OL_18 : Cond.fieldLink R_OL 18 "ObjectLinks" "linker" "LObjectLinks$Linker;" ∈ tb_ := tb_in 253 (by decide +kernel) rfl
theorem k_OL_25 : Cond.fieldLink R_OL 25 "ObjectLinks" "octets" "LObjectLinks$Octets;" ∈ tb_ := tb_in 254 (by decide +kernel) rfl
theorem k_OL_29 : Cond.fieldLink R_OL 29 "ObjectLinks" "unitCount" "I" ∈ tb_ := tb_in 252 (by decide +kernel) rfl
theorem k_OL_60 : Cond.fieldLink R_OL 60 "ObjectLinks$Unit" "sectionCount" "I" ∈ tb_ := tb_in 385 (by decide +kernel) rfl
theorem k_OL_76 : Cond.fieldLink R_OL 76 "ObjectLinks$Section" "kind" "I" ∈ tb_ := tb_in 478 (by decide +kernel) rfl
theorem k_OL_81 : Cond.fieldLink R_OL 81 "ObjectLinks$Section" "data" "[I" ∈ tb_ := tb_in 489 (by decide +kernel) rfl
theorem k_OL_97 : Cond.fieldLink R_OL 97 "ObjectLinks$Unit" "nameCount" "I" ∈ tb_ := tb_in 391 (by decide +kernel) rfl
theorem k_OL_116 : Cond.fieldLink R_OL 116 "ObjectLinks$Unit" "referenceCount" "I" ∈ tb_ := tb_in 398 (by decide +kernel) rfl
theorem k_OL_143 : Cond.fieldLink R_OL 143 "ObjectLinks$Linker" "chosen" "I" ∈ tb_ := tb_in 174 (by decide +kernel) rfl
theorem k_OL_157 : Cond.fieldLink R_OL 157 "ObjectLinks$Linker" "length" "I" ∈ tb_ := tb_in 184 (by decide +kernel) rfl
theorem k_OL_160 : Cond.fieldLink R_OL 160 "ObjectLinks$Linker" "faultSort" "I" ∈ tb_ := tb_in 192 (by decide +kernel) rfl
theorem k_OL_163 : Cond.fieldLink R_OL 163 "ObjectLinks$Linker" "faultObject" "I" ∈ tb_ := tb_in 195 (by decide +kernel) rfl
theorem k_OL_166 : Cond.fieldLink R_OL 166 "ObjectLinks$Linker" "faultNumber" "I" ∈ tb_ := tb_in 197 (by decide +kernel) rfl
theorem k_OL_176 : Cond.fieldLink R_OL 176 "ObjectLinks$Linker" "content" "[I" ∈ tb_ := tb_in 183 (by decide +kernel) rfl
theorem k_OL_195 : Cond.fieldLink R_OL 195 "ObjectLinks$Octets" "length" "I" ∈ tb_ := tb_in 245 (by decide +kernel) rfl
theorem k_OL_198 : Cond.fieldLink R_OL 198 "ObjectLinks$Octets" "row" "[I" ∈ tb_ := tb_in 243 (by decide +kernel) rfl
theorem k_OL_216 : Cond.fieldLink R_OL 216 "ObjectLinks$Linker" "sectionsIn" "I" ∈ tb_ := tb_in 187 (by decide +kernel) rfl
theorem k_OL_219 : Cond.fieldLink R_OL 219 "ObjectLinks$Linker" "gapBytes" "I" ∈ tb_ := tb_in 191 (by decide +kernel) rfl
theorem k_OL_222 : Cond.fieldLink R_OL 222 "ObjectLinks$Linker" "commonsIn" "I" ∈ tb_ := tb_in 189 (by decide +kernel) rfl
theorem k_Li_11 : Cond.fieldLink R_Li 11 "ObjectLinks$Linker" "units" "[LObjectLinks$Unit;" ∈ tb_ := tb_in 171 (by decide +kernel) rfl
theorem k_Li_17 : Cond.fieldLink R_Li 17 "ObjectLinks$Linker" "order" "[I" ∈ tb_ := tb_in 172 (by decide +kernel) rfl
theorem k_Li_24 : Cond.fieldLink R_Li 24 "ObjectLinks$Linker" "table" "LObjectLinks$NameTable;" ∈ tb_ := tb_in 175 (by decide +kernel) rfl
theorem k_Li_28 : Cond.fieldLink R_Li 28 "ObjectLinks$Linker" "reached" "[Z" ∈ tb_ := tb_in 176 (by decide +kernel) rfl
theorem k_Li_32 : Cond.fieldLink R_Li 32 "ObjectLinks$Linker" "queue" "[I" ∈ tb_ := tb_in 177 (by decide +kernel) rfl
theorem k_Li_35 : Cond.fieldLink R_Li 35 "ObjectLinks$Linker" "places" "[I" ∈ tb_ := tb_in 179 (by decide +kernel) rfl
theorem k_Li_38 : Cond.fieldLink R_Li 38 "ObjectLinks$Linker" "content" "[I" ∈ tb_ := tb_in 182 (by decide +kernel) rfl
theorem k_Li_41 : Cond.fieldLink R_Li 41 "ObjectLinks$Linker" "faultObject" "I" ∈ tb_ := tb_in 194 (by decide +kernel) rfl
theorem k_Li_45 : Cond.fieldLink R_Li 45 "ObjectLinks$Linker" "faultNumber" "I" ∈ tb_ := tb_in 196 (by decide +kernel) rfl
theorem k_Li_48 : Cond.fieldLink R_Li 48 "ObjectLinks$Linker" "chosen" "I" ∈ tb_ := tb_in 173 (by decide +kernel) rfl
theorem k_Li_51 : Cond.fieldLink R_Li 51 "ObjectLinks$Linker" "present" "Z" ∈ tb_ := tb_in 180 (by decide +kernel) rfl
theorem k_Li_55 : Cond.fieldLink R_Li 55 "ObjectLinks$Linker" "base" "I" ∈ tb_ := tb_in 181 (by decide +kernel) rfl
theorem k_Li_66 : Cond.fieldLink R_Li 66 "ObjectLinks$Meaning" "sort" "I" ∈ tb_ := tb_in 121 (by decide +kernel) rfl
theorem k_Li_71 : Cond.fieldLink R_Li 71 "ObjectLinks$Meaning" "address" "I" ∈ tb_ := tb_in 134 (by decide +kernel) rfl
theorem k_Li_74 : Cond.fieldLink R_Li 74 "ObjectLinks$Meaning" "slot" "I" ∈ tb_ := tb_in 124 (by decide +kernel) rfl
theorem k_Li_77 : Cond.fieldLink R_Li 77 "ObjectLinks$Meaning" "place" "I" ∈ tb_ := tb_in 126 (by decide +kernel) rfl
theorem k_Li_110 : Cond.fieldLink R_Li 110 "ObjectLinks$Linker" "queued" "I" ∈ tb_ := tb_in 178 (by decide +kernel) rfl
theorem k_Li_113 : Cond.fieldLink R_Li 113 "ObjectLinks$Linker" "length" "I" ∈ tb_ := tb_in 185 (by decide +kernel) rfl
theorem k_Li_116 : Cond.fieldLink R_Li 116 "ObjectLinks$Linker" "sectionsIn" "I" ∈ tb_ := tb_in 186 (by decide +kernel) rfl
theorem k_Li_119 : Cond.fieldLink R_Li 119 "ObjectLinks$Linker" "commonsIn" "I" ∈ tb_ := tb_in 188 (by decide +kernel) rfl
theorem k_Li_122 : Cond.fieldLink R_Li 122 "ObjectLinks$Linker" "gapBytes" "I" ∈ tb_ := tb_in 190 (by decide +kernel) rfl
theorem k_Li_125 : Cond.fieldLink R_Li 125 "ObjectLinks$Linker" "faultSort" "I" ∈ tb_ := tb_in 193 (by decide +kernel) rfl
theorem k_Li_128 : Cond.fieldLink R_Li 128 "ObjectLinks$Unit" "nameCount" "I" ∈ tb_ := tb_in 393 (by decide +kernel) rfl
theorem k_Li_131 : Cond.fieldLink R_Li 131 "ObjectLinks$Unit" "names" "[LObjectLinks$Name;" ∈ tb_ := tb_in 389 (by decide +kernel) rfl
theorem k_Li_147 : Cond.fieldLink R_Li 147 "ObjectLinks$Unit" "referenceCount" "I" ∈ tb_ := tb_in 400 (by decide +kernel) rfl
theorem k_Li_150 : Cond.fieldLink R_Li 150 "ObjectLinks$Unit" "references" "[LObjectLinks$Reference;" ∈ tb_ := tb_in 396 (by decide +kernel) rfl
theorem k_Li_154 : Cond.fieldLink R_Li 154 "ObjectLinks$Reference" "section" "I" ∈ tb_ := tb_in 607 (by decide +kernel) rfl
theorem k_Li_159 : Cond.fieldLink R_Li 159 "ObjectLinks$Reference" "name" "I" ∈ tb_ := tb_in 616 (by decide +kernel) rfl
theorem k_Li_166 : Cond.fieldLink R_Li 166 "ObjectLinks$Meaning" "reached" "Z" ∈ tb_ := tb_in 132 (by decide +kernel) rfl
theorem k_Li_181 : Cond.fieldLink R_Li 181 "ObjectLinks$Unit" "sectionCount" "I" ∈ tb_ := tb_in 386 (by decide +kernel) rfl
theorem k_Li_184 : Cond.fieldLink R_Li 184 "ObjectLinks$Unit" "sections" "[LObjectLinks$Section;" ∈ tb_ := tb_in 382 (by decide +kernel) rfl
theorem k_Li_188 : Cond.fieldLink R_Li 188 "ObjectLinks$Section" "kind" "I" ∈ tb_ := tb_in 480 (by decide +kernel) rfl
theorem k_Li_193 : Cond.fieldLink R_Li 193 "ObjectLinks$Section" "power" "I" ∈ tb_ := tb_in 483 (by decide +kernel) rfl
theorem k_Li_196 : Cond.fieldLink R_Li 196 "ObjectLinks$Section" "length" "I" ∈ tb_ := tb_in 486 (by decide +kernel) rfl
theorem k_Li_200 : Cond.fieldLink R_Li 200 "ObjectLinks$NameTable" "commonCount" "I" ∈ tb_ := tb_in 159 (by decide +kernel) rfl
theorem k_Li_203 : Cond.fieldLink R_Li 203 "ObjectLinks$NameTable" "commons" "[LObjectLinks$Meaning;" ∈ tb_ := tb_in 157 (by decide +kernel) rfl
theorem k_Li_207 : Cond.fieldLink R_Li 207 "ObjectLinks$Meaning" "power" "I" ∈ tb_ := tb_in 128 (by decide +kernel) rfl
theorem k_Li_208 : Cond.fieldLink R_Li 208 "ObjectLinks$Meaning" "size" "I" ∈ tb_ := tb_in 130 (by decide +kernel) rfl
theorem k_Li_211 : Cond.fieldLink R_Li 211 "ObjectLinks$Section" "data" "[I" ∈ tb_ := tb_in 491 (by decide +kernel) rfl
theorem k_Li_227 : Cond.fieldLink R_Li 227 "ObjectLinks$Reference" "way" "I" ∈ tb_ := tb_in 613 (by decide +kernel) rfl
theorem k_Li_230 : Cond.fieldLink R_Li 230 "ObjectLinks$Reference" "place" "I" ∈ tb_ := tb_in 610 (by decide +kernel) rfl
theorem k_Li_231 : Cond.fieldLink R_Li 231 "ObjectLinks$Reference" "addend" "I" ∈ tb_ := tb_in 619 (by decide +kernel) rfl
theorem k_Me_9 : Cond.fieldLink R_Me 9 "ObjectLinks$Meaning" "number" "I" ∈ tb_ := tb_in 118 (by decide +kernel) rfl
theorem k_Me_15 : Cond.fieldLink R_Me 15 "ObjectLinks$Meaning" "sort" "I" ∈ tb_ := tb_in 120 (by decide +kernel) rfl
theorem k_Me_18 : Cond.fieldLink R_Me 18 "ObjectLinks$Meaning" "power" "I" ∈ tb_ := tb_in 127 (by decide +kernel) rfl
theorem k_Me_21 : Cond.fieldLink R_Me 21 "ObjectLinks$Meaning" "size" "I" ∈ tb_ := tb_in 129 (by decide +kernel) rfl
theorem k_Me_24 : Cond.fieldLink R_Me 24 "ObjectLinks$Meaning" "reached" "Z" ∈ tb_ := tb_in 131 (by decide +kernel) rfl
theorem k_Me_28 : Cond.fieldLink R_Me 28 "ObjectLinks$Meaning" "address" "I" ∈ tb_ := tb_in 133 (by decide +kernel) rfl
theorem k_Me_31 : Cond.fieldLink R_Me 31 "ObjectLinks$Meaning" "slot" "I" ∈ tb_ := tb_in 123 (by decide +kernel) rfl
theorem k_Me_34 : Cond.fieldLink R_Me 34 "ObjectLinks$Meaning" "place" "I" ∈ tb_ := tb_in 125 (by decide +kernel) rfl
theorem k_Na_7 : Cond.fieldLink R_Na 7 "ObjectLinks$Name" "number" "I" ∈ tb_ := tb_in 558 (by decide +kernel) rfl
theorem k_Na_13 : Cond.fieldLink R_Na 13 "ObjectLinks$Name" "sort" "I" ∈ tb_ := tb_in 562 (by decide +kernel) rfl
theorem k_Na_16 : Cond.fieldLink R_Na 16 "ObjectLinks$Name" "section" "I" ∈ tb_ := tb_in 565 (by decide +kernel) rfl
theorem k_Na_19 : Cond.fieldLink R_Na 19 "ObjectLinks$Name" "place" "I" ∈ tb_ := tb_in 568 (by decide +kernel) rfl
theorem k_NT_11 : Cond.fieldLink R_NT 11 "ObjectLinks$NameTable" "meanings" "[LObjectLinks$Meaning;" ∈ tb_ := tb_in 153 (by decide +kernel) rfl
theorem k_NT_17 : Cond.fieldLink R_NT 17 "ObjectLinks$NameTable" "meant" "[LObjectLinks$Meaning;" ∈ tb_ := tb_in 155 (by decide +kernel) rfl
theorem k_NT_20 : Cond.fieldLink R_NT 20 "ObjectLinks$NameTable" "commons" "[LObjectLinks$Meaning;" ∈ tb_ := tb_in 156 (by decide +kernel) rfl
theorem k_NT_24 : Cond.fieldLink R_NT 24 "ObjectLinks$NameTable" "size" "I" ∈ tb_ := tb_in 154 (by decide +kernel) rfl
theorem k_NT_28 : Cond.fieldLink R_NT 28 "ObjectLinks$NameTable" "commonCount" "I" ∈ tb_ := tb_in 158 (by decide +kernel) rfl
theorem k_NT_31 : Cond.fieldLink R_NT 31 "ObjectLinks$Meaning" "number" "I" ∈ tb_ := tb_in 119 (by decide +kernel) rfl
theorem k_NT_42 : Cond.fieldLink R_NT 42 "ObjectLinks$Name" "number" "I" ∈ tb_ := tb_in 560 (by decide +kernel) rfl
theorem k_NT_48 : Cond.fieldLink R_NT 48 "ObjectLinks$Name" "sort" "I" ∈ tb_ := tb_in 564 (by decide +kernel) rfl
theorem k_NT_51 : Cond.fieldLink R_NT 51 "ObjectLinks$Meaning" "sort" "I" ∈ tb_ := tb_in 122 (by decide +kernel) rfl
theorem k_NT_52 : Cond.fieldLink R_NT 52 "ObjectLinks$Name" "section" "I" ∈ tb_ := tb_in 567 (by decide +kernel) rfl
theorem k_NT_59 : Cond.fieldLink R_NT 59 "ObjectLinks$Name" "place" "I" ∈ tb_ := tb_in 570 (by decide +kernel) rfl
theorem k_Oc_9 : Cond.fieldLink R_Oc 9 "ObjectLinks$Octets" "row" "[I" ∈ tb_ := tb_in 242 (by decide +kernel) rfl
theorem k_Oc_15 : Cond.fieldLink R_Oc 15 "ObjectLinks$Octets" "length" "I" ∈ tb_ := tb_in 244 (by decide +kernel) rfl
theorem k_Oc_23 : Cond.fieldLink R_Oc 23 "ObjectLinks$Unit" "sectionCount" "I" ∈ tb_ := tb_in 384 (by decide +kernel) rfl
theorem k_Oc_28 : Cond.fieldLink R_Oc 28 "ObjectLinks$Unit" "nameCount" "I" ∈ tb_ := tb_in 390 (by decide +kernel) rfl
theorem k_Oc_31 : Cond.fieldLink R_Oc 31 "ObjectLinks$Unit" "referenceCount" "I" ∈ tb_ := tb_in 397 (by decide +kernel) rfl
theorem k_Oc_34 : Cond.fieldLink R_Oc 34 "ObjectLinks$Unit" "sections" "[LObjectLinks$Section;" ∈ tb_ := tb_in 381 (by decide +kernel) rfl
theorem k_Oc_42 : Cond.fieldLink R_Oc 42 "ObjectLinks$Unit" "names" "[LObjectLinks$Name;" ∈ tb_ := tb_in 388 (by decide +kernel) rfl
theorem k_Oc_50 : Cond.fieldLink R_Oc 50 "ObjectLinks$Unit" "references" "[LObjectLinks$Reference;" ∈ tb_ := tb_in 395 (by decide +kernel) rfl
theorem k_Oc_62 : Cond.fieldLink R_Oc 62 "ObjectLinks$Section" "kind" "I" ∈ tb_ := tb_in 477 (by decide +kernel) rfl
theorem k_Oc_67 : Cond.fieldLink R_Oc 67 "ObjectLinks$Section" "power" "I" ∈ tb_ := tb_in 482 (by decide +kernel) rfl
theorem k_Oc_70 : Cond.fieldLink R_Oc 70 "ObjectLinks$Section" "length" "I" ∈ tb_ := tb_in 485 (by decide +kernel) rfl
theorem k_Oc_71 : Cond.fieldLink R_Oc 71 "ObjectLinks$Section" "data" "[I" ∈ tb_ := tb_in 488 (by decide +kernel) rfl
theorem k_Oc_74 : Cond.fieldLink R_Oc 74 "ObjectLinks$Name" "number" "I" ∈ tb_ := tb_in 559 (by decide +kernel) rfl
theorem k_Oc_79 : Cond.fieldLink R_Oc 79 "ObjectLinks$Name" "sort" "I" ∈ tb_ := tb_in 563 (by decide +kernel) rfl
theorem k_Oc_82 : Cond.fieldLink R_Oc 82 "ObjectLinks$Name" "section" "I" ∈ tb_ := tb_in 566 (by decide +kernel) rfl
theorem k_Oc_85 : Cond.fieldLink R_Oc 85 "ObjectLinks$Name" "place" "I" ∈ tb_ := tb_in 569 (by decide +kernel) rfl
theorem k_Oc_88 : Cond.fieldLink R_Oc 88 "ObjectLinks$Reference" "section" "I" ∈ tb_ := tb_in 606 (by decide +kernel) rfl
theorem k_Oc_91 : Cond.fieldLink R_Oc 91 "ObjectLinks$Reference" "place" "I" ∈ tb_ := tb_in 609 (by decide +kernel) rfl
theorem k_Oc_92 : Cond.fieldLink R_Oc 92 "ObjectLinks$Reference" "way" "I" ∈ tb_ := tb_in 612 (by decide +kernel) rfl
theorem k_Oc_95 : Cond.fieldLink R_Oc 95 "ObjectLinks$Reference" "name" "I" ∈ tb_ := tb_in 615 (by decide +kernel) rfl
theorem k_Oc_98 : Cond.fieldLink R_Oc 98 "ObjectLinks$Reference" "addend" "I" ∈ tb_ := tb_in 618 (by decide +kernel) rfl
theorem k_Re_9 : Cond.fieldLink R_Re 9 "ObjectLinks$Reader" "row" "[I" ∈ tb_ := tb_in 893 (by decide +kernel) rfl
theorem k_Re_15 : Cond.fieldLink R_Re 15 "ObjectLinks$Reader" "end" "I" ∈ tb_ := tb_in 894 (by decide +kernel) rfl
theorem k_Re_40 : Cond.fieldLink R_Re 40 "ObjectLinks$Reader" "at" "I" ∈ tb_ := tb_in 895 (by decide +kernel) rfl
theorem k_Re_49 : Cond.fieldLink R_Re 49 "ObjectLinks$Reader" "broken" "Z" ∈ tb_ := tb_in 896 (by decide +kernel) rfl
theorem k_Re_62 : Cond.fieldLink R_Re 62 "ObjectLinks$Section" "data" "[I" ∈ tb_ := tb_in 490 (by decide +kernel) rfl
theorem k_Rf_7 : Cond.fieldLink R_Rf 7 "ObjectLinks$Reference" "section" "I" ∈ tb_ := tb_in 605 (by decide +kernel) rfl
theorem k_Rf_13 : Cond.fieldLink R_Rf 13 "ObjectLinks$Reference" "place" "I" ∈ tb_ := tb_in 608 (by decide +kernel) rfl
theorem k_Rf_16 : Cond.fieldLink R_Rf 16 "ObjectLinks$Reference" "way" "I" ∈ tb_ := tb_in 611 (by decide +kernel) rfl
theorem k_Rf_19 : Cond.fieldLink R_Rf 19 "ObjectLinks$Reference" "name" "I" ∈ tb_ := tb_in 614 (by decide +kernel) rfl
theorem k_Rf_22 : Cond.fieldLink R_Rf 22 "ObjectLinks$Reference" "addend" "I" ∈ tb_ := tb_in 617 (by decide +kernel) rfl
theorem k_Se_9 : Cond.fieldLink R_Se 9 "ObjectLinks$Section" "kind" "I" ∈ tb_ := tb_in 476 (by decide +kernel) rfl
theorem k_Se_15 : Cond.fieldLink R_Se 15 "ObjectLinks$Section" "power" "I" ∈ tb_ := tb_in 481 (by decide +kernel) rfl
theorem k_Se_18 : Cond.fieldLink R_Se 18 "ObjectLinks$Section" "length" "I" ∈ tb_ := tb_in 484 (by decide +kernel) rfl
theorem k_Se_21 : Cond.fieldLink R_Se 21 "ObjectLinks$Section" "data" "[I" ∈ tb_ := tb_in 487 (by decide +kernel) rfl
theorem k_Un_11 : Cond.fieldLink R_Un 11 "ObjectLinks$Unit" "sections" "[LObjectLinks$Section;" ∈ tb_ := tb_in 380 (by decide +kernel) rfl
theorem k_Un_19 : Cond.fieldLink R_Un 19 "ObjectLinks$Unit" "names" "[LObjectLinks$Name;" ∈ tb_ := tb_in 387 (by decide +kernel) rfl
theorem k_Un_25 : Cond.fieldLink R_Un 25 "ObjectLinks$Unit" "references" "[LObjectLinks$Reference;" ∈ tb_ := tb_in 394 (by decide +kernel) rfl
theorem k_Un_29 : Cond.fieldLink R_Un 29 "ObjectLinks$Unit" "sectionCount" "I" ∈ tb_ := tb_in 383 (by decide +kernel) rfl
theorem k_Un_51 : Cond.fieldLink R_Un 51 "ObjectLinks$Unit" "nameCount" "I" ∈ tb_ := tb_in 392 (by decide +kernel) rfl
theorem k_Un_54 : Cond.fieldLink R_Un 54 "ObjectLinks$Name" "number" "I" ∈ tb_ := tb_in 561 (by decide +kernel) rfl
theorem k_Un_57 : Cond.fieldLink R_Un 57 "ObjectLinks$Section" "kind" "I" ∈ tb_ := tb_in 479 (by decide +kernel) rfl
theorem k_Un_64 : Cond.fieldLink R_Un 64 "ObjectLinks$Unit" "referenceCount" "I" ∈ tb_ := tb_in 399 (by decide +kernel) rfl
theorem k_Mo_7 : Cond.fieldLink R_Mo 7 "ObjectLinksModel" "sections" "[I" ∈ tb_ := tb_in 954 (by decide +kernel) rfl
theorem k_Mo_13 : Cond.fieldLink R_Mo 13 "ObjectLinksModel" "kind" "[I" ∈ tb_ := tb_in 955 (by decide +kernel) rfl
theorem k_Mo_16 : Cond.fieldLink R_Mo 16 "ObjectLinksModel" "power" "[I" ∈ tb_ := tb_in 956 (by decide +kernel) rfl
theorem k_Mo_19 : Cond.fieldLink R_Mo 19 "ObjectLinksModel" "length" "[I" ∈ tb_ := tb_in 957 (by decide +kernel) rfl
theorem k_Mo_22 : Cond.fieldLink R_Mo 22 "ObjectLinksModel" "data" "[I" ∈ tb_ := tb_in 958 (by decide +kernel) rfl
theorem k_Mo_25 : Cond.fieldLink R_Mo 25 "ObjectLinksModel" "names" "[I" ∈ tb_ := tb_in 959 (by decide +kernel) rfl
theorem k_Mo_28 : Cond.fieldLink R_Mo 28 "ObjectLinksModel" "number" "[I" ∈ tb_ := tb_in 960 (by decide +kernel) rfl
theorem k_Mo_31 : Cond.fieldLink R_Mo 31 "ObjectLinksModel" "sort" "[I" ∈ tb_ := tb_in 961 (by decide +kernel) rfl
theorem k_Mo_34 : Cond.fieldLink R_Mo 34 "ObjectLinksModel" "where" "[I" ∈ tb_ := tb_in 962 (by decide +kernel) rfl
theorem k_Mo_37 : Cond.fieldLink R_Mo 37 "ObjectLinksModel" "size" "[I" ∈ tb_ := tb_in 963 (by decide +kernel) rfl
theorem k_Mo_40 : Cond.fieldLink R_Mo 40 "ObjectLinksModel" "references" "[I" ∈ tb_ := tb_in 964 (by decide +kernel) rfl
theorem k_Mo_43 : Cond.fieldLink R_Mo 43 "ObjectLinksModel" "refSection" "[I" ∈ tb_ := tb_in 965 (by decide +kernel) rfl
theorem k_Mo_46 : Cond.fieldLink R_Mo 46 "ObjectLinksModel" "refPlace" "[I" ∈ tb_ := tb_in 966 (by decide +kernel) rfl
theorem k_Mo_49 : Cond.fieldLink R_Mo 49 "ObjectLinksModel" "refWay" "[I" ∈ tb_ := tb_in 967 (by decide +kernel) rfl
theorem k_Mo_52 : Cond.fieldLink R_Mo 52 "ObjectLinksModel" "refName" "[I" ∈ tb_ := tb_in 968 (by decide +kernel) rfl
theorem k_Mo_55 : Cond.fieldLink R_Mo 55 "ObjectLinksModel" "refAddend" "[I" ∈ tb_ := tb_in 969 (by decide +kernel) rfl
theorem k_Mo_58 : Cond.fieldLink R_Mo 58 "ObjectLinksModel" "choice" "[I" ∈ tb_ := tb_in 971 (by decide +kernel) rfl
theorem k_Mo_61 : Cond.fieldLink R_Mo 61 "ObjectLinksModel" "reached" "[Z" ∈ tb_ := tb_in 973 (by decide +kernel) rfl
theorem k_Mo_65 : Cond.fieldLink R_Mo 65 "ObjectLinksModel" "common" "[Z" ∈ tb_ := tb_in 974 (by decide +kernel) rfl
theorem k_Mo_68 : Cond.fieldLink R_Mo 68 "ObjectLinksModel" "commonAt" "[I" ∈ tb_ := tb_in 975 (by decide +kernel) rfl
theorem k_Mo_71 : Cond.fieldLink R_Mo 71 "ObjectLinksModel" "lies" "[I" ∈ tb_ := tb_in 976 (by decide +kernel) rfl
theorem k_Mo_74 : Cond.fieldLink R_Mo 74 "ObjectLinksModel" "faultObject" "I" ∈ tb_ := tb_in 978 (by decide +kernel) rfl
theorem k_Mo_78 : Cond.fieldLink R_Mo 78 "ObjectLinksModel" "faultNumber" "I" ∈ tb_ := tb_in 979 (by decide +kernel) rfl
theorem k_Mo_81 : Cond.fieldLink R_Mo 81 "ObjectLinksModel" "image" "[I" ∈ tb_ := tb_in 985 (by decide +kernel) rfl
theorem k_Mo_84 : Cond.fieldLink R_Mo 84 "ObjectLinksModel" "knownName" "[I" ∈ tb_ := tb_in 987 (by decide +kernel) rfl
theorem k_Mo_87 : Cond.fieldLink R_Mo 87 "ObjectLinksModel" "knownAt" "[I" ∈ tb_ := tb_in 988 (by decide +kernel) rfl
theorem k_Mo_90 : Cond.fieldLink R_Mo 90 "ObjectLinksModel" "bytes" "[I" ∈ tb_ := tb_in 990 (by decide +kernel) rfl
theorem k_Mo_93 : Cond.fieldLink R_Mo 93 "ObjectLinksModel" "thrown" "I" ∈ tb_ := tb_in 952 (by decide +kernel) rfl
theorem k_Mo_96 : Cond.fieldLink R_Mo 96 "ObjectLinksModel" "objects" "I" ∈ tb_ := tb_in 953 (by decide +kernel) rfl
theorem k_Mo_144 : Cond.fieldLink R_Mo 144 "ObjectLinksModel" "chosen" "I" ∈ tb_ := tb_in 970 (by decide +kernel) rfl
theorem k_Mo_154 : Cond.fieldLink R_Mo 154 "ObjectLinksModel" "fault" "I" ∈ tb_ := tb_in 977 (by decide +kernel) rfl
theorem k_Mo_170 : Cond.fieldLink R_Mo 170 "ObjectLinksModel" "end" "I" ∈ tb_ := tb_in 993 (by decide +kernel) rfl
theorem k_Mo_173 : Cond.fieldLink R_Mo 173 "ObjectLinksModel" "imageGaps" "I" ∈ tb_ := tb_in 983 (by decide +kernel) rfl
theorem k_Mo_176 : Cond.fieldLink R_Mo 176 "ObjectLinksModel" "base" "I" ∈ tb_ := tb_in 972 (by decide +kernel) rfl
theorem k_Mo_179 : Cond.fieldLink R_Mo 179 "ObjectLinksModel" "imageSections" "I" ∈ tb_ := tb_in 982 (by decide +kernel) rfl
theorem k_Mo_182 : Cond.fieldLink R_Mo 182 "ObjectLinksModel" "imageCommons" "I" ∈ tb_ := tb_in 984 (by decide +kernel) rfl
theorem k_Mo_192 : Cond.fieldLink R_Mo 192 "ObjectLinksModel" "imageSize" "I" ∈ tb_ := tb_in 981 (by decide +kernel) rfl
theorem k_Mo_222 : Cond.fieldLink R_Mo 222 "ObjectLinksModel" "known" "I" ∈ tb_ := tb_in 986 (by decide +kernel) rfl
theorem k_Mo_225 : Cond.fieldLink R_Mo 225 "ObjectLinksModel" "isImage" "Z" ∈ tb_ := tb_in 980 (by decide +kernel) rfl
theorem k_Mo_252 : Cond.fieldLink R_Mo 252 "ObjectLinksModel" "written" "I" ∈ tb_ := tb_in 989 (by decide +kernel) rfl
theorem k_Mo_262 : Cond.fieldLink R_Mo 262 "ObjectLinksModel" "at" "I" ∈ tb_ := tb_in 991 (by decide +kernel) rfl
theorem k_Mo_265 : Cond.fieldLink R_Mo 265 "ObjectLinksModel" "good" "Z" ∈ tb_ := tb_in 992 (by decide +kernel) rfl
theorem k_OL_3 : Cond.methodLink R_OL 3 Lib.objectInit ∈ tb_ := tb_in 93 (by decide +kernel) rfl
theorem k_OL_41 : Cond.methodLink R_OL 41 y_OL_keep ∈ tb_ := tb_in 414 (by decide +kernel) rfl
theorem k_OL_45 : Cond.methodLink R_OL 45 y_OL_known ∈ tb_ := tb_in 427 (by decide +kernel) rfl
theorem k_OL_49 : Cond.methodLink R_OL 49 y_Se_canBe ∈ tb_ := tb_in 447 (by decide +kernel) rfl
theorem k_OL_65 : Cond.methodLink R_OL 65 y_Se_init ∈ tb_ := tb_in 472 (by decide +kernel) rfl
theorem k_OL_68 : Cond.methodLink R_OL 68 y_Un_addSection ∈ tb_ := tb_in 501 (by decide +kernel) rfl
theorem k_OL_72 : Cond.methodLink R_OL 72 y_Un_sectionOrNull ∈ tb_ := tb_in 512 (by decide +kernel) rfl
theorem k_OL_87 : Cond.methodLink R_OL 87 y_Se_overwrite ∈ tb_ := tb_in 518 (by decide +kernel) rfl
theorem k_OL_91 : Cond.methodLink R_OL 91 y_Un_canName ∈ tb_ := tb_in 532 (by decide +kernel) rfl
theorem k_OL_104 : Cond.methodLink R_OL 104 y_Na_init ∈ tb_ := tb_in 554 (by decide +kernel) rfl
theorem k_OL_107 : Cond.methodLink R_OL 107 y_Un_addName ∈ tb_ := tb_in 580 (by decide +kernel) rfl
theorem k_OL_111 : Cond.methodLink R_OL 111 y_Un_canRefer ∈ tb_ := tb_in 591 (by decide +kernel) rfl
theorem k_OL_123 : Cond.methodLink R_OL 123 y_Rf_init ∈ tb_ := tb_in 601 (by decide +kernel) rfl
theorem k_OL_126 : Cond.methodLink R_OL 126 y_Un_addReference ∈ tb_ := tb_in 631 (by decide +kernel) rfl
theorem k_OL_130 : Cond.methodLink R_OL 130 y_Li_isChosen ∈ tb_ := tb_in 642 (by decide +kernel) rfl
theorem k_OL_136 : Cond.methodLink R_OL 136 y_Li_takeBehind ∈ tb_ := tb_in 647 (by decide +kernel) rfl
theorem k_OL_151 : Cond.methodLink R_OL 151 y_Li_makeImage ∈ tb_ := tb_in 677 (by decide +kernel) rfl
theorem k_OL_181 : Cond.methodLink R_OL 181 y_OL_slotOf ∈ tb_ := tb_in 827 (by decide +kernel) rfl
theorem k_OL_184 : Cond.methodLink R_OL 184 y_Li_placeInImage ∈ tb_ := tb_in 828 (by decide +kernel) rfl
theorem k_OL_188 : Cond.methodLink R_OL 188 y_Li_addressOfNumber ∈ tb_ := tb_in 268 (by decide +kernel) rfl
theorem k_OL_191 : Cond.methodLink R_OL 191 y_Oc_store ∈ tb_ := tb_in 839 (by decide +kernel) rfl
theorem k_OL_207 : Cond.methodLink R_OL 207 y_Re_init ∈ tb_ := tb_in 889 (by decide +kernel) rfl
theorem k_OL_210 : Cond.methodLink R_OL 210 y_Re_unitOrNull ∈ tb_ := tb_in 906 (by decide +kernel) rfl
theorem k_OL_225 : Cond.methodLink R_OL 225 y_OL_countOfLatest ∈ tb_ := tb_in 284 (by decide +kernel) rfl
theorem k_OL_228 : Cond.methodLink R_OL 228 y_OL_unitOrNull ∈ tb_ := tb_in 288 (by decide +kernel) rfl
theorem k_Li_3 : Cond.methodLink R_Li 3 Lib.objectInit ∈ tb_ := tb_in 103 (by decide +kernel) rfl
theorem k_Li_23 : Cond.methodLink R_Li 23 y_NT_init ∈ tb_ := tb_in 107 (by decide +kernel) rfl
theorem k_Li_58 : Cond.methodLink R_Li 58 y_NT_findOrNull ∈ tb_ := tb_in 272 (by decide +kernel) rfl
theorem k_Li_62 : Cond.methodLink R_Li 62 y_Li_addressOf ∈ tb_ := tb_in 276 (by decide +kernel) rfl
theorem k_Li_80 : Cond.methodLink R_Li 80 y_Li_forget ∈ tb_ := tb_in 681 (by decide +kernel) rfl
theorem k_Li_83 : Cond.methodLink R_Li 83 y_Li_gatherNames ∈ tb_ := tb_in 697 (by decide +kernel) rfl
theorem k_Li_87 : Cond.methodLink R_Li 87 y_Li_reachFrom ∈ tb_ := tb_in 732 (by decide +kernel) rfl
theorem k_Li_91 : Cond.methodLink R_Li 91 y_Li_nothingIsMissing ∈ tb_ := tb_in 748 (by decide +kernel) rfl
theorem k_Li_94 : Cond.methodLink R_Li 94 y_Li_layOut ∈ tb_ := tb_in 753 (by decide +kernel) rfl
theorem k_Li_97 : Cond.methodLink R_Li 97 y_Li_workIn ∈ tb_ := tb_in 776 (by decide +kernel) rfl
theorem k_Li_100 : Cond.methodLink R_Li 100 y_Li_dropImage ∈ tb_ := tb_in 685 (by decide +kernel) rfl
theorem k_Li_103 : Cond.methodLink R_Li 103 y_Li_tell ∈ tb_ := tb_in 689 (by decide +kernel) rfl
theorem k_Li_107 : Cond.methodLink R_Li 107 y_NT_clear ∈ tb_ := tb_in 693 (by decide +kernel) rfl
theorem k_Li_135 : Cond.methodLink R_Li 135 y_NT_enter ∈ tb_ := tb_in 701 (by decide +kernel) rfl
theorem k_Li_139 : Cond.methodLink R_Li 139 y_Li_reach ∈ tb_ := tb_in 736 (by decide +kernel) rfl
theorem k_Li_143 : Cond.methodLink R_Li 143 y_Li_reachFromSection ∈ tb_ := tb_in 740 (by decide +kernel) rfl
theorem k_Li_162 : Cond.methodLink R_Li 162 y_NT_meaningOf ∈ tb_ := tb_in 744 (by decide +kernel) rfl
theorem k_Li_172 : Cond.methodLink R_Li 172 y_Li_layOutKind ∈ tb_ := tb_in 757 (by decide +kernel) rfl
theorem k_Li_175 : Cond.methodLink R_Li 175 y_Li_layOutCommons ∈ tb_ := tb_in 765 (by decide +kernel) rfl
theorem k_Li_178 : Cond.methodLink R_Li 178 y_Li_copyBytes ∈ tb_ := tb_in 769 (by decide +kernel) rfl
theorem k_Li_197 : Cond.methodLink R_Li 197 y_Li_nextPlace ∈ tb_ := tb_in 761 (by decide +kernel) rfl
theorem k_Li_214 : Cond.methodLink R_Li 214 arraycopyName ∈ tb_ := tb_in 773 (by decide +kernel) rfl
theorem k_Li_220 : Cond.methodLink R_Li 220 y_Li_workInOne ∈ tb_ := tb_in 780 (by decide +kernel) rfl
theorem k_Li_234 : Cond.methodLink R_Li 234 y_Li_faultOfWay ∈ tb_ := tb_in 785 (by decide +kernel) rfl
theorem k_Li_238 : Cond.methodLink R_Li 238 y_Li_valueOfWay ∈ tb_ := tb_in 794 (by decide +kernel) rfl
theorem k_Li_242 : Cond.methodLink R_Li 242 y_Li_putInto ∈ tb_ := tb_in 798 (by decide +kernel) rfl
theorem k_Me_3 : Cond.methodLink R_Me 3 Lib.objectInit ∈ tb_ := tb_in 117 (by decide +kernel) rfl
theorem k_Me_37 : Cond.methodLink R_Me 37 Lib.Math.max.name ∈ tb_ := tb_in 729 (by decide +kernel) rfl
theorem k_Na_1 : Cond.methodLink R_Na 1 Lib.objectInit ∈ tb_ := tb_in 557 (by decide +kernel) rfl
theorem k_NT_3 : Cond.methodLink R_NT 3 Lib.objectInit ∈ tb_ := tb_in 110 (by decide +kernel) rfl
theorem k_NT_34 : Cond.methodLink R_NT 34 y_NT_findOrNull ∈ tb_ := tb_in 709 (by decide +kernel) rfl
theorem k_NT_38 : Cond.methodLink R_NT 38 y_Me_begin ∈ tb_ := tb_in 710 (by decide +kernel) rfl
theorem k_NT_45 : Cond.methodLink R_NT 45 y_NT_findOrBegin ∈ tb_ := tb_in 705 (by decide +kernel) rfl
theorem k_NT_62 : Cond.methodLink R_NT 62 y_Me_define ∈ tb_ := tb_in 717 (by decide +kernel) rfl
theorem k_NT_66 : Cond.methodLink R_NT 66 y_NT_enterCommon ∈ tb_ := tb_in 721 (by decide +kernel) rfl
theorem k_NT_70 : Cond.methodLink R_NT 70 y_Me_widen ∈ tb_ := tb_in 725 (by decide +kernel) rfl
theorem k_Oc_3 : Cond.methodLink R_Oc 3 Lib.objectInit ∈ tb_ := tb_in 241 (by decide +kernel) rfl
theorem k_Oc_19 : Cond.methodLink R_Oc 19 y_Oc_put ∈ tb_ := tb_in 843 (by decide +kernel) rfl
theorem k_Oc_38 : Cond.methodLink R_Oc 38 y_Oc_putSection ∈ tb_ := tb_in 847 (by decide +kernel) rfl
theorem k_Oc_46 : Cond.methodLink R_Oc 46 y_Oc_putName ∈ tb_ := tb_in 851 (by decide +kernel) rfl
theorem k_Oc_54 : Cond.methodLink R_Oc 54 y_Oc_putReference ∈ tb_ := tb_in 855 (by decide +kernel) rfl
theorem k_Oc_58 : Cond.methodLink R_Oc 58 y_Oc_sumOf ∈ tb_ := tb_in 859 (by decide +kernel) rfl
theorem k_Re_3 : Cond.methodLink R_Re 3 Lib.objectInit ∈ tb_ := tb_in 892 (by decide +kernel) rfl
theorem k_Re_19 : Cond.methodLink R_Re 19 y_Re_take ∈ tb_ := tb_in 910 (by decide +kernel) rfl
theorem k_Re_23 : Cond.methodLink R_Re 23 y_Re_sumIsRight ∈ tb_ := tb_in 914 (by decide +kernel) rfl
theorem k_Re_30 : Cond.methodLink R_Re 30 y_Re_takeSections ∈ tb_ := tb_in 921 (by decide +kernel) rfl
theorem k_Re_34 : Cond.methodLink R_Re 34 y_Re_takeNames ∈ tb_ := tb_in 929 (by decide +kernel) rfl
theorem k_Re_37 : Cond.methodLink R_Re 37 y_Re_takeReferences ∈ tb_ := tb_in 937 (by decide +kernel) rfl
theorem k_Re_43 : Cond.methodLink R_Re 43 y_Oc_sumOf ∈ tb_ := tb_in 918 (by decide +kernel) rfl
theorem k_Re_53 : Cond.methodLink R_Re 53 y_Se_canBe ∈ tb_ := tb_in 925 (by decide +kernel) rfl
theorem k_Re_59 : Cond.methodLink R_Re 59 y_Se_init ∈ tb_ := tb_in 927 (by decide +kernel) rfl
theorem k_Re_65 : Cond.methodLink R_Re 65 y_Un_addSection ∈ tb_ := tb_in 928 (by decide +kernel) rfl
theorem k_Re_69 : Cond.methodLink R_Re 69 y_Un_canName ∈ tb_ := tb_in 933 (by decide +kernel) rfl
theorem k_Re_75 : Cond.methodLink R_Re 75 y_Na_init ∈ tb_ := tb_in 935 (by decide +kernel) rfl
theorem k_Re_78 : Cond.methodLink R_Re 78 y_Un_addName ∈ tb_ := tb_in 936 (by decide +kernel) rfl
theorem k_Re_82 : Cond.methodLink R_Re 82 y_Un_canRefer ∈ tb_ := tb_in 941 (by decide +kernel) rfl
theorem k_Re_87 : Cond.methodLink R_Re 87 y_Rf_init ∈ tb_ := tb_in 943 (by decide +kernel) rfl
theorem k_Re_90 : Cond.methodLink R_Re 90 y_Un_addReference ∈ tb_ := tb_in 944 (by decide +kernel) rfl
theorem k_Rf_1 : Cond.methodLink R_Rf 1 Lib.objectInit ∈ tb_ := tb_in 604 (by decide +kernel) rfl
theorem k_Se_3 : Cond.methodLink R_Se 3 Lib.objectInit ∈ tb_ := tb_in 475 (by decide +kernel) rfl
theorem k_Se_25 : Cond.methodLink R_Se 25 y_Se_powerCanBe ∈ tb_ := tb_in 450 (by decide +kernel) rfl
theorem k_Se_29 : Cond.methodLink R_Se 29 Lib.Math.min.name ∈ tb_ := tb_in 522 (by decide +kernel) rfl
theorem k_Un_3 : Cond.methodLink R_Un 3 Lib.objectInit ∈ tb_ := tb_in 373 (by decide +kernel) rfl
theorem k_Un_33 : Cond.methodLink R_Un 33 y_Un_sortCanBe ∈ tb_ := tb_in 536 (by decide +kernel) rfl
theorem k_Un_37 : Cond.methodLink R_Un 37 y_Un_hasName ∈ tb_ := tb_in 546 (by decide +kernel) rfl
theorem k_Un_41 : Cond.methodLink R_Un 41 y_Un_sectionOrNull ∈ tb_ := tb_in 540 (by decide +kernel) rfl
theorem k_Un_45 : Cond.methodLink R_Un 45 y_Se_hasPlace ∈ tb_ := tb_in 541 (by decide +kernel) rfl
theorem k_Un_48 : Cond.methodLink R_Un 48 y_Se_powerCanBe ∈ tb_ := tb_in 545 (by decide +kernel) rfl
theorem k_La_7 : Cond.methodLink R_La 7 y_OL_object ∈ tb_ := tb_in 296 (by decide +kernel) rfl
theorem k_La_15 : Cond.methodLink R_La 15 y_OL_section ∈ tb_ := tb_in 423 (by decide +kernel) rfl
theorem k_La_23 : Cond.methodLink R_La 23 y_OL_bytes ∈ tb_ := tb_in 508 (by decide +kernel) rfl
theorem k_La_26 : Cond.methodLink R_La 26 y_OL_name ∈ tb_ := tb_in 528 (by decide +kernel) rfl
theorem k_La_30 : Cond.methodLink R_La 30 y_OL_reference ∈ tb_ := tb_in 587 (by decide +kernel) rfl
theorem k_La_34 : Cond.methodLink R_La 34 y_OL_choose ∈ tb_ := tb_in 638 (by decide +kernel) rfl
theorem k_La_38 : Cond.methodLink R_La 38 y_OL_link ∈ tb_ := tb_in 655 (by decide +kernel) rfl
theorem k_La_44 : Cond.methodLink R_La 44 y_OL_fault ∈ tb_ := tb_in 806 (by decide +kernel) rfl
theorem k_La_47 : Cond.methodLink R_La 47 y_OL_image ∈ tb_ := tb_in 814 (by decide +kernel) rfl
theorem k_La_50 : Cond.methodLink R_La 50 y_OL_placeOf ∈ tb_ := tb_in 822 (by decide +kernel) rfl
theorem k_La_53 : Cond.methodLink R_La 53 y_OL_write ∈ tb_ := tb_in 835 (by decide +kernel) rfl
theorem k_La_56 : Cond.methodLink R_La 56 y_OL_written ∈ tb_ := tb_in 866 (by decide +kernel) rfl
theorem k_La_59 : Cond.methodLink R_La 59 y_OL_alter ∈ tb_ := tb_in 874 (by decide +kernel) rfl
theorem k_La_62 : Cond.methodLink R_La 62 y_OL_read ∈ tb_ := tb_in 882 (by decide +kernel) rfl
theorem k_La_65 : Cond.methodLink R_La 65 y_OL_init ∈ tb_ := tb_in 90 (by decide +kernel) rfl
theorem k_La_68 : Cond.methodLink R_La 68 y_Mo_init ∈ tb_ := tb_in 948 (by decide +kernel) rfl
theorem k_La_69 : Cond.methodLink R_La 69 y_La_object ∈ tb_ := tb_in 292 (by decide +kernel) rfl
theorem k_La_74 : Cond.methodLink R_La 74 y_Mo_object ∈ tb_ := tb_in 1083 (by decide +kernel) rfl
theorem k_La_75 : Cond.methodLink R_La 75 y_Mo_thrown ∈ tb_ := tb_in 1079 (by decide +kernel) rfl
theorem k_La_78 : Cond.methodLink R_La 78 y_La_section ∈ tb_ := tb_in 418 (by decide +kernel) rfl
theorem k_La_81 : Cond.methodLink R_La 81 y_Mo_section ∈ tb_ := tb_in 1095 (by decide +kernel) rfl
theorem k_La_82 : Cond.methodLink R_La 82 y_La_bytes ∈ tb_ := tb_in 505 (by decide +kernel) rfl
theorem k_La_84 : Cond.methodLink R_La 84 y_Mo_bytes ∈ tb_ := tb_in 1113 (by decide +kernel) rfl
theorem k_La_85 : Cond.methodLink R_La 85 y_La_name ∈ tb_ := tb_in 525 (by decide +kernel) rfl
theorem k_La_88 : Cond.methodLink R_La 88 y_Mo_name ∈ tb_ := tb_in 1121 (by decide +kernel) rfl
theorem k_La_89 : Cond.methodLink R_La 89 y_La_reference ∈ tb_ := tb_in 584 (by decide +kernel) rfl
theorem k_La_92 : Cond.methodLink R_La 92 y_Mo_reference ∈ tb_ := tb_in 1137 (by decide +kernel) rfl
theorem k_La_93 : Cond.methodLink R_La 93 y_La_choose ∈ tb_ := tb_in 635 (by decide +kernel) rfl
theorem k_La_96 : Cond.methodLink R_La 96 y_Mo_choose ∈ tb_ := tb_in 1149 (by decide +kernel) rfl
theorem k_La_97 : Cond.methodLink R_La 97 y_La_link ∈ tb_ := tb_in 651 (by decide +kernel) rfl
theorem k_La_100 : Cond.methodLink R_La 100 y_Mo_link ∈ tb_ := tb_in 1153 (by decide +kernel) rfl
theorem k_La_101 : Cond.methodLink R_La 101 y_La_fault ∈ tb_ := tb_in 803 (by decide +kernel) rfl
theorem k_La_103 : Cond.methodLink R_La 103 y_Mo_fault ∈ tb_ := tb_in 1237 (by decide +kernel) rfl
theorem k_La_104 : Cond.methodLink R_La 104 y_La_image ∈ tb_ := tb_in 811 (by decide +kernel) rfl
theorem k_La_106 : Cond.methodLink R_La 106 y_Mo_image ∈ tb_ := tb_in 1241 (by decide +kernel) rfl
theorem k_La_107 : Cond.methodLink R_La 107 y_La_placeOf ∈ tb_ := tb_in 819 (by decide +kernel) rfl
theorem k_La_109 : Cond.methodLink R_La 109 y_Mo_placeOf ∈ tb_ := tb_in 1245 (by decide +kernel) rfl
theorem k_La_110 : Cond.methodLink R_La 110 y_OL_nameAt ∈ tb_ := tb_in 264 (by decide +kernel) rfl
theorem k_La_113 : Cond.methodLink R_La 113 y_Mo_nameAt ∈ tb_ := tb_in 1249 (by decide +kernel) rfl
theorem k_La_114 : Cond.methodLink R_La 114 y_La_write ∈ tb_ := tb_in 832 (by decide +kernel) rfl
theorem k_La_116 : Cond.methodLink R_La 116 y_Mo_write ∈ tb_ := tb_in 1253 (by decide +kernel) rfl
theorem k_La_117 : Cond.methodLink R_La 117 y_La_written ∈ tb_ := tb_in 863 (by decide +kernel) rfl
theorem k_La_119 : Cond.methodLink R_La 119 y_Mo_written ∈ tb_ := tb_in 1266 (by decide +kernel) rfl
theorem k_La_120 : Cond.methodLink R_La 120 y_La_alter ∈ tb_ := tb_in 871 (by decide +kernel) rfl
theorem k_La_122 : Cond.methodLink R_La 122 y_Mo_alter ∈ tb_ := tb_in 1270 (by decide +kernel) rfl
theorem k_La_123 : Cond.methodLink R_La 123 y_La_read ∈ tb_ := tb_in 879 (by decide +kernel) rfl
theorem k_La_125 : Cond.methodLink R_La 125 y_Mo_read ∈ tb_ := tb_in 1274 (by decide +kernel) rfl
theorem k_La_126 : Cond.methodLink R_La 126 y_OL_count ∈ tb_ := tb_in 280 (by decide +kernel) rfl
theorem k_La_129 : Cond.methodLink R_La 129 y_Mo_count ∈ tb_ := tb_in 1290 (by decide +kernel) rfl
theorem k_Mo_1 : Cond.methodLink R_Mo 1 Lib.objectInit ∈ tb_ := tb_in 951 (by decide +kernel) rfl
theorem k_Mo_99 : Cond.methodLink R_Mo 99 y_Mo_within ∈ tb_ := tb_in 1103 (by decide +kernel) rfl
theorem k_Mo_103 : Cond.methodLink R_Mo 103 y_Mo_fail ∈ tb_ := tb_in 1087 (by decide +kernel) rfl
theorem k_Mo_107 : Cond.methodLink R_Mo 107 y_Mo_emptyObject ∈ tb_ := tb_in 1091 (by decide +kernel) rfl
theorem k_Mo_111 : Cond.methodLink R_Mo 111 y_Mo_isObject ∈ tb_ := tb_in 1099 (by decide +kernel) rfl
theorem k_Mo_115 : Cond.methodLink R_Mo 115 y_Mo_isSection ∈ tb_ := tb_in 1106 (by decide +kernel) rfl
theorem k_Mo_118 : Cond.methodLink R_Mo 118 y_Mo_addSection ∈ tb_ := tb_in 1109 (by decide +kernel) rfl
theorem k_Mo_122 : Cond.methodLink R_Mo 122 y_Mo_hasSection ∈ tb_ := tb_in 1117 (by decide +kernel) rfl
theorem k_Mo_126 : Cond.methodLink R_Mo 126 y_Mo_hasName ∈ tb_ := tb_in 1129 (by decide +kernel) rfl
theorem k_Mo_129 : Cond.methodLink R_Mo 129 y_Mo_isName ∈ tb_ := tb_in 1125 (by decide +kernel) rfl
theorem k_Mo_133 : Cond.methodLink R_Mo 133 y_Mo_addName ∈ tb_ := tb_in 1133 (by decide +kernel) rfl
theorem k_Mo_137 : Cond.methodLink R_Mo 137 y_Mo_isReference ∈ tb_ := tb_in 1141 (by decide +kernel) rfl
theorem k_Mo_140 : Cond.methodLink R_Mo 140 y_Mo_addReference ∈ tb_ := tb_in 1145 (by decide +kernel) rfl
theorem k_Mo_147 : Cond.methodLink R_Mo 147 y_Mo_firstOf ∈ tb_ := tb_in 1162 (by decide +kernel) rfl
theorem k_Mo_151 : Cond.methodLink R_Mo 151 y_Mo_meaning ∈ tb_ := tb_in 1174 (by decide +kernel) rfl
theorem k_Mo_157 : Cond.methodLink R_Mo 157 y_Mo_tell ∈ tb_ := tb_in 1166 (by decide +kernel) rfl
theorem k_Mo_161 : Cond.methodLink R_Mo 161 y_Mo_reach ∈ tb_ := tb_in 1178 (by decide +kernel) rfl
theorem k_Mo_164 : Cond.methodLink R_Mo 164 y_Mo_isWorked ∈ tb_ := tb_in 1182 (by decide +kernel) rfl
theorem k_Mo_167 : Cond.methodLink R_Mo 167 y_Mo_meaningOf ∈ tb_ := tb_in 1186 (by decide +kernel) rfl
theorem k_Mo_185 : Cond.methodLink R_Mo 185 y_Mo_next ∈ tb_ := tb_in 1194 (by decide +kernel) rfl
theorem k_Mo_188 : Cond.methodLink R_Mo 188 y_Mo_greatest ∈ tb_ := tb_in 1198 (by decide +kernel) rfl
theorem k_Mo_197 : Cond.methodLink R_Mo 197 y_Mo_placeOfMeaning ∈ tb_ := tb_in 1210 (by decide +kernel) rfl
theorem k_Mo_200 : Cond.methodLink R_Mo 200 y_Mo_put ∈ tb_ := tb_in 1214 (by decide +kernel) rfl
theorem k_Mo_208 : Cond.methodLink R_Mo 208 y_Mo_in ∈ tb_ := tb_in 1221 (by decide +kernel) rfl
theorem k_Mo_230 : Cond.methodLink R_Mo 230 y_Mo_findDoubled ∈ tb_ := tb_in 1158 (by decide +kernel) rfl
theorem k_Mo_233 : Cond.methodLink R_Mo 233 y_Mo_findReached ∈ tb_ := tb_in 1170 (by decide +kernel) rfl
theorem k_Mo_236 : Cond.methodLink R_Mo 236 y_Mo_order ∈ tb_ := tb_in 1190 (by decide +kernel) rfl
theorem k_Mo_239 : Cond.methodLink R_Mo 239 y_Mo_copySections ∈ tb_ := tb_in 1202 (by decide +kernel) rfl
theorem k_Mo_242 : Cond.methodLink R_Mo 242 y_Mo_workIn ∈ tb_ := tb_in 1206 (by decide +kernel) rfl
theorem k_Mo_246 : Cond.methodLink R_Mo 246 y_Mo_know ∈ tb_ := tb_in 1229 (by decide +kernel) rfl
theorem k_Mo_249 : Cond.methodLink R_Mo 249 y_Mo_noImage ∈ tb_ := tb_in 1233 (by decide +kernel) rfl
theorem k_Mo_256 : Cond.methodLink R_Mo 256 y_Mo_say ∈ tb_ := tb_in 1257 (by decide +kernel) rfl
theorem k_Mo_259 : Cond.methodLink R_Mo 259 y_Mo_sumOf ∈ tb_ := tb_in 1261 (by decide +kernel) rfl
theorem k_Mo_268 : Cond.methodLink R_Mo 268 y_Mo_take ∈ tb_ := tb_in 1282 (by decide +kernel) rfl
theorem k_Mo_271 : Cond.methodLink R_Mo 271 y_Mo_need ∈ tb_ := tb_in 1286 (by decide +kernel) rfl
theorem k_Mo_275 : Cond.methodLink R_Mo 275 y_Mo_fill ∈ tb_ := tb_in 1278 (by decide +kernel) rfl
theorem k_OL_17 : (R_OL, 17, y_Li_init, "ObjectLinks") ∈ nwM := by decide +kernel
theorem k_OL_24 : (R_OL, 24, y_Oc_init, "ObjectLinks") ∈ nwM := by decide +kernel
theorem k_OL_40 : (R_OL, 40, y_Un_init, "ObjectLinks") ∈ nwM := by decide +kernel
theorem k_Li_168 : (R_Li, 168, y_OL_slotOf, "ObjectLinks") ∈ nwM := by decide +kernel
theorem k_NT_23 : (R_NT, 23, y_Me_init, "ObjectLinks") ∈ nwM := by decide +kernel
theorem k_NT_55 : (R_NT, 55, y_OL_slotOf, "ObjectLinks") ∈ nwM := by decide +kernel
theorem k_Re_29 : (R_Re, 29, y_Un_init, "ObjectLinks") ∈ nwM := by decide +kernel
theorem k_OL_9 : Cond.classLink R_OL 9 R_Un ∈ tb_ := tb_in 96 (by decide +kernel) rfl
theorem k_OL_15 : Cond.classLink R_OL 15 R_Li ∈ tb_ := tb_in 98 (by decide +kernel) rfl
theorem k_OL_22 : Cond.classLink R_OL 22 R_Oc ∈ tb_ := tb_in 236 (by decide +kernel) rfl
theorem k_OL_33 : Cond.classLink R_OL 33 "java/lang/UnsupportedOperationException" ∈ tb_ := tb_in 300 (by decide +kernel) rfl
theorem k_OL_50 : Cond.classLink R_OL 50 R_Se ∈ tb_ := tb_in 470 (by decide +kernel) rfl
theorem k_OL_55 : Cond.classLink R_OL 55 "java/lang/IllegalArgumentException" ∈ tb_ := tb_in 453 (by decide +kernel) rfl
theorem k_OL_102 : Cond.classLink R_OL 102 R_Na ∈ tb_ := tb_in 552 (by decide +kernel) rfl
theorem k_OL_121 : Cond.classLink R_OL 121 R_Rf ∈ tb_ := tb_in 599 (by decide +kernel) rfl
theorem k_OL_146 : Cond.classLink R_OL 146 "java/lang/IllegalStateException" ∈ tb_ := tb_in 661 (by decide +kernel) rfl
theorem k_OL_169 : Cond.classLink R_OL 169 "java/lang/IndexOutOfBoundsException" ∈ tb_ := tb_in 431 (by decide +kernel) rfl
theorem k_OL_205 : Cond.classLink R_OL 205 R_Re ∈ tb_ := tb_in 887 (by decide +kernel) rfl
theorem k_Li_9 : Cond.classLink R_Li 9 R_Un ∈ tb_ := tb_in 104 (by decide +kernel) rfl
theorem k_Li_21 : Cond.classLink R_Li 21 R_NT ∈ tb_ := tb_in 105 (by decide +kernel) rfl
theorem k_NT_9 : Cond.classLink R_NT 9 R_Me ∈ tb_ := tb_in 111 (by decide +kernel) rfl
theorem k_Re_27 : Cond.classLink R_Re 27 R_Un ∈ tb_ := tb_in 919 (by decide +kernel) rfl
theorem k_Re_54 : Cond.classLink R_Re 54 R_Se ∈ tb_ := tb_in 926 (by decide +kernel) rfl
theorem k_Re_73 : Cond.classLink R_Re 73 R_Na ∈ tb_ := tb_in 934 (by decide +kernel) rfl
theorem k_Re_85 : Cond.classLink R_Re 85 R_Rf ∈ tb_ := tb_in 942 (by decide +kernel) rfl
theorem k_Un_9 : Cond.classLink R_Un 9 R_Se ∈ tb_ := tb_in 374 (by decide +kernel) rfl
theorem k_Un_17 : Cond.classLink R_Un 17 R_Na ∈ tb_ := tb_in 376 (by decide +kernel) rfl
theorem k_Un_23 : Cond.classLink R_Un 23 R_Rf ∈ tb_ := tb_in 378 (by decide +kernel) rfl
theorem k_La_8 : Cond.classLink R_La 8 R_OL ∈ tb_ := tb_in 88 (by decide +kernel) rfl
theorem k_La_13 : Cond.classLink R_La 13 "java/lang/UnsupportedOperationException" ∈ tb_ := tb_in 295 (by decide +kernel) rfl
theorem k_La_19 : Cond.classLink R_La 19 "java/lang/IndexOutOfBoundsException" ∈ tb_ := tb_in 421 (by decide +kernel) rfl
theorem k_La_21 : Cond.classLink R_La 21 "java/lang/IllegalArgumentException" ∈ tb_ := tb_in 422 (by decide +kernel) rfl
theorem k_La_42 : Cond.classLink R_La 42 "java/lang/IllegalStateException" ∈ tb_ := tb_in 654 (by decide +kernel) rfl
theorem k_La_66 : Cond.classLink R_La 66 R_Mo ∈ tb_ := tb_in 946 (by decide +kernel) rfl
theorem k_OL_140 : Cond.constant R_OL 140 1000000 ∈ tb_ := tb_in 659 (by decide +kernel) rfl
theorem k_Oc_101 : Cond.constant R_Oc 101 65535 ∈ tb_ := tb_in 862 (by decide +kernel) rfl
theorem k_Mo_229 : Cond.constant R_Mo 229 1000000 ∈ tb_ := tb_in 1157 (by decide +kernel) rfl
theorem k_Mo_255 : Cond.constant R_Mo 255 65535 ∈ tb_ := tb_in 1265 (by decide +kernel) rfl
theorem k_Li_246 : Cond.constantLong R_Li 246 65535 ∈ tb_ := tb_in 788 (by decide +kernel) rfl
theorem k_Li_248 : Cond.constantLong R_Li 248 (-32768) ∈ tb_ := tb_in 789 (by decide +kernel) rfl
theorem k_Li_250 : Cond.constantLong R_Li 250 32767 ∈ tb_ := tb_in 790 (by decide +kernel) rfl
theorem k_Li_252 : Cond.constantLong R_Li 252 3 ∈ tb_ := tb_in 791 (by decide +kernel) rfl
theorem k_Li_254 : Cond.constantLong R_Li 254 (-128) ∈ tb_ := tb_in 792 (by decide +kernel) rfl
theorem k_Li_256 : Cond.constantLong R_Li 256 127 ∈ tb_ := tb_in 793 (by decide +kernel) rfl
theorem k_Li_258 : Cond.constantLong R_Li 258 32768 ∈ tb_ := tb_in 797 (by decide +kernel) rfl
theorem k_Mo_195 : Cond.constantLong R_Mo 195 255 ∈ tb_ := tb_in 1218 (by decide +kernel) rfl
theorem k_Mo_204 : Cond.constantLong R_Mo 204 32768 ∈ tb_ := tb_in 1219 (by decide +kernel) rfl
theorem k_Mo_206 : Cond.constantLong R_Mo 206 65535 ∈ tb_ := tb_in 1220 (by decide +kernel) rfl
theorem k_Mo_212 : Cond.constantLong R_Mo 212 (-32768) ∈ tb_ := tb_in 1224 (by decide +kernel) rfl
theorem k_Mo_214 : Cond.constantLong R_Mo 214 32767 ∈ tb_ := tb_in 1225 (by decide +kernel) rfl
theorem k_Mo_216 : Cond.constantLong R_Mo 216 3 ∈ tb_ := tb_in 1226 (by decide +kernel) rfl
theorem k_Mo_218 : Cond.constantLong R_Mo 218 (-128) ∈ tb_ := tb_in 1227 (by decide +kernel) rfl
theorem k_Mo_220 : Cond.constantLong R_Mo 220 127 ∈ tb_ := tb_in 1228 (by decide +kernel) rfl
theorem k_obj : Cond.instanceMethod Lib.objectInit ∈ tb_ ∧ Cond.code Lib.objectInit ⟨#[0xb1]⟩ 1 none ∈ tb_ := ⟨tb_in 94 (by decide +kernel) rfl, tb_in 95 (by decide +kernel) rfl⟩
theorem k_max : Cond.static Lib.Math.max.name ∈ tb_ ∧ Cond.initialized "java/lang/Math" ∈ tb_ ∧ Cond.code Lib.Math.max.name Lib.Math.max.code 2 (some .int) ∈ tb_ := ⟨tb_in 730 (by decide +kernel) rfl, tb_in 82 (by decide +kernel) rfl, tb_in 731 (by decide +kernel) rfl⟩
theorem k_min : Cond.static Lib.Math.min.name ∈ tb_ ∧ Cond.initialized "java/lang/Math" ∈ tb_ ∧ Cond.code Lib.Math.min.name Lib.Math.min.code 2 (some .int) ∈ tb_ := ⟨tb_in 523 (by decide +kernel) rfl, tb_in 82 (by decide +kernel) rfl, tb_in 524 (by decide +kernel) rfl⟩
theorem k_copy : Cond.native arraycopyName ∈ tb_ ∧ Cond.static arraycopyName ∈ tb_ ∧ Cond.initialized "java/lang/System" ∈ tb_ := ⟨tb_in 775 (by decide +kernel) rfl, tb_in 774 (by decide +kernel) rfl, tb_in 86 (by decide +kernel) rfl⟩
theorem k_arr_int : Cond.arrayClass .int ∈ tb_ := tb_in 152 (by decide +kernel) rfl
theorem k_arr_boolean : Cond.arrayClass .boolean ∈ tb_ := tb_in 235 (by decide +kernel) rfl
theorem k_arr_long : Cond.arrayClass .long ∈ tb_ := tb_in 1294 (by decide +kernel) rfl
end
section
theorem d_OL_init_0 : decode b_OL_init 0 = .ok (.aload_n 0, 1) := by decide +kernel
theorem d_OL_init_1 : decode b_OL_init 1 = .ok (.invokespecial 3, 3) := by decide +kernel
theorem d_OL_init_4 : decode b_OL_init 4 = .ok (.aload_n 0, 1) := by decide +kernel
theorem d_OL_init_5 : decode b_OL_init 5 = .ok (.bipush 12, 2) := by decide +kernel
theorem d_OL_init_7 : decode b_OL_init 7 = .ok (.anewarray 9, 3) := by decide +kernel
theorem d_OL_init_10 : decode b_OL_init 10 = .ok (.putfield 11, 3) := by decide +kernel
theorem d_OL_init_13 : decode b_OL_init 13 = .ok (.aload_n 0, 1) := by decide +kernel
theorem d_OL_init_14 : decode b_OL_init 14 = .ok (.new 15, 3) := by decide +kernel
theorem d_OL_init_17 : decode b_OL_init 17 = .ok (.dup, 1) := by decide +kernel
theorem d_OL_init_18 : decode b_OL_init 18 = .ok (.invokespecial 17, 3) := by decide +kernel
theorem d_OL_init_21 : decode b_OL_init 21 = .ok (.putfield 18, 3) := by decide +kernel
theorem d_OL_init_24 : decode b_OL_init 24 = .ok (.aload_n 0, 1) := by decide +kernel
theorem d_OL_init_25 : decode b_OL_init 25 = .ok (.new 22, 3) := by decide +kernel
theorem d_OL_init_28 : decode b_OL_init 28 = .ok (.dup, 1) := by decide +kernel
theorem d_OL_init_29 : decode b_OL_init 29 = .ok (.invokespecial 24, 3) := by decide +kernel
theorem d_OL_init_32 : decode b_OL_init 32 = .ok (.putfield 25, 3) := by decide +kernel
theorem d_OL_init_35 : decode b_OL_init 35 = .ok (.return_, 1) := by decide +kernel
theorem d_Li_init_0 : decode b_Li_init 0 = .ok (.aload_n 0, 1) := by decide +kernel
theorem d_Li_init_1 : decode b_Li_init 1 = .ok (.invokespecial 3, 3) := by decide +kernel
theorem d_Li_init_4 : decode b_Li_init 4 = .ok (.aload_n 0, 1) := by decide +kernel
theorem d_Li_init_5 : decode b_Li_init 5 = .ok (.bipush 12, 2) := by decide +kernel
theorem d_Li_init_7 : decode b_Li_init 7 = .ok (.anewarray 9, 3) := by decide +kernel
theorem d_Li_init_10 : decode b_Li_init 10 = .ok (.putfield 11, 3) := by decide +kernel
theorem d_Li_init_13 : decode b_Li_init 13 = .ok (.aload_n 0, 1) := by decide +kernel
theorem d_Li_init_14 : decode b_Li_init 14 = .ok (.bipush 12, 2) := by decide +kernel
theorem d_Li_init_16 : decode b_Li_init 16 = .ok (.newarray .int, 2) := by decide +kernel
theorem d_Li_init_18 : decode b_Li_init 18 = .ok (.putfield 17, 3) := by decide +kernel
theorem d_Li_init_21 : decode b_Li_init 21 = .ok (.aload_n 0, 1) := by decide +kernel
theorem d_Li_init_22 : decode b_Li_init 22 = .ok (.new 21, 3) := by decide +kernel
theorem d_Li_init_25 : decode b_Li_init 25 = .ok (.dup, 1) := by decide +kernel
theorem d_Li_init_26 : decode b_Li_init 26 = .ok (.invokespecial 23, 3) := by decide +kernel
theorem d_Li_init_29 : decode b_Li_init 29 = .ok (.putfield 24, 3) := by decide +kernel
theorem d_Li_init_32 : decode b_Li_init 32 = .ok (.aload_n 0, 1) := by decide +kernel
theorem d_Li_init_33 : decode b_Li_init 33 = .ok (.bipush 96, 2) := by decide +kernel
theorem d_Li_init_35 : decode b_Li_init 35 = .ok (.newarray .boolean, 2) := by decide +kernel
theorem d_Li_init_37 : decode b_Li_init 37 = .ok (.putfield 28, 3) := by decide +kernel
theorem d_Li_init_40 : decode b_Li_init 40 = .ok (.aload_n 0, 1) := by decide +kernel
theorem d_Li_init_41 : decode b_Li_init 41 = .ok (.bipush 96, 2) := by decide +kernel
theorem d_Li_init_43 : decode b_Li_init 43 = .ok (.newarray .int, 2) := by decide +kernel
theorem d_Li_init_45 : decode b_Li_init 45 = .ok (.putfield 32, 3) := by decide +kernel
theorem d_Li_init_48 : decode b_Li_init 48 = .ok (.aload_n 0, 1) := by decide +kernel
theorem d_Li_init_49 : decode b_Li_init 49 = .ok (.bipush 96, 2) := by decide +kernel
theorem d_Li_init_51 : decode b_Li_init 51 = .ok (.newarray .int, 2) := by decide +kernel
theorem d_Li_init_53 : decode b_Li_init 53 = .ok (.putfield 35, 3) := by decide +kernel
theorem d_Li_init_56 : decode b_Li_init 56 = .ok (.aload_n 0, 1) := by decide +kernel
theorem d_Li_init_57 : decode b_Li_init 57 = .ok (.sipush 4096, 3) := by decide +kernel
theorem d_Li_init_60 : decode b_Li_init 60 = .ok (.newarray .int, 2) := by decide +kernel
theorem d_Li_init_62 : decode b_Li_init 62 = .ok (.putfield 38, 3) := by decide +kernel
theorem d_Li_init_65 : decode b_Li_init 65 = .ok (.aload_n 0, 1) := by decide +kernel
theorem d_Li_init_66 : decode b_Li_init 66 = .ok (.iconst (-1), 1) := by decide +kernel
theorem d_Li_init_67 : decode b_Li_init 67 = .ok (.putfield 41, 3) := by decide +kernel
theorem d_Li_init_70 : decode b_Li_init 70 = .ok (.aload_n 0, 1) := by decide +kernel
theorem d_Li_init_71 : decode b_Li_init 71 = .ok (.iconst (-1), 1) := by decide +kernel
theorem d_Li_init_72 : decode b_Li_init 72 = .ok (.putfield 45, 3) := by decide +kernel
theorem d_Li_init_75 : decode b_Li_init 75 = .ok (.return_, 1) := by decide +kernel
theorem d_NT_init_0 : decode b_NT_init 0 = .ok (.aload_n 0, 1) := by decide +kernel
theorem d_NT_init_1 : decode b_NT_init 1 = .ok (.invokespecial 3, 3) := by decide +kernel
theorem d_NT_init_4 : decode b_NT_init 4 = .ok (.aload_n 0, 1) := by decide +kernel
theorem d_NT_init_5 : decode b_NT_init 5 = .ok (.sipush 144, 3) := by decide +kernel
theorem d_NT_init_8 : decode b_NT_init 8 = .ok (.anewarray 9, 3) := by decide +kernel
theorem d_NT_init_11 : decode b_NT_init 11 = .ok (.putfield 11, 3) := by decide +kernel
theorem d_NT_init_14 : decode b_NT_init 14 = .ok (.aload_n 0, 1) := by decide +kernel
theorem d_NT_init_15 : decode b_NT_init 15 = .ok (.sipush 144, 3) := by decide +kernel
theorem d_NT_init_18 : decode b_NT_init 18 = .ok (.anewarray 9, 3) := by decide +kernel
theorem d_NT_init_21 : decode b_NT_init 21 = .ok (.putfield 17, 3) := by decide +kernel
theorem d_NT_init_24 : decode b_NT_init 24 = .ok (.aload_n 0, 1) := by decide +kernel
theorem d_NT_init_25 : decode b_NT_init 25 = .ok (.sipush 144, 3) := by decide +kernel
theorem d_NT_init_28 : decode b_NT_init 28 = .ok (.anewarray 9, 3) := by decide +kernel
theorem d_NT_init_31 : decode b_NT_init 31 = .ok (.putfield 20, 3) := by decide +kernel
theorem d_NT_init_34 : decode b_NT_init 34 = .ok (.iconst 0, 1) := by decide +kernel
theorem d_NT_init_35 : decode b_NT_init 35 = .ok (.istore_n 1, 1) := by decide +kernel
theorem d_NT_init_36 : decode b_NT_init 36 = .ok (.iload_n 1, 1) := by decide +kernel
theorem d_NT_init_37 : decode b_NT_init 37 = .ok (.sipush 144, 3) := by decide +kernel
theorem d_NT_init_40 : decode b_NT_init 40 = .ok (.if_icmp .ge 22, 3) := by decide +kernel
theorem d_NT_init_43 : decode b_NT_init 43 = .ok (.aload_n 0, 1) := by decide +kernel
theorem d_NT_init_44 : decode b_NT_init 44 = .ok (.getfield 11, 3) := by decide +kernel
theorem d_NT_init_47 : decode b_NT_init 47 = .ok (.iload_n 1, 1) := by decide +kernel
theorem d_NT_init_48 : decode b_NT_init 48 = .ok (.new 9, 3) := by decide +kernel
theorem d_NT_init_51 : decode b_NT_init 51 = .ok (.dup, 1) := by decide +kernel
theorem d_NT_init_52 : decode b_NT_init 52 = .ok (.invokespecial 23, 3) := by decide +kernel
theorem d_NT_init_55 : decode b_NT_init 55 = .ok (.aastore, 1) := by decide +kernel
theorem d_NT_init_56 : decode b_NT_init 56 = .ok (.iinc 1 1, 3) := by decide +kernel
theorem d_NT_init_59 : decode b_NT_init 59 = .ok (.goto (-23), 3) := by decide +kernel
theorem d_NT_init_62 : decode b_NT_init 62 = .ok (.return_, 1) := by decide +kernel
theorem d_Me_init_0 : decode b_Me_init 0 = .ok (.aload_n 0, 1) := by decide +kernel
theorem d_Me_init_1 : decode b_Me_init 1 = .ok (.invokespecial 3, 3) := by decide +kernel
theorem d_Me_init_4 : decode b_Me_init 4 = .ok (.return_, 1) := by decide +kernel
theorem d_Oc_init_0 : decode b_Oc_init 0 = .ok (.aload_n 0, 1) := by decide +kernel
theorem d_Oc_init_1 : decode b_Oc_init 1 = .ok (.invokespecial 3, 3) := by decide +kernel
theorem d_Oc_init_4 : decode b_Oc_init 4 = .ok (.aload_n 0, 1) := by decide +kernel
theorem d_Oc_init_5 : decode b_Oc_init 5 = .ok (.sipush 1303, 3) := by decide +kernel
theorem d_Oc_init_8 : decode b_Oc_init 8 = .ok (.newarray .int, 2) := by decide +kernel
theorem d_Oc_init_10 : decode b_Oc_init 10 = .ok (.putfield 9, 3) := by decide +kernel
theorem d_Oc_init_13 : decode b_Oc_init 13 = .ok (.return_, 1) := by decide +kernel
theorem d_OL_nameAt_0 : decode b_OL_nameAt 0 = .ok (.aload_n 0, 1) := by decide +kernel
theorem d_OL_nameAt_1 : decode b_OL_nameAt 1 = .ok (.getfield 18, 3) := by decide +kernel
theorem d_OL_nameAt_4 : decode b_OL_nameAt 4 = .ok (.iload_n 1, 1) := by decide +kernel
theorem d_OL_nameAt_5 : decode b_OL_nameAt 5 = .ok (.invokevirtual 188, 3) := by decide +kernel
theorem d_OL_nameAt_8 : decode b_OL_nameAt 8 = .ok (.ireturn, 1) := by decide +kernel
theorem d_Li_addressOfNumber_0 : decode b_Li_addressOfNumber 0 = .ok (.aload_n 0, 1) := by decide +kernel
theorem d_Li_addressOfNumber_1 : decode b_Li_addressOfNumber 1 = .ok (.getfield 51, 3) := by decide +kernel
theorem d_Li_addressOfNumber_4 : decode b_Li_addressOfNumber 4 = .ok (.ifCond .eq 14, 3) := by decide +kernel
theorem d_Li_addressOfNumber_7 : decode b_Li_addressOfNumber 7 = .ok (.aload_n 0, 1) := by decide +kernel
theorem d_Li_addressOfNumber_8 : decode b_Li_addressOfNumber 8 = .ok (.getfield 24, 3) := by decide +kernel
theorem d_Li_addressOfNumber_11 : decode b_Li_addressOfNumber 11 = .ok (.iload_n 1, 1) := by decide +kernel
theorem d_Li_addressOfNumber_12 : decode b_Li_addressOfNumber 12 = .ok (.invokevirtual 58, 3) := by decide +kernel
theorem d_Li_addressOfNumber_15 : decode b_Li_addressOfNumber 15 = .ok (.goto 4, 3) := by decide +kernel
theorem d_Li_addressOfNumber_18 : decode b_Li_addressOfNumber 18 = .ok (.aconst_null, 1) := by decide +kernel
theorem d_Li_addressOfNumber_19 : decode b_Li_addressOfNumber 19 = .ok (.astore_n 2, 1) := by decide +kernel
theorem d_Li_addressOfNumber_20 : decode b_Li_addressOfNumber 20 = .ok (.aload_n 2, 1) := by decide +kernel
theorem d_Li_addressOfNumber_21 : decode b_Li_addressOfNumber 21 = .ok (.ifnonnull 7, 3) := by decide +kernel
theorem d_Li_addressOfNumber_24 : decode b_Li_addressOfNumber 24 = .ok (.iconst (-1), 1) := by decide +kernel
theorem d_Li_addressOfNumber_25 : decode b_Li_addressOfNumber 25 = .ok (.goto 8, 3) := by decide +kernel
theorem d_Li_addressOfNumber_28 : decode b_Li_addressOfNumber 28 = .ok (.aload_n 0, 1) := by decide +kernel
theorem d_Li_addressOfNumber_29 : decode b_Li_addressOfNumber 29 = .ok (.aload_n 2, 1) := by decide +kernel
theorem d_Li_addressOfNumber_30 : decode b_Li_addressOfNumber 30 = .ok (.invokevirtual 62, 3) := by decide +kernel
theorem d_Li_addressOfNumber_33 : decode b_Li_addressOfNumber 33 = .ok (.ireturn, 1) := by decide +kernel
theorem d_NT_findOrNull_0 : decode b_NT_findOrNull 0 = .ok (.iconst 0, 1) := by decide +kernel
theorem d_NT_findOrNull_1 : decode b_NT_findOrNull 1 = .ok (.istore_n 2, 1) := by decide +kernel
theorem d_NT_findOrNull_2 : decode b_NT_findOrNull 2 = .ok (.iload_n 2, 1) := by decide +kernel
theorem d_NT_findOrNull_3 : decode b_NT_findOrNull 3 = .ok (.aload_n 0, 1) := by decide +kernel
theorem d_NT_findOrNull_4 : decode b_NT_findOrNull 4 = .ok (.getfield 24, 3) := by decide +kernel
theorem d_NT_findOrNull_7 : decode b_NT_findOrNull 7 = .ok (.if_icmp .ge 29, 3) := by decide +kernel
theorem d_NT_findOrNull_10 : decode b_NT_findOrNull 10 = .ok (.aload_n 0, 1) := by decide +kernel
theorem d_NT_findOrNull_11 : decode b_NT_findOrNull 11 = .ok (.getfield 11, 3) := by decide +kernel
theorem d_NT_findOrNull_14 : decode b_NT_findOrNull 14 = .ok (.iload_n 2, 1) := by decide +kernel
theorem d_NT_findOrNull_15 : decode b_NT_findOrNull 15 = .ok (.aaload, 1) := by decide +kernel
theorem d_NT_findOrNull_16 : decode b_NT_findOrNull 16 = .ok (.getfield 31, 3) := by decide +kernel
theorem d_NT_findOrNull_19 : decode b_NT_findOrNull 19 = .ok (.iload_n 1, 1) := by decide +kernel
theorem d_NT_findOrNull_20 : decode b_NT_findOrNull 20 = .ok (.if_icmp .ne 10, 3) := by decide +kernel
theorem d_NT_findOrNull_23 : decode b_NT_findOrNull 23 = .ok (.aload_n 0, 1) := by decide +kernel
theorem d_NT_findOrNull_24 : decode b_NT_findOrNull 24 = .ok (.getfield 11, 3) := by decide +kernel
theorem d_NT_findOrNull_27 : decode b_NT_findOrNull 27 = .ok (.iload_n 2, 1) := by decide +kernel
theorem d_NT_findOrNull_28 : decode b_NT_findOrNull 28 = .ok (.aaload, 1) := by decide +kernel
theorem d_NT_findOrNull_29 : decode b_NT_findOrNull 29 = .ok (.areturn, 1) := by decide +kernel
theorem d_NT_findOrNull_30 : decode b_NT_findOrNull 30 = .ok (.iinc 2 1, 3) := by decide +kernel
theorem d_NT_findOrNull_33 : decode b_NT_findOrNull 33 = .ok (.goto (-31), 3) := by decide +kernel
theorem d_NT_findOrNull_36 : decode b_NT_findOrNull 36 = .ok (.aconst_null, 1) := by decide +kernel
theorem d_NT_findOrNull_37 : decode b_NT_findOrNull 37 = .ok (.areturn, 1) := by decide +kernel
theorem d_Li_addressOf_0 : decode b_Li_addressOf 0 = .ok (.aload_n 1, 1) := by decide +kernel
theorem d_Li_addressOf_1 : decode b_Li_addressOf 1 = .ok (.getfield 66, 3) := by decide +kernel
theorem d_Li_addressOf_4 : decode b_Li_addressOf 4 = .ok (.iconst 3, 1) := by decide +kernel
theorem d_Li_addressOf_5 : decode b_Li_addressOf 5 = .ok (.if_icmp .ne 5, 3) := by decide +kernel
theorem d_Li_addressOf_8 : decode b_Li_addressOf 8 = .ok (.iconst (-1), 1) := by decide +kernel
theorem d_Li_addressOf_9 : decode b_Li_addressOf 9 = .ok (.ireturn, 1) := by decide +kernel
theorem d_Li_addressOf_10 : decode b_Li_addressOf 10 = .ok (.aload_n 1, 1) := by decide +kernel
theorem d_Li_addressOf_11 : decode b_Li_addressOf 11 = .ok (.getfield 66, 3) := by decide +kernel
theorem d_Li_addressOf_14 : decode b_Li_addressOf 14 = .ok (.iconst 2, 1) := by decide +kernel
theorem d_Li_addressOf_15 : decode b_Li_addressOf 15 = .ok (.if_icmp .ne 8, 3) := by decide +kernel
theorem d_Li_addressOf_18 : decode b_Li_addressOf 18 = .ok (.aload_n 1, 1) := by decide +kernel
theorem d_Li_addressOf_19 : decode b_Li_addressOf 19 = .ok (.getfield 71, 3) := by decide +kernel
theorem d_Li_addressOf_22 : decode b_Li_addressOf 22 = .ok (.ireturn, 1) := by decide +kernel
theorem d_Li_addressOf_23 : decode b_Li_addressOf 23 = .ok (.aload_n 0, 1) := by decide +kernel
theorem d_Li_addressOf_24 : decode b_Li_addressOf 24 = .ok (.getfield 28, 3) := by decide +kernel
theorem d_Li_addressOf_27 : decode b_Li_addressOf 27 = .ok (.aload_n 1, 1) := by decide +kernel
theorem d_Li_addressOf_28 : decode b_Li_addressOf 28 = .ok (.getfield 74, 3) := by decide +kernel
theorem d_Li_addressOf_31 : decode b_Li_addressOf 31 = .ok (.baload, 1) := by decide +kernel
theorem d_Li_addressOf_32 : decode b_Li_addressOf 32 = .ok (.ifCond .eq 20, 3) := by decide +kernel
theorem d_Li_addressOf_35 : decode b_Li_addressOf 35 = .ok (.aload_n 0, 1) := by decide +kernel
theorem d_Li_addressOf_36 : decode b_Li_addressOf 36 = .ok (.getfield 35, 3) := by decide +kernel
theorem d_Li_addressOf_39 : decode b_Li_addressOf 39 = .ok (.aload_n 1, 1) := by decide +kernel
theorem d_Li_addressOf_40 : decode b_Li_addressOf 40 = .ok (.getfield 74, 3) := by decide +kernel
theorem d_Li_addressOf_43 : decode b_Li_addressOf 43 = .ok (.iaload, 1) := by decide +kernel
theorem d_Li_addressOf_44 : decode b_Li_addressOf 44 = .ok (.aload_n 1, 1) := by decide +kernel
theorem d_Li_addressOf_45 : decode b_Li_addressOf 45 = .ok (.getfield 77, 3) := by decide +kernel
theorem d_Li_addressOf_48 : decode b_Li_addressOf 48 = .ok (.iadd, 1) := by decide +kernel
theorem d_Li_addressOf_49 : decode b_Li_addressOf 49 = .ok (.goto 4, 3) := by decide +kernel
theorem d_Li_addressOf_52 : decode b_Li_addressOf 52 = .ok (.iconst (-1), 1) := by decide +kernel
theorem d_Li_addressOf_53 : decode b_Li_addressOf 53 = .ok (.ireturn, 1) := by decide +kernel
theorem d_OL_count_0 : decode b_OL_count 0 = .ok (.iload_n 1, 1) := by decide +kernel
theorem d_OL_count_1 : decode b_OL_count 1 = .ok (.tableswitch 96 0 6 #[43, 48, 56, 64, 72, 80, 88], 43) := by decide +kernel
theorem d_OL_count_44 : decode b_OL_count 44 = .ok (.aload_n 0, 1) := by decide +kernel
theorem d_OL_count_45 : decode b_OL_count 45 = .ok (.getfield 29, 3) := by decide +kernel
theorem d_OL_count_48 : decode b_OL_count 48 = .ok (.ireturn, 1) := by decide +kernel
theorem d_OL_count_49 : decode b_OL_count 49 = .ok (.aload_n 0, 1) := by decide +kernel
theorem d_OL_count_50 : decode b_OL_count 50 = .ok (.getfield 18, 3) := by decide +kernel
theorem d_OL_count_53 : decode b_OL_count 53 = .ok (.getfield 143, 3) := by decide +kernel
theorem d_OL_count_56 : decode b_OL_count 56 = .ok (.ireturn, 1) := by decide +kernel
theorem d_OL_count_57 : decode b_OL_count 57 = .ok (.aload_n 0, 1) := by decide +kernel
theorem d_OL_count_58 : decode b_OL_count 58 = .ok (.getfield 18, 3) := by decide +kernel
theorem d_OL_count_61 : decode b_OL_count 61 = .ok (.getfield 157, 3) := by decide +kernel
theorem d_OL_count_64 : decode b_OL_count 64 = .ok (.ireturn, 1) := by decide +kernel
theorem d_OL_count_65 : decode b_OL_count 65 = .ok (.aload_n 0, 1) := by decide +kernel
theorem d_OL_count_66 : decode b_OL_count 66 = .ok (.getfield 18, 3) := by decide +kernel
theorem d_OL_count_69 : decode b_OL_count 69 = .ok (.getfield 216, 3) := by decide +kernel
theorem d_OL_count_72 : decode b_OL_count 72 = .ok (.ireturn, 1) := by decide +kernel
theorem d_OL_count_73 : decode b_OL_count 73 = .ok (.aload_n 0, 1) := by decide +kernel
theorem d_OL_count_74 : decode b_OL_count 74 = .ok (.getfield 18, 3) := by decide +kernel
theorem d_OL_count_77 : decode b_OL_count 77 = .ok (.getfield 219, 3) := by decide +kernel
theorem d_OL_count_80 : decode b_OL_count 80 = .ok (.ireturn, 1) := by decide +kernel
theorem d_OL_count_81 : decode b_OL_count 81 = .ok (.aload_n 0, 1) := by decide +kernel
theorem d_OL_count_82 : decode b_OL_count 82 = .ok (.getfield 18, 3) := by decide +kernel
theorem d_OL_count_85 : decode b_OL_count 85 = .ok (.getfield 222, 3) := by decide +kernel
theorem d_OL_count_88 : decode b_OL_count 88 = .ok (.ireturn, 1) := by decide +kernel
theorem d_OL_count_89 : decode b_OL_count 89 = .ok (.aload_n 0, 1) := by decide +kernel
theorem d_OL_count_90 : decode b_OL_count 90 = .ok (.getfield 25, 3) := by decide +kernel
theorem d_OL_count_93 : decode b_OL_count 93 = .ok (.getfield 195, 3) := by decide +kernel
theorem d_OL_count_96 : decode b_OL_count 96 = .ok (.ireturn, 1) := by decide +kernel
theorem d_OL_count_97 : decode b_OL_count 97 = .ok (.aload_n 0, 1) := by decide +kernel
theorem d_OL_count_98 : decode b_OL_count 98 = .ok (.iload_n 1, 1) := by decide +kernel
theorem d_OL_count_99 : decode b_OL_count 99 = .ok (.invokevirtual 225, 3) := by decide +kernel
theorem d_OL_count_102 : decode b_OL_count 102 = .ok (.ireturn, 1) := by decide +kernel
theorem d_OL_countOfLatest_0 : decode b_OL_countOfLatest 0 = .ok (.aload_n 0, 1) := by decide +kernel
theorem d_OL_countOfLatest_1 : decode b_OL_countOfLatest 1 = .ok (.aload_n 0, 1) := by decide +kernel
theorem d_OL_countOfLatest_2 : decode b_OL_countOfLatest 2 = .ok (.getfield 29, 3) := by decide +kernel
theorem d_OL_countOfLatest_5 : decode b_OL_countOfLatest 5 = .ok (.iconst 1, 1) := by decide +kernel
theorem d_OL_countOfLatest_6 : decode b_OL_countOfLatest 6 = .ok (.isub, 1) := by decide +kernel
theorem d_OL_countOfLatest_7 : decode b_OL_countOfLatest 7 = .ok (.invokevirtual 228, 3) := by decide +kernel
theorem d_OL_countOfLatest_10 : decode b_OL_countOfLatest 10 = .ok (.astore_n 2, 1) := by decide +kernel
theorem d_OL_countOfLatest_11 : decode b_OL_countOfLatest 11 = .ok (.aload_n 2, 1) := by decide +kernel
theorem d_OL_countOfLatest_12 : decode b_OL_countOfLatest 12 = .ok (.ifnonnull 5, 3) := by decide +kernel
theorem d_OL_countOfLatest_15 : decode b_OL_countOfLatest 15 = .ok (.iconst (-1), 1) := by decide +kernel
theorem d_OL_countOfLatest_16 : decode b_OL_countOfLatest 16 = .ok (.ireturn, 1) := by decide +kernel
theorem d_OL_countOfLatest_17 : decode b_OL_countOfLatest 17 = .ok (.iload_n 1, 1) := by decide +kernel
theorem d_OL_countOfLatest_18 : decode b_OL_countOfLatest 18 = .ok (.tableswitch 41 7 9 #[26, 31, 36], 26) := by decide +kernel
theorem d_OL_countOfLatest_44 : decode b_OL_countOfLatest 44 = .ok (.aload_n 2, 1) := by decide +kernel
theorem d_OL_countOfLatest_45 : decode b_OL_countOfLatest 45 = .ok (.getfield 60, 3) := by decide +kernel
theorem d_OL_countOfLatest_48 : decode b_OL_countOfLatest 48 = .ok (.ireturn, 1) := by decide +kernel
theorem d_OL_countOfLatest_49 : decode b_OL_countOfLatest 49 = .ok (.aload_n 2, 1) := by decide +kernel
theorem d_OL_countOfLatest_50 : decode b_OL_countOfLatest 50 = .ok (.getfield 97, 3) := by decide +kernel
theorem d_OL_countOfLatest_53 : decode b_OL_countOfLatest 53 = .ok (.ireturn, 1) := by decide +kernel
theorem d_OL_countOfLatest_54 : decode b_OL_countOfLatest 54 = .ok (.aload_n 2, 1) := by decide +kernel
theorem d_OL_countOfLatest_55 : decode b_OL_countOfLatest 55 = .ok (.getfield 116, 3) := by decide +kernel
theorem d_OL_countOfLatest_58 : decode b_OL_countOfLatest 58 = .ok (.ireturn, 1) := by decide +kernel
theorem d_OL_countOfLatest_59 : decode b_OL_countOfLatest 59 = .ok (.iconst (-1), 1) := by decide +kernel
theorem d_OL_countOfLatest_60 : decode b_OL_countOfLatest 60 = .ok (.ireturn, 1) := by decide +kernel
theorem d_OL_unitOrNull_0 : decode b_OL_unitOrNull 0 = .ok (.iload_n 1, 1) := by decide +kernel
theorem d_OL_unitOrNull_1 : decode b_OL_unitOrNull 1 = .ok (.ifCond .lt 20, 3) := by decide +kernel
theorem d_OL_unitOrNull_4 : decode b_OL_unitOrNull 4 = .ok (.iload_n 1, 1) := by decide +kernel
theorem d_OL_unitOrNull_5 : decode b_OL_unitOrNull 5 = .ok (.aload_n 0, 1) := by decide +kernel
theorem d_OL_unitOrNull_6 : decode b_OL_unitOrNull 6 = .ok (.getfield 29, 3) := by decide +kernel
theorem d_OL_unitOrNull_9 : decode b_OL_unitOrNull 9 = .ok (.if_icmp .ge 12, 3) := by decide +kernel
theorem d_OL_unitOrNull_12 : decode b_OL_unitOrNull 12 = .ok (.aload_n 0, 1) := by decide +kernel
theorem d_OL_unitOrNull_13 : decode b_OL_unitOrNull 13 = .ok (.getfield 11, 3) := by decide +kernel
theorem d_OL_unitOrNull_16 : decode b_OL_unitOrNull 16 = .ok (.iload_n 1, 1) := by decide +kernel
theorem d_OL_unitOrNull_17 : decode b_OL_unitOrNull 17 = .ok (.aaload, 1) := by decide +kernel
theorem d_OL_unitOrNull_18 : decode b_OL_unitOrNull 18 = .ok (.goto 4, 3) := by decide +kernel
theorem d_OL_unitOrNull_21 : decode b_OL_unitOrNull 21 = .ok (.aconst_null, 1) := by decide +kernel
theorem d_OL_unitOrNull_22 : decode b_OL_unitOrNull 22 = .ok (.areturn, 1) := by decide +kernel
theorem d_OL_object_0 : decode b_OL_object 0 = .ok (.aload_n 0, 1) := by decide +kernel
theorem d_OL_object_1 : decode b_OL_object 1 = .ok (.getfield 29, 3) := by decide +kernel
theorem d_OL_object_4 : decode b_OL_object 4 = .ok (.bipush 12, 2) := by decide +kernel
theorem d_OL_object_6 : decode b_OL_object 6 = .ok (.if_icmp .lt 13, 3) := by decide +kernel
theorem d_OL_object_9 : decode b_OL_object 9 = .ok (.new 33, 3) := by decide +kernel
theorem d_OL_object_12 : decode b_OL_object 12 = .ok (.dup, 1) := by decide +kernel
theorem d_OL_object_13 : decode b_OL_object 13 = .ok (.ldc 35, 2) := by decide +kernel
theorem d_OL_object_15 : decode b_OL_object 15 = .ok (.invokespecial 37, 3) := by decide +kernel
theorem d_OL_object_18 : decode b_OL_object 18 = .ok (.athrow, 1) := by decide +kernel
theorem d_OL_object_19 : decode b_OL_object 19 = .ok (.aload_n 0, 1) := by decide +kernel
theorem d_OL_object_20 : decode b_OL_object 20 = .ok (.new 9, 3) := by decide +kernel
theorem d_OL_object_23 : decode b_OL_object 23 = .ok (.dup, 1) := by decide +kernel
theorem d_OL_object_24 : decode b_OL_object 24 = .ok (.invokespecial 40, 3) := by decide +kernel
theorem d_OL_object_27 : decode b_OL_object 27 = .ok (.invokevirtual 41, 3) := by decide +kernel
theorem d_OL_object_30 : decode b_OL_object 30 = .ok (.ireturn, 1) := by decide +kernel
theorem d_Un_init_0 : decode b_Un_init 0 = .ok (.aload_n 0, 1) := by decide +kernel
theorem d_Un_init_1 : decode b_Un_init 1 = .ok (.invokespecial 3, 3) := by decide +kernel
theorem d_Un_init_4 : decode b_Un_init 4 = .ok (.aload_n 0, 1) := by decide +kernel
theorem d_Un_init_5 : decode b_Un_init 5 = .ok (.bipush 8, 2) := by decide +kernel
theorem d_Un_init_7 : decode b_Un_init 7 = .ok (.anewarray 9, 3) := by decide +kernel
theorem d_Un_init_10 : decode b_Un_init 10 = .ok (.putfield 11, 3) := by decide +kernel
theorem d_Un_init_13 : decode b_Un_init 13 = .ok (.aload_n 0, 1) := by decide +kernel
theorem d_Un_init_14 : decode b_Un_init 14 = .ok (.bipush 12, 2) := by decide +kernel
theorem d_Un_init_16 : decode b_Un_init 16 = .ok (.anewarray 17, 3) := by decide +kernel
theorem d_Un_init_19 : decode b_Un_init 19 = .ok (.putfield 19, 3) := by decide +kernel
theorem d_Un_init_22 : decode b_Un_init 22 = .ok (.aload_n 0, 1) := by decide +kernel
theorem d_Un_init_23 : decode b_Un_init 23 = .ok (.bipush 16, 2) := by decide +kernel
theorem d_Un_init_25 : decode b_Un_init 25 = .ok (.anewarray 23, 3) := by decide +kernel
theorem d_Un_init_28 : decode b_Un_init 28 = .ok (.putfield 25, 3) := by decide +kernel
theorem d_Un_init_31 : decode b_Un_init 31 = .ok (.return_, 1) := by decide +kernel
theorem d_OL_keep_0 : decode b_OL_keep 0 = .ok (.aload_n 0, 1) := by decide +kernel
theorem d_OL_keep_1 : decode b_OL_keep 1 = .ok (.getfield 11, 3) := by decide +kernel
theorem d_OL_keep_4 : decode b_OL_keep 4 = .ok (.aload_n 0, 1) := by decide +kernel
theorem d_OL_keep_5 : decode b_OL_keep 5 = .ok (.getfield 29, 3) := by decide +kernel
theorem d_OL_keep_8 : decode b_OL_keep 8 = .ok (.aload_n 1, 1) := by decide +kernel
theorem d_OL_keep_9 : decode b_OL_keep 9 = .ok (.aastore, 1) := by decide +kernel
theorem d_OL_keep_10 : decode b_OL_keep 10 = .ok (.aload_n 0, 1) := by decide +kernel
theorem d_OL_keep_11 : decode b_OL_keep 11 = .ok (.dup, 1) := by decide +kernel
theorem d_OL_keep_12 : decode b_OL_keep 12 = .ok (.getfield 29, 3) := by decide +kernel
theorem d_OL_keep_15 : decode b_OL_keep 15 = .ok (.iconst 1, 1) := by decide +kernel
theorem d_OL_keep_16 : decode b_OL_keep 16 = .ok (.iadd, 1) := by decide +kernel
theorem d_OL_keep_17 : decode b_OL_keep 17 = .ok (.putfield 29, 3) := by decide +kernel
theorem d_OL_keep_20 : decode b_OL_keep 20 = .ok (.aload_n 0, 1) := by decide +kernel
theorem d_OL_keep_21 : decode b_OL_keep 21 = .ok (.getfield 29, 3) := by decide +kernel
theorem d_OL_keep_24 : decode b_OL_keep 24 = .ok (.iconst 1, 1) := by decide +kernel
theorem d_OL_keep_25 : decode b_OL_keep 25 = .ok (.isub, 1) := by decide +kernel
theorem d_OL_keep_26 : decode b_OL_keep 26 = .ok (.ireturn, 1) := by decide +kernel
theorem d_OL_section_0 : decode b_OL_section 0 = .ok (.aload_n 0, 1) := by decide +kernel
theorem d_OL_section_1 : decode b_OL_section 1 = .ok (.iload_n 1, 1) := by decide +kernel
theorem d_OL_section_2 : decode b_OL_section 2 = .ok (.invokevirtual 45, 3) := by decide +kernel
theorem d_OL_section_5 : decode b_OL_section 5 = .ok (.astore 5, 2) := by decide +kernel
theorem d_OL_section_7 : decode b_OL_section 7 = .ok (.iload_n 2, 1) := by decide +kernel
theorem d_OL_section_8 : decode b_OL_section 8 = .ok (.iload_n 3, 1) := by decide +kernel
theorem d_OL_section_9 : decode b_OL_section 9 = .ok (.iload 4, 2) := by decide +kernel
theorem d_OL_section_11 : decode b_OL_section 11 = .ok (.invokestatic 49, 3) := by decide +kernel
theorem d_OL_section_14 : decode b_OL_section 14 = .ok (.ifCond .ne 13, 3) := by decide +kernel
theorem d_OL_section_17 : decode b_OL_section 17 = .ok (.new 55, 3) := by decide +kernel
theorem d_OL_section_20 : decode b_OL_section 20 = .ok (.dup, 1) := by decide +kernel
theorem d_OL_section_21 : decode b_OL_section 21 = .ok (.ldc 57, 2) := by decide +kernel
theorem d_OL_section_23 : decode b_OL_section 23 = .ok (.invokespecial 59, 3) := by decide +kernel
theorem d_OL_section_26 : decode b_OL_section 26 = .ok (.athrow, 1) := by decide +kernel
theorem d_OL_section_27 : decode b_OL_section 27 = .ok (.aload 5, 2) := by decide +kernel
theorem d_OL_section_29 : decode b_OL_section 29 = .ok (.getfield 60, 3) := by decide +kernel
theorem d_OL_section_32 : decode b_OL_section 32 = .ok (.bipush 8, 2) := by decide +kernel
theorem d_OL_section_34 : decode b_OL_section 34 = .ok (.if_icmp .lt 13, 3) := by decide +kernel
theorem d_OL_section_37 : decode b_OL_section 37 = .ok (.new 33, 3) := by decide +kernel
theorem d_OL_section_40 : decode b_OL_section 40 = .ok (.dup, 1) := by decide +kernel
theorem d_OL_section_41 : decode b_OL_section 41 = .ok (.ldc 63, 2) := by decide +kernel
theorem d_OL_section_43 : decode b_OL_section 43 = .ok (.invokespecial 37, 3) := by decide +kernel
theorem d_OL_section_46 : decode b_OL_section 46 = .ok (.athrow, 1) := by decide +kernel
theorem d_OL_section_47 : decode b_OL_section 47 = .ok (.aload 5, 2) := by decide +kernel
theorem d_OL_section_49 : decode b_OL_section 49 = .ok (.new 50, 3) := by decide +kernel
theorem d_OL_section_52 : decode b_OL_section 52 = .ok (.dup, 1) := by decide +kernel
theorem d_OL_section_53 : decode b_OL_section 53 = .ok (.iload_n 2, 1) := by decide +kernel
theorem d_OL_section_54 : decode b_OL_section 54 = .ok (.iload_n 3, 1) := by decide +kernel
theorem d_OL_section_55 : decode b_OL_section 55 = .ok (.iload 4, 2) := by decide +kernel
theorem d_OL_section_57 : decode b_OL_section 57 = .ok (.invokespecial 65, 3) := by decide +kernel
theorem d_OL_section_60 : decode b_OL_section 60 = .ok (.invokevirtual 68, 3) := by decide +kernel
theorem d_OL_section_63 : decode b_OL_section 63 = .ok (.ireturn, 1) := by decide +kernel
theorem d_OL_known_0 : decode b_OL_known 0 = .ok (.aload_n 0, 1) := by decide +kernel
theorem d_OL_known_1 : decode b_OL_known 1 = .ok (.iload_n 1, 1) := by decide +kernel
theorem d_OL_known_2 : decode b_OL_known 2 = .ok (.invokevirtual 228, 3) := by decide +kernel
theorem d_OL_known_5 : decode b_OL_known 5 = .ok (.astore_n 2, 1) := by decide +kernel
theorem d_OL_known_6 : decode b_OL_known 6 = .ok (.aload_n 2, 1) := by decide +kernel
theorem d_OL_known_7 : decode b_OL_known 7 = .ok (.ifnonnull 13, 3) := by decide +kernel
theorem d_OL_known_10 : decode b_OL_known 10 = .ok (.new 169, 3) := by decide +kernel
theorem d_OL_known_13 : decode b_OL_known 13 = .ok (.dup, 1) := by decide +kernel
theorem d_OL_known_14 : decode b_OL_known 14 = .ok (.ldc 230, 2) := by decide +kernel
theorem d_OL_known_16 : decode b_OL_known 16 = .ok (.invokespecial 173, 3) := by decide +kernel
theorem d_OL_known_19 : decode b_OL_known 19 = .ok (.athrow, 1) := by decide +kernel
theorem d_OL_known_20 : decode b_OL_known 20 = .ok (.aload_n 2, 1) := by decide +kernel
theorem d_OL_known_21 : decode b_OL_known 21 = .ok (.areturn, 1) := by decide +kernel
theorem d_Se_canBe_0 : decode b_Se_canBe 0 = .ok (.iload_n 0, 1) := by decide +kernel
theorem d_Se_canBe_1 : decode b_Se_canBe 1 = .ok (.ifCond .lt 30, 3) := by decide +kernel
theorem d_Se_canBe_4 : decode b_Se_canBe 4 = .ok (.iload_n 0, 1) := by decide +kernel
theorem d_Se_canBe_5 : decode b_Se_canBe 5 = .ok (.iconst 4, 1) := by decide +kernel
theorem d_Se_canBe_6 : decode b_Se_canBe 6 = .ok (.if_icmp .ge 25, 3) := by decide +kernel
theorem d_Se_canBe_9 : decode b_Se_canBe 9 = .ok (.iload_n 1, 1) := by decide +kernel
theorem d_Se_canBe_10 : decode b_Se_canBe 10 = .ok (.invokestatic 25, 3) := by decide +kernel
theorem d_Se_canBe_13 : decode b_Se_canBe 13 = .ok (.ifCond .eq 18, 3) := by decide +kernel
theorem d_Se_canBe_16 : decode b_Se_canBe 16 = .ok (.iload_n 2, 1) := by decide +kernel
theorem d_Se_canBe_17 : decode b_Se_canBe 17 = .ok (.ifCond .lt 14, 3) := by decide +kernel
theorem d_Se_canBe_20 : decode b_Se_canBe 20 = .ok (.iload_n 2, 1) := by decide +kernel
theorem d_Se_canBe_21 : decode b_Se_canBe 21 = .ok (.sipush 128, 3) := by decide +kernel
theorem d_Se_canBe_24 : decode b_Se_canBe 24 = .ok (.if_icmp .gt 7, 3) := by decide +kernel
theorem d_Se_canBe_27 : decode b_Se_canBe 27 = .ok (.iconst 1, 1) := by decide +kernel
theorem d_Se_canBe_28 : decode b_Se_canBe 28 = .ok (.goto 4, 3) := by decide +kernel
theorem d_Se_canBe_31 : decode b_Se_canBe 31 = .ok (.iconst 0, 1) := by decide +kernel
theorem d_Se_canBe_32 : decode b_Se_canBe 32 = .ok (.ireturn, 1) := by decide +kernel
theorem d_Se_powerCanBe_0 : decode b_Se_powerCanBe 0 = .ok (.iload_n 0, 1) := by decide +kernel
theorem d_Se_powerCanBe_1 : decode b_Se_powerCanBe 1 = .ok (.ifCond .lt 13, 3) := by decide +kernel
theorem d_Se_powerCanBe_4 : decode b_Se_powerCanBe 4 = .ok (.iload_n 0, 1) := by decide +kernel
theorem d_Se_powerCanBe_5 : decode b_Se_powerCanBe 5 = .ok (.bipush 6, 2) := by decide +kernel
theorem d_Se_powerCanBe_7 : decode b_Se_powerCanBe 7 = .ok (.if_icmp .gt 7, 3) := by decide +kernel
theorem d_Se_powerCanBe_10 : decode b_Se_powerCanBe 10 = .ok (.iconst 1, 1) := by decide +kernel
theorem d_Se_powerCanBe_11 : decode b_Se_powerCanBe 11 = .ok (.goto 4, 3) := by decide +kernel
theorem d_Se_powerCanBe_14 : decode b_Se_powerCanBe 14 = .ok (.iconst 0, 1) := by decide +kernel
theorem d_Se_powerCanBe_15 : decode b_Se_powerCanBe 15 = .ok (.ireturn, 1) := by decide +kernel
theorem d_Se_init_0 : decode b_Se_init 0 = .ok (.aload_n 0, 1) := by decide +kernel
theorem d_Se_init_1 : decode b_Se_init 1 = .ok (.invokespecial 3, 3) := by decide +kernel
theorem d_Se_init_4 : decode b_Se_init 4 = .ok (.aload_n 0, 1) := by decide +kernel
theorem d_Se_init_5 : decode b_Se_init 5 = .ok (.iload_n 1, 1) := by decide +kernel
theorem d_Se_init_6 : decode b_Se_init 6 = .ok (.putfield 9, 3) := by decide +kernel
theorem d_Se_init_9 : decode b_Se_init 9 = .ok (.aload_n 0, 1) := by decide +kernel
theorem d_Se_init_10 : decode b_Se_init 10 = .ok (.iload_n 2, 1) := by decide +kernel
theorem d_Se_init_11 : decode b_Se_init 11 = .ok (.putfield 15, 3) := by decide +kernel
theorem d_Se_init_14 : decode b_Se_init 14 = .ok (.aload_n 0, 1) := by decide +kernel
theorem d_Se_init_15 : decode b_Se_init 15 = .ok (.iload_n 3, 1) := by decide +kernel
theorem d_Se_init_16 : decode b_Se_init 16 = .ok (.putfield 18, 3) := by decide +kernel
theorem d_Se_init_19 : decode b_Se_init 19 = .ok (.aload_n 0, 1) := by decide +kernel
theorem d_Se_init_20 : decode b_Se_init 20 = .ok (.iload_n 1, 1) := by decide +kernel
theorem d_Se_init_21 : decode b_Se_init 21 = .ok (.iconst 3, 1) := by decide +kernel
theorem d_Se_init_22 : decode b_Se_init 22 = .ok (.if_icmp .eq 7, 3) := by decide +kernel
theorem d_Se_init_25 : decode b_Se_init 25 = .ok (.iload_n 3, 1) := by decide +kernel
theorem d_Se_init_26 : decode b_Se_init 26 = .ok (.ifCond .ge 7, 3) := by decide +kernel
theorem d_Se_init_29 : decode b_Se_init 29 = .ok (.iconst 0, 1) := by decide +kernel
theorem d_Se_init_30 : decode b_Se_init 30 = .ok (.goto 4, 3) := by decide +kernel
theorem d_Se_init_33 : decode b_Se_init 33 = .ok (.iload_n 3, 1) := by decide +kernel
theorem d_Se_init_34 : decode b_Se_init 34 = .ok (.newarray .int, 2) := by decide +kernel
theorem d_Se_init_36 : decode b_Se_init 36 = .ok (.putfield 21, 3) := by decide +kernel
theorem d_Se_init_39 : decode b_Se_init 39 = .ok (.return_, 1) := by decide +kernel
theorem d_Un_addSection_0 : decode b_Un_addSection 0 = .ok (.aload_n 0, 1) := by decide +kernel
theorem d_Un_addSection_1 : decode b_Un_addSection 1 = .ok (.getfield 11, 3) := by decide +kernel
theorem d_Un_addSection_4 : decode b_Un_addSection 4 = .ok (.aload_n 0, 1) := by decide +kernel
theorem d_Un_addSection_5 : decode b_Un_addSection 5 = .ok (.getfield 29, 3) := by decide +kernel
theorem d_Un_addSection_8 : decode b_Un_addSection 8 = .ok (.aload_n 1, 1) := by decide +kernel
theorem d_Un_addSection_9 : decode b_Un_addSection 9 = .ok (.aastore, 1) := by decide +kernel
theorem d_Un_addSection_10 : decode b_Un_addSection 10 = .ok (.aload_n 0, 1) := by decide +kernel
theorem d_Un_addSection_11 : decode b_Un_addSection 11 = .ok (.dup, 1) := by decide +kernel
theorem d_Un_addSection_12 : decode b_Un_addSection 12 = .ok (.getfield 29, 3) := by decide +kernel
theorem d_Un_addSection_15 : decode b_Un_addSection 15 = .ok (.iconst 1, 1) := by decide +kernel
theorem d_Un_addSection_16 : decode b_Un_addSection 16 = .ok (.iadd, 1) := by decide +kernel
theorem d_Un_addSection_17 : decode b_Un_addSection 17 = .ok (.putfield 29, 3) := by decide +kernel
theorem d_Un_addSection_20 : decode b_Un_addSection 20 = .ok (.aload_n 0, 1) := by decide +kernel
theorem d_Un_addSection_21 : decode b_Un_addSection 21 = .ok (.getfield 29, 3) := by decide +kernel
theorem d_Un_addSection_24 : decode b_Un_addSection 24 = .ok (.iconst 1, 1) := by decide +kernel
theorem d_Un_addSection_25 : decode b_Un_addSection 25 = .ok (.isub, 1) := by decide +kernel
theorem d_Un_addSection_26 : decode b_Un_addSection 26 = .ok (.ireturn, 1) := by decide +kernel
theorem d_OL_bytes_0 : decode b_OL_bytes 0 = .ok (.aload_n 0, 1) := by decide +kernel
theorem d_OL_bytes_1 : decode b_OL_bytes 1 = .ok (.iload_n 1, 1) := by decide +kernel
theorem d_OL_bytes_2 : decode b_OL_bytes 2 = .ok (.invokevirtual 45, 3) := by decide +kernel
theorem d_OL_bytes_5 : decode b_OL_bytes 5 = .ok (.iload_n 2, 1) := by decide +kernel
theorem d_OL_bytes_6 : decode b_OL_bytes 6 = .ok (.invokevirtual 72, 3) := by decide +kernel
theorem d_OL_bytes_9 : decode b_OL_bytes 9 = .ok (.astore 5, 2) := by decide +kernel
theorem d_OL_bytes_11 : decode b_OL_bytes 11 = .ok (.aload 5, 2) := by decide +kernel
theorem d_OL_bytes_13 : decode b_OL_bytes 13 = .ok (.ifnull 12, 3) := by decide +kernel
theorem d_OL_bytes_16 : decode b_OL_bytes 16 = .ok (.aload 5, 2) := by decide +kernel
theorem d_OL_bytes_18 : decode b_OL_bytes 18 = .ok (.getfield 76, 3) := by decide +kernel
theorem d_OL_bytes_21 : decode b_OL_bytes 21 = .ok (.iconst 3, 1) := by decide +kernel
theorem d_OL_bytes_22 : decode b_OL_bytes 22 = .ok (.if_icmp .ne 13, 3) := by decide +kernel
theorem d_OL_bytes_25 : decode b_OL_bytes 25 = .ok (.new 55, 3) := by decide +kernel
theorem d_OL_bytes_28 : decode b_OL_bytes 28 = .ok (.dup, 1) := by decide +kernel
theorem d_OL_bytes_29 : decode b_OL_bytes 29 = .ok (.ldc 79, 2) := by decide +kernel
theorem d_OL_bytes_31 : decode b_OL_bytes 31 = .ok (.invokespecial 59, 3) := by decide +kernel
theorem d_OL_bytes_34 : decode b_OL_bytes 34 = .ok (.athrow, 1) := by decide +kernel
theorem d_OL_bytes_35 : decode b_OL_bytes 35 = .ok (.iload_n 3, 1) := by decide +kernel
theorem d_OL_bytes_36 : decode b_OL_bytes 36 = .ok (.ifCond .lt 13, 3) := by decide +kernel
theorem d_OL_bytes_39 : decode b_OL_bytes 39 = .ok (.iload_n 3, 1) := by decide +kernel
theorem d_OL_bytes_40 : decode b_OL_bytes 40 = .ok (.aload 5, 2) := by decide +kernel
theorem d_OL_bytes_42 : decode b_OL_bytes 42 = .ok (.getfield 81, 3) := by decide +kernel
theorem d_OL_bytes_45 : decode b_OL_bytes 45 = .ok (.arraylength, 1) := by decide +kernel
theorem d_OL_bytes_46 : decode b_OL_bytes 46 = .ok (.if_icmp .lt 13, 3) := by decide +kernel
theorem d_OL_bytes_49 : decode b_OL_bytes 49 = .ok (.new 55, 3) := by decide +kernel
theorem d_OL_bytes_52 : decode b_OL_bytes 52 = .ok (.dup, 1) := by decide +kernel
theorem d_OL_bytes_53 : decode b_OL_bytes 53 = .ok (.ldc 85, 2) := by decide +kernel
theorem d_OL_bytes_55 : decode b_OL_bytes 55 = .ok (.invokespecial 59, 3) := by decide +kernel
theorem d_OL_bytes_58 : decode b_OL_bytes 58 = .ok (.athrow, 1) := by decide +kernel
theorem d_OL_bytes_59 : decode b_OL_bytes 59 = .ok (.aload 5, 2) := by decide +kernel
theorem d_OL_bytes_61 : decode b_OL_bytes 61 = .ok (.iload_n 3, 1) := by decide +kernel
theorem d_OL_bytes_62 : decode b_OL_bytes 62 = .ok (.iload 4, 2) := by decide +kernel
theorem d_OL_bytes_64 : decode b_OL_bytes 64 = .ok (.invokevirtual 87, 3) := by decide +kernel
theorem d_OL_bytes_67 : decode b_OL_bytes 67 = .ok (.ireturn, 1) := by decide +kernel
theorem d_Un_sectionOrNull_0 : decode b_Un_sectionOrNull 0 = .ok (.iload_n 1, 1) := by decide +kernel
theorem d_Un_sectionOrNull_1 : decode b_Un_sectionOrNull 1 = .ok (.ifCond .lt 20, 3) := by decide +kernel
theorem d_Un_sectionOrNull_4 : decode b_Un_sectionOrNull 4 = .ok (.iload_n 1, 1) := by decide +kernel
theorem d_Un_sectionOrNull_5 : decode b_Un_sectionOrNull 5 = .ok (.aload_n 0, 1) := by decide +kernel
theorem d_Un_sectionOrNull_6 : decode b_Un_sectionOrNull 6 = .ok (.getfield 29, 3) := by decide +kernel
theorem d_Un_sectionOrNull_9 : decode b_Un_sectionOrNull 9 = .ok (.if_icmp .ge 12, 3) := by decide +kernel
theorem d_Un_sectionOrNull_12 : decode b_Un_sectionOrNull 12 = .ok (.aload_n 0, 1) := by decide +kernel
theorem d_Un_sectionOrNull_13 : decode b_Un_sectionOrNull 13 = .ok (.getfield 11, 3) := by decide +kernel
theorem d_Un_sectionOrNull_16 : decode b_Un_sectionOrNull 16 = .ok (.iload_n 1, 1) := by decide +kernel
theorem d_Un_sectionOrNull_17 : decode b_Un_sectionOrNull 17 = .ok (.aaload, 1) := by decide +kernel
theorem d_Un_sectionOrNull_18 : decode b_Un_sectionOrNull 18 = .ok (.goto 4, 3) := by decide +kernel
theorem d_Un_sectionOrNull_21 : decode b_Un_sectionOrNull 21 = .ok (.aconst_null, 1) := by decide +kernel
theorem d_Un_sectionOrNull_22 : decode b_Un_sectionOrNull 22 = .ok (.areturn, 1) := by decide +kernel
theorem d_Se_overwrite_0 : decode b_Se_overwrite 0 = .ok (.iconst 4, 1) := by decide +kernel
theorem d_Se_overwrite_1 : decode b_Se_overwrite 1 = .ok (.aload_n 0, 1) := by decide +kernel
theorem d_Se_overwrite_2 : decode b_Se_overwrite 2 = .ok (.getfield 21, 3) := by decide +kernel
theorem d_Se_overwrite_5 : decode b_Se_overwrite 5 = .ok (.arraylength, 1) := by decide +kernel
theorem d_Se_overwrite_6 : decode b_Se_overwrite 6 = .ok (.iload_n 1, 1) := by decide +kernel
theorem d_Se_overwrite_7 : decode b_Se_overwrite 7 = .ok (.isub, 1) := by decide +kernel
theorem d_Se_overwrite_8 : decode b_Se_overwrite 8 = .ok (.invokestatic 29, 3) := by decide +kernel
theorem d_Se_overwrite_11 : decode b_Se_overwrite 11 = .ok (.istore_n 3, 1) := by decide +kernel
theorem d_Se_overwrite_12 : decode b_Se_overwrite 12 = .ok (.iconst 0, 1) := by decide +kernel
theorem d_Se_overwrite_13 : decode b_Se_overwrite 13 = .ok (.istore 4, 2) := by decide +kernel
theorem d_Se_overwrite_15 : decode b_Se_overwrite 15 = .ok (.iload 4, 2) := by decide +kernel
theorem d_Se_overwrite_17 : decode b_Se_overwrite 17 = .ok (.iload_n 3, 1) := by decide +kernel
theorem d_Se_overwrite_18 : decode b_Se_overwrite 18 = .ok (.if_icmp .ge 32, 3) := by decide +kernel
theorem d_Se_overwrite_21 : decode b_Se_overwrite 21 = .ok (.aload_n 0, 1) := by decide +kernel
theorem d_Se_overwrite_22 : decode b_Se_overwrite 22 = .ok (.getfield 21, 3) := by decide +kernel
theorem d_Se_overwrite_25 : decode b_Se_overwrite 25 = .ok (.iload_n 1, 1) := by decide +kernel
theorem d_Se_overwrite_26 : decode b_Se_overwrite 26 = .ok (.iload 4, 2) := by decide +kernel
theorem d_Se_overwrite_28 : decode b_Se_overwrite 28 = .ok (.iadd, 1) := by decide +kernel
theorem d_Se_overwrite_29 : decode b_Se_overwrite 29 = .ok (.iload_n 2, 1) := by decide +kernel
theorem d_Se_overwrite_30 : decode b_Se_overwrite 30 = .ok (.bipush 24, 2) := by decide +kernel
theorem d_Se_overwrite_32 : decode b_Se_overwrite 32 = .ok (.bipush 8, 2) := by decide +kernel
theorem d_Se_overwrite_34 : decode b_Se_overwrite 34 = .ok (.iload 4, 2) := by decide +kernel
theorem d_Se_overwrite_36 : decode b_Se_overwrite 36 = .ok (.imul, 1) := by decide +kernel
theorem d_Se_overwrite_37 : decode b_Se_overwrite 37 = .ok (.isub, 1) := by decide +kernel
theorem d_Se_overwrite_38 : decode b_Se_overwrite 38 = .ok (.iushr, 1) := by decide +kernel
theorem d_Se_overwrite_39 : decode b_Se_overwrite 39 = .ok (.sipush 255, 3) := by decide +kernel
theorem d_Se_overwrite_42 : decode b_Se_overwrite 42 = .ok (.iand, 1) := by decide +kernel
theorem d_Se_overwrite_43 : decode b_Se_overwrite 43 = .ok (.iastore, 1) := by decide +kernel
theorem d_Se_overwrite_44 : decode b_Se_overwrite 44 = .ok (.iinc 4 1, 3) := by decide +kernel
theorem d_Se_overwrite_47 : decode b_Se_overwrite 47 = .ok (.goto (-32), 3) := by decide +kernel
theorem d_Se_overwrite_50 : decode b_Se_overwrite 50 = .ok (.iload_n 3, 1) := by decide +kernel
theorem d_Se_overwrite_51 : decode b_Se_overwrite 51 = .ok (.ireturn, 1) := by decide +kernel
theorem d_OL_name_0 : decode b_OL_name 0 = .ok (.aload_n 0, 1) := by decide +kernel
theorem d_OL_name_1 : decode b_OL_name 1 = .ok (.iload_n 1, 1) := by decide +kernel
theorem d_OL_name_2 : decode b_OL_name 2 = .ok (.invokevirtual 45, 3) := by decide +kernel
theorem d_OL_name_5 : decode b_OL_name 5 = .ok (.astore 6, 2) := by decide +kernel
theorem d_OL_name_7 : decode b_OL_name 7 = .ok (.aload 6, 2) := by decide +kernel
theorem d_OL_name_9 : decode b_OL_name 9 = .ok (.iload_n 2, 1) := by decide +kernel
theorem d_OL_name_10 : decode b_OL_name 10 = .ok (.iload_n 3, 1) := by decide +kernel
theorem d_OL_name_11 : decode b_OL_name 11 = .ok (.iload 4, 2) := by decide +kernel
theorem d_OL_name_13 : decode b_OL_name 13 = .ok (.iload 5, 2) := by decide +kernel
theorem d_OL_name_15 : decode b_OL_name 15 = .ok (.invokevirtual 91, 3) := by decide +kernel
theorem d_OL_name_18 : decode b_OL_name 18 = .ok (.ifCond .ne 13, 3) := by decide +kernel
theorem d_OL_name_21 : decode b_OL_name 21 = .ok (.new 55, 3) := by decide +kernel
theorem d_OL_name_24 : decode b_OL_name 24 = .ok (.dup, 1) := by decide +kernel
theorem d_OL_name_25 : decode b_OL_name 25 = .ok (.ldc 95, 2) := by decide +kernel
theorem d_OL_name_27 : decode b_OL_name 27 = .ok (.invokespecial 59, 3) := by decide +kernel
theorem d_OL_name_30 : decode b_OL_name 30 = .ok (.athrow, 1) := by decide +kernel
theorem d_OL_name_31 : decode b_OL_name 31 = .ok (.aload 6, 2) := by decide +kernel
theorem d_OL_name_33 : decode b_OL_name 33 = .ok (.getfield 97, 3) := by decide +kernel
theorem d_OL_name_36 : decode b_OL_name 36 = .ok (.bipush 12, 2) := by decide +kernel
theorem d_OL_name_38 : decode b_OL_name 38 = .ok (.if_icmp .lt 13, 3) := by decide +kernel
theorem d_OL_name_41 : decode b_OL_name 41 = .ok (.new 33, 3) := by decide +kernel
theorem d_OL_name_44 : decode b_OL_name 44 = .ok (.dup, 1) := by decide +kernel
theorem d_OL_name_45 : decode b_OL_name 45 = .ok (.ldc 100, 2) := by decide +kernel
theorem d_OL_name_47 : decode b_OL_name 47 = .ok (.invokespecial 37, 3) := by decide +kernel
theorem d_OL_name_50 : decode b_OL_name 50 = .ok (.athrow, 1) := by decide +kernel
theorem d_OL_name_51 : decode b_OL_name 51 = .ok (.aload 6, 2) := by decide +kernel
theorem d_OL_name_53 : decode b_OL_name 53 = .ok (.new 102, 3) := by decide +kernel
theorem d_OL_name_56 : decode b_OL_name 56 = .ok (.dup, 1) := by decide +kernel
theorem d_OL_name_57 : decode b_OL_name 57 = .ok (.iload_n 2, 1) := by decide +kernel
theorem d_OL_name_58 : decode b_OL_name 58 = .ok (.iload_n 3, 1) := by decide +kernel
theorem d_OL_name_59 : decode b_OL_name 59 = .ok (.iload 4, 2) := by decide +kernel
theorem d_OL_name_61 : decode b_OL_name 61 = .ok (.iload 5, 2) := by decide +kernel
theorem d_OL_name_63 : decode b_OL_name 63 = .ok (.invokespecial 104, 3) := by decide +kernel
theorem d_OL_name_66 : decode b_OL_name 66 = .ok (.invokevirtual 107, 3) := by decide +kernel
theorem d_OL_name_69 : decode b_OL_name 69 = .ok (.ireturn, 1) := by decide +kernel
theorem d_Un_canName_0 : decode b_Un_canName 0 = .ok (.aload_n 0, 1) := by decide +kernel
theorem d_Un_canName_1 : decode b_Un_canName 1 = .ok (.iload_n 2, 1) := by decide +kernel
theorem d_Un_canName_2 : decode b_Un_canName 2 = .ok (.iload_n 3, 1) := by decide +kernel
theorem d_Un_canName_3 : decode b_Un_canName 3 = .ok (.iload 4, 2) := by decide +kernel
theorem d_Un_canName_5 : decode b_Un_canName 5 = .ok (.invokevirtual 33, 3) := by decide +kernel
theorem d_Un_canName_8 : decode b_Un_canName 8 = .ok (.ifCond .eq 15, 3) := by decide +kernel
theorem d_Un_canName_11 : decode b_Un_canName 11 = .ok (.aload_n 0, 1) := by decide +kernel
theorem d_Un_canName_12 : decode b_Un_canName 12 = .ok (.iload_n 1, 1) := by decide +kernel
theorem d_Un_canName_13 : decode b_Un_canName 13 = .ok (.invokevirtual 37, 3) := by decide +kernel
theorem d_Un_canName_16 : decode b_Un_canName 16 = .ok (.ifCond .ne 7, 3) := by decide +kernel
theorem d_Un_canName_19 : decode b_Un_canName 19 = .ok (.iconst 1, 1) := by decide +kernel
theorem d_Un_canName_20 : decode b_Un_canName 20 = .ok (.goto 4, 3) := by decide +kernel
theorem d_Un_canName_23 : decode b_Un_canName 23 = .ok (.iconst 0, 1) := by decide +kernel
theorem d_Un_canName_24 : decode b_Un_canName 24 = .ok (.ireturn, 1) := by decide +kernel
theorem d_Un_sortCanBe_0 : decode b_Un_sortCanBe 0 = .ok (.iload_n 1, 1) := by decide +kernel
theorem d_Un_sortCanBe_1 : decode b_Un_sortCanBe 1 = .ok (.tableswitch 97 0 3 #[31, 31, 58, 83], 31) := by decide +kernel
theorem d_Un_sortCanBe_32 : decode b_Un_sortCanBe 32 = .ok (.aload_n 0, 1) := by decide +kernel
theorem d_Un_sortCanBe_33 : decode b_Un_sortCanBe 33 = .ok (.iload_n 2, 1) := by decide +kernel
theorem d_Un_sortCanBe_34 : decode b_Un_sortCanBe 34 = .ok (.invokevirtual 41, 3) := by decide +kernel
theorem d_Un_sortCanBe_37 : decode b_Un_sortCanBe 37 = .ok (.astore 4, 2) := by decide +kernel
theorem d_Un_sortCanBe_39 : decode b_Un_sortCanBe 39 = .ok (.aload 4, 2) := by decide +kernel
theorem d_Un_sortCanBe_41 : decode b_Un_sortCanBe 41 = .ok (.ifnull 16, 3) := by decide +kernel
theorem d_Un_sortCanBe_44 : decode b_Un_sortCanBe 44 = .ok (.aload 4, 2) := by decide +kernel
theorem d_Un_sortCanBe_46 : decode b_Un_sortCanBe 46 = .ok (.iload_n 3, 1) := by decide +kernel
theorem d_Un_sortCanBe_47 : decode b_Un_sortCanBe 47 = .ok (.invokevirtual 45, 3) := by decide +kernel
theorem d_Un_sortCanBe_50 : decode b_Un_sortCanBe 50 = .ok (.ifCond .eq 7, 3) := by decide +kernel
theorem d_Un_sortCanBe_53 : decode b_Un_sortCanBe 53 = .ok (.iconst 1, 1) := by decide +kernel
theorem d_Un_sortCanBe_54 : decode b_Un_sortCanBe 54 = .ok (.goto 4, 3) := by decide +kernel
theorem d_Un_sortCanBe_57 : decode b_Un_sortCanBe 57 = .ok (.iconst 0, 1) := by decide +kernel
theorem d_Un_sortCanBe_58 : decode b_Un_sortCanBe 58 = .ok (.ireturn, 1) := by decide +kernel
theorem d_Un_sortCanBe_59 : decode b_Un_sortCanBe 59 = .ok (.iload_n 2, 1) := by decide +kernel
theorem d_Un_sortCanBe_60 : decode b_Un_sortCanBe 60 = .ok (.invokestatic 48, 3) := by decide +kernel
theorem d_Un_sortCanBe_63 : decode b_Un_sortCanBe 63 = .ok (.ifCond .eq 19, 3) := by decide +kernel
theorem d_Un_sortCanBe_66 : decode b_Un_sortCanBe 66 = .ok (.iload_n 3, 1) := by decide +kernel
theorem d_Un_sortCanBe_67 : decode b_Un_sortCanBe 67 = .ok (.iconst 1, 1) := by decide +kernel
theorem d_Un_sortCanBe_68 : decode b_Un_sortCanBe 68 = .ok (.if_icmp .lt 14, 3) := by decide +kernel
theorem d_Un_sortCanBe_71 : decode b_Un_sortCanBe 71 = .ok (.iload_n 3, 1) := by decide +kernel
theorem d_Un_sortCanBe_72 : decode b_Un_sortCanBe 72 = .ok (.sipush 1024, 3) := by decide +kernel
theorem d_Un_sortCanBe_75 : decode b_Un_sortCanBe 75 = .ok (.if_icmp .gt 7, 3) := by decide +kernel
theorem d_Un_sortCanBe_78 : decode b_Un_sortCanBe 78 = .ok (.iconst 1, 1) := by decide +kernel
theorem d_Un_sortCanBe_79 : decode b_Un_sortCanBe 79 = .ok (.goto 4, 3) := by decide +kernel
theorem d_Un_sortCanBe_82 : decode b_Un_sortCanBe 82 = .ok (.iconst 0, 1) := by decide +kernel
theorem d_Un_sortCanBe_83 : decode b_Un_sortCanBe 83 = .ok (.ireturn, 1) := by decide +kernel
theorem d_Un_sortCanBe_84 : decode b_Un_sortCanBe 84 = .ok (.iload_n 2, 1) := by decide +kernel
theorem d_Un_sortCanBe_85 : decode b_Un_sortCanBe 85 = .ok (.ifCond .ne 11, 3) := by decide +kernel
theorem d_Un_sortCanBe_88 : decode b_Un_sortCanBe 88 = .ok (.iload_n 3, 1) := by decide +kernel
theorem d_Un_sortCanBe_89 : decode b_Un_sortCanBe 89 = .ok (.ifCond .ne 7, 3) := by decide +kernel
theorem d_Un_sortCanBe_92 : decode b_Un_sortCanBe 92 = .ok (.iconst 1, 1) := by decide +kernel
theorem d_Un_sortCanBe_93 : decode b_Un_sortCanBe 93 = .ok (.goto 4, 3) := by decide +kernel
theorem d_Un_sortCanBe_96 : decode b_Un_sortCanBe 96 = .ok (.iconst 0, 1) := by decide +kernel
theorem d_Un_sortCanBe_97 : decode b_Un_sortCanBe 97 = .ok (.ireturn, 1) := by decide +kernel
theorem d_Un_sortCanBe_98 : decode b_Un_sortCanBe 98 = .ok (.iconst 0, 1) := by decide +kernel
theorem d_Un_sortCanBe_99 : decode b_Un_sortCanBe 99 = .ok (.ireturn, 1) := by decide +kernel
theorem d_Se_hasPlace_0 : decode b_Se_hasPlace 0 = .ok (.iload_n 1, 1) := by decide +kernel
theorem d_Se_hasPlace_1 : decode b_Se_hasPlace 1 = .ok (.ifCond .lt 15, 3) := by decide +kernel
theorem d_Se_hasPlace_4 : decode b_Se_hasPlace 4 = .ok (.iload_n 1, 1) := by decide +kernel
theorem d_Se_hasPlace_5 : decode b_Se_hasPlace 5 = .ok (.aload_n 0, 1) := by decide +kernel
theorem d_Se_hasPlace_6 : decode b_Se_hasPlace 6 = .ok (.getfield 18, 3) := by decide +kernel
theorem d_Se_hasPlace_9 : decode b_Se_hasPlace 9 = .ok (.if_icmp .gt 7, 3) := by decide +kernel
theorem d_Se_hasPlace_12 : decode b_Se_hasPlace 12 = .ok (.iconst 1, 1) := by decide +kernel
theorem d_Se_hasPlace_13 : decode b_Se_hasPlace 13 = .ok (.goto 4, 3) := by decide +kernel
theorem d_Se_hasPlace_16 : decode b_Se_hasPlace 16 = .ok (.iconst 0, 1) := by decide +kernel
theorem d_Se_hasPlace_17 : decode b_Se_hasPlace 17 = .ok (.ireturn, 1) := by decide +kernel
theorem d_Un_hasName_0 : decode b_Un_hasName 0 = .ok (.iconst 0, 1) := by decide +kernel
theorem d_Un_hasName_1 : decode b_Un_hasName 1 = .ok (.istore_n 2, 1) := by decide +kernel
theorem d_Un_hasName_2 : decode b_Un_hasName 2 = .ok (.iload_n 2, 1) := by decide +kernel
theorem d_Un_hasName_3 : decode b_Un_hasName 3 = .ok (.aload_n 0, 1) := by decide +kernel
theorem d_Un_hasName_4 : decode b_Un_hasName 4 = .ok (.getfield 51, 3) := by decide +kernel
theorem d_Un_hasName_7 : decode b_Un_hasName 7 = .ok (.if_icmp .ge 24, 3) := by decide +kernel
theorem d_Un_hasName_10 : decode b_Un_hasName 10 = .ok (.aload_n 0, 1) := by decide +kernel
theorem d_Un_hasName_11 : decode b_Un_hasName 11 = .ok (.getfield 19, 3) := by decide +kernel
theorem d_Un_hasName_14 : decode b_Un_hasName 14 = .ok (.iload_n 2, 1) := by decide +kernel
theorem d_Un_hasName_15 : decode b_Un_hasName 15 = .ok (.aaload, 1) := by decide +kernel
theorem d_Un_hasName_16 : decode b_Un_hasName 16 = .ok (.getfield 54, 3) := by decide +kernel
theorem d_Un_hasName_19 : decode b_Un_hasName 19 = .ok (.iload_n 1, 1) := by decide +kernel
theorem d_Un_hasName_20 : decode b_Un_hasName 20 = .ok (.if_icmp .ne 5, 3) := by decide +kernel
theorem d_Un_hasName_23 : decode b_Un_hasName 23 = .ok (.iconst 1, 1) := by decide +kernel
theorem d_Un_hasName_24 : decode b_Un_hasName 24 = .ok (.ireturn, 1) := by decide +kernel
theorem d_Un_hasName_25 : decode b_Un_hasName 25 = .ok (.iinc 2 1, 3) := by decide +kernel
theorem d_Un_hasName_28 : decode b_Un_hasName 28 = .ok (.goto (-26), 3) := by decide +kernel
theorem d_Un_hasName_31 : decode b_Un_hasName 31 = .ok (.iconst 0, 1) := by decide +kernel
theorem d_Un_hasName_32 : decode b_Un_hasName 32 = .ok (.ireturn, 1) := by decide +kernel
theorem d_Na_init_0 : decode b_Na_init 0 = .ok (.aload_n 0, 1) := by decide +kernel
theorem d_Na_init_1 : decode b_Na_init 1 = .ok (.invokespecial 1, 3) := by decide +kernel
theorem d_Na_init_4 : decode b_Na_init 4 = .ok (.aload_n 0, 1) := by decide +kernel
theorem d_Na_init_5 : decode b_Na_init 5 = .ok (.iload_n 1, 1) := by decide +kernel
theorem d_Na_init_6 : decode b_Na_init 6 = .ok (.putfield 7, 3) := by decide +kernel
theorem d_Na_init_9 : decode b_Na_init 9 = .ok (.aload_n 0, 1) := by decide +kernel
theorem d_Na_init_10 : decode b_Na_init 10 = .ok (.iload_n 2, 1) := by decide +kernel
theorem d_Na_init_11 : decode b_Na_init 11 = .ok (.putfield 13, 3) := by decide +kernel
theorem d_Na_init_14 : decode b_Na_init 14 = .ok (.aload_n 0, 1) := by decide +kernel
theorem d_Na_init_15 : decode b_Na_init 15 = .ok (.iload_n 3, 1) := by decide +kernel
theorem d_Na_init_16 : decode b_Na_init 16 = .ok (.putfield 16, 3) := by decide +kernel
theorem d_Na_init_19 : decode b_Na_init 19 = .ok (.aload_n 0, 1) := by decide +kernel
theorem d_Na_init_20 : decode b_Na_init 20 = .ok (.iload 4, 2) := by decide +kernel
theorem d_Na_init_22 : decode b_Na_init 22 = .ok (.putfield 19, 3) := by decide +kernel
theorem d_Na_init_25 : decode b_Na_init 25 = .ok (.return_, 1) := by decide +kernel
theorem d_Un_addName_0 : decode b_Un_addName 0 = .ok (.aload_n 0, 1) := by decide +kernel
theorem d_Un_addName_1 : decode b_Un_addName 1 = .ok (.getfield 19, 3) := by decide +kernel
theorem d_Un_addName_4 : decode b_Un_addName 4 = .ok (.aload_n 0, 1) := by decide +kernel
theorem d_Un_addName_5 : decode b_Un_addName 5 = .ok (.getfield 51, 3) := by decide +kernel
theorem d_Un_addName_8 : decode b_Un_addName 8 = .ok (.aload_n 1, 1) := by decide +kernel
theorem d_Un_addName_9 : decode b_Un_addName 9 = .ok (.aastore, 1) := by decide +kernel
theorem d_Un_addName_10 : decode b_Un_addName 10 = .ok (.aload_n 0, 1) := by decide +kernel
theorem d_Un_addName_11 : decode b_Un_addName 11 = .ok (.dup, 1) := by decide +kernel
theorem d_Un_addName_12 : decode b_Un_addName 12 = .ok (.getfield 51, 3) := by decide +kernel
theorem d_Un_addName_15 : decode b_Un_addName 15 = .ok (.iconst 1, 1) := by decide +kernel
theorem d_Un_addName_16 : decode b_Un_addName 16 = .ok (.iadd, 1) := by decide +kernel
theorem d_Un_addName_17 : decode b_Un_addName 17 = .ok (.putfield 51, 3) := by decide +kernel
theorem d_Un_addName_20 : decode b_Un_addName 20 = .ok (.aload_n 0, 1) := by decide +kernel
theorem d_Un_addName_21 : decode b_Un_addName 21 = .ok (.getfield 51, 3) := by decide +kernel
theorem d_Un_addName_24 : decode b_Un_addName 24 = .ok (.iconst 1, 1) := by decide +kernel
theorem d_Un_addName_25 : decode b_Un_addName 25 = .ok (.isub, 1) := by decide +kernel
theorem d_Un_addName_26 : decode b_Un_addName 26 = .ok (.ireturn, 1) := by decide +kernel
theorem d_OL_reference_0 : decode b_OL_reference 0 = .ok (.aload_n 0, 1) := by decide +kernel
theorem d_OL_reference_1 : decode b_OL_reference 1 = .ok (.iload_n 1, 1) := by decide +kernel
theorem d_OL_reference_2 : decode b_OL_reference 2 = .ok (.invokevirtual 45, 3) := by decide +kernel
theorem d_OL_reference_5 : decode b_OL_reference 5 = .ok (.astore 7, 2) := by decide +kernel
theorem d_OL_reference_7 : decode b_OL_reference 7 = .ok (.aload 7, 2) := by decide +kernel
theorem d_OL_reference_9 : decode b_OL_reference 9 = .ok (.iload_n 2, 1) := by decide +kernel
theorem d_OL_reference_10 : decode b_OL_reference 10 = .ok (.iload_n 3, 1) := by decide +kernel
theorem d_OL_reference_11 : decode b_OL_reference 11 = .ok (.iload 4, 2) := by decide +kernel
theorem d_OL_reference_13 : decode b_OL_reference 13 = .ok (.iload 5, 2) := by decide +kernel
theorem d_OL_reference_15 : decode b_OL_reference 15 = .ok (.invokevirtual 111, 3) := by decide +kernel
theorem d_OL_reference_18 : decode b_OL_reference 18 = .ok (.ifCond .ne 13, 3) := by decide +kernel
theorem d_OL_reference_21 : decode b_OL_reference 21 = .ok (.new 55, 3) := by decide +kernel
theorem d_OL_reference_24 : decode b_OL_reference 24 = .ok (.dup, 1) := by decide +kernel
theorem d_OL_reference_25 : decode b_OL_reference 25 = .ok (.ldc 114, 2) := by decide +kernel
theorem d_OL_reference_27 : decode b_OL_reference 27 = .ok (.invokespecial 59, 3) := by decide +kernel
theorem d_OL_reference_30 : decode b_OL_reference 30 = .ok (.athrow, 1) := by decide +kernel
theorem d_OL_reference_31 : decode b_OL_reference 31 = .ok (.aload 7, 2) := by decide +kernel
theorem d_OL_reference_33 : decode b_OL_reference 33 = .ok (.getfield 116, 3) := by decide +kernel
theorem d_OL_reference_36 : decode b_OL_reference 36 = .ok (.bipush 16, 2) := by decide +kernel
theorem d_OL_reference_38 : decode b_OL_reference 38 = .ok (.if_icmp .lt 13, 3) := by decide +kernel
theorem d_OL_reference_41 : decode b_OL_reference 41 = .ok (.new 33, 3) := by decide +kernel
theorem d_OL_reference_44 : decode b_OL_reference 44 = .ok (.dup, 1) := by decide +kernel
theorem d_OL_reference_45 : decode b_OL_reference 45 = .ok (.ldc 119, 2) := by decide +kernel
theorem d_OL_reference_47 : decode b_OL_reference 47 = .ok (.invokespecial 37, 3) := by decide +kernel
theorem d_OL_reference_50 : decode b_OL_reference 50 = .ok (.athrow, 1) := by decide +kernel
theorem d_OL_reference_51 : decode b_OL_reference 51 = .ok (.aload 7, 2) := by decide +kernel
theorem d_OL_reference_53 : decode b_OL_reference 53 = .ok (.new 121, 3) := by decide +kernel
theorem d_OL_reference_56 : decode b_OL_reference 56 = .ok (.dup, 1) := by decide +kernel
theorem d_OL_reference_57 : decode b_OL_reference 57 = .ok (.iload_n 2, 1) := by decide +kernel
theorem d_OL_reference_58 : decode b_OL_reference 58 = .ok (.iload_n 3, 1) := by decide +kernel
theorem d_OL_reference_59 : decode b_OL_reference 59 = .ok (.iload 4, 2) := by decide +kernel
theorem d_OL_reference_61 : decode b_OL_reference 61 = .ok (.iload 5, 2) := by decide +kernel
theorem d_OL_reference_63 : decode b_OL_reference 63 = .ok (.iload 6, 2) := by decide +kernel
theorem d_OL_reference_65 : decode b_OL_reference 65 = .ok (.invokespecial 123, 3) := by decide +kernel
theorem d_OL_reference_68 : decode b_OL_reference 68 = .ok (.invokevirtual 126, 3) := by decide +kernel
theorem d_OL_reference_71 : decode b_OL_reference 71 = .ok (.ireturn, 1) := by decide +kernel
theorem d_Un_canRefer_0 : decode b_Un_canRefer 0 = .ok (.aload_n 0, 1) := by decide +kernel
theorem d_Un_canRefer_1 : decode b_Un_canRefer 1 = .ok (.iload_n 1, 1) := by decide +kernel
theorem d_Un_canRefer_2 : decode b_Un_canRefer 2 = .ok (.invokevirtual 41, 3) := by decide +kernel
theorem d_Un_canRefer_5 : decode b_Un_canRefer 5 = .ok (.astore 5, 2) := by decide +kernel
theorem d_Un_canRefer_7 : decode b_Un_canRefer 7 = .ok (.aload 5, 2) := by decide +kernel
theorem d_Un_canRefer_9 : decode b_Un_canRefer 9 = .ok (.ifnull 51, 3) := by decide +kernel
theorem d_Un_canRefer_12 : decode b_Un_canRefer 12 = .ok (.aload 5, 2) := by decide +kernel
theorem d_Un_canRefer_14 : decode b_Un_canRefer 14 = .ok (.getfield 57, 3) := by decide +kernel
theorem d_Un_canRefer_17 : decode b_Un_canRefer 17 = .ok (.iconst 3, 1) := by decide +kernel
theorem d_Un_canRefer_18 : decode b_Un_canRefer 18 = .ok (.if_icmp .eq 42, 3) := by decide +kernel
theorem d_Un_canRefer_21 : decode b_Un_canRefer 21 = .ok (.aload 5, 2) := by decide +kernel
theorem d_Un_canRefer_23 : decode b_Un_canRefer 23 = .ok (.iload_n 2, 1) := by decide +kernel
theorem d_Un_canRefer_24 : decode b_Un_canRefer 24 = .ok (.invokevirtual 45, 3) := by decide +kernel
theorem d_Un_canRefer_27 : decode b_Un_canRefer 27 = .ok (.ifCond .eq 33, 3) := by decide +kernel
theorem d_Un_canRefer_30 : decode b_Un_canRefer 30 = .ok (.iload_n 3, 1) := by decide +kernel
theorem d_Un_canRefer_31 : decode b_Un_canRefer 31 = .ok (.ifCond .lt 29, 3) := by decide +kernel
theorem d_Un_canRefer_34 : decode b_Un_canRefer 34 = .ok (.iload_n 3, 1) := by decide +kernel
theorem d_Un_canRefer_35 : decode b_Un_canRefer 35 = .ok (.getstatic 60, 3) := by decide +kernel
theorem d_Un_canRefer_38 : decode b_Un_canRefer 38 = .ok (.arraylength, 1) := by decide +kernel
theorem d_Un_canRefer_39 : decode b_Un_canRefer 39 = .ok (.if_icmp .ge 21, 3) := by decide +kernel
theorem d_Un_canRefer_42 : decode b_Un_canRefer 42 = .ok (.iload 4, 2) := by decide +kernel
theorem d_Un_canRefer_44 : decode b_Un_canRefer 44 = .ok (.ifCond .lt 16, 3) := by decide +kernel
theorem d_Un_canRefer_47 : decode b_Un_canRefer 47 = .ok (.iload 4, 2) := by decide +kernel
theorem d_Un_canRefer_49 : decode b_Un_canRefer 49 = .ok (.aload_n 0, 1) := by decide +kernel
theorem d_Un_canRefer_50 : decode b_Un_canRefer 50 = .ok (.getfield 51, 3) := by decide +kernel
theorem d_Un_canRefer_53 : decode b_Un_canRefer 53 = .ok (.if_icmp .ge 7, 3) := by decide +kernel
theorem d_Un_canRefer_56 : decode b_Un_canRefer 56 = .ok (.iconst 1, 1) := by decide +kernel
theorem d_Un_canRefer_57 : decode b_Un_canRefer 57 = .ok (.goto 4, 3) := by decide +kernel
theorem d_Un_canRefer_60 : decode b_Un_canRefer 60 = .ok (.iconst 0, 1) := by decide +kernel
theorem d_Un_canRefer_61 : decode b_Un_canRefer 61 = .ok (.ireturn, 1) := by decide +kernel
theorem d_Rf_init_0 : decode b_Rf_init 0 = .ok (.aload_n 0, 1) := by decide +kernel
theorem d_Rf_init_1 : decode b_Rf_init 1 = .ok (.invokespecial 1, 3) := by decide +kernel
theorem d_Rf_init_4 : decode b_Rf_init 4 = .ok (.aload_n 0, 1) := by decide +kernel
theorem d_Rf_init_5 : decode b_Rf_init 5 = .ok (.iload_n 1, 1) := by decide +kernel
theorem d_Rf_init_6 : decode b_Rf_init 6 = .ok (.putfield 7, 3) := by decide +kernel
theorem d_Rf_init_9 : decode b_Rf_init 9 = .ok (.aload_n 0, 1) := by decide +kernel
theorem d_Rf_init_10 : decode b_Rf_init 10 = .ok (.iload_n 2, 1) := by decide +kernel
theorem d_Rf_init_11 : decode b_Rf_init 11 = .ok (.putfield 13, 3) := by decide +kernel
theorem d_Rf_init_14 : decode b_Rf_init 14 = .ok (.aload_n 0, 1) := by decide +kernel
theorem d_Rf_init_15 : decode b_Rf_init 15 = .ok (.iload_n 3, 1) := by decide +kernel
theorem d_Rf_init_16 : decode b_Rf_init 16 = .ok (.putfield 16, 3) := by decide +kernel
theorem d_Rf_init_19 : decode b_Rf_init 19 = .ok (.aload_n 0, 1) := by decide +kernel
theorem d_Rf_init_20 : decode b_Rf_init 20 = .ok (.iload 4, 2) := by decide +kernel
theorem d_Rf_init_22 : decode b_Rf_init 22 = .ok (.putfield 19, 3) := by decide +kernel
theorem d_Rf_init_25 : decode b_Rf_init 25 = .ok (.aload_n 0, 1) := by decide +kernel
theorem d_Rf_init_26 : decode b_Rf_init 26 = .ok (.iload 5, 2) := by decide +kernel
theorem d_Rf_init_28 : decode b_Rf_init 28 = .ok (.putfield 22, 3) := by decide +kernel
theorem d_Rf_init_31 : decode b_Rf_init 31 = .ok (.return_, 1) := by decide +kernel
theorem d_Un_addReference_0 : decode b_Un_addReference 0 = .ok (.aload_n 0, 1) := by decide +kernel
theorem d_Un_addReference_1 : decode b_Un_addReference 1 = .ok (.getfield 25, 3) := by decide +kernel
theorem d_Un_addReference_4 : decode b_Un_addReference 4 = .ok (.aload_n 0, 1) := by decide +kernel
theorem d_Un_addReference_5 : decode b_Un_addReference 5 = .ok (.getfield 64, 3) := by decide +kernel
theorem d_Un_addReference_8 : decode b_Un_addReference 8 = .ok (.aload_n 1, 1) := by decide +kernel
theorem d_Un_addReference_9 : decode b_Un_addReference 9 = .ok (.aastore, 1) := by decide +kernel
theorem d_Un_addReference_10 : decode b_Un_addReference 10 = .ok (.aload_n 0, 1) := by decide +kernel
theorem d_Un_addReference_11 : decode b_Un_addReference 11 = .ok (.dup, 1) := by decide +kernel
theorem d_Un_addReference_12 : decode b_Un_addReference 12 = .ok (.getfield 64, 3) := by decide +kernel
theorem d_Un_addReference_15 : decode b_Un_addReference 15 = .ok (.iconst 1, 1) := by decide +kernel
theorem d_Un_addReference_16 : decode b_Un_addReference 16 = .ok (.iadd, 1) := by decide +kernel
theorem d_Un_addReference_17 : decode b_Un_addReference 17 = .ok (.putfield 64, 3) := by decide +kernel
theorem d_Un_addReference_20 : decode b_Un_addReference 20 = .ok (.aload_n 0, 1) := by decide +kernel
theorem d_Un_addReference_21 : decode b_Un_addReference 21 = .ok (.getfield 64, 3) := by decide +kernel
theorem d_Un_addReference_24 : decode b_Un_addReference 24 = .ok (.iconst 1, 1) := by decide +kernel
theorem d_Un_addReference_25 : decode b_Un_addReference 25 = .ok (.isub, 1) := by decide +kernel
theorem d_Un_addReference_26 : decode b_Un_addReference 26 = .ok (.ireturn, 1) := by decide +kernel
theorem d_OL_choose_0 : decode b_OL_choose 0 = .ok (.aload_n 0, 1) := by decide +kernel
theorem d_OL_choose_1 : decode b_OL_choose 1 = .ok (.iload_n 1, 1) := by decide +kernel
theorem d_OL_choose_2 : decode b_OL_choose 2 = .ok (.invokevirtual 45, 3) := by decide +kernel
theorem d_OL_choose_5 : decode b_OL_choose 5 = .ok (.astore_n 2, 1) := by decide +kernel
theorem d_OL_choose_6 : decode b_OL_choose 6 = .ok (.aload_n 0, 1) := by decide +kernel
theorem d_OL_choose_7 : decode b_OL_choose 7 = .ok (.getfield 18, 3) := by decide +kernel
theorem d_OL_choose_10 : decode b_OL_choose 10 = .ok (.iload_n 1, 1) := by decide +kernel
theorem d_OL_choose_11 : decode b_OL_choose 11 = .ok (.invokevirtual 130, 3) := by decide +kernel
theorem d_OL_choose_14 : decode b_OL_choose 14 = .ok (.ifCond .eq 13, 3) := by decide +kernel
theorem d_OL_choose_17 : decode b_OL_choose 17 = .ok (.new 55, 3) := by decide +kernel
theorem d_OL_choose_20 : decode b_OL_choose 20 = .ok (.dup, 1) := by decide +kernel
theorem d_OL_choose_21 : decode b_OL_choose 21 = .ok (.ldc 134, 2) := by decide +kernel
theorem d_OL_choose_23 : decode b_OL_choose 23 = .ok (.invokespecial 59, 3) := by decide +kernel
theorem d_OL_choose_26 : decode b_OL_choose 26 = .ok (.athrow, 1) := by decide +kernel
theorem d_OL_choose_27 : decode b_OL_choose 27 = .ok (.aload_n 0, 1) := by decide +kernel
theorem d_OL_choose_28 : decode b_OL_choose 28 = .ok (.getfield 18, 3) := by decide +kernel
theorem d_OL_choose_31 : decode b_OL_choose 31 = .ok (.iload_n 1, 1) := by decide +kernel
theorem d_OL_choose_32 : decode b_OL_choose 32 = .ok (.aload_n 2, 1) := by decide +kernel
theorem d_OL_choose_33 : decode b_OL_choose 33 = .ok (.invokevirtual 136, 3) := by decide +kernel
theorem d_OL_choose_36 : decode b_OL_choose 36 = .ok (.ireturn, 1) := by decide +kernel
theorem d_Li_isChosen_0 : decode b_Li_isChosen 0 = .ok (.iconst 0, 1) := by decide +kernel
theorem d_Li_isChosen_1 : decode b_Li_isChosen 1 = .ok (.istore_n 2, 1) := by decide +kernel
theorem d_Li_isChosen_2 : decode b_Li_isChosen 2 = .ok (.iload_n 2, 1) := by decide +kernel
theorem d_Li_isChosen_3 : decode b_Li_isChosen 3 = .ok (.aload_n 0, 1) := by decide +kernel
theorem d_Li_isChosen_4 : decode b_Li_isChosen 4 = .ok (.getfield 48, 3) := by decide +kernel
theorem d_Li_isChosen_7 : decode b_Li_isChosen 7 = .ok (.if_icmp .ge 21, 3) := by decide +kernel
theorem d_Li_isChosen_10 : decode b_Li_isChosen 10 = .ok (.aload_n 0, 1) := by decide +kernel
theorem d_Li_isChosen_11 : decode b_Li_isChosen 11 = .ok (.getfield 17, 3) := by decide +kernel
theorem d_Li_isChosen_14 : decode b_Li_isChosen 14 = .ok (.iload_n 2, 1) := by decide +kernel
theorem d_Li_isChosen_15 : decode b_Li_isChosen 15 = .ok (.iaload, 1) := by decide +kernel
theorem d_Li_isChosen_16 : decode b_Li_isChosen 16 = .ok (.iload_n 1, 1) := by decide +kernel
theorem d_Li_isChosen_17 : decode b_Li_isChosen 17 = .ok (.if_icmp .ne 5, 3) := by decide +kernel
theorem d_Li_isChosen_20 : decode b_Li_isChosen 20 = .ok (.iconst 1, 1) := by decide +kernel
theorem d_Li_isChosen_21 : decode b_Li_isChosen 21 = .ok (.ireturn, 1) := by decide +kernel
theorem d_Li_isChosen_22 : decode b_Li_isChosen 22 = .ok (.iinc 2 1, 3) := by decide +kernel
theorem d_Li_isChosen_25 : decode b_Li_isChosen 25 = .ok (.goto (-23), 3) := by decide +kernel
theorem d_Li_isChosen_28 : decode b_Li_isChosen 28 = .ok (.iconst 0, 1) := by decide +kernel
theorem d_Li_isChosen_29 : decode b_Li_isChosen 29 = .ok (.ireturn, 1) := by decide +kernel
theorem d_Li_takeBehind_0 : decode b_Li_takeBehind 0 = .ok (.aload_n 0, 1) := by decide +kernel
theorem d_Li_takeBehind_1 : decode b_Li_takeBehind 1 = .ok (.getfield 11, 3) := by decide +kernel
theorem d_Li_takeBehind_4 : decode b_Li_takeBehind 4 = .ok (.iload_n 1, 1) := by decide +kernel
theorem d_Li_takeBehind_5 : decode b_Li_takeBehind 5 = .ok (.aload_n 2, 1) := by decide +kernel
theorem d_Li_takeBehind_6 : decode b_Li_takeBehind 6 = .ok (.aastore, 1) := by decide +kernel
theorem d_Li_takeBehind_7 : decode b_Li_takeBehind 7 = .ok (.aload_n 0, 1) := by decide +kernel
theorem d_Li_takeBehind_8 : decode b_Li_takeBehind 8 = .ok (.getfield 17, 3) := by decide +kernel
theorem d_Li_takeBehind_11 : decode b_Li_takeBehind 11 = .ok (.aload_n 0, 1) := by decide +kernel
theorem d_Li_takeBehind_12 : decode b_Li_takeBehind 12 = .ok (.getfield 48, 3) := by decide +kernel
theorem d_Li_takeBehind_15 : decode b_Li_takeBehind 15 = .ok (.iload_n 1, 1) := by decide +kernel
theorem d_Li_takeBehind_16 : decode b_Li_takeBehind 16 = .ok (.iastore, 1) := by decide +kernel
theorem d_Li_takeBehind_17 : decode b_Li_takeBehind 17 = .ok (.aload_n 0, 1) := by decide +kernel
theorem d_Li_takeBehind_18 : decode b_Li_takeBehind 18 = .ok (.dup, 1) := by decide +kernel
theorem d_Li_takeBehind_19 : decode b_Li_takeBehind 19 = .ok (.getfield 48, 3) := by decide +kernel
theorem d_Li_takeBehind_22 : decode b_Li_takeBehind 22 = .ok (.iconst 1, 1) := by decide +kernel
theorem d_Li_takeBehind_23 : decode b_Li_takeBehind 23 = .ok (.iadd, 1) := by decide +kernel
theorem d_Li_takeBehind_24 : decode b_Li_takeBehind 24 = .ok (.putfield 48, 3) := by decide +kernel
theorem d_Li_takeBehind_27 : decode b_Li_takeBehind 27 = .ok (.aload_n 0, 1) := by decide +kernel
theorem d_Li_takeBehind_28 : decode b_Li_takeBehind 28 = .ok (.getfield 48, 3) := by decide +kernel
theorem d_Li_takeBehind_31 : decode b_Li_takeBehind 31 = .ok (.ireturn, 1) := by decide +kernel
theorem d_OL_link_0 : decode b_OL_link 0 = .ok (.iload_n 2, 1) := by decide +kernel
theorem d_OL_link_1 : decode b_OL_link 1 = .ok (.ifCond .lt 9, 3) := by decide +kernel
theorem d_OL_link_4 : decode b_OL_link 4 = .ok (.iload_n 2, 1) := by decide +kernel
theorem d_OL_link_5 : decode b_OL_link 5 = .ok (.ldc 140, 2) := by decide +kernel
theorem d_OL_link_7 : decode b_OL_link 7 = .ok (.if_icmp .le 13, 3) := by decide +kernel
theorem d_OL_link_10 : decode b_OL_link 10 = .ok (.new 55, 3) := by decide +kernel
theorem d_OL_link_13 : decode b_OL_link 13 = .ok (.dup, 1) := by decide +kernel
theorem d_OL_link_14 : decode b_OL_link 14 = .ok (.ldc 141, 2) := by decide +kernel
theorem d_OL_link_16 : decode b_OL_link 16 = .ok (.invokespecial 59, 3) := by decide +kernel
theorem d_OL_link_19 : decode b_OL_link 19 = .ok (.athrow, 1) := by decide +kernel
theorem d_OL_link_20 : decode b_OL_link 20 = .ok (.aload_n 0, 1) := by decide +kernel
theorem d_OL_link_21 : decode b_OL_link 21 = .ok (.getfield 18, 3) := by decide +kernel
theorem d_OL_link_24 : decode b_OL_link 24 = .ok (.getfield 143, 3) := by decide +kernel
theorem d_OL_link_27 : decode b_OL_link 27 = .ok (.ifCond .ne 13, 3) := by decide +kernel
theorem d_OL_link_30 : decode b_OL_link 30 = .ok (.new 146, 3) := by decide +kernel
theorem d_OL_link_33 : decode b_OL_link 33 = .ok (.dup, 1) := by decide +kernel
theorem d_OL_link_34 : decode b_OL_link 34 = .ok (.ldc 148, 2) := by decide +kernel
theorem d_OL_link_36 : decode b_OL_link 36 = .ok (.invokespecial 150, 3) := by decide +kernel
theorem d_OL_link_39 : decode b_OL_link 39 = .ok (.athrow, 1) := by decide +kernel
theorem d_OL_link_40 : decode b_OL_link 40 = .ok (.aload_n 0, 1) := by decide +kernel
theorem d_OL_link_41 : decode b_OL_link 41 = .ok (.getfield 18, 3) := by decide +kernel
theorem d_OL_link_44 : decode b_OL_link 44 = .ok (.iload_n 1, 1) := by decide +kernel
theorem d_OL_link_45 : decode b_OL_link 45 = .ok (.iload_n 2, 1) := by decide +kernel
theorem d_OL_link_46 : decode b_OL_link 46 = .ok (.invokevirtual 151, 3) := by decide +kernel
theorem d_OL_link_49 : decode b_OL_link 49 = .ok (.ifCond .ne 13, 3) := by decide +kernel
theorem d_OL_link_52 : decode b_OL_link 52 = .ok (.new 33, 3) := by decide +kernel
theorem d_OL_link_55 : decode b_OL_link 55 = .ok (.dup, 1) := by decide +kernel
theorem d_OL_link_56 : decode b_OL_link 56 = .ok (.ldc 155, 2) := by decide +kernel
theorem d_OL_link_58 : decode b_OL_link 58 = .ok (.invokespecial 37, 3) := by decide +kernel
theorem d_OL_link_61 : decode b_OL_link 61 = .ok (.athrow, 1) := by decide +kernel
theorem d_OL_link_62 : decode b_OL_link 62 = .ok (.aload_n 0, 1) := by decide +kernel
theorem d_OL_link_63 : decode b_OL_link 63 = .ok (.getfield 18, 3) := by decide +kernel
theorem d_OL_link_66 : decode b_OL_link 66 = .ok (.getfield 157, 3) := by decide +kernel
theorem d_OL_link_69 : decode b_OL_link 69 = .ok (.ireturn, 1) := by decide +kernel
theorem d_Li_makeImage_0 : decode b_Li_makeImage 0 = .ok (.aload_n 0, 1) := by decide +kernel
theorem d_Li_makeImage_1 : decode b_Li_makeImage 1 = .ok (.invokevirtual 80, 3) := by decide +kernel
theorem d_Li_makeImage_4 : decode b_Li_makeImage 4 = .ok (.aload_n 0, 1) := by decide +kernel
theorem d_Li_makeImage_5 : decode b_Li_makeImage 5 = .ok (.iload_n 2, 1) := by decide +kernel
theorem d_Li_makeImage_6 : decode b_Li_makeImage 6 = .ok (.putfield 55, 3) := by decide +kernel
theorem d_Li_makeImage_9 : decode b_Li_makeImage 9 = .ok (.aload_n 0, 1) := by decide +kernel
theorem d_Li_makeImage_10 : decode b_Li_makeImage 10 = .ok (.aload_n 0, 1) := by decide +kernel
theorem d_Li_makeImage_11 : decode b_Li_makeImage 11 = .ok (.invokevirtual 83, 3) := by decide +kernel
theorem d_Li_makeImage_14 : decode b_Li_makeImage 14 = .ok (.ifCond .eq 36, 3) := by decide +kernel
theorem d_Li_makeImage_17 : decode b_Li_makeImage 17 = .ok (.aload_n 0, 1) := by decide +kernel
theorem d_Li_makeImage_18 : decode b_Li_makeImage 18 = .ok (.iload_n 1, 1) := by decide +kernel
theorem d_Li_makeImage_19 : decode b_Li_makeImage 19 = .ok (.invokevirtual 87, 3) := by decide +kernel
theorem d_Li_makeImage_22 : decode b_Li_makeImage 22 = .ok (.ifCond .eq 28, 3) := by decide +kernel
theorem d_Li_makeImage_25 : decode b_Li_makeImage 25 = .ok (.aload_n 0, 1) := by decide +kernel
theorem d_Li_makeImage_26 : decode b_Li_makeImage 26 = .ok (.invokevirtual 91, 3) := by decide +kernel
theorem d_Li_makeImage_29 : decode b_Li_makeImage 29 = .ok (.ifCond .eq 21, 3) := by decide +kernel
theorem d_Li_makeImage_32 : decode b_Li_makeImage 32 = .ok (.aload_n 0, 1) := by decide +kernel
theorem d_Li_makeImage_33 : decode b_Li_makeImage 33 = .ok (.invokevirtual 94, 3) := by decide +kernel
theorem d_Li_makeImage_36 : decode b_Li_makeImage 36 = .ok (.ifCond .eq 14, 3) := by decide +kernel
theorem d_Li_makeImage_39 : decode b_Li_makeImage 39 = .ok (.aload_n 0, 1) := by decide +kernel
theorem d_Li_makeImage_40 : decode b_Li_makeImage 40 = .ok (.invokevirtual 97, 3) := by decide +kernel
theorem d_Li_makeImage_43 : decode b_Li_makeImage 43 = .ok (.ifCond .eq 7, 3) := by decide +kernel
theorem d_Li_makeImage_46 : decode b_Li_makeImage 46 = .ok (.iconst 1, 1) := by decide +kernel
theorem d_Li_makeImage_47 : decode b_Li_makeImage 47 = .ok (.goto 4, 3) := by decide +kernel
theorem d_Li_makeImage_50 : decode b_Li_makeImage 50 = .ok (.iconst 0, 1) := by decide +kernel
theorem d_Li_makeImage_51 : decode b_Li_makeImage 51 = .ok (.putfield 51, 3) := by decide +kernel
theorem d_Li_makeImage_54 : decode b_Li_makeImage 54 = .ok (.aload_n 0, 1) := by decide +kernel
theorem d_Li_makeImage_55 : decode b_Li_makeImage 55 = .ok (.getfield 51, 3) := by decide +kernel
theorem d_Li_makeImage_58 : decode b_Li_makeImage 58 = .ok (.ifCond .ne 7, 3) := by decide +kernel
theorem d_Li_makeImage_61 : decode b_Li_makeImage 61 = .ok (.aload_n 0, 1) := by decide +kernel
theorem d_Li_makeImage_62 : decode b_Li_makeImage 62 = .ok (.invokevirtual 100, 3) := by decide +kernel
theorem d_Li_makeImage_65 : decode b_Li_makeImage 65 = .ok (.aload_n 0, 1) := by decide +kernel
theorem d_Li_makeImage_66 : decode b_Li_makeImage 66 = .ok (.iconst 0, 1) := by decide +kernel
theorem d_Li_makeImage_67 : decode b_Li_makeImage 67 = .ok (.putfield 48, 3) := by decide +kernel
theorem d_Li_makeImage_70 : decode b_Li_makeImage 70 = .ok (.aload_n 0, 1) := by decide +kernel
theorem d_Li_makeImage_71 : decode b_Li_makeImage 71 = .ok (.getfield 51, 3) := by decide +kernel
theorem d_Li_makeImage_74 : decode b_Li_makeImage 74 = .ok (.ireturn, 1) := by decide +kernel
theorem d_Li_forget_0 : decode b_Li_forget 0 = .ok (.aload_n 0, 1) := by decide +kernel
theorem d_Li_forget_1 : decode b_Li_forget 1 = .ok (.invokevirtual 100, 3) := by decide +kernel
theorem d_Li_forget_4 : decode b_Li_forget 4 = .ok (.aload_n 0, 1) := by decide +kernel
theorem d_Li_forget_5 : decode b_Li_forget 5 = .ok (.iconst 0, 1) := by decide +kernel
theorem d_Li_forget_6 : decode b_Li_forget 6 = .ok (.iconst (-1), 1) := by decide +kernel
theorem d_Li_forget_7 : decode b_Li_forget 7 = .ok (.iconst (-1), 1) := by decide +kernel
theorem d_Li_forget_8 : decode b_Li_forget 8 = .ok (.invokevirtual 103, 3) := by decide +kernel
theorem d_Li_forget_11 : decode b_Li_forget 11 = .ok (.pop, 1) := by decide +kernel
theorem d_Li_forget_12 : decode b_Li_forget 12 = .ok (.aload_n 0, 1) := by decide +kernel
theorem d_Li_forget_13 : decode b_Li_forget 13 = .ok (.getfield 24, 3) := by decide +kernel
theorem d_Li_forget_16 : decode b_Li_forget 16 = .ok (.invokevirtual 107, 3) := by decide +kernel
theorem d_Li_forget_19 : decode b_Li_forget 19 = .ok (.aload_n 0, 1) := by decide +kernel
theorem d_Li_forget_20 : decode b_Li_forget 20 = .ok (.iconst 0, 1) := by decide +kernel
theorem d_Li_forget_21 : decode b_Li_forget 21 = .ok (.putfield 110, 3) := by decide +kernel
theorem d_Li_forget_24 : decode b_Li_forget 24 = .ok (.iconst 0, 1) := by decide +kernel
theorem d_Li_forget_25 : decode b_Li_forget 25 = .ok (.istore_n 1, 1) := by decide +kernel
theorem d_Li_forget_26 : decode b_Li_forget 26 = .ok (.iload_n 1, 1) := by decide +kernel
theorem d_Li_forget_27 : decode b_Li_forget 27 = .ok (.bipush 96, 2) := by decide +kernel
theorem d_Li_forget_29 : decode b_Li_forget 29 = .ok (.if_icmp .ge 16, 3) := by decide +kernel
theorem d_Li_forget_32 : decode b_Li_forget 32 = .ok (.aload_n 0, 1) := by decide +kernel
theorem d_Li_forget_33 : decode b_Li_forget 33 = .ok (.getfield 28, 3) := by decide +kernel
theorem d_Li_forget_36 : decode b_Li_forget 36 = .ok (.iload_n 1, 1) := by decide +kernel
theorem d_Li_forget_37 : decode b_Li_forget 37 = .ok (.iconst 0, 1) := by decide +kernel
theorem d_Li_forget_38 : decode b_Li_forget 38 = .ok (.bastore, 1) := by decide +kernel
theorem d_Li_forget_39 : decode b_Li_forget 39 = .ok (.iinc 1 1, 3) := by decide +kernel
theorem d_Li_forget_42 : decode b_Li_forget 42 = .ok (.goto (-16), 3) := by decide +kernel
theorem d_Li_forget_45 : decode b_Li_forget 45 = .ok (.return_, 1) := by decide +kernel
theorem d_Li_dropImage_0 : decode b_Li_dropImage 0 = .ok (.aload_n 0, 1) := by decide +kernel
theorem d_Li_dropImage_1 : decode b_Li_dropImage 1 = .ok (.iconst 0, 1) := by decide +kernel
theorem d_Li_dropImage_2 : decode b_Li_dropImage 2 = .ok (.putfield 113, 3) := by decide +kernel
theorem d_Li_dropImage_5 : decode b_Li_dropImage 5 = .ok (.aload_n 0, 1) := by decide +kernel
theorem d_Li_dropImage_6 : decode b_Li_dropImage 6 = .ok (.iconst 0, 1) := by decide +kernel
theorem d_Li_dropImage_7 : decode b_Li_dropImage 7 = .ok (.putfield 116, 3) := by decide +kernel
theorem d_Li_dropImage_10 : decode b_Li_dropImage 10 = .ok (.aload_n 0, 1) := by decide +kernel
theorem d_Li_dropImage_11 : decode b_Li_dropImage 11 = .ok (.iconst 0, 1) := by decide +kernel
theorem d_Li_dropImage_12 : decode b_Li_dropImage 12 = .ok (.putfield 119, 3) := by decide +kernel
theorem d_Li_dropImage_15 : decode b_Li_dropImage 15 = .ok (.aload_n 0, 1) := by decide +kernel
theorem d_Li_dropImage_16 : decode b_Li_dropImage 16 = .ok (.iconst 0, 1) := by decide +kernel
theorem d_Li_dropImage_17 : decode b_Li_dropImage 17 = .ok (.putfield 122, 3) := by decide +kernel
theorem d_Li_dropImage_20 : decode b_Li_dropImage 20 = .ok (.return_, 1) := by decide +kernel
theorem d_Li_tell_0 : decode b_Li_tell 0 = .ok (.aload_n 0, 1) := by decide +kernel
theorem d_Li_tell_1 : decode b_Li_tell 1 = .ok (.iload_n 1, 1) := by decide +kernel
theorem d_Li_tell_2 : decode b_Li_tell 2 = .ok (.putfield 125, 3) := by decide +kernel
theorem d_Li_tell_5 : decode b_Li_tell 5 = .ok (.aload_n 0, 1) := by decide +kernel
theorem d_Li_tell_6 : decode b_Li_tell 6 = .ok (.iload_n 2, 1) := by decide +kernel
theorem d_Li_tell_7 : decode b_Li_tell 7 = .ok (.putfield 41, 3) := by decide +kernel
theorem d_Li_tell_10 : decode b_Li_tell 10 = .ok (.aload_n 0, 1) := by decide +kernel
theorem d_Li_tell_11 : decode b_Li_tell 11 = .ok (.iload_n 3, 1) := by decide +kernel
theorem d_Li_tell_12 : decode b_Li_tell 12 = .ok (.putfield 45, 3) := by decide +kernel
theorem d_Li_tell_15 : decode b_Li_tell 15 = .ok (.iconst 0, 1) := by decide +kernel
theorem d_Li_tell_16 : decode b_Li_tell 16 = .ok (.ireturn, 1) := by decide +kernel
theorem d_NT_clear_0 : decode b_NT_clear 0 = .ok (.aload_n 0, 1) := by decide +kernel
theorem d_NT_clear_1 : decode b_NT_clear 1 = .ok (.iconst 0, 1) := by decide +kernel
theorem d_NT_clear_2 : decode b_NT_clear 2 = .ok (.putfield 24, 3) := by decide +kernel
theorem d_NT_clear_5 : decode b_NT_clear 5 = .ok (.aload_n 0, 1) := by decide +kernel
theorem d_NT_clear_6 : decode b_NT_clear 6 = .ok (.iconst 0, 1) := by decide +kernel
theorem d_NT_clear_7 : decode b_NT_clear 7 = .ok (.putfield 28, 3) := by decide +kernel
theorem d_NT_clear_10 : decode b_NT_clear 10 = .ok (.return_, 1) := by decide +kernel
theorem d_Li_gatherNames_0 : decode b_Li_gatherNames 0 = .ok (.iconst 0, 1) := by decide +kernel
theorem d_Li_gatherNames_1 : decode b_Li_gatherNames 1 = .ok (.istore_n 1, 1) := by decide +kernel
theorem d_Li_gatherNames_2 : decode b_Li_gatherNames 2 = .ok (.iload_n 1, 1) := by decide +kernel
theorem d_Li_gatherNames_3 : decode b_Li_gatherNames 3 = .ok (.aload_n 0, 1) := by decide +kernel
theorem d_Li_gatherNames_4 : decode b_Li_gatherNames 4 = .ok (.getfield 48, 3) := by decide +kernel
theorem d_Li_gatherNames_7 : decode b_Li_gatherNames 7 = .ok (.if_icmp .ge 73, 3) := by decide +kernel
theorem d_Li_gatherNames_10 : decode b_Li_gatherNames 10 = .ok (.aload_n 0, 1) := by decide +kernel
theorem d_Li_gatherNames_11 : decode b_Li_gatherNames 11 = .ok (.getfield 11, 3) := by decide +kernel
theorem d_Li_gatherNames_14 : decode b_Li_gatherNames 14 = .ok (.aload_n 0, 1) := by decide +kernel
theorem d_Li_gatherNames_15 : decode b_Li_gatherNames 15 = .ok (.getfield 17, 3) := by decide +kernel
theorem d_Li_gatherNames_18 : decode b_Li_gatherNames 18 = .ok (.iload_n 1, 1) := by decide +kernel
theorem d_Li_gatherNames_19 : decode b_Li_gatherNames 19 = .ok (.iaload, 1) := by decide +kernel
theorem d_Li_gatherNames_20 : decode b_Li_gatherNames 20 = .ok (.aaload, 1) := by decide +kernel
theorem d_Li_gatherNames_21 : decode b_Li_gatherNames 21 = .ok (.astore_n 2, 1) := by decide +kernel
theorem d_Li_gatherNames_22 : decode b_Li_gatherNames 22 = .ok (.iconst 0, 1) := by decide +kernel
theorem d_Li_gatherNames_23 : decode b_Li_gatherNames 23 = .ok (.istore_n 3, 1) := by decide +kernel
theorem d_Li_gatherNames_24 : decode b_Li_gatherNames 24 = .ok (.iload_n 3, 1) := by decide +kernel
theorem d_Li_gatherNames_25 : decode b_Li_gatherNames 25 = .ok (.aload_n 2, 1) := by decide +kernel
theorem d_Li_gatherNames_26 : decode b_Li_gatherNames 26 = .ok (.getfield 128, 3) := by decide +kernel
theorem d_Li_gatherNames_29 : decode b_Li_gatherNames 29 = .ok (.if_icmp .ge 45, 3) := by decide +kernel
theorem d_Li_gatherNames_32 : decode b_Li_gatherNames 32 = .ok (.aload_n 0, 1) := by decide +kernel
theorem d_Li_gatherNames_33 : decode b_Li_gatherNames 33 = .ok (.getfield 24, 3) := by decide +kernel
theorem d_Li_gatherNames_36 : decode b_Li_gatherNames 36 = .ok (.aload_n 0, 1) := by decide +kernel
theorem d_Li_gatherNames_37 : decode b_Li_gatherNames 37 = .ok (.getfield 17, 3) := by decide +kernel
theorem d_Li_gatherNames_40 : decode b_Li_gatherNames 40 = .ok (.iload_n 1, 1) := by decide +kernel
theorem d_Li_gatherNames_41 : decode b_Li_gatherNames 41 = .ok (.iaload, 1) := by decide +kernel
theorem d_Li_gatherNames_42 : decode b_Li_gatherNames 42 = .ok (.iload_n 3, 1) := by decide +kernel
theorem d_Li_gatherNames_43 : decode b_Li_gatherNames 43 = .ok (.aload_n 2, 1) := by decide +kernel
theorem d_Li_gatherNames_44 : decode b_Li_gatherNames 44 = .ok (.getfield 131, 3) := by decide +kernel
theorem d_Li_gatherNames_47 : decode b_Li_gatherNames 47 = .ok (.iload_n 3, 1) := by decide +kernel
theorem d_Li_gatherNames_48 : decode b_Li_gatherNames 48 = .ok (.aaload, 1) := by decide +kernel
theorem d_Li_gatherNames_49 : decode b_Li_gatherNames 49 = .ok (.invokevirtual 135, 3) := by decide +kernel
theorem d_Li_gatherNames_52 : decode b_Li_gatherNames 52 = .ok (.ifCond .ne 16, 3) := by decide +kernel
theorem d_Li_gatherNames_55 : decode b_Li_gatherNames 55 = .ok (.aload_n 0, 1) := by decide +kernel
theorem d_Li_gatherNames_56 : decode b_Li_gatherNames 56 = .ok (.iconst 1, 1) := by decide +kernel
theorem d_Li_gatherNames_57 : decode b_Li_gatherNames 57 = .ok (.aload_n 0, 1) := by decide +kernel
theorem d_Li_gatherNames_58 : decode b_Li_gatherNames 58 = .ok (.getfield 17, 3) := by decide +kernel
theorem d_Li_gatherNames_61 : decode b_Li_gatherNames 61 = .ok (.iload_n 1, 1) := by decide +kernel
theorem d_Li_gatherNames_62 : decode b_Li_gatherNames 62 = .ok (.iaload, 1) := by decide +kernel
theorem d_Li_gatherNames_63 : decode b_Li_gatherNames 63 = .ok (.iload_n 3, 1) := by decide +kernel
theorem d_Li_gatherNames_64 : decode b_Li_gatherNames 64 = .ok (.invokevirtual 103, 3) := by decide +kernel
theorem d_Li_gatherNames_67 : decode b_Li_gatherNames 67 = .ok (.ireturn, 1) := by decide +kernel
theorem d_Li_gatherNames_68 : decode b_Li_gatherNames 68 = .ok (.iinc 3 1, 3) := by decide +kernel
theorem d_Li_gatherNames_71 : decode b_Li_gatherNames 71 = .ok (.goto (-47), 3) := by decide +kernel
theorem d_Li_gatherNames_74 : decode b_Li_gatherNames 74 = .ok (.iinc 1 1, 3) := by decide +kernel
theorem d_Li_gatherNames_77 : decode b_Li_gatherNames 77 = .ok (.goto (-75), 3) := by decide +kernel
theorem d_Li_gatherNames_80 : decode b_Li_gatherNames 80 = .ok (.iconst 1, 1) := by decide +kernel
theorem d_Li_gatherNames_81 : decode b_Li_gatherNames 81 = .ok (.ireturn, 1) := by decide +kernel
theorem d_NT_enter_0 : decode b_NT_enter 0 = .ok (.aload_n 0, 1) := by decide +kernel
theorem d_NT_enter_1 : decode b_NT_enter 1 = .ok (.aload_n 3, 1) := by decide +kernel
theorem d_NT_enter_2 : decode b_NT_enter 2 = .ok (.getfield 42, 3) := by decide +kernel
theorem d_NT_enter_5 : decode b_NT_enter 5 = .ok (.invokevirtual 45, 3) := by decide +kernel
theorem d_NT_enter_8 : decode b_NT_enter 8 = .ok (.astore 4, 2) := by decide +kernel
theorem d_NT_enter_10 : decode b_NT_enter 10 = .ok (.aload_n 0, 1) := by decide +kernel
theorem d_NT_enter_11 : decode b_NT_enter 11 = .ok (.getfield 17, 3) := by decide +kernel
theorem d_NT_enter_14 : decode b_NT_enter 14 = .ok (.iload_n 1, 1) := by decide +kernel
theorem d_NT_enter_15 : decode b_NT_enter 15 = .ok (.bipush 12, 2) := by decide +kernel
theorem d_NT_enter_17 : decode b_NT_enter 17 = .ok (.imul, 1) := by decide +kernel
theorem d_NT_enter_18 : decode b_NT_enter 18 = .ok (.iload_n 2, 1) := by decide +kernel
theorem d_NT_enter_19 : decode b_NT_enter 19 = .ok (.iadd, 1) := by decide +kernel
theorem d_NT_enter_20 : decode b_NT_enter 20 = .ok (.aload 4, 2) := by decide +kernel
theorem d_NT_enter_22 : decode b_NT_enter 22 = .ok (.aastore, 1) := by decide +kernel
theorem d_NT_enter_23 : decode b_NT_enter 23 = .ok (.aload_n 3, 1) := by decide +kernel
theorem d_NT_enter_24 : decode b_NT_enter 24 = .ok (.getfield 48, 3) := by decide +kernel
theorem d_NT_enter_27 : decode b_NT_enter 27 = .ok (.tableswitch 93 0 2 #[25, 55, 84], 25) := by decide +kernel
theorem d_NT_enter_52 : decode b_NT_enter 52 = .ok (.aload 4, 2) := by decide +kernel
theorem d_NT_enter_54 : decode b_NT_enter 54 = .ok (.getfield 51, 3) := by decide +kernel
theorem d_NT_enter_57 : decode b_NT_enter 57 = .ok (.ifCond .ne 5, 3) := by decide +kernel
theorem d_NT_enter_60 : decode b_NT_enter 60 = .ok (.iconst 0, 1) := by decide +kernel
theorem d_NT_enter_61 : decode b_NT_enter 61 = .ok (.ireturn, 1) := by decide +kernel
theorem d_NT_enter_62 : decode b_NT_enter 62 = .ok (.aload 4, 2) := by decide +kernel
theorem d_NT_enter_64 : decode b_NT_enter 64 = .ok (.iconst 0, 1) := by decide +kernel
theorem d_NT_enter_65 : decode b_NT_enter 65 = .ok (.iload_n 1, 1) := by decide +kernel
theorem d_NT_enter_66 : decode b_NT_enter 66 = .ok (.aload_n 3, 1) := by decide +kernel
theorem d_NT_enter_67 : decode b_NT_enter 67 = .ok (.getfield 52, 3) := by decide +kernel
theorem d_NT_enter_70 : decode b_NT_enter 70 = .ok (.invokestatic 55, 3) := by decide +kernel
theorem d_NT_enter_73 : decode b_NT_enter 73 = .ok (.aload_n 3, 1) := by decide +kernel
theorem d_NT_enter_74 : decode b_NT_enter 74 = .ok (.getfield 59, 3) := by decide +kernel
theorem d_NT_enter_77 : decode b_NT_enter 77 = .ok (.invokevirtual 62, 3) := by decide +kernel
theorem d_NT_enter_80 : decode b_NT_enter 80 = .ok (.iconst 1, 1) := by decide +kernel
theorem d_NT_enter_81 : decode b_NT_enter 81 = .ok (.ireturn, 1) := by decide +kernel
theorem d_NT_enter_82 : decode b_NT_enter 82 = .ok (.aload 4, 2) := by decide +kernel
theorem d_NT_enter_84 : decode b_NT_enter 84 = .ok (.getfield 51, 3) := by decide +kernel
theorem d_NT_enter_87 : decode b_NT_enter 87 = .ok (.iconst 3, 1) := by decide +kernel
theorem d_NT_enter_88 : decode b_NT_enter 88 = .ok (.if_icmp .ne 21, 3) := by decide +kernel
theorem d_NT_enter_91 : decode b_NT_enter 91 = .ok (.aload 4, 2) := by decide +kernel
theorem d_NT_enter_93 : decode b_NT_enter 93 = .ok (.iconst 1, 1) := by decide +kernel
theorem d_NT_enter_94 : decode b_NT_enter 94 = .ok (.iload_n 1, 1) := by decide +kernel
theorem d_NT_enter_95 : decode b_NT_enter 95 = .ok (.aload_n 3, 1) := by decide +kernel
theorem d_NT_enter_96 : decode b_NT_enter 96 = .ok (.getfield 52, 3) := by decide +kernel
theorem d_NT_enter_99 : decode b_NT_enter 99 = .ok (.invokestatic 55, 3) := by decide +kernel
theorem d_NT_enter_102 : decode b_NT_enter 102 = .ok (.aload_n 3, 1) := by decide +kernel
theorem d_NT_enter_103 : decode b_NT_enter 103 = .ok (.getfield 59, 3) := by decide +kernel
theorem d_NT_enter_106 : decode b_NT_enter 106 = .ok (.invokevirtual 62, 3) := by decide +kernel
theorem d_NT_enter_109 : decode b_NT_enter 109 = .ok (.iconst 1, 1) := by decide +kernel
theorem d_NT_enter_110 : decode b_NT_enter 110 = .ok (.ireturn, 1) := by decide +kernel
theorem d_NT_enter_111 : decode b_NT_enter 111 = .ok (.aload_n 0, 1) := by decide +kernel
theorem d_NT_enter_112 : decode b_NT_enter 112 = .ok (.aload 4, 2) := by decide +kernel
theorem d_NT_enter_114 : decode b_NT_enter 114 = .ok (.aload_n 3, 1) := by decide +kernel
theorem d_NT_enter_115 : decode b_NT_enter 115 = .ok (.invokevirtual 66, 3) := by decide +kernel
theorem d_NT_enter_118 : decode b_NT_enter 118 = .ok (.iconst 1, 1) := by decide +kernel
theorem d_NT_enter_119 : decode b_NT_enter 119 = .ok (.ireturn, 1) := by decide +kernel
theorem d_NT_enter_120 : decode b_NT_enter 120 = .ok (.iconst 1, 1) := by decide +kernel
theorem d_NT_enter_121 : decode b_NT_enter 121 = .ok (.ireturn, 1) := by decide +kernel
theorem d_NT_findOrBegin_0 : decode b_NT_findOrBegin 0 = .ok (.aload_n 0, 1) := by decide +kernel
theorem d_NT_findOrBegin_1 : decode b_NT_findOrBegin 1 = .ok (.iload_n 1, 1) := by decide +kernel
theorem d_NT_findOrBegin_2 : decode b_NT_findOrBegin 2 = .ok (.invokevirtual 34, 3) := by decide +kernel
theorem d_NT_findOrBegin_5 : decode b_NT_findOrBegin 5 = .ok (.astore_n 2, 1) := by decide +kernel
theorem d_NT_findOrBegin_6 : decode b_NT_findOrBegin 6 = .ok (.aload_n 2, 1) := by decide +kernel
theorem d_NT_findOrBegin_7 : decode b_NT_findOrBegin 7 = .ok (.ifnull 5, 3) := by decide +kernel
theorem d_NT_findOrBegin_10 : decode b_NT_findOrBegin 10 = .ok (.aload_n 2, 1) := by decide +kernel
theorem d_NT_findOrBegin_11 : decode b_NT_findOrBegin 11 = .ok (.areturn, 1) := by decide +kernel
theorem d_NT_findOrBegin_12 : decode b_NT_findOrBegin 12 = .ok (.aload_n 0, 1) := by decide +kernel
theorem d_NT_findOrBegin_13 : decode b_NT_findOrBegin 13 = .ok (.getfield 11, 3) := by decide +kernel
theorem d_NT_findOrBegin_16 : decode b_NT_findOrBegin 16 = .ok (.aload_n 0, 1) := by decide +kernel
theorem d_NT_findOrBegin_17 : decode b_NT_findOrBegin 17 = .ok (.getfield 24, 3) := by decide +kernel
theorem d_NT_findOrBegin_20 : decode b_NT_findOrBegin 20 = .ok (.aaload, 1) := by decide +kernel
theorem d_NT_findOrBegin_21 : decode b_NT_findOrBegin 21 = .ok (.astore_n 3, 1) := by decide +kernel
theorem d_NT_findOrBegin_22 : decode b_NT_findOrBegin 22 = .ok (.aload_n 0, 1) := by decide +kernel
theorem d_NT_findOrBegin_23 : decode b_NT_findOrBegin 23 = .ok (.dup, 1) := by decide +kernel
theorem d_NT_findOrBegin_24 : decode b_NT_findOrBegin 24 = .ok (.getfield 24, 3) := by decide +kernel
theorem d_NT_findOrBegin_27 : decode b_NT_findOrBegin 27 = .ok (.iconst 1, 1) := by decide +kernel
theorem d_NT_findOrBegin_28 : decode b_NT_findOrBegin 28 = .ok (.iadd, 1) := by decide +kernel
theorem d_NT_findOrBegin_29 : decode b_NT_findOrBegin 29 = .ok (.putfield 24, 3) := by decide +kernel
theorem d_NT_findOrBegin_32 : decode b_NT_findOrBegin 32 = .ok (.aload_n 3, 1) := by decide +kernel
theorem d_NT_findOrBegin_33 : decode b_NT_findOrBegin 33 = .ok (.iload_n 1, 1) := by decide +kernel
theorem d_NT_findOrBegin_34 : decode b_NT_findOrBegin 34 = .ok (.invokevirtual 38, 3) := by decide +kernel
theorem d_NT_findOrBegin_37 : decode b_NT_findOrBegin 37 = .ok (.aload_n 3, 1) := by decide +kernel
theorem d_NT_findOrBegin_38 : decode b_NT_findOrBegin 38 = .ok (.areturn, 1) := by decide +kernel
theorem d_Me_begin_0 : decode b_Me_begin 0 = .ok (.aload_n 0, 1) := by decide +kernel
theorem d_Me_begin_1 : decode b_Me_begin 1 = .ok (.iload_n 1, 1) := by decide +kernel
theorem d_Me_begin_2 : decode b_Me_begin 2 = .ok (.putfield 9, 3) := by decide +kernel
theorem d_Me_begin_5 : decode b_Me_begin 5 = .ok (.aload_n 0, 1) := by decide +kernel
theorem d_Me_begin_6 : decode b_Me_begin 6 = .ok (.iconst 3, 1) := by decide +kernel
theorem d_Me_begin_7 : decode b_Me_begin 7 = .ok (.putfield 15, 3) := by decide +kernel
theorem d_Me_begin_10 : decode b_Me_begin 10 = .ok (.aload_n 0, 1) := by decide +kernel
theorem d_Me_begin_11 : decode b_Me_begin 11 = .ok (.iconst 0, 1) := by decide +kernel
theorem d_Me_begin_12 : decode b_Me_begin 12 = .ok (.putfield 18, 3) := by decide +kernel
theorem d_Me_begin_15 : decode b_Me_begin 15 = .ok (.aload_n 0, 1) := by decide +kernel
theorem d_Me_begin_16 : decode b_Me_begin 16 = .ok (.iconst 0, 1) := by decide +kernel
theorem d_Me_begin_17 : decode b_Me_begin 17 = .ok (.putfield 21, 3) := by decide +kernel
theorem d_Me_begin_20 : decode b_Me_begin 20 = .ok (.aload_n 0, 1) := by decide +kernel
theorem d_Me_begin_21 : decode b_Me_begin 21 = .ok (.iconst 0, 1) := by decide +kernel
theorem d_Me_begin_22 : decode b_Me_begin 22 = .ok (.putfield 24, 3) := by decide +kernel
theorem d_Me_begin_25 : decode b_Me_begin 25 = .ok (.aload_n 0, 1) := by decide +kernel
theorem d_Me_begin_26 : decode b_Me_begin 26 = .ok (.iconst (-1), 1) := by decide +kernel
theorem d_Me_begin_27 : decode b_Me_begin 27 = .ok (.putfield 28, 3) := by decide +kernel
theorem d_Me_begin_30 : decode b_Me_begin 30 = .ok (.return_, 1) := by decide +kernel
theorem d_OL_slotOf_0 : decode b_OL_slotOf 0 = .ok (.iload_n 0, 1) := by decide +kernel
theorem d_OL_slotOf_1 : decode b_OL_slotOf 1 = .ok (.bipush 8, 2) := by decide +kernel
theorem d_OL_slotOf_3 : decode b_OL_slotOf 3 = .ok (.imul, 1) := by decide +kernel
theorem d_OL_slotOf_4 : decode b_OL_slotOf 4 = .ok (.iload_n 1, 1) := by decide +kernel
theorem d_OL_slotOf_5 : decode b_OL_slotOf 5 = .ok (.iadd, 1) := by decide +kernel
theorem d_OL_slotOf_6 : decode b_OL_slotOf 6 = .ok (.ireturn, 1) := by decide +kernel
theorem d_Me_define_0 : decode b_Me_define 0 = .ok (.aload_n 0, 1) := by decide +kernel
theorem d_Me_define_1 : decode b_Me_define 1 = .ok (.iload_n 1, 1) := by decide +kernel
theorem d_Me_define_2 : decode b_Me_define 2 = .ok (.putfield 15, 3) := by decide +kernel
theorem d_Me_define_5 : decode b_Me_define 5 = .ok (.aload_n 0, 1) := by decide +kernel
theorem d_Me_define_6 : decode b_Me_define 6 = .ok (.iload_n 2, 1) := by decide +kernel
theorem d_Me_define_7 : decode b_Me_define 7 = .ok (.putfield 31, 3) := by decide +kernel
theorem d_Me_define_10 : decode b_Me_define 10 = .ok (.aload_n 0, 1) := by decide +kernel
theorem d_Me_define_11 : decode b_Me_define 11 = .ok (.iload_n 3, 1) := by decide +kernel
theorem d_Me_define_12 : decode b_Me_define 12 = .ok (.putfield 34, 3) := by decide +kernel
theorem d_Me_define_15 : decode b_Me_define 15 = .ok (.return_, 1) := by decide +kernel
theorem d_NT_enterCommon_0 : decode b_NT_enterCommon 0 = .ok (.aload_n 1, 1) := by decide +kernel
theorem d_NT_enterCommon_1 : decode b_NT_enterCommon 1 = .ok (.getfield 51, 3) := by decide +kernel
theorem d_NT_enterCommon_4 : decode b_NT_enterCommon 4 = .ok (.ifCond .ne 4, 3) := by decide +kernel
theorem d_NT_enterCommon_7 : decode b_NT_enterCommon 7 = .ok (.return_, 1) := by decide +kernel
theorem d_NT_enterCommon_8 : decode b_NT_enterCommon 8 = .ok (.aload_n 1, 1) := by decide +kernel
theorem d_NT_enterCommon_9 : decode b_NT_enterCommon 9 = .ok (.getfield 51, 3) := by decide +kernel
theorem d_NT_enterCommon_12 : decode b_NT_enterCommon 12 = .ok (.iconst 2, 1) := by decide +kernel
theorem d_NT_enterCommon_13 : decode b_NT_enterCommon 13 = .ok (.if_icmp .eq 23, 3) := by decide +kernel
theorem d_NT_enterCommon_16 : decode b_NT_enterCommon 16 = .ok (.aload_n 0, 1) := by decide +kernel
theorem d_NT_enterCommon_17 : decode b_NT_enterCommon 17 = .ok (.getfield 20, 3) := by decide +kernel
theorem d_NT_enterCommon_20 : decode b_NT_enterCommon 20 = .ok (.aload_n 0, 1) := by decide +kernel
theorem d_NT_enterCommon_21 : decode b_NT_enterCommon 21 = .ok (.getfield 28, 3) := by decide +kernel
theorem d_NT_enterCommon_24 : decode b_NT_enterCommon 24 = .ok (.aload_n 1, 1) := by decide +kernel
theorem d_NT_enterCommon_25 : decode b_NT_enterCommon 25 = .ok (.aastore, 1) := by decide +kernel
theorem d_NT_enterCommon_26 : decode b_NT_enterCommon 26 = .ok (.aload_n 0, 1) := by decide +kernel
theorem d_NT_enterCommon_27 : decode b_NT_enterCommon 27 = .ok (.dup, 1) := by decide +kernel
theorem d_NT_enterCommon_28 : decode b_NT_enterCommon 28 = .ok (.getfield 28, 3) := by decide +kernel
theorem d_NT_enterCommon_31 : decode b_NT_enterCommon 31 = .ok (.iconst 1, 1) := by decide +kernel
theorem d_NT_enterCommon_32 : decode b_NT_enterCommon 32 = .ok (.iadd, 1) := by decide +kernel
theorem d_NT_enterCommon_33 : decode b_NT_enterCommon 33 = .ok (.putfield 28, 3) := by decide +kernel
theorem d_NT_enterCommon_36 : decode b_NT_enterCommon 36 = .ok (.aload_n 1, 1) := by decide +kernel
theorem d_NT_enterCommon_37 : decode b_NT_enterCommon 37 = .ok (.aload_n 2, 1) := by decide +kernel
theorem d_NT_enterCommon_38 : decode b_NT_enterCommon 38 = .ok (.getfield 52, 3) := by decide +kernel
theorem d_NT_enterCommon_41 : decode b_NT_enterCommon 41 = .ok (.aload_n 2, 1) := by decide +kernel
theorem d_NT_enterCommon_42 : decode b_NT_enterCommon 42 = .ok (.getfield 59, 3) := by decide +kernel
theorem d_NT_enterCommon_45 : decode b_NT_enterCommon 45 = .ok (.invokevirtual 70, 3) := by decide +kernel
theorem d_NT_enterCommon_48 : decode b_NT_enterCommon 48 = .ok (.return_, 1) := by decide +kernel
theorem d_Me_widen_0 : decode b_Me_widen 0 = .ok (.aload_n 0, 1) := by decide +kernel
theorem d_Me_widen_1 : decode b_Me_widen 1 = .ok (.iconst 2, 1) := by decide +kernel
theorem d_Me_widen_2 : decode b_Me_widen 2 = .ok (.putfield 15, 3) := by decide +kernel
theorem d_Me_widen_5 : decode b_Me_widen 5 = .ok (.aload_n 0, 1) := by decide +kernel
theorem d_Me_widen_6 : decode b_Me_widen 6 = .ok (.aload_n 0, 1) := by decide +kernel
theorem d_Me_widen_7 : decode b_Me_widen 7 = .ok (.getfield 18, 3) := by decide +kernel
theorem d_Me_widen_10 : decode b_Me_widen 10 = .ok (.iload_n 1, 1) := by decide +kernel
theorem d_Me_widen_11 : decode b_Me_widen 11 = .ok (.invokestatic 37, 3) := by decide +kernel
theorem d_Me_widen_14 : decode b_Me_widen 14 = .ok (.putfield 18, 3) := by decide +kernel
theorem d_Me_widen_17 : decode b_Me_widen 17 = .ok (.aload_n 0, 1) := by decide +kernel
theorem d_Me_widen_18 : decode b_Me_widen 18 = .ok (.aload_n 0, 1) := by decide +kernel
theorem d_Me_widen_19 : decode b_Me_widen 19 = .ok (.getfield 21, 3) := by decide +kernel
theorem d_Me_widen_22 : decode b_Me_widen 22 = .ok (.iload_n 2, 1) := by decide +kernel
theorem d_Me_widen_23 : decode b_Me_widen 23 = .ok (.invokestatic 37, 3) := by decide +kernel
theorem d_Me_widen_26 : decode b_Me_widen 26 = .ok (.putfield 21, 3) := by decide +kernel
theorem d_Me_widen_29 : decode b_Me_widen 29 = .ok (.return_, 1) := by decide +kernel
theorem d_Li_reachFrom_0 : decode b_Li_reachFrom 0 = .ok (.aload_n 0, 1) := by decide +kernel
theorem d_Li_reachFrom_1 : decode b_Li_reachFrom 1 = .ok (.getfield 24, 3) := by decide +kernel
theorem d_Li_reachFrom_4 : decode b_Li_reachFrom 4 = .ok (.iload_n 1, 1) := by decide +kernel
theorem d_Li_reachFrom_5 : decode b_Li_reachFrom 5 = .ok (.invokevirtual 58, 3) := by decide +kernel
theorem d_Li_reachFrom_8 : decode b_Li_reachFrom 8 = .ok (.astore_n 2, 1) := by decide +kernel
theorem d_Li_reachFrom_9 : decode b_Li_reachFrom 9 = .ok (.aload_n 2, 1) := by decide +kernel
theorem d_Li_reachFrom_10 : decode b_Li_reachFrom 10 = .ok (.ifnull 11, 3) := by decide +kernel
theorem d_Li_reachFrom_13 : decode b_Li_reachFrom 13 = .ok (.aload_n 2, 1) := by decide +kernel
theorem d_Li_reachFrom_14 : decode b_Li_reachFrom 14 = .ok (.getfield 66, 3) := by decide +kernel
theorem d_Li_reachFrom_17 : decode b_Li_reachFrom 17 = .ok (.iconst 3, 1) := by decide +kernel
theorem d_Li_reachFrom_18 : decode b_Li_reachFrom 18 = .ok (.if_icmp .ne 11, 3) := by decide +kernel
theorem d_Li_reachFrom_21 : decode b_Li_reachFrom 21 = .ok (.aload_n 0, 1) := by decide +kernel
theorem d_Li_reachFrom_22 : decode b_Li_reachFrom 22 = .ok (.iconst 2, 1) := by decide +kernel
theorem d_Li_reachFrom_23 : decode b_Li_reachFrom 23 = .ok (.iconst (-1), 1) := by decide +kernel
theorem d_Li_reachFrom_24 : decode b_Li_reachFrom 24 = .ok (.iload_n 1, 1) := by decide +kernel
theorem d_Li_reachFrom_25 : decode b_Li_reachFrom 25 = .ok (.invokevirtual 103, 3) := by decide +kernel
theorem d_Li_reachFrom_28 : decode b_Li_reachFrom 28 = .ok (.ireturn, 1) := by decide +kernel
theorem d_Li_reachFrom_29 : decode b_Li_reachFrom 29 = .ok (.aload_n 0, 1) := by decide +kernel
theorem d_Li_reachFrom_30 : decode b_Li_reachFrom 30 = .ok (.aload_n 2, 1) := by decide +kernel
theorem d_Li_reachFrom_31 : decode b_Li_reachFrom 31 = .ok (.invokevirtual 139, 3) := by decide +kernel
theorem d_Li_reachFrom_34 : decode b_Li_reachFrom 34 = .ok (.iconst 0, 1) := by decide +kernel
theorem d_Li_reachFrom_35 : decode b_Li_reachFrom 35 = .ok (.istore_n 3, 1) := by decide +kernel
theorem d_Li_reachFrom_36 : decode b_Li_reachFrom 36 = .ok (.iload_n 3, 1) := by decide +kernel
theorem d_Li_reachFrom_37 : decode b_Li_reachFrom 37 = .ok (.bipush 96, 2) := by decide +kernel
theorem d_Li_reachFrom_39 : decode b_Li_reachFrom 39 = .ok (.if_icmp .ge 39, 3) := by decide +kernel
theorem d_Li_reachFrom_42 : decode b_Li_reachFrom 42 = .ok (.iload_n 3, 1) := by decide +kernel
theorem d_Li_reachFrom_43 : decode b_Li_reachFrom 43 = .ok (.aload_n 0, 1) := by decide +kernel
theorem d_Li_reachFrom_44 : decode b_Li_reachFrom 44 = .ok (.getfield 110, 3) := by decide +kernel
theorem d_Li_reachFrom_47 : decode b_Li_reachFrom 47 = .ok (.if_icmp .ge 31, 3) := by decide +kernel
theorem d_Li_reachFrom_50 : decode b_Li_reachFrom 50 = .ok (.aload_n 0, 1) := by decide +kernel
theorem d_Li_reachFrom_51 : decode b_Li_reachFrom 51 = .ok (.aload_n 0, 1) := by decide +kernel
theorem d_Li_reachFrom_52 : decode b_Li_reachFrom 52 = .ok (.getfield 32, 3) := by decide +kernel
theorem d_Li_reachFrom_55 : decode b_Li_reachFrom 55 = .ok (.iload_n 3, 1) := by decide +kernel
theorem d_Li_reachFrom_56 : decode b_Li_reachFrom 56 = .ok (.iaload, 1) := by decide +kernel
theorem d_Li_reachFrom_57 : decode b_Li_reachFrom 57 = .ok (.bipush 8, 2) := by decide +kernel
theorem d_Li_reachFrom_59 : decode b_Li_reachFrom 59 = .ok (.idiv, 1) := by decide +kernel
theorem d_Li_reachFrom_60 : decode b_Li_reachFrom 60 = .ok (.aload_n 0, 1) := by decide +kernel
theorem d_Li_reachFrom_61 : decode b_Li_reachFrom 61 = .ok (.getfield 32, 3) := by decide +kernel
theorem d_Li_reachFrom_64 : decode b_Li_reachFrom 64 = .ok (.iload_n 3, 1) := by decide +kernel
theorem d_Li_reachFrom_65 : decode b_Li_reachFrom 65 = .ok (.iaload, 1) := by decide +kernel
theorem d_Li_reachFrom_66 : decode b_Li_reachFrom 66 = .ok (.bipush 8, 2) := by decide +kernel
theorem d_Li_reachFrom_68 : decode b_Li_reachFrom 68 = .ok (.irem, 1) := by decide +kernel
theorem d_Li_reachFrom_69 : decode b_Li_reachFrom 69 = .ok (.invokevirtual 143, 3) := by decide +kernel
theorem d_Li_reachFrom_72 : decode b_Li_reachFrom 72 = .ok (.iinc 3 1, 3) := by decide +kernel
theorem d_Li_reachFrom_75 : decode b_Li_reachFrom 75 = .ok (.goto (-39), 3) := by decide +kernel
theorem d_Li_reachFrom_78 : decode b_Li_reachFrom 78 = .ok (.iconst 1, 1) := by decide +kernel
theorem d_Li_reachFrom_79 : decode b_Li_reachFrom 79 = .ok (.ireturn, 1) := by decide +kernel
theorem d_Li_reach_0 : decode b_Li_reach 0 = .ok (.aload_n 1, 1) := by decide +kernel
theorem d_Li_reach_1 : decode b_Li_reach 1 = .ok (.getfield 66, 3) := by decide +kernel
theorem d_Li_reach_4 : decode b_Li_reach 4 = .ok (.iconst 3, 1) := by decide +kernel
theorem d_Li_reach_5 : decode b_Li_reach 5 = .ok (.if_icmp .ne 4, 3) := by decide +kernel
theorem d_Li_reach_8 : decode b_Li_reach 8 = .ok (.return_, 1) := by decide +kernel
theorem d_Li_reach_9 : decode b_Li_reach 9 = .ok (.aload_n 1, 1) := by decide +kernel
theorem d_Li_reach_10 : decode b_Li_reach 10 = .ok (.getfield 66, 3) := by decide +kernel
theorem d_Li_reach_13 : decode b_Li_reach 13 = .ok (.iconst 2, 1) := by decide +kernel
theorem d_Li_reach_14 : decode b_Li_reach 14 = .ok (.if_icmp .ne 11, 3) := by decide +kernel
theorem d_Li_reach_17 : decode b_Li_reach 17 = .ok (.aload_n 1, 1) := by decide +kernel
theorem d_Li_reach_18 : decode b_Li_reach 18 = .ok (.iconst 1, 1) := by decide +kernel
theorem d_Li_reach_19 : decode b_Li_reach 19 = .ok (.putfield 166, 3) := by decide +kernel
theorem d_Li_reach_22 : decode b_Li_reach 22 = .ok (.goto 48, 3) := by decide +kernel
theorem d_Li_reach_25 : decode b_Li_reach 25 = .ok (.aload_n 0, 1) := by decide +kernel
theorem d_Li_reach_26 : decode b_Li_reach 26 = .ok (.getfield 28, 3) := by decide +kernel
theorem d_Li_reach_29 : decode b_Li_reach 29 = .ok (.aload_n 1, 1) := by decide +kernel
theorem d_Li_reach_30 : decode b_Li_reach 30 = .ok (.getfield 74, 3) := by decide +kernel
theorem d_Li_reach_33 : decode b_Li_reach 33 = .ok (.baload, 1) := by decide +kernel
theorem d_Li_reach_34 : decode b_Li_reach 34 = .ok (.ifCond .ne 36, 3) := by decide +kernel
theorem d_Li_reach_37 : decode b_Li_reach 37 = .ok (.aload_n 0, 1) := by decide +kernel
theorem d_Li_reach_38 : decode b_Li_reach 38 = .ok (.getfield 28, 3) := by decide +kernel
theorem d_Li_reach_41 : decode b_Li_reach 41 = .ok (.aload_n 1, 1) := by decide +kernel
theorem d_Li_reach_42 : decode b_Li_reach 42 = .ok (.getfield 74, 3) := by decide +kernel
theorem d_Li_reach_45 : decode b_Li_reach 45 = .ok (.iconst 1, 1) := by decide +kernel
theorem d_Li_reach_46 : decode b_Li_reach 46 = .ok (.bastore, 1) := by decide +kernel
theorem d_Li_reach_47 : decode b_Li_reach 47 = .ok (.aload_n 0, 1) := by decide +kernel
theorem d_Li_reach_48 : decode b_Li_reach 48 = .ok (.getfield 32, 3) := by decide +kernel
theorem d_Li_reach_51 : decode b_Li_reach 51 = .ok (.aload_n 0, 1) := by decide +kernel
theorem d_Li_reach_52 : decode b_Li_reach 52 = .ok (.getfield 110, 3) := by decide +kernel
theorem d_Li_reach_55 : decode b_Li_reach 55 = .ok (.aload_n 1, 1) := by decide +kernel
theorem d_Li_reach_56 : decode b_Li_reach 56 = .ok (.getfield 74, 3) := by decide +kernel
theorem d_Li_reach_59 : decode b_Li_reach 59 = .ok (.iastore, 1) := by decide +kernel
theorem d_Li_reach_60 : decode b_Li_reach 60 = .ok (.aload_n 0, 1) := by decide +kernel
theorem d_Li_reach_61 : decode b_Li_reach 61 = .ok (.dup, 1) := by decide +kernel
theorem d_Li_reach_62 : decode b_Li_reach 62 = .ok (.getfield 110, 3) := by decide +kernel
theorem d_Li_reach_65 : decode b_Li_reach 65 = .ok (.iconst 1, 1) := by decide +kernel
theorem d_Li_reach_66 : decode b_Li_reach 66 = .ok (.iadd, 1) := by decide +kernel
theorem d_Li_reach_67 : decode b_Li_reach 67 = .ok (.putfield 110, 3) := by decide +kernel
theorem d_Li_reach_70 : decode b_Li_reach 70 = .ok (.return_, 1) := by decide +kernel
theorem d_Li_reachFromSection_0 : decode b_Li_reachFromSection 0 = .ok (.aload_n 0, 1) := by decide +kernel
theorem d_Li_reachFromSection_1 : decode b_Li_reachFromSection 1 = .ok (.getfield 11, 3) := by decide +kernel
theorem d_Li_reachFromSection_4 : decode b_Li_reachFromSection 4 = .ok (.iload_n 1, 1) := by decide +kernel
theorem d_Li_reachFromSection_5 : decode b_Li_reachFromSection 5 = .ok (.aaload, 1) := by decide +kernel
theorem d_Li_reachFromSection_6 : decode b_Li_reachFromSection 6 = .ok (.astore_n 3, 1) := by decide +kernel
theorem d_Li_reachFromSection_7 : decode b_Li_reachFromSection 7 = .ok (.iconst 0, 1) := by decide +kernel
theorem d_Li_reachFromSection_8 : decode b_Li_reachFromSection 8 = .ok (.istore 4, 2) := by decide +kernel
theorem d_Li_reachFromSection_10 : decode b_Li_reachFromSection 10 = .ok (.iload 4, 2) := by decide +kernel
theorem d_Li_reachFromSection_12 : decode b_Li_reachFromSection 12 = .ok (.aload_n 3, 1) := by decide +kernel
theorem d_Li_reachFromSection_13 : decode b_Li_reachFromSection 13 = .ok (.getfield 147, 3) := by decide +kernel
theorem d_Li_reachFromSection_16 : decode b_Li_reachFromSection 16 = .ok (.if_icmp .ge 45, 3) := by decide +kernel
theorem d_Li_reachFromSection_19 : decode b_Li_reachFromSection 19 = .ok (.aload_n 3, 1) := by decide +kernel
theorem d_Li_reachFromSection_20 : decode b_Li_reachFromSection 20 = .ok (.getfield 150, 3) := by decide +kernel
theorem d_Li_reachFromSection_23 : decode b_Li_reachFromSection 23 = .ok (.iload 4, 2) := by decide +kernel
theorem d_Li_reachFromSection_25 : decode b_Li_reachFromSection 25 = .ok (.aaload, 1) := by decide +kernel
theorem d_Li_reachFromSection_26 : decode b_Li_reachFromSection 26 = .ok (.getfield 154, 3) := by decide +kernel
theorem d_Li_reachFromSection_29 : decode b_Li_reachFromSection 29 = .ok (.iload_n 2, 1) := by decide +kernel
theorem d_Li_reachFromSection_30 : decode b_Li_reachFromSection 30 = .ok (.if_icmp .ne 25, 3) := by decide +kernel
theorem d_Li_reachFromSection_33 : decode b_Li_reachFromSection 33 = .ok (.aload_n 0, 1) := by decide +kernel
theorem d_Li_reachFromSection_34 : decode b_Li_reachFromSection 34 = .ok (.aload_n 0, 1) := by decide +kernel
theorem d_Li_reachFromSection_35 : decode b_Li_reachFromSection 35 = .ok (.getfield 24, 3) := by decide +kernel
theorem d_Li_reachFromSection_38 : decode b_Li_reachFromSection 38 = .ok (.iload_n 1, 1) := by decide +kernel
theorem d_Li_reachFromSection_39 : decode b_Li_reachFromSection 39 = .ok (.aload_n 3, 1) := by decide +kernel
theorem d_Li_reachFromSection_40 : decode b_Li_reachFromSection 40 = .ok (.getfield 150, 3) := by decide +kernel
theorem d_Li_reachFromSection_43 : decode b_Li_reachFromSection 43 = .ok (.iload 4, 2) := by decide +kernel
theorem d_Li_reachFromSection_45 : decode b_Li_reachFromSection 45 = .ok (.aaload, 1) := by decide +kernel
theorem d_Li_reachFromSection_46 : decode b_Li_reachFromSection 46 = .ok (.getfield 159, 3) := by decide +kernel
theorem d_Li_reachFromSection_49 : decode b_Li_reachFromSection 49 = .ok (.invokevirtual 162, 3) := by decide +kernel
theorem d_Li_reachFromSection_52 : decode b_Li_reachFromSection 52 = .ok (.invokevirtual 139, 3) := by decide +kernel
theorem d_Li_reachFromSection_55 : decode b_Li_reachFromSection 55 = .ok (.iinc 4 1, 3) := by decide +kernel
theorem d_Li_reachFromSection_58 : decode b_Li_reachFromSection 58 = .ok (.goto (-48), 3) := by decide +kernel
theorem d_Li_reachFromSection_61 : decode b_Li_reachFromSection 61 = .ok (.return_, 1) := by decide +kernel
theorem d_NT_meaningOf_0 : decode b_NT_meaningOf 0 = .ok (.aload_n 0, 1) := by decide +kernel
theorem d_NT_meaningOf_1 : decode b_NT_meaningOf 1 = .ok (.getfield 17, 3) := by decide +kernel
theorem d_NT_meaningOf_4 : decode b_NT_meaningOf 4 = .ok (.iload_n 1, 1) := by decide +kernel
theorem d_NT_meaningOf_5 : decode b_NT_meaningOf 5 = .ok (.bipush 12, 2) := by decide +kernel
theorem d_NT_meaningOf_7 : decode b_NT_meaningOf 7 = .ok (.imul, 1) := by decide +kernel
theorem d_NT_meaningOf_8 : decode b_NT_meaningOf 8 = .ok (.iload_n 2, 1) := by decide +kernel
theorem d_NT_meaningOf_9 : decode b_NT_meaningOf 9 = .ok (.iadd, 1) := by decide +kernel
theorem d_NT_meaningOf_10 : decode b_NT_meaningOf 10 = .ok (.aaload, 1) := by decide +kernel
theorem d_NT_meaningOf_11 : decode b_NT_meaningOf 11 = .ok (.areturn, 1) := by decide +kernel
theorem d_Li_nothingIsMissing_0 : decode b_Li_nothingIsMissing 0 = .ok (.iconst 0, 1) := by decide +kernel
theorem d_Li_nothingIsMissing_1 : decode b_Li_nothingIsMissing 1 = .ok (.istore_n 1, 1) := by decide +kernel
theorem d_Li_nothingIsMissing_2 : decode b_Li_nothingIsMissing 2 = .ok (.iload_n 1, 1) := by decide +kernel
theorem d_Li_nothingIsMissing_3 : decode b_Li_nothingIsMissing 3 = .ok (.aload_n 0, 1) := by decide +kernel
theorem d_Li_nothingIsMissing_4 : decode b_Li_nothingIsMissing 4 = .ok (.getfield 48, 3) := by decide +kernel
theorem d_Li_nothingIsMissing_7 : decode b_Li_nothingIsMissing 7 = .ok (.if_icmp .ge 105, 3) := by decide +kernel
theorem d_Li_nothingIsMissing_10 : decode b_Li_nothingIsMissing 10 = .ok (.aload_n 0, 1) := by decide +kernel
theorem d_Li_nothingIsMissing_11 : decode b_Li_nothingIsMissing 11 = .ok (.getfield 11, 3) := by decide +kernel
theorem d_Li_nothingIsMissing_14 : decode b_Li_nothingIsMissing 14 = .ok (.aload_n 0, 1) := by decide +kernel
theorem d_Li_nothingIsMissing_15 : decode b_Li_nothingIsMissing 15 = .ok (.getfield 17, 3) := by decide +kernel
theorem d_Li_nothingIsMissing_18 : decode b_Li_nothingIsMissing 18 = .ok (.iload_n 1, 1) := by decide +kernel
theorem d_Li_nothingIsMissing_19 : decode b_Li_nothingIsMissing 19 = .ok (.iaload, 1) := by decide +kernel
theorem d_Li_nothingIsMissing_20 : decode b_Li_nothingIsMissing 20 = .ok (.aaload, 1) := by decide +kernel
theorem d_Li_nothingIsMissing_21 : decode b_Li_nothingIsMissing 21 = .ok (.astore_n 2, 1) := by decide +kernel
theorem d_Li_nothingIsMissing_22 : decode b_Li_nothingIsMissing 22 = .ok (.iconst 0, 1) := by decide +kernel
theorem d_Li_nothingIsMissing_23 : decode b_Li_nothingIsMissing 23 = .ok (.istore_n 3, 1) := by decide +kernel
theorem d_Li_nothingIsMissing_24 : decode b_Li_nothingIsMissing 24 = .ok (.iload_n 3, 1) := by decide +kernel
theorem d_Li_nothingIsMissing_25 : decode b_Li_nothingIsMissing 25 = .ok (.aload_n 2, 1) := by decide +kernel
theorem d_Li_nothingIsMissing_26 : decode b_Li_nothingIsMissing 26 = .ok (.getfield 147, 3) := by decide +kernel
theorem d_Li_nothingIsMissing_29 : decode b_Li_nothingIsMissing 29 = .ok (.if_icmp .ge 77, 3) := by decide +kernel
theorem d_Li_nothingIsMissing_32 : decode b_Li_nothingIsMissing 32 = .ok (.aload_n 2, 1) := by decide +kernel
theorem d_Li_nothingIsMissing_33 : decode b_Li_nothingIsMissing 33 = .ok (.getfield 150, 3) := by decide +kernel
theorem d_Li_nothingIsMissing_36 : decode b_Li_nothingIsMissing 36 = .ok (.iload_n 3, 1) := by decide +kernel
theorem d_Li_nothingIsMissing_37 : decode b_Li_nothingIsMissing 37 = .ok (.aaload, 1) := by decide +kernel
theorem d_Li_nothingIsMissing_38 : decode b_Li_nothingIsMissing 38 = .ok (.astore 4, 2) := by decide +kernel
theorem d_Li_nothingIsMissing_40 : decode b_Li_nothingIsMissing 40 = .ok (.aload_n 0, 1) := by decide +kernel
theorem d_Li_nothingIsMissing_41 : decode b_Li_nothingIsMissing 41 = .ok (.getfield 28, 3) := by decide +kernel
theorem d_Li_nothingIsMissing_44 : decode b_Li_nothingIsMissing 44 = .ok (.aload_n 0, 1) := by decide +kernel
theorem d_Li_nothingIsMissing_45 : decode b_Li_nothingIsMissing 45 = .ok (.getfield 17, 3) := by decide +kernel
theorem d_Li_nothingIsMissing_48 : decode b_Li_nothingIsMissing 48 = .ok (.iload_n 1, 1) := by decide +kernel
theorem d_Li_nothingIsMissing_49 : decode b_Li_nothingIsMissing 49 = .ok (.iaload, 1) := by decide +kernel
theorem d_Li_nothingIsMissing_50 : decode b_Li_nothingIsMissing 50 = .ok (.aload 4, 2) := by decide +kernel
theorem d_Li_nothingIsMissing_52 : decode b_Li_nothingIsMissing 52 = .ok (.getfield 154, 3) := by decide +kernel
theorem d_Li_nothingIsMissing_55 : decode b_Li_nothingIsMissing 55 = .ok (.invokestatic 168, 3) := by decide +kernel
theorem d_Li_nothingIsMissing_58 : decode b_Li_nothingIsMissing 58 = .ok (.baload, 1) := by decide +kernel
theorem d_Li_nothingIsMissing_59 : decode b_Li_nothingIsMissing 59 = .ok (.ifCond .eq 41, 3) := by decide +kernel
theorem d_Li_nothingIsMissing_62 : decode b_Li_nothingIsMissing 62 = .ok (.aload_n 0, 1) := by decide +kernel
theorem d_Li_nothingIsMissing_63 : decode b_Li_nothingIsMissing 63 = .ok (.getfield 24, 3) := by decide +kernel
theorem d_Li_nothingIsMissing_66 : decode b_Li_nothingIsMissing 66 = .ok (.aload_n 0, 1) := by decide +kernel
theorem d_Li_nothingIsMissing_67 : decode b_Li_nothingIsMissing 67 = .ok (.getfield 17, 3) := by decide +kernel
theorem d_Li_nothingIsMissing_70 : decode b_Li_nothingIsMissing 70 = .ok (.iload_n 1, 1) := by decide +kernel
theorem d_Li_nothingIsMissing_71 : decode b_Li_nothingIsMissing 71 = .ok (.iaload, 1) := by decide +kernel
theorem d_Li_nothingIsMissing_72 : decode b_Li_nothingIsMissing 72 = .ok (.aload 4, 2) := by decide +kernel
theorem d_Li_nothingIsMissing_74 : decode b_Li_nothingIsMissing 74 = .ok (.getfield 159, 3) := by decide +kernel
theorem d_Li_nothingIsMissing_77 : decode b_Li_nothingIsMissing 77 = .ok (.invokevirtual 162, 3) := by decide +kernel
theorem d_Li_nothingIsMissing_80 : decode b_Li_nothingIsMissing 80 = .ok (.getfield 66, 3) := by decide +kernel
theorem d_Li_nothingIsMissing_83 : decode b_Li_nothingIsMissing 83 = .ok (.iconst 3, 1) := by decide +kernel
theorem d_Li_nothingIsMissing_84 : decode b_Li_nothingIsMissing 84 = .ok (.if_icmp .ne 16, 3) := by decide +kernel
theorem d_Li_nothingIsMissing_87 : decode b_Li_nothingIsMissing 87 = .ok (.aload_n 0, 1) := by decide +kernel
theorem d_Li_nothingIsMissing_88 : decode b_Li_nothingIsMissing 88 = .ok (.iconst 2, 1) := by decide +kernel
theorem d_Li_nothingIsMissing_89 : decode b_Li_nothingIsMissing 89 = .ok (.aload_n 0, 1) := by decide +kernel
theorem d_Li_nothingIsMissing_90 : decode b_Li_nothingIsMissing 90 = .ok (.getfield 17, 3) := by decide +kernel
theorem d_Li_nothingIsMissing_93 : decode b_Li_nothingIsMissing 93 = .ok (.iload_n 1, 1) := by decide +kernel
theorem d_Li_nothingIsMissing_94 : decode b_Li_nothingIsMissing 94 = .ok (.iaload, 1) := by decide +kernel
theorem d_Li_nothingIsMissing_95 : decode b_Li_nothingIsMissing 95 = .ok (.iload_n 3, 1) := by decide +kernel
theorem d_Li_nothingIsMissing_96 : decode b_Li_nothingIsMissing 96 = .ok (.invokevirtual 103, 3) := by decide +kernel
theorem d_Li_nothingIsMissing_99 : decode b_Li_nothingIsMissing 99 = .ok (.ireturn, 1) := by decide +kernel
theorem d_Li_nothingIsMissing_100 : decode b_Li_nothingIsMissing 100 = .ok (.iinc 3 1, 3) := by decide +kernel
theorem d_Li_nothingIsMissing_103 : decode b_Li_nothingIsMissing 103 = .ok (.goto (-79), 3) := by decide +kernel
theorem d_Li_nothingIsMissing_106 : decode b_Li_nothingIsMissing 106 = .ok (.iinc 1 1, 3) := by decide +kernel
theorem d_Li_nothingIsMissing_109 : decode b_Li_nothingIsMissing 109 = .ok (.goto (-107), 3) := by decide +kernel
theorem d_Li_nothingIsMissing_112 : decode b_Li_nothingIsMissing 112 = .ok (.iconst 1, 1) := by decide +kernel
theorem d_Li_nothingIsMissing_113 : decode b_Li_nothingIsMissing 113 = .ok (.ireturn, 1) := by decide +kernel
theorem d_Li_layOut_0 : decode b_Li_layOut 0 = .ok (.iconst 0, 1) := by decide +kernel
theorem d_Li_layOut_1 : decode b_Li_layOut 1 = .ok (.istore_n 1, 1) := by decide +kernel
theorem d_Li_layOut_2 : decode b_Li_layOut 2 = .ok (.iload_n 1, 1) := by decide +kernel
theorem d_Li_layOut_3 : decode b_Li_layOut 3 = .ok (.iconst 4, 1) := by decide +kernel
theorem d_Li_layOut_4 : decode b_Li_layOut 4 = .ok (.if_icmp .ge 36, 3) := by decide +kernel
theorem d_Li_layOut_7 : decode b_Li_layOut 7 = .ok (.iconst 0, 1) := by decide +kernel
theorem d_Li_layOut_8 : decode b_Li_layOut 8 = .ok (.istore_n 2, 1) := by decide +kernel
theorem d_Li_layOut_9 : decode b_Li_layOut 9 = .ok (.iload_n 2, 1) := by decide +kernel
theorem d_Li_layOut_10 : decode b_Li_layOut 10 = .ok (.aload_n 0, 1) := by decide +kernel
theorem d_Li_layOut_11 : decode b_Li_layOut 11 = .ok (.getfield 48, 3) := by decide +kernel
theorem d_Li_layOut_14 : decode b_Li_layOut 14 = .ok (.if_icmp .ge 20, 3) := by decide +kernel
theorem d_Li_layOut_17 : decode b_Li_layOut 17 = .ok (.aload_n 0, 1) := by decide +kernel
theorem d_Li_layOut_18 : decode b_Li_layOut 18 = .ok (.iload_n 1, 1) := by decide +kernel
theorem d_Li_layOut_19 : decode b_Li_layOut 19 = .ok (.aload_n 0, 1) := by decide +kernel
theorem d_Li_layOut_20 : decode b_Li_layOut 20 = .ok (.getfield 17, 3) := by decide +kernel
theorem d_Li_layOut_23 : decode b_Li_layOut 23 = .ok (.iload_n 2, 1) := by decide +kernel
theorem d_Li_layOut_24 : decode b_Li_layOut 24 = .ok (.iaload, 1) := by decide +kernel
theorem d_Li_layOut_25 : decode b_Li_layOut 25 = .ok (.invokevirtual 172, 3) := by decide +kernel
theorem d_Li_layOut_28 : decode b_Li_layOut 28 = .ok (.iinc 2 1, 3) := by decide +kernel
theorem d_Li_layOut_31 : decode b_Li_layOut 31 = .ok (.goto (-22), 3) := by decide +kernel
theorem d_Li_layOut_34 : decode b_Li_layOut 34 = .ok (.iinc 1 1, 3) := by decide +kernel
theorem d_Li_layOut_37 : decode b_Li_layOut 37 = .ok (.goto (-35), 3) := by decide +kernel
theorem d_Li_layOut_40 : decode b_Li_layOut 40 = .ok (.aload_n 0, 1) := by decide +kernel
theorem d_Li_layOut_41 : decode b_Li_layOut 41 = .ok (.invokevirtual 175, 3) := by decide +kernel
theorem d_Li_layOut_44 : decode b_Li_layOut 44 = .ok (.aload_n 0, 1) := by decide +kernel
theorem d_Li_layOut_45 : decode b_Li_layOut 45 = .ok (.getfield 113, 3) := by decide +kernel
theorem d_Li_layOut_48 : decode b_Li_layOut 48 = .ok (.sipush 4096, 3) := by decide +kernel
theorem d_Li_layOut_51 : decode b_Li_layOut 51 = .ok (.if_icmp .le 12, 3) := by decide +kernel
theorem d_Li_layOut_54 : decode b_Li_layOut 54 = .ok (.aload_n 0, 1) := by decide +kernel
theorem d_Li_layOut_55 : decode b_Li_layOut 55 = .ok (.bipush 6, 2) := by decide +kernel
theorem d_Li_layOut_57 : decode b_Li_layOut 57 = .ok (.iconst (-1), 1) := by decide +kernel
theorem d_Li_layOut_58 : decode b_Li_layOut 58 = .ok (.iconst (-1), 1) := by decide +kernel
theorem d_Li_layOut_59 : decode b_Li_layOut 59 = .ok (.invokevirtual 103, 3) := by decide +kernel
theorem d_Li_layOut_62 : decode b_Li_layOut 62 = .ok (.ireturn, 1) := by decide +kernel
theorem d_Li_layOut_63 : decode b_Li_layOut 63 = .ok (.aload_n 0, 1) := by decide +kernel
theorem d_Li_layOut_64 : decode b_Li_layOut 64 = .ok (.invokevirtual 178, 3) := by decide +kernel
theorem d_Li_layOut_67 : decode b_Li_layOut 67 = .ok (.iconst 1, 1) := by decide +kernel
theorem d_Li_layOut_68 : decode b_Li_layOut 68 = .ok (.ireturn, 1) := by decide +kernel
theorem d_Li_layOutKind_0 : decode b_Li_layOutKind 0 = .ok (.aload_n 0, 1) := by decide +kernel
theorem d_Li_layOutKind_1 : decode b_Li_layOutKind 1 = .ok (.getfield 11, 3) := by decide +kernel
theorem d_Li_layOutKind_4 : decode b_Li_layOutKind 4 = .ok (.iload_n 2, 1) := by decide +kernel
theorem d_Li_layOutKind_5 : decode b_Li_layOutKind 5 = .ok (.aaload, 1) := by decide +kernel
theorem d_Li_layOutKind_6 : decode b_Li_layOutKind 6 = .ok (.astore_n 3, 1) := by decide +kernel
theorem d_Li_layOutKind_7 : decode b_Li_layOutKind 7 = .ok (.iconst 0, 1) := by decide +kernel
theorem d_Li_layOutKind_8 : decode b_Li_layOutKind 8 = .ok (.istore 4, 2) := by decide +kernel
theorem d_Li_layOutKind_10 : decode b_Li_layOutKind 10 = .ok (.iload 4, 2) := by decide +kernel
theorem d_Li_layOutKind_12 : decode b_Li_layOutKind 12 = .ok (.aload_n 3, 1) := by decide +kernel
theorem d_Li_layOutKind_13 : decode b_Li_layOutKind 13 = .ok (.getfield 181, 3) := by decide +kernel
theorem d_Li_layOutKind_16 : decode b_Li_layOutKind 16 = .ok (.if_icmp .ge 76, 3) := by decide +kernel
theorem d_Li_layOutKind_19 : decode b_Li_layOutKind 19 = .ok (.aload_n 3, 1) := by decide +kernel
theorem d_Li_layOutKind_20 : decode b_Li_layOutKind 20 = .ok (.getfield 184, 3) := by decide +kernel
theorem d_Li_layOutKind_23 : decode b_Li_layOutKind 23 = .ok (.iload 4, 2) := by decide +kernel
theorem d_Li_layOutKind_25 : decode b_Li_layOutKind 25 = .ok (.aaload, 1) := by decide +kernel
theorem d_Li_layOutKind_26 : decode b_Li_layOutKind 26 = .ok (.astore 5, 2) := by decide +kernel
theorem d_Li_layOutKind_28 : decode b_Li_layOutKind 28 = .ok (.aload 5, 2) := by decide +kernel
theorem d_Li_layOutKind_30 : decode b_Li_layOutKind 30 = .ok (.getfield 188, 3) := by decide +kernel
theorem d_Li_layOutKind_33 : decode b_Li_layOutKind 33 = .ok (.iload_n 1, 1) := by decide +kernel
theorem d_Li_layOutKind_34 : decode b_Li_layOutKind 34 = .ok (.if_icmp .ne 52, 3) := by decide +kernel
theorem d_Li_layOutKind_37 : decode b_Li_layOutKind 37 = .ok (.aload_n 0, 1) := by decide +kernel
theorem d_Li_layOutKind_38 : decode b_Li_layOutKind 38 = .ok (.getfield 28, 3) := by decide +kernel
theorem d_Li_layOutKind_41 : decode b_Li_layOutKind 41 = .ok (.iload_n 2, 1) := by decide +kernel
theorem d_Li_layOutKind_42 : decode b_Li_layOutKind 42 = .ok (.iload 4, 2) := by decide +kernel
theorem d_Li_layOutKind_44 : decode b_Li_layOutKind 44 = .ok (.invokestatic 168, 3) := by decide +kernel
theorem d_Li_layOutKind_47 : decode b_Li_layOutKind 47 = .ok (.baload, 1) := by decide +kernel
theorem d_Li_layOutKind_48 : decode b_Li_layOutKind 48 = .ok (.ifCond .eq 38, 3) := by decide +kernel
theorem d_Li_layOutKind_51 : decode b_Li_layOutKind 51 = .ok (.aload_n 0, 1) := by decide +kernel
theorem d_Li_layOutKind_52 : decode b_Li_layOutKind 52 = .ok (.getfield 35, 3) := by decide +kernel
theorem d_Li_layOutKind_55 : decode b_Li_layOutKind 55 = .ok (.iload_n 2, 1) := by decide +kernel
theorem d_Li_layOutKind_56 : decode b_Li_layOutKind 56 = .ok (.iload 4, 2) := by decide +kernel
theorem d_Li_layOutKind_58 : decode b_Li_layOutKind 58 = .ok (.invokestatic 168, 3) := by decide +kernel
theorem d_Li_layOutKind_61 : decode b_Li_layOutKind 61 = .ok (.aload_n 0, 1) := by decide +kernel
theorem d_Li_layOutKind_62 : decode b_Li_layOutKind 62 = .ok (.aload 5, 2) := by decide +kernel
theorem d_Li_layOutKind_64 : decode b_Li_layOutKind 64 = .ok (.getfield 193, 3) := by decide +kernel
theorem d_Li_layOutKind_67 : decode b_Li_layOutKind 67 = .ok (.aload 5, 2) := by decide +kernel
theorem d_Li_layOutKind_69 : decode b_Li_layOutKind 69 = .ok (.getfield 196, 3) := by decide +kernel
theorem d_Li_layOutKind_72 : decode b_Li_layOutKind 72 = .ok (.invokevirtual 197, 3) := by decide +kernel
theorem d_Li_layOutKind_75 : decode b_Li_layOutKind 75 = .ok (.iastore, 1) := by decide +kernel
theorem d_Li_layOutKind_76 : decode b_Li_layOutKind 76 = .ok (.aload_n 0, 1) := by decide +kernel
theorem d_Li_layOutKind_77 : decode b_Li_layOutKind 77 = .ok (.dup, 1) := by decide +kernel
theorem d_Li_layOutKind_78 : decode b_Li_layOutKind 78 = .ok (.getfield 116, 3) := by decide +kernel
theorem d_Li_layOutKind_81 : decode b_Li_layOutKind 81 = .ok (.iconst 1, 1) := by decide +kernel
theorem d_Li_layOutKind_82 : decode b_Li_layOutKind 82 = .ok (.iadd, 1) := by decide +kernel
theorem d_Li_layOutKind_83 : decode b_Li_layOutKind 83 = .ok (.putfield 116, 3) := by decide +kernel
theorem d_Li_layOutKind_86 : decode b_Li_layOutKind 86 = .ok (.iinc 4 1, 3) := by decide +kernel
theorem d_Li_layOutKind_89 : decode b_Li_layOutKind 89 = .ok (.goto (-79), 3) := by decide +kernel
theorem d_Li_layOutKind_92 : decode b_Li_layOutKind 92 = .ok (.return_, 1) := by decide +kernel
theorem d_Li_nextPlace_0 : decode b_Li_nextPlace 0 = .ok (.aload_n 0, 1) := by decide +kernel
theorem d_Li_nextPlace_1 : decode b_Li_nextPlace 1 = .ok (.getfield 55, 3) := by decide +kernel
theorem d_Li_nextPlace_4 : decode b_Li_nextPlace 4 = .ok (.aload_n 0, 1) := by decide +kernel
theorem d_Li_nextPlace_5 : decode b_Li_nextPlace 5 = .ok (.getfield 113, 3) := by decide +kernel
theorem d_Li_nextPlace_8 : decode b_Li_nextPlace 8 = .ok (.iadd, 1) := by decide +kernel
theorem d_Li_nextPlace_9 : decode b_Li_nextPlace 9 = .ok (.istore_n 3, 1) := by decide +kernel
theorem d_Li_nextPlace_10 : decode b_Li_nextPlace 10 = .ok (.iconst 1, 1) := by decide +kernel
theorem d_Li_nextPlace_11 : decode b_Li_nextPlace 11 = .ok (.iload_n 1, 1) := by decide +kernel
theorem d_Li_nextPlace_12 : decode b_Li_nextPlace 12 = .ok (.ishl, 1) := by decide +kernel
theorem d_Li_nextPlace_13 : decode b_Li_nextPlace 13 = .ok (.iconst 1, 1) := by decide +kernel
theorem d_Li_nextPlace_14 : decode b_Li_nextPlace 14 = .ok (.isub, 1) := by decide +kernel
theorem d_Li_nextPlace_15 : decode b_Li_nextPlace 15 = .ok (.istore 4, 2) := by decide +kernel
theorem d_Li_nextPlace_17 : decode b_Li_nextPlace 17 = .ok (.iload_n 3, 1) := by decide +kernel
theorem d_Li_nextPlace_18 : decode b_Li_nextPlace 18 = .ok (.iload 4, 2) := by decide +kernel
theorem d_Li_nextPlace_20 : decode b_Li_nextPlace 20 = .ok (.iadd, 1) := by decide +kernel
theorem d_Li_nextPlace_21 : decode b_Li_nextPlace 21 = .ok (.iload 4, 2) := by decide +kernel
theorem d_Li_nextPlace_23 : decode b_Li_nextPlace 23 = .ok (.iconst (-1), 1) := by decide +kernel
theorem d_Li_nextPlace_24 : decode b_Li_nextPlace 24 = .ok (.ixor, 1) := by decide +kernel
theorem d_Li_nextPlace_25 : decode b_Li_nextPlace 25 = .ok (.iand, 1) := by decide +kernel
theorem d_Li_nextPlace_26 : decode b_Li_nextPlace 26 = .ok (.istore 5, 2) := by decide +kernel
theorem d_Li_nextPlace_28 : decode b_Li_nextPlace 28 = .ok (.aload_n 0, 1) := by decide +kernel
theorem d_Li_nextPlace_29 : decode b_Li_nextPlace 29 = .ok (.dup, 1) := by decide +kernel
theorem d_Li_nextPlace_30 : decode b_Li_nextPlace 30 = .ok (.getfield 122, 3) := by decide +kernel
theorem d_Li_nextPlace_33 : decode b_Li_nextPlace 33 = .ok (.iload 5, 2) := by decide +kernel
theorem d_Li_nextPlace_35 : decode b_Li_nextPlace 35 = .ok (.iload_n 3, 1) := by decide +kernel
theorem d_Li_nextPlace_36 : decode b_Li_nextPlace 36 = .ok (.isub, 1) := by decide +kernel
theorem d_Li_nextPlace_37 : decode b_Li_nextPlace 37 = .ok (.iadd, 1) := by decide +kernel
theorem d_Li_nextPlace_38 : decode b_Li_nextPlace 38 = .ok (.putfield 122, 3) := by decide +kernel
theorem d_Li_nextPlace_41 : decode b_Li_nextPlace 41 = .ok (.aload_n 0, 1) := by decide +kernel
theorem d_Li_nextPlace_42 : decode b_Li_nextPlace 42 = .ok (.iload 5, 2) := by decide +kernel
theorem d_Li_nextPlace_44 : decode b_Li_nextPlace 44 = .ok (.iload_n 2, 1) := by decide +kernel
theorem d_Li_nextPlace_45 : decode b_Li_nextPlace 45 = .ok (.iadd, 1) := by decide +kernel
theorem d_Li_nextPlace_46 : decode b_Li_nextPlace 46 = .ok (.aload_n 0, 1) := by decide +kernel
theorem d_Li_nextPlace_47 : decode b_Li_nextPlace 47 = .ok (.getfield 55, 3) := by decide +kernel
theorem d_Li_nextPlace_50 : decode b_Li_nextPlace 50 = .ok (.isub, 1) := by decide +kernel
theorem d_Li_nextPlace_51 : decode b_Li_nextPlace 51 = .ok (.putfield 113, 3) := by decide +kernel
theorem d_Li_nextPlace_54 : decode b_Li_nextPlace 54 = .ok (.iload 5, 2) := by decide +kernel
theorem d_Li_nextPlace_56 : decode b_Li_nextPlace 56 = .ok (.ireturn, 1) := by decide +kernel
theorem d_Li_layOutCommons_0 : decode b_Li_layOutCommons 0 = .ok (.iconst 0, 1) := by decide +kernel
theorem d_Li_layOutCommons_1 : decode b_Li_layOutCommons 1 = .ok (.istore_n 1, 1) := by decide +kernel
theorem d_Li_layOutCommons_2 : decode b_Li_layOutCommons 2 = .ok (.iload_n 1, 1) := by decide +kernel
theorem d_Li_layOutCommons_3 : decode b_Li_layOutCommons 3 = .ok (.aload_n 0, 1) := by decide +kernel
theorem d_Li_layOutCommons_4 : decode b_Li_layOutCommons 4 = .ok (.getfield 24, 3) := by decide +kernel
theorem d_Li_layOutCommons_7 : decode b_Li_layOutCommons 7 = .ok (.getfield 200, 3) := by decide +kernel
theorem d_Li_layOutCommons_10 : decode b_Li_layOutCommons 10 = .ok (.if_icmp .ge 60, 3) := by decide +kernel
theorem d_Li_layOutCommons_13 : decode b_Li_layOutCommons 13 = .ok (.aload_n 0, 1) := by decide +kernel
theorem d_Li_layOutCommons_14 : decode b_Li_layOutCommons 14 = .ok (.getfield 24, 3) := by decide +kernel
theorem d_Li_layOutCommons_17 : decode b_Li_layOutCommons 17 = .ok (.getfield 203, 3) := by decide +kernel
theorem d_Li_layOutCommons_20 : decode b_Li_layOutCommons 20 = .ok (.iload_n 1, 1) := by decide +kernel
theorem d_Li_layOutCommons_21 : decode b_Li_layOutCommons 21 = .ok (.aaload, 1) := by decide +kernel
theorem d_Li_layOutCommons_22 : decode b_Li_layOutCommons 22 = .ok (.astore_n 2, 1) := by decide +kernel
theorem d_Li_layOutCommons_23 : decode b_Li_layOutCommons 23 = .ok (.aload_n 2, 1) := by decide +kernel
theorem d_Li_layOutCommons_24 : decode b_Li_layOutCommons 24 = .ok (.getfield 66, 3) := by decide +kernel
theorem d_Li_layOutCommons_27 : decode b_Li_layOutCommons 27 = .ok (.iconst 2, 1) := by decide +kernel
theorem d_Li_layOutCommons_28 : decode b_Li_layOutCommons 28 = .ok (.if_icmp .ne 36, 3) := by decide +kernel
theorem d_Li_layOutCommons_31 : decode b_Li_layOutCommons 31 = .ok (.aload_n 2, 1) := by decide +kernel
theorem d_Li_layOutCommons_32 : decode b_Li_layOutCommons 32 = .ok (.getfield 166, 3) := by decide +kernel
theorem d_Li_layOutCommons_35 : decode b_Li_layOutCommons 35 = .ok (.ifCond .eq 29, 3) := by decide +kernel
theorem d_Li_layOutCommons_38 : decode b_Li_layOutCommons 38 = .ok (.aload_n 2, 1) := by decide +kernel
theorem d_Li_layOutCommons_39 : decode b_Li_layOutCommons 39 = .ok (.aload_n 0, 1) := by decide +kernel
theorem d_Li_layOutCommons_40 : decode b_Li_layOutCommons 40 = .ok (.aload_n 2, 1) := by decide +kernel
theorem d_Li_layOutCommons_41 : decode b_Li_layOutCommons 41 = .ok (.getfield 207, 3) := by decide +kernel
theorem d_Li_layOutCommons_44 : decode b_Li_layOutCommons 44 = .ok (.aload_n 2, 1) := by decide +kernel
theorem d_Li_layOutCommons_45 : decode b_Li_layOutCommons 45 = .ok (.getfield 208, 3) := by decide +kernel
theorem d_Li_layOutCommons_48 : decode b_Li_layOutCommons 48 = .ok (.invokevirtual 197, 3) := by decide +kernel
theorem d_Li_layOutCommons_51 : decode b_Li_layOutCommons 51 = .ok (.putfield 71, 3) := by decide +kernel
theorem d_Li_layOutCommons_54 : decode b_Li_layOutCommons 54 = .ok (.aload_n 0, 1) := by decide +kernel
theorem d_Li_layOutCommons_55 : decode b_Li_layOutCommons 55 = .ok (.dup, 1) := by decide +kernel
theorem d_Li_layOutCommons_56 : decode b_Li_layOutCommons 56 = .ok (.getfield 119, 3) := by decide +kernel
theorem d_Li_layOutCommons_59 : decode b_Li_layOutCommons 59 = .ok (.iconst 1, 1) := by decide +kernel
theorem d_Li_layOutCommons_60 : decode b_Li_layOutCommons 60 = .ok (.iadd, 1) := by decide +kernel
theorem d_Li_layOutCommons_61 : decode b_Li_layOutCommons 61 = .ok (.putfield 119, 3) := by decide +kernel
theorem d_Li_layOutCommons_64 : decode b_Li_layOutCommons 64 = .ok (.iinc 1 1, 3) := by decide +kernel
theorem d_Li_layOutCommons_67 : decode b_Li_layOutCommons 67 = .ok (.goto (-65), 3) := by decide +kernel
theorem d_Li_layOutCommons_70 : decode b_Li_layOutCommons 70 = .ok (.return_, 1) := by decide +kernel
theorem d_Li_copyBytes_0 : decode b_Li_copyBytes 0 = .ok (.iconst 0, 1) := by decide +kernel
theorem d_Li_copyBytes_1 : decode b_Li_copyBytes 1 = .ok (.istore_n 1, 1) := by decide +kernel
theorem d_Li_copyBytes_2 : decode b_Li_copyBytes 2 = .ok (.iload_n 1, 1) := by decide +kernel
theorem d_Li_copyBytes_3 : decode b_Li_copyBytes 3 = .ok (.aload_n 0, 1) := by decide +kernel
theorem d_Li_copyBytes_4 : decode b_Li_copyBytes 4 = .ok (.getfield 113, 3) := by decide +kernel
theorem d_Li_copyBytes_7 : decode b_Li_copyBytes 7 = .ok (.if_icmp .ge 16, 3) := by decide +kernel
theorem d_Li_copyBytes_10 : decode b_Li_copyBytes 10 = .ok (.aload_n 0, 1) := by decide +kernel
theorem d_Li_copyBytes_11 : decode b_Li_copyBytes 11 = .ok (.getfield 38, 3) := by decide +kernel
theorem d_Li_copyBytes_14 : decode b_Li_copyBytes 14 = .ok (.iload_n 1, 1) := by decide +kernel
theorem d_Li_copyBytes_15 : decode b_Li_copyBytes 15 = .ok (.iconst 0, 1) := by decide +kernel
theorem d_Li_copyBytes_16 : decode b_Li_copyBytes 16 = .ok (.iastore, 1) := by decide +kernel
theorem d_Li_copyBytes_17 : decode b_Li_copyBytes 17 = .ok (.iinc 1 1, 3) := by decide +kernel
theorem d_Li_copyBytes_20 : decode b_Li_copyBytes 20 = .ok (.goto (-18), 3) := by decide +kernel
theorem d_Li_copyBytes_23 : decode b_Li_copyBytes 23 = .ok (.iconst 0, 1) := by decide +kernel
theorem d_Li_copyBytes_24 : decode b_Li_copyBytes 24 = .ok (.istore_n 1, 1) := by decide +kernel
theorem d_Li_copyBytes_25 : decode b_Li_copyBytes 25 = .ok (.iload_n 1, 1) := by decide +kernel
theorem d_Li_copyBytes_26 : decode b_Li_copyBytes 26 = .ok (.aload_n 0, 1) := by decide +kernel
theorem d_Li_copyBytes_27 : decode b_Li_copyBytes 27 = .ok (.getfield 110, 3) := by decide +kernel
theorem d_Li_copyBytes_30 : decode b_Li_copyBytes 30 = .ok (.if_icmp .ge 59, 3) := by decide +kernel
theorem d_Li_copyBytes_33 : decode b_Li_copyBytes 33 = .ok (.aload_n 0, 1) := by decide +kernel
theorem d_Li_copyBytes_34 : decode b_Li_copyBytes 34 = .ok (.getfield 32, 3) := by decide +kernel
theorem d_Li_copyBytes_37 : decode b_Li_copyBytes 37 = .ok (.iload_n 1, 1) := by decide +kernel
theorem d_Li_copyBytes_38 : decode b_Li_copyBytes 38 = .ok (.iaload, 1) := by decide +kernel
theorem d_Li_copyBytes_39 : decode b_Li_copyBytes 39 = .ok (.istore_n 2, 1) := by decide +kernel
theorem d_Li_copyBytes_40 : decode b_Li_copyBytes 40 = .ok (.aload_n 0, 1) := by decide +kernel
theorem d_Li_copyBytes_41 : decode b_Li_copyBytes 41 = .ok (.getfield 11, 3) := by decide +kernel
theorem d_Li_copyBytes_44 : decode b_Li_copyBytes 44 = .ok (.iload_n 2, 1) := by decide +kernel
theorem d_Li_copyBytes_45 : decode b_Li_copyBytes 45 = .ok (.bipush 8, 2) := by decide +kernel
theorem d_Li_copyBytes_47 : decode b_Li_copyBytes 47 = .ok (.idiv, 1) := by decide +kernel
theorem d_Li_copyBytes_48 : decode b_Li_copyBytes 48 = .ok (.aaload, 1) := by decide +kernel
theorem d_Li_copyBytes_49 : decode b_Li_copyBytes 49 = .ok (.getfield 184, 3) := by decide +kernel
theorem d_Li_copyBytes_52 : decode b_Li_copyBytes 52 = .ok (.iload_n 2, 1) := by decide +kernel
theorem d_Li_copyBytes_53 : decode b_Li_copyBytes 53 = .ok (.bipush 8, 2) := by decide +kernel
theorem d_Li_copyBytes_55 : decode b_Li_copyBytes 55 = .ok (.irem, 1) := by decide +kernel
theorem d_Li_copyBytes_56 : decode b_Li_copyBytes 56 = .ok (.aaload, 1) := by decide +kernel
theorem d_Li_copyBytes_57 : decode b_Li_copyBytes 57 = .ok (.getfield 211, 3) := by decide +kernel
theorem d_Li_copyBytes_60 : decode b_Li_copyBytes 60 = .ok (.astore_n 3, 1) := by decide +kernel
theorem d_Li_copyBytes_61 : decode b_Li_copyBytes 61 = .ok (.aload_n 3, 1) := by decide +kernel
theorem d_Li_copyBytes_62 : decode b_Li_copyBytes 62 = .ok (.iconst 0, 1) := by decide +kernel
theorem d_Li_copyBytes_63 : decode b_Li_copyBytes 63 = .ok (.aload_n 0, 1) := by decide +kernel
theorem d_Li_copyBytes_64 : decode b_Li_copyBytes 64 = .ok (.getfield 38, 3) := by decide +kernel
theorem d_Li_copyBytes_67 : decode b_Li_copyBytes 67 = .ok (.aload_n 0, 1) := by decide +kernel
theorem d_Li_copyBytes_68 : decode b_Li_copyBytes 68 = .ok (.getfield 35, 3) := by decide +kernel
theorem d_Li_copyBytes_71 : decode b_Li_copyBytes 71 = .ok (.iload_n 2, 1) := by decide +kernel
theorem d_Li_copyBytes_72 : decode b_Li_copyBytes 72 = .ok (.iaload, 1) := by decide +kernel
theorem d_Li_copyBytes_73 : decode b_Li_copyBytes 73 = .ok (.aload_n 0, 1) := by decide +kernel
theorem d_Li_copyBytes_74 : decode b_Li_copyBytes 74 = .ok (.getfield 55, 3) := by decide +kernel
theorem d_Li_copyBytes_77 : decode b_Li_copyBytes 77 = .ok (.isub, 1) := by decide +kernel
theorem d_Li_copyBytes_78 : decode b_Li_copyBytes 78 = .ok (.aload_n 3, 1) := by decide +kernel
theorem d_Li_copyBytes_79 : decode b_Li_copyBytes 79 = .ok (.arraylength, 1) := by decide +kernel
theorem d_Li_copyBytes_80 : decode b_Li_copyBytes 80 = .ok (.invokestatic 214, 3) := by decide +kernel
theorem d_Li_copyBytes_83 : decode b_Li_copyBytes 83 = .ok (.iinc 1 1, 3) := by decide +kernel
theorem d_Li_copyBytes_86 : decode b_Li_copyBytes 86 = .ok (.goto (-61), 3) := by decide +kernel
theorem d_Li_copyBytes_89 : decode b_Li_copyBytes 89 = .ok (.return_, 1) := by decide +kernel
theorem d_Li_workIn_0 : decode b_Li_workIn 0 = .ok (.iconst 0, 1) := by decide +kernel
theorem d_Li_workIn_1 : decode b_Li_workIn 1 = .ok (.istore_n 1, 1) := by decide +kernel
theorem d_Li_workIn_2 : decode b_Li_workIn 2 = .ok (.iload_n 1, 1) := by decide +kernel
theorem d_Li_workIn_3 : decode b_Li_workIn 3 = .ok (.aload_n 0, 1) := by decide +kernel
theorem d_Li_workIn_4 : decode b_Li_workIn 4 = .ok (.getfield 48, 3) := by decide +kernel
theorem d_Li_workIn_7 : decode b_Li_workIn 7 = .ok (.if_icmp .ge 74, 3) := by decide +kernel
theorem d_Li_workIn_10 : decode b_Li_workIn 10 = .ok (.aload_n 0, 1) := by decide +kernel
theorem d_Li_workIn_11 : decode b_Li_workIn 11 = .ok (.getfield 11, 3) := by decide +kernel
theorem d_Li_workIn_14 : decode b_Li_workIn 14 = .ok (.aload_n 0, 1) := by decide +kernel
theorem d_Li_workIn_15 : decode b_Li_workIn 15 = .ok (.getfield 17, 3) := by decide +kernel
theorem d_Li_workIn_18 : decode b_Li_workIn 18 = .ok (.iload_n 1, 1) := by decide +kernel
theorem d_Li_workIn_19 : decode b_Li_workIn 19 = .ok (.iaload, 1) := by decide +kernel
theorem d_Li_workIn_20 : decode b_Li_workIn 20 = .ok (.aaload, 1) := by decide +kernel
theorem d_Li_workIn_21 : decode b_Li_workIn 21 = .ok (.astore_n 2, 1) := by decide +kernel
theorem d_Li_workIn_22 : decode b_Li_workIn 22 = .ok (.iconst 0, 1) := by decide +kernel
theorem d_Li_workIn_23 : decode b_Li_workIn 23 = .ok (.istore_n 3, 1) := by decide +kernel
theorem d_Li_workIn_24 : decode b_Li_workIn 24 = .ok (.iload_n 3, 1) := by decide +kernel
theorem d_Li_workIn_25 : decode b_Li_workIn 25 = .ok (.aload_n 2, 1) := by decide +kernel
theorem d_Li_workIn_26 : decode b_Li_workIn 26 = .ok (.getfield 147, 3) := by decide +kernel
theorem d_Li_workIn_29 : decode b_Li_workIn 29 = .ok (.if_icmp .ge 46, 3) := by decide +kernel
theorem d_Li_workIn_32 : decode b_Li_workIn 32 = .ok (.aload_n 0, 1) := by decide +kernel
theorem d_Li_workIn_33 : decode b_Li_workIn 33 = .ok (.aload_n 0, 1) := by decide +kernel
theorem d_Li_workIn_34 : decode b_Li_workIn 34 = .ok (.getfield 17, 3) := by decide +kernel
theorem d_Li_workIn_37 : decode b_Li_workIn 37 = .ok (.iload_n 1, 1) := by decide +kernel
theorem d_Li_workIn_38 : decode b_Li_workIn 38 = .ok (.iaload, 1) := by decide +kernel
theorem d_Li_workIn_39 : decode b_Li_workIn 39 = .ok (.aload_n 2, 1) := by decide +kernel
theorem d_Li_workIn_40 : decode b_Li_workIn 40 = .ok (.getfield 150, 3) := by decide +kernel
theorem d_Li_workIn_43 : decode b_Li_workIn 43 = .ok (.iload_n 3, 1) := by decide +kernel
theorem d_Li_workIn_44 : decode b_Li_workIn 44 = .ok (.aaload, 1) := by decide +kernel
theorem d_Li_workIn_45 : decode b_Li_workIn 45 = .ok (.invokevirtual 220, 3) := by decide +kernel
theorem d_Li_workIn_48 : decode b_Li_workIn 48 = .ok (.istore 4, 2) := by decide +kernel
theorem d_Li_workIn_50 : decode b_Li_workIn 50 = .ok (.iload 4, 2) := by decide +kernel
theorem d_Li_workIn_52 : decode b_Li_workIn 52 = .ok (.ifCond .eq 17, 3) := by decide +kernel
theorem d_Li_workIn_55 : decode b_Li_workIn 55 = .ok (.aload_n 0, 1) := by decide +kernel
theorem d_Li_workIn_56 : decode b_Li_workIn 56 = .ok (.iload 4, 2) := by decide +kernel
theorem d_Li_workIn_58 : decode b_Li_workIn 58 = .ok (.aload_n 0, 1) := by decide +kernel
theorem d_Li_workIn_59 : decode b_Li_workIn 59 = .ok (.getfield 17, 3) := by decide +kernel
theorem d_Li_workIn_62 : decode b_Li_workIn 62 = .ok (.iload_n 1, 1) := by decide +kernel
theorem d_Li_workIn_63 : decode b_Li_workIn 63 = .ok (.iaload, 1) := by decide +kernel
theorem d_Li_workIn_64 : decode b_Li_workIn 64 = .ok (.iload_n 3, 1) := by decide +kernel
theorem d_Li_workIn_65 : decode b_Li_workIn 65 = .ok (.invokevirtual 103, 3) := by decide +kernel
theorem d_Li_workIn_68 : decode b_Li_workIn 68 = .ok (.ireturn, 1) := by decide +kernel
theorem d_Li_workIn_69 : decode b_Li_workIn 69 = .ok (.iinc 3 1, 3) := by decide +kernel
theorem d_Li_workIn_72 : decode b_Li_workIn 72 = .ok (.goto (-48), 3) := by decide +kernel
theorem d_Li_workIn_75 : decode b_Li_workIn 75 = .ok (.iinc 1 1, 3) := by decide +kernel
theorem d_Li_workIn_78 : decode b_Li_workIn 78 = .ok (.goto (-76), 3) := by decide +kernel
theorem d_Li_workIn_81 : decode b_Li_workIn 81 = .ok (.iconst 1, 1) := by decide +kernel
theorem d_Li_workIn_82 : decode b_Li_workIn 82 = .ok (.ireturn, 1) := by decide +kernel
theorem d_Li_workInOne_0 : decode b_Li_workInOne 0 = .ok (.iload_n 1, 1) := by decide +kernel
theorem d_Li_workInOne_1 : decode b_Li_workInOne 1 = .ok (.aload_n 2, 1) := by decide +kernel
theorem d_Li_workInOne_2 : decode b_Li_workInOne 2 = .ok (.getfield 154, 3) := by decide +kernel
theorem d_Li_workInOne_5 : decode b_Li_workInOne 5 = .ok (.invokestatic 168, 3) := by decide +kernel
theorem d_Li_workInOne_8 : decode b_Li_workInOne 8 = .ok (.istore_n 3, 1) := by decide +kernel
theorem d_Li_workInOne_9 : decode b_Li_workInOne 9 = .ok (.aload_n 0, 1) := by decide +kernel
theorem d_Li_workInOne_10 : decode b_Li_workInOne 10 = .ok (.getfield 28, 3) := by decide +kernel
theorem d_Li_workInOne_13 : decode b_Li_workInOne 13 = .ok (.iload_n 3, 1) := by decide +kernel
theorem d_Li_workInOne_14 : decode b_Li_workInOne 14 = .ok (.baload, 1) := by decide +kernel
theorem d_Li_workInOne_15 : decode b_Li_workInOne 15 = .ok (.ifCond .ne 5, 3) := by decide +kernel
theorem d_Li_workInOne_18 : decode b_Li_workInOne 18 = .ok (.iconst 0, 1) := by decide +kernel
theorem d_Li_workInOne_19 : decode b_Li_workInOne 19 = .ok (.ireturn, 1) := by decide +kernel
theorem d_Li_workInOne_20 : decode b_Li_workInOne 20 = .ok (.getstatic 224, 3) := by decide +kernel
theorem d_Li_workInOne_23 : decode b_Li_workInOne 23 = .ok (.aload_n 2, 1) := by decide +kernel
theorem d_Li_workInOne_24 : decode b_Li_workInOne 24 = .ok (.getfield 227, 3) := by decide +kernel
theorem d_Li_workInOne_27 : decode b_Li_workInOne 27 = .ok (.iaload, 1) := by decide +kernel
theorem d_Li_workInOne_28 : decode b_Li_workInOne 28 = .ok (.istore 4, 2) := by decide +kernel
theorem d_Li_workInOne_30 : decode b_Li_workInOne 30 = .ok (.aload_n 2, 1) := by decide +kernel
theorem d_Li_workInOne_31 : decode b_Li_workInOne 31 = .ok (.getfield 230, 3) := by decide +kernel
theorem d_Li_workInOne_34 : decode b_Li_workInOne 34 = .ok (.iload 4, 2) := by decide +kernel
theorem d_Li_workInOne_36 : decode b_Li_workInOne 36 = .ok (.iadd, 1) := by decide +kernel
theorem d_Li_workInOne_37 : decode b_Li_workInOne 37 = .ok (.aload_n 0, 1) := by decide +kernel
theorem d_Li_workInOne_38 : decode b_Li_workInOne 38 = .ok (.getfield 11, 3) := by decide +kernel
theorem d_Li_workInOne_41 : decode b_Li_workInOne 41 = .ok (.iload_n 1, 1) := by decide +kernel
theorem d_Li_workInOne_42 : decode b_Li_workInOne 42 = .ok (.aaload, 1) := by decide +kernel
theorem d_Li_workInOne_43 : decode b_Li_workInOne 43 = .ok (.getfield 184, 3) := by decide +kernel
theorem d_Li_workInOne_46 : decode b_Li_workInOne 46 = .ok (.aload_n 2, 1) := by decide +kernel
theorem d_Li_workInOne_47 : decode b_Li_workInOne 47 = .ok (.getfield 154, 3) := by decide +kernel
theorem d_Li_workInOne_50 : decode b_Li_workInOne 50 = .ok (.aaload, 1) := by decide +kernel
theorem d_Li_workInOne_51 : decode b_Li_workInOne 51 = .ok (.getfield 196, 3) := by decide +kernel
theorem d_Li_workInOne_54 : decode b_Li_workInOne 54 = .ok (.if_icmp .le 5, 3) := by decide +kernel
theorem d_Li_workInOne_57 : decode b_Li_workInOne 57 = .ok (.iconst 3, 1) := by decide +kernel
theorem d_Li_workInOne_58 : decode b_Li_workInOne 58 = .ok (.ireturn, 1) := by decide +kernel
theorem d_Li_workInOne_59 : decode b_Li_workInOne 59 = .ok (.aload_n 0, 1) := by decide +kernel
theorem d_Li_workInOne_60 : decode b_Li_workInOne 60 = .ok (.getfield 35, 3) := by decide +kernel
theorem d_Li_workInOne_63 : decode b_Li_workInOne 63 = .ok (.iload_n 3, 1) := by decide +kernel
theorem d_Li_workInOne_64 : decode b_Li_workInOne 64 = .ok (.iaload, 1) := by decide +kernel
theorem d_Li_workInOne_65 : decode b_Li_workInOne 65 = .ok (.aload_n 2, 1) := by decide +kernel
theorem d_Li_workInOne_66 : decode b_Li_workInOne 66 = .ok (.getfield 230, 3) := by decide +kernel
theorem d_Li_workInOne_69 : decode b_Li_workInOne 69 = .ok (.iadd, 1) := by decide +kernel
theorem d_Li_workInOne_70 : decode b_Li_workInOne 70 = .ok (.istore 5, 2) := by decide +kernel
theorem d_Li_workInOne_72 : decode b_Li_workInOne 72 = .ok (.aload_n 0, 1) := by decide +kernel
theorem d_Li_workInOne_73 : decode b_Li_workInOne 73 = .ok (.aload_n 0, 1) := by decide +kernel
theorem d_Li_workInOne_74 : decode b_Li_workInOne 74 = .ok (.getfield 24, 3) := by decide +kernel
theorem d_Li_workInOne_77 : decode b_Li_workInOne 77 = .ok (.iload_n 1, 1) := by decide +kernel
theorem d_Li_workInOne_78 : decode b_Li_workInOne 78 = .ok (.aload_n 2, 1) := by decide +kernel
theorem d_Li_workInOne_79 : decode b_Li_workInOne 79 = .ok (.getfield 159, 3) := by decide +kernel
theorem d_Li_workInOne_82 : decode b_Li_workInOne 82 = .ok (.invokevirtual 162, 3) := by decide +kernel
theorem d_Li_workInOne_85 : decode b_Li_workInOne 85 = .ok (.invokevirtual 62, 3) := by decide +kernel
theorem d_Li_workInOne_88 : decode b_Li_workInOne 88 = .ok (.i2l, 1) := by decide +kernel
theorem d_Li_workInOne_89 : decode b_Li_workInOne 89 = .ok (.aload_n 2, 1) := by decide +kernel
theorem d_Li_workInOne_90 : decode b_Li_workInOne 90 = .ok (.getfield 231, 3) := by decide +kernel
theorem d_Li_workInOne_93 : decode b_Li_workInOne 93 = .ok (.i2l, 1) := by decide +kernel
theorem d_Li_workInOne_94 : decode b_Li_workInOne 94 = .ok (.ladd, 1) := by decide +kernel
theorem d_Li_workInOne_95 : decode b_Li_workInOne 95 = .ok (.lstore 6, 2) := by decide +kernel
theorem d_Li_workInOne_97 : decode b_Li_workInOne 97 = .ok (.lload 6, 2) := by decide +kernel
theorem d_Li_workInOne_99 : decode b_Li_workInOne 99 = .ok (.iload 5, 2) := by decide +kernel
theorem d_Li_workInOne_101 : decode b_Li_workInOne 101 = .ok (.i2l, 1) := by decide +kernel
theorem d_Li_workInOne_102 : decode b_Li_workInOne 102 = .ok (.lsub, 1) := by decide +kernel
theorem d_Li_workInOne_103 : decode b_Li_workInOne 103 = .ok (.lstore 8, 2) := by decide +kernel
theorem d_Li_workInOne_105 : decode b_Li_workInOne 105 = .ok (.aload_n 2, 1) := by decide +kernel
theorem d_Li_workInOne_106 : decode b_Li_workInOne 106 = .ok (.getfield 227, 3) := by decide +kernel
theorem d_Li_workInOne_109 : decode b_Li_workInOne 109 = .ok (.lload 6, 2) := by decide +kernel
theorem d_Li_workInOne_111 : decode b_Li_workInOne 111 = .ok (.lload 8, 2) := by decide +kernel
theorem d_Li_workInOne_113 : decode b_Li_workInOne 113 = .ok (.invokestatic 234, 3) := by decide +kernel
theorem d_Li_workInOne_116 : decode b_Li_workInOne 116 = .ok (.istore 10, 2) := by decide +kernel
theorem d_Li_workInOne_118 : decode b_Li_workInOne 118 = .ok (.iload 10, 2) := by decide +kernel
theorem d_Li_workInOne_120 : decode b_Li_workInOne 120 = .ok (.ifCond .ne 27, 3) := by decide +kernel
theorem d_Li_workInOne_123 : decode b_Li_workInOne 123 = .ok (.aload_n 0, 1) := by decide +kernel
theorem d_Li_workInOne_124 : decode b_Li_workInOne 124 = .ok (.iload 5, 2) := by decide +kernel
theorem d_Li_workInOne_126 : decode b_Li_workInOne 126 = .ok (.aload_n 0, 1) := by decide +kernel
theorem d_Li_workInOne_127 : decode b_Li_workInOne 127 = .ok (.getfield 55, 3) := by decide +kernel
theorem d_Li_workInOne_130 : decode b_Li_workInOne 130 = .ok (.isub, 1) := by decide +kernel
theorem d_Li_workInOne_131 : decode b_Li_workInOne 131 = .ok (.iload 4, 2) := by decide +kernel
theorem d_Li_workInOne_133 : decode b_Li_workInOne 133 = .ok (.aload_n 2, 1) := by decide +kernel
theorem d_Li_workInOne_134 : decode b_Li_workInOne 134 = .ok (.getfield 227, 3) := by decide +kernel
theorem d_Li_workInOne_137 : decode b_Li_workInOne 137 = .ok (.lload 6, 2) := by decide +kernel
theorem d_Li_workInOne_139 : decode b_Li_workInOne 139 = .ok (.lload 8, 2) := by decide +kernel
theorem d_Li_workInOne_141 : decode b_Li_workInOne 141 = .ok (.invokestatic 238, 3) := by decide +kernel
theorem d_Li_workInOne_144 : decode b_Li_workInOne 144 = .ok (.invokevirtual 242, 3) := by decide +kernel
theorem d_Li_workInOne_147 : decode b_Li_workInOne 147 = .ok (.iload 10, 2) := by decide +kernel
theorem d_Li_workInOne_149 : decode b_Li_workInOne 149 = .ok (.ireturn, 1) := by decide +kernel
theorem d_Li_faultOfWay_0 : decode b_Li_faultOfWay 0 = .ok (.iload_n 0, 1) := by decide +kernel
theorem d_Li_faultOfWay_1 : decode b_Li_faultOfWay 1 = .ok (.tableswitch 107 1 3 #[27, 47, 69], 27) := by decide +kernel
theorem d_Li_faultOfWay_28 : decode b_Li_faultOfWay 28 = .ok (.lload_n 1, 1) := by decide +kernel
theorem d_Li_faultOfWay_29 : decode b_Li_faultOfWay 29 = .ok (.lconst 0, 1) := by decide +kernel
theorem d_Li_faultOfWay_30 : decode b_Li_faultOfWay 30 = .ok (.lcmp, 1) := by decide +kernel
theorem d_Li_faultOfWay_31 : decode b_Li_faultOfWay 31 = .ok (.ifCond .lt 11, 3) := by decide +kernel
theorem d_Li_faultOfWay_34 : decode b_Li_faultOfWay 34 = .ok (.lload_n 1, 1) := by decide +kernel
theorem d_Li_faultOfWay_35 : decode b_Li_faultOfWay 35 = .ok (.ldc2_w 246, 3) := by decide +kernel
theorem d_Li_faultOfWay_38 : decode b_Li_faultOfWay 38 = .ok (.lcmp, 1) := by decide +kernel
theorem d_Li_faultOfWay_39 : decode b_Li_faultOfWay 39 = .ok (.ifCond .le 7, 3) := by decide +kernel
theorem d_Li_faultOfWay_42 : decode b_Li_faultOfWay 42 = .ok (.iconst 5, 1) := by decide +kernel
theorem d_Li_faultOfWay_43 : decode b_Li_faultOfWay 43 = .ok (.goto 4, 3) := by decide +kernel
theorem d_Li_faultOfWay_46 : decode b_Li_faultOfWay 46 = .ok (.iconst 0, 1) := by decide +kernel
theorem d_Li_faultOfWay_47 : decode b_Li_faultOfWay 47 = .ok (.ireturn, 1) := by decide +kernel
theorem d_Li_faultOfWay_48 : decode b_Li_faultOfWay 48 = .ok (.lload_n 3, 1) := by decide +kernel
theorem d_Li_faultOfWay_49 : decode b_Li_faultOfWay 49 = .ok (.ldc2_w 248, 3) := by decide +kernel
theorem d_Li_faultOfWay_52 : decode b_Li_faultOfWay 52 = .ok (.lcmp, 1) := by decide +kernel
theorem d_Li_faultOfWay_53 : decode b_Li_faultOfWay 53 = .ok (.ifCond .lt 11, 3) := by decide +kernel
theorem d_Li_faultOfWay_56 : decode b_Li_faultOfWay 56 = .ok (.lload_n 3, 1) := by decide +kernel
theorem d_Li_faultOfWay_57 : decode b_Li_faultOfWay 57 = .ok (.ldc2_w 250, 3) := by decide +kernel
theorem d_Li_faultOfWay_60 : decode b_Li_faultOfWay 60 = .ok (.lcmp, 1) := by decide +kernel
theorem d_Li_faultOfWay_61 : decode b_Li_faultOfWay 61 = .ok (.ifCond .le 7, 3) := by decide +kernel
theorem d_Li_faultOfWay_64 : decode b_Li_faultOfWay 64 = .ok (.iconst 5, 1) := by decide +kernel
theorem d_Li_faultOfWay_65 : decode b_Li_faultOfWay 65 = .ok (.goto 4, 3) := by decide +kernel
theorem d_Li_faultOfWay_68 : decode b_Li_faultOfWay 68 = .ok (.iconst 0, 1) := by decide +kernel
theorem d_Li_faultOfWay_69 : decode b_Li_faultOfWay 69 = .ok (.ireturn, 1) := by decide +kernel
theorem d_Li_faultOfWay_70 : decode b_Li_faultOfWay 70 = .ok (.lload_n 3, 1) := by decide +kernel
theorem d_Li_faultOfWay_71 : decode b_Li_faultOfWay 71 = .ok (.ldc2_w 252, 3) := by decide +kernel
theorem d_Li_faultOfWay_74 : decode b_Li_faultOfWay 74 = .ok (.land, 1) := by decide +kernel
theorem d_Li_faultOfWay_75 : decode b_Li_faultOfWay 75 = .ok (.lconst 0, 1) := by decide +kernel
theorem d_Li_faultOfWay_76 : decode b_Li_faultOfWay 76 = .ok (.lcmp, 1) := by decide +kernel
theorem d_Li_faultOfWay_77 : decode b_Li_faultOfWay 77 = .ok (.ifCond .eq 5, 3) := by decide +kernel
theorem d_Li_faultOfWay_80 : decode b_Li_faultOfWay 80 = .ok (.iconst 4, 1) := by decide +kernel
theorem d_Li_faultOfWay_81 : decode b_Li_faultOfWay 81 = .ok (.ireturn, 1) := by decide +kernel
theorem d_Li_faultOfWay_82 : decode b_Li_faultOfWay 82 = .ok (.lload_n 3, 1) := by decide +kernel
theorem d_Li_faultOfWay_83 : decode b_Li_faultOfWay 83 = .ok (.iconst 2, 1) := by decide +kernel
theorem d_Li_faultOfWay_84 : decode b_Li_faultOfWay 84 = .ok (.lshr, 1) := by decide +kernel
theorem d_Li_faultOfWay_85 : decode b_Li_faultOfWay 85 = .ok (.ldc2_w 254, 3) := by decide +kernel
theorem d_Li_faultOfWay_88 : decode b_Li_faultOfWay 88 = .ok (.lcmp, 1) := by decide +kernel
theorem d_Li_faultOfWay_89 : decode b_Li_faultOfWay 89 = .ok (.ifCond .lt 13, 3) := by decide +kernel
theorem d_Li_faultOfWay_92 : decode b_Li_faultOfWay 92 = .ok (.lload_n 3, 1) := by decide +kernel
theorem d_Li_faultOfWay_93 : decode b_Li_faultOfWay 93 = .ok (.iconst 2, 1) := by decide +kernel
theorem d_Li_faultOfWay_94 : decode b_Li_faultOfWay 94 = .ok (.lshr, 1) := by decide +kernel
theorem d_Li_faultOfWay_95 : decode b_Li_faultOfWay 95 = .ok (.ldc2_w 256, 3) := by decide +kernel
theorem d_Li_faultOfWay_98 : decode b_Li_faultOfWay 98 = .ok (.lcmp, 1) := by decide +kernel
theorem d_Li_faultOfWay_99 : decode b_Li_faultOfWay 99 = .ok (.ifCond .le 7, 3) := by decide +kernel
theorem d_Li_faultOfWay_102 : decode b_Li_faultOfWay 102 = .ok (.iconst 5, 1) := by decide +kernel
theorem d_Li_faultOfWay_103 : decode b_Li_faultOfWay 103 = .ok (.goto 4, 3) := by decide +kernel
theorem d_Li_faultOfWay_106 : decode b_Li_faultOfWay 106 = .ok (.iconst 0, 1) := by decide +kernel
theorem d_Li_faultOfWay_107 : decode b_Li_faultOfWay 107 = .ok (.ireturn, 1) := by decide +kernel
theorem d_Li_faultOfWay_108 : decode b_Li_faultOfWay 108 = .ok (.iconst 0, 1) := by decide +kernel
theorem d_Li_faultOfWay_109 : decode b_Li_faultOfWay 109 = .ok (.ireturn, 1) := by decide +kernel
theorem d_Li_valueOfWay_0 : decode b_Li_valueOfWay 0 = .ok (.iload_n 0, 1) := by decide +kernel
theorem d_Li_valueOfWay_1 : decode b_Li_valueOfWay 1 = .ok (.tableswitch 42 2 4 #[27, 29, 33], 27) := by decide +kernel
theorem d_Li_valueOfWay_28 : decode b_Li_valueOfWay 28 = .ok (.lload_n 3, 1) := by decide +kernel
theorem d_Li_valueOfWay_29 : decode b_Li_valueOfWay 29 = .ok (.lreturn, 1) := by decide +kernel
theorem d_Li_valueOfWay_30 : decode b_Li_valueOfWay 30 = .ok (.lload_n 3, 1) := by decide +kernel
theorem d_Li_valueOfWay_31 : decode b_Li_valueOfWay 31 = .ok (.iconst 2, 1) := by decide +kernel
theorem d_Li_valueOfWay_32 : decode b_Li_valueOfWay 32 = .ok (.lshr, 1) := by decide +kernel
theorem d_Li_valueOfWay_33 : decode b_Li_valueOfWay 33 = .ok (.lreturn, 1) := by decide +kernel
theorem d_Li_valueOfWay_34 : decode b_Li_valueOfWay 34 = .ok (.lload_n 1, 1) := by decide +kernel
theorem d_Li_valueOfWay_35 : decode b_Li_valueOfWay 35 = .ok (.ldc2_w 258, 3) := by decide +kernel
theorem d_Li_valueOfWay_38 : decode b_Li_valueOfWay 38 = .ok (.ladd, 1) := by decide +kernel
theorem d_Li_valueOfWay_39 : decode b_Li_valueOfWay 39 = .ok (.bipush 16, 2) := by decide +kernel
theorem d_Li_valueOfWay_41 : decode b_Li_valueOfWay 41 = .ok (.lshr, 1) := by decide +kernel
theorem d_Li_valueOfWay_42 : decode b_Li_valueOfWay 42 = .ok (.lreturn, 1) := by decide +kernel
theorem d_Li_valueOfWay_43 : decode b_Li_valueOfWay 43 = .ok (.lload_n 1, 1) := by decide +kernel
theorem d_Li_valueOfWay_44 : decode b_Li_valueOfWay 44 = .ok (.lreturn, 1) := by decide +kernel
theorem d_Li_putInto_0 : decode b_Li_putInto 0 = .ok (.iconst 0, 1) := by decide +kernel
theorem d_Li_putInto_1 : decode b_Li_putInto 1 = .ok (.istore 5, 2) := by decide +kernel
theorem d_Li_putInto_3 : decode b_Li_putInto 3 = .ok (.iload 5, 2) := by decide +kernel
theorem d_Li_putInto_5 : decode b_Li_putInto 5 = .ok (.iload_n 2, 1) := by decide +kernel
theorem d_Li_putInto_6 : decode b_Li_putInto 6 = .ok (.if_icmp .ge 34, 3) := by decide +kernel
theorem d_Li_putInto_9 : decode b_Li_putInto 9 = .ok (.aload_n 0, 1) := by decide +kernel
theorem d_Li_putInto_10 : decode b_Li_putInto 10 = .ok (.getfield 38, 3) := by decide +kernel
theorem d_Li_putInto_13 : decode b_Li_putInto 13 = .ok (.iload_n 1, 1) := by decide +kernel
theorem d_Li_putInto_14 : decode b_Li_putInto 14 = .ok (.iload 5, 2) := by decide +kernel
theorem d_Li_putInto_16 : decode b_Li_putInto 16 = .ok (.iadd, 1) := by decide +kernel
theorem d_Li_putInto_17 : decode b_Li_putInto 17 = .ok (.lload_n 3, 1) := by decide +kernel
theorem d_Li_putInto_18 : decode b_Li_putInto 18 = .ok (.bipush 8, 2) := by decide +kernel
theorem d_Li_putInto_20 : decode b_Li_putInto 20 = .ok (.iload_n 2, 1) := by decide +kernel
theorem d_Li_putInto_21 : decode b_Li_putInto 21 = .ok (.iconst 1, 1) := by decide +kernel
theorem d_Li_putInto_22 : decode b_Li_putInto 22 = .ok (.isub, 1) := by decide +kernel
theorem d_Li_putInto_23 : decode b_Li_putInto 23 = .ok (.iload 5, 2) := by decide +kernel
theorem d_Li_putInto_25 : decode b_Li_putInto 25 = .ok (.isub, 1) := by decide +kernel
theorem d_Li_putInto_26 : decode b_Li_putInto 26 = .ok (.imul, 1) := by decide +kernel
theorem d_Li_putInto_27 : decode b_Li_putInto 27 = .ok (.lshr, 1) := by decide +kernel
theorem d_Li_putInto_28 : decode b_Li_putInto 28 = .ok (.l2i, 1) := by decide +kernel
theorem d_Li_putInto_29 : decode b_Li_putInto 29 = .ok (.sipush 255, 3) := by decide +kernel
theorem d_Li_putInto_32 : decode b_Li_putInto 32 = .ok (.iand, 1) := by decide +kernel
theorem d_Li_putInto_33 : decode b_Li_putInto 33 = .ok (.iastore, 1) := by decide +kernel
theorem d_Li_putInto_34 : decode b_Li_putInto 34 = .ok (.iinc 5 1, 3) := by decide +kernel
theorem d_Li_putInto_37 : decode b_Li_putInto 37 = .ok (.goto (-34), 3) := by decide +kernel
theorem d_Li_putInto_40 : decode b_Li_putInto 40 = .ok (.return_, 1) := by decide +kernel
theorem d_OL_fault_0 : decode b_OL_fault 0 = .ok (.iload_n 1, 1) := by decide +kernel
theorem d_OL_fault_1 : decode b_OL_fault 1 = .ok (.tableswitch 51 0 2 #[27, 35, 43], 27) := by decide +kernel
theorem d_OL_fault_28 : decode b_OL_fault 28 = .ok (.aload_n 0, 1) := by decide +kernel
theorem d_OL_fault_29 : decode b_OL_fault 29 = .ok (.getfield 18, 3) := by decide +kernel
theorem d_OL_fault_32 : decode b_OL_fault 32 = .ok (.getfield 160, 3) := by decide +kernel
theorem d_OL_fault_35 : decode b_OL_fault 35 = .ok (.ireturn, 1) := by decide +kernel
theorem d_OL_fault_36 : decode b_OL_fault 36 = .ok (.aload_n 0, 1) := by decide +kernel
theorem d_OL_fault_37 : decode b_OL_fault 37 = .ok (.getfield 18, 3) := by decide +kernel
theorem d_OL_fault_40 : decode b_OL_fault 40 = .ok (.getfield 163, 3) := by decide +kernel
theorem d_OL_fault_43 : decode b_OL_fault 43 = .ok (.ireturn, 1) := by decide +kernel
theorem d_OL_fault_44 : decode b_OL_fault 44 = .ok (.aload_n 0, 1) := by decide +kernel
theorem d_OL_fault_45 : decode b_OL_fault 45 = .ok (.getfield 18, 3) := by decide +kernel
theorem d_OL_fault_48 : decode b_OL_fault 48 = .ok (.getfield 166, 3) := by decide +kernel
theorem d_OL_fault_51 : decode b_OL_fault 51 = .ok (.ireturn, 1) := by decide +kernel
theorem d_OL_fault_52 : decode b_OL_fault 52 = .ok (.new 169, 3) := by decide +kernel
theorem d_OL_fault_55 : decode b_OL_fault 55 = .ok (.dup, 1) := by decide +kernel
theorem d_OL_fault_56 : decode b_OL_fault 56 = .ok (.ldc 171, 2) := by decide +kernel
theorem d_OL_fault_58 : decode b_OL_fault 58 = .ok (.invokespecial 173, 3) := by decide +kernel
theorem d_OL_fault_61 : decode b_OL_fault 61 = .ok (.athrow, 1) := by decide +kernel
theorem d_OL_image_0 : decode b_OL_image 0 = .ok (.iload_n 1, 1) := by decide +kernel
theorem d_OL_image_1 : decode b_OL_image 1 = .ok (.ifCond .lt 14, 3) := by decide +kernel
theorem d_OL_image_4 : decode b_OL_image 4 = .ok (.iload_n 1, 1) := by decide +kernel
theorem d_OL_image_5 : decode b_OL_image 5 = .ok (.aload_n 0, 1) := by decide +kernel
theorem d_OL_image_6 : decode b_OL_image 6 = .ok (.getfield 18, 3) := by decide +kernel
theorem d_OL_image_9 : decode b_OL_image 9 = .ok (.getfield 157, 3) := by decide +kernel
theorem d_OL_image_12 : decode b_OL_image 12 = .ok (.if_icmp .lt 13, 3) := by decide +kernel
theorem d_OL_image_15 : decode b_OL_image 15 = .ok (.new 169, 3) := by decide +kernel
theorem d_OL_image_18 : decode b_OL_image 18 = .ok (.dup, 1) := by decide +kernel
theorem d_OL_image_19 : decode b_OL_image 19 = .ok (.ldc 174, 2) := by decide +kernel
theorem d_OL_image_21 : decode b_OL_image 21 = .ok (.invokespecial 173, 3) := by decide +kernel
theorem d_OL_image_24 : decode b_OL_image 24 = .ok (.athrow, 1) := by decide +kernel
theorem d_OL_image_25 : decode b_OL_image 25 = .ok (.aload_n 0, 1) := by decide +kernel
theorem d_OL_image_26 : decode b_OL_image 26 = .ok (.getfield 18, 3) := by decide +kernel
theorem d_OL_image_29 : decode b_OL_image 29 = .ok (.getfield 176, 3) := by decide +kernel
theorem d_OL_image_32 : decode b_OL_image 32 = .ok (.iload_n 1, 1) := by decide +kernel
theorem d_OL_image_33 : decode b_OL_image 33 = .ok (.iaload, 1) := by decide +kernel
theorem d_OL_image_34 : decode b_OL_image 34 = .ok (.ireturn, 1) := by decide +kernel
theorem d_OL_placeOf_0 : decode b_OL_placeOf 0 = .ok (.aload_n 0, 1) := by decide +kernel
theorem d_OL_placeOf_1 : decode b_OL_placeOf 1 = .ok (.iload_n 1, 1) := by decide +kernel
theorem d_OL_placeOf_2 : decode b_OL_placeOf 2 = .ok (.invokevirtual 45, 3) := by decide +kernel
theorem d_OL_placeOf_5 : decode b_OL_placeOf 5 = .ok (.iload_n 2, 1) := by decide +kernel
theorem d_OL_placeOf_6 : decode b_OL_placeOf 6 = .ok (.invokevirtual 72, 3) := by decide +kernel
theorem d_OL_placeOf_9 : decode b_OL_placeOf 9 = .ok (.ifnonnull 13, 3) := by decide +kernel
theorem d_OL_placeOf_12 : decode b_OL_placeOf 12 = .ok (.new 55, 3) := by decide +kernel
theorem d_OL_placeOf_15 : decode b_OL_placeOf 15 = .ok (.dup, 1) := by decide +kernel
theorem d_OL_placeOf_16 : decode b_OL_placeOf 16 = .ok (.ldc 179, 2) := by decide +kernel
theorem d_OL_placeOf_18 : decode b_OL_placeOf 18 = .ok (.invokespecial 59, 3) := by decide +kernel
theorem d_OL_placeOf_21 : decode b_OL_placeOf 21 = .ok (.athrow, 1) := by decide +kernel
theorem d_OL_placeOf_22 : decode b_OL_placeOf 22 = .ok (.aload_n 0, 1) := by decide +kernel
theorem d_OL_placeOf_23 : decode b_OL_placeOf 23 = .ok (.getfield 18, 3) := by decide +kernel
theorem d_OL_placeOf_26 : decode b_OL_placeOf 26 = .ok (.iload_n 1, 1) := by decide +kernel
theorem d_OL_placeOf_27 : decode b_OL_placeOf 27 = .ok (.iload_n 2, 1) := by decide +kernel
theorem d_OL_placeOf_28 : decode b_OL_placeOf 28 = .ok (.invokestatic 181, 3) := by decide +kernel
theorem d_OL_placeOf_31 : decode b_OL_placeOf 31 = .ok (.invokevirtual 184, 3) := by decide +kernel
theorem d_OL_placeOf_34 : decode b_OL_placeOf 34 = .ok (.ireturn, 1) := by decide +kernel
theorem d_Li_placeInImage_0 : decode b_Li_placeInImage 0 = .ok (.aload_n 0, 1) := by decide +kernel
theorem d_Li_placeInImage_1 : decode b_Li_placeInImage 1 = .ok (.getfield 51, 3) := by decide +kernel
theorem d_Li_placeInImage_4 : decode b_Li_placeInImage 4 = .ok (.ifCond .eq 26, 3) := by decide +kernel
theorem d_Li_placeInImage_7 : decode b_Li_placeInImage 7 = .ok (.aload_n 0, 1) := by decide +kernel
theorem d_Li_placeInImage_8 : decode b_Li_placeInImage 8 = .ok (.getfield 28, 3) := by decide +kernel
theorem d_Li_placeInImage_11 : decode b_Li_placeInImage 11 = .ok (.iload_n 1, 1) := by decide +kernel
theorem d_Li_placeInImage_12 : decode b_Li_placeInImage 12 = .ok (.baload, 1) := by decide +kernel
theorem d_Li_placeInImage_13 : decode b_Li_placeInImage 13 = .ok (.ifCond .eq 17, 3) := by decide +kernel
theorem d_Li_placeInImage_16 : decode b_Li_placeInImage 16 = .ok (.aload_n 0, 1) := by decide +kernel
theorem d_Li_placeInImage_17 : decode b_Li_placeInImage 17 = .ok (.getfield 35, 3) := by decide +kernel
theorem d_Li_placeInImage_20 : decode b_Li_placeInImage 20 = .ok (.iload_n 1, 1) := by decide +kernel
theorem d_Li_placeInImage_21 : decode b_Li_placeInImage 21 = .ok (.iaload, 1) := by decide +kernel
theorem d_Li_placeInImage_22 : decode b_Li_placeInImage 22 = .ok (.aload_n 0, 1) := by decide +kernel
theorem d_Li_placeInImage_23 : decode b_Li_placeInImage 23 = .ok (.getfield 55, 3) := by decide +kernel
theorem d_Li_placeInImage_26 : decode b_Li_placeInImage 26 = .ok (.isub, 1) := by decide +kernel
theorem d_Li_placeInImage_27 : decode b_Li_placeInImage 27 = .ok (.goto 4, 3) := by decide +kernel
theorem d_Li_placeInImage_30 : decode b_Li_placeInImage 30 = .ok (.iconst (-1), 1) := by decide +kernel
theorem d_Li_placeInImage_31 : decode b_Li_placeInImage 31 = .ok (.ireturn, 1) := by decide +kernel
theorem d_OL_write_0 : decode b_OL_write 0 = .ok (.aload_n 0, 1) := by decide +kernel
theorem d_OL_write_1 : decode b_OL_write 1 = .ok (.getfield 25, 3) := by decide +kernel
theorem d_OL_write_4 : decode b_OL_write 4 = .ok (.aload_n 0, 1) := by decide +kernel
theorem d_OL_write_5 : decode b_OL_write 5 = .ok (.iload_n 1, 1) := by decide +kernel
theorem d_OL_write_6 : decode b_OL_write 6 = .ok (.invokevirtual 45, 3) := by decide +kernel
theorem d_OL_write_9 : decode b_OL_write 9 = .ok (.invokevirtual 191, 3) := by decide +kernel
theorem d_OL_write_12 : decode b_OL_write 12 = .ok (.aload_n 0, 1) := by decide +kernel
theorem d_OL_write_13 : decode b_OL_write 13 = .ok (.getfield 25, 3) := by decide +kernel
theorem d_OL_write_16 : decode b_OL_write 16 = .ok (.getfield 195, 3) := by decide +kernel
theorem d_OL_write_19 : decode b_OL_write 19 = .ok (.ireturn, 1) := by decide +kernel
theorem d_Oc_store_0 : decode b_Oc_store 0 = .ok (.aload_n 0, 1) := by decide +kernel
theorem d_Oc_store_1 : decode b_Oc_store 1 = .ok (.iconst 0, 1) := by decide +kernel
theorem d_Oc_store_2 : decode b_Oc_store 2 = .ok (.putfield 15, 3) := by decide +kernel
theorem d_Oc_store_5 : decode b_Oc_store 5 = .ok (.aload_n 0, 1) := by decide +kernel
theorem d_Oc_store_6 : decode b_Oc_store 6 = .ok (.sipush 20290, 3) := by decide +kernel
theorem d_Oc_store_9 : decode b_Oc_store 9 = .ok (.iconst 2, 1) := by decide +kernel
theorem d_Oc_store_10 : decode b_Oc_store 10 = .ok (.invokevirtual 19, 3) := by decide +kernel
theorem d_Oc_store_13 : decode b_Oc_store 13 = .ok (.aload_n 0, 1) := by decide +kernel
theorem d_Oc_store_14 : decode b_Oc_store 14 = .ok (.aload_n 1, 1) := by decide +kernel
theorem d_Oc_store_15 : decode b_Oc_store 15 = .ok (.getfield 23, 3) := by decide +kernel
theorem d_Oc_store_18 : decode b_Oc_store 18 = .ok (.iconst 1, 1) := by decide +kernel
theorem d_Oc_store_19 : decode b_Oc_store 19 = .ok (.invokevirtual 19, 3) := by decide +kernel
theorem d_Oc_store_22 : decode b_Oc_store 22 = .ok (.aload_n 0, 1) := by decide +kernel
theorem d_Oc_store_23 : decode b_Oc_store 23 = .ok (.aload_n 1, 1) := by decide +kernel
theorem d_Oc_store_24 : decode b_Oc_store 24 = .ok (.getfield 28, 3) := by decide +kernel
theorem d_Oc_store_27 : decode b_Oc_store 27 = .ok (.iconst 1, 1) := by decide +kernel
theorem d_Oc_store_28 : decode b_Oc_store 28 = .ok (.invokevirtual 19, 3) := by decide +kernel
theorem d_Oc_store_31 : decode b_Oc_store 31 = .ok (.aload_n 0, 1) := by decide +kernel
theorem d_Oc_store_32 : decode b_Oc_store 32 = .ok (.aload_n 1, 1) := by decide +kernel
theorem d_Oc_store_33 : decode b_Oc_store 33 = .ok (.getfield 31, 3) := by decide +kernel
theorem d_Oc_store_36 : decode b_Oc_store 36 = .ok (.iconst 1, 1) := by decide +kernel
theorem d_Oc_store_37 : decode b_Oc_store 37 = .ok (.invokevirtual 19, 3) := by decide +kernel
theorem d_Oc_store_40 : decode b_Oc_store 40 = .ok (.iconst 0, 1) := by decide +kernel
theorem d_Oc_store_41 : decode b_Oc_store 41 = .ok (.istore_n 2, 1) := by decide +kernel
theorem d_Oc_store_42 : decode b_Oc_store 42 = .ok (.iload_n 2, 1) := by decide +kernel
theorem d_Oc_store_43 : decode b_Oc_store 43 = .ok (.aload_n 1, 1) := by decide +kernel
theorem d_Oc_store_44 : decode b_Oc_store 44 = .ok (.getfield 23, 3) := by decide +kernel
theorem d_Oc_store_47 : decode b_Oc_store 47 = .ok (.if_icmp .ge 19, 3) := by decide +kernel
theorem d_Oc_store_50 : decode b_Oc_store 50 = .ok (.aload_n 0, 1) := by decide +kernel
theorem d_Oc_store_51 : decode b_Oc_store 51 = .ok (.aload_n 1, 1) := by decide +kernel
theorem d_Oc_store_52 : decode b_Oc_store 52 = .ok (.getfield 34, 3) := by decide +kernel
theorem d_Oc_store_55 : decode b_Oc_store 55 = .ok (.iload_n 2, 1) := by decide +kernel
theorem d_Oc_store_56 : decode b_Oc_store 56 = .ok (.aaload, 1) := by decide +kernel
theorem d_Oc_store_57 : decode b_Oc_store 57 = .ok (.invokevirtual 38, 3) := by decide +kernel
theorem d_Oc_store_60 : decode b_Oc_store 60 = .ok (.iinc 2 1, 3) := by decide +kernel
theorem d_Oc_store_63 : decode b_Oc_store 63 = .ok (.goto (-21), 3) := by decide +kernel
theorem d_Oc_store_66 : decode b_Oc_store 66 = .ok (.iconst 0, 1) := by decide +kernel
theorem d_Oc_store_67 : decode b_Oc_store 67 = .ok (.istore_n 2, 1) := by decide +kernel
theorem d_Oc_store_68 : decode b_Oc_store 68 = .ok (.iload_n 2, 1) := by decide +kernel
theorem d_Oc_store_69 : decode b_Oc_store 69 = .ok (.aload_n 1, 1) := by decide +kernel
theorem d_Oc_store_70 : decode b_Oc_store 70 = .ok (.getfield 28, 3) := by decide +kernel
theorem d_Oc_store_73 : decode b_Oc_store 73 = .ok (.if_icmp .ge 19, 3) := by decide +kernel
theorem d_Oc_store_76 : decode b_Oc_store 76 = .ok (.aload_n 0, 1) := by decide +kernel
theorem d_Oc_store_77 : decode b_Oc_store 77 = .ok (.aload_n 1, 1) := by decide +kernel
theorem d_Oc_store_78 : decode b_Oc_store 78 = .ok (.getfield 42, 3) := by decide +kernel
theorem d_Oc_store_81 : decode b_Oc_store 81 = .ok (.iload_n 2, 1) := by decide +kernel
theorem d_Oc_store_82 : decode b_Oc_store 82 = .ok (.aaload, 1) := by decide +kernel
theorem d_Oc_store_83 : decode b_Oc_store 83 = .ok (.invokevirtual 46, 3) := by decide +kernel
theorem d_Oc_store_86 : decode b_Oc_store 86 = .ok (.iinc 2 1, 3) := by decide +kernel
theorem d_Oc_store_89 : decode b_Oc_store 89 = .ok (.goto (-21), 3) := by decide +kernel
theorem d_Oc_store_92 : decode b_Oc_store 92 = .ok (.iconst 0, 1) := by decide +kernel
theorem d_Oc_store_93 : decode b_Oc_store 93 = .ok (.istore_n 2, 1) := by decide +kernel
theorem d_Oc_store_94 : decode b_Oc_store 94 = .ok (.iload_n 2, 1) := by decide +kernel
theorem d_Oc_store_95 : decode b_Oc_store 95 = .ok (.aload_n 1, 1) := by decide +kernel
theorem d_Oc_store_96 : decode b_Oc_store 96 = .ok (.getfield 31, 3) := by decide +kernel
theorem d_Oc_store_99 : decode b_Oc_store 99 = .ok (.if_icmp .ge 19, 3) := by decide +kernel
theorem d_Oc_store_102 : decode b_Oc_store 102 = .ok (.aload_n 0, 1) := by decide +kernel
theorem d_Oc_store_103 : decode b_Oc_store 103 = .ok (.aload_n 1, 1) := by decide +kernel
theorem d_Oc_store_104 : decode b_Oc_store 104 = .ok (.getfield 50, 3) := by decide +kernel
theorem d_Oc_store_107 : decode b_Oc_store 107 = .ok (.iload_n 2, 1) := by decide +kernel
theorem d_Oc_store_108 : decode b_Oc_store 108 = .ok (.aaload, 1) := by decide +kernel
theorem d_Oc_store_109 : decode b_Oc_store 109 = .ok (.invokevirtual 54, 3) := by decide +kernel
theorem d_Oc_store_112 : decode b_Oc_store 112 = .ok (.iinc 2 1, 3) := by decide +kernel
theorem d_Oc_store_115 : decode b_Oc_store 115 = .ok (.goto (-21), 3) := by decide +kernel
theorem d_Oc_store_118 : decode b_Oc_store 118 = .ok (.aload_n 0, 1) := by decide +kernel
theorem d_Oc_store_119 : decode b_Oc_store 119 = .ok (.aload_n 0, 1) := by decide +kernel
theorem d_Oc_store_120 : decode b_Oc_store 120 = .ok (.getfield 9, 3) := by decide +kernel
theorem d_Oc_store_123 : decode b_Oc_store 123 = .ok (.aload_n 0, 1) := by decide +kernel
theorem d_Oc_store_124 : decode b_Oc_store 124 = .ok (.getfield 15, 3) := by decide +kernel
theorem d_Oc_store_127 : decode b_Oc_store 127 = .ok (.invokestatic 58, 3) := by decide +kernel
theorem d_Oc_store_130 : decode b_Oc_store 130 = .ok (.iconst 2, 1) := by decide +kernel
theorem d_Oc_store_131 : decode b_Oc_store 131 = .ok (.invokevirtual 19, 3) := by decide +kernel
theorem d_Oc_store_134 : decode b_Oc_store 134 = .ok (.return_, 1) := by decide +kernel
theorem d_Oc_put_0 : decode b_Oc_put 0 = .ok (.iload_n 2, 1) := by decide +kernel
theorem d_Oc_put_1 : decode b_Oc_put 1 = .ok (.iconst 1, 1) := by decide +kernel
theorem d_Oc_put_2 : decode b_Oc_put 2 = .ok (.isub, 1) := by decide +kernel
theorem d_Oc_put_3 : decode b_Oc_put 3 = .ok (.istore_n 3, 1) := by decide +kernel
theorem d_Oc_put_4 : decode b_Oc_put 4 = .ok (.iload_n 3, 1) := by decide +kernel
theorem d_Oc_put_5 : decode b_Oc_put 5 = .ok (.ifCond .lt 50, 3) := by decide +kernel
theorem d_Oc_put_8 : decode b_Oc_put 8 = .ok (.aload_n 0, 1) := by decide +kernel
theorem d_Oc_put_9 : decode b_Oc_put 9 = .ok (.getfield 15, 3) := by decide +kernel
theorem d_Oc_put_12 : decode b_Oc_put 12 = .ok (.aload_n 0, 1) := by decide +kernel
theorem d_Oc_put_13 : decode b_Oc_put 13 = .ok (.getfield 9, 3) := by decide +kernel
theorem d_Oc_put_16 : decode b_Oc_put 16 = .ok (.arraylength, 1) := by decide +kernel
theorem d_Oc_put_17 : decode b_Oc_put 17 = .ok (.if_icmp .ge 38, 3) := by decide +kernel
theorem d_Oc_put_20 : decode b_Oc_put 20 = .ok (.aload_n 0, 1) := by decide +kernel
theorem d_Oc_put_21 : decode b_Oc_put 21 = .ok (.getfield 9, 3) := by decide +kernel
theorem d_Oc_put_24 : decode b_Oc_put 24 = .ok (.aload_n 0, 1) := by decide +kernel
theorem d_Oc_put_25 : decode b_Oc_put 25 = .ok (.getfield 15, 3) := by decide +kernel
theorem d_Oc_put_28 : decode b_Oc_put 28 = .ok (.iload_n 1, 1) := by decide +kernel
theorem d_Oc_put_29 : decode b_Oc_put 29 = .ok (.bipush 8, 2) := by decide +kernel
theorem d_Oc_put_31 : decode b_Oc_put 31 = .ok (.iload_n 3, 1) := by decide +kernel
theorem d_Oc_put_32 : decode b_Oc_put 32 = .ok (.imul, 1) := by decide +kernel
theorem d_Oc_put_33 : decode b_Oc_put 33 = .ok (.iushr, 1) := by decide +kernel
theorem d_Oc_put_34 : decode b_Oc_put 34 = .ok (.sipush 255, 3) := by decide +kernel
theorem d_Oc_put_37 : decode b_Oc_put 37 = .ok (.iand, 1) := by decide +kernel
theorem d_Oc_put_38 : decode b_Oc_put 38 = .ok (.iastore, 1) := by decide +kernel
theorem d_Oc_put_39 : decode b_Oc_put 39 = .ok (.aload_n 0, 1) := by decide +kernel
theorem d_Oc_put_40 : decode b_Oc_put 40 = .ok (.dup, 1) := by decide +kernel
theorem d_Oc_put_41 : decode b_Oc_put 41 = .ok (.getfield 15, 3) := by decide +kernel
theorem d_Oc_put_44 : decode b_Oc_put 44 = .ok (.iconst 1, 1) := by decide +kernel
theorem d_Oc_put_45 : decode b_Oc_put 45 = .ok (.iadd, 1) := by decide +kernel
theorem d_Oc_put_46 : decode b_Oc_put 46 = .ok (.putfield 15, 3) := by decide +kernel
theorem d_Oc_put_49 : decode b_Oc_put 49 = .ok (.iinc 3 (-1), 3) := by decide +kernel
theorem d_Oc_put_52 : decode b_Oc_put 52 = .ok (.goto (-48), 3) := by decide +kernel
theorem d_Oc_put_55 : decode b_Oc_put 55 = .ok (.return_, 1) := by decide +kernel
theorem d_Oc_putSection_0 : decode b_Oc_putSection 0 = .ok (.aload_n 0, 1) := by decide +kernel
theorem d_Oc_putSection_1 : decode b_Oc_putSection 1 = .ok (.aload_n 1, 1) := by decide +kernel
theorem d_Oc_putSection_2 : decode b_Oc_putSection 2 = .ok (.getfield 62, 3) := by decide +kernel
theorem d_Oc_putSection_5 : decode b_Oc_putSection 5 = .ok (.iconst 1, 1) := by decide +kernel
theorem d_Oc_putSection_6 : decode b_Oc_putSection 6 = .ok (.invokevirtual 19, 3) := by decide +kernel
theorem d_Oc_putSection_9 : decode b_Oc_putSection 9 = .ok (.aload_n 0, 1) := by decide +kernel
theorem d_Oc_putSection_10 : decode b_Oc_putSection 10 = .ok (.aload_n 1, 1) := by decide +kernel
theorem d_Oc_putSection_11 : decode b_Oc_putSection 11 = .ok (.getfield 67, 3) := by decide +kernel
theorem d_Oc_putSection_14 : decode b_Oc_putSection 14 = .ok (.iconst 1, 1) := by decide +kernel
theorem d_Oc_putSection_15 : decode b_Oc_putSection 15 = .ok (.invokevirtual 19, 3) := by decide +kernel
theorem d_Oc_putSection_18 : decode b_Oc_putSection 18 = .ok (.aload_n 0, 1) := by decide +kernel
theorem d_Oc_putSection_19 : decode b_Oc_putSection 19 = .ok (.aload_n 1, 1) := by decide +kernel
theorem d_Oc_putSection_20 : decode b_Oc_putSection 20 = .ok (.getfield 70, 3) := by decide +kernel
theorem d_Oc_putSection_23 : decode b_Oc_putSection 23 = .ok (.iconst 2, 1) := by decide +kernel
theorem d_Oc_putSection_24 : decode b_Oc_putSection 24 = .ok (.invokevirtual 19, 3) := by decide +kernel
theorem d_Oc_putSection_27 : decode b_Oc_putSection 27 = .ok (.iconst 0, 1) := by decide +kernel
theorem d_Oc_putSection_28 : decode b_Oc_putSection 28 = .ok (.istore_n 2, 1) := by decide +kernel
theorem d_Oc_putSection_29 : decode b_Oc_putSection 29 = .ok (.iload_n 2, 1) := by decide +kernel
theorem d_Oc_putSection_30 : decode b_Oc_putSection 30 = .ok (.aload_n 1, 1) := by decide +kernel
theorem d_Oc_putSection_31 : decode b_Oc_putSection 31 = .ok (.getfield 71, 3) := by decide +kernel
theorem d_Oc_putSection_34 : decode b_Oc_putSection 34 = .ok (.arraylength, 1) := by decide +kernel
theorem d_Oc_putSection_35 : decode b_Oc_putSection 35 = .ok (.if_icmp .ge 20, 3) := by decide +kernel
theorem d_Oc_putSection_38 : decode b_Oc_putSection 38 = .ok (.aload_n 0, 1) := by decide +kernel
theorem d_Oc_putSection_39 : decode b_Oc_putSection 39 = .ok (.aload_n 1, 1) := by decide +kernel
theorem d_Oc_putSection_40 : decode b_Oc_putSection 40 = .ok (.getfield 71, 3) := by decide +kernel
theorem d_Oc_putSection_43 : decode b_Oc_putSection 43 = .ok (.iload_n 2, 1) := by decide +kernel
theorem d_Oc_putSection_44 : decode b_Oc_putSection 44 = .ok (.iaload, 1) := by decide +kernel
theorem d_Oc_putSection_45 : decode b_Oc_putSection 45 = .ok (.iconst 1, 1) := by decide +kernel
theorem d_Oc_putSection_46 : decode b_Oc_putSection 46 = .ok (.invokevirtual 19, 3) := by decide +kernel
theorem d_Oc_putSection_49 : decode b_Oc_putSection 49 = .ok (.iinc 2 1, 3) := by decide +kernel
theorem d_Oc_putSection_52 : decode b_Oc_putSection 52 = .ok (.goto (-23), 3) := by decide +kernel
theorem d_Oc_putSection_55 : decode b_Oc_putSection 55 = .ok (.return_, 1) := by decide +kernel
theorem d_Oc_putName_0 : decode b_Oc_putName 0 = .ok (.aload_n 0, 1) := by decide +kernel
theorem d_Oc_putName_1 : decode b_Oc_putName 1 = .ok (.aload_n 1, 1) := by decide +kernel
theorem d_Oc_putName_2 : decode b_Oc_putName 2 = .ok (.getfield 74, 3) := by decide +kernel
theorem d_Oc_putName_5 : decode b_Oc_putName 5 = .ok (.iconst 4, 1) := by decide +kernel
theorem d_Oc_putName_6 : decode b_Oc_putName 6 = .ok (.invokevirtual 19, 3) := by decide +kernel
theorem d_Oc_putName_9 : decode b_Oc_putName 9 = .ok (.aload_n 0, 1) := by decide +kernel
theorem d_Oc_putName_10 : decode b_Oc_putName 10 = .ok (.aload_n 1, 1) := by decide +kernel
theorem d_Oc_putName_11 : decode b_Oc_putName 11 = .ok (.getfield 79, 3) := by decide +kernel
theorem d_Oc_putName_14 : decode b_Oc_putName 14 = .ok (.iconst 1, 1) := by decide +kernel
theorem d_Oc_putName_15 : decode b_Oc_putName 15 = .ok (.invokevirtual 19, 3) := by decide +kernel
theorem d_Oc_putName_18 : decode b_Oc_putName 18 = .ok (.aload_n 0, 1) := by decide +kernel
theorem d_Oc_putName_19 : decode b_Oc_putName 19 = .ok (.aload_n 1, 1) := by decide +kernel
theorem d_Oc_putName_20 : decode b_Oc_putName 20 = .ok (.getfield 82, 3) := by decide +kernel
theorem d_Oc_putName_23 : decode b_Oc_putName 23 = .ok (.iconst 1, 1) := by decide +kernel
theorem d_Oc_putName_24 : decode b_Oc_putName 24 = .ok (.invokevirtual 19, 3) := by decide +kernel
theorem d_Oc_putName_27 : decode b_Oc_putName 27 = .ok (.aload_n 0, 1) := by decide +kernel
theorem d_Oc_putName_28 : decode b_Oc_putName 28 = .ok (.aload_n 1, 1) := by decide +kernel
theorem d_Oc_putName_29 : decode b_Oc_putName 29 = .ok (.getfield 85, 3) := by decide +kernel
theorem d_Oc_putName_32 : decode b_Oc_putName 32 = .ok (.iconst 2, 1) := by decide +kernel
theorem d_Oc_putName_33 : decode b_Oc_putName 33 = .ok (.invokevirtual 19, 3) := by decide +kernel
theorem d_Oc_putName_36 : decode b_Oc_putName 36 = .ok (.return_, 1) := by decide +kernel
theorem d_Oc_putReference_0 : decode b_Oc_putReference 0 = .ok (.aload_n 0, 1) := by decide +kernel
theorem d_Oc_putReference_1 : decode b_Oc_putReference 1 = .ok (.aload_n 1, 1) := by decide +kernel
theorem d_Oc_putReference_2 : decode b_Oc_putReference 2 = .ok (.getfield 88, 3) := by decide +kernel
theorem d_Oc_putReference_5 : decode b_Oc_putReference 5 = .ok (.iconst 1, 1) := by decide +kernel
theorem d_Oc_putReference_6 : decode b_Oc_putReference 6 = .ok (.invokevirtual 19, 3) := by decide +kernel
theorem d_Oc_putReference_9 : decode b_Oc_putReference 9 = .ok (.aload_n 0, 1) := by decide +kernel
theorem d_Oc_putReference_10 : decode b_Oc_putReference 10 = .ok (.aload_n 1, 1) := by decide +kernel
theorem d_Oc_putReference_11 : decode b_Oc_putReference 11 = .ok (.getfield 91, 3) := by decide +kernel
theorem d_Oc_putReference_14 : decode b_Oc_putReference 14 = .ok (.iconst 2, 1) := by decide +kernel
theorem d_Oc_putReference_15 : decode b_Oc_putReference 15 = .ok (.invokevirtual 19, 3) := by decide +kernel
theorem d_Oc_putReference_18 : decode b_Oc_putReference 18 = .ok (.aload_n 0, 1) := by decide +kernel
theorem d_Oc_putReference_19 : decode b_Oc_putReference 19 = .ok (.aload_n 1, 1) := by decide +kernel
theorem d_Oc_putReference_20 : decode b_Oc_putReference 20 = .ok (.getfield 92, 3) := by decide +kernel
theorem d_Oc_putReference_23 : decode b_Oc_putReference 23 = .ok (.iconst 1, 1) := by decide +kernel
theorem d_Oc_putReference_24 : decode b_Oc_putReference 24 = .ok (.invokevirtual 19, 3) := by decide +kernel
theorem d_Oc_putReference_27 : decode b_Oc_putReference 27 = .ok (.aload_n 0, 1) := by decide +kernel
theorem d_Oc_putReference_28 : decode b_Oc_putReference 28 = .ok (.aload_n 1, 1) := by decide +kernel
theorem d_Oc_putReference_29 : decode b_Oc_putReference 29 = .ok (.getfield 95, 3) := by decide +kernel
theorem d_Oc_putReference_32 : decode b_Oc_putReference 32 = .ok (.iconst 1, 1) := by decide +kernel
theorem d_Oc_putReference_33 : decode b_Oc_putReference 33 = .ok (.invokevirtual 19, 3) := by decide +kernel
theorem d_Oc_putReference_36 : decode b_Oc_putReference 36 = .ok (.aload_n 0, 1) := by decide +kernel
theorem d_Oc_putReference_37 : decode b_Oc_putReference 37 = .ok (.aload_n 1, 1) := by decide +kernel
theorem d_Oc_putReference_38 : decode b_Oc_putReference 38 = .ok (.getfield 98, 3) := by decide +kernel
theorem d_Oc_putReference_41 : decode b_Oc_putReference 41 = .ok (.iconst 4, 1) := by decide +kernel
theorem d_Oc_putReference_42 : decode b_Oc_putReference 42 = .ok (.invokevirtual 19, 3) := by decide +kernel
theorem d_Oc_putReference_45 : decode b_Oc_putReference 45 = .ok (.return_, 1) := by decide +kernel
theorem d_Oc_sumOf_0 : decode b_Oc_sumOf 0 = .ok (.iconst 0, 1) := by decide +kernel
theorem d_Oc_sumOf_1 : decode b_Oc_sumOf 1 = .ok (.istore_n 2, 1) := by decide +kernel
theorem d_Oc_sumOf_2 : decode b_Oc_sumOf 2 = .ok (.iconst 0, 1) := by decide +kernel
theorem d_Oc_sumOf_3 : decode b_Oc_sumOf 3 = .ok (.istore_n 3, 1) := by decide +kernel
theorem d_Oc_sumOf_4 : decode b_Oc_sumOf 4 = .ok (.iload_n 3, 1) := by decide +kernel
theorem d_Oc_sumOf_5 : decode b_Oc_sumOf 5 = .ok (.iload_n 1, 1) := by decide +kernel
theorem d_Oc_sumOf_6 : decode b_Oc_sumOf 6 = .ok (.if_icmp .ge 19, 3) := by decide +kernel
theorem d_Oc_sumOf_9 : decode b_Oc_sumOf 9 = .ok (.iload_n 2, 1) := by decide +kernel
theorem d_Oc_sumOf_10 : decode b_Oc_sumOf 10 = .ok (.aload_n 0, 1) := by decide +kernel
theorem d_Oc_sumOf_11 : decode b_Oc_sumOf 11 = .ok (.iload_n 3, 1) := by decide +kernel
theorem d_Oc_sumOf_12 : decode b_Oc_sumOf 12 = .ok (.iaload, 1) := by decide +kernel
theorem d_Oc_sumOf_13 : decode b_Oc_sumOf 13 = .ok (.iload_n 3, 1) := by decide +kernel
theorem d_Oc_sumOf_14 : decode b_Oc_sumOf 14 = .ok (.iconst 1, 1) := by decide +kernel
theorem d_Oc_sumOf_15 : decode b_Oc_sumOf 15 = .ok (.iadd, 1) := by decide +kernel
theorem d_Oc_sumOf_16 : decode b_Oc_sumOf 16 = .ok (.imul, 1) := by decide +kernel
theorem d_Oc_sumOf_17 : decode b_Oc_sumOf 17 = .ok (.iadd, 1) := by decide +kernel
theorem d_Oc_sumOf_18 : decode b_Oc_sumOf 18 = .ok (.istore_n 2, 1) := by decide +kernel
theorem d_Oc_sumOf_19 : decode b_Oc_sumOf 19 = .ok (.iinc 3 1, 3) := by decide +kernel
theorem d_Oc_sumOf_22 : decode b_Oc_sumOf 22 = .ok (.goto (-18), 3) := by decide +kernel
theorem d_Oc_sumOf_25 : decode b_Oc_sumOf 25 = .ok (.iload_n 2, 1) := by decide +kernel
theorem d_Oc_sumOf_26 : decode b_Oc_sumOf 26 = .ok (.ldc 101, 2) := by decide +kernel
theorem d_Oc_sumOf_28 : decode b_Oc_sumOf 28 = .ok (.iand, 1) := by decide +kernel
theorem d_Oc_sumOf_29 : decode b_Oc_sumOf 29 = .ok (.ireturn, 1) := by decide +kernel
theorem d_OL_written_0 : decode b_OL_written 0 = .ok (.iload_n 1, 1) := by decide +kernel
theorem d_OL_written_1 : decode b_OL_written 1 = .ok (.ifCond .lt 14, 3) := by decide +kernel
theorem d_OL_written_4 : decode b_OL_written 4 = .ok (.iload_n 1, 1) := by decide +kernel
theorem d_OL_written_5 : decode b_OL_written 5 = .ok (.aload_n 0, 1) := by decide +kernel
theorem d_OL_written_6 : decode b_OL_written 6 = .ok (.getfield 25, 3) := by decide +kernel
theorem d_OL_written_9 : decode b_OL_written 9 = .ok (.getfield 195, 3) := by decide +kernel
theorem d_OL_written_12 : decode b_OL_written 12 = .ok (.if_icmp .lt 13, 3) := by decide +kernel
theorem d_OL_written_15 : decode b_OL_written 15 = .ok (.new 169, 3) := by decide +kernel
theorem d_OL_written_18 : decode b_OL_written 18 = .ok (.dup, 1) := by decide +kernel
theorem d_OL_written_19 : decode b_OL_written 19 = .ok (.ldc 196, 2) := by decide +kernel
theorem d_OL_written_21 : decode b_OL_written 21 = .ok (.invokespecial 173, 3) := by decide +kernel
theorem d_OL_written_24 : decode b_OL_written 24 = .ok (.athrow, 1) := by decide +kernel
theorem d_OL_written_25 : decode b_OL_written 25 = .ok (.aload_n 0, 1) := by decide +kernel
theorem d_OL_written_26 : decode b_OL_written 26 = .ok (.getfield 25, 3) := by decide +kernel
theorem d_OL_written_29 : decode b_OL_written 29 = .ok (.getfield 198, 3) := by decide +kernel
theorem d_OL_written_32 : decode b_OL_written 32 = .ok (.iload_n 1, 1) := by decide +kernel
theorem d_OL_written_33 : decode b_OL_written 33 = .ok (.iaload, 1) := by decide +kernel
theorem d_OL_written_34 : decode b_OL_written 34 = .ok (.ireturn, 1) := by decide +kernel
theorem d_OL_alter_0 : decode b_OL_alter 0 = .ok (.iload_n 1, 1) := by decide +kernel
theorem d_OL_alter_1 : decode b_OL_alter 1 = .ok (.ifCond .lt 14, 3) := by decide +kernel
theorem d_OL_alter_4 : decode b_OL_alter 4 = .ok (.iload_n 1, 1) := by decide +kernel
theorem d_OL_alter_5 : decode b_OL_alter 5 = .ok (.aload_n 0, 1) := by decide +kernel
theorem d_OL_alter_6 : decode b_OL_alter 6 = .ok (.getfield 25, 3) := by decide +kernel
theorem d_OL_alter_9 : decode b_OL_alter 9 = .ok (.getfield 195, 3) := by decide +kernel
theorem d_OL_alter_12 : decode b_OL_alter 12 = .ok (.if_icmp .lt 13, 3) := by decide +kernel
theorem d_OL_alter_15 : decode b_OL_alter 15 = .ok (.new 169, 3) := by decide +kernel
theorem d_OL_alter_18 : decode b_OL_alter 18 = .ok (.dup, 1) := by decide +kernel
theorem d_OL_alter_19 : decode b_OL_alter 19 = .ok (.ldc 196, 2) := by decide +kernel
theorem d_OL_alter_21 : decode b_OL_alter 21 = .ok (.invokespecial 173, 3) := by decide +kernel
theorem d_OL_alter_24 : decode b_OL_alter 24 = .ok (.athrow, 1) := by decide +kernel
theorem d_OL_alter_25 : decode b_OL_alter 25 = .ok (.iload_n 2, 1) := by decide +kernel
theorem d_OL_alter_26 : decode b_OL_alter 26 = .ok (.ifCond .lt 10, 3) := by decide +kernel
theorem d_OL_alter_29 : decode b_OL_alter 29 = .ok (.iload_n 2, 1) := by decide +kernel
theorem d_OL_alter_30 : decode b_OL_alter 30 = .ok (.sipush 255, 3) := by decide +kernel
theorem d_OL_alter_33 : decode b_OL_alter 33 = .ok (.if_icmp .le 13, 3) := by decide +kernel
theorem d_OL_alter_36 : decode b_OL_alter 36 = .ok (.new 55, 3) := by decide +kernel
theorem d_OL_alter_39 : decode b_OL_alter 39 = .ok (.dup, 1) := by decide +kernel
theorem d_OL_alter_40 : decode b_OL_alter 40 = .ok (.ldc 201, 2) := by decide +kernel
theorem d_OL_alter_42 : decode b_OL_alter 42 = .ok (.invokespecial 59, 3) := by decide +kernel
theorem d_OL_alter_45 : decode b_OL_alter 45 = .ok (.athrow, 1) := by decide +kernel
theorem d_OL_alter_46 : decode b_OL_alter 46 = .ok (.aload_n 0, 1) := by decide +kernel
theorem d_OL_alter_47 : decode b_OL_alter 47 = .ok (.getfield 25, 3) := by decide +kernel
theorem d_OL_alter_50 : decode b_OL_alter 50 = .ok (.getfield 198, 3) := by decide +kernel
theorem d_OL_alter_53 : decode b_OL_alter 53 = .ok (.iload_n 1, 1) := by decide +kernel
theorem d_OL_alter_54 : decode b_OL_alter 54 = .ok (.iaload, 1) := by decide +kernel
theorem d_OL_alter_55 : decode b_OL_alter 55 = .ok (.istore_n 3, 1) := by decide +kernel
theorem d_OL_alter_56 : decode b_OL_alter 56 = .ok (.aload_n 0, 1) := by decide +kernel
theorem d_OL_alter_57 : decode b_OL_alter 57 = .ok (.getfield 25, 3) := by decide +kernel
theorem d_OL_alter_60 : decode b_OL_alter 60 = .ok (.getfield 198, 3) := by decide +kernel
theorem d_OL_alter_63 : decode b_OL_alter 63 = .ok (.iload_n 1, 1) := by decide +kernel
theorem d_OL_alter_64 : decode b_OL_alter 64 = .ok (.iload_n 2, 1) := by decide +kernel
theorem d_OL_alter_65 : decode b_OL_alter 65 = .ok (.iastore, 1) := by decide +kernel
theorem d_OL_alter_66 : decode b_OL_alter 66 = .ok (.iload_n 3, 1) := by decide +kernel
theorem d_OL_alter_67 : decode b_OL_alter 67 = .ok (.ireturn, 1) := by decide +kernel
theorem d_OL_read_0 : decode b_OL_read 0 = .ok (.iload_n 1, 1) := by decide +kernel
theorem d_OL_read_1 : decode b_OL_read 1 = .ok (.ifCond .lt 14, 3) := by decide +kernel
theorem d_OL_read_4 : decode b_OL_read 4 = .ok (.iload_n 1, 1) := by decide +kernel
theorem d_OL_read_5 : decode b_OL_read 5 = .ok (.aload_n 0, 1) := by decide +kernel
theorem d_OL_read_6 : decode b_OL_read 6 = .ok (.getfield 25, 3) := by decide +kernel
theorem d_OL_read_9 : decode b_OL_read 9 = .ok (.getfield 195, 3) := by decide +kernel
theorem d_OL_read_12 : decode b_OL_read 12 = .ok (.if_icmp .le 13, 3) := by decide +kernel
theorem d_OL_read_15 : decode b_OL_read 15 = .ok (.new 55, 3) := by decide +kernel
theorem d_OL_read_18 : decode b_OL_read 18 = .ok (.dup, 1) := by decide +kernel
theorem d_OL_read_19 : decode b_OL_read 19 = .ok (.ldc 203, 2) := by decide +kernel
theorem d_OL_read_21 : decode b_OL_read 21 = .ok (.invokespecial 59, 3) := by decide +kernel
theorem d_OL_read_24 : decode b_OL_read 24 = .ok (.athrow, 1) := by decide +kernel
theorem d_OL_read_25 : decode b_OL_read 25 = .ok (.new 205, 3) := by decide +kernel
theorem d_OL_read_28 : decode b_OL_read 28 = .ok (.dup, 1) := by decide +kernel
theorem d_OL_read_29 : decode b_OL_read 29 = .ok (.aload_n 0, 1) := by decide +kernel
theorem d_OL_read_30 : decode b_OL_read 30 = .ok (.getfield 25, 3) := by decide +kernel
theorem d_OL_read_33 : decode b_OL_read 33 = .ok (.getfield 198, 3) := by decide +kernel
theorem d_OL_read_36 : decode b_OL_read 36 = .ok (.aload_n 0, 1) := by decide +kernel
theorem d_OL_read_37 : decode b_OL_read 37 = .ok (.getfield 25, 3) := by decide +kernel
theorem d_OL_read_40 : decode b_OL_read 40 = .ok (.getfield 195, 3) := by decide +kernel
theorem d_OL_read_43 : decode b_OL_read 43 = .ok (.iload_n 1, 1) := by decide +kernel
theorem d_OL_read_44 : decode b_OL_read 44 = .ok (.isub, 1) := by decide +kernel
theorem d_OL_read_45 : decode b_OL_read 45 = .ok (.invokespecial 207, 3) := by decide +kernel
theorem d_OL_read_48 : decode b_OL_read 48 = .ok (.invokevirtual 210, 3) := by decide +kernel
theorem d_OL_read_51 : decode b_OL_read 51 = .ok (.astore_n 2, 1) := by decide +kernel
theorem d_OL_read_52 : decode b_OL_read 52 = .ok (.aload_n 2, 1) := by decide +kernel
theorem d_OL_read_53 : decode b_OL_read 53 = .ok (.ifnonnull 13, 3) := by decide +kernel
theorem d_OL_read_56 : decode b_OL_read 56 = .ok (.new 55, 3) := by decide +kernel
theorem d_OL_read_59 : decode b_OL_read 59 = .ok (.dup, 1) := by decide +kernel
theorem d_OL_read_60 : decode b_OL_read 60 = .ok (.ldc 214, 2) := by decide +kernel
theorem d_OL_read_62 : decode b_OL_read 62 = .ok (.invokespecial 59, 3) := by decide +kernel
theorem d_OL_read_65 : decode b_OL_read 65 = .ok (.athrow, 1) := by decide +kernel
theorem d_OL_read_66 : decode b_OL_read 66 = .ok (.aload_n 0, 1) := by decide +kernel
theorem d_OL_read_67 : decode b_OL_read 67 = .ok (.getfield 29, 3) := by decide +kernel
theorem d_OL_read_70 : decode b_OL_read 70 = .ok (.bipush 12, 2) := by decide +kernel
theorem d_OL_read_72 : decode b_OL_read 72 = .ok (.if_icmp .lt 13, 3) := by decide +kernel
theorem d_OL_read_75 : decode b_OL_read 75 = .ok (.new 33, 3) := by decide +kernel
theorem d_OL_read_78 : decode b_OL_read 78 = .ok (.dup, 1) := by decide +kernel
theorem d_OL_read_79 : decode b_OL_read 79 = .ok (.ldc 35, 2) := by decide +kernel
theorem d_OL_read_81 : decode b_OL_read 81 = .ok (.invokespecial 37, 3) := by decide +kernel
theorem d_OL_read_84 : decode b_OL_read 84 = .ok (.athrow, 1) := by decide +kernel
theorem d_OL_read_85 : decode b_OL_read 85 = .ok (.aload_n 0, 1) := by decide +kernel
theorem d_OL_read_86 : decode b_OL_read 86 = .ok (.aload_n 2, 1) := by decide +kernel
theorem d_OL_read_87 : decode b_OL_read 87 = .ok (.invokevirtual 41, 3) := by decide +kernel
theorem d_OL_read_90 : decode b_OL_read 90 = .ok (.ireturn, 1) := by decide +kernel
theorem d_Re_init_0 : decode b_Re_init 0 = .ok (.aload_n 0, 1) := by decide +kernel
theorem d_Re_init_1 : decode b_Re_init 1 = .ok (.invokespecial 3, 3) := by decide +kernel
theorem d_Re_init_4 : decode b_Re_init 4 = .ok (.aload_n 0, 1) := by decide +kernel
theorem d_Re_init_5 : decode b_Re_init 5 = .ok (.aload_n 1, 1) := by decide +kernel
theorem d_Re_init_6 : decode b_Re_init 6 = .ok (.putfield 9, 3) := by decide +kernel
theorem d_Re_init_9 : decode b_Re_init 9 = .ok (.aload_n 0, 1) := by decide +kernel
theorem d_Re_init_10 : decode b_Re_init 10 = .ok (.iload_n 2, 1) := by decide +kernel
theorem d_Re_init_11 : decode b_Re_init 11 = .ok (.putfield 15, 3) := by decide +kernel
theorem d_Re_init_14 : decode b_Re_init 14 = .ok (.return_, 1) := by decide +kernel
theorem d_Re_unitOrNull_0 : decode b_Re_unitOrNull 0 = .ok (.aload_n 0, 1) := by decide +kernel
theorem d_Re_unitOrNull_1 : decode b_Re_unitOrNull 1 = .ok (.getfield 15, 3) := by decide +kernel
theorem d_Re_unitOrNull_4 : decode b_Re_unitOrNull 4 = .ok (.bipush 7, 2) := by decide +kernel
theorem d_Re_unitOrNull_6 : decode b_Re_unitOrNull 6 = .ok (.if_icmp .lt 14, 3) := by decide +kernel
theorem d_Re_unitOrNull_9 : decode b_Re_unitOrNull 9 = .ok (.aload_n 0, 1) := by decide +kernel
theorem d_Re_unitOrNull_10 : decode b_Re_unitOrNull 10 = .ok (.iconst 2, 1) := by decide +kernel
theorem d_Re_unitOrNull_11 : decode b_Re_unitOrNull 11 = .ok (.invokevirtual 19, 3) := by decide +kernel
theorem d_Re_unitOrNull_14 : decode b_Re_unitOrNull 14 = .ok (.sipush 20290, 3) := by decide +kernel
theorem d_Re_unitOrNull_17 : decode b_Re_unitOrNull 17 = .ok (.if_icmp .eq 5, 3) := by decide +kernel
theorem d_Re_unitOrNull_20 : decode b_Re_unitOrNull 20 = .ok (.aconst_null, 1) := by decide +kernel
theorem d_Re_unitOrNull_21 : decode b_Re_unitOrNull 21 = .ok (.areturn, 1) := by decide +kernel
theorem d_Re_unitOrNull_22 : decode b_Re_unitOrNull 22 = .ok (.aload_n 0, 1) := by decide +kernel
theorem d_Re_unitOrNull_23 : decode b_Re_unitOrNull 23 = .ok (.iconst 1, 1) := by decide +kernel
theorem d_Re_unitOrNull_24 : decode b_Re_unitOrNull 24 = .ok (.invokevirtual 19, 3) := by decide +kernel
theorem d_Re_unitOrNull_27 : decode b_Re_unitOrNull 27 = .ok (.istore_n 1, 1) := by decide +kernel
theorem d_Re_unitOrNull_28 : decode b_Re_unitOrNull 28 = .ok (.aload_n 0, 1) := by decide +kernel
theorem d_Re_unitOrNull_29 : decode b_Re_unitOrNull 29 = .ok (.iconst 1, 1) := by decide +kernel
theorem d_Re_unitOrNull_30 : decode b_Re_unitOrNull 30 = .ok (.invokevirtual 19, 3) := by decide +kernel
theorem d_Re_unitOrNull_33 : decode b_Re_unitOrNull 33 = .ok (.istore_n 2, 1) := by decide +kernel
theorem d_Re_unitOrNull_34 : decode b_Re_unitOrNull 34 = .ok (.aload_n 0, 1) := by decide +kernel
theorem d_Re_unitOrNull_35 : decode b_Re_unitOrNull 35 = .ok (.iconst 1, 1) := by decide +kernel
theorem d_Re_unitOrNull_36 : decode b_Re_unitOrNull 36 = .ok (.invokevirtual 19, 3) := by decide +kernel
theorem d_Re_unitOrNull_39 : decode b_Re_unitOrNull 39 = .ok (.istore_n 3, 1) := by decide +kernel
theorem d_Re_unitOrNull_40 : decode b_Re_unitOrNull 40 = .ok (.iload_n 1, 1) := by decide +kernel
theorem d_Re_unitOrNull_41 : decode b_Re_unitOrNull 41 = .ok (.bipush 8, 2) := by decide +kernel
theorem d_Re_unitOrNull_43 : decode b_Re_unitOrNull 43 = .ok (.if_icmp .gt 15, 3) := by decide +kernel
theorem d_Re_unitOrNull_46 : decode b_Re_unitOrNull 46 = .ok (.iload_n 2, 1) := by decide +kernel
theorem d_Re_unitOrNull_47 : decode b_Re_unitOrNull 47 = .ok (.bipush 12, 2) := by decide +kernel
theorem d_Re_unitOrNull_49 : decode b_Re_unitOrNull 49 = .ok (.if_icmp .gt 9, 3) := by decide +kernel
theorem d_Re_unitOrNull_52 : decode b_Re_unitOrNull 52 = .ok (.iload_n 3, 1) := by decide +kernel
theorem d_Re_unitOrNull_53 : decode b_Re_unitOrNull 53 = .ok (.bipush 16, 2) := by decide +kernel
theorem d_Re_unitOrNull_55 : decode b_Re_unitOrNull 55 = .ok (.if_icmp .le 5, 3) := by decide +kernel
theorem d_Re_unitOrNull_58 : decode b_Re_unitOrNull 58 = .ok (.aconst_null, 1) := by decide +kernel
theorem d_Re_unitOrNull_59 : decode b_Re_unitOrNull 59 = .ok (.areturn, 1) := by decide +kernel
theorem d_Re_unitOrNull_60 : decode b_Re_unitOrNull 60 = .ok (.aload_n 0, 1) := by decide +kernel
theorem d_Re_unitOrNull_61 : decode b_Re_unitOrNull 61 = .ok (.invokevirtual 23, 3) := by decide +kernel
theorem d_Re_unitOrNull_64 : decode b_Re_unitOrNull 64 = .ok (.ifCond .ne 5, 3) := by decide +kernel
theorem d_Re_unitOrNull_67 : decode b_Re_unitOrNull 67 = .ok (.aconst_null, 1) := by decide +kernel
theorem d_Re_unitOrNull_68 : decode b_Re_unitOrNull 68 = .ok (.areturn, 1) := by decide +kernel
theorem d_Re_unitOrNull_69 : decode b_Re_unitOrNull 69 = .ok (.new 27, 3) := by decide +kernel
theorem d_Re_unitOrNull_72 : decode b_Re_unitOrNull 72 = .ok (.dup, 1) := by decide +kernel
theorem d_Re_unitOrNull_73 : decode b_Re_unitOrNull 73 = .ok (.invokespecial 29, 3) := by decide +kernel
theorem d_Re_unitOrNull_76 : decode b_Re_unitOrNull 76 = .ok (.astore 4, 2) := by decide +kernel
theorem d_Re_unitOrNull_78 : decode b_Re_unitOrNull 78 = .ok (.aload_n 0, 1) := by decide +kernel
theorem d_Re_unitOrNull_79 : decode b_Re_unitOrNull 79 = .ok (.aload 4, 2) := by decide +kernel
theorem d_Re_unitOrNull_81 : decode b_Re_unitOrNull 81 = .ok (.iload_n 1, 1) := by decide +kernel
theorem d_Re_unitOrNull_82 : decode b_Re_unitOrNull 82 = .ok (.invokevirtual 30, 3) := by decide +kernel
theorem d_Re_unitOrNull_85 : decode b_Re_unitOrNull 85 = .ok (.ifCond .eq 27, 3) := by decide +kernel
theorem d_Re_unitOrNull_88 : decode b_Re_unitOrNull 88 = .ok (.aload_n 0, 1) := by decide +kernel
theorem d_Re_unitOrNull_89 : decode b_Re_unitOrNull 89 = .ok (.aload 4, 2) := by decide +kernel
theorem d_Re_unitOrNull_91 : decode b_Re_unitOrNull 91 = .ok (.iload_n 2, 1) := by decide +kernel
theorem d_Re_unitOrNull_92 : decode b_Re_unitOrNull 92 = .ok (.invokevirtual 34, 3) := by decide +kernel
theorem d_Re_unitOrNull_95 : decode b_Re_unitOrNull 95 = .ok (.ifCond .eq 17, 3) := by decide +kernel
theorem d_Re_unitOrNull_98 : decode b_Re_unitOrNull 98 = .ok (.aload_n 0, 1) := by decide +kernel
theorem d_Re_unitOrNull_99 : decode b_Re_unitOrNull 99 = .ok (.aload 4, 2) := by decide +kernel
theorem d_Re_unitOrNull_101 : decode b_Re_unitOrNull 101 = .ok (.iload_n 3, 1) := by decide +kernel
theorem d_Re_unitOrNull_102 : decode b_Re_unitOrNull 102 = .ok (.invokevirtual 37, 3) := by decide +kernel
theorem d_Re_unitOrNull_105 : decode b_Re_unitOrNull 105 = .ok (.ifCond .eq 7, 3) := by decide +kernel
theorem d_Re_unitOrNull_108 : decode b_Re_unitOrNull 108 = .ok (.iconst 1, 1) := by decide +kernel
theorem d_Re_unitOrNull_109 : decode b_Re_unitOrNull 109 = .ok (.goto 4, 3) := by decide +kernel
theorem d_Re_unitOrNull_112 : decode b_Re_unitOrNull 112 = .ok (.iconst 0, 1) := by decide +kernel
theorem d_Re_unitOrNull_113 : decode b_Re_unitOrNull 113 = .ok (.istore 5, 2) := by decide +kernel
theorem d_Re_unitOrNull_115 : decode b_Re_unitOrNull 115 = .ok (.iload 5, 2) := by decide +kernel
theorem d_Re_unitOrNull_117 : decode b_Re_unitOrNull 117 = .ok (.ifCond .eq 21, 3) := by decide +kernel
theorem d_Re_unitOrNull_120 : decode b_Re_unitOrNull 120 = .ok (.aload_n 0, 1) := by decide +kernel
theorem d_Re_unitOrNull_121 : decode b_Re_unitOrNull 121 = .ok (.getfield 40, 3) := by decide +kernel
theorem d_Re_unitOrNull_124 : decode b_Re_unitOrNull 124 = .ok (.aload_n 0, 1) := by decide +kernel
theorem d_Re_unitOrNull_125 : decode b_Re_unitOrNull 125 = .ok (.getfield 15, 3) := by decide +kernel
theorem d_Re_unitOrNull_128 : decode b_Re_unitOrNull 128 = .ok (.iconst 2, 1) := by decide +kernel
theorem d_Re_unitOrNull_129 : decode b_Re_unitOrNull 129 = .ok (.isub, 1) := by decide +kernel
theorem d_Re_unitOrNull_130 : decode b_Re_unitOrNull 130 = .ok (.if_icmp .ne 8, 3) := by decide +kernel
theorem d_Re_unitOrNull_133 : decode b_Re_unitOrNull 133 = .ok (.aload 4, 2) := by decide +kernel
theorem d_Re_unitOrNull_135 : decode b_Re_unitOrNull 135 = .ok (.goto 4, 3) := by decide +kernel
theorem d_Re_unitOrNull_138 : decode b_Re_unitOrNull 138 = .ok (.aconst_null, 1) := by decide +kernel
theorem d_Re_unitOrNull_139 : decode b_Re_unitOrNull 139 = .ok (.areturn, 1) := by decide +kernel
theorem d_Re_take_0 : decode b_Re_take 0 = .ok (.iload_n 1, 1) := by decide +kernel
theorem d_Re_take_1 : decode b_Re_take 1 = .ok (.aload_n 0, 1) := by decide +kernel
theorem d_Re_take_2 : decode b_Re_take 2 = .ok (.getfield 15, 3) := by decide +kernel
theorem d_Re_take_5 : decode b_Re_take 5 = .ok (.iconst 2, 1) := by decide +kernel
theorem d_Re_take_6 : decode b_Re_take 6 = .ok (.isub, 1) := by decide +kernel
theorem d_Re_take_7 : decode b_Re_take 7 = .ok (.aload_n 0, 1) := by decide +kernel
theorem d_Re_take_8 : decode b_Re_take 8 = .ok (.getfield 40, 3) := by decide +kernel
theorem d_Re_take_11 : decode b_Re_take 11 = .ok (.isub, 1) := by decide +kernel
theorem d_Re_take_12 : decode b_Re_take 12 = .ok (.if_icmp .le 10, 3) := by decide +kernel
theorem d_Re_take_15 : decode b_Re_take 15 = .ok (.aload_n 0, 1) := by decide +kernel
theorem d_Re_take_16 : decode b_Re_take 16 = .ok (.iconst 1, 1) := by decide +kernel
theorem d_Re_take_17 : decode b_Re_take 17 = .ok (.putfield 49, 3) := by decide +kernel
theorem d_Re_take_20 : decode b_Re_take 20 = .ok (.iconst 0, 1) := by decide +kernel
theorem d_Re_take_21 : decode b_Re_take 21 = .ok (.ireturn, 1) := by decide +kernel
theorem d_Re_take_22 : decode b_Re_take 22 = .ok (.iconst 0, 1) := by decide +kernel
theorem d_Re_take_23 : decode b_Re_take 23 = .ok (.istore_n 2, 1) := by decide +kernel
theorem d_Re_take_24 : decode b_Re_take 24 = .ok (.iconst 0, 1) := by decide +kernel
theorem d_Re_take_25 : decode b_Re_take 25 = .ok (.istore_n 3, 1) := by decide +kernel
theorem d_Re_take_26 : decode b_Re_take 26 = .ok (.iload_n 3, 1) := by decide +kernel
theorem d_Re_take_27 : decode b_Re_take 27 = .ok (.iload_n 1, 1) := by decide +kernel
theorem d_Re_take_28 : decode b_Re_take 28 = .ok (.if_icmp .ge 34, 3) := by decide +kernel
theorem d_Re_take_31 : decode b_Re_take 31 = .ok (.iload_n 2, 1) := by decide +kernel
theorem d_Re_take_32 : decode b_Re_take 32 = .ok (.bipush 8, 2) := by decide +kernel
theorem d_Re_take_34 : decode b_Re_take 34 = .ok (.ishl, 1) := by decide +kernel
theorem d_Re_take_35 : decode b_Re_take 35 = .ok (.aload_n 0, 1) := by decide +kernel
theorem d_Re_take_36 : decode b_Re_take 36 = .ok (.getfield 9, 3) := by decide +kernel
theorem d_Re_take_39 : decode b_Re_take 39 = .ok (.aload_n 0, 1) := by decide +kernel
theorem d_Re_take_40 : decode b_Re_take 40 = .ok (.getfield 40, 3) := by decide +kernel
theorem d_Re_take_43 : decode b_Re_take 43 = .ok (.iaload, 1) := by decide +kernel
theorem d_Re_take_44 : decode b_Re_take 44 = .ok (.ior, 1) := by decide +kernel
theorem d_Re_take_45 : decode b_Re_take 45 = .ok (.istore_n 2, 1) := by decide +kernel
theorem d_Re_take_46 : decode b_Re_take 46 = .ok (.aload_n 0, 1) := by decide +kernel
theorem d_Re_take_47 : decode b_Re_take 47 = .ok (.dup, 1) := by decide +kernel
theorem d_Re_take_48 : decode b_Re_take 48 = .ok (.getfield 40, 3) := by decide +kernel
theorem d_Re_take_51 : decode b_Re_take 51 = .ok (.iconst 1, 1) := by decide +kernel
theorem d_Re_take_52 : decode b_Re_take 52 = .ok (.iadd, 1) := by decide +kernel
theorem d_Re_take_53 : decode b_Re_take 53 = .ok (.putfield 40, 3) := by decide +kernel
theorem d_Re_take_56 : decode b_Re_take 56 = .ok (.iinc 3 1, 3) := by decide +kernel
theorem d_Re_take_59 : decode b_Re_take 59 = .ok (.goto (-33), 3) := by decide +kernel
theorem d_Re_take_62 : decode b_Re_take 62 = .ok (.iload_n 2, 1) := by decide +kernel
theorem d_Re_take_63 : decode b_Re_take 63 = .ok (.ireturn, 1) := by decide +kernel
theorem d_Re_sumIsRight_0 : decode b_Re_sumIsRight 0 = .ok (.aload_n 0, 1) := by decide +kernel
theorem d_Re_sumIsRight_1 : decode b_Re_sumIsRight 1 = .ok (.getfield 9, 3) := by decide +kernel
theorem d_Re_sumIsRight_4 : decode b_Re_sumIsRight 4 = .ok (.aload_n 0, 1) := by decide +kernel
theorem d_Re_sumIsRight_5 : decode b_Re_sumIsRight 5 = .ok (.getfield 15, 3) := by decide +kernel
theorem d_Re_sumIsRight_8 : decode b_Re_sumIsRight 8 = .ok (.iconst 2, 1) := by decide +kernel
theorem d_Re_sumIsRight_9 : decode b_Re_sumIsRight 9 = .ok (.isub, 1) := by decide +kernel
theorem d_Re_sumIsRight_10 : decode b_Re_sumIsRight 10 = .ok (.iaload, 1) := by decide +kernel
theorem d_Re_sumIsRight_11 : decode b_Re_sumIsRight 11 = .ok (.sipush 256, 3) := by decide +kernel
theorem d_Re_sumIsRight_14 : decode b_Re_sumIsRight 14 = .ok (.imul, 1) := by decide +kernel
theorem d_Re_sumIsRight_15 : decode b_Re_sumIsRight 15 = .ok (.aload_n 0, 1) := by decide +kernel
theorem d_Re_sumIsRight_16 : decode b_Re_sumIsRight 16 = .ok (.getfield 9, 3) := by decide +kernel
theorem d_Re_sumIsRight_19 : decode b_Re_sumIsRight 19 = .ok (.aload_n 0, 1) := by decide +kernel
theorem d_Re_sumIsRight_20 : decode b_Re_sumIsRight 20 = .ok (.getfield 15, 3) := by decide +kernel
theorem d_Re_sumIsRight_23 : decode b_Re_sumIsRight 23 = .ok (.iconst 1, 1) := by decide +kernel
theorem d_Re_sumIsRight_24 : decode b_Re_sumIsRight 24 = .ok (.isub, 1) := by decide +kernel
theorem d_Re_sumIsRight_25 : decode b_Re_sumIsRight 25 = .ok (.iaload, 1) := by decide +kernel
theorem d_Re_sumIsRight_26 : decode b_Re_sumIsRight 26 = .ok (.iadd, 1) := by decide +kernel
theorem d_Re_sumIsRight_27 : decode b_Re_sumIsRight 27 = .ok (.istore_n 1, 1) := by decide +kernel
theorem d_Re_sumIsRight_28 : decode b_Re_sumIsRight 28 = .ok (.aload_n 0, 1) := by decide +kernel
theorem d_Re_sumIsRight_29 : decode b_Re_sumIsRight 29 = .ok (.getfield 9, 3) := by decide +kernel
theorem d_Re_sumIsRight_32 : decode b_Re_sumIsRight 32 = .ok (.aload_n 0, 1) := by decide +kernel
theorem d_Re_sumIsRight_33 : decode b_Re_sumIsRight 33 = .ok (.getfield 15, 3) := by decide +kernel
theorem d_Re_sumIsRight_36 : decode b_Re_sumIsRight 36 = .ok (.iconst 2, 1) := by decide +kernel
theorem d_Re_sumIsRight_37 : decode b_Re_sumIsRight 37 = .ok (.isub, 1) := by decide +kernel
theorem d_Re_sumIsRight_38 : decode b_Re_sumIsRight 38 = .ok (.invokestatic 43, 3) := by decide +kernel
theorem d_Re_sumIsRight_41 : decode b_Re_sumIsRight 41 = .ok (.iload_n 1, 1) := by decide +kernel
theorem d_Re_sumIsRight_42 : decode b_Re_sumIsRight 42 = .ok (.if_icmp .ne 7, 3) := by decide +kernel
theorem d_Re_sumIsRight_45 : decode b_Re_sumIsRight 45 = .ok (.iconst 1, 1) := by decide +kernel
theorem d_Re_sumIsRight_46 : decode b_Re_sumIsRight 46 = .ok (.goto 4, 3) := by decide +kernel
theorem d_Re_sumIsRight_49 : decode b_Re_sumIsRight 49 = .ok (.iconst 0, 1) := by decide +kernel
theorem d_Re_sumIsRight_50 : decode b_Re_sumIsRight 50 = .ok (.ireturn, 1) := by decide +kernel
theorem d_Re_takeSections_0 : decode b_Re_takeSections 0 = .ok (.iconst 0, 1) := by decide +kernel
theorem d_Re_takeSections_1 : decode b_Re_takeSections 1 = .ok (.istore_n 3, 1) := by decide +kernel
theorem d_Re_takeSections_2 : decode b_Re_takeSections 2 = .ok (.iload_n 3, 1) := by decide +kernel
theorem d_Re_takeSections_3 : decode b_Re_takeSections 3 = .ok (.iload_n 2, 1) := by decide +kernel
theorem d_Re_takeSections_4 : decode b_Re_takeSections 4 = .ok (.if_icmp .ge 106, 3) := by decide +kernel
theorem d_Re_takeSections_7 : decode b_Re_takeSections 7 = .ok (.aload_n 0, 1) := by decide +kernel
theorem d_Re_takeSections_8 : decode b_Re_takeSections 8 = .ok (.iconst 1, 1) := by decide +kernel
theorem d_Re_takeSections_9 : decode b_Re_takeSections 9 = .ok (.invokevirtual 19, 3) := by decide +kernel
theorem d_Re_takeSections_12 : decode b_Re_takeSections 12 = .ok (.istore 4, 2) := by decide +kernel
theorem d_Re_takeSections_14 : decode b_Re_takeSections 14 = .ok (.aload_n 0, 1) := by decide +kernel
theorem d_Re_takeSections_15 : decode b_Re_takeSections 15 = .ok (.iconst 1, 1) := by decide +kernel
theorem d_Re_takeSections_16 : decode b_Re_takeSections 16 = .ok (.invokevirtual 19, 3) := by decide +kernel
theorem d_Re_takeSections_19 : decode b_Re_takeSections 19 = .ok (.istore 5, 2) := by decide +kernel
theorem d_Re_takeSections_21 : decode b_Re_takeSections 21 = .ok (.aload_n 0, 1) := by decide +kernel
theorem d_Re_takeSections_22 : decode b_Re_takeSections 22 = .ok (.iconst 2, 1) := by decide +kernel
theorem d_Re_takeSections_23 : decode b_Re_takeSections 23 = .ok (.invokevirtual 19, 3) := by decide +kernel
theorem d_Re_takeSections_26 : decode b_Re_takeSections 26 = .ok (.istore 6, 2) := by decide +kernel
theorem d_Re_takeSections_28 : decode b_Re_takeSections 28 = .ok (.aload_n 0, 1) := by decide +kernel
theorem d_Re_takeSections_29 : decode b_Re_takeSections 29 = .ok (.getfield 49, 3) := by decide +kernel
theorem d_Re_takeSections_32 : decode b_Re_takeSections 32 = .ok (.ifCond .ne 15, 3) := by decide +kernel
theorem d_Re_takeSections_35 : decode b_Re_takeSections 35 = .ok (.iload 4, 2) := by decide +kernel
theorem d_Re_takeSections_37 : decode b_Re_takeSections 37 = .ok (.iload 5, 2) := by decide +kernel
theorem d_Re_takeSections_39 : decode b_Re_takeSections 39 = .ok (.iload 6, 2) := by decide +kernel
theorem d_Re_takeSections_41 : decode b_Re_takeSections 41 = .ok (.invokestatic 53, 3) := by decide +kernel
theorem d_Re_takeSections_44 : decode b_Re_takeSections 44 = .ok (.ifCond .ne 5, 3) := by decide +kernel
theorem d_Re_takeSections_47 : decode b_Re_takeSections 47 = .ok (.iconst 0, 1) := by decide +kernel
theorem d_Re_takeSections_48 : decode b_Re_takeSections 48 = .ok (.ireturn, 1) := by decide +kernel
theorem d_Re_takeSections_49 : decode b_Re_takeSections 49 = .ok (.new 54, 3) := by decide +kernel
theorem d_Re_takeSections_52 : decode b_Re_takeSections 52 = .ok (.dup, 1) := by decide +kernel
theorem d_Re_takeSections_53 : decode b_Re_takeSections 53 = .ok (.iload 4, 2) := by decide +kernel
theorem d_Re_takeSections_55 : decode b_Re_takeSections 55 = .ok (.iload 5, 2) := by decide +kernel
theorem d_Re_takeSections_57 : decode b_Re_takeSections 57 = .ok (.iload 6, 2) := by decide +kernel
theorem d_Re_takeSections_59 : decode b_Re_takeSections 59 = .ok (.invokespecial 59, 3) := by decide +kernel
theorem d_Re_takeSections_62 : decode b_Re_takeSections 62 = .ok (.astore 7, 2) := by decide +kernel
theorem d_Re_takeSections_64 : decode b_Re_takeSections 64 = .ok (.iconst 0, 1) := by decide +kernel
theorem d_Re_takeSections_65 : decode b_Re_takeSections 65 = .ok (.istore 8, 2) := by decide +kernel
theorem d_Re_takeSections_67 : decode b_Re_takeSections 67 = .ok (.iload 8, 2) := by decide +kernel
theorem d_Re_takeSections_69 : decode b_Re_takeSections 69 = .ok (.aload 7, 2) := by decide +kernel
theorem d_Re_takeSections_71 : decode b_Re_takeSections 71 = .ok (.getfield 62, 3) := by decide +kernel
theorem d_Re_takeSections_74 : decode b_Re_takeSections 74 = .ok (.arraylength, 1) := by decide +kernel
theorem d_Re_takeSections_75 : decode b_Re_takeSections 75 = .ok (.if_icmp .ge 22, 3) := by decide +kernel
theorem d_Re_takeSections_78 : decode b_Re_takeSections 78 = .ok (.aload 7, 2) := by decide +kernel
theorem d_Re_takeSections_80 : decode b_Re_takeSections 80 = .ok (.getfield 62, 3) := by decide +kernel
theorem d_Re_takeSections_83 : decode b_Re_takeSections 83 = .ok (.iload 8, 2) := by decide +kernel
theorem d_Re_takeSections_85 : decode b_Re_takeSections 85 = .ok (.aload_n 0, 1) := by decide +kernel
theorem d_Re_takeSections_86 : decode b_Re_takeSections 86 = .ok (.iconst 1, 1) := by decide +kernel
theorem d_Re_takeSections_87 : decode b_Re_takeSections 87 = .ok (.invokevirtual 19, 3) := by decide +kernel
theorem d_Re_takeSections_90 : decode b_Re_takeSections 90 = .ok (.iastore, 1) := by decide +kernel
theorem d_Re_takeSections_91 : decode b_Re_takeSections 91 = .ok (.iinc 8 1, 3) := by decide +kernel
theorem d_Re_takeSections_94 : decode b_Re_takeSections 94 = .ok (.goto (-27), 3) := by decide +kernel
theorem d_Re_takeSections_97 : decode b_Re_takeSections 97 = .ok (.aload_n 1, 1) := by decide +kernel
theorem d_Re_takeSections_98 : decode b_Re_takeSections 98 = .ok (.aload 7, 2) := by decide +kernel
theorem d_Re_takeSections_100 : decode b_Re_takeSections 100 = .ok (.invokevirtual 65, 3) := by decide +kernel
theorem d_Re_takeSections_103 : decode b_Re_takeSections 103 = .ok (.pop, 1) := by decide +kernel
theorem d_Re_takeSections_104 : decode b_Re_takeSections 104 = .ok (.iinc 3 1, 3) := by decide +kernel
theorem d_Re_takeSections_107 : decode b_Re_takeSections 107 = .ok (.goto (-105), 3) := by decide +kernel
theorem d_Re_takeSections_110 : decode b_Re_takeSections 110 = .ok (.aload_n 0, 1) := by decide +kernel
theorem d_Re_takeSections_111 : decode b_Re_takeSections 111 = .ok (.getfield 49, 3) := by decide +kernel
theorem d_Re_takeSections_114 : decode b_Re_takeSections 114 = .ok (.ifCond .ne 7, 3) := by decide +kernel
theorem d_Re_takeSections_117 : decode b_Re_takeSections 117 = .ok (.iconst 1, 1) := by decide +kernel
theorem d_Re_takeSections_118 : decode b_Re_takeSections 118 = .ok (.goto 4, 3) := by decide +kernel
theorem d_Re_takeSections_121 : decode b_Re_takeSections 121 = .ok (.iconst 0, 1) := by decide +kernel
theorem d_Re_takeSections_122 : decode b_Re_takeSections 122 = .ok (.ireturn, 1) := by decide +kernel
theorem d_Re_takeNames_0 : decode b_Re_takeNames 0 = .ok (.iconst 0, 1) := by decide +kernel
theorem d_Re_takeNames_1 : decode b_Re_takeNames 1 = .ok (.istore_n 3, 1) := by decide +kernel
theorem d_Re_takeNames_2 : decode b_Re_takeNames 2 = .ok (.iload_n 3, 1) := by decide +kernel
theorem d_Re_takeNames_3 : decode b_Re_takeNames 3 = .ok (.iload_n 2, 1) := by decide +kernel
theorem d_Re_takeNames_4 : decode b_Re_takeNames 4 = .ok (.if_icmp .ge 81, 3) := by decide +kernel
theorem d_Re_takeNames_7 : decode b_Re_takeNames 7 = .ok (.aload_n 0, 1) := by decide +kernel
theorem d_Re_takeNames_8 : decode b_Re_takeNames 8 = .ok (.iconst 4, 1) := by decide +kernel
theorem d_Re_takeNames_9 : decode b_Re_takeNames 9 = .ok (.invokevirtual 19, 3) := by decide +kernel
theorem d_Re_takeNames_12 : decode b_Re_takeNames 12 = .ok (.istore 4, 2) := by decide +kernel
theorem d_Re_takeNames_14 : decode b_Re_takeNames 14 = .ok (.aload_n 0, 1) := by decide +kernel
theorem d_Re_takeNames_15 : decode b_Re_takeNames 15 = .ok (.iconst 1, 1) := by decide +kernel
theorem d_Re_takeNames_16 : decode b_Re_takeNames 16 = .ok (.invokevirtual 19, 3) := by decide +kernel
theorem d_Re_takeNames_19 : decode b_Re_takeNames 19 = .ok (.istore 5, 2) := by decide +kernel
theorem d_Re_takeNames_21 : decode b_Re_takeNames 21 = .ok (.aload_n 0, 1) := by decide +kernel
theorem d_Re_takeNames_22 : decode b_Re_takeNames 22 = .ok (.iconst 1, 1) := by decide +kernel
theorem d_Re_takeNames_23 : decode b_Re_takeNames 23 = .ok (.invokevirtual 19, 3) := by decide +kernel
theorem d_Re_takeNames_26 : decode b_Re_takeNames 26 = .ok (.istore 6, 2) := by decide +kernel
theorem d_Re_takeNames_28 : decode b_Re_takeNames 28 = .ok (.aload_n 0, 1) := by decide +kernel
theorem d_Re_takeNames_29 : decode b_Re_takeNames 29 = .ok (.iconst 2, 1) := by decide +kernel
theorem d_Re_takeNames_30 : decode b_Re_takeNames 30 = .ok (.invokevirtual 19, 3) := by decide +kernel
theorem d_Re_takeNames_33 : decode b_Re_takeNames 33 = .ok (.istore 7, 2) := by decide +kernel
theorem d_Re_takeNames_35 : decode b_Re_takeNames 35 = .ok (.aload_n 0, 1) := by decide +kernel
theorem d_Re_takeNames_36 : decode b_Re_takeNames 36 = .ok (.getfield 49, 3) := by decide +kernel
theorem d_Re_takeNames_39 : decode b_Re_takeNames 39 = .ok (.ifCond .ne 18, 3) := by decide +kernel
theorem d_Re_takeNames_42 : decode b_Re_takeNames 42 = .ok (.aload_n 1, 1) := by decide +kernel
theorem d_Re_takeNames_43 : decode b_Re_takeNames 43 = .ok (.iload 4, 2) := by decide +kernel
theorem d_Re_takeNames_45 : decode b_Re_takeNames 45 = .ok (.iload 5, 2) := by decide +kernel
theorem d_Re_takeNames_47 : decode b_Re_takeNames 47 = .ok (.iload 6, 2) := by decide +kernel
theorem d_Re_takeNames_49 : decode b_Re_takeNames 49 = .ok (.iload 7, 2) := by decide +kernel
theorem d_Re_takeNames_51 : decode b_Re_takeNames 51 = .ok (.invokevirtual 69, 3) := by decide +kernel
theorem d_Re_takeNames_54 : decode b_Re_takeNames 54 = .ok (.ifCond .ne 5, 3) := by decide +kernel
theorem d_Re_takeNames_57 : decode b_Re_takeNames 57 = .ok (.iconst 0, 1) := by decide +kernel
theorem d_Re_takeNames_58 : decode b_Re_takeNames 58 = .ok (.ireturn, 1) := by decide +kernel
theorem d_Re_takeNames_59 : decode b_Re_takeNames 59 = .ok (.aload_n 1, 1) := by decide +kernel
theorem d_Re_takeNames_60 : decode b_Re_takeNames 60 = .ok (.new 73, 3) := by decide +kernel
theorem d_Re_takeNames_63 : decode b_Re_takeNames 63 = .ok (.dup, 1) := by decide +kernel
theorem d_Re_takeNames_64 : decode b_Re_takeNames 64 = .ok (.iload 4, 2) := by decide +kernel
theorem d_Re_takeNames_66 : decode b_Re_takeNames 66 = .ok (.iload 5, 2) := by decide +kernel
theorem d_Re_takeNames_68 : decode b_Re_takeNames 68 = .ok (.iload 6, 2) := by decide +kernel
theorem d_Re_takeNames_70 : decode b_Re_takeNames 70 = .ok (.iload 7, 2) := by decide +kernel
theorem d_Re_takeNames_72 : decode b_Re_takeNames 72 = .ok (.invokespecial 75, 3) := by decide +kernel
theorem d_Re_takeNames_75 : decode b_Re_takeNames 75 = .ok (.invokevirtual 78, 3) := by decide +kernel
theorem d_Re_takeNames_78 : decode b_Re_takeNames 78 = .ok (.pop, 1) := by decide +kernel
theorem d_Re_takeNames_79 : decode b_Re_takeNames 79 = .ok (.iinc 3 1, 3) := by decide +kernel
theorem d_Re_takeNames_82 : decode b_Re_takeNames 82 = .ok (.goto (-80), 3) := by decide +kernel
theorem d_Re_takeNames_85 : decode b_Re_takeNames 85 = .ok (.iconst 1, 1) := by decide +kernel
theorem d_Re_takeNames_86 : decode b_Re_takeNames 86 = .ok (.ireturn, 1) := by decide +kernel
theorem d_Re_takeReferences_0 : decode b_Re_takeReferences 0 = .ok (.iconst 0, 1) := by decide +kernel
theorem d_Re_takeReferences_1 : decode b_Re_takeReferences 1 = .ok (.istore_n 3, 1) := by decide +kernel
theorem d_Re_takeReferences_2 : decode b_Re_takeReferences 2 = .ok (.iload_n 3, 1) := by decide +kernel
theorem d_Re_takeReferences_3 : decode b_Re_takeReferences 3 = .ok (.iload_n 2, 1) := by decide +kernel
theorem d_Re_takeReferences_4 : decode b_Re_takeReferences 4 = .ok (.if_icmp .ge 90, 3) := by decide +kernel
theorem d_Re_takeReferences_7 : decode b_Re_takeReferences 7 = .ok (.aload_n 0, 1) := by decide +kernel
theorem d_Re_takeReferences_8 : decode b_Re_takeReferences 8 = .ok (.iconst 1, 1) := by decide +kernel
theorem d_Re_takeReferences_9 : decode b_Re_takeReferences 9 = .ok (.invokevirtual 19, 3) := by decide +kernel
theorem d_Re_takeReferences_12 : decode b_Re_takeReferences 12 = .ok (.istore 4, 2) := by decide +kernel
theorem d_Re_takeReferences_14 : decode b_Re_takeReferences 14 = .ok (.aload_n 0, 1) := by decide +kernel
theorem d_Re_takeReferences_15 : decode b_Re_takeReferences 15 = .ok (.iconst 2, 1) := by decide +kernel
theorem d_Re_takeReferences_16 : decode b_Re_takeReferences 16 = .ok (.invokevirtual 19, 3) := by decide +kernel
theorem d_Re_takeReferences_19 : decode b_Re_takeReferences 19 = .ok (.istore 5, 2) := by decide +kernel
theorem d_Re_takeReferences_21 : decode b_Re_takeReferences 21 = .ok (.aload_n 0, 1) := by decide +kernel
theorem d_Re_takeReferences_22 : decode b_Re_takeReferences 22 = .ok (.iconst 1, 1) := by decide +kernel
theorem d_Re_takeReferences_23 : decode b_Re_takeReferences 23 = .ok (.invokevirtual 19, 3) := by decide +kernel
theorem d_Re_takeReferences_26 : decode b_Re_takeReferences 26 = .ok (.istore 6, 2) := by decide +kernel
theorem d_Re_takeReferences_28 : decode b_Re_takeReferences 28 = .ok (.aload_n 0, 1) := by decide +kernel
theorem d_Re_takeReferences_29 : decode b_Re_takeReferences 29 = .ok (.iconst 1, 1) := by decide +kernel
theorem d_Re_takeReferences_30 : decode b_Re_takeReferences 30 = .ok (.invokevirtual 19, 3) := by decide +kernel
theorem d_Re_takeReferences_33 : decode b_Re_takeReferences 33 = .ok (.istore 7, 2) := by decide +kernel
theorem d_Re_takeReferences_35 : decode b_Re_takeReferences 35 = .ok (.aload_n 0, 1) := by decide +kernel
theorem d_Re_takeReferences_36 : decode b_Re_takeReferences 36 = .ok (.iconst 4, 1) := by decide +kernel
theorem d_Re_takeReferences_37 : decode b_Re_takeReferences 37 = .ok (.invokevirtual 19, 3) := by decide +kernel
theorem d_Re_takeReferences_40 : decode b_Re_takeReferences 40 = .ok (.istore 8, 2) := by decide +kernel
theorem d_Re_takeReferences_42 : decode b_Re_takeReferences 42 = .ok (.aload_n 0, 1) := by decide +kernel
theorem d_Re_takeReferences_43 : decode b_Re_takeReferences 43 = .ok (.getfield 49, 3) := by decide +kernel
theorem d_Re_takeReferences_46 : decode b_Re_takeReferences 46 = .ok (.ifCond .ne 18, 3) := by decide +kernel
theorem d_Re_takeReferences_49 : decode b_Re_takeReferences 49 = .ok (.aload_n 1, 1) := by decide +kernel
theorem d_Re_takeReferences_50 : decode b_Re_takeReferences 50 = .ok (.iload 4, 2) := by decide +kernel
theorem d_Re_takeReferences_52 : decode b_Re_takeReferences 52 = .ok (.iload 5, 2) := by decide +kernel
theorem d_Re_takeReferences_54 : decode b_Re_takeReferences 54 = .ok (.iload 6, 2) := by decide +kernel
theorem d_Re_takeReferences_56 : decode b_Re_takeReferences 56 = .ok (.iload 7, 2) := by decide +kernel
theorem d_Re_takeReferences_58 : decode b_Re_takeReferences 58 = .ok (.invokevirtual 82, 3) := by decide +kernel
theorem d_Re_takeReferences_61 : decode b_Re_takeReferences 61 = .ok (.ifCond .ne 5, 3) := by decide +kernel
theorem d_Re_takeReferences_64 : decode b_Re_takeReferences 64 = .ok (.iconst 0, 1) := by decide +kernel
theorem d_Re_takeReferences_65 : decode b_Re_takeReferences 65 = .ok (.ireturn, 1) := by decide +kernel
theorem d_Re_takeReferences_66 : decode b_Re_takeReferences 66 = .ok (.aload_n 1, 1) := by decide +kernel
theorem d_Re_takeReferences_67 : decode b_Re_takeReferences 67 = .ok (.new 85, 3) := by decide +kernel
theorem d_Re_takeReferences_70 : decode b_Re_takeReferences 70 = .ok (.dup, 1) := by decide +kernel
theorem d_Re_takeReferences_71 : decode b_Re_takeReferences 71 = .ok (.iload 4, 2) := by decide +kernel
theorem d_Re_takeReferences_73 : decode b_Re_takeReferences 73 = .ok (.iload 5, 2) := by decide +kernel
theorem d_Re_takeReferences_75 : decode b_Re_takeReferences 75 = .ok (.iload 6, 2) := by decide +kernel
theorem d_Re_takeReferences_77 : decode b_Re_takeReferences 77 = .ok (.iload 7, 2) := by decide +kernel
theorem d_Re_takeReferences_79 : decode b_Re_takeReferences 79 = .ok (.iload 8, 2) := by decide +kernel
theorem d_Re_takeReferences_81 : decode b_Re_takeReferences 81 = .ok (.invokespecial 87, 3) := by decide +kernel
theorem d_Re_takeReferences_84 : decode b_Re_takeReferences 84 = .ok (.invokevirtual 90, 3) := by decide +kernel
theorem d_Re_takeReferences_87 : decode b_Re_takeReferences 87 = .ok (.pop, 1) := by decide +kernel
theorem d_Re_takeReferences_88 : decode b_Re_takeReferences 88 = .ok (.iinc 3 1, 3) := by decide +kernel
theorem d_Re_takeReferences_91 : decode b_Re_takeReferences 91 = .ok (.goto (-89), 3) := by decide +kernel
theorem d_Re_takeReferences_94 : decode b_Re_takeReferences 94 = .ok (.iconst 1, 1) := by decide +kernel
theorem d_Re_takeReferences_95 : decode b_Re_takeReferences 95 = .ok (.ireturn, 1) := by decide +kernel
end
section
theorem d_Mo_init_0 : decode b_Mo_init 0 = .ok (.aload_n 0, 1) := by decide +kernel
theorem d_Mo_init_1 : decode b_Mo_init 1 = .ok (.invokespecial 1, 3) := by decide +kernel
theorem d_Mo_init_4 : decode b_Mo_init 4 = .ok (.aload_n 0, 1) := by decide +kernel
theorem d_Mo_init_5 : decode b_Mo_init 5 = .ok (.bipush 13, 2) := by decide +kernel
theorem d_Mo_init_7 : decode b_Mo_init 7 = .ok (.newarray .int, 2) := by decide +kernel
theorem d_Mo_init_9 : decode b_Mo_init 9 = .ok (.putfield 7, 3) := by decide +kernel
theorem d_Mo_init_12 : decode b_Mo_init 12 = .ok (.aload_n 0, 1) := by decide +kernel
theorem d_Mo_init_13 : decode b_Mo_init 13 = .ok (.bipush 104, 2) := by decide +kernel
theorem d_Mo_init_15 : decode b_Mo_init 15 = .ok (.newarray .int, 2) := by decide +kernel
theorem d_Mo_init_17 : decode b_Mo_init 17 = .ok (.putfield 13, 3) := by decide +kernel
theorem d_Mo_init_20 : decode b_Mo_init 20 = .ok (.aload_n 0, 1) := by decide +kernel
theorem d_Mo_init_21 : decode b_Mo_init 21 = .ok (.bipush 104, 2) := by decide +kernel
theorem d_Mo_init_23 : decode b_Mo_init 23 = .ok (.newarray .int, 2) := by decide +kernel
theorem d_Mo_init_25 : decode b_Mo_init 25 = .ok (.putfield 16, 3) := by decide +kernel
theorem d_Mo_init_28 : decode b_Mo_init 28 = .ok (.aload_n 0, 1) := by decide +kernel
theorem d_Mo_init_29 : decode b_Mo_init 29 = .ok (.bipush 104, 2) := by decide +kernel
theorem d_Mo_init_31 : decode b_Mo_init 31 = .ok (.newarray .int, 2) := by decide +kernel
theorem d_Mo_init_33 : decode b_Mo_init 33 = .ok (.putfield 19, 3) := by decide +kernel
theorem d_Mo_init_36 : decode b_Mo_init 36 = .ok (.aload_n 0, 1) := by decide +kernel
theorem d_Mo_init_37 : decode b_Mo_init 37 = .ok (.sipush 13312, 3) := by decide +kernel
theorem d_Mo_init_40 : decode b_Mo_init 40 = .ok (.newarray .int, 2) := by decide +kernel
theorem d_Mo_init_42 : decode b_Mo_init 42 = .ok (.putfield 22, 3) := by decide +kernel
theorem d_Mo_init_45 : decode b_Mo_init 45 = .ok (.aload_n 0, 1) := by decide +kernel
theorem d_Mo_init_46 : decode b_Mo_init 46 = .ok (.bipush 13, 2) := by decide +kernel
theorem d_Mo_init_48 : decode b_Mo_init 48 = .ok (.newarray .int, 2) := by decide +kernel
theorem d_Mo_init_50 : decode b_Mo_init 50 = .ok (.putfield 25, 3) := by decide +kernel
theorem d_Mo_init_53 : decode b_Mo_init 53 = .ok (.aload_n 0, 1) := by decide +kernel
theorem d_Mo_init_54 : decode b_Mo_init 54 = .ok (.sipush 156, 3) := by decide +kernel
theorem d_Mo_init_57 : decode b_Mo_init 57 = .ok (.newarray .int, 2) := by decide +kernel
theorem d_Mo_init_59 : decode b_Mo_init 59 = .ok (.putfield 28, 3) := by decide +kernel
theorem d_Mo_init_62 : decode b_Mo_init 62 = .ok (.aload_n 0, 1) := by decide +kernel
theorem d_Mo_init_63 : decode b_Mo_init 63 = .ok (.sipush 156, 3) := by decide +kernel
theorem d_Mo_init_66 : decode b_Mo_init 66 = .ok (.newarray .int, 2) := by decide +kernel
theorem d_Mo_init_68 : decode b_Mo_init 68 = .ok (.putfield 31, 3) := by decide +kernel
theorem d_Mo_init_71 : decode b_Mo_init 71 = .ok (.aload_n 0, 1) := by decide +kernel
theorem d_Mo_init_72 : decode b_Mo_init 72 = .ok (.sipush 156, 3) := by decide +kernel
theorem d_Mo_init_75 : decode b_Mo_init 75 = .ok (.newarray .int, 2) := by decide +kernel
theorem d_Mo_init_77 : decode b_Mo_init 77 = .ok (.putfield 34, 3) := by decide +kernel
theorem d_Mo_init_80 : decode b_Mo_init 80 = .ok (.aload_n 0, 1) := by decide +kernel
theorem d_Mo_init_81 : decode b_Mo_init 81 = .ok (.sipush 156, 3) := by decide +kernel
theorem d_Mo_init_84 : decode b_Mo_init 84 = .ok (.newarray .int, 2) := by decide +kernel
theorem d_Mo_init_86 : decode b_Mo_init 86 = .ok (.putfield 37, 3) := by decide +kernel
theorem d_Mo_init_89 : decode b_Mo_init 89 = .ok (.aload_n 0, 1) := by decide +kernel
theorem d_Mo_init_90 : decode b_Mo_init 90 = .ok (.bipush 13, 2) := by decide +kernel
theorem d_Mo_init_92 : decode b_Mo_init 92 = .ok (.newarray .int, 2) := by decide +kernel
theorem d_Mo_init_94 : decode b_Mo_init 94 = .ok (.putfield 40, 3) := by decide +kernel
theorem d_Mo_init_97 : decode b_Mo_init 97 = .ok (.aload_n 0, 1) := by decide +kernel
theorem d_Mo_init_98 : decode b_Mo_init 98 = .ok (.sipush 208, 3) := by decide +kernel
theorem d_Mo_init_101 : decode b_Mo_init 101 = .ok (.newarray .int, 2) := by decide +kernel
theorem d_Mo_init_103 : decode b_Mo_init 103 = .ok (.putfield 43, 3) := by decide +kernel
theorem d_Mo_init_106 : decode b_Mo_init 106 = .ok (.aload_n 0, 1) := by decide +kernel
theorem d_Mo_init_107 : decode b_Mo_init 107 = .ok (.sipush 208, 3) := by decide +kernel
theorem d_Mo_init_110 : decode b_Mo_init 110 = .ok (.newarray .int, 2) := by decide +kernel
theorem d_Mo_init_112 : decode b_Mo_init 112 = .ok (.putfield 46, 3) := by decide +kernel
theorem d_Mo_init_115 : decode b_Mo_init 115 = .ok (.aload_n 0, 1) := by decide +kernel
theorem d_Mo_init_116 : decode b_Mo_init 116 = .ok (.sipush 208, 3) := by decide +kernel
theorem d_Mo_init_119 : decode b_Mo_init 119 = .ok (.newarray .int, 2) := by decide +kernel
theorem d_Mo_init_121 : decode b_Mo_init 121 = .ok (.putfield 49, 3) := by decide +kernel
theorem d_Mo_init_124 : decode b_Mo_init 124 = .ok (.aload_n 0, 1) := by decide +kernel
theorem d_Mo_init_125 : decode b_Mo_init 125 = .ok (.sipush 208, 3) := by decide +kernel
theorem d_Mo_init_128 : decode b_Mo_init 128 = .ok (.newarray .int, 2) := by decide +kernel
theorem d_Mo_init_130 : decode b_Mo_init 130 = .ok (.putfield 52, 3) := by decide +kernel
theorem d_Mo_init_133 : decode b_Mo_init 133 = .ok (.aload_n 0, 1) := by decide +kernel
theorem d_Mo_init_134 : decode b_Mo_init 134 = .ok (.sipush 208, 3) := by decide +kernel
theorem d_Mo_init_137 : decode b_Mo_init 137 = .ok (.newarray .int, 2) := by decide +kernel
theorem d_Mo_init_139 : decode b_Mo_init 139 = .ok (.putfield 55, 3) := by decide +kernel
theorem d_Mo_init_142 : decode b_Mo_init 142 = .ok (.aload_n 0, 1) := by decide +kernel
theorem d_Mo_init_143 : decode b_Mo_init 143 = .ok (.bipush 12, 2) := by decide +kernel
theorem d_Mo_init_145 : decode b_Mo_init 145 = .ok (.newarray .int, 2) := by decide +kernel
theorem d_Mo_init_147 : decode b_Mo_init 147 = .ok (.putfield 58, 3) := by decide +kernel
theorem d_Mo_init_150 : decode b_Mo_init 150 = .ok (.aload_n 0, 1) := by decide +kernel
theorem d_Mo_init_151 : decode b_Mo_init 151 = .ok (.bipush 96, 2) := by decide +kernel
theorem d_Mo_init_153 : decode b_Mo_init 153 = .ok (.newarray .boolean, 2) := by decide +kernel
theorem d_Mo_init_155 : decode b_Mo_init 155 = .ok (.putfield 61, 3) := by decide +kernel
theorem d_Mo_init_158 : decode b_Mo_init 158 = .ok (.aload_n 0, 1) := by decide +kernel
theorem d_Mo_init_159 : decode b_Mo_init 159 = .ok (.sipush 144, 3) := by decide +kernel
theorem d_Mo_init_162 : decode b_Mo_init 162 = .ok (.newarray .boolean, 2) := by decide +kernel
theorem d_Mo_init_164 : decode b_Mo_init 164 = .ok (.putfield 65, 3) := by decide +kernel
theorem d_Mo_init_167 : decode b_Mo_init 167 = .ok (.aload_n 0, 1) := by decide +kernel
theorem d_Mo_init_168 : decode b_Mo_init 168 = .ok (.sipush 144, 3) := by decide +kernel
theorem d_Mo_init_171 : decode b_Mo_init 171 = .ok (.newarray .int, 2) := by decide +kernel
theorem d_Mo_init_173 : decode b_Mo_init 173 = .ok (.putfield 68, 3) := by decide +kernel
theorem d_Mo_init_176 : decode b_Mo_init 176 = .ok (.aload_n 0, 1) := by decide +kernel
theorem d_Mo_init_177 : decode b_Mo_init 177 = .ok (.bipush 96, 2) := by decide +kernel
theorem d_Mo_init_179 : decode b_Mo_init 179 = .ok (.newarray .int, 2) := by decide +kernel
theorem d_Mo_init_181 : decode b_Mo_init 181 = .ok (.putfield 71, 3) := by decide +kernel
theorem d_Mo_init_184 : decode b_Mo_init 184 = .ok (.aload_n 0, 1) := by decide +kernel
theorem d_Mo_init_185 : decode b_Mo_init 185 = .ok (.iconst (-1), 1) := by decide +kernel
theorem d_Mo_init_186 : decode b_Mo_init 186 = .ok (.putfield 74, 3) := by decide +kernel
theorem d_Mo_init_189 : decode b_Mo_init 189 = .ok (.aload_n 0, 1) := by decide +kernel
theorem d_Mo_init_190 : decode b_Mo_init 190 = .ok (.iconst (-1), 1) := by decide +kernel
theorem d_Mo_init_191 : decode b_Mo_init 191 = .ok (.putfield 78, 3) := by decide +kernel
theorem d_Mo_init_194 : decode b_Mo_init 194 = .ok (.aload_n 0, 1) := by decide +kernel
theorem d_Mo_init_195 : decode b_Mo_init 195 = .ok (.sipush 4096, 3) := by decide +kernel
theorem d_Mo_init_198 : decode b_Mo_init 198 = .ok (.newarray .int, 2) := by decide +kernel
theorem d_Mo_init_200 : decode b_Mo_init 200 = .ok (.putfield 81, 3) := by decide +kernel
theorem d_Mo_init_203 : decode b_Mo_init 203 = .ok (.aload_n 0, 1) := by decide +kernel
theorem d_Mo_init_204 : decode b_Mo_init 204 = .ok (.sipush 144, 3) := by decide +kernel
theorem d_Mo_init_207 : decode b_Mo_init 207 = .ok (.newarray .int, 2) := by decide +kernel
theorem d_Mo_init_209 : decode b_Mo_init 209 = .ok (.putfield 84, 3) := by decide +kernel
theorem d_Mo_init_212 : decode b_Mo_init 212 = .ok (.aload_n 0, 1) := by decide +kernel
theorem d_Mo_init_213 : decode b_Mo_init 213 = .ok (.sipush 144, 3) := by decide +kernel
theorem d_Mo_init_216 : decode b_Mo_init 216 = .ok (.newarray .int, 2) := by decide +kernel
theorem d_Mo_init_218 : decode b_Mo_init 218 = .ok (.putfield 87, 3) := by decide +kernel
theorem d_Mo_init_221 : decode b_Mo_init 221 = .ok (.aload_n 0, 1) := by decide +kernel
theorem d_Mo_init_222 : decode b_Mo_init 222 = .ok (.sipush 1400, 3) := by decide +kernel
theorem d_Mo_init_225 : decode b_Mo_init 225 = .ok (.newarray .int, 2) := by decide +kernel
theorem d_Mo_init_227 : decode b_Mo_init 227 = .ok (.putfield 90, 3) := by decide +kernel
theorem d_Mo_init_230 : decode b_Mo_init 230 = .ok (.iconst 0, 1) := by decide +kernel
theorem d_Mo_init_231 : decode b_Mo_init 231 = .ok (.istore_n 1, 1) := by decide +kernel
theorem d_Mo_init_232 : decode b_Mo_init 232 = .ok (.iload_n 1, 1) := by decide +kernel
theorem d_Mo_init_233 : decode b_Mo_init 233 = .ok (.bipush 96, 2) := by decide +kernel
theorem d_Mo_init_235 : decode b_Mo_init 235 = .ok (.if_icmp .ge 16, 3) := by decide +kernel
theorem d_Mo_init_238 : decode b_Mo_init 238 = .ok (.aload_n 0, 1) := by decide +kernel
theorem d_Mo_init_239 : decode b_Mo_init 239 = .ok (.getfield 71, 3) := by decide +kernel
theorem d_Mo_init_242 : decode b_Mo_init 242 = .ok (.iload_n 1, 1) := by decide +kernel
theorem d_Mo_init_243 : decode b_Mo_init 243 = .ok (.iconst (-1), 1) := by decide +kernel
theorem d_Mo_init_244 : decode b_Mo_init 244 = .ok (.iastore, 1) := by decide +kernel
theorem d_Mo_init_245 : decode b_Mo_init 245 = .ok (.iinc 1 1, 3) := by decide +kernel
theorem d_Mo_init_248 : decode b_Mo_init 248 = .ok (.goto (-16), 3) := by decide +kernel
theorem d_Mo_init_251 : decode b_Mo_init 251 = .ok (.return_, 1) := by decide +kernel
theorem d_Mo_thrown_0 : decode b_Mo_thrown 0 = .ok (.aload_n 0, 1) := by decide +kernel
theorem d_Mo_thrown_1 : decode b_Mo_thrown 1 = .ok (.getfield 93, 3) := by decide +kernel
theorem d_Mo_thrown_4 : decode b_Mo_thrown 4 = .ok (.ireturn, 1) := by decide +kernel
theorem d_Mo_object_0 : decode b_Mo_object 0 = .ok (.aload_n 0, 1) := by decide +kernel
theorem d_Mo_object_1 : decode b_Mo_object 1 = .ok (.iconst 0, 1) := by decide +kernel
theorem d_Mo_object_2 : decode b_Mo_object 2 = .ok (.putfield 93, 3) := by decide +kernel
theorem d_Mo_object_5 : decode b_Mo_object 5 = .ok (.aload_n 0, 1) := by decide +kernel
theorem d_Mo_object_6 : decode b_Mo_object 6 = .ok (.getfield 96, 3) := by decide +kernel
theorem d_Mo_object_9 : decode b_Mo_object 9 = .ok (.bipush 12, 2) := by decide +kernel
theorem d_Mo_object_11 : decode b_Mo_object 11 = .ok (.if_icmp .ne 9, 3) := by decide +kernel
theorem d_Mo_object_14 : decode b_Mo_object 14 = .ok (.aload_n 0, 1) := by decide +kernel
theorem d_Mo_object_15 : decode b_Mo_object 15 = .ok (.iconst 1, 1) := by decide +kernel
theorem d_Mo_object_16 : decode b_Mo_object 16 = .ok (.invokevirtual 103, 3) := by decide +kernel
theorem d_Mo_object_19 : decode b_Mo_object 19 = .ok (.ireturn, 1) := by decide +kernel
theorem d_Mo_object_20 : decode b_Mo_object 20 = .ok (.aload_n 0, 1) := by decide +kernel
theorem d_Mo_object_21 : decode b_Mo_object 21 = .ok (.aload_n 0, 1) := by decide +kernel
theorem d_Mo_object_22 : decode b_Mo_object 22 = .ok (.getfield 96, 3) := by decide +kernel
theorem d_Mo_object_25 : decode b_Mo_object 25 = .ok (.invokevirtual 107, 3) := by decide +kernel
theorem d_Mo_object_28 : decode b_Mo_object 28 = .ok (.aload_n 0, 1) := by decide +kernel
theorem d_Mo_object_29 : decode b_Mo_object 29 = .ok (.dup, 1) := by decide +kernel
theorem d_Mo_object_30 : decode b_Mo_object 30 = .ok (.getfield 96, 3) := by decide +kernel
theorem d_Mo_object_33 : decode b_Mo_object 33 = .ok (.iconst 1, 1) := by decide +kernel
theorem d_Mo_object_34 : decode b_Mo_object 34 = .ok (.iadd, 1) := by decide +kernel
theorem d_Mo_object_35 : decode b_Mo_object 35 = .ok (.putfield 96, 3) := by decide +kernel
theorem d_Mo_object_38 : decode b_Mo_object 38 = .ok (.aload_n 0, 1) := by decide +kernel
theorem d_Mo_object_39 : decode b_Mo_object 39 = .ok (.getfield 96, 3) := by decide +kernel
theorem d_Mo_object_42 : decode b_Mo_object 42 = .ok (.iconst 1, 1) := by decide +kernel
theorem d_Mo_object_43 : decode b_Mo_object 43 = .ok (.isub, 1) := by decide +kernel
theorem d_Mo_object_44 : decode b_Mo_object 44 = .ok (.ireturn, 1) := by decide +kernel
theorem d_Mo_fail_0 : decode b_Mo_fail 0 = .ok (.aload_n 0, 1) := by decide +kernel
theorem d_Mo_fail_1 : decode b_Mo_fail 1 = .ok (.iload_n 1, 1) := by decide +kernel
theorem d_Mo_fail_2 : decode b_Mo_fail 2 = .ok (.putfield 93, 3) := by decide +kernel
theorem d_Mo_fail_5 : decode b_Mo_fail 5 = .ok (.iconst 0, 1) := by decide +kernel
theorem d_Mo_fail_6 : decode b_Mo_fail 6 = .ok (.ireturn, 1) := by decide +kernel
theorem d_Mo_emptyObject_0 : decode b_Mo_emptyObject 0 = .ok (.aload_n 0, 1) := by decide +kernel
theorem d_Mo_emptyObject_1 : decode b_Mo_emptyObject 1 = .ok (.getfield 7, 3) := by decide +kernel
theorem d_Mo_emptyObject_4 : decode b_Mo_emptyObject 4 = .ok (.iload_n 1, 1) := by decide +kernel
theorem d_Mo_emptyObject_5 : decode b_Mo_emptyObject 5 = .ok (.iconst 0, 1) := by decide +kernel
theorem d_Mo_emptyObject_6 : decode b_Mo_emptyObject 6 = .ok (.iastore, 1) := by decide +kernel
theorem d_Mo_emptyObject_7 : decode b_Mo_emptyObject 7 = .ok (.aload_n 0, 1) := by decide +kernel
theorem d_Mo_emptyObject_8 : decode b_Mo_emptyObject 8 = .ok (.getfield 25, 3) := by decide +kernel
theorem d_Mo_emptyObject_11 : decode b_Mo_emptyObject 11 = .ok (.iload_n 1, 1) := by decide +kernel
theorem d_Mo_emptyObject_12 : decode b_Mo_emptyObject 12 = .ok (.iconst 0, 1) := by decide +kernel
theorem d_Mo_emptyObject_13 : decode b_Mo_emptyObject 13 = .ok (.iastore, 1) := by decide +kernel
theorem d_Mo_emptyObject_14 : decode b_Mo_emptyObject 14 = .ok (.aload_n 0, 1) := by decide +kernel
theorem d_Mo_emptyObject_15 : decode b_Mo_emptyObject 15 = .ok (.getfield 40, 3) := by decide +kernel
theorem d_Mo_emptyObject_18 : decode b_Mo_emptyObject 18 = .ok (.iload_n 1, 1) := by decide +kernel
theorem d_Mo_emptyObject_19 : decode b_Mo_emptyObject 19 = .ok (.iconst 0, 1) := by decide +kernel
theorem d_Mo_emptyObject_20 : decode b_Mo_emptyObject 20 = .ok (.iastore, 1) := by decide +kernel
theorem d_Mo_emptyObject_21 : decode b_Mo_emptyObject 21 = .ok (.return_, 1) := by decide +kernel
theorem d_Mo_section_0 : decode b_Mo_section 0 = .ok (.aload_n 0, 1) := by decide +kernel
theorem d_Mo_section_1 : decode b_Mo_section 1 = .ok (.iload_n 1, 1) := by decide +kernel
theorem d_Mo_section_2 : decode b_Mo_section 2 = .ok (.invokevirtual 111, 3) := by decide +kernel
theorem d_Mo_section_5 : decode b_Mo_section 5 = .ok (.ifCond .ne 5, 3) := by decide +kernel
theorem d_Mo_section_8 : decode b_Mo_section 8 = .ok (.iconst 0, 1) := by decide +kernel
theorem d_Mo_section_9 : decode b_Mo_section 9 = .ok (.ireturn, 1) := by decide +kernel
theorem d_Mo_section_10 : decode b_Mo_section 10 = .ok (.iload_n 2, 1) := by decide +kernel
theorem d_Mo_section_11 : decode b_Mo_section 11 = .ok (.iload_n 3, 1) := by decide +kernel
theorem d_Mo_section_12 : decode b_Mo_section 12 = .ok (.iload 4, 2) := by decide +kernel
theorem d_Mo_section_14 : decode b_Mo_section 14 = .ok (.invokestatic 115, 3) := by decide +kernel
theorem d_Mo_section_17 : decode b_Mo_section 17 = .ok (.ifCond .ne 9, 3) := by decide +kernel
theorem d_Mo_section_20 : decode b_Mo_section 20 = .ok (.aload_n 0, 1) := by decide +kernel
theorem d_Mo_section_21 : decode b_Mo_section 21 = .ok (.iconst 2, 1) := by decide +kernel
theorem d_Mo_section_22 : decode b_Mo_section 22 = .ok (.invokevirtual 103, 3) := by decide +kernel
theorem d_Mo_section_25 : decode b_Mo_section 25 = .ok (.ireturn, 1) := by decide +kernel
theorem d_Mo_section_26 : decode b_Mo_section 26 = .ok (.aload_n 0, 1) := by decide +kernel
theorem d_Mo_section_27 : decode b_Mo_section 27 = .ok (.getfield 7, 3) := by decide +kernel
theorem d_Mo_section_30 : decode b_Mo_section 30 = .ok (.iload_n 1, 1) := by decide +kernel
theorem d_Mo_section_31 : decode b_Mo_section 31 = .ok (.iaload, 1) := by decide +kernel
theorem d_Mo_section_32 : decode b_Mo_section 32 = .ok (.bipush 8, 2) := by decide +kernel
theorem d_Mo_section_34 : decode b_Mo_section 34 = .ok (.if_icmp .ne 9, 3) := by decide +kernel
theorem d_Mo_section_37 : decode b_Mo_section 37 = .ok (.aload_n 0, 1) := by decide +kernel
theorem d_Mo_section_38 : decode b_Mo_section 38 = .ok (.iconst 3, 1) := by decide +kernel
theorem d_Mo_section_39 : decode b_Mo_section 39 = .ok (.invokevirtual 103, 3) := by decide +kernel
theorem d_Mo_section_42 : decode b_Mo_section 42 = .ok (.ireturn, 1) := by decide +kernel
theorem d_Mo_section_43 : decode b_Mo_section 43 = .ok (.aload_n 0, 1) := by decide +kernel
theorem d_Mo_section_44 : decode b_Mo_section 44 = .ok (.iload_n 1, 1) := by decide +kernel
theorem d_Mo_section_45 : decode b_Mo_section 45 = .ok (.iload_n 2, 1) := by decide +kernel
theorem d_Mo_section_46 : decode b_Mo_section 46 = .ok (.iload_n 3, 1) := by decide +kernel
theorem d_Mo_section_47 : decode b_Mo_section 47 = .ok (.iload 4, 2) := by decide +kernel
theorem d_Mo_section_49 : decode b_Mo_section 49 = .ok (.invokevirtual 118, 3) := by decide +kernel
theorem d_Mo_section_52 : decode b_Mo_section 52 = .ok (.aload_n 0, 1) := by decide +kernel
theorem d_Mo_section_53 : decode b_Mo_section 53 = .ok (.getfield 7, 3) := by decide +kernel
theorem d_Mo_section_56 : decode b_Mo_section 56 = .ok (.iload_n 1, 1) := by decide +kernel
theorem d_Mo_section_57 : decode b_Mo_section 57 = .ok (.iaload, 1) := by decide +kernel
theorem d_Mo_section_58 : decode b_Mo_section 58 = .ok (.iconst 1, 1) := by decide +kernel
theorem d_Mo_section_59 : decode b_Mo_section 59 = .ok (.isub, 1) := by decide +kernel
theorem d_Mo_section_60 : decode b_Mo_section 60 = .ok (.ireturn, 1) := by decide +kernel
theorem d_Mo_isObject_0 : decode b_Mo_isObject 0 = .ok (.aload_n 0, 1) := by decide +kernel
theorem d_Mo_isObject_1 : decode b_Mo_isObject 1 = .ok (.iload_n 1, 1) := by decide +kernel
theorem d_Mo_isObject_2 : decode b_Mo_isObject 2 = .ok (.iconst 0, 1) := by decide +kernel
theorem d_Mo_isObject_3 : decode b_Mo_isObject 3 = .ok (.aload_n 0, 1) := by decide +kernel
theorem d_Mo_isObject_4 : decode b_Mo_isObject 4 = .ok (.getfield 96, 3) := by decide +kernel
theorem d_Mo_isObject_7 : decode b_Mo_isObject 7 = .ok (.iconst 1, 1) := by decide +kernel
theorem d_Mo_isObject_8 : decode b_Mo_isObject 8 = .ok (.isub, 1) := by decide +kernel
theorem d_Mo_isObject_9 : decode b_Mo_isObject 9 = .ok (.invokestatic 99, 3) := by decide +kernel
theorem d_Mo_isObject_12 : decode b_Mo_isObject 12 = .ok (.ifCond .eq 7, 3) := by decide +kernel
theorem d_Mo_isObject_15 : decode b_Mo_isObject 15 = .ok (.iconst 0, 1) := by decide +kernel
theorem d_Mo_isObject_16 : decode b_Mo_isObject 16 = .ok (.goto 4, 3) := by decide +kernel
theorem d_Mo_isObject_19 : decode b_Mo_isObject 19 = .ok (.iconst 1, 1) := by decide +kernel
theorem d_Mo_isObject_20 : decode b_Mo_isObject 20 = .ok (.putfield 93, 3) := by decide +kernel
theorem d_Mo_isObject_23 : decode b_Mo_isObject 23 = .ok (.aload_n 0, 1) := by decide +kernel
theorem d_Mo_isObject_24 : decode b_Mo_isObject 24 = .ok (.getfield 93, 3) := by decide +kernel
theorem d_Mo_isObject_27 : decode b_Mo_isObject 27 = .ok (.ifCond .ne 7, 3) := by decide +kernel
theorem d_Mo_isObject_30 : decode b_Mo_isObject 30 = .ok (.iconst 1, 1) := by decide +kernel
theorem d_Mo_isObject_31 : decode b_Mo_isObject 31 = .ok (.goto 4, 3) := by decide +kernel
theorem d_Mo_isObject_34 : decode b_Mo_isObject 34 = .ok (.iconst 0, 1) := by decide +kernel
theorem d_Mo_isObject_35 : decode b_Mo_isObject 35 = .ok (.ireturn, 1) := by decide +kernel
theorem d_Mo_within_0 : decode b_Mo_within 0 = .ok (.iload_n 0, 1) := by decide +kernel
theorem d_Mo_within_1 : decode b_Mo_within 1 = .ok (.iload_n 1, 1) := by decide +kernel
theorem d_Mo_within_2 : decode b_Mo_within 2 = .ok (.if_icmp .lt 12, 3) := by decide +kernel
theorem d_Mo_within_5 : decode b_Mo_within 5 = .ok (.iload_n 0, 1) := by decide +kernel
theorem d_Mo_within_6 : decode b_Mo_within 6 = .ok (.iload_n 2, 1) := by decide +kernel
theorem d_Mo_within_7 : decode b_Mo_within 7 = .ok (.if_icmp .gt 7, 3) := by decide +kernel
theorem d_Mo_within_10 : decode b_Mo_within 10 = .ok (.iconst 1, 1) := by decide +kernel
theorem d_Mo_within_11 : decode b_Mo_within 11 = .ok (.goto 4, 3) := by decide +kernel
theorem d_Mo_within_14 : decode b_Mo_within 14 = .ok (.iconst 0, 1) := by decide +kernel
theorem d_Mo_within_15 : decode b_Mo_within 15 = .ok (.ireturn, 1) := by decide +kernel
theorem d_Mo_isSection_0 : decode b_Mo_isSection 0 = .ok (.iload_n 0, 1) := by decide +kernel
theorem d_Mo_isSection_1 : decode b_Mo_isSection 1 = .ok (.iconst 0, 1) := by decide +kernel
theorem d_Mo_isSection_2 : decode b_Mo_isSection 2 = .ok (.iconst 3, 1) := by decide +kernel
theorem d_Mo_isSection_3 : decode b_Mo_isSection 3 = .ok (.invokestatic 99, 3) := by decide +kernel
theorem d_Mo_isSection_6 : decode b_Mo_isSection 6 = .ok (.ifCond .eq 28, 3) := by decide +kernel
theorem d_Mo_isSection_9 : decode b_Mo_isSection 9 = .ok (.iload_n 1, 1) := by decide +kernel
theorem d_Mo_isSection_10 : decode b_Mo_isSection 10 = .ok (.iconst 0, 1) := by decide +kernel
theorem d_Mo_isSection_11 : decode b_Mo_isSection 11 = .ok (.bipush 6, 2) := by decide +kernel
theorem d_Mo_isSection_13 : decode b_Mo_isSection 13 = .ok (.invokestatic 99, 3) := by decide +kernel
theorem d_Mo_isSection_16 : decode b_Mo_isSection 16 = .ok (.ifCond .eq 18, 3) := by decide +kernel
theorem d_Mo_isSection_19 : decode b_Mo_isSection 19 = .ok (.iload_n 2, 1) := by decide +kernel
theorem d_Mo_isSection_20 : decode b_Mo_isSection 20 = .ok (.iconst 0, 1) := by decide +kernel
theorem d_Mo_isSection_21 : decode b_Mo_isSection 21 = .ok (.sipush 128, 3) := by decide +kernel
theorem d_Mo_isSection_24 : decode b_Mo_isSection 24 = .ok (.invokestatic 99, 3) := by decide +kernel
theorem d_Mo_isSection_27 : decode b_Mo_isSection 27 = .ok (.ifCond .eq 7, 3) := by decide +kernel
theorem d_Mo_isSection_30 : decode b_Mo_isSection 30 = .ok (.iconst 1, 1) := by decide +kernel
theorem d_Mo_isSection_31 : decode b_Mo_isSection 31 = .ok (.goto 4, 3) := by decide +kernel
theorem d_Mo_isSection_34 : decode b_Mo_isSection 34 = .ok (.iconst 0, 1) := by decide +kernel
theorem d_Mo_isSection_35 : decode b_Mo_isSection 35 = .ok (.ireturn, 1) := by decide +kernel
theorem d_Mo_addSection_0 : decode b_Mo_addSection 0 = .ok (.bipush 8, 2) := by decide +kernel
theorem d_Mo_addSection_2 : decode b_Mo_addSection 2 = .ok (.iload_n 1, 1) := by decide +kernel
theorem d_Mo_addSection_3 : decode b_Mo_addSection 3 = .ok (.imul, 1) := by decide +kernel
theorem d_Mo_addSection_4 : decode b_Mo_addSection 4 = .ok (.aload_n 0, 1) := by decide +kernel
theorem d_Mo_addSection_5 : decode b_Mo_addSection 5 = .ok (.getfield 7, 3) := by decide +kernel
theorem d_Mo_addSection_8 : decode b_Mo_addSection 8 = .ok (.iload_n 1, 1) := by decide +kernel
theorem d_Mo_addSection_9 : decode b_Mo_addSection 9 = .ok (.iaload, 1) := by decide +kernel
theorem d_Mo_addSection_10 : decode b_Mo_addSection 10 = .ok (.iadd, 1) := by decide +kernel
theorem d_Mo_addSection_11 : decode b_Mo_addSection 11 = .ok (.istore 5, 2) := by decide +kernel
theorem d_Mo_addSection_13 : decode b_Mo_addSection 13 = .ok (.aload_n 0, 1) := by decide +kernel
theorem d_Mo_addSection_14 : decode b_Mo_addSection 14 = .ok (.getfield 13, 3) := by decide +kernel
theorem d_Mo_addSection_17 : decode b_Mo_addSection 17 = .ok (.iload 5, 2) := by decide +kernel
theorem d_Mo_addSection_19 : decode b_Mo_addSection 19 = .ok (.iload_n 2, 1) := by decide +kernel
theorem d_Mo_addSection_20 : decode b_Mo_addSection 20 = .ok (.iastore, 1) := by decide +kernel
theorem d_Mo_addSection_21 : decode b_Mo_addSection 21 = .ok (.aload_n 0, 1) := by decide +kernel
theorem d_Mo_addSection_22 : decode b_Mo_addSection 22 = .ok (.getfield 16, 3) := by decide +kernel
theorem d_Mo_addSection_25 : decode b_Mo_addSection 25 = .ok (.iload 5, 2) := by decide +kernel
theorem d_Mo_addSection_27 : decode b_Mo_addSection 27 = .ok (.iload_n 3, 1) := by decide +kernel
theorem d_Mo_addSection_28 : decode b_Mo_addSection 28 = .ok (.iastore, 1) := by decide +kernel
theorem d_Mo_addSection_29 : decode b_Mo_addSection 29 = .ok (.aload_n 0, 1) := by decide +kernel
theorem d_Mo_addSection_30 : decode b_Mo_addSection 30 = .ok (.getfield 19, 3) := by decide +kernel
theorem d_Mo_addSection_33 : decode b_Mo_addSection 33 = .ok (.iload 5, 2) := by decide +kernel
theorem d_Mo_addSection_35 : decode b_Mo_addSection 35 = .ok (.iload 4, 2) := by decide +kernel
theorem d_Mo_addSection_37 : decode b_Mo_addSection 37 = .ok (.iastore, 1) := by decide +kernel
theorem d_Mo_addSection_38 : decode b_Mo_addSection 38 = .ok (.iconst 0, 1) := by decide +kernel
theorem d_Mo_addSection_39 : decode b_Mo_addSection 39 = .ok (.istore 6, 2) := by decide +kernel
theorem d_Mo_addSection_41 : decode b_Mo_addSection 41 = .ok (.iload 6, 2) := by decide +kernel
theorem d_Mo_addSection_43 : decode b_Mo_addSection 43 = .ok (.sipush 128, 3) := by decide +kernel
theorem d_Mo_addSection_46 : decode b_Mo_addSection 46 = .ok (.if_icmp .ge 24, 3) := by decide +kernel
theorem d_Mo_addSection_49 : decode b_Mo_addSection 49 = .ok (.aload_n 0, 1) := by decide +kernel
theorem d_Mo_addSection_50 : decode b_Mo_addSection 50 = .ok (.getfield 22, 3) := by decide +kernel
theorem d_Mo_addSection_53 : decode b_Mo_addSection 53 = .ok (.sipush 128, 3) := by decide +kernel
theorem d_Mo_addSection_56 : decode b_Mo_addSection 56 = .ok (.iload 5, 2) := by decide +kernel
theorem d_Mo_addSection_58 : decode b_Mo_addSection 58 = .ok (.imul, 1) := by decide +kernel
theorem d_Mo_addSection_59 : decode b_Mo_addSection 59 = .ok (.iload 6, 2) := by decide +kernel
theorem d_Mo_addSection_61 : decode b_Mo_addSection 61 = .ok (.iadd, 1) := by decide +kernel
theorem d_Mo_addSection_62 : decode b_Mo_addSection 62 = .ok (.iconst 0, 1) := by decide +kernel
theorem d_Mo_addSection_63 : decode b_Mo_addSection 63 = .ok (.iastore, 1) := by decide +kernel
theorem d_Mo_addSection_64 : decode b_Mo_addSection 64 = .ok (.iinc 6 1, 3) := by decide +kernel
theorem d_Mo_addSection_67 : decode b_Mo_addSection 67 = .ok (.goto (-26), 3) := by decide +kernel
theorem d_Mo_addSection_70 : decode b_Mo_addSection 70 = .ok (.aload_n 0, 1) := by decide +kernel
theorem d_Mo_addSection_71 : decode b_Mo_addSection 71 = .ok (.getfield 7, 3) := by decide +kernel
theorem d_Mo_addSection_74 : decode b_Mo_addSection 74 = .ok (.iload_n 1, 1) := by decide +kernel
theorem d_Mo_addSection_75 : decode b_Mo_addSection 75 = .ok (.dup2, 1) := by decide +kernel
theorem d_Mo_addSection_76 : decode b_Mo_addSection 76 = .ok (.iaload, 1) := by decide +kernel
theorem d_Mo_addSection_77 : decode b_Mo_addSection 77 = .ok (.iconst 1, 1) := by decide +kernel
theorem d_Mo_addSection_78 : decode b_Mo_addSection 78 = .ok (.iadd, 1) := by decide +kernel
theorem d_Mo_addSection_79 : decode b_Mo_addSection 79 = .ok (.iastore, 1) := by decide +kernel
theorem d_Mo_addSection_80 : decode b_Mo_addSection 80 = .ok (.return_, 1) := by decide +kernel
theorem d_Mo_bytes_0 : decode b_Mo_bytes 0 = .ok (.aload_n 0, 1) := by decide +kernel
theorem d_Mo_bytes_1 : decode b_Mo_bytes 1 = .ok (.iload_n 1, 1) := by decide +kernel
theorem d_Mo_bytes_2 : decode b_Mo_bytes 2 = .ok (.invokevirtual 111, 3) := by decide +kernel
theorem d_Mo_bytes_5 : decode b_Mo_bytes 5 = .ok (.ifCond .ne 5, 3) := by decide +kernel
theorem d_Mo_bytes_8 : decode b_Mo_bytes 8 = .ok (.iconst 0, 1) := by decide +kernel
theorem d_Mo_bytes_9 : decode b_Mo_bytes 9 = .ok (.ireturn, 1) := by decide +kernel
theorem d_Mo_bytes_10 : decode b_Mo_bytes 10 = .ok (.bipush 8, 2) := by decide +kernel
theorem d_Mo_bytes_12 : decode b_Mo_bytes 12 = .ok (.iload_n 1, 1) := by decide +kernel
theorem d_Mo_bytes_13 : decode b_Mo_bytes 13 = .ok (.imul, 1) := by decide +kernel
theorem d_Mo_bytes_14 : decode b_Mo_bytes 14 = .ok (.iload_n 2, 1) := by decide +kernel
theorem d_Mo_bytes_15 : decode b_Mo_bytes 15 = .ok (.iadd, 1) := by decide +kernel
theorem d_Mo_bytes_16 : decode b_Mo_bytes 16 = .ok (.istore 5, 2) := by decide +kernel
theorem d_Mo_bytes_18 : decode b_Mo_bytes 18 = .ok (.aload_n 0, 1) := by decide +kernel
theorem d_Mo_bytes_19 : decode b_Mo_bytes 19 = .ok (.iload_n 1, 1) := by decide +kernel
theorem d_Mo_bytes_20 : decode b_Mo_bytes 20 = .ok (.iload_n 2, 1) := by decide +kernel
theorem d_Mo_bytes_21 : decode b_Mo_bytes 21 = .ok (.invokevirtual 122, 3) := by decide +kernel
theorem d_Mo_bytes_24 : decode b_Mo_bytes 24 = .ok (.ifCond .eq 31, 3) := by decide +kernel
theorem d_Mo_bytes_27 : decode b_Mo_bytes 27 = .ok (.aload_n 0, 1) := by decide +kernel
theorem d_Mo_bytes_28 : decode b_Mo_bytes 28 = .ok (.getfield 13, 3) := by decide +kernel
theorem d_Mo_bytes_31 : decode b_Mo_bytes 31 = .ok (.iload 5, 2) := by decide +kernel
theorem d_Mo_bytes_33 : decode b_Mo_bytes 33 = .ok (.iaload, 1) := by decide +kernel
theorem d_Mo_bytes_34 : decode b_Mo_bytes 34 = .ok (.iconst 3, 1) := by decide +kernel
theorem d_Mo_bytes_35 : decode b_Mo_bytes 35 = .ok (.if_icmp .eq 20, 3) := by decide +kernel
theorem d_Mo_bytes_38 : decode b_Mo_bytes 38 = .ok (.iload_n 3, 1) := by decide +kernel
theorem d_Mo_bytes_39 : decode b_Mo_bytes 39 = .ok (.iconst 0, 1) := by decide +kernel
theorem d_Mo_bytes_40 : decode b_Mo_bytes 40 = .ok (.aload_n 0, 1) := by decide +kernel
theorem d_Mo_bytes_41 : decode b_Mo_bytes 41 = .ok (.getfield 19, 3) := by decide +kernel
theorem d_Mo_bytes_44 : decode b_Mo_bytes 44 = .ok (.iload 5, 2) := by decide +kernel
theorem d_Mo_bytes_46 : decode b_Mo_bytes 46 = .ok (.iaload, 1) := by decide +kernel
theorem d_Mo_bytes_47 : decode b_Mo_bytes 47 = .ok (.iconst 1, 1) := by decide +kernel
theorem d_Mo_bytes_48 : decode b_Mo_bytes 48 = .ok (.isub, 1) := by decide +kernel
theorem d_Mo_bytes_49 : decode b_Mo_bytes 49 = .ok (.invokestatic 99, 3) := by decide +kernel
theorem d_Mo_bytes_52 : decode b_Mo_bytes 52 = .ok (.ifCond .ne 9, 3) := by decide +kernel
theorem d_Mo_bytes_55 : decode b_Mo_bytes 55 = .ok (.aload_n 0, 1) := by decide +kernel
theorem d_Mo_bytes_56 : decode b_Mo_bytes 56 = .ok (.iconst 2, 1) := by decide +kernel
theorem d_Mo_bytes_57 : decode b_Mo_bytes 57 = .ok (.invokevirtual 103, 3) := by decide +kernel
theorem d_Mo_bytes_60 : decode b_Mo_bytes 60 = .ok (.ireturn, 1) := by decide +kernel
theorem d_Mo_bytes_61 : decode b_Mo_bytes 61 = .ok (.iconst 0, 1) := by decide +kernel
theorem d_Mo_bytes_62 : decode b_Mo_bytes 62 = .ok (.istore 6, 2) := by decide +kernel
theorem d_Mo_bytes_64 : decode b_Mo_bytes 64 = .ok (.iconst 0, 1) := by decide +kernel
theorem d_Mo_bytes_65 : decode b_Mo_bytes 65 = .ok (.istore 7, 2) := by decide +kernel
theorem d_Mo_bytes_67 : decode b_Mo_bytes 67 = .ok (.iload 7, 2) := by decide +kernel
theorem d_Mo_bytes_69 : decode b_Mo_bytes 69 = .ok (.iconst 4, 1) := by decide +kernel
theorem d_Mo_bytes_70 : decode b_Mo_bytes 70 = .ok (.if_icmp .ge 57, 3) := by decide +kernel
theorem d_Mo_bytes_73 : decode b_Mo_bytes 73 = .ok (.iload_n 3, 1) := by decide +kernel
theorem d_Mo_bytes_74 : decode b_Mo_bytes 74 = .ok (.iload 7, 2) := by decide +kernel
theorem d_Mo_bytes_76 : decode b_Mo_bytes 76 = .ok (.iadd, 1) := by decide +kernel
theorem d_Mo_bytes_77 : decode b_Mo_bytes 77 = .ok (.aload_n 0, 1) := by decide +kernel
theorem d_Mo_bytes_78 : decode b_Mo_bytes 78 = .ok (.getfield 19, 3) := by decide +kernel
theorem d_Mo_bytes_81 : decode b_Mo_bytes 81 = .ok (.iload 5, 2) := by decide +kernel
theorem d_Mo_bytes_83 : decode b_Mo_bytes 83 = .ok (.iaload, 1) := by decide +kernel
theorem d_Mo_bytes_84 : decode b_Mo_bytes 84 = .ok (.if_icmp .ge 43, 3) := by decide +kernel
theorem d_Mo_bytes_87 : decode b_Mo_bytes 87 = .ok (.aload_n 0, 1) := by decide +kernel
theorem d_Mo_bytes_88 : decode b_Mo_bytes 88 = .ok (.getfield 22, 3) := by decide +kernel
theorem d_Mo_bytes_91 : decode b_Mo_bytes 91 = .ok (.sipush 128, 3) := by decide +kernel
theorem d_Mo_bytes_94 : decode b_Mo_bytes 94 = .ok (.iload 5, 2) := by decide +kernel
theorem d_Mo_bytes_96 : decode b_Mo_bytes 96 = .ok (.imul, 1) := by decide +kernel
theorem d_Mo_bytes_97 : decode b_Mo_bytes 97 = .ok (.iload_n 3, 1) := by decide +kernel
theorem d_Mo_bytes_98 : decode b_Mo_bytes 98 = .ok (.iadd, 1) := by decide +kernel
theorem d_Mo_bytes_99 : decode b_Mo_bytes 99 = .ok (.iload 7, 2) := by decide +kernel
theorem d_Mo_bytes_101 : decode b_Mo_bytes 101 = .ok (.iadd, 1) := by decide +kernel
theorem d_Mo_bytes_102 : decode b_Mo_bytes 102 = .ok (.iload 4, 2) := by decide +kernel
theorem d_Mo_bytes_104 : decode b_Mo_bytes 104 = .ok (.bipush 24, 2) := by decide +kernel
theorem d_Mo_bytes_106 : decode b_Mo_bytes 106 = .ok (.bipush 8, 2) := by decide +kernel
theorem d_Mo_bytes_108 : decode b_Mo_bytes 108 = .ok (.iload 7, 2) := by decide +kernel
theorem d_Mo_bytes_110 : decode b_Mo_bytes 110 = .ok (.imul, 1) := by decide +kernel
theorem d_Mo_bytes_111 : decode b_Mo_bytes 111 = .ok (.isub, 1) := by decide +kernel
theorem d_Mo_bytes_112 : decode b_Mo_bytes 112 = .ok (.ishr, 1) := by decide +kernel
theorem d_Mo_bytes_113 : decode b_Mo_bytes 113 = .ok (.sipush 255, 3) := by decide +kernel
theorem d_Mo_bytes_116 : decode b_Mo_bytes 116 = .ok (.iand, 1) := by decide +kernel
theorem d_Mo_bytes_117 : decode b_Mo_bytes 117 = .ok (.iastore, 1) := by decide +kernel
theorem d_Mo_bytes_118 : decode b_Mo_bytes 118 = .ok (.iinc 6 1, 3) := by decide +kernel
theorem d_Mo_bytes_121 : decode b_Mo_bytes 121 = .ok (.iinc 7 1, 3) := by decide +kernel
theorem d_Mo_bytes_124 : decode b_Mo_bytes 124 = .ok (.goto (-57), 3) := by decide +kernel
theorem d_Mo_bytes_127 : decode b_Mo_bytes 127 = .ok (.iload 6, 2) := by decide +kernel
theorem d_Mo_bytes_129 : decode b_Mo_bytes 129 = .ok (.ireturn, 1) := by decide +kernel
theorem d_Mo_hasSection_0 : decode b_Mo_hasSection 0 = .ok (.iload_n 2, 1) := by decide +kernel
theorem d_Mo_hasSection_1 : decode b_Mo_hasSection 1 = .ok (.iconst 0, 1) := by decide +kernel
theorem d_Mo_hasSection_2 : decode b_Mo_hasSection 2 = .ok (.aload_n 0, 1) := by decide +kernel
theorem d_Mo_hasSection_3 : decode b_Mo_hasSection 3 = .ok (.getfield 7, 3) := by decide +kernel
theorem d_Mo_hasSection_6 : decode b_Mo_hasSection 6 = .ok (.iload_n 1, 1) := by decide +kernel
theorem d_Mo_hasSection_7 : decode b_Mo_hasSection 7 = .ok (.iaload, 1) := by decide +kernel
theorem d_Mo_hasSection_8 : decode b_Mo_hasSection 8 = .ok (.iconst 1, 1) := by decide +kernel
theorem d_Mo_hasSection_9 : decode b_Mo_hasSection 9 = .ok (.isub, 1) := by decide +kernel
theorem d_Mo_hasSection_10 : decode b_Mo_hasSection 10 = .ok (.invokestatic 99, 3) := by decide +kernel
theorem d_Mo_hasSection_13 : decode b_Mo_hasSection 13 = .ok (.ireturn, 1) := by decide +kernel
theorem d_Mo_name_0 : decode b_Mo_name 0 = .ok (.aload_n 0, 1) := by decide +kernel
theorem d_Mo_name_1 : decode b_Mo_name 1 = .ok (.iload_n 1, 1) := by decide +kernel
theorem d_Mo_name_2 : decode b_Mo_name 2 = .ok (.invokevirtual 111, 3) := by decide +kernel
theorem d_Mo_name_5 : decode b_Mo_name 5 = .ok (.ifCond .ne 5, 3) := by decide +kernel
theorem d_Mo_name_8 : decode b_Mo_name 8 = .ok (.iconst 0, 1) := by decide +kernel
theorem d_Mo_name_9 : decode b_Mo_name 9 = .ok (.ireturn, 1) := by decide +kernel
theorem d_Mo_name_10 : decode b_Mo_name 10 = .ok (.aload_n 0, 1) := by decide +kernel
theorem d_Mo_name_11 : decode b_Mo_name 11 = .ok (.iload_n 1, 1) := by decide +kernel
theorem d_Mo_name_12 : decode b_Mo_name 12 = .ok (.iload_n 2, 1) := by decide +kernel
theorem d_Mo_name_13 : decode b_Mo_name 13 = .ok (.iload_n 3, 1) := by decide +kernel
theorem d_Mo_name_14 : decode b_Mo_name 14 = .ok (.iload 4, 2) := by decide +kernel
theorem d_Mo_name_16 : decode b_Mo_name 16 = .ok (.iload 5, 2) := by decide +kernel
theorem d_Mo_name_18 : decode b_Mo_name 18 = .ok (.invokevirtual 129, 3) := by decide +kernel
theorem d_Mo_name_21 : decode b_Mo_name 21 = .ok (.ifCond .ne 9, 3) := by decide +kernel
theorem d_Mo_name_24 : decode b_Mo_name 24 = .ok (.aload_n 0, 1) := by decide +kernel
theorem d_Mo_name_25 : decode b_Mo_name 25 = .ok (.iconst 2, 1) := by decide +kernel
theorem d_Mo_name_26 : decode b_Mo_name 26 = .ok (.invokevirtual 103, 3) := by decide +kernel
theorem d_Mo_name_29 : decode b_Mo_name 29 = .ok (.ireturn, 1) := by decide +kernel
theorem d_Mo_name_30 : decode b_Mo_name 30 = .ok (.aload_n 0, 1) := by decide +kernel
theorem d_Mo_name_31 : decode b_Mo_name 31 = .ok (.getfield 25, 3) := by decide +kernel
theorem d_Mo_name_34 : decode b_Mo_name 34 = .ok (.iload_n 1, 1) := by decide +kernel
theorem d_Mo_name_35 : decode b_Mo_name 35 = .ok (.iaload, 1) := by decide +kernel
theorem d_Mo_name_36 : decode b_Mo_name 36 = .ok (.bipush 12, 2) := by decide +kernel
theorem d_Mo_name_38 : decode b_Mo_name 38 = .ok (.if_icmp .ne 9, 3) := by decide +kernel
theorem d_Mo_name_41 : decode b_Mo_name 41 = .ok (.aload_n 0, 1) := by decide +kernel
theorem d_Mo_name_42 : decode b_Mo_name 42 = .ok (.iconst 3, 1) := by decide +kernel
theorem d_Mo_name_43 : decode b_Mo_name 43 = .ok (.invokevirtual 103, 3) := by decide +kernel
theorem d_Mo_name_46 : decode b_Mo_name 46 = .ok (.ireturn, 1) := by decide +kernel
theorem d_Mo_name_47 : decode b_Mo_name 47 = .ok (.aload_n 0, 1) := by decide +kernel
theorem d_Mo_name_48 : decode b_Mo_name 48 = .ok (.iload_n 1, 1) := by decide +kernel
theorem d_Mo_name_49 : decode b_Mo_name 49 = .ok (.iload_n 2, 1) := by decide +kernel
theorem d_Mo_name_50 : decode b_Mo_name 50 = .ok (.iload_n 3, 1) := by decide +kernel
theorem d_Mo_name_51 : decode b_Mo_name 51 = .ok (.iload 4, 2) := by decide +kernel
theorem d_Mo_name_53 : decode b_Mo_name 53 = .ok (.iload 5, 2) := by decide +kernel
theorem d_Mo_name_55 : decode b_Mo_name 55 = .ok (.invokevirtual 133, 3) := by decide +kernel
theorem d_Mo_name_58 : decode b_Mo_name 58 = .ok (.aload_n 0, 1) := by decide +kernel
theorem d_Mo_name_59 : decode b_Mo_name 59 = .ok (.getfield 25, 3) := by decide +kernel
theorem d_Mo_name_62 : decode b_Mo_name 62 = .ok (.iload_n 1, 1) := by decide +kernel
theorem d_Mo_name_63 : decode b_Mo_name 63 = .ok (.iaload, 1) := by decide +kernel
theorem d_Mo_name_64 : decode b_Mo_name 64 = .ok (.iconst 1, 1) := by decide +kernel
theorem d_Mo_name_65 : decode b_Mo_name 65 = .ok (.isub, 1) := by decide +kernel
theorem d_Mo_name_66 : decode b_Mo_name 66 = .ok (.ireturn, 1) := by decide +kernel
theorem d_Mo_isName_0 : decode b_Mo_isName 0 = .ok (.iload_n 3, 1) := by decide +kernel
theorem d_Mo_isName_1 : decode b_Mo_isName 1 = .ok (.iconst 0, 1) := by decide +kernel
theorem d_Mo_isName_2 : decode b_Mo_isName 2 = .ok (.iconst 3, 1) := by decide +kernel
theorem d_Mo_isName_3 : decode b_Mo_isName 3 = .ok (.invokestatic 99, 3) := by decide +kernel
theorem d_Mo_isName_6 : decode b_Mo_isName 6 = .ok (.ifCond .eq 12, 3) := by decide +kernel
theorem d_Mo_isName_9 : decode b_Mo_isName 9 = .ok (.aload_n 0, 1) := by decide +kernel
theorem d_Mo_isName_10 : decode b_Mo_isName 10 = .ok (.iload_n 1, 1) := by decide +kernel
theorem d_Mo_isName_11 : decode b_Mo_isName 11 = .ok (.iload_n 2, 1) := by decide +kernel
theorem d_Mo_isName_12 : decode b_Mo_isName 12 = .ok (.invokevirtual 126, 3) := by decide +kernel
theorem d_Mo_isName_15 : decode b_Mo_isName 15 = .ok (.ifCond .eq 5, 3) := by decide +kernel
theorem d_Mo_isName_18 : decode b_Mo_isName 18 = .ok (.iconst 0, 1) := by decide +kernel
theorem d_Mo_isName_19 : decode b_Mo_isName 19 = .ok (.ireturn, 1) := by decide +kernel
theorem d_Mo_isName_20 : decode b_Mo_isName 20 = .ok (.iload_n 3, 1) := by decide +kernel
theorem d_Mo_isName_21 : decode b_Mo_isName 21 = .ok (.iconst 3, 1) := by decide +kernel
theorem d_Mo_isName_22 : decode b_Mo_isName 22 = .ok (.if_icmp .ne 19, 3) := by decide +kernel
theorem d_Mo_isName_25 : decode b_Mo_isName 25 = .ok (.iload 4, 2) := by decide +kernel
theorem d_Mo_isName_27 : decode b_Mo_isName 27 = .ok (.ifCond .ne 12, 3) := by decide +kernel
theorem d_Mo_isName_30 : decode b_Mo_isName 30 = .ok (.iload 5, 2) := by decide +kernel
theorem d_Mo_isName_32 : decode b_Mo_isName 32 = .ok (.ifCond .ne 7, 3) := by decide +kernel
theorem d_Mo_isName_35 : decode b_Mo_isName 35 = .ok (.iconst 1, 1) := by decide +kernel
theorem d_Mo_isName_36 : decode b_Mo_isName 36 = .ok (.goto 4, 3) := by decide +kernel
theorem d_Mo_isName_39 : decode b_Mo_isName 39 = .ok (.iconst 0, 1) := by decide +kernel
theorem d_Mo_isName_40 : decode b_Mo_isName 40 = .ok (.ireturn, 1) := by decide +kernel
theorem d_Mo_isName_41 : decode b_Mo_isName 41 = .ok (.iload_n 3, 1) := by decide +kernel
theorem d_Mo_isName_42 : decode b_Mo_isName 42 = .ok (.iconst 2, 1) := by decide +kernel
theorem d_Mo_isName_43 : decode b_Mo_isName 43 = .ok (.if_icmp .ne 32, 3) := by decide +kernel
theorem d_Mo_isName_46 : decode b_Mo_isName 46 = .ok (.iload 4, 2) := by decide +kernel
theorem d_Mo_isName_48 : decode b_Mo_isName 48 = .ok (.iconst 0, 1) := by decide +kernel
theorem d_Mo_isName_49 : decode b_Mo_isName 49 = .ok (.bipush 6, 2) := by decide +kernel
theorem d_Mo_isName_51 : decode b_Mo_isName 51 = .ok (.invokestatic 99, 3) := by decide +kernel
theorem d_Mo_isName_54 : decode b_Mo_isName 54 = .ok (.ifCond .eq 19, 3) := by decide +kernel
theorem d_Mo_isName_57 : decode b_Mo_isName 57 = .ok (.iload 5, 2) := by decide +kernel
theorem d_Mo_isName_59 : decode b_Mo_isName 59 = .ok (.iconst 1, 1) := by decide +kernel
theorem d_Mo_isName_60 : decode b_Mo_isName 60 = .ok (.sipush 1024, 3) := by decide +kernel
theorem d_Mo_isName_63 : decode b_Mo_isName 63 = .ok (.invokestatic 99, 3) := by decide +kernel
theorem d_Mo_isName_66 : decode b_Mo_isName 66 = .ok (.ifCond .eq 7, 3) := by decide +kernel
theorem d_Mo_isName_69 : decode b_Mo_isName 69 = .ok (.iconst 1, 1) := by decide +kernel
theorem d_Mo_isName_70 : decode b_Mo_isName 70 = .ok (.goto 4, 3) := by decide +kernel
theorem d_Mo_isName_73 : decode b_Mo_isName 73 = .ok (.iconst 0, 1) := by decide +kernel
theorem d_Mo_isName_74 : decode b_Mo_isName 74 = .ok (.ireturn, 1) := by decide +kernel
theorem d_Mo_isName_75 : decode b_Mo_isName 75 = .ok (.aload_n 0, 1) := by decide +kernel
theorem d_Mo_isName_76 : decode b_Mo_isName 76 = .ok (.iload_n 1, 1) := by decide +kernel
theorem d_Mo_isName_77 : decode b_Mo_isName 77 = .ok (.iload 4, 2) := by decide +kernel
theorem d_Mo_isName_79 : decode b_Mo_isName 79 = .ok (.invokevirtual 122, 3) := by decide +kernel
theorem d_Mo_isName_82 : decode b_Mo_isName 82 = .ok (.ifCond .eq 28, 3) := by decide +kernel
theorem d_Mo_isName_85 : decode b_Mo_isName 85 = .ok (.iload 5, 2) := by decide +kernel
theorem d_Mo_isName_87 : decode b_Mo_isName 87 = .ok (.iconst 0, 1) := by decide +kernel
theorem d_Mo_isName_88 : decode b_Mo_isName 88 = .ok (.aload_n 0, 1) := by decide +kernel
theorem d_Mo_isName_89 : decode b_Mo_isName 89 = .ok (.getfield 19, 3) := by decide +kernel
theorem d_Mo_isName_92 : decode b_Mo_isName 92 = .ok (.bipush 8, 2) := by decide +kernel
theorem d_Mo_isName_94 : decode b_Mo_isName 94 = .ok (.iload_n 1, 1) := by decide +kernel
theorem d_Mo_isName_95 : decode b_Mo_isName 95 = .ok (.imul, 1) := by decide +kernel
theorem d_Mo_isName_96 : decode b_Mo_isName 96 = .ok (.iload 4, 2) := by decide +kernel
theorem d_Mo_isName_98 : decode b_Mo_isName 98 = .ok (.iadd, 1) := by decide +kernel
theorem d_Mo_isName_99 : decode b_Mo_isName 99 = .ok (.iaload, 1) := by decide +kernel
theorem d_Mo_isName_100 : decode b_Mo_isName 100 = .ok (.invokestatic 99, 3) := by decide +kernel
theorem d_Mo_isName_103 : decode b_Mo_isName 103 = .ok (.ifCond .eq 7, 3) := by decide +kernel
theorem d_Mo_isName_106 : decode b_Mo_isName 106 = .ok (.iconst 1, 1) := by decide +kernel
theorem d_Mo_isName_107 : decode b_Mo_isName 107 = .ok (.goto 4, 3) := by decide +kernel
theorem d_Mo_isName_110 : decode b_Mo_isName 110 = .ok (.iconst 0, 1) := by decide +kernel
theorem d_Mo_isName_111 : decode b_Mo_isName 111 = .ok (.ireturn, 1) := by decide +kernel
theorem d_Mo_hasName_0 : decode b_Mo_hasName 0 = .ok (.iconst 0, 1) := by decide +kernel
theorem d_Mo_hasName_1 : decode b_Mo_hasName 1 = .ok (.istore_n 3, 1) := by decide +kernel
theorem d_Mo_hasName_2 : decode b_Mo_hasName 2 = .ok (.iconst 0, 1) := by decide +kernel
theorem d_Mo_hasName_3 : decode b_Mo_hasName 3 = .ok (.istore 4, 2) := by decide +kernel
theorem d_Mo_hasName_5 : decode b_Mo_hasName 5 = .ok (.iload 4, 2) := by decide +kernel
theorem d_Mo_hasName_7 : decode b_Mo_hasName 7 = .ok (.aload_n 0, 1) := by decide +kernel
theorem d_Mo_hasName_8 : decode b_Mo_hasName 8 = .ok (.getfield 25, 3) := by decide +kernel
theorem d_Mo_hasName_11 : decode b_Mo_hasName 11 = .ok (.iload_n 1, 1) := by decide +kernel
theorem d_Mo_hasName_12 : decode b_Mo_hasName 12 = .ok (.iaload, 1) := by decide +kernel
theorem d_Mo_hasName_13 : decode b_Mo_hasName 13 = .ok (.if_icmp .ge 35, 3) := by decide +kernel
theorem d_Mo_hasName_16 : decode b_Mo_hasName 16 = .ok (.iload_n 3, 1) := by decide +kernel
theorem d_Mo_hasName_17 : decode b_Mo_hasName 17 = .ok (.ifCond .ne 19, 3) := by decide +kernel
theorem d_Mo_hasName_20 : decode b_Mo_hasName 20 = .ok (.aload_n 0, 1) := by decide +kernel
theorem d_Mo_hasName_21 : decode b_Mo_hasName 21 = .ok (.getfield 28, 3) := by decide +kernel
theorem d_Mo_hasName_24 : decode b_Mo_hasName 24 = .ok (.bipush 12, 2) := by decide +kernel
theorem d_Mo_hasName_26 : decode b_Mo_hasName 26 = .ok (.iload_n 1, 1) := by decide +kernel
theorem d_Mo_hasName_27 : decode b_Mo_hasName 27 = .ok (.imul, 1) := by decide +kernel
theorem d_Mo_hasName_28 : decode b_Mo_hasName 28 = .ok (.iload 4, 2) := by decide +kernel
theorem d_Mo_hasName_30 : decode b_Mo_hasName 30 = .ok (.iadd, 1) := by decide +kernel
theorem d_Mo_hasName_31 : decode b_Mo_hasName 31 = .ok (.iaload, 1) := by decide +kernel
theorem d_Mo_hasName_32 : decode b_Mo_hasName 32 = .ok (.iload_n 2, 1) := by decide +kernel
theorem d_Mo_hasName_33 : decode b_Mo_hasName 33 = .ok (.if_icmp .ne 7, 3) := by decide +kernel
theorem d_Mo_hasName_36 : decode b_Mo_hasName 36 = .ok (.iconst 1, 1) := by decide +kernel
theorem d_Mo_hasName_37 : decode b_Mo_hasName 37 = .ok (.goto 4, 3) := by decide +kernel
theorem d_Mo_hasName_40 : decode b_Mo_hasName 40 = .ok (.iconst 0, 1) := by decide +kernel
theorem d_Mo_hasName_41 : decode b_Mo_hasName 41 = .ok (.istore_n 3, 1) := by decide +kernel
theorem d_Mo_hasName_42 : decode b_Mo_hasName 42 = .ok (.iinc 4 1, 3) := by decide +kernel
theorem d_Mo_hasName_45 : decode b_Mo_hasName 45 = .ok (.goto (-40), 3) := by decide +kernel
theorem d_Mo_hasName_48 : decode b_Mo_hasName 48 = .ok (.iload_n 3, 1) := by decide +kernel
theorem d_Mo_hasName_49 : decode b_Mo_hasName 49 = .ok (.ireturn, 1) := by decide +kernel
theorem d_Mo_addName_0 : decode b_Mo_addName 0 = .ok (.bipush 12, 2) := by decide +kernel
theorem d_Mo_addName_2 : decode b_Mo_addName 2 = .ok (.iload_n 1, 1) := by decide +kernel
theorem d_Mo_addName_3 : decode b_Mo_addName 3 = .ok (.imul, 1) := by decide +kernel
theorem d_Mo_addName_4 : decode b_Mo_addName 4 = .ok (.aload_n 0, 1) := by decide +kernel
theorem d_Mo_addName_5 : decode b_Mo_addName 5 = .ok (.getfield 25, 3) := by decide +kernel
theorem d_Mo_addName_8 : decode b_Mo_addName 8 = .ok (.iload_n 1, 1) := by decide +kernel
theorem d_Mo_addName_9 : decode b_Mo_addName 9 = .ok (.iaload, 1) := by decide +kernel
theorem d_Mo_addName_10 : decode b_Mo_addName 10 = .ok (.iadd, 1) := by decide +kernel
theorem d_Mo_addName_11 : decode b_Mo_addName 11 = .ok (.istore 6, 2) := by decide +kernel
theorem d_Mo_addName_13 : decode b_Mo_addName 13 = .ok (.aload_n 0, 1) := by decide +kernel
theorem d_Mo_addName_14 : decode b_Mo_addName 14 = .ok (.getfield 28, 3) := by decide +kernel
theorem d_Mo_addName_17 : decode b_Mo_addName 17 = .ok (.iload 6, 2) := by decide +kernel
theorem d_Mo_addName_19 : decode b_Mo_addName 19 = .ok (.iload_n 2, 1) := by decide +kernel
theorem d_Mo_addName_20 : decode b_Mo_addName 20 = .ok (.iastore, 1) := by decide +kernel
theorem d_Mo_addName_21 : decode b_Mo_addName 21 = .ok (.aload_n 0, 1) := by decide +kernel
theorem d_Mo_addName_22 : decode b_Mo_addName 22 = .ok (.getfield 31, 3) := by decide +kernel
theorem d_Mo_addName_25 : decode b_Mo_addName 25 = .ok (.iload 6, 2) := by decide +kernel
theorem d_Mo_addName_27 : decode b_Mo_addName 27 = .ok (.iload_n 3, 1) := by decide +kernel
theorem d_Mo_addName_28 : decode b_Mo_addName 28 = .ok (.iastore, 1) := by decide +kernel
theorem d_Mo_addName_29 : decode b_Mo_addName 29 = .ok (.aload_n 0, 1) := by decide +kernel
theorem d_Mo_addName_30 : decode b_Mo_addName 30 = .ok (.getfield 34, 3) := by decide +kernel
theorem d_Mo_addName_33 : decode b_Mo_addName 33 = .ok (.iload 6, 2) := by decide +kernel
theorem d_Mo_addName_35 : decode b_Mo_addName 35 = .ok (.iload 4, 2) := by decide +kernel
theorem d_Mo_addName_37 : decode b_Mo_addName 37 = .ok (.iastore, 1) := by decide +kernel
theorem d_Mo_addName_38 : decode b_Mo_addName 38 = .ok (.aload_n 0, 1) := by decide +kernel
theorem d_Mo_addName_39 : decode b_Mo_addName 39 = .ok (.getfield 37, 3) := by decide +kernel
theorem d_Mo_addName_42 : decode b_Mo_addName 42 = .ok (.iload 6, 2) := by decide +kernel
theorem d_Mo_addName_44 : decode b_Mo_addName 44 = .ok (.iload 5, 2) := by decide +kernel
theorem d_Mo_addName_46 : decode b_Mo_addName 46 = .ok (.iastore, 1) := by decide +kernel
theorem d_Mo_addName_47 : decode b_Mo_addName 47 = .ok (.aload_n 0, 1) := by decide +kernel
theorem d_Mo_addName_48 : decode b_Mo_addName 48 = .ok (.getfield 25, 3) := by decide +kernel
theorem d_Mo_addName_51 : decode b_Mo_addName 51 = .ok (.iload_n 1, 1) := by decide +kernel
theorem d_Mo_addName_52 : decode b_Mo_addName 52 = .ok (.dup2, 1) := by decide +kernel
theorem d_Mo_addName_53 : decode b_Mo_addName 53 = .ok (.iaload, 1) := by decide +kernel
theorem d_Mo_addName_54 : decode b_Mo_addName 54 = .ok (.iconst 1, 1) := by decide +kernel
theorem d_Mo_addName_55 : decode b_Mo_addName 55 = .ok (.iadd, 1) := by decide +kernel
theorem d_Mo_addName_56 : decode b_Mo_addName 56 = .ok (.iastore, 1) := by decide +kernel
theorem d_Mo_addName_57 : decode b_Mo_addName 57 = .ok (.return_, 1) := by decide +kernel
theorem d_Mo_reference_0 : decode b_Mo_reference 0 = .ok (.aload_n 0, 1) := by decide +kernel
theorem d_Mo_reference_1 : decode b_Mo_reference 1 = .ok (.iload_n 1, 1) := by decide +kernel
theorem d_Mo_reference_2 : decode b_Mo_reference 2 = .ok (.invokevirtual 111, 3) := by decide +kernel
theorem d_Mo_reference_5 : decode b_Mo_reference 5 = .ok (.ifCond .ne 5, 3) := by decide +kernel
theorem d_Mo_reference_8 : decode b_Mo_reference 8 = .ok (.iconst 0, 1) := by decide +kernel
theorem d_Mo_reference_9 : decode b_Mo_reference 9 = .ok (.ireturn, 1) := by decide +kernel
theorem d_Mo_reference_10 : decode b_Mo_reference 10 = .ok (.aload_n 0, 1) := by decide +kernel
theorem d_Mo_reference_11 : decode b_Mo_reference 11 = .ok (.iload_n 1, 1) := by decide +kernel
theorem d_Mo_reference_12 : decode b_Mo_reference 12 = .ok (.iload_n 2, 1) := by decide +kernel
theorem d_Mo_reference_13 : decode b_Mo_reference 13 = .ok (.iload_n 3, 1) := by decide +kernel
theorem d_Mo_reference_14 : decode b_Mo_reference 14 = .ok (.iload 4, 2) := by decide +kernel
theorem d_Mo_reference_16 : decode b_Mo_reference 16 = .ok (.iload 5, 2) := by decide +kernel
theorem d_Mo_reference_18 : decode b_Mo_reference 18 = .ok (.invokevirtual 137, 3) := by decide +kernel
theorem d_Mo_reference_21 : decode b_Mo_reference 21 = .ok (.ifCond .ne 9, 3) := by decide +kernel
theorem d_Mo_reference_24 : decode b_Mo_reference 24 = .ok (.aload_n 0, 1) := by decide +kernel
theorem d_Mo_reference_25 : decode b_Mo_reference 25 = .ok (.iconst 2, 1) := by decide +kernel
theorem d_Mo_reference_26 : decode b_Mo_reference 26 = .ok (.invokevirtual 103, 3) := by decide +kernel
theorem d_Mo_reference_29 : decode b_Mo_reference 29 = .ok (.ireturn, 1) := by decide +kernel
theorem d_Mo_reference_30 : decode b_Mo_reference 30 = .ok (.aload_n 0, 1) := by decide +kernel
theorem d_Mo_reference_31 : decode b_Mo_reference 31 = .ok (.getfield 40, 3) := by decide +kernel
theorem d_Mo_reference_34 : decode b_Mo_reference 34 = .ok (.iload_n 1, 1) := by decide +kernel
theorem d_Mo_reference_35 : decode b_Mo_reference 35 = .ok (.iaload, 1) := by decide +kernel
theorem d_Mo_reference_36 : decode b_Mo_reference 36 = .ok (.bipush 16, 2) := by decide +kernel
theorem d_Mo_reference_38 : decode b_Mo_reference 38 = .ok (.if_icmp .ne 9, 3) := by decide +kernel
theorem d_Mo_reference_41 : decode b_Mo_reference 41 = .ok (.aload_n 0, 1) := by decide +kernel
theorem d_Mo_reference_42 : decode b_Mo_reference 42 = .ok (.iconst 3, 1) := by decide +kernel
theorem d_Mo_reference_43 : decode b_Mo_reference 43 = .ok (.invokevirtual 103, 3) := by decide +kernel
theorem d_Mo_reference_46 : decode b_Mo_reference 46 = .ok (.ireturn, 1) := by decide +kernel
theorem d_Mo_reference_47 : decode b_Mo_reference 47 = .ok (.aload_n 0, 1) := by decide +kernel
theorem d_Mo_reference_48 : decode b_Mo_reference 48 = .ok (.iload_n 1, 1) := by decide +kernel
theorem d_Mo_reference_49 : decode b_Mo_reference 49 = .ok (.iload_n 2, 1) := by decide +kernel
theorem d_Mo_reference_50 : decode b_Mo_reference 50 = .ok (.iload_n 3, 1) := by decide +kernel
theorem d_Mo_reference_51 : decode b_Mo_reference 51 = .ok (.iload 4, 2) := by decide +kernel
theorem d_Mo_reference_53 : decode b_Mo_reference 53 = .ok (.iload 5, 2) := by decide +kernel
theorem d_Mo_reference_55 : decode b_Mo_reference 55 = .ok (.iload 6, 2) := by decide +kernel
theorem d_Mo_reference_57 : decode b_Mo_reference 57 = .ok (.invokevirtual 140, 3) := by decide +kernel
theorem d_Mo_reference_60 : decode b_Mo_reference 60 = .ok (.aload_n 0, 1) := by decide +kernel
theorem d_Mo_reference_61 : decode b_Mo_reference 61 = .ok (.getfield 40, 3) := by decide +kernel
theorem d_Mo_reference_64 : decode b_Mo_reference 64 = .ok (.iload_n 1, 1) := by decide +kernel
theorem d_Mo_reference_65 : decode b_Mo_reference 65 = .ok (.iaload, 1) := by decide +kernel
theorem d_Mo_reference_66 : decode b_Mo_reference 66 = .ok (.iconst 1, 1) := by decide +kernel
theorem d_Mo_reference_67 : decode b_Mo_reference 67 = .ok (.isub, 1) := by decide +kernel
theorem d_Mo_reference_68 : decode b_Mo_reference 68 = .ok (.ireturn, 1) := by decide +kernel
theorem d_Mo_isReference_0 : decode b_Mo_isReference 0 = .ok (.aload_n 0, 1) := by decide +kernel
theorem d_Mo_isReference_1 : decode b_Mo_isReference 1 = .ok (.iload_n 1, 1) := by decide +kernel
theorem d_Mo_isReference_2 : decode b_Mo_isReference 2 = .ok (.iload_n 2, 1) := by decide +kernel
theorem d_Mo_isReference_3 : decode b_Mo_isReference 3 = .ok (.invokevirtual 122, 3) := by decide +kernel
theorem d_Mo_isReference_6 : decode b_Mo_isReference 6 = .ok (.ifCond .eq 68, 3) := by decide +kernel
theorem d_Mo_isReference_9 : decode b_Mo_isReference 9 = .ok (.aload_n 0, 1) := by decide +kernel
theorem d_Mo_isReference_10 : decode b_Mo_isReference 10 = .ok (.getfield 13, 3) := by decide +kernel
theorem d_Mo_isReference_13 : decode b_Mo_isReference 13 = .ok (.bipush 8, 2) := by decide +kernel
theorem d_Mo_isReference_15 : decode b_Mo_isReference 15 = .ok (.iload_n 1, 1) := by decide +kernel
theorem d_Mo_isReference_16 : decode b_Mo_isReference 16 = .ok (.imul, 1) := by decide +kernel
theorem d_Mo_isReference_17 : decode b_Mo_isReference 17 = .ok (.iload_n 2, 1) := by decide +kernel
theorem d_Mo_isReference_18 : decode b_Mo_isReference 18 = .ok (.iadd, 1) := by decide +kernel
theorem d_Mo_isReference_19 : decode b_Mo_isReference 19 = .ok (.iaload, 1) := by decide +kernel
theorem d_Mo_isReference_20 : decode b_Mo_isReference 20 = .ok (.iconst 3, 1) := by decide +kernel
theorem d_Mo_isReference_21 : decode b_Mo_isReference 21 = .ok (.if_icmp .eq 53, 3) := by decide +kernel
theorem d_Mo_isReference_24 : decode b_Mo_isReference 24 = .ok (.iload_n 3, 1) := by decide +kernel
theorem d_Mo_isReference_25 : decode b_Mo_isReference 25 = .ok (.iconst 0, 1) := by decide +kernel
theorem d_Mo_isReference_26 : decode b_Mo_isReference 26 = .ok (.aload_n 0, 1) := by decide +kernel
theorem d_Mo_isReference_27 : decode b_Mo_isReference 27 = .ok (.getfield 19, 3) := by decide +kernel
theorem d_Mo_isReference_30 : decode b_Mo_isReference 30 = .ok (.bipush 8, 2) := by decide +kernel
theorem d_Mo_isReference_32 : decode b_Mo_isReference 32 = .ok (.iload_n 1, 1) := by decide +kernel
theorem d_Mo_isReference_33 : decode b_Mo_isReference 33 = .ok (.imul, 1) := by decide +kernel
theorem d_Mo_isReference_34 : decode b_Mo_isReference 34 = .ok (.iload_n 2, 1) := by decide +kernel
theorem d_Mo_isReference_35 : decode b_Mo_isReference 35 = .ok (.iadd, 1) := by decide +kernel
theorem d_Mo_isReference_36 : decode b_Mo_isReference 36 = .ok (.iaload, 1) := by decide +kernel
theorem d_Mo_isReference_37 : decode b_Mo_isReference 37 = .ok (.invokestatic 99, 3) := by decide +kernel
theorem d_Mo_isReference_40 : decode b_Mo_isReference 40 = .ok (.ifCond .eq 34, 3) := by decide +kernel
theorem d_Mo_isReference_43 : decode b_Mo_isReference 43 = .ok (.iload 4, 2) := by decide +kernel
theorem d_Mo_isReference_45 : decode b_Mo_isReference 45 = .ok (.iconst 0, 1) := by decide +kernel
theorem d_Mo_isReference_46 : decode b_Mo_isReference 46 = .ok (.iconst 4, 1) := by decide +kernel
theorem d_Mo_isReference_47 : decode b_Mo_isReference 47 = .ok (.invokestatic 99, 3) := by decide +kernel
theorem d_Mo_isReference_50 : decode b_Mo_isReference 50 = .ok (.ifCond .eq 24, 3) := by decide +kernel
theorem d_Mo_isReference_53 : decode b_Mo_isReference 53 = .ok (.iload 5, 2) := by decide +kernel
theorem d_Mo_isReference_55 : decode b_Mo_isReference 55 = .ok (.iconst 0, 1) := by decide +kernel
theorem d_Mo_isReference_56 : decode b_Mo_isReference 56 = .ok (.aload_n 0, 1) := by decide +kernel
theorem d_Mo_isReference_57 : decode b_Mo_isReference 57 = .ok (.getfield 25, 3) := by decide +kernel
theorem d_Mo_isReference_60 : decode b_Mo_isReference 60 = .ok (.iload_n 1, 1) := by decide +kernel
theorem d_Mo_isReference_61 : decode b_Mo_isReference 61 = .ok (.iaload, 1) := by decide +kernel
theorem d_Mo_isReference_62 : decode b_Mo_isReference 62 = .ok (.iconst 1, 1) := by decide +kernel
theorem d_Mo_isReference_63 : decode b_Mo_isReference 63 = .ok (.isub, 1) := by decide +kernel
theorem d_Mo_isReference_64 : decode b_Mo_isReference 64 = .ok (.invokestatic 99, 3) := by decide +kernel
theorem d_Mo_isReference_67 : decode b_Mo_isReference 67 = .ok (.ifCond .eq 7, 3) := by decide +kernel
theorem d_Mo_isReference_70 : decode b_Mo_isReference 70 = .ok (.iconst 1, 1) := by decide +kernel
theorem d_Mo_isReference_71 : decode b_Mo_isReference 71 = .ok (.goto 4, 3) := by decide +kernel
theorem d_Mo_isReference_74 : decode b_Mo_isReference 74 = .ok (.iconst 0, 1) := by decide +kernel
theorem d_Mo_isReference_75 : decode b_Mo_isReference 75 = .ok (.ireturn, 1) := by decide +kernel
theorem d_Mo_addReference_0 : decode b_Mo_addReference 0 = .ok (.bipush 16, 2) := by decide +kernel
theorem d_Mo_addReference_2 : decode b_Mo_addReference 2 = .ok (.iload_n 1, 1) := by decide +kernel
theorem d_Mo_addReference_3 : decode b_Mo_addReference 3 = .ok (.imul, 1) := by decide +kernel
theorem d_Mo_addReference_4 : decode b_Mo_addReference 4 = .ok (.aload_n 0, 1) := by decide +kernel
theorem d_Mo_addReference_5 : decode b_Mo_addReference 5 = .ok (.getfield 40, 3) := by decide +kernel
theorem d_Mo_addReference_8 : decode b_Mo_addReference 8 = .ok (.iload_n 1, 1) := by decide +kernel
theorem d_Mo_addReference_9 : decode b_Mo_addReference 9 = .ok (.iaload, 1) := by decide +kernel
theorem d_Mo_addReference_10 : decode b_Mo_addReference 10 = .ok (.iadd, 1) := by decide +kernel
theorem d_Mo_addReference_11 : decode b_Mo_addReference 11 = .ok (.istore 7, 2) := by decide +kernel
theorem d_Mo_addReference_13 : decode b_Mo_addReference 13 = .ok (.aload_n 0, 1) := by decide +kernel
theorem d_Mo_addReference_14 : decode b_Mo_addReference 14 = .ok (.getfield 43, 3) := by decide +kernel
theorem d_Mo_addReference_17 : decode b_Mo_addReference 17 = .ok (.iload 7, 2) := by decide +kernel
theorem d_Mo_addReference_19 : decode b_Mo_addReference 19 = .ok (.iload_n 2, 1) := by decide +kernel
theorem d_Mo_addReference_20 : decode b_Mo_addReference 20 = .ok (.iastore, 1) := by decide +kernel
theorem d_Mo_addReference_21 : decode b_Mo_addReference 21 = .ok (.aload_n 0, 1) := by decide +kernel
theorem d_Mo_addReference_22 : decode b_Mo_addReference 22 = .ok (.getfield 46, 3) := by decide +kernel
theorem d_Mo_addReference_25 : decode b_Mo_addReference 25 = .ok (.iload 7, 2) := by decide +kernel
theorem d_Mo_addReference_27 : decode b_Mo_addReference 27 = .ok (.iload_n 3, 1) := by decide +kernel
theorem d_Mo_addReference_28 : decode b_Mo_addReference 28 = .ok (.iastore, 1) := by decide +kernel
theorem d_Mo_addReference_29 : decode b_Mo_addReference 29 = .ok (.aload_n 0, 1) := by decide +kernel
theorem d_Mo_addReference_30 : decode b_Mo_addReference 30 = .ok (.getfield 49, 3) := by decide +kernel
theorem d_Mo_addReference_33 : decode b_Mo_addReference 33 = .ok (.iload 7, 2) := by decide +kernel
theorem d_Mo_addReference_35 : decode b_Mo_addReference 35 = .ok (.iload 4, 2) := by decide +kernel
theorem d_Mo_addReference_37 : decode b_Mo_addReference 37 = .ok (.iastore, 1) := by decide +kernel
theorem d_Mo_addReference_38 : decode b_Mo_addReference 38 = .ok (.aload_n 0, 1) := by decide +kernel
theorem d_Mo_addReference_39 : decode b_Mo_addReference 39 = .ok (.getfield 52, 3) := by decide +kernel
theorem d_Mo_addReference_42 : decode b_Mo_addReference 42 = .ok (.iload 7, 2) := by decide +kernel
theorem d_Mo_addReference_44 : decode b_Mo_addReference 44 = .ok (.iload 5, 2) := by decide +kernel
theorem d_Mo_addReference_46 : decode b_Mo_addReference 46 = .ok (.iastore, 1) := by decide +kernel
theorem d_Mo_addReference_47 : decode b_Mo_addReference 47 = .ok (.aload_n 0, 1) := by decide +kernel
theorem d_Mo_addReference_48 : decode b_Mo_addReference 48 = .ok (.getfield 55, 3) := by decide +kernel
theorem d_Mo_addReference_51 : decode b_Mo_addReference 51 = .ok (.iload 7, 2) := by decide +kernel
theorem d_Mo_addReference_53 : decode b_Mo_addReference 53 = .ok (.iload 6, 2) := by decide +kernel
theorem d_Mo_addReference_55 : decode b_Mo_addReference 55 = .ok (.iastore, 1) := by decide +kernel
theorem d_Mo_addReference_56 : decode b_Mo_addReference 56 = .ok (.aload_n 0, 1) := by decide +kernel
theorem d_Mo_addReference_57 : decode b_Mo_addReference 57 = .ok (.getfield 40, 3) := by decide +kernel
theorem d_Mo_addReference_60 : decode b_Mo_addReference 60 = .ok (.iload_n 1, 1) := by decide +kernel
theorem d_Mo_addReference_61 : decode b_Mo_addReference 61 = .ok (.dup2, 1) := by decide +kernel
theorem d_Mo_addReference_62 : decode b_Mo_addReference 62 = .ok (.iaload, 1) := by decide +kernel
theorem d_Mo_addReference_63 : decode b_Mo_addReference 63 = .ok (.iconst 1, 1) := by decide +kernel
theorem d_Mo_addReference_64 : decode b_Mo_addReference 64 = .ok (.iadd, 1) := by decide +kernel
theorem d_Mo_addReference_65 : decode b_Mo_addReference 65 = .ok (.iastore, 1) := by decide +kernel
theorem d_Mo_addReference_66 : decode b_Mo_addReference 66 = .ok (.return_, 1) := by decide +kernel
theorem d_Mo_choose_0 : decode b_Mo_choose 0 = .ok (.aload_n 0, 1) := by decide +kernel
theorem d_Mo_choose_1 : decode b_Mo_choose 1 = .ok (.iload_n 1, 1) := by decide +kernel
theorem d_Mo_choose_2 : decode b_Mo_choose 2 = .ok (.invokevirtual 111, 3) := by decide +kernel
theorem d_Mo_choose_5 : decode b_Mo_choose 5 = .ok (.ifCond .ne 5, 3) := by decide +kernel
theorem d_Mo_choose_8 : decode b_Mo_choose 8 = .ok (.iconst 0, 1) := by decide +kernel
theorem d_Mo_choose_9 : decode b_Mo_choose 9 = .ok (.ireturn, 1) := by decide +kernel
theorem d_Mo_choose_10 : decode b_Mo_choose 10 = .ok (.iconst 0, 1) := by decide +kernel
theorem d_Mo_choose_11 : decode b_Mo_choose 11 = .ok (.istore_n 2, 1) := by decide +kernel
theorem d_Mo_choose_12 : decode b_Mo_choose 12 = .ok (.iload_n 2, 1) := by decide +kernel
theorem d_Mo_choose_13 : decode b_Mo_choose 13 = .ok (.aload_n 0, 1) := by decide +kernel
theorem d_Mo_choose_14 : decode b_Mo_choose 14 = .ok (.getfield 144, 3) := by decide +kernel
theorem d_Mo_choose_17 : decode b_Mo_choose 17 = .ok (.if_icmp .ge 25, 3) := by decide +kernel
theorem d_Mo_choose_20 : decode b_Mo_choose 20 = .ok (.aload_n 0, 1) := by decide +kernel
theorem d_Mo_choose_21 : decode b_Mo_choose 21 = .ok (.getfield 58, 3) := by decide +kernel
theorem d_Mo_choose_24 : decode b_Mo_choose 24 = .ok (.iload_n 2, 1) := by decide +kernel
theorem d_Mo_choose_25 : decode b_Mo_choose 25 = .ok (.iaload, 1) := by decide +kernel
theorem d_Mo_choose_26 : decode b_Mo_choose 26 = .ok (.iload_n 1, 1) := by decide +kernel
theorem d_Mo_choose_27 : decode b_Mo_choose 27 = .ok (.if_icmp .ne 9, 3) := by decide +kernel
theorem d_Mo_choose_30 : decode b_Mo_choose 30 = .ok (.aload_n 0, 1) := by decide +kernel
theorem d_Mo_choose_31 : decode b_Mo_choose 31 = .ok (.iconst 2, 1) := by decide +kernel
theorem d_Mo_choose_32 : decode b_Mo_choose 32 = .ok (.invokevirtual 103, 3) := by decide +kernel
theorem d_Mo_choose_35 : decode b_Mo_choose 35 = .ok (.ireturn, 1) := by decide +kernel
theorem d_Mo_choose_36 : decode b_Mo_choose 36 = .ok (.iinc 2 1, 3) := by decide +kernel
theorem d_Mo_choose_39 : decode b_Mo_choose 39 = .ok (.goto (-27), 3) := by decide +kernel
theorem d_Mo_choose_42 : decode b_Mo_choose 42 = .ok (.aload_n 0, 1) := by decide +kernel
theorem d_Mo_choose_43 : decode b_Mo_choose 43 = .ok (.getfield 58, 3) := by decide +kernel
theorem d_Mo_choose_46 : decode b_Mo_choose 46 = .ok (.aload_n 0, 1) := by decide +kernel
theorem d_Mo_choose_47 : decode b_Mo_choose 47 = .ok (.getfield 144, 3) := by decide +kernel
theorem d_Mo_choose_50 : decode b_Mo_choose 50 = .ok (.iload_n 1, 1) := by decide +kernel
theorem d_Mo_choose_51 : decode b_Mo_choose 51 = .ok (.iastore, 1) := by decide +kernel
theorem d_Mo_choose_52 : decode b_Mo_choose 52 = .ok (.aload_n 0, 1) := by decide +kernel
theorem d_Mo_choose_53 : decode b_Mo_choose 53 = .ok (.dup, 1) := by decide +kernel
theorem d_Mo_choose_54 : decode b_Mo_choose 54 = .ok (.getfield 144, 3) := by decide +kernel
theorem d_Mo_choose_57 : decode b_Mo_choose 57 = .ok (.iconst 1, 1) := by decide +kernel
theorem d_Mo_choose_58 : decode b_Mo_choose 58 = .ok (.iadd, 1) := by decide +kernel
theorem d_Mo_choose_59 : decode b_Mo_choose 59 = .ok (.putfield 144, 3) := by decide +kernel
theorem d_Mo_choose_62 : decode b_Mo_choose 62 = .ok (.aload_n 0, 1) := by decide +kernel
theorem d_Mo_choose_63 : decode b_Mo_choose 63 = .ok (.getfield 144, 3) := by decide +kernel
theorem d_Mo_choose_66 : decode b_Mo_choose 66 = .ok (.ireturn, 1) := by decide +kernel
theorem d_Mo_link_0 : decode b_Mo_link 0 = .ok (.aload_n 0, 1) := by decide +kernel
theorem d_Mo_link_1 : decode b_Mo_link 1 = .ok (.iconst 0, 1) := by decide +kernel
theorem d_Mo_link_2 : decode b_Mo_link 2 = .ok (.putfield 93, 3) := by decide +kernel
theorem d_Mo_link_5 : decode b_Mo_link 5 = .ok (.iload_n 2, 1) := by decide +kernel
theorem d_Mo_link_6 : decode b_Mo_link 6 = .ok (.iconst 0, 1) := by decide +kernel
theorem d_Mo_link_7 : decode b_Mo_link 7 = .ok (.ldc 229, 2) := by decide +kernel
theorem d_Mo_link_9 : decode b_Mo_link 9 = .ok (.invokestatic 99, 3) := by decide +kernel
theorem d_Mo_link_12 : decode b_Mo_link 12 = .ok (.ifCond .ne 9, 3) := by decide +kernel
theorem d_Mo_link_15 : decode b_Mo_link 15 = .ok (.aload_n 0, 1) := by decide +kernel
theorem d_Mo_link_16 : decode b_Mo_link 16 = .ok (.iconst 1, 1) := by decide +kernel
theorem d_Mo_link_17 : decode b_Mo_link 17 = .ok (.invokevirtual 103, 3) := by decide +kernel
theorem d_Mo_link_20 : decode b_Mo_link 20 = .ok (.ireturn, 1) := by decide +kernel
theorem d_Mo_link_21 : decode b_Mo_link 21 = .ok (.aload_n 0, 1) := by decide +kernel
theorem d_Mo_link_22 : decode b_Mo_link 22 = .ok (.getfield 144, 3) := by decide +kernel
theorem d_Mo_link_25 : decode b_Mo_link 25 = .ok (.ifCond .ne 9, 3) := by decide +kernel
theorem d_Mo_link_28 : decode b_Mo_link 28 = .ok (.aload_n 0, 1) := by decide +kernel
theorem d_Mo_link_29 : decode b_Mo_link 29 = .ok (.iconst 2, 1) := by decide +kernel
theorem d_Mo_link_30 : decode b_Mo_link 30 = .ok (.invokevirtual 103, 3) := by decide +kernel
theorem d_Mo_link_33 : decode b_Mo_link 33 = .ok (.ireturn, 1) := by decide +kernel
theorem d_Mo_link_34 : decode b_Mo_link 34 = .ok (.aload_n 0, 1) := by decide +kernel
theorem d_Mo_link_35 : decode b_Mo_link 35 = .ok (.iload_n 2, 1) := by decide +kernel
theorem d_Mo_link_36 : decode b_Mo_link 36 = .ok (.putfield 176, 3) := by decide +kernel
theorem d_Mo_link_39 : decode b_Mo_link 39 = .ok (.aload_n 0, 1) := by decide +kernel
theorem d_Mo_link_40 : decode b_Mo_link 40 = .ok (.iconst 0, 1) := by decide +kernel
theorem d_Mo_link_41 : decode b_Mo_link 41 = .ok (.putfield 154, 3) := by decide +kernel
theorem d_Mo_link_44 : decode b_Mo_link 44 = .ok (.aload_n 0, 1) := by decide +kernel
theorem d_Mo_link_45 : decode b_Mo_link 45 = .ok (.iconst (-1), 1) := by decide +kernel
theorem d_Mo_link_46 : decode b_Mo_link 46 = .ok (.putfield 74, 3) := by decide +kernel
theorem d_Mo_link_49 : decode b_Mo_link 49 = .ok (.aload_n 0, 1) := by decide +kernel
theorem d_Mo_link_50 : decode b_Mo_link 50 = .ok (.iconst (-1), 1) := by decide +kernel
theorem d_Mo_link_51 : decode b_Mo_link 51 = .ok (.putfield 78, 3) := by decide +kernel
theorem d_Mo_link_54 : decode b_Mo_link 54 = .ok (.aload_n 0, 1) := by decide +kernel
theorem d_Mo_link_55 : decode b_Mo_link 55 = .ok (.invokevirtual 230, 3) := by decide +kernel
theorem d_Mo_link_58 : decode b_Mo_link 58 = .ok (.aload_n 0, 1) := by decide +kernel
theorem d_Mo_link_59 : decode b_Mo_link 59 = .ok (.getfield 154, 3) := by decide +kernel
theorem d_Mo_link_62 : decode b_Mo_link 62 = .ok (.ifCond .ne 8, 3) := by decide +kernel
theorem d_Mo_link_65 : decode b_Mo_link 65 = .ok (.aload_n 0, 1) := by decide +kernel
theorem d_Mo_link_66 : decode b_Mo_link 66 = .ok (.iload_n 1, 1) := by decide +kernel
theorem d_Mo_link_67 : decode b_Mo_link 67 = .ok (.invokevirtual 233, 3) := by decide +kernel
theorem d_Mo_link_70 : decode b_Mo_link 70 = .ok (.aload_n 0, 1) := by decide +kernel
theorem d_Mo_link_71 : decode b_Mo_link 71 = .ok (.getfield 154, 3) := by decide +kernel
theorem d_Mo_link_74 : decode b_Mo_link 74 = .ok (.ifCond .ne 7, 3) := by decide +kernel
theorem d_Mo_link_77 : decode b_Mo_link 77 = .ok (.aload_n 0, 1) := by decide +kernel
theorem d_Mo_link_78 : decode b_Mo_link 78 = .ok (.invokevirtual 236, 3) := by decide +kernel
theorem d_Mo_link_81 : decode b_Mo_link 81 = .ok (.aload_n 0, 1) := by decide +kernel
theorem d_Mo_link_82 : decode b_Mo_link 82 = .ok (.getfield 154, 3) := by decide +kernel
theorem d_Mo_link_85 : decode b_Mo_link 85 = .ok (.ifCond .ne 82, 3) := by decide +kernel
theorem d_Mo_link_88 : decode b_Mo_link 88 = .ok (.aload_n 0, 1) := by decide +kernel
theorem d_Mo_link_89 : decode b_Mo_link 89 = .ok (.invokevirtual 239, 3) := by decide +kernel
theorem d_Mo_link_92 : decode b_Mo_link 92 = .ok (.iconst 0, 1) := by decide +kernel
theorem d_Mo_link_93 : decode b_Mo_link 93 = .ok (.istore_n 3, 1) := by decide +kernel
theorem d_Mo_link_94 : decode b_Mo_link 94 = .ok (.iload_n 3, 1) := by decide +kernel
theorem d_Mo_link_95 : decode b_Mo_link 95 = .ok (.aload_n 0, 1) := by decide +kernel
theorem d_Mo_link_96 : decode b_Mo_link 96 = .ok (.getfield 144, 3) := by decide +kernel
theorem d_Mo_link_99 : decode b_Mo_link 99 = .ok (.if_icmp .ge 68, 3) := by decide +kernel
theorem d_Mo_link_102 : decode b_Mo_link 102 = .ok (.iconst 0, 1) := by decide +kernel
theorem d_Mo_link_103 : decode b_Mo_link 103 = .ok (.istore 4, 2) := by decide +kernel
theorem d_Mo_link_105 : decode b_Mo_link 105 = .ok (.iload 4, 2) := by decide +kernel
theorem d_Mo_link_107 : decode b_Mo_link 107 = .ok (.aload_n 0, 1) := by decide +kernel
theorem d_Mo_link_108 : decode b_Mo_link 108 = .ok (.getfield 40, 3) := by decide +kernel
theorem d_Mo_link_111 : decode b_Mo_link 111 = .ok (.aload_n 0, 1) := by decide +kernel
theorem d_Mo_link_112 : decode b_Mo_link 112 = .ok (.getfield 58, 3) := by decide +kernel
theorem d_Mo_link_115 : decode b_Mo_link 115 = .ok (.iload_n 3, 1) := by decide +kernel
theorem d_Mo_link_116 : decode b_Mo_link 116 = .ok (.iaload, 1) := by decide +kernel
theorem d_Mo_link_117 : decode b_Mo_link 117 = .ok (.iaload, 1) := by decide +kernel
theorem d_Mo_link_118 : decode b_Mo_link 118 = .ok (.if_icmp .ge 43, 3) := by decide +kernel
theorem d_Mo_link_121 : decode b_Mo_link 121 = .ok (.aload_n 0, 1) := by decide +kernel
theorem d_Mo_link_122 : decode b_Mo_link 122 = .ok (.getfield 154, 3) := by decide +kernel
theorem d_Mo_link_125 : decode b_Mo_link 125 = .ok (.ifCond .ne 30, 3) := by decide +kernel
theorem d_Mo_link_128 : decode b_Mo_link 128 = .ok (.aload_n 0, 1) := by decide +kernel
theorem d_Mo_link_129 : decode b_Mo_link 129 = .ok (.aload_n 0, 1) := by decide +kernel
theorem d_Mo_link_130 : decode b_Mo_link 130 = .ok (.getfield 58, 3) := by decide +kernel
theorem d_Mo_link_133 : decode b_Mo_link 133 = .ok (.iload_n 3, 1) := by decide +kernel
theorem d_Mo_link_134 : decode b_Mo_link 134 = .ok (.iaload, 1) := by decide +kernel
theorem d_Mo_link_135 : decode b_Mo_link 135 = .ok (.iload 4, 2) := by decide +kernel
theorem d_Mo_link_137 : decode b_Mo_link 137 = .ok (.invokevirtual 164, 3) := by decide +kernel
theorem d_Mo_link_140 : decode b_Mo_link 140 = .ok (.ifCond .eq 15, 3) := by decide +kernel
theorem d_Mo_link_143 : decode b_Mo_link 143 = .ok (.aload_n 0, 1) := by decide +kernel
theorem d_Mo_link_144 : decode b_Mo_link 144 = .ok (.aload_n 0, 1) := by decide +kernel
theorem d_Mo_link_145 : decode b_Mo_link 145 = .ok (.getfield 58, 3) := by decide +kernel
theorem d_Mo_link_148 : decode b_Mo_link 148 = .ok (.iload_n 3, 1) := by decide +kernel
theorem d_Mo_link_149 : decode b_Mo_link 149 = .ok (.iaload, 1) := by decide +kernel
theorem d_Mo_link_150 : decode b_Mo_link 150 = .ok (.iload 4, 2) := by decide +kernel
theorem d_Mo_link_152 : decode b_Mo_link 152 = .ok (.invokevirtual 242, 3) := by decide +kernel
theorem d_Mo_link_155 : decode b_Mo_link 155 = .ok (.iinc 4 1, 3) := by decide +kernel
theorem d_Mo_link_158 : decode b_Mo_link 158 = .ok (.goto (-53), 3) := by decide +kernel
theorem d_Mo_link_161 : decode b_Mo_link 161 = .ok (.iinc 3 1, 3) := by decide +kernel
theorem d_Mo_link_164 : decode b_Mo_link 164 = .ok (.goto (-70), 3) := by decide +kernel
theorem d_Mo_link_167 : decode b_Mo_link 167 = .ok (.aload_n 0, 1) := by decide +kernel
theorem d_Mo_link_168 : decode b_Mo_link 168 = .ok (.aload_n 0, 1) := by decide +kernel
theorem d_Mo_link_169 : decode b_Mo_link 169 = .ok (.getfield 154, 3) := by decide +kernel
theorem d_Mo_link_172 : decode b_Mo_link 172 = .ok (.ifCond .ne 7, 3) := by decide +kernel
theorem d_Mo_link_175 : decode b_Mo_link 175 = .ok (.iconst 1, 1) := by decide +kernel
theorem d_Mo_link_176 : decode b_Mo_link 176 = .ok (.goto 4, 3) := by decide +kernel
theorem d_Mo_link_179 : decode b_Mo_link 179 = .ok (.iconst 0, 1) := by decide +kernel
theorem d_Mo_link_180 : decode b_Mo_link 180 = .ok (.putfield 225, 3) := by decide +kernel
theorem d_Mo_link_183 : decode b_Mo_link 183 = .ok (.aload_n 0, 1) := by decide +kernel
theorem d_Mo_link_184 : decode b_Mo_link 184 = .ok (.getfield 225, 3) := by decide +kernel
theorem d_Mo_link_187 : decode b_Mo_link 187 = .ok (.ifCond .eq 10, 3) := by decide +kernel
theorem d_Mo_link_190 : decode b_Mo_link 190 = .ok (.aload_n 0, 1) := by decide +kernel
theorem d_Mo_link_191 : decode b_Mo_link 191 = .ok (.invokevirtual 246, 3) := by decide +kernel
theorem d_Mo_link_194 : decode b_Mo_link 194 = .ok (.goto 7, 3) := by decide +kernel
theorem d_Mo_link_197 : decode b_Mo_link 197 = .ok (.aload_n 0, 1) := by decide +kernel
theorem d_Mo_link_198 : decode b_Mo_link 198 = .ok (.invokevirtual 249, 3) := by decide +kernel
theorem d_Mo_link_201 : decode b_Mo_link 201 = .ok (.aload_n 0, 1) := by decide +kernel
theorem d_Mo_link_202 : decode b_Mo_link 202 = .ok (.iconst 0, 1) := by decide +kernel
theorem d_Mo_link_203 : decode b_Mo_link 203 = .ok (.putfield 144, 3) := by decide +kernel
theorem d_Mo_link_206 : decode b_Mo_link 206 = .ok (.aload_n 0, 1) := by decide +kernel
theorem d_Mo_link_207 : decode b_Mo_link 207 = .ok (.getfield 225, 3) := by decide +kernel
theorem d_Mo_link_210 : decode b_Mo_link 210 = .ok (.ifCond .eq 10, 3) := by decide +kernel
theorem d_Mo_link_213 : decode b_Mo_link 213 = .ok (.aload_n 0, 1) := by decide +kernel
theorem d_Mo_link_214 : decode b_Mo_link 214 = .ok (.getfield 192, 3) := by decide +kernel
theorem d_Mo_link_217 : decode b_Mo_link 217 = .ok (.goto 8, 3) := by decide +kernel
theorem d_Mo_link_220 : decode b_Mo_link 220 = .ok (.aload_n 0, 1) := by decide +kernel
theorem d_Mo_link_221 : decode b_Mo_link 221 = .ok (.iconst 3, 1) := by decide +kernel
theorem d_Mo_link_222 : decode b_Mo_link 222 = .ok (.invokevirtual 103, 3) := by decide +kernel
theorem d_Mo_link_225 : decode b_Mo_link 225 = .ok (.ireturn, 1) := by decide +kernel
theorem d_Mo_findDoubled_0 : decode b_Mo_findDoubled 0 = .ok (.iconst 0, 1) := by decide +kernel
theorem d_Mo_findDoubled_1 : decode b_Mo_findDoubled 1 = .ok (.istore_n 1, 1) := by decide +kernel
theorem d_Mo_findDoubled_2 : decode b_Mo_findDoubled 2 = .ok (.iload_n 1, 1) := by decide +kernel
theorem d_Mo_findDoubled_3 : decode b_Mo_findDoubled 3 = .ok (.aload_n 0, 1) := by decide +kernel
theorem d_Mo_findDoubled_4 : decode b_Mo_findDoubled 4 = .ok (.getfield 144, 3) := by decide +kernel
theorem d_Mo_findDoubled_7 : decode b_Mo_findDoubled 7 = .ok (.if_icmp .ge 76, 3) := by decide +kernel
theorem d_Mo_findDoubled_10 : decode b_Mo_findDoubled 10 = .ok (.aload_n 0, 1) := by decide +kernel
theorem d_Mo_findDoubled_11 : decode b_Mo_findDoubled 11 = .ok (.getfield 58, 3) := by decide +kernel
theorem d_Mo_findDoubled_14 : decode b_Mo_findDoubled 14 = .ok (.iload_n 1, 1) := by decide +kernel
theorem d_Mo_findDoubled_15 : decode b_Mo_findDoubled 15 = .ok (.iaload, 1) := by decide +kernel
theorem d_Mo_findDoubled_16 : decode b_Mo_findDoubled 16 = .ok (.istore_n 2, 1) := by decide +kernel
theorem d_Mo_findDoubled_17 : decode b_Mo_findDoubled 17 = .ok (.iconst 0, 1) := by decide +kernel
theorem d_Mo_findDoubled_18 : decode b_Mo_findDoubled 18 = .ok (.istore_n 3, 1) := by decide +kernel
theorem d_Mo_findDoubled_19 : decode b_Mo_findDoubled 19 = .ok (.iload_n 3, 1) := by decide +kernel
theorem d_Mo_findDoubled_20 : decode b_Mo_findDoubled 20 = .ok (.aload_n 0, 1) := by decide +kernel
theorem d_Mo_findDoubled_21 : decode b_Mo_findDoubled 21 = .ok (.getfield 25, 3) := by decide +kernel
theorem d_Mo_findDoubled_24 : decode b_Mo_findDoubled 24 = .ok (.iload_n 2, 1) := by decide +kernel
theorem d_Mo_findDoubled_25 : decode b_Mo_findDoubled 25 = .ok (.iaload, 1) := by decide +kernel
theorem d_Mo_findDoubled_26 : decode b_Mo_findDoubled 26 = .ok (.if_icmp .ge 51, 3) := by decide +kernel
theorem d_Mo_findDoubled_29 : decode b_Mo_findDoubled 29 = .ok (.bipush 12, 2) := by decide +kernel
theorem d_Mo_findDoubled_31 : decode b_Mo_findDoubled 31 = .ok (.iload_n 2, 1) := by decide +kernel
theorem d_Mo_findDoubled_32 : decode b_Mo_findDoubled 32 = .ok (.imul, 1) := by decide +kernel
theorem d_Mo_findDoubled_33 : decode b_Mo_findDoubled 33 = .ok (.iload_n 3, 1) := by decide +kernel
theorem d_Mo_findDoubled_34 : decode b_Mo_findDoubled 34 = .ok (.iadd, 1) := by decide +kernel
theorem d_Mo_findDoubled_35 : decode b_Mo_findDoubled 35 = .ok (.istore 4, 2) := by decide +kernel
theorem d_Mo_findDoubled_37 : decode b_Mo_findDoubled 37 = .ok (.aload_n 0, 1) := by decide +kernel
theorem d_Mo_findDoubled_38 : decode b_Mo_findDoubled 38 = .ok (.getfield 31, 3) := by decide +kernel
theorem d_Mo_findDoubled_41 : decode b_Mo_findDoubled 41 = .ok (.iload 4, 2) := by decide +kernel
theorem d_Mo_findDoubled_43 : decode b_Mo_findDoubled 43 = .ok (.iaload, 1) := by decide +kernel
theorem d_Mo_findDoubled_44 : decode b_Mo_findDoubled 44 = .ok (.ifCond .ne 27, 3) := by decide +kernel
theorem d_Mo_findDoubled_47 : decode b_Mo_findDoubled 47 = .ok (.aload_n 0, 1) := by decide +kernel
theorem d_Mo_findDoubled_48 : decode b_Mo_findDoubled 48 = .ok (.aload_n 0, 1) := by decide +kernel
theorem d_Mo_findDoubled_49 : decode b_Mo_findDoubled 49 = .ok (.getfield 28, 3) := by decide +kernel
theorem d_Mo_findDoubled_52 : decode b_Mo_findDoubled 52 = .ok (.iload 4, 2) := by decide +kernel
theorem d_Mo_findDoubled_54 : decode b_Mo_findDoubled 54 = .ok (.iaload, 1) := by decide +kernel
theorem d_Mo_findDoubled_55 : decode b_Mo_findDoubled 55 = .ok (.iconst 0, 1) := by decide +kernel
theorem d_Mo_findDoubled_56 : decode b_Mo_findDoubled 56 = .ok (.invokevirtual 147, 3) := by decide +kernel
theorem d_Mo_findDoubled_59 : decode b_Mo_findDoubled 59 = .ok (.iload 4, 2) := by decide +kernel
theorem d_Mo_findDoubled_61 : decode b_Mo_findDoubled 61 = .ok (.if_icmp .eq 10, 3) := by decide +kernel
theorem d_Mo_findDoubled_64 : decode b_Mo_findDoubled 64 = .ok (.aload_n 0, 1) := by decide +kernel
theorem d_Mo_findDoubled_65 : decode b_Mo_findDoubled 65 = .ok (.iconst 1, 1) := by decide +kernel
theorem d_Mo_findDoubled_66 : decode b_Mo_findDoubled 66 = .ok (.iload_n 2, 1) := by decide +kernel
theorem d_Mo_findDoubled_67 : decode b_Mo_findDoubled 67 = .ok (.iload_n 3, 1) := by decide +kernel
theorem d_Mo_findDoubled_68 : decode b_Mo_findDoubled 68 = .ok (.invokevirtual 157, 3) := by decide +kernel
theorem d_Mo_findDoubled_71 : decode b_Mo_findDoubled 71 = .ok (.iinc 3 1, 3) := by decide +kernel
theorem d_Mo_findDoubled_74 : decode b_Mo_findDoubled 74 = .ok (.goto (-55), 3) := by decide +kernel
theorem d_Mo_findDoubled_77 : decode b_Mo_findDoubled 77 = .ok (.iinc 1 1, 3) := by decide +kernel
theorem d_Mo_findDoubled_80 : decode b_Mo_findDoubled 80 = .ok (.goto (-78), 3) := by decide +kernel
theorem d_Mo_findDoubled_83 : decode b_Mo_findDoubled 83 = .ok (.return_, 1) := by decide +kernel
theorem d_Mo_firstOf_0 : decode b_Mo_firstOf 0 = .ok (.iconst 0, 1) := by decide +kernel
theorem d_Mo_firstOf_1 : decode b_Mo_firstOf 1 = .ok (.istore_n 3, 1) := by decide +kernel
theorem d_Mo_firstOf_2 : decode b_Mo_firstOf 2 = .ok (.iload_n 3, 1) := by decide +kernel
theorem d_Mo_firstOf_3 : decode b_Mo_firstOf 3 = .ok (.aload_n 0, 1) := by decide +kernel
theorem d_Mo_firstOf_4 : decode b_Mo_firstOf 4 = .ok (.getfield 144, 3) := by decide +kernel
theorem d_Mo_firstOf_7 : decode b_Mo_firstOf 7 = .ok (.if_icmp .ge 73, 3) := by decide +kernel
theorem d_Mo_firstOf_10 : decode b_Mo_firstOf 10 = .ok (.aload_n 0, 1) := by decide +kernel
theorem d_Mo_firstOf_11 : decode b_Mo_firstOf 11 = .ok (.getfield 58, 3) := by decide +kernel
theorem d_Mo_firstOf_14 : decode b_Mo_firstOf 14 = .ok (.iload_n 3, 1) := by decide +kernel
theorem d_Mo_firstOf_15 : decode b_Mo_firstOf 15 = .ok (.iaload, 1) := by decide +kernel
theorem d_Mo_firstOf_16 : decode b_Mo_firstOf 16 = .ok (.istore 4, 2) := by decide +kernel
theorem d_Mo_firstOf_18 : decode b_Mo_firstOf 18 = .ok (.bipush 12, 2) := by decide +kernel
theorem d_Mo_firstOf_20 : decode b_Mo_firstOf 20 = .ok (.iload 4, 2) := by decide +kernel
theorem d_Mo_firstOf_22 : decode b_Mo_firstOf 22 = .ok (.imul, 1) := by decide +kernel
theorem d_Mo_firstOf_23 : decode b_Mo_firstOf 23 = .ok (.istore 5, 2) := by decide +kernel
theorem d_Mo_firstOf_25 : decode b_Mo_firstOf 25 = .ok (.iload 5, 2) := by decide +kernel
theorem d_Mo_firstOf_27 : decode b_Mo_firstOf 27 = .ok (.bipush 12, 2) := by decide +kernel
theorem d_Mo_firstOf_29 : decode b_Mo_firstOf 29 = .ok (.iload 4, 2) := by decide +kernel
theorem d_Mo_firstOf_31 : decode b_Mo_firstOf 31 = .ok (.imul, 1) := by decide +kernel
theorem d_Mo_firstOf_32 : decode b_Mo_firstOf 32 = .ok (.aload_n 0, 1) := by decide +kernel
theorem d_Mo_firstOf_33 : decode b_Mo_firstOf 33 = .ok (.getfield 25, 3) := by decide +kernel
theorem d_Mo_firstOf_36 : decode b_Mo_firstOf 36 = .ok (.iload 4, 2) := by decide +kernel
theorem d_Mo_firstOf_38 : decode b_Mo_firstOf 38 = .ok (.iaload, 1) := by decide +kernel
theorem d_Mo_firstOf_39 : decode b_Mo_firstOf 39 = .ok (.iadd, 1) := by decide +kernel
theorem d_Mo_firstOf_40 : decode b_Mo_firstOf 40 = .ok (.if_icmp .ge 34, 3) := by decide +kernel
theorem d_Mo_firstOf_43 : decode b_Mo_firstOf 43 = .ok (.aload_n 0, 1) := by decide +kernel
theorem d_Mo_firstOf_44 : decode b_Mo_firstOf 44 = .ok (.getfield 28, 3) := by decide +kernel
theorem d_Mo_firstOf_47 : decode b_Mo_firstOf 47 = .ok (.iload 5, 2) := by decide +kernel
theorem d_Mo_firstOf_49 : decode b_Mo_firstOf 49 = .ok (.iaload, 1) := by decide +kernel
theorem d_Mo_firstOf_50 : decode b_Mo_firstOf 50 = .ok (.iload_n 1, 1) := by decide +kernel
theorem d_Mo_firstOf_51 : decode b_Mo_firstOf 51 = .ok (.if_icmp .ne 17, 3) := by decide +kernel
theorem d_Mo_firstOf_54 : decode b_Mo_firstOf 54 = .ok (.aload_n 0, 1) := by decide +kernel
theorem d_Mo_firstOf_55 : decode b_Mo_firstOf 55 = .ok (.getfield 31, 3) := by decide +kernel
theorem d_Mo_firstOf_58 : decode b_Mo_firstOf 58 = .ok (.iload 5, 2) := by decide +kernel
theorem d_Mo_firstOf_60 : decode b_Mo_firstOf 60 = .ok (.iaload, 1) := by decide +kernel
theorem d_Mo_firstOf_61 : decode b_Mo_firstOf 61 = .ok (.iload_n 2, 1) := by decide +kernel
theorem d_Mo_firstOf_62 : decode b_Mo_firstOf 62 = .ok (.if_icmp .ne 6, 3) := by decide +kernel
theorem d_Mo_firstOf_65 : decode b_Mo_firstOf 65 = .ok (.iload 5, 2) := by decide +kernel
theorem d_Mo_firstOf_67 : decode b_Mo_firstOf 67 = .ok (.ireturn, 1) := by decide +kernel
theorem d_Mo_firstOf_68 : decode b_Mo_firstOf 68 = .ok (.iinc 5 1, 3) := by decide +kernel
theorem d_Mo_firstOf_71 : decode b_Mo_firstOf 71 = .ok (.goto (-46), 3) := by decide +kernel
theorem d_Mo_firstOf_74 : decode b_Mo_firstOf 74 = .ok (.iinc 3 1, 3) := by decide +kernel
theorem d_Mo_firstOf_77 : decode b_Mo_firstOf 77 = .ok (.goto (-75), 3) := by decide +kernel
theorem d_Mo_firstOf_80 : decode b_Mo_firstOf 80 = .ok (.iconst (-1), 1) := by decide +kernel
theorem d_Mo_firstOf_81 : decode b_Mo_firstOf 81 = .ok (.ireturn, 1) := by decide +kernel
theorem d_Mo_tell_0 : decode b_Mo_tell 0 = .ok (.aload_n 0, 1) := by decide +kernel
theorem d_Mo_tell_1 : decode b_Mo_tell 1 = .ok (.getfield 154, 3) := by decide +kernel
theorem d_Mo_tell_4 : decode b_Mo_tell 4 = .ok (.ifCond .le 4, 3) := by decide +kernel
theorem d_Mo_tell_7 : decode b_Mo_tell 7 = .ok (.return_, 1) := by decide +kernel
theorem d_Mo_tell_8 : decode b_Mo_tell 8 = .ok (.aload_n 0, 1) := by decide +kernel
theorem d_Mo_tell_9 : decode b_Mo_tell 9 = .ok (.iload_n 1, 1) := by decide +kernel
theorem d_Mo_tell_10 : decode b_Mo_tell 10 = .ok (.putfield 154, 3) := by decide +kernel
theorem d_Mo_tell_13 : decode b_Mo_tell 13 = .ok (.aload_n 0, 1) := by decide +kernel
theorem d_Mo_tell_14 : decode b_Mo_tell 14 = .ok (.iload_n 2, 1) := by decide +kernel
theorem d_Mo_tell_15 : decode b_Mo_tell 15 = .ok (.putfield 74, 3) := by decide +kernel
theorem d_Mo_tell_18 : decode b_Mo_tell 18 = .ok (.aload_n 0, 1) := by decide +kernel
theorem d_Mo_tell_19 : decode b_Mo_tell 19 = .ok (.iload_n 3, 1) := by decide +kernel
theorem d_Mo_tell_20 : decode b_Mo_tell 20 = .ok (.putfield 78, 3) := by decide +kernel
theorem d_Mo_tell_23 : decode b_Mo_tell 23 = .ok (.return_, 1) := by decide +kernel
theorem d_Mo_findReached_0 : decode b_Mo_findReached 0 = .ok (.iconst 0, 1) := by decide +kernel
theorem d_Mo_findReached_1 : decode b_Mo_findReached 1 = .ok (.istore_n 2, 1) := by decide +kernel
theorem d_Mo_findReached_2 : decode b_Mo_findReached 2 = .ok (.iload_n 2, 1) := by decide +kernel
theorem d_Mo_findReached_3 : decode b_Mo_findReached 3 = .ok (.bipush 96, 2) := by decide +kernel
theorem d_Mo_findReached_5 : decode b_Mo_findReached 5 = .ok (.if_icmp .ge 16, 3) := by decide +kernel
theorem d_Mo_findReached_8 : decode b_Mo_findReached 8 = .ok (.aload_n 0, 1) := by decide +kernel
theorem d_Mo_findReached_9 : decode b_Mo_findReached 9 = .ok (.getfield 61, 3) := by decide +kernel
theorem d_Mo_findReached_12 : decode b_Mo_findReached 12 = .ok (.iload_n 2, 1) := by decide +kernel
theorem d_Mo_findReached_13 : decode b_Mo_findReached 13 = .ok (.iconst 0, 1) := by decide +kernel
theorem d_Mo_findReached_14 : decode b_Mo_findReached 14 = .ok (.bastore, 1) := by decide +kernel
theorem d_Mo_findReached_15 : decode b_Mo_findReached 15 = .ok (.iinc 2 1, 3) := by decide +kernel
theorem d_Mo_findReached_18 : decode b_Mo_findReached 18 = .ok (.goto (-16), 3) := by decide +kernel
theorem d_Mo_findReached_21 : decode b_Mo_findReached 21 = .ok (.iconst 0, 1) := by decide +kernel
theorem d_Mo_findReached_22 : decode b_Mo_findReached 22 = .ok (.istore_n 2, 1) := by decide +kernel
theorem d_Mo_findReached_23 : decode b_Mo_findReached 23 = .ok (.iload_n 2, 1) := by decide +kernel
theorem d_Mo_findReached_24 : decode b_Mo_findReached 24 = .ok (.sipush 144, 3) := by decide +kernel
theorem d_Mo_findReached_27 : decode b_Mo_findReached 27 = .ok (.if_icmp .ge 16, 3) := by decide +kernel
theorem d_Mo_findReached_30 : decode b_Mo_findReached 30 = .ok (.aload_n 0, 1) := by decide +kernel
theorem d_Mo_findReached_31 : decode b_Mo_findReached 31 = .ok (.getfield 65, 3) := by decide +kernel
theorem d_Mo_findReached_34 : decode b_Mo_findReached 34 = .ok (.iload_n 2, 1) := by decide +kernel
theorem d_Mo_findReached_35 : decode b_Mo_findReached 35 = .ok (.iconst 0, 1) := by decide +kernel
theorem d_Mo_findReached_36 : decode b_Mo_findReached 36 = .ok (.bastore, 1) := by decide +kernel
theorem d_Mo_findReached_37 : decode b_Mo_findReached 37 = .ok (.iinc 2 1, 3) := by decide +kernel
theorem d_Mo_findReached_40 : decode b_Mo_findReached 40 = .ok (.goto (-17), 3) := by decide +kernel
theorem d_Mo_findReached_43 : decode b_Mo_findReached 43 = .ok (.aload_n 0, 1) := by decide +kernel
theorem d_Mo_findReached_44 : decode b_Mo_findReached 44 = .ok (.iload_n 1, 1) := by decide +kernel
theorem d_Mo_findReached_45 : decode b_Mo_findReached 45 = .ok (.invokevirtual 151, 3) := by decide +kernel
theorem d_Mo_findReached_48 : decode b_Mo_findReached 48 = .ok (.istore_n 2, 1) := by decide +kernel
theorem d_Mo_findReached_49 : decode b_Mo_findReached 49 = .ok (.iload_n 2, 1) := by decide +kernel
theorem d_Mo_findReached_50 : decode b_Mo_findReached 50 = .ok (.ifCond .ge 10, 3) := by decide +kernel
theorem d_Mo_findReached_53 : decode b_Mo_findReached 53 = .ok (.aload_n 0, 1) := by decide +kernel
theorem d_Mo_findReached_54 : decode b_Mo_findReached 54 = .ok (.iconst 2, 1) := by decide +kernel
theorem d_Mo_findReached_55 : decode b_Mo_findReached 55 = .ok (.iconst (-1), 1) := by decide +kernel
theorem d_Mo_findReached_56 : decode b_Mo_findReached 56 = .ok (.iload_n 1, 1) := by decide +kernel
theorem d_Mo_findReached_57 : decode b_Mo_findReached 57 = .ok (.invokevirtual 157, 3) := by decide +kernel
theorem d_Mo_findReached_60 : decode b_Mo_findReached 60 = .ok (.aload_n 0, 1) := by decide +kernel
theorem d_Mo_findReached_61 : decode b_Mo_findReached 61 = .ok (.iload_n 2, 1) := by decide +kernel
theorem d_Mo_findReached_62 : decode b_Mo_findReached 62 = .ok (.invokevirtual 161, 3) := by decide +kernel
theorem d_Mo_findReached_65 : decode b_Mo_findReached 65 = .ok (.istore_n 3, 1) := by decide +kernel
theorem d_Mo_findReached_66 : decode b_Mo_findReached 66 = .ok (.iload_n 3, 1) := by decide +kernel
theorem d_Mo_findReached_67 : decode b_Mo_findReached 67 = .ok (.ifCond .eq 84, 3) := by decide +kernel
theorem d_Mo_findReached_70 : decode b_Mo_findReached 70 = .ok (.iconst 0, 1) := by decide +kernel
theorem d_Mo_findReached_71 : decode b_Mo_findReached 71 = .ok (.istore_n 3, 1) := by decide +kernel
theorem d_Mo_findReached_72 : decode b_Mo_findReached 72 = .ok (.iconst 0, 1) := by decide +kernel
theorem d_Mo_findReached_73 : decode b_Mo_findReached 73 = .ok (.istore 4, 2) := by decide +kernel
theorem d_Mo_findReached_75 : decode b_Mo_findReached 75 = .ok (.iload 4, 2) := by decide +kernel
theorem d_Mo_findReached_77 : decode b_Mo_findReached 77 = .ok (.aload_n 0, 1) := by decide +kernel
theorem d_Mo_findReached_78 : decode b_Mo_findReached 78 = .ok (.getfield 144, 3) := by decide +kernel
theorem d_Mo_findReached_81 : decode b_Mo_findReached 81 = .ok (.if_icmp .ge 67, 3) := by decide +kernel
theorem d_Mo_findReached_84 : decode b_Mo_findReached 84 = .ok (.aload_n 0, 1) := by decide +kernel
theorem d_Mo_findReached_85 : decode b_Mo_findReached 85 = .ok (.getfield 58, 3) := by decide +kernel
theorem d_Mo_findReached_88 : decode b_Mo_findReached 88 = .ok (.iload 4, 2) := by decide +kernel
theorem d_Mo_findReached_90 : decode b_Mo_findReached 90 = .ok (.iaload, 1) := by decide +kernel
theorem d_Mo_findReached_91 : decode b_Mo_findReached 91 = .ok (.istore 5, 2) := by decide +kernel
theorem d_Mo_findReached_93 : decode b_Mo_findReached 93 = .ok (.iconst 0, 1) := by decide +kernel
theorem d_Mo_findReached_94 : decode b_Mo_findReached 94 = .ok (.istore 6, 2) := by decide +kernel
theorem d_Mo_findReached_96 : decode b_Mo_findReached 96 = .ok (.iload 6, 2) := by decide +kernel
theorem d_Mo_findReached_98 : decode b_Mo_findReached 98 = .ok (.aload_n 0, 1) := by decide +kernel
theorem d_Mo_findReached_99 : decode b_Mo_findReached 99 = .ok (.getfield 40, 3) := by decide +kernel
theorem d_Mo_findReached_102 : decode b_Mo_findReached 102 = .ok (.iload 5, 2) := by decide +kernel
theorem d_Mo_findReached_104 : decode b_Mo_findReached 104 = .ok (.iaload, 1) := by decide +kernel
theorem d_Mo_findReached_105 : decode b_Mo_findReached 105 = .ok (.if_icmp .ge 37, 3) := by decide +kernel
theorem d_Mo_findReached_108 : decode b_Mo_findReached 108 = .ok (.aload_n 0, 1) := by decide +kernel
theorem d_Mo_findReached_109 : decode b_Mo_findReached 109 = .ok (.iload 5, 2) := by decide +kernel
theorem d_Mo_findReached_111 : decode b_Mo_findReached 111 = .ok (.iload 6, 2) := by decide +kernel
theorem d_Mo_findReached_113 : decode b_Mo_findReached 113 = .ok (.invokevirtual 164, 3) := by decide +kernel
theorem d_Mo_findReached_116 : decode b_Mo_findReached 116 = .ok (.ifCond .eq 20, 3) := by decide +kernel
theorem d_Mo_findReached_119 : decode b_Mo_findReached 119 = .ok (.aload_n 0, 1) := by decide +kernel
theorem d_Mo_findReached_120 : decode b_Mo_findReached 120 = .ok (.aload_n 0, 1) := by decide +kernel
theorem d_Mo_findReached_121 : decode b_Mo_findReached 121 = .ok (.iload 5, 2) := by decide +kernel
theorem d_Mo_findReached_123 : decode b_Mo_findReached 123 = .ok (.iload 6, 2) := by decide +kernel
theorem d_Mo_findReached_125 : decode b_Mo_findReached 125 = .ok (.invokevirtual 167, 3) := by decide +kernel
theorem d_Mo_findReached_128 : decode b_Mo_findReached 128 = .ok (.invokevirtual 161, 3) := by decide +kernel
theorem d_Mo_findReached_131 : decode b_Mo_findReached 131 = .ok (.ifCond .eq 5, 3) := by decide +kernel
theorem d_Mo_findReached_134 : decode b_Mo_findReached 134 = .ok (.iconst 1, 1) := by decide +kernel
theorem d_Mo_findReached_135 : decode b_Mo_findReached 135 = .ok (.istore_n 3, 1) := by decide +kernel
theorem d_Mo_findReached_136 : decode b_Mo_findReached 136 = .ok (.iinc 6 1, 3) := by decide +kernel
theorem d_Mo_findReached_139 : decode b_Mo_findReached 139 = .ok (.goto (-43), 3) := by decide +kernel
theorem d_Mo_findReached_142 : decode b_Mo_findReached 142 = .ok (.iinc 4 1, 3) := by decide +kernel
theorem d_Mo_findReached_145 : decode b_Mo_findReached 145 = .ok (.goto (-70), 3) := by decide +kernel
theorem d_Mo_findReached_148 : decode b_Mo_findReached 148 = .ok (.goto (-82), 3) := by decide +kernel
theorem d_Mo_findReached_151 : decode b_Mo_findReached 151 = .ok (.iconst 0, 1) := by decide +kernel
theorem d_Mo_findReached_152 : decode b_Mo_findReached 152 = .ok (.istore 4, 2) := by decide +kernel
theorem d_Mo_findReached_154 : decode b_Mo_findReached 154 = .ok (.iload 4, 2) := by decide +kernel
theorem d_Mo_findReached_156 : decode b_Mo_findReached 156 = .ok (.aload_n 0, 1) := by decide +kernel
theorem d_Mo_findReached_157 : decode b_Mo_findReached 157 = .ok (.getfield 144, 3) := by decide +kernel
theorem d_Mo_findReached_160 : decode b_Mo_findReached 160 = .ok (.if_icmp .ge 70, 3) := by decide +kernel
theorem d_Mo_findReached_163 : decode b_Mo_findReached 163 = .ok (.aload_n 0, 1) := by decide +kernel
theorem d_Mo_findReached_164 : decode b_Mo_findReached 164 = .ok (.getfield 58, 3) := by decide +kernel
theorem d_Mo_findReached_167 : decode b_Mo_findReached 167 = .ok (.iload 4, 2) := by decide +kernel
theorem d_Mo_findReached_169 : decode b_Mo_findReached 169 = .ok (.iaload, 1) := by decide +kernel
theorem d_Mo_findReached_170 : decode b_Mo_findReached 170 = .ok (.istore 5, 2) := by decide +kernel
theorem d_Mo_findReached_172 : decode b_Mo_findReached 172 = .ok (.iconst 0, 1) := by decide +kernel
theorem d_Mo_findReached_173 : decode b_Mo_findReached 173 = .ok (.istore 6, 2) := by decide +kernel
theorem d_Mo_findReached_175 : decode b_Mo_findReached 175 = .ok (.iload 6, 2) := by decide +kernel
theorem d_Mo_findReached_177 : decode b_Mo_findReached 177 = .ok (.aload_n 0, 1) := by decide +kernel
theorem d_Mo_findReached_178 : decode b_Mo_findReached 178 = .ok (.getfield 40, 3) := by decide +kernel
theorem d_Mo_findReached_181 : decode b_Mo_findReached 181 = .ok (.iload 5, 2) := by decide +kernel
theorem d_Mo_findReached_183 : decode b_Mo_findReached 183 = .ok (.iaload, 1) := by decide +kernel
theorem d_Mo_findReached_184 : decode b_Mo_findReached 184 = .ok (.if_icmp .ge 40, 3) := by decide +kernel
theorem d_Mo_findReached_187 : decode b_Mo_findReached 187 = .ok (.aload_n 0, 1) := by decide +kernel
theorem d_Mo_findReached_188 : decode b_Mo_findReached 188 = .ok (.iload 5, 2) := by decide +kernel
theorem d_Mo_findReached_190 : decode b_Mo_findReached 190 = .ok (.iload 6, 2) := by decide +kernel
theorem d_Mo_findReached_192 : decode b_Mo_findReached 192 = .ok (.invokevirtual 164, 3) := by decide +kernel
theorem d_Mo_findReached_195 : decode b_Mo_findReached 195 = .ok (.ifCond .eq 23, 3) := by decide +kernel
theorem d_Mo_findReached_198 : decode b_Mo_findReached 198 = .ok (.aload_n 0, 1) := by decide +kernel
theorem d_Mo_findReached_199 : decode b_Mo_findReached 199 = .ok (.iload 5, 2) := by decide +kernel
theorem d_Mo_findReached_201 : decode b_Mo_findReached 201 = .ok (.iload 6, 2) := by decide +kernel
theorem d_Mo_findReached_203 : decode b_Mo_findReached 203 = .ok (.invokevirtual 167, 3) := by decide +kernel
theorem d_Mo_findReached_206 : decode b_Mo_findReached 206 = .ok (.ifCond .ge 12, 3) := by decide +kernel
theorem d_Mo_findReached_209 : decode b_Mo_findReached 209 = .ok (.aload_n 0, 1) := by decide +kernel
theorem d_Mo_findReached_210 : decode b_Mo_findReached 210 = .ok (.iconst 2, 1) := by decide +kernel
theorem d_Mo_findReached_211 : decode b_Mo_findReached 211 = .ok (.iload 5, 2) := by decide +kernel
theorem d_Mo_findReached_213 : decode b_Mo_findReached 213 = .ok (.iload 6, 2) := by decide +kernel
theorem d_Mo_findReached_215 : decode b_Mo_findReached 215 = .ok (.invokevirtual 157, 3) := by decide +kernel
theorem d_Mo_findReached_218 : decode b_Mo_findReached 218 = .ok (.iinc 6 1, 3) := by decide +kernel
theorem d_Mo_findReached_221 : decode b_Mo_findReached 221 = .ok (.goto (-46), 3) := by decide +kernel
theorem d_Mo_findReached_224 : decode b_Mo_findReached 224 = .ok (.iinc 4 1, 3) := by decide +kernel
theorem d_Mo_findReached_227 : decode b_Mo_findReached 227 = .ok (.goto (-73), 3) := by decide +kernel
theorem d_Mo_findReached_230 : decode b_Mo_findReached 230 = .ok (.return_, 1) := by decide +kernel
theorem d_Mo_meaning_0 : decode b_Mo_meaning 0 = .ok (.aload_n 0, 1) := by decide +kernel
theorem d_Mo_meaning_1 : decode b_Mo_meaning 1 = .ok (.iload_n 1, 1) := by decide +kernel
theorem d_Mo_meaning_2 : decode b_Mo_meaning 2 = .ok (.iconst 0, 1) := by decide +kernel
theorem d_Mo_meaning_3 : decode b_Mo_meaning 3 = .ok (.invokevirtual 147, 3) := by decide +kernel
theorem d_Mo_meaning_6 : decode b_Mo_meaning 6 = .ok (.istore_n 2, 1) := by decide +kernel
theorem d_Mo_meaning_7 : decode b_Mo_meaning 7 = .ok (.iload_n 2, 1) := by decide +kernel
theorem d_Mo_meaning_8 : decode b_Mo_meaning 8 = .ok (.ifCond .ge 12, 3) := by decide +kernel
theorem d_Mo_meaning_11 : decode b_Mo_meaning 11 = .ok (.aload_n 0, 1) := by decide +kernel
theorem d_Mo_meaning_12 : decode b_Mo_meaning 12 = .ok (.iload_n 1, 1) := by decide +kernel
theorem d_Mo_meaning_13 : decode b_Mo_meaning 13 = .ok (.iconst 2, 1) := by decide +kernel
theorem d_Mo_meaning_14 : decode b_Mo_meaning 14 = .ok (.invokevirtual 147, 3) := by decide +kernel
theorem d_Mo_meaning_17 : decode b_Mo_meaning 17 = .ok (.goto 4, 3) := by decide +kernel
theorem d_Mo_meaning_20 : decode b_Mo_meaning 20 = .ok (.iconst (-1), 1) := by decide +kernel
theorem d_Mo_meaning_21 : decode b_Mo_meaning 21 = .ok (.istore_n 3, 1) := by decide +kernel
theorem d_Mo_meaning_22 : decode b_Mo_meaning 22 = .ok (.iload_n 2, 1) := by decide +kernel
theorem d_Mo_meaning_23 : decode b_Mo_meaning 23 = .ok (.ifCond .lt 7, 3) := by decide +kernel
theorem d_Mo_meaning_26 : decode b_Mo_meaning 26 = .ok (.iload_n 2, 1) := by decide +kernel
theorem d_Mo_meaning_27 : decode b_Mo_meaning 27 = .ok (.goto 17, 3) := by decide +kernel
theorem d_Mo_meaning_30 : decode b_Mo_meaning 30 = .ok (.iload_n 3, 1) := by decide +kernel
theorem d_Mo_meaning_31 : decode b_Mo_meaning 31 = .ok (.ifCond .lt 7, 3) := by decide +kernel
theorem d_Mo_meaning_34 : decode b_Mo_meaning 34 = .ok (.iload_n 3, 1) := by decide +kernel
theorem d_Mo_meaning_35 : decode b_Mo_meaning 35 = .ok (.goto 9, 3) := by decide +kernel
theorem d_Mo_meaning_38 : decode b_Mo_meaning 38 = .ok (.aload_n 0, 1) := by decide +kernel
theorem d_Mo_meaning_39 : decode b_Mo_meaning 39 = .ok (.iload_n 1, 1) := by decide +kernel
theorem d_Mo_meaning_40 : decode b_Mo_meaning 40 = .ok (.iconst 1, 1) := by decide +kernel
theorem d_Mo_meaning_41 : decode b_Mo_meaning 41 = .ok (.invokevirtual 147, 3) := by decide +kernel
theorem d_Mo_meaning_44 : decode b_Mo_meaning 44 = .ok (.ireturn, 1) := by decide +kernel
theorem d_Mo_reach_0 : decode b_Mo_reach 0 = .ok (.iload_n 1, 1) := by decide +kernel
theorem d_Mo_reach_1 : decode b_Mo_reach 1 = .ok (.ifCond .ge 5, 3) := by decide +kernel
theorem d_Mo_reach_4 : decode b_Mo_reach 4 = .ok (.iconst 0, 1) := by decide +kernel
theorem d_Mo_reach_5 : decode b_Mo_reach 5 = .ok (.ireturn, 1) := by decide +kernel
theorem d_Mo_reach_6 : decode b_Mo_reach 6 = .ok (.aload_n 0, 1) := by decide +kernel
theorem d_Mo_reach_7 : decode b_Mo_reach 7 = .ok (.getfield 31, 3) := by decide +kernel
theorem d_Mo_reach_10 : decode b_Mo_reach 10 = .ok (.iload_n 1, 1) := by decide +kernel
theorem d_Mo_reach_11 : decode b_Mo_reach 11 = .ok (.iaload, 1) := by decide +kernel
theorem d_Mo_reach_12 : decode b_Mo_reach 12 = .ok (.iconst 2, 1) := by decide +kernel
theorem d_Mo_reach_13 : decode b_Mo_reach 13 = .ok (.if_icmp .ne 27, 3) := by decide +kernel
theorem d_Mo_reach_16 : decode b_Mo_reach 16 = .ok (.aload_n 0, 1) := by decide +kernel
theorem d_Mo_reach_17 : decode b_Mo_reach 17 = .ok (.getfield 65, 3) := by decide +kernel
theorem d_Mo_reach_20 : decode b_Mo_reach 20 = .ok (.iload_n 1, 1) := by decide +kernel
theorem d_Mo_reach_21 : decode b_Mo_reach 21 = .ok (.baload, 1) := by decide +kernel
theorem d_Mo_reach_22 : decode b_Mo_reach 22 = .ok (.ifCond .ne 7, 3) := by decide +kernel
theorem d_Mo_reach_25 : decode b_Mo_reach 25 = .ok (.iconst 1, 1) := by decide +kernel
theorem d_Mo_reach_26 : decode b_Mo_reach 26 = .ok (.goto 4, 3) := by decide +kernel
theorem d_Mo_reach_29 : decode b_Mo_reach 29 = .ok (.iconst 0, 1) := by decide +kernel
theorem d_Mo_reach_30 : decode b_Mo_reach 30 = .ok (.istore_n 2, 1) := by decide +kernel
theorem d_Mo_reach_31 : decode b_Mo_reach 31 = .ok (.aload_n 0, 1) := by decide +kernel
theorem d_Mo_reach_32 : decode b_Mo_reach 32 = .ok (.getfield 65, 3) := by decide +kernel
theorem d_Mo_reach_35 : decode b_Mo_reach 35 = .ok (.iload_n 1, 1) := by decide +kernel
theorem d_Mo_reach_36 : decode b_Mo_reach 36 = .ok (.iconst 1, 1) := by decide +kernel
theorem d_Mo_reach_37 : decode b_Mo_reach 37 = .ok (.bastore, 1) := by decide +kernel
theorem d_Mo_reach_38 : decode b_Mo_reach 38 = .ok (.iload_n 2, 1) := by decide +kernel
theorem d_Mo_reach_39 : decode b_Mo_reach 39 = .ok (.ireturn, 1) := by decide +kernel
theorem d_Mo_reach_40 : decode b_Mo_reach 40 = .ok (.bipush 8, 2) := by decide +kernel
theorem d_Mo_reach_42 : decode b_Mo_reach 42 = .ok (.iload_n 1, 1) := by decide +kernel
theorem d_Mo_reach_43 : decode b_Mo_reach 43 = .ok (.bipush 12, 2) := by decide +kernel
theorem d_Mo_reach_45 : decode b_Mo_reach 45 = .ok (.idiv, 1) := by decide +kernel
theorem d_Mo_reach_46 : decode b_Mo_reach 46 = .ok (.imul, 1) := by decide +kernel
theorem d_Mo_reach_47 : decode b_Mo_reach 47 = .ok (.aload_n 0, 1) := by decide +kernel
theorem d_Mo_reach_48 : decode b_Mo_reach 48 = .ok (.getfield 34, 3) := by decide +kernel
theorem d_Mo_reach_51 : decode b_Mo_reach 51 = .ok (.iload_n 1, 1) := by decide +kernel
theorem d_Mo_reach_52 : decode b_Mo_reach 52 = .ok (.iaload, 1) := by decide +kernel
theorem d_Mo_reach_53 : decode b_Mo_reach 53 = .ok (.iadd, 1) := by decide +kernel
theorem d_Mo_reach_54 : decode b_Mo_reach 54 = .ok (.istore_n 2, 1) := by decide +kernel
theorem d_Mo_reach_55 : decode b_Mo_reach 55 = .ok (.aload_n 0, 1) := by decide +kernel
theorem d_Mo_reach_56 : decode b_Mo_reach 56 = .ok (.getfield 61, 3) := by decide +kernel
theorem d_Mo_reach_59 : decode b_Mo_reach 59 = .ok (.iload_n 2, 1) := by decide +kernel
theorem d_Mo_reach_60 : decode b_Mo_reach 60 = .ok (.baload, 1) := by decide +kernel
theorem d_Mo_reach_61 : decode b_Mo_reach 61 = .ok (.ifCond .ne 7, 3) := by decide +kernel
theorem d_Mo_reach_64 : decode b_Mo_reach 64 = .ok (.iconst 1, 1) := by decide +kernel
theorem d_Mo_reach_65 : decode b_Mo_reach 65 = .ok (.goto 4, 3) := by decide +kernel
theorem d_Mo_reach_68 : decode b_Mo_reach 68 = .ok (.iconst 0, 1) := by decide +kernel
theorem d_Mo_reach_69 : decode b_Mo_reach 69 = .ok (.istore_n 3, 1) := by decide +kernel
theorem d_Mo_reach_70 : decode b_Mo_reach 70 = .ok (.aload_n 0, 1) := by decide +kernel
theorem d_Mo_reach_71 : decode b_Mo_reach 71 = .ok (.getfield 61, 3) := by decide +kernel
theorem d_Mo_reach_74 : decode b_Mo_reach 74 = .ok (.iload_n 2, 1) := by decide +kernel
theorem d_Mo_reach_75 : decode b_Mo_reach 75 = .ok (.iconst 1, 1) := by decide +kernel
theorem d_Mo_reach_76 : decode b_Mo_reach 76 = .ok (.bastore, 1) := by decide +kernel
theorem d_Mo_reach_77 : decode b_Mo_reach 77 = .ok (.iload_n 3, 1) := by decide +kernel
theorem d_Mo_reach_78 : decode b_Mo_reach 78 = .ok (.ireturn, 1) := by decide +kernel
theorem d_Mo_isWorked_0 : decode b_Mo_isWorked 0 = .ok (.aload_n 0, 1) := by decide +kernel
theorem d_Mo_isWorked_1 : decode b_Mo_isWorked 1 = .ok (.getfield 61, 3) := by decide +kernel
theorem d_Mo_isWorked_4 : decode b_Mo_isWorked 4 = .ok (.bipush 8, 2) := by decide +kernel
theorem d_Mo_isWorked_6 : decode b_Mo_isWorked 6 = .ok (.iload_n 1, 1) := by decide +kernel
theorem d_Mo_isWorked_7 : decode b_Mo_isWorked 7 = .ok (.imul, 1) := by decide +kernel
theorem d_Mo_isWorked_8 : decode b_Mo_isWorked 8 = .ok (.aload_n 0, 1) := by decide +kernel
theorem d_Mo_isWorked_9 : decode b_Mo_isWorked 9 = .ok (.getfield 43, 3) := by decide +kernel
theorem d_Mo_isWorked_12 : decode b_Mo_isWorked 12 = .ok (.bipush 16, 2) := by decide +kernel
theorem d_Mo_isWorked_14 : decode b_Mo_isWorked 14 = .ok (.iload_n 1, 1) := by decide +kernel
theorem d_Mo_isWorked_15 : decode b_Mo_isWorked 15 = .ok (.imul, 1) := by decide +kernel
theorem d_Mo_isWorked_16 : decode b_Mo_isWorked 16 = .ok (.iload_n 2, 1) := by decide +kernel
theorem d_Mo_isWorked_17 : decode b_Mo_isWorked 17 = .ok (.iadd, 1) := by decide +kernel
theorem d_Mo_isWorked_18 : decode b_Mo_isWorked 18 = .ok (.iaload, 1) := by decide +kernel
theorem d_Mo_isWorked_19 : decode b_Mo_isWorked 19 = .ok (.iadd, 1) := by decide +kernel
theorem d_Mo_isWorked_20 : decode b_Mo_isWorked 20 = .ok (.baload, 1) := by decide +kernel
theorem d_Mo_isWorked_21 : decode b_Mo_isWorked 21 = .ok (.ireturn, 1) := by decide +kernel
theorem d_Mo_meaningOf_0 : decode b_Mo_meaningOf 0 = .ok (.aload_n 0, 1) := by decide +kernel
theorem d_Mo_meaningOf_1 : decode b_Mo_meaningOf 1 = .ok (.aload_n 0, 1) := by decide +kernel
theorem d_Mo_meaningOf_2 : decode b_Mo_meaningOf 2 = .ok (.getfield 28, 3) := by decide +kernel
theorem d_Mo_meaningOf_5 : decode b_Mo_meaningOf 5 = .ok (.bipush 12, 2) := by decide +kernel
theorem d_Mo_meaningOf_7 : decode b_Mo_meaningOf 7 = .ok (.iload_n 1, 1) := by decide +kernel
theorem d_Mo_meaningOf_8 : decode b_Mo_meaningOf 8 = .ok (.imul, 1) := by decide +kernel
theorem d_Mo_meaningOf_9 : decode b_Mo_meaningOf 9 = .ok (.aload_n 0, 1) := by decide +kernel
theorem d_Mo_meaningOf_10 : decode b_Mo_meaningOf 10 = .ok (.getfield 52, 3) := by decide +kernel
theorem d_Mo_meaningOf_13 : decode b_Mo_meaningOf 13 = .ok (.bipush 16, 2) := by decide +kernel
theorem d_Mo_meaningOf_15 : decode b_Mo_meaningOf 15 = .ok (.iload_n 1, 1) := by decide +kernel
theorem d_Mo_meaningOf_16 : decode b_Mo_meaningOf 16 = .ok (.imul, 1) := by decide +kernel
theorem d_Mo_meaningOf_17 : decode b_Mo_meaningOf 17 = .ok (.iload_n 2, 1) := by decide +kernel
theorem d_Mo_meaningOf_18 : decode b_Mo_meaningOf 18 = .ok (.iadd, 1) := by decide +kernel
theorem d_Mo_meaningOf_19 : decode b_Mo_meaningOf 19 = .ok (.iaload, 1) := by decide +kernel
theorem d_Mo_meaningOf_20 : decode b_Mo_meaningOf 20 = .ok (.iadd, 1) := by decide +kernel
theorem d_Mo_meaningOf_21 : decode b_Mo_meaningOf 21 = .ok (.iaload, 1) := by decide +kernel
theorem d_Mo_meaningOf_22 : decode b_Mo_meaningOf 22 = .ok (.invokevirtual 151, 3) := by decide +kernel
theorem d_Mo_meaningOf_25 : decode b_Mo_meaningOf 25 = .ok (.ireturn, 1) := by decide +kernel
theorem d_Mo_order_0 : decode b_Mo_order 0 = .ok (.aload_n 0, 1) := by decide +kernel
theorem d_Mo_order_1 : decode b_Mo_order 1 = .ok (.aload_n 0, 1) := by decide +kernel
theorem d_Mo_order_2 : decode b_Mo_order 2 = .ok (.getfield 176, 3) := by decide +kernel
theorem d_Mo_order_5 : decode b_Mo_order 5 = .ok (.putfield 170, 3) := by decide +kernel
theorem d_Mo_order_8 : decode b_Mo_order 8 = .ok (.aload_n 0, 1) := by decide +kernel
theorem d_Mo_order_9 : decode b_Mo_order 9 = .ok (.iconst 0, 1) := by decide +kernel
theorem d_Mo_order_10 : decode b_Mo_order 10 = .ok (.putfield 173, 3) := by decide +kernel
theorem d_Mo_order_13 : decode b_Mo_order 13 = .ok (.aload_n 0, 1) := by decide +kernel
theorem d_Mo_order_14 : decode b_Mo_order 14 = .ok (.iconst 0, 1) := by decide +kernel
theorem d_Mo_order_15 : decode b_Mo_order 15 = .ok (.putfield 179, 3) := by decide +kernel
theorem d_Mo_order_18 : decode b_Mo_order 18 = .ok (.aload_n 0, 1) := by decide +kernel
theorem d_Mo_order_19 : decode b_Mo_order 19 = .ok (.iconst 0, 1) := by decide +kernel
theorem d_Mo_order_20 : decode b_Mo_order 20 = .ok (.putfield 182, 3) := by decide +kernel
theorem d_Mo_order_23 : decode b_Mo_order 23 = .ok (.iconst 0, 1) := by decide +kernel
theorem d_Mo_order_24 : decode b_Mo_order 24 = .ok (.istore_n 1, 1) := by decide +kernel
theorem d_Mo_order_25 : decode b_Mo_order 25 = .ok (.iload_n 1, 1) := by decide +kernel
theorem d_Mo_order_26 : decode b_Mo_order 26 = .ok (.bipush 96, 2) := by decide +kernel
theorem d_Mo_order_28 : decode b_Mo_order 28 = .ok (.if_icmp .ge 16, 3) := by decide +kernel
theorem d_Mo_order_31 : decode b_Mo_order 31 = .ok (.aload_n 0, 1) := by decide +kernel
theorem d_Mo_order_32 : decode b_Mo_order 32 = .ok (.getfield 71, 3) := by decide +kernel
theorem d_Mo_order_35 : decode b_Mo_order 35 = .ok (.iload_n 1, 1) := by decide +kernel
theorem d_Mo_order_36 : decode b_Mo_order 36 = .ok (.iconst (-1), 1) := by decide +kernel
theorem d_Mo_order_37 : decode b_Mo_order 37 = .ok (.iastore, 1) := by decide +kernel
theorem d_Mo_order_38 : decode b_Mo_order 38 = .ok (.iinc 1 1, 3) := by decide +kernel
theorem d_Mo_order_41 : decode b_Mo_order 41 = .ok (.goto (-16), 3) := by decide +kernel
theorem d_Mo_order_44 : decode b_Mo_order 44 = .ok (.iconst 0, 1) := by decide +kernel
theorem d_Mo_order_45 : decode b_Mo_order 45 = .ok (.istore_n 1, 1) := by decide +kernel
theorem d_Mo_order_46 : decode b_Mo_order 46 = .ok (.iload_n 1, 1) := by decide +kernel
theorem d_Mo_order_47 : decode b_Mo_order 47 = .ok (.iconst 4, 1) := by decide +kernel
theorem d_Mo_order_48 : decode b_Mo_order 48 = .ok (.if_icmp .ge 126, 3) := by decide +kernel
theorem d_Mo_order_51 : decode b_Mo_order 51 = .ok (.iconst 0, 1) := by decide +kernel
theorem d_Mo_order_52 : decode b_Mo_order 52 = .ok (.istore_n 2, 1) := by decide +kernel
theorem d_Mo_order_53 : decode b_Mo_order 53 = .ok (.iload_n 2, 1) := by decide +kernel
theorem d_Mo_order_54 : decode b_Mo_order 54 = .ok (.aload_n 0, 1) := by decide +kernel
theorem d_Mo_order_55 : decode b_Mo_order 55 = .ok (.getfield 144, 3) := by decide +kernel
theorem d_Mo_order_58 : decode b_Mo_order 58 = .ok (.if_icmp .ge 110, 3) := by decide +kernel
theorem d_Mo_order_61 : decode b_Mo_order 61 = .ok (.bipush 8, 2) := by decide +kernel
theorem d_Mo_order_63 : decode b_Mo_order 63 = .ok (.aload_n 0, 1) := by decide +kernel
theorem d_Mo_order_64 : decode b_Mo_order 64 = .ok (.getfield 58, 3) := by decide +kernel
theorem d_Mo_order_67 : decode b_Mo_order 67 = .ok (.iload_n 2, 1) := by decide +kernel
theorem d_Mo_order_68 : decode b_Mo_order 68 = .ok (.iaload, 1) := by decide +kernel
theorem d_Mo_order_69 : decode b_Mo_order 69 = .ok (.imul, 1) := by decide +kernel
theorem d_Mo_order_70 : decode b_Mo_order 70 = .ok (.istore_n 3, 1) := by decide +kernel
theorem d_Mo_order_71 : decode b_Mo_order 71 = .ok (.iload_n 3, 1) := by decide +kernel
theorem d_Mo_order_72 : decode b_Mo_order 72 = .ok (.bipush 8, 2) := by decide +kernel
theorem d_Mo_order_74 : decode b_Mo_order 74 = .ok (.aload_n 0, 1) := by decide +kernel
theorem d_Mo_order_75 : decode b_Mo_order 75 = .ok (.getfield 58, 3) := by decide +kernel
theorem d_Mo_order_78 : decode b_Mo_order 78 = .ok (.iload_n 2, 1) := by decide +kernel
theorem d_Mo_order_79 : decode b_Mo_order 79 = .ok (.iaload, 1) := by decide +kernel
theorem d_Mo_order_80 : decode b_Mo_order 80 = .ok (.imul, 1) := by decide +kernel
theorem d_Mo_order_81 : decode b_Mo_order 81 = .ok (.aload_n 0, 1) := by decide +kernel
theorem d_Mo_order_82 : decode b_Mo_order 82 = .ok (.getfield 7, 3) := by decide +kernel
theorem d_Mo_order_85 : decode b_Mo_order 85 = .ok (.aload_n 0, 1) := by decide +kernel
theorem d_Mo_order_86 : decode b_Mo_order 86 = .ok (.getfield 58, 3) := by decide +kernel
theorem d_Mo_order_89 : decode b_Mo_order 89 = .ok (.iload_n 2, 1) := by decide +kernel
theorem d_Mo_order_90 : decode b_Mo_order 90 = .ok (.iaload, 1) := by decide +kernel
theorem d_Mo_order_91 : decode b_Mo_order 91 = .ok (.iaload, 1) := by decide +kernel
theorem d_Mo_order_92 : decode b_Mo_order 92 = .ok (.iadd, 1) := by decide +kernel
theorem d_Mo_order_93 : decode b_Mo_order 93 = .ok (.if_icmp .ge 69, 3) := by decide +kernel
theorem d_Mo_order_96 : decode b_Mo_order 96 = .ok (.aload_n 0, 1) := by decide +kernel
theorem d_Mo_order_97 : decode b_Mo_order 97 = .ok (.getfield 61, 3) := by decide +kernel
theorem d_Mo_order_100 : decode b_Mo_order 100 = .ok (.iload_n 3, 1) := by decide +kernel
theorem d_Mo_order_101 : decode b_Mo_order 101 = .ok (.baload, 1) := by decide +kernel
theorem d_Mo_order_102 : decode b_Mo_order 102 = .ok (.ifCond .eq 54, 3) := by decide +kernel
theorem d_Mo_order_105 : decode b_Mo_order 105 = .ok (.aload_n 0, 1) := by decide +kernel
theorem d_Mo_order_106 : decode b_Mo_order 106 = .ok (.getfield 13, 3) := by decide +kernel
theorem d_Mo_order_109 : decode b_Mo_order 109 = .ok (.iload_n 3, 1) := by decide +kernel
theorem d_Mo_order_110 : decode b_Mo_order 110 = .ok (.iaload, 1) := by decide +kernel
theorem d_Mo_order_111 : decode b_Mo_order 111 = .ok (.iload_n 1, 1) := by decide +kernel
theorem d_Mo_order_112 : decode b_Mo_order 112 = .ok (.if_icmp .ne 44, 3) := by decide +kernel
theorem d_Mo_order_115 : decode b_Mo_order 115 = .ok (.aload_n 0, 1) := by decide +kernel
theorem d_Mo_order_116 : decode b_Mo_order 116 = .ok (.getfield 71, 3) := by decide +kernel
theorem d_Mo_order_119 : decode b_Mo_order 119 = .ok (.iload_n 3, 1) := by decide +kernel
theorem d_Mo_order_120 : decode b_Mo_order 120 = .ok (.aload_n 0, 1) := by decide +kernel
theorem d_Mo_order_121 : decode b_Mo_order 121 = .ok (.aload_n 0, 1) := by decide +kernel
theorem d_Mo_order_122 : decode b_Mo_order 122 = .ok (.getfield 16, 3) := by decide +kernel
theorem d_Mo_order_125 : decode b_Mo_order 125 = .ok (.iload_n 3, 1) := by decide +kernel
theorem d_Mo_order_126 : decode b_Mo_order 126 = .ok (.iaload, 1) := by decide +kernel
theorem d_Mo_order_127 : decode b_Mo_order 127 = .ok (.invokevirtual 185, 3) := by decide +kernel
theorem d_Mo_order_130 : decode b_Mo_order 130 = .ok (.iastore, 1) := by decide +kernel
theorem d_Mo_order_131 : decode b_Mo_order 131 = .ok (.aload_n 0, 1) := by decide +kernel
theorem d_Mo_order_132 : decode b_Mo_order 132 = .ok (.dup, 1) := by decide +kernel
theorem d_Mo_order_133 : decode b_Mo_order 133 = .ok (.getfield 170, 3) := by decide +kernel
theorem d_Mo_order_136 : decode b_Mo_order 136 = .ok (.aload_n 0, 1) := by decide +kernel
theorem d_Mo_order_137 : decode b_Mo_order 137 = .ok (.getfield 19, 3) := by decide +kernel
theorem d_Mo_order_140 : decode b_Mo_order 140 = .ok (.iload_n 3, 1) := by decide +kernel
theorem d_Mo_order_141 : decode b_Mo_order 141 = .ok (.iaload, 1) := by decide +kernel
theorem d_Mo_order_142 : decode b_Mo_order 142 = .ok (.iadd, 1) := by decide +kernel
theorem d_Mo_order_143 : decode b_Mo_order 143 = .ok (.putfield 170, 3) := by decide +kernel
theorem d_Mo_order_146 : decode b_Mo_order 146 = .ok (.aload_n 0, 1) := by decide +kernel
theorem d_Mo_order_147 : decode b_Mo_order 147 = .ok (.dup, 1) := by decide +kernel
theorem d_Mo_order_148 : decode b_Mo_order 148 = .ok (.getfield 179, 3) := by decide +kernel
theorem d_Mo_order_151 : decode b_Mo_order 151 = .ok (.iconst 1, 1) := by decide +kernel
theorem d_Mo_order_152 : decode b_Mo_order 152 = .ok (.iadd, 1) := by decide +kernel
theorem d_Mo_order_153 : decode b_Mo_order 153 = .ok (.putfield 179, 3) := by decide +kernel
theorem d_Mo_order_156 : decode b_Mo_order 156 = .ok (.iinc 3 1, 3) := by decide +kernel
theorem d_Mo_order_159 : decode b_Mo_order 159 = .ok (.goto (-88), 3) := by decide +kernel
theorem d_Mo_order_162 : decode b_Mo_order 162 = .ok (.iinc 2 1, 3) := by decide +kernel
theorem d_Mo_order_165 : decode b_Mo_order 165 = .ok (.goto (-112), 3) := by decide +kernel
theorem d_Mo_order_168 : decode b_Mo_order 168 = .ok (.iinc 1 1, 3) := by decide +kernel
theorem d_Mo_order_171 : decode b_Mo_order 171 = .ok (.goto (-125), 3) := by decide +kernel
theorem d_Mo_order_174 : decode b_Mo_order 174 = .ok (.iconst 0, 1) := by decide +kernel
theorem d_Mo_order_175 : decode b_Mo_order 175 = .ok (.istore_n 1, 1) := by decide +kernel
theorem d_Mo_order_176 : decode b_Mo_order 176 = .ok (.iload_n 1, 1) := by decide +kernel
theorem d_Mo_order_177 : decode b_Mo_order 177 = .ok (.aload_n 0, 1) := by decide +kernel
theorem d_Mo_order_178 : decode b_Mo_order 178 = .ok (.getfield 144, 3) := by decide +kernel
theorem d_Mo_order_181 : decode b_Mo_order 181 = .ok (.if_icmp .ge 102, 3) := by decide +kernel
theorem d_Mo_order_184 : decode b_Mo_order 184 = .ok (.aload_n 0, 1) := by decide +kernel
theorem d_Mo_order_185 : decode b_Mo_order 185 = .ok (.getfield 58, 3) := by decide +kernel
theorem d_Mo_order_188 : decode b_Mo_order 188 = .ok (.iload_n 1, 1) := by decide +kernel
theorem d_Mo_order_189 : decode b_Mo_order 189 = .ok (.iaload, 1) := by decide +kernel
theorem d_Mo_order_190 : decode b_Mo_order 190 = .ok (.istore_n 2, 1) := by decide +kernel
theorem d_Mo_order_191 : decode b_Mo_order 191 = .ok (.bipush 12, 2) := by decide +kernel
theorem d_Mo_order_193 : decode b_Mo_order 193 = .ok (.iload_n 2, 1) := by decide +kernel
theorem d_Mo_order_194 : decode b_Mo_order 194 = .ok (.imul, 1) := by decide +kernel
theorem d_Mo_order_195 : decode b_Mo_order 195 = .ok (.istore_n 3, 1) := by decide +kernel
theorem d_Mo_order_196 : decode b_Mo_order 196 = .ok (.iload_n 3, 1) := by decide +kernel
theorem d_Mo_order_197 : decode b_Mo_order 197 = .ok (.bipush 12, 2) := by decide +kernel
theorem d_Mo_order_199 : decode b_Mo_order 199 = .ok (.iload_n 2, 1) := by decide +kernel
theorem d_Mo_order_200 : decode b_Mo_order 200 = .ok (.imul, 1) := by decide +kernel
theorem d_Mo_order_201 : decode b_Mo_order 201 = .ok (.aload_n 0, 1) := by decide +kernel
theorem d_Mo_order_202 : decode b_Mo_order 202 = .ok (.getfield 25, 3) := by decide +kernel
theorem d_Mo_order_205 : decode b_Mo_order 205 = .ok (.iload_n 2, 1) := by decide +kernel
theorem d_Mo_order_206 : decode b_Mo_order 206 = .ok (.iaload, 1) := by decide +kernel
theorem d_Mo_order_207 : decode b_Mo_order 207 = .ok (.iadd, 1) := by decide +kernel
theorem d_Mo_order_208 : decode b_Mo_order 208 = .ok (.if_icmp .ge 69, 3) := by decide +kernel
theorem d_Mo_order_211 : decode b_Mo_order 211 = .ok (.aload_n 0, 1) := by decide +kernel
theorem d_Mo_order_212 : decode b_Mo_order 212 = .ok (.getfield 65, 3) := by decide +kernel
theorem d_Mo_order_215 : decode b_Mo_order 215 = .ok (.iload_n 3, 1) := by decide +kernel
theorem d_Mo_order_216 : decode b_Mo_order 216 = .ok (.baload, 1) := by decide +kernel
theorem d_Mo_order_217 : decode b_Mo_order 217 = .ok (.ifCond .eq 54, 3) := by decide +kernel
theorem d_Mo_order_220 : decode b_Mo_order 220 = .ok (.aload_n 0, 1) := by decide +kernel
theorem d_Mo_order_221 : decode b_Mo_order 221 = .ok (.getfield 68, 3) := by decide +kernel
theorem d_Mo_order_224 : decode b_Mo_order 224 = .ok (.iload_n 3, 1) := by decide +kernel
theorem d_Mo_order_225 : decode b_Mo_order 225 = .ok (.aload_n 0, 1) := by decide +kernel
theorem d_Mo_order_226 : decode b_Mo_order 226 = .ok (.aload_n 0, 1) := by decide +kernel
theorem d_Mo_order_227 : decode b_Mo_order 227 = .ok (.aload_n 0, 1) := by decide +kernel
theorem d_Mo_order_228 : decode b_Mo_order 228 = .ok (.getfield 28, 3) := by decide +kernel
theorem d_Mo_order_231 : decode b_Mo_order 231 = .ok (.iload_n 3, 1) := by decide +kernel
theorem d_Mo_order_232 : decode b_Mo_order 232 = .ok (.iaload, 1) := by decide +kernel
theorem d_Mo_order_233 : decode b_Mo_order 233 = .ok (.iconst 0, 1) := by decide +kernel
theorem d_Mo_order_234 : decode b_Mo_order 234 = .ok (.invokevirtual 188, 3) := by decide +kernel
theorem d_Mo_order_237 : decode b_Mo_order 237 = .ok (.invokevirtual 185, 3) := by decide +kernel
theorem d_Mo_order_240 : decode b_Mo_order 240 = .ok (.iastore, 1) := by decide +kernel
theorem d_Mo_order_241 : decode b_Mo_order 241 = .ok (.aload_n 0, 1) := by decide +kernel
theorem d_Mo_order_242 : decode b_Mo_order 242 = .ok (.dup, 1) := by decide +kernel
theorem d_Mo_order_243 : decode b_Mo_order 243 = .ok (.getfield 170, 3) := by decide +kernel
theorem d_Mo_order_246 : decode b_Mo_order 246 = .ok (.aload_n 0, 1) := by decide +kernel
theorem d_Mo_order_247 : decode b_Mo_order 247 = .ok (.aload_n 0, 1) := by decide +kernel
theorem d_Mo_order_248 : decode b_Mo_order 248 = .ok (.getfield 28, 3) := by decide +kernel
theorem d_Mo_order_251 : decode b_Mo_order 251 = .ok (.iload_n 3, 1) := by decide +kernel
theorem d_Mo_order_252 : decode b_Mo_order 252 = .ok (.iaload, 1) := by decide +kernel
theorem d_Mo_order_253 : decode b_Mo_order 253 = .ok (.iconst 1, 1) := by decide +kernel
theorem d_Mo_order_254 : decode b_Mo_order 254 = .ok (.invokevirtual 188, 3) := by decide +kernel
theorem d_Mo_order_257 : decode b_Mo_order 257 = .ok (.iadd, 1) := by decide +kernel
theorem d_Mo_order_258 : decode b_Mo_order 258 = .ok (.putfield 170, 3) := by decide +kernel
theorem d_Mo_order_261 : decode b_Mo_order 261 = .ok (.aload_n 0, 1) := by decide +kernel
theorem d_Mo_order_262 : decode b_Mo_order 262 = .ok (.dup, 1) := by decide +kernel
theorem d_Mo_order_263 : decode b_Mo_order 263 = .ok (.getfield 182, 3) := by decide +kernel
theorem d_Mo_order_266 : decode b_Mo_order 266 = .ok (.iconst 1, 1) := by decide +kernel
theorem d_Mo_order_267 : decode b_Mo_order 267 = .ok (.iadd, 1) := by decide +kernel
theorem d_Mo_order_268 : decode b_Mo_order 268 = .ok (.putfield 182, 3) := by decide +kernel
theorem d_Mo_order_271 : decode b_Mo_order 271 = .ok (.iinc 3 1, 3) := by decide +kernel
theorem d_Mo_order_274 : decode b_Mo_order 274 = .ok (.goto (-78), 3) := by decide +kernel
theorem d_Mo_order_277 : decode b_Mo_order 277 = .ok (.iinc 1 1, 3) := by decide +kernel
theorem d_Mo_order_280 : decode b_Mo_order 280 = .ok (.goto (-104), 3) := by decide +kernel
theorem d_Mo_order_283 : decode b_Mo_order 283 = .ok (.aload_n 0, 1) := by decide +kernel
theorem d_Mo_order_284 : decode b_Mo_order 284 = .ok (.aload_n 0, 1) := by decide +kernel
theorem d_Mo_order_285 : decode b_Mo_order 285 = .ok (.getfield 170, 3) := by decide +kernel
theorem d_Mo_order_288 : decode b_Mo_order 288 = .ok (.aload_n 0, 1) := by decide +kernel
theorem d_Mo_order_289 : decode b_Mo_order 289 = .ok (.getfield 176, 3) := by decide +kernel
theorem d_Mo_order_292 : decode b_Mo_order 292 = .ok (.isub, 1) := by decide +kernel
theorem d_Mo_order_293 : decode b_Mo_order 293 = .ok (.putfield 192, 3) := by decide +kernel
theorem d_Mo_order_296 : decode b_Mo_order 296 = .ok (.aload_n 0, 1) := by decide +kernel
theorem d_Mo_order_297 : decode b_Mo_order 297 = .ok (.getfield 192, 3) := by decide +kernel
theorem d_Mo_order_300 : decode b_Mo_order 300 = .ok (.sipush 4096, 3) := by decide +kernel
theorem d_Mo_order_303 : decode b_Mo_order 303 = .ok (.if_icmp .le 11, 3) := by decide +kernel
theorem d_Mo_order_306 : decode b_Mo_order 306 = .ok (.aload_n 0, 1) := by decide +kernel
theorem d_Mo_order_307 : decode b_Mo_order 307 = .ok (.bipush 6, 2) := by decide +kernel
theorem d_Mo_order_309 : decode b_Mo_order 309 = .ok (.iconst (-1), 1) := by decide +kernel
theorem d_Mo_order_310 : decode b_Mo_order 310 = .ok (.iconst (-1), 1) := by decide +kernel
theorem d_Mo_order_311 : decode b_Mo_order 311 = .ok (.invokevirtual 157, 3) := by decide +kernel
theorem d_Mo_order_314 : decode b_Mo_order 314 = .ok (.return_, 1) := by decide +kernel
theorem d_Mo_next_0 : decode b_Mo_next 0 = .ok (.aload_n 0, 1) := by decide +kernel
theorem d_Mo_next_1 : decode b_Mo_next 1 = .ok (.getfield 170, 3) := by decide +kernel
theorem d_Mo_next_4 : decode b_Mo_next 4 = .ok (.iconst 1, 1) := by decide +kernel
theorem d_Mo_next_5 : decode b_Mo_next 5 = .ok (.iload_n 1, 1) := by decide +kernel
theorem d_Mo_next_6 : decode b_Mo_next 6 = .ok (.ishl, 1) := by decide +kernel
theorem d_Mo_next_7 : decode b_Mo_next 7 = .ok (.iadd, 1) := by decide +kernel
theorem d_Mo_next_8 : decode b_Mo_next 8 = .ok (.iconst 1, 1) := by decide +kernel
theorem d_Mo_next_9 : decode b_Mo_next 9 = .ok (.isub, 1) := by decide +kernel
theorem d_Mo_next_10 : decode b_Mo_next 10 = .ok (.iload_n 1, 1) := by decide +kernel
theorem d_Mo_next_11 : decode b_Mo_next 11 = .ok (.ishr, 1) := by decide +kernel
theorem d_Mo_next_12 : decode b_Mo_next 12 = .ok (.iload_n 1, 1) := by decide +kernel
theorem d_Mo_next_13 : decode b_Mo_next 13 = .ok (.ishl, 1) := by decide +kernel
theorem d_Mo_next_14 : decode b_Mo_next 14 = .ok (.istore_n 2, 1) := by decide +kernel
theorem d_Mo_next_15 : decode b_Mo_next 15 = .ok (.aload_n 0, 1) := by decide +kernel
theorem d_Mo_next_16 : decode b_Mo_next 16 = .ok (.dup, 1) := by decide +kernel
theorem d_Mo_next_17 : decode b_Mo_next 17 = .ok (.getfield 173, 3) := by decide +kernel
theorem d_Mo_next_20 : decode b_Mo_next 20 = .ok (.iload_n 2, 1) := by decide +kernel
theorem d_Mo_next_21 : decode b_Mo_next 21 = .ok (.aload_n 0, 1) := by decide +kernel
theorem d_Mo_next_22 : decode b_Mo_next 22 = .ok (.getfield 170, 3) := by decide +kernel
theorem d_Mo_next_25 : decode b_Mo_next 25 = .ok (.isub, 1) := by decide +kernel
theorem d_Mo_next_26 : decode b_Mo_next 26 = .ok (.iadd, 1) := by decide +kernel
theorem d_Mo_next_27 : decode b_Mo_next 27 = .ok (.putfield 173, 3) := by decide +kernel
theorem d_Mo_next_30 : decode b_Mo_next 30 = .ok (.aload_n 0, 1) := by decide +kernel
theorem d_Mo_next_31 : decode b_Mo_next 31 = .ok (.iload_n 2, 1) := by decide +kernel
theorem d_Mo_next_32 : decode b_Mo_next 32 = .ok (.putfield 170, 3) := by decide +kernel
theorem d_Mo_next_35 : decode b_Mo_next 35 = .ok (.iload_n 2, 1) := by decide +kernel
theorem d_Mo_next_36 : decode b_Mo_next 36 = .ok (.ireturn, 1) := by decide +kernel
theorem d_Mo_greatest_0 : decode b_Mo_greatest 0 = .ok (.iconst 0, 1) := by decide +kernel
theorem d_Mo_greatest_1 : decode b_Mo_greatest 1 = .ok (.istore_n 3, 1) := by decide +kernel
theorem d_Mo_greatest_2 : decode b_Mo_greatest 2 = .ok (.iconst 0, 1) := by decide +kernel
theorem d_Mo_greatest_3 : decode b_Mo_greatest 3 = .ok (.istore 4, 2) := by decide +kernel
theorem d_Mo_greatest_5 : decode b_Mo_greatest 5 = .ok (.iload 4, 2) := by decide +kernel
theorem d_Mo_greatest_7 : decode b_Mo_greatest 7 = .ok (.aload_n 0, 1) := by decide +kernel
theorem d_Mo_greatest_8 : decode b_Mo_greatest 8 = .ok (.getfield 144, 3) := by decide +kernel
theorem d_Mo_greatest_11 : decode b_Mo_greatest 11 = .ok (.if_icmp .ge 103, 3) := by decide +kernel
theorem d_Mo_greatest_14 : decode b_Mo_greatest 14 = .ok (.aload_n 0, 1) := by decide +kernel
theorem d_Mo_greatest_15 : decode b_Mo_greatest 15 = .ok (.getfield 58, 3) := by decide +kernel
theorem d_Mo_greatest_18 : decode b_Mo_greatest 18 = .ok (.iload 4, 2) := by decide +kernel
theorem d_Mo_greatest_20 : decode b_Mo_greatest 20 = .ok (.iaload, 1) := by decide +kernel
theorem d_Mo_greatest_21 : decode b_Mo_greatest 21 = .ok (.istore 5, 2) := by decide +kernel
theorem d_Mo_greatest_23 : decode b_Mo_greatest 23 = .ok (.bipush 12, 2) := by decide +kernel
theorem d_Mo_greatest_25 : decode b_Mo_greatest 25 = .ok (.iload 5, 2) := by decide +kernel
theorem d_Mo_greatest_27 : decode b_Mo_greatest 27 = .ok (.imul, 1) := by decide +kernel
theorem d_Mo_greatest_28 : decode b_Mo_greatest 28 = .ok (.istore 6, 2) := by decide +kernel
theorem d_Mo_greatest_30 : decode b_Mo_greatest 30 = .ok (.iload 6, 2) := by decide +kernel
theorem d_Mo_greatest_32 : decode b_Mo_greatest 32 = .ok (.bipush 12, 2) := by decide +kernel
theorem d_Mo_greatest_34 : decode b_Mo_greatest 34 = .ok (.iload 5, 2) := by decide +kernel
theorem d_Mo_greatest_36 : decode b_Mo_greatest 36 = .ok (.imul, 1) := by decide +kernel
theorem d_Mo_greatest_37 : decode b_Mo_greatest 37 = .ok (.aload_n 0, 1) := by decide +kernel
theorem d_Mo_greatest_38 : decode b_Mo_greatest 38 = .ok (.getfield 25, 3) := by decide +kernel
theorem d_Mo_greatest_41 : decode b_Mo_greatest 41 = .ok (.iload 5, 2) := by decide +kernel
theorem d_Mo_greatest_43 : decode b_Mo_greatest 43 = .ok (.iaload, 1) := by decide +kernel
theorem d_Mo_greatest_44 : decode b_Mo_greatest 44 = .ok (.iadd, 1) := by decide +kernel
theorem d_Mo_greatest_45 : decode b_Mo_greatest 45 = .ok (.if_icmp .ge 63, 3) := by decide +kernel
theorem d_Mo_greatest_48 : decode b_Mo_greatest 48 = .ok (.iload_n 2, 1) := by decide +kernel
theorem d_Mo_greatest_49 : decode b_Mo_greatest 49 = .ok (.ifCond .eq 13, 3) := by decide +kernel
theorem d_Mo_greatest_52 : decode b_Mo_greatest 52 = .ok (.aload_n 0, 1) := by decide +kernel
theorem d_Mo_greatest_53 : decode b_Mo_greatest 53 = .ok (.getfield 37, 3) := by decide +kernel
theorem d_Mo_greatest_56 : decode b_Mo_greatest 56 = .ok (.iload 6, 2) := by decide +kernel
theorem d_Mo_greatest_58 : decode b_Mo_greatest 58 = .ok (.iaload, 1) := by decide +kernel
theorem d_Mo_greatest_59 : decode b_Mo_greatest 59 = .ok (.goto 10, 3) := by decide +kernel
theorem d_Mo_greatest_62 : decode b_Mo_greatest 62 = .ok (.aload_n 0, 1) := by decide +kernel
theorem d_Mo_greatest_63 : decode b_Mo_greatest 63 = .ok (.getfield 34, 3) := by decide +kernel
theorem d_Mo_greatest_66 : decode b_Mo_greatest 66 = .ok (.iload 6, 2) := by decide +kernel
theorem d_Mo_greatest_68 : decode b_Mo_greatest 68 = .ok (.iaload, 1) := by decide +kernel
theorem d_Mo_greatest_69 : decode b_Mo_greatest 69 = .ok (.istore 7, 2) := by decide +kernel
theorem d_Mo_greatest_71 : decode b_Mo_greatest 71 = .ok (.aload_n 0, 1) := by decide +kernel
theorem d_Mo_greatest_72 : decode b_Mo_greatest 72 = .ok (.getfield 31, 3) := by decide +kernel
theorem d_Mo_greatest_75 : decode b_Mo_greatest 75 = .ok (.iload 6, 2) := by decide +kernel
theorem d_Mo_greatest_77 : decode b_Mo_greatest 77 = .ok (.iaload, 1) := by decide +kernel
theorem d_Mo_greatest_78 : decode b_Mo_greatest 78 = .ok (.iconst 2, 1) := by decide +kernel
theorem d_Mo_greatest_79 : decode b_Mo_greatest 79 = .ok (.if_icmp .ne 23, 3) := by decide +kernel
theorem d_Mo_greatest_82 : decode b_Mo_greatest 82 = .ok (.aload_n 0, 1) := by decide +kernel
theorem d_Mo_greatest_83 : decode b_Mo_greatest 83 = .ok (.getfield 28, 3) := by decide +kernel
theorem d_Mo_greatest_86 : decode b_Mo_greatest 86 = .ok (.iload 6, 2) := by decide +kernel
theorem d_Mo_greatest_88 : decode b_Mo_greatest 88 = .ok (.iaload, 1) := by decide +kernel
theorem d_Mo_greatest_89 : decode b_Mo_greatest 89 = .ok (.iload_n 1, 1) := by decide +kernel
theorem d_Mo_greatest_90 : decode b_Mo_greatest 90 = .ok (.if_icmp .ne 12, 3) := by decide +kernel
theorem d_Mo_greatest_93 : decode b_Mo_greatest 93 = .ok (.iload 7, 2) := by decide +kernel
theorem d_Mo_greatest_95 : decode b_Mo_greatest 95 = .ok (.iload_n 3, 1) := by decide +kernel
theorem d_Mo_greatest_96 : decode b_Mo_greatest 96 = .ok (.if_icmp .le 6, 3) := by decide +kernel
theorem d_Mo_greatest_99 : decode b_Mo_greatest 99 = .ok (.iload 7, 2) := by decide +kernel
theorem d_Mo_greatest_101 : decode b_Mo_greatest 101 = .ok (.istore_n 3, 1) := by decide +kernel
theorem d_Mo_greatest_102 : decode b_Mo_greatest 102 = .ok (.iinc 6 1, 3) := by decide +kernel
theorem d_Mo_greatest_105 : decode b_Mo_greatest 105 = .ok (.goto (-75), 3) := by decide +kernel
theorem d_Mo_greatest_108 : decode b_Mo_greatest 108 = .ok (.iinc 4 1, 3) := by decide +kernel
theorem d_Mo_greatest_111 : decode b_Mo_greatest 111 = .ok (.goto (-106), 3) := by decide +kernel
theorem d_Mo_greatest_114 : decode b_Mo_greatest 114 = .ok (.iload_n 3, 1) := by decide +kernel
theorem d_Mo_greatest_115 : decode b_Mo_greatest 115 = .ok (.ireturn, 1) := by decide +kernel
theorem d_Mo_copySections_0 : decode b_Mo_copySections 0 = .ok (.iconst 0, 1) := by decide +kernel
theorem d_Mo_copySections_1 : decode b_Mo_copySections 1 = .ok (.istore_n 1, 1) := by decide +kernel
theorem d_Mo_copySections_2 : decode b_Mo_copySections 2 = .ok (.iload_n 1, 1) := by decide +kernel
theorem d_Mo_copySections_3 : decode b_Mo_copySections 3 = .ok (.sipush 4096, 3) := by decide +kernel
theorem d_Mo_copySections_6 : decode b_Mo_copySections 6 = .ok (.if_icmp .ge 16, 3) := by decide +kernel
theorem d_Mo_copySections_9 : decode b_Mo_copySections 9 = .ok (.aload_n 0, 1) := by decide +kernel
theorem d_Mo_copySections_10 : decode b_Mo_copySections 10 = .ok (.getfield 81, 3) := by decide +kernel
theorem d_Mo_copySections_13 : decode b_Mo_copySections 13 = .ok (.iload_n 1, 1) := by decide +kernel
theorem d_Mo_copySections_14 : decode b_Mo_copySections 14 = .ok (.iconst 0, 1) := by decide +kernel
theorem d_Mo_copySections_15 : decode b_Mo_copySections 15 = .ok (.iastore, 1) := by decide +kernel
theorem d_Mo_copySections_16 : decode b_Mo_copySections 16 = .ok (.iinc 1 1, 3) := by decide +kernel
theorem d_Mo_copySections_19 : decode b_Mo_copySections 19 = .ok (.goto (-17), 3) := by decide +kernel
theorem d_Mo_copySections_22 : decode b_Mo_copySections 22 = .ok (.iconst 0, 1) := by decide +kernel
theorem d_Mo_copySections_23 : decode b_Mo_copySections 23 = .ok (.istore_n 1, 1) := by decide +kernel
theorem d_Mo_copySections_24 : decode b_Mo_copySections 24 = .ok (.iload_n 1, 1) := by decide +kernel
theorem d_Mo_copySections_25 : decode b_Mo_copySections 25 = .ok (.bipush 96, 2) := by decide +kernel
theorem d_Mo_copySections_27 : decode b_Mo_copySections 27 = .ok (.if_icmp .ge 76, 3) := by decide +kernel
theorem d_Mo_copySections_30 : decode b_Mo_copySections 30 = .ok (.iconst 0, 1) := by decide +kernel
theorem d_Mo_copySections_31 : decode b_Mo_copySections 31 = .ok (.istore_n 2, 1) := by decide +kernel
theorem d_Mo_copySections_32 : decode b_Mo_copySections 32 = .ok (.aload_n 0, 1) := by decide +kernel
theorem d_Mo_copySections_33 : decode b_Mo_copySections 33 = .ok (.getfield 61, 3) := by decide +kernel
theorem d_Mo_copySections_36 : decode b_Mo_copySections 36 = .ok (.iload_n 1, 1) := by decide +kernel
theorem d_Mo_copySections_37 : decode b_Mo_copySections 37 = .ok (.baload, 1) := by decide +kernel
theorem d_Mo_copySections_38 : decode b_Mo_copySections 38 = .ok (.ifCond .eq 59, 3) := by decide +kernel
theorem d_Mo_copySections_41 : decode b_Mo_copySections 41 = .ok (.iload_n 2, 1) := by decide +kernel
theorem d_Mo_copySections_42 : decode b_Mo_copySections 42 = .ok (.aload_n 0, 1) := by decide +kernel
theorem d_Mo_copySections_43 : decode b_Mo_copySections 43 = .ok (.getfield 19, 3) := by decide +kernel
theorem d_Mo_copySections_46 : decode b_Mo_copySections 46 = .ok (.iload_n 1, 1) := by decide +kernel
theorem d_Mo_copySections_47 : decode b_Mo_copySections 47 = .ok (.iaload, 1) := by decide +kernel
theorem d_Mo_copySections_48 : decode b_Mo_copySections 48 = .ok (.if_icmp .ge 49, 3) := by decide +kernel
theorem d_Mo_copySections_51 : decode b_Mo_copySections 51 = .ok (.aload_n 0, 1) := by decide +kernel
theorem d_Mo_copySections_52 : decode b_Mo_copySections 52 = .ok (.getfield 13, 3) := by decide +kernel
theorem d_Mo_copySections_55 : decode b_Mo_copySections 55 = .ok (.iload_n 1, 1) := by decide +kernel
theorem d_Mo_copySections_56 : decode b_Mo_copySections 56 = .ok (.iaload, 1) := by decide +kernel
theorem d_Mo_copySections_57 : decode b_Mo_copySections 57 = .ok (.iconst 3, 1) := by decide +kernel
theorem d_Mo_copySections_58 : decode b_Mo_copySections 58 = .ok (.if_icmp .eq 39, 3) := by decide +kernel
theorem d_Mo_copySections_61 : decode b_Mo_copySections 61 = .ok (.aload_n 0, 1) := by decide +kernel
theorem d_Mo_copySections_62 : decode b_Mo_copySections 62 = .ok (.getfield 81, 3) := by decide +kernel
theorem d_Mo_copySections_65 : decode b_Mo_copySections 65 = .ok (.aload_n 0, 1) := by decide +kernel
theorem d_Mo_copySections_66 : decode b_Mo_copySections 66 = .ok (.getfield 71, 3) := by decide +kernel
theorem d_Mo_copySections_69 : decode b_Mo_copySections 69 = .ok (.iload_n 1, 1) := by decide +kernel
theorem d_Mo_copySections_70 : decode b_Mo_copySections 70 = .ok (.iaload, 1) := by decide +kernel
theorem d_Mo_copySections_71 : decode b_Mo_copySections 71 = .ok (.aload_n 0, 1) := by decide +kernel
theorem d_Mo_copySections_72 : decode b_Mo_copySections 72 = .ok (.getfield 176, 3) := by decide +kernel
theorem d_Mo_copySections_75 : decode b_Mo_copySections 75 = .ok (.isub, 1) := by decide +kernel
theorem d_Mo_copySections_76 : decode b_Mo_copySections 76 = .ok (.iload_n 2, 1) := by decide +kernel
theorem d_Mo_copySections_77 : decode b_Mo_copySections 77 = .ok (.iadd, 1) := by decide +kernel
theorem d_Mo_copySections_78 : decode b_Mo_copySections 78 = .ok (.aload_n 0, 1) := by decide +kernel
theorem d_Mo_copySections_79 : decode b_Mo_copySections 79 = .ok (.getfield 22, 3) := by decide +kernel
theorem d_Mo_copySections_82 : decode b_Mo_copySections 82 = .ok (.sipush 128, 3) := by decide +kernel
theorem d_Mo_copySections_85 : decode b_Mo_copySections 85 = .ok (.iload_n 1, 1) := by decide +kernel
theorem d_Mo_copySections_86 : decode b_Mo_copySections 86 = .ok (.imul, 1) := by decide +kernel
theorem d_Mo_copySections_87 : decode b_Mo_copySections 87 = .ok (.iload_n 2, 1) := by decide +kernel
theorem d_Mo_copySections_88 : decode b_Mo_copySections 88 = .ok (.iadd, 1) := by decide +kernel
theorem d_Mo_copySections_89 : decode b_Mo_copySections 89 = .ok (.iaload, 1) := by decide +kernel
theorem d_Mo_copySections_90 : decode b_Mo_copySections 90 = .ok (.iastore, 1) := by decide +kernel
theorem d_Mo_copySections_91 : decode b_Mo_copySections 91 = .ok (.iinc 2 1, 3) := by decide +kernel
theorem d_Mo_copySections_94 : decode b_Mo_copySections 94 = .ok (.goto (-62), 3) := by decide +kernel
theorem d_Mo_copySections_97 : decode b_Mo_copySections 97 = .ok (.iinc 1 1, 3) := by decide +kernel
theorem d_Mo_copySections_100 : decode b_Mo_copySections 100 = .ok (.goto (-76), 3) := by decide +kernel
theorem d_Mo_copySections_103 : decode b_Mo_copySections 103 = .ok (.return_, 1) := by decide +kernel
theorem d_Mo_workIn_0 : decode b_Mo_workIn 0 = .ok (.bipush 16, 2) := by decide +kernel
theorem d_Mo_workIn_2 : decode b_Mo_workIn 2 = .ok (.iload_n 1, 1) := by decide +kernel
theorem d_Mo_workIn_3 : decode b_Mo_workIn 3 = .ok (.imul, 1) := by decide +kernel
theorem d_Mo_workIn_4 : decode b_Mo_workIn 4 = .ok (.iload_n 2, 1) := by decide +kernel
theorem d_Mo_workIn_5 : decode b_Mo_workIn 5 = .ok (.iadd, 1) := by decide +kernel
theorem d_Mo_workIn_6 : decode b_Mo_workIn 6 = .ok (.istore_n 3, 1) := by decide +kernel
theorem d_Mo_workIn_7 : decode b_Mo_workIn 7 = .ok (.bipush 8, 2) := by decide +kernel
theorem d_Mo_workIn_9 : decode b_Mo_workIn 9 = .ok (.iload_n 1, 1) := by decide +kernel
theorem d_Mo_workIn_10 : decode b_Mo_workIn 10 = .ok (.imul, 1) := by decide +kernel
theorem d_Mo_workIn_11 : decode b_Mo_workIn 11 = .ok (.aload_n 0, 1) := by decide +kernel
theorem d_Mo_workIn_12 : decode b_Mo_workIn 12 = .ok (.getfield 43, 3) := by decide +kernel
theorem d_Mo_workIn_15 : decode b_Mo_workIn 15 = .ok (.iload_n 3, 1) := by decide +kernel
theorem d_Mo_workIn_16 : decode b_Mo_workIn 16 = .ok (.iaload, 1) := by decide +kernel
theorem d_Mo_workIn_17 : decode b_Mo_workIn 17 = .ok (.iadd, 1) := by decide +kernel
theorem d_Mo_workIn_18 : decode b_Mo_workIn 18 = .ok (.istore 4, 2) := by decide +kernel
theorem d_Mo_workIn_20 : decode b_Mo_workIn 20 = .ok (.aload_n 0, 1) := by decide +kernel
theorem d_Mo_workIn_21 : decode b_Mo_workIn 21 = .ok (.getfield 49, 3) := by decide +kernel
theorem d_Mo_workIn_24 : decode b_Mo_workIn 24 = .ok (.iload_n 3, 1) := by decide +kernel
theorem d_Mo_workIn_25 : decode b_Mo_workIn 25 = .ok (.iaload, 1) := by decide +kernel
theorem d_Mo_workIn_26 : decode b_Mo_workIn 26 = .ok (.istore 5, 2) := by decide +kernel
theorem d_Mo_workIn_28 : decode b_Mo_workIn 28 = .ok (.iload 5, 2) := by decide +kernel
theorem d_Mo_workIn_30 : decode b_Mo_workIn 30 = .ok (.ifCond .ne 7, 3) := by decide +kernel
theorem d_Mo_workIn_33 : decode b_Mo_workIn 33 = .ok (.iconst 4, 1) := by decide +kernel
theorem d_Mo_workIn_34 : decode b_Mo_workIn 34 = .ok (.goto 14, 3) := by decide +kernel
theorem d_Mo_workIn_37 : decode b_Mo_workIn 37 = .ok (.iload 5, 2) := by decide +kernel
theorem d_Mo_workIn_39 : decode b_Mo_workIn 39 = .ok (.iconst 3, 1) := by decide +kernel
theorem d_Mo_workIn_40 : decode b_Mo_workIn 40 = .ok (.if_icmp .ne 7, 3) := by decide +kernel
theorem d_Mo_workIn_43 : decode b_Mo_workIn 43 = .ok (.iconst 1, 1) := by decide +kernel
theorem d_Mo_workIn_44 : decode b_Mo_workIn 44 = .ok (.goto 4, 3) := by decide +kernel
theorem d_Mo_workIn_47 : decode b_Mo_workIn 47 = .ok (.iconst 2, 1) := by decide +kernel
theorem d_Mo_workIn_48 : decode b_Mo_workIn 48 = .ok (.istore 6, 2) := by decide +kernel
theorem d_Mo_workIn_50 : decode b_Mo_workIn 50 = .ok (.aload_n 0, 1) := by decide +kernel
theorem d_Mo_workIn_51 : decode b_Mo_workIn 51 = .ok (.getfield 46, 3) := by decide +kernel
theorem d_Mo_workIn_54 : decode b_Mo_workIn 54 = .ok (.iload_n 3, 1) := by decide +kernel
theorem d_Mo_workIn_55 : decode b_Mo_workIn 55 = .ok (.iaload, 1) := by decide +kernel
theorem d_Mo_workIn_56 : decode b_Mo_workIn 56 = .ok (.iload 6, 2) := by decide +kernel
theorem d_Mo_workIn_58 : decode b_Mo_workIn 58 = .ok (.iadd, 1) := by decide +kernel
theorem d_Mo_workIn_59 : decode b_Mo_workIn 59 = .ok (.aload_n 0, 1) := by decide +kernel
theorem d_Mo_workIn_60 : decode b_Mo_workIn 60 = .ok (.getfield 19, 3) := by decide +kernel
theorem d_Mo_workIn_63 : decode b_Mo_workIn 63 = .ok (.iload 4, 2) := by decide +kernel
theorem d_Mo_workIn_65 : decode b_Mo_workIn 65 = .ok (.iaload, 1) := by decide +kernel
theorem d_Mo_workIn_66 : decode b_Mo_workIn 66 = .ok (.if_icmp .le 11, 3) := by decide +kernel
theorem d_Mo_workIn_69 : decode b_Mo_workIn 69 = .ok (.aload_n 0, 1) := by decide +kernel
theorem d_Mo_workIn_70 : decode b_Mo_workIn 70 = .ok (.iconst 3, 1) := by decide +kernel
theorem d_Mo_workIn_71 : decode b_Mo_workIn 71 = .ok (.iload_n 1, 1) := by decide +kernel
theorem d_Mo_workIn_72 : decode b_Mo_workIn 72 = .ok (.iload_n 2, 1) := by decide +kernel
theorem d_Mo_workIn_73 : decode b_Mo_workIn 73 = .ok (.invokevirtual 157, 3) := by decide +kernel
theorem d_Mo_workIn_76 : decode b_Mo_workIn 76 = .ok (.return_, 1) := by decide +kernel
theorem d_Mo_workIn_77 : decode b_Mo_workIn 77 = .ok (.aload_n 0, 1) := by decide +kernel
theorem d_Mo_workIn_78 : decode b_Mo_workIn 78 = .ok (.getfield 71, 3) := by decide +kernel
theorem d_Mo_workIn_81 : decode b_Mo_workIn 81 = .ok (.iload 4, 2) := by decide +kernel
theorem d_Mo_workIn_83 : decode b_Mo_workIn 83 = .ok (.iaload, 1) := by decide +kernel
theorem d_Mo_workIn_84 : decode b_Mo_workIn 84 = .ok (.aload_n 0, 1) := by decide +kernel
theorem d_Mo_workIn_85 : decode b_Mo_workIn 85 = .ok (.getfield 46, 3) := by decide +kernel
theorem d_Mo_workIn_88 : decode b_Mo_workIn 88 = .ok (.iload_n 3, 1) := by decide +kernel
theorem d_Mo_workIn_89 : decode b_Mo_workIn 89 = .ok (.iaload, 1) := by decide +kernel
theorem d_Mo_workIn_90 : decode b_Mo_workIn 90 = .ok (.iadd, 1) := by decide +kernel
theorem d_Mo_workIn_91 : decode b_Mo_workIn 91 = .ok (.istore 7, 2) := by decide +kernel
theorem d_Mo_workIn_93 : decode b_Mo_workIn 93 = .ok (.aload_n 0, 1) := by decide +kernel
theorem d_Mo_workIn_94 : decode b_Mo_workIn 94 = .ok (.aload_n 0, 1) := by decide +kernel
theorem d_Mo_workIn_95 : decode b_Mo_workIn 95 = .ok (.iload_n 1, 1) := by decide +kernel
theorem d_Mo_workIn_96 : decode b_Mo_workIn 96 = .ok (.iload_n 2, 1) := by decide +kernel
theorem d_Mo_workIn_97 : decode b_Mo_workIn 97 = .ok (.invokevirtual 167, 3) := by decide +kernel
theorem d_Mo_workIn_100 : decode b_Mo_workIn 100 = .ok (.invokevirtual 197, 3) := by decide +kernel
theorem d_Mo_workIn_103 : decode b_Mo_workIn 103 = .ok (.i2l, 1) := by decide +kernel
theorem d_Mo_workIn_104 : decode b_Mo_workIn 104 = .ok (.aload_n 0, 1) := by decide +kernel
theorem d_Mo_workIn_105 : decode b_Mo_workIn 105 = .ok (.getfield 55, 3) := by decide +kernel
theorem d_Mo_workIn_108 : decode b_Mo_workIn 108 = .ok (.iload_n 3, 1) := by decide +kernel
theorem d_Mo_workIn_109 : decode b_Mo_workIn 109 = .ok (.iaload, 1) := by decide +kernel
theorem d_Mo_workIn_110 : decode b_Mo_workIn 110 = .ok (.i2l, 1) := by decide +kernel
theorem d_Mo_workIn_111 : decode b_Mo_workIn 111 = .ok (.ladd, 1) := by decide +kernel
theorem d_Mo_workIn_112 : decode b_Mo_workIn 112 = .ok (.lstore 8, 2) := by decide +kernel
theorem d_Mo_workIn_114 : decode b_Mo_workIn 114 = .ok (.lload 8, 2) := by decide +kernel
theorem d_Mo_workIn_116 : decode b_Mo_workIn 116 = .ok (.iload 7, 2) := by decide +kernel
theorem d_Mo_workIn_118 : decode b_Mo_workIn 118 = .ok (.i2l, 1) := by decide +kernel
theorem d_Mo_workIn_119 : decode b_Mo_workIn 119 = .ok (.lsub, 1) := by decide +kernel
theorem d_Mo_workIn_120 : decode b_Mo_workIn 120 = .ok (.lstore 10, 2) := by decide +kernel
theorem d_Mo_workIn_122 : decode b_Mo_workIn 122 = .ok (.iload 5, 2) := by decide +kernel
theorem d_Mo_workIn_124 : decode b_Mo_workIn 124 = .ok (.ifCond .ne 12, 3) := by decide +kernel
theorem d_Mo_workIn_127 : decode b_Mo_workIn 127 = .ok (.aload_n 0, 1) := by decide +kernel
theorem d_Mo_workIn_128 : decode b_Mo_workIn 128 = .ok (.iload 7, 2) := by decide +kernel
theorem d_Mo_workIn_130 : decode b_Mo_workIn 130 = .ok (.lload 8, 2) := by decide +kernel
theorem d_Mo_workIn_132 : decode b_Mo_workIn 132 = .ok (.iconst 4, 1) := by decide +kernel
theorem d_Mo_workIn_133 : decode b_Mo_workIn 133 = .ok (.invokevirtual 200, 3) := by decide +kernel
theorem d_Mo_workIn_136 : decode b_Mo_workIn 136 = .ok (.iload 5, 2) := by decide +kernel
theorem d_Mo_workIn_138 : decode b_Mo_workIn 138 = .ok (.iconst 4, 1) := by decide +kernel
theorem d_Mo_workIn_139 : decode b_Mo_workIn 139 = .ok (.if_icmp .ne 19, 3) := by decide +kernel
theorem d_Mo_workIn_142 : decode b_Mo_workIn 142 = .ok (.aload_n 0, 1) := by decide +kernel
theorem d_Mo_workIn_143 : decode b_Mo_workIn 143 = .ok (.iload 7, 2) := by decide +kernel
theorem d_Mo_workIn_145 : decode b_Mo_workIn 145 = .ok (.lload 8, 2) := by decide +kernel
theorem d_Mo_workIn_147 : decode b_Mo_workIn 147 = .ok (.ldc2_w 204, 3) := by decide +kernel
theorem d_Mo_workIn_150 : decode b_Mo_workIn 150 = .ok (.ladd, 1) := by decide +kernel
theorem d_Mo_workIn_151 : decode b_Mo_workIn 151 = .ok (.bipush 16, 2) := by decide +kernel
theorem d_Mo_workIn_153 : decode b_Mo_workIn 153 = .ok (.lshr, 1) := by decide +kernel
theorem d_Mo_workIn_154 : decode b_Mo_workIn 154 = .ok (.iconst 2, 1) := by decide +kernel
theorem d_Mo_workIn_155 : decode b_Mo_workIn 155 = .ok (.invokevirtual 200, 3) := by decide +kernel
theorem d_Mo_workIn_158 : decode b_Mo_workIn 158 = .ok (.iload 5, 2) := by decide +kernel
theorem d_Mo_workIn_160 : decode b_Mo_workIn 160 = .ok (.iconst 1, 1) := by decide +kernel
theorem d_Mo_workIn_161 : decode b_Mo_workIn 161 = .ok (.if_icmp .ne 15, 3) := by decide +kernel
theorem d_Mo_workIn_164 : decode b_Mo_workIn 164 = .ok (.lload 8, 2) := by decide +kernel
theorem d_Mo_workIn_166 : decode b_Mo_workIn 166 = .ok (.lconst 0, 1) := by decide +kernel
theorem d_Mo_workIn_167 : decode b_Mo_workIn 167 = .ok (.ldc2_w 206, 3) := by decide +kernel
theorem d_Mo_workIn_170 : decode b_Mo_workIn 170 = .ok (.invokestatic 208, 3) := by decide +kernel
theorem d_Mo_workIn_173 : decode b_Mo_workIn 173 = .ok (.ifCond .eq 23, 3) := by decide +kernel
theorem d_Mo_workIn_176 : decode b_Mo_workIn 176 = .ok (.iload 5, 2) := by decide +kernel
theorem d_Mo_workIn_178 : decode b_Mo_workIn 178 = .ok (.iconst 2, 1) := by decide +kernel
theorem d_Mo_workIn_179 : decode b_Mo_workIn 179 = .ok (.if_icmp .ne 24, 3) := by decide +kernel
theorem d_Mo_workIn_182 : decode b_Mo_workIn 182 = .ok (.lload 10, 2) := by decide +kernel
theorem d_Mo_workIn_184 : decode b_Mo_workIn 184 = .ok (.ldc2_w 212, 3) := by decide +kernel
theorem d_Mo_workIn_187 : decode b_Mo_workIn 187 = .ok (.ldc2_w 214, 3) := by decide +kernel
theorem d_Mo_workIn_190 : decode b_Mo_workIn 190 = .ok (.invokestatic 208, 3) := by decide +kernel
theorem d_Mo_workIn_193 : decode b_Mo_workIn 193 = .ok (.ifCond .ne 10, 3) := by decide +kernel
theorem d_Mo_workIn_196 : decode b_Mo_workIn 196 = .ok (.aload_n 0, 1) := by decide +kernel
theorem d_Mo_workIn_197 : decode b_Mo_workIn 197 = .ok (.iconst 5, 1) := by decide +kernel
theorem d_Mo_workIn_198 : decode b_Mo_workIn 198 = .ok (.iload_n 1, 1) := by decide +kernel
theorem d_Mo_workIn_199 : decode b_Mo_workIn 199 = .ok (.iload_n 2, 1) := by decide +kernel
theorem d_Mo_workIn_200 : decode b_Mo_workIn 200 = .ok (.invokevirtual 157, 3) := by decide +kernel
theorem d_Mo_workIn_203 : decode b_Mo_workIn 203 = .ok (.iload 5, 2) := by decide +kernel
theorem d_Mo_workIn_205 : decode b_Mo_workIn 205 = .ok (.iconst 1, 1) := by decide +kernel
theorem d_Mo_workIn_206 : decode b_Mo_workIn 206 = .ok (.if_icmp .ne 12, 3) := by decide +kernel
theorem d_Mo_workIn_209 : decode b_Mo_workIn 209 = .ok (.aload_n 0, 1) := by decide +kernel
theorem d_Mo_workIn_210 : decode b_Mo_workIn 210 = .ok (.iload 7, 2) := by decide +kernel
theorem d_Mo_workIn_212 : decode b_Mo_workIn 212 = .ok (.lload 8, 2) := by decide +kernel
theorem d_Mo_workIn_214 : decode b_Mo_workIn 214 = .ok (.iconst 2, 1) := by decide +kernel
theorem d_Mo_workIn_215 : decode b_Mo_workIn 215 = .ok (.invokevirtual 200, 3) := by decide +kernel
theorem d_Mo_workIn_218 : decode b_Mo_workIn 218 = .ok (.iload 5, 2) := by decide +kernel
theorem d_Mo_workIn_220 : decode b_Mo_workIn 220 = .ok (.iconst 2, 1) := by decide +kernel
theorem d_Mo_workIn_221 : decode b_Mo_workIn 221 = .ok (.if_icmp .ne 12, 3) := by decide +kernel
theorem d_Mo_workIn_224 : decode b_Mo_workIn 224 = .ok (.aload_n 0, 1) := by decide +kernel
theorem d_Mo_workIn_225 : decode b_Mo_workIn 225 = .ok (.iload 7, 2) := by decide +kernel
theorem d_Mo_workIn_227 : decode b_Mo_workIn 227 = .ok (.lload 10, 2) := by decide +kernel
theorem d_Mo_workIn_229 : decode b_Mo_workIn 229 = .ok (.iconst 2, 1) := by decide +kernel
theorem d_Mo_workIn_230 : decode b_Mo_workIn 230 = .ok (.invokevirtual 200, 3) := by decide +kernel
theorem d_Mo_workIn_233 : decode b_Mo_workIn 233 = .ok (.iload 5, 2) := by decide +kernel
theorem d_Mo_workIn_235 : decode b_Mo_workIn 235 = .ok (.iconst 3, 1) := by decide +kernel
theorem d_Mo_workIn_236 : decode b_Mo_workIn 236 = .ok (.if_icmp .ne 58, 3) := by decide +kernel
theorem d_Mo_workIn_239 : decode b_Mo_workIn 239 = .ok (.lload 10, 2) := by decide +kernel
theorem d_Mo_workIn_241 : decode b_Mo_workIn 241 = .ok (.ldc2_w 216, 3) := by decide +kernel
theorem d_Mo_workIn_244 : decode b_Mo_workIn 244 = .ok (.land, 1) := by decide +kernel
theorem d_Mo_workIn_245 : decode b_Mo_workIn 245 = .ok (.lconst 0, 1) := by decide +kernel
theorem d_Mo_workIn_246 : decode b_Mo_workIn 246 = .ok (.lcmp, 1) := by decide +kernel
theorem d_Mo_workIn_247 : decode b_Mo_workIn 247 = .ok (.ifCond .eq 13, 3) := by decide +kernel
theorem d_Mo_workIn_250 : decode b_Mo_workIn 250 = .ok (.aload_n 0, 1) := by decide +kernel
theorem d_Mo_workIn_251 : decode b_Mo_workIn 251 = .ok (.iconst 4, 1) := by decide +kernel
theorem d_Mo_workIn_252 : decode b_Mo_workIn 252 = .ok (.iload_n 1, 1) := by decide +kernel
theorem d_Mo_workIn_253 : decode b_Mo_workIn 253 = .ok (.iload_n 2, 1) := by decide +kernel
theorem d_Mo_workIn_254 : decode b_Mo_workIn 254 = .ok (.invokevirtual 157, 3) := by decide +kernel
theorem d_Mo_workIn_257 : decode b_Mo_workIn 257 = .ok (.goto 26, 3) := by decide +kernel
theorem d_Mo_workIn_260 : decode b_Mo_workIn 260 = .ok (.lload 10, 2) := by decide +kernel
theorem d_Mo_workIn_262 : decode b_Mo_workIn 262 = .ok (.iconst 2, 1) := by decide +kernel
theorem d_Mo_workIn_263 : decode b_Mo_workIn 263 = .ok (.lshr, 1) := by decide +kernel
theorem d_Mo_workIn_264 : decode b_Mo_workIn 264 = .ok (.ldc2_w 218, 3) := by decide +kernel
theorem d_Mo_workIn_267 : decode b_Mo_workIn 267 = .ok (.ldc2_w 220, 3) := by decide +kernel
theorem d_Mo_workIn_270 : decode b_Mo_workIn 270 = .ok (.invokestatic 208, 3) := by decide +kernel
theorem d_Mo_workIn_273 : decode b_Mo_workIn 273 = .ok (.ifCond .ne 10, 3) := by decide +kernel
theorem d_Mo_workIn_276 : decode b_Mo_workIn 276 = .ok (.aload_n 0, 1) := by decide +kernel
theorem d_Mo_workIn_277 : decode b_Mo_workIn 277 = .ok (.iconst 5, 1) := by decide +kernel
theorem d_Mo_workIn_278 : decode b_Mo_workIn 278 = .ok (.iload_n 1, 1) := by decide +kernel
theorem d_Mo_workIn_279 : decode b_Mo_workIn 279 = .ok (.iload_n 2, 1) := by decide +kernel
theorem d_Mo_workIn_280 : decode b_Mo_workIn 280 = .ok (.invokevirtual 157, 3) := by decide +kernel
theorem d_Mo_workIn_283 : decode b_Mo_workIn 283 = .ok (.aload_n 0, 1) := by decide +kernel
theorem d_Mo_workIn_284 : decode b_Mo_workIn 284 = .ok (.iload 7, 2) := by decide +kernel
theorem d_Mo_workIn_286 : decode b_Mo_workIn 286 = .ok (.lload 10, 2) := by decide +kernel
theorem d_Mo_workIn_288 : decode b_Mo_workIn 288 = .ok (.iconst 2, 1) := by decide +kernel
theorem d_Mo_workIn_289 : decode b_Mo_workIn 289 = .ok (.lshr, 1) := by decide +kernel
theorem d_Mo_workIn_290 : decode b_Mo_workIn 290 = .ok (.iconst 1, 1) := by decide +kernel
theorem d_Mo_workIn_291 : decode b_Mo_workIn 291 = .ok (.invokevirtual 200, 3) := by decide +kernel
theorem d_Mo_workIn_294 : decode b_Mo_workIn 294 = .ok (.return_, 1) := by decide +kernel
theorem d_Mo_placeOfMeaning_0 : decode b_Mo_placeOfMeaning 0 = .ok (.iload_n 1, 1) := by decide +kernel
theorem d_Mo_placeOfMeaning_1 : decode b_Mo_placeOfMeaning 1 = .ok (.ifCond .ge 5, 3) := by decide +kernel
theorem d_Mo_placeOfMeaning_4 : decode b_Mo_placeOfMeaning 4 = .ok (.iconst (-1), 1) := by decide +kernel
theorem d_Mo_placeOfMeaning_5 : decode b_Mo_placeOfMeaning 5 = .ok (.ireturn, 1) := by decide +kernel
theorem d_Mo_placeOfMeaning_6 : decode b_Mo_placeOfMeaning 6 = .ok (.aload_n 0, 1) := by decide +kernel
theorem d_Mo_placeOfMeaning_7 : decode b_Mo_placeOfMeaning 7 = .ok (.getfield 31, 3) := by decide +kernel
theorem d_Mo_placeOfMeaning_10 : decode b_Mo_placeOfMeaning 10 = .ok (.iload_n 1, 1) := by decide +kernel
theorem d_Mo_placeOfMeaning_11 : decode b_Mo_placeOfMeaning 11 = .ok (.iaload, 1) := by decide +kernel
theorem d_Mo_placeOfMeaning_12 : decode b_Mo_placeOfMeaning 12 = .ok (.iconst 2, 1) := by decide +kernel
theorem d_Mo_placeOfMeaning_13 : decode b_Mo_placeOfMeaning 13 = .ok (.if_icmp .ne 23, 3) := by decide +kernel
theorem d_Mo_placeOfMeaning_16 : decode b_Mo_placeOfMeaning 16 = .ok (.aload_n 0, 1) := by decide +kernel
theorem d_Mo_placeOfMeaning_17 : decode b_Mo_placeOfMeaning 17 = .ok (.getfield 65, 3) := by decide +kernel
theorem d_Mo_placeOfMeaning_20 : decode b_Mo_placeOfMeaning 20 = .ok (.iload_n 1, 1) := by decide +kernel
theorem d_Mo_placeOfMeaning_21 : decode b_Mo_placeOfMeaning 21 = .ok (.baload, 1) := by decide +kernel
theorem d_Mo_placeOfMeaning_22 : decode b_Mo_placeOfMeaning 22 = .ok (.ifCond .eq 12, 3) := by decide +kernel
theorem d_Mo_placeOfMeaning_25 : decode b_Mo_placeOfMeaning 25 = .ok (.aload_n 0, 1) := by decide +kernel
theorem d_Mo_placeOfMeaning_26 : decode b_Mo_placeOfMeaning 26 = .ok (.getfield 68, 3) := by decide +kernel
theorem d_Mo_placeOfMeaning_29 : decode b_Mo_placeOfMeaning 29 = .ok (.iload_n 1, 1) := by decide +kernel
theorem d_Mo_placeOfMeaning_30 : decode b_Mo_placeOfMeaning 30 = .ok (.iaload, 1) := by decide +kernel
theorem d_Mo_placeOfMeaning_31 : decode b_Mo_placeOfMeaning 31 = .ok (.goto 4, 3) := by decide +kernel
theorem d_Mo_placeOfMeaning_34 : decode b_Mo_placeOfMeaning 34 = .ok (.iconst (-1), 1) := by decide +kernel
theorem d_Mo_placeOfMeaning_35 : decode b_Mo_placeOfMeaning 35 = .ok (.ireturn, 1) := by decide +kernel
theorem d_Mo_placeOfMeaning_36 : decode b_Mo_placeOfMeaning 36 = .ok (.bipush 8, 2) := by decide +kernel
theorem d_Mo_placeOfMeaning_38 : decode b_Mo_placeOfMeaning 38 = .ok (.iload_n 1, 1) := by decide +kernel
theorem d_Mo_placeOfMeaning_39 : decode b_Mo_placeOfMeaning 39 = .ok (.bipush 12, 2) := by decide +kernel
theorem d_Mo_placeOfMeaning_41 : decode b_Mo_placeOfMeaning 41 = .ok (.idiv, 1) := by decide +kernel
theorem d_Mo_placeOfMeaning_42 : decode b_Mo_placeOfMeaning 42 = .ok (.imul, 1) := by decide +kernel
theorem d_Mo_placeOfMeaning_43 : decode b_Mo_placeOfMeaning 43 = .ok (.aload_n 0, 1) := by decide +kernel
theorem d_Mo_placeOfMeaning_44 : decode b_Mo_placeOfMeaning 44 = .ok (.getfield 34, 3) := by decide +kernel
theorem d_Mo_placeOfMeaning_47 : decode b_Mo_placeOfMeaning 47 = .ok (.iload_n 1, 1) := by decide +kernel
theorem d_Mo_placeOfMeaning_48 : decode b_Mo_placeOfMeaning 48 = .ok (.iaload, 1) := by decide +kernel
theorem d_Mo_placeOfMeaning_49 : decode b_Mo_placeOfMeaning 49 = .ok (.iadd, 1) := by decide +kernel
theorem d_Mo_placeOfMeaning_50 : decode b_Mo_placeOfMeaning 50 = .ok (.istore_n 2, 1) := by decide +kernel
theorem d_Mo_placeOfMeaning_51 : decode b_Mo_placeOfMeaning 51 = .ok (.aload_n 0, 1) := by decide +kernel
theorem d_Mo_placeOfMeaning_52 : decode b_Mo_placeOfMeaning 52 = .ok (.getfield 61, 3) := by decide +kernel
theorem d_Mo_placeOfMeaning_55 : decode b_Mo_placeOfMeaning 55 = .ok (.iload_n 2, 1) := by decide +kernel
theorem d_Mo_placeOfMeaning_56 : decode b_Mo_placeOfMeaning 56 = .ok (.baload, 1) := by decide +kernel
theorem d_Mo_placeOfMeaning_57 : decode b_Mo_placeOfMeaning 57 = .ok (.ifCond .eq 19, 3) := by decide +kernel
theorem d_Mo_placeOfMeaning_60 : decode b_Mo_placeOfMeaning 60 = .ok (.aload_n 0, 1) := by decide +kernel
theorem d_Mo_placeOfMeaning_61 : decode b_Mo_placeOfMeaning 61 = .ok (.getfield 71, 3) := by decide +kernel
theorem d_Mo_placeOfMeaning_64 : decode b_Mo_placeOfMeaning 64 = .ok (.iload_n 2, 1) := by decide +kernel
theorem d_Mo_placeOfMeaning_65 : decode b_Mo_placeOfMeaning 65 = .ok (.iaload, 1) := by decide +kernel
theorem d_Mo_placeOfMeaning_66 : decode b_Mo_placeOfMeaning 66 = .ok (.aload_n 0, 1) := by decide +kernel
theorem d_Mo_placeOfMeaning_67 : decode b_Mo_placeOfMeaning 67 = .ok (.getfield 37, 3) := by decide +kernel
theorem d_Mo_placeOfMeaning_70 : decode b_Mo_placeOfMeaning 70 = .ok (.iload_n 1, 1) := by decide +kernel
theorem d_Mo_placeOfMeaning_71 : decode b_Mo_placeOfMeaning 71 = .ok (.iaload, 1) := by decide +kernel
theorem d_Mo_placeOfMeaning_72 : decode b_Mo_placeOfMeaning 72 = .ok (.iadd, 1) := by decide +kernel
theorem d_Mo_placeOfMeaning_73 : decode b_Mo_placeOfMeaning 73 = .ok (.goto 4, 3) := by decide +kernel
theorem d_Mo_placeOfMeaning_76 : decode b_Mo_placeOfMeaning 76 = .ok (.iconst (-1), 1) := by decide +kernel
theorem d_Mo_placeOfMeaning_77 : decode b_Mo_placeOfMeaning 77 = .ok (.ireturn, 1) := by decide +kernel
theorem d_Mo_put_0 : decode b_Mo_put 0 = .ok (.iconst 0, 1) := by decide +kernel
theorem d_Mo_put_1 : decode b_Mo_put 1 = .ok (.istore 5, 2) := by decide +kernel
theorem d_Mo_put_3 : decode b_Mo_put 3 = .ok (.iload 5, 2) := by decide +kernel
theorem d_Mo_put_5 : decode b_Mo_put 5 = .ok (.iload 4, 2) := by decide +kernel
theorem d_Mo_put_7 : decode b_Mo_put 7 = .ok (.if_icmp .ge 40, 3) := by decide +kernel
theorem d_Mo_put_10 : decode b_Mo_put 10 = .ok (.aload_n 0, 1) := by decide +kernel
theorem d_Mo_put_11 : decode b_Mo_put 11 = .ok (.getfield 81, 3) := by decide +kernel
theorem d_Mo_put_14 : decode b_Mo_put 14 = .ok (.iload_n 1, 1) := by decide +kernel
theorem d_Mo_put_15 : decode b_Mo_put 15 = .ok (.aload_n 0, 1) := by decide +kernel
theorem d_Mo_put_16 : decode b_Mo_put 16 = .ok (.getfield 176, 3) := by decide +kernel
theorem d_Mo_put_19 : decode b_Mo_put 19 = .ok (.isub, 1) := by decide +kernel
theorem d_Mo_put_20 : decode b_Mo_put 20 = .ok (.iload 5, 2) := by decide +kernel
theorem d_Mo_put_22 : decode b_Mo_put 22 = .ok (.iadd, 1) := by decide +kernel
theorem d_Mo_put_23 : decode b_Mo_put 23 = .ok (.lload_n 2, 1) := by decide +kernel
theorem d_Mo_put_24 : decode b_Mo_put 24 = .ok (.bipush 8, 2) := by decide +kernel
theorem d_Mo_put_26 : decode b_Mo_put 26 = .ok (.iload 4, 2) := by decide +kernel
theorem d_Mo_put_28 : decode b_Mo_put 28 = .ok (.iconst 1, 1) := by decide +kernel
theorem d_Mo_put_29 : decode b_Mo_put 29 = .ok (.isub, 1) := by decide +kernel
theorem d_Mo_put_30 : decode b_Mo_put 30 = .ok (.iload 5, 2) := by decide +kernel
theorem d_Mo_put_32 : decode b_Mo_put 32 = .ok (.isub, 1) := by decide +kernel
theorem d_Mo_put_33 : decode b_Mo_put 33 = .ok (.imul, 1) := by decide +kernel
theorem d_Mo_put_34 : decode b_Mo_put 34 = .ok (.lshr, 1) := by decide +kernel
theorem d_Mo_put_35 : decode b_Mo_put 35 = .ok (.ldc2_w 195, 3) := by decide +kernel
theorem d_Mo_put_38 : decode b_Mo_put 38 = .ok (.land, 1) := by decide +kernel
theorem d_Mo_put_39 : decode b_Mo_put 39 = .ok (.l2i, 1) := by decide +kernel
theorem d_Mo_put_40 : decode b_Mo_put 40 = .ok (.iastore, 1) := by decide +kernel
theorem d_Mo_put_41 : decode b_Mo_put 41 = .ok (.iinc 5 1, 3) := by decide +kernel
theorem d_Mo_put_44 : decode b_Mo_put 44 = .ok (.goto (-41), 3) := by decide +kernel
theorem d_Mo_put_47 : decode b_Mo_put 47 = .ok (.return_, 1) := by decide +kernel
theorem d_Mo_in_0 : decode b_Mo_in 0 = .ok (.lload_n 0, 1) := by decide +kernel
theorem d_Mo_in_1 : decode b_Mo_in 1 = .ok (.lload_n 2, 1) := by decide +kernel
theorem d_Mo_in_2 : decode b_Mo_in 2 = .ok (.lcmp, 1) := by decide +kernel
theorem d_Mo_in_3 : decode b_Mo_in 3 = .ok (.ifCond .lt 14, 3) := by decide +kernel
theorem d_Mo_in_6 : decode b_Mo_in 6 = .ok (.lload_n 0, 1) := by decide +kernel
theorem d_Mo_in_7 : decode b_Mo_in 7 = .ok (.lload 4, 2) := by decide +kernel
theorem d_Mo_in_9 : decode b_Mo_in 9 = .ok (.lcmp, 1) := by decide +kernel
theorem d_Mo_in_10 : decode b_Mo_in 10 = .ok (.ifCond .gt 7, 3) := by decide +kernel
theorem d_Mo_in_13 : decode b_Mo_in 13 = .ok (.iconst 1, 1) := by decide +kernel
theorem d_Mo_in_14 : decode b_Mo_in 14 = .ok (.goto 4, 3) := by decide +kernel
theorem d_Mo_in_17 : decode b_Mo_in 17 = .ok (.iconst 0, 1) := by decide +kernel
theorem d_Mo_in_18 : decode b_Mo_in 18 = .ok (.ireturn, 1) := by decide +kernel
theorem d_Mo_know_0 : decode b_Mo_know 0 = .ok (.aload_n 0, 1) := by decide +kernel
theorem d_Mo_know_1 : decode b_Mo_know 1 = .ok (.iconst 0, 1) := by decide +kernel
theorem d_Mo_know_2 : decode b_Mo_know 2 = .ok (.putfield 222, 3) := by decide +kernel
theorem d_Mo_know_5 : decode b_Mo_know 5 = .ok (.iconst 0, 1) := by decide +kernel
theorem d_Mo_know_6 : decode b_Mo_know 6 = .ok (.istore_n 1, 1) := by decide +kernel
theorem d_Mo_know_7 : decode b_Mo_know 7 = .ok (.iload_n 1, 1) := by decide +kernel
theorem d_Mo_know_8 : decode b_Mo_know 8 = .ok (.aload_n 0, 1) := by decide +kernel
theorem d_Mo_know_9 : decode b_Mo_know 9 = .ok (.getfield 144, 3) := by decide +kernel
theorem d_Mo_know_12 : decode b_Mo_know 12 = .ok (.if_icmp .ge 90, 3) := by decide +kernel
theorem d_Mo_know_15 : decode b_Mo_know 15 = .ok (.aload_n 0, 1) := by decide +kernel
theorem d_Mo_know_16 : decode b_Mo_know 16 = .ok (.getfield 58, 3) := by decide +kernel
theorem d_Mo_know_19 : decode b_Mo_know 19 = .ok (.iload_n 1, 1) := by decide +kernel
theorem d_Mo_know_20 : decode b_Mo_know 20 = .ok (.iaload, 1) := by decide +kernel
theorem d_Mo_know_21 : decode b_Mo_know 21 = .ok (.istore_n 2, 1) := by decide +kernel
theorem d_Mo_know_22 : decode b_Mo_know 22 = .ok (.bipush 12, 2) := by decide +kernel
theorem d_Mo_know_24 : decode b_Mo_know 24 = .ok (.iload_n 2, 1) := by decide +kernel
theorem d_Mo_know_25 : decode b_Mo_know 25 = .ok (.imul, 1) := by decide +kernel
theorem d_Mo_know_26 : decode b_Mo_know 26 = .ok (.istore_n 3, 1) := by decide +kernel
theorem d_Mo_know_27 : decode b_Mo_know 27 = .ok (.iload_n 3, 1) := by decide +kernel
theorem d_Mo_know_28 : decode b_Mo_know 28 = .ok (.bipush 12, 2) := by decide +kernel
theorem d_Mo_know_30 : decode b_Mo_know 30 = .ok (.iload_n 2, 1) := by decide +kernel
theorem d_Mo_know_31 : decode b_Mo_know 31 = .ok (.imul, 1) := by decide +kernel
theorem d_Mo_know_32 : decode b_Mo_know 32 = .ok (.aload_n 0, 1) := by decide +kernel
theorem d_Mo_know_33 : decode b_Mo_know 33 = .ok (.getfield 25, 3) := by decide +kernel
theorem d_Mo_know_36 : decode b_Mo_know 36 = .ok (.iload_n 2, 1) := by decide +kernel
theorem d_Mo_know_37 : decode b_Mo_know 37 = .ok (.iaload, 1) := by decide +kernel
theorem d_Mo_know_38 : decode b_Mo_know 38 = .ok (.iadd, 1) := by decide +kernel
theorem d_Mo_know_39 : decode b_Mo_know 39 = .ok (.if_icmp .ge 57, 3) := by decide +kernel
theorem d_Mo_know_42 : decode b_Mo_know 42 = .ok (.aload_n 0, 1) := by decide +kernel
theorem d_Mo_know_43 : decode b_Mo_know 43 = .ok (.getfield 84, 3) := by decide +kernel
theorem d_Mo_know_46 : decode b_Mo_know 46 = .ok (.aload_n 0, 1) := by decide +kernel
theorem d_Mo_know_47 : decode b_Mo_know 47 = .ok (.getfield 222, 3) := by decide +kernel
theorem d_Mo_know_50 : decode b_Mo_know 50 = .ok (.aload_n 0, 1) := by decide +kernel
theorem d_Mo_know_51 : decode b_Mo_know 51 = .ok (.getfield 28, 3) := by decide +kernel
theorem d_Mo_know_54 : decode b_Mo_know 54 = .ok (.iload_n 3, 1) := by decide +kernel
theorem d_Mo_know_55 : decode b_Mo_know 55 = .ok (.iaload, 1) := by decide +kernel
theorem d_Mo_know_56 : decode b_Mo_know 56 = .ok (.iastore, 1) := by decide +kernel
theorem d_Mo_know_57 : decode b_Mo_know 57 = .ok (.aload_n 0, 1) := by decide +kernel
theorem d_Mo_know_58 : decode b_Mo_know 58 = .ok (.getfield 87, 3) := by decide +kernel
theorem d_Mo_know_61 : decode b_Mo_know 61 = .ok (.aload_n 0, 1) := by decide +kernel
theorem d_Mo_know_62 : decode b_Mo_know 62 = .ok (.getfield 222, 3) := by decide +kernel
theorem d_Mo_know_65 : decode b_Mo_know 65 = .ok (.aload_n 0, 1) := by decide +kernel
theorem d_Mo_know_66 : decode b_Mo_know 66 = .ok (.aload_n 0, 1) := by decide +kernel
theorem d_Mo_know_67 : decode b_Mo_know 67 = .ok (.aload_n 0, 1) := by decide +kernel
theorem d_Mo_know_68 : decode b_Mo_know 68 = .ok (.getfield 28, 3) := by decide +kernel
theorem d_Mo_know_71 : decode b_Mo_know 71 = .ok (.iload_n 3, 1) := by decide +kernel
theorem d_Mo_know_72 : decode b_Mo_know 72 = .ok (.iaload, 1) := by decide +kernel
theorem d_Mo_know_73 : decode b_Mo_know 73 = .ok (.invokevirtual 151, 3) := by decide +kernel
theorem d_Mo_know_76 : decode b_Mo_know 76 = .ok (.invokevirtual 197, 3) := by decide +kernel
theorem d_Mo_know_79 : decode b_Mo_know 79 = .ok (.iastore, 1) := by decide +kernel
theorem d_Mo_know_80 : decode b_Mo_know 80 = .ok (.aload_n 0, 1) := by decide +kernel
theorem d_Mo_know_81 : decode b_Mo_know 81 = .ok (.dup, 1) := by decide +kernel
theorem d_Mo_know_82 : decode b_Mo_know 82 = .ok (.getfield 222, 3) := by decide +kernel
theorem d_Mo_know_85 : decode b_Mo_know 85 = .ok (.iconst 1, 1) := by decide +kernel
theorem d_Mo_know_86 : decode b_Mo_know 86 = .ok (.iadd, 1) := by decide +kernel
theorem d_Mo_know_87 : decode b_Mo_know 87 = .ok (.putfield 222, 3) := by decide +kernel
theorem d_Mo_know_90 : decode b_Mo_know 90 = .ok (.iinc 3 1, 3) := by decide +kernel
theorem d_Mo_know_93 : decode b_Mo_know 93 = .ok (.goto (-66), 3) := by decide +kernel
theorem d_Mo_know_96 : decode b_Mo_know 96 = .ok (.iinc 1 1, 3) := by decide +kernel
theorem d_Mo_know_99 : decode b_Mo_know 99 = .ok (.goto (-92), 3) := by decide +kernel
theorem d_Mo_know_102 : decode b_Mo_know 102 = .ok (.return_, 1) := by decide +kernel
theorem d_Mo_noImage_0 : decode b_Mo_noImage 0 = .ok (.aload_n 0, 1) := by decide +kernel
theorem d_Mo_noImage_1 : decode b_Mo_noImage 1 = .ok (.iconst 0, 1) := by decide +kernel
theorem d_Mo_noImage_2 : decode b_Mo_noImage 2 = .ok (.putfield 225, 3) := by decide +kernel
theorem d_Mo_noImage_5 : decode b_Mo_noImage 5 = .ok (.aload_n 0, 1) := by decide +kernel
theorem d_Mo_noImage_6 : decode b_Mo_noImage 6 = .ok (.iconst 0, 1) := by decide +kernel
theorem d_Mo_noImage_7 : decode b_Mo_noImage 7 = .ok (.putfield 192, 3) := by decide +kernel
theorem d_Mo_noImage_10 : decode b_Mo_noImage 10 = .ok (.aload_n 0, 1) := by decide +kernel
theorem d_Mo_noImage_11 : decode b_Mo_noImage 11 = .ok (.iconst 0, 1) := by decide +kernel
theorem d_Mo_noImage_12 : decode b_Mo_noImage 12 = .ok (.putfield 179, 3) := by decide +kernel
theorem d_Mo_noImage_15 : decode b_Mo_noImage 15 = .ok (.aload_n 0, 1) := by decide +kernel
theorem d_Mo_noImage_16 : decode b_Mo_noImage 16 = .ok (.iconst 0, 1) := by decide +kernel
theorem d_Mo_noImage_17 : decode b_Mo_noImage 17 = .ok (.putfield 173, 3) := by decide +kernel
theorem d_Mo_noImage_20 : decode b_Mo_noImage 20 = .ok (.aload_n 0, 1) := by decide +kernel
theorem d_Mo_noImage_21 : decode b_Mo_noImage 21 = .ok (.iconst 0, 1) := by decide +kernel
theorem d_Mo_noImage_22 : decode b_Mo_noImage 22 = .ok (.putfield 182, 3) := by decide +kernel
theorem d_Mo_noImage_25 : decode b_Mo_noImage 25 = .ok (.aload_n 0, 1) := by decide +kernel
theorem d_Mo_noImage_26 : decode b_Mo_noImage 26 = .ok (.iconst 0, 1) := by decide +kernel
theorem d_Mo_noImage_27 : decode b_Mo_noImage 27 = .ok (.putfield 222, 3) := by decide +kernel
theorem d_Mo_noImage_30 : decode b_Mo_noImage 30 = .ok (.iconst 0, 1) := by decide +kernel
theorem d_Mo_noImage_31 : decode b_Mo_noImage 31 = .ok (.istore_n 1, 1) := by decide +kernel
theorem d_Mo_noImage_32 : decode b_Mo_noImage 32 = .ok (.iload_n 1, 1) := by decide +kernel
theorem d_Mo_noImage_33 : decode b_Mo_noImage 33 = .ok (.bipush 96, 2) := by decide +kernel
theorem d_Mo_noImage_35 : decode b_Mo_noImage 35 = .ok (.if_icmp .ge 16, 3) := by decide +kernel
theorem d_Mo_noImage_38 : decode b_Mo_noImage 38 = .ok (.aload_n 0, 1) := by decide +kernel
theorem d_Mo_noImage_39 : decode b_Mo_noImage 39 = .ok (.getfield 71, 3) := by decide +kernel
theorem d_Mo_noImage_42 : decode b_Mo_noImage 42 = .ok (.iload_n 1, 1) := by decide +kernel
theorem d_Mo_noImage_43 : decode b_Mo_noImage 43 = .ok (.iconst (-1), 1) := by decide +kernel
theorem d_Mo_noImage_44 : decode b_Mo_noImage 44 = .ok (.iastore, 1) := by decide +kernel
theorem d_Mo_noImage_45 : decode b_Mo_noImage 45 = .ok (.iinc 1 1, 3) := by decide +kernel
theorem d_Mo_noImage_48 : decode b_Mo_noImage 48 = .ok (.goto (-16), 3) := by decide +kernel
theorem d_Mo_noImage_51 : decode b_Mo_noImage 51 = .ok (.return_, 1) := by decide +kernel
theorem d_Mo_fault_0 : decode b_Mo_fault 0 = .ok (.aload_n 0, 1) := by decide +kernel
theorem d_Mo_fault_1 : decode b_Mo_fault 1 = .ok (.iconst 0, 1) := by decide +kernel
theorem d_Mo_fault_2 : decode b_Mo_fault 2 = .ok (.putfield 93, 3) := by decide +kernel
theorem d_Mo_fault_5 : decode b_Mo_fault 5 = .ok (.iload_n 1, 1) := by decide +kernel
theorem d_Mo_fault_6 : decode b_Mo_fault 6 = .ok (.ifCond .ne 10, 3) := by decide +kernel
theorem d_Mo_fault_9 : decode b_Mo_fault 9 = .ok (.aload_n 0, 1) := by decide +kernel
theorem d_Mo_fault_10 : decode b_Mo_fault 10 = .ok (.getfield 154, 3) := by decide +kernel
theorem d_Mo_fault_13 : decode b_Mo_fault 13 = .ok (.goto 32, 3) := by decide +kernel
theorem d_Mo_fault_16 : decode b_Mo_fault 16 = .ok (.iload_n 1, 1) := by decide +kernel
theorem d_Mo_fault_17 : decode b_Mo_fault 17 = .ok (.iconst 1, 1) := by decide +kernel
theorem d_Mo_fault_18 : decode b_Mo_fault 18 = .ok (.if_icmp .ne 10, 3) := by decide +kernel
theorem d_Mo_fault_21 : decode b_Mo_fault 21 = .ok (.aload_n 0, 1) := by decide +kernel
theorem d_Mo_fault_22 : decode b_Mo_fault 22 = .ok (.getfield 74, 3) := by decide +kernel
theorem d_Mo_fault_25 : decode b_Mo_fault 25 = .ok (.goto 20, 3) := by decide +kernel
theorem d_Mo_fault_28 : decode b_Mo_fault 28 = .ok (.iload_n 1, 1) := by decide +kernel
theorem d_Mo_fault_29 : decode b_Mo_fault 29 = .ok (.iconst 2, 1) := by decide +kernel
theorem d_Mo_fault_30 : decode b_Mo_fault 30 = .ok (.if_icmp .ne 10, 3) := by decide +kernel
theorem d_Mo_fault_33 : decode b_Mo_fault 33 = .ok (.aload_n 0, 1) := by decide +kernel
theorem d_Mo_fault_34 : decode b_Mo_fault 34 = .ok (.getfield 78, 3) := by decide +kernel
theorem d_Mo_fault_37 : decode b_Mo_fault 37 = .ok (.goto 8, 3) := by decide +kernel
theorem d_Mo_fault_40 : decode b_Mo_fault 40 = .ok (.aload_n 0, 1) := by decide +kernel
theorem d_Mo_fault_41 : decode b_Mo_fault 41 = .ok (.iconst 1, 1) := by decide +kernel
theorem d_Mo_fault_42 : decode b_Mo_fault 42 = .ok (.invokevirtual 103, 3) := by decide +kernel
theorem d_Mo_fault_45 : decode b_Mo_fault 45 = .ok (.ireturn, 1) := by decide +kernel
theorem d_Mo_image_0 : decode b_Mo_image 0 = .ok (.aload_n 0, 1) := by decide +kernel
theorem d_Mo_image_1 : decode b_Mo_image 1 = .ok (.iconst 0, 1) := by decide +kernel
theorem d_Mo_image_2 : decode b_Mo_image 2 = .ok (.putfield 93, 3) := by decide +kernel
theorem d_Mo_image_5 : decode b_Mo_image 5 = .ok (.iload_n 1, 1) := by decide +kernel
theorem d_Mo_image_6 : decode b_Mo_image 6 = .ok (.iconst 0, 1) := by decide +kernel
theorem d_Mo_image_7 : decode b_Mo_image 7 = .ok (.aload_n 0, 1) := by decide +kernel
theorem d_Mo_image_8 : decode b_Mo_image 8 = .ok (.getfield 192, 3) := by decide +kernel
theorem d_Mo_image_11 : decode b_Mo_image 11 = .ok (.iconst 1, 1) := by decide +kernel
theorem d_Mo_image_12 : decode b_Mo_image 12 = .ok (.isub, 1) := by decide +kernel
theorem d_Mo_image_13 : decode b_Mo_image 13 = .ok (.invokestatic 99, 3) := by decide +kernel
theorem d_Mo_image_16 : decode b_Mo_image 16 = .ok (.ifCond .eq 12, 3) := by decide +kernel
theorem d_Mo_image_19 : decode b_Mo_image 19 = .ok (.aload_n 0, 1) := by decide +kernel
theorem d_Mo_image_20 : decode b_Mo_image 20 = .ok (.getfield 81, 3) := by decide +kernel
theorem d_Mo_image_23 : decode b_Mo_image 23 = .ok (.iload_n 1, 1) := by decide +kernel
theorem d_Mo_image_24 : decode b_Mo_image 24 = .ok (.iaload, 1) := by decide +kernel
theorem d_Mo_image_25 : decode b_Mo_image 25 = .ok (.goto 8, 3) := by decide +kernel
theorem d_Mo_image_28 : decode b_Mo_image 28 = .ok (.aload_n 0, 1) := by decide +kernel
theorem d_Mo_image_29 : decode b_Mo_image 29 = .ok (.iconst 1, 1) := by decide +kernel
theorem d_Mo_image_30 : decode b_Mo_image 30 = .ok (.invokevirtual 103, 3) := by decide +kernel
theorem d_Mo_image_33 : decode b_Mo_image 33 = .ok (.ireturn, 1) := by decide +kernel
theorem d_Mo_placeOf_0 : decode b_Mo_placeOf 0 = .ok (.aload_n 0, 1) := by decide +kernel
theorem d_Mo_placeOf_1 : decode b_Mo_placeOf 1 = .ok (.iload_n 1, 1) := by decide +kernel
theorem d_Mo_placeOf_2 : decode b_Mo_placeOf 2 = .ok (.invokevirtual 111, 3) := by decide +kernel
theorem d_Mo_placeOf_5 : decode b_Mo_placeOf 5 = .ok (.ifCond .ne 5, 3) := by decide +kernel
theorem d_Mo_placeOf_8 : decode b_Mo_placeOf 8 = .ok (.iconst 0, 1) := by decide +kernel
theorem d_Mo_placeOf_9 : decode b_Mo_placeOf 9 = .ok (.ireturn, 1) := by decide +kernel
theorem d_Mo_placeOf_10 : decode b_Mo_placeOf 10 = .ok (.aload_n 0, 1) := by decide +kernel
theorem d_Mo_placeOf_11 : decode b_Mo_placeOf 11 = .ok (.iload_n 1, 1) := by decide +kernel
theorem d_Mo_placeOf_12 : decode b_Mo_placeOf 12 = .ok (.iload_n 2, 1) := by decide +kernel
theorem d_Mo_placeOf_13 : decode b_Mo_placeOf 13 = .ok (.invokevirtual 122, 3) := by decide +kernel
theorem d_Mo_placeOf_16 : decode b_Mo_placeOf 16 = .ok (.ifCond .ne 9, 3) := by decide +kernel
theorem d_Mo_placeOf_19 : decode b_Mo_placeOf 19 = .ok (.aload_n 0, 1) := by decide +kernel
theorem d_Mo_placeOf_20 : decode b_Mo_placeOf 20 = .ok (.iconst 2, 1) := by decide +kernel
theorem d_Mo_placeOf_21 : decode b_Mo_placeOf 21 = .ok (.invokevirtual 103, 3) := by decide +kernel
theorem d_Mo_placeOf_24 : decode b_Mo_placeOf 24 = .ok (.ireturn, 1) := by decide +kernel
theorem d_Mo_placeOf_25 : decode b_Mo_placeOf 25 = .ok (.aload_n 0, 1) := by decide +kernel
theorem d_Mo_placeOf_26 : decode b_Mo_placeOf 26 = .ok (.getfield 71, 3) := by decide +kernel
theorem d_Mo_placeOf_29 : decode b_Mo_placeOf 29 = .ok (.bipush 8, 2) := by decide +kernel
theorem d_Mo_placeOf_31 : decode b_Mo_placeOf 31 = .ok (.iload_n 1, 1) := by decide +kernel
theorem d_Mo_placeOf_32 : decode b_Mo_placeOf 32 = .ok (.imul, 1) := by decide +kernel
theorem d_Mo_placeOf_33 : decode b_Mo_placeOf 33 = .ok (.iload_n 2, 1) := by decide +kernel
theorem d_Mo_placeOf_34 : decode b_Mo_placeOf 34 = .ok (.iadd, 1) := by decide +kernel
theorem d_Mo_placeOf_35 : decode b_Mo_placeOf 35 = .ok (.iaload, 1) := by decide +kernel
theorem d_Mo_placeOf_36 : decode b_Mo_placeOf 36 = .ok (.istore_n 3, 1) := by decide +kernel
theorem d_Mo_placeOf_37 : decode b_Mo_placeOf 37 = .ok (.iload_n 3, 1) := by decide +kernel
theorem d_Mo_placeOf_38 : decode b_Mo_placeOf 38 = .ok (.ifCond .ge 7, 3) := by decide +kernel
theorem d_Mo_placeOf_41 : decode b_Mo_placeOf 41 = .ok (.iconst (-1), 1) := by decide +kernel
theorem d_Mo_placeOf_42 : decode b_Mo_placeOf 42 = .ok (.goto 9, 3) := by decide +kernel
theorem d_Mo_placeOf_45 : decode b_Mo_placeOf 45 = .ok (.iload_n 3, 1) := by decide +kernel
theorem d_Mo_placeOf_46 : decode b_Mo_placeOf 46 = .ok (.aload_n 0, 1) := by decide +kernel
theorem d_Mo_placeOf_47 : decode b_Mo_placeOf 47 = .ok (.getfield 176, 3) := by decide +kernel
theorem d_Mo_placeOf_50 : decode b_Mo_placeOf 50 = .ok (.isub, 1) := by decide +kernel
theorem d_Mo_placeOf_51 : decode b_Mo_placeOf 51 = .ok (.ireturn, 1) := by decide +kernel
theorem d_Mo_nameAt_0 : decode b_Mo_nameAt 0 = .ok (.aload_n 0, 1) := by decide +kernel
theorem d_Mo_nameAt_1 : decode b_Mo_nameAt 1 = .ok (.iconst 0, 1) := by decide +kernel
theorem d_Mo_nameAt_2 : decode b_Mo_nameAt 2 = .ok (.putfield 93, 3) := by decide +kernel
theorem d_Mo_nameAt_5 : decode b_Mo_nameAt 5 = .ok (.iconst 0, 1) := by decide +kernel
theorem d_Mo_nameAt_6 : decode b_Mo_nameAt 6 = .ok (.istore_n 2, 1) := by decide +kernel
theorem d_Mo_nameAt_7 : decode b_Mo_nameAt 7 = .ok (.iload_n 2, 1) := by decide +kernel
theorem d_Mo_nameAt_8 : decode b_Mo_nameAt 8 = .ok (.aload_n 0, 1) := by decide +kernel
theorem d_Mo_nameAt_9 : decode b_Mo_nameAt 9 = .ok (.getfield 222, 3) := by decide +kernel
theorem d_Mo_nameAt_12 : decode b_Mo_nameAt 12 = .ok (.if_icmp .ge 26, 3) := by decide +kernel
theorem d_Mo_nameAt_15 : decode b_Mo_nameAt 15 = .ok (.aload_n 0, 1) := by decide +kernel
theorem d_Mo_nameAt_16 : decode b_Mo_nameAt 16 = .ok (.getfield 84, 3) := by decide +kernel
theorem d_Mo_nameAt_19 : decode b_Mo_nameAt 19 = .ok (.iload_n 2, 1) := by decide +kernel
theorem d_Mo_nameAt_20 : decode b_Mo_nameAt 20 = .ok (.iaload, 1) := by decide +kernel
theorem d_Mo_nameAt_21 : decode b_Mo_nameAt 21 = .ok (.iload_n 1, 1) := by decide +kernel
theorem d_Mo_nameAt_22 : decode b_Mo_nameAt 22 = .ok (.if_icmp .ne 10, 3) := by decide +kernel
theorem d_Mo_nameAt_25 : decode b_Mo_nameAt 25 = .ok (.aload_n 0, 1) := by decide +kernel
theorem d_Mo_nameAt_26 : decode b_Mo_nameAt 26 = .ok (.getfield 87, 3) := by decide +kernel
theorem d_Mo_nameAt_29 : decode b_Mo_nameAt 29 = .ok (.iload_n 2, 1) := by decide +kernel
theorem d_Mo_nameAt_30 : decode b_Mo_nameAt 30 = .ok (.iaload, 1) := by decide +kernel
theorem d_Mo_nameAt_31 : decode b_Mo_nameAt 31 = .ok (.ireturn, 1) := by decide +kernel
theorem d_Mo_nameAt_32 : decode b_Mo_nameAt 32 = .ok (.iinc 2 1, 3) := by decide +kernel
theorem d_Mo_nameAt_35 : decode b_Mo_nameAt 35 = .ok (.goto (-28), 3) := by decide +kernel
theorem d_Mo_nameAt_38 : decode b_Mo_nameAt 38 = .ok (.iconst (-1), 1) := by decide +kernel
theorem d_Mo_nameAt_39 : decode b_Mo_nameAt 39 = .ok (.ireturn, 1) := by decide +kernel
theorem d_Mo_write_0 : decode b_Mo_write 0 = .ok (.aload_n 0, 1) := by decide +kernel
theorem d_Mo_write_1 : decode b_Mo_write 1 = .ok (.iload_n 1, 1) := by decide +kernel
theorem d_Mo_write_2 : decode b_Mo_write 2 = .ok (.invokevirtual 111, 3) := by decide +kernel
theorem d_Mo_write_5 : decode b_Mo_write 5 = .ok (.ifCond .ne 5, 3) := by decide +kernel
theorem d_Mo_write_8 : decode b_Mo_write 8 = .ok (.iconst 0, 1) := by decide +kernel
theorem d_Mo_write_9 : decode b_Mo_write 9 = .ok (.ireturn, 1) := by decide +kernel
theorem d_Mo_write_10 : decode b_Mo_write 10 = .ok (.aload_n 0, 1) := by decide +kernel
theorem d_Mo_write_11 : decode b_Mo_write 11 = .ok (.iconst 0, 1) := by decide +kernel
theorem d_Mo_write_12 : decode b_Mo_write 12 = .ok (.putfield 252, 3) := by decide +kernel
theorem d_Mo_write_15 : decode b_Mo_write 15 = .ok (.aload_n 0, 1) := by decide +kernel
theorem d_Mo_write_16 : decode b_Mo_write 16 = .ok (.bipush 79, 2) := by decide +kernel
theorem d_Mo_write_18 : decode b_Mo_write 18 = .ok (.iconst 1, 1) := by decide +kernel
theorem d_Mo_write_19 : decode b_Mo_write 19 = .ok (.invokevirtual 256, 3) := by decide +kernel
theorem d_Mo_write_22 : decode b_Mo_write 22 = .ok (.aload_n 0, 1) := by decide +kernel
theorem d_Mo_write_23 : decode b_Mo_write 23 = .ok (.bipush 66, 2) := by decide +kernel
theorem d_Mo_write_25 : decode b_Mo_write 25 = .ok (.iconst 1, 1) := by decide +kernel
theorem d_Mo_write_26 : decode b_Mo_write 26 = .ok (.invokevirtual 256, 3) := by decide +kernel
theorem d_Mo_write_29 : decode b_Mo_write 29 = .ok (.aload_n 0, 1) := by decide +kernel
theorem d_Mo_write_30 : decode b_Mo_write 30 = .ok (.aload_n 0, 1) := by decide +kernel
theorem d_Mo_write_31 : decode b_Mo_write 31 = .ok (.getfield 7, 3) := by decide +kernel
theorem d_Mo_write_34 : decode b_Mo_write 34 = .ok (.iload_n 1, 1) := by decide +kernel
theorem d_Mo_write_35 : decode b_Mo_write 35 = .ok (.iaload, 1) := by decide +kernel
theorem d_Mo_write_36 : decode b_Mo_write 36 = .ok (.iconst 1, 1) := by decide +kernel
theorem d_Mo_write_37 : decode b_Mo_write 37 = .ok (.invokevirtual 256, 3) := by decide +kernel
theorem d_Mo_write_40 : decode b_Mo_write 40 = .ok (.aload_n 0, 1) := by decide +kernel
theorem d_Mo_write_41 : decode b_Mo_write 41 = .ok (.aload_n 0, 1) := by decide +kernel
theorem d_Mo_write_42 : decode b_Mo_write 42 = .ok (.getfield 25, 3) := by decide +kernel
theorem d_Mo_write_45 : decode b_Mo_write 45 = .ok (.iload_n 1, 1) := by decide +kernel
theorem d_Mo_write_46 : decode b_Mo_write 46 = .ok (.iaload, 1) := by decide +kernel
theorem d_Mo_write_47 : decode b_Mo_write 47 = .ok (.iconst 1, 1) := by decide +kernel
theorem d_Mo_write_48 : decode b_Mo_write 48 = .ok (.invokevirtual 256, 3) := by decide +kernel
theorem d_Mo_write_51 : decode b_Mo_write 51 = .ok (.aload_n 0, 1) := by decide +kernel
theorem d_Mo_write_52 : decode b_Mo_write 52 = .ok (.aload_n 0, 1) := by decide +kernel
theorem d_Mo_write_53 : decode b_Mo_write 53 = .ok (.getfield 40, 3) := by decide +kernel
theorem d_Mo_write_56 : decode b_Mo_write 56 = .ok (.iload_n 1, 1) := by decide +kernel
theorem d_Mo_write_57 : decode b_Mo_write 57 = .ok (.iaload, 1) := by decide +kernel
theorem d_Mo_write_58 : decode b_Mo_write 58 = .ok (.iconst 1, 1) := by decide +kernel
theorem d_Mo_write_59 : decode b_Mo_write 59 = .ok (.invokevirtual 256, 3) := by decide +kernel
theorem d_Mo_write_62 : decode b_Mo_write 62 = .ok (.bipush 8, 2) := by decide +kernel
theorem d_Mo_write_64 : decode b_Mo_write 64 = .ok (.iload_n 1, 1) := by decide +kernel
theorem d_Mo_write_65 : decode b_Mo_write 65 = .ok (.imul, 1) := by decide +kernel
theorem d_Mo_write_66 : decode b_Mo_write 66 = .ok (.istore_n 2, 1) := by decide +kernel
theorem d_Mo_write_67 : decode b_Mo_write 67 = .ok (.iload_n 2, 1) := by decide +kernel
theorem d_Mo_write_68 : decode b_Mo_write 68 = .ok (.bipush 8, 2) := by decide +kernel
theorem d_Mo_write_70 : decode b_Mo_write 70 = .ok (.iload_n 1, 1) := by decide +kernel
theorem d_Mo_write_71 : decode b_Mo_write 71 = .ok (.imul, 1) := by decide +kernel
theorem d_Mo_write_72 : decode b_Mo_write 72 = .ok (.aload_n 0, 1) := by decide +kernel
theorem d_Mo_write_73 : decode b_Mo_write 73 = .ok (.getfield 7, 3) := by decide +kernel
theorem d_Mo_write_76 : decode b_Mo_write 76 = .ok (.iload_n 1, 1) := by decide +kernel
theorem d_Mo_write_77 : decode b_Mo_write 77 = .ok (.iaload, 1) := by decide +kernel
theorem d_Mo_write_78 : decode b_Mo_write 78 = .ok (.iadd, 1) := by decide +kernel
theorem d_Mo_write_79 : decode b_Mo_write 79 = .ok (.if_icmp .ge 87, 3) := by decide +kernel
theorem d_Mo_write_82 : decode b_Mo_write 82 = .ok (.aload_n 0, 1) := by decide +kernel
theorem d_Mo_write_83 : decode b_Mo_write 83 = .ok (.aload_n 0, 1) := by decide +kernel
theorem d_Mo_write_84 : decode b_Mo_write 84 = .ok (.getfield 13, 3) := by decide +kernel
theorem d_Mo_write_87 : decode b_Mo_write 87 = .ok (.iload_n 2, 1) := by decide +kernel
theorem d_Mo_write_88 : decode b_Mo_write 88 = .ok (.iaload, 1) := by decide +kernel
theorem d_Mo_write_89 : decode b_Mo_write 89 = .ok (.iconst 1, 1) := by decide +kernel
theorem d_Mo_write_90 : decode b_Mo_write 90 = .ok (.invokevirtual 256, 3) := by decide +kernel
theorem d_Mo_write_93 : decode b_Mo_write 93 = .ok (.aload_n 0, 1) := by decide +kernel
theorem d_Mo_write_94 : decode b_Mo_write 94 = .ok (.aload_n 0, 1) := by decide +kernel
theorem d_Mo_write_95 : decode b_Mo_write 95 = .ok (.getfield 16, 3) := by decide +kernel
theorem d_Mo_write_98 : decode b_Mo_write 98 = .ok (.iload_n 2, 1) := by decide +kernel
theorem d_Mo_write_99 : decode b_Mo_write 99 = .ok (.iaload, 1) := by decide +kernel
theorem d_Mo_write_100 : decode b_Mo_write 100 = .ok (.iconst 1, 1) := by decide +kernel
theorem d_Mo_write_101 : decode b_Mo_write 101 = .ok (.invokevirtual 256, 3) := by decide +kernel
theorem d_Mo_write_104 : decode b_Mo_write 104 = .ok (.aload_n 0, 1) := by decide +kernel
theorem d_Mo_write_105 : decode b_Mo_write 105 = .ok (.aload_n 0, 1) := by decide +kernel
theorem d_Mo_write_106 : decode b_Mo_write 106 = .ok (.getfield 19, 3) := by decide +kernel
theorem d_Mo_write_109 : decode b_Mo_write 109 = .ok (.iload_n 2, 1) := by decide +kernel
theorem d_Mo_write_110 : decode b_Mo_write 110 = .ok (.iaload, 1) := by decide +kernel
theorem d_Mo_write_111 : decode b_Mo_write 111 = .ok (.iconst 2, 1) := by decide +kernel
theorem d_Mo_write_112 : decode b_Mo_write 112 = .ok (.invokevirtual 256, 3) := by decide +kernel
theorem d_Mo_write_115 : decode b_Mo_write 115 = .ok (.iconst 0, 1) := by decide +kernel
theorem d_Mo_write_116 : decode b_Mo_write 116 = .ok (.istore_n 3, 1) := by decide +kernel
theorem d_Mo_write_117 : decode b_Mo_write 117 = .ok (.iload_n 3, 1) := by decide +kernel
theorem d_Mo_write_118 : decode b_Mo_write 118 = .ok (.aload_n 0, 1) := by decide +kernel
theorem d_Mo_write_119 : decode b_Mo_write 119 = .ok (.getfield 19, 3) := by decide +kernel
theorem d_Mo_write_122 : decode b_Mo_write 122 = .ok (.iload_n 2, 1) := by decide +kernel
theorem d_Mo_write_123 : decode b_Mo_write 123 = .ok (.iaload, 1) := by decide +kernel
theorem d_Mo_write_124 : decode b_Mo_write 124 = .ok (.if_icmp .ge 36, 3) := by decide +kernel
theorem d_Mo_write_127 : decode b_Mo_write 127 = .ok (.aload_n 0, 1) := by decide +kernel
theorem d_Mo_write_128 : decode b_Mo_write 128 = .ok (.getfield 13, 3) := by decide +kernel
theorem d_Mo_write_131 : decode b_Mo_write 131 = .ok (.iload_n 2, 1) := by decide +kernel
theorem d_Mo_write_132 : decode b_Mo_write 132 = .ok (.iaload, 1) := by decide +kernel
theorem d_Mo_write_133 : decode b_Mo_write 133 = .ok (.iconst 3, 1) := by decide +kernel
theorem d_Mo_write_134 : decode b_Mo_write 134 = .ok (.if_icmp .eq 26, 3) := by decide +kernel
theorem d_Mo_write_137 : decode b_Mo_write 137 = .ok (.aload_n 0, 1) := by decide +kernel
theorem d_Mo_write_138 : decode b_Mo_write 138 = .ok (.aload_n 0, 1) := by decide +kernel
theorem d_Mo_write_139 : decode b_Mo_write 139 = .ok (.getfield 22, 3) := by decide +kernel
theorem d_Mo_write_142 : decode b_Mo_write 142 = .ok (.sipush 128, 3) := by decide +kernel
theorem d_Mo_write_145 : decode b_Mo_write 145 = .ok (.iload_n 2, 1) := by decide +kernel
theorem d_Mo_write_146 : decode b_Mo_write 146 = .ok (.imul, 1) := by decide +kernel
theorem d_Mo_write_147 : decode b_Mo_write 147 = .ok (.iload_n 3, 1) := by decide +kernel
theorem d_Mo_write_148 : decode b_Mo_write 148 = .ok (.iadd, 1) := by decide +kernel
theorem d_Mo_write_149 : decode b_Mo_write 149 = .ok (.iaload, 1) := by decide +kernel
theorem d_Mo_write_150 : decode b_Mo_write 150 = .ok (.iconst 1, 1) := by decide +kernel
theorem d_Mo_write_151 : decode b_Mo_write 151 = .ok (.invokevirtual 256, 3) := by decide +kernel
theorem d_Mo_write_154 : decode b_Mo_write 154 = .ok (.iinc 3 1, 3) := by decide +kernel
theorem d_Mo_write_157 : decode b_Mo_write 157 = .ok (.goto (-40), 3) := by decide +kernel
theorem d_Mo_write_160 : decode b_Mo_write 160 = .ok (.iinc 2 1, 3) := by decide +kernel
theorem d_Mo_write_163 : decode b_Mo_write 163 = .ok (.goto (-96), 3) := by decide +kernel
theorem d_Mo_write_166 : decode b_Mo_write 166 = .ok (.bipush 12, 2) := by decide +kernel
theorem d_Mo_write_168 : decode b_Mo_write 168 = .ok (.iload_n 1, 1) := by decide +kernel
theorem d_Mo_write_169 : decode b_Mo_write 169 = .ok (.imul, 1) := by decide +kernel
theorem d_Mo_write_170 : decode b_Mo_write 170 = .ok (.istore_n 2, 1) := by decide +kernel
theorem d_Mo_write_171 : decode b_Mo_write 171 = .ok (.iload_n 2, 1) := by decide +kernel
theorem d_Mo_write_172 : decode b_Mo_write 172 = .ok (.bipush 12, 2) := by decide +kernel
theorem d_Mo_write_174 : decode b_Mo_write 174 = .ok (.iload_n 1, 1) := by decide +kernel
theorem d_Mo_write_175 : decode b_Mo_write 175 = .ok (.imul, 1) := by decide +kernel
theorem d_Mo_write_176 : decode b_Mo_write 176 = .ok (.aload_n 0, 1) := by decide +kernel
theorem d_Mo_write_177 : decode b_Mo_write 177 = .ok (.getfield 25, 3) := by decide +kernel
theorem d_Mo_write_180 : decode b_Mo_write 180 = .ok (.iload_n 1, 1) := by decide +kernel
theorem d_Mo_write_181 : decode b_Mo_write 181 = .ok (.iaload, 1) := by decide +kernel
theorem d_Mo_write_182 : decode b_Mo_write 182 = .ok (.iadd, 1) := by decide +kernel
theorem d_Mo_write_183 : decode b_Mo_write 183 = .ok (.if_icmp .ge 53, 3) := by decide +kernel
theorem d_Mo_write_186 : decode b_Mo_write 186 = .ok (.aload_n 0, 1) := by decide +kernel
theorem d_Mo_write_187 : decode b_Mo_write 187 = .ok (.aload_n 0, 1) := by decide +kernel
theorem d_Mo_write_188 : decode b_Mo_write 188 = .ok (.getfield 28, 3) := by decide +kernel
theorem d_Mo_write_191 : decode b_Mo_write 191 = .ok (.iload_n 2, 1) := by decide +kernel
theorem d_Mo_write_192 : decode b_Mo_write 192 = .ok (.iaload, 1) := by decide +kernel
theorem d_Mo_write_193 : decode b_Mo_write 193 = .ok (.iconst 4, 1) := by decide +kernel
theorem d_Mo_write_194 : decode b_Mo_write 194 = .ok (.invokevirtual 256, 3) := by decide +kernel
theorem d_Mo_write_197 : decode b_Mo_write 197 = .ok (.aload_n 0, 1) := by decide +kernel
theorem d_Mo_write_198 : decode b_Mo_write 198 = .ok (.aload_n 0, 1) := by decide +kernel
theorem d_Mo_write_199 : decode b_Mo_write 199 = .ok (.getfield 31, 3) := by decide +kernel
theorem d_Mo_write_202 : decode b_Mo_write 202 = .ok (.iload_n 2, 1) := by decide +kernel
theorem d_Mo_write_203 : decode b_Mo_write 203 = .ok (.iaload, 1) := by decide +kernel
theorem d_Mo_write_204 : decode b_Mo_write 204 = .ok (.iconst 1, 1) := by decide +kernel
theorem d_Mo_write_205 : decode b_Mo_write 205 = .ok (.invokevirtual 256, 3) := by decide +kernel
theorem d_Mo_write_208 : decode b_Mo_write 208 = .ok (.aload_n 0, 1) := by decide +kernel
theorem d_Mo_write_209 : decode b_Mo_write 209 = .ok (.aload_n 0, 1) := by decide +kernel
theorem d_Mo_write_210 : decode b_Mo_write 210 = .ok (.getfield 34, 3) := by decide +kernel
theorem d_Mo_write_213 : decode b_Mo_write 213 = .ok (.iload_n 2, 1) := by decide +kernel
theorem d_Mo_write_214 : decode b_Mo_write 214 = .ok (.iaload, 1) := by decide +kernel
theorem d_Mo_write_215 : decode b_Mo_write 215 = .ok (.iconst 1, 1) := by decide +kernel
theorem d_Mo_write_216 : decode b_Mo_write 216 = .ok (.invokevirtual 256, 3) := by decide +kernel
theorem d_Mo_write_219 : decode b_Mo_write 219 = .ok (.aload_n 0, 1) := by decide +kernel
theorem d_Mo_write_220 : decode b_Mo_write 220 = .ok (.aload_n 0, 1) := by decide +kernel
theorem d_Mo_write_221 : decode b_Mo_write 221 = .ok (.getfield 37, 3) := by decide +kernel
theorem d_Mo_write_224 : decode b_Mo_write 224 = .ok (.iload_n 2, 1) := by decide +kernel
theorem d_Mo_write_225 : decode b_Mo_write 225 = .ok (.iaload, 1) := by decide +kernel
theorem d_Mo_write_226 : decode b_Mo_write 226 = .ok (.iconst 2, 1) := by decide +kernel
theorem d_Mo_write_227 : decode b_Mo_write 227 = .ok (.invokevirtual 256, 3) := by decide +kernel
theorem d_Mo_write_230 : decode b_Mo_write 230 = .ok (.iinc 2 1, 3) := by decide +kernel
theorem d_Mo_write_233 : decode b_Mo_write 233 = .ok (.goto (-62), 3) := by decide +kernel
theorem d_Mo_write_236 : decode b_Mo_write 236 = .ok (.bipush 16, 2) := by decide +kernel
theorem d_Mo_write_238 : decode b_Mo_write 238 = .ok (.iload_n 1, 1) := by decide +kernel
theorem d_Mo_write_239 : decode b_Mo_write 239 = .ok (.imul, 1) := by decide +kernel
theorem d_Mo_write_240 : decode b_Mo_write 240 = .ok (.istore_n 2, 1) := by decide +kernel
theorem d_Mo_write_241 : decode b_Mo_write 241 = .ok (.iload_n 2, 1) := by decide +kernel
theorem d_Mo_write_242 : decode b_Mo_write 242 = .ok (.bipush 16, 2) := by decide +kernel
theorem d_Mo_write_244 : decode b_Mo_write 244 = .ok (.iload_n 1, 1) := by decide +kernel
theorem d_Mo_write_245 : decode b_Mo_write 245 = .ok (.imul, 1) := by decide +kernel
theorem d_Mo_write_246 : decode b_Mo_write 246 = .ok (.aload_n 0, 1) := by decide +kernel
theorem d_Mo_write_247 : decode b_Mo_write 247 = .ok (.getfield 40, 3) := by decide +kernel
theorem d_Mo_write_250 : decode b_Mo_write 250 = .ok (.iload_n 1, 1) := by decide +kernel
theorem d_Mo_write_251 : decode b_Mo_write 251 = .ok (.iaload, 1) := by decide +kernel
theorem d_Mo_write_252 : decode b_Mo_write 252 = .ok (.iadd, 1) := by decide +kernel
theorem d_Mo_write_253 : decode b_Mo_write 253 = .ok (.if_icmp .ge 64, 3) := by decide +kernel
theorem d_Mo_write_256 : decode b_Mo_write 256 = .ok (.aload_n 0, 1) := by decide +kernel
theorem d_Mo_write_257 : decode b_Mo_write 257 = .ok (.aload_n 0, 1) := by decide +kernel
theorem d_Mo_write_258 : decode b_Mo_write 258 = .ok (.getfield 43, 3) := by decide +kernel
theorem d_Mo_write_261 : decode b_Mo_write 261 = .ok (.iload_n 2, 1) := by decide +kernel
theorem d_Mo_write_262 : decode b_Mo_write 262 = .ok (.iaload, 1) := by decide +kernel
theorem d_Mo_write_263 : decode b_Mo_write 263 = .ok (.iconst 1, 1) := by decide +kernel
theorem d_Mo_write_264 : decode b_Mo_write 264 = .ok (.invokevirtual 256, 3) := by decide +kernel
theorem d_Mo_write_267 : decode b_Mo_write 267 = .ok (.aload_n 0, 1) := by decide +kernel
theorem d_Mo_write_268 : decode b_Mo_write 268 = .ok (.aload_n 0, 1) := by decide +kernel
theorem d_Mo_write_269 : decode b_Mo_write 269 = .ok (.getfield 46, 3) := by decide +kernel
theorem d_Mo_write_272 : decode b_Mo_write 272 = .ok (.iload_n 2, 1) := by decide +kernel
theorem d_Mo_write_273 : decode b_Mo_write 273 = .ok (.iaload, 1) := by decide +kernel
theorem d_Mo_write_274 : decode b_Mo_write 274 = .ok (.iconst 2, 1) := by decide +kernel
theorem d_Mo_write_275 : decode b_Mo_write 275 = .ok (.invokevirtual 256, 3) := by decide +kernel
theorem d_Mo_write_278 : decode b_Mo_write 278 = .ok (.aload_n 0, 1) := by decide +kernel
theorem d_Mo_write_279 : decode b_Mo_write 279 = .ok (.aload_n 0, 1) := by decide +kernel
theorem d_Mo_write_280 : decode b_Mo_write 280 = .ok (.getfield 49, 3) := by decide +kernel
theorem d_Mo_write_283 : decode b_Mo_write 283 = .ok (.iload_n 2, 1) := by decide +kernel
theorem d_Mo_write_284 : decode b_Mo_write 284 = .ok (.iaload, 1) := by decide +kernel
theorem d_Mo_write_285 : decode b_Mo_write 285 = .ok (.iconst 1, 1) := by decide +kernel
theorem d_Mo_write_286 : decode b_Mo_write 286 = .ok (.invokevirtual 256, 3) := by decide +kernel
theorem d_Mo_write_289 : decode b_Mo_write 289 = .ok (.aload_n 0, 1) := by decide +kernel
theorem d_Mo_write_290 : decode b_Mo_write 290 = .ok (.aload_n 0, 1) := by decide +kernel
theorem d_Mo_write_291 : decode b_Mo_write 291 = .ok (.getfield 52, 3) := by decide +kernel
theorem d_Mo_write_294 : decode b_Mo_write 294 = .ok (.iload_n 2, 1) := by decide +kernel
theorem d_Mo_write_295 : decode b_Mo_write 295 = .ok (.iaload, 1) := by decide +kernel
theorem d_Mo_write_296 : decode b_Mo_write 296 = .ok (.iconst 1, 1) := by decide +kernel
theorem d_Mo_write_297 : decode b_Mo_write 297 = .ok (.invokevirtual 256, 3) := by decide +kernel
theorem d_Mo_write_300 : decode b_Mo_write 300 = .ok (.aload_n 0, 1) := by decide +kernel
theorem d_Mo_write_301 : decode b_Mo_write 301 = .ok (.aload_n 0, 1) := by decide +kernel
theorem d_Mo_write_302 : decode b_Mo_write 302 = .ok (.getfield 55, 3) := by decide +kernel
theorem d_Mo_write_305 : decode b_Mo_write 305 = .ok (.iload_n 2, 1) := by decide +kernel
theorem d_Mo_write_306 : decode b_Mo_write 306 = .ok (.iaload, 1) := by decide +kernel
theorem d_Mo_write_307 : decode b_Mo_write 307 = .ok (.iconst 4, 1) := by decide +kernel
theorem d_Mo_write_308 : decode b_Mo_write 308 = .ok (.invokevirtual 256, 3) := by decide +kernel
theorem d_Mo_write_311 : decode b_Mo_write 311 = .ok (.iinc 2 1, 3) := by decide +kernel
theorem d_Mo_write_314 : decode b_Mo_write 314 = .ok (.goto (-73), 3) := by decide +kernel
theorem d_Mo_write_317 : decode b_Mo_write 317 = .ok (.aload_n 0, 1) := by decide +kernel
theorem d_Mo_write_318 : decode b_Mo_write 318 = .ok (.aload_n 0, 1) := by decide +kernel
theorem d_Mo_write_319 : decode b_Mo_write 319 = .ok (.getfield 252, 3) := by decide +kernel
theorem d_Mo_write_322 : decode b_Mo_write 322 = .ok (.invokevirtual 259, 3) := by decide +kernel
theorem d_Mo_write_325 : decode b_Mo_write 325 = .ok (.istore_n 2, 1) := by decide +kernel
theorem d_Mo_write_326 : decode b_Mo_write 326 = .ok (.aload_n 0, 1) := by decide +kernel
theorem d_Mo_write_327 : decode b_Mo_write 327 = .ok (.iload_n 2, 1) := by decide +kernel
theorem d_Mo_write_328 : decode b_Mo_write 328 = .ok (.iconst 2, 1) := by decide +kernel
theorem d_Mo_write_329 : decode b_Mo_write 329 = .ok (.invokevirtual 256, 3) := by decide +kernel
theorem d_Mo_write_332 : decode b_Mo_write 332 = .ok (.aload_n 0, 1) := by decide +kernel
theorem d_Mo_write_333 : decode b_Mo_write 333 = .ok (.getfield 252, 3) := by decide +kernel
theorem d_Mo_write_336 : decode b_Mo_write 336 = .ok (.ireturn, 1) := by decide +kernel
theorem d_Mo_say_0 : decode b_Mo_say 0 = .ok (.iload_n 2, 1) := by decide +kernel
theorem d_Mo_say_1 : decode b_Mo_say 1 = .ok (.iconst 1, 1) := by decide +kernel
theorem d_Mo_say_2 : decode b_Mo_say 2 = .ok (.isub, 1) := by decide +kernel
theorem d_Mo_say_3 : decode b_Mo_say 3 = .ok (.istore_n 3, 1) := by decide +kernel
theorem d_Mo_say_4 : decode b_Mo_say 4 = .ok (.iload_n 3, 1) := by decide +kernel
theorem d_Mo_say_5 : decode b_Mo_say 5 = .ok (.ifCond .lt 38, 3) := by decide +kernel
theorem d_Mo_say_8 : decode b_Mo_say 8 = .ok (.aload_n 0, 1) := by decide +kernel
theorem d_Mo_say_9 : decode b_Mo_say 9 = .ok (.getfield 90, 3) := by decide +kernel
theorem d_Mo_say_12 : decode b_Mo_say 12 = .ok (.aload_n 0, 1) := by decide +kernel
theorem d_Mo_say_13 : decode b_Mo_say 13 = .ok (.getfield 252, 3) := by decide +kernel
theorem d_Mo_say_16 : decode b_Mo_say 16 = .ok (.iload_n 1, 1) := by decide +kernel
theorem d_Mo_say_17 : decode b_Mo_say 17 = .ok (.bipush 8, 2) := by decide +kernel
theorem d_Mo_say_19 : decode b_Mo_say 19 = .ok (.iload_n 3, 1) := by decide +kernel
theorem d_Mo_say_20 : decode b_Mo_say 20 = .ok (.imul, 1) := by decide +kernel
theorem d_Mo_say_21 : decode b_Mo_say 21 = .ok (.ishr, 1) := by decide +kernel
theorem d_Mo_say_22 : decode b_Mo_say 22 = .ok (.sipush 255, 3) := by decide +kernel
theorem d_Mo_say_25 : decode b_Mo_say 25 = .ok (.iand, 1) := by decide +kernel
theorem d_Mo_say_26 : decode b_Mo_say 26 = .ok (.iastore, 1) := by decide +kernel
theorem d_Mo_say_27 : decode b_Mo_say 27 = .ok (.aload_n 0, 1) := by decide +kernel
theorem d_Mo_say_28 : decode b_Mo_say 28 = .ok (.dup, 1) := by decide +kernel
theorem d_Mo_say_29 : decode b_Mo_say 29 = .ok (.getfield 252, 3) := by decide +kernel
theorem d_Mo_say_32 : decode b_Mo_say 32 = .ok (.iconst 1, 1) := by decide +kernel
theorem d_Mo_say_33 : decode b_Mo_say 33 = .ok (.iadd, 1) := by decide +kernel
theorem d_Mo_say_34 : decode b_Mo_say 34 = .ok (.putfield 252, 3) := by decide +kernel
theorem d_Mo_say_37 : decode b_Mo_say 37 = .ok (.iinc 3 (-1), 3) := by decide +kernel
theorem d_Mo_say_40 : decode b_Mo_say 40 = .ok (.goto (-36), 3) := by decide +kernel
theorem d_Mo_say_43 : decode b_Mo_say 43 = .ok (.return_, 1) := by decide +kernel
theorem d_Mo_sumOf_0 : decode b_Mo_sumOf 0 = .ok (.iconst 0, 1) := by decide +kernel
theorem d_Mo_sumOf_1 : decode b_Mo_sumOf 1 = .ok (.istore_n 2, 1) := by decide +kernel
theorem d_Mo_sumOf_2 : decode b_Mo_sumOf 2 = .ok (.iconst 0, 1) := by decide +kernel
theorem d_Mo_sumOf_3 : decode b_Mo_sumOf 3 = .ok (.istore_n 3, 1) := by decide +kernel
theorem d_Mo_sumOf_4 : decode b_Mo_sumOf 4 = .ok (.iload_n 3, 1) := by decide +kernel
theorem d_Mo_sumOf_5 : decode b_Mo_sumOf 5 = .ok (.iload_n 1, 1) := by decide +kernel
theorem d_Mo_sumOf_6 : decode b_Mo_sumOf 6 = .ok (.if_icmp .ge 22, 3) := by decide +kernel
theorem d_Mo_sumOf_9 : decode b_Mo_sumOf 9 = .ok (.iload_n 2, 1) := by decide +kernel
theorem d_Mo_sumOf_10 : decode b_Mo_sumOf 10 = .ok (.aload_n 0, 1) := by decide +kernel
theorem d_Mo_sumOf_11 : decode b_Mo_sumOf 11 = .ok (.getfield 90, 3) := by decide +kernel
theorem d_Mo_sumOf_14 : decode b_Mo_sumOf 14 = .ok (.iload_n 3, 1) := by decide +kernel
theorem d_Mo_sumOf_15 : decode b_Mo_sumOf 15 = .ok (.iaload, 1) := by decide +kernel
theorem d_Mo_sumOf_16 : decode b_Mo_sumOf 16 = .ok (.iload_n 3, 1) := by decide +kernel
theorem d_Mo_sumOf_17 : decode b_Mo_sumOf 17 = .ok (.iconst 1, 1) := by decide +kernel
theorem d_Mo_sumOf_18 : decode b_Mo_sumOf 18 = .ok (.iadd, 1) := by decide +kernel
theorem d_Mo_sumOf_19 : decode b_Mo_sumOf 19 = .ok (.imul, 1) := by decide +kernel
theorem d_Mo_sumOf_20 : decode b_Mo_sumOf 20 = .ok (.iadd, 1) := by decide +kernel
theorem d_Mo_sumOf_21 : decode b_Mo_sumOf 21 = .ok (.istore_n 2, 1) := by decide +kernel
theorem d_Mo_sumOf_22 : decode b_Mo_sumOf 22 = .ok (.iinc 3 1, 3) := by decide +kernel
theorem d_Mo_sumOf_25 : decode b_Mo_sumOf 25 = .ok (.goto (-21), 3) := by decide +kernel
theorem d_Mo_sumOf_28 : decode b_Mo_sumOf 28 = .ok (.iload_n 2, 1) := by decide +kernel
theorem d_Mo_sumOf_29 : decode b_Mo_sumOf 29 = .ok (.ldc 255, 2) := by decide +kernel
theorem d_Mo_sumOf_31 : decode b_Mo_sumOf 31 = .ok (.iand, 1) := by decide +kernel
theorem d_Mo_sumOf_32 : decode b_Mo_sumOf 32 = .ok (.ireturn, 1) := by decide +kernel
theorem d_Mo_written_0 : decode b_Mo_written 0 = .ok (.aload_n 0, 1) := by decide +kernel
theorem d_Mo_written_1 : decode b_Mo_written 1 = .ok (.iconst 0, 1) := by decide +kernel
theorem d_Mo_written_2 : decode b_Mo_written 2 = .ok (.putfield 93, 3) := by decide +kernel
theorem d_Mo_written_5 : decode b_Mo_written 5 = .ok (.iload_n 1, 1) := by decide +kernel
theorem d_Mo_written_6 : decode b_Mo_written 6 = .ok (.iconst 0, 1) := by decide +kernel
theorem d_Mo_written_7 : decode b_Mo_written 7 = .ok (.aload_n 0, 1) := by decide +kernel
theorem d_Mo_written_8 : decode b_Mo_written 8 = .ok (.getfield 252, 3) := by decide +kernel
theorem d_Mo_written_11 : decode b_Mo_written 11 = .ok (.iconst 1, 1) := by decide +kernel
theorem d_Mo_written_12 : decode b_Mo_written 12 = .ok (.isub, 1) := by decide +kernel
theorem d_Mo_written_13 : decode b_Mo_written 13 = .ok (.invokestatic 99, 3) := by decide +kernel
theorem d_Mo_written_16 : decode b_Mo_written 16 = .ok (.ifCond .eq 12, 3) := by decide +kernel
theorem d_Mo_written_19 : decode b_Mo_written 19 = .ok (.aload_n 0, 1) := by decide +kernel
theorem d_Mo_written_20 : decode b_Mo_written 20 = .ok (.getfield 90, 3) := by decide +kernel
theorem d_Mo_written_23 : decode b_Mo_written 23 = .ok (.iload_n 1, 1) := by decide +kernel
theorem d_Mo_written_24 : decode b_Mo_written 24 = .ok (.iaload, 1) := by decide +kernel
theorem d_Mo_written_25 : decode b_Mo_written 25 = .ok (.goto 8, 3) := by decide +kernel
theorem d_Mo_written_28 : decode b_Mo_written 28 = .ok (.aload_n 0, 1) := by decide +kernel
theorem d_Mo_written_29 : decode b_Mo_written 29 = .ok (.iconst 1, 1) := by decide +kernel
theorem d_Mo_written_30 : decode b_Mo_written 30 = .ok (.invokevirtual 103, 3) := by decide +kernel
theorem d_Mo_written_33 : decode b_Mo_written 33 = .ok (.ireturn, 1) := by decide +kernel
theorem d_Mo_alter_0 : decode b_Mo_alter 0 = .ok (.aload_n 0, 1) := by decide +kernel
theorem d_Mo_alter_1 : decode b_Mo_alter 1 = .ok (.iconst 0, 1) := by decide +kernel
theorem d_Mo_alter_2 : decode b_Mo_alter 2 = .ok (.putfield 93, 3) := by decide +kernel
theorem d_Mo_alter_5 : decode b_Mo_alter 5 = .ok (.iload_n 1, 1) := by decide +kernel
theorem d_Mo_alter_6 : decode b_Mo_alter 6 = .ok (.iconst 0, 1) := by decide +kernel
theorem d_Mo_alter_7 : decode b_Mo_alter 7 = .ok (.aload_n 0, 1) := by decide +kernel
theorem d_Mo_alter_8 : decode b_Mo_alter 8 = .ok (.getfield 252, 3) := by decide +kernel
theorem d_Mo_alter_11 : decode b_Mo_alter 11 = .ok (.iconst 1, 1) := by decide +kernel
theorem d_Mo_alter_12 : decode b_Mo_alter 12 = .ok (.isub, 1) := by decide +kernel
theorem d_Mo_alter_13 : decode b_Mo_alter 13 = .ok (.invokestatic 99, 3) := by decide +kernel
theorem d_Mo_alter_16 : decode b_Mo_alter 16 = .ok (.ifCond .ne 9, 3) := by decide +kernel
theorem d_Mo_alter_19 : decode b_Mo_alter 19 = .ok (.aload_n 0, 1) := by decide +kernel
theorem d_Mo_alter_20 : decode b_Mo_alter 20 = .ok (.iconst 1, 1) := by decide +kernel
theorem d_Mo_alter_21 : decode b_Mo_alter 21 = .ok (.invokevirtual 103, 3) := by decide +kernel
theorem d_Mo_alter_24 : decode b_Mo_alter 24 = .ok (.ireturn, 1) := by decide +kernel
theorem d_Mo_alter_25 : decode b_Mo_alter 25 = .ok (.iload_n 2, 1) := by decide +kernel
theorem d_Mo_alter_26 : decode b_Mo_alter 26 = .ok (.iconst 0, 1) := by decide +kernel
theorem d_Mo_alter_27 : decode b_Mo_alter 27 = .ok (.sipush 255, 3) := by decide +kernel
theorem d_Mo_alter_30 : decode b_Mo_alter 30 = .ok (.invokestatic 99, 3) := by decide +kernel
theorem d_Mo_alter_33 : decode b_Mo_alter 33 = .ok (.ifCond .ne 9, 3) := by decide +kernel
theorem d_Mo_alter_36 : decode b_Mo_alter 36 = .ok (.aload_n 0, 1) := by decide +kernel
theorem d_Mo_alter_37 : decode b_Mo_alter 37 = .ok (.iconst 2, 1) := by decide +kernel
theorem d_Mo_alter_38 : decode b_Mo_alter 38 = .ok (.invokevirtual 103, 3) := by decide +kernel
theorem d_Mo_alter_41 : decode b_Mo_alter 41 = .ok (.ireturn, 1) := by decide +kernel
theorem d_Mo_alter_42 : decode b_Mo_alter 42 = .ok (.aload_n 0, 1) := by decide +kernel
theorem d_Mo_alter_43 : decode b_Mo_alter 43 = .ok (.getfield 90, 3) := by decide +kernel
theorem d_Mo_alter_46 : decode b_Mo_alter 46 = .ok (.iload_n 1, 1) := by decide +kernel
theorem d_Mo_alter_47 : decode b_Mo_alter 47 = .ok (.iaload, 1) := by decide +kernel
theorem d_Mo_alter_48 : decode b_Mo_alter 48 = .ok (.istore_n 3, 1) := by decide +kernel
theorem d_Mo_alter_49 : decode b_Mo_alter 49 = .ok (.aload_n 0, 1) := by decide +kernel
theorem d_Mo_alter_50 : decode b_Mo_alter 50 = .ok (.getfield 90, 3) := by decide +kernel
theorem d_Mo_alter_53 : decode b_Mo_alter 53 = .ok (.iload_n 1, 1) := by decide +kernel
theorem d_Mo_alter_54 : decode b_Mo_alter 54 = .ok (.iload_n 2, 1) := by decide +kernel
theorem d_Mo_alter_55 : decode b_Mo_alter 55 = .ok (.iastore, 1) := by decide +kernel
theorem d_Mo_alter_56 : decode b_Mo_alter 56 = .ok (.iload_n 3, 1) := by decide +kernel
theorem d_Mo_alter_57 : decode b_Mo_alter 57 = .ok (.ireturn, 1) := by decide +kernel
theorem d_Mo_read_0 : decode b_Mo_read 0 = .ok (.aload_n 0, 1) := by decide +kernel
theorem d_Mo_read_1 : decode b_Mo_read 1 = .ok (.iconst 0, 1) := by decide +kernel
theorem d_Mo_read_2 : decode b_Mo_read 2 = .ok (.putfield 93, 3) := by decide +kernel
theorem d_Mo_read_5 : decode b_Mo_read 5 = .ok (.iload_n 1, 1) := by decide +kernel
theorem d_Mo_read_6 : decode b_Mo_read 6 = .ok (.iconst 0, 1) := by decide +kernel
theorem d_Mo_read_7 : decode b_Mo_read 7 = .ok (.aload_n 0, 1) := by decide +kernel
theorem d_Mo_read_8 : decode b_Mo_read 8 = .ok (.getfield 252, 3) := by decide +kernel
theorem d_Mo_read_11 : decode b_Mo_read 11 = .ok (.invokestatic 99, 3) := by decide +kernel
theorem d_Mo_read_14 : decode b_Mo_read 14 = .ok (.ifCond .ne 9, 3) := by decide +kernel
theorem d_Mo_read_17 : decode b_Mo_read 17 = .ok (.aload_n 0, 1) := by decide +kernel
theorem d_Mo_read_18 : decode b_Mo_read 18 = .ok (.iconst 1, 1) := by decide +kernel
theorem d_Mo_read_19 : decode b_Mo_read 19 = .ok (.invokevirtual 103, 3) := by decide +kernel
theorem d_Mo_read_22 : decode b_Mo_read 22 = .ok (.ireturn, 1) := by decide +kernel
theorem d_Mo_read_23 : decode b_Mo_read 23 = .ok (.aload_n 0, 1) := by decide +kernel
theorem d_Mo_read_24 : decode b_Mo_read 24 = .ok (.getfield 252, 3) := by decide +kernel
theorem d_Mo_read_27 : decode b_Mo_read 27 = .ok (.iload_n 1, 1) := by decide +kernel
theorem d_Mo_read_28 : decode b_Mo_read 28 = .ok (.isub, 1) := by decide +kernel
theorem d_Mo_read_29 : decode b_Mo_read 29 = .ok (.iconst 2, 1) := by decide +kernel
theorem d_Mo_read_30 : decode b_Mo_read 30 = .ok (.isub, 1) := by decide +kernel
theorem d_Mo_read_31 : decode b_Mo_read 31 = .ok (.istore_n 2, 1) := by decide +kernel
theorem d_Mo_read_32 : decode b_Mo_read 32 = .ok (.aload_n 0, 1) := by decide +kernel
theorem d_Mo_read_33 : decode b_Mo_read 33 = .ok (.iload_n 2, 1) := by decide +kernel
theorem d_Mo_read_34 : decode b_Mo_read 34 = .ok (.iconst 5, 1) := by decide +kernel
theorem d_Mo_read_35 : decode b_Mo_read 35 = .ok (.if_icmp .lt 7, 3) := by decide +kernel
theorem d_Mo_read_38 : decode b_Mo_read 38 = .ok (.iconst 1, 1) := by decide +kernel
theorem d_Mo_read_39 : decode b_Mo_read 39 = .ok (.goto 4, 3) := by decide +kernel
theorem d_Mo_read_42 : decode b_Mo_read 42 = .ok (.iconst 0, 1) := by decide +kernel
theorem d_Mo_read_43 : decode b_Mo_read 43 = .ok (.putfield 265, 3) := by decide +kernel
theorem d_Mo_read_46 : decode b_Mo_read 46 = .ok (.aload_n 0, 1) := by decide +kernel
theorem d_Mo_read_47 : decode b_Mo_read 47 = .ok (.getfield 265, 3) := by decide +kernel
theorem d_Mo_read_50 : decode b_Mo_read 50 = .ok (.ifCond .eq 10, 3) := by decide +kernel
theorem d_Mo_read_53 : decode b_Mo_read 53 = .ok (.aload_n 0, 1) := by decide +kernel
theorem d_Mo_read_54 : decode b_Mo_read 54 = .ok (.bipush 12, 2) := by decide +kernel
theorem d_Mo_read_56 : decode b_Mo_read 56 = .ok (.iload_n 2, 1) := by decide +kernel
theorem d_Mo_read_57 : decode b_Mo_read 57 = .ok (.invokevirtual 275, 3) := by decide +kernel
theorem d_Mo_read_60 : decode b_Mo_read 60 = .ok (.aload_n 0, 1) := by decide +kernel
theorem d_Mo_read_61 : decode b_Mo_read 61 = .ok (.iload_n 2, 1) := by decide +kernel
theorem d_Mo_read_62 : decode b_Mo_read 62 = .ok (.iconst 5, 1) := by decide +kernel
theorem d_Mo_read_63 : decode b_Mo_read 63 = .ok (.if_icmp .lt 34, 3) := by decide +kernel
theorem d_Mo_read_66 : decode b_Mo_read 66 = .ok (.aload_n 0, 1) := by decide +kernel
theorem d_Mo_read_67 : decode b_Mo_read 67 = .ok (.iload_n 2, 1) := by decide +kernel
theorem d_Mo_read_68 : decode b_Mo_read 68 = .ok (.invokevirtual 259, 3) := by decide +kernel
theorem d_Mo_read_71 : decode b_Mo_read 71 = .ok (.sipush 256, 3) := by decide +kernel
theorem d_Mo_read_74 : decode b_Mo_read 74 = .ok (.aload_n 0, 1) := by decide +kernel
theorem d_Mo_read_75 : decode b_Mo_read 75 = .ok (.getfield 90, 3) := by decide +kernel
theorem d_Mo_read_78 : decode b_Mo_read 78 = .ok (.iload_n 2, 1) := by decide +kernel
theorem d_Mo_read_79 : decode b_Mo_read 79 = .ok (.iaload, 1) := by decide +kernel
theorem d_Mo_read_80 : decode b_Mo_read 80 = .ok (.imul, 1) := by decide +kernel
theorem d_Mo_read_81 : decode b_Mo_read 81 = .ok (.aload_n 0, 1) := by decide +kernel
theorem d_Mo_read_82 : decode b_Mo_read 82 = .ok (.getfield 90, 3) := by decide +kernel
theorem d_Mo_read_85 : decode b_Mo_read 85 = .ok (.iload_n 2, 1) := by decide +kernel
theorem d_Mo_read_86 : decode b_Mo_read 86 = .ok (.iconst 1, 1) := by decide +kernel
theorem d_Mo_read_87 : decode b_Mo_read 87 = .ok (.iadd, 1) := by decide +kernel
theorem d_Mo_read_88 : decode b_Mo_read 88 = .ok (.iaload, 1) := by decide +kernel
theorem d_Mo_read_89 : decode b_Mo_read 89 = .ok (.iadd, 1) := by decide +kernel
theorem d_Mo_read_90 : decode b_Mo_read 90 = .ok (.if_icmp .ne 7, 3) := by decide +kernel
theorem d_Mo_read_93 : decode b_Mo_read 93 = .ok (.iconst 1, 1) := by decide +kernel
theorem d_Mo_read_94 : decode b_Mo_read 94 = .ok (.goto 4, 3) := by decide +kernel
theorem d_Mo_read_97 : decode b_Mo_read 97 = .ok (.iconst 0, 1) := by decide +kernel
theorem d_Mo_read_98 : decode b_Mo_read 98 = .ok (.invokevirtual 271, 3) := by decide +kernel
theorem d_Mo_read_101 : decode b_Mo_read 101 = .ok (.aload_n 0, 1) := by decide +kernel
theorem d_Mo_read_102 : decode b_Mo_read 102 = .ok (.getfield 265, 3) := by decide +kernel
theorem d_Mo_read_105 : decode b_Mo_read 105 = .ok (.ifCond .ne 9, 3) := by decide +kernel
theorem d_Mo_read_108 : decode b_Mo_read 108 = .ok (.aload_n 0, 1) := by decide +kernel
theorem d_Mo_read_109 : decode b_Mo_read 109 = .ok (.iconst 1, 1) := by decide +kernel
theorem d_Mo_read_110 : decode b_Mo_read 110 = .ok (.invokevirtual 103, 3) := by decide +kernel
theorem d_Mo_read_113 : decode b_Mo_read 113 = .ok (.ireturn, 1) := by decide +kernel
theorem d_Mo_read_114 : decode b_Mo_read 114 = .ok (.aload_n 0, 1) := by decide +kernel
theorem d_Mo_read_115 : decode b_Mo_read 115 = .ok (.getfield 96, 3) := by decide +kernel
theorem d_Mo_read_118 : decode b_Mo_read 118 = .ok (.bipush 12, 2) := by decide +kernel
theorem d_Mo_read_120 : decode b_Mo_read 120 = .ok (.if_icmp .ne 9, 3) := by decide +kernel
theorem d_Mo_read_123 : decode b_Mo_read 123 = .ok (.aload_n 0, 1) := by decide +kernel
theorem d_Mo_read_124 : decode b_Mo_read 124 = .ok (.iconst 2, 1) := by decide +kernel
theorem d_Mo_read_125 : decode b_Mo_read 125 = .ok (.invokevirtual 103, 3) := by decide +kernel
theorem d_Mo_read_128 : decode b_Mo_read 128 = .ok (.ireturn, 1) := by decide +kernel
theorem d_Mo_read_129 : decode b_Mo_read 129 = .ok (.aload_n 0, 1) := by decide +kernel
theorem d_Mo_read_130 : decode b_Mo_read 130 = .ok (.aload_n 0, 1) := by decide +kernel
theorem d_Mo_read_131 : decode b_Mo_read 131 = .ok (.getfield 96, 3) := by decide +kernel
theorem d_Mo_read_134 : decode b_Mo_read 134 = .ok (.iload_n 2, 1) := by decide +kernel
theorem d_Mo_read_135 : decode b_Mo_read 135 = .ok (.invokevirtual 275, 3) := by decide +kernel
theorem d_Mo_read_138 : decode b_Mo_read 138 = .ok (.aload_n 0, 1) := by decide +kernel
theorem d_Mo_read_139 : decode b_Mo_read 139 = .ok (.dup, 1) := by decide +kernel
theorem d_Mo_read_140 : decode b_Mo_read 140 = .ok (.getfield 96, 3) := by decide +kernel
theorem d_Mo_read_143 : decode b_Mo_read 143 = .ok (.iconst 1, 1) := by decide +kernel
theorem d_Mo_read_144 : decode b_Mo_read 144 = .ok (.iadd, 1) := by decide +kernel
theorem d_Mo_read_145 : decode b_Mo_read 145 = .ok (.putfield 96, 3) := by decide +kernel
theorem d_Mo_read_148 : decode b_Mo_read 148 = .ok (.aload_n 0, 1) := by decide +kernel
theorem d_Mo_read_149 : decode b_Mo_read 149 = .ok (.getfield 96, 3) := by decide +kernel
theorem d_Mo_read_152 : decode b_Mo_read 152 = .ok (.iconst 1, 1) := by decide +kernel
theorem d_Mo_read_153 : decode b_Mo_read 153 = .ok (.isub, 1) := by decide +kernel
theorem d_Mo_read_154 : decode b_Mo_read 154 = .ok (.ireturn, 1) := by decide +kernel
theorem d_Mo_fill_0 : decode b_Mo_fill 0 = .ok (.aload_n 0, 1) := by decide +kernel
theorem d_Mo_fill_1 : decode b_Mo_fill 1 = .ok (.iconst 0, 1) := by decide +kernel
theorem d_Mo_fill_2 : decode b_Mo_fill 2 = .ok (.putfield 262, 3) := by decide +kernel
theorem d_Mo_fill_5 : decode b_Mo_fill 5 = .ok (.aload_n 0, 1) := by decide +kernel
theorem d_Mo_fill_6 : decode b_Mo_fill 6 = .ok (.iconst 1, 1) := by decide +kernel
theorem d_Mo_fill_7 : decode b_Mo_fill 7 = .ok (.putfield 265, 3) := by decide +kernel
theorem d_Mo_fill_10 : decode b_Mo_fill 10 = .ok (.aload_n 0, 1) := by decide +kernel
theorem d_Mo_fill_11 : decode b_Mo_fill 11 = .ok (.iload_n 1, 1) := by decide +kernel
theorem d_Mo_fill_12 : decode b_Mo_fill 12 = .ok (.invokevirtual 107, 3) := by decide +kernel
theorem d_Mo_fill_15 : decode b_Mo_fill 15 = .ok (.aload_n 0, 1) := by decide +kernel
theorem d_Mo_fill_16 : decode b_Mo_fill 16 = .ok (.aload_n 0, 1) := by decide +kernel
theorem d_Mo_fill_17 : decode b_Mo_fill 17 = .ok (.iconst 1, 1) := by decide +kernel
theorem d_Mo_fill_18 : decode b_Mo_fill 18 = .ok (.iload_n 2, 1) := by decide +kernel
theorem d_Mo_fill_19 : decode b_Mo_fill 19 = .ok (.invokevirtual 268, 3) := by decide +kernel
theorem d_Mo_fill_22 : decode b_Mo_fill 22 = .ok (.bipush 79, 2) := by decide +kernel
theorem d_Mo_fill_24 : decode b_Mo_fill 24 = .ok (.if_icmp .ne 7, 3) := by decide +kernel
theorem d_Mo_fill_27 : decode b_Mo_fill 27 = .ok (.iconst 1, 1) := by decide +kernel
theorem d_Mo_fill_28 : decode b_Mo_fill 28 = .ok (.goto 4, 3) := by decide +kernel
theorem d_Mo_fill_31 : decode b_Mo_fill 31 = .ok (.iconst 0, 1) := by decide +kernel
theorem d_Mo_fill_32 : decode b_Mo_fill 32 = .ok (.invokevirtual 271, 3) := by decide +kernel
theorem d_Mo_fill_35 : decode b_Mo_fill 35 = .ok (.aload_n 0, 1) := by decide +kernel
theorem d_Mo_fill_36 : decode b_Mo_fill 36 = .ok (.aload_n 0, 1) := by decide +kernel
theorem d_Mo_fill_37 : decode b_Mo_fill 37 = .ok (.iconst 1, 1) := by decide +kernel
theorem d_Mo_fill_38 : decode b_Mo_fill 38 = .ok (.iload_n 2, 1) := by decide +kernel
theorem d_Mo_fill_39 : decode b_Mo_fill 39 = .ok (.invokevirtual 268, 3) := by decide +kernel
theorem d_Mo_fill_42 : decode b_Mo_fill 42 = .ok (.bipush 66, 2) := by decide +kernel
theorem d_Mo_fill_44 : decode b_Mo_fill 44 = .ok (.if_icmp .ne 7, 3) := by decide +kernel
theorem d_Mo_fill_47 : decode b_Mo_fill 47 = .ok (.iconst 1, 1) := by decide +kernel
theorem d_Mo_fill_48 : decode b_Mo_fill 48 = .ok (.goto 4, 3) := by decide +kernel
theorem d_Mo_fill_51 : decode b_Mo_fill 51 = .ok (.iconst 0, 1) := by decide +kernel
theorem d_Mo_fill_52 : decode b_Mo_fill 52 = .ok (.invokevirtual 271, 3) := by decide +kernel
theorem d_Mo_fill_55 : decode b_Mo_fill 55 = .ok (.aload_n 0, 1) := by decide +kernel
theorem d_Mo_fill_56 : decode b_Mo_fill 56 = .ok (.iconst 1, 1) := by decide +kernel
theorem d_Mo_fill_57 : decode b_Mo_fill 57 = .ok (.iload_n 2, 1) := by decide +kernel
theorem d_Mo_fill_58 : decode b_Mo_fill 58 = .ok (.invokevirtual 268, 3) := by decide +kernel
theorem d_Mo_fill_61 : decode b_Mo_fill 61 = .ok (.istore_n 3, 1) := by decide +kernel
theorem d_Mo_fill_62 : decode b_Mo_fill 62 = .ok (.aload_n 0, 1) := by decide +kernel
theorem d_Mo_fill_63 : decode b_Mo_fill 63 = .ok (.iconst 1, 1) := by decide +kernel
theorem d_Mo_fill_64 : decode b_Mo_fill 64 = .ok (.iload_n 2, 1) := by decide +kernel
theorem d_Mo_fill_65 : decode b_Mo_fill 65 = .ok (.invokevirtual 268, 3) := by decide +kernel
theorem d_Mo_fill_68 : decode b_Mo_fill 68 = .ok (.istore 4, 2) := by decide +kernel
theorem d_Mo_fill_70 : decode b_Mo_fill 70 = .ok (.aload_n 0, 1) := by decide +kernel
theorem d_Mo_fill_71 : decode b_Mo_fill 71 = .ok (.iconst 1, 1) := by decide +kernel
theorem d_Mo_fill_72 : decode b_Mo_fill 72 = .ok (.iload_n 2, 1) := by decide +kernel
theorem d_Mo_fill_73 : decode b_Mo_fill 73 = .ok (.invokevirtual 268, 3) := by decide +kernel
theorem d_Mo_fill_76 : decode b_Mo_fill 76 = .ok (.istore 5, 2) := by decide +kernel
theorem d_Mo_fill_78 : decode b_Mo_fill 78 = .ok (.aload_n 0, 1) := by decide +kernel
theorem d_Mo_fill_79 : decode b_Mo_fill 79 = .ok (.iload_n 3, 1) := by decide +kernel
theorem d_Mo_fill_80 : decode b_Mo_fill 80 = .ok (.bipush 8, 2) := by decide +kernel
theorem d_Mo_fill_82 : decode b_Mo_fill 82 = .ok (.if_icmp .gt 21, 3) := by decide +kernel
theorem d_Mo_fill_85 : decode b_Mo_fill 85 = .ok (.iload 4, 2) := by decide +kernel
theorem d_Mo_fill_87 : decode b_Mo_fill 87 = .ok (.bipush 12, 2) := by decide +kernel
theorem d_Mo_fill_89 : decode b_Mo_fill 89 = .ok (.if_icmp .gt 14, 3) := by decide +kernel
theorem d_Mo_fill_92 : decode b_Mo_fill 92 = .ok (.iload 5, 2) := by decide +kernel
theorem d_Mo_fill_94 : decode b_Mo_fill 94 = .ok (.bipush 16, 2) := by decide +kernel
theorem d_Mo_fill_96 : decode b_Mo_fill 96 = .ok (.if_icmp .gt 7, 3) := by decide +kernel
theorem d_Mo_fill_99 : decode b_Mo_fill 99 = .ok (.iconst 1, 1) := by decide +kernel
theorem d_Mo_fill_100 : decode b_Mo_fill 100 = .ok (.goto 4, 3) := by decide +kernel
theorem d_Mo_fill_103 : decode b_Mo_fill 103 = .ok (.iconst 0, 1) := by decide +kernel
theorem d_Mo_fill_104 : decode b_Mo_fill 104 = .ok (.invokevirtual 271, 3) := by decide +kernel
theorem d_Mo_fill_107 : decode b_Mo_fill 107 = .ok (.iconst 0, 1) := by decide +kernel
theorem d_Mo_fill_108 : decode b_Mo_fill 108 = .ok (.istore 6, 2) := by decide +kernel
theorem d_Mo_fill_110 : decode b_Mo_fill 110 = .ok (.iload 6, 2) := by decide +kernel
theorem d_Mo_fill_112 : decode b_Mo_fill 112 = .ok (.iload_n 3, 1) := by decide +kernel
theorem d_Mo_fill_113 : decode b_Mo_fill 113 = .ok (.if_icmp .ge 125, 3) := by decide +kernel
theorem d_Mo_fill_116 : decode b_Mo_fill 116 = .ok (.aload_n 0, 1) := by decide +kernel
theorem d_Mo_fill_117 : decode b_Mo_fill 117 = .ok (.getfield 265, 3) := by decide +kernel
theorem d_Mo_fill_120 : decode b_Mo_fill 120 = .ok (.ifCond .eq 118, 3) := by decide +kernel
theorem d_Mo_fill_123 : decode b_Mo_fill 123 = .ok (.aload_n 0, 1) := by decide +kernel
theorem d_Mo_fill_124 : decode b_Mo_fill 124 = .ok (.iconst 1, 1) := by decide +kernel
theorem d_Mo_fill_125 : decode b_Mo_fill 125 = .ok (.iload_n 2, 1) := by decide +kernel
theorem d_Mo_fill_126 : decode b_Mo_fill 126 = .ok (.invokevirtual 268, 3) := by decide +kernel
theorem d_Mo_fill_129 : decode b_Mo_fill 129 = .ok (.istore 7, 2) := by decide +kernel
theorem d_Mo_fill_131 : decode b_Mo_fill 131 = .ok (.aload_n 0, 1) := by decide +kernel
theorem d_Mo_fill_132 : decode b_Mo_fill 132 = .ok (.iconst 1, 1) := by decide +kernel
theorem d_Mo_fill_133 : decode b_Mo_fill 133 = .ok (.iload_n 2, 1) := by decide +kernel
theorem d_Mo_fill_134 : decode b_Mo_fill 134 = .ok (.invokevirtual 268, 3) := by decide +kernel
theorem d_Mo_fill_137 : decode b_Mo_fill 137 = .ok (.istore 8, 2) := by decide +kernel
theorem d_Mo_fill_139 : decode b_Mo_fill 139 = .ok (.aload_n 0, 1) := by decide +kernel
theorem d_Mo_fill_140 : decode b_Mo_fill 140 = .ok (.iconst 2, 1) := by decide +kernel
theorem d_Mo_fill_141 : decode b_Mo_fill 141 = .ok (.iload_n 2, 1) := by decide +kernel
theorem d_Mo_fill_142 : decode b_Mo_fill 142 = .ok (.invokevirtual 268, 3) := by decide +kernel
theorem d_Mo_fill_145 : decode b_Mo_fill 145 = .ok (.istore 9, 2) := by decide +kernel
theorem d_Mo_fill_147 : decode b_Mo_fill 147 = .ok (.aload_n 0, 1) := by decide +kernel
theorem d_Mo_fill_148 : decode b_Mo_fill 148 = .ok (.iload 7, 2) := by decide +kernel
theorem d_Mo_fill_150 : decode b_Mo_fill 150 = .ok (.iload 8, 2) := by decide +kernel
theorem d_Mo_fill_152 : decode b_Mo_fill 152 = .ok (.iload 9, 2) := by decide +kernel
theorem d_Mo_fill_154 : decode b_Mo_fill 154 = .ok (.invokestatic 115, 3) := by decide +kernel
theorem d_Mo_fill_157 : decode b_Mo_fill 157 = .ok (.invokevirtual 271, 3) := by decide +kernel
theorem d_Mo_fill_160 : decode b_Mo_fill 160 = .ok (.aload_n 0, 1) := by decide +kernel
theorem d_Mo_fill_161 : decode b_Mo_fill 161 = .ok (.getfield 265, 3) := by decide +kernel
theorem d_Mo_fill_164 : decode b_Mo_fill 164 = .ok (.ifCond .eq 14, 3) := by decide +kernel
theorem d_Mo_fill_167 : decode b_Mo_fill 167 = .ok (.aload_n 0, 1) := by decide +kernel
theorem d_Mo_fill_168 : decode b_Mo_fill 168 = .ok (.iload_n 1, 1) := by decide +kernel
theorem d_Mo_fill_169 : decode b_Mo_fill 169 = .ok (.iload 7, 2) := by decide +kernel
theorem d_Mo_fill_171 : decode b_Mo_fill 171 = .ok (.iload 8, 2) := by decide +kernel
theorem d_Mo_fill_173 : decode b_Mo_fill 173 = .ok (.iload 9, 2) := by decide +kernel
theorem d_Mo_fill_175 : decode b_Mo_fill 175 = .ok (.invokevirtual 118, 3) := by decide +kernel
theorem d_Mo_fill_178 : decode b_Mo_fill 178 = .ok (.iconst 0, 1) := by decide +kernel
theorem d_Mo_fill_179 : decode b_Mo_fill 179 = .ok (.istore 10, 2) := by decide +kernel
theorem d_Mo_fill_181 : decode b_Mo_fill 181 = .ok (.iload 10, 2) := by decide +kernel
theorem d_Mo_fill_183 : decode b_Mo_fill 183 = .ok (.iload 9, 2) := by decide +kernel
theorem d_Mo_fill_185 : decode b_Mo_fill 185 = .ok (.if_icmp .ge 47, 3) := by decide +kernel
theorem d_Mo_fill_188 : decode b_Mo_fill 188 = .ok (.aload_n 0, 1) := by decide +kernel
theorem d_Mo_fill_189 : decode b_Mo_fill 189 = .ok (.getfield 265, 3) := by decide +kernel
theorem d_Mo_fill_192 : decode b_Mo_fill 192 = .ok (.ifCond .eq 40, 3) := by decide +kernel
theorem d_Mo_fill_195 : decode b_Mo_fill 195 = .ok (.iload 7, 2) := by decide +kernel
theorem d_Mo_fill_197 : decode b_Mo_fill 197 = .ok (.iconst 3, 1) := by decide +kernel
theorem d_Mo_fill_198 : decode b_Mo_fill 198 = .ok (.if_icmp .eq 34, 3) := by decide +kernel
theorem d_Mo_fill_201 : decode b_Mo_fill 201 = .ok (.aload_n 0, 1) := by decide +kernel
theorem d_Mo_fill_202 : decode b_Mo_fill 202 = .ok (.getfield 22, 3) := by decide +kernel
theorem d_Mo_fill_205 : decode b_Mo_fill 205 = .ok (.sipush 128, 3) := by decide +kernel
theorem d_Mo_fill_208 : decode b_Mo_fill 208 = .ok (.bipush 8, 2) := by decide +kernel
theorem d_Mo_fill_210 : decode b_Mo_fill 210 = .ok (.iload_n 1, 1) := by decide +kernel
theorem d_Mo_fill_211 : decode b_Mo_fill 211 = .ok (.imul, 1) := by decide +kernel
theorem d_Mo_fill_212 : decode b_Mo_fill 212 = .ok (.iload 6, 2) := by decide +kernel
theorem d_Mo_fill_214 : decode b_Mo_fill 214 = .ok (.iadd, 1) := by decide +kernel
theorem d_Mo_fill_215 : decode b_Mo_fill 215 = .ok (.imul, 1) := by decide +kernel
theorem d_Mo_fill_216 : decode b_Mo_fill 216 = .ok (.iload 10, 2) := by decide +kernel
theorem d_Mo_fill_218 : decode b_Mo_fill 218 = .ok (.iadd, 1) := by decide +kernel
theorem d_Mo_fill_219 : decode b_Mo_fill 219 = .ok (.aload_n 0, 1) := by decide +kernel
theorem d_Mo_fill_220 : decode b_Mo_fill 220 = .ok (.iconst 1, 1) := by decide +kernel
theorem d_Mo_fill_221 : decode b_Mo_fill 221 = .ok (.iload_n 2, 1) := by decide +kernel
theorem d_Mo_fill_222 : decode b_Mo_fill 222 = .ok (.invokevirtual 268, 3) := by decide +kernel
theorem d_Mo_fill_225 : decode b_Mo_fill 225 = .ok (.iastore, 1) := by decide +kernel
theorem d_Mo_fill_226 : decode b_Mo_fill 226 = .ok (.iinc 10 1, 3) := by decide +kernel
theorem d_Mo_fill_229 : decode b_Mo_fill 229 = .ok (.goto (-48), 3) := by decide +kernel
theorem d_Mo_fill_232 : decode b_Mo_fill 232 = .ok (.iinc 6 1, 3) := by decide +kernel
theorem d_Mo_fill_235 : decode b_Mo_fill 235 = .ok (.goto (-125), 3) := by decide +kernel
theorem d_Mo_fill_238 : decode b_Mo_fill 238 = .ok (.iconst 0, 1) := by decide +kernel
theorem d_Mo_fill_239 : decode b_Mo_fill 239 = .ok (.istore 6, 2) := by decide +kernel
theorem d_Mo_fill_241 : decode b_Mo_fill 241 = .ok (.iload 6, 2) := by decide +kernel
theorem d_Mo_fill_243 : decode b_Mo_fill 243 = .ok (.iload 4, 2) := by decide +kernel
theorem d_Mo_fill_245 : decode b_Mo_fill 245 = .ok (.if_icmp .ge 85, 3) := by decide +kernel
theorem d_Mo_fill_248 : decode b_Mo_fill 248 = .ok (.aload_n 0, 1) := by decide +kernel
theorem d_Mo_fill_249 : decode b_Mo_fill 249 = .ok (.getfield 265, 3) := by decide +kernel
theorem d_Mo_fill_252 : decode b_Mo_fill 252 = .ok (.ifCond .eq 78, 3) := by decide +kernel
theorem d_Mo_fill_255 : decode b_Mo_fill 255 = .ok (.aload_n 0, 1) := by decide +kernel
theorem d_Mo_fill_256 : decode b_Mo_fill 256 = .ok (.iconst 4, 1) := by decide +kernel
theorem d_Mo_fill_257 : decode b_Mo_fill 257 = .ok (.iload_n 2, 1) := by decide +kernel
theorem d_Mo_fill_258 : decode b_Mo_fill 258 = .ok (.invokevirtual 268, 3) := by decide +kernel
theorem d_Mo_fill_261 : decode b_Mo_fill 261 = .ok (.istore 7, 2) := by decide +kernel
theorem d_Mo_fill_263 : decode b_Mo_fill 263 = .ok (.aload_n 0, 1) := by decide +kernel
theorem d_Mo_fill_264 : decode b_Mo_fill 264 = .ok (.iconst 1, 1) := by decide +kernel
theorem d_Mo_fill_265 : decode b_Mo_fill 265 = .ok (.iload_n 2, 1) := by decide +kernel
theorem d_Mo_fill_266 : decode b_Mo_fill 266 = .ok (.invokevirtual 268, 3) := by decide +kernel
theorem d_Mo_fill_269 : decode b_Mo_fill 269 = .ok (.istore 8, 2) := by decide +kernel
theorem d_Mo_fill_271 : decode b_Mo_fill 271 = .ok (.aload_n 0, 1) := by decide +kernel
theorem d_Mo_fill_272 : decode b_Mo_fill 272 = .ok (.iconst 1, 1) := by decide +kernel
theorem d_Mo_fill_273 : decode b_Mo_fill 273 = .ok (.iload_n 2, 1) := by decide +kernel
theorem d_Mo_fill_274 : decode b_Mo_fill 274 = .ok (.invokevirtual 268, 3) := by decide +kernel
theorem d_Mo_fill_277 : decode b_Mo_fill 277 = .ok (.istore 9, 2) := by decide +kernel
theorem d_Mo_fill_279 : decode b_Mo_fill 279 = .ok (.aload_n 0, 1) := by decide +kernel
theorem d_Mo_fill_280 : decode b_Mo_fill 280 = .ok (.iconst 2, 1) := by decide +kernel
theorem d_Mo_fill_281 : decode b_Mo_fill 281 = .ok (.iload_n 2, 1) := by decide +kernel
theorem d_Mo_fill_282 : decode b_Mo_fill 282 = .ok (.invokevirtual 268, 3) := by decide +kernel
theorem d_Mo_fill_285 : decode b_Mo_fill 285 = .ok (.istore 10, 2) := by decide +kernel
theorem d_Mo_fill_287 : decode b_Mo_fill 287 = .ok (.aload_n 0, 1) := by decide +kernel
theorem d_Mo_fill_288 : decode b_Mo_fill 288 = .ok (.aload_n 0, 1) := by decide +kernel
theorem d_Mo_fill_289 : decode b_Mo_fill 289 = .ok (.iload_n 1, 1) := by decide +kernel
theorem d_Mo_fill_290 : decode b_Mo_fill 290 = .ok (.iload 7, 2) := by decide +kernel
theorem d_Mo_fill_292 : decode b_Mo_fill 292 = .ok (.iload 8, 2) := by decide +kernel
theorem d_Mo_fill_294 : decode b_Mo_fill 294 = .ok (.iload 9, 2) := by decide +kernel
theorem d_Mo_fill_296 : decode b_Mo_fill 296 = .ok (.iload 10, 2) := by decide +kernel
theorem d_Mo_fill_298 : decode b_Mo_fill 298 = .ok (.invokevirtual 129, 3) := by decide +kernel
theorem d_Mo_fill_301 : decode b_Mo_fill 301 = .ok (.invokevirtual 271, 3) := by decide +kernel
theorem d_Mo_fill_304 : decode b_Mo_fill 304 = .ok (.aload_n 0, 1) := by decide +kernel
theorem d_Mo_fill_305 : decode b_Mo_fill 305 = .ok (.getfield 265, 3) := by decide +kernel
theorem d_Mo_fill_308 : decode b_Mo_fill 308 = .ok (.ifCond .eq 16, 3) := by decide +kernel
theorem d_Mo_fill_311 : decode b_Mo_fill 311 = .ok (.aload_n 0, 1) := by decide +kernel
theorem d_Mo_fill_312 : decode b_Mo_fill 312 = .ok (.iload_n 1, 1) := by decide +kernel
theorem d_Mo_fill_313 : decode b_Mo_fill 313 = .ok (.iload 7, 2) := by decide +kernel
theorem d_Mo_fill_315 : decode b_Mo_fill 315 = .ok (.iload 8, 2) := by decide +kernel
theorem d_Mo_fill_317 : decode b_Mo_fill 317 = .ok (.iload 9, 2) := by decide +kernel
theorem d_Mo_fill_319 : decode b_Mo_fill 319 = .ok (.iload 10, 2) := by decide +kernel
theorem d_Mo_fill_321 : decode b_Mo_fill 321 = .ok (.invokevirtual 133, 3) := by decide +kernel
theorem d_Mo_fill_324 : decode b_Mo_fill 324 = .ok (.iinc 6 1, 3) := by decide +kernel
theorem d_Mo_fill_327 : decode b_Mo_fill 327 = .ok (.goto (-86), 3) := by decide +kernel
theorem d_Mo_fill_330 : decode b_Mo_fill 330 = .ok (.iconst 0, 1) := by decide +kernel
theorem d_Mo_fill_331 : decode b_Mo_fill 331 = .ok (.istore 6, 2) := by decide +kernel
theorem d_Mo_fill_333 : decode b_Mo_fill 333 = .ok (.iload 6, 2) := by decide +kernel
theorem d_Mo_fill_335 : decode b_Mo_fill 335 = .ok (.iload 5, 2) := by decide +kernel
theorem d_Mo_fill_337 : decode b_Mo_fill 337 = .ok (.if_icmp .ge 95, 3) := by decide +kernel
theorem d_Mo_fill_340 : decode b_Mo_fill 340 = .ok (.aload_n 0, 1) := by decide +kernel
theorem d_Mo_fill_341 : decode b_Mo_fill 341 = .ok (.getfield 265, 3) := by decide +kernel
theorem d_Mo_fill_344 : decode b_Mo_fill 344 = .ok (.ifCond .eq 88, 3) := by decide +kernel
theorem d_Mo_fill_347 : decode b_Mo_fill 347 = .ok (.aload_n 0, 1) := by decide +kernel
theorem d_Mo_fill_348 : decode b_Mo_fill 348 = .ok (.iconst 1, 1) := by decide +kernel
theorem d_Mo_fill_349 : decode b_Mo_fill 349 = .ok (.iload_n 2, 1) := by decide +kernel
theorem d_Mo_fill_350 : decode b_Mo_fill 350 = .ok (.invokevirtual 268, 3) := by decide +kernel
theorem d_Mo_fill_353 : decode b_Mo_fill 353 = .ok (.istore 7, 2) := by decide +kernel
theorem d_Mo_fill_355 : decode b_Mo_fill 355 = .ok (.aload_n 0, 1) := by decide +kernel
theorem d_Mo_fill_356 : decode b_Mo_fill 356 = .ok (.iconst 2, 1) := by decide +kernel
theorem d_Mo_fill_357 : decode b_Mo_fill 357 = .ok (.iload_n 2, 1) := by decide +kernel
theorem d_Mo_fill_358 : decode b_Mo_fill 358 = .ok (.invokevirtual 268, 3) := by decide +kernel
theorem d_Mo_fill_361 : decode b_Mo_fill 361 = .ok (.istore 8, 2) := by decide +kernel
theorem d_Mo_fill_363 : decode b_Mo_fill 363 = .ok (.aload_n 0, 1) := by decide +kernel
theorem d_Mo_fill_364 : decode b_Mo_fill 364 = .ok (.iconst 1, 1) := by decide +kernel
theorem d_Mo_fill_365 : decode b_Mo_fill 365 = .ok (.iload_n 2, 1) := by decide +kernel
theorem d_Mo_fill_366 : decode b_Mo_fill 366 = .ok (.invokevirtual 268, 3) := by decide +kernel
theorem d_Mo_fill_369 : decode b_Mo_fill 369 = .ok (.istore 9, 2) := by decide +kernel
theorem d_Mo_fill_371 : decode b_Mo_fill 371 = .ok (.aload_n 0, 1) := by decide +kernel
theorem d_Mo_fill_372 : decode b_Mo_fill 372 = .ok (.iconst 1, 1) := by decide +kernel
theorem d_Mo_fill_373 : decode b_Mo_fill 373 = .ok (.iload_n 2, 1) := by decide +kernel
theorem d_Mo_fill_374 : decode b_Mo_fill 374 = .ok (.invokevirtual 268, 3) := by decide +kernel
theorem d_Mo_fill_377 : decode b_Mo_fill 377 = .ok (.istore 10, 2) := by decide +kernel
theorem d_Mo_fill_379 : decode b_Mo_fill 379 = .ok (.aload_n 0, 1) := by decide +kernel
theorem d_Mo_fill_380 : decode b_Mo_fill 380 = .ok (.iconst 4, 1) := by decide +kernel
theorem d_Mo_fill_381 : decode b_Mo_fill 381 = .ok (.iload_n 2, 1) := by decide +kernel
theorem d_Mo_fill_382 : decode b_Mo_fill 382 = .ok (.invokevirtual 268, 3) := by decide +kernel
theorem d_Mo_fill_385 : decode b_Mo_fill 385 = .ok (.istore 11, 2) := by decide +kernel
theorem d_Mo_fill_387 : decode b_Mo_fill 387 = .ok (.aload_n 0, 1) := by decide +kernel
theorem d_Mo_fill_388 : decode b_Mo_fill 388 = .ok (.aload_n 0, 1) := by decide +kernel
theorem d_Mo_fill_389 : decode b_Mo_fill 389 = .ok (.iload_n 1, 1) := by decide +kernel
theorem d_Mo_fill_390 : decode b_Mo_fill 390 = .ok (.iload 7, 2) := by decide +kernel
theorem d_Mo_fill_392 : decode b_Mo_fill 392 = .ok (.iload 8, 2) := by decide +kernel
theorem d_Mo_fill_394 : decode b_Mo_fill 394 = .ok (.iload 9, 2) := by decide +kernel
theorem d_Mo_fill_396 : decode b_Mo_fill 396 = .ok (.iload 10, 2) := by decide +kernel
theorem d_Mo_fill_398 : decode b_Mo_fill 398 = .ok (.invokevirtual 137, 3) := by decide +kernel
theorem d_Mo_fill_401 : decode b_Mo_fill 401 = .ok (.invokevirtual 271, 3) := by decide +kernel
theorem d_Mo_fill_404 : decode b_Mo_fill 404 = .ok (.aload_n 0, 1) := by decide +kernel
theorem d_Mo_fill_405 : decode b_Mo_fill 405 = .ok (.getfield 265, 3) := by decide +kernel
theorem d_Mo_fill_408 : decode b_Mo_fill 408 = .ok (.ifCond .eq 18, 3) := by decide +kernel
theorem d_Mo_fill_411 : decode b_Mo_fill 411 = .ok (.aload_n 0, 1) := by decide +kernel
theorem d_Mo_fill_412 : decode b_Mo_fill 412 = .ok (.iload_n 1, 1) := by decide +kernel
theorem d_Mo_fill_413 : decode b_Mo_fill 413 = .ok (.iload 7, 2) := by decide +kernel
theorem d_Mo_fill_415 : decode b_Mo_fill 415 = .ok (.iload 8, 2) := by decide +kernel
theorem d_Mo_fill_417 : decode b_Mo_fill 417 = .ok (.iload 9, 2) := by decide +kernel
theorem d_Mo_fill_419 : decode b_Mo_fill 419 = .ok (.iload 10, 2) := by decide +kernel
theorem d_Mo_fill_421 : decode b_Mo_fill 421 = .ok (.iload 11, 2) := by decide +kernel
theorem d_Mo_fill_423 : decode b_Mo_fill 423 = .ok (.invokevirtual 140, 3) := by decide +kernel
theorem d_Mo_fill_426 : decode b_Mo_fill 426 = .ok (.iinc 6 1, 3) := by decide +kernel
theorem d_Mo_fill_429 : decode b_Mo_fill 429 = .ok (.goto (-96), 3) := by decide +kernel
theorem d_Mo_fill_432 : decode b_Mo_fill 432 = .ok (.aload_n 0, 1) := by decide +kernel
theorem d_Mo_fill_433 : decode b_Mo_fill 433 = .ok (.aload_n 0, 1) := by decide +kernel
theorem d_Mo_fill_434 : decode b_Mo_fill 434 = .ok (.getfield 262, 3) := by decide +kernel
theorem d_Mo_fill_437 : decode b_Mo_fill 437 = .ok (.iload_n 2, 1) := by decide +kernel
theorem d_Mo_fill_438 : decode b_Mo_fill 438 = .ok (.if_icmp .ne 7, 3) := by decide +kernel
theorem d_Mo_fill_441 : decode b_Mo_fill 441 = .ok (.iconst 1, 1) := by decide +kernel
theorem d_Mo_fill_442 : decode b_Mo_fill 442 = .ok (.goto 4, 3) := by decide +kernel
theorem d_Mo_fill_445 : decode b_Mo_fill 445 = .ok (.iconst 0, 1) := by decide +kernel
theorem d_Mo_fill_446 : decode b_Mo_fill 446 = .ok (.invokevirtual 271, 3) := by decide +kernel
theorem d_Mo_fill_449 : decode b_Mo_fill 449 = .ok (.return_, 1) := by decide +kernel
theorem d_Mo_take_0 : decode b_Mo_take 0 = .ok (.iconst 0, 1) := by decide +kernel
theorem d_Mo_take_1 : decode b_Mo_take 1 = .ok (.istore_n 3, 1) := by decide +kernel
theorem d_Mo_take_2 : decode b_Mo_take 2 = .ok (.iconst 0, 1) := by decide +kernel
theorem d_Mo_take_3 : decode b_Mo_take 3 = .ok (.istore 4, 2) := by decide +kernel
theorem d_Mo_take_5 : decode b_Mo_take 5 = .ok (.iload 4, 2) := by decide +kernel
theorem d_Mo_take_7 : decode b_Mo_take 7 = .ok (.iload_n 1, 1) := by decide +kernel
theorem d_Mo_take_8 : decode b_Mo_take 8 = .ok (.if_icmp .ge 49, 3) := by decide +kernel
theorem d_Mo_take_11 : decode b_Mo_take 11 = .ok (.aload_n 0, 1) := by decide +kernel
theorem d_Mo_take_12 : decode b_Mo_take 12 = .ok (.getfield 262, 3) := by decide +kernel
theorem d_Mo_take_15 : decode b_Mo_take 15 = .ok (.iload_n 2, 1) := by decide +kernel
theorem d_Mo_take_16 : decode b_Mo_take 16 = .ok (.if_icmp .lt 10, 3) := by decide +kernel
theorem d_Mo_take_19 : decode b_Mo_take 19 = .ok (.aload_n 0, 1) := by decide +kernel
theorem d_Mo_take_20 : decode b_Mo_take 20 = .ok (.iconst 0, 1) := by decide +kernel
theorem d_Mo_take_21 : decode b_Mo_take 21 = .ok (.putfield 265, 3) := by decide +kernel
theorem d_Mo_take_24 : decode b_Mo_take 24 = .ok (.iconst 0, 1) := by decide +kernel
theorem d_Mo_take_25 : decode b_Mo_take 25 = .ok (.ireturn, 1) := by decide +kernel
theorem d_Mo_take_26 : decode b_Mo_take 26 = .ok (.iload_n 3, 1) := by decide +kernel
theorem d_Mo_take_27 : decode b_Mo_take 27 = .ok (.bipush 8, 2) := by decide +kernel
theorem d_Mo_take_29 : decode b_Mo_take 29 = .ok (.ishl, 1) := by decide +kernel
theorem d_Mo_take_30 : decode b_Mo_take 30 = .ok (.aload_n 0, 1) := by decide +kernel
theorem d_Mo_take_31 : decode b_Mo_take 31 = .ok (.getfield 90, 3) := by decide +kernel
theorem d_Mo_take_34 : decode b_Mo_take 34 = .ok (.aload_n 0, 1) := by decide +kernel
theorem d_Mo_take_35 : decode b_Mo_take 35 = .ok (.getfield 262, 3) := by decide +kernel
theorem d_Mo_take_38 : decode b_Mo_take 38 = .ok (.iaload, 1) := by decide +kernel
theorem d_Mo_take_39 : decode b_Mo_take 39 = .ok (.ior, 1) := by decide +kernel
theorem d_Mo_take_40 : decode b_Mo_take 40 = .ok (.istore_n 3, 1) := by decide +kernel
theorem d_Mo_take_41 : decode b_Mo_take 41 = .ok (.aload_n 0, 1) := by decide +kernel
theorem d_Mo_take_42 : decode b_Mo_take 42 = .ok (.dup, 1) := by decide +kernel
theorem d_Mo_take_43 : decode b_Mo_take 43 = .ok (.getfield 262, 3) := by decide +kernel
theorem d_Mo_take_46 : decode b_Mo_take 46 = .ok (.iconst 1, 1) := by decide +kernel
theorem d_Mo_take_47 : decode b_Mo_take 47 = .ok (.iadd, 1) := by decide +kernel
theorem d_Mo_take_48 : decode b_Mo_take 48 = .ok (.putfield 262, 3) := by decide +kernel
theorem d_Mo_take_51 : decode b_Mo_take 51 = .ok (.iinc 4 1, 3) := by decide +kernel
theorem d_Mo_take_54 : decode b_Mo_take 54 = .ok (.goto (-49), 3) := by decide +kernel
theorem d_Mo_take_57 : decode b_Mo_take 57 = .ok (.iload_n 3, 1) := by decide +kernel
theorem d_Mo_take_58 : decode b_Mo_take 58 = .ok (.ireturn, 1) := by decide +kernel
theorem d_Mo_need_0 : decode b_Mo_need 0 = .ok (.aload_n 0, 1) := by decide +kernel
theorem d_Mo_need_1 : decode b_Mo_need 1 = .ok (.aload_n 0, 1) := by decide +kernel
theorem d_Mo_need_2 : decode b_Mo_need 2 = .ok (.getfield 265, 3) := by decide +kernel
theorem d_Mo_need_5 : decode b_Mo_need 5 = .ok (.ifCond .eq 11, 3) := by decide +kernel
theorem d_Mo_need_8 : decode b_Mo_need 8 = .ok (.iload_n 1, 1) := by decide +kernel
theorem d_Mo_need_9 : decode b_Mo_need 9 = .ok (.ifCond .eq 7, 3) := by decide +kernel
theorem d_Mo_need_12 : decode b_Mo_need 12 = .ok (.iconst 1, 1) := by decide +kernel
theorem d_Mo_need_13 : decode b_Mo_need 13 = .ok (.goto 4, 3) := by decide +kernel
theorem d_Mo_need_16 : decode b_Mo_need 16 = .ok (.iconst 0, 1) := by decide +kernel
theorem d_Mo_need_17 : decode b_Mo_need 17 = .ok (.putfield 265, 3) := by decide +kernel
theorem d_Mo_need_20 : decode b_Mo_need 20 = .ok (.return_, 1) := by decide +kernel
theorem d_Mo_count_0 : decode b_Mo_count 0 = .ok (.aload_n 0, 1) := by decide +kernel
theorem d_Mo_count_1 : decode b_Mo_count 1 = .ok (.iconst 0, 1) := by decide +kernel
theorem d_Mo_count_2 : decode b_Mo_count 2 = .ok (.putfield 93, 3) := by decide +kernel
theorem d_Mo_count_5 : decode b_Mo_count 5 = .ok (.iload_n 1, 1) := by decide +kernel
theorem d_Mo_count_6 : decode b_Mo_count 6 = .ok (.tableswitch 158 0 9 #[54, 59, 64, 69, 74, 79, 84, 89, 112, 135], 54) := by decide +kernel
theorem d_Mo_count_60 : decode b_Mo_count 60 = .ok (.aload_n 0, 1) := by decide +kernel
theorem d_Mo_count_61 : decode b_Mo_count 61 = .ok (.getfield 96, 3) := by decide +kernel
theorem d_Mo_count_64 : decode b_Mo_count 64 = .ok (.ireturn, 1) := by decide +kernel
theorem d_Mo_count_65 : decode b_Mo_count 65 = .ok (.aload_n 0, 1) := by decide +kernel
theorem d_Mo_count_66 : decode b_Mo_count 66 = .ok (.getfield 144, 3) := by decide +kernel
theorem d_Mo_count_69 : decode b_Mo_count 69 = .ok (.ireturn, 1) := by decide +kernel
theorem d_Mo_count_70 : decode b_Mo_count 70 = .ok (.aload_n 0, 1) := by decide +kernel
theorem d_Mo_count_71 : decode b_Mo_count 71 = .ok (.getfield 192, 3) := by decide +kernel
theorem d_Mo_count_74 : decode b_Mo_count 74 = .ok (.ireturn, 1) := by decide +kernel
theorem d_Mo_count_75 : decode b_Mo_count 75 = .ok (.aload_n 0, 1) := by decide +kernel
theorem d_Mo_count_76 : decode b_Mo_count 76 = .ok (.getfield 179, 3) := by decide +kernel
theorem d_Mo_count_79 : decode b_Mo_count 79 = .ok (.ireturn, 1) := by decide +kernel
theorem d_Mo_count_80 : decode b_Mo_count 80 = .ok (.aload_n 0, 1) := by decide +kernel
theorem d_Mo_count_81 : decode b_Mo_count 81 = .ok (.getfield 173, 3) := by decide +kernel
theorem d_Mo_count_84 : decode b_Mo_count 84 = .ok (.ireturn, 1) := by decide +kernel
theorem d_Mo_count_85 : decode b_Mo_count 85 = .ok (.aload_n 0, 1) := by decide +kernel
theorem d_Mo_count_86 : decode b_Mo_count 86 = .ok (.getfield 182, 3) := by decide +kernel
theorem d_Mo_count_89 : decode b_Mo_count 89 = .ok (.ireturn, 1) := by decide +kernel
theorem d_Mo_count_90 : decode b_Mo_count 90 = .ok (.aload_n 0, 1) := by decide +kernel
theorem d_Mo_count_91 : decode b_Mo_count 91 = .ok (.getfield 252, 3) := by decide +kernel
theorem d_Mo_count_94 : decode b_Mo_count 94 = .ok (.ireturn, 1) := by decide +kernel
theorem d_Mo_count_95 : decode b_Mo_count 95 = .ok (.aload_n 0, 1) := by decide +kernel
theorem d_Mo_count_96 : decode b_Mo_count 96 = .ok (.getfield 96, 3) := by decide +kernel
theorem d_Mo_count_99 : decode b_Mo_count 99 = .ok (.ifCond .ne 7, 3) := by decide +kernel
theorem d_Mo_count_102 : decode b_Mo_count 102 = .ok (.iconst (-1), 1) := by decide +kernel
theorem d_Mo_count_103 : decode b_Mo_count 103 = .ok (.goto 14, 3) := by decide +kernel
theorem d_Mo_count_106 : decode b_Mo_count 106 = .ok (.aload_n 0, 1) := by decide +kernel
theorem d_Mo_count_107 : decode b_Mo_count 107 = .ok (.getfield 7, 3) := by decide +kernel
theorem d_Mo_count_110 : decode b_Mo_count 110 = .ok (.aload_n 0, 1) := by decide +kernel
theorem d_Mo_count_111 : decode b_Mo_count 111 = .ok (.getfield 96, 3) := by decide +kernel
theorem d_Mo_count_114 : decode b_Mo_count 114 = .ok (.iconst 1, 1) := by decide +kernel
theorem d_Mo_count_115 : decode b_Mo_count 115 = .ok (.isub, 1) := by decide +kernel
theorem d_Mo_count_116 : decode b_Mo_count 116 = .ok (.iaload, 1) := by decide +kernel
theorem d_Mo_count_117 : decode b_Mo_count 117 = .ok (.ireturn, 1) := by decide +kernel
theorem d_Mo_count_118 : decode b_Mo_count 118 = .ok (.aload_n 0, 1) := by decide +kernel
theorem d_Mo_count_119 : decode b_Mo_count 119 = .ok (.getfield 96, 3) := by decide +kernel
theorem d_Mo_count_122 : decode b_Mo_count 122 = .ok (.ifCond .ne 7, 3) := by decide +kernel
theorem d_Mo_count_125 : decode b_Mo_count 125 = .ok (.iconst (-1), 1) := by decide +kernel
theorem d_Mo_count_126 : decode b_Mo_count 126 = .ok (.goto 14, 3) := by decide +kernel
theorem d_Mo_count_129 : decode b_Mo_count 129 = .ok (.aload_n 0, 1) := by decide +kernel
theorem d_Mo_count_130 : decode b_Mo_count 130 = .ok (.getfield 25, 3) := by decide +kernel
theorem d_Mo_count_133 : decode b_Mo_count 133 = .ok (.aload_n 0, 1) := by decide +kernel
theorem d_Mo_count_134 : decode b_Mo_count 134 = .ok (.getfield 96, 3) := by decide +kernel
theorem d_Mo_count_137 : decode b_Mo_count 137 = .ok (.iconst 1, 1) := by decide +kernel
theorem d_Mo_count_138 : decode b_Mo_count 138 = .ok (.isub, 1) := by decide +kernel
theorem d_Mo_count_139 : decode b_Mo_count 139 = .ok (.iaload, 1) := by decide +kernel
theorem d_Mo_count_140 : decode b_Mo_count 140 = .ok (.ireturn, 1) := by decide +kernel
theorem d_Mo_count_141 : decode b_Mo_count 141 = .ok (.aload_n 0, 1) := by decide +kernel
theorem d_Mo_count_142 : decode b_Mo_count 142 = .ok (.getfield 96, 3) := by decide +kernel
theorem d_Mo_count_145 : decode b_Mo_count 145 = .ok (.ifCond .ne 7, 3) := by decide +kernel
theorem d_Mo_count_148 : decode b_Mo_count 148 = .ok (.iconst (-1), 1) := by decide +kernel
theorem d_Mo_count_149 : decode b_Mo_count 149 = .ok (.goto 14, 3) := by decide +kernel
theorem d_Mo_count_152 : decode b_Mo_count 152 = .ok (.aload_n 0, 1) := by decide +kernel
theorem d_Mo_count_153 : decode b_Mo_count 153 = .ok (.getfield 40, 3) := by decide +kernel
theorem d_Mo_count_156 : decode b_Mo_count 156 = .ok (.aload_n 0, 1) := by decide +kernel
theorem d_Mo_count_157 : decode b_Mo_count 157 = .ok (.getfield 96, 3) := by decide +kernel
theorem d_Mo_count_160 : decode b_Mo_count 160 = .ok (.iconst 1, 1) := by decide +kernel
theorem d_Mo_count_161 : decode b_Mo_count 161 = .ok (.isub, 1) := by decide +kernel
theorem d_Mo_count_162 : decode b_Mo_count 162 = .ok (.iaload, 1) := by decide +kernel
theorem d_Mo_count_163 : decode b_Mo_count 163 = .ok (.ireturn, 1) := by decide +kernel
theorem d_Mo_count_164 : decode b_Mo_count 164 = .ok (.iconst (-1), 1) := by decide +kernel
theorem d_Mo_count_165 : decode b_Mo_count 165 = .ok (.ireturn, 1) := by decide +kernel
end
section
theorem d_La_object_0 : decode b_La_object 0 = .ok (.aload_n 1, 1) := by decide +kernel
theorem d_La_object_1 : decode b_La_object 1 = .ok (.iconst 0, 1) := by decide +kernel
theorem d_La_object_2 : decode b_La_object 2 = .ok (.aload_n 0, 1) := by decide +kernel
theorem d_La_object_3 : decode b_La_object 3 = .ok (.invokevirtual 7, 3) := by decide +kernel
theorem d_La_object_6 : decode b_La_object 6 = .ok (.i2l, 1) := by decide +kernel
theorem d_La_object_7 : decode b_La_object 7 = .ok (.lastore, 1) := by decide +kernel
theorem d_La_object_8 : decode b_La_object 8 = .ok (.goto 6, 3) := by decide +kernel
theorem d_La_object_11 : decode b_La_object 11 = .ok (.astore_n 2, 1) := by decide +kernel
theorem d_La_object_12 : decode b_La_object 12 = .ok (.iconst 1, 1) := by decide +kernel
theorem d_La_object_13 : decode b_La_object 13 = .ok (.ireturn, 1) := by decide +kernel
theorem d_La_object_14 : decode b_La_object 14 = .ok (.iconst 0, 1) := by decide +kernel
theorem d_La_object_15 : decode b_La_object 15 = .ok (.ireturn, 1) := by decide +kernel
theorem d_La_section_0 : decode b_La_section 0 = .ok (.aload 5, 2) := by decide +kernel
theorem d_La_section_2 : decode b_La_section 2 = .ok (.iconst 0, 1) := by decide +kernel
theorem d_La_section_3 : decode b_La_section 3 = .ok (.aload_n 0, 1) := by decide +kernel
theorem d_La_section_4 : decode b_La_section 4 = .ok (.iload_n 1, 1) := by decide +kernel
theorem d_La_section_5 : decode b_La_section 5 = .ok (.iload_n 2, 1) := by decide +kernel
theorem d_La_section_6 : decode b_La_section 6 = .ok (.iload_n 3, 1) := by decide +kernel
theorem d_La_section_7 : decode b_La_section 7 = .ok (.iload 4, 2) := by decide +kernel
theorem d_La_section_9 : decode b_La_section 9 = .ok (.invokevirtual 15, 3) := by decide +kernel
theorem d_La_section_12 : decode b_La_section 12 = .ok (.i2l, 1) := by decide +kernel
theorem d_La_section_13 : decode b_La_section 13 = .ok (.lastore, 1) := by decide +kernel
theorem d_La_section_14 : decode b_La_section 14 = .ok (.goto 15, 3) := by decide +kernel
theorem d_La_section_17 : decode b_La_section 17 = .ok (.astore 6, 2) := by decide +kernel
theorem d_La_section_19 : decode b_La_section 19 = .ok (.iconst 1, 1) := by decide +kernel
theorem d_La_section_20 : decode b_La_section 20 = .ok (.ireturn, 1) := by decide +kernel
theorem d_La_section_21 : decode b_La_section 21 = .ok (.astore 6, 2) := by decide +kernel
theorem d_La_section_23 : decode b_La_section 23 = .ok (.iconst 2, 1) := by decide +kernel
theorem d_La_section_24 : decode b_La_section 24 = .ok (.ireturn, 1) := by decide +kernel
theorem d_La_section_25 : decode b_La_section 25 = .ok (.astore 6, 2) := by decide +kernel
theorem d_La_section_27 : decode b_La_section 27 = .ok (.iconst 3, 1) := by decide +kernel
theorem d_La_section_28 : decode b_La_section 28 = .ok (.ireturn, 1) := by decide +kernel
theorem d_La_section_29 : decode b_La_section 29 = .ok (.iconst 0, 1) := by decide +kernel
theorem d_La_section_30 : decode b_La_section 30 = .ok (.ireturn, 1) := by decide +kernel
theorem d_La_bytes_0 : decode b_La_bytes 0 = .ok (.aload 5, 2) := by decide +kernel
theorem d_La_bytes_2 : decode b_La_bytes 2 = .ok (.iconst 0, 1) := by decide +kernel
theorem d_La_bytes_3 : decode b_La_bytes 3 = .ok (.aload_n 0, 1) := by decide +kernel
theorem d_La_bytes_4 : decode b_La_bytes 4 = .ok (.iload_n 1, 1) := by decide +kernel
theorem d_La_bytes_5 : decode b_La_bytes 5 = .ok (.iload_n 2, 1) := by decide +kernel
theorem d_La_bytes_6 : decode b_La_bytes 6 = .ok (.iload_n 3, 1) := by decide +kernel
theorem d_La_bytes_7 : decode b_La_bytes 7 = .ok (.iload 4, 2) := by decide +kernel
theorem d_La_bytes_9 : decode b_La_bytes 9 = .ok (.invokevirtual 23, 3) := by decide +kernel
theorem d_La_bytes_12 : decode b_La_bytes 12 = .ok (.i2l, 1) := by decide +kernel
theorem d_La_bytes_13 : decode b_La_bytes 13 = .ok (.lastore, 1) := by decide +kernel
theorem d_La_bytes_14 : decode b_La_bytes 14 = .ok (.goto 11, 3) := by decide +kernel
theorem d_La_bytes_17 : decode b_La_bytes 17 = .ok (.astore 6, 2) := by decide +kernel
theorem d_La_bytes_19 : decode b_La_bytes 19 = .ok (.iconst 1, 1) := by decide +kernel
theorem d_La_bytes_20 : decode b_La_bytes 20 = .ok (.ireturn, 1) := by decide +kernel
theorem d_La_bytes_21 : decode b_La_bytes 21 = .ok (.astore 6, 2) := by decide +kernel
theorem d_La_bytes_23 : decode b_La_bytes 23 = .ok (.iconst 2, 1) := by decide +kernel
theorem d_La_bytes_24 : decode b_La_bytes 24 = .ok (.ireturn, 1) := by decide +kernel
theorem d_La_bytes_25 : decode b_La_bytes 25 = .ok (.iconst 0, 1) := by decide +kernel
theorem d_La_bytes_26 : decode b_La_bytes 26 = .ok (.ireturn, 1) := by decide +kernel
theorem d_La_name_0 : decode b_La_name 0 = .ok (.aload 6, 2) := by decide +kernel
theorem d_La_name_2 : decode b_La_name 2 = .ok (.iconst 0, 1) := by decide +kernel
theorem d_La_name_3 : decode b_La_name 3 = .ok (.aload_n 0, 1) := by decide +kernel
theorem d_La_name_4 : decode b_La_name 4 = .ok (.iload_n 1, 1) := by decide +kernel
theorem d_La_name_5 : decode b_La_name 5 = .ok (.iload_n 2, 1) := by decide +kernel
theorem d_La_name_6 : decode b_La_name 6 = .ok (.iload_n 3, 1) := by decide +kernel
theorem d_La_name_7 : decode b_La_name 7 = .ok (.iload 4, 2) := by decide +kernel
theorem d_La_name_9 : decode b_La_name 9 = .ok (.iload 5, 2) := by decide +kernel
theorem d_La_name_11 : decode b_La_name 11 = .ok (.invokevirtual 26, 3) := by decide +kernel
theorem d_La_name_14 : decode b_La_name 14 = .ok (.i2l, 1) := by decide +kernel
theorem d_La_name_15 : decode b_La_name 15 = .ok (.lastore, 1) := by decide +kernel
theorem d_La_name_16 : decode b_La_name 16 = .ok (.goto 15, 3) := by decide +kernel
theorem d_La_name_19 : decode b_La_name 19 = .ok (.astore 7, 2) := by decide +kernel
theorem d_La_name_21 : decode b_La_name 21 = .ok (.iconst 1, 1) := by decide +kernel
theorem d_La_name_22 : decode b_La_name 22 = .ok (.ireturn, 1) := by decide +kernel
theorem d_La_name_23 : decode b_La_name 23 = .ok (.astore 7, 2) := by decide +kernel
theorem d_La_name_25 : decode b_La_name 25 = .ok (.iconst 2, 1) := by decide +kernel
theorem d_La_name_26 : decode b_La_name 26 = .ok (.ireturn, 1) := by decide +kernel
theorem d_La_name_27 : decode b_La_name 27 = .ok (.astore 7, 2) := by decide +kernel
theorem d_La_name_29 : decode b_La_name 29 = .ok (.iconst 3, 1) := by decide +kernel
theorem d_La_name_30 : decode b_La_name 30 = .ok (.ireturn, 1) := by decide +kernel
theorem d_La_name_31 : decode b_La_name 31 = .ok (.iconst 0, 1) := by decide +kernel
theorem d_La_name_32 : decode b_La_name 32 = .ok (.ireturn, 1) := by decide +kernel
theorem d_La_reference_0 : decode b_La_reference 0 = .ok (.aload 7, 2) := by decide +kernel
theorem d_La_reference_2 : decode b_La_reference 2 = .ok (.iconst 0, 1) := by decide +kernel
theorem d_La_reference_3 : decode b_La_reference 3 = .ok (.aload_n 0, 1) := by decide +kernel
theorem d_La_reference_4 : decode b_La_reference 4 = .ok (.iload_n 1, 1) := by decide +kernel
theorem d_La_reference_5 : decode b_La_reference 5 = .ok (.iload_n 2, 1) := by decide +kernel
theorem d_La_reference_6 : decode b_La_reference 6 = .ok (.iload_n 3, 1) := by decide +kernel
theorem d_La_reference_7 : decode b_La_reference 7 = .ok (.iload 4, 2) := by decide +kernel
theorem d_La_reference_9 : decode b_La_reference 9 = .ok (.iload 5, 2) := by decide +kernel
theorem d_La_reference_11 : decode b_La_reference 11 = .ok (.iload 6, 2) := by decide +kernel
theorem d_La_reference_13 : decode b_La_reference 13 = .ok (.invokevirtual 30, 3) := by decide +kernel
theorem d_La_reference_16 : decode b_La_reference 16 = .ok (.i2l, 1) := by decide +kernel
theorem d_La_reference_17 : decode b_La_reference 17 = .ok (.lastore, 1) := by decide +kernel
theorem d_La_reference_18 : decode b_La_reference 18 = .ok (.goto 15, 3) := by decide +kernel
theorem d_La_reference_21 : decode b_La_reference 21 = .ok (.astore 8, 2) := by decide +kernel
theorem d_La_reference_23 : decode b_La_reference 23 = .ok (.iconst 1, 1) := by decide +kernel
theorem d_La_reference_24 : decode b_La_reference 24 = .ok (.ireturn, 1) := by decide +kernel
theorem d_La_reference_25 : decode b_La_reference 25 = .ok (.astore 8, 2) := by decide +kernel
theorem d_La_reference_27 : decode b_La_reference 27 = .ok (.iconst 2, 1) := by decide +kernel
theorem d_La_reference_28 : decode b_La_reference 28 = .ok (.ireturn, 1) := by decide +kernel
theorem d_La_reference_29 : decode b_La_reference 29 = .ok (.astore 8, 2) := by decide +kernel
theorem d_La_reference_31 : decode b_La_reference 31 = .ok (.iconst 3, 1) := by decide +kernel
theorem d_La_reference_32 : decode b_La_reference 32 = .ok (.ireturn, 1) := by decide +kernel
theorem d_La_reference_33 : decode b_La_reference 33 = .ok (.iconst 0, 1) := by decide +kernel
theorem d_La_reference_34 : decode b_La_reference 34 = .ok (.ireturn, 1) := by decide +kernel
theorem d_La_choose_0 : decode b_La_choose 0 = .ok (.aload_n 2, 1) := by decide +kernel
theorem d_La_choose_1 : decode b_La_choose 1 = .ok (.iconst 0, 1) := by decide +kernel
theorem d_La_choose_2 : decode b_La_choose 2 = .ok (.aload_n 0, 1) := by decide +kernel
theorem d_La_choose_3 : decode b_La_choose 3 = .ok (.iload_n 1, 1) := by decide +kernel
theorem d_La_choose_4 : decode b_La_choose 4 = .ok (.invokevirtual 34, 3) := by decide +kernel
theorem d_La_choose_7 : decode b_La_choose 7 = .ok (.i2l, 1) := by decide +kernel
theorem d_La_choose_8 : decode b_La_choose 8 = .ok (.lastore, 1) := by decide +kernel
theorem d_La_choose_9 : decode b_La_choose 9 = .ok (.goto 9, 3) := by decide +kernel
theorem d_La_choose_12 : decode b_La_choose 12 = .ok (.astore_n 3, 1) := by decide +kernel
theorem d_La_choose_13 : decode b_La_choose 13 = .ok (.iconst 1, 1) := by decide +kernel
theorem d_La_choose_14 : decode b_La_choose 14 = .ok (.ireturn, 1) := by decide +kernel
theorem d_La_choose_15 : decode b_La_choose 15 = .ok (.astore_n 3, 1) := by decide +kernel
theorem d_La_choose_16 : decode b_La_choose 16 = .ok (.iconst 2, 1) := by decide +kernel
theorem d_La_choose_17 : decode b_La_choose 17 = .ok (.ireturn, 1) := by decide +kernel
theorem d_La_choose_18 : decode b_La_choose 18 = .ok (.iconst 0, 1) := by decide +kernel
theorem d_La_choose_19 : decode b_La_choose 19 = .ok (.ireturn, 1) := by decide +kernel
theorem d_La_link_0 : decode b_La_link 0 = .ok (.aload_n 3, 1) := by decide +kernel
theorem d_La_link_1 : decode b_La_link 1 = .ok (.iconst 0, 1) := by decide +kernel
theorem d_La_link_2 : decode b_La_link 2 = .ok (.aload_n 0, 1) := by decide +kernel
theorem d_La_link_3 : decode b_La_link 3 = .ok (.iload_n 1, 1) := by decide +kernel
theorem d_La_link_4 : decode b_La_link 4 = .ok (.iload_n 2, 1) := by decide +kernel
theorem d_La_link_5 : decode b_La_link 5 = .ok (.invokevirtual 38, 3) := by decide +kernel
theorem d_La_link_8 : decode b_La_link 8 = .ok (.i2l, 1) := by decide +kernel
theorem d_La_link_9 : decode b_La_link 9 = .ok (.lastore, 1) := by decide +kernel
theorem d_La_link_10 : decode b_La_link 10 = .ok (.goto 15, 3) := by decide +kernel
theorem d_La_link_13 : decode b_La_link 13 = .ok (.astore 4, 2) := by decide +kernel
theorem d_La_link_15 : decode b_La_link 15 = .ok (.iconst 1, 1) := by decide +kernel
theorem d_La_link_16 : decode b_La_link 16 = .ok (.ireturn, 1) := by decide +kernel
theorem d_La_link_17 : decode b_La_link 17 = .ok (.astore 4, 2) := by decide +kernel
theorem d_La_link_19 : decode b_La_link 19 = .ok (.iconst 2, 1) := by decide +kernel
theorem d_La_link_20 : decode b_La_link 20 = .ok (.ireturn, 1) := by decide +kernel
theorem d_La_link_21 : decode b_La_link 21 = .ok (.astore 4, 2) := by decide +kernel
theorem d_La_link_23 : decode b_La_link 23 = .ok (.iconst 3, 1) := by decide +kernel
theorem d_La_link_24 : decode b_La_link 24 = .ok (.ireturn, 1) := by decide +kernel
theorem d_La_link_25 : decode b_La_link 25 = .ok (.iconst 0, 1) := by decide +kernel
theorem d_La_link_26 : decode b_La_link 26 = .ok (.ireturn, 1) := by decide +kernel
theorem d_La_fault_0 : decode b_La_fault 0 = .ok (.aload_n 2, 1) := by decide +kernel
theorem d_La_fault_1 : decode b_La_fault 1 = .ok (.iconst 0, 1) := by decide +kernel
theorem d_La_fault_2 : decode b_La_fault 2 = .ok (.aload_n 0, 1) := by decide +kernel
theorem d_La_fault_3 : decode b_La_fault 3 = .ok (.iload_n 1, 1) := by decide +kernel
theorem d_La_fault_4 : decode b_La_fault 4 = .ok (.invokevirtual 44, 3) := by decide +kernel
theorem d_La_fault_7 : decode b_La_fault 7 = .ok (.i2l, 1) := by decide +kernel
theorem d_La_fault_8 : decode b_La_fault 8 = .ok (.lastore, 1) := by decide +kernel
theorem d_La_fault_9 : decode b_La_fault 9 = .ok (.goto 6, 3) := by decide +kernel
theorem d_La_fault_12 : decode b_La_fault 12 = .ok (.astore_n 3, 1) := by decide +kernel
theorem d_La_fault_13 : decode b_La_fault 13 = .ok (.iconst 1, 1) := by decide +kernel
theorem d_La_fault_14 : decode b_La_fault 14 = .ok (.ireturn, 1) := by decide +kernel
theorem d_La_fault_15 : decode b_La_fault 15 = .ok (.iconst 0, 1) := by decide +kernel
theorem d_La_fault_16 : decode b_La_fault 16 = .ok (.ireturn, 1) := by decide +kernel
theorem d_La_image_0 : decode b_La_image 0 = .ok (.aload_n 2, 1) := by decide +kernel
theorem d_La_image_1 : decode b_La_image 1 = .ok (.iconst 0, 1) := by decide +kernel
theorem d_La_image_2 : decode b_La_image 2 = .ok (.aload_n 0, 1) := by decide +kernel
theorem d_La_image_3 : decode b_La_image 3 = .ok (.iload_n 1, 1) := by decide +kernel
theorem d_La_image_4 : decode b_La_image 4 = .ok (.invokevirtual 47, 3) := by decide +kernel
theorem d_La_image_7 : decode b_La_image 7 = .ok (.i2l, 1) := by decide +kernel
theorem d_La_image_8 : decode b_La_image 8 = .ok (.lastore, 1) := by decide +kernel
theorem d_La_image_9 : decode b_La_image 9 = .ok (.goto 6, 3) := by decide +kernel
theorem d_La_image_12 : decode b_La_image 12 = .ok (.astore_n 3, 1) := by decide +kernel
theorem d_La_image_13 : decode b_La_image 13 = .ok (.iconst 1, 1) := by decide +kernel
theorem d_La_image_14 : decode b_La_image 14 = .ok (.ireturn, 1) := by decide +kernel
theorem d_La_image_15 : decode b_La_image 15 = .ok (.iconst 0, 1) := by decide +kernel
theorem d_La_image_16 : decode b_La_image 16 = .ok (.ireturn, 1) := by decide +kernel
theorem d_La_placeOf_0 : decode b_La_placeOf 0 = .ok (.aload_n 3, 1) := by decide +kernel
theorem d_La_placeOf_1 : decode b_La_placeOf 1 = .ok (.iconst 0, 1) := by decide +kernel
theorem d_La_placeOf_2 : decode b_La_placeOf 2 = .ok (.aload_n 0, 1) := by decide +kernel
theorem d_La_placeOf_3 : decode b_La_placeOf 3 = .ok (.iload_n 1, 1) := by decide +kernel
theorem d_La_placeOf_4 : decode b_La_placeOf 4 = .ok (.iload_n 2, 1) := by decide +kernel
theorem d_La_placeOf_5 : decode b_La_placeOf 5 = .ok (.invokevirtual 50, 3) := by decide +kernel
theorem d_La_placeOf_8 : decode b_La_placeOf 8 = .ok (.i2l, 1) := by decide +kernel
theorem d_La_placeOf_9 : decode b_La_placeOf 9 = .ok (.lastore, 1) := by decide +kernel
theorem d_La_placeOf_10 : decode b_La_placeOf 10 = .ok (.goto 11, 3) := by decide +kernel
theorem d_La_placeOf_13 : decode b_La_placeOf 13 = .ok (.astore 4, 2) := by decide +kernel
theorem d_La_placeOf_15 : decode b_La_placeOf 15 = .ok (.iconst 1, 1) := by decide +kernel
theorem d_La_placeOf_16 : decode b_La_placeOf 16 = .ok (.ireturn, 1) := by decide +kernel
theorem d_La_placeOf_17 : decode b_La_placeOf 17 = .ok (.astore 4, 2) := by decide +kernel
theorem d_La_placeOf_19 : decode b_La_placeOf 19 = .ok (.iconst 2, 1) := by decide +kernel
theorem d_La_placeOf_20 : decode b_La_placeOf 20 = .ok (.ireturn, 1) := by decide +kernel
theorem d_La_placeOf_21 : decode b_La_placeOf 21 = .ok (.iconst 0, 1) := by decide +kernel
theorem d_La_placeOf_22 : decode b_La_placeOf 22 = .ok (.ireturn, 1) := by decide +kernel
theorem d_La_write_0 : decode b_La_write 0 = .ok (.aload_n 2, 1) := by decide +kernel
theorem d_La_write_1 : decode b_La_write 1 = .ok (.iconst 0, 1) := by decide +kernel
theorem d_La_write_2 : decode b_La_write 2 = .ok (.aload_n 0, 1) := by decide +kernel
theorem d_La_write_3 : decode b_La_write 3 = .ok (.iload_n 1, 1) := by decide +kernel
theorem d_La_write_4 : decode b_La_write 4 = .ok (.invokevirtual 53, 3) := by decide +kernel
theorem d_La_write_7 : decode b_La_write 7 = .ok (.i2l, 1) := by decide +kernel
theorem d_La_write_8 : decode b_La_write 8 = .ok (.lastore, 1) := by decide +kernel
theorem d_La_write_9 : decode b_La_write 9 = .ok (.goto 6, 3) := by decide +kernel
theorem d_La_write_12 : decode b_La_write 12 = .ok (.astore_n 3, 1) := by decide +kernel
theorem d_La_write_13 : decode b_La_write 13 = .ok (.iconst 1, 1) := by decide +kernel
theorem d_La_write_14 : decode b_La_write 14 = .ok (.ireturn, 1) := by decide +kernel
theorem d_La_write_15 : decode b_La_write 15 = .ok (.iconst 0, 1) := by decide +kernel
theorem d_La_write_16 : decode b_La_write 16 = .ok (.ireturn, 1) := by decide +kernel
theorem d_La_written_0 : decode b_La_written 0 = .ok (.aload_n 2, 1) := by decide +kernel
theorem d_La_written_1 : decode b_La_written 1 = .ok (.iconst 0, 1) := by decide +kernel
theorem d_La_written_2 : decode b_La_written 2 = .ok (.aload_n 0, 1) := by decide +kernel
theorem d_La_written_3 : decode b_La_written 3 = .ok (.iload_n 1, 1) := by decide +kernel
theorem d_La_written_4 : decode b_La_written 4 = .ok (.invokevirtual 56, 3) := by decide +kernel
theorem d_La_written_7 : decode b_La_written 7 = .ok (.i2l, 1) := by decide +kernel
theorem d_La_written_8 : decode b_La_written 8 = .ok (.lastore, 1) := by decide +kernel
theorem d_La_written_9 : decode b_La_written 9 = .ok (.goto 6, 3) := by decide +kernel
theorem d_La_written_12 : decode b_La_written 12 = .ok (.astore_n 3, 1) := by decide +kernel
theorem d_La_written_13 : decode b_La_written 13 = .ok (.iconst 1, 1) := by decide +kernel
theorem d_La_written_14 : decode b_La_written 14 = .ok (.ireturn, 1) := by decide +kernel
theorem d_La_written_15 : decode b_La_written 15 = .ok (.iconst 0, 1) := by decide +kernel
theorem d_La_written_16 : decode b_La_written 16 = .ok (.ireturn, 1) := by decide +kernel
theorem d_La_alter_0 : decode b_La_alter 0 = .ok (.aload_n 3, 1) := by decide +kernel
theorem d_La_alter_1 : decode b_La_alter 1 = .ok (.iconst 0, 1) := by decide +kernel
theorem d_La_alter_2 : decode b_La_alter 2 = .ok (.aload_n 0, 1) := by decide +kernel
theorem d_La_alter_3 : decode b_La_alter 3 = .ok (.iload_n 1, 1) := by decide +kernel
theorem d_La_alter_4 : decode b_La_alter 4 = .ok (.iload_n 2, 1) := by decide +kernel
theorem d_La_alter_5 : decode b_La_alter 5 = .ok (.invokevirtual 59, 3) := by decide +kernel
theorem d_La_alter_8 : decode b_La_alter 8 = .ok (.i2l, 1) := by decide +kernel
theorem d_La_alter_9 : decode b_La_alter 9 = .ok (.lastore, 1) := by decide +kernel
theorem d_La_alter_10 : decode b_La_alter 10 = .ok (.goto 11, 3) := by decide +kernel
theorem d_La_alter_13 : decode b_La_alter 13 = .ok (.astore 4, 2) := by decide +kernel
theorem d_La_alter_15 : decode b_La_alter 15 = .ok (.iconst 1, 1) := by decide +kernel
theorem d_La_alter_16 : decode b_La_alter 16 = .ok (.ireturn, 1) := by decide +kernel
theorem d_La_alter_17 : decode b_La_alter 17 = .ok (.astore 4, 2) := by decide +kernel
theorem d_La_alter_19 : decode b_La_alter 19 = .ok (.iconst 2, 1) := by decide +kernel
theorem d_La_alter_20 : decode b_La_alter 20 = .ok (.ireturn, 1) := by decide +kernel
theorem d_La_alter_21 : decode b_La_alter 21 = .ok (.iconst 0, 1) := by decide +kernel
theorem d_La_alter_22 : decode b_La_alter 22 = .ok (.ireturn, 1) := by decide +kernel
theorem d_La_read_0 : decode b_La_read 0 = .ok (.aload_n 2, 1) := by decide +kernel
theorem d_La_read_1 : decode b_La_read 1 = .ok (.iconst 0, 1) := by decide +kernel
theorem d_La_read_2 : decode b_La_read 2 = .ok (.aload_n 0, 1) := by decide +kernel
theorem d_La_read_3 : decode b_La_read 3 = .ok (.iload_n 1, 1) := by decide +kernel
theorem d_La_read_4 : decode b_La_read 4 = .ok (.invokevirtual 62, 3) := by decide +kernel
theorem d_La_read_7 : decode b_La_read 7 = .ok (.i2l, 1) := by decide +kernel
theorem d_La_read_8 : decode b_La_read 8 = .ok (.lastore, 1) := by decide +kernel
theorem d_La_read_9 : decode b_La_read 9 = .ok (.goto 9, 3) := by decide +kernel
theorem d_La_read_12 : decode b_La_read 12 = .ok (.astore_n 3, 1) := by decide +kernel
theorem d_La_read_13 : decode b_La_read 13 = .ok (.iconst 1, 1) := by decide +kernel
theorem d_La_read_14 : decode b_La_read 14 = .ok (.ireturn, 1) := by decide +kernel
theorem d_La_read_15 : decode b_La_read 15 = .ok (.astore_n 3, 1) := by decide +kernel
theorem d_La_read_16 : decode b_La_read 16 = .ok (.iconst 2, 1) := by decide +kernel
theorem d_La_read_17 : decode b_La_read 17 = .ok (.ireturn, 1) := by decide +kernel
theorem d_La_read_18 : decode b_La_read 18 = .ok (.iconst 0, 1) := by decide +kernel
theorem d_La_read_19 : decode b_La_read 19 = .ok (.ireturn, 1) := by decide +kernel
theorem d_La_law_0 : decode b_La_law 0 = .ok (.new 8, 3) := by decide +kernel
theorem d_La_law_3 : decode b_La_law 3 = .ok (.dup, 1) := by decide +kernel
theorem d_La_law_4 : decode b_La_law 4 = .ok (.invokespecial 65, 3) := by decide +kernel
theorem d_La_law_7 : decode b_La_law 7 = .ok (.astore_n 1, 1) := by decide +kernel
theorem d_La_law_8 : decode b_La_law 8 = .ok (.new 66, 3) := by decide +kernel
theorem d_La_law_11 : decode b_La_law 11 = .ok (.dup, 1) := by decide +kernel
theorem d_La_law_12 : decode b_La_law 12 = .ok (.invokespecial 68, 3) := by decide +kernel
theorem d_La_law_15 : decode b_La_law 15 = .ok (.astore_n 2, 1) := by decide +kernel
theorem d_La_law_16 : decode b_La_law 16 = .ok (.iconst 1, 1) := by decide +kernel
theorem d_La_law_17 : decode b_La_law 17 = .ok (.newarray .long, 2) := by decide +kernel
theorem d_La_law_19 : decode b_La_law 19 = .ok (.astore_n 3, 1) := by decide +kernel
theorem d_La_law_20 : decode b_La_law 20 = .ok (.iconst 0, 1) := by decide +kernel
theorem d_La_law_21 : decode b_La_law 21 = .ok (.istore 4, 2) := by decide +kernel
theorem d_La_law_23 : decode b_La_law 23 = .ok (.iload 4, 2) := by decide +kernel
theorem d_La_law_25 : decode b_La_law 25 = .ok (.aload_n 0, 1) := by decide +kernel
theorem d_La_law_26 : decode b_La_law 26 = .ok (.arraylength, 1) := by decide +kernel
theorem d_La_law_27 : decode b_La_law 27 = .ok (.bipush 7, 2) := by decide +kernel
theorem d_La_law_29 : decode b_La_law 29 = .ok (.isub, 1) := by decide +kernel
theorem d_La_law_30 : decode b_La_law 30 = .ok (.if_icmp .gt 1136, 3) := by decide +kernel
theorem d_La_law_33 : decode b_La_law 33 = .ok (.aload_n 0, 1) := by decide +kernel
theorem d_La_law_34 : decode b_La_law 34 = .ok (.iload 4, 2) := by decide +kernel
theorem d_La_law_36 : decode b_La_law 36 = .ok (.iaload, 1) := by decide +kernel
theorem d_La_law_37 : decode b_La_law 37 = .ok (.bipush 15, 2) := by decide +kernel
theorem d_La_law_39 : decode b_La_law 39 = .ok (.iand, 1) := by decide +kernel
theorem d_La_law_40 : decode b_La_law 40 = .ok (.tableswitch 1120 0 15 #[80, 124, 216, 308, 412, 530, 586, 654, 710, 766, 834, 859, 915, 971, 1039, 1095], 80) := by decide +kernel
theorem d_La_law_120 : decode b_La_law 120 = .ok (.aload_n 1, 1) := by decide +kernel
theorem d_La_law_121 : decode b_La_law 121 = .ok (.aload_n 3, 1) := by decide +kernel
theorem d_La_law_122 : decode b_La_law 122 = .ok (.invokestatic 69, 3) := by decide +kernel
theorem d_La_law_125 : decode b_La_law 125 = .ok (.istore 5, 2) := by decide +kernel
theorem d_La_law_127 : decode b_La_law 127 = .ok (.aload_n 2, 1) := by decide +kernel
theorem d_La_law_128 : decode b_La_law 128 = .ok (.invokevirtual 74, 3) := by decide +kernel
theorem d_La_law_131 : decode b_La_law 131 = .ok (.istore 6, 2) := by decide +kernel
theorem d_La_law_133 : decode b_La_law 133 = .ok (.aload_n 2, 1) := by decide +kernel
theorem d_La_law_134 : decode b_La_law 134 = .ok (.invokevirtual 75, 3) := by decide +kernel
theorem d_La_law_137 : decode b_La_law 137 = .ok (.iload 5, 2) := by decide +kernel
theorem d_La_law_139 : decode b_La_law 139 = .ok (.if_icmp .eq 5, 3) := by decide +kernel
theorem d_La_law_142 : decode b_La_law 142 = .ok (.iconst 0, 1) := by decide +kernel
theorem d_La_law_143 : decode b_La_law 143 = .ok (.ireturn, 1) := by decide +kernel
theorem d_La_law_144 : decode b_La_law 144 = .ok (.iload 5, 2) := by decide +kernel
theorem d_La_law_146 : decode b_La_law 146 = .ok (.ifCond .ne 15, 3) := by decide +kernel
theorem d_La_law_149 : decode b_La_law 149 = .ok (.aload_n 3, 1) := by decide +kernel
theorem d_La_law_150 : decode b_La_law 150 = .ok (.iconst 0, 1) := by decide +kernel
theorem d_La_law_151 : decode b_La_law 151 = .ok (.laload, 1) := by decide +kernel
theorem d_La_law_152 : decode b_La_law 152 = .ok (.iload 6, 2) := by decide +kernel
theorem d_La_law_154 : decode b_La_law 154 = .ok (.i2l, 1) := by decide +kernel
theorem d_La_law_155 : decode b_La_law 155 = .ok (.lcmp, 1) := by decide +kernel
theorem d_La_law_156 : decode b_La_law 156 = .ok (.ifCond .eq 5, 3) := by decide +kernel
theorem d_La_law_159 : decode b_La_law 159 = .ok (.iconst 0, 1) := by decide +kernel
theorem d_La_law_160 : decode b_La_law 160 = .ok (.ireturn, 1) := by decide +kernel
theorem d_La_law_161 : decode b_La_law 161 = .ok (.goto 999, 3) := by decide +kernel
theorem d_La_law_164 : decode b_La_law 164 = .ok (.aload_n 1, 1) := by decide +kernel
theorem d_La_law_165 : decode b_La_law 165 = .ok (.aload_n 0, 1) := by decide +kernel
theorem d_La_law_166 : decode b_La_law 166 = .ok (.iload 4, 2) := by decide +kernel
theorem d_La_law_168 : decode b_La_law 168 = .ok (.iconst 1, 1) := by decide +kernel
theorem d_La_law_169 : decode b_La_law 169 = .ok (.iadd, 1) := by decide +kernel
theorem d_La_law_170 : decode b_La_law 170 = .ok (.iaload, 1) := by decide +kernel
theorem d_La_law_171 : decode b_La_law 171 = .ok (.aload_n 0, 1) := by decide +kernel
theorem d_La_law_172 : decode b_La_law 172 = .ok (.iload 4, 2) := by decide +kernel
theorem d_La_law_174 : decode b_La_law 174 = .ok (.iconst 2, 1) := by decide +kernel
theorem d_La_law_175 : decode b_La_law 175 = .ok (.iadd, 1) := by decide +kernel
theorem d_La_law_176 : decode b_La_law 176 = .ok (.iaload, 1) := by decide +kernel
theorem d_La_law_177 : decode b_La_law 177 = .ok (.aload_n 0, 1) := by decide +kernel
theorem d_La_law_178 : decode b_La_law 178 = .ok (.iload 4, 2) := by decide +kernel
theorem d_La_law_180 : decode b_La_law 180 = .ok (.iconst 3, 1) := by decide +kernel
theorem d_La_law_181 : decode b_La_law 181 = .ok (.iadd, 1) := by decide +kernel
theorem d_La_law_182 : decode b_La_law 182 = .ok (.iaload, 1) := by decide +kernel
theorem d_La_law_183 : decode b_La_law 183 = .ok (.aload_n 0, 1) := by decide +kernel
theorem d_La_law_184 : decode b_La_law 184 = .ok (.iload 4, 2) := by decide +kernel
theorem d_La_law_186 : decode b_La_law 186 = .ok (.iconst 4, 1) := by decide +kernel
theorem d_La_law_187 : decode b_La_law 187 = .ok (.iadd, 1) := by decide +kernel
theorem d_La_law_188 : decode b_La_law 188 = .ok (.iaload, 1) := by decide +kernel
theorem d_La_law_189 : decode b_La_law 189 = .ok (.aload_n 3, 1) := by decide +kernel
theorem d_La_law_190 : decode b_La_law 190 = .ok (.invokestatic 78, 3) := by decide +kernel
theorem d_La_law_193 : decode b_La_law 193 = .ok (.istore 5, 2) := by decide +kernel
theorem d_La_law_195 : decode b_La_law 195 = .ok (.aload_n 2, 1) := by decide +kernel
theorem d_La_law_196 : decode b_La_law 196 = .ok (.aload_n 0, 1) := by decide +kernel
theorem d_La_law_197 : decode b_La_law 197 = .ok (.iload 4, 2) := by decide +kernel
theorem d_La_law_199 : decode b_La_law 199 = .ok (.iconst 1, 1) := by decide +kernel
theorem d_La_law_200 : decode b_La_law 200 = .ok (.iadd, 1) := by decide +kernel
theorem d_La_law_201 : decode b_La_law 201 = .ok (.iaload, 1) := by decide +kernel
theorem d_La_law_202 : decode b_La_law 202 = .ok (.aload_n 0, 1) := by decide +kernel
theorem d_La_law_203 : decode b_La_law 203 = .ok (.iload 4, 2) := by decide +kernel
theorem d_La_law_205 : decode b_La_law 205 = .ok (.iconst 2, 1) := by decide +kernel
theorem d_La_law_206 : decode b_La_law 206 = .ok (.iadd, 1) := by decide +kernel
theorem d_La_law_207 : decode b_La_law 207 = .ok (.iaload, 1) := by decide +kernel
theorem d_La_law_208 : decode b_La_law 208 = .ok (.aload_n 0, 1) := by decide +kernel
theorem d_La_law_209 : decode b_La_law 209 = .ok (.iload 4, 2) := by decide +kernel
theorem d_La_law_211 : decode b_La_law 211 = .ok (.iconst 3, 1) := by decide +kernel
theorem d_La_law_212 : decode b_La_law 212 = .ok (.iadd, 1) := by decide +kernel
theorem d_La_law_213 : decode b_La_law 213 = .ok (.iaload, 1) := by decide +kernel
theorem d_La_law_214 : decode b_La_law 214 = .ok (.aload_n 0, 1) := by decide +kernel
theorem d_La_law_215 : decode b_La_law 215 = .ok (.iload 4, 2) := by decide +kernel
theorem d_La_law_217 : decode b_La_law 217 = .ok (.iconst 4, 1) := by decide +kernel
theorem d_La_law_218 : decode b_La_law 218 = .ok (.iadd, 1) := by decide +kernel
theorem d_La_law_219 : decode b_La_law 219 = .ok (.iaload, 1) := by decide +kernel
theorem d_La_law_220 : decode b_La_law 220 = .ok (.invokevirtual 81, 3) := by decide +kernel
theorem d_La_law_223 : decode b_La_law 223 = .ok (.istore 6, 2) := by decide +kernel
theorem d_La_law_225 : decode b_La_law 225 = .ok (.aload_n 2, 1) := by decide +kernel
theorem d_La_law_226 : decode b_La_law 226 = .ok (.invokevirtual 75, 3) := by decide +kernel
theorem d_La_law_229 : decode b_La_law 229 = .ok (.iload 5, 2) := by decide +kernel
theorem d_La_law_231 : decode b_La_law 231 = .ok (.if_icmp .eq 5, 3) := by decide +kernel
theorem d_La_law_234 : decode b_La_law 234 = .ok (.iconst 0, 1) := by decide +kernel
theorem d_La_law_235 : decode b_La_law 235 = .ok (.ireturn, 1) := by decide +kernel
theorem d_La_law_236 : decode b_La_law 236 = .ok (.iload 5, 2) := by decide +kernel
theorem d_La_law_238 : decode b_La_law 238 = .ok (.ifCond .ne 15, 3) := by decide +kernel
theorem d_La_law_241 : decode b_La_law 241 = .ok (.aload_n 3, 1) := by decide +kernel
theorem d_La_law_242 : decode b_La_law 242 = .ok (.iconst 0, 1) := by decide +kernel
theorem d_La_law_243 : decode b_La_law 243 = .ok (.laload, 1) := by decide +kernel
theorem d_La_law_244 : decode b_La_law 244 = .ok (.iload 6, 2) := by decide +kernel
theorem d_La_law_246 : decode b_La_law 246 = .ok (.i2l, 1) := by decide +kernel
theorem d_La_law_247 : decode b_La_law 247 = .ok (.lcmp, 1) := by decide +kernel
theorem d_La_law_248 : decode b_La_law 248 = .ok (.ifCond .eq 5, 3) := by decide +kernel
theorem d_La_law_251 : decode b_La_law 251 = .ok (.iconst 0, 1) := by decide +kernel
theorem d_La_law_252 : decode b_La_law 252 = .ok (.ireturn, 1) := by decide +kernel
theorem d_La_law_253 : decode b_La_law 253 = .ok (.goto 907, 3) := by decide +kernel
theorem d_La_law_256 : decode b_La_law 256 = .ok (.aload_n 1, 1) := by decide +kernel
theorem d_La_law_257 : decode b_La_law 257 = .ok (.aload_n 0, 1) := by decide +kernel
theorem d_La_law_258 : decode b_La_law 258 = .ok (.iload 4, 2) := by decide +kernel
theorem d_La_law_260 : decode b_La_law 260 = .ok (.iconst 1, 1) := by decide +kernel
theorem d_La_law_261 : decode b_La_law 261 = .ok (.iadd, 1) := by decide +kernel
theorem d_La_law_262 : decode b_La_law 262 = .ok (.iaload, 1) := by decide +kernel
theorem d_La_law_263 : decode b_La_law 263 = .ok (.aload_n 0, 1) := by decide +kernel
theorem d_La_law_264 : decode b_La_law 264 = .ok (.iload 4, 2) := by decide +kernel
theorem d_La_law_266 : decode b_La_law 266 = .ok (.iconst 2, 1) := by decide +kernel
theorem d_La_law_267 : decode b_La_law 267 = .ok (.iadd, 1) := by decide +kernel
theorem d_La_law_268 : decode b_La_law 268 = .ok (.iaload, 1) := by decide +kernel
theorem d_La_law_269 : decode b_La_law 269 = .ok (.aload_n 0, 1) := by decide +kernel
theorem d_La_law_270 : decode b_La_law 270 = .ok (.iload 4, 2) := by decide +kernel
theorem d_La_law_272 : decode b_La_law 272 = .ok (.iconst 3, 1) := by decide +kernel
theorem d_La_law_273 : decode b_La_law 273 = .ok (.iadd, 1) := by decide +kernel
theorem d_La_law_274 : decode b_La_law 274 = .ok (.iaload, 1) := by decide +kernel
theorem d_La_law_275 : decode b_La_law 275 = .ok (.aload_n 0, 1) := by decide +kernel
theorem d_La_law_276 : decode b_La_law 276 = .ok (.iload 4, 2) := by decide +kernel
theorem d_La_law_278 : decode b_La_law 278 = .ok (.iconst 4, 1) := by decide +kernel
theorem d_La_law_279 : decode b_La_law 279 = .ok (.iadd, 1) := by decide +kernel
theorem d_La_law_280 : decode b_La_law 280 = .ok (.iaload, 1) := by decide +kernel
theorem d_La_law_281 : decode b_La_law 281 = .ok (.aload_n 3, 1) := by decide +kernel
theorem d_La_law_282 : decode b_La_law 282 = .ok (.invokestatic 82, 3) := by decide +kernel
theorem d_La_law_285 : decode b_La_law 285 = .ok (.istore 5, 2) := by decide +kernel
theorem d_La_law_287 : decode b_La_law 287 = .ok (.aload_n 2, 1) := by decide +kernel
theorem d_La_law_288 : decode b_La_law 288 = .ok (.aload_n 0, 1) := by decide +kernel
theorem d_La_law_289 : decode b_La_law 289 = .ok (.iload 4, 2) := by decide +kernel
theorem d_La_law_291 : decode b_La_law 291 = .ok (.iconst 1, 1) := by decide +kernel
theorem d_La_law_292 : decode b_La_law 292 = .ok (.iadd, 1) := by decide +kernel
theorem d_La_law_293 : decode b_La_law 293 = .ok (.iaload, 1) := by decide +kernel
theorem d_La_law_294 : decode b_La_law 294 = .ok (.aload_n 0, 1) := by decide +kernel
theorem d_La_law_295 : decode b_La_law 295 = .ok (.iload 4, 2) := by decide +kernel
theorem d_La_law_297 : decode b_La_law 297 = .ok (.iconst 2, 1) := by decide +kernel
theorem d_La_law_298 : decode b_La_law 298 = .ok (.iadd, 1) := by decide +kernel
theorem d_La_law_299 : decode b_La_law 299 = .ok (.iaload, 1) := by decide +kernel
theorem d_La_law_300 : decode b_La_law 300 = .ok (.aload_n 0, 1) := by decide +kernel
theorem d_La_law_301 : decode b_La_law 301 = .ok (.iload 4, 2) := by decide +kernel
theorem d_La_law_303 : decode b_La_law 303 = .ok (.iconst 3, 1) := by decide +kernel
theorem d_La_law_304 : decode b_La_law 304 = .ok (.iadd, 1) := by decide +kernel
theorem d_La_law_305 : decode b_La_law 305 = .ok (.iaload, 1) := by decide +kernel
theorem d_La_law_306 : decode b_La_law 306 = .ok (.aload_n 0, 1) := by decide +kernel
theorem d_La_law_307 : decode b_La_law 307 = .ok (.iload 4, 2) := by decide +kernel
theorem d_La_law_309 : decode b_La_law 309 = .ok (.iconst 4, 1) := by decide +kernel
theorem d_La_law_310 : decode b_La_law 310 = .ok (.iadd, 1) := by decide +kernel
theorem d_La_law_311 : decode b_La_law 311 = .ok (.iaload, 1) := by decide +kernel
theorem d_La_law_312 : decode b_La_law 312 = .ok (.invokevirtual 84, 3) := by decide +kernel
theorem d_La_law_315 : decode b_La_law 315 = .ok (.istore 6, 2) := by decide +kernel
theorem d_La_law_317 : decode b_La_law 317 = .ok (.aload_n 2, 1) := by decide +kernel
theorem d_La_law_318 : decode b_La_law 318 = .ok (.invokevirtual 75, 3) := by decide +kernel
theorem d_La_law_321 : decode b_La_law 321 = .ok (.iload 5, 2) := by decide +kernel
theorem d_La_law_323 : decode b_La_law 323 = .ok (.if_icmp .eq 5, 3) := by decide +kernel
theorem d_La_law_326 : decode b_La_law 326 = .ok (.iconst 0, 1) := by decide +kernel
theorem d_La_law_327 : decode b_La_law 327 = .ok (.ireturn, 1) := by decide +kernel
theorem d_La_law_328 : decode b_La_law 328 = .ok (.iload 5, 2) := by decide +kernel
theorem d_La_law_330 : decode b_La_law 330 = .ok (.ifCond .ne 15, 3) := by decide +kernel
theorem d_La_law_333 : decode b_La_law 333 = .ok (.aload_n 3, 1) := by decide +kernel
theorem d_La_law_334 : decode b_La_law 334 = .ok (.iconst 0, 1) := by decide +kernel
theorem d_La_law_335 : decode b_La_law 335 = .ok (.laload, 1) := by decide +kernel
theorem d_La_law_336 : decode b_La_law 336 = .ok (.iload 6, 2) := by decide +kernel
theorem d_La_law_338 : decode b_La_law 338 = .ok (.i2l, 1) := by decide +kernel
theorem d_La_law_339 : decode b_La_law 339 = .ok (.lcmp, 1) := by decide +kernel
theorem d_La_law_340 : decode b_La_law 340 = .ok (.ifCond .eq 5, 3) := by decide +kernel
theorem d_La_law_343 : decode b_La_law 343 = .ok (.iconst 0, 1) := by decide +kernel
theorem d_La_law_344 : decode b_La_law 344 = .ok (.ireturn, 1) := by decide +kernel
theorem d_La_law_345 : decode b_La_law 345 = .ok (.goto 815, 3) := by decide +kernel
theorem d_La_law_348 : decode b_La_law 348 = .ok (.aload_n 1, 1) := by decide +kernel
theorem d_La_law_349 : decode b_La_law 349 = .ok (.aload_n 0, 1) := by decide +kernel
theorem d_La_law_350 : decode b_La_law 350 = .ok (.iload 4, 2) := by decide +kernel
theorem d_La_law_352 : decode b_La_law 352 = .ok (.iconst 1, 1) := by decide +kernel
theorem d_La_law_353 : decode b_La_law 353 = .ok (.iadd, 1) := by decide +kernel
theorem d_La_law_354 : decode b_La_law 354 = .ok (.iaload, 1) := by decide +kernel
theorem d_La_law_355 : decode b_La_law 355 = .ok (.aload_n 0, 1) := by decide +kernel
theorem d_La_law_356 : decode b_La_law 356 = .ok (.iload 4, 2) := by decide +kernel
theorem d_La_law_358 : decode b_La_law 358 = .ok (.iconst 2, 1) := by decide +kernel
theorem d_La_law_359 : decode b_La_law 359 = .ok (.iadd, 1) := by decide +kernel
theorem d_La_law_360 : decode b_La_law 360 = .ok (.iaload, 1) := by decide +kernel
theorem d_La_law_361 : decode b_La_law 361 = .ok (.aload_n 0, 1) := by decide +kernel
theorem d_La_law_362 : decode b_La_law 362 = .ok (.iload 4, 2) := by decide +kernel
theorem d_La_law_364 : decode b_La_law 364 = .ok (.iconst 3, 1) := by decide +kernel
theorem d_La_law_365 : decode b_La_law 365 = .ok (.iadd, 1) := by decide +kernel
theorem d_La_law_366 : decode b_La_law 366 = .ok (.iaload, 1) := by decide +kernel
theorem d_La_law_367 : decode b_La_law 367 = .ok (.aload_n 0, 1) := by decide +kernel
theorem d_La_law_368 : decode b_La_law 368 = .ok (.iload 4, 2) := by decide +kernel
theorem d_La_law_370 : decode b_La_law 370 = .ok (.iconst 4, 1) := by decide +kernel
theorem d_La_law_371 : decode b_La_law 371 = .ok (.iadd, 1) := by decide +kernel
theorem d_La_law_372 : decode b_La_law 372 = .ok (.iaload, 1) := by decide +kernel
theorem d_La_law_373 : decode b_La_law 373 = .ok (.aload_n 0, 1) := by decide +kernel
theorem d_La_law_374 : decode b_La_law 374 = .ok (.iload 4, 2) := by decide +kernel
theorem d_La_law_376 : decode b_La_law 376 = .ok (.iconst 5, 1) := by decide +kernel
theorem d_La_law_377 : decode b_La_law 377 = .ok (.iadd, 1) := by decide +kernel
theorem d_La_law_378 : decode b_La_law 378 = .ok (.iaload, 1) := by decide +kernel
theorem d_La_law_379 : decode b_La_law 379 = .ok (.aload_n 3, 1) := by decide +kernel
theorem d_La_law_380 : decode b_La_law 380 = .ok (.invokestatic 85, 3) := by decide +kernel
theorem d_La_law_383 : decode b_La_law 383 = .ok (.istore 5, 2) := by decide +kernel
theorem d_La_law_385 : decode b_La_law 385 = .ok (.aload_n 2, 1) := by decide +kernel
theorem d_La_law_386 : decode b_La_law 386 = .ok (.aload_n 0, 1) := by decide +kernel
theorem d_La_law_387 : decode b_La_law 387 = .ok (.iload 4, 2) := by decide +kernel
theorem d_La_law_389 : decode b_La_law 389 = .ok (.iconst 1, 1) := by decide +kernel
theorem d_La_law_390 : decode b_La_law 390 = .ok (.iadd, 1) := by decide +kernel
theorem d_La_law_391 : decode b_La_law 391 = .ok (.iaload, 1) := by decide +kernel
theorem d_La_law_392 : decode b_La_law 392 = .ok (.aload_n 0, 1) := by decide +kernel
theorem d_La_law_393 : decode b_La_law 393 = .ok (.iload 4, 2) := by decide +kernel
theorem d_La_law_395 : decode b_La_law 395 = .ok (.iconst 2, 1) := by decide +kernel
theorem d_La_law_396 : decode b_La_law 396 = .ok (.iadd, 1) := by decide +kernel
theorem d_La_law_397 : decode b_La_law 397 = .ok (.iaload, 1) := by decide +kernel
theorem d_La_law_398 : decode b_La_law 398 = .ok (.aload_n 0, 1) := by decide +kernel
theorem d_La_law_399 : decode b_La_law 399 = .ok (.iload 4, 2) := by decide +kernel
theorem d_La_law_401 : decode b_La_law 401 = .ok (.iconst 3, 1) := by decide +kernel
theorem d_La_law_402 : decode b_La_law 402 = .ok (.iadd, 1) := by decide +kernel
theorem d_La_law_403 : decode b_La_law 403 = .ok (.iaload, 1) := by decide +kernel
theorem d_La_law_404 : decode b_La_law 404 = .ok (.aload_n 0, 1) := by decide +kernel
theorem d_La_law_405 : decode b_La_law 405 = .ok (.iload 4, 2) := by decide +kernel
theorem d_La_law_407 : decode b_La_law 407 = .ok (.iconst 4, 1) := by decide +kernel
theorem d_La_law_408 : decode b_La_law 408 = .ok (.iadd, 1) := by decide +kernel
theorem d_La_law_409 : decode b_La_law 409 = .ok (.iaload, 1) := by decide +kernel
theorem d_La_law_410 : decode b_La_law 410 = .ok (.aload_n 0, 1) := by decide +kernel
theorem d_La_law_411 : decode b_La_law 411 = .ok (.iload 4, 2) := by decide +kernel
theorem d_La_law_413 : decode b_La_law 413 = .ok (.iconst 5, 1) := by decide +kernel
theorem d_La_law_414 : decode b_La_law 414 = .ok (.iadd, 1) := by decide +kernel
theorem d_La_law_415 : decode b_La_law 415 = .ok (.iaload, 1) := by decide +kernel
theorem d_La_law_416 : decode b_La_law 416 = .ok (.invokevirtual 88, 3) := by decide +kernel
theorem d_La_law_419 : decode b_La_law 419 = .ok (.istore 6, 2) := by decide +kernel
theorem d_La_law_421 : decode b_La_law 421 = .ok (.aload_n 2, 1) := by decide +kernel
theorem d_La_law_422 : decode b_La_law 422 = .ok (.invokevirtual 75, 3) := by decide +kernel
theorem d_La_law_425 : decode b_La_law 425 = .ok (.iload 5, 2) := by decide +kernel
theorem d_La_law_427 : decode b_La_law 427 = .ok (.if_icmp .eq 5, 3) := by decide +kernel
theorem d_La_law_430 : decode b_La_law 430 = .ok (.iconst 0, 1) := by decide +kernel
theorem d_La_law_431 : decode b_La_law 431 = .ok (.ireturn, 1) := by decide +kernel
theorem d_La_law_432 : decode b_La_law 432 = .ok (.iload 5, 2) := by decide +kernel
theorem d_La_law_434 : decode b_La_law 434 = .ok (.ifCond .ne 15, 3) := by decide +kernel
theorem d_La_law_437 : decode b_La_law 437 = .ok (.aload_n 3, 1) := by decide +kernel
theorem d_La_law_438 : decode b_La_law 438 = .ok (.iconst 0, 1) := by decide +kernel
theorem d_La_law_439 : decode b_La_law 439 = .ok (.laload, 1) := by decide +kernel
theorem d_La_law_440 : decode b_La_law 440 = .ok (.iload 6, 2) := by decide +kernel
theorem d_La_law_442 : decode b_La_law 442 = .ok (.i2l, 1) := by decide +kernel
theorem d_La_law_443 : decode b_La_law 443 = .ok (.lcmp, 1) := by decide +kernel
theorem d_La_law_444 : decode b_La_law 444 = .ok (.ifCond .eq 5, 3) := by decide +kernel
theorem d_La_law_447 : decode b_La_law 447 = .ok (.iconst 0, 1) := by decide +kernel
theorem d_La_law_448 : decode b_La_law 448 = .ok (.ireturn, 1) := by decide +kernel
theorem d_La_law_449 : decode b_La_law 449 = .ok (.goto 711, 3) := by decide +kernel
theorem d_La_law_452 : decode b_La_law 452 = .ok (.aload_n 1, 1) := by decide +kernel
theorem d_La_law_453 : decode b_La_law 453 = .ok (.aload_n 0, 1) := by decide +kernel
theorem d_La_law_454 : decode b_La_law 454 = .ok (.iload 4, 2) := by decide +kernel
theorem d_La_law_456 : decode b_La_law 456 = .ok (.iconst 1, 1) := by decide +kernel
theorem d_La_law_457 : decode b_La_law 457 = .ok (.iadd, 1) := by decide +kernel
theorem d_La_law_458 : decode b_La_law 458 = .ok (.iaload, 1) := by decide +kernel
theorem d_La_law_459 : decode b_La_law 459 = .ok (.aload_n 0, 1) := by decide +kernel
theorem d_La_law_460 : decode b_La_law 460 = .ok (.iload 4, 2) := by decide +kernel
theorem d_La_law_462 : decode b_La_law 462 = .ok (.iconst 2, 1) := by decide +kernel
theorem d_La_law_463 : decode b_La_law 463 = .ok (.iadd, 1) := by decide +kernel
theorem d_La_law_464 : decode b_La_law 464 = .ok (.iaload, 1) := by decide +kernel
theorem d_La_law_465 : decode b_La_law 465 = .ok (.aload_n 0, 1) := by decide +kernel
theorem d_La_law_466 : decode b_La_law 466 = .ok (.iload 4, 2) := by decide +kernel
theorem d_La_law_468 : decode b_La_law 468 = .ok (.iconst 3, 1) := by decide +kernel
theorem d_La_law_469 : decode b_La_law 469 = .ok (.iadd, 1) := by decide +kernel
theorem d_La_law_470 : decode b_La_law 470 = .ok (.iaload, 1) := by decide +kernel
theorem d_La_law_471 : decode b_La_law 471 = .ok (.aload_n 0, 1) := by decide +kernel
theorem d_La_law_472 : decode b_La_law 472 = .ok (.iload 4, 2) := by decide +kernel
theorem d_La_law_474 : decode b_La_law 474 = .ok (.iconst 4, 1) := by decide +kernel
theorem d_La_law_475 : decode b_La_law 475 = .ok (.iadd, 1) := by decide +kernel
theorem d_La_law_476 : decode b_La_law 476 = .ok (.iaload, 1) := by decide +kernel
theorem d_La_law_477 : decode b_La_law 477 = .ok (.aload_n 0, 1) := by decide +kernel
theorem d_La_law_478 : decode b_La_law 478 = .ok (.iload 4, 2) := by decide +kernel
theorem d_La_law_480 : decode b_La_law 480 = .ok (.iconst 5, 1) := by decide +kernel
theorem d_La_law_481 : decode b_La_law 481 = .ok (.iadd, 1) := by decide +kernel
theorem d_La_law_482 : decode b_La_law 482 = .ok (.iaload, 1) := by decide +kernel
theorem d_La_law_483 : decode b_La_law 483 = .ok (.aload_n 0, 1) := by decide +kernel
theorem d_La_law_484 : decode b_La_law 484 = .ok (.iload 4, 2) := by decide +kernel
theorem d_La_law_486 : decode b_La_law 486 = .ok (.bipush 6, 2) := by decide +kernel
theorem d_La_law_488 : decode b_La_law 488 = .ok (.iadd, 1) := by decide +kernel
theorem d_La_law_489 : decode b_La_law 489 = .ok (.iaload, 1) := by decide +kernel
theorem d_La_law_490 : decode b_La_law 490 = .ok (.aload_n 3, 1) := by decide +kernel
theorem d_La_law_491 : decode b_La_law 491 = .ok (.invokestatic 89, 3) := by decide +kernel
theorem d_La_law_494 : decode b_La_law 494 = .ok (.istore 5, 2) := by decide +kernel
theorem d_La_law_496 : decode b_La_law 496 = .ok (.aload_n 2, 1) := by decide +kernel
theorem d_La_law_497 : decode b_La_law 497 = .ok (.aload_n 0, 1) := by decide +kernel
theorem d_La_law_498 : decode b_La_law 498 = .ok (.iload 4, 2) := by decide +kernel
theorem d_La_law_500 : decode b_La_law 500 = .ok (.iconst 1, 1) := by decide +kernel
theorem d_La_law_501 : decode b_La_law 501 = .ok (.iadd, 1) := by decide +kernel
theorem d_La_law_502 : decode b_La_law 502 = .ok (.iaload, 1) := by decide +kernel
theorem d_La_law_503 : decode b_La_law 503 = .ok (.aload_n 0, 1) := by decide +kernel
theorem d_La_law_504 : decode b_La_law 504 = .ok (.iload 4, 2) := by decide +kernel
theorem d_La_law_506 : decode b_La_law 506 = .ok (.iconst 2, 1) := by decide +kernel
theorem d_La_law_507 : decode b_La_law 507 = .ok (.iadd, 1) := by decide +kernel
theorem d_La_law_508 : decode b_La_law 508 = .ok (.iaload, 1) := by decide +kernel
theorem d_La_law_509 : decode b_La_law 509 = .ok (.aload_n 0, 1) := by decide +kernel
theorem d_La_law_510 : decode b_La_law 510 = .ok (.iload 4, 2) := by decide +kernel
theorem d_La_law_512 : decode b_La_law 512 = .ok (.iconst 3, 1) := by decide +kernel
theorem d_La_law_513 : decode b_La_law 513 = .ok (.iadd, 1) := by decide +kernel
theorem d_La_law_514 : decode b_La_law 514 = .ok (.iaload, 1) := by decide +kernel
theorem d_La_law_515 : decode b_La_law 515 = .ok (.aload_n 0, 1) := by decide +kernel
theorem d_La_law_516 : decode b_La_law 516 = .ok (.iload 4, 2) := by decide +kernel
theorem d_La_law_518 : decode b_La_law 518 = .ok (.iconst 4, 1) := by decide +kernel
theorem d_La_law_519 : decode b_La_law 519 = .ok (.iadd, 1) := by decide +kernel
theorem d_La_law_520 : decode b_La_law 520 = .ok (.iaload, 1) := by decide +kernel
theorem d_La_law_521 : decode b_La_law 521 = .ok (.aload_n 0, 1) := by decide +kernel
theorem d_La_law_522 : decode b_La_law 522 = .ok (.iload 4, 2) := by decide +kernel
theorem d_La_law_524 : decode b_La_law 524 = .ok (.iconst 5, 1) := by decide +kernel
theorem d_La_law_525 : decode b_La_law 525 = .ok (.iadd, 1) := by decide +kernel
theorem d_La_law_526 : decode b_La_law 526 = .ok (.iaload, 1) := by decide +kernel
theorem d_La_law_527 : decode b_La_law 527 = .ok (.aload_n 0, 1) := by decide +kernel
theorem d_La_law_528 : decode b_La_law 528 = .ok (.iload 4, 2) := by decide +kernel
theorem d_La_law_530 : decode b_La_law 530 = .ok (.bipush 6, 2) := by decide +kernel
theorem d_La_law_532 : decode b_La_law 532 = .ok (.iadd, 1) := by decide +kernel
theorem d_La_law_533 : decode b_La_law 533 = .ok (.iaload, 1) := by decide +kernel
theorem d_La_law_534 : decode b_La_law 534 = .ok (.invokevirtual 92, 3) := by decide +kernel
theorem d_La_law_537 : decode b_La_law 537 = .ok (.istore 6, 2) := by decide +kernel
theorem d_La_law_539 : decode b_La_law 539 = .ok (.aload_n 2, 1) := by decide +kernel
theorem d_La_law_540 : decode b_La_law 540 = .ok (.invokevirtual 75, 3) := by decide +kernel
theorem d_La_law_543 : decode b_La_law 543 = .ok (.iload 5, 2) := by decide +kernel
theorem d_La_law_545 : decode b_La_law 545 = .ok (.if_icmp .eq 5, 3) := by decide +kernel
theorem d_La_law_548 : decode b_La_law 548 = .ok (.iconst 0, 1) := by decide +kernel
theorem d_La_law_549 : decode b_La_law 549 = .ok (.ireturn, 1) := by decide +kernel
theorem d_La_law_550 : decode b_La_law 550 = .ok (.iload 5, 2) := by decide +kernel
theorem d_La_law_552 : decode b_La_law 552 = .ok (.ifCond .ne 15, 3) := by decide +kernel
theorem d_La_law_555 : decode b_La_law 555 = .ok (.aload_n 3, 1) := by decide +kernel
theorem d_La_law_556 : decode b_La_law 556 = .ok (.iconst 0, 1) := by decide +kernel
theorem d_La_law_557 : decode b_La_law 557 = .ok (.laload, 1) := by decide +kernel
theorem d_La_law_558 : decode b_La_law 558 = .ok (.iload 6, 2) := by decide +kernel
theorem d_La_law_560 : decode b_La_law 560 = .ok (.i2l, 1) := by decide +kernel
theorem d_La_law_561 : decode b_La_law 561 = .ok (.lcmp, 1) := by decide +kernel
theorem d_La_law_562 : decode b_La_law 562 = .ok (.ifCond .eq 5, 3) := by decide +kernel
theorem d_La_law_565 : decode b_La_law 565 = .ok (.iconst 0, 1) := by decide +kernel
theorem d_La_law_566 : decode b_La_law 566 = .ok (.ireturn, 1) := by decide +kernel
theorem d_La_law_567 : decode b_La_law 567 = .ok (.goto 593, 3) := by decide +kernel
theorem d_La_law_570 : decode b_La_law 570 = .ok (.aload_n 1, 1) := by decide +kernel
theorem d_La_law_571 : decode b_La_law 571 = .ok (.aload_n 0, 1) := by decide +kernel
theorem d_La_law_572 : decode b_La_law 572 = .ok (.iload 4, 2) := by decide +kernel
theorem d_La_law_574 : decode b_La_law 574 = .ok (.iconst 1, 1) := by decide +kernel
theorem d_La_law_575 : decode b_La_law 575 = .ok (.iadd, 1) := by decide +kernel
theorem d_La_law_576 : decode b_La_law 576 = .ok (.iaload, 1) := by decide +kernel
theorem d_La_law_577 : decode b_La_law 577 = .ok (.aload_n 3, 1) := by decide +kernel
theorem d_La_law_578 : decode b_La_law 578 = .ok (.invokestatic 93, 3) := by decide +kernel
theorem d_La_law_581 : decode b_La_law 581 = .ok (.istore 5, 2) := by decide +kernel
theorem d_La_law_583 : decode b_La_law 583 = .ok (.aload_n 2, 1) := by decide +kernel
theorem d_La_law_584 : decode b_La_law 584 = .ok (.aload_n 0, 1) := by decide +kernel
theorem d_La_law_585 : decode b_La_law 585 = .ok (.iload 4, 2) := by decide +kernel
theorem d_La_law_587 : decode b_La_law 587 = .ok (.iconst 1, 1) := by decide +kernel
theorem d_La_law_588 : decode b_La_law 588 = .ok (.iadd, 1) := by decide +kernel
theorem d_La_law_589 : decode b_La_law 589 = .ok (.iaload, 1) := by decide +kernel
theorem d_La_law_590 : decode b_La_law 590 = .ok (.invokevirtual 96, 3) := by decide +kernel
theorem d_La_law_593 : decode b_La_law 593 = .ok (.istore 6, 2) := by decide +kernel
theorem d_La_law_595 : decode b_La_law 595 = .ok (.aload_n 2, 1) := by decide +kernel
theorem d_La_law_596 : decode b_La_law 596 = .ok (.invokevirtual 75, 3) := by decide +kernel
theorem d_La_law_599 : decode b_La_law 599 = .ok (.iload 5, 2) := by decide +kernel
theorem d_La_law_601 : decode b_La_law 601 = .ok (.if_icmp .eq 5, 3) := by decide +kernel
theorem d_La_law_604 : decode b_La_law 604 = .ok (.iconst 0, 1) := by decide +kernel
theorem d_La_law_605 : decode b_La_law 605 = .ok (.ireturn, 1) := by decide +kernel
theorem d_La_law_606 : decode b_La_law 606 = .ok (.iload 5, 2) := by decide +kernel
theorem d_La_law_608 : decode b_La_law 608 = .ok (.ifCond .ne 15, 3) := by decide +kernel
theorem d_La_law_611 : decode b_La_law 611 = .ok (.aload_n 3, 1) := by decide +kernel
theorem d_La_law_612 : decode b_La_law 612 = .ok (.iconst 0, 1) := by decide +kernel
theorem d_La_law_613 : decode b_La_law 613 = .ok (.laload, 1) := by decide +kernel
theorem d_La_law_614 : decode b_La_law 614 = .ok (.iload 6, 2) := by decide +kernel
theorem d_La_law_616 : decode b_La_law 616 = .ok (.i2l, 1) := by decide +kernel
theorem d_La_law_617 : decode b_La_law 617 = .ok (.lcmp, 1) := by decide +kernel
theorem d_La_law_618 : decode b_La_law 618 = .ok (.ifCond .eq 5, 3) := by decide +kernel
theorem d_La_law_621 : decode b_La_law 621 = .ok (.iconst 0, 1) := by decide +kernel
theorem d_La_law_622 : decode b_La_law 622 = .ok (.ireturn, 1) := by decide +kernel
theorem d_La_law_623 : decode b_La_law 623 = .ok (.goto 537, 3) := by decide +kernel
theorem d_La_law_626 : decode b_La_law 626 = .ok (.aload_n 1, 1) := by decide +kernel
theorem d_La_law_627 : decode b_La_law 627 = .ok (.aload_n 0, 1) := by decide +kernel
theorem d_La_law_628 : decode b_La_law 628 = .ok (.iload 4, 2) := by decide +kernel
theorem d_La_law_630 : decode b_La_law 630 = .ok (.iconst 1, 1) := by decide +kernel
theorem d_La_law_631 : decode b_La_law 631 = .ok (.iadd, 1) := by decide +kernel
theorem d_La_law_632 : decode b_La_law 632 = .ok (.iaload, 1) := by decide +kernel
theorem d_La_law_633 : decode b_La_law 633 = .ok (.aload_n 0, 1) := by decide +kernel
theorem d_La_law_634 : decode b_La_law 634 = .ok (.iload 4, 2) := by decide +kernel
theorem d_La_law_636 : decode b_La_law 636 = .ok (.iconst 2, 1) := by decide +kernel
theorem d_La_law_637 : decode b_La_law 637 = .ok (.iadd, 1) := by decide +kernel
theorem d_La_law_638 : decode b_La_law 638 = .ok (.iaload, 1) := by decide +kernel
theorem d_La_law_639 : decode b_La_law 639 = .ok (.aload_n 3, 1) := by decide +kernel
theorem d_La_law_640 : decode b_La_law 640 = .ok (.invokestatic 97, 3) := by decide +kernel
theorem d_La_law_643 : decode b_La_law 643 = .ok (.istore 5, 2) := by decide +kernel
theorem d_La_law_645 : decode b_La_law 645 = .ok (.aload_n 2, 1) := by decide +kernel
theorem d_La_law_646 : decode b_La_law 646 = .ok (.aload_n 0, 1) := by decide +kernel
theorem d_La_law_647 : decode b_La_law 647 = .ok (.iload 4, 2) := by decide +kernel
theorem d_La_law_649 : decode b_La_law 649 = .ok (.iconst 1, 1) := by decide +kernel
theorem d_La_law_650 : decode b_La_law 650 = .ok (.iadd, 1) := by decide +kernel
theorem d_La_law_651 : decode b_La_law 651 = .ok (.iaload, 1) := by decide +kernel
theorem d_La_law_652 : decode b_La_law 652 = .ok (.aload_n 0, 1) := by decide +kernel
theorem d_La_law_653 : decode b_La_law 653 = .ok (.iload 4, 2) := by decide +kernel
theorem d_La_law_655 : decode b_La_law 655 = .ok (.iconst 2, 1) := by decide +kernel
theorem d_La_law_656 : decode b_La_law 656 = .ok (.iadd, 1) := by decide +kernel
theorem d_La_law_657 : decode b_La_law 657 = .ok (.iaload, 1) := by decide +kernel
theorem d_La_law_658 : decode b_La_law 658 = .ok (.invokevirtual 100, 3) := by decide +kernel
theorem d_La_law_661 : decode b_La_law 661 = .ok (.istore 6, 2) := by decide +kernel
theorem d_La_law_663 : decode b_La_law 663 = .ok (.aload_n 2, 1) := by decide +kernel
theorem d_La_law_664 : decode b_La_law 664 = .ok (.invokevirtual 75, 3) := by decide +kernel
theorem d_La_law_667 : decode b_La_law 667 = .ok (.iload 5, 2) := by decide +kernel
theorem d_La_law_669 : decode b_La_law 669 = .ok (.if_icmp .eq 5, 3) := by decide +kernel
theorem d_La_law_672 : decode b_La_law 672 = .ok (.iconst 0, 1) := by decide +kernel
theorem d_La_law_673 : decode b_La_law 673 = .ok (.ireturn, 1) := by decide +kernel
theorem d_La_law_674 : decode b_La_law 674 = .ok (.iload 5, 2) := by decide +kernel
theorem d_La_law_676 : decode b_La_law 676 = .ok (.ifCond .ne 15, 3) := by decide +kernel
theorem d_La_law_679 : decode b_La_law 679 = .ok (.aload_n 3, 1) := by decide +kernel
theorem d_La_law_680 : decode b_La_law 680 = .ok (.iconst 0, 1) := by decide +kernel
theorem d_La_law_681 : decode b_La_law 681 = .ok (.laload, 1) := by decide +kernel
theorem d_La_law_682 : decode b_La_law 682 = .ok (.iload 6, 2) := by decide +kernel
theorem d_La_law_684 : decode b_La_law 684 = .ok (.i2l, 1) := by decide +kernel
theorem d_La_law_685 : decode b_La_law 685 = .ok (.lcmp, 1) := by decide +kernel
theorem d_La_law_686 : decode b_La_law 686 = .ok (.ifCond .eq 5, 3) := by decide +kernel
theorem d_La_law_689 : decode b_La_law 689 = .ok (.iconst 0, 1) := by decide +kernel
theorem d_La_law_690 : decode b_La_law 690 = .ok (.ireturn, 1) := by decide +kernel
theorem d_La_law_691 : decode b_La_law 691 = .ok (.goto 469, 3) := by decide +kernel
theorem d_La_law_694 : decode b_La_law 694 = .ok (.aload_n 1, 1) := by decide +kernel
theorem d_La_law_695 : decode b_La_law 695 = .ok (.aload_n 0, 1) := by decide +kernel
theorem d_La_law_696 : decode b_La_law 696 = .ok (.iload 4, 2) := by decide +kernel
theorem d_La_law_698 : decode b_La_law 698 = .ok (.iconst 1, 1) := by decide +kernel
theorem d_La_law_699 : decode b_La_law 699 = .ok (.iadd, 1) := by decide +kernel
theorem d_La_law_700 : decode b_La_law 700 = .ok (.iaload, 1) := by decide +kernel
theorem d_La_law_701 : decode b_La_law 701 = .ok (.aload_n 3, 1) := by decide +kernel
theorem d_La_law_702 : decode b_La_law 702 = .ok (.invokestatic 101, 3) := by decide +kernel
theorem d_La_law_705 : decode b_La_law 705 = .ok (.istore 5, 2) := by decide +kernel
theorem d_La_law_707 : decode b_La_law 707 = .ok (.aload_n 2, 1) := by decide +kernel
theorem d_La_law_708 : decode b_La_law 708 = .ok (.aload_n 0, 1) := by decide +kernel
theorem d_La_law_709 : decode b_La_law 709 = .ok (.iload 4, 2) := by decide +kernel
theorem d_La_law_711 : decode b_La_law 711 = .ok (.iconst 1, 1) := by decide +kernel
theorem d_La_law_712 : decode b_La_law 712 = .ok (.iadd, 1) := by decide +kernel
theorem d_La_law_713 : decode b_La_law 713 = .ok (.iaload, 1) := by decide +kernel
theorem d_La_law_714 : decode b_La_law 714 = .ok (.invokevirtual 103, 3) := by decide +kernel
theorem d_La_law_717 : decode b_La_law 717 = .ok (.istore 6, 2) := by decide +kernel
theorem d_La_law_719 : decode b_La_law 719 = .ok (.aload_n 2, 1) := by decide +kernel
theorem d_La_law_720 : decode b_La_law 720 = .ok (.invokevirtual 75, 3) := by decide +kernel
theorem d_La_law_723 : decode b_La_law 723 = .ok (.iload 5, 2) := by decide +kernel
theorem d_La_law_725 : decode b_La_law 725 = .ok (.if_icmp .eq 5, 3) := by decide +kernel
theorem d_La_law_728 : decode b_La_law 728 = .ok (.iconst 0, 1) := by decide +kernel
theorem d_La_law_729 : decode b_La_law 729 = .ok (.ireturn, 1) := by decide +kernel
theorem d_La_law_730 : decode b_La_law 730 = .ok (.iload 5, 2) := by decide +kernel
theorem d_La_law_732 : decode b_La_law 732 = .ok (.ifCond .ne 15, 3) := by decide +kernel
theorem d_La_law_735 : decode b_La_law 735 = .ok (.aload_n 3, 1) := by decide +kernel
theorem d_La_law_736 : decode b_La_law 736 = .ok (.iconst 0, 1) := by decide +kernel
theorem d_La_law_737 : decode b_La_law 737 = .ok (.laload, 1) := by decide +kernel
theorem d_La_law_738 : decode b_La_law 738 = .ok (.iload 6, 2) := by decide +kernel
theorem d_La_law_740 : decode b_La_law 740 = .ok (.i2l, 1) := by decide +kernel
theorem d_La_law_741 : decode b_La_law 741 = .ok (.lcmp, 1) := by decide +kernel
theorem d_La_law_742 : decode b_La_law 742 = .ok (.ifCond .eq 5, 3) := by decide +kernel
theorem d_La_law_745 : decode b_La_law 745 = .ok (.iconst 0, 1) := by decide +kernel
theorem d_La_law_746 : decode b_La_law 746 = .ok (.ireturn, 1) := by decide +kernel
theorem d_La_law_747 : decode b_La_law 747 = .ok (.goto 413, 3) := by decide +kernel
theorem d_La_law_750 : decode b_La_law 750 = .ok (.aload_n 1, 1) := by decide +kernel
theorem d_La_law_751 : decode b_La_law 751 = .ok (.aload_n 0, 1) := by decide +kernel
theorem d_La_law_752 : decode b_La_law 752 = .ok (.iload 4, 2) := by decide +kernel
theorem d_La_law_754 : decode b_La_law 754 = .ok (.iconst 1, 1) := by decide +kernel
theorem d_La_law_755 : decode b_La_law 755 = .ok (.iadd, 1) := by decide +kernel
theorem d_La_law_756 : decode b_La_law 756 = .ok (.iaload, 1) := by decide +kernel
theorem d_La_law_757 : decode b_La_law 757 = .ok (.aload_n 3, 1) := by decide +kernel
theorem d_La_law_758 : decode b_La_law 758 = .ok (.invokestatic 104, 3) := by decide +kernel
theorem d_La_law_761 : decode b_La_law 761 = .ok (.istore 5, 2) := by decide +kernel
theorem d_La_law_763 : decode b_La_law 763 = .ok (.aload_n 2, 1) := by decide +kernel
theorem d_La_law_764 : decode b_La_law 764 = .ok (.aload_n 0, 1) := by decide +kernel
theorem d_La_law_765 : decode b_La_law 765 = .ok (.iload 4, 2) := by decide +kernel
theorem d_La_law_767 : decode b_La_law 767 = .ok (.iconst 1, 1) := by decide +kernel
theorem d_La_law_768 : decode b_La_law 768 = .ok (.iadd, 1) := by decide +kernel
theorem d_La_law_769 : decode b_La_law 769 = .ok (.iaload, 1) := by decide +kernel
theorem d_La_law_770 : decode b_La_law 770 = .ok (.invokevirtual 106, 3) := by decide +kernel
theorem d_La_law_773 : decode b_La_law 773 = .ok (.istore 6, 2) := by decide +kernel
theorem d_La_law_775 : decode b_La_law 775 = .ok (.aload_n 2, 1) := by decide +kernel
theorem d_La_law_776 : decode b_La_law 776 = .ok (.invokevirtual 75, 3) := by decide +kernel
theorem d_La_law_779 : decode b_La_law 779 = .ok (.iload 5, 2) := by decide +kernel
theorem d_La_law_781 : decode b_La_law 781 = .ok (.if_icmp .eq 5, 3) := by decide +kernel
theorem d_La_law_784 : decode b_La_law 784 = .ok (.iconst 0, 1) := by decide +kernel
theorem d_La_law_785 : decode b_La_law 785 = .ok (.ireturn, 1) := by decide +kernel
theorem d_La_law_786 : decode b_La_law 786 = .ok (.iload 5, 2) := by decide +kernel
theorem d_La_law_788 : decode b_La_law 788 = .ok (.ifCond .ne 15, 3) := by decide +kernel
theorem d_La_law_791 : decode b_La_law 791 = .ok (.aload_n 3, 1) := by decide +kernel
theorem d_La_law_792 : decode b_La_law 792 = .ok (.iconst 0, 1) := by decide +kernel
theorem d_La_law_793 : decode b_La_law 793 = .ok (.laload, 1) := by decide +kernel
theorem d_La_law_794 : decode b_La_law 794 = .ok (.iload 6, 2) := by decide +kernel
theorem d_La_law_796 : decode b_La_law 796 = .ok (.i2l, 1) := by decide +kernel
theorem d_La_law_797 : decode b_La_law 797 = .ok (.lcmp, 1) := by decide +kernel
theorem d_La_law_798 : decode b_La_law 798 = .ok (.ifCond .eq 5, 3) := by decide +kernel
theorem d_La_law_801 : decode b_La_law 801 = .ok (.iconst 0, 1) := by decide +kernel
theorem d_La_law_802 : decode b_La_law 802 = .ok (.ireturn, 1) := by decide +kernel
theorem d_La_law_803 : decode b_La_law 803 = .ok (.goto 357, 3) := by decide +kernel
theorem d_La_law_806 : decode b_La_law 806 = .ok (.aload_n 1, 1) := by decide +kernel
theorem d_La_law_807 : decode b_La_law 807 = .ok (.aload_n 0, 1) := by decide +kernel
theorem d_La_law_808 : decode b_La_law 808 = .ok (.iload 4, 2) := by decide +kernel
theorem d_La_law_810 : decode b_La_law 810 = .ok (.iconst 1, 1) := by decide +kernel
theorem d_La_law_811 : decode b_La_law 811 = .ok (.iadd, 1) := by decide +kernel
theorem d_La_law_812 : decode b_La_law 812 = .ok (.iaload, 1) := by decide +kernel
theorem d_La_law_813 : decode b_La_law 813 = .ok (.aload_n 0, 1) := by decide +kernel
theorem d_La_law_814 : decode b_La_law 814 = .ok (.iload 4, 2) := by decide +kernel
theorem d_La_law_816 : decode b_La_law 816 = .ok (.iconst 2, 1) := by decide +kernel
theorem d_La_law_817 : decode b_La_law 817 = .ok (.iadd, 1) := by decide +kernel
theorem d_La_law_818 : decode b_La_law 818 = .ok (.iaload, 1) := by decide +kernel
theorem d_La_law_819 : decode b_La_law 819 = .ok (.aload_n 3, 1) := by decide +kernel
theorem d_La_law_820 : decode b_La_law 820 = .ok (.invokestatic 107, 3) := by decide +kernel
theorem d_La_law_823 : decode b_La_law 823 = .ok (.istore 5, 2) := by decide +kernel
theorem d_La_law_825 : decode b_La_law 825 = .ok (.aload_n 2, 1) := by decide +kernel
theorem d_La_law_826 : decode b_La_law 826 = .ok (.aload_n 0, 1) := by decide +kernel
theorem d_La_law_827 : decode b_La_law 827 = .ok (.iload 4, 2) := by decide +kernel
theorem d_La_law_829 : decode b_La_law 829 = .ok (.iconst 1, 1) := by decide +kernel
theorem d_La_law_830 : decode b_La_law 830 = .ok (.iadd, 1) := by decide +kernel
theorem d_La_law_831 : decode b_La_law 831 = .ok (.iaload, 1) := by decide +kernel
theorem d_La_law_832 : decode b_La_law 832 = .ok (.aload_n 0, 1) := by decide +kernel
theorem d_La_law_833 : decode b_La_law 833 = .ok (.iload 4, 2) := by decide +kernel
theorem d_La_law_835 : decode b_La_law 835 = .ok (.iconst 2, 1) := by decide +kernel
theorem d_La_law_836 : decode b_La_law 836 = .ok (.iadd, 1) := by decide +kernel
theorem d_La_law_837 : decode b_La_law 837 = .ok (.iaload, 1) := by decide +kernel
theorem d_La_law_838 : decode b_La_law 838 = .ok (.invokevirtual 109, 3) := by decide +kernel
theorem d_La_law_841 : decode b_La_law 841 = .ok (.istore 6, 2) := by decide +kernel
theorem d_La_law_843 : decode b_La_law 843 = .ok (.aload_n 2, 1) := by decide +kernel
theorem d_La_law_844 : decode b_La_law 844 = .ok (.invokevirtual 75, 3) := by decide +kernel
theorem d_La_law_847 : decode b_La_law 847 = .ok (.iload 5, 2) := by decide +kernel
theorem d_La_law_849 : decode b_La_law 849 = .ok (.if_icmp .eq 5, 3) := by decide +kernel
theorem d_La_law_852 : decode b_La_law 852 = .ok (.iconst 0, 1) := by decide +kernel
theorem d_La_law_853 : decode b_La_law 853 = .ok (.ireturn, 1) := by decide +kernel
theorem d_La_law_854 : decode b_La_law 854 = .ok (.iload 5, 2) := by decide +kernel
theorem d_La_law_856 : decode b_La_law 856 = .ok (.ifCond .ne 15, 3) := by decide +kernel
theorem d_La_law_859 : decode b_La_law 859 = .ok (.aload_n 3, 1) := by decide +kernel
theorem d_La_law_860 : decode b_La_law 860 = .ok (.iconst 0, 1) := by decide +kernel
theorem d_La_law_861 : decode b_La_law 861 = .ok (.laload, 1) := by decide +kernel
theorem d_La_law_862 : decode b_La_law 862 = .ok (.iload 6, 2) := by decide +kernel
theorem d_La_law_864 : decode b_La_law 864 = .ok (.i2l, 1) := by decide +kernel
theorem d_La_law_865 : decode b_La_law 865 = .ok (.lcmp, 1) := by decide +kernel
theorem d_La_law_866 : decode b_La_law 866 = .ok (.ifCond .eq 5, 3) := by decide +kernel
theorem d_La_law_869 : decode b_La_law 869 = .ok (.iconst 0, 1) := by decide +kernel
theorem d_La_law_870 : decode b_La_law 870 = .ok (.ireturn, 1) := by decide +kernel
theorem d_La_law_871 : decode b_La_law 871 = .ok (.goto 289, 3) := by decide +kernel
theorem d_La_law_874 : decode b_La_law 874 = .ok (.aload_n 1, 1) := by decide +kernel
theorem d_La_law_875 : decode b_La_law 875 = .ok (.aload_n 0, 1) := by decide +kernel
theorem d_La_law_876 : decode b_La_law 876 = .ok (.iload 4, 2) := by decide +kernel
theorem d_La_law_878 : decode b_La_law 878 = .ok (.iconst 1, 1) := by decide +kernel
theorem d_La_law_879 : decode b_La_law 879 = .ok (.iadd, 1) := by decide +kernel
theorem d_La_law_880 : decode b_La_law 880 = .ok (.iaload, 1) := by decide +kernel
theorem d_La_law_881 : decode b_La_law 881 = .ok (.invokevirtual 110, 3) := by decide +kernel
theorem d_La_law_884 : decode b_La_law 884 = .ok (.aload_n 2, 1) := by decide +kernel
theorem d_La_law_885 : decode b_La_law 885 = .ok (.aload_n 0, 1) := by decide +kernel
theorem d_La_law_886 : decode b_La_law 886 = .ok (.iload 4, 2) := by decide +kernel
theorem d_La_law_888 : decode b_La_law 888 = .ok (.iconst 1, 1) := by decide +kernel
theorem d_La_law_889 : decode b_La_law 889 = .ok (.iadd, 1) := by decide +kernel
theorem d_La_law_890 : decode b_La_law 890 = .ok (.iaload, 1) := by decide +kernel
theorem d_La_law_891 : decode b_La_law 891 = .ok (.invokevirtual 113, 3) := by decide +kernel
theorem d_La_law_894 : decode b_La_law 894 = .ok (.if_icmp .eq 266, 3) := by decide +kernel
theorem d_La_law_897 : decode b_La_law 897 = .ok (.iconst 0, 1) := by decide +kernel
theorem d_La_law_898 : decode b_La_law 898 = .ok (.ireturn, 1) := by decide +kernel
theorem d_La_law_899 : decode b_La_law 899 = .ok (.aload_n 1, 1) := by decide +kernel
theorem d_La_law_900 : decode b_La_law 900 = .ok (.aload_n 0, 1) := by decide +kernel
theorem d_La_law_901 : decode b_La_law 901 = .ok (.iload 4, 2) := by decide +kernel
theorem d_La_law_903 : decode b_La_law 903 = .ok (.iconst 1, 1) := by decide +kernel
theorem d_La_law_904 : decode b_La_law 904 = .ok (.iadd, 1) := by decide +kernel
theorem d_La_law_905 : decode b_La_law 905 = .ok (.iaload, 1) := by decide +kernel
theorem d_La_law_906 : decode b_La_law 906 = .ok (.aload_n 3, 1) := by decide +kernel
theorem d_La_law_907 : decode b_La_law 907 = .ok (.invokestatic 114, 3) := by decide +kernel
theorem d_La_law_910 : decode b_La_law 910 = .ok (.istore 5, 2) := by decide +kernel
theorem d_La_law_912 : decode b_La_law 912 = .ok (.aload_n 2, 1) := by decide +kernel
theorem d_La_law_913 : decode b_La_law 913 = .ok (.aload_n 0, 1) := by decide +kernel
theorem d_La_law_914 : decode b_La_law 914 = .ok (.iload 4, 2) := by decide +kernel
theorem d_La_law_916 : decode b_La_law 916 = .ok (.iconst 1, 1) := by decide +kernel
theorem d_La_law_917 : decode b_La_law 917 = .ok (.iadd, 1) := by decide +kernel
theorem d_La_law_918 : decode b_La_law 918 = .ok (.iaload, 1) := by decide +kernel
theorem d_La_law_919 : decode b_La_law 919 = .ok (.invokevirtual 116, 3) := by decide +kernel
theorem d_La_law_922 : decode b_La_law 922 = .ok (.istore 6, 2) := by decide +kernel
theorem d_La_law_924 : decode b_La_law 924 = .ok (.aload_n 2, 1) := by decide +kernel
theorem d_La_law_925 : decode b_La_law 925 = .ok (.invokevirtual 75, 3) := by decide +kernel
theorem d_La_law_928 : decode b_La_law 928 = .ok (.iload 5, 2) := by decide +kernel
theorem d_La_law_930 : decode b_La_law 930 = .ok (.if_icmp .eq 5, 3) := by decide +kernel
theorem d_La_law_933 : decode b_La_law 933 = .ok (.iconst 0, 1) := by decide +kernel
theorem d_La_law_934 : decode b_La_law 934 = .ok (.ireturn, 1) := by decide +kernel
theorem d_La_law_935 : decode b_La_law 935 = .ok (.iload 5, 2) := by decide +kernel
theorem d_La_law_937 : decode b_La_law 937 = .ok (.ifCond .ne 15, 3) := by decide +kernel
theorem d_La_law_940 : decode b_La_law 940 = .ok (.aload_n 3, 1) := by decide +kernel
theorem d_La_law_941 : decode b_La_law 941 = .ok (.iconst 0, 1) := by decide +kernel
theorem d_La_law_942 : decode b_La_law 942 = .ok (.laload, 1) := by decide +kernel
theorem d_La_law_943 : decode b_La_law 943 = .ok (.iload 6, 2) := by decide +kernel
theorem d_La_law_945 : decode b_La_law 945 = .ok (.i2l, 1) := by decide +kernel
theorem d_La_law_946 : decode b_La_law 946 = .ok (.lcmp, 1) := by decide +kernel
theorem d_La_law_947 : decode b_La_law 947 = .ok (.ifCond .eq 5, 3) := by decide +kernel
theorem d_La_law_950 : decode b_La_law 950 = .ok (.iconst 0, 1) := by decide +kernel
theorem d_La_law_951 : decode b_La_law 951 = .ok (.ireturn, 1) := by decide +kernel
theorem d_La_law_952 : decode b_La_law 952 = .ok (.goto 208, 3) := by decide +kernel
theorem d_La_law_955 : decode b_La_law 955 = .ok (.aload_n 1, 1) := by decide +kernel
theorem d_La_law_956 : decode b_La_law 956 = .ok (.aload_n 0, 1) := by decide +kernel
theorem d_La_law_957 : decode b_La_law 957 = .ok (.iload 4, 2) := by decide +kernel
theorem d_La_law_959 : decode b_La_law 959 = .ok (.iconst 1, 1) := by decide +kernel
theorem d_La_law_960 : decode b_La_law 960 = .ok (.iadd, 1) := by decide +kernel
theorem d_La_law_961 : decode b_La_law 961 = .ok (.iaload, 1) := by decide +kernel
theorem d_La_law_962 : decode b_La_law 962 = .ok (.aload_n 3, 1) := by decide +kernel
theorem d_La_law_963 : decode b_La_law 963 = .ok (.invokestatic 117, 3) := by decide +kernel
theorem d_La_law_966 : decode b_La_law 966 = .ok (.istore 5, 2) := by decide +kernel
theorem d_La_law_968 : decode b_La_law 968 = .ok (.aload_n 2, 1) := by decide +kernel
theorem d_La_law_969 : decode b_La_law 969 = .ok (.aload_n 0, 1) := by decide +kernel
theorem d_La_law_970 : decode b_La_law 970 = .ok (.iload 4, 2) := by decide +kernel
theorem d_La_law_972 : decode b_La_law 972 = .ok (.iconst 1, 1) := by decide +kernel
theorem d_La_law_973 : decode b_La_law 973 = .ok (.iadd, 1) := by decide +kernel
theorem d_La_law_974 : decode b_La_law 974 = .ok (.iaload, 1) := by decide +kernel
theorem d_La_law_975 : decode b_La_law 975 = .ok (.invokevirtual 119, 3) := by decide +kernel
theorem d_La_law_978 : decode b_La_law 978 = .ok (.istore 6, 2) := by decide +kernel
theorem d_La_law_980 : decode b_La_law 980 = .ok (.aload_n 2, 1) := by decide +kernel
theorem d_La_law_981 : decode b_La_law 981 = .ok (.invokevirtual 75, 3) := by decide +kernel
theorem d_La_law_984 : decode b_La_law 984 = .ok (.iload 5, 2) := by decide +kernel
theorem d_La_law_986 : decode b_La_law 986 = .ok (.if_icmp .eq 5, 3) := by decide +kernel
theorem d_La_law_989 : decode b_La_law 989 = .ok (.iconst 0, 1) := by decide +kernel
theorem d_La_law_990 : decode b_La_law 990 = .ok (.ireturn, 1) := by decide +kernel
theorem d_La_law_991 : decode b_La_law 991 = .ok (.iload 5, 2) := by decide +kernel
theorem d_La_law_993 : decode b_La_law 993 = .ok (.ifCond .ne 15, 3) := by decide +kernel
theorem d_La_law_996 : decode b_La_law 996 = .ok (.aload_n 3, 1) := by decide +kernel
theorem d_La_law_997 : decode b_La_law 997 = .ok (.iconst 0, 1) := by decide +kernel
theorem d_La_law_998 : decode b_La_law 998 = .ok (.laload, 1) := by decide +kernel
theorem d_La_law_999 : decode b_La_law 999 = .ok (.iload 6, 2) := by decide +kernel
theorem d_La_law_1001 : decode b_La_law 1001 = .ok (.i2l, 1) := by decide +kernel
theorem d_La_law_1002 : decode b_La_law 1002 = .ok (.lcmp, 1) := by decide +kernel
theorem d_La_law_1003 : decode b_La_law 1003 = .ok (.ifCond .eq 5, 3) := by decide +kernel
theorem d_La_law_1006 : decode b_La_law 1006 = .ok (.iconst 0, 1) := by decide +kernel
theorem d_La_law_1007 : decode b_La_law 1007 = .ok (.ireturn, 1) := by decide +kernel
theorem d_La_law_1008 : decode b_La_law 1008 = .ok (.goto 152, 3) := by decide +kernel
theorem d_La_law_1011 : decode b_La_law 1011 = .ok (.aload_n 1, 1) := by decide +kernel
theorem d_La_law_1012 : decode b_La_law 1012 = .ok (.aload_n 0, 1) := by decide +kernel
theorem d_La_law_1013 : decode b_La_law 1013 = .ok (.iload 4, 2) := by decide +kernel
theorem d_La_law_1015 : decode b_La_law 1015 = .ok (.iconst 1, 1) := by decide +kernel
theorem d_La_law_1016 : decode b_La_law 1016 = .ok (.iadd, 1) := by decide +kernel
theorem d_La_law_1017 : decode b_La_law 1017 = .ok (.iaload, 1) := by decide +kernel
theorem d_La_law_1018 : decode b_La_law 1018 = .ok (.aload_n 0, 1) := by decide +kernel
theorem d_La_law_1019 : decode b_La_law 1019 = .ok (.iload 4, 2) := by decide +kernel
theorem d_La_law_1021 : decode b_La_law 1021 = .ok (.iconst 2, 1) := by decide +kernel
theorem d_La_law_1022 : decode b_La_law 1022 = .ok (.iadd, 1) := by decide +kernel
theorem d_La_law_1023 : decode b_La_law 1023 = .ok (.iaload, 1) := by decide +kernel
theorem d_La_law_1024 : decode b_La_law 1024 = .ok (.aload_n 3, 1) := by decide +kernel
theorem d_La_law_1025 : decode b_La_law 1025 = .ok (.invokestatic 120, 3) := by decide +kernel
theorem d_La_law_1028 : decode b_La_law 1028 = .ok (.istore 5, 2) := by decide +kernel
theorem d_La_law_1030 : decode b_La_law 1030 = .ok (.aload_n 2, 1) := by decide +kernel
theorem d_La_law_1031 : decode b_La_law 1031 = .ok (.aload_n 0, 1) := by decide +kernel
theorem d_La_law_1032 : decode b_La_law 1032 = .ok (.iload 4, 2) := by decide +kernel
theorem d_La_law_1034 : decode b_La_law 1034 = .ok (.iconst 1, 1) := by decide +kernel
theorem d_La_law_1035 : decode b_La_law 1035 = .ok (.iadd, 1) := by decide +kernel
theorem d_La_law_1036 : decode b_La_law 1036 = .ok (.iaload, 1) := by decide +kernel
theorem d_La_law_1037 : decode b_La_law 1037 = .ok (.aload_n 0, 1) := by decide +kernel
theorem d_La_law_1038 : decode b_La_law 1038 = .ok (.iload 4, 2) := by decide +kernel
theorem d_La_law_1040 : decode b_La_law 1040 = .ok (.iconst 2, 1) := by decide +kernel
theorem d_La_law_1041 : decode b_La_law 1041 = .ok (.iadd, 1) := by decide +kernel
theorem d_La_law_1042 : decode b_La_law 1042 = .ok (.iaload, 1) := by decide +kernel
theorem d_La_law_1043 : decode b_La_law 1043 = .ok (.invokevirtual 122, 3) := by decide +kernel
theorem d_La_law_1046 : decode b_La_law 1046 = .ok (.istore 6, 2) := by decide +kernel
theorem d_La_law_1048 : decode b_La_law 1048 = .ok (.aload_n 2, 1) := by decide +kernel
theorem d_La_law_1049 : decode b_La_law 1049 = .ok (.invokevirtual 75, 3) := by decide +kernel
theorem d_La_law_1052 : decode b_La_law 1052 = .ok (.iload 5, 2) := by decide +kernel
theorem d_La_law_1054 : decode b_La_law 1054 = .ok (.if_icmp .eq 5, 3) := by decide +kernel
theorem d_La_law_1057 : decode b_La_law 1057 = .ok (.iconst 0, 1) := by decide +kernel
theorem d_La_law_1058 : decode b_La_law 1058 = .ok (.ireturn, 1) := by decide +kernel
theorem d_La_law_1059 : decode b_La_law 1059 = .ok (.iload 5, 2) := by decide +kernel
theorem d_La_law_1061 : decode b_La_law 1061 = .ok (.ifCond .ne 15, 3) := by decide +kernel
theorem d_La_law_1064 : decode b_La_law 1064 = .ok (.aload_n 3, 1) := by decide +kernel
theorem d_La_law_1065 : decode b_La_law 1065 = .ok (.iconst 0, 1) := by decide +kernel
theorem d_La_law_1066 : decode b_La_law 1066 = .ok (.laload, 1) := by decide +kernel
theorem d_La_law_1067 : decode b_La_law 1067 = .ok (.iload 6, 2) := by decide +kernel
theorem d_La_law_1069 : decode b_La_law 1069 = .ok (.i2l, 1) := by decide +kernel
theorem d_La_law_1070 : decode b_La_law 1070 = .ok (.lcmp, 1) := by decide +kernel
theorem d_La_law_1071 : decode b_La_law 1071 = .ok (.ifCond .eq 5, 3) := by decide +kernel
theorem d_La_law_1074 : decode b_La_law 1074 = .ok (.iconst 0, 1) := by decide +kernel
theorem d_La_law_1075 : decode b_La_law 1075 = .ok (.ireturn, 1) := by decide +kernel
theorem d_La_law_1076 : decode b_La_law 1076 = .ok (.goto 84, 3) := by decide +kernel
theorem d_La_law_1079 : decode b_La_law 1079 = .ok (.aload_n 1, 1) := by decide +kernel
theorem d_La_law_1080 : decode b_La_law 1080 = .ok (.aload_n 0, 1) := by decide +kernel
theorem d_La_law_1081 : decode b_La_law 1081 = .ok (.iload 4, 2) := by decide +kernel
theorem d_La_law_1083 : decode b_La_law 1083 = .ok (.iconst 1, 1) := by decide +kernel
theorem d_La_law_1084 : decode b_La_law 1084 = .ok (.iadd, 1) := by decide +kernel
theorem d_La_law_1085 : decode b_La_law 1085 = .ok (.iaload, 1) := by decide +kernel
theorem d_La_law_1086 : decode b_La_law 1086 = .ok (.aload_n 3, 1) := by decide +kernel
theorem d_La_law_1087 : decode b_La_law 1087 = .ok (.invokestatic 123, 3) := by decide +kernel
theorem d_La_law_1090 : decode b_La_law 1090 = .ok (.istore 5, 2) := by decide +kernel
theorem d_La_law_1092 : decode b_La_law 1092 = .ok (.aload_n 2, 1) := by decide +kernel
theorem d_La_law_1093 : decode b_La_law 1093 = .ok (.aload_n 0, 1) := by decide +kernel
theorem d_La_law_1094 : decode b_La_law 1094 = .ok (.iload 4, 2) := by decide +kernel
theorem d_La_law_1096 : decode b_La_law 1096 = .ok (.iconst 1, 1) := by decide +kernel
theorem d_La_law_1097 : decode b_La_law 1097 = .ok (.iadd, 1) := by decide +kernel
theorem d_La_law_1098 : decode b_La_law 1098 = .ok (.iaload, 1) := by decide +kernel
theorem d_La_law_1099 : decode b_La_law 1099 = .ok (.invokevirtual 125, 3) := by decide +kernel
theorem d_La_law_1102 : decode b_La_law 1102 = .ok (.istore 6, 2) := by decide +kernel
theorem d_La_law_1104 : decode b_La_law 1104 = .ok (.aload_n 2, 1) := by decide +kernel
theorem d_La_law_1105 : decode b_La_law 1105 = .ok (.invokevirtual 75, 3) := by decide +kernel
theorem d_La_law_1108 : decode b_La_law 1108 = .ok (.iload 5, 2) := by decide +kernel
theorem d_La_law_1110 : decode b_La_law 1110 = .ok (.if_icmp .eq 5, 3) := by decide +kernel
theorem d_La_law_1113 : decode b_La_law 1113 = .ok (.iconst 0, 1) := by decide +kernel
theorem d_La_law_1114 : decode b_La_law 1114 = .ok (.ireturn, 1) := by decide +kernel
theorem d_La_law_1115 : decode b_La_law 1115 = .ok (.iload 5, 2) := by decide +kernel
theorem d_La_law_1117 : decode b_La_law 1117 = .ok (.ifCond .ne 15, 3) := by decide +kernel
theorem d_La_law_1120 : decode b_La_law 1120 = .ok (.aload_n 3, 1) := by decide +kernel
theorem d_La_law_1121 : decode b_La_law 1121 = .ok (.iconst 0, 1) := by decide +kernel
theorem d_La_law_1122 : decode b_La_law 1122 = .ok (.laload, 1) := by decide +kernel
theorem d_La_law_1123 : decode b_La_law 1123 = .ok (.iload 6, 2) := by decide +kernel
theorem d_La_law_1125 : decode b_La_law 1125 = .ok (.i2l, 1) := by decide +kernel
theorem d_La_law_1126 : decode b_La_law 1126 = .ok (.lcmp, 1) := by decide +kernel
theorem d_La_law_1127 : decode b_La_law 1127 = .ok (.ifCond .eq 5, 3) := by decide +kernel
theorem d_La_law_1130 : decode b_La_law 1130 = .ok (.iconst 0, 1) := by decide +kernel
theorem d_La_law_1131 : decode b_La_law 1131 = .ok (.ireturn, 1) := by decide +kernel
theorem d_La_law_1132 : decode b_La_law 1132 = .ok (.goto 28, 3) := by decide +kernel
theorem d_La_law_1135 : decode b_La_law 1135 = .ok (.aload_n 1, 1) := by decide +kernel
theorem d_La_law_1136 : decode b_La_law 1136 = .ok (.aload_n 0, 1) := by decide +kernel
theorem d_La_law_1137 : decode b_La_law 1137 = .ok (.iload 4, 2) := by decide +kernel
theorem d_La_law_1139 : decode b_La_law 1139 = .ok (.iconst 1, 1) := by decide +kernel
theorem d_La_law_1140 : decode b_La_law 1140 = .ok (.iadd, 1) := by decide +kernel
theorem d_La_law_1141 : decode b_La_law 1141 = .ok (.iaload, 1) := by decide +kernel
theorem d_La_law_1142 : decode b_La_law 1142 = .ok (.invokevirtual 126, 3) := by decide +kernel
theorem d_La_law_1145 : decode b_La_law 1145 = .ok (.aload_n 2, 1) := by decide +kernel
theorem d_La_law_1146 : decode b_La_law 1146 = .ok (.aload_n 0, 1) := by decide +kernel
theorem d_La_law_1147 : decode b_La_law 1147 = .ok (.iload 4, 2) := by decide +kernel
theorem d_La_law_1149 : decode b_La_law 1149 = .ok (.iconst 1, 1) := by decide +kernel
theorem d_La_law_1150 : decode b_La_law 1150 = .ok (.iadd, 1) := by decide +kernel
theorem d_La_law_1151 : decode b_La_law 1151 = .ok (.iaload, 1) := by decide +kernel
theorem d_La_law_1152 : decode b_La_law 1152 = .ok (.invokevirtual 129, 3) := by decide +kernel
theorem d_La_law_1155 : decode b_La_law 1155 = .ok (.if_icmp .eq 5, 3) := by decide +kernel
theorem d_La_law_1158 : decode b_La_law 1158 = .ok (.iconst 0, 1) := by decide +kernel
theorem d_La_law_1159 : decode b_La_law 1159 = .ok (.ireturn, 1) := by decide +kernel
theorem d_La_law_1160 : decode b_La_law 1160 = .ok (.iinc 4 7, 3) := by decide +kernel
theorem d_La_law_1163 : decode b_La_law 1163 = .ok (.goto (-1140), 3) := by decide +kernel
theorem d_La_law_1166 : decode b_La_law 1166 = .ok (.iconst 1, 1) := by decide +kernel
theorem d_La_law_1167 : decode b_La_law 1167 = .ok (.ireturn, 1) := by decide +kernel
end
section
/-- exactly this answer, exactly this state -/
abbrev pEq (v0 : Option SV) (ν0 : Nu) (ι0 : Io) (ρ0 : Ro) (ℓ0 : Lo) : PoT := fun v ν ι ρ ℓ => v0 = v ∧ ν0 = ν ∧ ι0 = ι ∧ ρ0 = ρ ∧ ℓ0 = ℓ
def b2 (p : Prop) [Decidable p] : Int32 := if p then 1 else 0
theorem b2_t {p : Prop} [Decidable p] (h : p) : b2 p = 1 := if_pos h
theorem b2_f {p : Prop} [Decidable p] (h : ¬ p) : b2 p = 0 := if_neg h
theorem b2_nar (p : Prop) [Decidable p] : narrow .boolean (.int (b2 p)) = .int (b2 p) := by unfold b2; split <;> rfl
theorem b2_fit (p : Prop) [Decidable p] : fits .boolean (.int (b2 p)) = true := by unfold b2; split <;> rfl
theorem b2_0 {p : Prop} [Decidable p] : b2 p = 0 ↔ ¬ p := by unfold b2; split <;> simp_all
theorem b2_n0 {p : Prop} [Decidable p] : ¬ b2 p = 0 ↔ p := by unfold b2; split <;> simp_all
theorem b2_1 {p : Prop} [Decidable p] : b2 p = 1 ↔ p := by unfold b2; split <;> simp_all
theorem b2_c {p q : Prop} [Decidable p] [Decidable q] (h : p ↔ q) : b2 p = b2 q := by unfold b2; simp [h]
theorem le_of_nlt {x y : Int32} (h : ¬ x < y) : y ≤ x := Int32.not_lt.mp h
theorem lt_of_nle {x y : Int32} (h : ¬ x ≤ y) : y < x := Int32.not_le.mp h
section Pick
variable {p : Program} {l : Launch} {e : Env} {R : Room} {s : State} {m : MethodId} {args : Array Value} {below : List Frame} {meth : Method} {c : Code} {D : GD} {B : Nat} {α0 : Ad} {ν0 : Nu} {nL : Nat} {Q : State → Prop} {cells slots : Nat} {ν : Nu} {ι ι' : Io} {ρ : Ro} {ℓ : Lo} {pc : Nat} {lv lv' : List (Nat × SV)} {st : List SV}
def spick (lv : List (Nat × SV)) (ks : List Nat) : List (Nat × SV) := ks.filterMap (fun k => lv[k]?)
theorem V_pick (ks : List Nat) (h : spick lv ks = lv') (k : V p l e R s m args below meth c D B α0 ν0 nL Q cells slots ν ι ρ ℓ pc lv' st) : V p l e R s m args below meth c D B α0 ν0 nL Q cells slots ν ι ρ ℓ pc lv st := by
  intro α H locs ls hR hS hl h0 h1 h2
  have hm : ∀ q ∈ lv', q ∈ lv := by
    intro q hq
    rw [← h] at hq
    obtain ⟨k9, -, hk9⟩ := List.mem_filterMap.mp hq
    exact List.mem_of_getElem? hk9
  refine k α H locs ls hR hS ⟨hl.1, hl.2.1, fun q hq => ?_⟩ h0 (fun v hv => ?_) h2
  · obtain ⟨z, hz, rfl⟩ := List.mem_map.mp hq
    exact hl.2.2 _ (List.mem_map.mpr ⟨z, hm z hz, rfl⟩)
  · obtain ⟨z, hz, rfl⟩ := List.mem_map.mp hv
    exact h1 _ (List.mem_map.mpr ⟨z, hm z hz, rfl⟩)
theorem V_io (h : ι = ι') (k : V p l e R s m args below meth c D B α0 ν0 nL Q cells slots ν ι' ρ ℓ pc lv st) : V p l e R s m args below meth c D B α0 ν0 nL Q cells slots ν ι ρ ℓ pc lv st := h ▸ k
end Pick
theorem up4_ne {β : Type} {f : Nat → Nat → Nat → Nat → β} {r i j k a b d q : Nat} {x : β} (h : ¬ (a = r ∧ b = i ∧ d = j ∧ q = k)) : up4 f r i j k x a b d q = f a b d q := if_neg h
theorem nI_lt' {a b : Nat} (hb : b < 2147483648) (ha : a < 2147483648) : ¬ nI b ≤ nI a ↔ a < b := by rw [nI_leI hb ha]; omega
theorem nI_ge' {a b : Nat} (hb : b < 2147483648) (ha : a < 2147483648) : nI b ≤ nI a ↔ b ≤ a := nI_leI hb ha
/-- the reference is there, with its arrays -/
def MoS (ν : Nu) (ρ : Ro) : Prop := ν 10 0 0 = some 42 ∧ (ρ 10 0 0 2 = some (42, 0, 0) ∧ ν 42 0 0 = some 13) ∧ (ρ 10 0 0 3 = some (43, 0, 0) ∧ ν 43 0 0 = some 104) ∧ (ρ 10 0 0 4 = some (44, 0, 0) ∧ ν 44 0 0 = some 104) ∧ (ρ 10 0 0 5 = some (45, 0, 0) ∧ ν 45 0 0 = some 104) ∧ (ρ 10 0 0 6 = some (46, 0, 0) ∧ ν 46 0 0 = some 13312) ∧ (ρ 10 0 0 7 = some (47, 0, 0) ∧ ν 47 0 0 = some 13) ∧ (ρ 10 0 0 8 = some (48, 0, 0) ∧ ν 48 0 0 = some 156) ∧ (ρ 10 0 0 9 = some (49, 0, 0) ∧ ν 49 0 0 = some 156) ∧ (ρ 10 0 0 10 = some (50, 0, 0) ∧ ν 50 0 0 = some 156) ∧ (ρ 10 0 0 11 = some (51, 0, 0) ∧ ν 51 0 0 = some 156) ∧ (ρ 10 0 0 12 = some (52, 0, 0) ∧ ν 52 0 0 = some 13) ∧ (ρ 10 0 0 13 = some (53, 0, 0) ∧ ν 53 0 0 = some 208) ∧ (ρ 10 0 0 14 = some (54, 0, 0) ∧ ν 54 0 0 = some 208) ∧ (ρ 10 0 0 15 = some (55, 0, 0) ∧ ν 55 0 0 = some 208) ∧ (ρ 10 0 0 16 = some (56, 0, 0) ∧ ν 56 0 0 = some 208) ∧ (ρ 10 0 0 17 = some (57, 0, 0) ∧ ν 57 0 0 = some 208) ∧ (ρ 10 0 0 19 = some (59, 0, 0) ∧ ν 59 0 0 = some 12) ∧ (ρ 10 0 0 21 = some (61, 0, 0) ∧ ν 61 0 0 = some 96) ∧ (ρ 10 0 0 22 = some (62, 0, 0) ∧ ν 62 0 0 = some 144) ∧ (ρ 10 0 0 23 = some (63, 0, 0) ∧ ν 63 0 0 = some 144) ∧ (ρ 10 0 0 24 = some (64, 0, 0) ∧ ν 64 0 0 = some 96) ∧ (ρ 10 0 0 33 = some (73, 0, 0) ∧ ν 73 0 0 = some 4096) ∧ (ρ 10 0 0 35 = some (75, 0, 0) ∧ ν 75 0 0 = some 144) ∧ (ρ 10 0 0 36 = some (76, 0, 0) ∧ ν 76 0 0 = some 144) ∧ (ρ 10 0 0 38 = some (78, 0, 0) ∧ ν 78 0 0 = some 1400)
theorem MoS.al {ν : Nu} {ρ : Ro} (h : MoS ν ρ) : ν 10 0 0 ≠ none := by rw [h.1]; exact fun z => by cases z
theorem MoS.r2 {ν : Nu} {ρ : Ro} (h : MoS ν ρ) : ρ 10 0 0 2 = some (42, 0, 0) := h.2.1.1
theorem MoS.n2 {ν : Nu} {ρ : Ro} (h : MoS ν ρ) : ν 42 0 0 = some 13 := h.2.1.2
theorem MoS.r3 {ν : Nu} {ρ : Ro} (h : MoS ν ρ) : ρ 10 0 0 3 = some (43, 0, 0) := h.2.2.1.1
theorem MoS.n3 {ν : Nu} {ρ : Ro} (h : MoS ν ρ) : ν 43 0 0 = some 104 := h.2.2.1.2
theorem MoS.r4 {ν : Nu} {ρ : Ro} (h : MoS ν ρ) : ρ 10 0 0 4 = some (44, 0, 0) := h.2.2.2.1.1
theorem MoS.n4 {ν : Nu} {ρ : Ro} (h : MoS ν ρ) : ν 44 0 0 = some 104 := h.2.2.2.1.2
theorem MoS.r5 {ν : Nu} {ρ : Ro} (h : MoS ν ρ) : ρ 10 0 0 5 = some (45, 0, 0) := h.2.2.2.2.1.1
theorem MoS.n5 {ν : Nu} {ρ : Ro} (h : MoS ν ρ) : ν 45 0 0 = some 104 := h.2.2.2.2.1.2
theorem MoS.r6 {ν : Nu} {ρ : Ro} (h : MoS ν ρ) : ρ 10 0 0 6 = some (46, 0, 0) := h.2.2.2.2.2.1.1
theorem MoS.n6 {ν : Nu} {ρ : Ro} (h : MoS ν ρ) : ν 46 0 0 = some 13312 := h.2.2.2.2.2.1.2
theorem MoS.r7 {ν : Nu} {ρ : Ro} (h : MoS ν ρ) : ρ 10 0 0 7 = some (47, 0, 0) := h.2.2.2.2.2.2.1.1
theorem MoS.n7 {ν : Nu} {ρ : Ro} (h : MoS ν ρ) : ν 47 0 0 = some 13 := h.2.2.2.2.2.2.1.2
theorem MoS.r8 {ν : Nu} {ρ : Ro} (h : MoS ν ρ) : ρ 10 0 0 8 = some (48, 0, 0) := h.2.2.2.2.2.2.2.1.1
theorem MoS.n8 {ν : Nu} {ρ : Ro} (h : MoS ν ρ) : ν 48 0 0 = some 156 := h.2.2.2.2.2.2.2.1.2
theorem MoS.r9 {ν : Nu} {ρ : Ro} (h : MoS ν ρ) : ρ 10 0 0 9 = some (49, 0, 0) := h.2.2.2.2.2.2.2.2.1.1
theorem MoS.n9 {ν : Nu} {ρ : Ro} (h : MoS ν ρ) : ν 49 0 0 = some 156 := h.2.2.2.2.2.2.2.2.1.2
theorem MoS.r10 {ν : Nu} {ρ : Ro} (h : MoS ν ρ) : ρ 10 0 0 10 = some (50, 0, 0) := h.2.2.2.2.2.2.2.2.2.1.1
theorem MoS.n10 {ν : Nu} {ρ : Ro} (h : MoS ν ρ) : ν 50 0 0 = some 156 := h.2.2.2.2.2.2.2.2.2.1.2
theorem MoS.r11 {ν : Nu} {ρ : Ro} (h : MoS ν ρ) : ρ 10 0 0 11 = some (51, 0, 0) := h.2.2.2.2.2.2.2.2.2.2.1.1
theorem MoS.n11 {ν : Nu} {ρ : Ro} (h : MoS ν ρ) : ν 51 0 0 = some 156 := h.2.2.2.2.2.2.2.2.2.2.1.2
theorem MoS.r12 {ν : Nu} {ρ : Ro} (h : MoS ν ρ) : ρ 10 0 0 12 = some (52, 0, 0) := h.2.2.2.2.2.2.2.2.2.2.2.1.1
theorem MoS.n12 {ν : Nu} {ρ : Ro} (h : MoS ν ρ) : ν 52 0 0 = some 13 := h.2.2.2.2.2.2.2.2.2.2.2.1.2
theorem MoS.r13 {ν : Nu} {ρ : Ro} (h : MoS ν ρ) : ρ 10 0 0 13 = some (53, 0, 0) := h.2.2.2.2.2.2.2.2.2.2.2.2.1.1
theorem MoS.n13 {ν : Nu} {ρ : Ro} (h : MoS ν ρ) : ν 53 0 0 = some 208 := h.2.2.2.2.2.2.2.2.2.2.2.2.1.2
theorem MoS.r14 {ν : Nu} {ρ : Ro} (h : MoS ν ρ) : ρ 10 0 0 14 = some (54, 0, 0) := h.2.2.2.2.2.2.2.2.2.2.2.2.2.1.1
theorem MoS.n14 {ν : Nu} {ρ : Ro} (h : MoS ν ρ) : ν 54 0 0 = some 208 := h.2.2.2.2.2.2.2.2.2.2.2.2.2.1.2
theorem MoS.r15 {ν : Nu} {ρ : Ro} (h : MoS ν ρ) : ρ 10 0 0 15 = some (55, 0, 0) := h.2.2.2.2.2.2.2.2.2.2.2.2.2.2.1.1
theorem MoS.n15 {ν : Nu} {ρ : Ro} (h : MoS ν ρ) : ν 55 0 0 = some 208 := h.2.2.2.2.2.2.2.2.2.2.2.2.2.2.1.2
theorem MoS.r16 {ν : Nu} {ρ : Ro} (h : MoS ν ρ) : ρ 10 0 0 16 = some (56, 0, 0) := h.2.2.2.2.2.2.2.2.2.2.2.2.2.2.2.1.1
theorem MoS.n16 {ν : Nu} {ρ : Ro} (h : MoS ν ρ) : ν 56 0 0 = some 208 := h.2.2.2.2.2.2.2.2.2.2.2.2.2.2.2.1.2
theorem MoS.r17 {ν : Nu} {ρ : Ro} (h : MoS ν ρ) : ρ 10 0 0 17 = some (57, 0, 0) := h.2.2.2.2.2.2.2.2.2.2.2.2.2.2.2.2.1.1
theorem MoS.n17 {ν : Nu} {ρ : Ro} (h : MoS ν ρ) : ν 57 0 0 = some 208 := h.2.2.2.2.2.2.2.2.2.2.2.2.2.2.2.2.1.2
theorem MoS.r19 {ν : Nu} {ρ : Ro} (h : MoS ν ρ) : ρ 10 0 0 19 = some (59, 0, 0) := h.2.2.2.2.2.2.2.2.2.2.2.2.2.2.2.2.2.1.1
theorem MoS.n19 {ν : Nu} {ρ : Ro} (h : MoS ν ρ) : ν 59 0 0 = some 12 := h.2.2.2.2.2.2.2.2.2.2.2.2.2.2.2.2.2.1.2
theorem MoS.r21 {ν : Nu} {ρ : Ro} (h : MoS ν ρ) : ρ 10 0 0 21 = some (61, 0, 0) := h.2.2.2.2.2.2.2.2.2.2.2.2.2.2.2.2.2.2.1.1
theorem MoS.n21 {ν : Nu} {ρ : Ro} (h : MoS ν ρ) : ν 61 0 0 = some 96 := h.2.2.2.2.2.2.2.2.2.2.2.2.2.2.2.2.2.2.1.2
theorem MoS.r22 {ν : Nu} {ρ : Ro} (h : MoS ν ρ) : ρ 10 0 0 22 = some (62, 0, 0) := h.2.2.2.2.2.2.2.2.2.2.2.2.2.2.2.2.2.2.2.1.1
theorem MoS.n22 {ν : Nu} {ρ : Ro} (h : MoS ν ρ) : ν 62 0 0 = some 144 := h.2.2.2.2.2.2.2.2.2.2.2.2.2.2.2.2.2.2.2.1.2
theorem MoS.r23 {ν : Nu} {ρ : Ro} (h : MoS ν ρ) : ρ 10 0 0 23 = some (63, 0, 0) := h.2.2.2.2.2.2.2.2.2.2.2.2.2.2.2.2.2.2.2.2.1.1
theorem MoS.n23 {ν : Nu} {ρ : Ro} (h : MoS ν ρ) : ν 63 0 0 = some 144 := h.2.2.2.2.2.2.2.2.2.2.2.2.2.2.2.2.2.2.2.2.1.2
theorem MoS.r24 {ν : Nu} {ρ : Ro} (h : MoS ν ρ) : ρ 10 0 0 24 = some (64, 0, 0) := h.2.2.2.2.2.2.2.2.2.2.2.2.2.2.2.2.2.2.2.2.2.1.1
theorem MoS.n24 {ν : Nu} {ρ : Ro} (h : MoS ν ρ) : ν 64 0 0 = some 96 := h.2.2.2.2.2.2.2.2.2.2.2.2.2.2.2.2.2.2.2.2.2.1.2
theorem MoS.r33 {ν : Nu} {ρ : Ro} (h : MoS ν ρ) : ρ 10 0 0 33 = some (73, 0, 0) := h.2.2.2.2.2.2.2.2.2.2.2.2.2.2.2.2.2.2.2.2.2.2.1.1
theorem MoS.n33 {ν : Nu} {ρ : Ro} (h : MoS ν ρ) : ν 73 0 0 = some 4096 := h.2.2.2.2.2.2.2.2.2.2.2.2.2.2.2.2.2.2.2.2.2.2.1.2
theorem MoS.r35 {ν : Nu} {ρ : Ro} (h : MoS ν ρ) : ρ 10 0 0 35 = some (75, 0, 0) := h.2.2.2.2.2.2.2.2.2.2.2.2.2.2.2.2.2.2.2.2.2.2.2.1.1
theorem MoS.n35 {ν : Nu} {ρ : Ro} (h : MoS ν ρ) : ν 75 0 0 = some 144 := h.2.2.2.2.2.2.2.2.2.2.2.2.2.2.2.2.2.2.2.2.2.2.2.1.2
theorem MoS.r36 {ν : Nu} {ρ : Ro} (h : MoS ν ρ) : ρ 10 0 0 36 = some (76, 0, 0) := h.2.2.2.2.2.2.2.2.2.2.2.2.2.2.2.2.2.2.2.2.2.2.2.2.1.1
theorem MoS.n36 {ν : Nu} {ρ : Ro} (h : MoS ν ρ) : ν 76 0 0 = some 144 := h.2.2.2.2.2.2.2.2.2.2.2.2.2.2.2.2.2.2.2.2.2.2.2.2.1.2
theorem MoS.r38 {ν : Nu} {ρ : Ro} (h : MoS ν ρ) : ρ 10 0 0 38 = some (78, 0, 0) := h.2.2.2.2.2.2.2.2.2.2.2.2.2.2.2.2.2.2.2.2.2.2.2.2.2.1
theorem MoS.n38 {ν : Nu} {ρ : Ro} (h : MoS ν ρ) : ν 78 0 0 = some 1400 := h.2.2.2.2.2.2.2.2.2.2.2.2.2.2.2.2.2.2.2.2.2.2.2.2.2.2
/-- an array's (or a field's) numbers are small naturals -/
def bd (ι : Io) (r N M : Nat) : Prop := ∀ t, t < N → ∃ a, a ≤ M ∧ ι r 0 0 t = nI a
def mn (ι : Io) (r t : Nat) : Nat := (ι r 0 0 t).toNatClampNeg
theorem bd.eq {ι : Io} {r N M t : Nat} (h : bd ι r N M) (ht : t < N) (hM : M < 2147483648 := by decide) : ι r 0 0 t = nI (mn ι r t) := by
  obtain ⟨a, h1, h2⟩ := h t ht
  unfold mn
  rw [h2, nI_clamp (by omega)]
theorem bd.le {ι : Io} {r N M t : Nat} (h : bd ι r N M) (ht : t < N) (hM : M < 2147483648 := by decide) : mn ι r t ≤ M := by
  obtain ⟨a, h1, h2⟩ := h t ht
  unfold mn
  rw [h2, nI_clamp (by omega)]
  exact h1
theorem ixa (c a b : Nat) : nI c * nI a + nI b = nI (c * a + b) := by rw [pk_mul, nI_add]
/-- n places from a on of the array r become x -/
def fil (ι : Io) (r a n : Nat) (x : Int32) : Io := fun r' i j k => if r' = r ∧ i = 0 ∧ j = 0 ∧ a ≤ k ∧ k < a + n then x else ι r' i j k
theorem fil_0 {ι : Io} {r a : Nat} {x : Int32} : fil ι r a 0 x = ι := by
  funext r' i j k
  unfold fil
  exact if_neg (by omega)
theorem fil_s {ι : Io} {r a n : Nat} {x : Int32} : up4 (fil ι r a n x) r 0 0 (a + n) x = fil ι r a (n + 1) x := by
  funext r' i j k
  unfold up4 fil
  grind
end
section
set_option maxHeartbeats 1000000 in
set_option maxRecDepth 10000 in
theorem c_Mo_within {ν : Nu} {ι : Io} {ρ : Ro} {ℓ : Lo} {v a b : Int32} : Ct y_Mo_within (Cond.code y_Mo_within b_Mo_within 3 (some .boolean) :: tb_) { frames := 0, cells := 0, slots := 0, locals := 0 } [sI v, sI a, sI b] ν ι ρ ℓ (pEq (some (sI (b2 (a ≤ v ∧ v ≤ b)))) ν ι ρ ℓ) (noX) := by
  refine Ct.ofV (by decide) (Nat.le_of_ble_eq_true rfl) rfl ?_
  intro p l e s m args below meth c D B tW α0 Q C hQ
  refine V_iload_n C d_Mo_within_0 rfl ?_
  refine V_iload_n C d_Mo_within_1 rfl ?_
  refine V_icmp_lt (tgt := 14) C d_Mo_within_2 (by decide) (fun h2 => ?_) (fun h2 => ?_)
  · refine V_iconst (v := 0) C d_Mo_within_14 (by decide) ?_
    refine V_zret C hQ (by decide) (by decide) d_Mo_within_15 rfl rfl ?_
    refine ⟨congrArg (fun z => some (sI z)) ?_, rfl, rfl, rfl, rfl⟩
    clear hQ C; unfold b2 at *; grind
  · refine V_iload_n C d_Mo_within_5 rfl ?_
    refine V_iload_n C d_Mo_within_6 rfl ?_
    refine V_icmp_gt (tgt := 14) C d_Mo_within_7 (by decide) (fun h7 => ?_) (fun h7 => ?_)
    · refine V_iconst (v := 0) C d_Mo_within_14 (by decide) ?_
      refine V_zret C hQ (by decide) (by decide) d_Mo_within_15 rfl rfl ?_
      refine ⟨congrArg (fun z => some (sI z)) ?_, rfl, rfl, rfl, rfl⟩
      clear hQ C; unfold b2 at *; grind
    · refine V_iconst (v := 1) C d_Mo_within_10 (by decide) ?_
      refine V_goto (tgt := 15) C d_Mo_within_11 (by decide) ?_
      refine V_zret C hQ (by decide) (by decide) d_Mo_within_15 rfl rfl ?_
      refine ⟨congrArg (fun z => some (sI z)) ?_, rfl, rfl, rfl, rfl⟩
      clear hQ C; unfold b2 at *; grind
set_option maxHeartbeats 1000000 in
set_option maxRecDepth 10000 in
theorem c_Mo_thrown {ν : Nu} {ι : Io} {ρ : Ro} {ℓ : Lo} (hM : MoS ν ρ) : Ct y_Mo_thrown (Cond.code y_Mo_thrown b_Mo_thrown 1 (some .int) :: tb_) { frames := 0, cells := 0, slots := 0, locals := 0 } [sR 10 0 0] ν ι ρ ℓ (pEq (some (sI (ι 10 0 0 0))) ν ι ρ ℓ) (noX) := by
  refine Ct.ofV (by decide) (Nat.le_of_ble_eq_true rfl) rfl ?_
  intro p l e s m args below meth c D B tW α0 Q C hQ
  refine V_aload_n C d_Mo_thrown_0 rfl ?_
  refine V_getI (kx := 0) C d_Mo_thrown_1 cf_Mo (by decide) k_Mo_93 hM.al rfl ?_
  refine V_iret C hQ (by decide) (by decide) d_Mo_thrown_4 rfl ?_
  exact ⟨rfl, rfl, rfl, rfl, rfl⟩
set_option maxHeartbeats 1000000 in
set_option maxRecDepth 10000 in
theorem c_Mo_fail {ν : Nu} {ι : Io} {ρ : Ro} {ℓ : Lo} (hM : MoS ν ρ) {x : Int32} : Ct y_Mo_fail (Cond.code y_Mo_fail b_Mo_fail 2 (some .int) :: tb_) { frames := 0, cells := 0, slots := 0, locals := 0 } [sR 10 0 0, sI x] ν ι ρ ℓ (pEq (some (sI 0)) ν (up4 ι 10 0 0 0 x) ρ ℓ) (noX) := by
  refine Ct.ofV (by decide) (Nat.le_of_ble_eq_true rfl) rfl ?_
  intro p l e s m args below meth c D B tW α0 Q C hQ
  refine V_aload_n C d_Mo_fail_0 rfl ?_
  refine V_iload_n C d_Mo_fail_1 rfl ?_
  refine V_putI (kx := 0) C d_Mo_fail_2 cf_Mo (by decide) k_Mo_93 hM.al rfl rfl rfl rfl ?_
  refine V_iconst (v := 0) C d_Mo_fail_5 (by decide) ?_
  refine V_iret C hQ (by decide) (by decide) d_Mo_fail_6 rfl ?_
  exact ⟨rfl, rfl, rfl, rfl, rfl⟩
set_option maxHeartbeats 1000000 in
set_option maxRecDepth 10000 in
theorem c_Mo_isSection {ν : Nu} {ι : Io} {ρ : Ro} {ℓ : Lo} {k q n : Int32} : Ct y_Mo_isSection (Cond.code y_Mo_isSection b_Mo_isSection 3 (some .boolean) :: tb_) { frames := 1, cells := 0, slots := 0, locals := 22 } [sI k, sI q, sI n] ν ι ρ ℓ (pEq (some (sI (b2 ((0 ≤ k ∧ k ≤ 3) ∧ (0 ≤ q ∧ q ≤ 6) ∧ (0 ≤ n ∧ n ≤ 128))))) ν ι ρ ℓ) (noX) := by
  refine Ct.ofV (by decide) (Nat.le_of_ble_eq_true rfl) rfl ?_
  intro p l e s m args below meth c D B tW α0 Q C hQ
  refine V_iload_n C d_Mo_isSection_0 rfl ?_
  refine V_iconst (v := 0) C d_Mo_isSection_1 (by decide) ?_
  refine V_iconst (v := 3) C d_Mo_isSection_2 (by decide) ?_
  refine V_callS (as := [_, _, _]) C d_Mo_isSection_3 c_Mo_within m_Mo_within k_Mo_99 ⟨by decide, by decide⟩ (Nat.le_of_ble_eq_true rfl) ⟨by decide, by decide⟩ rfl ?_
  rintro _ _ _ _ _ ⟨rfl, rfl, rfl, rfl, rfl⟩
  dsimp only [Option.toList, List.cons_append, List.nil_append]
  refine V_if_eq (tgt := 34) C d_Mo_isSection_6 (by decide) (fun h6 => ?_) (fun h6 => ?_)
  · refine V_iconst (v := 0) C d_Mo_isSection_34 (by decide) ?_
    refine V_zret C hQ (by decide) (by decide) d_Mo_isSection_35 rfl rfl ?_
    refine ⟨congrArg (fun z => some (sI z)) ?_, rfl, rfl, rfl, rfl⟩
    clear hQ C; unfold b2 at *; grind
  · refine V_iload_n C d_Mo_isSection_9 rfl ?_
    refine V_iconst (v := 0) C d_Mo_isSection_10 (by decide) ?_
    refine V_bipush (v := 6) C d_Mo_isSection_11 (by decide) ?_
    refine V_callS (as := [_, _, _]) C d_Mo_isSection_13 c_Mo_within m_Mo_within k_Mo_99 ⟨by decide, by decide⟩ (Nat.le_of_ble_eq_true rfl) ⟨by decide, by decide⟩ rfl ?_
    rintro _ _ _ _ _ ⟨rfl, rfl, rfl, rfl, rfl⟩
    dsimp only [Option.toList, List.cons_append, List.nil_append]
    refine V_if_eq (tgt := 34) C d_Mo_isSection_16 (by decide) (fun h16 => ?_) (fun h16 => ?_)
    · refine V_iconst (v := 0) C d_Mo_isSection_34 (by decide) ?_
      refine V_zret C hQ (by decide) (by decide) d_Mo_isSection_35 rfl rfl ?_
      refine ⟨congrArg (fun z => some (sI z)) ?_, rfl, rfl, rfl, rfl⟩
      clear hQ C; unfold b2 at *; grind
    · refine V_iload_n C d_Mo_isSection_19 rfl ?_
      refine V_iconst (v := 0) C d_Mo_isSection_20 (by decide) ?_
      refine V_sipush (v := 128) C d_Mo_isSection_21 (by decide) ?_
      refine V_callS (as := [_, _, _]) C d_Mo_isSection_24 c_Mo_within m_Mo_within k_Mo_99 ⟨by decide, by decide⟩ (Nat.le_of_ble_eq_true rfl) ⟨by decide, by decide⟩ rfl ?_
      rintro _ _ _ _ _ ⟨rfl, rfl, rfl, rfl, rfl⟩
      dsimp only [Option.toList, List.cons_append, List.nil_append]
      refine V_if_eq (tgt := 34) C d_Mo_isSection_27 (by decide) (fun h27 => ?_) (fun h27 => ?_)
      · refine V_iconst (v := 0) C d_Mo_isSection_34 (by decide) ?_
        refine V_zret C hQ (by decide) (by decide) d_Mo_isSection_35 rfl rfl ?_
        refine ⟨congrArg (fun z => some (sI z)) ?_, rfl, rfl, rfl, rfl⟩
        clear hQ C; unfold b2 at *; grind
      · refine V_iconst (v := 1) C d_Mo_isSection_30 (by decide) ?_
        refine V_goto (tgt := 35) C d_Mo_isSection_31 (by decide) ?_
        refine V_zret C hQ (by decide) (by decide) d_Mo_isSection_35 rfl rfl ?_
        refine ⟨congrArg (fun z => some (sI z)) ?_, rfl, rfl, rfl, rfl⟩
        clear hQ C; unfold b2 at *; grind
end
section
abbrev isOb (ι : Io) (o : Int32) : Prop := 0 ≤ o ∧ o ≤ ι 10 0 0 1 - 1
theorem isOb_of {ι : Io} {o : Int32} {n : Nat} (hn : ι 10 0 0 1 = nI n) (h12 : n ≤ 12) (h : isOb ι o) : ∃ t, t < n ∧ o = nI t := by
  obtain ⟨h1, h2⟩ := h
  rw [hn] at h2
  have e : (nI n - 1).toInt = (n : Int) - 1 := pk_sub_toInt (a := n) (b := 1) (by omega) (by decide)
  have h3 := Int32.le_iff_toInt_le.mp h2
  have h4 := Int32.le_iff_toInt_le.mp h1
  rw [e] at h3
  have z : (0 : Int32).toInt = 0 := rfl
  rw [z] at h4
  refine ⟨o.toInt.toNat, by omega, ?_⟩
  apply Int32.toInt_inj.mp
  rw [nI_toInt (by omega)]
  omega
theorem isOb_to {ι : Io} {t n : Nat} (hn : ι 10 0 0 1 = nI n) (h12 : n ≤ 12) (h : t < n) : isOb ι (nI t) := by
  unfold isOb
  rw [hn]
  refine ⟨nI_pos' (by omega), Int32.le_iff_toInt_le.mpr ?_⟩
  rw [show (nI n - 1).toInt = (n : Int) - 1 from pk_sub_toInt (a := n) (b := 1) (by omega) (by decide), nI_toInt (by omega)]
  omega
def mEmpty (ι : Io) (t : Nat) : Io := up4 (up4 (up4 ι 42 0 0 t 0) 47 0 0 t 0) 52 0 0 t 0
def mAddSec (ι : Io) (t : Nat) (k q n : Int32) : Io := up4 (fil (up4 (up4 (up4 ι 43 0 0 (8 * t + mn ι 42 t) k) 44 0 0 (8 * t + mn ι 42 t) q) 45 0 0 (8 * t + mn ι 42 t) n) 46 (128 * (8 * t + mn ι 42 t)) 128 0) 42 0 0 t (ι 42 0 0 t + 1)
set_option maxHeartbeats 1000000 in
set_option maxRecDepth 10000 in
theorem c_Mo_isObject {ν : Nu} {ι : Io} {ρ : Ro} {ℓ : Lo} (hM : MoS ν ρ) {o : Int32} : Ct y_Mo_isObject (Cond.code y_Mo_isObject b_Mo_isObject 2 (some .boolean) :: tb_) { frames := 1, cells := 0, slots := 0, locals := 22 } [sR 10 0 0, sI o] ν ι ρ ℓ (pEq (some (sI (b2 (isOb ι o)))) ν (up4 ι 10 0 0 0 (if isOb ι o then 0 else 1)) ρ ℓ) (noX) := by
  refine Ct.ofV (by decide) (Nat.le_of_ble_eq_true rfl) rfl ?_
  intro p l e s m args below meth c D B tW α0 Q C hQ
  refine V_aload_n C d_Mo_isObject_0 rfl ?_
  refine V_iload_n C d_Mo_isObject_1 rfl ?_
  refine V_iconst (v := 0) C d_Mo_isObject_2 (by decide) ?_
  refine V_aload_n C d_Mo_isObject_3 rfl ?_
  refine V_getI (kx := 1) C d_Mo_isObject_4 cf_Mo (by decide) k_Mo_96 hM.al rfl ?_
  refine V_iconst (v := 1) C d_Mo_isObject_7 (by decide) ?_
  refine V_isub C d_Mo_isObject_8 ?_
  refine V_callS (as := [_, _, _]) C d_Mo_isObject_9 c_Mo_within m_Mo_within k_Mo_99 ⟨by decide, by decide⟩ (Nat.le_of_ble_eq_true rfl) ⟨by decide, by decide⟩ rfl ?_
  rintro _ _ _ _ _ ⟨rfl, rfl, rfl, rfl, rfl⟩
  dsimp only [Option.toList, List.cons_append, List.nil_append]
  refine V_if_eq (tgt := 19) C d_Mo_isObject_12 (by decide) (fun h12 => ?_) (fun h12 => ?_)
  · refine V_iconst (v := 1) C d_Mo_isObject_19 (by decide) ?_
    refine V_putI (kx := 0) C d_Mo_isObject_20 cf_Mo (by decide) k_Mo_93 hM.al rfl rfl rfl rfl ?_
    refine V_aload_n C d_Mo_isObject_23 rfl ?_
    refine V_getI (kx := 0) C d_Mo_isObject_24 cf_Mo (by decide) k_Mo_93 hM.al rfl ?_
    refine V_if_ne (tgt := 34) C d_Mo_isObject_27 (by decide) (fun h27 => ?_) (fun h27 => ?_)
    · refine V_iconst (v := 0) C d_Mo_isObject_34 (by decide) ?_
      refine V_zret C hQ (by decide) (by decide) d_Mo_isObject_35 rfl rfl ?_
      refine ⟨congrArg (fun z => some (sI z)) ?_, rfl, congrArg (up4 ι 10 0 0 0) ?_, rfl, rfl⟩ <;> (clear hQ C; simp only [up4_s] at *; unfold b2 at *; grind)
    · refine V_iconst (v := 1) C d_Mo_isObject_30 (by decide) ?_
      refine V_goto (tgt := 35) C d_Mo_isObject_31 (by decide) ?_
      refine V_zret C hQ (by decide) (by decide) d_Mo_isObject_35 rfl rfl ?_
      refine ⟨congrArg (fun z => some (sI z)) ?_, rfl, congrArg (up4 ι 10 0 0 0) ?_, rfl, rfl⟩ <;> (clear hQ C; simp only [up4_s] at *; unfold b2 at *; grind)
  · refine V_iconst (v := 0) C d_Mo_isObject_15 (by decide) ?_
    refine V_goto (tgt := 20) C d_Mo_isObject_16 (by decide) ?_
    refine V_putI (kx := 0) C d_Mo_isObject_20 cf_Mo (by decide) k_Mo_93 hM.al rfl rfl rfl rfl ?_
    refine V_aload_n C d_Mo_isObject_23 rfl ?_
    refine V_getI (kx := 0) C d_Mo_isObject_24 cf_Mo (by decide) k_Mo_93 hM.al rfl ?_
    refine V_if_ne (tgt := 34) C d_Mo_isObject_27 (by decide) (fun h27 => ?_) (fun h27 => ?_)
    · refine V_iconst (v := 0) C d_Mo_isObject_34 (by decide) ?_
      refine V_zret C hQ (by decide) (by decide) d_Mo_isObject_35 rfl rfl ?_
      refine ⟨congrArg (fun z => some (sI z)) ?_, rfl, congrArg (up4 ι 10 0 0 0) ?_, rfl, rfl⟩ <;> (clear hQ C; simp only [up4_s] at *; unfold b2 at *; grind)
    · refine V_iconst (v := 1) C d_Mo_isObject_30 (by decide) ?_
      refine V_goto (tgt := 35) C d_Mo_isObject_31 (by decide) ?_
      refine V_zret C hQ (by decide) (by decide) d_Mo_isObject_35 rfl rfl ?_
      refine ⟨congrArg (fun z => some (sI z)) ?_, rfl, congrArg (up4 ι 10 0 0 0) ?_, rfl, rfl⟩ <;> (clear hQ C; simp only [up4_s] at *; unfold b2 at *; grind)
set_option maxHeartbeats 1000000 in
set_option maxRecDepth 10000 in
theorem c_Mo_emptyObject {ν : Nu} {ι : Io} {ρ : Ro} {ℓ : Lo} (hM : MoS ν ρ) {t : Nat} (ht : t < 13) : Ct y_Mo_emptyObject (Cond.code y_Mo_emptyObject b_Mo_emptyObject 2 none :: tb_) { frames := 0, cells := 0, slots := 0, locals := 0 } [sR 10 0 0, sI (nI t)] ν ι ρ ℓ (pEq none ν (mEmpty ι t) ρ ℓ) (noX) := by
  refine Ct.ofV (by decide) (Nat.le_of_ble_eq_true rfl) rfl ?_
  intro p l e s m args below meth c D B tW α0 Q C hQ
  refine V_aload_n C d_Mo_emptyObject_0 rfl ?_
  refine V_getR (kx := 2) C d_Mo_emptyObject_1 cf_Mo (by decide) k_Mo_7 hM.al rfl hM.r2 ?_
  refine V_iload_n C d_Mo_emptyObject_4 rfl ?_
  refine V_iconst (v := 0) C d_Mo_emptyObject_5 (by decide) ?_
  refine V_iast C d_Mo_emptyObject_6 (by decide) rfl hM.n2 rfl (by assumption) rfl ?_
  refine V_aload_n C d_Mo_emptyObject_7 rfl ?_
  refine V_getR (kx := 7) C d_Mo_emptyObject_8 cf_Mo (by decide) k_Mo_25 hM.al rfl hM.r7 ?_
  refine V_iload_n C d_Mo_emptyObject_11 rfl ?_
  refine V_iconst (v := 0) C d_Mo_emptyObject_12 (by decide) ?_
  refine V_iast C d_Mo_emptyObject_13 (by decide) rfl hM.n7 rfl (by assumption) rfl ?_
  refine V_aload_n C d_Mo_emptyObject_14 rfl ?_
  refine V_getR (kx := 12) C d_Mo_emptyObject_15 cf_Mo (by decide) k_Mo_40 hM.al rfl hM.r12 ?_
  refine V_iload_n C d_Mo_emptyObject_18 rfl ?_
  refine V_iconst (v := 0) C d_Mo_emptyObject_19 (by decide) ?_
  refine V_iast C d_Mo_emptyObject_20 (by decide) rfl hM.n12 rfl (by assumption) rfl ?_
  refine V_vret C hQ (by decide) (by decide) d_Mo_emptyObject_21 rfl ?_
  exact ⟨rfl, rfl, rfl, rfl, rfl⟩
set_option maxHeartbeats 1000000 in
set_option maxRecDepth 10000 in
theorem c_Mo_object {ν : Nu} {ι : Io} {ρ : Ro} {ℓ : Lo} (hM : MoS ν ρ) {n : Nat} (hn : ι 10 0 0 1 = nI n) (h12 : n ≤ 12) : Ct y_Mo_object (Cond.code y_Mo_object b_Mo_object 1 (some .int) :: tb_) { frames := 1, cells := 0, slots := 0, locals := 21 } [sR 10 0 0] ν ι ρ ℓ (pEq (some (sI (if n = 12 then 0 else nI n))) ν (if n = 12 then up4 (up4 ι 10 0 0 0 0) 10 0 0 0 1 else up4 (mEmpty (up4 ι 10 0 0 0 0) n) 10 0 0 1 (nI (n + 1))) ρ ℓ) (noX) := by
  refine Ct.ofV (by decide) (Nat.le_of_ble_eq_true rfl) rfl ?_
  intro p l e s m args below meth c D B tW α0 Q C hQ
  refine V_aload_n C d_Mo_object_0 rfl ?_
  refine V_iconst (v := 0) C d_Mo_object_1 (by decide) ?_
  refine V_putI (kx := 0) C d_Mo_object_2 cf_Mo (by decide) k_Mo_93 hM.al rfl rfl rfl rfl ?_
  refine V_aload_n C d_Mo_object_5 rfl ?_
  refine V_getI (kx := 1) C d_Mo_object_6 cf_Mo (by decide) k_Mo_96 hM.al rfl ?_
  refine V_bipush (v := 12) C d_Mo_object_9 (by decide) ?_
  rw [up4_ne (by decide), hn]
  refine V_icmp_ne (tgt := 20) C d_Mo_object_11 (by decide) (fun h11 => ?_) (fun h11 => ?_)
  · refine V_aload_n C d_Mo_object_20 rfl ?_
    refine V_aload_n C d_Mo_object_21 rfl ?_
    refine V_getI (kx := 1) C d_Mo_object_22 cf_Mo (by decide) k_Mo_96 hM.al rfl ?_
    rw [up4_ne (by decide), hn]
    refine V_callV (as := [_]) C d_Mo_object_25 (c_Mo_emptyObject hM (t := n) (by have : n ≠ 12 := fun z => h11 (by rw [z]; rfl); omega)) m_Mo_emptyObject cf_Mo k_Mo_107 hM.al ⟨by decide, by decide⟩ (Nat.le_of_ble_eq_true rfl) ⟨by decide, by decide⟩ rfl ?_
    rintro _ _ _ _ _ ⟨rfl, rfl, rfl, rfl, rfl⟩
    dsimp only [Option.toList, List.cons_append, List.nil_append]
    refine V_aload_n C d_Mo_object_28 rfl ?_
    refine V_dup C d_Mo_object_29 rfl ?_
    refine V_getI (kx := 1) C d_Mo_object_30 cf_Mo (by decide) k_Mo_96 hM.al rfl ?_
    refine V_iconst (v := 1) C d_Mo_object_33 (by decide) ?_
    rw [show mEmpty (up4 ι 10 0 0 0 0) n 10 0 0 1 = nI n from hn]
    refine V_iadd C d_Mo_object_34 ?_
    refine V_eqi (nI_1 n) ?_
    refine V_putI (kx := 1) C d_Mo_object_35 cf_Mo (by decide) k_Mo_96 hM.al rfl rfl rfl rfl ?_
    refine V_aload_n C d_Mo_object_38 rfl ?_
    refine V_getI (kx := 1) C d_Mo_object_39 cf_Mo (by decide) k_Mo_96 hM.al rfl ?_
    rw [up4_s]
    refine V_iconst (v := 1) C d_Mo_object_42 (by decide) ?_
    refine V_isub C d_Mo_object_43 ?_
    refine V_iret C hQ (by decide) (by decide) d_Mo_object_44 rfl ?_
    have e12 : n ≠ 12 := fun z => h11 (by rw [z]; rfl)
    rw [if_neg e12, if_neg e12]
    exact ⟨congrArg (fun z => some (sI z)) (nI_pred n).symm, rfl, rfl, rfl, rfl⟩
  · refine V_aload_n C d_Mo_object_14 rfl ?_
    refine V_iconst (v := 1) C d_Mo_object_15 (by decide) ?_
    refine V_callV (as := [_]) C d_Mo_object_16 (c_Mo_fail hM) m_Mo_fail cf_Mo k_Mo_103 hM.al ⟨by decide, by decide⟩ (Nat.le_of_ble_eq_true rfl) ⟨by decide, by decide⟩ rfl ?_
    rintro _ _ _ _ _ ⟨rfl, rfl, rfl, rfl, rfl⟩
    dsimp only [Option.toList, List.cons_append, List.nil_append]
    refine V_iret C hQ (by decide) (by decide) d_Mo_object_19 rfl ?_
    have e12 : n = 12 := (nI_eq (by omega) (by decide)).mp h11
    rw [if_pos e12, if_pos e12]
    exact ⟨rfl, rfl, rfl, rfl, rfl⟩
set_option maxHeartbeats 1000000 in
set_option maxRecDepth 10000 in
theorem c_Mo_hasSection {ν : Nu} {ι : Io} {ρ : Ro} {ℓ : Lo} (hM : MoS ν ρ) {t : Nat} (ht : t < 13) {x : Int32} : Ct y_Mo_hasSection (Cond.code y_Mo_hasSection b_Mo_hasSection 3 (some .boolean) :: tb_) { frames := 1, cells := 0, slots := 0, locals := 22 } [sR 10 0 0, sI (nI t), sI x] ν ι ρ ℓ (pEq (some (sI (b2 (0 ≤ x ∧ x ≤ ι 42 0 0 t - 1)))) ν ι ρ ℓ) (noX) := by
  refine Ct.ofV (by decide) (Nat.le_of_ble_eq_true rfl) rfl ?_
  intro p l e s m args below meth c D B tW α0 Q C hQ
  refine V_iload_n C d_Mo_hasSection_0 rfl ?_
  refine V_iconst (v := 0) C d_Mo_hasSection_1 (by decide) ?_
  refine V_aload_n C d_Mo_hasSection_2 rfl ?_
  refine V_getR (kx := 2) C d_Mo_hasSection_3 cf_Mo (by decide) k_Mo_7 hM.al rfl hM.r2 ?_
  refine V_iload_n C d_Mo_hasSection_6 rfl ?_
  refine V_iald C d_Mo_hasSection_7 (by decide) rfl hM.n2 rfl (by assumption) rfl ?_
  refine V_iconst (v := 1) C d_Mo_hasSection_8 (by decide) ?_
  refine V_isub C d_Mo_hasSection_9 ?_
  refine V_callS (as := [_, _, _]) C d_Mo_hasSection_10 c_Mo_within m_Mo_within k_Mo_99 ⟨by decide, by decide⟩ (Nat.le_of_ble_eq_true rfl) ⟨by decide, by decide⟩ rfl ?_
  rintro _ _ _ _ _ ⟨rfl, rfl, rfl, rfl, rfl⟩
  dsimp only [Option.toList, List.cons_append, List.nil_append]
  refine V_zret C hQ (by decide) (by decide) d_Mo_hasSection_13 rfl (b2_nar _) ?_
  exact ⟨rfl, rfl, rfl, rfl, rfl⟩
set_option maxHeartbeats 1000000 in
set_option maxRecDepth 10000 in
theorem c_Mo_addSection {ν : Nu} {ι : Io} {ρ : Ro} {ℓ : Lo} (hM : MoS ν ρ) (hb : bd ι 42 13 8) {t : Nat} (ht : t < 13) (h7 : mn ι 42 t < 8) {k q n : Int32} : Ct y_Mo_addSection (Cond.code y_Mo_addSection b_Mo_addSection 7 none :: tb_) { frames := 0, cells := 0, slots := 0, locals := 0 } [sR 10 0 0, sI (nI t), sI k, sI q, sI n] ν ι ρ ℓ (pEq none ν (mAddSec ι t k q n) ρ ℓ) (noX) := by
  refine Ct.ofV (by decide) (Nat.le_of_ble_eq_true rfl) rfl ?_
  intro p l e s m args below meth c D B tW α0 Q C hQ
  have hle := hb.le ht
  have loop : ∀ (f : Nat) (i : Nat), 128 - i < f → (i ≤ 128) → V p l e { frames := 0, cells := 0, slots := 0, locals := 0 } s m args below meth c D B α0 ν 7 Q 0 0 ν (fil (up4 (up4 (up4 ι 43 0 0 (8 * t + mn ι 42 t) k) 44 0 0 (8 * t + mn ι 42 t) q) 45 0 0 (8 * t + mn ι 42 t) n) 46 (128 * (8 * t + mn ι 42 t)) i 0) ρ ℓ 41 [(6, sI (nI i)), (5, sI (nI (8 * t + mn ι 42 t))), (0, sR 10 0 0), (1, sI (nI t)), (2, sI k), (3, sI q), (4, sI n)] [] := by
    intro f
    induction f with
    | zero => intros; omega
    | succ f ih =>
      intro i hf hi0
      refine V_iload C d_Mo_addSection_41 rfl ?_
      refine V_sipush (v := 128) C d_Mo_addSection_43 (by decide) ?_
      refine V_icmp_ge (tgt := 70) C d_Mo_addSection_46 (by decide) (fun h46 => ?_) (fun h46 => ?_)
      · have hi : i = 128 := by have := (nI_leI (a := 128) (b := i) (by decide) (by omega)).mp h46; omega
        subst hi
        refine V_aload_n C d_Mo_addSection_70 rfl ?_
        refine V_getR (kx := 2) C d_Mo_addSection_71 cf_Mo (by decide) k_Mo_7 hM.al rfl hM.r2 ?_
        refine V_iload_n C d_Mo_addSection_74 rfl ?_
        refine V_dup2 C d_Mo_addSection_75 rfl rfl ?_
        refine V_iald C d_Mo_addSection_76 (by decide) rfl hM.n2 rfl ht rfl ?_
        refine V_iconst (v := 1) C d_Mo_addSection_77 (by decide) ?_
        refine V_iadd C d_Mo_addSection_78 ?_
        refine V_iast C d_Mo_addSection_79 (by decide) rfl hM.n2 rfl ht rfl ?_
        refine V_vret C hQ (by decide) (by decide) d_Mo_addSection_80 rfl ?_
        exact ⟨rfl, rfl, rfl, rfl, rfl⟩
      · have hi : i < 128 := Nat.lt_of_not_le fun z => h46 ((nI_leI (a := 128) (b := i) (by decide) (by omega)).mpr z)
        refine V_aload_n C d_Mo_addSection_49 rfl ?_
        refine V_getR (kx := 6) C d_Mo_addSection_50 cf_Mo (by decide) k_Mo_22 hM.al rfl hM.r6 ?_
        refine V_sipush (v := 128) C d_Mo_addSection_53 (by decide) ?_
        refine V_iload C d_Mo_addSection_56 rfl ?_
        refine V_imul C d_Mo_addSection_58 ?_
        refine V_iload C d_Mo_addSection_59 rfl ?_
        refine V_iadd C d_Mo_addSection_61 ?_
        refine V_iconst (v := 0) C d_Mo_addSection_62 (by decide) ?_
        refine V_iast C d_Mo_addSection_63 (by decide) rfl hM.n6 (show nI 128 * nI (8 * t + mn ι 42 t) + nI i = nI (128 * (8 * t + mn ι 42 t) + i) from ixa ..) (by omega) rfl ?_
        refine V_iinc (v := nI (i + 1)) (lv' := [(6, _), (5, _), (0, _), (1, _), (2, _), (3, _), (4, _)]) C d_Mo_addSection_64 rfl (nI_1 i) (by decide) rfl ?_
        refine V_goto (tgt := 41) C d_Mo_addSection_67 (by decide) ?_
        refine V_pick [0, 1, 2, 3, 4, 5, 6] rfl ?_
        rw [fil_s]
        exact ih (i + 1) (by omega) (by omega)
  refine V_bipush (v := 8) C d_Mo_addSection_0 (by decide) ?_
  refine V_iload_n C d_Mo_addSection_2 rfl ?_
  refine V_imul C d_Mo_addSection_3 ?_
  refine V_aload_n C d_Mo_addSection_4 rfl ?_
  refine V_getR (kx := 2) C d_Mo_addSection_5 cf_Mo (by decide) k_Mo_7 hM.al rfl hM.r2 ?_
  refine V_iload_n C d_Mo_addSection_8 rfl ?_
  refine V_iald C d_Mo_addSection_9 (by decide) rfl hM.n2 rfl ht rfl ?_
  refine V_iadd C d_Mo_addSection_10 ?_
  rw [hb.eq ht]
  refine V_eqi (ixa 8 t (mn ι 42 t)) ?_
  refine V_istore (lv' := [(5, _), (0, _), (1, _), (2, _), (3, _), (4, _)]) C d_Mo_addSection_11 (by decide) rfl ?_
  refine V_aload_n C d_Mo_addSection_13 rfl ?_
  refine V_getR (kx := 3) C d_Mo_addSection_14 cf_Mo (by decide) k_Mo_13 hM.al rfl hM.r3 ?_
  refine V_iload C d_Mo_addSection_17 rfl ?_
  refine V_iload_n C d_Mo_addSection_19 rfl ?_
  refine V_iast C d_Mo_addSection_20 (by decide) rfl hM.n3 rfl (show 8 * t + mn ι 42 t < 104 by omega) rfl ?_
  refine V_aload_n C d_Mo_addSection_21 rfl ?_
  refine V_getR (kx := 4) C d_Mo_addSection_22 cf_Mo (by decide) k_Mo_16 hM.al rfl hM.r4 ?_
  refine V_iload C d_Mo_addSection_25 rfl ?_
  refine V_iload_n C d_Mo_addSection_27 rfl ?_
  refine V_iast C d_Mo_addSection_28 (by decide) rfl hM.n4 rfl (show 8 * t + mn ι 42 t < 104 by omega) rfl ?_
  refine V_aload_n C d_Mo_addSection_29 rfl ?_
  refine V_getR (kx := 5) C d_Mo_addSection_30 cf_Mo (by decide) k_Mo_19 hM.al rfl hM.r5 ?_
  refine V_iload C d_Mo_addSection_33 rfl ?_
  refine V_iload C d_Mo_addSection_35 rfl ?_
  refine V_iast C d_Mo_addSection_37 (by decide) rfl hM.n5 rfl (show 8 * t + mn ι 42 t < 104 by omega) rfl ?_
  refine V_iconst (v := 0) C d_Mo_addSection_38 (by decide) ?_
  refine V_istore (lv' := [(6, _), (5, _), (0, _), (1, _), (2, _), (3, _), (4, _)]) C d_Mo_addSection_39 (by decide) rfl ?_
  refine V_pick [0, 1, 2, 3, 4, 5, 6] rfl ?_
  rw [← fil_0 (ι := up4 (up4 (up4 ι 43 0 0 (8 * t + mn ι 42 t) k) 44 0 0 (8 * t + mn ι 42 t) q) 45 0 0 (8 * t + mn ι 42 t) n) (r := 46) (a := 128 * (8 * t + mn ι 42 t)) (x := 0)]
  exact loop 129 0 (by omega) (by omega)
end
