section
-- ===== PART A: goes FIRST, ahead of the names: the tables' words, and 'selects' of the private methods out of them =====
/-- a private method of a class that the tables say can be made, by its rows of tables_1 -/
def lw_okq (q : MethodName × Nat) : Prop := (q.1.cls ≠ "java/lang/invoke/MethodHandle" ∧ q.1.cls ≠ "java/lang/invoke/VarHandle") ∧ Cond.instantiable q.1.cls q.2 ∈ tables_1 ∧ Cond.privateMethod q.1 ∈ tables_1 ∧ Cond.instanceMethod q.1 ∈ tables_1
theorem lw_p0 : lw_okq (⟨"java/lang/Throwable", "fillInStackTrace", "(I)Ljava/lang/Throwable;"⟩, 6) := ⟨⟨by decide +kernel, by decide +kernel⟩, List.mem_of_getElem? (i := 135) (by decide +kernel), List.mem_of_getElem? (i := 133) (by decide +kernel), List.mem_of_getElem? (i := 134) (by decide +kernel)⟩
theorem lw_p1 : lw_okq (⟨"NestedArchives$Codes", "sortSigns", "([III)V"⟩, 3) := ⟨⟨by decide +kernel, by decide +kernel⟩, List.mem_of_getElem? (i := 42) (by decide +kernel), List.mem_of_getElem? (i := 430) (by decide +kernel), List.mem_of_getElem? (i := 431) (by decide +kernel)⟩
theorem lw_p2 : lw_okq (⟨"NestedArchives$Codes", "areComplete", "()Z"⟩, 3) := ⟨⟨by decide +kernel, by decide +kernel⟩, List.mem_of_getElem? (i := 42) (by decide +kernel), List.mem_of_getElem? (i := 434) (by decide +kernel), List.mem_of_getElem? (i := 435) (by decide +kernel)⟩
theorem lw_p3 : lw_okq (⟨"NestedArchives", "feedInt", "(I)V"⟩, 17) := ⟨⟨by decide +kernel, by decide +kernel⟩, List.mem_of_getElem? (i := 28) (by decide +kernel), List.mem_of_getElem? (i := 660) (by decide +kernel), List.mem_of_getElem? (i := 661) (by decide +kernel)⟩
theorem lw_p4 : lw_okq (⟨"NestedArchives", "archiveOf", "(I)LNestedArchives$Archive;"⟩, 17) := ⟨⟨by decide +kernel, by decide +kernel⟩, List.mem_of_getElem? (i := 28) (by decide +kernel), List.mem_of_getElem? (i := 681) (by decide +kernel), List.mem_of_getElem? (i := 682) (by decide +kernel)⟩
theorem lw_p5 : lw_okq (⟨"NestedArchives$Archive", "lastEndRecord", "()I"⟩, 8) := ⟨⟨by decide +kernel, by decide +kernel⟩, List.mem_of_getElem? (i := 532) (by decide +kernel), List.mem_of_getElem? (i := 716) (by decide +kernel), List.mem_of_getElem? (i := 717) (by decide +kernel)⟩
theorem lw_p6 : lw_okq (⟨"NestedArchives$Archive", "placeDirectory", "()Z"⟩, 8) := ⟨⟨by decide +kernel, by decide +kernel⟩, List.mem_of_getElem? (i := 532) (by decide +kernel), List.mem_of_getElem? (i := 729) (by decide +kernel), List.mem_of_getElem? (i := 730) (by decide +kernel)⟩
theorem lw_p7 : lw_okq (⟨"NestedArchives$Archive", "surveyHeader", "(I)I"⟩, 8) := ⟨⟨by decide +kernel, by decide +kernel⟩, List.mem_of_getElem? (i := 532) (by decide +kernel), List.mem_of_getElem? (i := 738) (by decide +kernel), List.mem_of_getElem? (i := 739) (by decide +kernel)⟩
theorem lw_p8 : lw_okq (⟨"NestedArchives$Archive", "headerLength", "(I)I"⟩, 8) := ⟨⟨by decide +kernel, by decide +kernel⟩, List.mem_of_getElem? (i := 532) (by decide +kernel), List.mem_of_getElem? (i := 742) (by decide +kernel), List.mem_of_getElem? (i := 743) (by decide +kernel)⟩
theorem lw_p9 : lw_okq (⟨"NestedArchives$Archive", "isFreshName", "(I)Z"⟩, 8) := ⟨⟨by decide +kernel, by decide +kernel⟩, List.mem_of_getElem? (i := 532) (by decide +kernel), List.mem_of_getElem? (i := 746) (by decide +kernel), List.mem_of_getElem? (i := 747) (by decide +kernel)⟩
theorem lw_p10 : lw_okq (⟨"NestedArchives$Archive", "placeData", "(I)I"⟩, 8) := ⟨⟨by decide +kernel, by decide +kernel⟩, List.mem_of_getElem? (i := 532) (by decide +kernel), List.mem_of_getElem? (i := 760) (by decide +kernel), List.mem_of_getElem? (i := 761) (by decide +kernel)⟩
theorem lw_p11 : lw_okq (⟨"NestedArchives", "note", "(II)V"⟩, 17) := ⟨⟨by decide +kernel, by decide +kernel⟩, List.mem_of_getElem? (i := 28) (by decide +kernel), List.mem_of_getElem? (i := 768) (by decide +kernel), List.mem_of_getElem? (i := 769) (by decide +kernel)⟩
theorem lw_p12 : lw_okq (⟨"NestedArchives$Archive", "header", "(I)I"⟩, 8) := ⟨⟨by decide +kernel, by decide +kernel⟩, List.mem_of_getElem? (i := 532) (by decide +kernel), List.mem_of_getElem? (i := 804) (by decide +kernel), List.mem_of_getElem? (i := 805) (by decide +kernel)⟩
theorem lw_p13 : lw_okq (⟨"NestedArchives", "searchMounts", "(I)I"⟩, 17) := ⟨⟨by decide +kernel, by decide +kernel⟩, List.mem_of_getElem? (i := 28) (by decide +kernel), List.mem_of_getElem? (i := 858) (by decide +kernel), List.mem_of_getElem? (i := 859) (by decide +kernel)⟩
theorem lw_p14 : lw_okq (⟨"NestedArchives", "unpackEntry", "(LNestedArchives$Archive;ILNestedArchives$Row;)I"⟩, 17) := ⟨⟨by decide +kernel, by decide +kernel⟩, List.mem_of_getElem? (i := 28) (by decide +kernel), List.mem_of_getElem? (i := 870) (by decide +kernel), List.mem_of_getElem? (i := 871) (by decide +kernel)⟩
theorem lw_p15 : lw_okq (⟨"NestedArchives$Unpacker", "takeBits", "(I)I"⟩, 12) := ⟨⟨by decide +kernel, by decide +kernel⟩, List.mem_of_getElem? (i := 36) (by decide +kernel), List.mem_of_getElem? (i := 889) (by decide +kernel), List.mem_of_getElem? (i := 890) (by decide +kernel)⟩
def lw_privs_1 : List (MethodName × Nat) := [(⟨"java/lang/Throwable", "fillInStackTrace", "(I)Ljava/lang/Throwable;"⟩, 6), (⟨"NestedArchives$Codes", "sortSigns", "([III)V"⟩, 3), (⟨"NestedArchives$Codes", "areComplete", "()Z"⟩, 3), (⟨"NestedArchives", "feedInt", "(I)V"⟩, 17), (⟨"NestedArchives", "archiveOf", "(I)LNestedArchives$Archive;"⟩, 17), (⟨"NestedArchives$Archive", "lastEndRecord", "()I"⟩, 8), (⟨"NestedArchives$Archive", "placeDirectory", "()Z"⟩, 8), (⟨"NestedArchives$Archive", "surveyHeader", "(I)I"⟩, 8), (⟨"NestedArchives$Archive", "headerLength", "(I)I"⟩, 8), (⟨"NestedArchives$Archive", "isFreshName", "(I)Z"⟩, 8), (⟨"NestedArchives$Archive", "placeData", "(I)I"⟩, 8), (⟨"NestedArchives", "note", "(II)V"⟩, 17), (⟨"NestedArchives$Archive", "header", "(I)I"⟩, 8), (⟨"NestedArchives", "searchMounts", "(I)I"⟩, 17), (⟨"NestedArchives", "unpackEntry", "(LNestedArchives$Archive;ILNestedArchives$Row;)I"⟩, 17), (⟨"NestedArchives$Unpacker", "takeBits", "(I)I"⟩, 12)]
theorem lw_r1 : ∀ q ∈ lw_privs_1, lw_okq q := List.forall_mem_cons.mpr ⟨lw_p0, List.forall_mem_cons.mpr ⟨lw_p1, List.forall_mem_cons.mpr ⟨lw_p2, List.forall_mem_cons.mpr ⟨lw_p3, List.forall_mem_cons.mpr ⟨lw_p4, List.forall_mem_cons.mpr ⟨lw_p5, List.forall_mem_cons.mpr ⟨lw_p6, List.forall_mem_cons.mpr ⟨lw_p7, List.forall_mem_cons.mpr ⟨lw_p8, List.forall_mem_cons.mpr ⟨lw_p9, List.forall_mem_cons.mpr ⟨lw_p10, List.forall_mem_cons.mpr ⟨lw_p11, List.forall_mem_cons.mpr ⟨lw_p12, List.forall_mem_cons.mpr ⟨lw_p13, List.forall_mem_cons.mpr ⟨lw_p14, List.forall_mem_cons.mpr ⟨lw_p15, fun _ h => absurd h List.not_mem_nil⟩⟩⟩⟩⟩⟩⟩⟩⟩⟩⟩⟩⟩⟩⟩⟩
theorem lw_p16 : lw_okq (⟨"NestedArchives$Unpacker", "copyPlain", "()Z"⟩, 12) := ⟨⟨by decide +kernel, by decide +kernel⟩, List.mem_of_getElem? (i := 36) (by decide +kernel), List.mem_of_getElem? (i := 893) (by decide +kernel), List.mem_of_getElem? (i := 894) (by decide +kernel)⟩
theorem lw_p17 : lw_okq (⟨"NestedArchives$Unpacker", "followSigns", "(LNestedArchives$Codes;LNestedArchives$Codes;)Z"⟩, 12) := ⟨⟨by decide +kernel, by decide +kernel⟩, List.mem_of_getElem? (i := 36) (by decide +kernel), List.mem_of_getElem? (i := 899) (by decide +kernel), List.mem_of_getElem? (i := 900) (by decide +kernel)⟩
theorem lw_p18 : lw_okq (⟨"NestedArchives$Unpacker", "nextSign", "(LNestedArchives$Codes;)I"⟩, 12) := ⟨⟨by decide +kernel, by decide +kernel⟩, List.mem_of_getElem? (i := 36) (by decide +kernel), List.mem_of_getElem? (i := 903) (by decide +kernel), List.mem_of_getElem? (i := 904) (by decide +kernel)⟩
theorem lw_p19 : lw_okq (⟨"NestedArchives$Unpacker", "copyBack", "(ILNestedArchives$Codes;)Z"⟩, 12) := ⟨⟨by decide +kernel, by decide +kernel⟩, List.mem_of_getElem? (i := 36) (by decide +kernel), List.mem_of_getElem? (i := 908) (by decide +kernel), List.mem_of_getElem? (i := 909) (by decide +kernel)⟩
theorem lw_p20 : lw_okq (⟨"NestedArchives$Unpacker", "learnCodes", "()Z"⟩, 12) := ⟨⟨by decide +kernel, by decide +kernel⟩, List.mem_of_getElem? (i := 36) (by decide +kernel), List.mem_of_getElem? (i := 921) (by decide +kernel), List.mem_of_getElem? (i := 922) (by decide +kernel)⟩
theorem lw_p21 : lw_okq (⟨"NestedArchives$Unpacker", "tellLengths", "(I)Z"⟩, 12) := ⟨⟨by decide +kernel, by decide +kernel⟩, List.mem_of_getElem? (i := 36) (by decide +kernel), List.mem_of_getElem? (i := 926) (by decide +kernel), List.mem_of_getElem? (i := 927) (by decide +kernel)⟩
theorem lw_p22 : lw_okq (⟨"NestedArchives", "stageMount", "(II)I"⟩, 17) := ⟨⟨by decide +kernel, by decide +kernel⟩, List.mem_of_getElem? (i := 28) (by decide +kernel), List.mem_of_getElem? (i := 945) (by decide +kernel), List.mem_of_getElem? (i := 946) (by decide +kernel)⟩
theorem lw_p23 : lw_okq (⟨"NestedArchives$IndexLines", "nameLengthOf", "(LNestedArchives$Row;I)I"⟩, 3) := ⟨⟨by decide +kernel, by decide +kernel⟩, List.mem_of_getElem? (i := 511) (by decide +kernel), List.mem_of_getElem? (i := 979) (by decide +kernel), List.mem_of_getElem? (i := 980) (by decide +kernel)⟩
theorem lw_p24 : lw_okq (⟨"NestedArchives$Manifest", "lineStop", "(LNestedArchives$Row;I)I"⟩, 8) := ⟨⟨by decide +kernel, by decide +kernel⟩, List.mem_of_getElem? (i := 475) (by decide +kernel), List.mem_of_getElem? (i := 998) (by decide +kernel), List.mem_of_getElem? (i := 999) (by decide +kernel)⟩
theorem lw_p25 : lw_okq (⟨"NestedArchives$Manifest", "lineLength", "(LNestedArchives$Row;II)I"⟩, 8) := ⟨⟨by decide +kernel, by decide +kernel⟩, List.mem_of_getElem? (i := 475) (by decide +kernel), List.mem_of_getElem? (i := 1003) (by decide +kernel), List.mem_of_getElem? (i := 1004) (by decide +kernel)⟩
theorem lw_p26 : lw_okq (⟨"NestedArchives$Manifest", "joinLine", "(LNestedArchives$Row;II)Z"⟩, 8) := ⟨⟨by decide +kernel, by decide +kernel⟩, List.mem_of_getElem? (i := 475) (by decide +kernel), List.mem_of_getElem? (i := 1007) (by decide +kernel), List.mem_of_getElem? (i := 1008) (by decide +kernel)⟩
theorem lw_p27 : lw_okq (⟨"NestedArchives$Manifest", "closeLine", "()Z"⟩, 8) := ⟨⟨by decide +kernel, by decide +kernel⟩, List.mem_of_getElem? (i := 475) (by decide +kernel), List.mem_of_getElem? (i := 1012) (by decide +kernel), List.mem_of_getElem? (i := 1013) (by decide +kernel)⟩
theorem lw_p28 : lw_okq (⟨"NestedArchives$Manifest", "nameLengthOf", "(I)I"⟩, 8) := ⟨⟨by decide +kernel, by decide +kernel⟩, List.mem_of_getElem? (i := 475) (by decide +kernel), List.mem_of_getElem? (i := 1016) (by decide +kernel), List.mem_of_getElem? (i := 1017) (by decide +kernel)⟩
theorem lw_p29 : lw_okq (⟨"NestedArchives$Manifest", "isKnown", "(II)Z"⟩, 8) := ⟨⟨by decide +kernel, by decide +kernel⟩, List.mem_of_getElem? (i := 475) (by decide +kernel), List.mem_of_getElem? (i := 1023) (by decide +kernel), List.mem_of_getElem? (i := 1024) (by decide +kernel)⟩
theorem lw_p30 : lw_okq (⟨"NestedArchivesModel", "put", "(III)V"⟩, 26) := ⟨⟨by decide +kernel, by decide +kernel⟩, List.mem_of_getElem? (i := 1034) (by decide +kernel), List.mem_of_getElem? (i := 1128) (by decide +kernel), List.mem_of_getElem? (i := 1129) (by decide +kernel)⟩
theorem lw_p31 : lw_okq (⟨"NestedArchivesModel", "copyRow", "(II)V"⟩, 26) := ⟨⟨by decide +kernel, by decide +kernel⟩, List.mem_of_getElem? (i := 1034) (by decide +kernel), List.mem_of_getElem? (i := 1149) (by decide +kernel), List.mem_of_getElem? (i := 1150) (by decide +kernel)⟩
def lw_privs_2 : List (MethodName × Nat) := [(⟨"NestedArchives$Unpacker", "copyPlain", "()Z"⟩, 12), (⟨"NestedArchives$Unpacker", "followSigns", "(LNestedArchives$Codes;LNestedArchives$Codes;)Z"⟩, 12), (⟨"NestedArchives$Unpacker", "nextSign", "(LNestedArchives$Codes;)I"⟩, 12), (⟨"NestedArchives$Unpacker", "copyBack", "(ILNestedArchives$Codes;)Z"⟩, 12), (⟨"NestedArchives$Unpacker", "learnCodes", "()Z"⟩, 12), (⟨"NestedArchives$Unpacker", "tellLengths", "(I)Z"⟩, 12), (⟨"NestedArchives", "stageMount", "(II)I"⟩, 17), (⟨"NestedArchives$IndexLines", "nameLengthOf", "(LNestedArchives$Row;I)I"⟩, 3), (⟨"NestedArchives$Manifest", "lineStop", "(LNestedArchives$Row;I)I"⟩, 8), (⟨"NestedArchives$Manifest", "lineLength", "(LNestedArchives$Row;II)I"⟩, 8), (⟨"NestedArchives$Manifest", "joinLine", "(LNestedArchives$Row;II)Z"⟩, 8), (⟨"NestedArchives$Manifest", "closeLine", "()Z"⟩, 8), (⟨"NestedArchives$Manifest", "nameLengthOf", "(I)I"⟩, 8), (⟨"NestedArchives$Manifest", "isKnown", "(II)Z"⟩, 8), (⟨"NestedArchivesModel", "put", "(III)V"⟩, 26), (⟨"NestedArchivesModel", "copyRow", "(II)V"⟩, 26)]
theorem lw_r2 : ∀ q ∈ lw_privs_2, lw_okq q := List.forall_mem_cons.mpr ⟨lw_p16, List.forall_mem_cons.mpr ⟨lw_p17, List.forall_mem_cons.mpr ⟨lw_p18, List.forall_mem_cons.mpr ⟨lw_p19, List.forall_mem_cons.mpr ⟨lw_p20, List.forall_mem_cons.mpr ⟨lw_p21, List.forall_mem_cons.mpr ⟨lw_p22, List.forall_mem_cons.mpr ⟨lw_p23, List.forall_mem_cons.mpr ⟨lw_p24, List.forall_mem_cons.mpr ⟨lw_p25, List.forall_mem_cons.mpr ⟨lw_p26, List.forall_mem_cons.mpr ⟨lw_p27, List.forall_mem_cons.mpr ⟨lw_p28, List.forall_mem_cons.mpr ⟨lw_p29, List.forall_mem_cons.mpr ⟨lw_p30, List.forall_mem_cons.mpr ⟨lw_p31, fun _ h => absurd h List.not_mem_nil⟩⟩⟩⟩⟩⟩⟩⟩⟩⟩⟩⟩⟩⟩⟩⟩
theorem lw_p32 : lw_okq (⟨"NestedArchivesModel", "isFaulty", "(I)Z"⟩, 26) := ⟨⟨by decide +kernel, by decide +kernel⟩, List.mem_of_getElem? (i := 1034) (by decide +kernel), List.mem_of_getElem? (i := 1153) (by decide +kernel), List.mem_of_getElem? (i := 1154) (by decide +kernel)⟩
theorem lw_p33 : lw_okq (⟨"NestedArchivesModel", "endRecord", "()I"⟩, 26) := ⟨⟨by decide +kernel, by decide +kernel⟩, List.mem_of_getElem? (i := 1034) (by decide +kernel), List.mem_of_getElem? (i := 1157) (by decide +kernel), List.mem_of_getElem? (i := 1158) (by decide +kernel)⟩
theorem lw_p34 : lw_okq (⟨"NestedArchivesModel", "stands", "(JII)Z"⟩, 26) := ⟨⟨by decide +kernel, by decide +kernel⟩, List.mem_of_getElem? (i := 1034) (by decide +kernel), List.mem_of_getElem? (i := 1161) (by decide +kernel), List.mem_of_getElem? (i := 1162) (by decide +kernel)⟩
theorem lw_p35 : lw_okq (⟨"NestedArchivesModel", "get", "(II)I"⟩, 26) := ⟨⟨by decide +kernel, by decide +kernel⟩, List.mem_of_getElem? (i := 1034) (by decide +kernel), List.mem_of_getElem? (i := 1165) (by decide +kernel), List.mem_of_getElem? (i := 1166) (by decide +kernel)⟩
theorem lw_p36 : lw_okq (⟨"NestedArchivesModel", "two", "(I)I"⟩, 26) := ⟨⟨by decide +kernel, by decide +kernel⟩, List.mem_of_getElem? (i := 1034) (by decide +kernel), List.mem_of_getElem? (i := 1169) (by decide +kernel), List.mem_of_getElem? (i := 1170) (by decide +kernel)⟩
theorem lw_p37 : lw_okq (⟨"NestedArchivesModel", "isWrong", "(II)Z"⟩, 26) := ⟨⟨by decide +kernel, by decide +kernel⟩, List.mem_of_getElem? (i := 1034) (by decide +kernel), List.mem_of_getElem? (i := 1173) (by decide +kernel), List.mem_of_getElem? (i := 1174) (by decide +kernel)⟩
theorem lw_p38 : lw_okq (⟨"NestedArchivesModel", "four", "(I)J"⟩, 26) := ⟨⟨by decide +kernel, by decide +kernel⟩, List.mem_of_getElem? (i := 1034) (by decide +kernel), List.mem_of_getElem? (i := 1177) (by decide +kernel), List.mem_of_getElem? (i := 1178) (by decide +kernel)⟩
theorem lw_p39 : lw_okq (⟨"NestedArchivesModel", "isNameRight", "(I)Z"⟩, 26) := ⟨⟨by decide +kernel, by decide +kernel⟩, List.mem_of_getElem? (i := 1034) (by decide +kernel), List.mem_of_getElem? (i := 1181) (by decide +kernel), List.mem_of_getElem? (i := 1182) (by decide +kernel)⟩
theorem lw_p40 : lw_okq (⟨"NestedArchivesModel", "nameLength", "(I)I"⟩, 26) := ⟨⟨by decide +kernel, by decide +kernel⟩, List.mem_of_getElem? (i := 1034) (by decide +kernel), List.mem_of_getElem? (i := 1185) (by decide +kernel), List.mem_of_getElem? (i := 1186) (by decide +kernel)⟩
theorem lw_p41 : lw_okq (⟨"NestedArchivesModel", "sameName", "(II)Z"⟩, 26) := ⟨⟨by decide +kernel, by decide +kernel⟩, List.mem_of_getElem? (i := 1034) (by decide +kernel), List.mem_of_getElem? (i := 1189) (by decide +kernel), List.mem_of_getElem? (i := 1190) (by decide +kernel)⟩
theorem lw_p42 : lw_okq (⟨"NestedArchivesModel", "isLocalRight", "(IJI)Z"⟩, 26) := ⟨⟨by decide +kernel, by decide +kernel⟩, List.mem_of_getElem? (i := 1034) (by decide +kernel), List.mem_of_getElem? (i := 1193) (by decide +kernel), List.mem_of_getElem? (i := 1194) (by decide +kernel)⟩
theorem lw_p43 : lw_okq (⟨"NestedArchivesModel", "refuseFault", "(I)I"⟩, 26) := ⟨⟨by decide +kernel, by decide +kernel⟩, List.mem_of_getElem? (i := 1034) (by decide +kernel), List.mem_of_getElem? (i := 1198) (by decide +kernel), List.mem_of_getElem? (i := 1199) (by decide +kernel)⟩
theorem lw_p44 : lw_okq (⟨"NestedArchivesModel", "refuse", "(I)I"⟩, 26) := ⟨⟨by decide +kernel, by decide +kernel⟩, List.mem_of_getElem? (i := 1034) (by decide +kernel), List.mem_of_getElem? (i := 1202) (by decide +kernel), List.mem_of_getElem? (i := 1203) (by decide +kernel)⟩
theorem lw_p45 : lw_okq (⟨"NestedArchivesModel", "isArchive", "(I)Z"⟩, 26) := ⟨⟨by decide +kernel, by decide +kernel⟩, List.mem_of_getElem? (i := 1034) (by decide +kernel), List.mem_of_getElem? (i := 1218) (by decide +kernel), List.mem_of_getElem? (i := 1219) (by decide +kernel)⟩
theorem lw_p46 : lw_okq (⟨"NestedArchivesModel", "use", "(I)V"⟩, 26) := ⟨⟨by decide +kernel, by decide +kernel⟩, List.mem_of_getElem? (i := 1034) (by decide +kernel), List.mem_of_getElem? (i := 1222) (by decide +kernel), List.mem_of_getElem? (i := 1223) (by decide +kernel)⟩
theorem lw_p47 : lw_okq (⟨"NestedArchivesModel", "isUnread", "(I)Z"⟩, 26) := ⟨⟨by decide +kernel, by decide +kernel⟩, List.mem_of_getElem? (i := 1034) (by decide +kernel), List.mem_of_getElem? (i := 1226) (by decide +kernel), List.mem_of_getElem? (i := 1227) (by decide +kernel)⟩
def lw_privs_3 : List (MethodName × Nat) := [(⟨"NestedArchivesModel", "isFaulty", "(I)Z"⟩, 26), (⟨"NestedArchivesModel", "endRecord", "()I"⟩, 26), (⟨"NestedArchivesModel", "stands", "(JII)Z"⟩, 26), (⟨"NestedArchivesModel", "get", "(II)I"⟩, 26), (⟨"NestedArchivesModel", "two", "(I)I"⟩, 26), (⟨"NestedArchivesModel", "isWrong", "(II)Z"⟩, 26), (⟨"NestedArchivesModel", "four", "(I)J"⟩, 26), (⟨"NestedArchivesModel", "isNameRight", "(I)Z"⟩, 26), (⟨"NestedArchivesModel", "nameLength", "(I)I"⟩, 26), (⟨"NestedArchivesModel", "sameName", "(II)Z"⟩, 26), (⟨"NestedArchivesModel", "isLocalRight", "(IJI)Z"⟩, 26), (⟨"NestedArchivesModel", "refuseFault", "(I)I"⟩, 26), (⟨"NestedArchivesModel", "refuse", "(I)I"⟩, 26), (⟨"NestedArchivesModel", "isArchive", "(I)Z"⟩, 26), (⟨"NestedArchivesModel", "use", "(I)V"⟩, 26), (⟨"NestedArchivesModel", "isUnread", "(I)Z"⟩, 26)]
theorem lw_r3 : ∀ q ∈ lw_privs_3, lw_okq q := List.forall_mem_cons.mpr ⟨lw_p32, List.forall_mem_cons.mpr ⟨lw_p33, List.forall_mem_cons.mpr ⟨lw_p34, List.forall_mem_cons.mpr ⟨lw_p35, List.forall_mem_cons.mpr ⟨lw_p36, List.forall_mem_cons.mpr ⟨lw_p37, List.forall_mem_cons.mpr ⟨lw_p38, List.forall_mem_cons.mpr ⟨lw_p39, List.forall_mem_cons.mpr ⟨lw_p40, List.forall_mem_cons.mpr ⟨lw_p41, List.forall_mem_cons.mpr ⟨lw_p42, List.forall_mem_cons.mpr ⟨lw_p43, List.forall_mem_cons.mpr ⟨lw_p44, List.forall_mem_cons.mpr ⟨lw_p45, List.forall_mem_cons.mpr ⟨lw_p46, List.forall_mem_cons.mpr ⟨lw_p47, fun _ h => absurd h List.not_mem_nil⟩⟩⟩⟩⟩⟩⟩⟩⟩⟩⟩⟩⟩⟩⟩⟩
theorem lw_p48 : lw_okq (⟨"NestedArchivesModel", "inflate", "()V"⟩, 26) := ⟨⟨by decide +kernel, by decide +kernel⟩, List.mem_of_getElem? (i := 1034) (by decide +kernel), List.mem_of_getElem? (i := 1231) (by decide +kernel), List.mem_of_getElem? (i := 1232) (by decide +kernel)⟩
theorem lw_p49 : lw_okq (⟨"NestedArchivesModel", "take", "(I)I"⟩, 26) := ⟨⟨by decide +kernel, by decide +kernel⟩, List.mem_of_getElem? (i := 1034) (by decide +kernel), List.mem_of_getElem? (i := 1235) (by decide +kernel), List.mem_of_getElem? (i := 1236) (by decide +kernel)⟩
theorem lw_p50 : lw_okq (⟨"NestedArchivesModel", "plainBlock", "()V"⟩, 26) := ⟨⟨by decide +kernel, by decide +kernel⟩, List.mem_of_getElem? (i := 1034) (by decide +kernel), List.mem_of_getElem? (i := 1239) (by decide +kernel), List.mem_of_getElem? (i := 1240) (by decide +kernel)⟩
theorem lw_p51 : lw_okq (⟨"NestedArchivesModel", "out", "(I)V"⟩, 26) := ⟨⟨by decide +kernel, by decide +kernel⟩, List.mem_of_getElem? (i := 1034) (by decide +kernel), List.mem_of_getElem? (i := 1244) (by decide +kernel), List.mem_of_getElem? (i := 1245) (by decide +kernel)⟩
theorem lw_p52 : lw_okq (⟨"NestedArchivesModel", "codedBlock", "(Z)V"⟩, 26) := ⟨⟨by decide +kernel, by decide +kernel⟩, List.mem_of_getElem? (i := 1034) (by decide +kernel), List.mem_of_getElem? (i := 1248) (by decide +kernel), List.mem_of_getElem? (i := 1249) (by decide +kernel)⟩
theorem lw_p53 : lw_okq (⟨"NestedArchivesModel", "toldCodes", "(II)V"⟩, 26) := ⟨⟨by decide +kernel, by decide +kernel⟩, List.mem_of_getElem? (i := 1034) (by decide +kernel), List.mem_of_getElem? (i := 1252) (by decide +kernel), List.mem_of_getElem? (i := 1253) (by decide +kernel)⟩
theorem lw_p54 : lw_okq (⟨"NestedArchivesModel", "isComplete", "(II)Z"⟩, 26) := ⟨⟨by decide +kernel, by decide +kernel⟩, List.mem_of_getElem? (i := 1034) (by decide +kernel), List.mem_of_getElem? (i := 1259) (by decide +kernel), List.mem_of_getElem? (i := 1260) (by decide +kernel)⟩
theorem lw_p55 : lw_okq (⟨"NestedArchivesModel", "many", "(III)I"⟩, 26) := ⟨⟨by decide +kernel, by decide +kernel⟩, List.mem_of_getElem? (i := 1034) (by decide +kernel), List.mem_of_getElem? (i := 1263) (by decide +kernel), List.mem_of_getElem? (i := 1264) (by decide +kernel)⟩
theorem lw_p56 : lw_okq (⟨"NestedArchivesModel", "sign", "(II)I"⟩, 26) := ⟨⟨by decide +kernel, by decide +kernel⟩, List.mem_of_getElem? (i := 1034) (by decide +kernel), List.mem_of_getElem? (i := 1268) (by decide +kernel), List.mem_of_getElem? (i := 1269) (by decide +kernel)⟩
theorem lw_p57 : lw_okq (⟨"NestedArchivesModel", "pick", "(IIII)I"⟩, 26) := ⟨⟨by decide +kernel, by decide +kernel⟩, List.mem_of_getElem? (i := 1034) (by decide +kernel), List.mem_of_getElem? (i := 1272) (by decide +kernel), List.mem_of_getElem? (i := 1273) (by decide +kernel)⟩
theorem lw_p58 : lw_okq (⟨"NestedArchivesModel", "fixedCodes", "()V"⟩, 26) := ⟨⟨by decide +kernel, by decide +kernel⟩, List.mem_of_getElem? (i := 1034) (by decide +kernel), List.mem_of_getElem? (i := 1276) (by decide +kernel), List.mem_of_getElem? (i := 1277) (by decide +kernel)⟩
theorem lw_p59 : lw_okq (⟨"NestedArchivesModel", "copied", "(II)V"⟩, 26) := ⟨⟨by decide +kernel, by decide +kernel⟩, List.mem_of_getElem? (i := 1034) (by decide +kernel), List.mem_of_getElem? (i := 1280) (by decide +kernel), List.mem_of_getElem? (i := 1281) (by decide +kernel)⟩
theorem lw_p60 : lw_okq (⟨"NestedArchivesModel", "stretched", "(II)I"⟩, 26) := ⟨⟨by decide +kernel, by decide +kernel⟩, List.mem_of_getElem? (i := 1034) (by decide +kernel), List.mem_of_getElem? (i := 1284) (by decide +kernel), List.mem_of_getElem? (i := 1285) (by decide +kernel)⟩
theorem lw_p61 : lw_okq (⟨"NestedArchivesModel", "sumOfMade", "()J"⟩, 26) := ⟨⟨by decide +kernel, by decide +kernel⟩, List.mem_of_getElem? (i := 1034) (by decide +kernel), List.mem_of_getElem? (i := 1288) (by decide +kernel), List.mem_of_getElem? (i := 1289) (by decide +kernel)⟩
theorem lw_p62 : lw_okq (⟨"NestedArchivesModel", "hasEntry", "(II)Z"⟩, 26) := ⟨⟨by decide +kernel, by decide +kernel⟩, List.mem_of_getElem? (i := 1034) (by decide +kernel), List.mem_of_getElem? (i := 1298) (by decide +kernel), List.mem_of_getElem? (i := 1299) (by decide +kernel)⟩
theorem lw_p63 : lw_okq (⟨"NestedArchivesModel", "usedName", "()I"⟩, 26) := ⟨⟨by decide +kernel, by decide +kernel⟩, List.mem_of_getElem? (i := 1034) (by decide +kernel), List.mem_of_getElem? (i := 1310) (by decide +kernel), List.mem_of_getElem? (i := 1311) (by decide +kernel)⟩
def lw_privs_4 : List (MethodName × Nat) := [(⟨"NestedArchivesModel", "inflate", "()V"⟩, 26), (⟨"NestedArchivesModel", "take", "(I)I"⟩, 26), (⟨"NestedArchivesModel", "plainBlock", "()V"⟩, 26), (⟨"NestedArchivesModel", "out", "(I)V"⟩, 26), (⟨"NestedArchivesModel", "codedBlock", "(Z)V"⟩, 26), (⟨"NestedArchivesModel", "toldCodes", "(II)V"⟩, 26), (⟨"NestedArchivesModel", "isComplete", "(II)Z"⟩, 26), (⟨"NestedArchivesModel", "many", "(III)I"⟩, 26), (⟨"NestedArchivesModel", "sign", "(II)I"⟩, 26), (⟨"NestedArchivesModel", "pick", "(IIII)I"⟩, 26), (⟨"NestedArchivesModel", "fixedCodes", "()V"⟩, 26), (⟨"NestedArchivesModel", "copied", "(II)V"⟩, 26), (⟨"NestedArchivesModel", "stretched", "(II)I"⟩, 26), (⟨"NestedArchivesModel", "sumOfMade", "()J"⟩, 26), (⟨"NestedArchivesModel", "hasEntry", "(II)Z"⟩, 26), (⟨"NestedArchivesModel", "usedName", "()I"⟩, 26)]
theorem lw_r4 : ∀ q ∈ lw_privs_4, lw_okq q := List.forall_mem_cons.mpr ⟨lw_p48, List.forall_mem_cons.mpr ⟨lw_p49, List.forall_mem_cons.mpr ⟨lw_p50, List.forall_mem_cons.mpr ⟨lw_p51, List.forall_mem_cons.mpr ⟨lw_p52, List.forall_mem_cons.mpr ⟨lw_p53, List.forall_mem_cons.mpr ⟨lw_p54, List.forall_mem_cons.mpr ⟨lw_p55, List.forall_mem_cons.mpr ⟨lw_p56, List.forall_mem_cons.mpr ⟨lw_p57, List.forall_mem_cons.mpr ⟨lw_p58, List.forall_mem_cons.mpr ⟨lw_p59, List.forall_mem_cons.mpr ⟨lw_p60, List.forall_mem_cons.mpr ⟨lw_p61, List.forall_mem_cons.mpr ⟨lw_p62, List.forall_mem_cons.mpr ⟨lw_p63, fun _ h => absurd h List.not_mem_nil⟩⟩⟩⟩⟩⟩⟩⟩⟩⟩⟩⟩⟩⟩⟩⟩
theorem lw_p64 : lw_okq (⟨"NestedArchivesModel", "named", "(I)I"⟩, 26) := ⟨⟨by decide +kernel, by decide +kernel⟩, List.mem_of_getElem? (i := 1034) (by decide +kernel), List.mem_of_getElem? (i := 1314) (by decide +kernel), List.mem_of_getElem? (i := 1315) (by decide +kernel)⟩
theorem lw_p65 : lw_okq (⟨"NestedArchivesModel", "isNamed", "(II)Z"⟩, 26) := ⟨⟨by decide +kernel, by decide +kernel⟩, List.mem_of_getElem? (i := 1034) (by decide +kernel), List.mem_of_getElem? (i := 1318) (by decide +kernel), List.mem_of_getElem? (i := 1319) (by decide +kernel)⟩
theorem lw_p66 : lw_okq (⟨"NestedArchivesModel", "isNoMount", "(I)Z"⟩, 26) := ⟨⟨by decide +kernel, by decide +kernel⟩, List.mem_of_getElem? (i := 1034) (by decide +kernel), List.mem_of_getElem? (i := 1338) (by decide +kernel), List.mem_of_getElem? (i := 1339) (by decide +kernel)⟩
theorem lw_p67 : lw_okq (⟨"NestedArchivesModel", "isIndexWrong", "()Z"⟩, 26) := ⟨⟨by decide +kernel, by decide +kernel⟩, List.mem_of_getElem? (i := 1034) (by decide +kernel), List.mem_of_getElem? (i := 1346) (by decide +kernel), List.mem_of_getElem? (i := 1347) (by decide +kernel)⟩
theorem lw_p68 : lw_okq (⟨"NestedArchivesModel", "listNamed", "(I)I"⟩, 26) := ⟨⟨by decide +kernel, by decide +kernel⟩, List.mem_of_getElem? (i := 1034) (by decide +kernel), List.mem_of_getElem? (i := 1350) (by decide +kernel), List.mem_of_getElem? (i := 1351) (by decide +kernel)⟩
theorem lw_p69 : lw_okq (⟨"NestedArchivesModel", "isLineWrong", "(II)Z"⟩, 26) := ⟨⟨by decide +kernel, by decide +kernel⟩, List.mem_of_getElem? (i := 1034) (by decide +kernel), List.mem_of_getElem? (i := 1362) (by decide +kernel), List.mem_of_getElem? (i := 1363) (by decide +kernel)⟩
theorem lw_p70 : lw_okq (⟨"NestedArchivesModel", "mainEnd", "()I"⟩, 26) := ⟨⟨by decide +kernel, by decide +kernel⟩, List.mem_of_getElem? (i := 1034) (by decide +kernel), List.mem_of_getElem? (i := 1370) (by decide +kernel), List.mem_of_getElem? (i := 1371) (by decide +kernel)⟩
theorem lw_p71 : lw_okq (⟨"NestedArchivesModel", "lineEnd", "(I)I"⟩, 26) := ⟨⟨by decide +kernel, by decide +kernel⟩, List.mem_of_getElem? (i := 1034) (by decide +kernel), List.mem_of_getElem? (i := 1374) (by decide +kernel), List.mem_of_getElem? (i := 1375) (by decide +kernel)⟩
theorem lw_p72 : lw_okq (⟨"NestedArchivesModel", "nextLine", "(I)I"⟩, 26) := ⟨⟨by decide +kernel, by decide +kernel⟩, List.mem_of_getElem? (i := 1034) (by decide +kernel), List.mem_of_getElem? (i := 1378) (by decide +kernel), List.mem_of_getElem? (i := 1379) (by decide +kernel)⟩
theorem lw_p73 : lw_okq (⟨"NestedArchivesModel", "isManifestWrong", "(I)Z"⟩, 26) := ⟨⟨by decide +kernel, by decide +kernel⟩, List.mem_of_getElem? (i := 1034) (by decide +kernel), List.mem_of_getElem? (i := 1382) (by decide +kernel), List.mem_of_getElem? (i := 1383) (by decide +kernel)⟩
theorem lw_p74 : lw_okq (⟨"NestedArchivesModel", "isLong", "()Z"⟩, 26) := ⟨⟨by decide +kernel, by decide +kernel⟩, List.mem_of_getElem? (i := 1034) (by decide +kernel), List.mem_of_getElem? (i := 1386) (by decide +kernel), List.mem_of_getElem? (i := 1387) (by decide +kernel)⟩
theorem lw_p75 : lw_okq (⟨"NestedArchivesModel", "goesOn", "(II)Z"⟩, 26) := ⟨⟨by decide +kernel, by decide +kernel⟩, List.mem_of_getElem? (i := 1034) (by decide +kernel), List.mem_of_getElem? (i := 1390) (by decide +kernel), List.mem_of_getElem? (i := 1391) (by decide +kernel)⟩
theorem lw_p76 : lw_okq (⟨"NestedArchivesModel", "nameOf", "(II)I"⟩, 26) := ⟨⟨by decide +kernel, by decide +kernel⟩, List.mem_of_getElem? (i := 1034) (by decide +kernel), List.mem_of_getElem? (i := 1394) (by decide +kernel), List.mem_of_getElem? (i := 1395) (by decide +kernel)⟩
theorem lw_p77 : lw_okq (⟨"NestedArchivesModel", "enter", "(I)V"⟩, 26) := ⟨⟨by decide +kernel, by decide +kernel⟩, List.mem_of_getElem? (i := 1034) (by decide +kernel), List.mem_of_getElem? (i := 1398) (by decide +kernel), List.mem_of_getElem? (i := 1399) (by decide +kernel)⟩
theorem lw_p78 : lw_okq (⟨"NestedArchivesModel", "step", "(I)I"⟩, 26) := ⟨⟨by decide +kernel, by decide +kernel⟩, List.mem_of_getElem? (i := 1034) (by decide +kernel), List.mem_of_getElem? (i := 1402) (by decide +kernel), List.mem_of_getElem? (i := 1403) (by decide +kernel)⟩
theorem lw_p79 : lw_okq (⟨"NestedArchivesModel", "sameNames", "(III)Z"⟩, 26) := ⟨⟨by decide +kernel, by decide +kernel⟩, List.mem_of_getElem? (i := 1034) (by decide +kernel), List.mem_of_getElem? (i := 1409) (by decide +kernel), List.mem_of_getElem? (i := 1410) (by decide +kernel)⟩
def lw_privs_5 : List (MethodName × Nat) := [(⟨"NestedArchivesModel", "named", "(I)I"⟩, 26), (⟨"NestedArchivesModel", "isNamed", "(II)Z"⟩, 26), (⟨"NestedArchivesModel", "isNoMount", "(I)Z"⟩, 26), (⟨"NestedArchivesModel", "isIndexWrong", "()Z"⟩, 26), (⟨"NestedArchivesModel", "listNamed", "(I)I"⟩, 26), (⟨"NestedArchivesModel", "isLineWrong", "(II)Z"⟩, 26), (⟨"NestedArchivesModel", "mainEnd", "()I"⟩, 26), (⟨"NestedArchivesModel", "lineEnd", "(I)I"⟩, 26), (⟨"NestedArchivesModel", "nextLine", "(I)I"⟩, 26), (⟨"NestedArchivesModel", "isManifestWrong", "(I)Z"⟩, 26), (⟨"NestedArchivesModel", "isLong", "()Z"⟩, 26), (⟨"NestedArchivesModel", "goesOn", "(II)Z"⟩, 26), (⟨"NestedArchivesModel", "nameOf", "(II)I"⟩, 26), (⟨"NestedArchivesModel", "enter", "(I)V"⟩, 26), (⟨"NestedArchivesModel", "step", "(I)I"⟩, 26), (⟨"NestedArchivesModel", "sameNames", "(III)Z"⟩, 26)]
theorem lw_r5 : ∀ q ∈ lw_privs_5, lw_okq q := List.forall_mem_cons.mpr ⟨lw_p64, List.forall_mem_cons.mpr ⟨lw_p65, List.forall_mem_cons.mpr ⟨lw_p66, List.forall_mem_cons.mpr ⟨lw_p67, List.forall_mem_cons.mpr ⟨lw_p68, List.forall_mem_cons.mpr ⟨lw_p69, List.forall_mem_cons.mpr ⟨lw_p70, List.forall_mem_cons.mpr ⟨lw_p71, List.forall_mem_cons.mpr ⟨lw_p72, List.forall_mem_cons.mpr ⟨lw_p73, List.forall_mem_cons.mpr ⟨lw_p74, List.forall_mem_cons.mpr ⟨lw_p75, List.forall_mem_cons.mpr ⟨lw_p76, List.forall_mem_cons.mpr ⟨lw_p77, List.forall_mem_cons.mpr ⟨lw_p78, List.forall_mem_cons.mpr ⟨lw_p79, fun _ h => absurd h List.not_mem_nil⟩⟩⟩⟩⟩⟩⟩⟩⟩⟩⟩⟩⟩⟩⟩⟩
theorem lw_p80 : lw_okq (⟨"NestedArchivesModel", "byteOf", "(III)I"⟩, 26) := ⟨⟨by decide +kernel, by decide +kernel⟩, List.mem_of_getElem? (i := 1034) (by decide +kernel), List.mem_of_getElem? (i := 1413) (by decide +kernel), List.mem_of_getElem? (i := 1414) (by decide +kernel)⟩
theorem lw_p81 : lw_okq (⟨"NestedArchivesModel", "behind", "(II)I"⟩, 26) := ⟨⟨by decide +kernel, by decide +kernel⟩, List.mem_of_getElem? (i := 1034) (by decide +kernel), List.mem_of_getElem? (i := 1420) (by decide +kernel), List.mem_of_getElem? (i := 1421) (by decide +kernel)⟩
theorem lw_p82 : lw_okq (⟨"NestedArchivesModel", "isAsked", "(III)Z"⟩, 26) := ⟨⟨by decide +kernel, by decide +kernel⟩, List.mem_of_getElem? (i := 1034) (by decide +kernel), List.mem_of_getElem? (i := 1424) (by decide +kernel), List.mem_of_getElem? (i := 1425) (by decide +kernel)⟩
theorem lw_p83 : lw_okq (⟨"NestedArchivesModel", "keepValue", "(II)I"⟩, 26) := ⟨⟨by decide +kernel, by decide +kernel⟩, List.mem_of_getElem? (i := 1034) (by decide +kernel), List.mem_of_getElem? (i := 1428) (by decide +kernel), List.mem_of_getElem? (i := 1429) (by decide +kernel)⟩
def lw_privs_6 : List (MethodName × Nat) := [(⟨"NestedArchivesModel", "byteOf", "(III)I"⟩, 26), (⟨"NestedArchivesModel", "behind", "(II)I"⟩, 26), (⟨"NestedArchivesModel", "isAsked", "(III)Z"⟩, 26), (⟨"NestedArchivesModel", "keepValue", "(II)I"⟩, 26)]
theorem lw_r6 : ∀ q ∈ lw_privs_6, lw_okq q := List.forall_mem_cons.mpr ⟨lw_p80, List.forall_mem_cons.mpr ⟨lw_p81, List.forall_mem_cons.mpr ⟨lw_p82, List.forall_mem_cons.mpr ⟨lw_p83, fun _ h => absurd h List.not_mem_nil⟩⟩⟩⟩
def lw_privs : List (MethodName × Nat) := lw_privs_1 ++ (lw_privs_2 ++ (lw_privs_3 ++ (lw_privs_4 ++ (lw_privs_5 ++ (lw_privs_6)))))
def lw_tbl : List Cond := k2_sels lw_privs ++ tables_1
theorem lw_privs_ok : ∀ q ∈ lw_privs, lw_okq q := by
  show ∀ q ∈ lw_privs_1 ++ (lw_privs_2 ++ (lw_privs_3 ++ (lw_privs_4 ++ (lw_privs_5 ++ (lw_privs_6))))), lw_okq q
  exact List.forall_mem_append.mpr ⟨lw_r1, List.forall_mem_append.mpr ⟨lw_r2, List.forall_mem_append.mpr ⟨lw_r3, List.forall_mem_append.mpr ⟨lw_r4, List.forall_mem_append.mpr ⟨lw_r5, lw_r6⟩⟩⟩⟩⟩
-- ===== end of PART A; then your names; then what follows =====
end
section
/-! The small machine: a pure interpreter over a list of cells; a reference is a place in that list. -/
abbrev qLV := List (Nat × Value)
/-- a cell: an object (class, fields), an array of ints or bytes (0: int, 1: byte; contents), of longs, of references, one that is only read, or one of which nothing is told (its slots) -/
abbrev qC := (Nat × List Value) ⊕ (Nat × List Int32) ⊕ (List Int64) ⊕ (List (Option Nat)) ⊕ (Nat × List Int32) ⊕ Nat
abbrev qH := List qC
def qlg : qLV → Nat → Option Value
  | [], _ => none
  | (i, v) :: l, k => bif Nat.beq i k then some v else qlg l k
def qls1 (l : qLV) (i : Nat) (v : Value) : qLV := (i, v) :: l.filter (fun q => !(q.1 == i) && !(q.1 + 1 == i && q.2.category == 2))
def qls2 (l : qLV) (i : Nat) (v : Value) : qLV := (i, v) :: l.filter (fun q => !(q.1 == i) && (!(q.1 == i + 1) && !(q.1 + 1 == i && q.2.category == 2)))
def qsh (x : Value) : Option Int32 := match x with
  | .int a => some a
  | _ => none
/-- instructions that touch locals and stack alone; nL: how many locals there are -/
def qsim (nL : Nat) (ins : Instr) (len : Nat) (lv : qLV) (st : List Value) : Option (qLV × List Value) :=
  match ins with
  | .iconst n => bif len == 1 then some (lv, .int (Int32.ofInt n) :: st) else none
  | .bipush n => bif len == 2 then some (lv, .int (Int8.ofInt n).toInt32 :: st) else none
  | .sipush n => bif len == 3 then some (lv, .int (Int16.ofInt n).toInt32 :: st) else none
  | .lconst n => bif len == 1 then some (lv, .long (Int64.ofNat (n : Nat)) :: st) else none
  | .aconst_null => bif len == 1 then some (lv, .null :: st) else none
  | .iload_n k => match len, qlg lv (k : Nat) with
    | 1, some (.int x) => some (lv, .int x :: st)
    | _, _ => none
  | .iload k => match len, qlg lv k with
    | 2, some (.int x) => some (lv, .int x :: st)
    | _, _ => none
  | .lload_n k => match len, qlg lv (k : Nat) with
    | 1, some (.long x) => some (lv, .long x :: st)
    | _, _ => none
  | .lload k => match len, qlg lv k with
    | 2, some (.long x) => some (lv, .long x :: st)
    | _, _ => none
  | .aload_n k => match len, qlg lv (k : Nat) with
    | 1, some (.ref x) => some (lv, .ref x :: st)
    | 1, some .null => some (lv, .null :: st)
    | _, _ => none
  | .aload k => match len, qlg lv k with
    | 2, some (.ref x) => some (lv, .ref x :: st)
    | 2, some .null => some (lv, .null :: st)
    | _, _ => none
  | .istore_n k => match len, st with
    | 1, .int x :: r => bif Nat.blt (k : Nat) nL then some (qls1 lv (k : Nat) (.int x), r) else none
    | _, _ => none
  | .istore k => match len, st with
    | 2, .int x :: r => bif Nat.blt k nL then some (qls1 lv k (.int x), r) else none
    | _, _ => none
  | .astore_n k => match len, st with
    | 1, .ref x :: r => bif Nat.blt (k : Nat) nL then some (qls1 lv (k : Nat) (.ref x), r) else none
    | 1, .null :: r => bif Nat.blt (k : Nat) nL then some (qls1 lv (k : Nat) .null, r) else none
    | _, _ => none
  | .astore k => match len, st with
    | 2, .ref x :: r => bif Nat.blt k nL then some (qls1 lv k (.ref x), r) else none
    | 2, .null :: r => bif Nat.blt k nL then some (qls1 lv k .null, r) else none
    | _, _ => none
  | .lstore_n k => match len, st with
    | 1, .long x :: r => bif Nat.blt ((k : Nat) + 1) nL then some (qls2 lv (k : Nat) (.long x), r) else none
    | _, _ => none
  | .lstore k => match len, st with
    | 2, .long x :: r => bif Nat.blt (k + 1) nL then some (qls2 lv k (.long x), r) else none
    | _, _ => none
  | .iinc k n => match len, qlg lv k with
    | 3, some (.int x) => bif Nat.blt k nL then some (qls1 lv k (.int (x + Int32.ofInt n)), st) else none
    | _, _ => none
  | .iadd => match len, st with
    | 1, .int y :: .int x :: r => some (lv, .int (x + y) :: r)
    | _, _ => none
  | .isub => match len, st with
    | 1, .int y :: .int x :: r => some (lv, .int (x - y) :: r)
    | _, _ => none
  | .imul => match len, st with
    | 1, .int y :: .int x :: r => some (lv, .int (x * y) :: r)
    | _, _ => none
  | .iand => match len, st with
    | 1, .int y :: .int x :: r => some (lv, .int (x &&& y) :: r)
    | _, _ => none
  | .ior => match len, st with
    | 1, .int y :: .int x :: r => some (lv, .int (x ||| y) :: r)
    | _, _ => none
  | .ixor => match len, st with
    | 1, .int y :: .int x :: r => some (lv, .int (x ^^^ y) :: r)
    | _, _ => none
  | .ishl => match len, st with
    | 1, .int y :: .int x :: r => some (lv, .int (x <<< (y &&& 31)) :: r)
    | _, _ => none
  | .ishr => match len, st with
    | 1, .int y :: .int x :: r => some (lv, .int (x >>> (y &&& 31)) :: r)
    | _, _ => none
  | .iushr => match len, st with
    | 1, .int y :: .int x :: r => some (lv, .int (x.toUInt32 >>> (y.toUInt32 &&& Int32.toUInt32 31)).toInt32 :: r)
    | _, _ => none
  | .ladd => match len, st with
    | 1, .long y :: .long x :: r => some (lv, .long (x + y) :: r)
    | _, _ => none
  | .lsub => match len, st with
    | 1, .long y :: .long x :: r => some (lv, .long (x - y) :: r)
    | _, _ => none
  | .land => match len, st with
    | 1, .long y :: .long x :: r => some (lv, .long (x &&& y) :: r)
    | _, _ => none
  | .lor => match len, st with
    | 1, .long y :: .long x :: r => some (lv, .long (x ||| y) :: r)
    | _, _ => none
  | .lxor => match len, st with
    | 1, .long y :: .long x :: r => some (lv, .long (x ^^^ y) :: r)
    | _, _ => none
  | .lushr => match len, st with
    | 1, .int y :: .long x :: r => some (lv, .long (x.toUInt64 >>> (y.toInt64.toUInt64 &&& Int64.toUInt64 63)).toInt64 :: r)
    | _, _ => none
  | .lshl => match len, st with
    | 1, .int y :: .long x :: r => some (lv, .long (x <<< (y.toInt64 &&& 63)) :: r)
    | _, _ => none
  | .lshr => match len, st with
    | 1, .int y :: .long x :: r => some (lv, .long (x >>> (y.toInt64 &&& 63)) :: r)
    | _, _ => none
  | .i2l => match len, st with
    | 1, .int x :: r => some (lv, .long x.toInt64 :: r)
    | _, _ => none
  | .l2i => match len, st with
    | 1, .long x :: r => some (lv, .int x.toInt32 :: r)
    | _, _ => none
  | .i2b => match len, st with
    | 1, .int x :: r => some (lv, .int x.toInt8.toInt32 :: r)
    | _, _ => none
  | .idiv => match len, st with
    | 1, .int y :: .int x :: r => bif !(y == 0) then some (lv, .int (x / y) :: r) else none
    | _, _ => none
  | .irem => match len, st with
    | 1, .int y :: .int x :: r => bif !(y == 0) then some (lv, .int (x - x / y * y) :: r) else none
    | _, _ => none
  | .lcmp => match len, st with
    | 1, .long y :: .long x :: r => some (lv, .int (lg_cmp x y) :: r)
    | _, _ => none
  | .dup => match len, st with
    | 1, v :: r => bif v.category == 1 then some (lv, v :: v :: r) else none
    | _, _ => none
  | .pop => match len, st with
    | 1, v :: r => bif v.category == 1 then some (lv, r) else none
    | _, _ => none
  | .dup2 => match len, st with
    | 1, v :: w :: r => bif v.category == 1 && w.category == 1 then some (lv, v :: w :: v :: w :: r) else none
    | _, _ => none
  | _ => none
/-- where a value lies in the machine -/
def qv (ρ : Nat → Nat) : Value → Value
  | .ref a => .ref (ρ a)
  | v => v
def qtg (t : Int) : Option Nat := match t with
  | .ofNat n => some n
  | _ => none
/-- branches: where it goes on, and the stack there -/
def qjmp (ins : Instr) (len pc : Nat) (st : List Value) : Option (Nat × List Value) :=
  match ins with
  | .goto off => match len, qtg ((pc : Int) + off) with
    | 3, some t => some (t, st)
    | _, _ => none
  | .ifCond cnd off => match len, st, qtg ((pc : Int) + off) with
    | 3, .int x :: r, some t => match cnd with
      | .eq => some (if x = 0 then t else pc + 3, r)
      | .ne => some (if x = 0 then pc + 3 else t, r)
      | .lt => some (if x < 0 then t else pc + 3, r)
      | .ge => some (if 0 ≤ x then t else pc + 3, r)
      | .gt => some (if 0 < x then t else pc + 3, r)
      | .le => some (if x ≤ 0 then t else pc + 3, r)
    | _, _, _ => none
  | .if_icmp cnd off => match len, st, qtg ((pc : Int) + off) with
    | 3, .int y :: .int x :: r, some t => match cnd with
      | .eq => some (if x = y then t else pc + 3, r)
      | .ne => some (if x = y then pc + 3 else t, r)
      | .lt => some (if x < y then t else pc + 3, r)
      | .ge => some (if y ≤ x then t else pc + 3, r)
      | .gt => some (if y < x then t else pc + 3, r)
      | .le => some (if x ≤ y then t else pc + 3, r)
    | _, _, _ => none
  | .ifnull off => match len, st, qtg ((pc : Int) + off) with
    | 3, .null :: r, some t => some (t, r)
    | 3, .ref _ :: r, some _ => some (pc + 3, r)
    | _, _, _ => none
  | .ifnonnull off => match len, st, qtg ((pc : Int) + off) with
    | 3, .null :: r, some _ => some (pc + 3, r)
    | 3, .ref _ :: r, some t => some (t, r)
    | _, _, _ => none
  | .tableswitch dflt lo hi offs => match st with
    | .int x :: r => bif decide (x.toInt < lo) || decide (hi < x.toInt) then
        (match qtg ((pc : Int) + dflt) with
        | some t => some (t, r)
        | none => none)
      else (match offs[(x.toInt - lo).toNat]? with
        | some off => (match qtg ((pc : Int) + off) with
          | some t => some (t, r)
          | none => none)
        | none => none)
    | _ => none
  | _ => none
end
section
theorem qcd {α : Type} {b : Bool} {x y : α} (h : (bif b then some x else none) = some y) : b = true ∧ x = y := by
  cases b with
  | true => exact ⟨rfl, Option.some.inj h⟩
  | false => cases h
def qm (ρ : Nat → Nat) (lv : qLV) : qLV := lv.map (fun q => (q.1, qv ρ q.2))
theorem qv_cat (ρ : Nat → Nat) (v : Value) : (qv ρ v).category = v.category := by cases v <;> rfl
theorem qlg_mem : ∀ {lv : qLV} {k : Nat} {v : Value}, qlg lv k = some v → (k, v) ∈ lv
  | [], _, _, h => by cases h
  | (i, w) :: l, k, v, h => by
    unfold qlg at h
    cases hb : Nat.beq i k with
    | true =>
      rw [hb] at h
      have e1 : i = k := Nat.eq_of_beq_eq_true hb
      have e2 : w = v := Option.some.inj h
      subst e1; subst e2
      exact List.mem_cons_self
    | false =>
      rw [hb] at h
      exact List.mem_cons_of_mem _ (qlg_mem h)
theorem qlg_at {ρ : Nat → Nat} {ls : Array Slot} {nL : Nat} {lv : qLV} {k : Nat} {v : Value} (hl : lv_has ls nL (qm ρ lv)) (h : qlg lv k = some v) : ls[k]? = some (.val (qv ρ v)) :=
  hl.2.2 (k, qv ρ v) (List.mem_map.mpr ⟨(k, v), qlg_mem h, rfl⟩)
theorem qm_f1 (ρ : Nat → Nat) (i : Nat) (l : qLV) : (qm ρ l).filter (fun q => !(q.1 == i) && !(q.1 + 1 == i && q.2.category == 2)) = qm ρ (l.filter (fun q => !(q.1 == i) && !(q.1 + 1 == i && q.2.category == 2))) := by
  unfold qm
  rw [List.filter_map]
  congr 1
  apply List.filter_congr
  intro q _
  simp [qv_cat]
theorem qm_f2 (ρ : Nat → Nat) (i : Nat) (l : qLV) : (qm ρ l).filter (fun q => !(q.1 == i) && (!(q.1 == i + 1) && !(q.1 + 1 == i && q.2.category == 2))) = qm ρ (l.filter (fun q => !(q.1 == i) && (!(q.1 == i + 1) && !(q.1 + 1 == i && q.2.category == 2)))) := by
  unfold qm
  rw [List.filter_map]
  congr 1
  apply List.filter_congr
  intro q _
  simp [qv_cat]
theorem qm_1 (ρ : Nat → Nat) (l : qLV) (i : Nat) (v : Value) : (i, qv ρ v) :: (qm ρ l).filter (fun q => !(q.1 == i) && !(q.1 + 1 == i && q.2.category == 2)) = qm ρ (qls1 l i v) := by rw [qm_f1]; rfl
theorem qm_2 (ρ : Nat → Nat) (l : qLV) (i : Nat) (v : Value) : (i, qv ρ v) :: (qm ρ l).filter (fun q => !(q.1 == i) && (!(q.1 == i + 1) && !(q.1 + 1 == i && q.2.category == 2))) = qm ρ (qls2 l i v) := by rw [qm_f2]; rfl
theorem qm_k {ρ : Nat → Nat} {lv : qLV} {k : Nat} {v : Value} (h : qlg lv k = some v) : ∃ j : Nat, (qm ρ lv)[j]? = some (k, qv ρ v) := List.getElem?_of_mem (List.mem_map.mpr ⟨(k, v), qlg_mem h, rfl⟩)
theorem qblt {a b : Nat} (h : Nat.blt a b = true) : a < b := Nat.le_of_ble_eq_true h
theorem qbeq {a b : Nat} (h : (a == b) = true) : a = b := by simpa using h
section
variable {p : Program} {l : Launch} {e : Env} {R : Room} {s : State} {m : MethodId} {args : Array Value} {below : List Frame} {meth : Method} {c : Code} {H : Heap} {locs : List Loc} {cells slots : Nat} {Q : State → Prop}
set_option maxHeartbeats 4000000 in
theorem qsim_ok (hx : p.tables.exec = Jvm.exec) {cc : ByteArray} (hb : c.code = cc) {ρ : Nat → Nat} {nL pc len : Nat} {ins : Instr} {lv lv' : qLV} {st st' : List Value} (hd : decode cc pc = .ok (ins, len)) (h : qsim nL ins len lv st = some (lv', st')) {ls : Array Slot} (hl : lv_has ls nL (qm ρ lv))
    (k : ∀ ls' : Array Slot, lv_has ls' nL (qm ρ lv') → W p l e R s m args below meth c H locs cells slots Q (F0 m (pc + len) ls' (st'.map (qv ρ)))) : W p l e R s m args below meth c H locs cells slots Q (F0 m pc ls (st.map (qv ρ))) := by
  unfold qsim at h
  split at h
  · obtain ⟨e1, e2⟩ := qcd h
    cases qbeq e1; cases e2
    exact lv_iconst hx hb hd rfl (k ls hl)
  · obtain ⟨e1, e2⟩ := qcd h
    cases qbeq e1; cases e2
    exact lv_bipush hx hb hd rfl (k ls hl)
  · obtain ⟨e1, e2⟩ := qcd h
    cases qbeq e1; cases e2
    exact lv_sipush hx hb hd rfl (k ls hl)
  · obtain ⟨e1, e2⟩ := qcd h
    cases qbeq e1; cases e2
    exact lv_lconst hx hb hd rfl (k ls hl)
  · obtain ⟨e1, e2⟩ := qcd h
    cases qbeq e1; cases e2
    exact lv_null hx hb hd (k ls hl)
  · split at h
    · rename_i hq
      cases h
      exact lv_iload_n hx hb hd rfl (qlg_at hl hq) (k ls hl)
    · cases h
  · split at h
    · rename_i hq
      cases h
      exact lv_iload hx hb hd (qlg_at hl hq) (k ls hl)
    · cases h
  · split at h
    · rename_i hq
      cases h
      exact lv_lload_n hx hb hd rfl (qlg_at hl hq) (k ls hl)
    · cases h
  · split at h
    · rename_i hq
      cases h
      exact lv_lload hx hb hd (qlg_at hl hq) (k ls hl)
    · cases h
  · split at h
    · rename_i hq
      cases h
      exact lv_aload_n hx hb hd rfl (qlg_at hl hq) (k ls hl)
    · rename_i hq
      cases h
      exact lv_aload_nN hx hb hd rfl (qlg_at hl hq) (k ls hl)
    · cases h
  · split at h
    · rename_i hq
      cases h
      exact lv_aload hx hb hd (qlg_at hl hq) (k ls hl)
    · rename_i hq
      cases h
      exact lv_aloadN hx hb hd (qlg_at hl hq) (k ls hl)
    · cases h
  · split at h
    · obtain ⟨e1, e2⟩ := qcd h
      cases e2
      exact lv_istore_n hx hb hd rfl hl (qblt e1) (qm_1 ρ lv _ (.int _)) (fun ls' hl' => k ls' hl')
    · cases h
  · split at h
    · obtain ⟨e1, e2⟩ := qcd h
      cases e2
      exact lv_istore hx hb hd hl (qblt e1) (qm_1 ρ lv _ (.int _)) (fun ls' hl' => k ls' hl')
    · cases h
  · split at h
    · obtain ⟨e1, e2⟩ := qcd h
      cases e2
      exact lv_astore_n hx hb hd rfl hl (qblt e1) (qm_1 ρ lv _ (.ref _)) (fun ls' hl' => k ls' hl')
    · obtain ⟨e1, e2⟩ := qcd h
      cases e2
      exact lv_astore_nN hx hb hd rfl hl (qblt e1) (qm_1 ρ lv _ (.null)) (fun ls' hl' => k ls' hl')
    · cases h
  · split at h
    · obtain ⟨e1, e2⟩ := qcd h
      cases e2
      exact lv_astore hx hb hd hl (qblt e1) (qm_1 ρ lv _ (.ref _)) (fun ls' hl' => k ls' hl')
    · obtain ⟨e1, e2⟩ := qcd h
      cases e2
      exact lv_astoreN hx hb hd hl (qblt e1) (qm_1 ρ lv _ (.null)) (fun ls' hl' => k ls' hl')
    · cases h
  · split at h
    · obtain ⟨e1, e2⟩ := qcd h
      cases e2
      exact lv_lstore_n hx hb hd rfl hl (qblt e1) (qm_2 ρ lv _ (.long _)) (fun ls' hl' => k ls' hl')
    · cases h
  · split at h
    · obtain ⟨e1, e2⟩ := qcd h
      cases e2
      exact lv_lstore hx hb hd hl (qblt e1) (qm_2 ρ lv _ (.long _)) (fun ls' hl' => k ls' hl')
    · cases h
  · split at h
    · rename_i hq
      obtain ⟨e1, e2⟩ := qcd h
      cases e2
      obtain ⟨j, hj⟩ := qm_k (ρ := ρ) hq
      exact lv_iinc hx hb hd hl hj rfl (qblt e1) (qm_1 ρ lv _ (.int _)) (fun ls' hl' => k ls' hl')
    · cases h
  · split at h
    · cases h
      exact lv_iadd hx hb hd (k ls hl)
    · cases h
  · split at h
    · cases h
      exact lv_isub hx hb hd (k ls hl)
    · cases h
  · split at h
    · cases h
      exact lv_imul hx hb hd (k ls hl)
    · cases h
  · split at h
    · cases h
      exact lv_iand hx hb hd (k ls hl)
    · cases h
  · split at h
    · cases h
      exact lv_ior hx hb hd (k ls hl)
    · cases h
  · split at h
    · cases h
      exact lv_ixor hx hb hd (k ls hl)
    · cases h
  · split at h
    · cases h
      exact lv_ishl hx hb hd (k ls hl)
    · cases h
  · split at h
    · cases h
      exact lv_ishr hx hb hd (k ls hl)
    · cases h
  · split at h
    · cases h
      exact lv_iushr hx hb hd rfl (k ls hl)
    · cases h
  · split at h
    · cases h
      exact lv_ladd hx hb hd (k ls hl)
    · cases h
  · split at h
    · cases h
      exact lv_lsub hx hb hd (k ls hl)
    · cases h
  · split at h
    · cases h
      exact lv_land hx hb hd (k ls hl)
    · cases h
  · split at h
    · cases h
      exact lv_lor hx hb hd (k ls hl)
    · cases h
  · split at h
    · cases h
      exact lv_lxor hx hb hd (k ls hl)
    · cases h
  · split at h
    · cases h
      exact lv_lushr hx hb hd rfl (k ls hl)
    · cases h
  · split at h
    · cases h
      exact lv_lshl hx hb hd rfl (k ls hl)
    · cases h
  · split at h
    · cases h
      exact lv_lshr hx hb hd rfl (k ls hl)
    · cases h
  · split at h
    · cases h
      exact lv_i2l hx hb hd rfl (k ls hl)
    · cases h
  · split at h
    · cases h
      exact lv_l2i hx hb hd rfl (k ls hl)
    · cases h
  · split at h
    · cases h
      exact lv_i2b hx hb hd rfl (k ls hl)
    · cases h
  · split at h
    · obtain ⟨e1, e2⟩ := qcd h
      cases e2
      exact lv_idiv hx hb hd (fun z => by rw [z] at e1; simp at e1) (k ls hl)
    · cases h
  · split at h
    · obtain ⟨e1, e2⟩ := qcd h
      cases e2
      exact lv_irem hx hb hd (fun z => by rw [z] at e1; simp at e1) (k ls hl)
    · cases h
  · split at h
    · cases h
      exact W.lcmp hx hb hd (k ls hl)
    · cases h
  · split at h
    · obtain ⟨e1, e2⟩ := qcd h
      cases e2
      exact lv_dup hx hb hd (by rw [qv_cat]; exact qbeq e1) (k ls hl)
    · cases h
  · split at h
    · obtain ⟨e1, e2⟩ := qcd h
      cases e2
      exact lv_pop hx hb hd (by rw [qv_cat]; exact qbeq e1) (k ls hl)
    · cases h
  · split at h
    · obtain ⟨e1, e2⟩ := qcd h
      cases e2
      simp only [Bool.and_eq_true] at e1
      exact lv_dup2_11 hx hb hd (by rw [qv_cat]; exact qbeq e1.1) (by rw [qv_cat]; exact qbeq e1.2) (k ls hl)
    · cases h
  · cases h
end
end
section
theorem qtg_ok {t : Int} {n : Nat} (h : qtg t = some n) : t = (n : Int) := by
  unfold qtg at h
  split at h
  · cases h; rfl
  · cases h
section
variable {p : Program} {l : Launch} {e : Env} {R : Room} {s : State} {m : MethodId} {args : Array Value} {below : List Frame} {meth : Method} {c : Code} {H : Heap} {locs : List Loc} {cells slots : Nat} {Q : State → Prop}
set_option maxHeartbeats 4000000 in
theorem qjmp_ok (hx : p.tables.exec = Jvm.exec) {cc : ByteArray} (hb : c.code = cc) {ρ : Nat → Nat} {pc len pc' : Nat} {ins : Instr} {st st' : List Value} (hd : decode cc pc = .ok (ins, len)) (h : qjmp ins len pc st = some (pc', st')) {ls : Array Slot}
    (k : W p l e R s m args below meth c H locs cells slots Q (F0 m pc' ls (st'.map (qv ρ)))) : W p l e R s m args below meth c H locs cells slots Q (F0 m pc ls (st.map (qv ρ))) := by
  unfold qjmp at h
  split at h
  · split at h
    · rename_i ht
      cases h
      exact lv_goto hx hb hd (qtg_ok ht) k
    · cases h
  · split at h
    · rename_i ht
      split at h <;> cases h
      · exact lv_if_eq hx hb hd (qtg_ok ht) (fun z => by rw [if_pos z] at k; exact k) (fun z => by rw [if_neg z] at k; exact k)
      · exact lv_if_ne hx hb hd (qtg_ok ht) (fun z => by rw [if_neg z] at k; exact k) (fun z => by rw [if_pos z] at k; exact k)
      · exact lv_if_lt hx hb hd (qtg_ok ht) (fun z => by rw [if_pos z] at k; exact k) (fun z => by rw [if_neg z] at k; exact k)
      · exact lv_if_ge hx hb hd (qtg_ok ht) (fun z => by rw [if_pos z] at k; exact k) (fun z => by rw [if_neg z] at k; exact k)
      · exact lv_if_gt hx hb hd (qtg_ok ht) (fun z => by rw [if_pos z] at k; exact k) (fun z => by rw [if_neg z] at k; exact k)
      · exact lv_if_le hx hb hd (qtg_ok ht) (fun z => by rw [if_pos z] at k; exact k) (fun z => by rw [if_neg z] at k; exact k)
    · cases h
  · split at h
    · rename_i ht
      split at h <;> cases h
      · exact lv_icmp_eq hx hb hd (qtg_ok ht) (fun z => by rw [if_pos z] at k; exact k) (fun z => by rw [if_neg z] at k; exact k)
      · exact lv_icmp_ne hx hb hd (qtg_ok ht) (fun z => by rw [if_neg z] at k; exact k) (fun z => by rw [if_pos z] at k; exact k)
      · exact lv_icmp_lt hx hb hd (qtg_ok ht) (fun z => by rw [if_pos z] at k; exact k) (fun z => by rw [if_neg z] at k; exact k)
      · exact lv_icmp_ge hx hb hd (qtg_ok ht) (fun z => by rw [if_pos z] at k; exact k) (fun z => by rw [if_neg z] at k; exact k)
      · exact lv_icmp_gt hx hb hd (qtg_ok ht) (fun z => by rw [if_pos z] at k; exact k) (fun z => by rw [if_neg z] at k; exact k)
      · exact lv_icmp_le hx hb hd (qtg_ok ht) (fun z => by rw [if_pos z] at k; exact k) (fun z => by rw [if_neg z] at k; exact k)
    · cases h
  · split at h
    · rename_i ht
      cases h
      exact lv_ifnullN hx hb hd (qtg_ok ht) k
    · cases h
      exact lv_ifnull hx hb hd k
    · cases h
  · split at h
    · cases h
      exact lv_ifnonnullN hx hb hd k
    · rename_i ht
      cases h
      exact lv_ifnonnull hx hb hd (qtg_ok ht) k
    · cases h
  · split at h
    · rename_i x r
      cases hc : (decide (x.toInt < _) || decide (_ < x.toInt)) with
      | true =>
        rw [hc] at h
        simp only [cond_true] at h
        split at h
        · rename_i ht
          cases h
          exact lv_tableOut hx hb hd (by simpa using hc) (qtg_ok ht) k
        · cases h
      | false =>
        rw [hc] at h
        simp only [cond_false] at h
        simp only [Bool.or_eq_false_iff, decide_eq_false_iff_not] at hc
        split at h
        · rename_i ho
          split at h
          · rename_i ht
            cases h
            exact lv_tableIn hx hb hd hc.1 hc.2 ho (qtg_ok ht) k
          · cases h
        · cases h
    · cases h
  · cases h
end
end
