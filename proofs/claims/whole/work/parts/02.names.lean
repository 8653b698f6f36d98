-- ===== PART A: goes FIRST, ahead of the names: the tables' words, and 'selects' of the private methods out of them =====
/-- a private method of a class that the tables say can be made, by its rows of tables_1 -/
def lw_okq (q : MethodName × Nat) : Prop := (q.1.cls ≠ "java/lang/invoke/MethodHandle" ∧ q.1.cls ≠ "java/lang/invoke/VarHandle") ∧ Cond.instantiable q.1.cls q.2 ∈ tables_1 ∧ Cond.privateMethod q.1 ∈ tables_1 ∧ Cond.instanceMethod q.1 ∈ tables_1
theorem lw_p0 : lw_okq (⟨"NumberSpeech$History", "bookAt", "(I)LNumberSpeech$Book;"⟩, 3) := ⟨⟨by decide +kernel, by decide +kernel⟩, List.mem_of_getElem? (i := 71) (by decide +kernel), List.mem_of_getElem? (i := 421) (by decide +kernel), List.mem_of_getElem? (i := 422) (by decide +kernel)⟩
theorem lw_p1 : lw_okq (⟨"NumberSpeech", "learn", "(I)V"⟩, 13) := ⟨⟨by decide +kernel, by decide +kernel⟩, List.mem_of_getElem? (i := 27) (by decide +kernel), List.mem_of_getElem? (i := 429) (by decide +kernel), List.mem_of_getElem? (i := 430) (by decide +kernel)⟩
theorem lw_p2 : lw_okq (⟨"NumberSpeech", "rankingOf", "(I)LNumberSpeech$Ranking;"⟩, 13) := ⟨⟨by decide +kernel, by decide +kernel⟩, List.mem_of_getElem? (i := 27) (by decide +kernel), List.mem_of_getElem? (i := 433) (by decide +kernel), List.mem_of_getElem? (i := 434) (by decide +kernel)⟩
theorem lw_p3 : lw_okq (⟨"NumberSpeech$Voice", "speaks", "(II)Z"⟩, 11) := ⟨⟨by decide +kernel, by decide +kernel⟩, List.mem_of_getElem? (i := 153) (by decide +kernel), List.mem_of_getElem? (i := 472) (by decide +kernel), List.mem_of_getElem? (i := 473) (by decide +kernel)⟩
theorem lw_p4 : lw_okq (⟨"NumberSpeech$Voice", "refusalOf", "(II)I"⟩, 11) := ⟨⟨by decide +kernel, by decide +kernel⟩, List.mem_of_getElem? (i := 153) (by decide +kernel), List.mem_of_getElem? (i := 476) (by decide +kernel), List.mem_of_getElem? (i := 477) (by decide +kernel)⟩
theorem lw_p5 : lw_okq (⟨"NumberSpeech$Voice", "recalls", "(II)Z"⟩, 11) := ⟨⟨by decide +kernel, by decide +kernel⟩, List.mem_of_getElem? (i := 153) (by decide +kernel), List.mem_of_getElem? (i := 484) (by decide +kernel), List.mem_of_getElem? (i := 485) (by decide +kernel)⟩
theorem lw_p6 : lw_okq (⟨"NumberSpeech$Voice", "saysItems", "(III)Z"⟩, 11) := ⟨⟨by decide +kernel, by decide +kernel⟩, List.mem_of_getElem? (i := 153) (by decide +kernel), List.mem_of_getElem? (i := 505) (by decide +kernel), List.mem_of_getElem? (i := 506) (by decide +kernel)⟩
theorem lw_p7 : lw_okq (⟨"NumberSpeech$Voice", "addsWord", "(LNumberSpeech$Rule;IIZ)Z"⟩, 11) := ⟨⟨by decide +kernel, by decide +kernel⟩, List.mem_of_getElem? (i := 153) (by decide +kernel), List.mem_of_getElem? (i := 526) (by decide +kernel), List.mem_of_getElem? (i := 527) (by decide +kernel)⟩
theorem lw_p8 : lw_okq (⟨"NumberSpeech$Voice", "opensRoom", "(IIZ)Z"⟩, 11) := ⟨⟨by decide +kernel, by decide +kernel⟩, List.mem_of_getElem? (i := 153) (by decide +kernel), List.mem_of_getElem? (i := 531) (by decide +kernel), List.mem_of_getElem? (i := 532) (by decide +kernel)⟩
theorem lw_p9 : lw_okq (⟨"NumberSpeech$Voice", "addsSaid", "(IIZ)Z"⟩, 11) := ⟨⟨by decide +kernel, by decide +kernel⟩, List.mem_of_getElem? (i := 153) (by decide +kernel), List.mem_of_getElem? (i := 543) (by decide +kernel), List.mem_of_getElem? (i := 544) (by decide +kernel)⟩
theorem lw_p10 : lw_okq (⟨"NumberSpeech", "wantBetween", "(III)V"⟩, 13) := ⟨⟨by decide +kernel, by decide +kernel⟩, List.mem_of_getElem? (i := 27) (by decide +kernel), List.mem_of_getElem? (i := 594) (by decide +kernel), List.mem_of_getElem? (i := 595) (by decide +kernel)⟩
theorem lw_p11 : lw_okq (⟨"java/lang/Throwable", "fillInStackTrace", "(I)Ljava/lang/Throwable;"⟩, 6) := ⟨⟨by decide +kernel, by decide +kernel⟩, List.mem_of_getElem? (i := 635) (by decide +kernel), List.mem_of_getElem? (i := 633) (by decide +kernel), List.mem_of_getElem? (i := 634) (by decide +kernel)⟩
theorem lw_p12 : lw_okq (⟨"NumberSpeech", "takeText", "(IZ)I"⟩, 13) := ⟨⟨by decide +kernel, by decide +kernel⟩, List.mem_of_getElem? (i := 27) (by decide +kernel), List.mem_of_getElem? (i := 664) (by decide +kernel), List.mem_of_getElem? (i := 665) (by decide +kernel)⟩
theorem lw_p13 : lw_okq (⟨"NumberSpeech$TextReader", "readsHead", "()Z"⟩, 14) := ⟨⟨by decide +kernel, by decide +kernel⟩, List.mem_of_getElem? (i := 91) (by decide +kernel), List.mem_of_getElem? (i := 674) (by decide +kernel), List.mem_of_getElem? (i := 675) (by decide +kernel)⟩
theorem lw_p14 : lw_okq (⟨"NumberSpeech$TextReader", "passes", "(Ljava/lang/String;)Z"⟩, 14) := ⟨⟨by decide +kernel, by decide +kernel⟩, List.mem_of_getElem? (i := 91) (by decide +kernel), List.mem_of_getElem? (i := 679) (by decide +kernel), List.mem_of_getElem? (i := 680) (by decide +kernel)⟩
theorem lw_p15 : lw_okq (⟨"NumberSpeech$TextReader", "skipBlanks", "()V"⟩, 14) := ⟨⟨by decide +kernel, by decide +kernel⟩, List.mem_of_getElem? (i := 91) (by decide +kernel), List.mem_of_getElem? (i := 683) (by decide +kernel), List.mem_of_getElem? (i := 684) (by decide +kernel)⟩
def lw_privs_1 : List (MethodName × Nat) := [(⟨"NumberSpeech$History", "bookAt", "(I)LNumberSpeech$Book;"⟩, 3), (⟨"NumberSpeech", "learn", "(I)V"⟩, 13), (⟨"NumberSpeech", "rankingOf", "(I)LNumberSpeech$Ranking;"⟩, 13), (⟨"NumberSpeech$Voice", "speaks", "(II)Z"⟩, 11), (⟨"NumberSpeech$Voice", "refusalOf", "(II)I"⟩, 11), (⟨"NumberSpeech$Voice", "recalls", "(II)Z"⟩, 11), (⟨"NumberSpeech$Voice", "saysItems", "(III)Z"⟩, 11), (⟨"NumberSpeech$Voice", "addsWord", "(LNumberSpeech$Rule;IIZ)Z"⟩, 11), (⟨"NumberSpeech$Voice", "opensRoom", "(IIZ)Z"⟩, 11), (⟨"NumberSpeech$Voice", "addsSaid", "(IIZ)Z"⟩, 11), (⟨"NumberSpeech", "wantBetween", "(III)V"⟩, 13), (⟨"java/lang/Throwable", "fillInStackTrace", "(I)Ljava/lang/Throwable;"⟩, 6), (⟨"NumberSpeech", "takeText", "(IZ)I"⟩, 13), (⟨"NumberSpeech$TextReader", "readsHead", "()Z"⟩, 14), (⟨"NumberSpeech$TextReader", "passes", "(Ljava/lang/String;)Z"⟩, 14), (⟨"NumberSpeech$TextReader", "skipBlanks", "()V"⟩, 14)]
theorem lw_r1 : ∀ q ∈ lw_privs_1, lw_okq q := List.forall_mem_cons.mpr ⟨lw_p0, List.forall_mem_cons.mpr ⟨lw_p1, List.forall_mem_cons.mpr ⟨lw_p2, List.forall_mem_cons.mpr ⟨lw_p3, List.forall_mem_cons.mpr ⟨lw_p4, List.forall_mem_cons.mpr ⟨lw_p5, List.forall_mem_cons.mpr ⟨lw_p6, List.forall_mem_cons.mpr ⟨lw_p7, List.forall_mem_cons.mpr ⟨lw_p8, List.forall_mem_cons.mpr ⟨lw_p9, List.forall_mem_cons.mpr ⟨lw_p10, List.forall_mem_cons.mpr ⟨lw_p11, List.forall_mem_cons.mpr ⟨lw_p12, List.forall_mem_cons.mpr ⟨lw_p13, List.forall_mem_cons.mpr ⟨lw_p14, List.forall_mem_cons.mpr ⟨lw_p15, fun _ h => absurd h List.not_mem_nil⟩⟩⟩⟩⟩⟩⟩⟩⟩⟩⟩⟩⟩⟩⟩⟩
theorem lw_p16 : lw_okq (⟨"NumberSpeech$TextReader", "wordEnd", "()I"⟩, 14) := ⟨⟨by decide +kernel, by decide +kernel⟩, List.mem_of_getElem? (i := 91) (by decide +kernel), List.mem_of_getElem? (i := 687) (by decide +kernel), List.mem_of_getElem? (i := 688) (by decide +kernel)⟩
theorem lw_p17 : lw_okq (⟨"NumberSpeech$TextReader", "byteAt", "(I)I"⟩, 14) := ⟨⟨by decide +kernel, by decide +kernel⟩, List.mem_of_getElem? (i := 91) (by decide +kernel), List.mem_of_getElem? (i := 691) (by decide +kernel), List.mem_of_getElem? (i := 692) (by decide +kernel)⟩
theorem lw_p18 : lw_okq (⟨"NumberSpeech$TextReader", "fails", "(II)Z"⟩, 14) := ⟨⟨by decide +kernel, by decide +kernel⟩, List.mem_of_getElem? (i := 91) (by decide +kernel), List.mem_of_getElem? (i := 746) (by decide +kernel), List.mem_of_getElem? (i := 747) (by decide +kernel)⟩
theorem lw_p19 : lw_okq (⟨"NumberSpeech$TextReader", "readsNumber", "(II)Z"⟩, 14) := ⟨⟨by decide +kernel, by decide +kernel⟩, List.mem_of_getElem? (i := 91) (by decide +kernel), List.mem_of_getElem? (i := 750) (by decide +kernel), List.mem_of_getElem? (i := 751) (by decide +kernel)⟩
theorem lw_p20 : lw_okq (⟨"NumberSpeech$TextReader", "signHere", "()I"⟩, 14) := ⟨⟨by decide +kernel, by decide +kernel⟩, List.mem_of_getElem? (i := 91) (by decide +kernel), List.mem_of_getElem? (i := 760) (by decide +kernel), List.mem_of_getElem? (i := 761) (by decide +kernel)⟩
theorem lw_p21 : lw_okq (⟨"NumberSpeech$TextReader", "readsSay", "(I)Z"⟩, 14) := ⟨⟨by decide +kernel, by decide +kernel⟩, List.mem_of_getElem? (i := 91) (by decide +kernel), List.mem_of_getElem? (i := 765) (by decide +kernel), List.mem_of_getElem? (i := 766) (by decide +kernel)⟩
theorem lw_p22 : lw_okq (⟨"NumberSpeech$TextReader", "readsRange", "()Z"⟩, 14) := ⟨⟨by decide +kernel, by decide +kernel⟩, List.mem_of_getElem? (i := 91) (by decide +kernel), List.mem_of_getElem? (i := 770) (by decide +kernel), List.mem_of_getElem? (i := 771) (by decide +kernel)⟩
theorem lw_p23 : lw_okq (⟨"NumberSpeech$TextReader", "readsItems", "()Z"⟩, 14) := ⟨⟨by decide +kernel, by decide +kernel⟩, List.mem_of_getElem? (i := 91) (by decide +kernel), List.mem_of_getElem? (i := 778) (by decide +kernel), List.mem_of_getElem? (i := 779) (by decide +kernel)⟩
theorem lw_p24 : lw_okq (⟨"NumberSpeech$TextReader", "kindHere", "()I"⟩, 14) := ⟨⟨by decide +kernel, by decide +kernel⟩, List.mem_of_getElem? (i := 91) (by decide +kernel), List.mem_of_getElem? (i := 782) (by decide +kernel), List.mem_of_getElem? (i := 783) (by decide +kernel)⟩
theorem lw_p25 : lw_okq (⟨"NumberSpeech$TextReader", "readsItem", "(I)Z"⟩, 14) := ⟨⟨by decide +kernel, by decide +kernel⟩, List.mem_of_getElem? (i := 91) (by decide +kernel), List.mem_of_getElem? (i := 786) (by decide +kernel), List.mem_of_getElem? (i := 787) (by decide +kernel)⟩
theorem lw_p26 : lw_okq (⟨"NumberSpeech$TextReader", "keepRule", "()V"⟩, 14) := ⟨⟨by decide +kernel, by decide +kernel⟩, List.mem_of_getElem? (i := 91) (by decide +kernel), List.mem_of_getElem? (i := 791) (by decide +kernel), List.mem_of_getElem? (i := 792) (by decide +kernel)⟩
theorem lw_p27 : lw_okq (⟨"NumberSpeech", "wantRule", "(II)LNumberSpeech$Rule;"⟩, 13) := ⟨⟨by decide +kernel, by decide +kernel⟩, List.mem_of_getElem? (i := 27) (by decide +kernel), List.mem_of_getElem? (i := 884) (by decide +kernel), List.mem_of_getElem? (i := 885) (by decide +kernel)⟩
theorem lw_p28 : lw_okq (⟨"NumberSpeech", "wantLanguage", "(I)V"⟩, 13) := ⟨⟨by decide +kernel, by decide +kernel⟩, List.mem_of_getElem? (i := 27) (by decide +kernel), List.mem_of_getElem? (i := 888) (by decide +kernel), List.mem_of_getElem? (i := 889) (by decide +kernel)⟩
theorem lw_p29 : lw_okq (⟨"NumberSpeech", "wantPart", "(II)V"⟩, 13) := ⟨⟨by decide +kernel, by decide +kernel⟩, List.mem_of_getElem? (i := 27) (by decide +kernel), List.mem_of_getElem? (i := 892) (by decide +kernel), List.mem_of_getElem? (i := 893) (by decide +kernel)⟩
theorem lw_p30 : lw_okq (⟨"NumberSpeech", "voiceOf", "(I)LNumberSpeech$Voice;"⟩, 13) := ⟨⟨by decide +kernel, by decide +kernel⟩, List.mem_of_getElem? (i := 27) (by decide +kernel), List.mem_of_getElem? (i := 929) (by decide +kernel), List.mem_of_getElem? (i := 930) (by decide +kernel)⟩
theorem lw_p31 : lw_okq (⟨"NumberSpeech$Ranking", "sort", "()V"⟩, 11) := ⟨⟨by decide +kernel, by decide +kernel⟩, List.mem_of_getElem? (i := 147) (by decide +kernel), List.mem_of_getElem? (i := 1056) (by decide +kernel), List.mem_of_getElem? (i := 1057) (by decide +kernel)⟩
def lw_privs_2 : List (MethodName × Nat) := [(⟨"NumberSpeech$TextReader", "wordEnd", "()I"⟩, 14), (⟨"NumberSpeech$TextReader", "byteAt", "(I)I"⟩, 14), (⟨"NumberSpeech$TextReader", "fails", "(II)Z"⟩, 14), (⟨"NumberSpeech$TextReader", "readsNumber", "(II)Z"⟩, 14), (⟨"NumberSpeech$TextReader", "signHere", "()I"⟩, 14), (⟨"NumberSpeech$TextReader", "readsSay", "(I)Z"⟩, 14), (⟨"NumberSpeech$TextReader", "readsRange", "()Z"⟩, 14), (⟨"NumberSpeech$TextReader", "readsItems", "()Z"⟩, 14), (⟨"NumberSpeech$TextReader", "kindHere", "()I"⟩, 14), (⟨"NumberSpeech$TextReader", "readsItem", "(I)Z"⟩, 14), (⟨"NumberSpeech$TextReader", "keepRule", "()V"⟩, 14), (⟨"NumberSpeech", "wantRule", "(II)LNumberSpeech$Rule;"⟩, 13), (⟨"NumberSpeech", "wantLanguage", "(I)V"⟩, 13), (⟨"NumberSpeech", "wantPart", "(II)V"⟩, 13), (⟨"NumberSpeech", "voiceOf", "(I)LNumberSpeech$Voice;"⟩, 13), (⟨"NumberSpeech$Ranking", "sort", "()V"⟩, 11)]
theorem lw_r2 : ∀ q ∈ lw_privs_2, lw_okq q := List.forall_mem_cons.mpr ⟨lw_p16, List.forall_mem_cons.mpr ⟨lw_p17, List.forall_mem_cons.mpr ⟨lw_p18, List.forall_mem_cons.mpr ⟨lw_p19, List.forall_mem_cons.mpr ⟨lw_p20, List.forall_mem_cons.mpr ⟨lw_p21, List.forall_mem_cons.mpr ⟨lw_p22, List.forall_mem_cons.mpr ⟨lw_p23, List.forall_mem_cons.mpr ⟨lw_p24, List.forall_mem_cons.mpr ⟨lw_p25, List.forall_mem_cons.mpr ⟨lw_p26, List.forall_mem_cons.mpr ⟨lw_p27, List.forall_mem_cons.mpr ⟨lw_p28, List.forall_mem_cons.mpr ⟨lw_p29, List.forall_mem_cons.mpr ⟨lw_p30, List.forall_mem_cons.mpr ⟨lw_p31, fun _ h => absurd h List.not_mem_nil⟩⟩⟩⟩⟩⟩⟩⟩⟩⟩⟩⟩⟩⟩⟩⟩
theorem lw_p32 : lw_okq (⟨"NumberSpeech$Ranking", "merge", "(III)V"⟩, 11) := ⟨⟨by decide +kernel, by decide +kernel⟩, List.mem_of_getElem? (i := 147) (by decide +kernel), List.mem_of_getElem? (i := 1061) (by decide +kernel), List.mem_of_getElem? (i := 1062) (by decide +kernel)⟩
theorem lw_p33 : lw_okq (⟨"NumberSpeech$Ranking", "compare", "(II)I"⟩, 11) := ⟨⟨by decide +kernel, by decide +kernel⟩, List.mem_of_getElem? (i := 147) (by decide +kernel), List.mem_of_getElem? (i := 1065) (by decide +kernel), List.mem_of_getElem? (i := 1066) (by decide +kernel)⟩
theorem lw_p34 : lw_okq (⟨"NumberSpeech$Ranking", "addGroup", "(II)V"⟩, 11) := ⟨⟨by decide +kernel, by decide +kernel⟩, List.mem_of_getElem? (i := 147) (by decide +kernel), List.mem_of_getElem? (i := 1081) (by decide +kernel), List.mem_of_getElem? (i := 1082) (by decide +kernel)⟩
theorem lw_p35 : lw_okq (⟨"NumberSpeech$Ranking", "placeOf", "([BIIZ)I"⟩, 11) := ⟨⟨by decide +kernel, by decide +kernel⟩, List.mem_of_getElem? (i := 147) (by decide +kernel), List.mem_of_getElem? (i := 1096) (by decide +kernel), List.mem_of_getElem? (i := 1097) (by decide +kernel)⟩
theorem lw_p36 : lw_okq (⟨"NumberSpeech", "wantHearable", "(I)V"⟩, 13) := ⟨⟨by decide +kernel, by decide +kernel⟩, List.mem_of_getElem? (i := 27) (by decide +kernel), List.mem_of_getElem? (i := 1115) (by decide +kernel), List.mem_of_getElem? (i := 1116) (by decide +kernel)⟩
theorem lw_p37 : lw_okq (⟨"NumberSpeech$Chart", "opensWord", "(I)I"⟩, 9) := ⟨⟨by decide +kernel, by decide +kernel⟩, List.mem_of_getElem? (i := 323) (by decide +kernel), List.mem_of_getElem? (i := 1124) (by decide +kernel), List.mem_of_getElem? (i := 1125) (by decide +kernel)⟩
theorem lw_p38 : lw_okq (⟨"NumberSpeech$Chart", "putSign", "(II)I"⟩, 9) := ⟨⟨by decide +kernel, by decide +kernel⟩, List.mem_of_getElem? (i := 323) (by decide +kernel), List.mem_of_getElem? (i := 1128) (by decide +kernel), List.mem_of_getElem? (i := 1129) (by decide +kernel)⟩
theorem lw_p39 : lw_okq (⟨"NumberSpeech$Chart", "putLetter", "(II)I"⟩, 9) := ⟨⟨by decide +kernel, by decide +kernel⟩, List.mem_of_getElem? (i := 323) (by decide +kernel), List.mem_of_getElem? (i := 1132) (by decide +kernel), List.mem_of_getElem? (i := 1133) (by decide +kernel)⟩
theorem lw_p40 : lw_okq (⟨"NumberSpeech$Chart", "weighFrom", "(LNumberSpeech$Ranking;I)V"⟩, 9) := ⟨⟨by decide +kernel, by decide +kernel⟩, List.mem_of_getElem? (i := 323) (by decide +kernel), List.mem_of_getElem? (i := 1141) (by decide +kernel), List.mem_of_getElem? (i := 1142) (by decide +kernel)⟩
theorem lw_p41 : lw_okq (⟨"NumberSpeech", "isLink", "(II)Z"⟩, 13) := ⟨⟨by decide +kernel, by decide +kernel⟩, List.mem_of_getElem? (i := 27) (by decide +kernel), List.mem_of_getElem? (i := 1211) (by decide +kernel), List.mem_of_getElem? (i := 1212) (by decide +kernel)⟩
theorem lw_p42 : lw_okq (⟨"NumberSpeech$WordCount", "countText", "([BII)V"⟩, 5) := ⟨⟨by decide +kernel, by decide +kernel⟩, List.mem_of_getElem? (i := 299) (by decide +kernel), List.mem_of_getElem? (i := 1237) (by decide +kernel), List.mem_of_getElem? (i := 1238) (by decide +kernel)⟩
theorem lw_p43 : lw_okq (⟨"NumberSpeech$WordCount", "countWord", "([BII)V"⟩, 5) := ⟨⟨by decide +kernel, by decide +kernel⟩, List.mem_of_getElem? (i := 299) (by decide +kernel), List.mem_of_getElem? (i := 1242) (by decide +kernel), List.mem_of_getElem? (i := 1243) (by decide +kernel)⟩
theorem lw_p44 : lw_okq (⟨"NumberSpeech$WordCount", "findMost", "([B)V"⟩, 5) := ⟨⟨by decide +kernel, by decide +kernel⟩, List.mem_of_getElem? (i := 299) (by decide +kernel), List.mem_of_getElem? (i := 1247) (by decide +kernel), List.mem_of_getElem? (i := 1248) (by decide +kernel)⟩
theorem lw_p45 : lw_okq (⟨"NumberSpeech$WordCount", "comesAhead", "([BII)Z"⟩, 5) := ⟨⟨by decide +kernel, by decide +kernel⟩, List.mem_of_getElem? (i := 299) (by decide +kernel), List.mem_of_getElem? (i := 1251) (by decide +kernel), List.mem_of_getElem? (i := 1252) (by decide +kernel)⟩
theorem lw_p46 : lw_okq (⟨"NumberSpeechModel", "bad", "(ZII)Z"⟩, 50) := ⟨⟨by decide +kernel, by decide +kernel⟩, List.mem_of_getElem? (i := 1290) (by decide +kernel), List.mem_of_getElem? (i := 1473) (by decide +kernel), List.mem_of_getElem? (i := 1474) (by decide +kernel)⟩
theorem lw_p47 : lw_okq (⟨"NumberSpeechModel", "reads", "(IZ)I"⟩, 50) := ⟨⟨by decide +kernel, by decide +kernel⟩, List.mem_of_getElem? (i := 1290) (by decide +kernel), List.mem_of_getElem? (i := 1477) (by decide +kernel), List.mem_of_getElem? (i := 1478) (by decide +kernel)⟩
def lw_privs_3 : List (MethodName × Nat) := [(⟨"NumberSpeech$Ranking", "merge", "(III)V"⟩, 11), (⟨"NumberSpeech$Ranking", "compare", "(II)I"⟩, 11), (⟨"NumberSpeech$Ranking", "addGroup", "(II)V"⟩, 11), (⟨"NumberSpeech$Ranking", "placeOf", "([BIIZ)I"⟩, 11), (⟨"NumberSpeech", "wantHearable", "(I)V"⟩, 13), (⟨"NumberSpeech$Chart", "opensWord", "(I)I"⟩, 9), (⟨"NumberSpeech$Chart", "putSign", "(II)I"⟩, 9), (⟨"NumberSpeech$Chart", "putLetter", "(II)I"⟩, 9), (⟨"NumberSpeech$Chart", "weighFrom", "(LNumberSpeech$Ranking;I)V"⟩, 9), (⟨"NumberSpeech", "isLink", "(II)Z"⟩, 13), (⟨"NumberSpeech$WordCount", "countText", "([BII)V"⟩, 5), (⟨"NumberSpeech$WordCount", "countWord", "([BII)V"⟩, 5), (⟨"NumberSpeech$WordCount", "findMost", "([B)V"⟩, 5), (⟨"NumberSpeech$WordCount", "comesAhead", "([BII)Z"⟩, 5), (⟨"NumberSpeechModel", "bad", "(ZII)Z"⟩, 50), (⟨"NumberSpeechModel", "reads", "(IZ)I"⟩, 50)]
theorem lw_r3 : ∀ q ∈ lw_privs_3, lw_okq q := List.forall_mem_cons.mpr ⟨lw_p32, List.forall_mem_cons.mpr ⟨lw_p33, List.forall_mem_cons.mpr ⟨lw_p34, List.forall_mem_cons.mpr ⟨lw_p35, List.forall_mem_cons.mpr ⟨lw_p36, List.forall_mem_cons.mpr ⟨lw_p37, List.forall_mem_cons.mpr ⟨lw_p38, List.forall_mem_cons.mpr ⟨lw_p39, List.forall_mem_cons.mpr ⟨lw_p40, List.forall_mem_cons.mpr ⟨lw_p41, List.forall_mem_cons.mpr ⟨lw_p42, List.forall_mem_cons.mpr ⟨lw_p43, List.forall_mem_cons.mpr ⟨lw_p44, List.forall_mem_cons.mpr ⟨lw_p45, List.forall_mem_cons.mpr ⟨lw_p46, List.forall_mem_cons.mpr ⟨lw_p47, fun _ h => absurd h List.not_mem_nil⟩⟩⟩⟩⟩⟩⟩⟩⟩⟩⟩⟩⟩⟩⟩⟩
theorem lw_p48 : lw_okq (⟨"NumberSpeechModel", "must", "(Ljava/lang/String;)V"⟩, 50) := ⟨⟨by decide +kernel, by decide +kernel⟩, List.mem_of_getElem? (i := 1290) (by decide +kernel), List.mem_of_getElem? (i := 1482) (by decide +kernel), List.mem_of_getElem? (i := 1483) (by decide +kernel)⟩
theorem lw_p49 : lw_okq (⟨"NumberSpeechModel", "fine", "()Z"⟩, 50) := ⟨⟨by decide +kernel, by decide +kernel⟩, List.mem_of_getElem? (i := 1290) (by decide +kernel), List.mem_of_getElem? (i := 1486) (by decide +kernel), List.mem_of_getElem? (i := 1487) (by decide +kernel)⟩
theorem lw_p50 : lw_okq (⟨"NumberSpeechModel", "takes", "(Ljava/lang/String;)Z"⟩, 50) := ⟨⟨by decide +kernel, by decide +kernel⟩, List.mem_of_getElem? (i := 1290) (by decide +kernel), List.mem_of_getElem? (i := 1490) (by decide +kernel), List.mem_of_getElem? (i := 1491) (by decide +kernel)⟩
theorem lw_p51 : lw_okq (⟨"NumberSpeechModel", "wordLong", "()I"⟩, 50) := ⟨⟨by decide +kernel, by decide +kernel⟩, List.mem_of_getElem? (i := 1290) (by decide +kernel), List.mem_of_getElem? (i := 1494) (by decide +kernel), List.mem_of_getElem? (i := 1495) (by decide +kernel)⟩
theorem lw_p52 : lw_okq (⟨"NumberSpeechModel", "here", "()I"⟩, 50) := ⟨⟨by decide +kernel, by decide +kernel⟩, List.mem_of_getElem? (i := 1290) (by decide +kernel), List.mem_of_getElem? (i := 1498) (by decide +kernel), List.mem_of_getElem? (i := 1499) (by decide +kernel)⟩
theorem lw_p53 : lw_okq (⟨"NumberSpeechModel", "byteAt", "(I)I"⟩, 50) := ⟨⟨by decide +kernel, by decide +kernel⟩, List.mem_of_getElem? (i := 1290) (by decide +kernel), List.mem_of_getElem? (i := 1502) (by decide +kernel), List.mem_of_getElem? (i := 1503) (by decide +kernel)⟩
theorem lw_p54 : lw_okq (⟨"NumberSpeechModel", "wrong", "(II)V"⟩, 50) := ⟨⟨by decide +kernel, by decide +kernel⟩, List.mem_of_getElem? (i := 1290) (by decide +kernel), List.mem_of_getElem? (i := 1511) (by decide +kernel), List.mem_of_getElem? (i := 1512) (by decide +kernel)⟩
theorem lw_p55 : lw_okq (⟨"NumberSpeechModel", "number", "(II)I"⟩, 50) := ⟨⟨by decide +kernel, by decide +kernel⟩, List.mem_of_getElem? (i := 1290) (by decide +kernel), List.mem_of_getElem? (i := 1515) (by decide +kernel), List.mem_of_getElem? (i := 1516) (by decide +kernel)⟩
theorem lw_p56 : lw_okq (⟨"NumberSpeechModel", "ends", "()V"⟩, 50) := ⟨⟨by decide +kernel, by decide +kernel⟩, List.mem_of_getElem? (i := 1290) (by decide +kernel), List.mem_of_getElem? (i := 1525) (by decide +kernel), List.mem_of_getElem? (i := 1526) (by decide +kernel)⟩
theorem lw_p57 : lw_okq (⟨"NumberSpeechModel", "copies", "(II)V"⟩, 50) := ⟨⟨by decide +kernel, by decide +kernel⟩, List.mem_of_getElem? (i := 1290) (by decide +kernel), List.mem_of_getElem? (i := 1529) (by decide +kernel), List.mem_of_getElem? (i := 1530) (by decide +kernel)⟩
theorem lw_p58 : lw_okq (⟨"NumberSpeechModel", "copiesRule", "(IIII)V"⟩, 50) := ⟨⟨by decide +kernel, by decide +kernel⟩, List.mem_of_getElem? (i := 1290) (by decide +kernel), List.mem_of_getElem? (i := 1533) (by decide +kernel), List.mem_of_getElem? (i := 1534) (by decide +kernel)⟩
theorem lw_p59 : lw_okq (⟨"NumberSpeechModel", "readsRule", "()V"⟩, 50) := ⟨⟨by decide +kernel, by decide +kernel⟩, List.mem_of_getElem? (i := 1290) (by decide +kernel), List.mem_of_getElem? (i := 1537) (by decide +kernel), List.mem_of_getElem? (i := 1538) (by decide +kernel)⟩
theorem lw_p60 : lw_okq (⟨"NumberSpeechModel", "readsItems", "([I[[B)V"⟩, 50) := ⟨⟨by decide +kernel, by decide +kernel⟩, List.mem_of_getElem? (i := 1290) (by decide +kernel), List.mem_of_getElem? (i := 1546) (by decide +kernel), List.mem_of_getElem? (i := 1547) (by decide +kernel)⟩
theorem lw_p61 : lw_okq (⟨"NumberSpeechModel", "readsItem", "([II[B)V"⟩, 50) := ⟨⟨by decide +kernel, by decide +kernel⟩, List.mem_of_getElem? (i := 1290) (by decide +kernel), List.mem_of_getElem? (i := 1553) (by decide +kernel), List.mem_of_getElem? (i := 1554) (by decide +kernel)⟩
theorem lw_p62 : lw_okq (⟨"NumberSpeechModel", "remembers", "()V"⟩, 50) := ⟨⟨by decide +kernel, by decide +kernel⟩, List.mem_of_getElem? (i := 1290) (by decide +kernel), List.mem_of_getElem? (i := 1558) (by decide +kernel), List.mem_of_getElem? (i := 1559) (by decide +kernel)⟩
theorem lw_p63 : lw_okq (⟨"NumberSpeechModel", "isRule", "(II)Z"⟩, 50) := ⟨⟨by decide +kernel, by decide +kernel⟩, List.mem_of_getElem? (i := 1290) (by decide +kernel), List.mem_of_getElem? (i := 1582) (by decide +kernel), List.mem_of_getElem? (i := 1583) (by decide +kernel)⟩
def lw_privs_4 : List (MethodName × Nat) := [(⟨"NumberSpeechModel", "must", "(Ljava/lang/String;)V"⟩, 50), (⟨"NumberSpeechModel", "fine", "()Z"⟩, 50), (⟨"NumberSpeechModel", "takes", "(Ljava/lang/String;)Z"⟩, 50), (⟨"NumberSpeechModel", "wordLong", "()I"⟩, 50), (⟨"NumberSpeechModel", "here", "()I"⟩, 50), (⟨"NumberSpeechModel", "byteAt", "(I)I"⟩, 50), (⟨"NumberSpeechModel", "wrong", "(II)V"⟩, 50), (⟨"NumberSpeechModel", "number", "(II)I"⟩, 50), (⟨"NumberSpeechModel", "ends", "()V"⟩, 50), (⟨"NumberSpeechModel", "copies", "(II)V"⟩, 50), (⟨"NumberSpeechModel", "copiesRule", "(IIII)V"⟩, 50), (⟨"NumberSpeechModel", "readsRule", "()V"⟩, 50), (⟨"NumberSpeechModel", "readsItems", "([I[[B)V"⟩, 50), (⟨"NumberSpeechModel", "readsItem", "([II[B)V"⟩, 50), (⟨"NumberSpeechModel", "remembers", "()V"⟩, 50), (⟨"NumberSpeechModel", "isRule", "(II)Z"⟩, 50)]
theorem lw_r4 : ∀ q ∈ lw_privs_4, lw_okq q := List.forall_mem_cons.mpr ⟨lw_p48, List.forall_mem_cons.mpr ⟨lw_p49, List.forall_mem_cons.mpr ⟨lw_p50, List.forall_mem_cons.mpr ⟨lw_p51, List.forall_mem_cons.mpr ⟨lw_p52, List.forall_mem_cons.mpr ⟨lw_p53, List.forall_mem_cons.mpr ⟨lw_p54, List.forall_mem_cons.mpr ⟨lw_p55, List.forall_mem_cons.mpr ⟨lw_p56, List.forall_mem_cons.mpr ⟨lw_p57, List.forall_mem_cons.mpr ⟨lw_p58, List.forall_mem_cons.mpr ⟨lw_p59, List.forall_mem_cons.mpr ⟨lw_p60, List.forall_mem_cons.mpr ⟨lw_p61, List.forall_mem_cons.mpr ⟨lw_p62, List.forall_mem_cons.mpr ⟨lw_p63, fun _ h => absurd h List.not_mem_nil⟩⟩⟩⟩⟩⟩⟩⟩⟩⟩⟩⟩⟩⟩⟩⟩
theorem lw_p64 : lw_okq (⟨"NumberSpeechModel", "removes", "(II)V"⟩, 50) := ⟨⟨by decide +kernel, by decide +kernel⟩, List.mem_of_getElem? (i := 1290) (by decide +kernel), List.mem_of_getElem? (i := 1589) (by decide +kernel), List.mem_of_getElem? (i := 1590) (by decide +kernel)⟩
theorem lw_p65 : lw_okq (⟨"NumberSpeechModel", "goesAside", "(I)V"⟩, 50) := ⟨⟨by decide +kernel, by decide +kernel⟩, List.mem_of_getElem? (i := 1290) (by decide +kernel), List.mem_of_getElem? (i := 1597) (by decide +kernel), List.mem_of_getElem? (i := 1598) (by decide +kernel)⟩
theorem lw_p66 : lw_okq (⟨"NumberSpeechModel", "lays", "(I)V"⟩, 50) := ⟨⟨by decide +kernel, by decide +kernel⟩, List.mem_of_getElem? (i := 1290) (by decide +kernel), List.mem_of_getElem? (i := 1601) (by decide +kernel), List.mem_of_getElem? (i := 1602) (by decide +kernel)⟩
theorem lw_p67 : lw_okq (⟨"NumberSpeechModel", "isSaid", "(II)Z"⟩, 50) := ⟨⟨by decide +kernel, by decide +kernel⟩, List.mem_of_getElem? (i := 1290) (by decide +kernel), List.mem_of_getElem? (i := 1605) (by decide +kernel), List.mem_of_getElem? (i := 1606) (by decide +kernel)⟩
theorem lw_p68 : lw_okq (⟨"NumberSpeechModel", "says", "(IJ)Z"⟩, 50) := ⟨⟨by decide +kernel, by decide +kernel⟩, List.mem_of_getElem? (i := 1290) (by decide +kernel), List.mem_of_getElem? (i := 1609) (by decide +kernel), List.mem_of_getElem? (i := 1610) (by decide +kernel)⟩
theorem lw_p69 : lw_okq (⟨"NumberSpeechModel", "fails", "(IIII)Z"⟩, 50) := ⟨⟨by decide +kernel, by decide +kernel⟩, List.mem_of_getElem? (i := 1290) (by decide +kernel), List.mem_of_getElem? (i := 1613) (by decide +kernel), List.mem_of_getElem? (i := 1614) (by decide +kernel)⟩
theorem lw_p70 : lw_okq (⟨"NumberSpeechModel", "isSaying", "(I)Z"⟩, 50) := ⟨⟨by decide +kernel, by decide +kernel⟩, List.mem_of_getElem? (i := 1290) (by decide +kernel), List.mem_of_getElem? (i := 1617) (by decide +kernel), List.mem_of_getElem? (i := 1618) (by decide +kernel)⟩
theorem lw_p71 : lw_okq (⟨"NumberSpeechModel", "firstRule", "(II)I"⟩, 50) := ⟨⟨by decide +kernel, by decide +kernel⟩, List.mem_of_getElem? (i := 1290) (by decide +kernel), List.mem_of_getElem? (i := 1621) (by decide +kernel), List.mem_of_getElem? (i := 1622) (by decide +kernel)⟩
theorem lw_p72 : lw_okq (⟨"NumberSpeechModel", "saysItems", "(III)Z"⟩, 50) := ⟨⟨by decide +kernel, by decide +kernel⟩, List.mem_of_getElem? (i := 1290) (by decide +kernel), List.mem_of_getElem? (i := 1625) (by decide +kernel), List.mem_of_getElem? (i := 1626) (by decide +kernel)⟩
theorem lw_p73 : lw_okq (⟨"NumberSpeechModel", "swaps", "(II)V"⟩, 50) := ⟨⟨by decide +kernel, by decide +kernel⟩, List.mem_of_getElem? (i := 1290) (by decide +kernel), List.mem_of_getElem? (i := 1633) (by decide +kernel), List.mem_of_getElem? (i := 1634) (by decide +kernel)⟩
theorem lw_p74 : lw_okq (⟨"NumberSpeechModel", "unlikeAside", "()I"⟩, 50) := ⟨⟨by decide +kernel, by decide +kernel⟩, List.mem_of_getElem? (i := 1290) (by decide +kernel), List.mem_of_getElem? (i := 1637) (by decide +kernel), List.mem_of_getElem? (i := 1638) (by decide +kernel)⟩
theorem lw_p75 : lw_okq (⟨"NumberSpeechModel", "isAsAside", "(I)Z"⟩, 50) := ⟨⟨by decide +kernel, by decide +kernel⟩, List.mem_of_getElem? (i := 1290) (by decide +kernel), List.mem_of_getElem? (i := 1641) (by decide +kernel), List.mem_of_getElem? (i := 1642) (by decide +kernel)⟩
theorem lw_p76 : lw_okq (⟨"NumberSpeechModel", "firstOf", "(II)I"⟩, 50) := ⟨⟨by decide +kernel, by decide +kernel⟩, List.mem_of_getElem? (i := 1290) (by decide +kernel), List.mem_of_getElem? (i := 1653) (by decide +kernel), List.mem_of_getElem? (i := 1654) (by decide +kernel)⟩
theorem lw_p77 : lw_okq (⟨"NumberSpeechModel", "wordsIn", "([BII)I"⟩, 50) := ⟨⟨by decide +kernel, by decide +kernel⟩, List.mem_of_getElem? (i := 1290) (by decide +kernel), List.mem_of_getElem? (i := 1669) (by decide +kernel), List.mem_of_getElem? (i := 1670) (by decide +kernel)⟩
theorem lw_p78 : lw_okq (⟨"NumberSpeechModel", "lettersIn", "([BII)I"⟩, 50) := ⟨⟨by decide +kernel, by decide +kernel⟩, List.mem_of_getElem? (i := 1290) (by decide +kernel), List.mem_of_getElem? (i := 1673) (by decide +kernel), List.mem_of_getElem? (i := 1674) (by decide +kernel)⟩
theorem lw_p79 : lw_okq (⟨"NumberSpeechModel", "orders", "(I)V"⟩, 50) := ⟨⟨by decide +kernel, by decide +kernel⟩, List.mem_of_getElem? (i := 1290) (by decide +kernel), List.mem_of_getElem? (i := 1701) (by decide +kernel), List.mem_of_getElem? (i := 1702) (by decide +kernel)⟩
def lw_privs_5 : List (MethodName × Nat) := [(⟨"NumberSpeechModel", "removes", "(II)V"⟩, 50), (⟨"NumberSpeechModel", "goesAside", "(I)V"⟩, 50), (⟨"NumberSpeechModel", "lays", "(I)V"⟩, 50), (⟨"NumberSpeechModel", "isSaid", "(II)Z"⟩, 50), (⟨"NumberSpeechModel", "says", "(IJ)Z"⟩, 50), (⟨"NumberSpeechModel", "fails", "(IIII)Z"⟩, 50), (⟨"NumberSpeechModel", "isSaying", "(I)Z"⟩, 50), (⟨"NumberSpeechModel", "firstRule", "(II)I"⟩, 50), (⟨"NumberSpeechModel", "saysItems", "(III)Z"⟩, 50), (⟨"NumberSpeechModel", "swaps", "(II)V"⟩, 50), (⟨"NumberSpeechModel", "unlikeAside", "()I"⟩, 50), (⟨"NumberSpeechModel", "isAsAside", "(I)Z"⟩, 50), (⟨"NumberSpeechModel", "firstOf", "(II)I"⟩, 50), (⟨"NumberSpeechModel", "wordsIn", "([BII)I"⟩, 50), (⟨"NumberSpeechModel", "lettersIn", "([BII)I"⟩, 50), (⟨"NumberSpeechModel", "orders", "(I)V"⟩, 50)]
theorem lw_r5 : ∀ q ∈ lw_privs_5, lw_okq q := List.forall_mem_cons.mpr ⟨lw_p64, List.forall_mem_cons.mpr ⟨lw_p65, List.forall_mem_cons.mpr ⟨lw_p66, List.forall_mem_cons.mpr ⟨lw_p67, List.forall_mem_cons.mpr ⟨lw_p68, List.forall_mem_cons.mpr ⟨lw_p69, List.forall_mem_cons.mpr ⟨lw_p70, List.forall_mem_cons.mpr ⟨lw_p71, List.forall_mem_cons.mpr ⟨lw_p72, List.forall_mem_cons.mpr ⟨lw_p73, List.forall_mem_cons.mpr ⟨lw_p74, List.forall_mem_cons.mpr ⟨lw_p75, List.forall_mem_cons.mpr ⟨lw_p76, List.forall_mem_cons.mpr ⟨lw_p77, List.forall_mem_cons.mpr ⟨lw_p78, List.forall_mem_cons.mpr ⟨lw_p79, fun _ h => absurd h List.not_mem_nil⟩⟩⟩⟩⟩⟩⟩⟩⟩⟩⟩⟩⟩⟩⟩⟩
theorem lw_p80 : lw_okq (⟨"NumberSpeechModel", "sorts", "(II)V"⟩, 50) := ⟨⟨by decide +kernel, by decide +kernel⟩, List.mem_of_getElem? (i := 1290) (by decide +kernel), List.mem_of_getElem? (i := 1705) (by decide +kernel), List.mem_of_getElem? (i := 1706) (by decide +kernel)⟩
theorem lw_p81 : lw_okq (⟨"NumberSpeechModel", "against", "(II)I"⟩, 50) := ⟨⟨by decide +kernel, by decide +kernel⟩, List.mem_of_getElem? (i := 1290) (by decide +kernel), List.mem_of_getElem? (i := 1709) (by decide +kernel), List.mem_of_getElem? (i := 1710) (by decide +kernel)⟩
theorem lw_p82 : lw_okq (⟨"NumberSpeechModel", "areAlike", "(II)Z"⟩, 50) := ⟨⟨by decide +kernel, by decide +kernel⟩, List.mem_of_getElem? (i := 1290) (by decide +kernel), List.mem_of_getElem? (i := 1720) (by decide +kernel), List.mem_of_getElem? (i := 1721) (by decide +kernel)⟩
theorem lw_p83 : lw_okq (⟨"NumberSpeechModel", "looksUp", "([BII)V"⟩, 50) := ⟨⟨by decide +kernel, by decide +kernel⟩, List.mem_of_getElem? (i := 1290) (by decide +kernel), List.mem_of_getElem? (i := 1728) (by decide +kernel), List.mem_of_getElem? (i := 1729) (by decide +kernel)⟩
theorem lw_p84 : lw_okq (⟨"NumberSpeechModel", "isSaidSo", "(I[BII)Z"⟩, 50) := ⟨⟨by decide +kernel, by decide +kernel⟩, List.mem_of_getElem? (i := 1290) (by decide +kernel), List.mem_of_getElem? (i := 1732) (by decide +kernel), List.mem_of_getElem? (i := 1733) (by decide +kernel)⟩
theorem lw_p85 : lw_okq (⟨"NumberSpeechModel", "isHeard", "(I)Z"⟩, 50) := ⟨⟨by decide +kernel, by decide +kernel⟩, List.mem_of_getElem? (i := 1290) (by decide +kernel), List.mem_of_getElem? (i := 1740) (by decide +kernel), List.mem_of_getElem? (i := 1741) (by decide +kernel)⟩
theorem lw_p86 : lw_okq (⟨"NumberSpeechModel", "laysWords", "(I)Z"⟩, 50) := ⟨⟨by decide +kernel, by decide +kernel⟩, List.mem_of_getElem? (i := 1290) (by decide +kernel), List.mem_of_getElem? (i := 1744) (by decide +kernel), List.mem_of_getElem? (i := 1745) (by decide +kernel)⟩
theorem lw_p87 : lw_okq (⟨"NumberSpeechModel", "laysChart", "(I)V"⟩, 50) := ⟨⟨by decide +kernel, by decide +kernel⟩, List.mem_of_getElem? (i := 1290) (by decide +kernel), List.mem_of_getElem? (i := 1748) (by decide +kernel), List.mem_of_getElem? (i := 1749) (by decide +kernel)⟩
theorem lw_p88 : lw_okq (⟨"NumberSpeechModel", "addedUp", "()I"⟩, 50) := ⟨⟨by decide +kernel, by decide +kernel⟩, List.mem_of_getElem? (i := 1290) (by decide +kernel), List.mem_of_getElem? (i := 1753) (by decide +kernel), List.mem_of_getElem? (i := 1754) (by decide +kernel)⟩
theorem lw_p89 : lw_okq (⟨"NumberSpeechModel", "laysAllWords", "()V"⟩, 50) := ⟨⟨by decide +kernel, by decide +kernel⟩, List.mem_of_getElem? (i := 1290) (by decide +kernel), List.mem_of_getElem? (i := 1789) (by decide +kernel), List.mem_of_getElem? (i := 1790) (by decide +kernel)⟩
theorem lw_p90 : lw_okq (⟨"NumberSpeechModel", "sortsWords", "(II)V"⟩, 50) := ⟨⟨by decide +kernel, by decide +kernel⟩, List.mem_of_getElem? (i := 1290) (by decide +kernel), List.mem_of_getElem? (i := 1793) (by decide +kernel), List.mem_of_getElem? (i := 1794) (by decide +kernel)⟩
theorem lw_p91 : lw_okq (⟨"NumberSpeechModel", "wordAgainst", "(II)I"⟩, 50) := ⟨⟨by decide +kernel, by decide +kernel⟩, List.mem_of_getElem? (i := 1290) (by decide +kernel), List.mem_of_getElem? (i := 1797) (by decide +kernel), List.mem_of_getElem? (i := 1798) (by decide +kernel)⟩
def lw_privs_6 : List (MethodName × Nat) := [(⟨"NumberSpeechModel", "sorts", "(II)V"⟩, 50), (⟨"NumberSpeechModel", "against", "(II)I"⟩, 50), (⟨"NumberSpeechModel", "areAlike", "(II)Z"⟩, 50), (⟨"NumberSpeechModel", "looksUp", "([BII)V"⟩, 50), (⟨"NumberSpeechModel", "isSaidSo", "(I[BII)Z"⟩, 50), (⟨"NumberSpeechModel", "isHeard", "(I)Z"⟩, 50), (⟨"NumberSpeechModel", "laysWords", "(I)Z"⟩, 50), (⟨"NumberSpeechModel", "laysChart", "(I)V"⟩, 50), (⟨"NumberSpeechModel", "addedUp", "()I"⟩, 50), (⟨"NumberSpeechModel", "laysAllWords", "()V"⟩, 50), (⟨"NumberSpeechModel", "sortsWords", "(II)V"⟩, 50), (⟨"NumberSpeechModel", "wordAgainst", "(II)I"⟩, 50)]
theorem lw_r6 : ∀ q ∈ lw_privs_6, lw_okq q := List.forall_mem_cons.mpr ⟨lw_p80, List.forall_mem_cons.mpr ⟨lw_p81, List.forall_mem_cons.mpr ⟨lw_p82, List.forall_mem_cons.mpr ⟨lw_p83, List.forall_mem_cons.mpr ⟨lw_p84, List.forall_mem_cons.mpr ⟨lw_p85, List.forall_mem_cons.mpr ⟨lw_p86, List.forall_mem_cons.mpr ⟨lw_p87, List.forall_mem_cons.mpr ⟨lw_p88, List.forall_mem_cons.mpr ⟨lw_p89, List.forall_mem_cons.mpr ⟨lw_p90, List.forall_mem_cons.mpr ⟨lw_p91, fun _ h => absurd h List.not_mem_nil⟩⟩⟩⟩⟩⟩⟩⟩⟩⟩⟩⟩
def lw_privs : List (MethodName × Nat) := lw_privs_1 ++ (lw_privs_2 ++ (lw_privs_3 ++ (lw_privs_4 ++ (lw_privs_5 ++ (lw_privs_6)))))
def lw_tbl : List Cond := k2_sels lw_privs ++ tables_1
theorem lw_privs_ok : ∀ q ∈ lw_privs, lw_okq q := by
  show ∀ q ∈ lw_privs_1 ++ (lw_privs_2 ++ (lw_privs_3 ++ (lw_privs_4 ++ (lw_privs_5 ++ (lw_privs_6))))), lw_okq q
  exact List.forall_mem_append.mpr ⟨lw_r1, List.forall_mem_append.mpr ⟨lw_r2, List.forall_mem_append.mpr ⟨lw_r3, List.forall_mem_append.mpr ⟨lw_r4, List.forall_mem_append.mpr ⟨lw_r5, lw_r6⟩⟩⟩⟩⟩
def RX0 : String := "NumberSpeech$Book"
def TX0 : u_T := fun k => match k with
  | 0 => ("NumberSpeech$Book", "rules", "[LNumberSpeech$Rule;", true)
  | 1 => ("NumberSpeech$Book", "counts", "[I", true)
  | _ => ("NumberSpeech$Book", "highest", "I", false)
def tyX0 : Nat → FieldType := fun k => match k with
  | 0 => .array (.object "NumberSpeech$Rule")
  | 1 => .array .int
  | _ => .int
abbrev wsX00 : List Cond := u_ws RX0 TX0 3
theorem nmX0 : ∀ a, a < 3 → ∀ b, b < 3 → a ≠ b → (TX0 a).2.1 ≠ (TX0 b).2.1 := by decide +kernel
theorem tyX0_ok : ∀ k, k < 3 → parseFieldDescriptor (TX0 k).2.2.1 = some (tyX0 k) := by decide +kernel
abbrev cX0_init : ByteArray := prog_2_method_1_code
def yX0_init : MethodName := ⟨RX0, "<init>", "()V"⟩
abbrev cX0_countOf : ByteArray := prog_2_method_2_code
def yX0_countOf : MethodName := ⟨RX0, "countOf", "(I)I"⟩
abbrev cX0_ruleOf : ByteArray := prog_2_method_3_code
def yX0_ruleOf : MethodName := ⟨RX0, "ruleOf", "(II)LNumberSpeech$Rule;"⟩
abbrev cX0_clear : ByteArray := prog_2_method_4_code
def yX0_clear : MethodName := ⟨RX0, "clear", "(I)V"⟩
abbrev cX0_append : ByteArray := prog_2_method_5_code
def yX0_append : MethodName := ⟨RX0, "append", "(ILNumberSpeech$Rule;)V"⟩
abbrev cX0_remove : ByteArray := prog_2_method_6_code
def yX0_remove : MethodName := ⟨RX0, "remove", "(II)V"⟩
abbrev cX0_lift : ByteArray := prog_2_method_7_code
def yX0_lift : MethodName := ⟨RX0, "lift", "(II)V"⟩
abbrev cX0_copyFrom : ByteArray := prog_2_method_8_code
def yX0_copyFrom : MethodName := ⟨RX0, "copyFrom", "(LNumberSpeech$Book;)V"⟩
def RX1 : String := "NumberSpeech$Causes"
def TX1 : u_T := fun k => match k with
  | 0 => ("NumberSpeech$Causes", "numbers", "[I", true)
  | 1 => ("NumberSpeech$Causes", "kinds", "[I", true)
  | 2 => ("NumberSpeech$Causes", "rules", "[I", true)
  | 3 => ("NumberSpeech$Causes", "items", "[I", true)
  | _ => ("NumberSpeech$Causes", "size", "I", false)
def tyX1 : Nat → FieldType := fun k => match k with
  | 0 => .array .int
  | 1 => .array .int
  | 2 => .array .int
  | 3 => .array .int
  | _ => .int
abbrev wsX10 : List Cond := u_ws RX1 TX1 5
theorem nmX1 : ∀ a, a < 5 → ∀ b, b < 5 → a ≠ b → (TX1 a).2.1 ≠ (TX1 b).2.1 := by decide +kernel
theorem tyX1_ok : ∀ k, k < 5 → parseFieldDescriptor (TX1 k).2.2.1 = some (tyX1 k) := by decide +kernel
abbrev cX1_init : ByteArray := prog_3_method_1_code
def yX1_init : MethodName := ⟨RX1, "<init>", "()V"⟩
abbrev cX1_tell : ByteArray := prog_3_method_2_code
def yX1_tell : MethodName := ⟨RX1, "tell", "(IIIII)Z"⟩
abbrev cX1_answer : ByteArray := prog_3_method_3_code
def yX1_answer : MethodName := ⟨RX1, "answer", "(II)I"⟩
def RX2 : String := "NumberSpeech$Chart"
def TX2 : u_T := fun k => match k with
  | 0 => ("NumberSpeech$Chart", "line", "[B", true)
  | 1 => ("NumberSpeech$Chart", "starts", "[I", true)
  | 2 => ("NumberSpeech$Chart", "ends", "[I", true)
  | 3 => ("NumberSpeech$Chart", "count", "I", false)
  | 4 => ("NumberSpeech$Chart", "ways", "[J", true)
  | 5 => ("NumberSpeech$Chart", "fewest", "[I", true)
  | 6 => ("NumberSpeech$Chart", "nexts", "[I", true)
  | 7 => ("NumberSpeech$Chart", "leasts", "[I", true)
  | _ => ("NumberSpeech$Chart", "heardStretches", "I", false)
def tyX2 : Nat → FieldType := fun k => match k with
  | 0 => .array .byte
  | 1 => .array .int
  | 2 => .array .int
  | 3 => .int
  | 4 => .array .long
  | 5 => .array .int
  | 6 => .array .int
  | 7 => .array .int
  | _ => .int
abbrev wsX20 : List Cond := u_ws RX2 TX2 9
theorem nmX2 : ∀ a, a < 9 → ∀ b, b < 9 → a ≠ b → (TX2 a).2.1 ≠ (TX2 b).2.1 := by decide +kernel
theorem tyX2_ok : ∀ k, k < 9 → parseFieldDescriptor (TX2 k).2.2.1 = some (tyX2 k) := by decide +kernel
abbrev cX2_init : ByteArray := prog_4_method_1_code
def yX2_init : MethodName := ⟨RX2, "<init>", "()V"⟩
abbrev cX2_splits : ByteArray := prog_4_method_2_code
def yX2_splits : MethodName := ⟨RX2, "splits", "([BI)Z"⟩
abbrev cX2_opensWord : ByteArray := prog_4_method_3_code
def yX2_opensWord : MethodName := ⟨RX2, "opensWord", "(I)I"⟩
abbrev cX2_putLetter : ByteArray := prog_4_method_4_code
def yX2_putLetter : MethodName := ⟨RX2, "putLetter", "(II)I"⟩
abbrev cX2_putSign : ByteArray := prog_4_method_5_code
def yX2_putSign : MethodName := ⟨RX2, "putSign", "(II)I"⟩
abbrev cX2_weigh : ByteArray := prog_4_method_6_code
def yX2_weigh : MethodName := ⟨RX2, "weigh", "(LNumberSpeech$Ranking;)V"⟩
abbrev cX2_weighFrom : ByteArray := prog_4_method_7_code
def yX2_weighFrom : MethodName := ⟨RX2, "weighFrom", "(LNumberSpeech$Ranking;I)V"⟩
abbrev cX2_waysInAll : ByteArray := prog_4_method_8_code
def yX2_waysInAll : MethodName := ⟨RX2, "waysInAll", "()I"⟩
abbrev cX2_stretchesOfTheWay : ByteArray := prog_4_method_9_code
def yX2_stretchesOfTheWay : MethodName := ⟨RX2, "stretchesOfTheWay", "()I"⟩
abbrev cX2_sumOfTheWay : ByteArray := prog_4_method_10_code
def yX2_sumOfTheWay : MethodName := ⟨RX2, "sumOfTheWay", "()I"⟩
abbrev cX2_stretchOfTheWay : ByteArray := prog_4_method_11_code
def yX2_stretchOfTheWay : MethodName := ⟨RX2, "stretchOfTheWay", "(II)I"⟩
def RX3 : String := "NumberSpeech$History"
def TX3 : u_T := fun k => match k with
  | 0 => ("NumberSpeech$History", "books", "[LNumberSpeech$Book;", true)
  | 1 => ("NumberSpeech$History", "next", "I", false)
  | _ => ("NumberSpeech$History", "size", "I", false)
def tyX3 : Nat → FieldType := fun k => match k with
  | 0 => .array (.object "NumberSpeech$Book")
  | 1 => .int
  | _ => .int
abbrev wsX30 : List Cond := u_ws RX3 TX3 3
theorem nmX3 : ∀ a, a < 3 → ∀ b, b < 3 → a ≠ b → (TX3 a).2.1 ≠ (TX3 b).2.1 := by decide +kernel
theorem tyX3_ok : ∀ k, k < 3 → parseFieldDescriptor (TX3 k).2.2.1 = some (tyX3 k) := by decide +kernel
abbrev cX3_init : ByteArray := prog_5_method_1_code
def yX3_init : MethodName := ⟨RX3, "<init>", "()V"⟩
abbrev cX3_keep : ByteArray := prog_5_method_2_code
def yX3_keep : MethodName := ⟨RX3, "keep", "(LNumberSpeech$Book;)V"⟩
abbrev cX3_takeBack : ByteArray := prog_5_method_3_code
def yX3_takeBack : MethodName := ⟨RX3, "takeBack", "(LNumberSpeech$Book;)V"⟩
abbrev cX3_bookAt : ByteArray := prog_5_method_4_code
def yX3_bookAt : MethodName := ⟨RX3, "bookAt", "(I)LNumberSpeech$Book;"⟩
def RX4 : String := "NumberSpeech$Memo"
def TX4 : u_T := fun k => match k with
  | 0 => ("NumberSpeech$Memo", "bytes", "[B", true)
  | 1 => ("NumberSpeech$Memo", "numbers", "[I", true)
  | 2 => ("NumberSpeech$Memo", "lengths", "[I", true)
  | 3 => ("NumberSpeech$Memo", "asks", "[I", true)
  | _ => ("NumberSpeech$Memo", "heights", "[I", true)
def tyX4 : Nat → FieldType := fun k => match k with
  | 0 => .array .byte
  | 1 => .array .int
  | 2 => .array .int
  | 3 => .array .int
  | _ => .array .int
abbrev wsX40 : List Cond := u_ws RX4 TX4 5
theorem nmX4 : ∀ a, a < 5 → ∀ b, b < 5 → a ≠ b → (TX4 a).2.1 ≠ (TX4 b).2.1 := by decide +kernel
theorem tyX4_ok : ∀ k, k < 5 → parseFieldDescriptor (TX4 k).2.2.1 = some (tyX4 k) := by decide +kernel
abbrev cX4_init : ByteArray := prog_6_method_1_code
def yX4_init : MethodName := ⟨RX4, "<init>", "()V"⟩
abbrev cX4_forget : ByteArray := prog_6_method_2_code
def yX4_forget : MethodName := ⟨RX4, "forget", "()V"⟩
abbrev cX4_slotOf : ByteArray := prog_6_method_3_code
def yX4_slotOf : MethodName := ⟨RX4, "slotOf", "(I)I"⟩
abbrev cX4_knows : ByteArray := prog_6_method_4_code
def yX4_knows : MethodName := ⟨RX4, "knows", "(I)Z"⟩
abbrev cX4_isSilent : ByteArray := prog_6_method_5_code
def yX4_isSilent : MethodName := ⟨RX4, "isSilent", "(I)Z"⟩
abbrev cX4_isSaid : ByteArray := prog_6_method_6_code
def yX4_isSaid : MethodName := ⟨RX4, "isSaid", "(I)Z"⟩
abbrev cX4_startOf : ByteArray := prog_6_method_7_code
def yX4_startOf : MethodName := ⟨RX4, "startOf", "(I)I"⟩
abbrev cX4_lengthOf : ByteArray := prog_6_method_8_code
def yX4_lengthOf : MethodName := ⟨RX4, "lengthOf", "(I)I"⟩
abbrev cX4_asksOf : ByteArray := prog_6_method_9_code
def yX4_asksOf : MethodName := ⟨RX4, "asksOf", "(I)I"⟩
abbrev cX4_keepSilent : ByteArray := prog_6_method_10_code
def yX4_keepSilent : MethodName := ⟨RX4, "keepSilent", "(I)V"⟩
abbrev cX4_keepSaid : ByteArray := prog_6_method_11_code
def yX4_keepSaid : MethodName := ⟨RX4, "keepSaid", "(I[BIIII)V"⟩
abbrev cX4_byteOf : ByteArray := prog_6_method_12_code
def yX4_byteOf : MethodName := ⟨RX4, "byteOf", "(II)I"⟩
abbrev cX4_wordsOf : ByteArray := prog_6_method_13_code
def yX4_wordsOf : MethodName := ⟨RX4, "wordsOf", "(I)I"⟩
abbrev cX4_lettersOf : ByteArray := prog_6_method_14_code
def yX4_lettersOf : MethodName := ⟨RX4, "lettersOf", "(I)I"⟩
abbrev cX4_sumOf : ByteArray := prog_6_method_15_code
def yX4_sumOf : MethodName := ⟨RX4, "sumOf", "(I)I"⟩
abbrev cX4_isLike : ByteArray := prog_6_method_16_code
def yX4_isLike : MethodName := ⟨RX4, "isLike", "(LNumberSpeech$Memo;I)Z"⟩
def RX5 : String := "NumberSpeech$Ranking"
def TX5 : u_T := fun k => match k with
  | 0 => ("NumberSpeech$Ranking", "voice", "LNumberSpeech$Voice;", true)
  | 1 => ("NumberSpeech$Ranking", "sorted", "[I", true)
  | 2 => ("NumberSpeech$Ranking", "spare", "[I", true)
  | 3 => ("NumberSpeech$Ranking", "size", "I", false)
  | 4 => ("NumberSpeech$Ranking", "preparedTo", "I", false)
  | 5 => ("NumberSpeech$Ranking", "foundFrom", "I", false)
  | 6 => ("NumberSpeech$Ranking", "foundTo", "I", false)
  | 7 => ("NumberSpeech$Ranking", "alikeCount", "I", false)
  | 8 => ("NumberSpeech$Ranking", "alikeLeast", "I", false)
  | 9 => ("NumberSpeech$Ranking", "alikeNext", "I", false)
  | _ => ("NumberSpeech$Ranking", "unlikeCount", "I", false)
def tyX5 : Nat → FieldType := fun k => match k with
  | 0 => .object "NumberSpeech$Voice"
  | 1 => .array .int
  | 2 => .array .int
  | 3 => .int
  | 4 => .int
  | 5 => .int
  | 6 => .int
  | 7 => .int
  | 8 => .int
  | 9 => .int
  | _ => .int
abbrev wsX50 : List Cond := u_ws RX5 TX5 11
theorem nmX5 : ∀ a, a < 11 → ∀ b, b < 11 → a ≠ b → (TX5 a).2.1 ≠ (TX5 b).2.1 := by decide +kernel
theorem tyX5_ok : ∀ k, k < 11 → parseFieldDescriptor (TX5 k).2.2.1 = some (tyX5 k) := by decide +kernel
abbrev cX5_init : ByteArray := prog_7_method_1_code
def yX5_init : MethodName := ⟨RX5, "<init>", "()V"⟩
abbrev cX5_forget : ByteArray := prog_7_method_2_code
def yX5_forget : MethodName := ⟨RX5, "forget", "()V"⟩
abbrev cX5_prepared : ByteArray := prog_7_method_3_code
def yX5_prepared : MethodName := ⟨RX5, "prepared", "(I)LNumberSpeech$Ranking;"⟩
abbrev cX5_sort : ByteArray := prog_7_method_4_code
def yX5_sort : MethodName := ⟨RX5, "sort", "()V"⟩
abbrev cX5_merge : ByteArray := prog_7_method_5_code
def yX5_merge : MethodName := ⟨RX5, "merge", "(III)V"⟩
abbrev cX5_compare : ByteArray := prog_7_method_6_code
def yX5_compare : MethodName := ⟨RX5, "compare", "(II)I"⟩
abbrev cX5_numberAt : ByteArray := prog_7_method_7_code
def yX5_numberAt : MethodName := ⟨RX5, "numberAt", "(I)I"⟩
abbrev cX5_find : ByteArray := prog_7_method_8_code
def yX5_find : MethodName := ⟨RX5, "find", "([BII)I"⟩
abbrev cX5_firstFound : ByteArray := prog_7_method_9_code
def yX5_firstFound : MethodName := ⟨RX5, "firstFound", "()I"⟩
abbrev cX5_lastFound : ByteArray := prog_7_method_10_code
def yX5_lastFound : MethodName := ⟨RX5, "lastFound", "()I"⟩
abbrev cX5_placeOf : ByteArray := prog_7_method_11_code
def yX5_placeOf : MethodName := ⟨RX5, "placeOf", "([BIIZ)I"⟩
abbrev cX5_group : ByteArray := prog_7_method_12_code
def yX5_group : MethodName := ⟨RX5, "group", "()V"⟩
abbrev cX5_addGroup : ByteArray := prog_7_method_13_code
def yX5_addGroup : MethodName := ⟨RX5, "addGroup", "(II)V"⟩
def RX6 : String := "NumberSpeech$Rule"
def TX6 : u_T := fun k => match k with
  | 0 => ("NumberSpeech$Rule", "from", "I", true)
  | 1 => ("NumberSpeech$Rule", "to", "I", true)
  | 2 => ("NumberSpeech$Rule", "divisor", "I", true)
  | 3 => ("NumberSpeech$Rule", "rest", "I", true)
  | 4 => ("NumberSpeech$Rule", "kinds", "[I", true)
  | 5 => ("NumberSpeech$Rule", "values", "[I", true)
  | _ => ("NumberSpeech$Rule", "letters", "[J", true)
def tyX6 : Nat → FieldType := fun k => match k with
  | 0 => .int
  | 1 => .int
  | 2 => .int
  | 3 => .int
  | 4 => .array .int
  | 5 => .array .int
  | _ => .array .long
abbrev wsX60 : List Cond := u_ws RX6 TX6 7
theorem nmX6 : ∀ a, a < 7 → ∀ b, b < 7 → a ≠ b → (TX6 a).2.1 ≠ (TX6 b).2.1 := by decide +kernel
theorem tyX6_ok : ∀ k, k < 7 → parseFieldDescriptor (TX6 k).2.2.1 = some (tyX6 k) := by decide +kernel
abbrev cX6_init : ByteArray := prog_8_method_1_code
def yX6_init : MethodName := ⟨RX6, "<init>", "([II[I[I[J)V"⟩
abbrev cX6_size : ByteArray := prog_8_method_2_code
def yX6_size : MethodName := ⟨RX6, "size", "()I"⟩
abbrev cX6_covers : ByteArray := prog_8_method_3_code
def yX6_covers : MethodName := ⟨RX6, "covers", "(I)Z"⟩
abbrev cX6_kindOf : ByteArray := prog_8_method_4_code
def yX6_kindOf : MethodName := ⟨RX6, "kindOf", "(I)I"⟩
abbrev cX6_valueOf : ByteArray := prog_8_method_5_code
def yX6_valueOf : MethodName := ⟨RX6, "valueOf", "(I)I"⟩
abbrev cX6_letterOf : ByteArray := prog_8_method_6_code
def yX6_letterOf : MethodName := ⟨RX6, "letterOf", "(II)I"⟩
abbrev cX6_asksNothing : ByteArray := prog_8_method_7_code
def yX6_asksNothing : MethodName := ⟨RX6, "asksNothing", "(II)Z"⟩
abbrev cX6_numberAsked : ByteArray := prog_8_method_8_code
def yX6_numberAsked : MethodName := ⟨RX6, "numberAsked", "(II)I"⟩
def RX7 : String := "NumberSpeech$Tape"
def TX7 : u_T := fun k => match k with
  | 0 => ("NumberSpeech$Tape", "bytes", "[B", true)
  | _ => ("NumberSpeech$Tape", "size", "I", false)
def tyX7 : Nat → FieldType := fun k => match k with
  | 0 => .array .byte
  | _ => .int
abbrev wsX70 : List Cond := u_ws RX7 TX7 2
theorem nmX7 : ∀ a, a < 2 → ∀ b, b < 2 → a ≠ b → (TX7 a).2.1 ≠ (TX7 b).2.1 := by decide +kernel
theorem tyX7_ok : ∀ k, k < 2 → parseFieldDescriptor (TX7 k).2.2.1 = some (tyX7 k) := by decide +kernel
abbrev cX7_init : ByteArray := prog_9_method_1_code
def yX7_init : MethodName := ⟨RX7, "<init>", "()V"⟩
abbrev cX7_put : ByteArray := prog_9_method_2_code
def yX7_put : MethodName := ⟨RX7, "put", "(I)V"⟩
def RX8 : String := "NumberSpeech$TextReader"
def TX8 : u_T := fun k => match k with
  | 0 => ("NumberSpeech$TextReader", "rules", "[LNumberSpeech$Rule;", true)
  | 1 => ("NumberSpeech$TextReader", "ruleCount", "I", false)
  | 2 => ("NumberSpeech$TextReader", "language", "I", false)
  | 3 => ("NumberSpeech$TextReader", "faultKind", "I", false)
  | 4 => ("NumberSpeech$TextReader", "faultPlace", "I", false)
  | 5 => ("NumberSpeech$TextReader", "bytes", "[B", false)
  | 6 => ("NumberSpeech$TextReader", "length", "I", false)
  | 7 => ("NumberSpeech$TextReader", "place", "I", false)
  | 8 => ("NumberSpeech$TextReader", "number", "I", false)
  | 9 => ("NumberSpeech$TextReader", "range", "[I", true)
  | 10 => ("NumberSpeech$TextReader", "itemCount", "I", false)
  | 11 => ("NumberSpeech$TextReader", "kinds", "[I", true)
  | 12 => ("NumberSpeech$TextReader", "values", "[I", true)
  | _ => ("NumberSpeech$TextReader", "letters", "[J", true)
def tyX8 : Nat → FieldType := fun k => match k with
  | 0 => .array (.object "NumberSpeech$Rule")
  | 1 => .int
  | 2 => .int
  | 3 => .int
  | 4 => .int
  | 5 => .array .byte
  | 6 => .int
  | 7 => .int
  | 8 => .int
  | 9 => .array .int
  | 10 => .int
  | 11 => .array .int
  | 12 => .array .int
  | _ => .array .long
abbrev wsX80 : List Cond := u_ws RX8 TX8 14
theorem nmX8 : ∀ a, a < 14 → ∀ b, b < 14 → a ≠ b → (TX8 a).2.1 ≠ (TX8 b).2.1 := by decide +kernel
theorem tyX8_ok : ∀ k, k < 14 → parseFieldDescriptor (TX8 k).2.2.1 = some (tyX8 k) := by decide +kernel
abbrev cX8_init : ByteArray := prog_10_method_1_code
def yX8_init : MethodName := ⟨RX8, "<init>", "()V"⟩
abbrev cX8_takes : ByteArray := prog_10_method_2_code
def yX8_takes : MethodName := ⟨RX8, "takes", "([BILNumberSpeech$Book;Z)Z"⟩
abbrev cX8_readsHead : ByteArray := prog_10_method_3_code
def yX8_readsHead : MethodName := ⟨RX8, "readsHead", "()Z"⟩
abbrev cX8_readsSay : ByteArray := prog_10_method_4_code
def yX8_readsSay : MethodName := ⟨RX8, "readsSay", "(I)Z"⟩
abbrev cX8_keepRule : ByteArray := prog_10_method_5_code
def yX8_keepRule : MethodName := ⟨RX8, "keepRule", "()V"⟩
abbrev cX8_readsRange : ByteArray := prog_10_method_6_code
def yX8_readsRange : MethodName := ⟨RX8, "readsRange", "()Z"⟩
abbrev cX8_readsItems : ByteArray := prog_10_method_7_code
def yX8_readsItems : MethodName := ⟨RX8, "readsItems", "()Z"⟩
abbrev cX8_readsItem : ByteArray := prog_10_method_8_code
def yX8_readsItem : MethodName := ⟨RX8, "readsItem", "(I)Z"⟩
abbrev cX8_kindHere : ByteArray := prog_10_method_9_code
def yX8_kindHere : MethodName := ⟨RX8, "kindHere", "()I"⟩
abbrev cX8_readsNumber : ByteArray := prog_10_method_10_code
def yX8_readsNumber : MethodName := ⟨RX8, "readsNumber", "(II)Z"⟩
abbrev cX8_passes : ByteArray := prog_10_method_11_code
def yX8_passes : MethodName := ⟨RX8, "passes", "(Ljava/lang/String;)Z"⟩
abbrev cX8_wordEnd : ByteArray := prog_10_method_12_code
def yX8_wordEnd : MethodName := ⟨RX8, "wordEnd", "()I"⟩
abbrev cX8_skipBlanks : ByteArray := prog_10_method_13_code
def yX8_skipBlanks : MethodName := ⟨RX8, "skipBlanks", "()V"⟩
abbrev cX8_signHere : ByteArray := prog_10_method_14_code
def yX8_signHere : MethodName := ⟨RX8, "signHere", "()I"⟩
abbrev cX8_byteAt : ByteArray := prog_10_method_15_code
def yX8_byteAt : MethodName := ⟨RX8, "byteAt", "(I)I"⟩
abbrev cX8_fails : ByteArray := prog_10_method_16_code
def yX8_fails : MethodName := ⟨RX8, "fails", "(II)Z"⟩
def RX9 : String := "NumberSpeech$Voice"
def TX9 : u_T := fun k => match k with
  | 0 => ("NumberSpeech$Voice", "memo", "LNumberSpeech$Memo;", true)
  | 1 => ("NumberSpeech$Voice", "causes", "LNumberSpeech$Causes;", true)
  | 2 => ("NumberSpeech$Voice", "rules", "[LNumberSpeech$Rule;", true)
  | 3 => ("NumberSpeech$Voice", "count", "I", false)
  | 4 => ("NumberSpeech$Voice", "usedBits", "I", false)
  | 5 => ("NumberSpeech$Voice", "open", "[I", true)
  | 6 => ("NumberSpeech$Voice", "texts", "[B", true)
  | 7 => ("NumberSpeech$Voice", "lengths", "[I", true)
  | 8 => ("NumberSpeech$Voice", "heights", "[I", true)
  | 9 => ("NumberSpeech$Voice", "asks", "I", false)
  | _ => ("NumberSpeech$Voice", "wantsCauses", "Z", false)
def tyX9 : Nat → FieldType := fun k => match k with
  | 0 => .object "NumberSpeech$Memo"
  | 1 => .object "NumberSpeech$Causes"
  | 2 => .array (.object "NumberSpeech$Rule")
  | 3 => .int
  | 4 => .int
  | 5 => .array .int
  | 6 => .array .byte
  | 7 => .array .int
  | 8 => .array .int
  | 9 => .int
  | _ => .boolean
abbrev wsX90 : List Cond := u_ws RX9 TX9 11
theorem nmX9 : ∀ a, a < 11 → ∀ b, b < 11 → a ≠ b → (TX9 a).2.1 ≠ (TX9 b).2.1 := by decide +kernel
theorem tyX9_ok : ∀ k, k < 11 → parseFieldDescriptor (TX9 k).2.2.1 = some (tyX9 k) := by decide +kernel
abbrev cX9_init : ByteArray := prog_11_method_1_code
def yX9_init : MethodName := ⟨RX9, "<init>", "()V"⟩
abbrev cX9_learn : ByteArray := prog_11_method_2_code
def yX9_learn : MethodName := ⟨RX9, "learn", "(LNumberSpeech$Book;II)V"⟩
abbrev cX9_firstFit : ByteArray := prog_11_method_3_code
def yX9_firstFit : MethodName := ⟨RX9, "firstFit", "(I)I"⟩
abbrev cX9_countFirstFits : ByteArray := prog_11_method_4_code
def yX9_countFirstFits : MethodName := ⟨RX9, "countFirstFits", "(II)I"⟩
abbrev cX9_says : ByteArray := prog_11_method_5_code
def yX9_says : MethodName := ⟨RX9, "says", "(I)Z"⟩
abbrev cX9_sayAll : ByteArray := prog_11_method_6_code
def yX9_sayAll : MethodName := ⟨RX9, "sayAll", "(I)V"⟩
abbrev cX9_hasUsed : ByteArray := prog_11_method_7_code
def yX9_hasUsed : MethodName := ⟨RX9, "hasUsed", "(I)Z"⟩
abbrev cX9_traceCauses : ByteArray := prog_11_method_8_code
def yX9_traceCauses : MethodName := ⟨RX9, "traceCauses", "(I)I"⟩
abbrev cX9_differences : ByteArray := prog_11_method_9_code
def yX9_differences : MethodName := ⟨RX9, "differences", "(LNumberSpeech$Voice;II)I"⟩
abbrev cX9_speaks : ByteArray := prog_11_method_10_code
def yX9_speaks : MethodName := ⟨RX9, "speaks", "(II)Z"⟩
abbrev cX9_refusalOf : ByteArray := prog_11_method_11_code
def yX9_refusalOf : MethodName := ⟨RX9, "refusalOf", "(II)I"⟩
abbrev cX9_recalls : ByteArray := prog_11_method_12_code
def yX9_recalls : MethodName := ⟨RX9, "recalls", "(II)Z"⟩
abbrev cX9_saysItems : ByteArray := prog_11_method_13_code
def yX9_saysItems : MethodName := ⟨RX9, "saysItems", "(III)Z"⟩
abbrev cX9_addsWord : ByteArray := prog_11_method_14_code
def yX9_addsWord : MethodName := ⟨RX9, "addsWord", "(LNumberSpeech$Rule;IIZ)Z"⟩
abbrev cX9_addsSaid : ByteArray := prog_11_method_15_code
def yX9_addsSaid : MethodName := ⟨RX9, "addsSaid", "(IIZ)Z"⟩
abbrev cX9_opensRoom : ByteArray := prog_11_method_16_code
def yX9_opensRoom : MethodName := ⟨RX9, "opensRoom", "(IIZ)Z"⟩
def RX10 : String := "NumberSpeech$WordCount"
def TX10 : u_T := fun k => match k with
  | 0 => ("NumberSpeech$WordCount", "starts", "[I", true)
  | 1 => ("NumberSpeech$WordCount", "lengths", "[I", true)
  | 2 => ("NumberSpeech$WordCount", "times", "[I", true)
  | 3 => ("NumberSpeech$WordCount", "unlike", "I", false)
  | _ => ("NumberSpeech$WordCount", "most", "I", false)
def tyX10 : Nat → FieldType := fun k => match k with
  | 0 => .array .int
  | 1 => .array .int
  | 2 => .array .int
  | 3 => .int
  | _ => .int
abbrev wsX100 : List Cond := u_ws RX10 TX10 5
theorem nmX10 : ∀ a, a < 5 → ∀ b, b < 5 → a ≠ b → (TX10 a).2.1 ≠ (TX10 b).2.1 := by decide +kernel
theorem tyX10_ok : ∀ k, k < 5 → parseFieldDescriptor (TX10 k).2.2.1 = some (tyX10 k) := by decide +kernel
abbrev cX10_init : ByteArray := prog_12_method_1_code
def yX10_init : MethodName := ⟨RX10, "<init>", "()V"⟩
abbrev cX10_countAll : ByteArray := prog_12_method_2_code
def yX10_countAll : MethodName := ⟨RX10, "countAll", "(LNumberSpeech$Voice;I)V"⟩
abbrev cX10_countText : ByteArray := prog_12_method_3_code
def yX10_countText : MethodName := ⟨RX10, "countText", "([BII)V"⟩
abbrev cX10_countWord : ByteArray := prog_12_method_4_code
def yX10_countWord : MethodName := ⟨RX10, "countWord", "([BII)V"⟩
abbrev cX10_findMost : ByteArray := prog_12_method_5_code
def yX10_findMost : MethodName := ⟨RX10, "findMost", "([B)V"⟩
abbrev cX10_comesAhead : ByteArray := prog_12_method_6_code
def yX10_comesAhead : MethodName := ⟨RX10, "comesAhead", "([BII)Z"⟩
abbrev cX10_mostTimes : ByteArray := prog_12_method_7_code
def yX10_mostTimes : MethodName := ⟨RX10, "mostTimes", "()I"⟩
abbrev cX10_lettersOfMost : ByteArray := prog_12_method_8_code
def yX10_lettersOfMost : MethodName := ⟨RX10, "lettersOfMost", "()I"⟩
def RX11 : String := "NumberSpeech"
def TX11 : u_T := fun k => match k with
  | 0 => ("NumberSpeech", "tape", "LNumberSpeech$Tape;", true)
  | 1 => ("NumberSpeech", "book", "LNumberSpeech$Book;", true)
  | 2 => ("NumberSpeech", "history", "LNumberSpeech$History;", true)
  | 3 => ("NumberSpeech", "reader", "LNumberSpeech$TextReader;", true)
  | 4 => ("NumberSpeech", "rankingZero", "LNumberSpeech$Ranking;", true)
  | 5 => ("NumberSpeech", "rankingOne", "LNumberSpeech$Ranking;", true)
  | 6 => ("NumberSpeech", "trial", "LNumberSpeech$Voice;", true)
  | 7 => ("NumberSpeech", "wordCount", "LNumberSpeech$WordCount;", true)
  | 8 => ("NumberSpeech", "chart", "LNumberSpeech$Chart;", true)
  | 9 => ("NumberSpeech", "links", "[I", true)
  | 10 => ("NumberSpeech", "faultPlace", "I", false)
  | 11 => ("NumberSpeech", "missing", "I", false)
  | _ => ("NumberSpeech", "wrong", "I", false)
def tyX11 : Nat → FieldType := fun k => match k with
  | 0 => .object "NumberSpeech$Tape"
  | 1 => .object "NumberSpeech$Book"
  | 2 => .object "NumberSpeech$History"
  | 3 => .object "NumberSpeech$TextReader"
  | 4 => .object "NumberSpeech$Ranking"
  | 5 => .object "NumberSpeech$Ranking"
  | 6 => .object "NumberSpeech$Voice"
  | 7 => .object "NumberSpeech$WordCount"
  | 8 => .object "NumberSpeech$Chart"
  | 9 => .array .int
  | 10 => .int
  | 11 => .int
  | _ => .int
abbrev wsX110 : List Cond := u_ws RX11 TX11 13
theorem nmX11 : ∀ a, a < 13 → ∀ b, b < 13 → a ≠ b → (TX11 a).2.1 ≠ (TX11 b).2.1 := by decide +kernel
theorem tyX11_ok : ∀ k, k < 13 → parseFieldDescriptor (TX11 k).2.2.1 = some (tyX11 k) := by decide +kernel
abbrev cX11_init : ByteArray := prog_1_method_1_code
def yX11_init : MethodName := ⟨RX11, "<init>", "()V"⟩
abbrev cX11_feed : ByteArray := prog_1_method_2_code
def yX11_feed : MethodName := ⟨RX11, "feed", "(IIIII)I"⟩
abbrev cX11_text : ByteArray := prog_1_method_3_code
def yX11_text : MethodName := ⟨RX11, "text", "(I)I"⟩
abbrev cX11_fault : ByteArray := prog_1_method_4_code
def yX11_fault : MethodName := ⟨RX11, "fault", "()I"⟩
abbrev cX11_more : ByteArray := prog_1_method_5_code
def yX11_more : MethodName := ⟨RX11, "more", "(I)I"⟩
abbrev cX11_takeText : ByteArray := prog_1_method_6_code
def yX11_takeText : MethodName := ⟨RX11, "takeText", "(IZ)I"⟩
abbrev cX11_limit : ByteArray := prog_1_method_7_code
def yX11_limit : MethodName := ⟨RX11, "limit", "(I)I"⟩
abbrev cX11_drop : ByteArray := prog_1_method_8_code
def yX11_drop : MethodName := ⟨RX11, "drop", "(II)I"⟩
abbrev cX11_rise : ByteArray := prog_1_method_9_code
def yX11_rise : MethodName := ⟨RX11, "rise", "(II)I"⟩
abbrev cX11_undo : ByteArray := prog_1_method_10_code
def yX11_undo : MethodName := ⟨RX11, "undo", "()I"⟩
abbrev cX11_learn : ByteArray := prog_1_method_11_code
def yX11_learn : MethodName := ⟨RX11, "learn", "(I)V"⟩
abbrev cX11_told : ByteArray := prog_1_method_12_code
def yX11_told : MethodName := ⟨RX11, "told", "(I)I"⟩
abbrev cX11_rule : ByteArray := prog_1_method_13_code
def yX11_rule : MethodName := ⟨RX11, "rule", "(III)I"⟩
abbrev cX11_item : ByteArray := prog_1_method_14_code
def yX11_item : MethodName := ⟨RX11, "item", "(IIII)I"⟩
abbrev cX11_fits : ByteArray := prog_1_method_15_code
def yX11_fits : MethodName := ⟨RX11, "fits", "(II)I"⟩
abbrev cX11_said : ByteArray := prog_1_method_16_code
def yX11_said : MethodName := ⟨RX11, "said", "(III)I"⟩
abbrev cX11_at : ByteArray := prog_1_method_17_code
def yX11_at : MethodName := ⟨RX11, "at", "(III)I"⟩
abbrev cX11_asked : ByteArray := prog_1_method_18_code
def yX11_asked : MethodName := ⟨RX11, "asked", "(II)I"⟩
abbrev cX11_causes : ByteArray := prog_1_method_19_code
def yX11_causes : MethodName := ⟨RX11, "causes", "(II)I"⟩
abbrev cX11_cause : ByteArray := prog_1_method_20_code
def yX11_cause : MethodName := ⟨RX11, "cause", "(IIII)I"⟩
abbrev cX11_silent : ByteArray := prog_1_method_21_code
def yX11_silent : MethodName := ⟨RX11, "silent", "(II)I"⟩
abbrev cX11_alike : ByteArray := prog_1_method_22_code
def yX11_alike : MethodName := ⟨RX11, "alike", "(II)I"⟩
abbrev cX11_read : ByteArray := prog_1_method_23_code
def yX11_read : MethodName := ⟨RX11, "read", "(III)I"⟩
abbrev cX11_ways : ByteArray := prog_1_method_24_code
def yX11_ways : MethodName := ⟨RX11, "ways", "(III)I"⟩
abbrev cX11_way : ByteArray := prog_1_method_25_code
def yX11_way : MethodName := ⟨RX11, "way", "(IIII)I"⟩
abbrev cX11_stretches : ByteArray := prog_1_method_26_code
def yX11_stretches : MethodName := ⟨RX11, "stretches", "(II)I"⟩
abbrev cX11_heard : ByteArray := prog_1_method_27_code
def yX11_heard : MethodName := ⟨RX11, "heard", "(II)I"⟩
abbrev cX11_same : ByteArray := prog_1_method_28_code
def yX11_same : MethodName := ⟨RX11, "same", "()I"⟩
abbrev cX11_order : ByteArray := prog_1_method_29_code
def yX11_order : MethodName := ⟨RX11, "order", "(II)I"⟩
abbrev cX11_longest : ByteArray := prog_1_method_30_code
def yX11_longest : MethodName := ⟨RX11, "longest", "(II)I"⟩
abbrev cX11_chain : ByteArray := prog_1_method_31_code
def yX11_chain : MethodName := ⟨RX11, "chain", "(III)I"⟩
abbrev cX11_isLink : ByteArray := prog_1_method_32_code
def yX11_isLink : MethodName := ⟨RX11, "isLink", "(II)Z"⟩
abbrev cX11_fixed : ByteArray := prog_1_method_33_code
def yX11_fixed : MethodName := ⟨RX11, "fixed", "(I)I"⟩
abbrev cX11_words : ByteArray := prog_1_method_34_code
def yX11_words : MethodName := ⟨RX11, "words", "(II)I"⟩
abbrev cX11_needless : ByteArray := prog_1_method_35_code
def yX11_needless : MethodName := ⟨RX11, "needless", "(I)I"⟩
abbrev cX11_print : ByteArray := prog_1_method_36_code
def yX11_print : MethodName := ⟨RX11, "print", "(I)J"⟩
abbrev cX11_status : ByteArray := prog_1_method_37_code
def yX11_status : MethodName := ⟨RX11, "status", "(I)I"⟩
abbrev cX11_rankingOf : ByteArray := prog_1_method_38_code
def yX11_rankingOf : MethodName := ⟨RX11, "rankingOf", "(I)LNumberSpeech$Ranking;"⟩
abbrev cX11_voiceOf : ByteArray := prog_1_method_39_code
def yX11_voiceOf : MethodName := ⟨RX11, "voiceOf", "(I)LNumberSpeech$Voice;"⟩
abbrev cX11_wantLanguage : ByteArray := prog_1_method_40_code
def yX11_wantLanguage : MethodName := ⟨RX11, "wantLanguage", "(I)V"⟩
abbrev cX11_wantRule : ByteArray := prog_1_method_41_code
def yX11_wantRule : MethodName := ⟨RX11, "wantRule", "(II)LNumberSpeech$Rule;"⟩
abbrev cX11_wantPart : ByteArray := prog_1_method_42_code
def yX11_wantPart : MethodName := ⟨RX11, "wantPart", "(II)V"⟩
abbrev cX11_wantBetween : ByteArray := prog_1_method_43_code
def yX11_wantBetween : MethodName := ⟨RX11, "wantBetween", "(III)V"⟩
abbrev cX11_wantHearable : ByteArray := prog_1_method_44_code
def yX11_wantHearable : MethodName := ⟨RX11, "wantHearable", "(I)V"⟩
abbrev cX11_isLetter : ByteArray := prog_1_method_45_code
def yX11_isLetter : MethodName := ⟨RX11, "isLetter", "(I)Z"⟩
abbrev cX11_isDigit : ByteArray := prog_1_method_46_code
def yX11_isDigit : MethodName := ⟨RX11, "isDigit", "(I)Z"⟩
abbrev cX11_copyBytes : ByteArray := prog_1_method_47_code
def yX11_copyBytes : MethodName := ⟨RX11, "copyBytes", "([BI[BII)V"⟩
abbrev cX11_compareBytes : ByteArray := prog_1_method_48_code
def yX11_compareBytes : MethodName := ⟨RX11, "compareBytes", "([BII[BII)I"⟩
def RX12 : String := "NumberSpeechModel"
def TX12 : u_T := fun k => match k with
  | 0 => ("NumberSpeechModel", "thrown", "I", false)
  | 1 => ("NumberSpeechModel", "refused", "[I", true)
  | 2 => ("NumberSpeechModel", "tape", "I", false)
  | 3 => ("NumberSpeechModel", "size", "I", false)
  | 4 => ("NumberSpeechModel", "at", "I", false)
  | 5 => ("NumberSpeechModel", "place", "I", false)
  | 6 => ("NumberSpeechModel", "fault", "I", false)
  | 7 => ("NumberSpeechModel", "faultAt", "I", false)
  | 8 => ("NumberSpeechModel", "fed", "[I", true)
  | 9 => ("NumberSpeechModel", "many", "[I", true)
  | 10 => ("NumberSpeechModel", "limits", "[I", true)
  | 11 => ("NumberSpeechModel", "rule", "[[[I", true)
  | 12 => ("NumberSpeechModel", "word", "[[[[B", true)
  | 13 => ("NumberSpeechModel", "limit", "I", false)
  | 14 => ("NumberSpeechModel", "backs", "I", false)
  | 15 => ("NumberSpeechModel", "spoken", "[B", true)
  | 16 => ("NumberSpeechModel", "top", "I", false)
  | 17 => ("NumberSpeechModel", "depth", "I", false)
  | 18 => ("NumberSpeechModel", "askedMany", "I", false)
  | 19 => ("NumberSpeechModel", "causes", "I", false)
  | 20 => ("NumberSpeechModel", "saying", "[I", true)
  | 21 => ("NumberSpeechModel", "cause", "[[I", true)
  | 22 => ("NumberSpeechModel", "isLaid", "I", false)
  | 23 => ("NumberSpeechModel", "laid", "[B", true)
  | 24 => ("NumberSpeechModel", "begin", "[I", true)
  | 25 => ("NumberSpeechModel", "length", "[I", true)
  | 26 => ("NumberSpeechModel", "asideBytes", "[B", true)
  | 27 => ("NumberSpeechModel", "asideBegin", "[I", true)
  | 28 => ("NumberSpeechModel", "asideLong", "[I", true)
  | 29 => ("NumberSpeechModel", "ordered", "[I", true)
  | 30 => ("NumberSpeechModel", "half", "[I", true)
  | 31 => ("NumberSpeechModel", "orderedMany", "I", false)
  | 32 => ("NumberSpeechModel", "row", "[B", true)
  | 33 => ("NumberSpeechModel", "readMany", "I", false)
  | 34 => ("NumberSpeechModel", "readFirst", "I", false)
  | 35 => ("NumberSpeechModel", "readLast", "I", false)
  | 36 => ("NumberSpeechModel", "heardWords", "I", false)
  | 37 => ("NumberSpeechModel", "wordAt", "[I", true)
  | 38 => ("NumberSpeechModel", "wordEnd", "[I", true)
  | 39 => ("NumberSpeechModel", "heardMany", "[[I", true)
  | 40 => ("NumberSpeechModel", "heardLeast", "[[I", true)
  | 41 => ("NumberSpeechModel", "fewest", "[I", true)
  | 42 => ("NumberSpeechModel", "nextAt", "[I", true)
  | 43 => ("NumberSpeechModel", "waysFrom", "[J", true)
  | 44 => ("NumberSpeechModel", "seen", "[Z", true)
  | 45 => ("NumberSpeechModel", "wordsAt", "[I", true)
  | 46 => ("NumberSpeechModel", "wordsLong", "[I", true)
  | 47 => ("NumberSpeechModel", "wordsHalf", "[I", true)
  | 48 => ("NumberSpeechModel", "wordsOrder", "[I", true)
  | _ => ("NumberSpeechModel", "wordsMany", "I", false)
def tyX12 : Nat → FieldType := fun k => match k with
  | 0 => .int
  | 1 => .array .int
  | 2 => .int
  | 3 => .int
  | 4 => .int
  | 5 => .int
  | 6 => .int
  | 7 => .int
  | 8 => .array .int
  | 9 => .array .int
  | 10 => .array .int
  | 11 => .array (.array (.array .int))
  | 12 => .array (.array (.array (.array .byte)))
  | 13 => .int
  | 14 => .int
  | 15 => .array .byte
  | 16 => .int
  | 17 => .int
  | 18 => .int
  | 19 => .int
  | 20 => .array .int
  | 21 => .array (.array .int)
  | 22 => .int
  | 23 => .array .byte
  | 24 => .array .int
  | 25 => .array .int
  | 26 => .array .byte
  | 27 => .array .int
  | 28 => .array .int
  | 29 => .array .int
  | 30 => .array .int
  | 31 => .int
  | 32 => .array .byte
  | 33 => .int
  | 34 => .int
  | 35 => .int
  | 36 => .int
  | 37 => .array .int
  | 38 => .array .int
  | 39 => .array (.array .int)
  | 40 => .array (.array .int)
  | 41 => .array .int
  | 42 => .array .int
  | 43 => .array .long
  | 44 => .array .boolean
  | 45 => .array .int
  | 46 => .array .int
  | 47 => .array .int
  | 48 => .array .int
  | _ => .int
abbrev wsX120 : List Cond := u_ws RX12 TX12 50
theorem nmX12 : ∀ a, a < 50 → ∀ b, b < 50 → a ≠ b → (TX12 a).2.1 ≠ (TX12 b).2.1 := by decide +kernel
theorem tyX12_ok : ∀ k, k < 50 → parseFieldDescriptor (TX12 k).2.2.1 = some (tyX12 k) := by decide +kernel
abbrev cX12_init : ByteArray := prog_14_method_1_code
def yX12_init : MethodName := ⟨RX12, "<init>", "()V"⟩
abbrev cX12_thrown : ByteArray := prog_14_method_2_code
def yX12_thrown : MethodName := ⟨RX12, "thrown", "()I"⟩
abbrev cX12_bad : ByteArray := prog_14_method_3_code
def yX12_bad : MethodName := ⟨RX12, "bad", "(ZII)Z"⟩
abbrev cX12_in : ByteArray := prog_14_method_4_code
def yX12_in : MethodName := ⟨RX12, "in", "(III)Z"⟩
abbrev cX12_less : ByteArray := prog_14_method_5_code
def yX12_less : MethodName := ⟨RX12, "less", "(II)I"⟩
abbrev cX12_feed : ByteArray := prog_14_method_6_code
def yX12_feed : MethodName := ⟨RX12, "feed", "(IIIII)I"⟩
abbrev cX12_byteAt : ByteArray := prog_14_method_7_code
def yX12_byteAt : MethodName := ⟨RX12, "byteAt", "(I)I"⟩
abbrev cX12_here : ByteArray := prog_14_method_8_code
def yX12_here : MethodName := ⟨RX12, "here", "()I"⟩
abbrev cX12_fine : ByteArray := prog_14_method_9_code
def yX12_fine : MethodName := ⟨RX12, "fine", "()Z"⟩
abbrev cX12_wrong : ByteArray := prog_14_method_10_code
def yX12_wrong : MethodName := ⟨RX12, "wrong", "(II)V"⟩
abbrev cX12_isDigit : ByteArray := prog_14_method_11_code
def yX12_isDigit : MethodName := ⟨RX12, "isDigit", "(I)Z"⟩
abbrev cX12_isSmall : ByteArray := prog_14_method_12_code
def yX12_isSmall : MethodName := ⟨RX12, "isSmall", "(I)Z"⟩
abbrev cX12_number : ByteArray := prog_14_method_13_code
def yX12_number : MethodName := ⟨RX12, "number", "(II)I"⟩
abbrev cX12_wordLong : ByteArray := prog_14_method_14_code
def yX12_wordLong : MethodName := ⟨RX12, "wordLong", "()I"⟩
abbrev cX12_takes : ByteArray := prog_14_method_15_code
def yX12_takes : MethodName := ⟨RX12, "takes", "(Ljava/lang/String;)Z"⟩
abbrev cX12_must : ByteArray := prog_14_method_16_code
def yX12_must : MethodName := ⟨RX12, "must", "(Ljava/lang/String;)V"⟩
abbrev cX12_ends : ByteArray := prog_14_method_17_code
def yX12_ends : MethodName := ⟨RX12, "ends", "()V"⟩
abbrev cX12_kindOf : ByteArray := prog_14_method_18_code
def yX12_kindOf : MethodName := ⟨RX12, "kindOf", "(I)I"⟩
abbrev cX12_readsItem : ByteArray := prog_14_method_19_code
def yX12_readsItem : MethodName := ⟨RX12, "readsItem", "([II[B)V"⟩
abbrev cX12_readsItems : ByteArray := prog_14_method_20_code
def yX12_readsItems : MethodName := ⟨RX12, "readsItems", "([I[[B)V"⟩
abbrev cX12_readsRule : ByteArray := prog_14_method_21_code
def yX12_readsRule : MethodName := ⟨RX12, "readsRule", "()V"⟩
abbrev cX12_copiesRule : ByteArray := prog_14_method_22_code
def yX12_copiesRule : MethodName := ⟨RX12, "copiesRule", "(IIII)V"⟩
abbrev cX12_copies : ByteArray := prog_14_method_23_code
def yX12_copies : MethodName := ⟨RX12, "copies", "(II)V"⟩
abbrev cX12_reads : ByteArray := prog_14_method_24_code
def yX12_reads : MethodName := ⟨RX12, "reads", "(IZ)I"⟩
abbrev cX12_text : ByteArray := prog_14_method_25_code
def yX12_text : MethodName := ⟨RX12, "text", "(I)I"⟩
abbrev cX12_more : ByteArray := prog_14_method_26_code
def yX12_more : MethodName := ⟨RX12, "more", "(I)I"⟩
abbrev cX12_fault : ByteArray := prog_14_method_27_code
def yX12_fault : MethodName := ⟨RX12, "fault", "()I"⟩
abbrev cX12_remembers : ByteArray := prog_14_method_28_code
def yX12_remembers : MethodName := ⟨RX12, "remembers", "()V"⟩
abbrev cX12_undo : ByteArray := prog_14_method_29_code
def yX12_undo : MethodName := ⟨RX12, "undo", "()I"⟩
abbrev cX12_limit : ByteArray := prog_14_method_30_code
def yX12_limit : MethodName := ⟨RX12, "limit", "(I)I"⟩
abbrev cX12_isLanguage : ByteArray := prog_14_method_31_code
def yX12_isLanguage : MethodName := ⟨RX12, "isLanguage", "(I)Z"⟩
abbrev cX12_isRule : ByteArray := prog_14_method_32_code
def yX12_isRule : MethodName := ⟨RX12, "isRule", "(II)Z"⟩
abbrev cX12_removes : ByteArray := prog_14_method_33_code
def yX12_removes : MethodName := ⟨RX12, "removes", "(II)V"⟩
abbrev cX12_drop : ByteArray := prog_14_method_34_code
def yX12_drop : MethodName := ⟨RX12, "drop", "(II)I"⟩
abbrev cX12_swaps : ByteArray := prog_14_method_35_code
def yX12_swaps : MethodName := ⟨RX12, "swaps", "(II)V"⟩
abbrev cX12_firstRule : ByteArray := prog_14_method_36_code
def yX12_firstRule : MethodName := ⟨RX12, "firstRule", "(II)I"⟩
abbrev cX12_fails : ByteArray := prog_14_method_37_code
def yX12_fails : MethodName := ⟨RX12, "fails", "(IIII)Z"⟩
abbrev cX12_isSaying : ByteArray := prog_14_method_38_code
def yX12_isSaying : MethodName := ⟨RX12, "isSaying", "(I)Z"⟩
abbrev cX12_wanted : ByteArray := prog_14_method_39_code
def yX12_wanted : MethodName := ⟨RX12, "wanted", "(III)J"⟩
abbrev cX12_says : ByteArray := prog_14_method_40_code
def yX12_says : MethodName := ⟨RX12, "says", "(IJ)Z"⟩
abbrev cX12_saysItems : ByteArray := prog_14_method_41_code
def yX12_saysItems : MethodName := ⟨RX12, "saysItems", "(III)Z"⟩
abbrev cX12_isSaid : ByteArray := prog_14_method_42_code
def yX12_isSaid : MethodName := ⟨RX12, "isSaid", "(II)Z"⟩
abbrev cX12_lays : ByteArray := prog_14_method_43_code
def yX12_lays : MethodName := ⟨RX12, "lays", "(I)V"⟩
abbrev cX12_against : ByteArray := prog_14_method_44_code
def yX12_against : MethodName := ⟨RX12, "against", "(II)I"⟩
abbrev cX12_areAlike : ByteArray := prog_14_method_45_code
def yX12_areAlike : MethodName := ⟨RX12, "areAlike", "(II)Z"⟩
abbrev cX12_goesAside : ByteArray := prog_14_method_46_code
def yX12_goesAside : MethodName := ⟨RX12, "goesAside", "(I)V"⟩
abbrev cX12_isAsAside : ByteArray := prog_14_method_47_code
def yX12_isAsAside : MethodName := ⟨RX12, "isAsAside", "(I)Z"⟩
abbrev cX12_unlikeAside : ByteArray := prog_14_method_48_code
def yX12_unlikeAside : MethodName := ⟨RX12, "unlikeAside", "()I"⟩
abbrev cX12_rise : ByteArray := prog_14_method_49_code
def yX12_rise : MethodName := ⟨RX12, "rise", "(II)I"⟩
abbrev cX12_told : ByteArray := prog_14_method_50_code
def yX12_told : MethodName := ⟨RX12, "told", "(I)I"⟩
abbrev cX12_firstOf : ByteArray := prog_14_method_51_code
def yX12_firstOf : MethodName := ⟨RX12, "firstOf", "(II)I"⟩
abbrev cX12_rule : ByteArray := prog_14_method_52_code
def yX12_rule : MethodName := ⟨RX12, "rule", "(III)I"⟩
abbrev cX12_item : ByteArray := prog_14_method_53_code
def yX12_item : MethodName := ⟨RX12, "item", "(IIII)I"⟩
abbrev cX12_fits : ByteArray := prog_14_method_54_code
def yX12_fits : MethodName := ⟨RX12, "fits", "(II)I"⟩
abbrev cX12_wordsIn : ByteArray := prog_14_method_55_code
def yX12_wordsIn : MethodName := ⟨RX12, "wordsIn", "([BII)I"⟩
abbrev cX12_lettersIn : ByteArray := prog_14_method_56_code
def yX12_lettersIn : MethodName := ⟨RX12, "lettersIn", "([BII)I"⟩
abbrev cX12_said : ByteArray := prog_14_method_57_code
def yX12_said : MethodName := ⟨RX12, "said", "(III)I"⟩
abbrev cX12_at : ByteArray := prog_14_method_58_code
def yX12_at : MethodName := ⟨RX12, "at", "(III)I"⟩
abbrev cX12_asked : ByteArray := prog_14_method_59_code
def yX12_asked : MethodName := ⟨RX12, "asked", "(II)I"⟩
abbrev cX12_causes : ByteArray := prog_14_method_60_code
def yX12_causes : MethodName := ⟨RX12, "causes", "(II)I"⟩
abbrev cX12_cause : ByteArray := prog_14_method_61_code
def yX12_cause : MethodName := ⟨RX12, "cause", "(IIII)I"⟩
abbrev cX12_silent : ByteArray := prog_14_method_62_code
def yX12_silent : MethodName := ⟨RX12, "silent", "(II)I"⟩
abbrev cX12_sorts : ByteArray := prog_14_method_63_code
def yX12_sorts : MethodName := ⟨RX12, "sorts", "(II)V"⟩
abbrev cX12_orders : ByteArray := prog_14_method_64_code
def yX12_orders : MethodName := ⟨RX12, "orders", "(I)V"⟩
abbrev cX12_order : ByteArray := prog_14_method_65_code
def yX12_order : MethodName := ⟨RX12, "order", "(II)I"⟩
abbrev cX12_alike : ByteArray := prog_14_method_66_code
def yX12_alike : MethodName := ⟨RX12, "alike", "(II)I"⟩
abbrev cX12_isSaidSo : ByteArray := prog_14_method_67_code
def yX12_isSaidSo : MethodName := ⟨RX12, "isSaidSo", "(I[BII)Z"⟩
abbrev cX12_looksUp : ByteArray := prog_14_method_68_code
def yX12_looksUp : MethodName := ⟨RX12, "looksUp", "([BII)V"⟩
abbrev cX12_read : ByteArray := prog_14_method_69_code
def yX12_read : MethodName := ⟨RX12, "read", "(III)I"⟩
abbrev cX12_laysWords : ByteArray := prog_14_method_70_code
def yX12_laysWords : MethodName := ⟨RX12, "laysWords", "(I)Z"⟩
abbrev cX12_isHeard : ByteArray := prog_14_method_71_code
def yX12_isHeard : MethodName := ⟨RX12, "isHeard", "(I)Z"⟩
abbrev cX12_laysChart : ByteArray := prog_14_method_72_code
def yX12_laysChart : MethodName := ⟨RX12, "laysChart", "(I)V"⟩
abbrev cX12_addedUp : ByteArray := prog_14_method_73_code
def yX12_addedUp : MethodName := ⟨RX12, "addedUp", "()I"⟩
abbrev cX12_ways : ByteArray := prog_14_method_74_code
def yX12_ways : MethodName := ⟨RX12, "ways", "(III)I"⟩
abbrev cX12_way : ByteArray := prog_14_method_75_code
def yX12_way : MethodName := ⟨RX12, "way", "(IIII)I"⟩
abbrev cX12_stretches : ByteArray := prog_14_method_76_code
def yX12_stretches : MethodName := ⟨RX12, "stretches", "(II)I"⟩
abbrev cX12_heard : ByteArray := prog_14_method_77_code
def yX12_heard : MethodName := ⟨RX12, "heard", "(II)I"⟩
abbrev cX12_same : ByteArray := prog_14_method_78_code
def yX12_same : MethodName := ⟨RX12, "same", "()I"⟩
abbrev cX12_longest : ByteArray := prog_14_method_79_code
def yX12_longest : MethodName := ⟨RX12, "longest", "(II)I"⟩
abbrev cX12_chain : ByteArray := prog_14_method_80_code
def yX12_chain : MethodName := ⟨RX12, "chain", "(III)I"⟩
abbrev cX12_fixed : ByteArray := prog_14_method_81_code
def yX12_fixed : MethodName := ⟨RX12, "fixed", "(I)I"⟩
abbrev cX12_wordAgainst : ByteArray := prog_14_method_82_code
def yX12_wordAgainst : MethodName := ⟨RX12, "wordAgainst", "(II)I"⟩
abbrev cX12_sortsWords : ByteArray := prog_14_method_83_code
def yX12_sortsWords : MethodName := ⟨RX12, "sortsWords", "(II)V"⟩
abbrev cX12_laysAllWords : ByteArray := prog_14_method_84_code
def yX12_laysAllWords : MethodName := ⟨RX12, "laysAllWords", "()V"⟩
abbrev cX12_words : ByteArray := prog_14_method_85_code
def yX12_words : MethodName := ⟨RX12, "words", "(II)I"⟩
abbrev cX12_needless : ByteArray := prog_14_method_86_code
def yX12_needless : MethodName := ⟨RX12, "needless", "(I)I"⟩
abbrev cX12_print : ByteArray := prog_14_method_87_code
def yX12_print : MethodName := ⟨RX12, "print", "(I)J"⟩
abbrev cX12_status : ByteArray := prog_14_method_88_code
def yX12_status : MethodName := ⟨RX12, "status", "(I)I"⟩
def RJx145de : String := "java/io/Serializable"
def RJx9f9b0 : String := "java/lang/CharSequence"
def RJx8e188 : String := "java/lang/Cloneable"
def RJxb160c : String := "java/lang/Comparable"
def RJ9 : String := "java/lang/Math"
abbrev cJ9_max_7cf53 : ByteArray := prog_21_method_65_code
def yJ9_max_7cf53 : MethodName := ⟨RJ9, "max", "(II)I"⟩
abbrev cJ9_min_7cf53 : ByteArray := prog_21_method_69_code
def yJ9_min_7cf53 : MethodName := ⟨RJ9, "min", "(II)I"⟩
abbrev cJ9_min_f86c9 : ByteArray := prog_21_method_70_code
def yJ9_min_f86c9 : MethodName := ⟨RJ9, "min", "(JJ)J"⟩
def RJ0 : String := "java/lang/String"
abbrev cJ0_length_8abf5 : ByteArray := prog_23_method_54_code
def yJ0_length_8abf5 : MethodName := ⟨RJ0, "length", "()I"⟩
abbrev cJ0_charAt_5068e : ByteArray := prog_23_method_56_code
def yJ0_charAt_5068e : MethodName := ⟨RJ0, "charAt", "(I)C"⟩
abbrev cJ0_coder_7d493 : ByteArray := prog_23_method_152_code
def yJ0_coder_7d493 : MethodName := ⟨RJ0, "coder", "()B"⟩
abbrev cJ0_isLatin1_aae02 : ByteArray := prog_23_method_154_code
def yJ0_isLatin1_aae02 : MethodName := ⟨RJ0, "isLatin1", "()Z"⟩
abbrev cJ0_checkIndex_df160 : ByteArray := prog_23_method_155_code
def yJ0_checkIndex_df160 : MethodName := ⟨RJ0, "checkIndex", "(II)V"⟩
def RJ1 : String := "java/lang/StringLatin1"
abbrev cJ1_charAt_3b067 : ByteArray := prog_24_method_2_code
def yJ1_charAt_3b067 : MethodName := ⟨RJ1, "charAt", "([BI)C"⟩
def RJ2 : String := "java/lang/StringUTF16"
abbrev cJ2_getChar_3b067 : ByteArray := prog_25_method_5_code
def yJ2_getChar_3b067 : MethodName := ⟨RJ2, "getChar", "([BI)C"⟩
abbrev cJ2_length_9d52b : ByteArray := prog_25_method_6_code
def yJ2_length_9d52b : MethodName := ⟨RJ2, "length", "([B)I"⟩
abbrev cJ2_charAt_3b067 : ByteArray := prog_25_method_83_code
def yJ2_charAt_3b067 : MethodName := ⟨RJ2, "charAt", "([BI)C"⟩
abbrev cJ2_checkIndex_2214a : ByteArray := prog_25_method_91_code
def yJ2_checkIndex_2214a : MethodName := ⟨RJ2, "checkIndex", "(I[B)V"⟩
def RJ10 : String := "java/lang/System"
def RJxfd54e : String := "java/lang/constant/Constable"
def RJx3cf43 : String := "java/lang/constant/ConstantDesc"
def RJ7 : String := "java/util/Arrays"
abbrev cJ7_fill_53178 : ByteArray := prog_30_method_103_code
def yJ7_fill_53178 : MethodName := ⟨RJ7, "fill", "([II)V"⟩
abbrev cJ7_copyOf_59c91 : ByteArray := prog_30_method_123_code
def yJ7_copyOf_59c91 : MethodName := ⟨RJ7, "copyOf", "([II)[I"⟩
abbrev cJ7_copyOf_c38d5 : ByteArray := prog_30_method_124_code
def yJ7_copyOf_c38d5 : MethodName := ⟨RJ7, "copyOf", "([JI)[J"⟩
def RJ3 : String := "jdk/internal/util/Preconditions"
abbrev cJ3_checkIndex_8e157 : ByteArray := prog_32_method_11_code
def yJ3_checkIndex_8e157 : MethodName := ⟨RJ3, "checkIndex", "(IILjava/util/function/BiFunction;)I"⟩
def RL : String := "NumberSpeechLaw"
abbrev cL_text : ByteArray := method_3_code
def yL_text : MethodName := ⟨RL, "text", "(LNumberSpeech;I[J)I"⟩
abbrev cL_more : ByteArray := method_4_code
def yL_more : MethodName := ⟨RL, "more", "(LNumberSpeech;I[J)I"⟩
abbrev cL_limit : ByteArray := method_5_code
def yL_limit : MethodName := ⟨RL, "limit", "(LNumberSpeech;I[J)I"⟩
abbrev cL_drop : ByteArray := method_6_code
def yL_drop : MethodName := ⟨RL, "drop", "(LNumberSpeech;II[J)I"⟩
abbrev cL_rise : ByteArray := method_7_code
def yL_rise : MethodName := ⟨RL, "rise", "(LNumberSpeech;II[J)I"⟩
abbrev cL_told : ByteArray := method_8_code
def yL_told : MethodName := ⟨RL, "told", "(LNumberSpeech;I[J)I"⟩
abbrev cL_rule : ByteArray := method_9_code
def yL_rule : MethodName := ⟨RL, "rule", "(LNumberSpeech;III[J)I"⟩
abbrev cL_item : ByteArray := method_10_code
def yL_item : MethodName := ⟨RL, "item", "(LNumberSpeech;IIII[J)I"⟩
abbrev cL_fits : ByteArray := method_11_code
def yL_fits : MethodName := ⟨RL, "fits", "(LNumberSpeech;II[J)I"⟩
abbrev cL_said : ByteArray := method_12_code
def yL_said : MethodName := ⟨RL, "said", "(LNumberSpeech;III[J)I"⟩
abbrev cL_at : ByteArray := method_13_code
def yL_at : MethodName := ⟨RL, "at", "(LNumberSpeech;III[J)I"⟩
abbrev cL_asked : ByteArray := method_14_code
def yL_asked : MethodName := ⟨RL, "asked", "(LNumberSpeech;II[J)I"⟩
abbrev cL_causes : ByteArray := method_15_code
def yL_causes : MethodName := ⟨RL, "causes", "(LNumberSpeech;II[J)I"⟩
abbrev cL_cause : ByteArray := method_16_code
def yL_cause : MethodName := ⟨RL, "cause", "(LNumberSpeech;IIII[J)I"⟩
abbrev cL_silent : ByteArray := method_17_code
def yL_silent : MethodName := ⟨RL, "silent", "(LNumberSpeech;II[J)I"⟩
abbrev cL_alike : ByteArray := method_18_code
def yL_alike : MethodName := ⟨RL, "alike", "(LNumberSpeech;II[J)I"⟩
abbrev cL_read : ByteArray := method_19_code
def yL_read : MethodName := ⟨RL, "read", "(LNumberSpeech;III[J)I"⟩
abbrev cL_ways : ByteArray := method_20_code
def yL_ways : MethodName := ⟨RL, "ways", "(LNumberSpeech;III[J)I"⟩
abbrev cL_way : ByteArray := method_21_code
def yL_way : MethodName := ⟨RL, "way", "(LNumberSpeech;IIII[J)I"⟩
abbrev cL_stretches : ByteArray := method_22_code
def yL_stretches : MethodName := ⟨RL, "stretches", "(LNumberSpeech;II[J)I"⟩
abbrev cL_heard : ByteArray := method_23_code
def yL_heard : MethodName := ⟨RL, "heard", "(LNumberSpeech;II[J)I"⟩
abbrev cL_order : ByteArray := method_24_code
def yL_order : MethodName := ⟨RL, "order", "(LNumberSpeech;II[J)I"⟩
abbrev cL_longest : ByteArray := method_25_code
def yL_longest : MethodName := ⟨RL, "longest", "(LNumberSpeech;II[J)I"⟩
abbrev cL_chain : ByteArray := method_26_code
def yL_chain : MethodName := ⟨RL, "chain", "(LNumberSpeech;III[J)I"⟩
abbrev cL_fixed : ByteArray := method_27_code
def yL_fixed : MethodName := ⟨RL, "fixed", "(LNumberSpeech;I[J)I"⟩
abbrev cL_words : ByteArray := method_28_code
def yL_words : MethodName := ⟨RL, "words", "(LNumberSpeech;II[J)I"⟩
abbrev cL_needless : ByteArray := method_29_code
def yL_needless : MethodName := ⟨RL, "needless", "(LNumberSpeech;I[J)I"⟩
abbrev cL_print : ByteArray := method_30_code
def yL_print : MethodName := ⟨RL, "print", "(LNumberSpeech;I[J)I"⟩
abbrev cL_law : ByteArray := code
def yL_law : MethodName := ⟨RL, "law", "([I)Z"⟩
abbrev vwCl : List vw_C := [(RX0, TX0, 3), (RX1, TX1, 5), (RX2, TX2, 9), (RX3, TX3, 3), (RX4, TX4, 5), (RX5, TX5, 11), (RX6, TX6, 7), (RX7, TX7, 2), (RX8, TX8, 14), (RX9, TX9, 11), (RX10, TX10, 5), (RX11, TX11, 13), (RX12, TX12, 50)]
