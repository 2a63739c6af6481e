section
-- ===== PART A: goes FIRST, ahead of the names: the tables' words, and 'selects' of the private methods out of them =====
/-- a private method of a class that the tables say can be made, by its rows of tables_1 -/
def lw_okq (q : MethodName × Nat) : Prop := (q.1.cls ≠ "java/lang/invoke/MethodHandle" ∧ q.1.cls ≠ "java/lang/invoke/VarHandle") ∧ Cond.instantiable q.1.cls q.2 ∈ tables_1 ∧ Cond.privateMethod q.1 ∈ tables_1 ∧ Cond.instanceMethod q.1 ∈ tables_1
theorem lw_p0 : lw_okq (⟨"BowlsWithin", "bytesRefusal", "(I)I"⟩, 7) := ⟨⟨by decide +kernel, by decide +kernel⟩, List.mem_of_getElem? (i := 24) (by decide +kernel), List.mem_of_getElem? (i := 234) (by decide +kernel), List.mem_of_getElem? (i := 235) (by decide +kernel)⟩
theorem lw_p1 : lw_okq (⟨"BowlsWithin", "shelfRefusal", "(II)I"⟩, 7) := ⟨⟨by decide +kernel, by decide +kernel⟩, List.mem_of_getElem? (i := 24) (by decide +kernel), List.mem_of_getElem? (i := 238) (by decide +kernel), List.mem_of_getElem? (i := 239) (by decide +kernel)⟩
theorem lw_p2 : lw_okq (⟨"BowlsWithin$Shelf", "digitEnd", "(I)I"⟩, 6) := ⟨⟨by decide +kernel, by decide +kernel⟩, List.mem_of_getElem? (i := 177) (by decide +kernel), List.mem_of_getElem? (i := 264) (by decide +kernel), List.mem_of_getElem? (i := 265) (by decide +kernel)⟩
theorem lw_p3 : lw_okq (⟨"BowlsWithin$Shelf", "isDigit", "(I)Z"⟩, 6) := ⟨⟨by decide +kernel, by decide +kernel⟩, List.mem_of_getElem? (i := 177) (by decide +kernel), List.mem_of_getElem? (i := 268) (by decide +kernel), List.mem_of_getElem? (i := 269) (by decide +kernel)⟩
theorem lw_p4 : lw_okq (⟨"BowlsWithin$Shelf", "signEnd", "(II)I"⟩, 6) := ⟨⟨by decide +kernel, by decide +kernel⟩, List.mem_of_getElem? (i := 177) (by decide +kernel), List.mem_of_getElem? (i := 276) (by decide +kernel), List.mem_of_getElem? (i := 277) (by decide +kernel)⟩
theorem lw_p5 : lw_okq (⟨"BowlsWithin", "tellAll", "(LBowlsWithin$Shelf;)I"⟩, 7) := ⟨⟨by decide +kernel, by decide +kernel⟩, List.mem_of_getElem? (i := 24) (by decide +kernel), List.mem_of_getElem? (i := 280) (by decide +kernel), List.mem_of_getElem? (i := 281) (by decide +kernel)⟩
theorem lw_p6 : lw_okq (⟨"BowlsWithin$Heap", "tellBowl", "(LBowlsWithin$Shelf;I)Z"⟩, 9) := ⟨⟨by decide +kernel, by decide +kernel⟩, List.mem_of_getElem? (i := 89) (by decide +kernel), List.mem_of_getElem? (i := 296) (by decide +kernel), List.mem_of_getElem? (i := 297) (by decide +kernel)⟩
theorem lw_p7 : lw_okq (⟨"BowlsWithin$Heap", "place", "(IIIII)V"⟩, 9) := ⟨⟨by decide +kernel, by decide +kernel⟩, List.mem_of_getElem? (i := 89) (by decide +kernel), List.mem_of_getElem? (i := 314) (by decide +kernel), List.mem_of_getElem? (i := 315) (by decide +kernel)⟩
theorem lw_p8 : lw_okq (⟨"BowlsWithin", "bowlRefusal", "(I)I"⟩, 7) := ⟨⟨by decide +kernel, by decide +kernel⟩, List.mem_of_getElem? (i := 24) (by decide +kernel), List.mem_of_getElem? (i := 431) (by decide +kernel), List.mem_of_getElem? (i := 432) (by decide +kernel)⟩
theorem lw_p9 : lw_okq (⟨"BowlsWithin", "arePair", "(II)Z"⟩, 7) := ⟨⟨by decide +kernel, by decide +kernel⟩, List.mem_of_getElem? (i := 24) (by decide +kernel), List.mem_of_getElem? (i := 452) (by decide +kernel), List.mem_of_getElem? (i := 453) (by decide +kernel)⟩
theorem lw_p10 : lw_okq (⟨"BowlsWithin$Heap", "agree", "(II)Z"⟩, 9) := ⟨⟨by decide +kernel, by decide +kernel⟩, List.mem_of_getElem? (i := 89) (by decide +kernel), List.mem_of_getElem? (i := 460) (by decide +kernel), List.mem_of_getElem? (i := 461) (by decide +kernel)⟩
theorem lw_p11 : lw_okq (⟨"BowlsWithin", "areBowls", "(I)Z"⟩, 7) := ⟨⟨by decide +kernel, by decide +kernel⟩, List.mem_of_getElem? (i := 24) (by decide +kernel), List.mem_of_getElem? (i := 484) (by decide +kernel), List.mem_of_getElem? (i := 485) (by decide +kernel)⟩
theorem lw_p12 : lw_okq (⟨"BowlsWithin$Nests", "growBy", "(LBowlsWithin$Heap;I)V"⟩, 11) := ⟨⟨by decide +kernel, by decide +kernel⟩, List.mem_of_getElem? (i := 136) (by decide +kernel), List.mem_of_getElem? (i := 519) (by decide +kernel), List.mem_of_getElem? (i := 520) (by decide +kernel)⟩
theorem lw_p13 : lw_okq (⟨"BowlsWithin$Nests", "note", "(III)V"⟩, 11) := ⟨⟨by decide +kernel, by decide +kernel⟩, List.mem_of_getElem? (i := 136) (by decide +kernel), List.mem_of_getElem? (i := 524) (by decide +kernel), List.mem_of_getElem? (i := 525) (by decide +kernel)⟩
theorem lw_p14 : lw_okq (⟨"BowlsWithin$Nests", "isLonger", "(II)Z"⟩, 11) := ⟨⟨by decide +kernel, by decide +kernel⟩, List.mem_of_getElem? (i := 136) (by decide +kernel), List.mem_of_getElem? (i := 532) (by decide +kernel), List.mem_of_getElem? (i := 533) (by decide +kernel)⟩
theorem lw_p15 : lw_okq (⟨"BowlsWithin$Nests", "isApart", "(I)Z"⟩, 11) := ⟨⟨by decide +kernel, by decide +kernel⟩, List.mem_of_getElem? (i := 136) (by decide +kernel), List.mem_of_getElem? (i := 565) (by decide +kernel), List.mem_of_getElem? (i := 566) (by decide +kernel)⟩
def lw_privs_1 : List (MethodName × Nat) := [(⟨"BowlsWithin", "bytesRefusal", "(I)I"⟩, 7), (⟨"BowlsWithin", "shelfRefusal", "(II)I"⟩, 7), (⟨"BowlsWithin$Shelf", "digitEnd", "(I)I"⟩, 6), (⟨"BowlsWithin$Shelf", "isDigit", "(I)Z"⟩, 6), (⟨"BowlsWithin$Shelf", "signEnd", "(II)I"⟩, 6), (⟨"BowlsWithin", "tellAll", "(LBowlsWithin$Shelf;)I"⟩, 7), (⟨"BowlsWithin$Heap", "tellBowl", "(LBowlsWithin$Shelf;I)Z"⟩, 9), (⟨"BowlsWithin$Heap", "place", "(IIIII)V"⟩, 9), (⟨"BowlsWithin", "bowlRefusal", "(I)I"⟩, 7), (⟨"BowlsWithin", "arePair", "(II)Z"⟩, 7), (⟨"BowlsWithin$Heap", "agree", "(II)Z"⟩, 9), (⟨"BowlsWithin", "areBowls", "(I)Z"⟩, 7), (⟨"BowlsWithin$Nests", "growBy", "(LBowlsWithin$Heap;I)V"⟩, 11), (⟨"BowlsWithin$Nests", "note", "(III)V"⟩, 11), (⟨"BowlsWithin$Nests", "isLonger", "(II)Z"⟩, 11), (⟨"BowlsWithin$Nests", "isApart", "(I)Z"⟩, 11)]
theorem lw_r1 : ∀ q ∈ lw_privs_1, lw_okq q := List.forall_mem_cons.mpr ⟨lw_p0, List.forall_mem_cons.mpr ⟨lw_p1, List.forall_mem_cons.mpr ⟨lw_p2, List.forall_mem_cons.mpr ⟨lw_p3, List.forall_mem_cons.mpr ⟨lw_p4, List.forall_mem_cons.mpr ⟨lw_p5, List.forall_mem_cons.mpr ⟨lw_p6, List.forall_mem_cons.mpr ⟨lw_p7, List.forall_mem_cons.mpr ⟨lw_p8, List.forall_mem_cons.mpr ⟨lw_p9, List.forall_mem_cons.mpr ⟨lw_p10, List.forall_mem_cons.mpr ⟨lw_p11, List.forall_mem_cons.mpr ⟨lw_p12, List.forall_mem_cons.mpr ⟨lw_p13, List.forall_mem_cons.mpr ⟨lw_p14, List.forall_mem_cons.mpr ⟨lw_p15, fun _ h => absurd h List.not_mem_nil⟩⟩⟩⟩⟩⟩⟩⟩⟩⟩⟩⟩⟩⟩⟩⟩
theorem lw_p16 : lw_okq (⟨"BowlsWithin", "isBridged", "(III)Z"⟩, 7) := ⟨⟨by decide +kernel, by decide +kernel⟩, List.mem_of_getElem? (i := 24) (by decide +kernel), List.mem_of_getElem? (i := 598) (by decide +kernel), List.mem_of_getElem? (i := 599) (by decide +kernel)⟩
theorem lw_p17 : lw_okq (⟨"BowlsWithin$Nests", "lengthenInward", "(I)V"⟩, 11) := ⟨⟨by decide +kernel, by decide +kernel⟩, List.mem_of_getElem? (i := 136) (by decide +kernel), List.mem_of_getElem? (i := 610) (by decide +kernel), List.mem_of_getElem? (i := 611) (by decide +kernel)⟩
theorem lw_p18 : lw_okq (⟨"BowlsWithin$Nests", "lengthenOutward", "(I)V"⟩, 11) := ⟨⟨by decide +kernel, by decide +kernel⟩, List.mem_of_getElem? (i := 136) (by decide +kernel), List.mem_of_getElem? (i := 615) (by decide +kernel), List.mem_of_getElem? (i := 616) (by decide +kernel)⟩
theorem lw_p19 : lw_okq (⟨"BowlsWithin", "firstMisplaced", "(LBowlsWithin$Shelf;)I"⟩, 7) := ⟨⟨by decide +kernel, by decide +kernel⟩, List.mem_of_getElem? (i := 24) (by decide +kernel), List.mem_of_getElem? (i := 627) (by decide +kernel), List.mem_of_getElem? (i := 628) (by decide +kernel)⟩
theorem lw_p20 : lw_okq (⟨"BowlsWithin", "rowRefusal", "(I)I"⟩, 7) := ⟨⟨by decide +kernel, by decide +kernel⟩, List.mem_of_getElem? (i := 24) (by decide +kernel), List.mem_of_getElem? (i := 636) (by decide +kernel), List.mem_of_getElem? (i := 637) (by decide +kernel)⟩
theorem lw_p21 : lw_okq (⟨"BowlsWithin", "pairsPerhaps", "(II)I"⟩, 7) := ⟨⟨by decide +kernel, by decide +kernel⟩, List.mem_of_getElem? (i := 24) (by decide +kernel), List.mem_of_getElem? (i := 653) (by decide +kernel), List.mem_of_getElem? (i := 654) (by decide +kernel)⟩
theorem lw_p22 : lw_okq (⟨"BowlsWithin", "brokenBy", "(II)I"⟩, 7) := ⟨⟨by decide +kernel, by decide +kernel⟩, List.mem_of_getElem? (i := 24) (by decide +kernel), List.mem_of_getElem? (i := 665) (by decide +kernel), List.mem_of_getElem? (i := 666) (by decide +kernel)⟩
theorem lw_p23 : lw_okq (⟨"java/lang/Throwable", "fillInStackTrace", "(I)Ljava/lang/Throwable;"⟩, 6) := ⟨⟨by decide +kernel, by decide +kernel⟩, List.mem_of_getElem? (i := 820) (by decide +kernel), List.mem_of_getElem? (i := 818) (by decide +kernel), List.mem_of_getElem? (i := 819) (by decide +kernel)⟩
theorem lw_p24 : lw_okq (⟨"BowlsWithinModel", "wrongRow", "(II)I"⟩, 20) := ⟨⟨by decide +kernel, by decide +kernel⟩, List.mem_of_getElem? (i := 905) (by decide +kernel), List.mem_of_getElem? (i := 980) (by decide +kernel), List.mem_of_getElem? (i := 981) (by decide +kernel)⟩
theorem lw_p25 : lw_okq (⟨"BowlsWithinModel", "readsStatement", "()Z"⟩, 20) := ⟨⟨by decide +kernel, by decide +kernel⟩, List.mem_of_getElem? (i := 905) (by decide +kernel), List.mem_of_getElem? (i := 991) (by decide +kernel), List.mem_of_getElem? (i := 992) (by decide +kernel)⟩
theorem lw_p26 : lw_okq (⟨"BowlsWithinModel", "here", "()I"⟩, 20) := ⟨⟨by decide +kernel, by decide +kernel⟩, List.mem_of_getElem? (i := 905) (by decide +kernel), List.mem_of_getElem? (i := 995) (by decide +kernel), List.mem_of_getElem? (i := 996) (by decide +kernel)⟩
theorem lw_p27 : lw_okq (⟨"BowlsWithinModel", "readsNumber", "(I)Z"⟩, 20) := ⟨⟨by decide +kernel, by decide +kernel⟩, List.mem_of_getElem? (i := 905) (by decide +kernel), List.mem_of_getElem? (i := 999) (by decide +kernel), List.mem_of_getElem? (i := 1000) (by decide +kernel)⟩
theorem lw_p28 : lw_okq (⟨"BowlsWithinModel", "isDigit", "()Z"⟩, 20) := ⟨⟨by decide +kernel, by decide +kernel⟩, List.mem_of_getElem? (i := 905) (by decide +kernel), List.mem_of_getElem? (i := 1003) (by decide +kernel), List.mem_of_getElem? (i := 1004) (by decide +kernel)⟩
theorem lw_p29 : lw_okq (⟨"BowlsWithinModel", "takes", "(I)Z"⟩, 20) := ⟨⟨by decide +kernel, by decide +kernel⟩, List.mem_of_getElem? (i := 905) (by decide +kernel), List.mem_of_getElem? (i := 1009) (by decide +kernel), List.mem_of_getElem? (i := 1010) (by decide +kernel)⟩
theorem lw_p30 : lw_okq (⟨"BowlsWithinModel", "comesTold", "(I)Z"⟩, 20) := ⟨⟨by decide +kernel, by decide +kernel⟩, List.mem_of_getElem? (i := 905) (by decide +kernel), List.mem_of_getElem? (i := 1016) (by decide +kernel), List.mem_of_getElem? (i := 1017) (by decide +kernel)⟩
theorem lw_p31 : lw_okq (⟨"BowlsWithinModel", "puts", "(III)V"⟩, 20) := ⟨⟨by decide +kernel, by decide +kernel⟩, List.mem_of_getElem? (i := 905) (by decide +kernel), List.mem_of_getElem? (i := 1020) (by decide +kernel), List.mem_of_getElem? (i := 1021) (by decide +kernel)⟩
def lw_privs_2 : List (MethodName × Nat) := [(⟨"BowlsWithin", "isBridged", "(III)Z"⟩, 7), (⟨"BowlsWithin$Nests", "lengthenInward", "(I)V"⟩, 11), (⟨"BowlsWithin$Nests", "lengthenOutward", "(I)V"⟩, 11), (⟨"BowlsWithin", "firstMisplaced", "(LBowlsWithin$Shelf;)I"⟩, 7), (⟨"BowlsWithin", "rowRefusal", "(I)I"⟩, 7), (⟨"BowlsWithin", "pairsPerhaps", "(II)I"⟩, 7), (⟨"BowlsWithin", "brokenBy", "(II)I"⟩, 7), (⟨"java/lang/Throwable", "fillInStackTrace", "(I)Ljava/lang/Throwable;"⟩, 6), (⟨"BowlsWithinModel", "wrongRow", "(II)I"⟩, 20), (⟨"BowlsWithinModel", "readsStatement", "()Z"⟩, 20), (⟨"BowlsWithinModel", "here", "()I"⟩, 20), (⟨"BowlsWithinModel", "readsNumber", "(I)Z"⟩, 20), (⟨"BowlsWithinModel", "isDigit", "()Z"⟩, 20), (⟨"BowlsWithinModel", "takes", "(I)Z"⟩, 20), (⟨"BowlsWithinModel", "comesTold", "(I)Z"⟩, 20), (⟨"BowlsWithinModel", "puts", "(III)V"⟩, 20)]
theorem lw_r2 : ∀ q ∈ lw_privs_2, lw_okq q := List.forall_mem_cons.mpr ⟨lw_p16, List.forall_mem_cons.mpr ⟨lw_p17, List.forall_mem_cons.mpr ⟨lw_p18, List.forall_mem_cons.mpr ⟨lw_p19, List.forall_mem_cons.mpr ⟨lw_p20, List.forall_mem_cons.mpr ⟨lw_p21, List.forall_mem_cons.mpr ⟨lw_p22, List.forall_mem_cons.mpr ⟨lw_p23, List.forall_mem_cons.mpr ⟨lw_p24, List.forall_mem_cons.mpr ⟨lw_p25, List.forall_mem_cons.mpr ⟨lw_p26, List.forall_mem_cons.mpr ⟨lw_p27, List.forall_mem_cons.mpr ⟨lw_p28, List.forall_mem_cons.mpr ⟨lw_p29, List.forall_mem_cons.mpr ⟨lw_p30, List.forall_mem_cons.mpr ⟨lw_p31, fun _ h => absurd h List.not_mem_nil⟩⟩⟩⟩⟩⟩⟩⟩⟩⟩⟩⟩⟩⟩⟩⟩
theorem lw_p32 : lw_okq (⟨"BowlsWithinModel", "isBowl", "(I)Z"⟩, 20) := ⟨⟨by decide +kernel, by decide +kernel⟩, List.mem_of_getElem? (i := 905) (by decide +kernel), List.mem_of_getElem? (i := 1024) (by decide +kernel), List.mem_of_getElem? (i := 1025) (by decide +kernel)⟩
theorem lw_p33 : lw_okq (⟨"BowlsWithinModel", "get", "(II)I"⟩, 20) := ⟨⟨by decide +kernel, by decide +kernel⟩, List.mem_of_getElem? (i := 905) (by decide +kernel), List.mem_of_getElem? (i := 1028) (by decide +kernel), List.mem_of_getElem? (i := 1029) (by decide +kernel)⟩
theorem lw_p34 : lw_okq (⟨"BowlsWithinModel", "outside", "(I)I"⟩, 20) := ⟨⟨by decide +kernel, by decide +kernel⟩, List.mem_of_getElem? (i := 905) (by decide +kernel), List.mem_of_getElem? (i := 1036) (by decide +kernel), List.mem_of_getElem? (i := 1037) (by decide +kernel)⟩
theorem lw_p35 : lw_okq (⟨"BowlsWithinModel", "outsideBy", "(II)I"⟩, 20) := ⟨⟨by decide +kernel, by decide +kernel⟩, List.mem_of_getElem? (i := 905) (by decide +kernel), List.mem_of_getElem? (i := 1040) (by decide +kernel), List.mem_of_getElem? (i := 1041) (by decide +kernel)⟩
theorem lw_p36 : lw_okq (⟨"BowlsWithinModel", "turned", "(I)I"⟩, 20) := ⟨⟨by decide +kernel, by decide +kernel⟩, List.mem_of_getElem? (i := 905) (by decide +kernel), List.mem_of_getElem? (i := 1044) (by decide +kernel), List.mem_of_getElem? (i := 1045) (by decide +kernel)⟩
theorem lw_p37 : lw_okq (⟨"BowlsWithinModel", "inside", "(I)I"⟩, 20) := ⟨⟨by decide +kernel, by decide +kernel⟩, List.mem_of_getElem? (i := 905) (by decide +kernel), List.mem_of_getElem? (i := 1048) (by decide +kernel), List.mem_of_getElem? (i := 1049) (by decide +kernel)⟩
theorem lw_p38 : lw_okq (⟨"BowlsWithinModel", "insideBy", "(III)I"⟩, 20) := ⟨⟨by decide +kernel, by decide +kernel⟩, List.mem_of_getElem? (i := 905) (by decide +kernel), List.mem_of_getElem? (i := 1052) (by decide +kernel), List.mem_of_getElem? (i := 1053) (by decide +kernel)⟩
theorem lw_p39 : lw_okq (⟨"BowlsWithinModel", "rise", "(I)I"⟩, 20) := ⟨⟨by decide +kernel, by decide +kernel⟩, List.mem_of_getElem? (i := 905) (by decide +kernel), List.mem_of_getElem? (i := 1056) (by decide +kernel), List.mem_of_getElem? (i := 1057) (by decide +kernel)⟩
theorem lw_p40 : lw_okq (⟨"BowlsWithinModel", "wrongKept", "(I)I"⟩, 20) := ⟨⟨by decide +kernel, by decide +kernel⟩, List.mem_of_getElem? (i := 905) (by decide +kernel), List.mem_of_getElem? (i := 1065) (by decide +kernel), List.mem_of_getElem? (i := 1066) (by decide +kernel)⟩
theorem lw_p41 : lw_okq (⟨"BowlsWithinModel", "adds", "(IIIII)V"⟩, 20) := ⟨⟨by decide +kernel, by decide +kernel⟩, List.mem_of_getElem? (i := 905) (by decide +kernel), List.mem_of_getElem? (i := 1069) (by decide +kernel), List.mem_of_getElem? (i := 1070) (by decide +kernel)⟩
theorem lw_p42 : lw_okq (⟨"BowlsWithinModel", "liesNow", "(II)Z"⟩, 20) := ⟨⟨by decide +kernel, by decide +kernel⟩, List.mem_of_getElem? (i := 905) (by decide +kernel), List.mem_of_getElem? (i := 1086) (by decide +kernel), List.mem_of_getElem? (i := 1087) (by decide +kernel)⟩
theorem lw_p43 : lw_okq (⟨"BowlsWithinModel", "liesAt", "(III)Z"⟩, 20) := ⟨⟨by decide +kernel, by decide +kernel⟩, List.mem_of_getElem? (i := 905) (by decide +kernel), List.mem_of_getElem? (i := 1090) (by decide +kernel), List.mem_of_getElem? (i := 1091) (by decide +kernel)⟩
theorem lw_p44 : lw_okq (⟨"BowlsWithinModel", "fitsBut", "(II)Z"⟩, 20) := ⟨⟨by decide +kernel, by decide +kernel⟩, List.mem_of_getElem? (i := 905) (by decide +kernel), List.mem_of_getElem? (i := 1094) (by decide +kernel), List.mem_of_getElem? (i := 1095) (by decide +kernel)⟩
theorem lw_p45 : lw_okq (⟨"BowlsWithinModel", "isOval", "(I)Z"⟩, 20) := ⟨⟨by decide +kernel, by decide +kernel⟩, List.mem_of_getElem? (i := 905) (by decide +kernel), List.mem_of_getElem? (i := 1098) (by decide +kernel), List.mem_of_getElem? (i := 1099) (by decide +kernel)⟩
theorem lw_p46 : lw_okq (⟨"BowlsWithinModel", "areBowls", "(I)Z"⟩, 20) := ⟨⟨by decide +kernel, by decide +kernel⟩, List.mem_of_getElem? (i := 905) (by decide +kernel), List.mem_of_getElem? (i := 1106) (by decide +kernel), List.mem_of_getElem? (i := 1107) (by decide +kernel)⟩
theorem lw_p47 : lw_okq (⟨"BowlsWithinModel", "everything", "()I"⟩, 20) := ⟨⟨by decide +kernel, by decide +kernel⟩, List.mem_of_getElem? (i := 905) (by decide +kernel), List.mem_of_getElem? (i := 1110) (by decide +kernel), List.mem_of_getElem? (i := 1111) (by decide +kernel)⟩
def lw_privs_3 : List (MethodName × Nat) := [(⟨"BowlsWithinModel", "isBowl", "(I)Z"⟩, 20), (⟨"BowlsWithinModel", "get", "(II)I"⟩, 20), (⟨"BowlsWithinModel", "outside", "(I)I"⟩, 20), (⟨"BowlsWithinModel", "outsideBy", "(II)I"⟩, 20), (⟨"BowlsWithinModel", "turned", "(I)I"⟩, 20), (⟨"BowlsWithinModel", "inside", "(I)I"⟩, 20), (⟨"BowlsWithinModel", "insideBy", "(III)I"⟩, 20), (⟨"BowlsWithinModel", "rise", "(I)I"⟩, 20), (⟨"BowlsWithinModel", "wrongKept", "(I)I"⟩, 20), (⟨"BowlsWithinModel", "adds", "(IIIII)V"⟩, 20), (⟨"BowlsWithinModel", "liesNow", "(II)Z"⟩, 20), (⟨"BowlsWithinModel", "liesAt", "(III)Z"⟩, 20), (⟨"BowlsWithinModel", "fitsBut", "(II)Z"⟩, 20), (⟨"BowlsWithinModel", "isOval", "(I)Z"⟩, 20), (⟨"BowlsWithinModel", "areBowls", "(I)Z"⟩, 20), (⟨"BowlsWithinModel", "everything", "()I"⟩, 20)]
theorem lw_r3 : ∀ q ∈ lw_privs_3, lw_okq q := List.forall_mem_cons.mpr ⟨lw_p32, List.forall_mem_cons.mpr ⟨lw_p33, List.forall_mem_cons.mpr ⟨lw_p34, List.forall_mem_cons.mpr ⟨lw_p35, List.forall_mem_cons.mpr ⟨lw_p36, List.forall_mem_cons.mpr ⟨lw_p37, List.forall_mem_cons.mpr ⟨lw_p38, List.forall_mem_cons.mpr ⟨lw_p39, List.forall_mem_cons.mpr ⟨lw_p40, List.forall_mem_cons.mpr ⟨lw_p41, List.forall_mem_cons.mpr ⟨lw_p42, List.forall_mem_cons.mpr ⟨lw_p43, List.forall_mem_cons.mpr ⟨lw_p44, List.forall_mem_cons.mpr ⟨lw_p45, List.forall_mem_cons.mpr ⟨lw_p46, List.forall_mem_cons.mpr ⟨lw_p47, fun _ h => absurd h List.not_mem_nil⟩⟩⟩⟩⟩⟩⟩⟩⟩⟩⟩⟩⟩⟩⟩⟩
theorem lw_p48 : lw_okq (⟨"BowlsWithinModel", "isNest", "(I)Z"⟩, 20) := ⟨⟨by decide +kernel, by decide +kernel⟩, List.mem_of_getElem? (i := 905) (by decide +kernel), List.mem_of_getElem? (i := 1114) (by decide +kernel), List.mem_of_getElem? (i := 1115) (by decide +kernel)⟩
theorem lw_p49 : lw_okq (⟨"BowlsWithinModel", "outermost", "(I)I"⟩, 20) := ⟨⟨by decide +kernel, by decide +kernel⟩, List.mem_of_getElem? (i := 905) (by decide +kernel), List.mem_of_getElem? (i := 1118) (by decide +kernel), List.mem_of_getElem? (i := 1119) (by decide +kernel)⟩
theorem lw_p50 : lw_okq (⟨"BowlsWithinModel", "heightOf", "(I)I"⟩, 20) := ⟨⟨by decide +kernel, by decide +kernel⟩, List.mem_of_getElem? (i := 905) (by decide +kernel), List.mem_of_getElem? (i := 1126) (by decide +kernel), List.mem_of_getElem? (i := 1127) (by decide +kernel)⟩
theorem lw_p51 : lw_okq (⟨"BowlsWithinModel", "longestOf", "(I)I"⟩, 20) := ⟨⟨by decide +kernel, by decide +kernel⟩, List.mem_of_getElem? (i := 905) (by decide +kernel), List.mem_of_getElem? (i := 1134) (by decide +kernel), List.mem_of_getElem? (i := 1135) (by decide +kernel)⟩
theorem lw_p52 : lw_okq (⟨"BowlsWithinModel", "leastOf", "(II)I"⟩, 20) := ⟨⟨by decide +kernel, by decide +kernel⟩, List.mem_of_getElem? (i := 905) (by decide +kernel), List.mem_of_getElem? (i := 1145) (by decide +kernel), List.mem_of_getElem? (i := 1146) (by decide +kernel)⟩
theorem lw_p53 : lw_okq (⟨"BowlsWithinModel", "counted", "(III)I"⟩, 20) := ⟨⟨by decide +kernel, by decide +kernel⟩, List.mem_of_getElem? (i := 905) (by decide +kernel), List.mem_of_getElem? (i := 1149) (by decide +kernel), List.mem_of_getElem? (i := 1150) (by decide +kernel)⟩
theorem lw_p54 : lw_okq (⟨"BowlsWithinModel", "areApart", "(I)Z"⟩, 20) := ⟨⟨by decide +kernel, by decide +kernel⟩, List.mem_of_getElem? (i := 905) (by decide +kernel), List.mem_of_getElem? (i := 1166) (by decide +kernel), List.mem_of_getElem? (i := 1167) (by decide +kernel)⟩
theorem lw_p55 : lw_okq (⟨"BowlsWithinModel", "wholeOf", "(II)I"⟩, 20) := ⟨⟨by decide +kernel, by decide +kernel⟩, List.mem_of_getElem? (i := 905) (by decide +kernel), List.mem_of_getElem? (i := 1174) (by decide +kernel), List.mem_of_getElem? (i := 1175) (by decide +kernel)⟩
theorem lw_p56 : lw_okq (⟨"BowlsWithinModel", "canBeBetween", "(II)Z"⟩, 20) := ⟨⟨by decide +kernel, by decide +kernel⟩, List.mem_of_getElem? (i := 905) (by decide +kernel), List.mem_of_getElem? (i := 1182) (by decide +kernel), List.mem_of_getElem? (i := 1183) (by decide +kernel)⟩
theorem lw_p57 : lw_okq (⟨"BowlsWithinModel", "longestRow", "(I)I"⟩, 20) := ⟨⟨by decide +kernel, by decide +kernel⟩, List.mem_of_getElem? (i := 905) (by decide +kernel), List.mem_of_getElem? (i := 1190) (by decide +kernel), List.mem_of_getElem? (i := 1191) (by decide +kernel)⟩
theorem lw_p58 : lw_okq (⟨"BowlsWithinModel", "wrongOut", "(I)I"⟩, 20) := ⟨⟨by decide +kernel, by decide +kernel⟩, List.mem_of_getElem? (i := 905) (by decide +kernel), List.mem_of_getElem? (i := 1198) (by decide +kernel), List.mem_of_getElem? (i := 1199) (by decide +kernel)⟩
theorem lw_p59 : lw_okq (⟨"BowlsWithinModel", "wrongAt", "(I)I"⟩, 20) := ⟨⟨by decide +kernel, by decide +kernel⟩, List.mem_of_getElem? (i := 905) (by decide +kernel), List.mem_of_getElem? (i := 1202) (by decide +kernel), List.mem_of_getElem? (i := 1203) (by decide +kernel)⟩
theorem lw_p60 : lw_okq (⟨"BowlsWithinModel", "spanOf", "(IIII)I"⟩, 20) := ⟨⟨by decide +kernel, by decide +kernel⟩, List.mem_of_getElem? (i := 905) (by decide +kernel), List.mem_of_getElem? (i := 1214) (by decide +kernel), List.mem_of_getElem? (i := 1215) (by decide +kernel)⟩
theorem lw_p61 : lw_okq (⟨"BowlsWithinModel", "perhaps", "(II)I"⟩, 20) := ⟨⟨by decide +kernel, by decide +kernel⟩, List.mem_of_getElem? (i := 905) (by decide +kernel), List.mem_of_getElem? (i := 1225) (by decide +kernel), List.mem_of_getElem? (i := 1226) (by decide +kernel)⟩
theorem lw_p62 : lw_okq (⟨"BowlsWithinModel", "drawn", "(I)I"⟩, 20) := ⟨⟨by decide +kernel, by decide +kernel⟩, List.mem_of_getElem? (i := 905) (by decide +kernel), List.mem_of_getElem? (i := 1238) (by decide +kernel), List.mem_of_getElem? (i := 1239) (by decide +kernel)⟩
def lw_privs_4 : List (MethodName × Nat) := [(⟨"BowlsWithinModel", "isNest", "(I)Z"⟩, 20), (⟨"BowlsWithinModel", "outermost", "(I)I"⟩, 20), (⟨"BowlsWithinModel", "heightOf", "(I)I"⟩, 20), (⟨"BowlsWithinModel", "longestOf", "(I)I"⟩, 20), (⟨"BowlsWithinModel", "leastOf", "(II)I"⟩, 20), (⟨"BowlsWithinModel", "counted", "(III)I"⟩, 20), (⟨"BowlsWithinModel", "areApart", "(I)Z"⟩, 20), (⟨"BowlsWithinModel", "wholeOf", "(II)I"⟩, 20), (⟨"BowlsWithinModel", "canBeBetween", "(II)Z"⟩, 20), (⟨"BowlsWithinModel", "longestRow", "(I)I"⟩, 20), (⟨"BowlsWithinModel", "wrongOut", "(I)I"⟩, 20), (⟨"BowlsWithinModel", "wrongAt", "(I)I"⟩, 20), (⟨"BowlsWithinModel", "spanOf", "(IIII)I"⟩, 20), (⟨"BowlsWithinModel", "perhaps", "(II)I"⟩, 20), (⟨"BowlsWithinModel", "drawn", "(I)I"⟩, 20)]
theorem lw_r4 : ∀ q ∈ lw_privs_4, lw_okq q := List.forall_mem_cons.mpr ⟨lw_p48, List.forall_mem_cons.mpr ⟨lw_p49, List.forall_mem_cons.mpr ⟨lw_p50, List.forall_mem_cons.mpr ⟨lw_p51, List.forall_mem_cons.mpr ⟨lw_p52, List.forall_mem_cons.mpr ⟨lw_p53, List.forall_mem_cons.mpr ⟨lw_p54, List.forall_mem_cons.mpr ⟨lw_p55, List.forall_mem_cons.mpr ⟨lw_p56, List.forall_mem_cons.mpr ⟨lw_p57, List.forall_mem_cons.mpr ⟨lw_p58, List.forall_mem_cons.mpr ⟨lw_p59, List.forall_mem_cons.mpr ⟨lw_p60, List.forall_mem_cons.mpr ⟨lw_p61, List.forall_mem_cons.mpr ⟨lw_p62, fun _ h => absurd h List.not_mem_nil⟩⟩⟩⟩⟩⟩⟩⟩⟩⟩⟩⟩⟩⟩⟩
def lw_privs : List (MethodName × Nat) := lw_privs_1 ++ (lw_privs_2 ++ (lw_privs_3 ++ (lw_privs_4)))
def lw_tbl : List Cond := k2_sels lw_privs ++ tables_1
theorem lw_privs_ok : ∀ q ∈ lw_privs, lw_okq q := by
  show ∀ q ∈ lw_privs_1 ++ (lw_privs_2 ++ (lw_privs_3 ++ (lw_privs_4))), lw_okq q
  exact List.forall_mem_append.mpr ⟨lw_r1, List.forall_mem_append.mpr ⟨lw_r2, List.forall_mem_append.mpr ⟨lw_r3, lw_r4⟩⟩⟩
end
section
/-! Names out of the printed text; zD: an instruction and the next place. -/
def zD (cc : ByteArray) (pc : Nat) (i : Instr) (len np : Nat) : Prop := decode cc pc = .ok (i, len) ∧ pc + len = np
def RX0 : String := "BowlsWithin$Bowl"
def TX0 : u_T := fun k => match k with
  | _ => ("", "", "", false)
def tyX0 : Nat → FieldType := fun k => match k with
  | _ => .int
abbrev wsX00 : List Cond := u_ws RX0 TX0 0
theorem nmX0 : ∀ a, a < 0 → ∀ b, b < 0 → a ≠ b → (TX0 a).2.1 ≠ (TX0 b).2.1 := by decide +kernel
theorem tyX0_ok : ∀ k, k < 0 → parseFieldDescriptor (TX0 k).2.2.1 = some (tyX0 k) := by decide +kernel
abbrev cX0_init : ByteArray := prog_2_method_1_code
def yX0_init : MethodName := ⟨RX0, "<init>", "()V"⟩
abbrev cX0_outside : ByteArray := prog_2_method_2_code
def yX0_outside : MethodName := ⟨RX0, "outside", "(III)I"⟩
abbrev cX0_inside : ByteArray := prog_2_method_3_code
def yX0_inside : MethodName := ⟨RX0, "inside", "(IIII)I"⟩
abbrev cX0_rise : ByteArray := prog_2_method_4_code
def yX0_rise : MethodName := ⟨RX0, "rise", "(I)I"⟩
abbrev cX0_cost : ByteArray := prog_2_method_5_code
def yX0_cost : MethodName := ⟨RX0, "cost", "(I)I"⟩
abbrev cX0_minds : ByteArray := prog_2_method_6_code
def yX0_minds : MethodName := ⟨RX0, "minds", "()Z"⟩
abbrev cX0_fail : ByteArray := prog_2_method_7_code
def yX0_fail : MethodName := ⟨RX0, "fail", "(I)V"⟩
def RX1 : String := "BowlsWithin$Deep"
def TX1 : u_T := fun k => match k with
  | _ => ("", "", "", false)
def tyX1 : Nat → FieldType := fun k => match k with
  | _ => .int
abbrev wsX10 : List Cond := u_ws RX1 TX1 0
theorem nmX1 : ∀ a, a < 0 → ∀ b, b < 0 → a ≠ b → (TX1 a).2.1 ≠ (TX1 b).2.1 := by decide +kernel
theorem tyX1_ok : ∀ k, k < 0 → parseFieldDescriptor (TX1 k).2.2.1 = some (tyX1 k) := by decide +kernel
abbrev cX1_init : ByteArray := prog_3_method_1_code
def yX1_init : MethodName := ⟨RX1, "<init>", "()V"⟩
abbrev cX1_rise : ByteArray := prog_3_method_2_code
def yX1_rise : MethodName := ⟨RX1, "rise", "(I)I"⟩
abbrev cX1_cost : ByteArray := prog_3_method_3_code
def yX1_cost : MethodName := ⟨RX1, "cost", "(I)I"⟩
def RX2 : String := "BowlsWithin$Flat"
def TX2 : u_T := fun k => match k with
  | _ => ("", "", "", false)
def tyX2 : Nat → FieldType := fun k => match k with
  | _ => .int
abbrev wsX20 : List Cond := u_ws RX2 TX2 0
theorem nmX2 : ∀ a, a < 0 → ∀ b, b < 0 → a ≠ b → (TX2 a).2.1 ≠ (TX2 b).2.1 := by decide +kernel
theorem tyX2_ok : ∀ k, k < 0 → parseFieldDescriptor (TX2 k).2.2.1 = some (tyX2 k) := by decide +kernel
abbrev cX2_init : ByteArray := prog_4_method_1_code
def yX2_init : MethodName := ⟨RX2, "<init>", "()V"⟩
abbrev cX2_rise : ByteArray := prog_4_method_2_code
def yX2_rise : MethodName := ⟨RX2, "rise", "(I)I"⟩
abbrev cX2_cost : ByteArray := prog_4_method_3_code
def yX2_cost : MethodName := ⟨RX2, "cost", "(I)I"⟩
abbrev cX2_fail : ByteArray := prog_4_method_4_code
def yX2_fail : MethodName := ⟨RX2, "fail", "(I)V"⟩
def RX3 : String := "BowlsWithin$Foot"
def TX3 : u_T := fun k => match k with
  | _ => ("", "", "", false)
def tyX3 : Nat → FieldType := fun k => match k with
  | _ => .int
abbrev wsX30 : List Cond := u_ws RX3 TX3 0
theorem nmX3 : ∀ a, a < 0 → ∀ b, b < 0 → a ≠ b → (TX3 a).2.1 ≠ (TX3 b).2.1 := by decide +kernel
theorem tyX3_ok : ∀ k, k < 0 → parseFieldDescriptor (TX3 k).2.2.1 = some (tyX3 k) := by decide +kernel
abbrev cX3_init : ByteArray := prog_5_method_1_code
def yX3_init : MethodName := ⟨RX3, "<init>", "()V"⟩
abbrev cX3_inside : ByteArray := prog_5_method_2_code
def yX3_inside : MethodName := ⟨RX3, "inside", "(IIII)I"⟩
abbrev cX3_rise : ByteArray := prog_5_method_3_code
def yX3_rise : MethodName := ⟨RX3, "rise", "(I)I"⟩
abbrev cX3_cost : ByteArray := prog_5_method_4_code
def yX3_cost : MethodName := ⟨RX3, "cost", "(I)I"⟩
def RX4 : String := "BowlsWithin$Glued"
def TX4 : u_T := fun k => match k with
  | _ => ("", "", "", false)
def tyX4 : Nat → FieldType := fun k => match k with
  | _ => .int
abbrev wsX40 : List Cond := u_ws RX4 TX4 0
theorem nmX4 : ∀ a, a < 0 → ∀ b, b < 0 → a ≠ b → (TX4 a).2.1 ≠ (TX4 b).2.1 := by decide +kernel
theorem tyX4_ok : ∀ k, k < 0 → parseFieldDescriptor (TX4 k).2.2.1 = some (tyX4 k) := by decide +kernel
abbrev cX4_init : ByteArray := prog_6_method_1_code
def yX4_init : MethodName := ⟨RX4, "<init>", "()V"⟩
abbrev cX4_outside : ByteArray := prog_6_method_2_code
def yX4_outside : MethodName := ⟨RX4, "outside", "(III)I"⟩
abbrev cX4_inside : ByteArray := prog_6_method_3_code
def yX4_inside : MethodName := ⟨RX4, "inside", "(IIII)I"⟩
abbrev cX4_cost : ByteArray := prog_6_method_4_code
def yX4_cost : MethodName := ⟨RX4, "cost", "(I)I"⟩
abbrev cX4_fail : ByteArray := prog_6_method_5_code
def yX4_fail : MethodName := ⟨RX4, "fail", "(I)V"⟩
def RX5 : String := "BowlsWithin$Heap"
def TX5 : u_T := fun k => match k with
  | 0 => ("BowlsWithin$Heap", "kinds", "[LBowlsWithin$Bowl;", true)
  | 1 => ("BowlsWithin$Heap", "kind", "[I", true)
  | 2 => ("BowlsWithin$Heap", "figure", "[I", true)
  | 3 => ("BowlsWithin$Heap", "turned", "[I", true)
  | 4 => ("BowlsWithin$Heap", "width", "[I", true)
  | 5 => ("BowlsWithin$Heap", "depth", "[I", true)
  | 6 => ("BowlsWithin$Heap", "order", "[I", true)
  | 7 => ("BowlsWithin$Heap", "count", "I", false)
  | _ => ("BowlsWithin$Heap", "warmth", "I", false)
def tyX5 : Nat → FieldType := fun k => match k with
  | 0 => .array (.object "BowlsWithin$Bowl")
  | 1 => .array .int
  | 2 => .array .int
  | 3 => .array .int
  | 4 => .array .int
  | 5 => .array .int
  | 6 => .array .int
  | 7 => .int
  | _ => .int
abbrev wsX50 : List Cond := u_ws RX5 TX5 9
theorem nmX5 : ∀ a, a < 9 → ∀ b, b < 9 → a ≠ b → (TX5 a).2.1 ≠ (TX5 b).2.1 := by decide +kernel
theorem tyX5_ok : ∀ k, k < 9 → parseFieldDescriptor (TX5 k).2.2.1 = some (tyX5 k) := by decide +kernel
abbrev cX5_init : ByteArray := prog_7_method_1_code
def yX5_init : MethodName := ⟨RX5, "<init>", "([LBowlsWithin$Bowl;)V"⟩
abbrev cX5_become : ByteArray := prog_7_method_2_code
def yX5_become : MethodName := ⟨RX5, "become", "(LBowlsWithin$Heap;)V"⟩
abbrev cX5_has : ByteArray := prog_7_method_3_code
def yX5_has : MethodName := ⟨RX5, "has", "(I)Z"⟩
abbrev cX5_all : ByteArray := prog_7_method_4_code
def yX5_all : MethodName := ⟨RX5, "all", "()I"⟩
abbrev cX5_add : ByteArray := prog_7_method_5_code
def yX5_add : MethodName := ⟨RX5, "add", "(IIIII)Z"⟩
abbrev cX5_think : ByteArray := prog_7_method_6_code
def yX5_think : MethodName := ⟨RX5, "think", "(II)I"⟩
abbrev cX5_place : ByteArray := prog_7_method_7_code
def yX5_place : MethodName := ⟨RX5, "place", "(IIIII)V"⟩
abbrev cX5_dropLatest : ByteArray := prog_7_method_8_code
def yX5_dropLatest : MethodName := ⟨RX5, "dropLatest", "()Z"⟩
abbrev cX5_flip : ByteArray := prog_7_method_9_code
def yX5_flip : MethodName := ⟨RX5, "flip", "(I)Z"⟩
abbrev cX5_tell : ByteArray := prog_7_method_10_code
def yX5_tell : MethodName := ⟨RX5, "tell", "(LBowlsWithin$Shelf;I)Z"⟩
abbrev cX5_tellBowl : ByteArray := prog_7_method_11_code
def yX5_tellBowl : MethodName := ⟨RX5, "tellBowl", "(LBowlsWithin$Shelf;I)Z"⟩
abbrev cX5_outsideAt : ByteArray := prog_7_method_12_code
def yX5_outsideAt : MethodName := ⟨RX5, "outsideAt", "(II)I"⟩
abbrev cX5_insideAt : ByteArray := prog_7_method_13_code
def yX5_insideAt : MethodName := ⟨RX5, "insideAt", "(III)I"⟩
abbrev cX5_riseOf : ByteArray := prog_7_method_14_code
def yX5_riseOf : MethodName := ⟨RX5, "riseOf", "(I)I"⟩
abbrev cX5_isIn : ByteArray := prog_7_method_15_code
def yX5_isIn : MethodName := ⟨RX5, "isIn", "(III)Z"⟩
abbrev cX5_agree : ByteArray := prog_7_method_16_code
def yX5_agree : MethodName := ⟨RX5, "agree", "(II)Z"⟩
abbrev cX5_spanned : ByteArray := prog_7_method_17_code
def yX5_spanned : MethodName := ⟨RX5, "spanned", "(IIII)I"⟩
abbrev cX5_arrange : ByteArray := prog_7_method_18_code
def yX5_arrange : MethodName := ⟨RX5, "arrange", "()V"⟩
abbrev cX5_heightOf : ByteArray := prog_7_method_19_code
def yX5_heightOf : MethodName := ⟨RX5, "heightOf", "(I)I"⟩
abbrev cX5_pairsIn : ByteArray := prog_7_method_20_code
def yX5_pairsIn : MethodName := ⟨RX5, "pairsIn", "()I"⟩
abbrev cX5_allDepths : ByteArray := prog_7_method_21_code
def yX5_allDepths : MethodName := ⟨RX5, "allDepths", "()I"⟩
def RX6 : String := "BowlsWithin$Lid"
def TX6 : u_T := fun k => match k with
  | _ => ("", "", "", false)
def tyX6 : Nat → FieldType := fun k => match k with
  | _ => .int
abbrev wsX60 : List Cond := u_ws RX6 TX6 0
theorem nmX6 : ∀ a, a < 0 → ∀ b, b < 0 → a ≠ b → (TX6 a).2.1 ≠ (TX6 b).2.1 := by decide +kernel
theorem tyX6_ok : ∀ k, k < 0 → parseFieldDescriptor (TX6 k).2.2.1 = some (tyX6 k) := by decide +kernel
abbrev cX6_init : ByteArray := prog_8_method_1_code
def yX6_init : MethodName := ⟨RX6, "<init>", "()V"⟩
abbrev cX6_outside : ByteArray := prog_8_method_2_code
def yX6_outside : MethodName := ⟨RX6, "outside", "(III)I"⟩
abbrev cX6_inside : ByteArray := prog_8_method_3_code
def yX6_inside : MethodName := ⟨RX6, "inside", "(IIII)I"⟩
abbrev cX6_rise : ByteArray := prog_8_method_4_code
def yX6_rise : MethodName := ⟨RX6, "rise", "(I)I"⟩
abbrev cX6_cost : ByteArray := prog_8_method_5_code
def yX6_cost : MethodName := ⟨RX6, "cost", "(I)I"⟩
def RX7 : String := "BowlsWithin$Nests"
def TX7 : u_T := fun k => match k with
  | 0 => ("BowlsWithin$Nests", "heights", "[I", true)
  | 1 => ("BowlsWithin$Nests", "innermost", "[I", true)
  | 2 => ("BowlsWithin$Nests", "found", "[I", true)
  | 3 => ("BowlsWithin$Nests", "costs", "[I", true)
  | 4 => ("BowlsWithin$Nests", "least", "[I", true)
  | 5 => ("BowlsWithin$Nests", "around", "[I", true)
  | 6 => ("BowlsWithin$Nests", "longestInward", "[I", true)
  | 7 => ("BowlsWithin$Nests", "longestOutward", "[I", true)
  | 8 => ("BowlsWithin$Nests", "foundCount", "I", false)
  | 9 => ("BowlsWithin$Nests", "bowls", "I", false)
  | _ => ("BowlsWithin$Nests", "all", "I", false)
def tyX7 : Nat → FieldType := fun k => match k with
  | 0 => .array .int
  | 1 => .array .int
  | 2 => .array .int
  | 3 => .array .int
  | 4 => .array .int
  | 5 => .array .int
  | 6 => .array .int
  | 7 => .array .int
  | 8 => .int
  | 9 => .int
  | _ => .int
abbrev wsX70 : List Cond := u_ws RX7 TX7 11
theorem nmX7 : ∀ a, a < 11 → ∀ b, b < 11 → a ≠ b → (TX7 a).2.1 ≠ (TX7 b).2.1 := by decide +kernel
theorem tyX7_ok : ∀ k, k < 11 → parseFieldDescriptor (TX7 k).2.2.1 = some (tyX7 k) := by decide +kernel
abbrev cX7_init : ByteArray := prog_9_method_1_code
def yX7_init : MethodName := ⟨RX7, "<init>", "()V"⟩
abbrev cX7_findAll : ByteArray := prog_9_method_2_code
def yX7_findAll : MethodName := ⟨RX7, "findAll", "(LBowlsWithin$Heap;)V"⟩
abbrev cX7_growBy : ByteArray := prog_9_method_3_code
def yX7_growBy : MethodName := ⟨RX7, "growBy", "(LBowlsWithin$Heap;I)V"⟩
abbrev cX7_note : ByteArray := prog_9_method_4_code
def yX7_note : MethodName := ⟨RX7, "note", "(III)V"⟩
abbrev cX7_longestOf : ByteArray := prog_9_method_5_code
def yX7_longestOf : MethodName := ⟨RX7, "longestOf", "(I)I"⟩
abbrev cX7_isLonger : ByteArray := prog_9_method_6_code
def yX7_isLonger : MethodName := ⟨RX7, "isLonger", "(II)Z"⟩
abbrev cX7_mostApart : ByteArray := prog_9_method_7_code
def yX7_mostApart : MethodName := ⟨RX7, "mostApart", "()I"⟩
abbrev cX7_isApart : ByteArray := prog_9_method_8_code
def yX7_isApart : MethodName := ⟨RX7, "isApart", "(I)Z"⟩
abbrev cX7_costOneEach : ByteArray := prog_9_method_9_code
def yX7_costOneEach : MethodName := ⟨RX7, "costOneEach", "(I)V"⟩
abbrev cX7_costHeights : ByteArray := prog_9_method_10_code
def yX7_costHeights : MethodName := ⟨RX7, "costHeights", "()V"⟩
abbrev cX7_costLessForSetsOf : ByteArray := prog_9_method_11_code
def yX7_costLessForSetsOf : MethodName := ⟨RX7, "costLessForSetsOf", "(I)V"⟩
abbrev cX7_leastSum : ByteArray := prog_9_method_12_code
def yX7_leastSum : MethodName := ⟨RX7, "leastSum", "()I"⟩
abbrev cX7_findChains : ByteArray := prog_9_method_13_code
def yX7_findChains : MethodName := ⟨RX7, "findChains", "(LBowlsWithin$Heap;)V"⟩
abbrev cX7_lengthenInward : ByteArray := prog_9_method_14_code
def yX7_lengthenInward : MethodName := ⟨RX7, "lengthenInward", "(I)V"⟩
abbrev cX7_lengthenOutward : ByteArray := prog_9_method_15_code
def yX7_lengthenOutward : MethodName := ⟨RX7, "lengthenOutward", "(I)V"⟩
abbrev cX7_longestWith : ByteArray := prog_9_method_16_code
def yX7_longestWith : MethodName := ⟨RX7, "longestWith", "(LBowlsWithin$Heap;I)I"⟩
def RX8 : String := "BowlsWithin$Oval"
def TX8 : u_T := fun k => match k with
  | _ => ("", "", "", false)
def tyX8 : Nat → FieldType := fun k => match k with
  | _ => .int
abbrev wsX80 : List Cond := u_ws RX8 TX8 0
theorem nmX8 : ∀ a, a < 0 → ∀ b, b < 0 → a ≠ b → (TX8 a).2.1 ≠ (TX8 b).2.1 := by decide +kernel
theorem tyX8_ok : ∀ k, k < 0 → parseFieldDescriptor (TX8 k).2.2.1 = some (tyX8 k) := by decide +kernel
abbrev cX8_init : ByteArray := prog_10_method_1_code
def yX8_init : MethodName := ⟨RX8, "<init>", "()V"⟩
abbrev cX8_outside : ByteArray := prog_10_method_2_code
def yX8_outside : MethodName := ⟨RX8, "outside", "(III)I"⟩
abbrev cX8_inside : ByteArray := prog_10_method_3_code
def yX8_inside : MethodName := ⟨RX8, "inside", "(IIII)I"⟩
abbrev cX8_cost : ByteArray := prog_10_method_4_code
def yX8_cost : MethodName := ⟨RX8, "cost", "(I)I"⟩
abbrev cX8_minds : ByteArray := prog_10_method_5_code
def yX8_minds : MethodName := ⟨RX8, "minds", "()Z"⟩
def RX9 : String := "BowlsWithin$Second"
def TX9 : u_T := fun k => match k with
  | _ => ("", "", "", false)
def tyX9 : Nat → FieldType := fun k => match k with
  | _ => .int
abbrev wsX90 : List Cond := u_ws RX9 TX9 0
theorem nmX9 : ∀ a, a < 0 → ∀ b, b < 0 → a ≠ b → (TX9 a).2.1 ≠ (TX9 b).2.1 := by decide +kernel
theorem tyX9_ok : ∀ k, k < 0 → parseFieldDescriptor (TX9 k).2.2.1 = some (tyX9 k) := by decide +kernel
abbrev cX9_init : ByteArray := prog_11_method_1_code
def yX9_init : MethodName := ⟨RX9, "<init>", "()V"⟩
abbrev cX9_outside : ByteArray := prog_11_method_2_code
def yX9_outside : MethodName := ⟨RX9, "outside", "(III)I"⟩
abbrev cX9_cost : ByteArray := prog_11_method_3_code
def yX9_cost : MethodName := ⟨RX9, "cost", "(I)I"⟩
abbrev cX9_fail : ByteArray := prog_11_method_4_code
def yX9_fail : MethodName := ⟨RX9, "fail", "(I)V"⟩
def RX10 : String := "BowlsWithin$Shelf"
def TX10 : u_T := fun k => match k with
  | 0 => ("BowlsWithin$Shelf", "elements", "[I", true)
  | 1 => ("BowlsWithin$Shelf", "holds", "I", false)
  | 2 => ("BowlsWithin$Shelf", "kind", "I", false)
  | 3 => ("BowlsWithin$Shelf", "figure", "I", false)
  | 4 => ("BowlsWithin$Shelf", "sort", "I", false)
  | _ => ("BowlsWithin$Shelf", "size", "I", false)
def tyX10 : Nat → FieldType := fun k => match k with
  | 0 => .array .int
  | 1 => .int
  | 2 => .int
  | 3 => .int
  | 4 => .int
  | _ => .int
abbrev wsX100 : List Cond := u_ws RX10 TX10 6
theorem nmX10 : ∀ a, a < 6 → ∀ b, b < 6 → a ≠ b → (TX10 a).2.1 ≠ (TX10 b).2.1 := by decide +kernel
theorem tyX10_ok : ∀ k, k < 6 → parseFieldDescriptor (TX10 k).2.2.1 = some (tyX10 k) := by decide +kernel
abbrev cX10_init : ByteArray := prog_12_method_1_code
def yX10_init : MethodName := ⟨RX10, "<init>", "()V"⟩
abbrev cX10_clear : ByteArray := prog_12_method_2_code
def yX10_clear : MethodName := ⟨RX10, "clear", "()V"⟩
abbrev cX10_holdBowl : ByteArray := prog_12_method_3_code
def yX10_holdBowl : MethodName := ⟨RX10, "holdBowl", "(II)V"⟩
abbrev cX10_holdRow : ByteArray := prog_12_method_4_code
def yX10_holdRow : MethodName := ⟨RX10, "holdRow", "(II)V"⟩
abbrev cX10_hasPlace : ByteArray := prog_12_method_5_code
def yX10_hasPlace : MethodName := ⟨RX10, "hasPlace", "(I)Z"⟩
abbrev cX10_hasStretch : ByteArray := prog_12_method_6_code
def yX10_hasStretch : MethodName := ⟨RX10, "hasStretch", "(II)Z"⟩
abbrev cX10_set : ByteArray := prog_12_method_7_code
def yX10_set : MethodName := ⟨RX10, "set", "(II)V"⟩
abbrev cX10_at : ByteArray := prog_12_method_8_code
def yX10_at : MethodName := ⟨RX10, "at", "(I)I"⟩
abbrev cX10_digitAt : ByteArray := prog_12_method_9_code
def yX10_digitAt : MethodName := ⟨RX10, "digitAt", "(I)I"⟩
abbrev cX10_isDigit : ByteArray := prog_12_method_10_code
def yX10_isDigit : MethodName := ⟨RX10, "isDigit", "(I)Z"⟩
abbrev cX10_faultOfForm : ByteArray := prog_12_method_11_code
def yX10_faultOfForm : MethodName := ⟨RX10, "faultOfForm", "()I"⟩
abbrev cX10_statementEnd : ByteArray := prog_12_method_12_code
def yX10_statementEnd : MethodName := ⟨RX10, "statementEnd", "(I)I"⟩
abbrev cX10_signEnd : ByteArray := prog_12_method_13_code
def yX10_signEnd : MethodName := ⟨RX10, "signEnd", "(II)I"⟩
abbrev cX10_digitEnd : ByteArray := prog_12_method_14_code
def yX10_digitEnd : MethodName := ⟨RX10, "digitEnd", "(I)I"⟩
abbrev cX10_numberEnd : ByteArray := prog_12_method_15_code
def yX10_numberEnd : MethodName := ⟨RX10, "numberEnd", "(I)I"⟩
abbrev cX10_numberAt : ByteArray := prog_12_method_16_code
def yX10_numberAt : MethodName := ⟨RX10, "numberAt", "(I)I"⟩
def RX11 : String := "BowlsWithin"
def TX11 : u_T := fun k => match k with
  | 0 => ("BowlsWithin", "kinds", "[LBowlsWithin$Bowl;", true)
  | 1 => ("BowlsWithin", "now", "LBowlsWithin$Heap;", true)
  | 2 => ("BowlsWithin", "trial", "LBowlsWithin$Heap;", true)
  | 3 => ("BowlsWithin", "imaged", "LBowlsWithin$Heap;", true)
  | 4 => ("BowlsWithin", "nests", "LBowlsWithin$Nests;", true)
  | 5 => ("BowlsWithin", "shelves", "[LBowlsWithin$Shelf;", true)
  | _ => ("BowlsWithin", "hasImage", "Z", false)
def tyX11 : Nat → FieldType := fun k => match k with
  | 0 => .array (.object "BowlsWithin$Bowl")
  | 1 => .object "BowlsWithin$Heap"
  | 2 => .object "BowlsWithin$Heap"
  | 3 => .object "BowlsWithin$Heap"
  | 4 => .object "BowlsWithin$Nests"
  | 5 => .array (.object "BowlsWithin$Shelf")
  | _ => .boolean
abbrev wsX110 : List Cond := u_ws RX11 TX11 7
theorem nmX11 : ∀ a, a < 7 → ∀ b, b < 7 → a ≠ b → (TX11 a).2.1 ≠ (TX11 b).2.1 := by decide +kernel
theorem tyX11_ok : ∀ k, k < 7 → parseFieldDescriptor (TX11 k).2.2.1 = some (tyX11 k) := by decide +kernel
abbrev cX11_init : ByteArray := prog_1_method_1_code
def yX11_init : MethodName := ⟨RX11, "<init>", "()V"⟩
abbrev cX11_heap : ByteArray := prog_1_method_2_code
def yX11_heap : MethodName := ⟨RX11, "heap", "(I)I"⟩
abbrev cX11_bowl : ByteArray := prog_1_method_3_code
def yX11_bowl : MethodName := ⟨RX11, "bowl", "(II)I"⟩
abbrev cX11_comes : ByteArray := prog_1_method_4_code
def yX11_comes : MethodName := ⟨RX11, "comes", "(IIII)I"⟩
abbrev cX11_warm : ByteArray := prog_1_method_5_code
def yX11_warm : MethodName := ⟨RX11, "warm", "(I)I"⟩
abbrev cX11_turn : ByteArray := prog_1_method_6_code
def yX11_turn : MethodName := ⟨RX11, "turn", "(I)I"⟩
abbrev cX11_lies : ByteArray := prog_1_method_7_code
def yX11_lies : MethodName := ⟨RX11, "lies", "(II)I"⟩
abbrev cX11_nest : ByteArray := prog_1_method_8_code
def yX11_nest : MethodName := ⟨RX11, "nest", "(I)I"⟩
abbrev cX11_height : ByteArray := prog_1_method_9_code
def yX11_height : MethodName := ⟨RX11, "height", "(I)I"⟩
abbrev cX11_longest : ByteArray := prog_1_method_10_code
def yX11_longest : MethodName := ⟨RX11, "longest", "(II)I"⟩
abbrev cX11_fewest : ByteArray := prog_1_method_11_code
def yX11_fewest : MethodName := ⟨RX11, "fewest", "()I"⟩
abbrev cX11_apart : ByteArray := prog_1_method_12_code
def yX11_apart : MethodName := ⟨RX11, "apart", "(I)I"⟩
abbrev cX11_carry : ByteArray := prog_1_method_13_code
def yX11_carry : MethodName := ⟨RX11, "carry", "()I"⟩
abbrev cX11_load : ByteArray := prog_1_method_14_code
def yX11_load : MethodName := ⟨RX11, "load", "(I)I"⟩
abbrev cX11_whole : ByteArray := prog_1_method_15_code
def yX11_whole : MethodName := ⟨RX11, "whole", "(I)I"⟩
abbrev cX11_throwsNew : ByteArray := prog_1_method_16_code
def yX11_throwsNew : MethodName := ⟨RX11, "throwsNew", "()I"⟩
abbrev cX11_helps : ByteArray := prog_1_method_17_code
def yX11_helps : MethodName := ⟨RX11, "helps", "(II)I"⟩
abbrev cX11_out : ByteArray := prog_1_method_18_code
def yX11_out : MethodName := ⟨RX11, "out", "(II)I"⟩
abbrev cX11_judge : ByteArray := prog_1_method_19_code
def yX11_judge : MethodName := ⟨RX11, "judge", "(I)I"⟩
abbrev cX11_spans : ByteArray := prog_1_method_20_code
def yX11_spans : MethodName := ⟨RX11, "spans", "(III)I"⟩
abbrev cX11_next : ByteArray := prog_1_method_21_code
def yX11_next : MethodName := ⟨RX11, "next", "(II)I"⟩
abbrev cX11_from : ByteArray := prog_1_method_22_code
def yX11_from : MethodName := ⟨RX11, "from", "(IIII)I"⟩
abbrev cX11_breaks : ByteArray := prog_1_method_23_code
def yX11_breaks : MethodName := ⟨RX11, "breaks", "(III)I"⟩
abbrev cX11_image : ByteArray := prog_1_method_24_code
def yX11_image : MethodName := ⟨RX11, "image", "()I"⟩
abbrev cX11_restore : ByteArray := prog_1_method_25_code
def yX11_restore : MethodName := ⟨RX11, "restore", "()I"⟩
abbrev cX11_count : ByteArray := prog_1_method_26_code
def yX11_count : MethodName := ⟨RX11, "count", "(I)I"⟩
abbrev cX11_keep : ByteArray := prog_1_method_27_code
def yX11_keep : MethodName := ⟨RX11, "keep", "(IIII)I"⟩
abbrev cX11_row : ByteArray := prog_1_method_28_code
def yX11_row : MethodName := ⟨RX11, "row", "(III)I"⟩
abbrev cX11_put : ByteArray := prog_1_method_29_code
def yX11_put : MethodName := ⟨RX11, "put", "(III)I"⟩
abbrev cX11_element : ByteArray := prog_1_method_30_code
def yX11_element : MethodName := ⟨RX11, "element", "(II)J"⟩
abbrev cX11_copy : ByteArray := prog_1_method_31_code
def yX11_copy : MethodName := ⟨RX11, "copy", "(IIIII)I"⟩
abbrev cX11_price : ByteArray := prog_1_method_32_code
def yX11_price : MethodName := ⟨RX11, "price", "(I)I"⟩
abbrev cX11_toss : ByteArray := prog_1_method_33_code
def yX11_toss : MethodName := ⟨RX11, "toss", "(I)I"⟩
abbrev cX11_isWithin : ByteArray := prog_1_method_34_code
def yX11_isWithin : MethodName := ⟨RX11, "isWithin", "(III)Z"⟩
abbrev cX11_isShelf : ByteArray := prog_1_method_35_code
def yX11_isShelf : MethodName := ⟨RX11, "isShelf", "(I)Z"⟩
abbrev cX11_areHairs : ByteArray := prog_1_method_36_code
def yX11_areHairs : MethodName := ⟨RX11, "areHairs", "(I)Z"⟩
abbrev cX11_isWarmth : ByteArray := prog_1_method_37_code
def yX11_isWarmth : MethodName := ⟨RX11, "isWarmth", "(I)Z"⟩
abbrev cX11_areBowls : ByteArray := prog_1_method_38_code
def yX11_areBowls : MethodName := ⟨RX11, "areBowls", "(I)Z"⟩
abbrev cX11_arePair : ByteArray := prog_1_method_39_code
def yX11_arePair : MethodName := ⟨RX11, "arePair", "(II)Z"⟩
abbrev cX11_rowRefusal : ByteArray := prog_1_method_40_code
def yX11_rowRefusal : MethodName := ⟨RX11, "rowRefusal", "(I)I"⟩
abbrev cX11_bytesRefusal : ByteArray := prog_1_method_41_code
def yX11_bytesRefusal : MethodName := ⟨RX11, "bytesRefusal", "(I)I"⟩
abbrev cX11_bowlRefusal : ByteArray := prog_1_method_42_code
def yX11_bowlRefusal : MethodName := ⟨RX11, "bowlRefusal", "(I)I"⟩
abbrev cX11_shelfRefusal : ByteArray := prog_1_method_43_code
def yX11_shelfRefusal : MethodName := ⟨RX11, "shelfRefusal", "(II)I"⟩
abbrev cX11_tellAll : ByteArray := prog_1_method_44_code
def yX11_tellAll : MethodName := ⟨RX11, "tellAll", "(LBowlsWithin$Shelf;)I"⟩
abbrev cX11_firstMisplaced : ByteArray := prog_1_method_45_code
def yX11_firstMisplaced : MethodName := ⟨RX11, "firstMisplaced", "(LBowlsWithin$Shelf;)I"⟩
abbrev cX11_isBridged : ByteArray := prog_1_method_46_code
def yX11_isBridged : MethodName := ⟨RX11, "isBridged", "(III)Z"⟩
abbrev cX11_pairsPerhaps : ByteArray := prog_1_method_47_code
def yX11_pairsPerhaps : MethodName := ⟨RX11, "pairsPerhaps", "(II)I"⟩
abbrev cX11_brokenBy : ByteArray := prog_1_method_48_code
def yX11_brokenBy : MethodName := ⟨RX11, "brokenBy", "(II)I"⟩
def RX12 : String := "BowlsWithinModel"
def TX12 : u_T := fun k => match k with
  | 0 => ("BowlsWithinModel", "s", "[I", true)
  | 1 => ("BowlsWithinModel", "image", "[I", true)
  | 2 => ("BowlsWithinModel", "read", "[I", true)
  | 3 => ("BowlsWithinModel", "kept", "[I", true)
  | 4 => ("BowlsWithinModel", "sort", "[I", true)
  | 5 => ("BowlsWithinModel", "size", "[I", true)
  | 6 => ("BowlsWithinModel", "element", "[I", true)
  | 7 => ("BowlsWithinModel", "keptKind", "[I", true)
  | 8 => ("BowlsWithinModel", "keptFigure", "[I", true)
  | 9 => ("BowlsWithinModel", "hasImage", "Z", false)
  | 10 => ("BowlsWithinModel", "thrown", "I", false)
  | 11 => ("BowlsWithinModel", "pos", "I", false)
  | 12 => ("BowlsWithinModel", "base", "I", false)
  | 13 => ("BowlsWithinModel", "end", "I", false)
  | 14 => ("BowlsWithinModel", "told", "I", false)
  | 15 => ("BowlsWithinModel", "numbers", "[I", true)
  | 16 => ("BowlsWithinModel", "least", "[I", true)
  | 17 => ("BowlsWithinModel", "counts", "[I", true)
  | 18 => ("BowlsWithinModel", "row", "[I", true)
  | _ => ("BowlsWithinModel", "seed", "I", false)
def tyX12 : Nat → FieldType := fun k => match k with
  | 0 => .array .int
  | 1 => .array .int
  | 2 => .array .int
  | 3 => .array .int
  | 4 => .array .int
  | 5 => .array .int
  | 6 => .array .int
  | 7 => .array .int
  | 8 => .array .int
  | 9 => .boolean
  | 10 => .int
  | 11 => .int
  | 12 => .int
  | 13 => .int
  | 14 => .int
  | 15 => .array .int
  | 16 => .array .int
  | 17 => .array .int
  | 18 => .array .int
  | _ => .int
abbrev wsX120 : List Cond := u_ws RX12 TX12 20
theorem nmX12 : ∀ a, a < 20 → ∀ b, b < 20 → a ≠ b → (TX12 a).2.1 ≠ (TX12 b).2.1 := by decide +kernel
theorem tyX12_ok : ∀ k, k < 20 → parseFieldDescriptor (TX12 k).2.2.1 = some (tyX12 k) := by decide +kernel
abbrev cX12_init : ByteArray := prog_14_method_1_code
def yX12_init : MethodName := ⟨RX12, "<init>", "()V"⟩
abbrev cX12_thrown : ByteArray := prog_14_method_2_code
def yX12_thrown : MethodName := ⟨RX12, "thrown", "()I"⟩
abbrev cX12_isIn : ByteArray := prog_14_method_3_code
def yX12_isIn : MethodName := ⟨RX12, "isIn", "(JJJ)Z"⟩
abbrev cX12_isShelf : ByteArray := prog_14_method_4_code
def yX12_isShelf : MethodName := ⟨RX12, "isShelf", "(I)Z"⟩
abbrev cX12_isBowl : ByteArray := prog_14_method_5_code
def yX12_isBowl : MethodName := ⟨RX12, "isBowl", "(I)Z"⟩
abbrev cX12_get : ByteArray := prog_14_method_6_code
def yX12_get : MethodName := ⟨RX12, "get", "(II)I"⟩
abbrev cX12_puts : ByteArray := prog_14_method_7_code
def yX12_puts : MethodName := ⟨RX12, "puts", "(III)V"⟩
abbrev cX12_lays : ByteArray := prog_14_method_8_code
def yX12_lays : MethodName := ⟨RX12, "lays", "([I[I)V"⟩
abbrev cX12_bits : ByteArray := prog_14_method_9_code
def yX12_bits : MethodName := ⟨RX12, "bits", "(I)I"⟩
abbrev cX12_everything : ByteArray := prog_14_method_10_code
def yX12_everything : MethodName := ⟨RX12, "everything", "()I"⟩
abbrev cX12_areBowls : ByteArray := prog_14_method_11_code
def yX12_areBowls : MethodName := ⟨RX12, "areBowls", "(I)Z"⟩
abbrev cX12_turned : ByteArray := prog_14_method_12_code
def yX12_turned : MethodName := ⟨RX12, "turned", "(I)I"⟩
abbrev cX12_outsideBy : ByteArray := prog_14_method_13_code
def yX12_outsideBy : MethodName := ⟨RX12, "outsideBy", "(II)I"⟩
abbrev cX12_insideBy : ByteArray := prog_14_method_14_code
def yX12_insideBy : MethodName := ⟨RX12, "insideBy", "(III)I"⟩
abbrev cX12_outside : ByteArray := prog_14_method_15_code
def yX12_outside : MethodName := ⟨RX12, "outside", "(I)I"⟩
abbrev cX12_inside : ByteArray := prog_14_method_16_code
def yX12_inside : MethodName := ⟨RX12, "inside", "(I)I"⟩
abbrev cX12_rise : ByteArray := prog_14_method_17_code
def yX12_rise : MethodName := ⟨RX12, "rise", "(I)I"⟩
abbrev cX12_isOval : ByteArray := prog_14_method_18_code
def yX12_isOval : MethodName := ⟨RX12, "isOval", "(I)Z"⟩
abbrev cX12_fitsBut : ByteArray := prog_14_method_19_code
def yX12_fitsBut : MethodName := ⟨RX12, "fitsBut", "(II)Z"⟩
abbrev cX12_liesAt : ByteArray := prog_14_method_20_code
def yX12_liesAt : MethodName := ⟨RX12, "liesAt", "(III)Z"⟩
abbrev cX12_liesNow : ByteArray := prog_14_method_21_code
def yX12_liesNow : MethodName := ⟨RX12, "liesNow", "(II)Z"⟩
abbrev cX12_here : ByteArray := prog_14_method_22_code
def yX12_here : MethodName := ⟨RX12, "here", "()I"⟩
abbrev cX12_isDigit : ByteArray := prog_14_method_23_code
def yX12_isDigit : MethodName := ⟨RX12, "isDigit", "()Z"⟩
abbrev cX12_takes : ByteArray := prog_14_method_24_code
def yX12_takes : MethodName := ⟨RX12, "takes", "(I)Z"⟩
abbrev cX12_readsNumber : ByteArray := prog_14_method_25_code
def yX12_readsNumber : MethodName := ⟨RX12, "readsNumber", "(I)Z"⟩
abbrev cX12_readsStatement : ByteArray := prog_14_method_26_code
def yX12_readsStatement : MethodName := ⟨RX12, "readsStatement", "()Z"⟩
abbrev cX12_comesTold : ByteArray := prog_14_method_27_code
def yX12_comesTold : MethodName := ⟨RX12, "comesTold", "(I)Z"⟩
abbrev cX12_wrongRow : ByteArray := prog_14_method_28_code
def yX12_wrongRow : MethodName := ⟨RX12, "wrongRow", "(II)I"⟩
abbrev cX12_heap : ByteArray := prog_14_method_29_code
def yX12_heap : MethodName := ⟨RX12, "heap", "(I)I"⟩
abbrev cX12_bowl : ByteArray := prog_14_method_30_code
def yX12_bowl : MethodName := ⟨RX12, "bowl", "(II)I"⟩
abbrev cX12_wrongKept : ByteArray := prog_14_method_31_code
def yX12_wrongKept : MethodName := ⟨RX12, "wrongKept", "(I)I"⟩
abbrev cX12_adds : ByteArray := prog_14_method_32_code
def yX12_adds : MethodName := ⟨RX12, "adds", "(IIIII)V"⟩
abbrev cX12_comes : ByteArray := prog_14_method_33_code
def yX12_comes : MethodName := ⟨RX12, "comes", "(IIII)I"⟩
abbrev cX12_warm : ByteArray := prog_14_method_34_code
def yX12_warm : MethodName := ⟨RX12, "warm", "(I)I"⟩
abbrev cX12_turn : ByteArray := prog_14_method_35_code
def yX12_turn : MethodName := ⟨RX12, "turn", "(I)I"⟩
abbrev cX12_lies : ByteArray := prog_14_method_36_code
def yX12_lies : MethodName := ⟨RX12, "lies", "(II)I"⟩
abbrev cX12_outermost : ByteArray := prog_14_method_37_code
def yX12_outermost : MethodName := ⟨RX12, "outermost", "(I)I"⟩
abbrev cX12_isNest : ByteArray := prog_14_method_38_code
def yX12_isNest : MethodName := ⟨RX12, "isNest", "(I)Z"⟩
abbrev cX12_nest : ByteArray := prog_14_method_39_code
def yX12_nest : MethodName := ⟨RX12, "nest", "(I)I"⟩
abbrev cX12_heightOf : ByteArray := prog_14_method_40_code
def yX12_heightOf : MethodName := ⟨RX12, "heightOf", "(I)I"⟩
abbrev cX12_height : ByteArray := prog_14_method_41_code
def yX12_height : MethodName := ⟨RX12, "height", "(I)I"⟩
abbrev cX12_longestOf : ByteArray := prog_14_method_42_code
def yX12_longestOf : MethodName := ⟨RX12, "longestOf", "(I)I"⟩
abbrev cX12_longest : ByteArray := prog_14_method_43_code
def yX12_longest : MethodName := ⟨RX12, "longest", "(II)I"⟩
abbrev cX12_counted : ByteArray := prog_14_method_44_code
def yX12_counted : MethodName := ⟨RX12, "counted", "(III)I"⟩
abbrev cX12_leastOf : ByteArray := prog_14_method_45_code
def yX12_leastOf : MethodName := ⟨RX12, "leastOf", "(II)I"⟩
abbrev cX12_fewest : ByteArray := prog_14_method_46_code
def yX12_fewest : MethodName := ⟨RX12, "fewest", "()I"⟩
abbrev cX12_carry : ByteArray := prog_14_method_47_code
def yX12_carry : MethodName := ⟨RX12, "carry", "()I"⟩
abbrev cX12_load : ByteArray := prog_14_method_48_code
def yX12_load : MethodName := ⟨RX12, "load", "(I)I"⟩
abbrev cX12_areApart : ByteArray := prog_14_method_49_code
def yX12_areApart : MethodName := ⟨RX12, "areApart", "(I)Z"⟩
abbrev cX12_apart : ByteArray := prog_14_method_50_code
def yX12_apart : MethodName := ⟨RX12, "apart", "(I)I"⟩
abbrev cX12_wholeOf : ByteArray := prog_14_method_51_code
def yX12_wholeOf : MethodName := ⟨RX12, "wholeOf", "(II)I"⟩
abbrev cX12_whole : ByteArray := prog_14_method_52_code
def yX12_whole : MethodName := ⟨RX12, "whole", "(I)I"⟩
abbrev cX12_canBeBetween : ByteArray := prog_14_method_53_code
def yX12_canBeBetween : MethodName := ⟨RX12, "canBeBetween", "(II)Z"⟩
abbrev cX12_throwsNew : ByteArray := prog_14_method_54_code
def yX12_throwsNew : MethodName := ⟨RX12, "throwsNew", "()I"⟩
abbrev cX12_longestRow : ByteArray := prog_14_method_55_code
def yX12_longestRow : MethodName := ⟨RX12, "longestRow", "(I)I"⟩
abbrev cX12_helps : ByteArray := prog_14_method_56_code
def yX12_helps : MethodName := ⟨RX12, "helps", "(II)I"⟩
abbrev cX12_wrongOut : ByteArray := prog_14_method_57_code
def yX12_wrongOut : MethodName := ⟨RX12, "wrongOut", "(I)I"⟩
abbrev cX12_wrongAt : ByteArray := prog_14_method_58_code
def yX12_wrongAt : MethodName := ⟨RX12, "wrongAt", "(I)I"⟩
abbrev cX12_out : ByteArray := prog_14_method_59_code
def yX12_out : MethodName := ⟨RX12, "out", "(II)I"⟩
abbrev cX12_judge : ByteArray := prog_14_method_60_code
def yX12_judge : MethodName := ⟨RX12, "judge", "(I)I"⟩
abbrev cX12_narrow : ByteArray := prog_14_method_61_code
def yX12_narrow : MethodName := ⟨RX12, "narrow", "(II)I"⟩
abbrev cX12_spanOf : ByteArray := prog_14_method_62_code
def yX12_spanOf : MethodName := ⟨RX12, "spanOf", "(IIII)I"⟩
abbrev cX12_spans : ByteArray := prog_14_method_63_code
def yX12_spans : MethodName := ⟨RX12, "spans", "(III)I"⟩
abbrev cX12_perhaps : ByteArray := prog_14_method_64_code
def yX12_perhaps : MethodName := ⟨RX12, "perhaps", "(II)I"⟩
abbrev cX12_next : ByteArray := prog_14_method_65_code
def yX12_next : MethodName := ⟨RX12, "next", "(II)I"⟩
abbrev cX12_from : ByteArray := prog_14_method_66_code
def yX12_from : MethodName := ⟨RX12, "from", "(IIII)I"⟩
abbrev cX12_drawn : ByteArray := prog_14_method_67_code
def yX12_drawn : MethodName := ⟨RX12, "drawn", "(I)I"⟩
abbrev cX12_breaks : ByteArray := prog_14_method_68_code
def yX12_breaks : MethodName := ⟨RX12, "breaks", "(III)I"⟩
abbrev cX12_image : ByteArray := prog_14_method_69_code
def yX12_image : MethodName := ⟨RX12, "image", "()I"⟩
abbrev cX12_restore : ByteArray := prog_14_method_70_code
def yX12_restore : MethodName := ⟨RX12, "restore", "()I"⟩
abbrev cX12_count : ByteArray := prog_14_method_71_code
def yX12_count : MethodName := ⟨RX12, "count", "(I)I"⟩
abbrev cX12_priceBy : ByteArray := prog_14_method_72_code
def yX12_priceBy : MethodName := ⟨RX12, "priceBy", "(II)I"⟩
abbrev cX12_keep : ByteArray := prog_14_method_73_code
def yX12_keep : MethodName := ⟨RX12, "keep", "(IIII)I"⟩
abbrev cX12_row : ByteArray := prog_14_method_74_code
def yX12_row : MethodName := ⟨RX12, "row", "(III)I"⟩
abbrev cX12_put : ByteArray := prog_14_method_75_code
def yX12_put : MethodName := ⟨RX12, "put", "(III)I"⟩
abbrev cX12_element : ByteArray := prog_14_method_76_code
def yX12_element : MethodName := ⟨RX12, "element", "(II)J"⟩
abbrev cX12_copy : ByteArray := prog_14_method_77_code
def yX12_copy : MethodName := ⟨RX12, "copy", "(IIIII)I"⟩
abbrev cX12_price : ByteArray := prog_14_method_78_code
def yX12_price : MethodName := ⟨RX12, "price", "(I)I"⟩
abbrev cX12_toss : ByteArray := prog_14_method_79_code
def yX12_toss : MethodName := ⟨RX12, "toss", "(I)I"⟩
def RJ6 : String := "java/lang/Integer"
abbrev cJ6_bitCount_0f7a4 : ByteArray := prog_18_method_49_code
def yJ6_bitCount_0f7a4 : MethodName := ⟨RJ6, "bitCount", "(I)I"⟩
def RJ9 : String := "java/lang/Math"
abbrev cJ9_max_7cf53 : ByteArray := prog_19_method_65_code
def yJ9_max_7cf53 : MethodName := ⟨RJ9, "max", "(II)I"⟩
abbrev cJ9_min_7cf53 : ByteArray := prog_19_method_69_code
def yJ9_min_7cf53 : MethodName := ⟨RJ9, "min", "(II)I"⟩
def RJ0 : String := "java/lang/String"
def RJ10 : String := "java/lang/System"
def RL : String := "BowlsWithinLaw"
abbrev cL_element : ByteArray := method_3_code
def yL_element : MethodName := ⟨RL, "element", "(LBowlsWithin;II[J)I"⟩
abbrev cL_law : ByteArray := code
def yL_law : MethodName := ⟨RL, "law", "([I)Z"⟩
abbrev vwCl : List vw_C := [(RX0, TX0, 0), (RX1, TX1, 0), (RX2, TX2, 0), (RX3, TX3, 0), (RX4, TX4, 0), (RX5, TX5, 9), (RX6, TX6, 0), (RX7, TX7, 11), (RX8, TX8, 0), (RX9, TX9, 0), (RX10, TX10, 6), (RX11, TX11, 7), (RX12, TX12, 20)]
end
section
/-! The machine over one fixed world: objects have numbers; a world holds the ints (fields, rows); references never change. -/
abbrev ww : Type := Nat → Nat → Int32
def wu (w : ww) (o i : Nat) (v : Int32) : ww := fun a b => if a = o then (if b = i then v else w a b) else w a b
abbrev zSh : Type := (Nat × List (Option Nat)) ⊕ (Nat ⊕ ((Nat × List Nat) ⊕ Nat))
/-- an object: number of its class, its fields (none: an int; some: the object that it names) -/
abbrev zob (ci : Nat) (fl : List (Option Nat)) : zSh := .inl (ci, fl)
abbrev zia (n : Nat) : zSh := .inr (.inl n)
abbrev zra (t : Nat) (l : List Nat) : zSh := .inr (.inr (.inl (t, l)))
abbrev zla (n : Nat) : zSh := .inr (.inr (.inr n))
def zheap (h : Nat) : List zSh := [zob 5 [some 1, some (h+1), some (h+2), some (h+3), some (h+4), some (h+5), some (h+6), none, none], zia 10, zia 10, zia 10, zia 10, zia 10, zia 10]
def zshelf (h : Nat) : List zSh := [zob 10 [some (h+1), none, none, none, none, none], zia 100]
def zshapes : List zSh :=
  [zob 11 [some 1, some 10, some 17, some 24, some 31, some 40, none], zra 1 [2, 3, 4, 5, 6, 7, 8, 9],
   zob 0 [], zob 8 [], zob 6 [], zob 3 [], zob 9 [], zob 4 [], zob 1 [], zob 2 []] ++ zheap 10 ++ zheap 17 ++ zheap 24 ++
  [zob 7 [some 32, some 33, some 34, some 35, some 36, some 37, some 38, some 39, none, none, none], zia 512, zia 512, zia 512, zia 512, zia 512, zia 9, zia 9, zia 9,
   zra 2 [41, 43, 45, 47, 49, 51, 53, 55]] ++ zshelf 41 ++ zshelf 43 ++ zshelf 45 ++ zshelf 47 ++ zshelf 49 ++ zshelf 51 ++ zshelf 53 ++ zshelf 55 ++
  [zob 12 [some 58, some 59, some 60, some 61, some 62, some 63, some 64, some 65, some 66, none, none, none, none, none, none, some 67, some 68, some 69, some 70, none],
   zia 52, zia 52, zia 52, zia 8, zia 8, zia 8, zia 800, zia 8, zia 8, zia 5, zia 512, zia 512, zia 10, zla 1]
def zfs (φ : Nat → Nat) (w : ww) (o : Nat) : Nat → List (Option Nat) → List Value
  | _, [] => []
  | k, none :: l => .int (w o k) :: zfs φ w o (k + 1) l
  | k, some r :: l => .ref (φ r) :: zfs φ w o (k + 1) l
def zfv (φ : Nat → Nat) (w : ww) (o k : Nat) : Option Nat → Value
  | none => .int (w o k)
  | some r => .ref (φ r)
theorem zfs_get (φ : Nat → Nat) (w : ww) (o : Nat) : ∀ (fl : List (Option Nat)) (j k : Nat), (zfs φ w o j fl)[k]? = (fl[k]?).map (zfv φ w o (j + k))
  | [], j, k => by simp [zfs]
  | none :: l, j, 0 => by simp [zfs, zfv]
  | some r :: l, j, 0 => by simp [zfs, zfv]
  | none :: l, j, k + 1 => by
    have h := zfs_get φ w o l (j + 1) k
    simp only [zfs, List.getElem?_cons_succ, h]
    congr 2; omega
  | some r :: l, j, k + 1 => by
    have h := zfs_get φ w o l (j + 1) k
    simp only [zfs, List.getElem?_cons_succ, h]
    congr 2; omega
theorem zfs_len (φ : Nat → Nat) (w : ww) (o : Nat) : ∀ (fl : List (Option Nat)) (j : Nat), (zfs φ w o j fl).length = fl.length
  | [], j => rfl
  | none :: l, j => by simp [zfs, zfs_len φ w o l]
  | some r :: l, j => by simp [zfs, zfs_len φ w o l]
theorem zfs_set (φ : Nat → Nat) (w : ww) (o : Nat) (fl : List (Option Nat)) (k : Nat) (v : Int32) (hk : fl[k]? = some none) : (zfs φ w o 0 fl).set k (.int v) = zfs φ (wu w o k v) o 0 fl := by
  have hl : k < fl.length := (List.getElem?_eq_some_iff.mp hk).1
  apply List.ext_getElem?
  intro i
  by_cases hi : i = k
  · subst hi
    rw [List.getElem?_set_self (by rw [zfs_len]; exact hl), zfs_get, hk]
    simp [zfv, wu]
  · rw [List.getElem?_set_ne (Ne.symm hi), zfs_get, zfs_get]
    cases hf : fl[i]? with
    | none => rfl
    | some f =>
      cases f with
      | none => simp [zfv, wu, hi]
      | some r => simp [zfv]
theorem zfs_congr (φ : Nat → Nat) (w w' : ww) (o : Nat) (h : w o = w' o) (fl : List (Option Nat)) (j : Nat) : zfs φ w o j fl = zfs φ w' o j fl := by
  apply List.ext_getElem?
  intro i
  rw [zfs_get, zfs_get]
  cases hf : fl[i]? with
  | none => rfl
  | some f => cases f <;> simp [zfv, h]
def zcell (φ : Nat → Nat) (cA : Nat → ClassId) (w : ww) (o : Nat) : zSh → va_E
  | .inl (ci, fl) => .inr (ci, zfs φ w o 0 fl)
  | .inr (.inl n) => .inl (cA 0, n, .inl (w o))
  | .inr (.inr (.inl (t, l))) => .inl (cA t, l.length, .inr (.inr (.inr (.inr (fun k => (l[k]?).map φ)))))
  | .inr (.inr (.inr n)) => .inl (cA 3, n, .inr (.inl (fun k => (w o k).toInt64)))
theorem zcell_congr (φ : Nat → Nat) (cA : Nat → ClassId) (w w' : ww) (o : Nat) (h : w o = w' o) (sh : zSh) : zcell φ cA w o sh = zcell φ cA w' o sh := by
  rcases sh with ⟨ci, fl⟩ | n | ⟨t, l⟩ | n
  · simp [zcell, zfs_congr φ w w' o h]
  · simp [zcell, h]
  · simp [zcell]
  · simp [zcell, h]
def zWS (φ : Nat → Nat) (cA : Nat → ClassId) (w : ww) : va_W := zshapes.mapIdx (fun o sh => (φ o, zcell φ cA w o sh))
theorem zWS_get {φ : Nat → Nat} {cA : Nat → ClassId} {w : ww} {o : Nat} {sh : zSh} (h : zshapes[o]? = some sh) : (zWS φ cA w)[o]? = some (φ o, zcell φ cA w o sh) := by
  simp [zWS, h]
theorem zWS_set {φ : Nat → Nat} {cA : Nat → ClassId} {w w' : ww} {o : Nat} {sh : zSh} (h : zshapes[o]? = some sh) (hw : ∀ p, p ≠ o → w p = w' p) : (zWS φ cA w).set o (φ o, zcell φ cA w' o sh) = zWS φ cA w' := by
  have hl : o < zshapes.length := (List.getElem?_eq_some_iff.mp h).1
  apply List.ext_getElem?
  intro i
  by_cases hi : i = o
  · subst hi
    rw [List.getElem?_set_self (by simp [zWS]; exact hl), zWS_get h]
  · rw [List.getElem?_set_ne (Ne.symm hi)]
    simp only [zWS, List.getElem?_mapIdx]
    cases hs : zshapes[i]? with
    | none => rfl
    | some s => simp [zcell_congr φ cA w w' i (hw i hi) s]
theorem wu_off {w : ww} {o i : Nat} {v : Int32} {p : Nat} (h : p ≠ o) : w p = wu w o i v p := by
  funext b
  simp [wu, h]
/-- the values that a frame holds: numbers of objects for addresses -/
def tv (φ : Nat → Nat) : Value → Value
  | .ref a => .ref (φ a)
  | v => v
theorem tv_cat (φ : Nat → Nat) (v : Value) : (tv φ v).category = v.category := by cases v <;> rfl
abbrev zL : Type := List (Option Value)
def zas (φ : Nat → Nat) : Nat → zL → List (Nat × Value)
  | _, [] => []
  | j, none :: l => zas φ (j + 1) l
  | j, some v :: l => (j, tv φ v) :: zas φ (j + 1) l
theorem zas_mem {φ : Nat → Nat} : ∀ (L : zL) (j : Nat) (q : Nat × Value), q ∈ zas φ j L ↔ ∃ (i : Nat) (v : Value), L[i]? = some (some v) ∧ q = (j + i, tv φ v)
  | [], j, q => by simp [zas]
  | none :: l, j, q => by
    rw [zas, zas_mem l (j + 1) q]
    constructor
    · rintro ⟨i, v, h, rfl⟩
      exact ⟨i + 1, v, by simpa using h, by congr 1; omega⟩
    · rintro ⟨i, v, h, rfl⟩
      cases i with
      | zero => simp at h
      | succ i => exact ⟨i, v, by simpa using h, by congr 1; omega⟩
  | some u :: l, j, q => by
    rw [zas, List.mem_cons, zas_mem l (j + 1) q]
    constructor
    · rintro (rfl | ⟨i, v, h, rfl⟩)
      · exact ⟨0, u, by simp, by simp⟩
      · exact ⟨i + 1, v, by simpa using h, by congr 1; omega⟩
    · rintro ⟨i, v, h, rfl⟩
      cases i with
      | zero =>
        simp at h
        subst h
        exact Or.inl (by simp)
      | succ i => exact Or.inr ⟨i, v, by simpa using h, by congr 1; omega⟩
def zlok (φ : Nat → Nat) (ls : Array Slot) (nL : Nat) (L : zL) : Prop := lv_has ls nL (zas φ 0 L)
theorem zlok.at {φ : Nat → Nat} {ls : Array Slot} {nL : Nat} {L : zL} (h : zlok φ ls nL L) {k : Nat} {v : Value} (hk : L[k]? = some (some v)) : ls[k]? = some (.val (tv φ v)) :=
  h.2.2 (k, tv φ v) ((zas_mem L 0 _).mpr ⟨k, v, hk, by simp⟩)
def znl (L : zL) : Bool := L.all (fun o => match o with | some (.long _) => false | some (.double _) => false | _ => true)
theorem znl_cat {L : zL} (h : znl L = true) {i : Nat} {v : Value} (hv : L[i]? = some (some v)) : ¬ v.category = 2 := by
  have h1 := List.all_eq_true.mp h _ (List.mem_of_getElem? hv)
  cases v <;> simp_all [Value.category]
theorem zlok.set {φ : Nat → Nat} {ls' : Array Slot} {nL : Nat} {L : zL} {i : Nat} {v : Value} (hn : znl L = true)
    (h : lv_has ls' nL ((i, tv φ v) :: (zas φ 0 L).filter (fun q => !(q.1 == i) && !(q.1 + 1 == i && q.2.category == 2)))) : zlok φ ls' nL (L.set i (some v)) := by
  refine ⟨h.1, h.2.1, fun q hq => h.2.2 q ?_⟩
  obtain ⟨k, u, hk, rfl⟩ := (zas_mem _ 0 q).mp hq
  simp only [Nat.zero_add]
  by_cases hki : k = i
  · subst hki
    have hl : k < L.length := by
      have := (List.getElem?_eq_some_iff.mp hk).1
      simpa using this
    rw [List.getElem?_set_self hl] at hk
    cases hk
    exact List.mem_cons_self
  · rw [List.getElem?_set_ne (Ne.symm hki)] at hk
    refine List.mem_cons_of_mem _ (List.mem_filter.mpr ⟨(zas_mem L 0 _).mpr ⟨k, u, hk, by simp⟩, ?_⟩)
    have hc := znl_cat hn hk
    simp [hki, tv_cat, hc]
theorem zlok.sub {φ : Nat → Nat} {ls : Array Slot} {nL : Nat} {L L' : zL} (h : zlok φ ls nL L) (hs : ∀ (k : Nat) (v : Value), L'[k]? = some (some v) → L[k]? = some (some v)) : zlok φ ls nL L' := by
  refine ⟨h.1, h.2.1, fun q hq => h.2.2 q ?_⟩
  obtain ⟨k, u, hk, rfl⟩ := (zas_mem _ 0 q).mp hq
  exact (zas_mem L 0 _).mpr ⟨k, u, hs k u hk, rfl⟩
/-- forgetting locals -/
def zfm : List Bool → zL → zL
  | _, [] => []
  | [], _ :: L => none :: zfm [] L
  | true :: ms, v :: L => v :: zfm ms L
  | false :: ms, _ :: L => none :: zfm ms L
theorem zfm_sub : ∀ (ms : List Bool) (L : zL) (k : Nat) (v : Value), (zfm ms L)[k]? = some (some v) → L[k]? = some (some v)
  | _, [], k, v, h => by simp [zfm] at h
  | [], a :: L, 0, v, h => by simp [zfm] at h
  | [], a :: L, k + 1, v, h => by
    simp only [zfm, List.getElem?_cons_succ] at h ⊢
    exact zfm_sub [] L k v h
  | true :: ms, a :: L, 0, v, h => by simpa [zfm] using h
  | false :: ms, a :: L, 0, v, h => by simp [zfm] at h
  | true :: ms, a :: L, k + 1, v, h => by
    simp only [zfm, List.getElem?_cons_succ] at h ⊢
    exact zfm_sub ms L k v h
  | false :: ms, a :: L, k + 1, v, h => by
    simp only [zfm, List.getElem?_cons_succ] at h ⊢
    exact zfm_sub ms L k v h
/-- the tables' words that every method has -/
def big : List Cond := lw_tbl.filter goodWord
theorem big_in {w : Cond} (h : w ∈ tables_1) (hg : goodWord w = true) : w ∈ big := List.mem_filter.mpr ⟨List.mem_append_right _ h, hg⟩
theorem big_sel {q : MethodName × Nat} (h : q ∈ lw_privs) : Cond.selects q.1.cls q.1 q.1 ∈ big := List.mem_filter.mpr ⟨List.mem_append_left _ (List.mem_map.mpr ⟨q, h, rfl⟩), rfl⟩
def zisN : Cond → Bool
  | .fieldLinkNest .. => true
  | .methodLinkNest .. => true
  | _ => false
def nests : List Cond := tables_1.filter zisN
theorem nests_in {w : Cond} (h : w ∈ tables_1) (hg : zisN w = true) : w ∈ nests := List.mem_filter.mpr ⟨h, hg⟩
theorem nests_warm {s U : State} (hW : s.WarmedH U.vm) (h : ∀ w ∈ nests, va_Nw w s) : ∀ w ∈ nests, va_Nw w U := by
  intro w hw
  have h1 := h w hw
  have h2 := (List.mem_filter.mp hw).2
  cases w <;> first | (cases h2; done) | exact va_Nw.warmF hW h1 | exact va_Nw.warmM hW h1
theorem nests_same {u U : State} (hvm : u.vm = U.vm) (h : ∀ w ∈ nests, va_Nw w u) : ∀ w ∈ nests, va_Nw w U := by
  intro w hw
  have h1 := h w hw
  have h2 := (List.mem_filter.mp hw).2
  cases w <;> first | (cases h2; done) | exact va_Nw.same rfl hvm h1
def ztys (cA : Nat → ClassId) : List (ClassId × FieldType) := [(cA 0, .int), (cA 1, .object "BowlsWithin$Bowl"), (cA 2, .object "BowlsWithin$Shelf"), (cA 3, .long)]
def zK (D : va_G) (cA : Nat → ClassId) (U : State) : Prop := va_K D vwCl (ztys cA) U ∧ ∀ w ∈ nests, va_Nw w U
theorem zK.warm {D : va_G} {cA : Nat → ClassId} {s U : State} (hW : s.WarmedH U.vm) (h : zK D cA s) : zK D cA U := ⟨va_K.moved hW.alike h.1, nests_warm hW h.2⟩
theorem zK.same {D : va_G} {cA : Nat → ClassId} {u U : State} (hvm : u.vm = U.vm) (h : zK D cA u) : zK D cA U := ⟨va_K.moved (by rw [← hvm]; exact Vm.Alike.refl _) h.1, nests_same hvm h.2⟩
abbrev zG : Type := Nat → zL → List Value → ww → Prop
def zV (p : Program) (l : Launch) (e : Env) (R : Room) (s : State) (m : MethodId) (args : Array Value) (below : List Frame) (meth : Method) (c : Code) (nL : Nat) (φ : Nat → Nat) (cA : Nat → ClassId) (D : va_G) (A : Nat → Prop) (H0 : Heap) (cells slots : Nat) (Qm : State → Prop) : zG := fun pc L S w =>
  ∀ (ls : Array Slot) (H : Heap) (locs : List Loc), zlok φ ls nL L → va_P D vwCl (zWS φ cA w) H → va_D A (zWS φ cA w) → va_S A H0 H locs →
    W p l e R s m args below meth c H locs cells slots Qm (F0 m pc ls (S.map (tv φ)))
/-- a walk of a method of class own, with the code cc: what holds at each place -/
def zE (own : String) (cc : ByteArray) (nL n : Nat) (G : zG) : Prop := ∃ (p : Program) (l : Launch) (e : Env) (R : Room) (s : State) (m : MethodId) (args : Array Value) (below : List Frame) (meth : Method) (c : Code) (φ : Nat → Nat) (cA : Nat → ClassId) (D : va_G) (A : Nat → Prop) (H0 : Heap) (cells slots : Nat) (Qm : State → Prop) (Ts : List Cond),
  G = zV p l e R s m args below meth c nL φ cA D A H0 cells slots Qm ∧ CallFix p m c cc nL s args Ts own ∧ (∀ w ∈ big, w ∈ Ts) ∧ zK D cA s ∧ (∀ q, H0.size ≤ q → A q) ∧ n ≤ R.frames ∧ 60 * n ≤ R.locals ∧ cells ≤ R.cells ∧ slots ≤ R.slots
def zR (own : String) (cc : ByteArray) (nL n : Nat) (ret : Option FieldType) (Q : Option Value → ww → Prop) (G : zG) : Prop := zE own cc nL n G ∧
  (∀ (ty : FieldType) (v : Int32) (pc : Nat) (L : zL) (w : ww) (np : Nat), zD cc pc .ireturn 1 np → ret = some ty → narrow ty (.int v) = .int v → Q (some (.int v)) w → G pc L [.int v] w) ∧
  (∀ (v : Int64) (pc : Nat) (L : zL) (w : ww) (np : Nat), zD cc pc .lreturn 1 np → ret = some .long → Q (some (.long v)) w → G pc L [.long v] w) ∧
  (∀ (pc : Nat) (L : zL) (w : ww) (np : Nat), zD cc pc .return_ 1 np → ret = none → Q none w → G pc L [] w)
end
section
/-! One row an instruction, over zE. -/
section ZRows
variable {own : String} {cc : ByteArray} {nL n : Nat} {G : zG} {pc np : Nat} {L : zL} {S : List Value} {w : ww}
def zopen (G : zG) (own : String) (cc : ByteArray) (nL n : Nat) (P : Prop) : Prop := ∀ (p : Program) (l : Launch) (e : Env) (R : Room) (s : State) (m : MethodId) (args : Array Value) (below : List Frame) (meth : Method) (c : Code) (φ : Nat → Nat) (cA : Nat → ClassId) (D : va_G) (A : Nat → Prop) (H0 : Heap) (cells slots : Nat) (Qm : State → Prop) (Ts : List Cond),
  G = zV p l e R s m args below meth c nL φ cA D A H0 cells slots Qm → CallFix p m c cc nL s args Ts own → (∀ w ∈ big, w ∈ Ts) → zK D cA s → (∀ q, H0.size ≤ q → A q) → n ≤ R.frames → 60 * n ≤ R.locals → cells ≤ R.cells → slots ≤ R.slots → P
theorem zE.elim {P : Prop} (h : zE own cc nL n G) (k : zopen G own cc nL n P) : P := by
  obtain ⟨p, l, e, R, s, m, args, below, meth, c, φ, cA, D, A, H0, cells, slots, Qm, Ts, h1, h2, h3, h4, h5, h6, h7, h8, h9⟩ := h
  exact k p l e R s m args below meth c φ cA D A H0 cells slots Qm Ts h1 h2 h3 h4 h5 h6 h7 h8 h9
theorem zr_iconst (h : zE own cc nL n G) {k : Int} (hd : zD cc pc (.iconst k) 1 np) {v : Int32} (hv : Int32.ofInt k = v) (kk : G np L (.int v :: S) w) : G pc L (S) w := by
  refine h.elim fun p l e R s m args below meth c φ cA D A H0 cells slots Qm Ts hG hC hB hK hA hn1 hn2 hn3 hn4 => ?_
  subst hG
  obtain ⟨hx, hb, hml, hown, hts⟩ := hC
  obtain ⟨hd, rfl⟩ := hd
  intro ls H locs hls hP hD hS
  exact lv_iconst hx hb hd hv (kk ls H locs hls hP hD hS)
theorem zr_bipush (h : zE own cc nL n G) {k : Int} (hd : zD cc pc (.bipush k) 2 np) {v : Int32} (hv : (Int8.ofInt k).toInt32 = v) (kk : G np L (.int v :: S) w) : G pc L (S) w := by
  refine h.elim fun p l e R s m args below meth c φ cA D A H0 cells slots Qm Ts hG hC hB hK hA hn1 hn2 hn3 hn4 => ?_
  subst hG
  obtain ⟨hx, hb, hml, hown, hts⟩ := hC
  obtain ⟨hd, rfl⟩ := hd
  intro ls H locs hls hP hD hS
  exact lv_bipush hx hb hd hv (kk ls H locs hls hP hD hS)
theorem zr_sipush (h : zE own cc nL n G) {k : Int} (hd : zD cc pc (.sipush k) 3 np) {v : Int32} (hv : (Int16.ofInt k).toInt32 = v) (kk : G np L (.int v :: S) w) : G pc L (S) w := by
  refine h.elim fun p l e R s m args below meth c φ cA D A H0 cells slots Qm Ts hG hC hB hK hA hn1 hn2 hn3 hn4 => ?_
  subst hG
  obtain ⟨hx, hb, hml, hown, hts⟩ := hC
  obtain ⟨hd, rfl⟩ := hd
  intro ls H locs hls hP hD hS
  exact lv_sipush hx hb hd hv (kk ls H locs hls hP hD hS)
theorem zr_lconst (h : zE own cc nL n G) {k : Fin 2} (hd : zD cc pc (.lconst k) 1 np) {v : Int64} (hv : Int64.ofNat (k : Nat) = v) (kk : G np L (.long v :: S) w) : G pc L (S) w := by
  refine h.elim fun p l e R s m args below meth c φ cA D A H0 cells slots Qm Ts hG hC hB hK hA hn1 hn2 hn3 hn4 => ?_
  subst hG
  obtain ⟨hx, hb, hml, hown, hts⟩ := hC
  obtain ⟨hd, rfl⟩ := hd
  intro ls H locs hls hP hD hS
  exact lv_lconst hx hb hd hv (kk ls H locs hls hP hD hS)
theorem zr_ldc (h : zE own cc nL n G) {k : Nat} (hd : zD cc pc (.ldc k) 2 np) {v : Int32} (hc : Jvm.Cond.constant own k v ∈ big) (kk : G np L (.int v :: S) w) : G pc L (S) w := by
  refine h.elim fun p l e R s m args below meth c φ cA D A H0 cells slots Qm Ts hG hC hB hK hA hn1 hn2 hn3 hn4 => ?_
  subst hG
  obtain ⟨hx, hb, hml, hown, hts⟩ := hC
  obtain ⟨hd, rfl⟩ := hd
  intro ls H locs hls hP hD hS
  exact lv_ldc hx hb hown (hts _ (hB _ hc)) hd (kk ls H locs hls hP hD hS)
theorem zr_ldcw (h : zE own cc nL n G) {k : Nat} (hd : zD cc pc (.ldc_w k) 3 np) {v : Int32} (hc : Jvm.Cond.constant own k v ∈ big) (kk : G np L (.int v :: S) w) : G pc L (S) w := by
  refine h.elim fun p l e R s m args below meth c φ cA D A H0 cells slots Qm Ts hG hC hB hK hA hn1 hn2 hn3 hn4 => ?_
  subst hG
  obtain ⟨hx, hb, hml, hown, hts⟩ := hC
  obtain ⟨hd, rfl⟩ := hd
  intro ls H locs hls hP hD hS
  exact lv_ldcw hx hb hown (hts _ (hB _ hc)) hd (kk ls H locs hls hP hD hS)
theorem zr_ldc2 (h : zE own cc nL n G) {k : Nat} (hd : zD cc pc (.ldc2_w k) 3 np) {v : Int64} (hc : Jvm.Cond.constantLong own k v ∈ big) (kk : G np L (.long v :: S) w) : G pc L (S) w := by
  refine h.elim fun p l e R s m args below meth c φ cA D A H0 cells slots Qm Ts hG hC hB hK hA hn1 hn2 hn3 hn4 => ?_
  subst hG
  obtain ⟨hx, hb, hml, hown, hts⟩ := hC
  obtain ⟨hd, rfl⟩ := hd
  intro ls H locs hls hP hD hS
  exact lv_ldc2 hx hb hown (hts _ (hB _ hc)) hd (kk ls H locs hls hP hD hS)
theorem zr_iload_n (h : zE own cc nL n G) {k : Fin 4} (hd : zD cc pc (.iload_n k) 1 np) {x : Int32} (hl : L[k.val]? = some (some (.int x))) (kk : G np L (.int x :: S) w) : G pc L (S) w := by
  refine h.elim fun p l e R s m args below meth c φ cA D A H0 cells slots Qm Ts hG hC hB hK hA hn1 hn2 hn3 hn4 => ?_
  subst hG
  obtain ⟨hx, hb, hml, hown, hts⟩ := hC
  obtain ⟨hd, rfl⟩ := hd
  intro ls H locs hls hP hD hS
  exact lv_iload_n hx hb hd rfl (hls.at hl) (kk ls H locs hls hP hD hS)
theorem zr_iload (h : zE own cc nL n G) {k : Nat} (hd : zD cc pc (.iload k) 2 np) {x : Int32} (hl : L[k]? = some (some (.int x))) (kk : G np L (.int x :: S) w) : G pc L (S) w := by
  refine h.elim fun p l e R s m args below meth c φ cA D A H0 cells slots Qm Ts hG hC hB hK hA hn1 hn2 hn3 hn4 => ?_
  subst hG
  obtain ⟨hx, hb, hml, hown, hts⟩ := hC
  obtain ⟨hd, rfl⟩ := hd
  intro ls H locs hls hP hD hS
  exact lv_iload hx hb hd (hls.at hl) (kk ls H locs hls hP hD hS)
theorem zr_lload_n (h : zE own cc nL n G) {k : Fin 4} (hd : zD cc pc (.lload_n k) 1 np) {x : Int64} (hl : L[k.val]? = some (some (.long x))) (kk : G np L (.long x :: S) w) : G pc L (S) w := by
  refine h.elim fun p l e R s m args below meth c φ cA D A H0 cells slots Qm Ts hG hC hB hK hA hn1 hn2 hn3 hn4 => ?_
  subst hG
  obtain ⟨hx, hb, hml, hown, hts⟩ := hC
  obtain ⟨hd, rfl⟩ := hd
  intro ls H locs hls hP hD hS
  exact lv_lload_n hx hb hd rfl (hls.at hl) (kk ls H locs hls hP hD hS)
theorem zr_lload (h : zE own cc nL n G) {k : Nat} (hd : zD cc pc (.lload k) 2 np) {x : Int64} (hl : L[k]? = some (some (.long x))) (kk : G np L (.long x :: S) w) : G pc L (S) w := by
  refine h.elim fun p l e R s m args below meth c φ cA D A H0 cells slots Qm Ts hG hC hB hK hA hn1 hn2 hn3 hn4 => ?_
  subst hG
  obtain ⟨hx, hb, hml, hown, hts⟩ := hC
  obtain ⟨hd, rfl⟩ := hd
  intro ls H locs hls hP hD hS
  exact lv_lload hx hb hd (hls.at hl) (kk ls H locs hls hP hD hS)
theorem zr_aload_n (h : zE own cc nL n G) {k : Fin 4} (hd : zD cc pc (.aload_n k) 1 np) {x : Nat} (hl : L[k.val]? = some (some (.ref x))) (kk : G np L (.ref x :: S) w) : G pc L (S) w := by
  refine h.elim fun p l e R s m args below meth c φ cA D A H0 cells slots Qm Ts hG hC hB hK hA hn1 hn2 hn3 hn4 => ?_
  subst hG
  obtain ⟨hx, hb, hml, hown, hts⟩ := hC
  obtain ⟨hd, rfl⟩ := hd
  intro ls H locs hls hP hD hS
  exact lv_aload_n hx hb hd rfl (hls.at hl) (kk ls H locs hls hP hD hS)
theorem zr_aload (h : zE own cc nL n G) {k : Nat} (hd : zD cc pc (.aload k) 2 np) {x : Nat} (hl : L[k]? = some (some (.ref x))) (kk : G np L (.ref x :: S) w) : G pc L (S) w := by
  refine h.elim fun p l e R s m args below meth c φ cA D A H0 cells slots Qm Ts hG hC hB hK hA hn1 hn2 hn3 hn4 => ?_
  subst hG
  obtain ⟨hx, hb, hml, hown, hts⟩ := hC
  obtain ⟨hd, rfl⟩ := hd
  intro ls H locs hls hP hD hS
  exact lv_aload hx hb hd (hls.at hl) (kk ls H locs hls hP hD hS)
theorem zr_istore_n (h : zE own cc nL n G) {k : Fin 4} (hd : zD cc pc (.istore_n k) 1 np) {x : Int32} (hi : k.val < nL) (hz : znl L = true) (kk : G np (L.set k.val (some (.int x))) S w) : G pc L (.int x :: S) w := by
  refine h.elim fun p l e R s m args below meth c φ cA D A H0 cells slots Qm Ts hG hC hB hK hA hn1 hn2 hn3 hn4 => ?_
  subst hG
  obtain ⟨hx, hb, hml, hown, hts⟩ := hC
  obtain ⟨hd, rfl⟩ := hd
  intro ls H locs hls hP hD hS
  exact lv_istore_n hx hb hd rfl hls hi rfl (fun ls1 h1 => kk ls1 H locs (zlok.set (v := .int x) hz h1) hP hD hS)
theorem zr_istore (h : zE own cc nL n G) {k : Nat} (hd : zD cc pc (.istore k) 2 np) {x : Int32} (hi : k < nL) (hz : znl L = true) (kk : G np (L.set k (some (.int x))) S w) : G pc L (.int x :: S) w := by
  refine h.elim fun p l e R s m args below meth c φ cA D A H0 cells slots Qm Ts hG hC hB hK hA hn1 hn2 hn3 hn4 => ?_
  subst hG
  obtain ⟨hx, hb, hml, hown, hts⟩ := hC
  obtain ⟨hd, rfl⟩ := hd
  intro ls H locs hls hP hD hS
  exact lv_istore hx hb hd hls hi rfl (fun ls1 h1 => kk ls1 H locs (zlok.set (v := .int x) hz h1) hP hD hS)
theorem zr_astore_n (h : zE own cc nL n G) {k : Fin 4} (hd : zD cc pc (.astore_n k) 1 np) {x : Nat} (hi : k.val < nL) (hz : znl L = true) (kk : G np (L.set k.val (some (.ref x))) S w) : G pc L (.ref x :: S) w := by
  refine h.elim fun p l e R s m args below meth c φ cA D A H0 cells slots Qm Ts hG hC hB hK hA hn1 hn2 hn3 hn4 => ?_
  subst hG
  obtain ⟨hx, hb, hml, hown, hts⟩ := hC
  obtain ⟨hd, rfl⟩ := hd
  intro ls H locs hls hP hD hS
  exact lv_astore_n hx hb hd rfl hls hi rfl (fun ls1 h1 => kk ls1 H locs (zlok.set (v := .ref x) hz h1) hP hD hS)
theorem zr_astore (h : zE own cc nL n G) {k : Nat} (hd : zD cc pc (.astore k) 2 np) {x : Nat} (hi : k < nL) (hz : znl L = true) (kk : G np (L.set k (some (.ref x))) S w) : G pc L (.ref x :: S) w := by
  refine h.elim fun p l e R s m args below meth c φ cA D A H0 cells slots Qm Ts hG hC hB hK hA hn1 hn2 hn3 hn4 => ?_
  subst hG
  obtain ⟨hx, hb, hml, hown, hts⟩ := hC
  obtain ⟨hd, rfl⟩ := hd
  intro ls H locs hls hP hD hS
  exact lv_astore hx hb hd hls hi rfl (fun ls1 h1 => kk ls1 H locs (zlok.set (v := .ref x) hz h1) hP hD hS)
theorem zr_iinc (h : zE own cc nL n G) {k : Nat} {i : Int} (hd : zD cc pc (.iinc k i) 3 np) {x : Int32} (hl : L[k]? = some (some (.int x))) {v : Int32} (hv : x + Int32.ofInt i = v) (hi : k < nL) (hz : znl L = true) (kk : G np (L.set k (some (.int v))) S w) : G pc L (S) w := by
  refine h.elim fun p l e R s m args below meth c φ cA D A H0 cells slots Qm Ts hG hC hB hK hA hn1 hn2 hn3 hn4 => ?_
  subst hG
  obtain ⟨hx, hb, hml, hown, hts⟩ := hC
  obtain ⟨hd, rfl⟩ := hd
  intro ls H locs hls hP hD hS
  obtain ⟨j, hj⟩ := List.getElem?_of_mem ((zas_mem (φ := φ) L 0 (k, .int x)).mpr ⟨k, .int x, hl, by simp [tv]⟩)
  exact lv_iinc hx hb hd hls (k := j) hj hv hi rfl (fun ls1 h1 => kk ls1 H locs (zlok.set (v := .int v) hz h1) hP hD hS)
theorem zr_mask (h : zE own cc nL n G) (ms : List Bool) (kk : G pc (zfm ms L) S w) : G pc L S w := by
  refine h.elim fun p l e R s m args below meth c φ cA D A H0 cells slots Qm Ts hG hC hB hK hA hn1 hn2 hn3 hn4 => ?_
  subst hG
  obtain ⟨hx, hb, hml, hown, hts⟩ := hC
  intro ls H locs hls hP hD hS
  exact kk ls H locs (zlok.sub hls (zfm_sub ms L)) hP hD hS
theorem zr_locals (h : zE own cc nL n G) {L2 : zL} (hs : ∀ (k : Nat) (v : Value), L2[k]? = some (some v) → L[k]? = some (some v)) (kk : G pc L2 S w) : G pc L S w := by
  refine h.elim fun p l e R s m args below meth c φ cA D A H0 cells slots Qm Ts hG hC hB hK hA hn1 hn2 hn3 hn4 => ?_
  subst hG
  obtain ⟨hx, hb, hml, hown, hts⟩ := hC
  intro ls H locs hls hP hD hS
  exact kk ls H locs (zlok.sub hls hs) hP hD hS
theorem zr_iadd (h : zE own cc nL n G) (hd : zD cc pc (.iadd) 1 np) {x y : Int32} (kk : G np L (.int (x + y) :: S) w) : G pc L (.int y :: .int x :: S) w := by
  refine h.elim fun p l e R s m args below meth c φ cA D A H0 cells slots Qm Ts hG hC hB hK hA hn1 hn2 hn3 hn4 => ?_
  subst hG
  obtain ⟨hx, hb, hml, hown, hts⟩ := hC
  obtain ⟨hd, rfl⟩ := hd
  intro ls H locs hls hP hD hS
  exact lv_iadd hx hb hd (kk ls H locs hls hP hD hS)
theorem zr_isub (h : zE own cc nL n G) (hd : zD cc pc (.isub) 1 np) {x y : Int32} (kk : G np L (.int (x - y) :: S) w) : G pc L (.int y :: .int x :: S) w := by
  refine h.elim fun p l e R s m args below meth c φ cA D A H0 cells slots Qm Ts hG hC hB hK hA hn1 hn2 hn3 hn4 => ?_
  subst hG
  obtain ⟨hx, hb, hml, hown, hts⟩ := hC
  obtain ⟨hd, rfl⟩ := hd
  intro ls H locs hls hP hD hS
  exact lv_isub hx hb hd (kk ls H locs hls hP hD hS)
theorem zr_imul (h : zE own cc nL n G) (hd : zD cc pc (.imul) 1 np) {x y : Int32} (kk : G np L (.int (x * y) :: S) w) : G pc L (.int y :: .int x :: S) w := by
  refine h.elim fun p l e R s m args below meth c φ cA D A H0 cells slots Qm Ts hG hC hB hK hA hn1 hn2 hn3 hn4 => ?_
  subst hG
  obtain ⟨hx, hb, hml, hown, hts⟩ := hC
  obtain ⟨hd, rfl⟩ := hd
  intro ls H locs hls hP hD hS
  exact lv_imul hx hb hd (kk ls H locs hls hP hD hS)
theorem zr_iand (h : zE own cc nL n G) (hd : zD cc pc (.iand) 1 np) {x y : Int32} (kk : G np L (.int (x &&& y) :: S) w) : G pc L (.int y :: .int x :: S) w := by
  refine h.elim fun p l e R s m args below meth c φ cA D A H0 cells slots Qm Ts hG hC hB hK hA hn1 hn2 hn3 hn4 => ?_
  subst hG
  obtain ⟨hx, hb, hml, hown, hts⟩ := hC
  obtain ⟨hd, rfl⟩ := hd
  intro ls H locs hls hP hD hS
  exact lv_iand hx hb hd (kk ls H locs hls hP hD hS)
theorem zr_ior (h : zE own cc nL n G) (hd : zD cc pc (.ior) 1 np) {x y : Int32} (kk : G np L (.int (x ||| y) :: S) w) : G pc L (.int y :: .int x :: S) w := by
  refine h.elim fun p l e R s m args below meth c φ cA D A H0 cells slots Qm Ts hG hC hB hK hA hn1 hn2 hn3 hn4 => ?_
  subst hG
  obtain ⟨hx, hb, hml, hown, hts⟩ := hC
  obtain ⟨hd, rfl⟩ := hd
  intro ls H locs hls hP hD hS
  exact lv_ior hx hb hd (kk ls H locs hls hP hD hS)
theorem zr_ixor (h : zE own cc nL n G) (hd : zD cc pc (.ixor) 1 np) {x y : Int32} (kk : G np L (.int (x ^^^ y) :: S) w) : G pc L (.int y :: .int x :: S) w := by
  refine h.elim fun p l e R s m args below meth c φ cA D A H0 cells slots Qm Ts hG hC hB hK hA hn1 hn2 hn3 hn4 => ?_
  subst hG
  obtain ⟨hx, hb, hml, hown, hts⟩ := hC
  obtain ⟨hd, rfl⟩ := hd
  intro ls H locs hls hP hD hS
  exact lv_ixor hx hb hd (kk ls H locs hls hP hD hS)
theorem zr_ishl (h : zE own cc nL n G) (hd : zD cc pc (.ishl) 1 np) {x y : Int32} (kk : G np L (.int (x <<< (y &&& 31)) :: S) w) : G pc L (.int y :: .int x :: S) w := by
  refine h.elim fun p l e R s m args below meth c φ cA D A H0 cells slots Qm Ts hG hC hB hK hA hn1 hn2 hn3 hn4 => ?_
  subst hG
  obtain ⟨hx, hb, hml, hown, hts⟩ := hC
  obtain ⟨hd, rfl⟩ := hd
  intro ls H locs hls hP hD hS
  exact lv_ishl hx hb hd (kk ls H locs hls hP hD hS)
theorem zr_ishr (h : zE own cc nL n G) (hd : zD cc pc (.ishr) 1 np) {x y : Int32} (kk : G np L (.int (x >>> (y &&& 31)) :: S) w) : G pc L (.int y :: .int x :: S) w := by
  refine h.elim fun p l e R s m args below meth c φ cA D A H0 cells slots Qm Ts hG hC hB hK hA hn1 hn2 hn3 hn4 => ?_
  subst hG
  obtain ⟨hx, hb, hml, hown, hts⟩ := hC
  obtain ⟨hd, rfl⟩ := hd
  intro ls H locs hls hP hD hS
  exact lv_ishr hx hb hd (kk ls H locs hls hP hD hS)
theorem zr_iushr (h : zE own cc nL n G) (hd : zD cc pc (.iushr) 1 np) {x y : Int32} (kk : G np L (.int ((x.toUInt32 >>> (y.toUInt32 &&& Int32.toUInt32 31)).toInt32) :: S) w) : G pc L (.int y :: .int x :: S) w := by
  refine h.elim fun p l e R s m args below meth c φ cA D A H0 cells slots Qm Ts hG hC hB hK hA hn1 hn2 hn3 hn4 => ?_
  subst hG
  obtain ⟨hx, hb, hml, hown, hts⟩ := hC
  obtain ⟨hd, rfl⟩ := hd
  intro ls H locs hls hP hD hS
  exact lv_iushr hx hb hd rfl (kk ls H locs hls hP hD hS)
theorem zr_idiv (h : zE own cc nL n G) (hd : zD cc pc (.idiv) 1 np) {x y : Int32} (hne : ¬ y = 0) (kk : G np L (.int (x / y) :: S) w) : G pc L (.int y :: .int x :: S) w := by
  refine h.elim fun p l e R s m args below meth c φ cA D A H0 cells slots Qm Ts hG hC hB hK hA hn1 hn2 hn3 hn4 => ?_
  subst hG
  obtain ⟨hx, hb, hml, hown, hts⟩ := hC
  obtain ⟨hd, rfl⟩ := hd
  intro ls H locs hls hP hD hS
  exact lv_idiv hx hb hd hne (kk ls H locs hls hP hD hS)
theorem zr_irem (h : zE own cc nL n G) (hd : zD cc pc (.irem) 1 np) {x y : Int32} (hne : ¬ y = 0) (kk : G np L (.int (x - x / y * y) :: S) w) : G pc L (.int y :: .int x :: S) w := by
  refine h.elim fun p l e R s m args below meth c φ cA D A H0 cells slots Qm Ts hG hC hB hK hA hn1 hn2 hn3 hn4 => ?_
  subst hG
  obtain ⟨hx, hb, hml, hown, hts⟩ := hC
  obtain ⟨hd, rfl⟩ := hd
  intro ls H locs hls hP hD hS
  exact lv_irem hx hb hd hne (kk ls H locs hls hP hD hS)
theorem zr_ineg (h : zE own cc nL n G) (hd : zD cc pc (.ineg) 1 np) {x : Int32} (kk : G np L (.int (-x) :: S) w) : G pc L (.int x :: S) w := by
  refine h.elim fun p l e R s m args below meth c φ cA D A H0 cells slots Qm Ts hG hC hB hK hA hn1 hn2 hn3 hn4 => ?_
  subst hG
  obtain ⟨hx, hb, hml, hown, hts⟩ := hC
  obtain ⟨hd, rfl⟩ := hd
  intro ls H locs hls hP hD hS
  exact lv_ineg hx hb hd (kk ls H locs hls hP hD hS)
theorem zr_i2l (h : zE own cc nL n G) (hd : zD cc pc (.i2l) 1 np) {x : Int32} (kk : G np L (.long x.toInt64 :: S) w) : G pc L (.int x :: S) w := by
  refine h.elim fun p l e R s m args below meth c φ cA D A H0 cells slots Qm Ts hG hC hB hK hA hn1 hn2 hn3 hn4 => ?_
  subst hG
  obtain ⟨hx, hb, hml, hown, hts⟩ := hC
  obtain ⟨hd, rfl⟩ := hd
  intro ls H locs hls hP hD hS
  exact lv_i2l hx hb hd rfl (kk ls H locs hls hP hD hS)
theorem zr_i2b (h : zE own cc nL n G) (hd : zD cc pc (.i2b) 1 np) {x : Int32} (kk : G np L (.int x.toInt8.toInt32 :: S) w) : G pc L (.int x :: S) w := by
  refine h.elim fun p l e R s m args below meth c φ cA D A H0 cells slots Qm Ts hG hC hB hK hA hn1 hn2 hn3 hn4 => ?_
  subst hG
  obtain ⟨hx, hb, hml, hown, hts⟩ := hC
  obtain ⟨hd, rfl⟩ := hd
  intro ls H locs hls hP hD hS
  exact lv_i2b hx hb hd rfl (kk ls H locs hls hP hD hS)
theorem zr_i2s (h : zE own cc nL n G) (hd : zD cc pc (.i2s) 1 np) {x : Int32} (kk : G np L (.int x.toInt16.toInt32 :: S) w) : G pc L (.int x :: S) w := by
  refine h.elim fun p l e R s m args below meth c φ cA D A H0 cells slots Qm Ts hG hC hB hK hA hn1 hn2 hn3 hn4 => ?_
  subst hG
  obtain ⟨hx, hb, hml, hown, hts⟩ := hC
  obtain ⟨hd, rfl⟩ := hd
  intro ls H locs hls hP hD hS
  exact lv_i2s hx hb hd rfl (kk ls H locs hls hP hD hS)
theorem zr_lcmp (h : zE own cc nL n G) (hd : zD cc pc (.lcmp) 1 np) {x y : Int64} (kk : G np L (.int (lg_cmp x y) :: S) w) : G pc L (.long y :: .long x :: S) w := by
  refine h.elim fun p l e R s m args below meth c φ cA D A H0 cells slots Qm Ts hG hC hB hK hA hn1 hn2 hn3 hn4 => ?_
  subst hG
  obtain ⟨hx, hb, hml, hown, hts⟩ := hC
  obtain ⟨hd, rfl⟩ := hd
  intro ls H locs hls hP hD hS
  exact W.lcmp hx hb hd (kk ls H locs hls hP hD hS)
theorem zr_dup (h : zE own cc nL n G) (hd : zD cc pc (.dup) 1 np) {v : Value} (hv : v.category = 1) (kk : G np L (v :: v :: S) w) : G pc L (v :: S) w := by
  refine h.elim fun p l e R s m args below meth c φ cA D A H0 cells slots Qm Ts hG hC hB hK hA hn1 hn2 hn3 hn4 => ?_
  subst hG
  obtain ⟨hx, hb, hml, hown, hts⟩ := hC
  obtain ⟨hd, rfl⟩ := hd
  intro ls H locs hls hP hD hS
  exact lv_dup hx hb hd (by rw [tv_cat]; exact hv) (kk ls H locs hls hP hD hS)
theorem zr_dup2 (h : zE own cc nL n G) (hd : zD cc pc (.dup2) 1 np) {v u : Value} (hv : v.category = 1) (hu : u.category = 1) (kk : G np L (v :: u :: v :: u :: S) w) : G pc L (v :: u :: S) w := by
  refine h.elim fun p l e R s m args below meth c φ cA D A H0 cells slots Qm Ts hG hC hB hK hA hn1 hn2 hn3 hn4 => ?_
  subst hG
  obtain ⟨hx, hb, hml, hown, hts⟩ := hC
  obtain ⟨hd, rfl⟩ := hd
  intro ls H locs hls hP hD hS
  exact lv_dup2_11 hx hb hd (by rw [tv_cat]; exact hv) (by rw [tv_cat]; exact hu) (kk ls H locs hls hP hD hS)
theorem zr_if_eq (h : zE own cc nL n G) {off : Int} (hd : zD cc pc (.ifCond .eq off) 3 np) {tgt : Nat} {x : Int32} (ht : (pc : Int) + off = (tgt : Int)) (kt : x = 0 → G tgt L S w) (kf : ¬ x = 0 → G np L S w) : G pc L (.int x :: S) w := by
  refine h.elim fun p l e R s m args below meth c φ cA D A H0 cells slots Qm Ts hG hC hB hK hA hn1 hn2 hn3 hn4 => ?_
  subst hG
  obtain ⟨hx, hb, hml, hown, hts⟩ := hC
  obtain ⟨hd, rfl⟩ := hd
  intro ls H locs hls hP hD hS
  exact lv_if_eq hx hb hd ht (fun q => kt q ls H locs hls hP hD hS) (fun q => kf q ls H locs hls hP hD hS)
theorem zr_icmp_eq (h : zE own cc nL n G) {off : Int} (hd : zD cc pc (.if_icmp .eq off) 3 np) {tgt : Nat} {x y : Int32} (ht : (pc : Int) + off = (tgt : Int)) (kt : x = y → G tgt L S w) (kf : ¬ x = y → G np L S w) : G pc L (.int y :: .int x :: S) w := by
  refine h.elim fun p l e R s m args below meth c φ cA D A H0 cells slots Qm Ts hG hC hB hK hA hn1 hn2 hn3 hn4 => ?_
  subst hG
  obtain ⟨hx, hb, hml, hown, hts⟩ := hC
  obtain ⟨hd, rfl⟩ := hd
  intro ls H locs hls hP hD hS
  exact lv_icmp_eq hx hb hd ht (fun q => kt q ls H locs hls hP hD hS) (fun q => kf q ls H locs hls hP hD hS)
theorem zr_if_ne (h : zE own cc nL n G) {off : Int} (hd : zD cc pc (.ifCond .ne off) 3 np) {tgt : Nat} {x : Int32} (ht : (pc : Int) + off = (tgt : Int)) (kt : ¬ x = 0 → G tgt L S w) (kf : x = 0 → G np L S w) : G pc L (.int x :: S) w := by
  refine h.elim fun p l e R s m args below meth c φ cA D A H0 cells slots Qm Ts hG hC hB hK hA hn1 hn2 hn3 hn4 => ?_
  subst hG
  obtain ⟨hx, hb, hml, hown, hts⟩ := hC
  obtain ⟨hd, rfl⟩ := hd
  intro ls H locs hls hP hD hS
  exact lv_if_ne hx hb hd ht (fun q => kt q ls H locs hls hP hD hS) (fun q => kf q ls H locs hls hP hD hS)
theorem zr_icmp_ne (h : zE own cc nL n G) {off : Int} (hd : zD cc pc (.if_icmp .ne off) 3 np) {tgt : Nat} {x y : Int32} (ht : (pc : Int) + off = (tgt : Int)) (kt : ¬ x = y → G tgt L S w) (kf : x = y → G np L S w) : G pc L (.int y :: .int x :: S) w := by
  refine h.elim fun p l e R s m args below meth c φ cA D A H0 cells slots Qm Ts hG hC hB hK hA hn1 hn2 hn3 hn4 => ?_
  subst hG
  obtain ⟨hx, hb, hml, hown, hts⟩ := hC
  obtain ⟨hd, rfl⟩ := hd
  intro ls H locs hls hP hD hS
  exact lv_icmp_ne hx hb hd ht (fun q => kt q ls H locs hls hP hD hS) (fun q => kf q ls H locs hls hP hD hS)
theorem zr_if_lt (h : zE own cc nL n G) {off : Int} (hd : zD cc pc (.ifCond .lt off) 3 np) {tgt : Nat} {x : Int32} (ht : (pc : Int) + off = (tgt : Int)) (kt : x < 0 → G tgt L S w) (kf : ¬ x < 0 → G np L S w) : G pc L (.int x :: S) w := by
  refine h.elim fun p l e R s m args below meth c φ cA D A H0 cells slots Qm Ts hG hC hB hK hA hn1 hn2 hn3 hn4 => ?_
  subst hG
  obtain ⟨hx, hb, hml, hown, hts⟩ := hC
  obtain ⟨hd, rfl⟩ := hd
  intro ls H locs hls hP hD hS
  exact lv_if_lt hx hb hd ht (fun q => kt q ls H locs hls hP hD hS) (fun q => kf q ls H locs hls hP hD hS)
theorem zr_icmp_lt (h : zE own cc nL n G) {off : Int} (hd : zD cc pc (.if_icmp .lt off) 3 np) {tgt : Nat} {x y : Int32} (ht : (pc : Int) + off = (tgt : Int)) (kt : x < y → G tgt L S w) (kf : ¬ x < y → G np L S w) : G pc L (.int y :: .int x :: S) w := by
  refine h.elim fun p l e R s m args below meth c φ cA D A H0 cells slots Qm Ts hG hC hB hK hA hn1 hn2 hn3 hn4 => ?_
  subst hG
  obtain ⟨hx, hb, hml, hown, hts⟩ := hC
  obtain ⟨hd, rfl⟩ := hd
  intro ls H locs hls hP hD hS
  exact lv_icmp_lt hx hb hd ht (fun q => kt q ls H locs hls hP hD hS) (fun q => kf q ls H locs hls hP hD hS)
theorem zr_if_ge (h : zE own cc nL n G) {off : Int} (hd : zD cc pc (.ifCond .ge off) 3 np) {tgt : Nat} {x : Int32} (ht : (pc : Int) + off = (tgt : Int)) (kt : 0 ≤ x → G tgt L S w) (kf : ¬ 0 ≤ x → G np L S w) : G pc L (.int x :: S) w := by
  refine h.elim fun p l e R s m args below meth c φ cA D A H0 cells slots Qm Ts hG hC hB hK hA hn1 hn2 hn3 hn4 => ?_
  subst hG
  obtain ⟨hx, hb, hml, hown, hts⟩ := hC
  obtain ⟨hd, rfl⟩ := hd
  intro ls H locs hls hP hD hS
  exact lv_if_ge hx hb hd ht (fun q => kt q ls H locs hls hP hD hS) (fun q => kf q ls H locs hls hP hD hS)
theorem zr_icmp_ge (h : zE own cc nL n G) {off : Int} (hd : zD cc pc (.if_icmp .ge off) 3 np) {tgt : Nat} {x y : Int32} (ht : (pc : Int) + off = (tgt : Int)) (kt : y ≤ x → G tgt L S w) (kf : ¬ y ≤ x → G np L S w) : G pc L (.int y :: .int x :: S) w := by
  refine h.elim fun p l e R s m args below meth c φ cA D A H0 cells slots Qm Ts hG hC hB hK hA hn1 hn2 hn3 hn4 => ?_
  subst hG
  obtain ⟨hx, hb, hml, hown, hts⟩ := hC
  obtain ⟨hd, rfl⟩ := hd
  intro ls H locs hls hP hD hS
  exact lv_icmp_ge hx hb hd ht (fun q => kt q ls H locs hls hP hD hS) (fun q => kf q ls H locs hls hP hD hS)
theorem zr_if_gt (h : zE own cc nL n G) {off : Int} (hd : zD cc pc (.ifCond .gt off) 3 np) {tgt : Nat} {x : Int32} (ht : (pc : Int) + off = (tgt : Int)) (kt : 0 < x → G tgt L S w) (kf : ¬ 0 < x → G np L S w) : G pc L (.int x :: S) w := by
  refine h.elim fun p l e R s m args below meth c φ cA D A H0 cells slots Qm Ts hG hC hB hK hA hn1 hn2 hn3 hn4 => ?_
  subst hG
  obtain ⟨hx, hb, hml, hown, hts⟩ := hC
  obtain ⟨hd, rfl⟩ := hd
  intro ls H locs hls hP hD hS
  exact lv_if_gt hx hb hd ht (fun q => kt q ls H locs hls hP hD hS) (fun q => kf q ls H locs hls hP hD hS)
theorem zr_icmp_gt (h : zE own cc nL n G) {off : Int} (hd : zD cc pc (.if_icmp .gt off) 3 np) {tgt : Nat} {x y : Int32} (ht : (pc : Int) + off = (tgt : Int)) (kt : y < x → G tgt L S w) (kf : ¬ y < x → G np L S w) : G pc L (.int y :: .int x :: S) w := by
  refine h.elim fun p l e R s m args below meth c φ cA D A H0 cells slots Qm Ts hG hC hB hK hA hn1 hn2 hn3 hn4 => ?_
  subst hG
  obtain ⟨hx, hb, hml, hown, hts⟩ := hC
  obtain ⟨hd, rfl⟩ := hd
  intro ls H locs hls hP hD hS
  exact lv_icmp_gt hx hb hd ht (fun q => kt q ls H locs hls hP hD hS) (fun q => kf q ls H locs hls hP hD hS)
theorem zr_if_le (h : zE own cc nL n G) {off : Int} (hd : zD cc pc (.ifCond .le off) 3 np) {tgt : Nat} {x : Int32} (ht : (pc : Int) + off = (tgt : Int)) (kt : x ≤ 0 → G tgt L S w) (kf : ¬ x ≤ 0 → G np L S w) : G pc L (.int x :: S) w := by
  refine h.elim fun p l e R s m args below meth c φ cA D A H0 cells slots Qm Ts hG hC hB hK hA hn1 hn2 hn3 hn4 => ?_
  subst hG
  obtain ⟨hx, hb, hml, hown, hts⟩ := hC
  obtain ⟨hd, rfl⟩ := hd
  intro ls H locs hls hP hD hS
  exact lv_if_le hx hb hd ht (fun q => kt q ls H locs hls hP hD hS) (fun q => kf q ls H locs hls hP hD hS)
theorem zr_icmp_le (h : zE own cc nL n G) {off : Int} (hd : zD cc pc (.if_icmp .le off) 3 np) {tgt : Nat} {x y : Int32} (ht : (pc : Int) + off = (tgt : Int)) (kt : x ≤ y → G tgt L S w) (kf : ¬ x ≤ y → G np L S w) : G pc L (.int y :: .int x :: S) w := by
  refine h.elim fun p l e R s m args below meth c φ cA D A H0 cells slots Qm Ts hG hC hB hK hA hn1 hn2 hn3 hn4 => ?_
  subst hG
  obtain ⟨hx, hb, hml, hown, hts⟩ := hC
  obtain ⟨hd, rfl⟩ := hd
  intro ls H locs hls hP hD hS
  exact lv_icmp_le hx hb hd ht (fun q => kt q ls H locs hls hP hD hS) (fun q => kf q ls H locs hls hP hD hS)
theorem zr_goto (h : zE own cc nL n G) {off : Int} (hd : zD cc pc (.goto off) 3 np) {tgt : Nat} (ht : (pc : Int) + off = (tgt : Int)) (kk : G tgt L S w) : G pc L S w := by
  refine h.elim fun p l e R s m args below meth c φ cA D A H0 cells slots Qm Ts hG hC hB hK hA hn1 hn2 hn3 hn4 => ?_
  subst hG
  obtain ⟨hx, hb, hml, hown, hts⟩ := hC
  obtain ⟨hd, rfl⟩ := hd
  intro ls H locs hls hP hD hS
  exact lv_goto hx hb hd ht (kk ls H locs hls hP hD hS)
theorem zr_lookup (h : zE own cc nL n G) {dflt : Int} {ps : Array (Int × Int)} {len : Nat} {x : Int32} {off : Int} {tgt : Nat} (hd : zD cc pc (.lookupswitch dflt ps) len np) (hp : (ps.toList.zip (ps.toList.drop 1)).all (fun (a, next) => a.1 < next.1) = true) (ho : Op.lookupswitch.offset ps.toList dflt x.toInt = off) (ht : (pc : Int) + off = (tgt : Int)) (kk : G tgt L S w) : G pc L (.int x :: S) w := by
  refine h.elim fun p l e R s m args below meth c φ cA D A H0 cells slots Qm Ts hG hC hB hK hA hn1 hn2 hn3 hn4 => ?_
  subst hG
  obtain ⟨hx, hb, hml, hown, hts⟩ := hC
  obtain ⟨hd, rfl⟩ := hd
  intro ls H locs hls hP hD hS
  exact lv_lookup hx hb hd hp ho ht (kk ls H locs hls hP hD hS)
theorem zr_tableOut (h : zE own cc nL n G) {dflt lo hi : Int} {offs : Array Int} {len : Nat} {x : Int32} {tgt : Nat} (hd : zD cc pc (.tableswitch dflt lo hi offs) len np) (hx1 : x.toInt < lo ∨ hi < x.toInt) (ht : (pc : Int) + dflt = (tgt : Int)) (kk : G tgt L S w) : G pc L (.int x :: S) w := by
  refine h.elim fun p l e R s m args below meth c φ cA D A H0 cells slots Qm Ts hG hC hB hK hA hn1 hn2 hn3 hn4 => ?_
  subst hG
  obtain ⟨hx, hb, hml, hown, hts⟩ := hC
  obtain ⟨hd, rfl⟩ := hd
  intro ls H locs hls hP hD hS
  exact lv_tableOut hx hb hd hx1 ht (kk ls H locs hls hP hD hS)
theorem zr_tableIn (h : zE own cc nL n G) {dflt lo hi : Int} {offs : Array Int} {len : Nat} {x : Int32} {off : Int} {tgt : Nat} (hd : zD cc pc (.tableswitch dflt lo hi offs) len np) (h1 : ¬ x.toInt < lo) (h2 : ¬ hi < x.toInt) (ho : offs[(x.toInt - lo).toNat]? = some off) (ht : (pc : Int) + off = (tgt : Int)) (kk : G tgt L S w) : G pc L (.int x :: S) w := by
  refine h.elim fun p l e R s m args below meth c φ cA D A H0 cells slots Qm Ts hG hC hB hK hA hn1 hn2 hn3 hn4 => ?_
  subst hG
  obtain ⟨hx, hb, hml, hown, hts⟩ := hC
  obtain ⟨hd, rfl⟩ := hd
  intro ls H locs hls hP hD hS
  exact lv_tableIn hx hb hd h1 h2 ho ht (kk ls H locs hls hP hD hS)
def zF (own : String) (idx ci k : Nat) : Prop := ∃ (C : String) (T : u_T) (N : Nat) (ty0 : Nat → FieldType), vwCl[ci]? = some (C, T, N) ∧ k < N ∧ (∀ w ∈ u_ws C T N, w ∈ big) ∧ (∀ k, k < N → parseFieldDescriptor (T k).2.2.1 = some (ty0 k)) ∧ (∀ a, a < N → ∀ b, b < N → a ≠ b → (T a).2.1 ≠ (T b).2.1) ∧
  (Cond.fieldLink own idx (T k).1 (T k).2.1 (T k).2.2.1 ∈ big ∨ ∃ host, Cond.fieldLinkNest own idx (T k).1 (T k).2.1 (T k).2.2.1 host ∈ nests)
def zFp (own : String) (idx ci k : Nat) (ty : FieldType) : Prop := zF own idx ci k ∧ ∃ q : vw_C, vwCl[ci]? = some q ∧ (q.2.1 k).2.2.2 = false ∧ parseFieldDescriptor (q.2.1 k).2.2.1 = some ty
theorem zr_getI (h : zE own cc nL n G) {idx o ci k : Nat} {fl : List (Option Nat)} (hd : zD cc pc (.getfield idx) 3 np) (hf : zF own idx ci k) (hs : zshapes[o]? = some (zob ci fl)) (hk : fl[k]? = some (none)) (kk : G np L (.int (w o k) :: S) w) : G pc L (.ref o :: S) w := by
  refine h.elim fun p l e R s m args below meth c φ cA D A H0 cells slots Qm Ts hG hC hB hK hA hn1 hn2 hn3 hn4 => ?_
  subst hG
  obtain ⟨hx, hb, hml, hown, hts⟩ := hC
  obtain ⟨hd, rfl⟩ := hd
  intro ls H locs hls hP hD hS
  obtain ⟨C, T, N, ty0, hc, hkN, hin, hty, hnm, hl⟩ := hf
  have hv : (zfs φ w o 0 fl)[k]? = some (tv φ (.int (w o k))) := by rw [zfs_get, hk]; simp [zfv, tv]
  rcases hl with hl | ⟨host, hl⟩
  · exact va_get hx hb hts (fun w hw => hB w (hin w hw)) hown hK.1 hP o (zWS_get hs) hc k hkN (hts _ (hB _ hl)) (fun _ q => q) hv hd (kk ls H locs hls hP hD hS)
  · exact va_getN hx hb hts (fun w hw => hB w (hin w hw)) hown hK.1 hP o (zWS_get hs) hc k hkN (va_Nw.use rfl (hK.2 _ hl)) (fun _ q => q) hv hd (kk ls H locs hls hP hD hS)
theorem zr_getR (h : zE own cc nL n G) {idx o ci k : Nat} {fl : List (Option Nat)} {r : Nat} (hd : zD cc pc (.getfield idx) 3 np) (hf : zF own idx ci k) (hs : zshapes[o]? = some (zob ci fl)) (hk : fl[k]? = some (some r)) (kk : G np L (.ref r :: S) w) : G pc L (.ref o :: S) w := by
  refine h.elim fun p l e R s m args below meth c φ cA D A H0 cells slots Qm Ts hG hC hB hK hA hn1 hn2 hn3 hn4 => ?_
  subst hG
  obtain ⟨hx, hb, hml, hown, hts⟩ := hC
  obtain ⟨hd, rfl⟩ := hd
  intro ls H locs hls hP hD hS
  obtain ⟨C, T, N, ty0, hc, hkN, hin, hty, hnm, hl⟩ := hf
  have hv : (zfs φ w o 0 fl)[k]? = some (tv φ (.ref r)) := by rw [zfs_get, hk]; simp [zfv, tv]
  rcases hl with hl | ⟨host, hl⟩
  · exact va_get hx hb hts (fun w hw => hB w (hin w hw)) hown hK.1 hP o (zWS_get hs) hc k hkN (hts _ (hB _ hl)) (fun _ q => q) hv hd (kk ls H locs hls hP hD hS)
  · exact va_getN hx hb hts (fun w hw => hB w (hin w hw)) hown hK.1 hP o (zWS_get hs) hc k hkN (va_Nw.use rfl (hK.2 _ hl)) (fun _ q => q) hv hd (kk ls H locs hls hP hD hS)
theorem zr_put (h : zE own cc nL n G) {idx o ci k : Nat} {fl : List (Option Nat)} {ty : FieldType} {v : Int32} (hd : zD cc pc (.putfield idx) 3 np) (hf : zFp own idx ci k ty) (hs : zshapes[o]? = some (zob ci fl)) (hk : fl[k]? = some none) (hn : narrow ty (.int v) = .int v) (hfit : fits ty (.int v) = true) (kk : G np L S (wu w o k v)) : G pc L (.int v :: .ref o :: S) w := by
  refine h.elim fun p l e R s m args below meth c φ cA D A H0 cells slots Qm Ts hG hC hB hK hA hn1 hn2 hn3 hn4 => ?_
  subst hG
  obtain ⟨hx, hb, hml, hown, hts⟩ := hC
  obtain ⟨hd, rfl⟩ := hd
  intro ls H locs hls hP hD hS
  obtain ⟨⟨C, T, N, ty0, hc, hkN, hin, hty, hnm, hl⟩, q, hq, hfin, hdesc⟩ := hf
  cases hc.symm.trans hq
  have hkl : k < (zfs φ w o 0 fl).length := by rw [zfs_len]; exact (List.getElem?_eq_some_iff.mp hk).1
  have key : (zWS φ cA w).set o (φ o, .inr (ci, (zfs φ w o 0 fl).set k (.int v))) = zWS φ cA (wu w o k v) := by
    rw [zfs_set φ w o fl k v hk]
    exact zWS_set (φ := φ) (cA := cA) (w := w) (w' := wu w o k v) (sh := zob ci fl) hs (fun p hp => wu_off hp)
  rcases hl with hl | ⟨host, hl⟩
  · exact va_put hx hb hts (fun w hw => hB w (hin w hw)) ty0 hty hnm hown hK.1 hP hD hS o (zWS_get hs) hc k hkN (hts _ (hB _ hl)) (fun _ q => q) hfin hdesc hn hfit hkl hd (fun H1 locs1 hP1 hD1 hS1 => kk ls H1 locs1 hls (key ▸ hP1) (key ▸ hD1) hS1)
  · exact va_putN hx hb hts (fun w hw => hB w (hin w hw)) ty0 hty hnm hown hK.1 hP hD hS o (zWS_get hs) hc k hkN (va_Nw.use rfl (hK.2 _ hl)) (fun _ q => q) hfin hdesc hn hfit hkl hd (fun H1 locs1 hP1 hD1 hS1 => kk ls H1 locs1 hls (key ▸ hP1) (key ▸ hD1) hS1)
theorem zr_iald (h : zE own cc nL n G) {o N : Nat} {i : Int32} (hd : zD cc pc .iaload 1 np) (hs : zshapes[o]? = some (zia N)) (hin : vp_in i N) (kk : G np L (.int (w o i.toNatClampNeg) :: S) w) : G pc L (.int i :: .ref o :: S) w := by
  refine h.elim fun p l e R s m args below meth c φ cA D A H0 cells slots Qm Ts hG hC hB hK hA hn1 hn2 hn3 hn4 => ?_
  subst hG
  obtain ⟨hx, hb, hml, hown, hts⟩ := hC
  obtain ⟨hd, rfl⟩ := hd
  intro ls H locs hls hP hD hS
  exact va_iald hx hb hK.1 hP o 0 (zWS_get hs) rfl hin hd (kk ls H locs hls hP hD hS)
theorem zr_iast (h : zE own cc nL n G) {o N : Nat} {i x : Int32} (hd : zD cc pc .iastore 1 np) (hs : zshapes[o]? = some (zia N)) (hin : vp_in i N) (kk : G np L S (wu w o i.toNatClampNeg x)) : G pc L (.int x :: .int i :: .ref o :: S) w := by
  refine h.elim fun p l e R s m args below meth c φ cA D A H0 cells slots Qm Ts hG hC hB hK hA hn1 hn2 hn3 hn4 => ?_
  subst hG
  obtain ⟨hx, hb, hml, hown, hts⟩ := hC
  obtain ⟨hd, rfl⟩ := hd
  intro ls H locs hls hP hD hS
  have key : (zWS φ cA w).set o (φ o, .inl (cA 0, N, .inl (upd (w o) i.toNatClampNeg x))) = zWS φ cA (wu w o i.toNatClampNeg x) := by
    have e : upd (w o) i.toNatClampNeg x = wu w o i.toNatClampNeg x o := by funext b; simp [upd, wu]
    rw [e]
    exact zWS_set (φ := φ) (cA := cA) (w := w) (w' := wu w o i.toNatClampNeg x) (sh := zia N) hs (fun p hp => wu_off hp)
  exact va_iast hx hb hK.1 hP hD hS o 0 (zWS_get hs) rfl hin hd (fun H1 locs1 hP1 hD1 hS1 => kk ls H1 locs1 hls (key ▸ hP1) (key ▸ hD1) hS1)
theorem zr_aald (h : zE own cc nL n G) {o t r : Nat} {l0 : List Nat} {i : Int32} (hd : zD cc pc .aaload 1 np) (hs : zshapes[o]? = some (zra t l0)) (ht : t = 1 ∨ t = 2) (hin : vp_in i l0.length) (hr : l0[i.toNatClampNeg]? = some r) (kk : G np L (.ref r :: S) w) : G pc L (.int i :: .ref o :: S) w := by
  refine h.elim fun p l e R s m args below meth c φ cA D A H0 cells slots Qm Ts hG hC hB hK hA hn1 hn2 hn3 hn4 => ?_
  subst hG
  obtain ⟨hx, hb, hml, hown, hts⟩ := hC
  obtain ⟨hd, rfl⟩ := hd
  intro ls H locs hls hP hD hS
  have kk2 := kk ls H locs hls hP hD hS
  have e : va_rf ((fun k => (l0[k]?).map φ) i.toNatClampNeg) = tv φ (.ref r) := by simp [hr, va_rf, tv]
  rcases ht with rfl | rfl
  · exact va_aldq (f := fun k => (l0[k]?).map φ) hx hb hK.1 hP o 1 (zWS_get hs) rfl hin hd (by rw [e]; exact kk2)
  · exact va_aldq (f := fun k => (l0[k]?).map φ) hx hb hK.1 hP o 2 (zWS_get hs) rfl hin hd (by rw [e]; exact kk2)
end ZRows
end
section
/-! Contracts over the fixed world, and calls. -/
/-- a method: its name, code, locals, what it returns -/
abbrev zM : Type := MethodName × ByteArray × Nat × Option FieldType
def zws (M : zM) : List Cond := Cond.code M.1 M.2.1 M.2.2.1 M.2.2.2 :: big
def zrm (n : Nat) : Room := { frames := n, cells := 0, slots := 0, locals := 60 * n }
def zA (φ : Nat → Nat) (sz : Nat) : Nat → Prop := fun q => (∃ o, o < zshapes.length ∧ q = φ o) ∨ sz ≤ q
def zB (φ : Nat → Nat) (cA : Nat → ClassId) (D : va_G) (w : ww) (sz : Nat) : State → Prop := fun U => U.heap.size = sz ∧ va_P D vwCl (zWS φ cA w) U.heap ∧ zK D cA U ∧ va_D (fun _ => True) (zWS φ cA w)
def zQc (φ : Nat → Nat) (cA : Nat → ClassId) (D : va_G) (A : Nat → Prop) (Q : Option Value → ww → Prop) : Array Value → State → Outcome → State → Prop := fun _ st oc t =>
  (∃ (r : Option Value) (w : ww), oc = .returned (r.map (tv φ)) ∧ Q r w ∧ va_P D vwCl (zWS φ cA w) t.heap ∧ va_D A (zWS φ cA w)) ∧ va_F A st t
def Ct (M : zM) (n : Nat) (av : List Value) (w : ww) (Q : Option Value → ww → Prop) : Prop := ∀ (l : Launch) (φ : Nat → Nat) (cA : Nat → ClassId) (D : va_G) (sz : Nat),
  Met l M.1 (zws M) (zrm n) (va_Pc (av.map (tv φ)) (zB φ cA D w sz)) (zQc φ cA D (zA φ sz) Q) 0 0 (zA φ sz)
def zel : List Value → zL
  | [] => []
  | v :: l => match v with
    | .long x => some (.long x) :: none :: zel l
    | .double x => some (.double x) :: none :: zel l
    | v => some v :: zel l
def zpad : Nat → zL → zL
  | 0, _ => []
  | n + 1, [] => none :: zpad n []
  | n + 1, a :: l => a :: zpad n l
theorem zpad_sub : ∀ (n : Nat) (L : zL) (k : Nat) (v : Value), (zpad n L)[k]? = some (some v) → L[k]? = some (some v)
  | 0, L, k, v, h => by simp [zpad] at h
  | n + 1, [], 0, v, h => by simp [zpad] at h
  | n + 1, [], k + 1, v, h => by
    have := zpad_sub n [] k v (by simpa [zpad] using h)
    simp at this
  | n + 1, a :: l, 0, v, h => by simpa [zpad] using h
  | n + 1, a :: l, k + 1, v, h => by
    simpa using zpad_sub n l k v (by simpa [zpad] using h)
theorem zel_mem (φ : Nat → Nat) : ∀ (vs : List Value) (j : Nat), ∀ q ∈ zas φ j (zel vs), q ∈ lv_args j (vs.map (tv φ))
  | [], j, q, h => by simp [zel, zas] at h
  | v :: l, j, q, h => by
    cases v with
    | long x =>
      simp only [zel, zas, List.mem_cons] at h
      rcases h with rfl | h
      · simp [lv_args]
      · have := zel_mem φ l (j + 1 + 1) q h
        simp [lv_args, tv, Value.category] at this ⊢
        exact Or.inr this
    | double x =>
      simp only [zel, zas, List.mem_cons] at h
      rcases h with rfl | h
      · simp [lv_args]
      · have := zel_mem φ l (j + 1 + 1) q h
        simp [lv_args, tv, Value.category] at this ⊢
        exact Or.inr this
    | int x =>
      simp only [zel, zas, List.mem_cons] at h
      rcases h with rfl | h
      · simp [lv_args]
      · have := zel_mem φ l (j + 1) q h
        simp [lv_args, tv, Value.category] at this ⊢
        exact Or.inr this
    | float x =>
      simp only [zel, zas, List.mem_cons] at h
      rcases h with rfl | h
      · simp [lv_args]
      · have := zel_mem φ l (j + 1) q h
        simp [lv_args, tv, Value.category] at this ⊢
        exact Or.inr this
    | null =>
      simp only [zel, zas, List.mem_cons] at h
      rcases h with rfl | h
      · simp [lv_args]
      · have := zel_mem φ l (j + 1) q h
        simp [lv_args, tv, Value.category] at this ⊢
        exact Or.inr this
    | ref x =>
      simp only [zel, zas, List.mem_cons] at h
      rcases h with rfl | h
      · simp [lv_args]
      · have := zel_mem φ l (j + 1) q h
        simp [lv_args, tv, Value.category] at this ⊢
        exact Or.inr this
    | retAddr x =>
      simp only [zel, zas, List.mem_cons] at h
      rcases h with rfl | h
      · simp [lv_args]
      · have := zel_mem φ l (j + 1) q h
        simp [lv_args, tv, Value.category] at this ⊢
        exact Or.inr this
theorem zA_big {φ : Nat → Nat} {cA : Nat → ClassId} {w : ww} {sz : Nat} {B : Nat → Prop} (hD : va_D B (zWS φ cA w)) : va_D (zA φ sz) (zWS φ cA w) := by
  refine ⟨hD.1, fun k q hk => Or.inl ⟨k, ?_, ?_⟩⟩
  · have := (List.getElem?_eq_some_iff.mp hk).1
    simpa [zWS] using this
  · simp only [zWS, List.getElem?_mapIdx, Option.map_eq_some_iff] at hk
    obtain ⟨a, -, rfl⟩ := hk
    rfl
set_option maxHeartbeats 2000000 in
/-- a contract out of a walk of its body -/
theorem Ct.of {M : zM} {n : Nat} {av : List Value} {w : ww} {Q : Option Value → ww → Prop} (hp : plainName M.1.cls = true) (hlen : (zel av).length ≤ M.2.2.1) (hfit : ∀ φ : Nat → Nat, (lg_sl (av.map (tv φ))).length ≤ M.2.2.1)
    (body : ∀ G : zG, zR M.1.cls M.2.1 M.2.2.1 n M.2.2.2 Q G → G 0 (zpad M.2.2.1 (zel av)) [] w) : Ct M n av w Q := by
  intro l φ cA D sz
  refine Met.ofW (cc := M.2.1) (maxL := M.2.2.1) (ret := M.2.2.2) hp rfl ?_
  intro p e s m args below meth c s₁ B hml hv
  obtain ⟨rfl, rfl, hP, hK, hD0⟩ := hv
  have hx := B.exec
  have hb := B.bytes
  have hr := B.returns
  have hts := atoms_spec (ws := zws M) B.pre
  have hown : s.vm.findClass M.1.cls = some m.cls := findClass_of_methodNamed B.named
  have hlocks := B.notSynchronized
  have hD := zA_big (sz := s.heap.size) hD0
  rw [lg_entry_eq]
  have hl := lv_entry (av.map (tv φ)) (n := M.2.2.1) (hfit φ)
  have hls : zlok φ ((lg_sl (av.map (tv φ)) ++ List.replicate (M.2.2.1 - (lg_sl (av.map (tv φ))).length) Slot.unset).toArray) M.2.2.1 (zel av) :=
    ⟨hl.1, hl.2.1, fun q hq => hl.2.2 q (zel_mem φ av 0 q hq)⟩
  have hls := zlok.sub hls (zpad_sub M.2.2.1 (zel av))
  refine body (zV p l e (headSpec (zws M) (zrm n)).room s m (av.map (tv φ)).toArray below meth c M.2.2.1 φ cA D (zA φ s.heap.size) s.heap 0 0 (MQ below (zQc φ cA D (zA φ s.heap.size) Q) (av.map (tv φ)).toArray s 0 0 (zA φ s.heap.size))) ⟨⟨p, l, e, (headSpec (zws M) (zrm n)).room, s, m, (av.map (tv φ)).toArray, below, meth, c, φ, cA, D, zA φ s.heap.size, s.heap, 0, 0, _, zws M, rfl, ⟨hx, hb, hml, hown, hts⟩, fun w hw => List.mem_cons_of_mem _ hw, hK, fun q h => Or.inr h, Nat.le_refl _, Nat.le_refl _, Nat.zero_le _, Nat.zero_le _⟩, ?_, ?_, ?_⟩ _ s.heap [] hls hP hD va_S.rf
  · intro ty v pc L w np hd hret hn hQ ls H locs hls hP hD hS
    exact W.zret hx hb (hr.trans hret) hn (fun t ht hW => ⟨⟨some (.int v), w, rfl, hQ, by rw [ht]; exact hP, hD⟩, hS.F ht⟩) hS.2.2 hd.1
  · intro v pc L w np hd hret hQ ls H locs hls hP hD hS
    exact W.lret hx hb (hr.trans hret) (fun t ht hW => ⟨⟨some (.long v), w, rfl, hQ, by rw [ht]; exact hP, hD⟩, hS.F ht⟩) hS.2.2 hd.1
  · intro pc L w np hd hret hQ ls H locs hls hP hD hS
    exact W.vret hx hb (hr.trans hret) (fun t ht hW => ⟨⟨none, w, rfl, hQ, by rw [ht]; exact hP, hD⟩, hS.F ht⟩) hS.2.2 hd.1
def zpush : Option Value → List Value → List Value
  | none, S => S
  | some v, S => v :: S
theorem zpush_map (φ : Nat → Nat) (r : Option Value) (S : List Value) : (r.map (tv φ)).toList ++ S.map (tv φ) = (zpush r S).map (tv φ) := by cases r <;> simp [zpush]
def zcat (S : List Value) : Nat := (S.map fun v => v.category).sum
theorem zcat_tv (φ : Nat → Nat) (S : List Value) : ((S.map (tv φ)).map fun v => v.category).sum = zcat S := by
  unfold zcat
  rw [List.map_map]
  congr 1
  exact List.map_congr_left (fun v _ => tv_cat φ v)
section ZCalls
variable {p : Program} {l : Launch} {e : Env} {R : Room} {s : State} {m : MethodId} {args : Array Value} {below : List Frame} {meth : Method} {c : Code} {φ : Nat → Nat} {cA : Nat → ClassId} {D : va_G} {A : Nat → Prop} {H0 : Heap} {cells slots : Nat} {Qm : State → Prop}
theorem zA_in {w : ww} {H : Heap} {locs : List Loc} (hD : va_D A (zWS φ cA w)) (hS : va_S A H0 H locs) (hA : ∀ q, H0.size ≤ q → A q) : ∀ q, zA φ H.size q → A q := by
  intro q hq
  rcases hq with ⟨o, ho, rfl⟩ | hq
  · obtain ⟨sh, hsh⟩ : ∃ sh, zshapes[o]? = some sh := ⟨_, List.getElem?_eq_getElem ho⟩
    exact hD.2 o _ (zWS_get hsh)
  · exact hA q (Nat.le_trans hS.1 hq)
/-- behind a call -/
theorem z_behind {nL pc : Nat} {L : zL} {ls : Array Slot} {H : Heap} {locs : List Loc} {S st0 : List Value} {a : Array Value} {w : ww} {Q : Option Value → ww → Prop}
    (hr : va_Run p l e R s m args below meth c H locs cells slots 0 0 (F0 m pc ls st0) (S.map (tv φ)) (zQc φ cA D (zA φ H.size) Q a) (zA φ H.size)) (hls : zlok φ ls nL L) (hD : va_D A (zWS φ cA w)) (hS : va_S A H0 H locs) (hA : ∀ q, H0.size ≤ q → A q)
    (kk : ∀ r w', Q r w' → zV p l e R s m args below meth c nL φ cA D A H0 cells slots Qm (pc + 3) L (zpush r S) w') : W p l e R s m args below meth c H locs cells slots Qm (F0 m pc ls st0) := by
  have hin := zA_in hD hS hA
  intro T hT X
  obtain ⟨v, st₀, t, T', L2, h0, X', hL, e1, e2, ⟨⟨r, w', hv, hq, hP1, hD1⟩, hz, hk⟩, st⟩ := hr T hT X
  have hv : v = r.map (tv φ) := by cases hv; rfl
  subst hv
  rw [h0] at hz hk
  obtain ⟨t2, a1, b1⟩ := kk r w' hq ls T'.heap (locs ++ L2) hls (by rw [e1]; exact hP1) (hD1.weaken (fun k q _ h => hin q.1 h))
    ⟨Nat.le_trans hS.1 (by rw [e1]; exact hz), fun q h1 h2 => by rw [e1, hk q (Nat.lt_of_lt_of_le h1 hS.1) (fun z => h2 (hin q z))]; exact hS.2.1 q h1 h2, fun q hq => by
      rcases List.mem_append.mp hq with h | h
      · exact hS.2.2 q h
      · exact hin _ (hL q h)⟩ T' rfl X'
  refine ⟨t2, st t2 ?_, b1⟩
  rw [zpush_map]
  exact a1
end ZCalls
/-- what a call of M, by the pool's place idx of class own, asks of the tables; k: how many arguments -/
def zLn (own : String) (idx : Nat) (M : zM) (k : Nat) : Prop := (Cond.methodLink own idx M.1 ∈ big ∨ ∃ host, Cond.methodLinkNest own idx M.1 host ∈ nests) ∧ Cond.code M.1 M.2.1 M.2.2.1 M.2.2.2 ∈ big ∧ Cond.initialized M.1.cls ∈ big ∧ (M.1.cls ≠ "java/lang/invoke/MethodHandle" ∧ M.1.cls ≠ "java/lang/invoke/VarHandle" ∧ (parseMethodDescriptor M.1.desc).map (fun d => d.parameters.length) = some k) ∧ M.2.2.1 ≤ 30
def zLv (own : String) (idx : Nat) (M : zM) (k : Nat) : Prop := zLn own idx M k ∧ Cond.instanceMethod M.1 ∈ big ∧ Cond.selects M.1.cls M.1 M.1 ∈ big
def zLs (own : String) (idx : Nat) (M : zM) (k : Nat) : Prop := zLn own idx M k ∧ Cond.static M.1 ∈ big
theorem big_good {w : Cond} (h : w ∈ big) : (w.onTables && w.keeps) = true ∨ ∃ ty, w = .arrayClass ty := good_of_word (List.mem_filter.mp h).2
theorem zws_good {M : zM} {Ts : List Cond} (hB : ∀ w ∈ big, w ∈ Ts) (hc : Cond.code M.1 M.2.1 M.2.2.1 M.2.2.2 ∈ big) : GoodIn Ts (zws M) := by
  intro w hw
  rcases List.mem_cons.mp hw with rfl | hw
  · exact ⟨hB _ hc, big_good hc⟩
  · exact ⟨hB _ hw, big_good hw⟩
theorem z_blind {φ : Nat → Nat} {cA : Nat → ClassId} {D : va_G} {w : ww} {sz : Nat} {av : List Value} : FrameBlind (va_Pc av (zB φ cA D w sz)) := by
  intro a U g mk q
  obtain ⟨q0, q1, qP, qK, qD⟩ := q
  exact ⟨q0, q1, qP, zK.same (u := U) (U := U.calling g mk a) rfl qK, qD⟩
section ZCallRows
variable {own : String} {cc : ByteArray} {nL n : Nat} {G : zG} {pc np : Nat} {L : zL} {S : List Value} {w : ww}
set_option maxHeartbeats 2000000 in
theorem zr_callV (h : zE own cc nL n G) {idx k j o ci : Nat} {fl : List (Option Nat)} {q : vw_C} {M : zM} {As : List Value} (hd : zD cc pc (.invokevirtual idx) 3 np) (hl : zLv own idx M j) (hs : zshapes[o]? = some (zob ci fl)) (hq : vwCl[ci]? = some q) (hqc : q.1 = M.1.cls) (hn : k + 1 ≤ n) (hlen : As.length = j) (hcat : zcat S ≤ 8)
    (hc : Ct M k (.ref o :: As) w (fun r w' => G np L (zpush r S) w')) : G pc L (As.reverse ++ .ref o :: S) w := by
  refine h.elim fun p l e R s m args below meth c φ cA D A H0 cells slots Qm Ts hG hC hB hK hA hn1 hn2 hn3 hn4 => ?_
  subst hG
  obtain ⟨hd, rfl⟩ := hd
  intro ls H locs hls hP hD hS
  have hC' := hC
  obtain ⟨hx, hb, hml, hown, hts⟩ := hC'
  obtain ⟨⟨hlk, hcode, hini, ⟨hm1, hm2, hpar⟩, h30⟩, hinst, hsel⟩ := hl
  have hM := hc l φ cA D H.size
  have hMeq : M.1 = ⟨M.1.cls, M.1.name, M.1.desc⟩ := rfl
  have hPre : PreV s H M.1.cls (φ o) (va_Pc ((Value.ref o :: As).map (tv φ)) (zB φ cA D w H.size)) (As.map (tv φ)) :=
    ⟨z_blind, by have := va_recv hK.1 hP hq (zWS_get hs); rw [hqc] at this; exact this, fun U hU hW => ⟨by simp [tv], by rw [hU], by rw [hU]; exact hP, hK.warm hW, hD.weaken (fun _ _ _ _ => trivial)⟩⟩
  have hR1 : (zrm k).frames + 1 ≤ R.frames := Nat.le_trans hn hn1
  have hR2 : 8 + (M.2.2.1 + 11) + (zrm k).locals ≤ R.locals := by show 8 + (M.2.2.1 + 11) + 60 * k ≤ R.locals; omega
  have hst : ((As.reverse ++ .ref o :: S).map (tv φ)) = (As.map (tv φ)).reverse ++ .ref (φ o) :: S.map (tv φ) := by simp [tv]
  rw [hst]
  have hcat' : 2 * (F0 m pc ls ((As.map (tv φ)).reverse ++ .ref (φ o) :: S.map (tv φ))).monitorRoom + ((S.map (tv φ)).map fun v => v.category).sum ≤ 8 := lv_room (by rw [zcat_tv]; exact hcat)
  rcases hlk with hlk | ⟨host, hlk⟩
  · have cw : CallW R s args own M.1.cls idx M.1 M.2.1 M.2.2.1 M.2.2.2 (zws M) (zrm k) 0 0 j :=
      ⟨callB_of j hts (zws_good hB hcode) rfl rfl rfl (hts _ (hB _ hini)) (hts _ (hB _ hlk)) ⟨hm1, hm2, hpar⟩ ⟨hR1, hR2⟩, hts _ (hB _ hinst), hts _ (hB _ hsel)⟩
    exact z_behind (va_runV hC hM cw hPre rfl (by simpa using hlen) hls.1 rfl hcat' hd ⟨hn3, hn4⟩) hls hD hS hA (fun r w' hq => hq)
  · have cw : va_CN R s args own idx M.1 host M.2.1 M.2.2.1 M.2.2.2 (zws M) (zrm k) 0 0 j ∧ (Cond.instanceMethod M.1).before args s = true ∧ (Cond.selects M.1.cls M.1 M.1).before args s = true :=
      ⟨va_cnB j hts (zws_good hB hcode) rfl rfl rfl (hK.2 _ hlk) (hts _ (hB _ hini)) ⟨hm1, hm2, hpar⟩ ⟨hR1, hR2⟩, hts _ (hB _ hinst), hts _ (hB _ hsel)⟩
    exact z_behind (va_runVN hC hM cw hPre rfl (by simpa using hlen) hls.1 rfl hcat' hd ⟨hn3, hn4⟩) hls hD hS hA (fun r w' hq => hq)
set_option maxHeartbeats 2000000 in
theorem zr_callS (h : zE own cc nL n G) {idx k j : Nat} {M : zM} {As : List Value} (hd : zD cc pc (.invokestatic idx) 3 np) (hl : zLs own idx M j) (hn : k + 1 ≤ n) (hlen : As.length = j) (hcat : zcat S ≤ 8)
    (hc : Ct M k As w (fun r w' => G np L (zpush r S) w')) : G pc L (As.reverse ++ S) w := by
  refine h.elim fun p l e R s m args below meth c φ cA D A H0 cells slots Qm Ts hG hC hB hK hA hn1 hn2 hn3 hn4 => ?_
  subst hG
  obtain ⟨hd, rfl⟩ := hd
  intro ls H locs hls hP hD hS
  have hC' := hC
  obtain ⟨hx, hb, hml, hown, hts⟩ := hC'
  obtain ⟨⟨hlk, hcode, hini, ⟨hm1, hm2, hpar⟩, h30⟩, hstat⟩ := hl
  have hM := hc l φ cA D H.size
  have hPre : PreS s H (va_Pc (As.map (tv φ)) (zB φ cA D w H.size)) (As.map (tv φ)) :=
    ⟨z_blind, fun U hU hW => ⟨rfl, by rw [hU], by rw [hU]; exact hP, hK.warm hW, hD.weaken (fun _ _ _ _ => trivial)⟩⟩
  have hR1 : (zrm k).frames + 1 ≤ R.frames := Nat.le_trans hn hn1
  have hR2 : 8 + (M.2.2.1 + 11) + (zrm k).locals ≤ R.locals := by show 8 + (M.2.2.1 + 11) + 60 * k ≤ R.locals; omega
  have hst : ((As.reverse ++ S).map (tv φ)) = (As.map (tv φ)).reverse ++ S.map (tv φ) := by simp
  rw [hst]
  have hcat' : 2 * (F0 m pc ls ((As.map (tv φ)).reverse ++ S.map (tv φ))).monitorRoom + ((S.map (tv φ)).map fun v => v.category).sum ≤ 8 := lv_room (by rw [zcat_tv]; exact hcat)
  rcases hlk with hlk | ⟨host, hlk⟩
  · have cw : CallB R s args own idx M.1 M.2.1 M.2.2.1 M.2.2.2 (zws M) (zrm k) 0 0 j ∧ (Cond.static M.1).before args s = true :=
      ⟨callB_of j hts (zws_good hB hcode) rfl rfl rfl (hts _ (hB _ hini)) (hts _ (hB _ hlk)) ⟨hm1, hm2, hpar⟩ ⟨hR1, hR2⟩, hts _ (hB _ hstat)⟩
    exact z_behind (va_runS hC hM cw hPre rfl (by simpa using hlen) hls.1 rfl hcat' hd ⟨hn3, hn4⟩) hls hD hS hA (fun r w' hq => hq)
  · have cw : va_CN R s args own idx M.1 host M.2.1 M.2.2.1 M.2.2.2 (zws M) (zrm k) 0 0 j ∧ (Cond.static M.1).before args s = true ∧ True :=
      ⟨va_cnB j hts (zws_good hB hcode) rfl rfl rfl (hK.2 _ hlk) (hts _ (hB _ hini)) ⟨hm1, hm2, hpar⟩ ⟨hR1, hR2⟩, hts _ (hB _ hstat), trivial⟩
    exact z_behind (va_runSN hC hM cw hPre rfl (by simpa using hlen) hls.1 rfl hcat' hd ⟨hn3, hn4⟩) hls hD hS hA (fun r w' hq => hq)
end ZCallRows
end
section
/-! Calls of overridden methods by a superclass's name, and calls of super. -/
def zLu (own : String) (idx : Nat) (x : MethodName) (C : String) (M : zM) (k : Nat) : Prop := Cond.methodLink own idx x ∈ big ∧ Cond.sameMethod x.cls x.cls x.name x.desc ∈ big ∧ Cond.instanceMethod x ∈ big ∧ (∃ b m r, Cond.code x b m r ∈ big) ∧ Cond.selects C x M.1 ∈ big ∧ Cond.instanceMethod M.1 ∈ big ∧ Cond.initialized M.1.cls ∈ big ∧ Cond.code M.1 M.2.1 M.2.2.1 M.2.2.2 ∈ big ∧ (x.cls ≠ "java/lang/invoke/MethodHandle" ∧ x.cls ≠ "java/lang/invoke/VarHandle") ∧ (parseMethodDescriptor x.desc).map (fun d => d.parameters.length) = some k ∧ M.2.2.1 ≤ 30
def zLp (own : String) (idx : Nat) (x : MethodName) (M : zM) (k : Nat) : Prop := Cond.methodLink own idx x ∈ big ∧ Cond.sameMethod x.cls M.1.cls x.name x.desc ∈ big ∧ Cond.superclass own x.cls ∈ big ∧ (x.cls = M.1.cls ∨ Cond.superclass x.cls M.1.cls ∈ big) ∧ M.1.name = x.name ∧ M.1.desc = x.desc ∧ Cond.instanceMethod M.1 ∈ big ∧ Cond.initialized M.1.cls ∈ big ∧ Cond.code M.1 M.2.1 M.2.2.1 M.2.2.2 ∈ big ∧ x.name ≠ "<init>" ∧ (parseMethodDescriptor M.1.desc).map (fun d => d.parameters.length) = some k ∧ M.2.2.1 ≤ 30
section ZSup
variable {own : String} {cc : ByteArray} {nL n : Nat} {G : zG} {pc np : Nat} {L : zL} {S : List Value} {w : ww}
set_option maxHeartbeats 2000000 in
theorem zr_callU (h : zE own cc nL n G) {idx k j o ci : Nat} {fl : List (Option Nat)} {q : vw_C} {M : zM} {As : List Value} {x : MethodName} (hd : zD cc pc (.invokevirtual idx) 3 np) (hl : zLu own idx x q.1 M j) (hs : zshapes[o]? = some (zob ci fl)) (hq : vwCl[ci]? = some q) (hn : k + 1 ≤ n) (hlen : As.length = j) (hcat : zcat S ≤ 8)
    (hc : Ct M k (.ref o :: As) w (fun r w' => G np L (zpush r S) w')) : G pc L (As.reverse ++ .ref o :: S) w := by
  refine h.elim fun p l e R s m args below meth c φ cA D A H0 cells slots Qm Ts hG hC hB hK hA hn1 hn2 hn3 hn4 => ?_
  subst hG
  obtain ⟨hd, rfl⟩ := hd
  intro ls H locs hls hP hD hS
  have hC' := hC
  obtain ⟨hx, hb, hml, hown, hts⟩ := hC'
  obtain ⟨hlk, hsame, hinx, ⟨b0, m0, r0, hcx⟩, hsel, hinst, hini, hcode, hmh, hpar, h30⟩ := hl
  have hM := hc l φ cA D H.size
  have hPre : PreV s H q.1 (φ o) (va_Pc ((Value.ref o :: As).map (tv φ)) (zB φ cA D w H.size)) (As.map (tv φ)) :=
    ⟨z_blind, va_recv hK.1 hP hq (zWS_get hs), fun U hU hW => ⟨by simp [tv], by rw [hU], by rw [hU]; exact hP, hK.warm hW, hD.weaken (fun _ _ _ _ => trivial)⟩⟩
  have hR1 : (zrm k).frames + 1 ≤ R.frames := Nat.le_trans hn hn1
  have hR2 : 8 + (M.2.2.1 + 11) + (zrm k).locals ≤ R.locals := by show 8 + (M.2.2.1 + 11) + 60 * k ≤ R.locals; omega
  have hst : ((As.reverse ++ .ref o :: S).map (tv φ)) = (As.map (tv φ)).reverse ++ .ref (φ o) :: S.map (tv φ) := by simp [tv]
  rw [hst]
  have hcat' : 2 * (F0 m pc ls ((As.map (tv φ)).reverse ++ .ref (φ o) :: S.map (tv φ))).monitorRoom + ((S.map (tv φ)).map fun v => v.category).sum ≤ 8 := lv_room (by rw [zcat_tv]; exact hcat)
  have hws := zws_good hB hcode
  have cw : va_CU R s args own q.1 x.cls idx x M.1 M.2.1 M.2.2.1 M.2.2.2 (zws M) (zrm k) 0 0 j := by
    refine ⟨⟨rfl, rfl, hR1, hR2, pay_in hts hws, List.mem_cons_self⟩, hts _ (hB _ hcode), hts _ (hB _ hini), hmh, fun sig h => ?_, hts _ (hB _ hlk), hts _ (hB _ hsame), va_Decl.of (hts _ (hB _ hinx)) (hts _ (hB _ hcx)), hts _ (hB _ hsel), hts _ (hB _ hinst)⟩
    rw [h] at hpar
    exact (Option.some.inj hpar).symm
  exact z_behind (va_runU hC hM cw hPre rfl (by simpa using hlen) hls.1 rfl hcat' hd ⟨hn3, hn4⟩) hls hD hS hA (fun r w' hq => hq)
theorem zsub1 {vm : Vm} {a b : ClassId} {k : Class} (hk : vm.classes[a]? = some k) (hsup : k.super = some b) : vm.isSubclass a b = true := by
  have hs : 1 ≤ vm.classes.size := by
    have := (Array.getElem?_eq_some_iff.mp hk).1
    omega
  obtain ⟨z, hz⟩ : ∃ z, vm.classes.size = z + 1 := ⟨vm.classes.size - 1, by omega⟩
  simp only [Vm.isSubclass, hz]
  simp [Vm.isSubclassAux, hk, hsup]
set_option maxHeartbeats 2000000 in
theorem zr_callP (h : zE own cc nL n G) {idx k j o ci : Nat} {fl : List (Option Nat)} {q : vw_C} {M : zM} {As : List Value} {x : MethodName} (hd : zD cc pc (.invokespecial idx) 3 np) (hl : zLp own idx x M j) (hs : zshapes[o]? = some (zob ci fl)) (hq : vwCl[ci]? = some q) (hn : k + 1 ≤ n) (hlen : As.length = j) (hcat : zcat S ≤ 8)
    (hc : Ct M k (.ref o :: As) w (fun r w' => G np L (zpush r S) w')) : G pc L (As.reverse ++ .ref o :: S) w := by
  refine h.elim fun p l e R s m args below meth c φ cA D A H0 cells slots Qm Ts hG hC hB hK hA hn1 hn2 hn3 hn4 => ?_
  subst hG
  obtain ⟨hd, rfl⟩ := hd
  intro ls H locs hls hP hD hS
  have hC' := hC
  obtain ⟨hx, hb, hml, hown, hts⟩ := hC'
  obtain ⟨hlk, hsame, hsup, hup, hnm, hds, hinst, hini, hcode, hno, hpar, h30⟩ := hl
  have hM := hc l φ cA D H.size
  obtain ⟨cellB, hcB, hoB, hclB⟩ := va_recv hK.1 hP hq (zWS_get hs)
  obtain ⟨-, hfc, kB, hkB, -⟩ := hK.1.1 ci _ hq
  have e0 := Option.some.inj (hfc.symm.trans hclB)
  rw [e0] at hkB
  have hPc : ∀ U : State, U.heap = H → s.WarmedH U.vm → va_Pc ((Value.ref o :: As).map (tv φ)) (zB φ cA D w H.size) (Value.ref (φ o) :: As.map (tv φ)).toArray U :=
    fun U hU hW => ⟨by simp [tv], by rw [hU], by rw [hU]; exact hP, hK.warm hW, hD.weaken (fun _ _ _ _ => trivial)⟩
  have hR1 : (zrm k).frames + 1 ≤ R.frames := Nat.le_trans hn hn1
  have hR2 : 8 + (M.2.2.1 + 11) + (zrm k).locals ≤ R.locals := by show 8 + (M.2.2.1 + 11) + 60 * k ≤ R.locals; omega
  have hst : ((As.reverse ++ .ref o :: S).map (tv φ)) = (As.map (tv φ)).reverse ++ .ref (φ o) :: S.map (tv φ) := by simp [tv]
  rw [hst]
  have hcat' : 2 * (F0 m pc ls ((As.map (tv φ)).reverse ++ .ref (φ o) :: S.map (tv φ))).monitorRoom + ((S.map (tv φ)).map fun v => v.category).sum ≤ 8 := lv_room (by rw [zcat_tv]; exact hcat)
  have hws := zws_good hB hcode
  have hini' := hts _ (hB _ hini)
  have hK' : Back l R p e below s args M.1 3 8 (PreOf R 0 0 (va_Pc ((Value.ref o :: As).map (tv φ)) (zB φ cA D w H.size))) (PostOf (zQc φ cA D (zA φ H.size) (fun r w' => zV p l e R s m args below meth c nL φ cA D A H0 cells slots Qm (pc + 3) L (zpush r S) w')) 0 0 (zA φ H.size)) :=
    back_of (bytes := M.2.1) (maxL := M.2.2.1) (ret := M.2.2.2) hM z_blind rfl rfl hR1 hR2 (pay_in hts hws) List.mem_cons_self (fun a' U hW => word_at hW (Or.inl (by first | rfl | simp [Cond.onTables, Cond.keeps, Cond.steady])) hini')
  refine z_behind (a := (Value.ref (φ o) :: As.map (tv φ)).toArray) (Q := fun r w' => zV p l e R s m args below meth c nL φ cA D A H0 cells slots Qm (pc + 3) L (zpush r S) w') ?_ hls hD hS hA (fun r w' hq => hq)
  intro T hT X
  obtain ⟨mk, methM, hnamed, hmethM, hstM, habM⟩ := Cond.instanceMethod_spec (hts _ (hB _ hinst))
  obtain ⟨methM', cM, hmethM', -, -, -, -, -, -, hsigM⟩ := Cond.code_spec hnamed (hts _ (hB _ hcode))
  cases hmethM.symm.trans hmethM'
  obtain ⟨ps, dk, kp, hps, hdk, hkp, hsuper, -, -, hnid⟩ := Cond.superclass_spec hown (hts _ (hB _ hsup))
  have hn0 : s.methodNamed? ⟨M.1.cls, x.name, x.desc⟩ = some mk := by rw [← hnm, ← hds]; exact hnamed
  have hsub : s.vm.isSubclass ps mk.cls = true := by
    rcases hup with hup | hup
    · have hpm : ps = mk.cls := Option.some.inj (hps.symm.trans (hup ▸ findClass_of_methodNamed hnamed))
      rw [hpm]; simp [Vm.isSubclass, Vm.isSubclassAux]
    · obtain ⟨ps2, dk2, kp2, hps2, hdk2, hkp2, hsuper2, -⟩ := Cond.superclass_spec hps (hts _ (hB _ hup))
      have hpm : ps2 = mk.cls := Option.some.inj (hps2.symm.trans (findClass_of_methodNamed hnamed))
      exact zsub1 hdk2 (hpm ▸ hsuper2)
  have hlen2 : (As.map (tv φ)).length = methM.sig.parameters.length := by
    have h1 := hpar
    rw [hsigM] at h1
    have h2 := (Option.some.inj h1)
    simp only [List.length_map, hlen]
    exact h2.symm
  obtain ⟨vm₁, X₁, hstep₁⟩ := X.invokespecialUp hx hown (hts _ (hB _ hlk)) (hts _ (hB _ hsame)) hn0 hmethM hstM habM hno hdk hnid hps hsuper hsub (a := φ o) (cell := cellB) (by rw [hT]; exact hcB)
    (fun z h => by rw [h] at hoB; cases hoB) hkB (g := F0 m pc ls ((As.map (tv φ)).reverse ++ .ref (φ o) :: S.map (tv φ))) rfl (argsL := As.map (tv φ)) (rest := S.map (tv φ)) hlen2 rfl (by rw [hb]; exact hd)
  obtain ⟨v, ⟨U', l2, c2, s2⟩, X', ⟨g', mk', t, L2, e1, e2, hq2, h1, hL, h2, h3⟩, hsteps⟩ := hK' m meth c ⟨T.setVm vm₁, locs, cells, slots⟩ { F0 m pc ls ((As.map (tv φ)).reverse ++ .ref (φ o) :: S.map (tv φ)) with stack := S.map (tv φ) } (.invokespecial idx) mk (Value.ref (φ o) :: As.map (tv φ)).toArray X₁ rfl (hls.1.trans hml.symm) (by rw [hb]; exact hd) hcat' (X₁.named hnamed) ⟨hn3, hn4, hPc _ hT X₁.warmed⟩
  dsimp only [Pt.U, Pt.locs, Pt.cells, Pt.slots] at X' e1 e2 h1 h2 h3 hsteps
  subst h1; subst h2; subst h3
  exact ⟨v, (T.setVm vm₁).calling g' mk' (Value.ref (φ o) :: As.map (tv φ)).toArray, t, U', L2, hT, X', hL, e1, e2, hq2, fun target h => hstep₁ _ (by rw [doInvoke_state]; exact hsteps.trans h)⟩
end ZSup
end
section
/-! Methods, and what calls and fields ask of the tables. -/
abbrev mX11_init : zM := (yX11_init, cX11_init, 3, none)
theorem ckX11_init : Cond.code yX11_init cX11_init 3 (none) ∈ big := big_in (List.mem_of_getElem? (i := 27) (by decide +kernel)) rfl
abbrev mX0_init : zM := (yX0_init, cX0_init, 1, none)
theorem ckX0_init : Cond.code yX0_init cX0_init 1 (none) ∈ big := big_in (List.mem_of_getElem? (i := 36) (by decide +kernel)) rfl
abbrev mX8_init : zM := (yX8_init, cX8_init, 1, none)
theorem ckX8_init : Cond.code yX8_init cX8_init 1 (none) ∈ big := big_in (List.mem_of_getElem? (i := 43) (by decide +kernel)) rfl
abbrev mX6_init : zM := (yX6_init, cX6_init, 1, none)
theorem ckX6_init : Cond.code yX6_init cX6_init 1 (none) ∈ big := big_in (List.mem_of_getElem? (i := 50) (by decide +kernel)) rfl
abbrev mX3_init : zM := (yX3_init, cX3_init, 1, none)
theorem ckX3_init : Cond.code yX3_init cX3_init 1 (none) ∈ big := big_in (List.mem_of_getElem? (i := 57) (by decide +kernel)) rfl
abbrev mX9_init : zM := (yX9_init, cX9_init, 1, none)
theorem ckX9_init : Cond.code yX9_init cX9_init 1 (none) ∈ big := big_in (List.mem_of_getElem? (i := 64) (by decide +kernel)) rfl
abbrev mX4_init : zM := (yX4_init, cX4_init, 1, none)
theorem ckX4_init : Cond.code yX4_init cX4_init 1 (none) ∈ big := big_in (List.mem_of_getElem? (i := 71) (by decide +kernel)) rfl
abbrev mX1_init : zM := (yX1_init, cX1_init, 1, none)
theorem ckX1_init : Cond.code yX1_init cX1_init 1 (none) ∈ big := big_in (List.mem_of_getElem? (i := 78) (by decide +kernel)) rfl
abbrev mX2_init : zM := (yX2_init, cX2_init, 1, none)
theorem ckX2_init : Cond.code yX2_init cX2_init 1 (none) ∈ big := big_in (List.mem_of_getElem? (i := 85) (by decide +kernel)) rfl
abbrev mX5_init : zM := (yX5_init, cX5_init, 2, none)
theorem ckX5_init : Cond.code yX5_init cX5_init 2 (none) ∈ big := big_in (List.mem_of_getElem? (i := 92) (by decide +kernel)) rfl
abbrev mX7_init : zM := (yX7_init, cX7_init, 1, none)
theorem ckX7_init : Cond.code yX7_init cX7_init 1 (none) ∈ big := big_in (List.mem_of_getElem? (i := 139) (by decide +kernel)) rfl
abbrev mX10_init : zM := (yX10_init, cX10_init, 1, none)
theorem ckX10_init : Cond.code yX10_init cX10_init 1 (none) ∈ big := big_in (List.mem_of_getElem? (i := 180) (by decide +kernel)) rfl
abbrev mX11_heap : zM := (yX11_heap, cX11_heap, 4, some .int)
theorem ckX11_heap : Cond.code yX11_heap cX11_heap 4 (some .int) ∈ big := big_in (List.mem_of_getElem? (i := 232) (by decide +kernel)) rfl
abbrev mX11_bytesRefusal : zM := (yX11_bytesRefusal, cX11_bytesRefusal, 3, some .int)
theorem ckX11_bytesRefusal : Cond.code yX11_bytesRefusal cX11_bytesRefusal 3 (some .int) ∈ big := big_in (List.mem_of_getElem? (i := 236) (by decide +kernel)) rfl
abbrev mX11_shelfRefusal : zM := (yX11_shelfRefusal, cX11_shelfRefusal, 3, some .int)
theorem ckX11_shelfRefusal : Cond.code yX11_shelfRefusal cX11_shelfRefusal 3 (some .int) ∈ big := big_in (List.mem_of_getElem? (i := 240) (by decide +kernel)) rfl
abbrev mX11_isShelf : zM := (yX11_isShelf, cX11_isShelf, 1, some .boolean)
theorem ckX11_isShelf : Cond.code yX11_isShelf cX11_isShelf 1 (some .boolean) ∈ big := big_in (List.mem_of_getElem? (i := 243) (by decide +kernel)) rfl
abbrev mX11_isWithin : zM := (yX11_isWithin, cX11_isWithin, 3, some .boolean)
theorem ckX11_isWithin : Cond.code yX11_isWithin cX11_isWithin 3 (some .boolean) ∈ big := big_in (List.mem_of_getElem? (i := 246) (by decide +kernel)) rfl
abbrev mX10_faultOfForm : zM := (yX10_faultOfForm, cX10_faultOfForm, 4, some .int)
theorem ckX10_faultOfForm : Cond.code yX10_faultOfForm cX10_faultOfForm 4 (some .int) ∈ big := big_in (List.mem_of_getElem? (i := 250) (by decide +kernel)) rfl
abbrev mX10_statementEnd : zM := (yX10_statementEnd, cX10_statementEnd, 3, some .int)
theorem ckX10_statementEnd : Cond.code yX10_statementEnd cX10_statementEnd 3 (some .int) ∈ big := big_in (List.mem_of_getElem? (i := 254) (by decide +kernel)) rfl
abbrev mX10_at : zM := (yX10_at, cX10_at, 2, some .int)
theorem ckX10_at : Cond.code yX10_at cX10_at 2 (some .int) ∈ big := big_in (List.mem_of_getElem? (i := 258) (by decide +kernel)) rfl
abbrev mX10_hasPlace : zM := (yX10_hasPlace, cX10_hasPlace, 2, some .boolean)
theorem ckX10_hasPlace : Cond.code yX10_hasPlace cX10_hasPlace 2 (some .boolean) ∈ big := big_in (List.mem_of_getElem? (i := 262) (by decide +kernel)) rfl
abbrev mX10_digitEnd : zM := (yX10_digitEnd, cX10_digitEnd, 2, some .int)
theorem ckX10_digitEnd : Cond.code yX10_digitEnd cX10_digitEnd 2 (some .int) ∈ big := big_in (List.mem_of_getElem? (i := 266) (by decide +kernel)) rfl
abbrev mX10_isDigit : zM := (yX10_isDigit, cX10_isDigit, 2, some .boolean)
theorem ckX10_isDigit : Cond.code yX10_isDigit cX10_isDigit 2 (some .boolean) ∈ big := big_in (List.mem_of_getElem? (i := 270) (by decide +kernel)) rfl
abbrev mX10_numberEnd : zM := (yX10_numberEnd, cX10_numberEnd, 3, some .int)
theorem ckX10_numberEnd : Cond.code yX10_numberEnd cX10_numberEnd 3 (some .int) ∈ big := big_in (List.mem_of_getElem? (i := 274) (by decide +kernel)) rfl
abbrev mX10_signEnd : zM := (yX10_signEnd, cX10_signEnd, 3, some .int)
theorem ckX10_signEnd : Cond.code yX10_signEnd cX10_signEnd 3 (some .int) ∈ big := big_in (List.mem_of_getElem? (i := 278) (by decide +kernel)) rfl
abbrev mX11_tellAll : zM := (yX11_tellAll, cX11_tellAll, 4, some .int)
theorem ckX11_tellAll : Cond.code yX11_tellAll cX11_tellAll 4 (some .int) ∈ big := big_in (List.mem_of_getElem? (i := 282) (by decide +kernel)) rfl
abbrev mX5_become : zM := (yX5_become, cX5_become, 2, none)
theorem ckX5_become : Cond.code yX5_become cX5_become 2 (none) ∈ big := big_in (List.mem_of_getElem? (i := 286) (by decide +kernel)) rfl
abbrev mX5_tell : zM := (yX5_tell, cX5_tell, 3, some .boolean)
theorem ckX5_tell : Cond.code yX5_tell cX5_tell 3 (some .boolean) ∈ big := big_in (List.mem_of_getElem? (i := 293) (by decide +kernel)) rfl
abbrev mX5_tellBowl : zM := (yX5_tellBowl, cX5_tellBowl, 7, some .boolean)
theorem ckX5_tellBowl : Cond.code yX5_tellBowl cX5_tellBowl 7 (some .boolean) ∈ big := big_in (List.mem_of_getElem? (i := 298) (by decide +kernel)) rfl
abbrev mX10_digitAt : zM := (yX10_digitAt, cX10_digitAt, 2, some .int)
theorem ckX10_digitAt : Cond.code yX10_digitAt cX10_digitAt 2 (some .int) ∈ big := big_in (List.mem_of_getElem? (i := 302) (by decide +kernel)) rfl
abbrev mX10_numberAt : zM := (yX10_numberAt, cX10_numberAt, 3, some .int)
theorem ckX10_numberAt : Cond.code yX10_numberAt cX10_numberAt 3 (some .int) ∈ big := big_in (List.mem_of_getElem? (i := 306) (by decide +kernel)) rfl
abbrev mX5_add : zM := (yX5_add, cX5_add, 6, some .boolean)
theorem ckX5_add : Cond.code yX5_add cX5_add 6 (some .boolean) ∈ big := big_in (List.mem_of_getElem? (i := 312) (by decide +kernel)) rfl
abbrev mX5_place : zM := (yX5_place, cX5_place, 6, none)
theorem ckX5_place : Cond.code yX5_place cX5_place 6 (none) ∈ big := big_in (List.mem_of_getElem? (i := 316) (by decide +kernel)) rfl
abbrev mX5_flip : zM := (yX5_flip, cX5_flip, 2, some .boolean)
theorem ckX5_flip : Cond.code yX5_flip cX5_flip 2 (some .boolean) ∈ big := big_in (List.mem_of_getElem? (i := 320) (by decide +kernel)) rfl
abbrev mX5_has : zM := (yX5_has, cX5_has, 2, some .boolean)
theorem ckX5_has : Cond.code yX5_has cX5_has 2 (some .boolean) ∈ big := big_in (List.mem_of_getElem? (i := 324) (by decide +kernel)) rfl
abbrev mX5_dropLatest : zM := (yX5_dropLatest, cX5_dropLatest, 1, some .boolean)
theorem ckX5_dropLatest : Cond.code yX5_dropLatest cX5_dropLatest 1 (some .boolean) ∈ big := big_in (List.mem_of_getElem? (i := 328) (by decide +kernel)) rfl
abbrev mX11_bowl : zM := (yX11_bowl, cX11_bowl, 3, some .int)
theorem ckX11_bowl : Cond.code yX11_bowl cX11_bowl 3 (some .int) ∈ big := big_in (List.mem_of_getElem? (i := 333) (by decide +kernel)) rfl
abbrev mX5_outsideAt : zM := (yX5_outsideAt, cX5_outsideAt, 3, some .int)
theorem ckX5_outsideAt : Cond.code yX5_outsideAt cX5_outsideAt 3 (some .int) ∈ big := big_in (List.mem_of_getElem? (i := 338) (by decide +kernel)) rfl
abbrev mX6_outside : zM := (yX6_outside, cX6_outside, 4, some .int)
theorem ckX6_outside : Cond.code yX6_outside cX6_outside 4 (some .int) ∈ big := big_in (List.mem_of_getElem? (i := 346) (by decide +kernel)) rfl
abbrev mJ9_max_7cf53 : zM := (yJ9_max_7cf53, cJ9_max_7cf53, 2, some .int)
theorem ckJ9_max_7cf53 : Cond.code yJ9_max_7cf53 cJ9_max_7cf53 2 (some .int) ∈ big := big_in (List.mem_of_getElem? (i := 350) (by decide +kernel)) rfl
abbrev mX4_outside : zM := (yX4_outside, cX4_outside, 4, some .int)
theorem ckX4_outside : Cond.code yX4_outside cX4_outside 4 (some .int) ∈ big := big_in (List.mem_of_getElem? (i := 354) (by decide +kernel)) rfl
abbrev mX8_outside : zM := (yX8_outside, cX8_outside, 4, some .int)
theorem ckX8_outside : Cond.code yX8_outside cX8_outside 4 (some .int) ∈ big := big_in (List.mem_of_getElem? (i := 361) (by decide +kernel)) rfl
abbrev mX9_outside : zM := (yX9_outside, cX9_outside, 4, some .int)
theorem ckX9_outside : Cond.code yX9_outside cX9_outside 4 (some .int) ∈ big := big_in (List.mem_of_getElem? (i := 365) (by decide +kernel)) rfl
abbrev mX0_outside : zM := (yX0_outside, cX0_outside, 4, some .int)
theorem ckX0_outside : Cond.code yX0_outside cX0_outside 4 (some .int) ∈ big := big_in (List.mem_of_getElem? (i := 367) (by decide +kernel)) rfl
abbrev mX5_insideAt : zM := (yX5_insideAt, cX5_insideAt, 4, some .int)
theorem ckX5_insideAt : Cond.code yX5_insideAt cX5_insideAt 4 (some .int) ∈ big := big_in (List.mem_of_getElem? (i := 371) (by decide +kernel)) rfl
abbrev mX3_inside : zM := (yX3_inside, cX3_inside, 5, some .int)
theorem ckX3_inside : Cond.code yX3_inside cX3_inside 5 (some .int) ∈ big := big_in (List.mem_of_getElem? (i := 378) (by decide +kernel)) rfl
abbrev mX6_inside : zM := (yX6_inside, cX6_inside, 5, some .int)
theorem ckX6_inside : Cond.code yX6_inside cX6_inside 5 (some .int) ∈ big := big_in (List.mem_of_getElem? (i := 382) (by decide +kernel)) rfl
abbrev mX4_inside : zM := (yX4_inside, cX4_inside, 5, some .int)
theorem ckX4_inside : Cond.code yX4_inside cX4_inside 5 (some .int) ∈ big := big_in (List.mem_of_getElem? (i := 386) (by decide +kernel)) rfl
abbrev mX8_inside : zM := (yX8_inside, cX8_inside, 5, some .int)
theorem ckX8_inside : Cond.code yX8_inside cX8_inside 5 (some .int) ∈ big := big_in (List.mem_of_getElem? (i := 391) (by decide +kernel)) rfl
abbrev mX0_inside : zM := (yX0_inside, cX0_inside, 5, some .int)
theorem ckX0_inside : Cond.code yX0_inside cX0_inside 5 (some .int) ∈ big := big_in (List.mem_of_getElem? (i := 394) (by decide +kernel)) rfl
abbrev mX5_riseOf : zM := (yX5_riseOf, cX5_riseOf, 2, some .int)
theorem ckX5_riseOf : Cond.code yX5_riseOf cX5_riseOf 2 (some .int) ∈ big := big_in (List.mem_of_getElem? (i := 398) (by decide +kernel)) rfl
abbrev mX1_rise : zM := (yX1_rise, cX1_rise, 2, some .int)
theorem ckX1_rise : Cond.code yX1_rise cX1_rise 2 (some .int) ∈ big := big_in (List.mem_of_getElem? (i := 405) (by decide +kernel)) rfl
abbrev mX3_rise : zM := (yX3_rise, cX3_rise, 2, some .int)
theorem ckX3_rise : Cond.code yX3_rise cX3_rise 2 (some .int) ∈ big := big_in (List.mem_of_getElem? (i := 408) (by decide +kernel)) rfl
abbrev mX2_rise : zM := (yX2_rise, cX2_rise, 2, some .int)
theorem ckX2_rise : Cond.code yX2_rise cX2_rise 2 (some .int) ∈ big := big_in (List.mem_of_getElem? (i := 412) (by decide +kernel)) rfl
abbrev mX6_rise : zM := (yX6_rise, cX6_rise, 2, some .int)
theorem ckX6_rise : Cond.code yX6_rise cX6_rise 2 (some .int) ∈ big := big_in (List.mem_of_getElem? (i := 415) (by decide +kernel)) rfl
abbrev mX0_rise : zM := (yX0_rise, cX0_rise, 2, some .int)
theorem ckX0_rise : Cond.code yX0_rise cX0_rise 2 (some .int) ∈ big := big_in (List.mem_of_getElem? (i := 422) (by decide +kernel)) rfl
abbrev mX11_comes : zM := (yX11_comes, cX11_comes, 6, some .int)
theorem ckX11_comes : Cond.code yX11_comes cX11_comes 6 (some .int) ∈ big := big_in (List.mem_of_getElem? (i := 426) (by decide +kernel)) rfl
abbrev mX11_areHairs : zM := (yX11_areHairs, cX11_areHairs, 1, some .boolean)
theorem ckX11_areHairs : Cond.code yX11_areHairs cX11_areHairs 1 (some .boolean) ∈ big := big_in (List.mem_of_getElem? (i := 429) (by decide +kernel)) rfl
abbrev mX11_bowlRefusal : zM := (yX11_bowlRefusal, cX11_bowlRefusal, 2, some .int)
theorem ckX11_bowlRefusal : Cond.code yX11_bowlRefusal cX11_bowlRefusal 2 (some .int) ∈ big := big_in (List.mem_of_getElem? (i := 433) (by decide +kernel)) rfl
abbrev mX11_warm : zM := (yX11_warm, cX11_warm, 3, some .int)
theorem ckX11_warm : Cond.code yX11_warm cX11_warm 3 (some .int) ∈ big := big_in (List.mem_of_getElem? (i := 438) (by decide +kernel)) rfl
abbrev mX11_isWarmth : zM := (yX11_isWarmth, cX11_isWarmth, 1, some .boolean)
theorem ckX11_isWarmth : Cond.code yX11_isWarmth cX11_isWarmth 1 (some .boolean) ∈ big := big_in (List.mem_of_getElem? (i := 441) (by decide +kernel)) rfl
abbrev mX11_turn : zM := (yX11_turn, cX11_turn, 2, some .int)
theorem ckX11_turn : Cond.code yX11_turn cX11_turn 2 (some .int) ∈ big := big_in (List.mem_of_getElem? (i := 445) (by decide +kernel)) rfl
abbrev mX11_lies : zM := (yX11_lies, cX11_lies, 3, some .int)
theorem ckX11_lies : Cond.code yX11_lies cX11_lies 3 (some .int) ∈ big := big_in (List.mem_of_getElem? (i := 450) (by decide +kernel)) rfl
abbrev mX11_arePair : zM := (yX11_arePair, cX11_arePair, 3, some .boolean)
theorem ckX11_arePair : Cond.code yX11_arePair cX11_arePair 3 (some .boolean) ∈ big := big_in (List.mem_of_getElem? (i := 454) (by decide +kernel)) rfl
abbrev mX5_isIn : zM := (yX5_isIn, cX5_isIn, 4, some .boolean)
theorem ckX5_isIn : Cond.code yX5_isIn cX5_isIn 4 (some .boolean) ∈ big := big_in (List.mem_of_getElem? (i := 458) (by decide +kernel)) rfl
abbrev mX5_agree : zM := (yX5_agree, cX5_agree, 4, some .boolean)
theorem ckX5_agree : Cond.code yX5_agree cX5_agree 4 (some .boolean) ∈ big := big_in (List.mem_of_getElem? (i := 462) (by decide +kernel)) rfl
abbrev mX8_minds : zM := (yX8_minds, cX8_minds, 1, some .boolean)
theorem ckX8_minds : Cond.code yX8_minds cX8_minds 1 (some .boolean) ∈ big := big_in (List.mem_of_getElem? (i := 474) (by decide +kernel)) rfl
abbrev mX0_minds : zM := (yX0_minds, cX0_minds, 1, some .boolean)
theorem ckX0_minds : Cond.code yX0_minds cX0_minds 1 (some .boolean) ∈ big := big_in (List.mem_of_getElem? (i := 476) (by decide +kernel)) rfl
abbrev mX11_nest : zM := (yX11_nest, cX11_nest, 2, some .int)
theorem ckX11_nest : Cond.code yX11_nest cX11_nest 2 (some .int) ∈ big := big_in (List.mem_of_getElem? (i := 482) (by decide +kernel)) rfl
abbrev mX11_areBowls : zM := (yX11_areBowls, cX11_areBowls, 2, some .boolean)
theorem ckX11_areBowls : Cond.code yX11_areBowls cX11_areBowls 2 (some .boolean) ∈ big := big_in (List.mem_of_getElem? (i := 486) (by decide +kernel)) rfl
abbrev mX5_all : zM := (yX5_all, cX5_all, 1, some .int)
theorem ckX5_all : Cond.code yX5_all cX5_all 1 (some .int) ∈ big := big_in (List.mem_of_getElem? (i := 490) (by decide +kernel)) rfl
abbrev mX5_heightOf : zM := (yX5_heightOf, cX5_heightOf, 6, some .int)
theorem ckX5_heightOf : Cond.code yX5_heightOf cX5_heightOf 6 (some .int) ∈ big := big_in (List.mem_of_getElem? (i := 494) (by decide +kernel)) rfl
abbrev mX5_arrange : zM := (yX5_arrange, cX5_arrange, 4, none)
theorem ckX5_arrange : Cond.code yX5_arrange cX5_arrange 4 (none) ∈ big := big_in (List.mem_of_getElem? (i := 498) (by decide +kernel)) rfl
abbrev mX11_height : zM := (yX11_height, cX11_height, 3, some .int)
theorem ckX11_height : Cond.code yX11_height cX11_height 3 (some .int) ∈ big := big_in (List.mem_of_getElem? (i := 504) (by decide +kernel)) rfl
abbrev mX11_longest : zM := (yX11_longest, cX11_longest, 4, some .int)
theorem ckX11_longest : Cond.code yX11_longest cX11_longest 4 (some .int) ∈ big := big_in (List.mem_of_getElem? (i := 508) (by decide +kernel)) rfl
abbrev mX7_findAll : zM := (yX7_findAll, cX7_findAll, 5, none)
theorem ckX7_findAll : Cond.code yX7_findAll cX7_findAll 5 (none) ∈ big := big_in (List.mem_of_getElem? (i := 512) (by decide +kernel)) rfl
abbrev mJ9_min_7cf53 : zM := (yJ9_min_7cf53, cJ9_min_7cf53, 2, some .int)
theorem ckJ9_min_7cf53 : Cond.code yJ9_min_7cf53 cJ9_min_7cf53 2 (some .int) ∈ big := big_in (List.mem_of_getElem? (i := 515) (by decide +kernel)) rfl
abbrev mX7_growBy : zM := (yX7_growBy, cX7_growBy, 7, none)
theorem ckX7_growBy : Cond.code yX7_growBy cX7_growBy 7 (none) ∈ big := big_in (List.mem_of_getElem? (i := 521) (by decide +kernel)) rfl
abbrev mX7_note : zM := (yX7_note, cX7_note, 4, none)
theorem ckX7_note : Cond.code yX7_note cX7_note 4 (none) ∈ big := big_in (List.mem_of_getElem? (i := 526) (by decide +kernel)) rfl
abbrev mX7_longestOf : zM := (yX7_longestOf, cX7_longestOf, 5, some .int)
theorem ckX7_longestOf : Cond.code yX7_longestOf cX7_longestOf 5 (some .int) ∈ big := big_in (List.mem_of_getElem? (i := 530) (by decide +kernel)) rfl
abbrev mX7_isLonger : zM := (yX7_isLonger, cX7_isLonger, 4, some .boolean)
theorem ckX7_isLonger : Cond.code yX7_isLonger cX7_isLonger 4 (some .boolean) ∈ big := big_in (List.mem_of_getElem? (i := 534) (by decide +kernel)) rfl
abbrev mJ6_bitCount_0f7a4 : zM := (yJ6_bitCount_0f7a4, cJ6_bitCount_0f7a4, 1, some .int)
theorem ckJ6_bitCount_0f7a4 : Cond.code yJ6_bitCount_0f7a4 cJ6_bitCount_0f7a4 1 (some .int) ∈ big := big_in (List.mem_of_getElem? (i := 537) (by decide +kernel)) rfl
abbrev mX11_fewest : zM := (yX11_fewest, cX11_fewest, 1, some .int)
theorem ckX11_fewest : Cond.code yX11_fewest cX11_fewest 1 (some .int) ∈ big := big_in (List.mem_of_getElem? (i := 545) (by decide +kernel)) rfl
abbrev mX7_costOneEach : zM := (yX7_costOneEach, cX7_costOneEach, 3, none)
theorem ckX7_costOneEach : Cond.code yX7_costOneEach cX7_costOneEach 3 (none) ∈ big := big_in (List.mem_of_getElem? (i := 550) (by decide +kernel)) rfl
abbrev mX7_leastSum : zM := (yX7_leastSum, cX7_leastSum, 6, some .int)
theorem ckX7_leastSum : Cond.code yX7_leastSum cX7_leastSum 6 (some .int) ∈ big := big_in (List.mem_of_getElem? (i := 555) (by decide +kernel)) rfl
abbrev mX11_apart : zM := (yX11_apart, cX11_apart, 3, some .int)
theorem ckX11_apart : Cond.code yX11_apart cX11_apart 3 (some .int) ∈ big := big_in (List.mem_of_getElem? (i := 559) (by decide +kernel)) rfl
abbrev mX7_mostApart : zM := (yX7_mostApart, cX7_mostApart, 3, some .int)
theorem ckX7_mostApart : Cond.code yX7_mostApart cX7_mostApart 3 (some .int) ∈ big := big_in (List.mem_of_getElem? (i := 563) (by decide +kernel)) rfl
abbrev mX7_isApart : zM := (yX7_isApart, cX7_isApart, 3, some .boolean)
theorem ckX7_isApart : Cond.code yX7_isApart cX7_isApart 3 (some .boolean) ∈ big := big_in (List.mem_of_getElem? (i := 567) (by decide +kernel)) rfl
abbrev mX11_carry : zM := (yX11_carry, cX11_carry, 1, some .int)
theorem ckX11_carry : Cond.code yX11_carry cX11_carry 1 (some .int) ∈ big := big_in (List.mem_of_getElem? (i := 571) (by decide +kernel)) rfl
abbrev mX7_costHeights : zM := (yX7_costHeights, cX7_costHeights, 2, none)
theorem ckX7_costHeights : Cond.code yX7_costHeights cX7_costHeights 2 (none) ∈ big := big_in (List.mem_of_getElem? (i := 575) (by decide +kernel)) rfl
abbrev mX11_load : zM := (yX11_load, cX11_load, 3, some .int)
theorem ckX11_load : Cond.code yX11_load cX11_load 3 (some .int) ∈ big := big_in (List.mem_of_getElem? (i := 579) (by decide +kernel)) rfl
abbrev mX11_whole : zM := (yX11_whole, cX11_whole, 2, some .int)
theorem ckX11_whole : Cond.code yX11_whole cX11_whole 2 (some .int) ∈ big := big_in (List.mem_of_getElem? (i := 583) (by decide +kernel)) rfl
abbrev mX7_costLessForSetsOf : zM := (yX7_costLessForSetsOf, cX7_costLessForSetsOf, 4, none)
theorem ckX7_costLessForSetsOf : Cond.code yX7_costLessForSetsOf cX7_costLessForSetsOf 4 (none) ∈ big := big_in (List.mem_of_getElem? (i := 587) (by decide +kernel)) rfl
abbrev mX11_throwsNew : zM := (yX11_throwsNew, cX11_throwsNew, 6, some .int)
theorem ckX11_throwsNew : Cond.code yX11_throwsNew cX11_throwsNew 6 (some .int) ∈ big := big_in (List.mem_of_getElem? (i := 591) (by decide +kernel)) rfl
abbrev mX5_think : zM := (yX5_think, cX5_think, 3, some .int)
theorem ckX5_think : Cond.code yX5_think cX5_think 3 (some .int) ∈ big := big_in (List.mem_of_getElem? (i := 596) (by decide +kernel)) rfl
abbrev mX11_isBridged : zM := (yX11_isBridged, cX11_isBridged, 5, some .boolean)
theorem ckX11_isBridged : Cond.code yX11_isBridged cX11_isBridged 5 (some .boolean) ∈ big := big_in (List.mem_of_getElem? (i := 600) (by decide +kernel)) rfl
abbrev mX11_helps : zM := (yX11_helps, cX11_helps, 8, some .int)
theorem ckX11_helps : Cond.code yX11_helps cX11_helps 8 (some .int) ∈ big := big_in (List.mem_of_getElem? (i := 604) (by decide +kernel)) rfl
abbrev mX7_findChains : zM := (yX7_findChains, cX7_findChains, 3, none)
theorem ckX7_findChains : Cond.code yX7_findChains cX7_findChains 3 (none) ∈ big := big_in (List.mem_of_getElem? (i := 608) (by decide +kernel)) rfl
abbrev mX7_lengthenInward : zM := (yX7_lengthenInward, cX7_lengthenInward, 3, none)
theorem ckX7_lengthenInward : Cond.code yX7_lengthenInward cX7_lengthenInward 3 (none) ∈ big := big_in (List.mem_of_getElem? (i := 612) (by decide +kernel)) rfl
abbrev mX7_lengthenOutward : zM := (yX7_lengthenOutward, cX7_lengthenOutward, 3, none)
theorem ckX7_lengthenOutward : Cond.code yX7_lengthenOutward cX7_lengthenOutward 3 (none) ∈ big := big_in (List.mem_of_getElem? (i := 617) (by decide +kernel)) rfl
abbrev mX7_longestWith : zM := (yX7_longestWith, cX7_longestWith, 7, some .int)
theorem ckX7_longestWith : Cond.code yX7_longestWith cX7_longestWith 7 (some .int) ∈ big := big_in (List.mem_of_getElem? (i := 621) (by decide +kernel)) rfl
abbrev mX11_out : zM := (yX11_out, cX11_out, 7, some .int)
theorem ckX11_out : Cond.code yX11_out cX11_out 7 (some .int) ∈ big := big_in (List.mem_of_getElem? (i := 625) (by decide +kernel)) rfl
abbrev mX11_firstMisplaced : zM := (yX11_firstMisplaced, cX11_firstMisplaced, 5, some .int)
theorem ckX11_firstMisplaced : Cond.code yX11_firstMisplaced cX11_firstMisplaced 5 (some .int) ∈ big := big_in (List.mem_of_getElem? (i := 629) (by decide +kernel)) rfl
abbrev mX11_judge : zM := (yX11_judge, cX11_judge, 4, some .int)
theorem ckX11_judge : Cond.code yX11_judge cX11_judge 4 (some .int) ∈ big := big_in (List.mem_of_getElem? (i := 634) (by decide +kernel)) rfl
abbrev mX11_rowRefusal : zM := (yX11_rowRefusal, cX11_rowRefusal, 2, some .int)
theorem ckX11_rowRefusal : Cond.code yX11_rowRefusal cX11_rowRefusal 2 (some .int) ∈ big := big_in (List.mem_of_getElem? (i := 638) (by decide +kernel)) rfl
abbrev mX11_spans : zM := (yX11_spans, cX11_spans, 4, some .int)
theorem ckX11_spans : Cond.code yX11_spans cX11_spans 4 (some .int) ∈ big := big_in (List.mem_of_getElem? (i := 642) (by decide +kernel)) rfl
abbrev mX5_spanned : zM := (yX5_spanned, cX5_spanned, 9, some .int)
theorem ckX5_spanned : Cond.code yX5_spanned cX5_spanned 9 (some .int) ∈ big := big_in (List.mem_of_getElem? (i := 646) (by decide +kernel)) rfl
abbrev mX11_next : zM := (yX11_next, cX11_next, 7, some .int)
theorem ckX11_next : Cond.code yX11_next cX11_next 7 (some .int) ∈ big := big_in (List.mem_of_getElem? (i := 651) (by decide +kernel)) rfl
abbrev mX11_pairsPerhaps : zM := (yX11_pairsPerhaps, cX11_pairsPerhaps, 8, some .int)
theorem ckX11_pairsPerhaps : Cond.code yX11_pairsPerhaps cX11_pairsPerhaps 8 (some .int) ∈ big := big_in (List.mem_of_getElem? (i := 655) (by decide +kernel)) rfl
abbrev mX11_from : zM := (yX11_from, cX11_from, 7, some .int)
theorem ckX11_from : Cond.code yX11_from cX11_from 7 (some .int) ∈ big := big_in (List.mem_of_getElem? (i := 659) (by decide +kernel)) rfl
abbrev mX11_breaks : zM := (yX11_breaks, cX11_breaks, 5, some .int)
theorem ckX11_breaks : Cond.code yX11_breaks cX11_breaks 5 (some .int) ∈ big := big_in (List.mem_of_getElem? (i := 663) (by decide +kernel)) rfl
abbrev mX11_brokenBy : zM := (yX11_brokenBy, cX11_brokenBy, 7, some .int)
theorem ckX11_brokenBy : Cond.code yX11_brokenBy cX11_brokenBy 7 (some .int) ∈ big := big_in (List.mem_of_getElem? (i := 667) (by decide +kernel)) rfl
abbrev mX11_image : zM := (yX11_image, cX11_image, 1, some .int)
theorem ckX11_image : Cond.code yX11_image cX11_image 1 (some .int) ∈ big := big_in (List.mem_of_getElem? (i := 674) (by decide +kernel)) rfl
abbrev mX11_restore : zM := (yX11_restore, cX11_restore, 1, some .int)
theorem ckX11_restore : Cond.code yX11_restore cX11_restore 1 (some .int) ∈ big := big_in (List.mem_of_getElem? (i := 678) (by decide +kernel)) rfl
abbrev mX11_count : zM := (yX11_count, cX11_count, 2, some .int)
theorem ckX11_count : Cond.code yX11_count cX11_count 2 (some .int) ∈ big := big_in (List.mem_of_getElem? (i := 682) (by decide +kernel)) rfl
abbrev mX5_pairsIn : zM := (yX5_pairsIn, cX5_pairsIn, 4, some .int)
theorem ckX5_pairsIn : Cond.code yX5_pairsIn cX5_pairsIn 4 (some .int) ∈ big := big_in (List.mem_of_getElem? (i := 686) (by decide +kernel)) rfl
abbrev mX5_allDepths : zM := (yX5_allDepths, cX5_allDepths, 3, some .int)
theorem ckX5_allDepths : Cond.code yX5_allDepths cX5_allDepths 3 (some .int) ∈ big := big_in (List.mem_of_getElem? (i := 690) (by decide +kernel)) rfl
abbrev mX11_keep : zM := (yX11_keep, cX11_keep, 5, some .int)
theorem ckX11_keep : Cond.code yX11_keep cX11_keep 5 (some .int) ∈ big := big_in (List.mem_of_getElem? (i := 694) (by decide +kernel)) rfl
abbrev mX10_clear : zM := (yX10_clear, cX10_clear, 1, none)
theorem ckX10_clear : Cond.code yX10_clear cX10_clear 1 (none) ∈ big := big_in (List.mem_of_getElem? (i := 698) (by decide +kernel)) rfl
abbrev mX10_holdBowl : zM := (yX10_holdBowl, cX10_holdBowl, 3, none)
theorem ckX10_holdBowl : Cond.code yX10_holdBowl cX10_holdBowl 3 (none) ∈ big := big_in (List.mem_of_getElem? (i := 702) (by decide +kernel)) rfl
abbrev mX11_row : zM := (yX11_row, cX11_row, 4, some .int)
theorem ckX11_row : Cond.code yX11_row cX11_row 4 (some .int) ∈ big := big_in (List.mem_of_getElem? (i := 706) (by decide +kernel)) rfl
abbrev mX10_holdRow : zM := (yX10_holdRow, cX10_holdRow, 4, none)
theorem ckX10_holdRow : Cond.code yX10_holdRow cX10_holdRow 4 (none) ∈ big := big_in (List.mem_of_getElem? (i := 710) (by decide +kernel)) rfl
abbrev mX11_put : zM := (yX11_put, cX11_put, 5, some .int)
theorem ckX11_put : Cond.code yX11_put cX11_put 5 (some .int) ∈ big := big_in (List.mem_of_getElem? (i := 714) (by decide +kernel)) rfl
abbrev mX10_set : zM := (yX10_set, cX10_set, 3, none)
theorem ckX10_set : Cond.code yX10_set cX10_set 3 (none) ∈ big := big_in (List.mem_of_getElem? (i := 719) (by decide +kernel)) rfl
abbrev mX11_copy : zM := (yX11_copy, cX11_copy, 8, some .int)
theorem ckX11_copy : Cond.code yX11_copy cX11_copy 8 (some .int) ∈ big := big_in (List.mem_of_getElem? (i := 723) (by decide +kernel)) rfl
abbrev mX10_hasStretch : zM := (yX10_hasStretch, cX10_hasStretch, 3, some .boolean)
theorem ckX10_hasStretch : Cond.code yX10_hasStretch cX10_hasStretch 3 (some .boolean) ∈ big := big_in (List.mem_of_getElem? (i := 727) (by decide +kernel)) rfl
abbrev mX11_price : zM := (yX11_price, cX11_price, 3, some .int)
theorem ckX11_price : Cond.code yX11_price cX11_price 3 (some .int) ∈ big := big_in (List.mem_of_getElem? (i := 732) (by decide +kernel)) rfl
abbrev mX1_cost : zM := (yX1_cost, cX1_cost, 2, some .int)
theorem ckX1_cost : Cond.code yX1_cost cX1_cost 2 (some .int) ∈ big := big_in (List.mem_of_getElem? (i := 739) (by decide +kernel)) rfl
abbrev mX3_cost : zM := (yX3_cost, cX3_cost, 2, some .int)
theorem ckX3_cost : Cond.code yX3_cost cX3_cost 2 (some .int) ∈ big := big_in (List.mem_of_getElem? (i := 742) (by decide +kernel)) rfl
abbrev mX2_cost : zM := (yX2_cost, cX2_cost, 2, some .int)
theorem ckX2_cost : Cond.code yX2_cost cX2_cost 2 (some .int) ∈ big := big_in (List.mem_of_getElem? (i := 746) (by decide +kernel)) rfl
abbrev mX6_cost : zM := (yX6_cost, cX6_cost, 2, some .int)
theorem ckX6_cost : Cond.code yX6_cost cX6_cost 2 (some .int) ∈ big := big_in (List.mem_of_getElem? (i := 749) (by decide +kernel)) rfl
abbrev mX4_cost : zM := (yX4_cost, cX4_cost, 2, some .int)
theorem ckX4_cost : Cond.code yX4_cost cX4_cost 2 (some .int) ∈ big := big_in (List.mem_of_getElem? (i := 754) (by decide +kernel)) rfl
abbrev mX8_cost : zM := (yX8_cost, cX8_cost, 2, some .int)
theorem ckX8_cost : Cond.code yX8_cost cX8_cost 2 (some .int) ∈ big := big_in (List.mem_of_getElem? (i := 759) (by decide +kernel)) rfl
abbrev mX9_cost : zM := (yX9_cost, cX9_cost, 2, some .int)
theorem ckX9_cost : Cond.code yX9_cost cX9_cost 2 (some .int) ∈ big := big_in (List.mem_of_getElem? (i := 763) (by decide +kernel)) rfl
abbrev mX0_cost : zM := (yX0_cost, cX0_cost, 2, some .int)
theorem ckX0_cost : Cond.code yX0_cost cX0_cost 2 (some .int) ∈ big := big_in (List.mem_of_getElem? (i := 765) (by decide +kernel)) rfl
abbrev mX2_fail : zM := (yX2_fail, cX2_fail, 2, none)
theorem ckX2_fail : Cond.code yX2_fail cX2_fail 2 (none) ∈ big := big_in (List.mem_of_getElem? (i := 780) (by decide +kernel)) rfl
abbrev mX4_fail : zM := (yX4_fail, cX4_fail, 2, none)
theorem ckX4_fail : Cond.code yX4_fail cX4_fail 2 (none) ∈ big := big_in (List.mem_of_getElem? (i := 852) (by decide +kernel)) rfl
abbrev mX9_fail : zM := (yX9_fail, cX9_fail, 2, none)
theorem ckX9_fail : Cond.code yX9_fail cX9_fail 2 (none) ∈ big := big_in (List.mem_of_getElem? (i := 873) (by decide +kernel)) rfl
abbrev mX0_fail : zM := (yX0_fail, cX0_fail, 2, none)
theorem ckX0_fail : Cond.code yX0_fail cX0_fail 2 (none) ∈ big := big_in (List.mem_of_getElem? (i := 874) (by decide +kernel)) rfl
abbrev mX11_element : zM := (yX11_element, cX11_element, 3, some .long)
theorem ckX11_element : Cond.code yX11_element cX11_element 3 (some .long) ∈ big := big_in (List.mem_of_getElem? (i := 899) (by decide +kernel)) rfl
abbrev mX12_init : zM := (yX12_init, cX12_init, 1, none)
theorem ckX12_init : Cond.code yX12_init cX12_init 1 (none) ∈ big := big_in (List.mem_of_getElem? (i := 908) (by decide +kernel)) rfl
abbrev mX12_thrown : zM := (yX12_thrown, cX12_thrown, 1, some .int)
theorem ckX12_thrown : Cond.code yX12_thrown cX12_thrown 1 (some .int) ∈ big := big_in (List.mem_of_getElem? (i := 974) (by decide +kernel)) rfl
abbrev mX12_heap : zM := (yX12_heap, cX12_heap, 7, some .int)
theorem ckX12_heap : Cond.code yX12_heap cX12_heap 7 (some .int) ∈ big := big_in (List.mem_of_getElem? (i := 978) (by decide +kernel)) rfl
abbrev mX12_wrongRow : zM := (yX12_wrongRow, cX12_wrongRow, 3, some .int)
theorem ckX12_wrongRow : Cond.code yX12_wrongRow cX12_wrongRow 3 (some .int) ∈ big := big_in (List.mem_of_getElem? (i := 982) (by decide +kernel)) rfl
abbrev mX12_isShelf : zM := (yX12_isShelf, cX12_isShelf, 1, some .boolean)
theorem ckX12_isShelf : Cond.code yX12_isShelf cX12_isShelf 1 (some .boolean) ∈ big := big_in (List.mem_of_getElem? (i := 985) (by decide +kernel)) rfl
abbrev mX12_isIn : zM := (yX12_isIn, cX12_isIn, 6, some .boolean)
theorem ckX12_isIn : Cond.code yX12_isIn cX12_isIn 6 (some .boolean) ∈ big := big_in (List.mem_of_getElem? (i := 989) (by decide +kernel)) rfl
abbrev mX12_readsStatement : zM := (yX12_readsStatement, cX12_readsStatement, 3, some .boolean)
theorem ckX12_readsStatement : Cond.code yX12_readsStatement cX12_readsStatement 3 (some .boolean) ∈ big := big_in (List.mem_of_getElem? (i := 993) (by decide +kernel)) rfl
abbrev mX12_here : zM := (yX12_here, cX12_here, 1, some .int)
theorem ckX12_here : Cond.code yX12_here cX12_here 1 (some .int) ∈ big := big_in (List.mem_of_getElem? (i := 997) (by decide +kernel)) rfl
abbrev mX12_readsNumber : zM := (yX12_readsNumber, cX12_readsNumber, 3, some .boolean)
theorem ckX12_readsNumber : Cond.code yX12_readsNumber cX12_readsNumber 3 (some .boolean) ∈ big := big_in (List.mem_of_getElem? (i := 1001) (by decide +kernel)) rfl
abbrev mX12_isDigit : zM := (yX12_isDigit, cX12_isDigit, 1, some .boolean)
theorem ckX12_isDigit : Cond.code yX12_isDigit cX12_isDigit 1 (some .boolean) ∈ big := big_in (List.mem_of_getElem? (i := 1005) (by decide +kernel)) rfl
abbrev mX12_takes : zM := (yX12_takes, cX12_takes, 2, some .boolean)
theorem ckX12_takes : Cond.code yX12_takes cX12_takes 2 (some .boolean) ∈ big := big_in (List.mem_of_getElem? (i := 1011) (by decide +kernel)) rfl
abbrev mX12_lays : zM := (yX12_lays, cX12_lays, 3, none)
theorem ckX12_lays : Cond.code yX12_lays cX12_lays 3 (none) ∈ big := big_in (List.mem_of_getElem? (i := 1014) (by decide +kernel)) rfl
abbrev mX12_comesTold : zM := (yX12_comesTold, cX12_comesTold, 5, some .boolean)
theorem ckX12_comesTold : Cond.code yX12_comesTold cX12_comesTold 5 (some .boolean) ∈ big := big_in (List.mem_of_getElem? (i := 1018) (by decide +kernel)) rfl
abbrev mX12_puts : zM := (yX12_puts, cX12_puts, 4, none)
theorem ckX12_puts : Cond.code yX12_puts cX12_puts 4 (none) ∈ big := big_in (List.mem_of_getElem? (i := 1022) (by decide +kernel)) rfl
abbrev mX12_isBowl : zM := (yX12_isBowl, cX12_isBowl, 2, some .boolean)
theorem ckX12_isBowl : Cond.code yX12_isBowl cX12_isBowl 2 (some .boolean) ∈ big := big_in (List.mem_of_getElem? (i := 1026) (by decide +kernel)) rfl
abbrev mX12_get : zM := (yX12_get, cX12_get, 3, some .int)
theorem ckX12_get : Cond.code yX12_get cX12_get 3 (some .int) ∈ big := big_in (List.mem_of_getElem? (i := 1030) (by decide +kernel)) rfl
abbrev mX12_bowl : zM := (yX12_bowl, cX12_bowl, 3, some .int)
theorem ckX12_bowl : Cond.code yX12_bowl cX12_bowl 3 (some .int) ∈ big := big_in (List.mem_of_getElem? (i := 1034) (by decide +kernel)) rfl
abbrev mX12_outside : zM := (yX12_outside, cX12_outside, 2, some .int)
theorem ckX12_outside : Cond.code yX12_outside cX12_outside 2 (some .int) ∈ big := big_in (List.mem_of_getElem? (i := 1038) (by decide +kernel)) rfl
abbrev mX12_outsideBy : zM := (yX12_outsideBy, cX12_outsideBy, 4, some .int)
theorem ckX12_outsideBy : Cond.code yX12_outsideBy cX12_outsideBy 4 (some .int) ∈ big := big_in (List.mem_of_getElem? (i := 1042) (by decide +kernel)) rfl
abbrev mX12_turned : zM := (yX12_turned, cX12_turned, 2, some .int)
theorem ckX12_turned : Cond.code yX12_turned cX12_turned 2 (some .int) ∈ big := big_in (List.mem_of_getElem? (i := 1046) (by decide +kernel)) rfl
abbrev mX12_inside : zM := (yX12_inside, cX12_inside, 2, some .int)
theorem ckX12_inside : Cond.code yX12_inside cX12_inside 2 (some .int) ∈ big := big_in (List.mem_of_getElem? (i := 1050) (by decide +kernel)) rfl
abbrev mX12_insideBy : zM := (yX12_insideBy, cX12_insideBy, 5, some .int)
theorem ckX12_insideBy : Cond.code yX12_insideBy cX12_insideBy 5 (some .int) ∈ big := big_in (List.mem_of_getElem? (i := 1054) (by decide +kernel)) rfl
abbrev mX12_rise : zM := (yX12_rise, cX12_rise, 2, some .int)
theorem ckX12_rise : Cond.code yX12_rise cX12_rise 2 (some .int) ∈ big := big_in (List.mem_of_getElem? (i := 1058) (by decide +kernel)) rfl
abbrev mX12_comes : zM := (yX12_comes, cX12_comes, 6, some .int)
theorem ckX12_comes : Cond.code yX12_comes cX12_comes 6 (some .int) ∈ big := big_in (List.mem_of_getElem? (i := 1062) (by decide +kernel)) rfl
abbrev mX12_wrongKept : zM := (yX12_wrongKept, cX12_wrongKept, 2, some .int)
theorem ckX12_wrongKept : Cond.code yX12_wrongKept cX12_wrongKept 2 (some .int) ∈ big := big_in (List.mem_of_getElem? (i := 1067) (by decide +kernel)) rfl
abbrev mX12_adds : zM := (yX12_adds, cX12_adds, 6, none)
theorem ckX12_adds : Cond.code yX12_adds cX12_adds 6 (none) ∈ big := big_in (List.mem_of_getElem? (i := 1071) (by decide +kernel)) rfl
abbrev mX12_warm : zM := (yX12_warm, cX12_warm, 3, some .int)
theorem ckX12_warm : Cond.code yX12_warm cX12_warm 3 (some .int) ∈ big := big_in (List.mem_of_getElem? (i := 1075) (by decide +kernel)) rfl
abbrev mX12_turn : zM := (yX12_turn, cX12_turn, 2, some .int)
theorem ckX12_turn : Cond.code yX12_turn cX12_turn 2 (some .int) ∈ big := big_in (List.mem_of_getElem? (i := 1080) (by decide +kernel)) rfl
abbrev mX12_lies : zM := (yX12_lies, cX12_lies, 3, some .int)
theorem ckX12_lies : Cond.code yX12_lies cX12_lies 3 (some .int) ∈ big := big_in (List.mem_of_getElem? (i := 1084) (by decide +kernel)) rfl
abbrev mX12_liesNow : zM := (yX12_liesNow, cX12_liesNow, 3, some .boolean)
theorem ckX12_liesNow : Cond.code yX12_liesNow cX12_liesNow 3 (some .boolean) ∈ big := big_in (List.mem_of_getElem? (i := 1088) (by decide +kernel)) rfl
abbrev mX12_liesAt : zM := (yX12_liesAt, cX12_liesAt, 4, some .boolean)
theorem ckX12_liesAt : Cond.code yX12_liesAt cX12_liesAt 4 (some .boolean) ∈ big := big_in (List.mem_of_getElem? (i := 1092) (by decide +kernel)) rfl
abbrev mX12_fitsBut : zM := (yX12_fitsBut, cX12_fitsBut, 3, some .boolean)
theorem ckX12_fitsBut : Cond.code yX12_fitsBut cX12_fitsBut 3 (some .boolean) ∈ big := big_in (List.mem_of_getElem? (i := 1096) (by decide +kernel)) rfl
abbrev mX12_isOval : zM := (yX12_isOval, cX12_isOval, 2, some .boolean)
theorem ckX12_isOval : Cond.code yX12_isOval cX12_isOval 2 (some .boolean) ∈ big := big_in (List.mem_of_getElem? (i := 1100) (by decide +kernel)) rfl
abbrev mX12_nest : zM := (yX12_nest, cX12_nest, 2, some .int)
theorem ckX12_nest : Cond.code yX12_nest cX12_nest 2 (some .int) ∈ big := big_in (List.mem_of_getElem? (i := 1104) (by decide +kernel)) rfl
abbrev mX12_areBowls : zM := (yX12_areBowls, cX12_areBowls, 2, some .boolean)
theorem ckX12_areBowls : Cond.code yX12_areBowls cX12_areBowls 2 (some .boolean) ∈ big := big_in (List.mem_of_getElem? (i := 1108) (by decide +kernel)) rfl
abbrev mX12_everything : zM := (yX12_everything, cX12_everything, 1, some .int)
theorem ckX12_everything : Cond.code yX12_everything cX12_everything 1 (some .int) ∈ big := big_in (List.mem_of_getElem? (i := 1112) (by decide +kernel)) rfl
abbrev mX12_isNest : zM := (yX12_isNest, cX12_isNest, 5, some .boolean)
theorem ckX12_isNest : Cond.code yX12_isNest cX12_isNest 5 (some .boolean) ∈ big := big_in (List.mem_of_getElem? (i := 1116) (by decide +kernel)) rfl
abbrev mX12_outermost : zM := (yX12_outermost, cX12_outermost, 4, some .int)
theorem ckX12_outermost : Cond.code yX12_outermost cX12_outermost 4 (some .int) ∈ big := big_in (List.mem_of_getElem? (i := 1120) (by decide +kernel)) rfl
abbrev mX12_height : zM := (yX12_height, cX12_height, 2, some .int)
theorem ckX12_height : Cond.code yX12_height cX12_height 2 (some .int) ∈ big := big_in (List.mem_of_getElem? (i := 1124) (by decide +kernel)) rfl
abbrev mX12_heightOf : zM := (yX12_heightOf, cX12_heightOf, 5, some .int)
theorem ckX12_heightOf : Cond.code yX12_heightOf cX12_heightOf 5 (some .int) ∈ big := big_in (List.mem_of_getElem? (i := 1128) (by decide +kernel)) rfl
abbrev mX12_longest : zM := (yX12_longest, cX12_longest, 4, some .int)
theorem ckX12_longest : Cond.code yX12_longest cX12_longest 4 (some .int) ∈ big := big_in (List.mem_of_getElem? (i := 1132) (by decide +kernel)) rfl
abbrev mX12_longestOf : zM := (yX12_longestOf, cX12_longestOf, 4, some .int)
theorem ckX12_longestOf : Cond.code yX12_longestOf cX12_longestOf 4 (some .int) ∈ big := big_in (List.mem_of_getElem? (i := 1136) (by decide +kernel)) rfl
abbrev mX12_bits : zM := (yX12_bits, cX12_bits, 3, some .int)
theorem ckX12_bits : Cond.code yX12_bits cX12_bits 3 (some .int) ∈ big := big_in (List.mem_of_getElem? (i := 1139) (by decide +kernel)) rfl
abbrev mX12_fewest : zM := (yX12_fewest, cX12_fewest, 1, some .int)
theorem ckX12_fewest : Cond.code yX12_fewest cX12_fewest 1 (some .int) ∈ big := big_in (List.mem_of_getElem? (i := 1143) (by decide +kernel)) rfl
abbrev mX12_leastOf : zM := (yX12_leastOf, cX12_leastOf, 7, some .int)
theorem ckX12_leastOf : Cond.code yX12_leastOf cX12_leastOf 7 (some .int) ∈ big := big_in (List.mem_of_getElem? (i := 1147) (by decide +kernel)) rfl
abbrev mX12_counted : zM := (yX12_counted, cX12_counted, 5, some .int)
theorem ckX12_counted : Cond.code yX12_counted cX12_counted 5 (some .int) ∈ big := big_in (List.mem_of_getElem? (i := 1151) (by decide +kernel)) rfl
abbrev mX12_carry : zM := (yX12_carry, cX12_carry, 1, some .int)
theorem ckX12_carry : Cond.code yX12_carry cX12_carry 1 (some .int) ∈ big := big_in (List.mem_of_getElem? (i := 1156) (by decide +kernel)) rfl
abbrev mX12_load : zM := (yX12_load, cX12_load, 3, some .int)
theorem ckX12_load : Cond.code yX12_load cX12_load 3 (some .int) ∈ big := big_in (List.mem_of_getElem? (i := 1160) (by decide +kernel)) rfl
abbrev mX12_apart : zM := (yX12_apart, cX12_apart, 4, some .int)
theorem ckX12_apart : Cond.code yX12_apart cX12_apart 4 (some .int) ∈ big := big_in (List.mem_of_getElem? (i := 1164) (by decide +kernel)) rfl
abbrev mX12_areApart : zM := (yX12_areApart, cX12_areApart, 4, some .boolean)
theorem ckX12_areApart : Cond.code yX12_areApart cX12_areApart 4 (some .boolean) ∈ big := big_in (List.mem_of_getElem? (i := 1168) (by decide +kernel)) rfl
abbrev mX12_whole : zM := (yX12_whole, cX12_whole, 2, some .int)
theorem ckX12_whole : Cond.code yX12_whole cX12_whole 2 (some .int) ∈ big := big_in (List.mem_of_getElem? (i := 1172) (by decide +kernel)) rfl
abbrev mX12_wholeOf : zM := (yX12_wholeOf, cX12_wholeOf, 7, some .int)
theorem ckX12_wholeOf : Cond.code yX12_wholeOf cX12_wholeOf 7 (some .int) ∈ big := big_in (List.mem_of_getElem? (i := 1176) (by decide +kernel)) rfl
abbrev mX12_throwsNew : zM := (yX12_throwsNew, cX12_throwsNew, 5, some .int)
theorem ckX12_throwsNew : Cond.code yX12_throwsNew cX12_throwsNew 5 (some .int) ∈ big := big_in (List.mem_of_getElem? (i := 1180) (by decide +kernel)) rfl
abbrev mX12_canBeBetween : zM := (yX12_canBeBetween, cX12_canBeBetween, 6, some .boolean)
theorem ckX12_canBeBetween : Cond.code yX12_canBeBetween cX12_canBeBetween 6 (some .boolean) ∈ big := big_in (List.mem_of_getElem? (i := 1184) (by decide +kernel)) rfl
abbrev mX12_helps : zM := (yX12_helps, cX12_helps, 7, some .int)
theorem ckX12_helps : Cond.code yX12_helps cX12_helps 7 (some .int) ∈ big := big_in (List.mem_of_getElem? (i := 1188) (by decide +kernel)) rfl
abbrev mX12_longestRow : zM := (yX12_longestRow, cX12_longestRow, 6, some .int)
theorem ckX12_longestRow : Cond.code yX12_longestRow cX12_longestRow 6 (some .int) ∈ big := big_in (List.mem_of_getElem? (i := 1192) (by decide +kernel)) rfl
abbrev mX12_out : zM := (yX12_out, cX12_out, 6, some .int)
theorem ckX12_out : Cond.code yX12_out cX12_out 6 (some .int) ∈ big := big_in (List.mem_of_getElem? (i := 1196) (by decide +kernel)) rfl
abbrev mX12_wrongOut : zM := (yX12_wrongOut, cX12_wrongOut, 3, some .int)
theorem ckX12_wrongOut : Cond.code yX12_wrongOut cX12_wrongOut 3 (some .int) ∈ big := big_in (List.mem_of_getElem? (i := 1200) (by decide +kernel)) rfl
abbrev mX12_wrongAt : zM := (yX12_wrongAt, cX12_wrongAt, 5, some .int)
theorem ckX12_wrongAt : Cond.code yX12_wrongAt cX12_wrongAt 5 (some .int) ∈ big := big_in (List.mem_of_getElem? (i := 1204) (by decide +kernel)) rfl
abbrev mX12_judge : zM := (yX12_judge, cX12_judge, 3, some .int)
theorem ckX12_judge : Cond.code yX12_judge cX12_judge 3 (some .int) ∈ big := big_in (List.mem_of_getElem? (i := 1208) (by decide +kernel)) rfl
abbrev mX12_spans : zM := (yX12_spans, cX12_spans, 4, some .int)
theorem ckX12_spans : Cond.code yX12_spans cX12_spans 4 (some .int) ∈ big := big_in (List.mem_of_getElem? (i := 1212) (by decide +kernel)) rfl
abbrev mX12_spanOf : zM := (yX12_spanOf, cX12_spanOf, 7, some .int)
theorem ckX12_spanOf : Cond.code yX12_spanOf cX12_spanOf 7 (some .int) ∈ big := big_in (List.mem_of_getElem? (i := 1216) (by decide +kernel)) rfl
abbrev mX12_narrow : zM := (yX12_narrow, cX12_narrow, 2, some .int)
theorem ckX12_narrow : Cond.code yX12_narrow cX12_narrow 2 (some .int) ∈ big := big_in (List.mem_of_getElem? (i := 1219) (by decide +kernel)) rfl
abbrev mX12_next : zM := (yX12_next, cX12_next, 7, some .int)
theorem ckX12_next : Cond.code yX12_next cX12_next 7 (some .int) ∈ big := big_in (List.mem_of_getElem? (i := 1223) (by decide +kernel)) rfl
abbrev mX12_perhaps : zM := (yX12_perhaps, cX12_perhaps, 6, some .int)
theorem ckX12_perhaps : Cond.code yX12_perhaps cX12_perhaps 6 (some .int) ∈ big := big_in (List.mem_of_getElem? (i := 1227) (by decide +kernel)) rfl
abbrev mX12_from : zM := (yX12_from, cX12_from, 6, some .int)
theorem ckX12_from : Cond.code yX12_from cX12_from 6 (some .int) ∈ big := big_in (List.mem_of_getElem? (i := 1231) (by decide +kernel)) rfl
abbrev mX12_breaks : zM := (yX12_breaks, cX12_breaks, 6, some .int)
theorem ckX12_breaks : Cond.code yX12_breaks cX12_breaks 6 (some .int) ∈ big := big_in (List.mem_of_getElem? (i := 1235) (by decide +kernel)) rfl
abbrev mX12_drawn : zM := (yX12_drawn, cX12_drawn, 2, some .int)
theorem ckX12_drawn : Cond.code yX12_drawn cX12_drawn 2 (some .int) ∈ big := big_in (List.mem_of_getElem? (i := 1240) (by decide +kernel)) rfl
abbrev mX12_image : zM := (yX12_image, cX12_image, 1, some .int)
theorem ckX12_image : Cond.code yX12_image cX12_image 1 (some .int) ∈ big := big_in (List.mem_of_getElem? (i := 1247) (by decide +kernel)) rfl
abbrev mX12_restore : zM := (yX12_restore, cX12_restore, 1, some .int)
theorem ckX12_restore : Cond.code yX12_restore cX12_restore 1 (some .int) ∈ big := big_in (List.mem_of_getElem? (i := 1251) (by decide +kernel)) rfl
abbrev mX12_count : zM := (yX12_count, cX12_count, 5, some .int)
theorem ckX12_count : Cond.code yX12_count cX12_count 5 (some .int) ∈ big := big_in (List.mem_of_getElem? (i := 1255) (by decide +kernel)) rfl
abbrev mX12_keep : zM := (yX12_keep, cX12_keep, 5, some .int)
theorem ckX12_keep : Cond.code yX12_keep cX12_keep 5 (some .int) ∈ big := big_in (List.mem_of_getElem? (i := 1259) (by decide +kernel)) rfl
abbrev mX12_row : zM := (yX12_row, cX12_row, 5, some .int)
theorem ckX12_row : Cond.code yX12_row cX12_row 5 (some .int) ∈ big := big_in (List.mem_of_getElem? (i := 1263) (by decide +kernel)) rfl
abbrev mX12_put : zM := (yX12_put, cX12_put, 5, some .int)
theorem ckX12_put : Cond.code yX12_put cX12_put 5 (some .int) ∈ big := big_in (List.mem_of_getElem? (i := 1268) (by decide +kernel)) rfl
abbrev mX12_element : zM := (yX12_element, cX12_element, 3, some .long)
theorem ckX12_element : Cond.code yX12_element cX12_element 3 (some .long) ∈ big := big_in (List.mem_of_getElem? (i := 1272) (by decide +kernel)) rfl
abbrev mX12_copy : zM := (yX12_copy, cX12_copy, 8, some .int)
theorem ckX12_copy : Cond.code yX12_copy cX12_copy 8 (some .int) ∈ big := big_in (List.mem_of_getElem? (i := 1276) (by decide +kernel)) rfl
abbrev mX12_price : zM := (yX12_price, cX12_price, 3, some .int)
theorem ckX12_price : Cond.code yX12_price cX12_price 3 (some .int) ∈ big := big_in (List.mem_of_getElem? (i := 1280) (by decide +kernel)) rfl
abbrev mX12_priceBy : zM := (yX12_priceBy, cX12_priceBy, 2, some .int)
theorem ckX12_priceBy : Cond.code yX12_priceBy cX12_priceBy 2 (some .int) ∈ big := big_in (List.mem_of_getElem? (i := 1283) (by decide +kernel)) rfl
abbrev mX12_toss : zM := (yX12_toss, cX12_toss, 5, some .int)
theorem ckX12_toss : Cond.code yX12_toss cX12_toss 5 (some .int) ∈ big := big_in (List.mem_of_getElem? (i := 1287) (by decide +kernel)) rfl
theorem ikRL : Cond.initialized RL ∈ big := big_in (List.mem_of_getElem? (i := 0) (by decide +kernel)) rfl
theorem ikRX11 : Cond.initialized RX11 ∈ big := big_in (List.mem_of_getElem? (i := 1) (by decide +kernel)) rfl
theorem ikRX0 : Cond.initialized RX0 ∈ big := big_in (List.mem_of_getElem? (i := 2) (by decide +kernel)) rfl
theorem ikRX8 : Cond.initialized RX8 ∈ big := big_in (List.mem_of_getElem? (i := 3) (by decide +kernel)) rfl
theorem ikRX6 : Cond.initialized RX6 ∈ big := big_in (List.mem_of_getElem? (i := 4) (by decide +kernel)) rfl
theorem ikRX3 : Cond.initialized RX3 ∈ big := big_in (List.mem_of_getElem? (i := 5) (by decide +kernel)) rfl
theorem ikRX9 : Cond.initialized RX9 ∈ big := big_in (List.mem_of_getElem? (i := 6) (by decide +kernel)) rfl
theorem ikRX4 : Cond.initialized RX4 ∈ big := big_in (List.mem_of_getElem? (i := 7) (by decide +kernel)) rfl
theorem ikRX1 : Cond.initialized RX1 ∈ big := big_in (List.mem_of_getElem? (i := 8) (by decide +kernel)) rfl
theorem ikRX2 : Cond.initialized RX2 ∈ big := big_in (List.mem_of_getElem? (i := 9) (by decide +kernel)) rfl
theorem ikRX5 : Cond.initialized RX5 ∈ big := big_in (List.mem_of_getElem? (i := 10) (by decide +kernel)) rfl
theorem ikRX7 : Cond.initialized RX7 ∈ big := big_in (List.mem_of_getElem? (i := 11) (by decide +kernel)) rfl
theorem ikRX10 : Cond.initialized RX10 ∈ big := big_in (List.mem_of_getElem? (i := 12) (by decide +kernel)) rfl
theorem ikRX12 : Cond.initialized RX12 ∈ big := big_in (List.mem_of_getElem? (i := 13) (by decide +kernel)) rfl
theorem ikRJ10 : Cond.initialized RJ10 ∈ big := big_in (List.mem_of_getElem? (i := 14) (by decide +kernel)) rfl
theorem ikRJ9 : Cond.initialized RJ9 ∈ big := big_in (List.mem_of_getElem? (i := 15) (by decide +kernel)) rfl
theorem ikRJ6 : Cond.initialized RJ6 ∈ big := big_in (List.mem_of_getElem? (i := 16) (by decide +kernel)) rfl
theorem nkX11_init : Cond.instanceMethod yX11_init ∈ big := big_in (List.mem_of_getElem? (i := 26) (by decide +kernel)) rfl
theorem nkX0_init : Cond.instanceMethod yX0_init ∈ big := big_in (List.mem_of_getElem? (i := 35) (by decide +kernel)) rfl
theorem nkX8_init : Cond.instanceMethod yX8_init ∈ big := big_in (List.mem_of_getElem? (i := 42) (by decide +kernel)) rfl
theorem nkX6_init : Cond.instanceMethod yX6_init ∈ big := big_in (List.mem_of_getElem? (i := 49) (by decide +kernel)) rfl
theorem nkX3_init : Cond.instanceMethod yX3_init ∈ big := big_in (List.mem_of_getElem? (i := 56) (by decide +kernel)) rfl
theorem nkX9_init : Cond.instanceMethod yX9_init ∈ big := big_in (List.mem_of_getElem? (i := 63) (by decide +kernel)) rfl
theorem nkX4_init : Cond.instanceMethod yX4_init ∈ big := big_in (List.mem_of_getElem? (i := 70) (by decide +kernel)) rfl
theorem nkX1_init : Cond.instanceMethod yX1_init ∈ big := big_in (List.mem_of_getElem? (i := 77) (by decide +kernel)) rfl
theorem nkX2_init : Cond.instanceMethod yX2_init ∈ big := big_in (List.mem_of_getElem? (i := 84) (by decide +kernel)) rfl
theorem nkX5_init : Cond.instanceMethod yX5_init ∈ big := big_in (List.mem_of_getElem? (i := 91) (by decide +kernel)) rfl
theorem nkX7_init : Cond.instanceMethod yX7_init ∈ big := big_in (List.mem_of_getElem? (i := 138) (by decide +kernel)) rfl
theorem nkX10_init : Cond.instanceMethod yX10_init ∈ big := big_in (List.mem_of_getElem? (i := 179) (by decide +kernel)) rfl
theorem nkX11_heap : Cond.instanceMethod yX11_heap ∈ big := big_in (List.mem_of_getElem? (i := 230) (by decide +kernel)) rfl
theorem nkX11_bytesRefusal : Cond.instanceMethod yX11_bytesRefusal ∈ big := big_in (List.mem_of_getElem? (i := 235) (by decide +kernel)) rfl
theorem nkX11_shelfRefusal : Cond.instanceMethod yX11_shelfRefusal ∈ big := big_in (List.mem_of_getElem? (i := 239) (by decide +kernel)) rfl
theorem nkX10_faultOfForm : Cond.instanceMethod yX10_faultOfForm ∈ big := big_in (List.mem_of_getElem? (i := 248) (by decide +kernel)) rfl
theorem nkX10_statementEnd : Cond.instanceMethod yX10_statementEnd ∈ big := big_in (List.mem_of_getElem? (i := 252) (by decide +kernel)) rfl
theorem nkX10_at : Cond.instanceMethod yX10_at ∈ big := big_in (List.mem_of_getElem? (i := 256) (by decide +kernel)) rfl
theorem nkX10_hasPlace : Cond.instanceMethod yX10_hasPlace ∈ big := big_in (List.mem_of_getElem? (i := 260) (by decide +kernel)) rfl
theorem nkX10_digitEnd : Cond.instanceMethod yX10_digitEnd ∈ big := big_in (List.mem_of_getElem? (i := 265) (by decide +kernel)) rfl
theorem nkX10_isDigit : Cond.instanceMethod yX10_isDigit ∈ big := big_in (List.mem_of_getElem? (i := 269) (by decide +kernel)) rfl
theorem nkX10_numberEnd : Cond.instanceMethod yX10_numberEnd ∈ big := big_in (List.mem_of_getElem? (i := 272) (by decide +kernel)) rfl
theorem nkX10_signEnd : Cond.instanceMethod yX10_signEnd ∈ big := big_in (List.mem_of_getElem? (i := 277) (by decide +kernel)) rfl
theorem nkX11_tellAll : Cond.instanceMethod yX11_tellAll ∈ big := big_in (List.mem_of_getElem? (i := 281) (by decide +kernel)) rfl
theorem nkX5_become : Cond.instanceMethod yX5_become ∈ big := big_in (List.mem_of_getElem? (i := 284) (by decide +kernel)) rfl
theorem nkX5_tell : Cond.instanceMethod yX5_tell ∈ big := big_in (List.mem_of_getElem? (i := 291) (by decide +kernel)) rfl
theorem nkX5_tellBowl : Cond.instanceMethod yX5_tellBowl ∈ big := big_in (List.mem_of_getElem? (i := 297) (by decide +kernel)) rfl
theorem nkX10_digitAt : Cond.instanceMethod yX10_digitAt ∈ big := big_in (List.mem_of_getElem? (i := 300) (by decide +kernel)) rfl
theorem nkX10_numberAt : Cond.instanceMethod yX10_numberAt ∈ big := big_in (List.mem_of_getElem? (i := 304) (by decide +kernel)) rfl
theorem nkX5_add : Cond.instanceMethod yX5_add ∈ big := big_in (List.mem_of_getElem? (i := 310) (by decide +kernel)) rfl
theorem nkX5_place : Cond.instanceMethod yX5_place ∈ big := big_in (List.mem_of_getElem? (i := 315) (by decide +kernel)) rfl
theorem nkX5_flip : Cond.instanceMethod yX5_flip ∈ big := big_in (List.mem_of_getElem? (i := 318) (by decide +kernel)) rfl
theorem nkX5_has : Cond.instanceMethod yX5_has ∈ big := big_in (List.mem_of_getElem? (i := 322) (by decide +kernel)) rfl
theorem nkX5_dropLatest : Cond.instanceMethod yX5_dropLatest ∈ big := big_in (List.mem_of_getElem? (i := 326) (by decide +kernel)) rfl
theorem nkX11_bowl : Cond.instanceMethod yX11_bowl ∈ big := big_in (List.mem_of_getElem? (i := 331) (by decide +kernel)) rfl
theorem nkX5_outsideAt : Cond.instanceMethod yX5_outsideAt ∈ big := big_in (List.mem_of_getElem? (i := 336) (by decide +kernel)) rfl
theorem nkX0_outside : Cond.instanceMethod yX0_outside ∈ big := big_in (List.mem_of_getElem? (i := 340) (by decide +kernel)) rfl
theorem nkX6_outside : Cond.instanceMethod yX6_outside ∈ big := big_in (List.mem_of_getElem? (i := 345) (by decide +kernel)) rfl
theorem nkX4_outside : Cond.instanceMethod yX4_outside ∈ big := big_in (List.mem_of_getElem? (i := 353) (by decide +kernel)) rfl
theorem nkX8_outside : Cond.instanceMethod yX8_outside ∈ big := big_in (List.mem_of_getElem? (i := 360) (by decide +kernel)) rfl
theorem nkX9_outside : Cond.instanceMethod yX9_outside ∈ big := big_in (List.mem_of_getElem? (i := 364) (by decide +kernel)) rfl
theorem nkX5_insideAt : Cond.instanceMethod yX5_insideAt ∈ big := big_in (List.mem_of_getElem? (i := 369) (by decide +kernel)) rfl
theorem nkX0_inside : Cond.instanceMethod yX0_inside ∈ big := big_in (List.mem_of_getElem? (i := 373) (by decide +kernel)) rfl
theorem nkX3_inside : Cond.instanceMethod yX3_inside ∈ big := big_in (List.mem_of_getElem? (i := 377) (by decide +kernel)) rfl
theorem nkX6_inside : Cond.instanceMethod yX6_inside ∈ big := big_in (List.mem_of_getElem? (i := 381) (by decide +kernel)) rfl
theorem nkX4_inside : Cond.instanceMethod yX4_inside ∈ big := big_in (List.mem_of_getElem? (i := 385) (by decide +kernel)) rfl
theorem nkX8_inside : Cond.instanceMethod yX8_inside ∈ big := big_in (List.mem_of_getElem? (i := 390) (by decide +kernel)) rfl
theorem nkX5_riseOf : Cond.instanceMethod yX5_riseOf ∈ big := big_in (List.mem_of_getElem? (i := 396) (by decide +kernel)) rfl
theorem nkX0_rise : Cond.instanceMethod yX0_rise ∈ big := big_in (List.mem_of_getElem? (i := 400) (by decide +kernel)) rfl
theorem nkX1_rise : Cond.instanceMethod yX1_rise ∈ big := big_in (List.mem_of_getElem? (i := 404) (by decide +kernel)) rfl
theorem nkX3_rise : Cond.instanceMethod yX3_rise ∈ big := big_in (List.mem_of_getElem? (i := 407) (by decide +kernel)) rfl
theorem nkX2_rise : Cond.instanceMethod yX2_rise ∈ big := big_in (List.mem_of_getElem? (i := 411) (by decide +kernel)) rfl
theorem nkX6_rise : Cond.instanceMethod yX6_rise ∈ big := big_in (List.mem_of_getElem? (i := 414) (by decide +kernel)) rfl
theorem nkX11_comes : Cond.instanceMethod yX11_comes ∈ big := big_in (List.mem_of_getElem? (i := 424) (by decide +kernel)) rfl
theorem nkX11_bowlRefusal : Cond.instanceMethod yX11_bowlRefusal ∈ big := big_in (List.mem_of_getElem? (i := 432) (by decide +kernel)) rfl
theorem nkX11_warm : Cond.instanceMethod yX11_warm ∈ big := big_in (List.mem_of_getElem? (i := 436) (by decide +kernel)) rfl
theorem nkX11_turn : Cond.instanceMethod yX11_turn ∈ big := big_in (List.mem_of_getElem? (i := 443) (by decide +kernel)) rfl
theorem nkX11_lies : Cond.instanceMethod yX11_lies ∈ big := big_in (List.mem_of_getElem? (i := 448) (by decide +kernel)) rfl
theorem nkX11_arePair : Cond.instanceMethod yX11_arePair ∈ big := big_in (List.mem_of_getElem? (i := 453) (by decide +kernel)) rfl
theorem nkX5_isIn : Cond.instanceMethod yX5_isIn ∈ big := big_in (List.mem_of_getElem? (i := 456) (by decide +kernel)) rfl
theorem nkX5_agree : Cond.instanceMethod yX5_agree ∈ big := big_in (List.mem_of_getElem? (i := 461) (by decide +kernel)) rfl
theorem nkX0_minds : Cond.instanceMethod yX0_minds ∈ big := big_in (List.mem_of_getElem? (i := 464) (by decide +kernel)) rfl
theorem nkX8_minds : Cond.instanceMethod yX8_minds ∈ big := big_in (List.mem_of_getElem? (i := 473) (by decide +kernel)) rfl
theorem nkX11_nest : Cond.instanceMethod yX11_nest ∈ big := big_in (List.mem_of_getElem? (i := 480) (by decide +kernel)) rfl
theorem nkX11_areBowls : Cond.instanceMethod yX11_areBowls ∈ big := big_in (List.mem_of_getElem? (i := 485) (by decide +kernel)) rfl
theorem nkX5_all : Cond.instanceMethod yX5_all ∈ big := big_in (List.mem_of_getElem? (i := 488) (by decide +kernel)) rfl
theorem nkX5_heightOf : Cond.instanceMethod yX5_heightOf ∈ big := big_in (List.mem_of_getElem? (i := 492) (by decide +kernel)) rfl
theorem nkX5_arrange : Cond.instanceMethod yX5_arrange ∈ big := big_in (List.mem_of_getElem? (i := 496) (by decide +kernel)) rfl
theorem nkX11_height : Cond.instanceMethod yX11_height ∈ big := big_in (List.mem_of_getElem? (i := 502) (by decide +kernel)) rfl
theorem nkX11_longest : Cond.instanceMethod yX11_longest ∈ big := big_in (List.mem_of_getElem? (i := 506) (by decide +kernel)) rfl
theorem nkX7_findAll : Cond.instanceMethod yX7_findAll ∈ big := big_in (List.mem_of_getElem? (i := 510) (by decide +kernel)) rfl
theorem nkX7_growBy : Cond.instanceMethod yX7_growBy ∈ big := big_in (List.mem_of_getElem? (i := 520) (by decide +kernel)) rfl
theorem nkX7_note : Cond.instanceMethod yX7_note ∈ big := big_in (List.mem_of_getElem? (i := 525) (by decide +kernel)) rfl
theorem nkX7_longestOf : Cond.instanceMethod yX7_longestOf ∈ big := big_in (List.mem_of_getElem? (i := 528) (by decide +kernel)) rfl
theorem nkX7_isLonger : Cond.instanceMethod yX7_isLonger ∈ big := big_in (List.mem_of_getElem? (i := 533) (by decide +kernel)) rfl
theorem nkX11_fewest : Cond.instanceMethod yX11_fewest ∈ big := big_in (List.mem_of_getElem? (i := 543) (by decide +kernel)) rfl
theorem nkX7_costOneEach : Cond.instanceMethod yX7_costOneEach ∈ big := big_in (List.mem_of_getElem? (i := 548) (by decide +kernel)) rfl
theorem nkX7_leastSum : Cond.instanceMethod yX7_leastSum ∈ big := big_in (List.mem_of_getElem? (i := 553) (by decide +kernel)) rfl
theorem nkX11_apart : Cond.instanceMethod yX11_apart ∈ big := big_in (List.mem_of_getElem? (i := 557) (by decide +kernel)) rfl
theorem nkX7_mostApart : Cond.instanceMethod yX7_mostApart ∈ big := big_in (List.mem_of_getElem? (i := 561) (by decide +kernel)) rfl
theorem nkX7_isApart : Cond.instanceMethod yX7_isApart ∈ big := big_in (List.mem_of_getElem? (i := 566) (by decide +kernel)) rfl
theorem nkX11_carry : Cond.instanceMethod yX11_carry ∈ big := big_in (List.mem_of_getElem? (i := 569) (by decide +kernel)) rfl
theorem nkX7_costHeights : Cond.instanceMethod yX7_costHeights ∈ big := big_in (List.mem_of_getElem? (i := 573) (by decide +kernel)) rfl
theorem nkX11_load : Cond.instanceMethod yX11_load ∈ big := big_in (List.mem_of_getElem? (i := 577) (by decide +kernel)) rfl
theorem nkX11_whole : Cond.instanceMethod yX11_whole ∈ big := big_in (List.mem_of_getElem? (i := 581) (by decide +kernel)) rfl
theorem nkX7_costLessForSetsOf : Cond.instanceMethod yX7_costLessForSetsOf ∈ big := big_in (List.mem_of_getElem? (i := 585) (by decide +kernel)) rfl
theorem nkX11_throwsNew : Cond.instanceMethod yX11_throwsNew ∈ big := big_in (List.mem_of_getElem? (i := 589) (by decide +kernel)) rfl
theorem nkX5_think : Cond.instanceMethod yX5_think ∈ big := big_in (List.mem_of_getElem? (i := 594) (by decide +kernel)) rfl
theorem nkX11_isBridged : Cond.instanceMethod yX11_isBridged ∈ big := big_in (List.mem_of_getElem? (i := 599) (by decide +kernel)) rfl
theorem nkX11_helps : Cond.instanceMethod yX11_helps ∈ big := big_in (List.mem_of_getElem? (i := 602) (by decide +kernel)) rfl
theorem nkX7_findChains : Cond.instanceMethod yX7_findChains ∈ big := big_in (List.mem_of_getElem? (i := 606) (by decide +kernel)) rfl
theorem nkX7_lengthenInward : Cond.instanceMethod yX7_lengthenInward ∈ big := big_in (List.mem_of_getElem? (i := 611) (by decide +kernel)) rfl
theorem nkX7_lengthenOutward : Cond.instanceMethod yX7_lengthenOutward ∈ big := big_in (List.mem_of_getElem? (i := 616) (by decide +kernel)) rfl
theorem nkX7_longestWith : Cond.instanceMethod yX7_longestWith ∈ big := big_in (List.mem_of_getElem? (i := 619) (by decide +kernel)) rfl
theorem nkX11_out : Cond.instanceMethod yX11_out ∈ big := big_in (List.mem_of_getElem? (i := 623) (by decide +kernel)) rfl
theorem nkX11_firstMisplaced : Cond.instanceMethod yX11_firstMisplaced ∈ big := big_in (List.mem_of_getElem? (i := 628) (by decide +kernel)) rfl
theorem nkX11_judge : Cond.instanceMethod yX11_judge ∈ big := big_in (List.mem_of_getElem? (i := 632) (by decide +kernel)) rfl
theorem nkX11_rowRefusal : Cond.instanceMethod yX11_rowRefusal ∈ big := big_in (List.mem_of_getElem? (i := 637) (by decide +kernel)) rfl
theorem nkX11_spans : Cond.instanceMethod yX11_spans ∈ big := big_in (List.mem_of_getElem? (i := 640) (by decide +kernel)) rfl
theorem nkX5_spanned : Cond.instanceMethod yX5_spanned ∈ big := big_in (List.mem_of_getElem? (i := 644) (by decide +kernel)) rfl
theorem nkX11_next : Cond.instanceMethod yX11_next ∈ big := big_in (List.mem_of_getElem? (i := 649) (by decide +kernel)) rfl
theorem nkX11_pairsPerhaps : Cond.instanceMethod yX11_pairsPerhaps ∈ big := big_in (List.mem_of_getElem? (i := 654) (by decide +kernel)) rfl
theorem nkX11_from : Cond.instanceMethod yX11_from ∈ big := big_in (List.mem_of_getElem? (i := 657) (by decide +kernel)) rfl
theorem nkX11_breaks : Cond.instanceMethod yX11_breaks ∈ big := big_in (List.mem_of_getElem? (i := 661) (by decide +kernel)) rfl
theorem nkX11_brokenBy : Cond.instanceMethod yX11_brokenBy ∈ big := big_in (List.mem_of_getElem? (i := 666) (by decide +kernel)) rfl
theorem nkX11_image : Cond.instanceMethod yX11_image ∈ big := big_in (List.mem_of_getElem? (i := 672) (by decide +kernel)) rfl
theorem nkX11_restore : Cond.instanceMethod yX11_restore ∈ big := big_in (List.mem_of_getElem? (i := 676) (by decide +kernel)) rfl
theorem nkX11_count : Cond.instanceMethod yX11_count ∈ big := big_in (List.mem_of_getElem? (i := 680) (by decide +kernel)) rfl
theorem nkX5_pairsIn : Cond.instanceMethod yX5_pairsIn ∈ big := big_in (List.mem_of_getElem? (i := 684) (by decide +kernel)) rfl
theorem nkX5_allDepths : Cond.instanceMethod yX5_allDepths ∈ big := big_in (List.mem_of_getElem? (i := 688) (by decide +kernel)) rfl
theorem nkX11_keep : Cond.instanceMethod yX11_keep ∈ big := big_in (List.mem_of_getElem? (i := 692) (by decide +kernel)) rfl
theorem nkX10_clear : Cond.instanceMethod yX10_clear ∈ big := big_in (List.mem_of_getElem? (i := 696) (by decide +kernel)) rfl
theorem nkX10_holdBowl : Cond.instanceMethod yX10_holdBowl ∈ big := big_in (List.mem_of_getElem? (i := 700) (by decide +kernel)) rfl
theorem nkX11_row : Cond.instanceMethod yX11_row ∈ big := big_in (List.mem_of_getElem? (i := 704) (by decide +kernel)) rfl
theorem nkX10_holdRow : Cond.instanceMethod yX10_holdRow ∈ big := big_in (List.mem_of_getElem? (i := 708) (by decide +kernel)) rfl
theorem nkX11_put : Cond.instanceMethod yX11_put ∈ big := big_in (List.mem_of_getElem? (i := 712) (by decide +kernel)) rfl
theorem nkX10_set : Cond.instanceMethod yX10_set ∈ big := big_in (List.mem_of_getElem? (i := 717) (by decide +kernel)) rfl
theorem nkX11_copy : Cond.instanceMethod yX11_copy ∈ big := big_in (List.mem_of_getElem? (i := 721) (by decide +kernel)) rfl
theorem nkX10_hasStretch : Cond.instanceMethod yX10_hasStretch ∈ big := big_in (List.mem_of_getElem? (i := 725) (by decide +kernel)) rfl
theorem nkX11_price : Cond.instanceMethod yX11_price ∈ big := big_in (List.mem_of_getElem? (i := 730) (by decide +kernel)) rfl
theorem nkX0_cost : Cond.instanceMethod yX0_cost ∈ big := big_in (List.mem_of_getElem? (i := 734) (by decide +kernel)) rfl
theorem nkX1_cost : Cond.instanceMethod yX1_cost ∈ big := big_in (List.mem_of_getElem? (i := 738) (by decide +kernel)) rfl
theorem nkX3_cost : Cond.instanceMethod yX3_cost ∈ big := big_in (List.mem_of_getElem? (i := 741) (by decide +kernel)) rfl
theorem nkX2_cost : Cond.instanceMethod yX2_cost ∈ big := big_in (List.mem_of_getElem? (i := 745) (by decide +kernel)) rfl
theorem nkX6_cost : Cond.instanceMethod yX6_cost ∈ big := big_in (List.mem_of_getElem? (i := 748) (by decide +kernel)) rfl
theorem nkX4_cost : Cond.instanceMethod yX4_cost ∈ big := big_in (List.mem_of_getElem? (i := 753) (by decide +kernel)) rfl
theorem nkX8_cost : Cond.instanceMethod yX8_cost ∈ big := big_in (List.mem_of_getElem? (i := 758) (by decide +kernel)) rfl
theorem nkX9_cost : Cond.instanceMethod yX9_cost ∈ big := big_in (List.mem_of_getElem? (i := 762) (by decide +kernel)) rfl
theorem nkX11_toss : Cond.instanceMethod yX11_toss ∈ big := big_in (List.mem_of_getElem? (i := 767) (by decide +kernel)) rfl
theorem nkX0_fail : Cond.instanceMethod yX0_fail ∈ big := big_in (List.mem_of_getElem? (i := 774) (by decide +kernel)) rfl
theorem nkX2_fail : Cond.instanceMethod yX2_fail ∈ big := big_in (List.mem_of_getElem? (i := 779) (by decide +kernel)) rfl
theorem nkX4_fail : Cond.instanceMethod yX4_fail ∈ big := big_in (List.mem_of_getElem? (i := 851) (by decide +kernel)) rfl
theorem nkX9_fail : Cond.instanceMethod yX9_fail ∈ big := big_in (List.mem_of_getElem? (i := 872) (by decide +kernel)) rfl
theorem nkX11_element : Cond.instanceMethod yX11_element ∈ big := big_in (List.mem_of_getElem? (i := 897) (by decide +kernel)) rfl
theorem nkX12_init : Cond.instanceMethod yX12_init ∈ big := big_in (List.mem_of_getElem? (i := 907) (by decide +kernel)) rfl
theorem nkX12_thrown : Cond.instanceMethod yX12_thrown ∈ big := big_in (List.mem_of_getElem? (i := 972) (by decide +kernel)) rfl
theorem nkX12_heap : Cond.instanceMethod yX12_heap ∈ big := big_in (List.mem_of_getElem? (i := 976) (by decide +kernel)) rfl
theorem nkX12_wrongRow : Cond.instanceMethod yX12_wrongRow ∈ big := big_in (List.mem_of_getElem? (i := 981) (by decide +kernel)) rfl
theorem nkX12_readsStatement : Cond.instanceMethod yX12_readsStatement ∈ big := big_in (List.mem_of_getElem? (i := 992) (by decide +kernel)) rfl
theorem nkX12_here : Cond.instanceMethod yX12_here ∈ big := big_in (List.mem_of_getElem? (i := 996) (by decide +kernel)) rfl
theorem nkX12_readsNumber : Cond.instanceMethod yX12_readsNumber ∈ big := big_in (List.mem_of_getElem? (i := 1000) (by decide +kernel)) rfl
theorem nkX12_isDigit : Cond.instanceMethod yX12_isDigit ∈ big := big_in (List.mem_of_getElem? (i := 1004) (by decide +kernel)) rfl
theorem nkX12_takes : Cond.instanceMethod yX12_takes ∈ big := big_in (List.mem_of_getElem? (i := 1010) (by decide +kernel)) rfl
theorem nkX12_comesTold : Cond.instanceMethod yX12_comesTold ∈ big := big_in (List.mem_of_getElem? (i := 1017) (by decide +kernel)) rfl
theorem nkX12_puts : Cond.instanceMethod yX12_puts ∈ big := big_in (List.mem_of_getElem? (i := 1021) (by decide +kernel)) rfl
theorem nkX12_isBowl : Cond.instanceMethod yX12_isBowl ∈ big := big_in (List.mem_of_getElem? (i := 1025) (by decide +kernel)) rfl
theorem nkX12_get : Cond.instanceMethod yX12_get ∈ big := big_in (List.mem_of_getElem? (i := 1029) (by decide +kernel)) rfl
theorem nkX12_bowl : Cond.instanceMethod yX12_bowl ∈ big := big_in (List.mem_of_getElem? (i := 1032) (by decide +kernel)) rfl
theorem nkX12_outside : Cond.instanceMethod yX12_outside ∈ big := big_in (List.mem_of_getElem? (i := 1037) (by decide +kernel)) rfl
theorem nkX12_outsideBy : Cond.instanceMethod yX12_outsideBy ∈ big := big_in (List.mem_of_getElem? (i := 1041) (by decide +kernel)) rfl
theorem nkX12_turned : Cond.instanceMethod yX12_turned ∈ big := big_in (List.mem_of_getElem? (i := 1045) (by decide +kernel)) rfl
theorem nkX12_inside : Cond.instanceMethod yX12_inside ∈ big := big_in (List.mem_of_getElem? (i := 1049) (by decide +kernel)) rfl
theorem nkX12_insideBy : Cond.instanceMethod yX12_insideBy ∈ big := big_in (List.mem_of_getElem? (i := 1053) (by decide +kernel)) rfl
theorem nkX12_rise : Cond.instanceMethod yX12_rise ∈ big := big_in (List.mem_of_getElem? (i := 1057) (by decide +kernel)) rfl
theorem nkX12_comes : Cond.instanceMethod yX12_comes ∈ big := big_in (List.mem_of_getElem? (i := 1060) (by decide +kernel)) rfl
theorem nkX12_wrongKept : Cond.instanceMethod yX12_wrongKept ∈ big := big_in (List.mem_of_getElem? (i := 1066) (by decide +kernel)) rfl
theorem nkX12_adds : Cond.instanceMethod yX12_adds ∈ big := big_in (List.mem_of_getElem? (i := 1070) (by decide +kernel)) rfl
theorem nkX12_warm : Cond.instanceMethod yX12_warm ∈ big := big_in (List.mem_of_getElem? (i := 1073) (by decide +kernel)) rfl
theorem nkX12_turn : Cond.instanceMethod yX12_turn ∈ big := big_in (List.mem_of_getElem? (i := 1078) (by decide +kernel)) rfl
theorem nkX12_lies : Cond.instanceMethod yX12_lies ∈ big := big_in (List.mem_of_getElem? (i := 1082) (by decide +kernel)) rfl
theorem nkX12_liesNow : Cond.instanceMethod yX12_liesNow ∈ big := big_in (List.mem_of_getElem? (i := 1087) (by decide +kernel)) rfl
theorem nkX12_liesAt : Cond.instanceMethod yX12_liesAt ∈ big := big_in (List.mem_of_getElem? (i := 1091) (by decide +kernel)) rfl
theorem nkX12_fitsBut : Cond.instanceMethod yX12_fitsBut ∈ big := big_in (List.mem_of_getElem? (i := 1095) (by decide +kernel)) rfl
theorem nkX12_isOval : Cond.instanceMethod yX12_isOval ∈ big := big_in (List.mem_of_getElem? (i := 1099) (by decide +kernel)) rfl
theorem nkX12_nest : Cond.instanceMethod yX12_nest ∈ big := big_in (List.mem_of_getElem? (i := 1102) (by decide +kernel)) rfl
theorem nkX12_areBowls : Cond.instanceMethod yX12_areBowls ∈ big := big_in (List.mem_of_getElem? (i := 1107) (by decide +kernel)) rfl
theorem nkX12_everything : Cond.instanceMethod yX12_everything ∈ big := big_in (List.mem_of_getElem? (i := 1111) (by decide +kernel)) rfl
theorem nkX12_isNest : Cond.instanceMethod yX12_isNest ∈ big := big_in (List.mem_of_getElem? (i := 1115) (by decide +kernel)) rfl
theorem nkX12_outermost : Cond.instanceMethod yX12_outermost ∈ big := big_in (List.mem_of_getElem? (i := 1119) (by decide +kernel)) rfl
theorem nkX12_height : Cond.instanceMethod yX12_height ∈ big := big_in (List.mem_of_getElem? (i := 1122) (by decide +kernel)) rfl
theorem nkX12_heightOf : Cond.instanceMethod yX12_heightOf ∈ big := big_in (List.mem_of_getElem? (i := 1127) (by decide +kernel)) rfl
theorem nkX12_longest : Cond.instanceMethod yX12_longest ∈ big := big_in (List.mem_of_getElem? (i := 1130) (by decide +kernel)) rfl
theorem nkX12_longestOf : Cond.instanceMethod yX12_longestOf ∈ big := big_in (List.mem_of_getElem? (i := 1135) (by decide +kernel)) rfl
theorem nkX12_fewest : Cond.instanceMethod yX12_fewest ∈ big := big_in (List.mem_of_getElem? (i := 1141) (by decide +kernel)) rfl
theorem nkX12_leastOf : Cond.instanceMethod yX12_leastOf ∈ big := big_in (List.mem_of_getElem? (i := 1146) (by decide +kernel)) rfl
theorem nkX12_counted : Cond.instanceMethod yX12_counted ∈ big := big_in (List.mem_of_getElem? (i := 1150) (by decide +kernel)) rfl
theorem nkX12_carry : Cond.instanceMethod yX12_carry ∈ big := big_in (List.mem_of_getElem? (i := 1154) (by decide +kernel)) rfl
theorem nkX12_load : Cond.instanceMethod yX12_load ∈ big := big_in (List.mem_of_getElem? (i := 1158) (by decide +kernel)) rfl
theorem nkX12_apart : Cond.instanceMethod yX12_apart ∈ big := big_in (List.mem_of_getElem? (i := 1162) (by decide +kernel)) rfl
theorem nkX12_areApart : Cond.instanceMethod yX12_areApart ∈ big := big_in (List.mem_of_getElem? (i := 1167) (by decide +kernel)) rfl
theorem nkX12_whole : Cond.instanceMethod yX12_whole ∈ big := big_in (List.mem_of_getElem? (i := 1170) (by decide +kernel)) rfl
theorem nkX12_wholeOf : Cond.instanceMethod yX12_wholeOf ∈ big := big_in (List.mem_of_getElem? (i := 1175) (by decide +kernel)) rfl
theorem nkX12_throwsNew : Cond.instanceMethod yX12_throwsNew ∈ big := big_in (List.mem_of_getElem? (i := 1178) (by decide +kernel)) rfl
theorem nkX12_canBeBetween : Cond.instanceMethod yX12_canBeBetween ∈ big := big_in (List.mem_of_getElem? (i := 1183) (by decide +kernel)) rfl
theorem nkX12_helps : Cond.instanceMethod yX12_helps ∈ big := big_in (List.mem_of_getElem? (i := 1186) (by decide +kernel)) rfl
theorem nkX12_longestRow : Cond.instanceMethod yX12_longestRow ∈ big := big_in (List.mem_of_getElem? (i := 1191) (by decide +kernel)) rfl
theorem nkX12_out : Cond.instanceMethod yX12_out ∈ big := big_in (List.mem_of_getElem? (i := 1194) (by decide +kernel)) rfl
theorem nkX12_wrongOut : Cond.instanceMethod yX12_wrongOut ∈ big := big_in (List.mem_of_getElem? (i := 1199) (by decide +kernel)) rfl
theorem nkX12_wrongAt : Cond.instanceMethod yX12_wrongAt ∈ big := big_in (List.mem_of_getElem? (i := 1203) (by decide +kernel)) rfl
theorem nkX12_judge : Cond.instanceMethod yX12_judge ∈ big := big_in (List.mem_of_getElem? (i := 1206) (by decide +kernel)) rfl
theorem nkX12_spans : Cond.instanceMethod yX12_spans ∈ big := big_in (List.mem_of_getElem? (i := 1210) (by decide +kernel)) rfl
theorem nkX12_spanOf : Cond.instanceMethod yX12_spanOf ∈ big := big_in (List.mem_of_getElem? (i := 1215) (by decide +kernel)) rfl
theorem nkX12_next : Cond.instanceMethod yX12_next ∈ big := big_in (List.mem_of_getElem? (i := 1221) (by decide +kernel)) rfl
theorem nkX12_perhaps : Cond.instanceMethod yX12_perhaps ∈ big := big_in (List.mem_of_getElem? (i := 1226) (by decide +kernel)) rfl
theorem nkX12_from : Cond.instanceMethod yX12_from ∈ big := big_in (List.mem_of_getElem? (i := 1229) (by decide +kernel)) rfl
theorem nkX12_breaks : Cond.instanceMethod yX12_breaks ∈ big := big_in (List.mem_of_getElem? (i := 1233) (by decide +kernel)) rfl
theorem nkX12_drawn : Cond.instanceMethod yX12_drawn ∈ big := big_in (List.mem_of_getElem? (i := 1239) (by decide +kernel)) rfl
theorem nkX12_image : Cond.instanceMethod yX12_image ∈ big := big_in (List.mem_of_getElem? (i := 1245) (by decide +kernel)) rfl
theorem nkX12_restore : Cond.instanceMethod yX12_restore ∈ big := big_in (List.mem_of_getElem? (i := 1249) (by decide +kernel)) rfl
theorem nkX12_count : Cond.instanceMethod yX12_count ∈ big := big_in (List.mem_of_getElem? (i := 1253) (by decide +kernel)) rfl
theorem nkX12_keep : Cond.instanceMethod yX12_keep ∈ big := big_in (List.mem_of_getElem? (i := 1257) (by decide +kernel)) rfl
theorem nkX12_row : Cond.instanceMethod yX12_row ∈ big := big_in (List.mem_of_getElem? (i := 1261) (by decide +kernel)) rfl
theorem nkX12_put : Cond.instanceMethod yX12_put ∈ big := big_in (List.mem_of_getElem? (i := 1266) (by decide +kernel)) rfl
theorem nkX12_element : Cond.instanceMethod yX12_element ∈ big := big_in (List.mem_of_getElem? (i := 1270) (by decide +kernel)) rfl
theorem nkX12_copy : Cond.instanceMethod yX12_copy ∈ big := big_in (List.mem_of_getElem? (i := 1274) (by decide +kernel)) rfl
theorem nkX12_price : Cond.instanceMethod yX12_price ∈ big := big_in (List.mem_of_getElem? (i := 1278) (by decide +kernel)) rfl
theorem nkX12_toss : Cond.instanceMethod yX12_toss ∈ big := big_in (List.mem_of_getElem? (i := 1285) (by decide +kernel)) rfl
theorem skX11_isShelf : Cond.static yX11_isShelf ∈ big := big_in (List.mem_of_getElem? (i := 242) (by decide +kernel)) rfl
theorem skX11_isWithin : Cond.static yX11_isWithin ∈ big := big_in (List.mem_of_getElem? (i := 245) (by decide +kernel)) rfl
theorem skJ9_max_7cf53 : Cond.static yJ9_max_7cf53 ∈ big := big_in (List.mem_of_getElem? (i := 349) (by decide +kernel)) rfl
theorem skX11_areHairs : Cond.static yX11_areHairs ∈ big := big_in (List.mem_of_getElem? (i := 428) (by decide +kernel)) rfl
theorem skX11_isWarmth : Cond.static yX11_isWarmth ∈ big := big_in (List.mem_of_getElem? (i := 440) (by decide +kernel)) rfl
theorem skJ9_min_7cf53 : Cond.static yJ9_min_7cf53 ∈ big := big_in (List.mem_of_getElem? (i := 514) (by decide +kernel)) rfl
theorem skJ6_bitCount_0f7a4 : Cond.static yJ6_bitCount_0f7a4 ∈ big := big_in (List.mem_of_getElem? (i := 536) (by decide +kernel)) rfl
theorem skL_element : Cond.static yL_element ∈ big := big_in (List.mem_of_getElem? (i := 892) (by decide +kernel)) rfl
theorem skX12_isShelf : Cond.static yX12_isShelf ∈ big := big_in (List.mem_of_getElem? (i := 984) (by decide +kernel)) rfl
theorem skX12_isIn : Cond.static yX12_isIn ∈ big := big_in (List.mem_of_getElem? (i := 988) (by decide +kernel)) rfl
theorem skX12_lays : Cond.static yX12_lays ∈ big := big_in (List.mem_of_getElem? (i := 1013) (by decide +kernel)) rfl
theorem skX12_bits : Cond.static yX12_bits ∈ big := big_in (List.mem_of_getElem? (i := 1138) (by decide +kernel)) rfl
theorem skX12_narrow : Cond.static yX12_narrow ∈ big := big_in (List.mem_of_getElem? (i := 1218) (by decide +kernel)) rfl
theorem skX12_priceBy : Cond.static yX12_priceBy ∈ big := big_in (List.mem_of_getElem? (i := 1282) (by decide +kernel)) rfl
theorem vkX10_numberAt : Cond.selects yX10_numberAt.cls yX10_numberAt yX10_numberAt ∈ big := big_in (List.mem_of_getElem? (i := 305) (by decide +kernel)) rfl
-- no selects: X6_rise
-- no selects: X2_rise
theorem vkX11_image : Cond.selects yX11_image.cls yX11_image yX11_image ∈ big := big_in (List.mem_of_getElem? (i := 673) (by decide +kernel)) rfl
-- no selects: X1_rise
theorem vkX5_flip : Cond.selects yX5_flip.cls yX5_flip yX5_flip ∈ big := big_in (List.mem_of_getElem? (i := 319) (by decide +kernel)) rfl
theorem vkX7_leastSum : Cond.selects yX7_leastSum.cls yX7_leastSum yX7_leastSum ∈ big := big_in (List.mem_of_getElem? (i := 554) (by decide +kernel)) rfl
theorem vkX12_drawn : Cond.selects yX12_drawn.cls yX12_drawn yX12_drawn ∈ big := big_sel (q := (yX12_drawn, 20)) (List.mem_of_getElem? (i := 62) (by decide +kernel))
theorem vkX11_bytesRefusal : Cond.selects yX11_bytesRefusal.cls yX11_bytesRefusal yX11_bytesRefusal ∈ big := big_sel (q := (yX11_bytesRefusal, 7)) (List.mem_of_getElem? (i := 0) (by decide +kernel))
theorem vkX12_longestOf : Cond.selects yX12_longestOf.cls yX12_longestOf yX12_longestOf ∈ big := big_sel (q := (yX12_longestOf, 20)) (List.mem_of_getElem? (i := 51) (by decide +kernel))
theorem vkX12_judge : Cond.selects yX12_judge.cls yX12_judge yX12_judge ∈ big := big_in (List.mem_of_getElem? (i := 1207) (by decide +kernel)) rfl
theorem vkX5_agree : Cond.selects yX5_agree.cls yX5_agree yX5_agree ∈ big := big_sel (q := (yX5_agree, 9)) (List.mem_of_getElem? (i := 10) (by decide +kernel))
-- no selects: X4_inside
theorem vkX5_heightOf : Cond.selects yX5_heightOf.cls yX5_heightOf yX5_heightOf ∈ big := big_in (List.mem_of_getElem? (i := 493) (by decide +kernel)) rfl
theorem vkX12_wholeOf : Cond.selects yX12_wholeOf.cls yX12_wholeOf yX12_wholeOf ∈ big := big_sel (q := (yX12_wholeOf, 20)) (List.mem_of_getElem? (i := 55) (by decide +kernel))
theorem vkX11_bowl : Cond.selects yX11_bowl.cls yX11_bowl yX11_bowl ∈ big := big_in (List.mem_of_getElem? (i := 332) (by decide +kernel)) rfl
theorem vkX12_toss : Cond.selects yX12_toss.cls yX12_toss yX12_toss ∈ big := big_in (List.mem_of_getElem? (i := 1286) (by decide +kernel)) rfl
theorem vkX11_height : Cond.selects yX11_height.cls yX11_height yX11_height ∈ big := big_in (List.mem_of_getElem? (i := 503) (by decide +kernel)) rfl
theorem vkX12_liesAt : Cond.selects yX12_liesAt.cls yX12_liesAt yX12_liesAt ∈ big := big_sel (q := (yX12_liesAt, 20)) (List.mem_of_getElem? (i := 43) (by decide +kernel))
theorem vkX10_statementEnd : Cond.selects yX10_statementEnd.cls yX10_statementEnd yX10_statementEnd ∈ big := big_in (List.mem_of_getElem? (i := 253) (by decide +kernel)) rfl
theorem vkX7_findChains : Cond.selects yX7_findChains.cls yX7_findChains yX7_findChains ∈ big := big_in (List.mem_of_getElem? (i := 607) (by decide +kernel)) rfl
theorem vkX10_clear : Cond.selects yX10_clear.cls yX10_clear yX10_clear ∈ big := big_in (List.mem_of_getElem? (i := 697) (by decide +kernel)) rfl
theorem vkX11_lies : Cond.selects yX11_lies.cls yX11_lies yX11_lies ∈ big := big_in (List.mem_of_getElem? (i := 449) (by decide +kernel)) rfl
theorem vkX7_isLonger : Cond.selects yX7_isLonger.cls yX7_isLonger yX7_isLonger ∈ big := big_sel (q := (yX7_isLonger, 11)) (List.mem_of_getElem? (i := 14) (by decide +kernel))
theorem vkX11_throwsNew : Cond.selects yX11_throwsNew.cls yX11_throwsNew yX11_throwsNew ∈ big := big_in (List.mem_of_getElem? (i := 590) (by decide +kernel)) rfl
theorem vkX12_readsStatement : Cond.selects yX12_readsStatement.cls yX12_readsStatement yX12_readsStatement ∈ big := big_sel (q := (yX12_readsStatement, 20)) (List.mem_of_getElem? (i := 25) (by decide +kernel))
theorem vkX11_row : Cond.selects yX11_row.cls yX11_row yX11_row ∈ big := big_in (List.mem_of_getElem? (i := 705) (by decide +kernel)) rfl
theorem vkX12_longest : Cond.selects yX12_longest.cls yX12_longest yX12_longest ∈ big := big_in (List.mem_of_getElem? (i := 1131) (by decide +kernel)) rfl
theorem vkX12_heightOf : Cond.selects yX12_heightOf.cls yX12_heightOf yX12_heightOf ∈ big := big_sel (q := (yX12_heightOf, 20)) (List.mem_of_getElem? (i := 50) (by decide +kernel))
theorem vkX5_tell : Cond.selects yX5_tell.cls yX5_tell yX5_tell ∈ big := big_in (List.mem_of_getElem? (i := 292) (by decide +kernel)) rfl
theorem vkX11_turn : Cond.selects yX11_turn.cls yX11_turn yX11_turn ∈ big := big_in (List.mem_of_getElem? (i := 444) (by decide +kernel)) rfl
theorem vkX11_comes : Cond.selects yX11_comes.cls yX11_comes yX11_comes ∈ big := big_in (List.mem_of_getElem? (i := 425) (by decide +kernel)) rfl
theorem vkX12_heap : Cond.selects yX12_heap.cls yX12_heap yX12_heap ∈ big := big_in (List.mem_of_getElem? (i := 977) (by decide +kernel)) rfl
theorem vkX12_next : Cond.selects yX12_next.cls yX12_next yX12_next ∈ big := big_in (List.mem_of_getElem? (i := 1222) (by decide +kernel)) rfl
theorem vkX12_perhaps : Cond.selects yX12_perhaps.cls yX12_perhaps yX12_perhaps ∈ big := big_sel (q := (yX12_perhaps, 20)) (List.mem_of_getElem? (i := 61) (by decide +kernel))
theorem vkX7_isApart : Cond.selects yX7_isApart.cls yX7_isApart yX7_isApart ∈ big := big_sel (q := (yX7_isApart, 11)) (List.mem_of_getElem? (i := 15) (by decide +kernel))
theorem vkX11_copy : Cond.selects yX11_copy.cls yX11_copy yX11_copy ∈ big := big_in (List.mem_of_getElem? (i := 722) (by decide +kernel)) rfl
theorem vkX11_warm : Cond.selects yX11_warm.cls yX11_warm yX11_warm ∈ big := big_in (List.mem_of_getElem? (i := 437) (by decide +kernel)) rfl
theorem vkX12_thrown : Cond.selects yX12_thrown.cls yX12_thrown yX12_thrown ∈ big := big_in (List.mem_of_getElem? (i := 973) (by decide +kernel)) rfl
theorem vkX12_keep : Cond.selects yX12_keep.cls yX12_keep yX12_keep ∈ big := big_in (List.mem_of_getElem? (i := 1258) (by decide +kernel)) rfl
theorem vkX5_allDepths : Cond.selects yX5_allDepths.cls yX5_allDepths yX5_allDepths ∈ big := big_in (List.mem_of_getElem? (i := 689) (by decide +kernel)) rfl
-- no selects: X1_cost
theorem vkX12_isNest : Cond.selects yX12_isNest.cls yX12_isNest yX12_isNest ∈ big := big_sel (q := (yX12_isNest, 20)) (List.mem_of_getElem? (i := 48) (by decide +kernel))
theorem vkX11_helps : Cond.selects yX11_helps.cls yX11_helps yX11_helps ∈ big := big_in (List.mem_of_getElem? (i := 603) (by decide +kernel)) rfl
theorem vkX11_from : Cond.selects yX11_from.cls yX11_from yX11_from ∈ big := big_in (List.mem_of_getElem? (i := 658) (by decide +kernel)) rfl
theorem vkX12_turned : Cond.selects yX12_turned.cls yX12_turned yX12_turned ∈ big := big_sel (q := (yX12_turned, 20)) (List.mem_of_getElem? (i := 36) (by decide +kernel))
theorem vkX12_canBeBetween : Cond.selects yX12_canBeBetween.cls yX12_canBeBetween yX12_canBeBetween ∈ big := big_sel (q := (yX12_canBeBetween, 20)) (List.mem_of_getElem? (i := 56) (by decide +kernel))
theorem vkX12_wrongOut : Cond.selects yX12_wrongOut.cls yX12_wrongOut yX12_wrongOut ∈ big := big_sel (q := (yX12_wrongOut, 20)) (List.mem_of_getElem? (i := 58) (by decide +kernel))
theorem vkX11_price : Cond.selects yX11_price.cls yX11_price yX11_price ∈ big := big_in (List.mem_of_getElem? (i := 731) (by decide +kernel)) rfl
theorem vkX11_breaks : Cond.selects yX11_breaks.cls yX11_breaks yX11_breaks ∈ big := big_in (List.mem_of_getElem? (i := 662) (by decide +kernel)) rfl
theorem vkX7_lengthenInward : Cond.selects yX7_lengthenInward.cls yX7_lengthenInward yX7_lengthenInward ∈ big := big_sel (q := (yX7_lengthenInward, 11)) (List.mem_of_getElem? (i := 17) (by decide +kernel))
theorem vkX12_insideBy : Cond.selects yX12_insideBy.cls yX12_insideBy yX12_insideBy ∈ big := big_sel (q := (yX12_insideBy, 20)) (List.mem_of_getElem? (i := 38) (by decide +kernel))
theorem vkX12_whole : Cond.selects yX12_whole.cls yX12_whole yX12_whole ∈ big := big_in (List.mem_of_getElem? (i := 1171) (by decide +kernel)) rfl
theorem vkX7_findAll : Cond.selects yX7_findAll.cls yX7_findAll yX7_findAll ∈ big := big_in (List.mem_of_getElem? (i := 511) (by decide +kernel)) rfl
theorem vkX12_element : Cond.selects yX12_element.cls yX12_element yX12_element ∈ big := big_in (List.mem_of_getElem? (i := 1271) (by decide +kernel)) rfl
theorem vkX11_out : Cond.selects yX11_out.cls yX11_out yX11_out ∈ big := big_in (List.mem_of_getElem? (i := 624) (by decide +kernel)) rfl
theorem vkX11_tellAll : Cond.selects yX11_tellAll.cls yX11_tellAll yX11_tellAll ∈ big := big_sel (q := (yX11_tellAll, 7)) (List.mem_of_getElem? (i := 5) (by decide +kernel))
theorem vkX11_put : Cond.selects yX11_put.cls yX11_put yX11_put ∈ big := big_in (List.mem_of_getElem? (i := 713) (by decide +kernel)) rfl
theorem vkX11_pairsPerhaps : Cond.selects yX11_pairsPerhaps.cls yX11_pairsPerhaps yX11_pairsPerhaps ∈ big := big_sel (q := (yX11_pairsPerhaps, 7)) (List.mem_of_getElem? (i := 21) (by decide +kernel))
theorem vkX10_digitEnd : Cond.selects yX10_digitEnd.cls yX10_digitEnd yX10_digitEnd ∈ big := big_sel (q := (yX10_digitEnd, 6)) (List.mem_of_getElem? (i := 2) (by decide +kernel))
-- no selects: X9_outside
-- no selects: X8_minds
theorem vkX12_inside : Cond.selects yX12_inside.cls yX12_inside yX12_inside ∈ big := big_sel (q := (yX12_inside, 20)) (List.mem_of_getElem? (i := 37) (by decide +kernel))
theorem vkX7_longestWith : Cond.selects yX7_longestWith.cls yX7_longestWith yX7_longestWith ∈ big := big_in (List.mem_of_getElem? (i := 620) (by decide +kernel)) rfl
theorem vkX11_restore : Cond.selects yX11_restore.cls yX11_restore yX11_restore ∈ big := big_in (List.mem_of_getElem? (i := 677) (by decide +kernel)) rfl
theorem vkX12_isDigit : Cond.selects yX12_isDigit.cls yX12_isDigit yX12_isDigit ∈ big := big_sel (q := (yX12_isDigit, 20)) (List.mem_of_getElem? (i := 28) (by decide +kernel))
theorem vkX12_adds : Cond.selects yX12_adds.cls yX12_adds yX12_adds ∈ big := big_sel (q := (yX12_adds, 20)) (List.mem_of_getElem? (i := 41) (by decide +kernel))
theorem vkX0_minds : Cond.selects yX0_minds.cls yX0_minds yX0_minds ∈ big := big_in (List.mem_of_getElem? (i := 465) (by decide +kernel)) rfl
theorem vkX5_arrange : Cond.selects yX5_arrange.cls yX5_arrange yX5_arrange ∈ big := big_in (List.mem_of_getElem? (i := 497) (by decide +kernel)) rfl
theorem vkX11_shelfRefusal : Cond.selects yX11_shelfRefusal.cls yX11_shelfRefusal yX11_shelfRefusal ∈ big := big_sel (q := (yX11_shelfRefusal, 7)) (List.mem_of_getElem? (i := 1) (by decide +kernel))
theorem vkX11_brokenBy : Cond.selects yX11_brokenBy.cls yX11_brokenBy yX11_brokenBy ∈ big := big_sel (q := (yX11_brokenBy, 7)) (List.mem_of_getElem? (i := 22) (by decide +kernel))
theorem vkX11_fewest : Cond.selects yX11_fewest.cls yX11_fewest yX11_fewest ∈ big := big_in (List.mem_of_getElem? (i := 544) (by decide +kernel)) rfl
theorem vkX11_arePair : Cond.selects yX11_arePair.cls yX11_arePair yX11_arePair ∈ big := big_sel (q := (yX11_arePair, 7)) (List.mem_of_getElem? (i := 9) (by decide +kernel))
theorem vkX12_count : Cond.selects yX12_count.cls yX12_count yX12_count ∈ big := big_in (List.mem_of_getElem? (i := 1254) (by decide +kernel)) rfl
theorem vkX12_nest : Cond.selects yX12_nest.cls yX12_nest yX12_nest ∈ big := big_in (List.mem_of_getElem? (i := 1103) (by decide +kernel)) rfl
-- no selects: X3_inside
theorem vkX12_isBowl : Cond.selects yX12_isBowl.cls yX12_isBowl yX12_isBowl ∈ big := big_sel (q := (yX12_isBowl, 20)) (List.mem_of_getElem? (i := 32) (by decide +kernel))
theorem vkX12_copy : Cond.selects yX12_copy.cls yX12_copy yX12_copy ∈ big := big_in (List.mem_of_getElem? (i := 1275) (by decide +kernel)) rfl
theorem vkX10_digitAt : Cond.selects yX10_digitAt.cls yX10_digitAt yX10_digitAt ∈ big := big_in (List.mem_of_getElem? (i := 301) (by decide +kernel)) rfl
theorem vkX7_note : Cond.selects yX7_note.cls yX7_note yX7_note ∈ big := big_sel (q := (yX7_note, 11)) (List.mem_of_getElem? (i := 13) (by decide +kernel))
theorem vkX12_apart : Cond.selects yX12_apart.cls yX12_apart yX12_apart ∈ big := big_in (List.mem_of_getElem? (i := 1163) (by decide +kernel)) rfl
theorem vkX11_heap : Cond.selects yX11_heap.cls yX11_heap yX11_heap ∈ big := big_in (List.mem_of_getElem? (i := 231) (by decide +kernel)) rfl
theorem vkX12_rise : Cond.selects yX12_rise.cls yX12_rise yX12_rise ∈ big := big_sel (q := (yX12_rise, 20)) (List.mem_of_getElem? (i := 39) (by decide +kernel))
theorem vkX12_outermost : Cond.selects yX12_outermost.cls yX12_outermost yX12_outermost ∈ big := big_sel (q := (yX12_outermost, 20)) (List.mem_of_getElem? (i := 49) (by decide +kernel))
-- no selects: X8_outside
theorem vkX12_wrongAt : Cond.selects yX12_wrongAt.cls yX12_wrongAt yX12_wrongAt ∈ big := big_sel (q := (yX12_wrongAt, 20)) (List.mem_of_getElem? (i := 59) (by decide +kernel))
theorem vkX11_isBridged : Cond.selects yX11_isBridged.cls yX11_isBridged yX11_isBridged ∈ big := big_sel (q := (yX11_isBridged, 7)) (List.mem_of_getElem? (i := 16) (by decide +kernel))
theorem vkX7_lengthenOutward : Cond.selects yX7_lengthenOutward.cls yX7_lengthenOutward yX7_lengthenOutward ∈ big := big_sel (q := (yX7_lengthenOutward, 11)) (List.mem_of_getElem? (i := 18) (by decide +kernel))
-- no selects: X9_fail
theorem vkX12_spans : Cond.selects yX12_spans.cls yX12_spans yX12_spans ∈ big := big_in (List.mem_of_getElem? (i := 1211) (by decide +kernel)) rfl
theorem vkX12_here : Cond.selects yX12_here.cls yX12_here yX12_here ∈ big := big_sel (q := (yX12_here, 20)) (List.mem_of_getElem? (i := 26) (by decide +kernel))
theorem vkX11_spans : Cond.selects yX11_spans.cls yX11_spans yX11_spans ∈ big := big_in (List.mem_of_getElem? (i := 641) (by decide +kernel)) rfl
theorem vkX11_judge : Cond.selects yX11_judge.cls yX11_judge yX11_judge ∈ big := big_in (List.mem_of_getElem? (i := 633) (by decide +kernel)) rfl
theorem vkX10_holdBowl : Cond.selects yX10_holdBowl.cls yX10_holdBowl yX10_holdBowl ∈ big := big_in (List.mem_of_getElem? (i := 701) (by decide +kernel)) rfl
theorem vkX12_carry : Cond.selects yX12_carry.cls yX12_carry yX12_carry ∈ big := big_in (List.mem_of_getElem? (i := 1155) (by decide +kernel)) rfl
theorem vkX0_outside : Cond.selects yX0_outside.cls yX0_outside yX0_outside ∈ big := big_in (List.mem_of_getElem? (i := 341) (by decide +kernel)) rfl
theorem vkX11_apart : Cond.selects yX11_apart.cls yX11_apart yX11_apart ∈ big := big_in (List.mem_of_getElem? (i := 558) (by decide +kernel)) rfl
-- no selects: X9_cost
-- no selects: X6_outside
theorem vkX5_think : Cond.selects yX5_think.cls yX5_think yX5_think ∈ big := big_in (List.mem_of_getElem? (i := 595) (by decide +kernel)) rfl
theorem vkX5_spanned : Cond.selects yX5_spanned.cls yX5_spanned yX5_spanned ∈ big := big_in (List.mem_of_getElem? (i := 645) (by decide +kernel)) rfl
theorem vkX5_all : Cond.selects yX5_all.cls yX5_all yX5_all ∈ big := big_in (List.mem_of_getElem? (i := 489) (by decide +kernel)) rfl
theorem vkX12_longestRow : Cond.selects yX12_longestRow.cls yX12_longestRow yX12_longestRow ∈ big := big_sel (q := (yX12_longestRow, 20)) (List.mem_of_getElem? (i := 57) (by decide +kernel))
theorem vkX5_place : Cond.selects yX5_place.cls yX5_place yX5_place ∈ big := big_sel (q := (yX5_place, 9)) (List.mem_of_getElem? (i := 7) (by decide +kernel))
theorem vkX7_costOneEach : Cond.selects yX7_costOneEach.cls yX7_costOneEach yX7_costOneEach ∈ big := big_in (List.mem_of_getElem? (i := 549) (by decide +kernel)) rfl
theorem vkX12_image : Cond.selects yX12_image.cls yX12_image yX12_image ∈ big := big_in (List.mem_of_getElem? (i := 1246) (by decide +kernel)) rfl
theorem vkX5_dropLatest : Cond.selects yX5_dropLatest.cls yX5_dropLatest yX5_dropLatest ∈ big := big_in (List.mem_of_getElem? (i := 327) (by decide +kernel)) rfl
theorem vkX12_price : Cond.selects yX12_price.cls yX12_price yX12_price ∈ big := big_in (List.mem_of_getElem? (i := 1279) (by decide +kernel)) rfl
theorem vkX10_isDigit : Cond.selects yX10_isDigit.cls yX10_isDigit yX10_isDigit ∈ big := big_sel (q := (yX10_isDigit, 6)) (List.mem_of_getElem? (i := 3) (by decide +kernel))
theorem vkX10_hasPlace : Cond.selects yX10_hasPlace.cls yX10_hasPlace yX10_hasPlace ∈ big := big_in (List.mem_of_getElem? (i := 261) (by decide +kernel)) rfl
theorem vkX12_outsideBy : Cond.selects yX12_outsideBy.cls yX12_outsideBy yX12_outsideBy ∈ big := big_sel (q := (yX12_outsideBy, 20)) (List.mem_of_getElem? (i := 35) (by decide +kernel))
-- no selects: X2_fail
theorem vkX10_set : Cond.selects yX10_set.cls yX10_set yX10_set ∈ big := big_in (List.mem_of_getElem? (i := 718) (by decide +kernel)) rfl
theorem vkX12_put : Cond.selects yX12_put.cls yX12_put yX12_put ∈ big := big_in (List.mem_of_getElem? (i := 1267) (by decide +kernel)) rfl
theorem vkX12_takes : Cond.selects yX12_takes.cls yX12_takes yX12_takes ∈ big := big_sel (q := (yX12_takes, 20)) (List.mem_of_getElem? (i := 29) (by decide +kernel))
theorem vkX7_costHeights : Cond.selects yX7_costHeights.cls yX7_costHeights yX7_costHeights ∈ big := big_in (List.mem_of_getElem? (i := 574) (by decide +kernel)) rfl
theorem vkX12_counted : Cond.selects yX12_counted.cls yX12_counted yX12_counted ∈ big := big_sel (q := (yX12_counted, 20)) (List.mem_of_getElem? (i := 53) (by decide +kernel))
theorem vkX10_signEnd : Cond.selects yX10_signEnd.cls yX10_signEnd yX10_signEnd ∈ big := big_sel (q := (yX10_signEnd, 6)) (List.mem_of_getElem? (i := 4) (by decide +kernel))
theorem vkX12_everything : Cond.selects yX12_everything.cls yX12_everything yX12_everything ∈ big := big_sel (q := (yX12_everything, 20)) (List.mem_of_getElem? (i := 47) (by decide +kernel))
theorem vkX11_areBowls : Cond.selects yX11_areBowls.cls yX11_areBowls yX11_areBowls ∈ big := big_sel (q := (yX11_areBowls, 7)) (List.mem_of_getElem? (i := 11) (by decide +kernel))
theorem vkX11_rowRefusal : Cond.selects yX11_rowRefusal.cls yX11_rowRefusal yX11_rowRefusal ∈ big := big_sel (q := (yX11_rowRefusal, 7)) (List.mem_of_getElem? (i := 20) (by decide +kernel))
theorem vkX7_growBy : Cond.selects yX7_growBy.cls yX7_growBy yX7_growBy ∈ big := big_sel (q := (yX7_growBy, 11)) (List.mem_of_getElem? (i := 12) (by decide +kernel))
-- no selects: X3_rise
theorem vkX12_bowl : Cond.selects yX12_bowl.cls yX12_bowl yX12_bowl ∈ big := big_in (List.mem_of_getElem? (i := 1033) (by decide +kernel)) rfl
theorem vkX7_longestOf : Cond.selects yX7_longestOf.cls yX7_longestOf yX7_longestOf ∈ big := big_in (List.mem_of_getElem? (i := 529) (by decide +kernel)) rfl
theorem vkX5_has : Cond.selects yX5_has.cls yX5_has yX5_has ∈ big := big_in (List.mem_of_getElem? (i := 323) (by decide +kernel)) rfl
theorem vkX10_numberEnd : Cond.selects yX10_numberEnd.cls yX10_numberEnd yX10_numberEnd ∈ big := big_in (List.mem_of_getElem? (i := 273) (by decide +kernel)) rfl
theorem vkX12_outside : Cond.selects yX12_outside.cls yX12_outside yX12_outside ∈ big := big_sel (q := (yX12_outside, 20)) (List.mem_of_getElem? (i := 34) (by decide +kernel))
theorem vkX11_longest : Cond.selects yX11_longest.cls yX11_longest yX11_longest ∈ big := big_in (List.mem_of_getElem? (i := 507) (by decide +kernel)) rfl
theorem vkX0_cost : Cond.selects yX0_cost.cls yX0_cost yX0_cost ∈ big := big_in (List.mem_of_getElem? (i := 735) (by decide +kernel)) rfl
theorem vkX12_puts : Cond.selects yX12_puts.cls yX12_puts yX12_puts ∈ big := big_sel (q := (yX12_puts, 20)) (List.mem_of_getElem? (i := 31) (by decide +kernel))
theorem vkX12_height : Cond.selects yX12_height.cls yX12_height yX12_height ∈ big := big_in (List.mem_of_getElem? (i := 1123) (by decide +kernel)) rfl
-- no selects: X6_cost
theorem vkX7_costLessForSetsOf : Cond.selects yX7_costLessForSetsOf.cls yX7_costLessForSetsOf yX7_costLessForSetsOf ∈ big := big_in (List.mem_of_getElem? (i := 586) (by decide +kernel)) rfl
theorem vkX5_add : Cond.selects yX5_add.cls yX5_add yX5_add ∈ big := big_in (List.mem_of_getElem? (i := 311) (by decide +kernel)) rfl
theorem vkX11_load : Cond.selects yX11_load.cls yX11_load yX11_load ∈ big := big_in (List.mem_of_getElem? (i := 578) (by decide +kernel)) rfl
theorem vkX11_next : Cond.selects yX11_next.cls yX11_next yX11_next ∈ big := big_in (List.mem_of_getElem? (i := 650) (by decide +kernel)) rfl
theorem vkX12_row : Cond.selects yX12_row.cls yX12_row yX12_row ∈ big := big_in (List.mem_of_getElem? (i := 1262) (by decide +kernel)) rfl
theorem vkX12_lies : Cond.selects yX12_lies.cls yX12_lies yX12_lies ∈ big := big_in (List.mem_of_getElem? (i := 1083) (by decide +kernel)) rfl
theorem vkX11_keep : Cond.selects yX11_keep.cls yX11_keep yX11_keep ∈ big := big_in (List.mem_of_getElem? (i := 693) (by decide +kernel)) rfl
theorem vkX12_throwsNew : Cond.selects yX12_throwsNew.cls yX12_throwsNew yX12_throwsNew ∈ big := big_in (List.mem_of_getElem? (i := 1179) (by decide +kernel)) rfl
theorem vkX5_riseOf : Cond.selects yX5_riseOf.cls yX5_riseOf yX5_riseOf ∈ big := big_in (List.mem_of_getElem? (i := 397) (by decide +kernel)) rfl
theorem vkX10_hasStretch : Cond.selects yX10_hasStretch.cls yX10_hasStretch yX10_hasStretch ∈ big := big_in (List.mem_of_getElem? (i := 726) (by decide +kernel)) rfl
theorem vkX12_warm : Cond.selects yX12_warm.cls yX12_warm yX12_warm ∈ big := big_in (List.mem_of_getElem? (i := 1074) (by decide +kernel)) rfl
theorem vkX11_carry : Cond.selects yX11_carry.cls yX11_carry yX11_carry ∈ big := big_in (List.mem_of_getElem? (i := 570) (by decide +kernel)) rfl
theorem vkX12_from : Cond.selects yX12_from.cls yX12_from yX12_from ∈ big := big_in (List.mem_of_getElem? (i := 1230) (by decide +kernel)) rfl
theorem vkX12_wrongRow : Cond.selects yX12_wrongRow.cls yX12_wrongRow yX12_wrongRow ∈ big := big_sel (q := (yX12_wrongRow, 20)) (List.mem_of_getElem? (i := 24) (by decide +kernel))
theorem vkX12_comes : Cond.selects yX12_comes.cls yX12_comes yX12_comes ∈ big := big_in (List.mem_of_getElem? (i := 1061) (by decide +kernel)) rfl
theorem vkX12_turn : Cond.selects yX12_turn.cls yX12_turn yX12_turn ∈ big := big_in (List.mem_of_getElem? (i := 1079) (by decide +kernel)) rfl
theorem vkX11_firstMisplaced : Cond.selects yX11_firstMisplaced.cls yX11_firstMisplaced yX11_firstMisplaced ∈ big := big_sel (q := (yX11_firstMisplaced, 7)) (List.mem_of_getElem? (i := 19) (by decide +kernel))
theorem vkX12_comesTold : Cond.selects yX12_comesTold.cls yX12_comesTold yX12_comesTold ∈ big := big_sel (q := (yX12_comesTold, 20)) (List.mem_of_getElem? (i := 30) (by decide +kernel))
theorem vkX0_inside : Cond.selects yX0_inside.cls yX0_inside yX0_inside ∈ big := big_in (List.mem_of_getElem? (i := 374) (by decide +kernel)) rfl
theorem vkX5_isIn : Cond.selects yX5_isIn.cls yX5_isIn yX5_isIn ∈ big := big_in (List.mem_of_getElem? (i := 457) (by decide +kernel)) rfl
theorem vkX7_mostApart : Cond.selects yX7_mostApart.cls yX7_mostApart yX7_mostApart ∈ big := big_in (List.mem_of_getElem? (i := 562) (by decide +kernel)) rfl
theorem vkX11_whole : Cond.selects yX11_whole.cls yX11_whole yX11_whole ∈ big := big_in (List.mem_of_getElem? (i := 582) (by decide +kernel)) rfl
theorem vkX5_insideAt : Cond.selects yX5_insideAt.cls yX5_insideAt yX5_insideAt ∈ big := big_in (List.mem_of_getElem? (i := 370) (by decide +kernel)) rfl
-- no selects: X6_inside
theorem vkX12_fitsBut : Cond.selects yX12_fitsBut.cls yX12_fitsBut yX12_fitsBut ∈ big := big_sel (q := (yX12_fitsBut, 20)) (List.mem_of_getElem? (i := 44) (by decide +kernel))
theorem vkX11_element : Cond.selects yX11_element.cls yX11_element yX11_element ∈ big := big_in (List.mem_of_getElem? (i := 898) (by decide +kernel)) rfl
theorem vkX12_isOval : Cond.selects yX12_isOval.cls yX12_isOval yX12_isOval ∈ big := big_sel (q := (yX12_isOval, 20)) (List.mem_of_getElem? (i := 45) (by decide +kernel))
theorem vkX12_readsNumber : Cond.selects yX12_readsNumber.cls yX12_readsNumber yX12_readsNumber ∈ big := big_sel (q := (yX12_readsNumber, 20)) (List.mem_of_getElem? (i := 27) (by decide +kernel))
-- no selects: X4_outside
-- no selects: X8_inside
theorem vkX12_helps : Cond.selects yX12_helps.cls yX12_helps yX12_helps ∈ big := big_in (List.mem_of_getElem? (i := 1187) (by decide +kernel)) rfl
theorem vkX5_tellBowl : Cond.selects yX5_tellBowl.cls yX5_tellBowl yX5_tellBowl ∈ big := big_sel (q := (yX5_tellBowl, 9)) (List.mem_of_getElem? (i := 6) (by decide +kernel))
theorem vkX5_pairsIn : Cond.selects yX5_pairsIn.cls yX5_pairsIn yX5_pairsIn ∈ big := big_in (List.mem_of_getElem? (i := 685) (by decide +kernel)) rfl
theorem vkX12_get : Cond.selects yX12_get.cls yX12_get yX12_get ∈ big := big_sel (q := (yX12_get, 20)) (List.mem_of_getElem? (i := 33) (by decide +kernel))
theorem vkX0_fail : Cond.selects yX0_fail.cls yX0_fail yX0_fail ∈ big := big_in (List.mem_of_getElem? (i := 775) (by decide +kernel)) rfl
theorem vkX12_breaks : Cond.selects yX12_breaks.cls yX12_breaks yX12_breaks ∈ big := big_in (List.mem_of_getElem? (i := 1234) (by decide +kernel)) rfl
-- no selects: X4_fail
theorem vkX12_out : Cond.selects yX12_out.cls yX12_out yX12_out ∈ big := big_in (List.mem_of_getElem? (i := 1195) (by decide +kernel)) rfl
theorem vkX12_wrongKept : Cond.selects yX12_wrongKept.cls yX12_wrongKept yX12_wrongKept ∈ big := big_sel (q := (yX12_wrongKept, 20)) (List.mem_of_getElem? (i := 40) (by decide +kernel))
theorem vkX12_areBowls : Cond.selects yX12_areBowls.cls yX12_areBowls yX12_areBowls ∈ big := big_sel (q := (yX12_areBowls, 20)) (List.mem_of_getElem? (i := 46) (by decide +kernel))
theorem vkX11_count : Cond.selects yX11_count.cls yX11_count yX11_count ∈ big := big_in (List.mem_of_getElem? (i := 681) (by decide +kernel)) rfl
-- no selects: X3_cost
theorem vkX5_outsideAt : Cond.selects yX5_outsideAt.cls yX5_outsideAt yX5_outsideAt ∈ big := big_in (List.mem_of_getElem? (i := 337) (by decide +kernel)) rfl
theorem vkX10_faultOfForm : Cond.selects yX10_faultOfForm.cls yX10_faultOfForm yX10_faultOfForm ∈ big := big_in (List.mem_of_getElem? (i := 249) (by decide +kernel)) rfl
theorem vkX11_nest : Cond.selects yX11_nest.cls yX11_nest yX11_nest ∈ big := big_in (List.mem_of_getElem? (i := 481) (by decide +kernel)) rfl
theorem vkX12_leastOf : Cond.selects yX12_leastOf.cls yX12_leastOf yX12_leastOf ∈ big := big_sel (q := (yX12_leastOf, 20)) (List.mem_of_getElem? (i := 52) (by decide +kernel))
theorem vkX12_areApart : Cond.selects yX12_areApart.cls yX12_areApart yX12_areApart ∈ big := big_sel (q := (yX12_areApart, 20)) (List.mem_of_getElem? (i := 54) (by decide +kernel))
-- no selects: X2_cost
-- no selects: X8_cost
theorem vkX10_at : Cond.selects yX10_at.cls yX10_at yX10_at ∈ big := big_in (List.mem_of_getElem? (i := 257) (by decide +kernel)) rfl
theorem vkX12_spanOf : Cond.selects yX12_spanOf.cls yX12_spanOf yX12_spanOf ∈ big := big_sel (q := (yX12_spanOf, 20)) (List.mem_of_getElem? (i := 60) (by decide +kernel))
theorem vkX11_bowlRefusal : Cond.selects yX11_bowlRefusal.cls yX11_bowlRefusal yX11_bowlRefusal ∈ big := big_sel (q := (yX11_bowlRefusal, 7)) (List.mem_of_getElem? (i := 8) (by decide +kernel))
theorem vkX12_restore : Cond.selects yX12_restore.cls yX12_restore yX12_restore ∈ big := big_in (List.mem_of_getElem? (i := 1250) (by decide +kernel)) rfl
theorem vkX12_load : Cond.selects yX12_load.cls yX12_load yX12_load ∈ big := big_in (List.mem_of_getElem? (i := 1159) (by decide +kernel)) rfl
theorem vkX5_become : Cond.selects yX5_become.cls yX5_become yX5_become ∈ big := big_in (List.mem_of_getElem? (i := 285) (by decide +kernel)) rfl
-- no selects: X4_cost
theorem vkX12_liesNow : Cond.selects yX12_liesNow.cls yX12_liesNow yX12_liesNow ∈ big := big_sel (q := (yX12_liesNow, 20)) (List.mem_of_getElem? (i := 42) (by decide +kernel))
theorem vkX10_holdRow : Cond.selects yX10_holdRow.cls yX10_holdRow yX10_holdRow ∈ big := big_in (List.mem_of_getElem? (i := 709) (by decide +kernel)) rfl
theorem vkX12_fewest : Cond.selects yX12_fewest.cls yX12_fewest yX12_fewest ∈ big := big_in (List.mem_of_getElem? (i := 1142) (by decide +kernel)) rfl
theorem vkX0_rise : Cond.selects yX0_rise.cls yX0_rise yX0_rise ∈ big := big_in (List.mem_of_getElem? (i := 401) (by decide +kernel)) rfl
theorem dkX10_numberAt : yX10_numberAt.cls ≠ "java/lang/invoke/MethodHandle" ∧ yX10_numberAt.cls ≠ "java/lang/invoke/VarHandle" ∧ (parseMethodDescriptor yX10_numberAt.desc).map (fun d => d.parameters.length) = some 1 := by decide +kernel
theorem dkX6_rise : yX6_rise.cls ≠ "java/lang/invoke/MethodHandle" ∧ yX6_rise.cls ≠ "java/lang/invoke/VarHandle" ∧ (parseMethodDescriptor yX6_rise.desc).map (fun d => d.parameters.length) = some 1 := by decide +kernel
theorem dkX2_rise : yX2_rise.cls ≠ "java/lang/invoke/MethodHandle" ∧ yX2_rise.cls ≠ "java/lang/invoke/VarHandle" ∧ (parseMethodDescriptor yX2_rise.desc).map (fun d => d.parameters.length) = some 1 := by decide +kernel
theorem dkX11_image : yX11_image.cls ≠ "java/lang/invoke/MethodHandle" ∧ yX11_image.cls ≠ "java/lang/invoke/VarHandle" ∧ (parseMethodDescriptor yX11_image.desc).map (fun d => d.parameters.length) = some 0 := by decide +kernel
theorem dkX12_isIn : yX12_isIn.cls ≠ "java/lang/invoke/MethodHandle" ∧ yX12_isIn.cls ≠ "java/lang/invoke/VarHandle" ∧ (parseMethodDescriptor yX12_isIn.desc).map (fun d => d.parameters.length) = some 3 := by decide +kernel
theorem dkX11_isShelf : yX11_isShelf.cls ≠ "java/lang/invoke/MethodHandle" ∧ yX11_isShelf.cls ≠ "java/lang/invoke/VarHandle" ∧ (parseMethodDescriptor yX11_isShelf.desc).map (fun d => d.parameters.length) = some 1 := by decide +kernel
theorem dkX1_rise : yX1_rise.cls ≠ "java/lang/invoke/MethodHandle" ∧ yX1_rise.cls ≠ "java/lang/invoke/VarHandle" ∧ (parseMethodDescriptor yX1_rise.desc).map (fun d => d.parameters.length) = some 1 := by decide +kernel
theorem dkX5_flip : yX5_flip.cls ≠ "java/lang/invoke/MethodHandle" ∧ yX5_flip.cls ≠ "java/lang/invoke/VarHandle" ∧ (parseMethodDescriptor yX5_flip.desc).map (fun d => d.parameters.length) = some 1 := by decide +kernel
theorem dkX7_leastSum : yX7_leastSum.cls ≠ "java/lang/invoke/MethodHandle" ∧ yX7_leastSum.cls ≠ "java/lang/invoke/VarHandle" ∧ (parseMethodDescriptor yX7_leastSum.desc).map (fun d => d.parameters.length) = some 0 := by decide +kernel
theorem dkX12_drawn : yX12_drawn.cls ≠ "java/lang/invoke/MethodHandle" ∧ yX12_drawn.cls ≠ "java/lang/invoke/VarHandle" ∧ (parseMethodDescriptor yX12_drawn.desc).map (fun d => d.parameters.length) = some 1 := by decide +kernel
theorem dkX11_bytesRefusal : yX11_bytesRefusal.cls ≠ "java/lang/invoke/MethodHandle" ∧ yX11_bytesRefusal.cls ≠ "java/lang/invoke/VarHandle" ∧ (parseMethodDescriptor yX11_bytesRefusal.desc).map (fun d => d.parameters.length) = some 1 := by decide +kernel
theorem dkX12_longestOf : yX12_longestOf.cls ≠ "java/lang/invoke/MethodHandle" ∧ yX12_longestOf.cls ≠ "java/lang/invoke/VarHandle" ∧ (parseMethodDescriptor yX12_longestOf.desc).map (fun d => d.parameters.length) = some 1 := by decide +kernel
theorem dkX12_judge : yX12_judge.cls ≠ "java/lang/invoke/MethodHandle" ∧ yX12_judge.cls ≠ "java/lang/invoke/VarHandle" ∧ (parseMethodDescriptor yX12_judge.desc).map (fun d => d.parameters.length) = some 1 := by decide +kernel
theorem dkX5_agree : yX5_agree.cls ≠ "java/lang/invoke/MethodHandle" ∧ yX5_agree.cls ≠ "java/lang/invoke/VarHandle" ∧ (parseMethodDescriptor yX5_agree.desc).map (fun d => d.parameters.length) = some 2 := by decide +kernel
theorem dkX4_inside : yX4_inside.cls ≠ "java/lang/invoke/MethodHandle" ∧ yX4_inside.cls ≠ "java/lang/invoke/VarHandle" ∧ (parseMethodDescriptor yX4_inside.desc).map (fun d => d.parameters.length) = some 4 := by decide +kernel
theorem dkX5_heightOf : yX5_heightOf.cls ≠ "java/lang/invoke/MethodHandle" ∧ yX5_heightOf.cls ≠ "java/lang/invoke/VarHandle" ∧ (parseMethodDescriptor yX5_heightOf.desc).map (fun d => d.parameters.length) = some 1 := by decide +kernel
theorem dkX11_areHairs : yX11_areHairs.cls ≠ "java/lang/invoke/MethodHandle" ∧ yX11_areHairs.cls ≠ "java/lang/invoke/VarHandle" ∧ (parseMethodDescriptor yX11_areHairs.desc).map (fun d => d.parameters.length) = some 1 := by decide +kernel
theorem dkX12_wholeOf : yX12_wholeOf.cls ≠ "java/lang/invoke/MethodHandle" ∧ yX12_wholeOf.cls ≠ "java/lang/invoke/VarHandle" ∧ (parseMethodDescriptor yX12_wholeOf.desc).map (fun d => d.parameters.length) = some 2 := by decide +kernel
theorem dkX11_bowl : yX11_bowl.cls ≠ "java/lang/invoke/MethodHandle" ∧ yX11_bowl.cls ≠ "java/lang/invoke/VarHandle" ∧ (parseMethodDescriptor yX11_bowl.desc).map (fun d => d.parameters.length) = some 2 := by decide +kernel
theorem dkX12_toss : yX12_toss.cls ≠ "java/lang/invoke/MethodHandle" ∧ yX12_toss.cls ≠ "java/lang/invoke/VarHandle" ∧ (parseMethodDescriptor yX12_toss.desc).map (fun d => d.parameters.length) = some 1 := by decide +kernel
theorem dkX11_height : yX11_height.cls ≠ "java/lang/invoke/MethodHandle" ∧ yX11_height.cls ≠ "java/lang/invoke/VarHandle" ∧ (parseMethodDescriptor yX11_height.desc).map (fun d => d.parameters.length) = some 1 := by decide +kernel
theorem dkX12_liesAt : yX12_liesAt.cls ≠ "java/lang/invoke/MethodHandle" ∧ yX12_liesAt.cls ≠ "java/lang/invoke/VarHandle" ∧ (parseMethodDescriptor yX12_liesAt.desc).map (fun d => d.parameters.length) = some 3 := by decide +kernel
theorem dkX11_init : yX11_init.cls ≠ "java/lang/invoke/MethodHandle" ∧ yX11_init.cls ≠ "java/lang/invoke/VarHandle" ∧ (parseMethodDescriptor yX11_init.desc).map (fun d => d.parameters.length) = some 0 := by decide +kernel
theorem dkX2_init : yX2_init.cls ≠ "java/lang/invoke/MethodHandle" ∧ yX2_init.cls ≠ "java/lang/invoke/VarHandle" ∧ (parseMethodDescriptor yX2_init.desc).map (fun d => d.parameters.length) = some 0 := by decide +kernel
theorem dkX10_statementEnd : yX10_statementEnd.cls ≠ "java/lang/invoke/MethodHandle" ∧ yX10_statementEnd.cls ≠ "java/lang/invoke/VarHandle" ∧ (parseMethodDescriptor yX10_statementEnd.desc).map (fun d => d.parameters.length) = some 1 := by decide +kernel
theorem dkX10_init : yX10_init.cls ≠ "java/lang/invoke/MethodHandle" ∧ yX10_init.cls ≠ "java/lang/invoke/VarHandle" ∧ (parseMethodDescriptor yX10_init.desc).map (fun d => d.parameters.length) = some 0 := by decide +kernel
theorem dkX7_findChains : yX7_findChains.cls ≠ "java/lang/invoke/MethodHandle" ∧ yX7_findChains.cls ≠ "java/lang/invoke/VarHandle" ∧ (parseMethodDescriptor yX7_findChains.desc).map (fun d => d.parameters.length) = some 1 := by decide +kernel
theorem dkX10_clear : yX10_clear.cls ≠ "java/lang/invoke/MethodHandle" ∧ yX10_clear.cls ≠ "java/lang/invoke/VarHandle" ∧ (parseMethodDescriptor yX10_clear.desc).map (fun d => d.parameters.length) = some 0 := by decide +kernel
theorem dkX11_lies : yX11_lies.cls ≠ "java/lang/invoke/MethodHandle" ∧ yX11_lies.cls ≠ "java/lang/invoke/VarHandle" ∧ (parseMethodDescriptor yX11_lies.desc).map (fun d => d.parameters.length) = some 2 := by decide +kernel
theorem dkX7_isLonger : yX7_isLonger.cls ≠ "java/lang/invoke/MethodHandle" ∧ yX7_isLonger.cls ≠ "java/lang/invoke/VarHandle" ∧ (parseMethodDescriptor yX7_isLonger.desc).map (fun d => d.parameters.length) = some 2 := by decide +kernel
theorem dkX11_throwsNew : yX11_throwsNew.cls ≠ "java/lang/invoke/MethodHandle" ∧ yX11_throwsNew.cls ≠ "java/lang/invoke/VarHandle" ∧ (parseMethodDescriptor yX11_throwsNew.desc).map (fun d => d.parameters.length) = some 0 := by decide +kernel
theorem dkX12_readsStatement : yX12_readsStatement.cls ≠ "java/lang/invoke/MethodHandle" ∧ yX12_readsStatement.cls ≠ "java/lang/invoke/VarHandle" ∧ (parseMethodDescriptor yX12_readsStatement.desc).map (fun d => d.parameters.length) = some 0 := by decide +kernel
theorem dkX0_init : yX0_init.cls ≠ "java/lang/invoke/MethodHandle" ∧ yX0_init.cls ≠ "java/lang/invoke/VarHandle" ∧ (parseMethodDescriptor yX0_init.desc).map (fun d => d.parameters.length) = some 0 := by decide +kernel
theorem dkX11_row : yX11_row.cls ≠ "java/lang/invoke/MethodHandle" ∧ yX11_row.cls ≠ "java/lang/invoke/VarHandle" ∧ (parseMethodDescriptor yX11_row.desc).map (fun d => d.parameters.length) = some 3 := by decide +kernel
theorem dkX6_init : yX6_init.cls ≠ "java/lang/invoke/MethodHandle" ∧ yX6_init.cls ≠ "java/lang/invoke/VarHandle" ∧ (parseMethodDescriptor yX6_init.desc).map (fun d => d.parameters.length) = some 0 := by decide +kernel
theorem dkX12_longest : yX12_longest.cls ≠ "java/lang/invoke/MethodHandle" ∧ yX12_longest.cls ≠ "java/lang/invoke/VarHandle" ∧ (parseMethodDescriptor yX12_longest.desc).map (fun d => d.parameters.length) = some 2 := by decide +kernel
theorem dkX12_heightOf : yX12_heightOf.cls ≠ "java/lang/invoke/MethodHandle" ∧ yX12_heightOf.cls ≠ "java/lang/invoke/VarHandle" ∧ (parseMethodDescriptor yX12_heightOf.desc).map (fun d => d.parameters.length) = some 1 := by decide +kernel
theorem dkX4_init : yX4_init.cls ≠ "java/lang/invoke/MethodHandle" ∧ yX4_init.cls ≠ "java/lang/invoke/VarHandle" ∧ (parseMethodDescriptor yX4_init.desc).map (fun d => d.parameters.length) = some 0 := by decide +kernel
theorem dkX5_tell : yX5_tell.cls ≠ "java/lang/invoke/MethodHandle" ∧ yX5_tell.cls ≠ "java/lang/invoke/VarHandle" ∧ (parseMethodDescriptor yX5_tell.desc).map (fun d => d.parameters.length) = some 2 := by decide +kernel
theorem dkX11_turn : yX11_turn.cls ≠ "java/lang/invoke/MethodHandle" ∧ yX11_turn.cls ≠ "java/lang/invoke/VarHandle" ∧ (parseMethodDescriptor yX11_turn.desc).map (fun d => d.parameters.length) = some 1 := by decide +kernel
theorem dkX11_comes : yX11_comes.cls ≠ "java/lang/invoke/MethodHandle" ∧ yX11_comes.cls ≠ "java/lang/invoke/VarHandle" ∧ (parseMethodDescriptor yX11_comes.desc).map (fun d => d.parameters.length) = some 4 := by decide +kernel
theorem dkX12_heap : yX12_heap.cls ≠ "java/lang/invoke/MethodHandle" ∧ yX12_heap.cls ≠ "java/lang/invoke/VarHandle" ∧ (parseMethodDescriptor yX12_heap.desc).map (fun d => d.parameters.length) = some 1 := by decide +kernel
theorem dkJ6_bitCount_0f7a4 : yJ6_bitCount_0f7a4.cls ≠ "java/lang/invoke/MethodHandle" ∧ yJ6_bitCount_0f7a4.cls ≠ "java/lang/invoke/VarHandle" ∧ (parseMethodDescriptor yJ6_bitCount_0f7a4.desc).map (fun d => d.parameters.length) = some 1 := by decide +kernel
theorem dkX12_next : yX12_next.cls ≠ "java/lang/invoke/MethodHandle" ∧ yX12_next.cls ≠ "java/lang/invoke/VarHandle" ∧ (parseMethodDescriptor yX12_next.desc).map (fun d => d.parameters.length) = some 2 := by decide +kernel
theorem dkX1_init : yX1_init.cls ≠ "java/lang/invoke/MethodHandle" ∧ yX1_init.cls ≠ "java/lang/invoke/VarHandle" ∧ (parseMethodDescriptor yX1_init.desc).map (fun d => d.parameters.length) = some 0 := by decide +kernel
theorem dkX12_perhaps : yX12_perhaps.cls ≠ "java/lang/invoke/MethodHandle" ∧ yX12_perhaps.cls ≠ "java/lang/invoke/VarHandle" ∧ (parseMethodDescriptor yX12_perhaps.desc).map (fun d => d.parameters.length) = some 2 := by decide +kernel
theorem dkX7_isApart : yX7_isApart.cls ≠ "java/lang/invoke/MethodHandle" ∧ yX7_isApart.cls ≠ "java/lang/invoke/VarHandle" ∧ (parseMethodDescriptor yX7_isApart.desc).map (fun d => d.parameters.length) = some 1 := by decide +kernel
theorem dkX11_copy : yX11_copy.cls ≠ "java/lang/invoke/MethodHandle" ∧ yX11_copy.cls ≠ "java/lang/invoke/VarHandle" ∧ (parseMethodDescriptor yX11_copy.desc).map (fun d => d.parameters.length) = some 5 := by decide +kernel
theorem dkX11_warm : yX11_warm.cls ≠ "java/lang/invoke/MethodHandle" ∧ yX11_warm.cls ≠ "java/lang/invoke/VarHandle" ∧ (parseMethodDescriptor yX11_warm.desc).map (fun d => d.parameters.length) = some 1 := by decide +kernel
theorem dkX12_thrown : yX12_thrown.cls ≠ "java/lang/invoke/MethodHandle" ∧ yX12_thrown.cls ≠ "java/lang/invoke/VarHandle" ∧ (parseMethodDescriptor yX12_thrown.desc).map (fun d => d.parameters.length) = some 0 := by decide +kernel
theorem dkX12_keep : yX12_keep.cls ≠ "java/lang/invoke/MethodHandle" ∧ yX12_keep.cls ≠ "java/lang/invoke/VarHandle" ∧ (parseMethodDescriptor yX12_keep.desc).map (fun d => d.parameters.length) = some 4 := by decide +kernel
theorem dkX5_allDepths : yX5_allDepths.cls ≠ "java/lang/invoke/MethodHandle" ∧ yX5_allDepths.cls ≠ "java/lang/invoke/VarHandle" ∧ (parseMethodDescriptor yX5_allDepths.desc).map (fun d => d.parameters.length) = some 0 := by decide +kernel
theorem dkX1_cost : yX1_cost.cls ≠ "java/lang/invoke/MethodHandle" ∧ yX1_cost.cls ≠ "java/lang/invoke/VarHandle" ∧ (parseMethodDescriptor yX1_cost.desc).map (fun d => d.parameters.length) = some 1 := by decide +kernel
theorem dkX12_isNest : yX12_isNest.cls ≠ "java/lang/invoke/MethodHandle" ∧ yX12_isNest.cls ≠ "java/lang/invoke/VarHandle" ∧ (parseMethodDescriptor yX12_isNest.desc).map (fun d => d.parameters.length) = some 1 := by decide +kernel
theorem dkX11_helps : yX11_helps.cls ≠ "java/lang/invoke/MethodHandle" ∧ yX11_helps.cls ≠ "java/lang/invoke/VarHandle" ∧ (parseMethodDescriptor yX11_helps.desc).map (fun d => d.parameters.length) = some 2 := by decide +kernel
theorem dkX11_from : yX11_from.cls ≠ "java/lang/invoke/MethodHandle" ∧ yX11_from.cls ≠ "java/lang/invoke/VarHandle" ∧ (parseMethodDescriptor yX11_from.desc).map (fun d => d.parameters.length) = some 4 := by decide +kernel
theorem dkX12_turned : yX12_turned.cls ≠ "java/lang/invoke/MethodHandle" ∧ yX12_turned.cls ≠ "java/lang/invoke/VarHandle" ∧ (parseMethodDescriptor yX12_turned.desc).map (fun d => d.parameters.length) = some 1 := by decide +kernel
theorem dkX12_canBeBetween : yX12_canBeBetween.cls ≠ "java/lang/invoke/MethodHandle" ∧ yX12_canBeBetween.cls ≠ "java/lang/invoke/VarHandle" ∧ (parseMethodDescriptor yX12_canBeBetween.desc).map (fun d => d.parameters.length) = some 2 := by decide +kernel
theorem dkX12_wrongOut : yX12_wrongOut.cls ≠ "java/lang/invoke/MethodHandle" ∧ yX12_wrongOut.cls ≠ "java/lang/invoke/VarHandle" ∧ (parseMethodDescriptor yX12_wrongOut.desc).map (fun d => d.parameters.length) = some 1 := by decide +kernel
theorem dkX11_price : yX11_price.cls ≠ "java/lang/invoke/MethodHandle" ∧ yX11_price.cls ≠ "java/lang/invoke/VarHandle" ∧ (parseMethodDescriptor yX11_price.desc).map (fun d => d.parameters.length) = some 1 := by decide +kernel
theorem dkX11_breaks : yX11_breaks.cls ≠ "java/lang/invoke/MethodHandle" ∧ yX11_breaks.cls ≠ "java/lang/invoke/VarHandle" ∧ (parseMethodDescriptor yX11_breaks.desc).map (fun d => d.parameters.length) = some 3 := by decide +kernel
theorem dkX7_lengthenInward : yX7_lengthenInward.cls ≠ "java/lang/invoke/MethodHandle" ∧ yX7_lengthenInward.cls ≠ "java/lang/invoke/VarHandle" ∧ (parseMethodDescriptor yX7_lengthenInward.desc).map (fun d => d.parameters.length) = some 1 := by decide +kernel
theorem dkX12_insideBy : yX12_insideBy.cls ≠ "java/lang/invoke/MethodHandle" ∧ yX12_insideBy.cls ≠ "java/lang/invoke/VarHandle" ∧ (parseMethodDescriptor yX12_insideBy.desc).map (fun d => d.parameters.length) = some 3 := by decide +kernel
theorem dkX12_whole : yX12_whole.cls ≠ "java/lang/invoke/MethodHandle" ∧ yX12_whole.cls ≠ "java/lang/invoke/VarHandle" ∧ (parseMethodDescriptor yX12_whole.desc).map (fun d => d.parameters.length) = some 1 := by decide +kernel
theorem dkX7_findAll : yX7_findAll.cls ≠ "java/lang/invoke/MethodHandle" ∧ yX7_findAll.cls ≠ "java/lang/invoke/VarHandle" ∧ (parseMethodDescriptor yX7_findAll.desc).map (fun d => d.parameters.length) = some 1 := by decide +kernel
theorem dkX12_element : yX12_element.cls ≠ "java/lang/invoke/MethodHandle" ∧ yX12_element.cls ≠ "java/lang/invoke/VarHandle" ∧ (parseMethodDescriptor yX12_element.desc).map (fun d => d.parameters.length) = some 2 := by decide +kernel
theorem dkX11_out : yX11_out.cls ≠ "java/lang/invoke/MethodHandle" ∧ yX11_out.cls ≠ "java/lang/invoke/VarHandle" ∧ (parseMethodDescriptor yX11_out.desc).map (fun d => d.parameters.length) = some 2 := by decide +kernel
theorem dkX11_tellAll : yX11_tellAll.cls ≠ "java/lang/invoke/MethodHandle" ∧ yX11_tellAll.cls ≠ "java/lang/invoke/VarHandle" ∧ (parseMethodDescriptor yX11_tellAll.desc).map (fun d => d.parameters.length) = some 1 := by decide +kernel
theorem dkX11_put : yX11_put.cls ≠ "java/lang/invoke/MethodHandle" ∧ yX11_put.cls ≠ "java/lang/invoke/VarHandle" ∧ (parseMethodDescriptor yX11_put.desc).map (fun d => d.parameters.length) = some 3 := by decide +kernel
theorem dkX11_pairsPerhaps : yX11_pairsPerhaps.cls ≠ "java/lang/invoke/MethodHandle" ∧ yX11_pairsPerhaps.cls ≠ "java/lang/invoke/VarHandle" ∧ (parseMethodDescriptor yX11_pairsPerhaps.desc).map (fun d => d.parameters.length) = some 2 := by decide +kernel
theorem dkX10_digitEnd : yX10_digitEnd.cls ≠ "java/lang/invoke/MethodHandle" ∧ yX10_digitEnd.cls ≠ "java/lang/invoke/VarHandle" ∧ (parseMethodDescriptor yX10_digitEnd.desc).map (fun d => d.parameters.length) = some 1 := by decide +kernel
theorem dkX9_outside : yX9_outside.cls ≠ "java/lang/invoke/MethodHandle" ∧ yX9_outside.cls ≠ "java/lang/invoke/VarHandle" ∧ (parseMethodDescriptor yX9_outside.desc).map (fun d => d.parameters.length) = some 3 := by decide +kernel
theorem dkX8_minds : yX8_minds.cls ≠ "java/lang/invoke/MethodHandle" ∧ yX8_minds.cls ≠ "java/lang/invoke/VarHandle" ∧ (parseMethodDescriptor yX8_minds.desc).map (fun d => d.parameters.length) = some 0 := by decide +kernel
theorem dkX12_inside : yX12_inside.cls ≠ "java/lang/invoke/MethodHandle" ∧ yX12_inside.cls ≠ "java/lang/invoke/VarHandle" ∧ (parseMethodDescriptor yX12_inside.desc).map (fun d => d.parameters.length) = some 1 := by decide +kernel
theorem dkX7_longestWith : yX7_longestWith.cls ≠ "java/lang/invoke/MethodHandle" ∧ yX7_longestWith.cls ≠ "java/lang/invoke/VarHandle" ∧ (parseMethodDescriptor yX7_longestWith.desc).map (fun d => d.parameters.length) = some 2 := by decide +kernel
theorem dkX11_restore : yX11_restore.cls ≠ "java/lang/invoke/MethodHandle" ∧ yX11_restore.cls ≠ "java/lang/invoke/VarHandle" ∧ (parseMethodDescriptor yX11_restore.desc).map (fun d => d.parameters.length) = some 0 := by decide +kernel
theorem dkX12_isDigit : yX12_isDigit.cls ≠ "java/lang/invoke/MethodHandle" ∧ yX12_isDigit.cls ≠ "java/lang/invoke/VarHandle" ∧ (parseMethodDescriptor yX12_isDigit.desc).map (fun d => d.parameters.length) = some 0 := by decide +kernel
theorem dkX12_adds : yX12_adds.cls ≠ "java/lang/invoke/MethodHandle" ∧ yX12_adds.cls ≠ "java/lang/invoke/VarHandle" ∧ (parseMethodDescriptor yX12_adds.desc).map (fun d => d.parameters.length) = some 5 := by decide +kernel
theorem dkX0_minds : yX0_minds.cls ≠ "java/lang/invoke/MethodHandle" ∧ yX0_minds.cls ≠ "java/lang/invoke/VarHandle" ∧ (parseMethodDescriptor yX0_minds.desc).map (fun d => d.parameters.length) = some 0 := by decide +kernel
theorem dkX5_arrange : yX5_arrange.cls ≠ "java/lang/invoke/MethodHandle" ∧ yX5_arrange.cls ≠ "java/lang/invoke/VarHandle" ∧ (parseMethodDescriptor yX5_arrange.desc).map (fun d => d.parameters.length) = some 0 := by decide +kernel
theorem dkX11_shelfRefusal : yX11_shelfRefusal.cls ≠ "java/lang/invoke/MethodHandle" ∧ yX11_shelfRefusal.cls ≠ "java/lang/invoke/VarHandle" ∧ (parseMethodDescriptor yX11_shelfRefusal.desc).map (fun d => d.parameters.length) = some 2 := by decide +kernel
theorem dkX11_brokenBy : yX11_brokenBy.cls ≠ "java/lang/invoke/MethodHandle" ∧ yX11_brokenBy.cls ≠ "java/lang/invoke/VarHandle" ∧ (parseMethodDescriptor yX11_brokenBy.desc).map (fun d => d.parameters.length) = some 2 := by decide +kernel
theorem dkX11_fewest : yX11_fewest.cls ≠ "java/lang/invoke/MethodHandle" ∧ yX11_fewest.cls ≠ "java/lang/invoke/VarHandle" ∧ (parseMethodDescriptor yX11_fewest.desc).map (fun d => d.parameters.length) = some 0 := by decide +kernel
theorem dkX11_arePair : yX11_arePair.cls ≠ "java/lang/invoke/MethodHandle" ∧ yX11_arePair.cls ≠ "java/lang/invoke/VarHandle" ∧ (parseMethodDescriptor yX11_arePair.desc).map (fun d => d.parameters.length) = some 2 := by decide +kernel
theorem dkX12_count : yX12_count.cls ≠ "java/lang/invoke/MethodHandle" ∧ yX12_count.cls ≠ "java/lang/invoke/VarHandle" ∧ (parseMethodDescriptor yX12_count.desc).map (fun d => d.parameters.length) = some 1 := by decide +kernel
theorem dkX12_nest : yX12_nest.cls ≠ "java/lang/invoke/MethodHandle" ∧ yX12_nest.cls ≠ "java/lang/invoke/VarHandle" ∧ (parseMethodDescriptor yX12_nest.desc).map (fun d => d.parameters.length) = some 1 := by decide +kernel
theorem dkX3_inside : yX3_inside.cls ≠ "java/lang/invoke/MethodHandle" ∧ yX3_inside.cls ≠ "java/lang/invoke/VarHandle" ∧ (parseMethodDescriptor yX3_inside.desc).map (fun d => d.parameters.length) = some 4 := by decide +kernel
theorem dkX12_isBowl : yX12_isBowl.cls ≠ "java/lang/invoke/MethodHandle" ∧ yX12_isBowl.cls ≠ "java/lang/invoke/VarHandle" ∧ (parseMethodDescriptor yX12_isBowl.desc).map (fun d => d.parameters.length) = some 1 := by decide +kernel
theorem dkX12_copy : yX12_copy.cls ≠ "java/lang/invoke/MethodHandle" ∧ yX12_copy.cls ≠ "java/lang/invoke/VarHandle" ∧ (parseMethodDescriptor yX12_copy.desc).map (fun d => d.parameters.length) = some 5 := by decide +kernel
theorem dkX10_digitAt : yX10_digitAt.cls ≠ "java/lang/invoke/MethodHandle" ∧ yX10_digitAt.cls ≠ "java/lang/invoke/VarHandle" ∧ (parseMethodDescriptor yX10_digitAt.desc).map (fun d => d.parameters.length) = some 1 := by decide +kernel
theorem dkX7_note : yX7_note.cls ≠ "java/lang/invoke/MethodHandle" ∧ yX7_note.cls ≠ "java/lang/invoke/VarHandle" ∧ (parseMethodDescriptor yX7_note.desc).map (fun d => d.parameters.length) = some 3 := by decide +kernel
theorem dkX12_apart : yX12_apart.cls ≠ "java/lang/invoke/MethodHandle" ∧ yX12_apart.cls ≠ "java/lang/invoke/VarHandle" ∧ (parseMethodDescriptor yX12_apart.desc).map (fun d => d.parameters.length) = some 1 := by decide +kernel
theorem dkJ9_min_7cf53 : yJ9_min_7cf53.cls ≠ "java/lang/invoke/MethodHandle" ∧ yJ9_min_7cf53.cls ≠ "java/lang/invoke/VarHandle" ∧ (parseMethodDescriptor yJ9_min_7cf53.desc).map (fun d => d.parameters.length) = some 2 := by decide +kernel
theorem dkX11_heap : yX11_heap.cls ≠ "java/lang/invoke/MethodHandle" ∧ yX11_heap.cls ≠ "java/lang/invoke/VarHandle" ∧ (parseMethodDescriptor yX11_heap.desc).map (fun d => d.parameters.length) = some 1 := by decide +kernel
theorem dkX12_rise : yX12_rise.cls ≠ "java/lang/invoke/MethodHandle" ∧ yX12_rise.cls ≠ "java/lang/invoke/VarHandle" ∧ (parseMethodDescriptor yX12_rise.desc).map (fun d => d.parameters.length) = some 1 := by decide +kernel
theorem dkX12_outermost : yX12_outermost.cls ≠ "java/lang/invoke/MethodHandle" ∧ yX12_outermost.cls ≠ "java/lang/invoke/VarHandle" ∧ (parseMethodDescriptor yX12_outermost.desc).map (fun d => d.parameters.length) = some 1 := by decide +kernel
theorem dkX8_outside : yX8_outside.cls ≠ "java/lang/invoke/MethodHandle" ∧ yX8_outside.cls ≠ "java/lang/invoke/VarHandle" ∧ (parseMethodDescriptor yX8_outside.desc).map (fun d => d.parameters.length) = some 3 := by decide +kernel
theorem dkX12_wrongAt : yX12_wrongAt.cls ≠ "java/lang/invoke/MethodHandle" ∧ yX12_wrongAt.cls ≠ "java/lang/invoke/VarHandle" ∧ (parseMethodDescriptor yX12_wrongAt.desc).map (fun d => d.parameters.length) = some 1 := by decide +kernel
theorem dkX11_isBridged : yX11_isBridged.cls ≠ "java/lang/invoke/MethodHandle" ∧ yX11_isBridged.cls ≠ "java/lang/invoke/VarHandle" ∧ (parseMethodDescriptor yX11_isBridged.desc).map (fun d => d.parameters.length) = some 3 := by decide +kernel
theorem dkX7_lengthenOutward : yX7_lengthenOutward.cls ≠ "java/lang/invoke/MethodHandle" ∧ yX7_lengthenOutward.cls ≠ "java/lang/invoke/VarHandle" ∧ (parseMethodDescriptor yX7_lengthenOutward.desc).map (fun d => d.parameters.length) = some 1 := by decide +kernel
theorem dkX9_fail : yX9_fail.cls ≠ "java/lang/invoke/MethodHandle" ∧ yX9_fail.cls ≠ "java/lang/invoke/VarHandle" ∧ (parseMethodDescriptor yX9_fail.desc).map (fun d => d.parameters.length) = some 1 := by decide +kernel
theorem dkX12_spans : yX12_spans.cls ≠ "java/lang/invoke/MethodHandle" ∧ yX12_spans.cls ≠ "java/lang/invoke/VarHandle" ∧ (parseMethodDescriptor yX12_spans.desc).map (fun d => d.parameters.length) = some 3 := by decide +kernel
theorem dkX12_here : yX12_here.cls ≠ "java/lang/invoke/MethodHandle" ∧ yX12_here.cls ≠ "java/lang/invoke/VarHandle" ∧ (parseMethodDescriptor yX12_here.desc).map (fun d => d.parameters.length) = some 0 := by decide +kernel
theorem dkX11_isWithin : yX11_isWithin.cls ≠ "java/lang/invoke/MethodHandle" ∧ yX11_isWithin.cls ≠ "java/lang/invoke/VarHandle" ∧ (parseMethodDescriptor yX11_isWithin.desc).map (fun d => d.parameters.length) = some 3 := by decide +kernel
theorem dkX11_spans : yX11_spans.cls ≠ "java/lang/invoke/MethodHandle" ∧ yX11_spans.cls ≠ "java/lang/invoke/VarHandle" ∧ (parseMethodDescriptor yX11_spans.desc).map (fun d => d.parameters.length) = some 3 := by decide +kernel
theorem dkX11_judge : yX11_judge.cls ≠ "java/lang/invoke/MethodHandle" ∧ yX11_judge.cls ≠ "java/lang/invoke/VarHandle" ∧ (parseMethodDescriptor yX11_judge.desc).map (fun d => d.parameters.length) = some 1 := by decide +kernel
theorem dkX10_holdBowl : yX10_holdBowl.cls ≠ "java/lang/invoke/MethodHandle" ∧ yX10_holdBowl.cls ≠ "java/lang/invoke/VarHandle" ∧ (parseMethodDescriptor yX10_holdBowl.desc).map (fun d => d.parameters.length) = some 2 := by decide +kernel
theorem dkX12_carry : yX12_carry.cls ≠ "java/lang/invoke/MethodHandle" ∧ yX12_carry.cls ≠ "java/lang/invoke/VarHandle" ∧ (parseMethodDescriptor yX12_carry.desc).map (fun d => d.parameters.length) = some 0 := by decide +kernel
theorem dkX12_priceBy : yX12_priceBy.cls ≠ "java/lang/invoke/MethodHandle" ∧ yX12_priceBy.cls ≠ "java/lang/invoke/VarHandle" ∧ (parseMethodDescriptor yX12_priceBy.desc).map (fun d => d.parameters.length) = some 2 := by decide +kernel
theorem dkX0_outside : yX0_outside.cls ≠ "java/lang/invoke/MethodHandle" ∧ yX0_outside.cls ≠ "java/lang/invoke/VarHandle" ∧ (parseMethodDescriptor yX0_outside.desc).map (fun d => d.parameters.length) = some 3 := by decide +kernel
theorem dkX11_apart : yX11_apart.cls ≠ "java/lang/invoke/MethodHandle" ∧ yX11_apart.cls ≠ "java/lang/invoke/VarHandle" ∧ (parseMethodDescriptor yX11_apart.desc).map (fun d => d.parameters.length) = some 1 := by decide +kernel
theorem dkX9_cost : yX9_cost.cls ≠ "java/lang/invoke/MethodHandle" ∧ yX9_cost.cls ≠ "java/lang/invoke/VarHandle" ∧ (parseMethodDescriptor yX9_cost.desc).map (fun d => d.parameters.length) = some 1 := by decide +kernel
theorem dkX6_outside : yX6_outside.cls ≠ "java/lang/invoke/MethodHandle" ∧ yX6_outside.cls ≠ "java/lang/invoke/VarHandle" ∧ (parseMethodDescriptor yX6_outside.desc).map (fun d => d.parameters.length) = some 3 := by decide +kernel
theorem dkX5_think : yX5_think.cls ≠ "java/lang/invoke/MethodHandle" ∧ yX5_think.cls ≠ "java/lang/invoke/VarHandle" ∧ (parseMethodDescriptor yX5_think.desc).map (fun d => d.parameters.length) = some 2 := by decide +kernel
theorem dkX5_spanned : yX5_spanned.cls ≠ "java/lang/invoke/MethodHandle" ∧ yX5_spanned.cls ≠ "java/lang/invoke/VarHandle" ∧ (parseMethodDescriptor yX5_spanned.desc).map (fun d => d.parameters.length) = some 4 := by decide +kernel
theorem dkX5_all : yX5_all.cls ≠ "java/lang/invoke/MethodHandle" ∧ yX5_all.cls ≠ "java/lang/invoke/VarHandle" ∧ (parseMethodDescriptor yX5_all.desc).map (fun d => d.parameters.length) = some 0 := by decide +kernel
theorem dkX12_lays : yX12_lays.cls ≠ "java/lang/invoke/MethodHandle" ∧ yX12_lays.cls ≠ "java/lang/invoke/VarHandle" ∧ (parseMethodDescriptor yX12_lays.desc).map (fun d => d.parameters.length) = some 2 := by decide +kernel
theorem dkX12_longestRow : yX12_longestRow.cls ≠ "java/lang/invoke/MethodHandle" ∧ yX12_longestRow.cls ≠ "java/lang/invoke/VarHandle" ∧ (parseMethodDescriptor yX12_longestRow.desc).map (fun d => d.parameters.length) = some 1 := by decide +kernel
theorem dkX5_place : yX5_place.cls ≠ "java/lang/invoke/MethodHandle" ∧ yX5_place.cls ≠ "java/lang/invoke/VarHandle" ∧ (parseMethodDescriptor yX5_place.desc).map (fun d => d.parameters.length) = some 5 := by decide +kernel
theorem dkX7_costOneEach : yX7_costOneEach.cls ≠ "java/lang/invoke/MethodHandle" ∧ yX7_costOneEach.cls ≠ "java/lang/invoke/VarHandle" ∧ (parseMethodDescriptor yX7_costOneEach.desc).map (fun d => d.parameters.length) = some 1 := by decide +kernel
theorem dkX12_image : yX12_image.cls ≠ "java/lang/invoke/MethodHandle" ∧ yX12_image.cls ≠ "java/lang/invoke/VarHandle" ∧ (parseMethodDescriptor yX12_image.desc).map (fun d => d.parameters.length) = some 0 := by decide +kernel
theorem dkJ9_max_7cf53 : yJ9_max_7cf53.cls ≠ "java/lang/invoke/MethodHandle" ∧ yJ9_max_7cf53.cls ≠ "java/lang/invoke/VarHandle" ∧ (parseMethodDescriptor yJ9_max_7cf53.desc).map (fun d => d.parameters.length) = some 2 := by decide +kernel
theorem dkX5_dropLatest : yX5_dropLatest.cls ≠ "java/lang/invoke/MethodHandle" ∧ yX5_dropLatest.cls ≠ "java/lang/invoke/VarHandle" ∧ (parseMethodDescriptor yX5_dropLatest.desc).map (fun d => d.parameters.length) = some 0 := by decide +kernel
theorem dkX12_price : yX12_price.cls ≠ "java/lang/invoke/MethodHandle" ∧ yX12_price.cls ≠ "java/lang/invoke/VarHandle" ∧ (parseMethodDescriptor yX12_price.desc).map (fun d => d.parameters.length) = some 1 := by decide +kernel
theorem dkX10_isDigit : yX10_isDigit.cls ≠ "java/lang/invoke/MethodHandle" ∧ yX10_isDigit.cls ≠ "java/lang/invoke/VarHandle" ∧ (parseMethodDescriptor yX10_isDigit.desc).map (fun d => d.parameters.length) = some 1 := by decide +kernel
theorem dkX10_hasPlace : yX10_hasPlace.cls ≠ "java/lang/invoke/MethodHandle" ∧ yX10_hasPlace.cls ≠ "java/lang/invoke/VarHandle" ∧ (parseMethodDescriptor yX10_hasPlace.desc).map (fun d => d.parameters.length) = some 1 := by decide +kernel
theorem dkX12_outsideBy : yX12_outsideBy.cls ≠ "java/lang/invoke/MethodHandle" ∧ yX12_outsideBy.cls ≠ "java/lang/invoke/VarHandle" ∧ (parseMethodDescriptor yX12_outsideBy.desc).map (fun d => d.parameters.length) = some 2 := by decide +kernel
theorem dkX2_fail : yX2_fail.cls ≠ "java/lang/invoke/MethodHandle" ∧ yX2_fail.cls ≠ "java/lang/invoke/VarHandle" ∧ (parseMethodDescriptor yX2_fail.desc).map (fun d => d.parameters.length) = some 1 := by decide +kernel
theorem dkX7_init : yX7_init.cls ≠ "java/lang/invoke/MethodHandle" ∧ yX7_init.cls ≠ "java/lang/invoke/VarHandle" ∧ (parseMethodDescriptor yX7_init.desc).map (fun d => d.parameters.length) = some 0 := by decide +kernel
theorem dkX10_set : yX10_set.cls ≠ "java/lang/invoke/MethodHandle" ∧ yX10_set.cls ≠ "java/lang/invoke/VarHandle" ∧ (parseMethodDescriptor yX10_set.desc).map (fun d => d.parameters.length) = some 2 := by decide +kernel
theorem dkX12_put : yX12_put.cls ≠ "java/lang/invoke/MethodHandle" ∧ yX12_put.cls ≠ "java/lang/invoke/VarHandle" ∧ (parseMethodDescriptor yX12_put.desc).map (fun d => d.parameters.length) = some 3 := by decide +kernel
theorem dkX12_takes : yX12_takes.cls ≠ "java/lang/invoke/MethodHandle" ∧ yX12_takes.cls ≠ "java/lang/invoke/VarHandle" ∧ (parseMethodDescriptor yX12_takes.desc).map (fun d => d.parameters.length) = some 1 := by decide +kernel
theorem dkX7_costHeights : yX7_costHeights.cls ≠ "java/lang/invoke/MethodHandle" ∧ yX7_costHeights.cls ≠ "java/lang/invoke/VarHandle" ∧ (parseMethodDescriptor yX7_costHeights.desc).map (fun d => d.parameters.length) = some 0 := by decide +kernel
theorem dkX12_counted : yX12_counted.cls ≠ "java/lang/invoke/MethodHandle" ∧ yX12_counted.cls ≠ "java/lang/invoke/VarHandle" ∧ (parseMethodDescriptor yX12_counted.desc).map (fun d => d.parameters.length) = some 3 := by decide +kernel
theorem dkX5_init : yX5_init.cls ≠ "java/lang/invoke/MethodHandle" ∧ yX5_init.cls ≠ "java/lang/invoke/VarHandle" ∧ (parseMethodDescriptor yX5_init.desc).map (fun d => d.parameters.length) = some 1 := by decide +kernel
theorem dkX10_signEnd : yX10_signEnd.cls ≠ "java/lang/invoke/MethodHandle" ∧ yX10_signEnd.cls ≠ "java/lang/invoke/VarHandle" ∧ (parseMethodDescriptor yX10_signEnd.desc).map (fun d => d.parameters.length) = some 2 := by decide +kernel
theorem dkX12_everything : yX12_everything.cls ≠ "java/lang/invoke/MethodHandle" ∧ yX12_everything.cls ≠ "java/lang/invoke/VarHandle" ∧ (parseMethodDescriptor yX12_everything.desc).map (fun d => d.parameters.length) = some 0 := by decide +kernel
theorem dkX11_areBowls : yX11_areBowls.cls ≠ "java/lang/invoke/MethodHandle" ∧ yX11_areBowls.cls ≠ "java/lang/invoke/VarHandle" ∧ (parseMethodDescriptor yX11_areBowls.desc).map (fun d => d.parameters.length) = some 1 := by decide +kernel
theorem dkX11_rowRefusal : yX11_rowRefusal.cls ≠ "java/lang/invoke/MethodHandle" ∧ yX11_rowRefusal.cls ≠ "java/lang/invoke/VarHandle" ∧ (parseMethodDescriptor yX11_rowRefusal.desc).map (fun d => d.parameters.length) = some 1 := by decide +kernel
theorem dkX7_growBy : yX7_growBy.cls ≠ "java/lang/invoke/MethodHandle" ∧ yX7_growBy.cls ≠ "java/lang/invoke/VarHandle" ∧ (parseMethodDescriptor yX7_growBy.desc).map (fun d => d.parameters.length) = some 2 := by decide +kernel
theorem dkX3_rise : yX3_rise.cls ≠ "java/lang/invoke/MethodHandle" ∧ yX3_rise.cls ≠ "java/lang/invoke/VarHandle" ∧ (parseMethodDescriptor yX3_rise.desc).map (fun d => d.parameters.length) = some 1 := by decide +kernel
theorem dkX12_bowl : yX12_bowl.cls ≠ "java/lang/invoke/MethodHandle" ∧ yX12_bowl.cls ≠ "java/lang/invoke/VarHandle" ∧ (parseMethodDescriptor yX12_bowl.desc).map (fun d => d.parameters.length) = some 2 := by decide +kernel
theorem dkX7_longestOf : yX7_longestOf.cls ≠ "java/lang/invoke/MethodHandle" ∧ yX7_longestOf.cls ≠ "java/lang/invoke/VarHandle" ∧ (parseMethodDescriptor yX7_longestOf.desc).map (fun d => d.parameters.length) = some 1 := by decide +kernel
theorem dkX5_has : yX5_has.cls ≠ "java/lang/invoke/MethodHandle" ∧ yX5_has.cls ≠ "java/lang/invoke/VarHandle" ∧ (parseMethodDescriptor yX5_has.desc).map (fun d => d.parameters.length) = some 1 := by decide +kernel
theorem dkX10_numberEnd : yX10_numberEnd.cls ≠ "java/lang/invoke/MethodHandle" ∧ yX10_numberEnd.cls ≠ "java/lang/invoke/VarHandle" ∧ (parseMethodDescriptor yX10_numberEnd.desc).map (fun d => d.parameters.length) = some 1 := by decide +kernel
theorem dkX12_outside : yX12_outside.cls ≠ "java/lang/invoke/MethodHandle" ∧ yX12_outside.cls ≠ "java/lang/invoke/VarHandle" ∧ (parseMethodDescriptor yX12_outside.desc).map (fun d => d.parameters.length) = some 1 := by decide +kernel
theorem dkX11_longest : yX11_longest.cls ≠ "java/lang/invoke/MethodHandle" ∧ yX11_longest.cls ≠ "java/lang/invoke/VarHandle" ∧ (parseMethodDescriptor yX11_longest.desc).map (fun d => d.parameters.length) = some 2 := by decide +kernel
theorem dkX0_cost : yX0_cost.cls ≠ "java/lang/invoke/MethodHandle" ∧ yX0_cost.cls ≠ "java/lang/invoke/VarHandle" ∧ (parseMethodDescriptor yX0_cost.desc).map (fun d => d.parameters.length) = some 1 := by decide +kernel
theorem dkX12_puts : yX12_puts.cls ≠ "java/lang/invoke/MethodHandle" ∧ yX12_puts.cls ≠ "java/lang/invoke/VarHandle" ∧ (parseMethodDescriptor yX12_puts.desc).map (fun d => d.parameters.length) = some 3 := by decide +kernel
theorem dkX12_height : yX12_height.cls ≠ "java/lang/invoke/MethodHandle" ∧ yX12_height.cls ≠ "java/lang/invoke/VarHandle" ∧ (parseMethodDescriptor yX12_height.desc).map (fun d => d.parameters.length) = some 1 := by decide +kernel
theorem dkX6_cost : yX6_cost.cls ≠ "java/lang/invoke/MethodHandle" ∧ yX6_cost.cls ≠ "java/lang/invoke/VarHandle" ∧ (parseMethodDescriptor yX6_cost.desc).map (fun d => d.parameters.length) = some 1 := by decide +kernel
theorem dkX7_costLessForSetsOf : yX7_costLessForSetsOf.cls ≠ "java/lang/invoke/MethodHandle" ∧ yX7_costLessForSetsOf.cls ≠ "java/lang/invoke/VarHandle" ∧ (parseMethodDescriptor yX7_costLessForSetsOf.desc).map (fun d => d.parameters.length) = some 1 := by decide +kernel
theorem dkX5_add : yX5_add.cls ≠ "java/lang/invoke/MethodHandle" ∧ yX5_add.cls ≠ "java/lang/invoke/VarHandle" ∧ (parseMethodDescriptor yX5_add.desc).map (fun d => d.parameters.length) = some 5 := by decide +kernel
theorem dkX12_init : yX12_init.cls ≠ "java/lang/invoke/MethodHandle" ∧ yX12_init.cls ≠ "java/lang/invoke/VarHandle" ∧ (parseMethodDescriptor yX12_init.desc).map (fun d => d.parameters.length) = some 0 := by decide +kernel
theorem dkX11_load : yX11_load.cls ≠ "java/lang/invoke/MethodHandle" ∧ yX11_load.cls ≠ "java/lang/invoke/VarHandle" ∧ (parseMethodDescriptor yX11_load.desc).map (fun d => d.parameters.length) = some 1 := by decide +kernel
theorem dkX11_next : yX11_next.cls ≠ "java/lang/invoke/MethodHandle" ∧ yX11_next.cls ≠ "java/lang/invoke/VarHandle" ∧ (parseMethodDescriptor yX11_next.desc).map (fun d => d.parameters.length) = some 2 := by decide +kernel
theorem dkX12_row : yX12_row.cls ≠ "java/lang/invoke/MethodHandle" ∧ yX12_row.cls ≠ "java/lang/invoke/VarHandle" ∧ (parseMethodDescriptor yX12_row.desc).map (fun d => d.parameters.length) = some 3 := by decide +kernel
theorem dkX12_lies : yX12_lies.cls ≠ "java/lang/invoke/MethodHandle" ∧ yX12_lies.cls ≠ "java/lang/invoke/VarHandle" ∧ (parseMethodDescriptor yX12_lies.desc).map (fun d => d.parameters.length) = some 2 := by decide +kernel
theorem dkX11_keep : yX11_keep.cls ≠ "java/lang/invoke/MethodHandle" ∧ yX11_keep.cls ≠ "java/lang/invoke/VarHandle" ∧ (parseMethodDescriptor yX11_keep.desc).map (fun d => d.parameters.length) = some 4 := by decide +kernel
theorem dkX12_narrow : yX12_narrow.cls ≠ "java/lang/invoke/MethodHandle" ∧ yX12_narrow.cls ≠ "java/lang/invoke/VarHandle" ∧ (parseMethodDescriptor yX12_narrow.desc).map (fun d => d.parameters.length) = some 2 := by decide +kernel
theorem dkX12_throwsNew : yX12_throwsNew.cls ≠ "java/lang/invoke/MethodHandle" ∧ yX12_throwsNew.cls ≠ "java/lang/invoke/VarHandle" ∧ (parseMethodDescriptor yX12_throwsNew.desc).map (fun d => d.parameters.length) = some 0 := by decide +kernel
theorem dkX5_riseOf : yX5_riseOf.cls ≠ "java/lang/invoke/MethodHandle" ∧ yX5_riseOf.cls ≠ "java/lang/invoke/VarHandle" ∧ (parseMethodDescriptor yX5_riseOf.desc).map (fun d => d.parameters.length) = some 1 := by decide +kernel
theorem dkX10_hasStretch : yX10_hasStretch.cls ≠ "java/lang/invoke/MethodHandle" ∧ yX10_hasStretch.cls ≠ "java/lang/invoke/VarHandle" ∧ (parseMethodDescriptor yX10_hasStretch.desc).map (fun d => d.parameters.length) = some 2 := by decide +kernel
theorem dkX12_warm : yX12_warm.cls ≠ "java/lang/invoke/MethodHandle" ∧ yX12_warm.cls ≠ "java/lang/invoke/VarHandle" ∧ (parseMethodDescriptor yX12_warm.desc).map (fun d => d.parameters.length) = some 1 := by decide +kernel
theorem dkX11_carry : yX11_carry.cls ≠ "java/lang/invoke/MethodHandle" ∧ yX11_carry.cls ≠ "java/lang/invoke/VarHandle" ∧ (parseMethodDescriptor yX11_carry.desc).map (fun d => d.parameters.length) = some 0 := by decide +kernel
theorem dkX12_from : yX12_from.cls ≠ "java/lang/invoke/MethodHandle" ∧ yX12_from.cls ≠ "java/lang/invoke/VarHandle" ∧ (parseMethodDescriptor yX12_from.desc).map (fun d => d.parameters.length) = some 4 := by decide +kernel
theorem dkX12_wrongRow : yX12_wrongRow.cls ≠ "java/lang/invoke/MethodHandle" ∧ yX12_wrongRow.cls ≠ "java/lang/invoke/VarHandle" ∧ (parseMethodDescriptor yX12_wrongRow.desc).map (fun d => d.parameters.length) = some 2 := by decide +kernel
theorem dkX12_comes : yX12_comes.cls ≠ "java/lang/invoke/MethodHandle" ∧ yX12_comes.cls ≠ "java/lang/invoke/VarHandle" ∧ (parseMethodDescriptor yX12_comes.desc).map (fun d => d.parameters.length) = some 4 := by decide +kernel
theorem dkX12_turn : yX12_turn.cls ≠ "java/lang/invoke/MethodHandle" ∧ yX12_turn.cls ≠ "java/lang/invoke/VarHandle" ∧ (parseMethodDescriptor yX12_turn.desc).map (fun d => d.parameters.length) = some 1 := by decide +kernel
theorem dkX11_firstMisplaced : yX11_firstMisplaced.cls ≠ "java/lang/invoke/MethodHandle" ∧ yX11_firstMisplaced.cls ≠ "java/lang/invoke/VarHandle" ∧ (parseMethodDescriptor yX11_firstMisplaced.desc).map (fun d => d.parameters.length) = some 1 := by decide +kernel
theorem dkX12_comesTold : yX12_comesTold.cls ≠ "java/lang/invoke/MethodHandle" ∧ yX12_comesTold.cls ≠ "java/lang/invoke/VarHandle" ∧ (parseMethodDescriptor yX12_comesTold.desc).map (fun d => d.parameters.length) = some 1 := by decide +kernel
theorem dkX0_inside : yX0_inside.cls ≠ "java/lang/invoke/MethodHandle" ∧ yX0_inside.cls ≠ "java/lang/invoke/VarHandle" ∧ (parseMethodDescriptor yX0_inside.desc).map (fun d => d.parameters.length) = some 4 := by decide +kernel
theorem dkX12_isShelf : yX12_isShelf.cls ≠ "java/lang/invoke/MethodHandle" ∧ yX12_isShelf.cls ≠ "java/lang/invoke/VarHandle" ∧ (parseMethodDescriptor yX12_isShelf.desc).map (fun d => d.parameters.length) = some 1 := by decide +kernel
theorem dkX5_isIn : yX5_isIn.cls ≠ "java/lang/invoke/MethodHandle" ∧ yX5_isIn.cls ≠ "java/lang/invoke/VarHandle" ∧ (parseMethodDescriptor yX5_isIn.desc).map (fun d => d.parameters.length) = some 3 := by decide +kernel
theorem dkX7_mostApart : yX7_mostApart.cls ≠ "java/lang/invoke/MethodHandle" ∧ yX7_mostApart.cls ≠ "java/lang/invoke/VarHandle" ∧ (parseMethodDescriptor yX7_mostApart.desc).map (fun d => d.parameters.length) = some 0 := by decide +kernel
theorem dkX11_whole : yX11_whole.cls ≠ "java/lang/invoke/MethodHandle" ∧ yX11_whole.cls ≠ "java/lang/invoke/VarHandle" ∧ (parseMethodDescriptor yX11_whole.desc).map (fun d => d.parameters.length) = some 1 := by decide +kernel
theorem dkX5_insideAt : yX5_insideAt.cls ≠ "java/lang/invoke/MethodHandle" ∧ yX5_insideAt.cls ≠ "java/lang/invoke/VarHandle" ∧ (parseMethodDescriptor yX5_insideAt.desc).map (fun d => d.parameters.length) = some 3 := by decide +kernel
theorem dkX6_inside : yX6_inside.cls ≠ "java/lang/invoke/MethodHandle" ∧ yX6_inside.cls ≠ "java/lang/invoke/VarHandle" ∧ (parseMethodDescriptor yX6_inside.desc).map (fun d => d.parameters.length) = some 4 := by decide +kernel
theorem dkX12_fitsBut : yX12_fitsBut.cls ≠ "java/lang/invoke/MethodHandle" ∧ yX12_fitsBut.cls ≠ "java/lang/invoke/VarHandle" ∧ (parseMethodDescriptor yX12_fitsBut.desc).map (fun d => d.parameters.length) = some 2 := by decide +kernel
theorem dkX9_init : yX9_init.cls ≠ "java/lang/invoke/MethodHandle" ∧ yX9_init.cls ≠ "java/lang/invoke/VarHandle" ∧ (parseMethodDescriptor yX9_init.desc).map (fun d => d.parameters.length) = some 0 := by decide +kernel
theorem dkX11_element : yX11_element.cls ≠ "java/lang/invoke/MethodHandle" ∧ yX11_element.cls ≠ "java/lang/invoke/VarHandle" ∧ (parseMethodDescriptor yX11_element.desc).map (fun d => d.parameters.length) = some 2 := by decide +kernel
theorem dkX12_isOval : yX12_isOval.cls ≠ "java/lang/invoke/MethodHandle" ∧ yX12_isOval.cls ≠ "java/lang/invoke/VarHandle" ∧ (parseMethodDescriptor yX12_isOval.desc).map (fun d => d.parameters.length) = some 1 := by decide +kernel
theorem dkX12_readsNumber : yX12_readsNumber.cls ≠ "java/lang/invoke/MethodHandle" ∧ yX12_readsNumber.cls ≠ "java/lang/invoke/VarHandle" ∧ (parseMethodDescriptor yX12_readsNumber.desc).map (fun d => d.parameters.length) = some 1 := by decide +kernel
theorem dkX4_outside : yX4_outside.cls ≠ "java/lang/invoke/MethodHandle" ∧ yX4_outside.cls ≠ "java/lang/invoke/VarHandle" ∧ (parseMethodDescriptor yX4_outside.desc).map (fun d => d.parameters.length) = some 3 := by decide +kernel
theorem dkX8_inside : yX8_inside.cls ≠ "java/lang/invoke/MethodHandle" ∧ yX8_inside.cls ≠ "java/lang/invoke/VarHandle" ∧ (parseMethodDescriptor yX8_inside.desc).map (fun d => d.parameters.length) = some 4 := by decide +kernel
theorem dkX12_helps : yX12_helps.cls ≠ "java/lang/invoke/MethodHandle" ∧ yX12_helps.cls ≠ "java/lang/invoke/VarHandle" ∧ (parseMethodDescriptor yX12_helps.desc).map (fun d => d.parameters.length) = some 2 := by decide +kernel
theorem dkX5_tellBowl : yX5_tellBowl.cls ≠ "java/lang/invoke/MethodHandle" ∧ yX5_tellBowl.cls ≠ "java/lang/invoke/VarHandle" ∧ (parseMethodDescriptor yX5_tellBowl.desc).map (fun d => d.parameters.length) = some 2 := by decide +kernel
theorem dkX5_pairsIn : yX5_pairsIn.cls ≠ "java/lang/invoke/MethodHandle" ∧ yX5_pairsIn.cls ≠ "java/lang/invoke/VarHandle" ∧ (parseMethodDescriptor yX5_pairsIn.desc).map (fun d => d.parameters.length) = some 0 := by decide +kernel
theorem dkX12_get : yX12_get.cls ≠ "java/lang/invoke/MethodHandle" ∧ yX12_get.cls ≠ "java/lang/invoke/VarHandle" ∧ (parseMethodDescriptor yX12_get.desc).map (fun d => d.parameters.length) = some 2 := by decide +kernel
theorem dkX0_fail : yX0_fail.cls ≠ "java/lang/invoke/MethodHandle" ∧ yX0_fail.cls ≠ "java/lang/invoke/VarHandle" ∧ (parseMethodDescriptor yX0_fail.desc).map (fun d => d.parameters.length) = some 1 := by decide +kernel
theorem dkX12_breaks : yX12_breaks.cls ≠ "java/lang/invoke/MethodHandle" ∧ yX12_breaks.cls ≠ "java/lang/invoke/VarHandle" ∧ (parseMethodDescriptor yX12_breaks.desc).map (fun d => d.parameters.length) = some 3 := by decide +kernel
theorem dkX4_fail : yX4_fail.cls ≠ "java/lang/invoke/MethodHandle" ∧ yX4_fail.cls ≠ "java/lang/invoke/VarHandle" ∧ (parseMethodDescriptor yX4_fail.desc).map (fun d => d.parameters.length) = some 1 := by decide +kernel
theorem dkX3_init : yX3_init.cls ≠ "java/lang/invoke/MethodHandle" ∧ yX3_init.cls ≠ "java/lang/invoke/VarHandle" ∧ (parseMethodDescriptor yX3_init.desc).map (fun d => d.parameters.length) = some 0 := by decide +kernel
theorem dkX12_out : yX12_out.cls ≠ "java/lang/invoke/MethodHandle" ∧ yX12_out.cls ≠ "java/lang/invoke/VarHandle" ∧ (parseMethodDescriptor yX12_out.desc).map (fun d => d.parameters.length) = some 2 := by decide +kernel
theorem dkX12_wrongKept : yX12_wrongKept.cls ≠ "java/lang/invoke/MethodHandle" ∧ yX12_wrongKept.cls ≠ "java/lang/invoke/VarHandle" ∧ (parseMethodDescriptor yX12_wrongKept.desc).map (fun d => d.parameters.length) = some 1 := by decide +kernel
theorem dkX12_areBowls : yX12_areBowls.cls ≠ "java/lang/invoke/MethodHandle" ∧ yX12_areBowls.cls ≠ "java/lang/invoke/VarHandle" ∧ (parseMethodDescriptor yX12_areBowls.desc).map (fun d => d.parameters.length) = some 1 := by decide +kernel
theorem dkX11_count : yX11_count.cls ≠ "java/lang/invoke/MethodHandle" ∧ yX11_count.cls ≠ "java/lang/invoke/VarHandle" ∧ (parseMethodDescriptor yX11_count.desc).map (fun d => d.parameters.length) = some 1 := by decide +kernel
theorem dkX3_cost : yX3_cost.cls ≠ "java/lang/invoke/MethodHandle" ∧ yX3_cost.cls ≠ "java/lang/invoke/VarHandle" ∧ (parseMethodDescriptor yX3_cost.desc).map (fun d => d.parameters.length) = some 1 := by decide +kernel
theorem dkX5_outsideAt : yX5_outsideAt.cls ≠ "java/lang/invoke/MethodHandle" ∧ yX5_outsideAt.cls ≠ "java/lang/invoke/VarHandle" ∧ (parseMethodDescriptor yX5_outsideAt.desc).map (fun d => d.parameters.length) = some 2 := by decide +kernel
theorem dkX11_isWarmth : yX11_isWarmth.cls ≠ "java/lang/invoke/MethodHandle" ∧ yX11_isWarmth.cls ≠ "java/lang/invoke/VarHandle" ∧ (parseMethodDescriptor yX11_isWarmth.desc).map (fun d => d.parameters.length) = some 1 := by decide +kernel
theorem dkX10_faultOfForm : yX10_faultOfForm.cls ≠ "java/lang/invoke/MethodHandle" ∧ yX10_faultOfForm.cls ≠ "java/lang/invoke/VarHandle" ∧ (parseMethodDescriptor yX10_faultOfForm.desc).map (fun d => d.parameters.length) = some 0 := by decide +kernel
theorem dkX11_nest : yX11_nest.cls ≠ "java/lang/invoke/MethodHandle" ∧ yX11_nest.cls ≠ "java/lang/invoke/VarHandle" ∧ (parseMethodDescriptor yX11_nest.desc).map (fun d => d.parameters.length) = some 1 := by decide +kernel
theorem dkX12_leastOf : yX12_leastOf.cls ≠ "java/lang/invoke/MethodHandle" ∧ yX12_leastOf.cls ≠ "java/lang/invoke/VarHandle" ∧ (parseMethodDescriptor yX12_leastOf.desc).map (fun d => d.parameters.length) = some 2 := by decide +kernel
theorem dkX12_areApart : yX12_areApart.cls ≠ "java/lang/invoke/MethodHandle" ∧ yX12_areApart.cls ≠ "java/lang/invoke/VarHandle" ∧ (parseMethodDescriptor yX12_areApart.desc).map (fun d => d.parameters.length) = some 1 := by decide +kernel
theorem dkX2_cost : yX2_cost.cls ≠ "java/lang/invoke/MethodHandle" ∧ yX2_cost.cls ≠ "java/lang/invoke/VarHandle" ∧ (parseMethodDescriptor yX2_cost.desc).map (fun d => d.parameters.length) = some 1 := by decide +kernel
theorem dkX8_cost : yX8_cost.cls ≠ "java/lang/invoke/MethodHandle" ∧ yX8_cost.cls ≠ "java/lang/invoke/VarHandle" ∧ (parseMethodDescriptor yX8_cost.desc).map (fun d => d.parameters.length) = some 1 := by decide +kernel
theorem dkX10_at : yX10_at.cls ≠ "java/lang/invoke/MethodHandle" ∧ yX10_at.cls ≠ "java/lang/invoke/VarHandle" ∧ (parseMethodDescriptor yX10_at.desc).map (fun d => d.parameters.length) = some 1 := by decide +kernel
theorem dkX12_spanOf : yX12_spanOf.cls ≠ "java/lang/invoke/MethodHandle" ∧ yX12_spanOf.cls ≠ "java/lang/invoke/VarHandle" ∧ (parseMethodDescriptor yX12_spanOf.desc).map (fun d => d.parameters.length) = some 4 := by decide +kernel
theorem dkX11_bowlRefusal : yX11_bowlRefusal.cls ≠ "java/lang/invoke/MethodHandle" ∧ yX11_bowlRefusal.cls ≠ "java/lang/invoke/VarHandle" ∧ (parseMethodDescriptor yX11_bowlRefusal.desc).map (fun d => d.parameters.length) = some 1 := by decide +kernel
theorem dkX12_restore : yX12_restore.cls ≠ "java/lang/invoke/MethodHandle" ∧ yX12_restore.cls ≠ "java/lang/invoke/VarHandle" ∧ (parseMethodDescriptor yX12_restore.desc).map (fun d => d.parameters.length) = some 0 := by decide +kernel
theorem dkX12_bits : yX12_bits.cls ≠ "java/lang/invoke/MethodHandle" ∧ yX12_bits.cls ≠ "java/lang/invoke/VarHandle" ∧ (parseMethodDescriptor yX12_bits.desc).map (fun d => d.parameters.length) = some 1 := by decide +kernel
theorem dkX8_init : yX8_init.cls ≠ "java/lang/invoke/MethodHandle" ∧ yX8_init.cls ≠ "java/lang/invoke/VarHandle" ∧ (parseMethodDescriptor yX8_init.desc).map (fun d => d.parameters.length) = some 0 := by decide +kernel
theorem dkX12_load : yX12_load.cls ≠ "java/lang/invoke/MethodHandle" ∧ yX12_load.cls ≠ "java/lang/invoke/VarHandle" ∧ (parseMethodDescriptor yX12_load.desc).map (fun d => d.parameters.length) = some 1 := by decide +kernel
theorem dkX5_become : yX5_become.cls ≠ "java/lang/invoke/MethodHandle" ∧ yX5_become.cls ≠ "java/lang/invoke/VarHandle" ∧ (parseMethodDescriptor yX5_become.desc).map (fun d => d.parameters.length) = some 1 := by decide +kernel
theorem dkX4_cost : yX4_cost.cls ≠ "java/lang/invoke/MethodHandle" ∧ yX4_cost.cls ≠ "java/lang/invoke/VarHandle" ∧ (parseMethodDescriptor yX4_cost.desc).map (fun d => d.parameters.length) = some 1 := by decide +kernel
theorem dkX12_liesNow : yX12_liesNow.cls ≠ "java/lang/invoke/MethodHandle" ∧ yX12_liesNow.cls ≠ "java/lang/invoke/VarHandle" ∧ (parseMethodDescriptor yX12_liesNow.desc).map (fun d => d.parameters.length) = some 2 := by decide +kernel
theorem dkX10_holdRow : yX10_holdRow.cls ≠ "java/lang/invoke/MethodHandle" ∧ yX10_holdRow.cls ≠ "java/lang/invoke/VarHandle" ∧ (parseMethodDescriptor yX10_holdRow.desc).map (fun d => d.parameters.length) = some 2 := by decide +kernel
theorem dkX12_fewest : yX12_fewest.cls ≠ "java/lang/invoke/MethodHandle" ∧ yX12_fewest.cls ≠ "java/lang/invoke/VarHandle" ∧ (parseMethodDescriptor yX12_fewest.desc).map (fun d => d.parameters.length) = some 0 := by decide +kernel
theorem dkX0_rise : yX0_rise.cls ≠ "java/lang/invoke/MethodHandle" ∧ yX0_rise.cls ≠ "java/lang/invoke/VarHandle" ∧ (parseMethodDescriptor yX0_rise.desc).map (fun d => d.parameters.length) = some 1 := by decide +kernel
theorem lX11_70 : zLv RX11 70 mX11_bytesRefusal 1 := ⟨⟨Or.inl (big_in (List.mem_of_getElem? (i := 233) (by decide +kernel)) rfl), ckX11_bytesRefusal, ikRX11, dkX11_bytesRefusal, by decide⟩, nkX11_bytesRefusal, vkX11_bytesRefusal⟩
theorem lX11_74 : zLv RX11 74 mX10_faultOfForm 0 := ⟨⟨Or.inl (big_in (List.mem_of_getElem? (i := 247) (by decide +kernel)) rfl), ckX10_faultOfForm, ikRX10, dkX10_faultOfForm, by decide⟩, nkX10_faultOfForm, vkX10_faultOfForm⟩
theorem lX11_78 : zLv RX11 78 mX11_tellAll 1 := ⟨⟨Or.inl (big_in (List.mem_of_getElem? (i := 279) (by decide +kernel)) rfl), ckX11_tellAll, ikRX11, dkX11_tellAll, by decide⟩, nkX11_tellAll, vkX11_tellAll⟩
theorem lX11_82 : zLv RX11 82 mX5_has 1 := ⟨⟨Or.inl (big_in (List.mem_of_getElem? (i := 334) (by decide +kernel)) rfl), ckX5_has, ikRX5, dkX5_has, by decide⟩, nkX5_has, vkX5_has⟩
theorem lX11_102 : zLv RX11 102 mX5_outsideAt 2 := ⟨⟨Or.inl (big_in (List.mem_of_getElem? (i := 335) (by decide +kernel)) rfl), ckX5_outsideAt, ikRX5, dkX5_outsideAt, by decide⟩, nkX5_outsideAt, vkX5_outsideAt⟩
theorem lX11_110 : zLv RX11 110 mX5_insideAt 3 := ⟨⟨Or.inl (big_in (List.mem_of_getElem? (i := 368) (by decide +kernel)) rfl), ckX5_insideAt, ikRX5, dkX5_insideAt, by decide⟩, nkX5_insideAt, vkX5_insideAt⟩
theorem lX11_114 : zLv RX11 114 mX5_riseOf 1 := ⟨⟨Or.inl (big_in (List.mem_of_getElem? (i := 395) (by decide +kernel)) rfl), ckX5_riseOf, ikRX5, dkX5_riseOf, by decide⟩, nkX5_riseOf, vkX5_riseOf⟩
theorem lX11_117 : zLs RX11 117 mX11_isShelf 1 := ⟨⟨Or.inl (big_in (List.mem_of_getElem? (i := 241) (by decide +kernel)) rfl), ckX11_isShelf, ikRX11, dkX11_isShelf, by decide⟩, skX11_isShelf⟩
theorem lX11_120 : zLs RX11 120 mX11_areHairs 1 := ⟨⟨Or.inl (big_in (List.mem_of_getElem? (i := 427) (by decide +kernel)) rfl), ckX11_areHairs, ikRX11, dkX11_areHairs, by decide⟩, skX11_areHairs⟩
theorem lX11_123 : zLs RX11 123 mX11_isWithin 3 := ⟨⟨Or.inl (big_in (List.mem_of_getElem? (i := 244) (by decide +kernel)) rfl), ckX11_isWithin, ikRX11, dkX11_isWithin, by decide⟩, skX11_isWithin⟩
theorem lX11_127 : zLv RX11 127 mX11_bowlRefusal 1 := ⟨⟨Or.inl (big_in (List.mem_of_getElem? (i := 430) (by decide +kernel)) rfl), ckX11_bowlRefusal, ikRX11, dkX11_bowlRefusal, by decide⟩, nkX11_bowlRefusal, vkX11_bowlRefusal⟩
theorem lX11_134 : zLv RX11 134 mX5_add 5 := ⟨⟨Or.inl (big_in (List.mem_of_getElem? (i := 434) (by decide +kernel)) rfl), ckX5_add, ikRX5, dkX5_add, by decide⟩, nkX5_add, vkX5_add⟩
theorem lX11_141 : zLs RX11 141 mX11_isWarmth 1 := ⟨⟨Or.inl (big_in (List.mem_of_getElem? (i := 439) (by decide +kernel)) rfl), ckX11_isWarmth, ikRX11, dkX11_isWarmth, by decide⟩, skX11_isWarmth⟩
theorem lX11_144 : zLv RX11 144 mX5_flip 1 := ⟨⟨Or.inl (big_in (List.mem_of_getElem? (i := 446) (by decide +kernel)) rfl), ckX5_flip, ikRX5, dkX5_flip, by decide⟩, nkX5_flip, vkX5_flip⟩
theorem lX11_147 : zLv RX11 147 mX11_arePair 2 := ⟨⟨Or.inl (big_in (List.mem_of_getElem? (i := 451) (by decide +kernel)) rfl), ckX11_arePair, ikRX11, dkX11_arePair, by decide⟩, nkX11_arePair, vkX11_arePair⟩
theorem lX11_151 : zLv RX11 151 mX5_isIn 3 := ⟨⟨Or.inl (big_in (List.mem_of_getElem? (i := 455) (by decide +kernel)) rfl), ckX5_isIn, ikRX5, dkX5_isIn, by decide⟩, nkX5_isIn, vkX5_isIn⟩
theorem lX11_154 : zLv RX11 154 mX11_areBowls 1 := ⟨⟨Or.inl (big_in (List.mem_of_getElem? (i := 483) (by decide +kernel)) rfl), ckX11_areBowls, ikRX11, dkX11_areBowls, by decide⟩, nkX11_areBowls, vkX11_areBowls⟩
theorem lX11_157 : zLv RX11 157 mX5_heightOf 1 := ⟨⟨Or.inl (big_in (List.mem_of_getElem? (i := 491) (by decide +kernel)) rfl), ckX5_heightOf, ikRX5, dkX5_heightOf, by decide⟩, nkX5_heightOf, vkX5_heightOf⟩
theorem lX11_160 : zLv RX11 160 mX7_findAll 1 := ⟨⟨Or.inl (big_in (List.mem_of_getElem? (i := 509) (by decide +kernel)) rfl), ckX7_findAll, ikRX7, dkX7_findAll, by decide⟩, nkX7_findAll, vkX7_findAll⟩
theorem lX11_164 : zLv RX11 164 mX7_longestOf 1 := ⟨⟨Or.inl (big_in (List.mem_of_getElem? (i := 527) (by decide +kernel)) rfl), ckX7_longestOf, ikRX7, dkX7_longestOf, by decide⟩, nkX7_longestOf, vkX7_longestOf⟩
theorem lX11_167 : zLs RX11 167 mJ6_bitCount_0f7a4 1 := ⟨⟨Or.inl (big_in (List.mem_of_getElem? (i := 541) (by decide +kernel)) rfl), ckJ6_bitCount_0f7a4, ikRJ6, dkJ6_bitCount_0f7a4, by decide⟩, skJ6_bitCount_0f7a4⟩
theorem lX11_173 : zLv RX11 173 mX7_costOneEach 1 := ⟨⟨Or.inl (big_in (List.mem_of_getElem? (i := 547) (by decide +kernel)) rfl), ckX7_costOneEach, ikRX7, dkX7_costOneEach, by decide⟩, nkX7_costOneEach, vkX7_costOneEach⟩
theorem lX11_177 : zLv RX11 177 mX7_leastSum 0 := ⟨⟨Or.inl (big_in (List.mem_of_getElem? (i := 552) (by decide +kernel)) rfl), ckX7_leastSum, ikRX7, dkX7_leastSum, by decide⟩, nkX7_leastSum, vkX7_leastSum⟩
theorem lX11_180 : zLv RX11 180 mX7_mostApart 0 := ⟨⟨Or.inl (big_in (List.mem_of_getElem? (i := 560) (by decide +kernel)) rfl), ckX7_mostApart, ikRX7, dkX7_mostApart, by decide⟩, nkX7_mostApart, vkX7_mostApart⟩
theorem lX11_183 : zLv RX11 183 mX7_costHeights 0 := ⟨⟨Or.inl (big_in (List.mem_of_getElem? (i := 572) (by decide +kernel)) rfl), ckX7_costHeights, ikRX7, dkX7_costHeights, by decide⟩, nkX7_costHeights, vkX7_costHeights⟩
theorem lX11_186 : zLv RX11 186 mX7_costLessForSetsOf 1 := ⟨⟨Or.inl (big_in (List.mem_of_getElem? (i := 584) (by decide +kernel)) rfl), ckX7_costLessForSetsOf, ikRX7, dkX7_costLessForSetsOf, by decide⟩, nkX7_costLessForSetsOf, vkX7_costLessForSetsOf⟩
theorem lX11_189 : zLv RX11 189 mX5_arrange 0 := ⟨⟨Or.inl (big_in (List.mem_of_getElem? (i := 592) (by decide +kernel)) rfl), ckX5_arrange, ikRX5, dkX5_arrange, by decide⟩, nkX5_arrange, vkX5_arrange⟩
theorem lX11_192 : zLv RX11 192 mX5_become 1 := ⟨⟨Or.inl (big_in (List.mem_of_getElem? (i := 283) (by decide +kernel)) rfl), ckX5_become, ikRX5, dkX5_become, by decide⟩, nkX5_become, vkX5_become⟩
theorem lX11_195 : zLv RX11 195 mX5_think 2 := ⟨⟨Or.inl (big_in (List.mem_of_getElem? (i := 593) (by decide +kernel)) rfl), ckX5_think, ikRX5, dkX5_think, by decide⟩, nkX5_think, vkX5_think⟩
theorem lX11_201 : zLv RX11 201 mX11_isBridged 3 := ⟨⟨Or.inl (big_in (List.mem_of_getElem? (i := 597) (by decide +kernel)) rfl), ckX11_isBridged, ikRX11, dkX11_isBridged, by decide⟩, nkX11_isBridged, vkX11_isBridged⟩
theorem lX11_204 : zLv RX11 204 mX7_findChains 1 := ⟨⟨Or.inl (big_in (List.mem_of_getElem? (i := 605) (by decide +kernel)) rfl), ckX7_findChains, ikRX7, dkX7_findChains, by decide⟩, nkX7_findChains, vkX7_findChains⟩
theorem lX11_207 : zLv RX11 207 mX7_longestWith 2 := ⟨⟨Or.inl (big_in (List.mem_of_getElem? (i := 618) (by decide +kernel)) rfl), ckX7_longestWith, ikRX7, dkX7_longestWith, by decide⟩, nkX7_longestWith, vkX7_longestWith⟩
theorem lX11_214 : zLv RX11 214 mX11_firstMisplaced 1 := ⟨⟨Or.inl (big_in (List.mem_of_getElem? (i := 626) (by decide +kernel)) rfl), ckX11_firstMisplaced, ikRX11, dkX11_firstMisplaced, by decide⟩, nkX11_firstMisplaced, vkX11_firstMisplaced⟩
theorem lX11_217 : zLv RX11 217 mX10_at 1 := ⟨⟨Or.inl (big_in (List.mem_of_getElem? (i := 630) (by decide +kernel)) rfl), ckX10_at, ikRX10, dkX10_at, by decide⟩, nkX10_at, vkX10_at⟩
theorem lX11_220 : zLv RX11 220 mX11_rowRefusal 1 := ⟨⟨Or.inl (big_in (List.mem_of_getElem? (i := 635) (by decide +kernel)) rfl), ckX11_rowRefusal, ikRX11, dkX11_rowRefusal, by decide⟩, nkX11_rowRefusal, vkX11_rowRefusal⟩
theorem lX11_223 : zLv RX11 223 mX5_spanned 4 := ⟨⟨Or.inl (big_in (List.mem_of_getElem? (i := 643) (by decide +kernel)) rfl), ckX5_spanned, ikRX5, dkX5_spanned, by decide⟩, nkX5_spanned, vkX5_spanned⟩
theorem lX11_227 : zLv RX11 227 mX11_pairsPerhaps 2 := ⟨⟨Or.inl (big_in (List.mem_of_getElem? (i := 652) (by decide +kernel)) rfl), ckX11_pairsPerhaps, ikRX11, dkX11_pairsPerhaps, by decide⟩, nkX11_pairsPerhaps, vkX11_pairsPerhaps⟩
theorem lX11_230 : zLv RX11 230 mX11_brokenBy 2 := ⟨⟨Or.inl (big_in (List.mem_of_getElem? (i := 664) (by decide +kernel)) rfl), ckX11_brokenBy, ikRX11, dkX11_brokenBy, by decide⟩, nkX11_brokenBy, vkX11_brokenBy⟩
theorem lX11_233 : zLv RX11 233 mX5_all 0 := ⟨⟨Or.inl (big_in (List.mem_of_getElem? (i := 487) (by decide +kernel)) rfl), ckX5_all, ikRX5, dkX5_all, by decide⟩, nkX5_all, vkX5_all⟩
theorem lX11_236 : zLv RX11 236 mX5_pairsIn 0 := ⟨⟨Or.inl (big_in (List.mem_of_getElem? (i := 683) (by decide +kernel)) rfl), ckX5_pairsIn, ikRX5, dkX5_pairsIn, by decide⟩, nkX5_pairsIn, vkX5_pairsIn⟩
theorem lX11_239 : zLv RX11 239 mX5_allDepths 0 := ⟨⟨Or.inl (big_in (List.mem_of_getElem? (i := 687) (by decide +kernel)) rfl), ckX5_allDepths, ikRX5, dkX5_allDepths, by decide⟩, nkX5_allDepths, vkX5_allDepths⟩
theorem lX11_242 : zLv RX11 242 mX10_clear 0 := ⟨⟨Or.inl (big_in (List.mem_of_getElem? (i := 695) (by decide +kernel)) rfl), ckX10_clear, ikRX10, dkX10_clear, by decide⟩, nkX10_clear, vkX10_clear⟩
theorem lX11_245 : zLv RX11 245 mX10_holdBowl 2 := ⟨⟨Or.inl (big_in (List.mem_of_getElem? (i := 699) (by decide +kernel)) rfl), ckX10_holdBowl, ikRX10, dkX10_holdBowl, by decide⟩, nkX10_holdBowl, vkX10_holdBowl⟩
theorem lX11_249 : zLv RX11 249 mX10_holdRow 2 := ⟨⟨Or.inl (big_in (List.mem_of_getElem? (i := 707) (by decide +kernel)) rfl), ckX10_holdRow, ikRX10, dkX10_holdRow, by decide⟩, nkX10_holdRow, vkX10_holdRow⟩
theorem lX11_252 : zLv RX11 252 mX10_hasPlace 1 := ⟨⟨Or.inl (big_in (List.mem_of_getElem? (i := 715) (by decide +kernel)) rfl), ckX10_hasPlace, ikRX10, dkX10_hasPlace, by decide⟩, nkX10_hasPlace, vkX10_hasPlace⟩
theorem lX11_255 : zLv RX11 255 mX10_set 2 := ⟨⟨Or.inl (big_in (List.mem_of_getElem? (i := 716) (by decide +kernel)) rfl), ckX10_set, ikRX10, dkX10_set, by decide⟩, nkX10_set, vkX10_set⟩
theorem lX11_276 : zLv RX11 276 mX10_hasStretch 2 := ⟨⟨Or.inl (big_in (List.mem_of_getElem? (i := 724) (by decide +kernel)) rfl), ckX10_hasStretch, ikRX10, dkX10_hasStretch, by decide⟩, nkX10_hasStretch, vkX10_hasStretch⟩
theorem lX11_296 : zLv RX11 296 mX11_shelfRefusal 2 := ⟨⟨Or.inl (big_in (List.mem_of_getElem? (i := 237) (by decide +kernel)) rfl), ckX11_shelfRefusal, ikRX11, dkX11_shelfRefusal, by decide⟩, nkX11_shelfRefusal, vkX11_shelfRefusal⟩
theorem lX11_299 : zLv RX11 299 mX5_tell 2 := ⟨⟨Or.inl (big_in (List.mem_of_getElem? (i := 290) (by decide +kernel)) rfl), ckX5_tell, ikRX5, dkX5_tell, by decide⟩, nkX5_tell, vkX5_tell⟩
theorem lX11_303 : zLv RX11 303 mX10_statementEnd 1 := ⟨⟨Or.inl (big_in (List.mem_of_getElem? (i := 329) (by decide +kernel)) rfl), ckX10_statementEnd, ikRX10, dkX10_statementEnd, by decide⟩, nkX10_statementEnd, vkX10_statementEnd⟩
theorem lX5_47 : zLv RX5 47 mX5_place 5 := ⟨⟨Or.inl (big_in (List.mem_of_getElem? (i := 313) (by decide +kernel)) rfl), ckX5_place, ikRX5, dkX5_place, by decide⟩, nkX5_place, vkX5_place⟩
theorem lX5_51 : zLv RX5 51 mX5_has 1 := ⟨⟨Or.inl (big_in (List.mem_of_getElem? (i := 321) (by decide +kernel)) rfl), ckX5_has, ikRX5, dkX5_has, by decide⟩, nkX5_has, vkX5_has⟩
theorem lX5_55 : zLv RX5 55 mX10_at 1 := ⟨⟨Or.inl (big_in (List.mem_of_getElem? (i := 294) (by decide +kernel)) rfl), ckX10_at, ikRX10, dkX10_at, by decide⟩, nkX10_at, vkX10_at⟩
theorem lX5_61 : zLv RX5 61 mX5_tellBowl 2 := ⟨⟨Or.inl (big_in (List.mem_of_getElem? (i := 295) (by decide +kernel)) rfl), ckX5_tellBowl, ikRX5, dkX5_tellBowl, by decide⟩, nkX5_tellBowl, vkX5_tellBowl⟩
theorem lX5_65 : zLv RX5 65 mX10_digitAt 1 := ⟨⟨Or.inl (big_in (List.mem_of_getElem? (i := 299) (by decide +kernel)) rfl), ckX10_digitAt, ikRX10, dkX10_digitAt, by decide⟩, nkX10_digitAt, vkX10_digitAt⟩
theorem lX5_68 : zLv RX5 68 mX5_flip 1 := ⟨⟨Or.inl (big_in (List.mem_of_getElem? (i := 317) (by decide +kernel)) rfl), ckX5_flip, ikRX5, dkX5_flip, by decide⟩, nkX5_flip, vkX5_flip⟩
theorem lX5_71 : zLv RX5 71 mX5_dropLatest 0 := ⟨⟨Or.inl (big_in (List.mem_of_getElem? (i := 325) (by decide +kernel)) rfl), ckX5_dropLatest, ikRX5, dkX5_dropLatest, by decide⟩, nkX5_dropLatest, vkX5_dropLatest⟩
theorem lX5_75 : zLv RX5 75 mX10_numberAt 1 := ⟨⟨Or.inl (big_in (List.mem_of_getElem? (i := 303) (by decide +kernel)) rfl), ckX10_numberAt, ikRX10, dkX10_numberAt, by decide⟩, nkX10_numberAt, vkX10_numberAt⟩
theorem lX5_78 : zLv RX5 78 mX10_numberEnd 1 := ⟨⟨Or.inl (big_in (List.mem_of_getElem? (i := 308) (by decide +kernel)) rfl), ckX10_numberEnd, ikRX10, dkX10_numberEnd, by decide⟩, nkX10_numberEnd, vkX10_numberEnd⟩
theorem lX5_81 : zLv RX5 81 mX5_add 5 := ⟨⟨Or.inl (big_in (List.mem_of_getElem? (i := 309) (by decide +kernel)) rfl), ckX5_add, ikRX5, dkX5_add, by decide⟩, nkX5_add, vkX5_add⟩
theorem lX5_98 : zLv RX5 98 mX5_agree 2 := ⟨⟨Or.inl (big_in (List.mem_of_getElem? (i := 459) (by decide +kernel)) rfl), ckX5_agree, ikRX5, dkX5_agree, by decide⟩, nkX5_agree, vkX5_agree⟩
theorem lX5_102 : zLv RX5 102 mX5_outsideAt 2 := ⟨⟨Or.inl (big_in (List.mem_of_getElem? (i := 477) (by decide +kernel)) rfl), ckX5_outsideAt, ikRX5, dkX5_outsideAt, by decide⟩, nkX5_outsideAt, vkX5_outsideAt⟩
theorem lX5_106 : zLv RX5 106 mX5_insideAt 3 := ⟨⟨Or.inl (big_in (List.mem_of_getElem? (i := 478) (by decide +kernel)) rfl), ckX5_insideAt, ikRX5, dkX5_insideAt, by decide⟩, nkX5_insideAt, vkX5_insideAt⟩
theorem lX5_112 : zLs RX5 112 mJ9_max_7cf53 2 := ⟨⟨Or.inl (big_in (List.mem_of_getElem? (i := 647) (by decide +kernel)) rfl), ckJ9_max_7cf53, ikRJ9, dkJ9_max_7cf53, by decide⟩, skJ9_max_7cf53⟩
theorem lX5_117 : zLv RX5 117 mX5_arrange 0 := ⟨⟨Or.inl (big_in (List.mem_of_getElem? (i := 495) (by decide +kernel)) rfl), ckX5_arrange, ikRX5, dkX5_arrange, by decide⟩, nkX5_arrange, vkX5_arrange⟩
theorem lX5_120 : zLv RX5 120 mX5_isIn 3 := ⟨⟨Or.inl (big_in (List.mem_of_getElem? (i := 499) (by decide +kernel)) rfl), ckX5_isIn, ikRX5, dkX5_isIn, by decide⟩, nkX5_isIn, vkX5_isIn⟩
theorem lX5_124 : zLv RX5 124 mX5_riseOf 1 := ⟨⟨Or.inl (big_in (List.mem_of_getElem? (i := 500) (by decide +kernel)) rfl), ckX5_riseOf, ikRX5, dkX5_riseOf, by decide⟩, nkX5_riseOf, vkX5_riseOf⟩
theorem lX6_11 : zLs RX6 11 mJ9_max_7cf53 2 := ⟨⟨Or.inl (big_in (List.mem_of_getElem? (i := 348) (by decide +kernel)) rfl), ckJ9_max_7cf53, ikRJ9, dkJ9_max_7cf53, by decide⟩, skJ9_max_7cf53⟩
theorem lX7_42 : zLs RX7 42 mJ9_min_7cf53 2 := ⟨⟨Or.inl (big_in (List.mem_of_getElem? (i := 513) (by decide +kernel)) rfl), ckJ9_min_7cf53, ikRJ9, dkJ9_min_7cf53, by decide⟩, skJ9_min_7cf53⟩
theorem lX7_57 : zLv RX7 57 mX5_arrange 0 := ⟨⟨Or.inl (big_in (List.mem_of_getElem? (i := 516) (by decide +kernel)) rfl), ckX5_arrange, ikRX5, dkX5_arrange, by decide⟩, nkX5_arrange, vkX5_arrange⟩
theorem lX7_66 : zLv RX7 66 mX5_isIn 3 := ⟨⟨Or.inl (big_in (List.mem_of_getElem? (i := 517) (by decide +kernel)) rfl), ckX5_isIn, ikRX5, dkX5_isIn, by decide⟩, nkX5_isIn, vkX5_isIn⟩
theorem lX7_70 : zLv RX7 70 mX7_growBy 2 := ⟨⟨Or.inl (big_in (List.mem_of_getElem? (i := 518) (by decide +kernel)) rfl), ckX7_growBy, ikRX7, dkX7_growBy, by decide⟩, nkX7_growBy, vkX7_growBy⟩
theorem lX7_74 : zLv RX7 74 mX5_riseOf 1 := ⟨⟨Or.inl (big_in (List.mem_of_getElem? (i := 522) (by decide +kernel)) rfl), ckX5_riseOf, ikRX5, dkX5_riseOf, by decide⟩, nkX5_riseOf, vkX5_riseOf⟩
theorem lX7_81 : zLv RX7 81 mX7_note 3 := ⟨⟨Or.inl (big_in (List.mem_of_getElem? (i := 523) (by decide +kernel)) rfl), ckX7_note, ikRX7, dkX7_note, by decide⟩, nkX7_note, vkX7_note⟩
theorem lX7_85 : zLv RX7 85 mX7_isLonger 2 := ⟨⟨Or.inl (big_in (List.mem_of_getElem? (i := 531) (by decide +kernel)) rfl), ckX7_isLonger, ikRX7, dkX7_isLonger, by decide⟩, nkX7_isLonger, vkX7_isLonger⟩
theorem lX7_89 : zLs RX7 89 mJ6_bitCount_0f7a4 1 := ⟨⟨Or.inl (big_in (List.mem_of_getElem? (i := 535) (by decide +kernel)) rfl), ckJ6_bitCount_0f7a4, ikRJ6, dkJ6_bitCount_0f7a4, by decide⟩, skJ6_bitCount_0f7a4⟩
theorem lX7_94 : zLv RX7 94 mX7_isApart 1 := ⟨⟨Or.inl (big_in (List.mem_of_getElem? (i := 564) (by decide +kernel)) rfl), ckX7_isApart, ikRX7, dkX7_isApart, by decide⟩, nkX7_isApart, vkX7_isApart⟩
theorem lX7_99 : zLv RX7 99 mX7_lengthenInward 1 := ⟨⟨Or.inl (big_in (List.mem_of_getElem? (i := 609) (by decide +kernel)) rfl), ckX7_lengthenInward, ikRX7, dkX7_lengthenInward, by decide⟩, nkX7_lengthenInward, vkX7_lengthenInward⟩
theorem lX7_103 : zLv RX7 103 mX7_lengthenOutward 1 := ⟨⟨Or.inl (big_in (List.mem_of_getElem? (i := 614) (by decide +kernel)) rfl), ckX7_lengthenOutward, ikRX7, dkX7_lengthenOutward, by decide⟩, nkX7_lengthenOutward, vkX7_lengthenOutward⟩
theorem lX7_106 : zLs RX7 106 mJ9_max_7cf53 2 := ⟨⟨Or.inl (big_in (List.mem_of_getElem? (i := 613) (by decide +kernel)) rfl), ckJ9_max_7cf53, ikRJ9, dkJ9_max_7cf53, by decide⟩, skJ9_max_7cf53⟩
theorem lX10_31 : zLv RX10 31 mX10_hasPlace 1 := ⟨⟨Or.inl (big_in (List.mem_of_getElem? (i := 259) (by decide +kernel)) rfl), ckX10_hasPlace, ikRX10, dkX10_hasPlace, by decide⟩, nkX10_hasPlace, vkX10_hasPlace⟩
theorem lX10_35 : zLv RX10 35 mX10_at 1 := ⟨⟨Or.inl (big_in (List.mem_of_getElem? (i := 255) (by decide +kernel)) rfl), ckX10_at, ikRX10, dkX10_at, by decide⟩, nkX10_at, vkX10_at⟩
theorem lX10_39 : zLv RX10 39 mX10_statementEnd 1 := ⟨⟨Or.inl (big_in (List.mem_of_getElem? (i := 251) (by decide +kernel)) rfl), ckX10_statementEnd, ikRX10, dkX10_statementEnd, by decide⟩, nkX10_statementEnd, vkX10_statementEnd⟩
theorem lX10_42 : zLv RX10 42 mX10_digitEnd 1 := ⟨⟨Or.inl (big_in (List.mem_of_getElem? (i := 263) (by decide +kernel)) rfl), ckX10_digitEnd, ikRX10, dkX10_digitEnd, by decide⟩, nkX10_digitEnd, vkX10_digitEnd⟩
theorem lX10_45 : zLv RX10 45 mX10_numberEnd 1 := ⟨⟨Or.inl (big_in (List.mem_of_getElem? (i := 271) (by decide +kernel)) rfl), ckX10_numberEnd, ikRX10, dkX10_numberEnd, by decide⟩, nkX10_numberEnd, vkX10_numberEnd⟩
theorem lX10_48 : zLv RX10 48 mX10_signEnd 2 := ⟨⟨Or.inl (big_in (List.mem_of_getElem? (i := 275) (by decide +kernel)) rfl), ckX10_signEnd, ikRX10, dkX10_signEnd, by decide⟩, nkX10_signEnd, vkX10_signEnd⟩
theorem lX10_52 : zLv RX10 52 mX10_isDigit 1 := ⟨⟨Or.inl (big_in (List.mem_of_getElem? (i := 267) (by decide +kernel)) rfl), ckX10_isDigit, ikRX10, dkX10_isDigit, by decide⟩, nkX10_isDigit, vkX10_isDigit⟩
theorem lX10_55 : zLv RX10 55 mX10_digitAt 1 := ⟨⟨Or.inl (big_in (List.mem_of_getElem? (i := 307) (by decide +kernel)) rfl), ckX10_digitAt, ikRX10, dkX10_digitAt, by decide⟩, nkX10_digitAt, vkX10_digitAt⟩
theorem lL_7 : zLv RL 7 mX11_element 2 := ⟨⟨Or.inl (big_in (List.mem_of_getElem? (i := 896) (by decide +kernel)) rfl), ckX11_element, ikRX11, dkX11_element, by decide⟩, nkX11_element, vkX11_element⟩
theorem lL_21 : zLv RL 21 mX11_heap 1 := ⟨⟨Or.inl (big_in (List.mem_of_getElem? (i := 229) (by decide +kernel)) rfl), ckX11_heap, ikRX11, dkX11_heap, by decide⟩, nkX11_heap, vkX11_heap⟩
theorem lL_25 : zLv RL 25 mX12_heap 1 := ⟨⟨Or.inl (big_in (List.mem_of_getElem? (i := 975) (by decide +kernel)) rfl), ckX12_heap, ikRX12, dkX12_heap, by decide⟩, nkX12_heap, vkX12_heap⟩
theorem lL_26 : zLv RL 26 mX11_bowl 2 := ⟨⟨Or.inl (big_in (List.mem_of_getElem? (i := 330) (by decide +kernel)) rfl), ckX11_bowl, ikRX11, dkX11_bowl, by decide⟩, nkX11_bowl, vkX11_bowl⟩
theorem lL_30 : zLv RL 30 mX12_bowl 2 := ⟨⟨Or.inl (big_in (List.mem_of_getElem? (i := 1031) (by decide +kernel)) rfl), ckX12_bowl, ikRX12, dkX12_bowl, by decide⟩, nkX12_bowl, vkX12_bowl⟩
theorem lL_31 : zLv RL 31 mX11_comes 4 := ⟨⟨Or.inl (big_in (List.mem_of_getElem? (i := 423) (by decide +kernel)) rfl), ckX11_comes, ikRX11, dkX11_comes, by decide⟩, nkX11_comes, vkX11_comes⟩
theorem lL_35 : zLv RL 35 mX12_comes 4 := ⟨⟨Or.inl (big_in (List.mem_of_getElem? (i := 1059) (by decide +kernel)) rfl), ckX12_comes, ikRX12, dkX12_comes, by decide⟩, nkX12_comes, vkX12_comes⟩
theorem lL_36 : zLv RL 36 mX11_warm 1 := ⟨⟨Or.inl (big_in (List.mem_of_getElem? (i := 435) (by decide +kernel)) rfl), ckX11_warm, ikRX11, dkX11_warm, by decide⟩, nkX11_warm, vkX11_warm⟩
theorem lL_39 : zLv RL 39 mX12_warm 1 := ⟨⟨Or.inl (big_in (List.mem_of_getElem? (i := 1072) (by decide +kernel)) rfl), ckX12_warm, ikRX12, dkX12_warm, by decide⟩, nkX12_warm, vkX12_warm⟩
theorem lL_40 : zLv RL 40 mX11_turn 1 := ⟨⟨Or.inl (big_in (List.mem_of_getElem? (i := 442) (by decide +kernel)) rfl), ckX11_turn, ikRX11, dkX11_turn, by decide⟩, nkX11_turn, vkX11_turn⟩
theorem lL_43 : zLv RL 43 mX12_turn 1 := ⟨⟨Or.inl (big_in (List.mem_of_getElem? (i := 1077) (by decide +kernel)) rfl), ckX12_turn, ikRX12, dkX12_turn, by decide⟩, nkX12_turn, vkX12_turn⟩
theorem lL_44 : zLv RL 44 mX11_lies 2 := ⟨⟨Or.inl (big_in (List.mem_of_getElem? (i := 447) (by decide +kernel)) rfl), ckX11_lies, ikRX11, dkX11_lies, by decide⟩, nkX11_lies, vkX11_lies⟩
theorem lL_47 : zLv RL 47 mX12_lies 2 := ⟨⟨Or.inl (big_in (List.mem_of_getElem? (i := 1081) (by decide +kernel)) rfl), ckX12_lies, ikRX12, dkX12_lies, by decide⟩, nkX12_lies, vkX12_lies⟩
theorem lL_48 : zLv RL 48 mX11_nest 1 := ⟨⟨Or.inl (big_in (List.mem_of_getElem? (i := 479) (by decide +kernel)) rfl), ckX11_nest, ikRX11, dkX11_nest, by decide⟩, nkX11_nest, vkX11_nest⟩
theorem lL_51 : zLv RL 51 mX12_nest 1 := ⟨⟨Or.inl (big_in (List.mem_of_getElem? (i := 1101) (by decide +kernel)) rfl), ckX12_nest, ikRX12, dkX12_nest, by decide⟩, nkX12_nest, vkX12_nest⟩
theorem lL_52 : zLv RL 52 mX11_height 1 := ⟨⟨Or.inl (big_in (List.mem_of_getElem? (i := 501) (by decide +kernel)) rfl), ckX11_height, ikRX11, dkX11_height, by decide⟩, nkX11_height, vkX11_height⟩
theorem lL_55 : zLv RL 55 mX12_height 1 := ⟨⟨Or.inl (big_in (List.mem_of_getElem? (i := 1121) (by decide +kernel)) rfl), ckX12_height, ikRX12, dkX12_height, by decide⟩, nkX12_height, vkX12_height⟩
theorem lL_56 : zLv RL 56 mX11_longest 2 := ⟨⟨Or.inl (big_in (List.mem_of_getElem? (i := 505) (by decide +kernel)) rfl), ckX11_longest, ikRX11, dkX11_longest, by decide⟩, nkX11_longest, vkX11_longest⟩
theorem lL_59 : zLv RL 59 mX12_longest 2 := ⟨⟨Or.inl (big_in (List.mem_of_getElem? (i := 1129) (by decide +kernel)) rfl), ckX12_longest, ikRX12, dkX12_longest, by decide⟩, nkX12_longest, vkX12_longest⟩
theorem lL_60 : zLv RL 60 mX11_fewest 0 := ⟨⟨Or.inl (big_in (List.mem_of_getElem? (i := 542) (by decide +kernel)) rfl), ckX11_fewest, ikRX11, dkX11_fewest, by decide⟩, nkX11_fewest, vkX11_fewest⟩
theorem lL_64 : zLv RL 64 mX12_fewest 0 := ⟨⟨Or.inl (big_in (List.mem_of_getElem? (i := 1140) (by decide +kernel)) rfl), ckX12_fewest, ikRX12, dkX12_fewest, by decide⟩, nkX12_fewest, vkX12_fewest⟩
theorem lL_65 : zLv RL 65 mX11_apart 1 := ⟨⟨Or.inl (big_in (List.mem_of_getElem? (i := 556) (by decide +kernel)) rfl), ckX11_apart, ikRX11, dkX11_apart, by decide⟩, nkX11_apart, vkX11_apart⟩
theorem lL_68 : zLv RL 68 mX12_apart 1 := ⟨⟨Or.inl (big_in (List.mem_of_getElem? (i := 1161) (by decide +kernel)) rfl), ckX12_apart, ikRX12, dkX12_apart, by decide⟩, nkX12_apart, vkX12_apart⟩
theorem lL_69 : zLv RL 69 mX11_carry 0 := ⟨⟨Or.inl (big_in (List.mem_of_getElem? (i := 568) (by decide +kernel)) rfl), ckX11_carry, ikRX11, dkX11_carry, by decide⟩, nkX11_carry, vkX11_carry⟩
theorem lL_72 : zLv RL 72 mX12_carry 0 := ⟨⟨Or.inl (big_in (List.mem_of_getElem? (i := 1153) (by decide +kernel)) rfl), ckX12_carry, ikRX12, dkX12_carry, by decide⟩, nkX12_carry, vkX12_carry⟩
theorem lL_73 : zLv RL 73 mX11_load 1 := ⟨⟨Or.inl (big_in (List.mem_of_getElem? (i := 576) (by decide +kernel)) rfl), ckX11_load, ikRX11, dkX11_load, by decide⟩, nkX11_load, vkX11_load⟩
theorem lL_76 : zLv RL 76 mX12_load 1 := ⟨⟨Or.inl (big_in (List.mem_of_getElem? (i := 1157) (by decide +kernel)) rfl), ckX12_load, ikRX12, dkX12_load, by decide⟩, nkX12_load, vkX12_load⟩
theorem lL_77 : zLv RL 77 mX11_whole 1 := ⟨⟨Or.inl (big_in (List.mem_of_getElem? (i := 580) (by decide +kernel)) rfl), ckX11_whole, ikRX11, dkX11_whole, by decide⟩, nkX11_whole, vkX11_whole⟩
theorem lL_80 : zLv RL 80 mX12_whole 1 := ⟨⟨Or.inl (big_in (List.mem_of_getElem? (i := 1169) (by decide +kernel)) rfl), ckX12_whole, ikRX12, dkX12_whole, by decide⟩, nkX12_whole, vkX12_whole⟩
theorem lL_81 : zLv RL 81 mX11_throwsNew 0 := ⟨⟨Or.inl (big_in (List.mem_of_getElem? (i := 588) (by decide +kernel)) rfl), ckX11_throwsNew, ikRX11, dkX11_throwsNew, by decide⟩, nkX11_throwsNew, vkX11_throwsNew⟩
theorem lL_84 : zLv RL 84 mX12_throwsNew 0 := ⟨⟨Or.inl (big_in (List.mem_of_getElem? (i := 1177) (by decide +kernel)) rfl), ckX12_throwsNew, ikRX12, dkX12_throwsNew, by decide⟩, nkX12_throwsNew, vkX12_throwsNew⟩
theorem lL_85 : zLv RL 85 mX11_helps 2 := ⟨⟨Or.inl (big_in (List.mem_of_getElem? (i := 601) (by decide +kernel)) rfl), ckX11_helps, ikRX11, dkX11_helps, by decide⟩, nkX11_helps, vkX11_helps⟩
theorem lL_88 : zLv RL 88 mX12_helps 2 := ⟨⟨Or.inl (big_in (List.mem_of_getElem? (i := 1185) (by decide +kernel)) rfl), ckX12_helps, ikRX12, dkX12_helps, by decide⟩, nkX12_helps, vkX12_helps⟩
theorem lL_89 : zLv RL 89 mX11_out 2 := ⟨⟨Or.inl (big_in (List.mem_of_getElem? (i := 622) (by decide +kernel)) rfl), ckX11_out, ikRX11, dkX11_out, by decide⟩, nkX11_out, vkX11_out⟩
theorem lL_92 : zLv RL 92 mX12_out 2 := ⟨⟨Or.inl (big_in (List.mem_of_getElem? (i := 1193) (by decide +kernel)) rfl), ckX12_out, ikRX12, dkX12_out, by decide⟩, nkX12_out, vkX12_out⟩
theorem lL_93 : zLv RL 93 mX11_judge 1 := ⟨⟨Or.inl (big_in (List.mem_of_getElem? (i := 631) (by decide +kernel)) rfl), ckX11_judge, ikRX11, dkX11_judge, by decide⟩, nkX11_judge, vkX11_judge⟩
theorem lL_96 : zLv RL 96 mX12_judge 1 := ⟨⟨Or.inl (big_in (List.mem_of_getElem? (i := 1205) (by decide +kernel)) rfl), ckX12_judge, ikRX12, dkX12_judge, by decide⟩, nkX12_judge, vkX12_judge⟩
theorem lL_97 : zLv RL 97 mX11_spans 3 := ⟨⟨Or.inl (big_in (List.mem_of_getElem? (i := 639) (by decide +kernel)) rfl), ckX11_spans, ikRX11, dkX11_spans, by decide⟩, nkX11_spans, vkX11_spans⟩
theorem lL_101 : zLv RL 101 mX12_spans 3 := ⟨⟨Or.inl (big_in (List.mem_of_getElem? (i := 1209) (by decide +kernel)) rfl), ckX12_spans, ikRX12, dkX12_spans, by decide⟩, nkX12_spans, vkX12_spans⟩
theorem lL_102 : zLv RL 102 mX11_next 2 := ⟨⟨Or.inl (big_in (List.mem_of_getElem? (i := 648) (by decide +kernel)) rfl), ckX11_next, ikRX11, dkX11_next, by decide⟩, nkX11_next, vkX11_next⟩
theorem lL_105 : zLv RL 105 mX12_next 2 := ⟨⟨Or.inl (big_in (List.mem_of_getElem? (i := 1220) (by decide +kernel)) rfl), ckX12_next, ikRX12, dkX12_next, by decide⟩, nkX12_next, vkX12_next⟩
theorem lL_106 : zLv RL 106 mX11_from 4 := ⟨⟨Or.inl (big_in (List.mem_of_getElem? (i := 656) (by decide +kernel)) rfl), ckX11_from, ikRX11, dkX11_from, by decide⟩, nkX11_from, vkX11_from⟩
theorem lL_109 : zLv RL 109 mX12_from 4 := ⟨⟨Or.inl (big_in (List.mem_of_getElem? (i := 1228) (by decide +kernel)) rfl), ckX12_from, ikRX12, dkX12_from, by decide⟩, nkX12_from, vkX12_from⟩
theorem lL_110 : zLv RL 110 mX11_breaks 3 := ⟨⟨Or.inl (big_in (List.mem_of_getElem? (i := 660) (by decide +kernel)) rfl), ckX11_breaks, ikRX11, dkX11_breaks, by decide⟩, nkX11_breaks, vkX11_breaks⟩
theorem lL_113 : zLv RL 113 mX12_breaks 3 := ⟨⟨Or.inl (big_in (List.mem_of_getElem? (i := 1232) (by decide +kernel)) rfl), ckX12_breaks, ikRX12, dkX12_breaks, by decide⟩, nkX12_breaks, vkX12_breaks⟩
theorem lL_114 : zLv RL 114 mX11_image 0 := ⟨⟨Or.inl (big_in (List.mem_of_getElem? (i := 671) (by decide +kernel)) rfl), ckX11_image, ikRX11, dkX11_image, by decide⟩, nkX11_image, vkX11_image⟩
theorem lL_117 : zLv RL 117 mX12_image 0 := ⟨⟨Or.inl (big_in (List.mem_of_getElem? (i := 1244) (by decide +kernel)) rfl), ckX12_image, ikRX12, dkX12_image, by decide⟩, nkX12_image, vkX12_image⟩
theorem lL_118 : zLv RL 118 mX11_restore 0 := ⟨⟨Or.inl (big_in (List.mem_of_getElem? (i := 675) (by decide +kernel)) rfl), ckX11_restore, ikRX11, dkX11_restore, by decide⟩, nkX11_restore, vkX11_restore⟩
theorem lL_121 : zLv RL 121 mX12_restore 0 := ⟨⟨Or.inl (big_in (List.mem_of_getElem? (i := 1248) (by decide +kernel)) rfl), ckX12_restore, ikRX12, dkX12_restore, by decide⟩, nkX12_restore, vkX12_restore⟩
theorem lL_122 : zLv RL 122 mX11_count 1 := ⟨⟨Or.inl (big_in (List.mem_of_getElem? (i := 679) (by decide +kernel)) rfl), ckX11_count, ikRX11, dkX11_count, by decide⟩, nkX11_count, vkX11_count⟩
theorem lL_125 : zLv RL 125 mX12_count 1 := ⟨⟨Or.inl (big_in (List.mem_of_getElem? (i := 1252) (by decide +kernel)) rfl), ckX12_count, ikRX12, dkX12_count, by decide⟩, nkX12_count, vkX12_count⟩
theorem lL_126 : zLv RL 126 mX11_keep 4 := ⟨⟨Or.inl (big_in (List.mem_of_getElem? (i := 691) (by decide +kernel)) rfl), ckX11_keep, ikRX11, dkX11_keep, by decide⟩, nkX11_keep, vkX11_keep⟩
theorem lL_129 : zLv RL 129 mX12_keep 4 := ⟨⟨Or.inl (big_in (List.mem_of_getElem? (i := 1256) (by decide +kernel)) rfl), ckX12_keep, ikRX12, dkX12_keep, by decide⟩, nkX12_keep, vkX12_keep⟩
theorem lL_130 : zLv RL 130 mX11_row 3 := ⟨⟨Or.inl (big_in (List.mem_of_getElem? (i := 703) (by decide +kernel)) rfl), ckX11_row, ikRX11, dkX11_row, by decide⟩, nkX11_row, vkX11_row⟩
theorem lL_133 : zLv RL 133 mX12_row 3 := ⟨⟨Or.inl (big_in (List.mem_of_getElem? (i := 1260) (by decide +kernel)) rfl), ckX12_row, ikRX12, dkX12_row, by decide⟩, nkX12_row, vkX12_row⟩
theorem lL_134 : zLv RL 134 mX11_put 3 := ⟨⟨Or.inl (big_in (List.mem_of_getElem? (i := 711) (by decide +kernel)) rfl), ckX11_put, ikRX11, dkX11_put, by decide⟩, nkX11_put, vkX11_put⟩
theorem lL_137 : zLv RL 137 mX12_put 3 := ⟨⟨Or.inl (big_in (List.mem_of_getElem? (i := 1265) (by decide +kernel)) rfl), ckX12_put, ikRX12, dkX12_put, by decide⟩, nkX12_put, vkX12_put⟩
theorem lL_143 : zLv RL 143 mX12_element 2 := ⟨⟨Or.inl (big_in (List.mem_of_getElem? (i := 1269) (by decide +kernel)) rfl), ckX12_element, ikRX12, dkX12_element, by decide⟩, nkX12_element, vkX12_element⟩
theorem lL_144 : zLv RL 144 mX12_thrown 0 := ⟨⟨Or.inl (big_in (List.mem_of_getElem? (i := 971) (by decide +kernel)) rfl), ckX12_thrown, ikRX12, dkX12_thrown, by decide⟩, nkX12_thrown, vkX12_thrown⟩
theorem lL_147 : zLv RL 147 mX11_copy 5 := ⟨⟨Or.inl (big_in (List.mem_of_getElem? (i := 720) (by decide +kernel)) rfl), ckX11_copy, ikRX11, dkX11_copy, by decide⟩, nkX11_copy, vkX11_copy⟩
theorem lL_151 : zLv RL 151 mX12_copy 5 := ⟨⟨Or.inl (big_in (List.mem_of_getElem? (i := 1273) (by decide +kernel)) rfl), ckX12_copy, ikRX12, dkX12_copy, by decide⟩, nkX12_copy, vkX12_copy⟩
theorem lL_152 : zLv RL 152 mX11_price 1 := ⟨⟨Or.inl (big_in (List.mem_of_getElem? (i := 729) (by decide +kernel)) rfl), ckX11_price, ikRX11, dkX11_price, by decide⟩, nkX11_price, vkX11_price⟩
theorem lL_155 : zLv RL 155 mX12_price 1 := ⟨⟨Or.inl (big_in (List.mem_of_getElem? (i := 1277) (by decide +kernel)) rfl), ckX12_price, ikRX12, dkX12_price, by decide⟩, nkX12_price, vkX12_price⟩
theorem lL_159 : zLv RL 159 mX12_toss 1 := ⟨⟨Or.inl (big_in (List.mem_of_getElem? (i := 1284) (by decide +kernel)) rfl), ckX12_toss, ikRX12, dkX12_toss, by decide⟩, nkX12_toss, vkX12_toss⟩
theorem lX12_55 : zLs RX12 55 mX12_isIn 3 := ⟨⟨Or.inl (big_in (List.mem_of_getElem? (i := 987) (by decide +kernel)) rfl), ckX12_isIn, ikRX12, dkX12_isIn, by decide⟩, skX12_isIn⟩
theorem lX12_59 : zLv RX12 59 mX12_everything 0 := ⟨⟨Or.inl (big_in (List.mem_of_getElem? (i := 1109) (by decide +kernel)) rfl), ckX12_everything, ikRX12, dkX12_everything, by decide⟩, nkX12_everything, vkX12_everything⟩
theorem lX12_63 : zLv RX12 63 mX12_get 2 := ⟨⟨Or.inl (big_in (List.mem_of_getElem? (i := 1027) (by decide +kernel)) rfl), ckX12_get, ikRX12, dkX12_get, by decide⟩, nkX12_get, vkX12_get⟩
theorem lX12_67 : zLv RX12 67 mX12_turned 1 := ⟨⟨Or.inl (big_in (List.mem_of_getElem? (i := 1043) (by decide +kernel)) rfl), ckX12_turned, ikRX12, dkX12_turned, by decide⟩, nkX12_turned, vkX12_turned⟩
theorem lX12_71 : zLv RX12 71 mX12_outsideBy 2 := ⟨⟨Or.inl (big_in (List.mem_of_getElem? (i := 1039) (by decide +kernel)) rfl), ckX12_outsideBy, ikRX12, dkX12_outsideBy, by decide⟩, nkX12_outsideBy, vkX12_outsideBy⟩
theorem lX12_74 : zLv RX12 74 mX12_insideBy 3 := ⟨⟨Or.inl (big_in (List.mem_of_getElem? (i := 1051) (by decide +kernel)) rfl), ckX12_insideBy, ikRX12, dkX12_insideBy, by decide⟩, nkX12_insideBy, vkX12_insideBy⟩
theorem lX12_78 : zLv RX12 78 mX12_isOval 1 := ⟨⟨Or.inl (big_in (List.mem_of_getElem? (i := 1097) (by decide +kernel)) rfl), ckX12_isOval, ikRX12, dkX12_isOval, by decide⟩, nkX12_isOval, vkX12_isOval⟩
theorem lX12_82 : zLv RX12 82 mX12_outside 1 := ⟨⟨Or.inl (big_in (List.mem_of_getElem? (i := 1035) (by decide +kernel)) rfl), ckX12_outside, ikRX12, dkX12_outside, by decide⟩, nkX12_outside, vkX12_outside⟩
theorem lX12_85 : zLv RX12 85 mX12_fitsBut 2 := ⟨⟨Or.inl (big_in (List.mem_of_getElem? (i := 1093) (by decide +kernel)) rfl), ckX12_fitsBut, ikRX12, dkX12_fitsBut, by decide⟩, nkX12_fitsBut, vkX12_fitsBut⟩
theorem lX12_89 : zLv RX12 89 mX12_liesAt 3 := ⟨⟨Or.inl (big_in (List.mem_of_getElem? (i := 1089) (by decide +kernel)) rfl), ckX12_liesAt, ikRX12, dkX12_liesAt, by decide⟩, nkX12_liesAt, vkX12_liesAt⟩
theorem lX12_102 : zLv RX12 102 mX12_here 0 := ⟨⟨Or.inl (big_in (List.mem_of_getElem? (i := 994) (by decide +kernel)) rfl), ckX12_here, ikRX12, dkX12_here, by decide⟩, nkX12_here, vkX12_here⟩
theorem lX12_109 : zLv RX12 109 mX12_isDigit 0 := ⟨⟨Or.inl (big_in (List.mem_of_getElem? (i := 1002) (by decide +kernel)) rfl), ckX12_isDigit, ikRX12, dkX12_isDigit, by decide⟩, nkX12_isDigit, vkX12_isDigit⟩
theorem lX12_116 : zLv RX12 116 mX12_readsNumber 1 := ⟨⟨Or.inl (big_in (List.mem_of_getElem? (i := 998) (by decide +kernel)) rfl), ckX12_readsNumber, ikRX12, dkX12_readsNumber, by decide⟩, nkX12_readsNumber, vkX12_readsNumber⟩
theorem lX12_119 : zLv RX12 119 mX12_takes 1 := ⟨⟨Or.inl (big_in (List.mem_of_getElem? (i := 1008) (by decide +kernel)) rfl), ckX12_takes, ikRX12, dkX12_takes, by decide⟩, nkX12_takes, vkX12_takes⟩
theorem lX12_122 : zLv RX12 122 mX12_puts 3 := ⟨⟨Or.inl (big_in (List.mem_of_getElem? (i := 1019) (by decide +kernel)) rfl), ckX12_puts, ikRX12, dkX12_puts, by decide⟩, nkX12_puts, vkX12_puts⟩
theorem lX12_126 : zLv RX12 126 mX12_isBowl 1 := ⟨⟨Or.inl (big_in (List.mem_of_getElem? (i := 1023) (by decide +kernel)) rfl), ckX12_isBowl, ikRX12, dkX12_isBowl, by decide⟩, nkX12_isBowl, vkX12_isBowl⟩
theorem lX12_129 : zLs RX12 129 mX12_isShelf 1 := ⟨⟨Or.inl (big_in (List.mem_of_getElem? (i := 983) (by decide +kernel)) rfl), ckX12_isShelf, ikRX12, dkX12_isShelf, by decide⟩, skX12_isShelf⟩
theorem lX12_132 : zLv RX12 132 mX12_wrongRow 2 := ⟨⟨Or.inl (big_in (List.mem_of_getElem? (i := 979) (by decide +kernel)) rfl), ckX12_wrongRow, ikRX12, dkX12_wrongRow, by decide⟩, nkX12_wrongRow, vkX12_wrongRow⟩
theorem lX12_135 : zLv RX12 135 mX12_readsStatement 0 := ⟨⟨Or.inl (big_in (List.mem_of_getElem? (i := 990) (by decide +kernel)) rfl), ckX12_readsStatement, ikRX12, dkX12_readsStatement, by decide⟩, nkX12_readsStatement, vkX12_readsStatement⟩
theorem lX12_138 : zLs RX12 138 mX12_lays 2 := ⟨⟨Or.inl (big_in (List.mem_of_getElem? (i := 1012) (by decide +kernel)) rfl), ckX12_lays, ikRX12, dkX12_lays, by decide⟩, skX12_lays⟩
theorem lX12_142 : zLv RX12 142 mX12_comesTold 1 := ⟨⟨Or.inl (big_in (List.mem_of_getElem? (i := 1015) (by decide +kernel)) rfl), ckX12_comesTold, ikRX12, dkX12_comesTold, by decide⟩, nkX12_comesTold, vkX12_comesTold⟩
theorem lX12_145 : zLv RX12 145 mX12_inside 1 := ⟨⟨Or.inl (big_in (List.mem_of_getElem? (i := 1047) (by decide +kernel)) rfl), ckX12_inside, ikRX12, dkX12_inside, by decide⟩, nkX12_inside, vkX12_inside⟩
theorem lX12_148 : zLv RX12 148 mX12_rise 1 := ⟨⟨Or.inl (big_in (List.mem_of_getElem? (i := 1055) (by decide +kernel)) rfl), ckX12_rise, ikRX12, dkX12_rise, by decide⟩, nkX12_rise, vkX12_rise⟩
theorem lX12_153 : zLv RX12 153 mX12_wrongKept 1 := ⟨⟨Or.inl (big_in (List.mem_of_getElem? (i := 1064) (by decide +kernel)) rfl), ckX12_wrongKept, ikRX12, dkX12_wrongKept, by decide⟩, nkX12_wrongKept, vkX12_wrongKept⟩
theorem lX12_156 : zLv RX12 156 mX12_adds 5 := ⟨⟨Or.inl (big_in (List.mem_of_getElem? (i := 1068) (by decide +kernel)) rfl), ckX12_adds, ikRX12, dkX12_adds, by decide⟩, nkX12_adds, vkX12_adds⟩
theorem lX12_162 : zLv RX12 162 mX12_liesNow 2 := ⟨⟨Or.inl (big_in (List.mem_of_getElem? (i := 1085) (by decide +kernel)) rfl), ckX12_liesNow, ikRX12, dkX12_liesNow, by decide⟩, nkX12_liesNow, vkX12_liesNow⟩
theorem lX12_165 : zLv RX12 165 mX12_outermost 1 := ⟨⟨Or.inl (big_in (List.mem_of_getElem? (i := 1117) (by decide +kernel)) rfl), ckX12_outermost, ikRX12, dkX12_outermost, by decide⟩, nkX12_outermost, vkX12_outermost⟩
theorem lX12_168 : zLv RX12 168 mX12_areBowls 1 := ⟨⟨Or.inl (big_in (List.mem_of_getElem? (i := 1105) (by decide +kernel)) rfl), ckX12_areBowls, ikRX12, dkX12_areBowls, by decide⟩, nkX12_areBowls, vkX12_areBowls⟩
theorem lX12_171 : zLv RX12 171 mX12_isNest 1 := ⟨⟨Or.inl (big_in (List.mem_of_getElem? (i := 1113) (by decide +kernel)) rfl), ckX12_isNest, ikRX12, dkX12_isNest, by decide⟩, nkX12_isNest, vkX12_isNest⟩
theorem lX12_174 : zLv RX12 174 mX12_heightOf 1 := ⟨⟨Or.inl (big_in (List.mem_of_getElem? (i := 1125) (by decide +kernel)) rfl), ckX12_heightOf, ikRX12, dkX12_heightOf, by decide⟩, nkX12_heightOf, vkX12_heightOf⟩
theorem lX12_177 : zLs RX12 177 mX12_bits 1 := ⟨⟨Or.inl (big_in (List.mem_of_getElem? (i := 1137) (by decide +kernel)) rfl), ckX12_bits, ikRX12, dkX12_bits, by decide⟩, skX12_bits⟩
theorem lX12_180 : zLv RX12 180 mX12_longestOf 1 := ⟨⟨Or.inl (big_in (List.mem_of_getElem? (i := 1133) (by decide +kernel)) rfl), ckX12_longestOf, ikRX12, dkX12_longestOf, by decide⟩, nkX12_longestOf, vkX12_longestOf⟩
theorem lX12_184 : zLv RX12 184 mX12_counted 3 := ⟨⟨Or.inl (big_in (List.mem_of_getElem? (i := 1148) (by decide +kernel)) rfl), ckX12_counted, ikRX12, dkX12_counted, by decide⟩, nkX12_counted, vkX12_counted⟩
theorem lX12_187 : zLv RX12 187 mX12_leastOf 2 := ⟨⟨Or.inl (big_in (List.mem_of_getElem? (i := 1144) (by decide +kernel)) rfl), ckX12_leastOf, ikRX12, dkX12_leastOf, by decide⟩, nkX12_leastOf, vkX12_leastOf⟩
theorem lX12_190 : zLv RX12 190 mX12_areApart 1 := ⟨⟨Or.inl (big_in (List.mem_of_getElem? (i := 1165) (by decide +kernel)) rfl), ckX12_areApart, ikRX12, dkX12_areApart, by decide⟩, nkX12_areApart, vkX12_areApart⟩
theorem lX12_193 : zLv RX12 193 mX12_wholeOf 2 := ⟨⟨Or.inl (big_in (List.mem_of_getElem? (i := 1173) (by decide +kernel)) rfl), ckX12_wholeOf, ikRX12, dkX12_wholeOf, by decide⟩, nkX12_wholeOf, vkX12_wholeOf⟩
theorem lX12_196 : zLv RX12 196 mX12_canBeBetween 2 := ⟨⟨Or.inl (big_in (List.mem_of_getElem? (i := 1181) (by decide +kernel)) rfl), ckX12_canBeBetween, ikRX12, dkX12_canBeBetween, by decide⟩, nkX12_canBeBetween, vkX12_canBeBetween⟩
theorem lX12_199 : zLv RX12 199 mX12_longestRow 1 := ⟨⟨Or.inl (big_in (List.mem_of_getElem? (i := 1189) (by decide +kernel)) rfl), ckX12_longestRow, ikRX12, dkX12_longestRow, by decide⟩, nkX12_longestRow, vkX12_longestRow⟩
theorem lX12_202 : zLv RX12 202 mX12_wrongAt 1 := ⟨⟨Or.inl (big_in (List.mem_of_getElem? (i := 1201) (by decide +kernel)) rfl), ckX12_wrongAt, ikRX12, dkX12_wrongAt, by decide⟩, nkX12_wrongAt, vkX12_wrongAt⟩
theorem lX12_205 : zLv RX12 205 mX12_wrongOut 1 := ⟨⟨Or.inl (big_in (List.mem_of_getElem? (i := 1197) (by decide +kernel)) rfl), ckX12_wrongOut, ikRX12, dkX12_wrongOut, by decide⟩, nkX12_wrongOut, vkX12_wrongOut⟩
theorem lX12_208 : zLs RX12 208 mX12_narrow 2 := ⟨⟨Or.inl (big_in (List.mem_of_getElem? (i := 1217) (by decide +kernel)) rfl), ckX12_narrow, ikRX12, dkX12_narrow, by decide⟩, skX12_narrow⟩
theorem lX12_211 : zLv RX12 211 mX12_spanOf 4 := ⟨⟨Or.inl (big_in (List.mem_of_getElem? (i := 1213) (by decide +kernel)) rfl), ckX12_spanOf, ikRX12, dkX12_spanOf, by decide⟩, nkX12_spanOf, vkX12_spanOf⟩
theorem lX12_215 : zLv RX12 215 mX12_perhaps 2 := ⟨⟨Or.inl (big_in (List.mem_of_getElem? (i := 1224) (by decide +kernel)) rfl), ckX12_perhaps, ikRX12, dkX12_perhaps, by decide⟩, nkX12_perhaps, vkX12_perhaps⟩
theorem lX12_226 : zLv RX12 226 mX12_drawn 1 := ⟨⟨Or.inl (big_in (List.mem_of_getElem? (i := 1237) (by decide +kernel)) rfl), ckX12_drawn, ikRX12, dkX12_drawn, by decide⟩, nkX12_drawn, vkX12_drawn⟩
theorem lX12_235 : zLs RX12 235 mX12_priceBy 2 := ⟨⟨Or.inl (big_in (List.mem_of_getElem? (i := 1281) (by decide +kernel)) rfl), ckX12_priceBy, ikRX12, dkX12_priceBy, by decide⟩, skX12_priceBy⟩
theorem lX11_288_Oval : zLu RX11 288 yX0_cost RX8 mX8_cost 1 := ⟨big_in (List.mem_of_getElem? (i := 733) (by decide +kernel)) rfl, big_in (List.mem_of_getElem? (i := 736) (by decide +kernel)) rfl, nkX0_cost, ⟨_, _, _, ckX0_cost⟩, big_in (List.mem_of_getElem? (i := 757) (by decide +kernel)) rfl, nkX8_cost, ikRX8, ckX8_cost, ⟨dkX0_cost.1, dkX0_cost.2.1⟩, dkX0_cost.2.2, by decide⟩
theorem lX11_288_Lid : zLu RX11 288 yX0_cost RX6 mX6_cost 1 := ⟨big_in (List.mem_of_getElem? (i := 733) (by decide +kernel)) rfl, big_in (List.mem_of_getElem? (i := 736) (by decide +kernel)) rfl, nkX0_cost, ⟨_, _, _, ckX0_cost⟩, big_in (List.mem_of_getElem? (i := 756) (by decide +kernel)) rfl, nkX6_cost, ikRX6, ckX6_cost, ⟨dkX0_cost.1, dkX0_cost.2.1⟩, dkX0_cost.2.2, by decide⟩
theorem lX11_288_Foot : zLu RX11 288 yX0_cost RX3 mX3_cost 1 := ⟨big_in (List.mem_of_getElem? (i := 733) (by decide +kernel)) rfl, big_in (List.mem_of_getElem? (i := 736) (by decide +kernel)) rfl, nkX0_cost, ⟨_, _, _, ckX0_cost⟩, big_in (List.mem_of_getElem? (i := 751) (by decide +kernel)) rfl, nkX3_cost, ikRX3, ckX3_cost, ⟨dkX0_cost.1, dkX0_cost.2.1⟩, dkX0_cost.2.2, by decide⟩
theorem lX11_288_Second : zLu RX11 288 yX0_cost RX9 mX9_cost 1 := ⟨big_in (List.mem_of_getElem? (i := 733) (by decide +kernel)) rfl, big_in (List.mem_of_getElem? (i := 736) (by decide +kernel)) rfl, nkX0_cost, ⟨_, _, _, ckX0_cost⟩, big_in (List.mem_of_getElem? (i := 761) (by decide +kernel)) rfl, nkX9_cost, ikRX9, ckX9_cost, ⟨dkX0_cost.1, dkX0_cost.2.1⟩, dkX0_cost.2.2, by decide⟩
theorem lX11_288_Glued : zLu RX11 288 yX0_cost RX4 mX4_cost 1 := ⟨big_in (List.mem_of_getElem? (i := 733) (by decide +kernel)) rfl, big_in (List.mem_of_getElem? (i := 736) (by decide +kernel)) rfl, nkX0_cost, ⟨_, _, _, ckX0_cost⟩, big_in (List.mem_of_getElem? (i := 752) (by decide +kernel)) rfl, nkX4_cost, ikRX4, ckX4_cost, ⟨dkX0_cost.1, dkX0_cost.2.1⟩, dkX0_cost.2.2, by decide⟩
theorem lX11_288_Deep : zLu RX11 288 yX0_cost RX1 mX1_cost 1 := ⟨big_in (List.mem_of_getElem? (i := 733) (by decide +kernel)) rfl, big_in (List.mem_of_getElem? (i := 736) (by decide +kernel)) rfl, nkX0_cost, ⟨_, _, _, ckX0_cost⟩, big_in (List.mem_of_getElem? (i := 737) (by decide +kernel)) rfl, nkX1_cost, ikRX1, ckX1_cost, ⟨dkX0_cost.1, dkX0_cost.2.1⟩, dkX0_cost.2.2, by decide⟩
theorem lX11_288_Flat : zLu RX11 288 yX0_cost RX2 mX2_cost 1 := ⟨big_in (List.mem_of_getElem? (i := 733) (by decide +kernel)) rfl, big_in (List.mem_of_getElem? (i := 736) (by decide +kernel)) rfl, nkX0_cost, ⟨_, _, _, ckX0_cost⟩, big_in (List.mem_of_getElem? (i := 744) (by decide +kernel)) rfl, nkX2_cost, ikRX2, ckX2_cost, ⟨dkX0_cost.1, dkX0_cost.2.1⟩, dkX0_cost.2.2, by decide⟩
theorem lX11_288_Bowl : zLu RX11 288 yX0_cost RX0 mX0_cost 1 := ⟨big_in (List.mem_of_getElem? (i := 733) (by decide +kernel)) rfl, big_in (List.mem_of_getElem? (i := 736) (by decide +kernel)) rfl, nkX0_cost, ⟨_, _, _, ckX0_cost⟩, big_in (List.mem_of_getElem? (i := 735) (by decide +kernel)) rfl, nkX0_cost, ikRX0, ckX0_cost, ⟨dkX0_cost.1, dkX0_cost.2.1⟩, dkX0_cost.2.2, by decide⟩
theorem lX11_291_Oval : zLu RX11 291 yX0_fail RX8 mX0_fail 1 := ⟨big_in (List.mem_of_getElem? (i := 773) (by decide +kernel)) rfl, big_in (List.mem_of_getElem? (i := 776) (by decide +kernel)) rfl, nkX0_fail, ⟨_, _, _, ckX0_fail⟩, big_in (List.mem_of_getElem? (i := 870) (by decide +kernel)) rfl, nkX0_fail, ikRX0, ckX0_fail, ⟨dkX0_fail.1, dkX0_fail.2.1⟩, dkX0_fail.2.2, by decide⟩
theorem lX11_291_Lid : zLu RX11 291 yX0_fail RX6 mX0_fail 1 := ⟨big_in (List.mem_of_getElem? (i := 773) (by decide +kernel)) rfl, big_in (List.mem_of_getElem? (i := 776) (by decide +kernel)) rfl, nkX0_fail, ⟨_, _, _, ckX0_fail⟩, big_in (List.mem_of_getElem? (i := 869) (by decide +kernel)) rfl, nkX0_fail, ikRX0, ckX0_fail, ⟨dkX0_fail.1, dkX0_fail.2.1⟩, dkX0_fail.2.2, by decide⟩
theorem lX11_291_Foot : zLu RX11 291 yX0_fail RX3 mX0_fail 1 := ⟨big_in (List.mem_of_getElem? (i := 773) (by decide +kernel)) rfl, big_in (List.mem_of_getElem? (i := 776) (by decide +kernel)) rfl, nkX0_fail, ⟨_, _, _, ckX0_fail⟩, big_in (List.mem_of_getElem? (i := 849) (by decide +kernel)) rfl, nkX0_fail, ikRX0, ckX0_fail, ⟨dkX0_fail.1, dkX0_fail.2.1⟩, dkX0_fail.2.2, by decide⟩
theorem lX11_291_Second : zLu RX11 291 yX0_fail RX9 mX9_fail 1 := ⟨big_in (List.mem_of_getElem? (i := 773) (by decide +kernel)) rfl, big_in (List.mem_of_getElem? (i := 776) (by decide +kernel)) rfl, nkX0_fail, ⟨_, _, _, ckX0_fail⟩, big_in (List.mem_of_getElem? (i := 871) (by decide +kernel)) rfl, nkX9_fail, ikRX9, ckX9_fail, ⟨dkX0_fail.1, dkX0_fail.2.1⟩, dkX0_fail.2.2, by decide⟩
theorem lX11_291_Glued : zLu RX11 291 yX0_fail RX4 mX4_fail 1 := ⟨big_in (List.mem_of_getElem? (i := 773) (by decide +kernel)) rfl, big_in (List.mem_of_getElem? (i := 776) (by decide +kernel)) rfl, nkX0_fail, ⟨_, _, _, ckX0_fail⟩, big_in (List.mem_of_getElem? (i := 850) (by decide +kernel)) rfl, nkX4_fail, ikRX4, ckX4_fail, ⟨dkX0_fail.1, dkX0_fail.2.1⟩, dkX0_fail.2.2, by decide⟩
theorem lX11_291_Deep : zLu RX11 291 yX0_fail RX1 mX0_fail 1 := ⟨big_in (List.mem_of_getElem? (i := 773) (by decide +kernel)) rfl, big_in (List.mem_of_getElem? (i := 776) (by decide +kernel)) rfl, nkX0_fail, ⟨_, _, _, ckX0_fail⟩, big_in (List.mem_of_getElem? (i := 777) (by decide +kernel)) rfl, nkX0_fail, ikRX0, ckX0_fail, ⟨dkX0_fail.1, dkX0_fail.2.1⟩, dkX0_fail.2.2, by decide⟩
theorem lX11_291_Flat : zLu RX11 291 yX0_fail RX2 mX2_fail 1 := ⟨big_in (List.mem_of_getElem? (i := 773) (by decide +kernel)) rfl, big_in (List.mem_of_getElem? (i := 776) (by decide +kernel)) rfl, nkX0_fail, ⟨_, _, _, ckX0_fail⟩, big_in (List.mem_of_getElem? (i := 778) (by decide +kernel)) rfl, nkX2_fail, ikRX2, ckX2_fail, ⟨dkX0_fail.1, dkX0_fail.2.1⟩, dkX0_fail.2.2, by decide⟩
theorem lX11_291_Bowl : zLu RX11 291 yX0_fail RX0 mX0_fail 1 := ⟨big_in (List.mem_of_getElem? (i := 773) (by decide +kernel)) rfl, big_in (List.mem_of_getElem? (i := 776) (by decide +kernel)) rfl, nkX0_fail, ⟨_, _, _, ckX0_fail⟩, big_in (List.mem_of_getElem? (i := 775) (by decide +kernel)) rfl, nkX0_fail, ikRX0, ckX0_fail, ⟨dkX0_fail.1, dkX0_fail.2.1⟩, dkX0_fail.2.2, by decide⟩
theorem lX1_7 : zLp RX1 7 ⟨RX3, "rise", "(I)I"⟩ mX3_rise 1 := ⟨big_in (List.mem_of_getElem? (i := 406) (by decide +kernel)) rfl, big_in (List.mem_of_getElem? (i := 1291) (by decide +kernel)) rfl, big_in (List.mem_of_getElem? (i := 80) (by decide +kernel)) rfl, Or.inl rfl, rfl, rfl, nkX3_rise, ikRX3, ckX3_rise, by decide, dkX3_rise.2.2, by decide⟩
theorem lX1_11 : zLp RX1 11 ⟨RX3, "cost", "(I)I"⟩ mX3_cost 1 := ⟨big_in (List.mem_of_getElem? (i := 740) (by decide +kernel)) rfl, big_in (List.mem_of_getElem? (i := 1293) (by decide +kernel)) rfl, big_in (List.mem_of_getElem? (i := 80) (by decide +kernel)) rfl, Or.inl rfl, rfl, rfl, nkX3_cost, ikRX3, ckX3_cost, by decide, dkX3_cost.2.2, by decide⟩
theorem lX2_7 : zLp RX2 7 ⟨RX6, "rise", "(I)I"⟩ mX6_rise 1 := ⟨big_in (List.mem_of_getElem? (i := 413) (by decide +kernel)) rfl, big_in (List.mem_of_getElem? (i := 1292) (by decide +kernel)) rfl, big_in (List.mem_of_getElem? (i := 87) (by decide +kernel)) rfl, Or.inl rfl, rfl, rfl, nkX6_rise, ikRX6, ckX6_rise, by decide, dkX6_rise.2.2, by decide⟩
theorem lX2_11 : zLp RX2 11 ⟨RX6, "cost", "(I)I"⟩ mX6_cost 1 := ⟨big_in (List.mem_of_getElem? (i := 747) (by decide +kernel)) rfl, big_in (List.mem_of_getElem? (i := 1294) (by decide +kernel)) rfl, big_in (List.mem_of_getElem? (i := 87) (by decide +kernel)) rfl, Or.inl rfl, rfl, rfl, nkX6_cost, ikRX6, ckX6_cost, by decide, dkX6_cost.2.2, by decide⟩
theorem lX3_7 : zLp RX3 7 ⟨RX0, "inside", "(IIII)I"⟩ mX0_inside 4 := ⟨big_in (List.mem_of_getElem? (i := 379) (by decide +kernel)) rfl, big_in (List.mem_of_getElem? (i := 375) (by decide +kernel)) rfl, big_in (List.mem_of_getElem? (i := 59) (by decide +kernel)) rfl, Or.inl rfl, rfl, rfl, nkX0_inside, ikRX0, ckX0_inside, by decide, dkX0_inside.2.2, by decide⟩
theorem lX3_11 : zLp RX3 11 ⟨RX0, "rise", "(I)I"⟩ mX0_rise 1 := ⟨big_in (List.mem_of_getElem? (i := 409) (by decide +kernel)) rfl, big_in (List.mem_of_getElem? (i := 402) (by decide +kernel)) rfl, big_in (List.mem_of_getElem? (i := 59) (by decide +kernel)) rfl, Or.inl rfl, rfl, rfl, nkX0_rise, ikRX0, ckX0_rise, by decide, dkX0_rise.2.2, by decide⟩
theorem lX3_15 : zLp RX3 15 ⟨RX0, "cost", "(I)I"⟩ mX0_cost 1 := ⟨big_in (List.mem_of_getElem? (i := 743) (by decide +kernel)) rfl, big_in (List.mem_of_getElem? (i := 736) (by decide +kernel)) rfl, big_in (List.mem_of_getElem? (i := 59) (by decide +kernel)) rfl, Or.inl rfl, rfl, rfl, nkX0_cost, ikRX0, ckX0_cost, by decide, dkX0_cost.2.2, by decide⟩
theorem lX4_7 : zLp RX4 7 ⟨RX3, "outside", "(III)I"⟩ mX0_outside 3 := ⟨big_in (List.mem_of_getElem? (i := 355) (by decide +kernel)) rfl, big_in (List.mem_of_getElem? (i := 356) (by decide +kernel)) rfl, big_in (List.mem_of_getElem? (i := 73) (by decide +kernel)) rfl, Or.inr (big_in (List.mem_of_getElem? (i := 59) (by decide +kernel)) rfl), rfl, rfl, nkX0_outside, ikRX0, ckX0_outside, by decide, dkX0_outside.2.2, by decide⟩
theorem lX4_11 : zLp RX4 11 ⟨RX3, "inside", "(IIII)I"⟩ mX3_inside 4 := ⟨big_in (List.mem_of_getElem? (i := 387) (by decide +kernel)) rfl, big_in (List.mem_of_getElem? (i := 1290) (by decide +kernel)) rfl, big_in (List.mem_of_getElem? (i := 73) (by decide +kernel)) rfl, Or.inl rfl, rfl, rfl, nkX3_inside, ikRX3, ckX3_inside, by decide, dkX3_inside.2.2, by decide⟩
theorem lX4_15 : zLp RX4 15 ⟨RX3, "cost", "(I)I"⟩ mX3_cost 1 := ⟨big_in (List.mem_of_getElem? (i := 755) (by decide +kernel)) rfl, big_in (List.mem_of_getElem? (i := 1293) (by decide +kernel)) rfl, big_in (List.mem_of_getElem? (i := 73) (by decide +kernel)) rfl, Or.inl rfl, rfl, rfl, nkX3_cost, ikRX3, ckX3_cost, by decide, dkX3_cost.2.2, by decide⟩
theorem lX5_85_Oval : zLu RX5 85 yX0_outside RX8 mX8_outside 3 := ⟨big_in (List.mem_of_getElem? (i := 339) (by decide +kernel)) rfl, big_in (List.mem_of_getElem? (i := 342) (by decide +kernel)) rfl, nkX0_outside, ⟨_, _, _, ckX0_outside⟩, big_in (List.mem_of_getElem? (i := 359) (by decide +kernel)) rfl, nkX8_outside, ikRX8, ckX8_outside, ⟨dkX0_outside.1, dkX0_outside.2.1⟩, dkX0_outside.2.2, by decide⟩
theorem lX5_85_Lid : zLu RX5 85 yX0_outside RX6 mX6_outside 3 := ⟨big_in (List.mem_of_getElem? (i := 339) (by decide +kernel)) rfl, big_in (List.mem_of_getElem? (i := 342) (by decide +kernel)) rfl, nkX0_outside, ⟨_, _, _, ckX0_outside⟩, big_in (List.mem_of_getElem? (i := 358) (by decide +kernel)) rfl, nkX6_outside, ikRX6, ckX6_outside, ⟨dkX0_outside.1, dkX0_outside.2.1⟩, dkX0_outside.2.2, by decide⟩
theorem lX5_85_Foot : zLu RX5 85 yX0_outside RX3 mX0_outside 3 := ⟨big_in (List.mem_of_getElem? (i := 339) (by decide +kernel)) rfl, big_in (List.mem_of_getElem? (i := 342) (by decide +kernel)) rfl, nkX0_outside, ⟨_, _, _, ckX0_outside⟩, big_in (List.mem_of_getElem? (i := 351) (by decide +kernel)) rfl, nkX0_outside, ikRX0, ckX0_outside, ⟨dkX0_outside.1, dkX0_outside.2.1⟩, dkX0_outside.2.2, by decide⟩
theorem lX5_85_Second : zLu RX5 85 yX0_outside RX9 mX9_outside 3 := ⟨big_in (List.mem_of_getElem? (i := 339) (by decide +kernel)) rfl, big_in (List.mem_of_getElem? (i := 342) (by decide +kernel)) rfl, nkX0_outside, ⟨_, _, _, ckX0_outside⟩, big_in (List.mem_of_getElem? (i := 363) (by decide +kernel)) rfl, nkX9_outside, ikRX9, ckX9_outside, ⟨dkX0_outside.1, dkX0_outside.2.1⟩, dkX0_outside.2.2, by decide⟩
theorem lX5_85_Glued : zLu RX5 85 yX0_outside RX4 mX4_outside 3 := ⟨big_in (List.mem_of_getElem? (i := 339) (by decide +kernel)) rfl, big_in (List.mem_of_getElem? (i := 342) (by decide +kernel)) rfl, nkX0_outside, ⟨_, _, _, ckX0_outside⟩, big_in (List.mem_of_getElem? (i := 352) (by decide +kernel)) rfl, nkX4_outside, ikRX4, ckX4_outside, ⟨dkX0_outside.1, dkX0_outside.2.1⟩, dkX0_outside.2.2, by decide⟩
theorem lX5_85_Deep : zLu RX5 85 yX0_outside RX1 mX0_outside 3 := ⟨big_in (List.mem_of_getElem? (i := 339) (by decide +kernel)) rfl, big_in (List.mem_of_getElem? (i := 342) (by decide +kernel)) rfl, nkX0_outside, ⟨_, _, _, ckX0_outside⟩, big_in (List.mem_of_getElem? (i := 343) (by decide +kernel)) rfl, nkX0_outside, ikRX0, ckX0_outside, ⟨dkX0_outside.1, dkX0_outside.2.1⟩, dkX0_outside.2.2, by decide⟩
theorem lX5_85_Flat : zLu RX5 85 yX0_outside RX2 mX6_outside 3 := ⟨big_in (List.mem_of_getElem? (i := 339) (by decide +kernel)) rfl, big_in (List.mem_of_getElem? (i := 342) (by decide +kernel)) rfl, nkX0_outside, ⟨_, _, _, ckX0_outside⟩, big_in (List.mem_of_getElem? (i := 344) (by decide +kernel)) rfl, nkX6_outside, ikRX6, ckX6_outside, ⟨dkX0_outside.1, dkX0_outside.2.1⟩, dkX0_outside.2.2, by decide⟩
theorem lX5_85_Bowl : zLu RX5 85 yX0_outside RX0 mX0_outside 3 := ⟨big_in (List.mem_of_getElem? (i := 339) (by decide +kernel)) rfl, big_in (List.mem_of_getElem? (i := 342) (by decide +kernel)) rfl, nkX0_outside, ⟨_, _, _, ckX0_outside⟩, big_in (List.mem_of_getElem? (i := 341) (by decide +kernel)) rfl, nkX0_outside, ikRX0, ckX0_outside, ⟨dkX0_outside.1, dkX0_outside.2.1⟩, dkX0_outside.2.2, by decide⟩
theorem lX5_91_Oval : zLu RX5 91 yX0_inside RX8 mX8_inside 4 := ⟨big_in (List.mem_of_getElem? (i := 372) (by decide +kernel)) rfl, big_in (List.mem_of_getElem? (i := 375) (by decide +kernel)) rfl, nkX0_inside, ⟨_, _, _, ckX0_inside⟩, big_in (List.mem_of_getElem? (i := 389) (by decide +kernel)) rfl, nkX8_inside, ikRX8, ckX8_inside, ⟨dkX0_inside.1, dkX0_inside.2.1⟩, dkX0_inside.2.2, by decide⟩
theorem lX5_91_Lid : zLu RX5 91 yX0_inside RX6 mX6_inside 4 := ⟨big_in (List.mem_of_getElem? (i := 372) (by decide +kernel)) rfl, big_in (List.mem_of_getElem? (i := 375) (by decide +kernel)) rfl, nkX0_inside, ⟨_, _, _, ckX0_inside⟩, big_in (List.mem_of_getElem? (i := 388) (by decide +kernel)) rfl, nkX6_inside, ikRX6, ckX6_inside, ⟨dkX0_inside.1, dkX0_inside.2.1⟩, dkX0_inside.2.2, by decide⟩
theorem lX5_91_Foot : zLu RX5 91 yX0_inside RX3 mX3_inside 4 := ⟨big_in (List.mem_of_getElem? (i := 372) (by decide +kernel)) rfl, big_in (List.mem_of_getElem? (i := 375) (by decide +kernel)) rfl, nkX0_inside, ⟨_, _, _, ckX0_inside⟩, big_in (List.mem_of_getElem? (i := 383) (by decide +kernel)) rfl, nkX3_inside, ikRX3, ckX3_inside, ⟨dkX0_inside.1, dkX0_inside.2.1⟩, dkX0_inside.2.2, by decide⟩
theorem lX5_91_Second : zLu RX5 91 yX0_inside RX9 mX8_inside 4 := ⟨big_in (List.mem_of_getElem? (i := 372) (by decide +kernel)) rfl, big_in (List.mem_of_getElem? (i := 375) (by decide +kernel)) rfl, nkX0_inside, ⟨_, _, _, ckX0_inside⟩, big_in (List.mem_of_getElem? (i := 393) (by decide +kernel)) rfl, nkX8_inside, ikRX8, ckX8_inside, ⟨dkX0_inside.1, dkX0_inside.2.1⟩, dkX0_inside.2.2, by decide⟩
theorem lX5_91_Glued : zLu RX5 91 yX0_inside RX4 mX4_inside 4 := ⟨big_in (List.mem_of_getElem? (i := 372) (by decide +kernel)) rfl, big_in (List.mem_of_getElem? (i := 375) (by decide +kernel)) rfl, nkX0_inside, ⟨_, _, _, ckX0_inside⟩, big_in (List.mem_of_getElem? (i := 384) (by decide +kernel)) rfl, nkX4_inside, ikRX4, ckX4_inside, ⟨dkX0_inside.1, dkX0_inside.2.1⟩, dkX0_inside.2.2, by decide⟩
theorem lX5_91_Deep : zLu RX5 91 yX0_inside RX1 mX3_inside 4 := ⟨big_in (List.mem_of_getElem? (i := 372) (by decide +kernel)) rfl, big_in (List.mem_of_getElem? (i := 375) (by decide +kernel)) rfl, nkX0_inside, ⟨_, _, _, ckX0_inside⟩, big_in (List.mem_of_getElem? (i := 376) (by decide +kernel)) rfl, nkX3_inside, ikRX3, ckX3_inside, ⟨dkX0_inside.1, dkX0_inside.2.1⟩, dkX0_inside.2.2, by decide⟩
theorem lX5_91_Flat : zLu RX5 91 yX0_inside RX2 mX6_inside 4 := ⟨big_in (List.mem_of_getElem? (i := 372) (by decide +kernel)) rfl, big_in (List.mem_of_getElem? (i := 375) (by decide +kernel)) rfl, nkX0_inside, ⟨_, _, _, ckX0_inside⟩, big_in (List.mem_of_getElem? (i := 380) (by decide +kernel)) rfl, nkX6_inside, ikRX6, ckX6_inside, ⟨dkX0_inside.1, dkX0_inside.2.1⟩, dkX0_inside.2.2, by decide⟩
theorem lX5_91_Bowl : zLu RX5 91 yX0_inside RX0 mX0_inside 4 := ⟨big_in (List.mem_of_getElem? (i := 372) (by decide +kernel)) rfl, big_in (List.mem_of_getElem? (i := 375) (by decide +kernel)) rfl, nkX0_inside, ⟨_, _, _, ckX0_inside⟩, big_in (List.mem_of_getElem? (i := 374) (by decide +kernel)) rfl, nkX0_inside, ikRX0, ckX0_inside, ⟨dkX0_inside.1, dkX0_inside.2.1⟩, dkX0_inside.2.2, by decide⟩
theorem lX5_95_Oval : zLu RX5 95 yX0_rise RX8 mX0_rise 1 := ⟨big_in (List.mem_of_getElem? (i := 399) (by decide +kernel)) rfl, big_in (List.mem_of_getElem? (i := 402) (by decide +kernel)) rfl, nkX0_rise, ⟨_, _, _, ckX0_rise⟩, big_in (List.mem_of_getElem? (i := 420) (by decide +kernel)) rfl, nkX0_rise, ikRX0, ckX0_rise, ⟨dkX0_rise.1, dkX0_rise.2.1⟩, dkX0_rise.2.2, by decide⟩
theorem lX5_95_Lid : zLu RX5 95 yX0_rise RX6 mX6_rise 1 := ⟨big_in (List.mem_of_getElem? (i := 399) (by decide +kernel)) rfl, big_in (List.mem_of_getElem? (i := 402) (by decide +kernel)) rfl, nkX0_rise, ⟨_, _, _, ckX0_rise⟩, big_in (List.mem_of_getElem? (i := 419) (by decide +kernel)) rfl, nkX6_rise, ikRX6, ckX6_rise, ⟨dkX0_rise.1, dkX0_rise.2.1⟩, dkX0_rise.2.2, by decide⟩
theorem lX5_95_Foot : zLu RX5 95 yX0_rise RX3 mX3_rise 1 := ⟨big_in (List.mem_of_getElem? (i := 399) (by decide +kernel)) rfl, big_in (List.mem_of_getElem? (i := 402) (by decide +kernel)) rfl, nkX0_rise, ⟨_, _, _, ckX0_rise⟩, big_in (List.mem_of_getElem? (i := 417) (by decide +kernel)) rfl, nkX3_rise, ikRX3, ckX3_rise, ⟨dkX0_rise.1, dkX0_rise.2.1⟩, dkX0_rise.2.2, by decide⟩
theorem lX5_95_Second : zLu RX5 95 yX0_rise RX9 mX0_rise 1 := ⟨big_in (List.mem_of_getElem? (i := 399) (by decide +kernel)) rfl, big_in (List.mem_of_getElem? (i := 402) (by decide +kernel)) rfl, nkX0_rise, ⟨_, _, _, ckX0_rise⟩, big_in (List.mem_of_getElem? (i := 421) (by decide +kernel)) rfl, nkX0_rise, ikRX0, ckX0_rise, ⟨dkX0_rise.1, dkX0_rise.2.1⟩, dkX0_rise.2.2, by decide⟩
theorem lX5_95_Glued : zLu RX5 95 yX0_rise RX4 mX3_rise 1 := ⟨big_in (List.mem_of_getElem? (i := 399) (by decide +kernel)) rfl, big_in (List.mem_of_getElem? (i := 402) (by decide +kernel)) rfl, nkX0_rise, ⟨_, _, _, ckX0_rise⟩, big_in (List.mem_of_getElem? (i := 418) (by decide +kernel)) rfl, nkX3_rise, ikRX3, ckX3_rise, ⟨dkX0_rise.1, dkX0_rise.2.1⟩, dkX0_rise.2.2, by decide⟩
theorem lX5_95_Deep : zLu RX5 95 yX0_rise RX1 mX1_rise 1 := ⟨big_in (List.mem_of_getElem? (i := 399) (by decide +kernel)) rfl, big_in (List.mem_of_getElem? (i := 402) (by decide +kernel)) rfl, nkX0_rise, ⟨_, _, _, ckX0_rise⟩, big_in (List.mem_of_getElem? (i := 403) (by decide +kernel)) rfl, nkX1_rise, ikRX1, ckX1_rise, ⟨dkX0_rise.1, dkX0_rise.2.1⟩, dkX0_rise.2.2, by decide⟩
theorem lX5_95_Flat : zLu RX5 95 yX0_rise RX2 mX2_rise 1 := ⟨big_in (List.mem_of_getElem? (i := 399) (by decide +kernel)) rfl, big_in (List.mem_of_getElem? (i := 402) (by decide +kernel)) rfl, nkX0_rise, ⟨_, _, _, ckX0_rise⟩, big_in (List.mem_of_getElem? (i := 410) (by decide +kernel)) rfl, nkX2_rise, ikRX2, ckX2_rise, ⟨dkX0_rise.1, dkX0_rise.2.1⟩, dkX0_rise.2.2, by decide⟩
theorem lX5_95_Bowl : zLu RX5 95 yX0_rise RX0 mX0_rise 1 := ⟨big_in (List.mem_of_getElem? (i := 399) (by decide +kernel)) rfl, big_in (List.mem_of_getElem? (i := 402) (by decide +kernel)) rfl, nkX0_rise, ⟨_, _, _, ckX0_rise⟩, big_in (List.mem_of_getElem? (i := 401) (by decide +kernel)) rfl, nkX0_rise, ikRX0, ckX0_rise, ⟨dkX0_rise.1, dkX0_rise.2.1⟩, dkX0_rise.2.2, by decide⟩
theorem lX5_109_Oval : zLu RX5 109 yX0_minds RX8 mX8_minds 0 := ⟨big_in (List.mem_of_getElem? (i := 463) (by decide +kernel)) rfl, big_in (List.mem_of_getElem? (i := 466) (by decide +kernel)) rfl, nkX0_minds, ⟨_, _, _, ckX0_minds⟩, big_in (List.mem_of_getElem? (i := 472) (by decide +kernel)) rfl, nkX8_minds, ikRX8, ckX8_minds, ⟨dkX0_minds.1, dkX0_minds.2.1⟩, dkX0_minds.2.2, by decide⟩
theorem lX5_109_Lid : zLu RX5 109 yX0_minds RX6 mX0_minds 0 := ⟨big_in (List.mem_of_getElem? (i := 463) (by decide +kernel)) rfl, big_in (List.mem_of_getElem? (i := 466) (by decide +kernel)) rfl, nkX0_minds, ⟨_, _, _, ckX0_minds⟩, big_in (List.mem_of_getElem? (i := 471) (by decide +kernel)) rfl, nkX0_minds, ikRX0, ckX0_minds, ⟨dkX0_minds.1, dkX0_minds.2.1⟩, dkX0_minds.2.2, by decide⟩
theorem lX5_109_Foot : zLu RX5 109 yX0_minds RX3 mX0_minds 0 := ⟨big_in (List.mem_of_getElem? (i := 463) (by decide +kernel)) rfl, big_in (List.mem_of_getElem? (i := 466) (by decide +kernel)) rfl, nkX0_minds, ⟨_, _, _, ckX0_minds⟩, big_in (List.mem_of_getElem? (i := 469) (by decide +kernel)) rfl, nkX0_minds, ikRX0, ckX0_minds, ⟨dkX0_minds.1, dkX0_minds.2.1⟩, dkX0_minds.2.2, by decide⟩
theorem lX5_109_Second : zLu RX5 109 yX0_minds RX9 mX8_minds 0 := ⟨big_in (List.mem_of_getElem? (i := 463) (by decide +kernel)) rfl, big_in (List.mem_of_getElem? (i := 466) (by decide +kernel)) rfl, nkX0_minds, ⟨_, _, _, ckX0_minds⟩, big_in (List.mem_of_getElem? (i := 475) (by decide +kernel)) rfl, nkX8_minds, ikRX8, ckX8_minds, ⟨dkX0_minds.1, dkX0_minds.2.1⟩, dkX0_minds.2.2, by decide⟩
theorem lX5_109_Glued : zLu RX5 109 yX0_minds RX4 mX0_minds 0 := ⟨big_in (List.mem_of_getElem? (i := 463) (by decide +kernel)) rfl, big_in (List.mem_of_getElem? (i := 466) (by decide +kernel)) rfl, nkX0_minds, ⟨_, _, _, ckX0_minds⟩, big_in (List.mem_of_getElem? (i := 470) (by decide +kernel)) rfl, nkX0_minds, ikRX0, ckX0_minds, ⟨dkX0_minds.1, dkX0_minds.2.1⟩, dkX0_minds.2.2, by decide⟩
theorem lX5_109_Deep : zLu RX5 109 yX0_minds RX1 mX0_minds 0 := ⟨big_in (List.mem_of_getElem? (i := 463) (by decide +kernel)) rfl, big_in (List.mem_of_getElem? (i := 466) (by decide +kernel)) rfl, nkX0_minds, ⟨_, _, _, ckX0_minds⟩, big_in (List.mem_of_getElem? (i := 467) (by decide +kernel)) rfl, nkX0_minds, ikRX0, ckX0_minds, ⟨dkX0_minds.1, dkX0_minds.2.1⟩, dkX0_minds.2.2, by decide⟩
theorem lX5_109_Flat : zLu RX5 109 yX0_minds RX2 mX0_minds 0 := ⟨big_in (List.mem_of_getElem? (i := 463) (by decide +kernel)) rfl, big_in (List.mem_of_getElem? (i := 466) (by decide +kernel)) rfl, nkX0_minds, ⟨_, _, _, ckX0_minds⟩, big_in (List.mem_of_getElem? (i := 468) (by decide +kernel)) rfl, nkX0_minds, ikRX0, ckX0_minds, ⟨dkX0_minds.1, dkX0_minds.2.1⟩, dkX0_minds.2.2, by decide⟩
theorem lX5_109_Bowl : zLu RX5 109 yX0_minds RX0 mX0_minds 0 := ⟨big_in (List.mem_of_getElem? (i := 463) (by decide +kernel)) rfl, big_in (List.mem_of_getElem? (i := 466) (by decide +kernel)) rfl, nkX0_minds, ⟨_, _, _, ckX0_minds⟩, big_in (List.mem_of_getElem? (i := 465) (by decide +kernel)) rfl, nkX0_minds, ikRX0, ckX0_minds, ⟨dkX0_minds.1, dkX0_minds.2.1⟩, dkX0_minds.2.2, by decide⟩
theorem lX6_7 : zLp RX6 7 ⟨RX0, "outside", "(III)I"⟩ mX0_outside 3 := ⟨big_in (List.mem_of_getElem? (i := 347) (by decide +kernel)) rfl, big_in (List.mem_of_getElem? (i := 342) (by decide +kernel)) rfl, big_in (List.mem_of_getElem? (i := 52) (by decide +kernel)) rfl, Or.inl rfl, rfl, rfl, nkX0_outside, ikRX0, ckX0_outside, by decide, dkX0_outside.2.2, by decide⟩
theorem lX6_17 : zLp RX6 17 ⟨RX0, "rise", "(I)I"⟩ mX0_rise 1 := ⟨big_in (List.mem_of_getElem? (i := 416) (by decide +kernel)) rfl, big_in (List.mem_of_getElem? (i := 402) (by decide +kernel)) rfl, big_in (List.mem_of_getElem? (i := 52) (by decide +kernel)) rfl, Or.inl rfl, rfl, rfl, nkX0_rise, ikRX0, ckX0_rise, by decide, dkX0_rise.2.2, by decide⟩
theorem lX6_21 : zLp RX6 21 ⟨RX0, "cost", "(I)I"⟩ mX0_cost 1 := ⟨big_in (List.mem_of_getElem? (i := 750) (by decide +kernel)) rfl, big_in (List.mem_of_getElem? (i := 736) (by decide +kernel)) rfl, big_in (List.mem_of_getElem? (i := 52) (by decide +kernel)) rfl, Or.inl rfl, rfl, rfl, nkX0_cost, ikRX0, ckX0_cost, by decide, dkX0_cost.2.2, by decide⟩
theorem lX8_7 : zLp RX8 7 ⟨RX0, "outside", "(III)I"⟩ mX0_outside 3 := ⟨big_in (List.mem_of_getElem? (i := 362) (by decide +kernel)) rfl, big_in (List.mem_of_getElem? (i := 342) (by decide +kernel)) rfl, big_in (List.mem_of_getElem? (i := 45) (by decide +kernel)) rfl, Or.inl rfl, rfl, rfl, nkX0_outside, ikRX0, ckX0_outside, by decide, dkX0_outside.2.2, by decide⟩
theorem lX8_11 : zLp RX8 11 ⟨RX0, "inside", "(IIII)I"⟩ mX0_inside 4 := ⟨big_in (List.mem_of_getElem? (i := 392) (by decide +kernel)) rfl, big_in (List.mem_of_getElem? (i := 375) (by decide +kernel)) rfl, big_in (List.mem_of_getElem? (i := 45) (by decide +kernel)) rfl, Or.inl rfl, rfl, rfl, nkX0_inside, ikRX0, ckX0_inside, by decide, dkX0_inside.2.2, by decide⟩
theorem lX8_15 : zLp RX8 15 ⟨RX0, "cost", "(I)I"⟩ mX0_cost 1 := ⟨big_in (List.mem_of_getElem? (i := 760) (by decide +kernel)) rfl, big_in (List.mem_of_getElem? (i := 736) (by decide +kernel)) rfl, big_in (List.mem_of_getElem? (i := 45) (by decide +kernel)) rfl, Or.inl rfl, rfl, rfl, nkX0_cost, ikRX0, ckX0_cost, by decide, dkX0_cost.2.2, by decide⟩
theorem lX9_7 : zLp RX9 7 ⟨RX8, "outside", "(III)I"⟩ mX8_outside 3 := ⟨big_in (List.mem_of_getElem? (i := 366) (by decide +kernel)) rfl, big_in (List.mem_of_getElem? (i := 1289) (by decide +kernel)) rfl, big_in (List.mem_of_getElem? (i := 66) (by decide +kernel)) rfl, Or.inl rfl, rfl, rfl, nkX8_outside, ikRX8, ckX8_outside, by decide, dkX8_outside.2.2, by decide⟩
theorem lX9_11 : zLp RX9 11 ⟨RX8, "cost", "(I)I"⟩ mX8_cost 1 := ⟨big_in (List.mem_of_getElem? (i := 764) (by decide +kernel)) rfl, big_in (List.mem_of_getElem? (i := 1295) (by decide +kernel)) rfl, big_in (List.mem_of_getElem? (i := 66) (by decide +kernel)) rfl, Or.inl rfl, rfl, rfl, nkX8_cost, ikRX8, ckX8_cost, by decide, dkX8_cost.2.2, by decide⟩
theorem inX5 : ∀ w ∈ u_ws RX5 TX5 9, w ∈ big := by decide +kernel
theorem inX7 : ∀ w ∈ u_ws RX7 TX7 11, w ∈ big := by decide +kernel
theorem inX10 : ∀ w ∈ u_ws RX10 TX10 6, w ∈ big := by decide +kernel
theorem inX11 : ∀ w ∈ u_ws RX11 TX11 7, w ∈ big := by decide +kernel
theorem inX12 : ∀ w ∈ u_ws RX12 TX12 20, w ∈ big := by decide +kernel
theorem fX11_33 : zF RX11 33 11 0 := ⟨RX11, TX11, 7, tyX11, rfl, by decide, inX11, tyX11_ok, nmX11, Or.inl (big_in (List.mem_of_getElem? (i := 207) (by decide +kernel)) rfl)⟩
theorem fX11_42 : zF RX11 42 11 1 := ⟨RX11, TX11, 7, tyX11, rfl, by decide, inX11, tyX11_ok, nmX11, Or.inl (big_in (List.mem_of_getElem? (i := 208) (by decide +kernel)) rfl)⟩
theorem fX11_46 : zF RX11 46 11 2 := ⟨RX11, TX11, 7, tyX11, rfl, by decide, inX11, tyX11_ok, nmX11, Or.inl (big_in (List.mem_of_getElem? (i := 209) (by decide +kernel)) rfl)⟩
theorem fX11_49 : zF RX11 49 11 3 := ⟨RX11, TX11, 7, tyX11, rfl, by decide, inX11, tyX11_ok, nmX11, Or.inl (big_in (List.mem_of_getElem? (i := 210) (by decide +kernel)) rfl)⟩
theorem fX11_55 : zF RX11 55 11 4 := ⟨RX11, TX11, 7, tyX11, rfl, by decide, inX11, tyX11_ok, nmX11, Or.inl (big_in (List.mem_of_getElem? (i := 211) (by decide +kernel)) rfl)⟩
theorem fX11_61 : zF RX11 61 11 5 := ⟨RX11, TX11, 7, tyX11, rfl, by decide, inX11, tyX11_ok, nmX11, Or.inl (big_in (List.mem_of_getElem? (i := 212) (by decide +kernel)) rfl)⟩
theorem fX11_66 : zF RX11 66 11 6 := ⟨RX11, TX11, 7, tyX11, rfl, by decide, inX11, tyX11_ok, nmX11, Or.inl (big_in (List.mem_of_getElem? (i := 213) (by decide +kernel)) rfl)⟩
theorem gX11_66 : zFp RX11 66 11 6 .boolean := ⟨fX11_66, _, rfl, rfl, by decide +kernel⟩
theorem fX5_11 : zF RX5 11 5 1 := ⟨RX5, TX5, 9, tyX5, rfl, by decide, inX5, tyX5_ok, nmX5, Or.inl (big_in (List.mem_of_getElem? (i := 95) (by decide +kernel)) rfl)⟩
theorem fX5_15 : zF RX5 15 5 2 := ⟨RX5, TX5, 9, tyX5, rfl, by decide, inX5, tyX5_ok, nmX5, Or.inl (big_in (List.mem_of_getElem? (i := 97) (by decide +kernel)) rfl)⟩
theorem fX5_18 : zF RX5 18 5 3 := ⟨RX5, TX5, 9, tyX5, rfl, by decide, inX5, tyX5_ok, nmX5, Or.inl (big_in (List.mem_of_getElem? (i := 99) (by decide +kernel)) rfl)⟩
theorem fX5_21 : zF RX5 21 5 4 := ⟨RX5, TX5, 9, tyX5, rfl, by decide, inX5, tyX5_ok, nmX5, Or.inl (big_in (List.mem_of_getElem? (i := 101) (by decide +kernel)) rfl)⟩
theorem fX5_24 : zF RX5 24 5 5 := ⟨RX5, TX5, 9, tyX5, rfl, by decide, inX5, tyX5_ok, nmX5, Or.inl (big_in (List.mem_of_getElem? (i := 103) (by decide +kernel)) rfl)⟩
theorem fX5_27 : zF RX5 27 5 6 := ⟨RX5, TX5, 9, tyX5, rfl, by decide, inX5, tyX5_ok, nmX5, Or.inl (big_in (List.mem_of_getElem? (i := 106) (by decide +kernel)) rfl)⟩
theorem fX5_30 : zF RX5 30 5 0 := ⟨RX5, TX5, 9, tyX5, rfl, by decide, inX5, tyX5_ok, nmX5, Or.inl (big_in (List.mem_of_getElem? (i := 94) (by decide +kernel)) rfl)⟩
theorem fX5_34 : zF RX5 34 5 7 := ⟨RX5, TX5, 9, tyX5, rfl, by decide, inX5, tyX5_ok, nmX5, Or.inl (big_in (List.mem_of_getElem? (i := 109) (by decide +kernel)) rfl)⟩
theorem gX5_34 : zFp RX5 34 5 7 .int := ⟨fX5_34, _, rfl, rfl, by decide +kernel⟩
theorem fX5_38 : zF RX5 38 5 8 := ⟨RX5, TX5, 9, tyX5, rfl, by decide, inX5, tyX5_ok, nmX5, Or.inl (big_in (List.mem_of_getElem? (i := 112) (by decide +kernel)) rfl)⟩
theorem gX5_38 : zFp RX5 38 5 8 .int := ⟨fX5_38, _, rfl, rfl, by decide +kernel⟩
theorem fX7_9 : zF RX7 9 7 0 := ⟨RX7, TX7, 11, tyX7, rfl, by decide, inX7, tyX7_ok, nmX7, Or.inl (big_in (List.mem_of_getElem? (i := 141) (by decide +kernel)) rfl)⟩
theorem fX7_15 : zF RX7 15 7 1 := ⟨RX7, TX7, 11, tyX7, rfl, by decide, inX7, tyX7_ok, nmX7, Or.inl (big_in (List.mem_of_getElem? (i := 142) (by decide +kernel)) rfl)⟩
theorem fX7_18 : zF RX7 18 7 2 := ⟨RX7, TX7, 11, tyX7, rfl, by decide, inX7, tyX7_ok, nmX7, Or.inl (big_in (List.mem_of_getElem? (i := 143) (by decide +kernel)) rfl)⟩
theorem fX7_21 : zF RX7 21 7 3 := ⟨RX7, TX7, 11, tyX7, rfl, by decide, inX7, tyX7_ok, nmX7, Or.inl (big_in (List.mem_of_getElem? (i := 144) (by decide +kernel)) rfl)⟩
theorem fX7_24 : zF RX7 24 7 4 := ⟨RX7, TX7, 11, tyX7, rfl, by decide, inX7, tyX7_ok, nmX7, Or.inl (big_in (List.mem_of_getElem? (i := 145) (by decide +kernel)) rfl)⟩
theorem fX7_27 : zF RX7 27 7 5 := ⟨RX7, TX7, 11, tyX7, rfl, by decide, inX7, tyX7_ok, nmX7, Or.inl (big_in (List.mem_of_getElem? (i := 146) (by decide +kernel)) rfl)⟩
theorem fX7_30 : zF RX7 30 7 6 := ⟨RX7, TX7, 11, tyX7, rfl, by decide, inX7, tyX7_ok, nmX7, Or.inl (big_in (List.mem_of_getElem? (i := 147) (by decide +kernel)) rfl)⟩
theorem fX7_33 : zF RX7 33 7 7 := ⟨RX7, TX7, 11, tyX7, rfl, by decide, inX7, tyX7_ok, nmX7, Or.inl (big_in (List.mem_of_getElem? (i := 148) (by decide +kernel)) rfl)⟩
theorem fX7_48 : zF RX7 48 7 9 := ⟨RX7, TX7, 11, tyX7, rfl, by decide, inX7, tyX7_ok, nmX7, Or.inl (big_in (List.mem_of_getElem? (i := 150) (by decide +kernel)) rfl)⟩
theorem gX7_48 : zFp RX7 48 7 9 .int := ⟨fX7_48, _, rfl, rfl, by decide +kernel⟩
theorem fX7_51 : zF RX7 51 7 10 := ⟨RX7, TX7, 11, tyX7, rfl, by decide, inX7, tyX7_ok, nmX7, Or.inl (big_in (List.mem_of_getElem? (i := 151) (by decide +kernel)) rfl)⟩
theorem gX7_51 : zFp RX7 51 7 10 .int := ⟨fX7_51, _, rfl, rfl, by decide +kernel⟩
theorem fX7_54 : zF RX7 54 7 8 := ⟨RX7, TX7, 11, tyX7, rfl, by decide, inX7, tyX7_ok, nmX7, Or.inl (big_in (List.mem_of_getElem? (i := 149) (by decide +kernel)) rfl)⟩
theorem gX7_54 : zFp RX7 54 7 8 .int := ⟨fX7_54, _, rfl, rfl, by decide +kernel⟩
theorem fX10_9 : zF RX10 9 10 0 := ⟨RX10, TX10, 6, tyX10, rfl, by decide, inX10, tyX10_ok, nmX10, Or.inl (big_in (List.mem_of_getElem? (i := 182) (by decide +kernel)) rfl)⟩
theorem fX10_15 : zF RX10 15 10 1 := ⟨RX10, TX10, 6, tyX10, rfl, by decide, inX10, tyX10_ok, nmX10, Or.inl (big_in (List.mem_of_getElem? (i := 184) (by decide +kernel)) rfl)⟩
theorem gX10_15 : zFp RX10 15 10 1 .int := ⟨fX10_15, _, rfl, rfl, by decide +kernel⟩
theorem fX10_19 : zF RX10 19 10 2 := ⟨RX10, TX10, 6, tyX10, rfl, by decide, inX10, tyX10_ok, nmX10, Or.inl (big_in (List.mem_of_getElem? (i := 186) (by decide +kernel)) rfl)⟩
theorem gX10_19 : zFp RX10 19 10 2 .int := ⟨fX10_19, _, rfl, rfl, by decide +kernel⟩
theorem fX10_22 : zF RX10 22 10 3 := ⟨RX10, TX10, 6, tyX10, rfl, by decide, inX10, tyX10_ok, nmX10, Or.inl (big_in (List.mem_of_getElem? (i := 188) (by decide +kernel)) rfl)⟩
theorem gX10_22 : zFp RX10 22 10 3 .int := ⟨fX10_22, _, rfl, rfl, by decide +kernel⟩
theorem fX10_25 : zF RX10 25 10 4 := ⟨RX10, TX10, 6, tyX10, rfl, by decide, inX10, tyX10_ok, nmX10, Or.inl (big_in (List.mem_of_getElem? (i := 190) (by decide +kernel)) rfl)⟩
theorem gX10_25 : zFp RX10 25 10 4 .int := ⟨fX10_25, _, rfl, rfl, by decide +kernel⟩
theorem fX10_28 : zF RX10 28 10 5 := ⟨RX10, TX10, 6, tyX10, rfl, by decide, inX10, tyX10_ok, nmX10, Or.inl (big_in (List.mem_of_getElem? (i := 192) (by decide +kernel)) rfl)⟩
theorem gX10_28 : zFp RX10 28 10 5 .int := ⟨fX10_28, _, rfl, rfl, by decide +kernel⟩
theorem fX12_9 : zF RX12 9 12 0 := ⟨RX12, TX12, 20, tyX12, rfl, by decide, inX12, tyX12_ok, nmX12, Or.inl (big_in (List.mem_of_getElem? (i := 910) (by decide +kernel)) rfl)⟩
theorem fX12_13 : zF RX12 13 12 1 := ⟨RX12, TX12, 20, tyX12, rfl, by decide, inX12, tyX12_ok, nmX12, Or.inl (big_in (List.mem_of_getElem? (i := 911) (by decide +kernel)) rfl)⟩
theorem fX12_16 : zF RX12 16 12 2 := ⟨RX12, TX12, 20, tyX12, rfl, by decide, inX12, tyX12_ok, nmX12, Or.inl (big_in (List.mem_of_getElem? (i := 912) (by decide +kernel)) rfl)⟩
theorem fX12_19 : zF RX12 19 12 3 := ⟨RX12, TX12, 20, tyX12, rfl, by decide, inX12, tyX12_ok, nmX12, Or.inl (big_in (List.mem_of_getElem? (i := 913) (by decide +kernel)) rfl)⟩
theorem fX12_22 : zF RX12 22 12 4 := ⟨RX12, TX12, 20, tyX12, rfl, by decide, inX12, tyX12_ok, nmX12, Or.inl (big_in (List.mem_of_getElem? (i := 914) (by decide +kernel)) rfl)⟩
theorem fX12_25 : zF RX12 25 12 5 := ⟨RX12, TX12, 20, tyX12, rfl, by decide, inX12, tyX12_ok, nmX12, Or.inl (big_in (List.mem_of_getElem? (i := 915) (by decide +kernel)) rfl)⟩
theorem fX12_28 : zF RX12 28 12 6 := ⟨RX12, TX12, 20, tyX12, rfl, by decide, inX12, tyX12_ok, nmX12, Or.inl (big_in (List.mem_of_getElem? (i := 916) (by decide +kernel)) rfl)⟩
theorem fX12_31 : zF RX12 31 12 7 := ⟨RX12, TX12, 20, tyX12, rfl, by decide, inX12, tyX12_ok, nmX12, Or.inl (big_in (List.mem_of_getElem? (i := 917) (by decide +kernel)) rfl)⟩
theorem fX12_34 : zF RX12 34 12 8 := ⟨RX12, TX12, 20, tyX12, rfl, by decide, inX12, tyX12_ok, nmX12, Or.inl (big_in (List.mem_of_getElem? (i := 918) (by decide +kernel)) rfl)⟩
theorem fX12_37 : zF RX12 37 12 15 := ⟨RX12, TX12, 20, tyX12, rfl, by decide, inX12, tyX12_ok, nmX12, Or.inl (big_in (List.mem_of_getElem? (i := 925) (by decide +kernel)) rfl)⟩
theorem fX12_40 : zF RX12 40 12 16 := ⟨RX12, TX12, 20, tyX12, rfl, by decide, inX12, tyX12_ok, nmX12, Or.inl (big_in (List.mem_of_getElem? (i := 926) (by decide +kernel)) rfl)⟩
theorem fX12_43 : zF RX12 43 12 17 := ⟨RX12, TX12, 20, tyX12, rfl, by decide, inX12, tyX12_ok, nmX12, Or.inl (big_in (List.mem_of_getElem? (i := 927) (by decide +kernel)) rfl)⟩
theorem fX12_46 : zF RX12 46 12 18 := ⟨RX12, TX12, 20, tyX12, rfl, by decide, inX12, tyX12_ok, nmX12, Or.inl (big_in (List.mem_of_getElem? (i := 928) (by decide +kernel)) rfl)⟩
theorem fX12_49 : zF RX12 49 12 10 := ⟨RX12, TX12, 20, tyX12, rfl, by decide, inX12, tyX12_ok, nmX12, Or.inl (big_in (List.mem_of_getElem? (i := 920) (by decide +kernel)) rfl)⟩
theorem gX12_49 : zFp RX12 49 12 10 .int := ⟨fX12_49, _, rfl, rfl, by decide +kernel⟩
theorem fX12_93 : zF RX12 93 12 11 := ⟨RX12, TX12, 20, tyX12, rfl, by decide, inX12, tyX12_ok, nmX12, Or.inl (big_in (List.mem_of_getElem? (i := 921) (by decide +kernel)) rfl)⟩
theorem gX12_93 : zFp RX12 93 12 11 .int := ⟨fX12_93, _, rfl, rfl, by decide +kernel⟩
theorem fX12_96 : zF RX12 96 12 13 := ⟨RX12, TX12, 20, tyX12, rfl, by decide, inX12, tyX12_ok, nmX12, Or.inl (big_in (List.mem_of_getElem? (i := 923) (by decide +kernel)) rfl)⟩
theorem gX12_96 : zFp RX12 96 12 13 .int := ⟨fX12_96, _, rfl, rfl, by decide +kernel⟩
theorem fX12_99 : zF RX12 99 12 12 := ⟨RX12, TX12, 20, tyX12, rfl, by decide, inX12, tyX12_ok, nmX12, Or.inl (big_in (List.mem_of_getElem? (i := 922) (by decide +kernel)) rfl)⟩
theorem gX12_99 : zFp RX12 99 12 12 .int := ⟨fX12_99, _, rfl, rfl, by decide +kernel⟩
theorem fX12_113 : zF RX12 113 12 14 := ⟨RX12, TX12, 20, tyX12, rfl, by decide, inX12, tyX12_ok, nmX12, Or.inl (big_in (List.mem_of_getElem? (i := 924) (by decide +kernel)) rfl)⟩
theorem gX12_113 : zFp RX12 113 12 14 .int := ⟨fX12_113, _, rfl, rfl, by decide +kernel⟩
theorem fX12_218 : zF RX12 218 12 19 := ⟨RX12, TX12, 20, tyX12, rfl, by decide, inX12, tyX12_ok, nmX12, Or.inl (big_in (List.mem_of_getElem? (i := 929) (by decide +kernel)) rfl)⟩
theorem gX12_218 : zFp RX12 218 12 19 .int := ⟨fX12_218, _, rfl, rfl, by decide +kernel⟩
theorem fX12_229 : zF RX12 229 12 9 := ⟨RX12, TX12, 20, tyX12, rfl, by decide, inX12, tyX12_ok, nmX12, Or.inl (big_in (List.mem_of_getElem? (i := 919) (by decide +kernel)) rfl)⟩
theorem gX12_229 : zFp RX12 229 12 9 .boolean := ⟨fX12_229, _, rfl, rfl, by decide +kernel⟩
theorem fX11_86 : zF RX11 86 5 1 := ⟨RX5, TX5, 9, tyX5, rfl, by decide, inX5, tyX5_ok, nmX5, Or.inr ⟨"BowlsWithin", nests_in (List.mem_of_getElem? (i := 96) (by decide +kernel)) rfl⟩⟩
theorem fX11_90 : zF RX11 90 5 2 := ⟨RX5, TX5, 9, tyX5, rfl, by decide, inX5, tyX5_ok, nmX5, Or.inr ⟨"BowlsWithin", nests_in (List.mem_of_getElem? (i := 98) (by decide +kernel)) rfl⟩⟩
theorem fX11_93 : zF RX11 93 5 3 := ⟨RX5, TX5, 9, tyX5, rfl, by decide, inX5, tyX5_ok, nmX5, Or.inr ⟨"BowlsWithin", nests_in (List.mem_of_getElem? (i := 100) (by decide +kernel)) rfl⟩⟩
theorem fX11_96 : zF RX11 96 5 4 := ⟨RX5, TX5, 9, tyX5, rfl, by decide, inX5, tyX5_ok, nmX5, Or.inr ⟨"BowlsWithin", nests_in (List.mem_of_getElem? (i := 102) (by decide +kernel)) rfl⟩⟩
theorem fX11_99 : zF RX11 99 5 5 := ⟨RX5, TX5, 9, tyX5, rfl, by decide, inX5, tyX5_ok, nmX5, Or.inr ⟨"BowlsWithin", nests_in (List.mem_of_getElem? (i := 105) (by decide +kernel)) rfl⟩⟩
theorem fX11_106 : zF RX11 106 5 8 := ⟨RX5, TX5, 9, tyX5, rfl, by decide, inX5, tyX5_ok, nmX5, Or.inr ⟨"BowlsWithin", nests_in (List.mem_of_getElem? (i := 114) (by decide +kernel)) rfl⟩⟩
theorem gX11_106 : zFp RX11 106 5 8 .int := ⟨fX11_106, _, rfl, rfl, by decide +kernel⟩
theorem fX11_130 : zF RX11 130 10 2 := ⟨RX10, TX10, 6, tyX10, rfl, by decide, inX10, tyX10_ok, nmX10, Or.inr ⟨"BowlsWithin", nests_in (List.mem_of_getElem? (i := 187) (by decide +kernel)) rfl⟩⟩
theorem gX11_130 : zFp RX11 130 10 2 .int := ⟨fX11_130, _, rfl, rfl, by decide +kernel⟩
theorem fX11_132 : zF RX11 132 10 3 := ⟨RX10, TX10, 6, tyX10, rfl, by decide, inX10, tyX10_ok, nmX10, Or.inr ⟨"BowlsWithin", nests_in (List.mem_of_getElem? (i := 189) (by decide +kernel)) rfl⟩⟩
theorem gX11_132 : zFp RX11 132 10 3 .int := ⟨fX11_132, _, rfl, rfl, by decide +kernel⟩
theorem fX11_138 : zF RX11 138 5 7 := ⟨RX5, TX5, 9, tyX5, rfl, by decide, inX5, tyX5_ok, nmX5, Or.inr ⟨"BowlsWithin", nests_in (List.mem_of_getElem? (i := 111) (by decide +kernel)) rfl⟩⟩
theorem gX11_138 : zFp RX11 138 5 7 .int := ⟨fX11_138, _, rfl, rfl, by decide +kernel⟩
theorem fX11_198 : zF RX11 198 5 6 := ⟨RX5, TX5, 9, tyX5, rfl, by decide, inX5, tyX5_ok, nmX5, Or.inr ⟨"BowlsWithin", nests_in (List.mem_of_getElem? (i := 108) (by decide +kernel)) rfl⟩⟩
theorem fX11_211 : zF RX11 211 10 5 := ⟨RX10, TX10, 6, tyX10, rfl, by decide, inX10, tyX10_ok, nmX10, Or.inr ⟨"BowlsWithin", nests_in (List.mem_of_getElem? (i := 193) (by decide +kernel)) rfl⟩⟩
theorem gX11_211 : zFp RX11 211 10 5 .int := ⟨fX11_211, _, rfl, rfl, by decide +kernel⟩
theorem fX11_265 : zF RX11 265 10 1 := ⟨RX10, TX10, 6, tyX10, rfl, by decide, inX10, tyX10_ok, nmX10, Or.inr ⟨"BowlsWithin", nests_in (List.mem_of_getElem? (i := 185) (by decide +kernel)) rfl⟩⟩
theorem gX11_265 : zFp RX11 265 10 1 .int := ⟨fX11_265, _, rfl, rfl, by decide +kernel⟩
theorem fX11_273 : zF RX11 273 10 4 := ⟨RX10, TX10, 6, tyX10, rfl, by decide, inX10, tyX10_ok, nmX10, Or.inr ⟨"BowlsWithin", nests_in (List.mem_of_getElem? (i := 191) (by decide +kernel)) rfl⟩⟩
theorem gX11_273 : zFp RX11 273 10 4 .int := ⟨fX11_273, _, rfl, rfl, by decide +kernel⟩
theorem fX11_279 : zF RX11 279 10 0 := ⟨RX10, TX10, 6, tyX10, rfl, by decide, inX10, tyX10_ok, nmX10, Or.inr ⟨"BowlsWithin", nests_in (List.mem_of_getElem? (i := 183) (by decide +kernel)) rfl⟩⟩
theorem fX7_36 : zF RX7 36 5 7 := ⟨RX5, TX5, 9, tyX5, rfl, by decide, inX5, tyX5_ok, nmX5, Or.inr ⟨"BowlsWithin", nests_in (List.mem_of_getElem? (i := 110) (by decide +kernel)) rfl⟩⟩
theorem gX7_36 : zFp RX7 36 5 7 .int := ⟨fX7_36, _, rfl, rfl, by decide +kernel⟩
theorem fX7_60 : zF RX7 60 5 6 := ⟨RX5, TX5, 9, tyX5, rfl, by decide, inX5, tyX5_ok, nmX5, Or.inr ⟨"BowlsWithin", nests_in (List.mem_of_getElem? (i := 107) (by decide +kernel)) rfl⟩⟩
theorem fX7_63 : zF RX7 63 5 8 := ⟨RX5, TX5, 9, tyX5, rfl, by decide, inX5, tyX5_ok, nmX5, Or.inr ⟨"BowlsWithin", nests_in (List.mem_of_getElem? (i := 113) (by decide +kernel)) rfl⟩⟩
theorem gX7_63 : zFp RX7 63 5 8 .int := ⟨fX7_63, _, rfl, rfl, by decide +kernel⟩
theorem fX7_78 : zF RX7 78 5 5 := ⟨RX5, TX5, 9, tyX5, rfl, by decide, inX5, tyX5_ok, nmX5, Or.inr ⟨"BowlsWithin", nests_in (List.mem_of_getElem? (i := 104) (by decide +kernel)) rfl⟩⟩
theorem hX11_172 : Jvm.Cond.constant RX11 172 (1000000) ∈ big := big_in (List.mem_of_getElem? (i := 546) (by decide +kernel)) rfl
theorem hX11_306 : Jvm.Cond.constant RX11 306 (1103515245) ∈ big := big_in (List.mem_of_getElem? (i := 668) (by decide +kernel)) rfl
theorem hX11_307 : Jvm.Cond.constant RX11 307 (2147483647) ∈ big := big_in (List.mem_of_getElem? (i := 669) (by decide +kernel)) rfl
theorem hX11_308 : Jvm.Cond.constant RX11 308 (65536) ∈ big := big_in (List.mem_of_getElem? (i := 670) (by decide +kernel)) rfl
theorem hX7_98 : Jvm.Cond.constant RX7 98 (1000000) ∈ big := big_in (List.mem_of_getElem? (i := 551) (by decide +kernel)) rfl
theorem hX12_53 : Jvm.Cond.constantLong RX12 53 (7) ∈ big := big_in (List.mem_of_getElem? (i := 986) (by decide +kernel)) rfl
theorem hX12_105 : Jvm.Cond.constantLong RX12 105 (48) ∈ big := big_in (List.mem_of_getElem? (i := 1006) (by decide +kernel)) rfl
theorem hX12_107 : Jvm.Cond.constantLong RX12 107 (57) ∈ big := big_in (List.mem_of_getElem? (i := 1007) (by decide +kernel)) rfl
theorem hX12_151 : Jvm.Cond.constantLong RX12 151 (99) ∈ big := big_in (List.mem_of_getElem? (i := 1063) (by decide +kernel)) rfl
theorem hX12_160 : Jvm.Cond.constantLong RX12 160 (9) ∈ big := big_in (List.mem_of_getElem? (i := 1076) (by decide +kernel)) rfl
theorem hX12_183 : Jvm.Cond.constant RX12 183 (1000000) ∈ big := big_in (List.mem_of_getElem? (i := 1152) (by decide +kernel)) rfl
theorem hX12_221 : Jvm.Cond.constant RX12 221 (1103515245) ∈ big := big_in (List.mem_of_getElem? (i := 1241) (by decide +kernel)) rfl
theorem hX12_222 : Jvm.Cond.constant RX12 222 (2147483647) ∈ big := big_in (List.mem_of_getElem? (i := 1242) (by decide +kernel)) rfl
theorem hX12_223 : Jvm.Cond.constant RX12 223 (65536) ∈ big := big_in (List.mem_of_getElem? (i := 1243) (by decide +kernel)) rfl
theorem hX12_224 : Jvm.Cond.constantLong RX12 224 (40) ∈ big := big_in (List.mem_of_getElem? (i := 1236) (by decide +kernel)) rfl
theorem hX12_233 : Jvm.Cond.constantLong RX12 233 (2) ∈ big := big_in (List.mem_of_getElem? (i := 1264) (by decide +kernel)) rfl
theorem hJ6_265 : Jvm.Cond.constant RJ6 265 (1431655765) ∈ big := big_in (List.mem_of_getElem? (i := 538) (by decide +kernel)) rfl
theorem hJ6_266 : Jvm.Cond.constant RJ6 266 (858993459) ∈ big := big_in (List.mem_of_getElem? (i := 539) (by decide +kernel)) rfl
theorem hJ6_267 : Jvm.Cond.constant RJ6 267 (252645135) ∈ big := big_in (List.mem_of_getElem? (i := 540) (by decide +kernel)) rfl
end
