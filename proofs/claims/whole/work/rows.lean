section
-- ===== PART A: goes FIRST, ahead of the names: the tables' words, and 'selects' of the private methods out of them =====
/-- a private method of a class that the tables say can be made, by its rows of tables_1 -/
def lw_okq (q : MethodName × Nat) : Prop := (q.1.cls ≠ "java/lang/invoke/MethodHandle" ∧ q.1.cls ≠ "java/lang/invoke/VarHandle") ∧ Cond.instantiable q.1.cls q.2 ∈ tables_1 ∧ Cond.privateMethod q.1 ∈ tables_1 ∧ Cond.instanceMethod q.1 ∈ tables_1
theorem lw_p0 : lw_okq (⟨"BowlsWithin", "bytesRefusal", "(I)I"⟩, 7) := ⟨⟨by decide +kernel, by decide +kernel⟩, List.mem_of_getElem? (i := 24) (by decide +kernel), List.mem_of_getElem? (i := 234) (by decide +kernel), List.mem_of_getElem? (i := 235) (by decide +kernel)⟩
theorem lw_p1 : lw_okq (⟨"BowlsWithin", "shelfRefusal", "(II)I"⟩, 7) := ⟨⟨by decide +kernel, by decide +kernel⟩, List.mem_of_getElem? (i := 24) (by decide +kernel), List.mem_of_getElem? (i := 238) (by decide +kernel), List.mem_of_getElem? (i := 239) (by decide +kernel)⟩
theorem lw_p2 : lw_okq (⟨"BowlsWithin$Shelf", "digitEnd", "(I)I"⟩, 6) := ⟨⟨by decide +kernel, by decide +kernel⟩, List.mem_of_getElem? (i := 177) (by decide +kernel), List.mem_of_getElem? (i := 264) (by decide +kernel), List.mem_of_getElem? (i := 265) (by decide +kernel)⟩
theorem lw_p3 : lw_okq (⟨"BowlsWithin$Shelf", "isDigit", "(I)Z"⟩, 6) := ⟨⟨by decide +kernel, by decide +kernel⟩, List.mem_of_getElem? (i := 177) (by decide +kernel), List.mem_of_getElem? (i := 268) (by decide +kernel), List.mem_of_getElem? (i := 269) (by decide +kernel)⟩
theorem lw_p4 : lw_okq (⟨"BowlsWithin$Shelf", "signEnd", "(II)I"⟩, 6) := ⟨⟨by decide +kernel, by decide +kernel⟩, List.mem_of_getElem? (i := 177) (by decide +kernel), List.mem_of_getElem? (i := 276) (by decide +kernel), List.mem_of_getElem? (i := 277) (by decide +kernel)⟩
theorem lw_p5 : lw_okq (⟨"BowlsWithin", "tellAll", "(LBowlsWithin$Shelf;)I"⟩, 7) := ⟨⟨by decide +kernel, by decide +kernel⟩, List.mem_of_getElem? (i := 24) (by decide +kernel), List.mem_of_getElem? (i := 280) (by decide +kernel), List.mem_of_getElem? (i := 281) (by decide +kernel)⟩
theorem lw_p6 : lw_okq (⟨"BowlsWithin$Heap", "tellBowl", "(LBowlsWithin$Shelf;I)Z"⟩, 9) := ⟨⟨by decide +kernel, by decide +kernel⟩, List.mem_of_getElem? (i := 89) (by decide +kernel), List.mem_of_getElem? (i := 296) (by decide +kernel), List.mem_of_getElem? (i := 297) (by decide +kernel)⟩
theorem lw_p7 : lw_okq (⟨"BowlsWithin$Heap", "place", "(IIIII)V"⟩, 9) := ⟨⟨by decide +kernel, by decide +kernel⟩, List.mem_of_getElem? (i := 89) (by decide +kernel), List.mem_of_getElem? (i := 314) (by decide +kernel), List.mem_of_getElem? (i := 315) (by decide +kernel)⟩
theorem lw_p8 : lw_okq (⟨"BowlsWithin", "bowlRefusal", "(I)I"⟩, 7) := ⟨⟨by decide +kernel, by decide +kernel⟩, List.mem_of_getElem? (i := 24) (by decide +kernel), List.mem_of_getElem? (i := 431) (by decide +kernel), List.mem_of_getElem? (i := 432) (by decide +kernel)⟩
theorem lw_p9 : lw_okq (⟨"BowlsWithin", "arePair", "(II)Z"⟩, 7) := ⟨⟨by decide +kernel, by decide +kernel⟩, List.mem_of_getElem? (i := 24) (by decide +kernel), List.mem_of_getElem? (i := 452) (by decide +kernel), List.mem_of_getElem? (i := 453) (by decide +kernel)⟩
theorem lw_p10 : lw_okq (⟨"BowlsWithin$Heap", "agree", "(II)Z"⟩, 9) := ⟨⟨by decide +kernel, by decide +kernel⟩, List.mem_of_getElem? (i := 89) (by decide +kernel), List.mem_of_getElem? (i := 460) (by decide +kernel), List.mem_of_getElem? (i := 461) (by decide +kernel)⟩
theorem lw_p11 : lw_okq (⟨"BowlsWithin", "areBowls", "(I)Z"⟩, 7) := ⟨⟨by decide +kernel, by decide +kernel⟩, List.mem_of_getElem? (i := 24) (by decide +kernel), List.mem_of_getElem? (i := 484) (by decide +kernel), List.mem_of_getElem? (i := 485) (by decide +kernel)⟩
theorem lw_p12 : lw_okq (⟨"BowlsWithin$Nests", "growBy", "(LBowlsWithin$Heap;I)V"⟩, 11) := ⟨⟨by decide +kernel, by decide +kernel⟩, List.mem_of_getElem? (i := 136) (by decide +kernel), List.mem_of_getElem? (i := 519) (by decide +kernel), List.mem_of_getElem? (i := 520) (by decide +kernel)⟩
theorem lw_p13 : lw_okq (⟨"BowlsWithin$Nests", "note", "(III)V"⟩, 11) := ⟨⟨by decide +kernel, by decide +kernel⟩, List.mem_of_getElem? (i := 136) (by decide +kernel), List.mem_of_getElem? (i := 524) (by decide +kernel), List.mem_of_getElem? (i := 525) (by decide +kernel)⟩
theorem lw_p14 : lw_okq (⟨"BowlsWithin$Nests", "isLonger", "(II)Z"⟩, 11) := ⟨⟨by decide +kernel, by decide +kernel⟩, List.mem_of_getElem? (i := 136) (by decide +kernel), List.mem_of_getElem? (i := 532) (by decide +kernel), List.mem_of_getElem? (i := 533) (by decide +kernel)⟩
theorem lw_p15 : lw_okq (⟨"BowlsWithin$Nests", "isApart", "(I)Z"⟩, 11) := ⟨⟨by decide +kernel, by decide +kernel⟩, List.mem_of_getElem? (i := 136) (by decide +kernel), List.mem_of_getElem? (i := 565) (by decide +kernel), List.mem_of_getElem? (i := 566) (by decide +kernel)⟩
def lw_privs_1 : List (MethodName × Nat) := [(⟨"BowlsWithin", "bytesRefusal", "(I)I"⟩, 7), (⟨"BowlsWithin", "shelfRefusal", "(II)I"⟩, 7), (⟨"BowlsWithin$Shelf", "digitEnd", "(I)I"⟩, 6), (⟨"BowlsWithin$Shelf", "isDigit", "(I)Z"⟩, 6), (⟨"BowlsWithin$Shelf", "signEnd", "(II)I"⟩, 6), (⟨"BowlsWithin", "tellAll", "(LBowlsWithin$Shelf;)I"⟩, 7), (⟨"BowlsWithin$Heap", "tellBowl", "(LBowlsWithin$Shelf;I)Z"⟩, 9), (⟨"BowlsWithin$Heap", "place", "(IIIII)V"⟩, 9), (⟨"BowlsWithin", "bowlRefusal", "(I)I"⟩, 7), (⟨"BowlsWithin", "arePair", "(II)Z"⟩, 7), (⟨"BowlsWithin$Heap", "agree", "(II)Z"⟩, 9), (⟨"BowlsWithin", "areBowls", "(I)Z"⟩, 7), (⟨"BowlsWithin$Nests", "growBy", "(LBowlsWithin$Heap;I)V"⟩, 11), (⟨"BowlsWithin$Nests", "note", "(III)V"⟩, 11), (⟨"BowlsWithin$Nests", "isLonger", "(II)Z"⟩, 11), (⟨"BowlsWithin$Nests", "isApart", "(I)Z"⟩, 11)]
theorem lw_r1 : ∀ q ∈ lw_privs_1, lw_okq q := List.forall_mem_cons.mpr ⟨lw_p0, List.forall_mem_cons.mpr ⟨lw_p1, List.forall_mem_cons.mpr ⟨lw_p2, List.forall_mem_cons.mpr ⟨lw_p3, List.forall_mem_cons.mpr ⟨lw_p4, List.forall_mem_cons.mpr ⟨lw_p5, List.forall_mem_cons.mpr ⟨lw_p6, List.forall_mem_cons.mpr ⟨lw_p7, List.forall_mem_cons.mpr ⟨lw_p8, List.forall_mem_cons.mpr ⟨lw_p9, List.forall_mem_cons.mpr ⟨lw_p10, List.forall_mem_cons.mpr ⟨lw_p11, List.forall_mem_cons.mpr ⟨lw_p12, List.forall_mem_cons.mpr ⟨lw_p13, List.forall_mem_cons.mpr ⟨lw_p14, List.forall_mem_cons.mpr ⟨lw_p15, fun _ h => absurd h List.not_mem_nil⟩⟩⟩⟩⟩⟩⟩⟩⟩⟩⟩⟩⟩⟩⟩⟩
theorem lw_p16 : lw_okq (⟨"BowlsWithin", "isBridged", "(III)Z"⟩, 7) := ⟨⟨by decide +kernel, by decide +kernel⟩, List.mem_of_getElem? (i := 24) (by decide +kernel), List.mem_of_getElem? (i := 598) (by decide +kernel), List.mem_of_getElem? (i := 599) (by decide +kernel)⟩
theorem lw_p17 : lw_okq (⟨"BowlsWithin$Nests", "lengthenInward", "(I)V"⟩, 11) := ⟨⟨by decide +kernel, by decide +kernel⟩, List.mem_of_getElem? (i := 136) (by decide +kernel), List.mem_of_getElem? (i := 610) (by decide +kernel), List.mem_of_getElem? (i := 611) (by decide +kernel)⟩
theorem lw_p18 : lw_okq (⟨"BowlsWithin$Nests", "lengthenOutward", "(I)V"⟩, 11) := ⟨⟨by decide +kernel, by decide +kernel⟩, List.mem_of_getElem? (i := 136) (by decide +kernel), List.mem_of_getElem? (i := 615) (by decide +kernel), List.mem_of_getElem? (i := 616) (by decide +kernel)⟩
theorem lw_p19 : lw_okq (⟨"BowlsWithin", "firstMisplaced", "(LBowlsWithin$Shelf;)I"⟩, 7) := ⟨⟨by decide +kernel, by decide +kernel⟩, List.mem_of_getElem? (i := 24) (by decide +kernel), List.mem_of_getElem? (i := 627) (by decide +kernel), List.mem_of_getElem? (i := 628) (by decide +kernel)⟩
theorem lw_p20 : lw_okq (⟨"BowlsWithin", "rowRefusal", "(I)I"⟩, 7) := ⟨⟨by decide +kernel, by decide +kernel⟩, List.mem_of_getElem? (i := 24) (by decide +kernel), List.mem_of_getElem? (i := 636) (by decide +kernel), List.mem_of_getElem? (i := 637) (by decide +kernel)⟩
theorem lw_p21 : lw_okq (⟨"BowlsWithin", "pairsPerhaps", "(II)I"⟩, 7) := ⟨⟨by decide +kernel, by decide +kernel⟩, List.mem_of_getElem? (i := 24) (by decide +kernel), List.mem_of_getElem? (i := 653) (by decide +kernel), List.mem_of_getElem? (i := 654) (by decide +kernel)⟩
theorem lw_p22 : lw_okq (⟨"BowlsWithin", "brokenBy", "(II)I"⟩, 7) := ⟨⟨by decide +kernel, by decide +kernel⟩, List.mem_of_getElem? (i := 24) (by decide +kernel), List.mem_of_getElem? (i := 665) (by decide +kernel), List.mem_of_getElem? (i := 666) (by decide +kernel)⟩
theorem lw_p23 : lw_okq (⟨"java/lang/Throwable", "fillInStackTrace", "(I)Ljava/lang/Throwable;"⟩, 6) := ⟨⟨by decide +kernel, by decide +kernel⟩, List.mem_of_getElem? (i := 820) (by decide +kernel), List.mem_of_getElem? (i := 818) (by decide +kernel), List.mem_of_getElem? (i := 819) (by decide +kernel)⟩
theorem lw_p24 : lw_okq (⟨"BowlsWithinModel", "wrongRow", "(II)I"⟩, 20) := ⟨⟨by decide +kernel, by decide +kernel⟩, List.mem_of_getElem? (i := 905) (by decide +kernel), List.mem_of_getElem? (i := 980) (by decide +kernel), List.mem_of_getElem? (i := 981) (by decide +kernel)⟩
theorem lw_p25 : lw_okq (⟨"BowlsWithinModel", "readsStatement", "()Z"⟩, 20) := ⟨⟨by decide +kernel, by decide +kernel⟩, List.mem_of_getElem? (i := 905) (by decide +kernel), List.mem_of_getElem? (i := 991) (by decide +kernel), List.mem_of_getElem? (i := 992) (by decide +kernel)⟩
theorem lw_p26 : lw_okq (⟨"BowlsWithinModel", "here", "()I"⟩, 20) := ⟨⟨by decide +kernel, by decide +kernel⟩, List.mem_of_getElem? (i := 905) (by decide +kernel), List.mem_of_getElem? (i := 995) (by decide +kernel), List.mem_of_getElem? (i := 996) (by decide +kernel)⟩
theorem lw_p27 : lw_okq (⟨"BowlsWithinModel", "readsNumber", "(I)Z"⟩, 20) := ⟨⟨by decide +kernel, by decide +kernel⟩, List.mem_of_getElem? (i := 905) (by decide +kernel), List.mem_of_getElem? (i := 999) (by decide +kernel), List.mem_of_getElem? (i := 1000) (by decide +kernel)⟩
theorem lw_p28 : lw_okq (⟨"BowlsWithinModel", "isDigit", "()Z"⟩, 20) := ⟨⟨by decide +kernel, by decide +kernel⟩, List.mem_of_getElem? (i := 905) (by decide +kernel), List.mem_of_getElem? (i := 1003) (by decide +kernel), List.mem_of_getElem? (i := 1004) (by decide +kernel)⟩
theorem lw_p29 : lw_okq (⟨"BowlsWithinModel", "takes", "(I)Z"⟩, 20) := ⟨⟨by decide +kernel, by decide +kernel⟩, List.mem_of_getElem? (i := 905) (by decide +kernel), List.mem_of_getElem? (i := 1009) (by decide +kernel), List.mem_of_getElem? (i := 1010) (by decide +kernel)⟩
theorem lw_p30 : lw_okq (⟨"BowlsWithinModel", "comesTold", "(I)Z"⟩, 20) := ⟨⟨by decide +kernel, by decide +kernel⟩, List.mem_of_getElem? (i := 905) (by decide +kernel), List.mem_of_getElem? (i := 1016) (by decide +kernel), List.mem_of_getElem? (i := 1017) (by decide +kernel)⟩
theorem lw_p31 : lw_okq (⟨"BowlsWithinModel", "puts", "(III)V"⟩, 20) := ⟨⟨by decide +kernel, by decide +kernel⟩, List.mem_of_getElem? (i := 905) (by decide +kernel), List.mem_of_getElem? (i := 1020) (by decide +kernel), List.mem_of_getElem? (i := 1021) (by decide +kernel)⟩
def lw_privs_2 : List (MethodName × Nat) := [(⟨"BowlsWithin", "isBridged", "(III)Z"⟩, 7), (⟨"BowlsWithin$Nests", "lengthenInward", "(I)V"⟩, 11), (⟨"BowlsWithin$Nests", "lengthenOutward", "(I)V"⟩, 11), (⟨"BowlsWithin", "firstMisplaced", "(LBowlsWithin$Shelf;)I"⟩, 7), (⟨"BowlsWithin", "rowRefusal", "(I)I"⟩, 7), (⟨"BowlsWithin", "pairsPerhaps", "(II)I"⟩, 7), (⟨"BowlsWithin", "brokenBy", "(II)I"⟩, 7), (⟨"java/lang/Throwable", "fillInStackTrace", "(I)Ljava/lang/Throwable;"⟩, 6), (⟨"BowlsWithinModel", "wrongRow", "(II)I"⟩, 20), (⟨"BowlsWithinModel", "readsStatement", "()Z"⟩, 20), (⟨"BowlsWithinModel", "here", "()I"⟩, 20), (⟨"BowlsWithinModel", "readsNumber", "(I)Z"⟩, 20), (⟨"BowlsWithinModel", "isDigit", "()Z"⟩, 20), (⟨"BowlsWithinModel", "takes", "(I)Z"⟩, 20), (⟨"BowlsWithinModel", "comesTold", "(I)Z"⟩, 20), (⟨"BowlsWithinModel", "puts", "(III)V"⟩, 20)]
theorem lw_r2 : ∀ q ∈ lw_privs_2, lw_okq q := List.forall_mem_cons.mpr ⟨lw_p16, List.forall_mem_cons.mpr ⟨lw_p17, List.forall_mem_cons.mpr ⟨lw_p18, List.forall_mem_cons.mpr ⟨lw_p19, List.forall_mem_cons.mpr ⟨lw_p20, List.forall_mem_cons.mpr ⟨lw_p21, List.forall_mem_cons.mpr ⟨lw_p22, List.forall_mem_cons.mpr ⟨lw_p23, List.forall_mem_cons.mpr ⟨lw_p24, List.forall_mem_cons.mpr ⟨lw_p25, List.forall_mem_cons.mpr ⟨lw_p26, List.forall_mem_cons.mpr ⟨lw_p27, List.forall_mem_cons.mpr ⟨lw_p28, List.forall_mem_cons.mpr ⟨lw_p29, List.forall_mem_cons.mpr ⟨lw_p30, List.forall_mem_cons.mpr ⟨lw_p31, fun _ h => absurd h List.not_mem_nil⟩⟩⟩⟩⟩⟩⟩⟩⟩⟩⟩⟩⟩⟩⟩⟩
theorem lw_p32 : lw_okq (⟨"BowlsWithinModel", "isBowl", "(I)Z"⟩, 20) := ⟨⟨by decide +kernel, by decide +kernel⟩, List.mem_of_getElem? (i := 905) (by decide +kernel), List.mem_of_getElem? (i := 1024) (by decide +kernel), List.mem_of_getElem? (i := 1025) (by decide +kernel)⟩
theorem lw_p33 : lw_okq (⟨"BowlsWithinModel", "get", "(II)I"⟩, 20) := ⟨⟨by decide +kernel, by decide +kernel⟩, List.mem_of_getElem? (i := 905) (by decide +kernel), List.mem_of_getElem? (i := 1028) (by decide +kernel), List.mem_of_getElem? (i := 1029) (by decide +kernel)⟩
theorem lw_p34 : lw_okq (⟨"BowlsWithinModel", "outside", "(I)I"⟩, 20) := ⟨⟨by decide +kernel, by decide +kernel⟩, List.mem_of_getElem? (i := 905) (by decide +kernel), List.mem_of_getElem? (i := 1036) (by decide +kernel), List.mem_of_getElem? (i := 1037) (by decide +kernel)⟩
theorem lw_p35 : lw_okq (⟨"BowlsWithinModel", "outsideBy", "(II)I"⟩, 20) := ⟨⟨by decide +kernel, by decide +kernel⟩, List.mem_of_getElem? (i := 905) (by decide +kernel), List.mem_of_getElem? (i := 1040) (by decide +kernel), List.mem_of_getElem? (i := 1041) (by decide +kernel)⟩
theorem lw_p36 : lw_okq (⟨"BowlsWithinModel", "turned", "(I)I"⟩, 20) := ⟨⟨by decide +kernel, by decide +kernel⟩, List.mem_of_getElem? (i := 905) (by decide +kernel), List.mem_of_getElem? (i := 1044) (by decide +kernel), List.mem_of_getElem? (i := 1045) (by decide +kernel)⟩
theorem lw_p37 : lw_okq (⟨"BowlsWithinModel", "inside", "(I)I"⟩, 20) := ⟨⟨by decide +kernel, by decide +kernel⟩, List.mem_of_getElem? (i := 905) (by decide +kernel), List.mem_of_getElem? (i := 1048) (by decide +kernel), List.mem_of_getElem? (i := 1049) (by decide +kernel)⟩
theorem lw_p38 : lw_okq (⟨"BowlsWithinModel", "insideBy", "(III)I"⟩, 20) := ⟨⟨by decide +kernel, by decide +kernel⟩, List.mem_of_getElem? (i := 905) (by decide +kernel), List.mem_of_getElem? (i := 1052) (by decide +kernel), List.mem_of_getElem? (i := 1053) (by decide +kernel)⟩
theorem lw_p39 : lw_okq (⟨"BowlsWithinModel", "rise", "(I)I"⟩, 20) := ⟨⟨by decide +kernel, by decide +kernel⟩, List.mem_of_getElem? (i := 905) (by decide +kernel), List.mem_of_getElem? (i := 1056) (by decide +kernel), List.mem_of_getElem? (i := 1057) (by decide +kernel)⟩
theorem lw_p40 : lw_okq (⟨"BowlsWithinModel", "wrongKept", "(I)I"⟩, 20) := ⟨⟨by decide +kernel, by decide +kernel⟩, List.mem_of_getElem? (i := 905) (by decide +kernel), List.mem_of_getElem? (i := 1065) (by decide +kernel), List.mem_of_getElem? (i := 1066) (by decide +kernel)⟩
theorem lw_p41 : lw_okq (⟨"BowlsWithinModel", "adds", "(IIIII)V"⟩, 20) := ⟨⟨by decide +kernel, by decide +kernel⟩, List.mem_of_getElem? (i := 905) (by decide +kernel), List.mem_of_getElem? (i := 1069) (by decide +kernel), List.mem_of_getElem? (i := 1070) (by decide +kernel)⟩
theorem lw_p42 : lw_okq (⟨"BowlsWithinModel", "liesNow", "(II)Z"⟩, 20) := ⟨⟨by decide +kernel, by decide +kernel⟩, List.mem_of_getElem? (i := 905) (by decide +kernel), List.mem_of_getElem? (i := 1086) (by decide +kernel), List.mem_of_getElem? (i := 1087) (by decide +kernel)⟩
theorem lw_p43 : lw_okq (⟨"BowlsWithinModel", "liesAt", "(III)Z"⟩, 20) := ⟨⟨by decide +kernel, by decide +kernel⟩, List.mem_of_getElem? (i := 905) (by decide +kernel), List.mem_of_getElem? (i := 1090) (by decide +kernel), List.mem_of_getElem? (i := 1091) (by decide +kernel)⟩
theorem lw_p44 : lw_okq (⟨"BowlsWithinModel", "fitsBut", "(II)Z"⟩, 20) := ⟨⟨by decide +kernel, by decide +kernel⟩, List.mem_of_getElem? (i := 905) (by decide +kernel), List.mem_of_getElem? (i := 1094) (by decide +kernel), List.mem_of_getElem? (i := 1095) (by decide +kernel)⟩
theorem lw_p45 : lw_okq (⟨"BowlsWithinModel", "isOval", "(I)Z"⟩, 20) := ⟨⟨by decide +kernel, by decide +kernel⟩, List.mem_of_getElem? (i := 905) (by decide +kernel), List.mem_of_getElem? (i := 1098) (by decide +kernel), List.mem_of_getElem? (i := 1099) (by decide +kernel)⟩
theorem lw_p46 : lw_okq (⟨"BowlsWithinModel", "areBowls", "(I)Z"⟩, 20) := ⟨⟨by decide +kernel, by decide +kernel⟩, List.mem_of_getElem? (i := 905) (by decide +kernel), List.mem_of_getElem? (i := 1106) (by decide +kernel), List.mem_of_getElem? (i := 1107) (by decide +kernel)⟩
theorem lw_p47 : lw_okq (⟨"BowlsWithinModel", "everything", "()I"⟩, 20) := ⟨⟨by decide +kernel, by decide +kernel⟩, List.mem_of_getElem? (i := 905) (by decide +kernel), List.mem_of_getElem? (i := 1110) (by decide +kernel), List.mem_of_getElem? (i := 1111) (by decide +kernel)⟩
def lw_privs_3 : List (MethodName × Nat) := [(⟨"BowlsWithinModel", "isBowl", "(I)Z"⟩, 20), (⟨"BowlsWithinModel", "get", "(II)I"⟩, 20), (⟨"BowlsWithinModel", "outside", "(I)I"⟩, 20), (⟨"BowlsWithinModel", "outsideBy", "(II)I"⟩, 20), (⟨"BowlsWithinModel", "turned", "(I)I"⟩, 20), (⟨"BowlsWithinModel", "inside", "(I)I"⟩, 20), (⟨"BowlsWithinModel", "insideBy", "(III)I"⟩, 20), (⟨"BowlsWithinModel", "rise", "(I)I"⟩, 20), (⟨"BowlsWithinModel", "wrongKept", "(I)I"⟩, 20), (⟨"BowlsWithinModel", "adds", "(IIIII)V"⟩, 20), (⟨"BowlsWithinModel", "liesNow", "(II)Z"⟩, 20), (⟨"BowlsWithinModel", "liesAt", "(III)Z"⟩, 20), (⟨"BowlsWithinModel", "fitsBut", "(II)Z"⟩, 20), (⟨"BowlsWithinModel", "isOval", "(I)Z"⟩, 20), (⟨"BowlsWithinModel", "areBowls", "(I)Z"⟩, 20), (⟨"BowlsWithinModel", "everything", "()I"⟩, 20)]
theorem lw_r3 : ∀ q ∈ lw_privs_3, lw_okq q := List.forall_mem_cons.mpr ⟨lw_p32, List.forall_mem_cons.mpr ⟨lw_p33, List.forall_mem_cons.mpr ⟨lw_p34, List.forall_mem_cons.mpr ⟨lw_p35, List.forall_mem_cons.mpr ⟨lw_p36, List.forall_mem_cons.mpr ⟨lw_p37, List.forall_mem_cons.mpr ⟨lw_p38, List.forall_mem_cons.mpr ⟨lw_p39, List.forall_mem_cons.mpr ⟨lw_p40, List.forall_mem_cons.mpr ⟨lw_p41, List.forall_mem_cons.mpr ⟨lw_p42, List.forall_mem_cons.mpr ⟨lw_p43, List.forall_mem_cons.mpr ⟨lw_p44, List.forall_mem_cons.mpr ⟨lw_p45, List.forall_mem_cons.mpr ⟨lw_p46, List.forall_mem_cons.mpr ⟨lw_p47, fun _ h => absurd h List.not_mem_nil⟩⟩⟩⟩⟩⟩⟩⟩⟩⟩⟩⟩⟩⟩⟩⟩
theorem lw_p48 : lw_okq (⟨"BowlsWithinModel", "isNest", "(I)Z"⟩, 20) := ⟨⟨by decide +kernel, by decide +kernel⟩, List.mem_of_getElem? (i := 905) (by decide +kernel), List.mem_of_getElem? (i := 1114) (by decide +kernel), List.mem_of_getElem? (i := 1115) (by decide +kernel)⟩
theorem lw_p49 : lw_okq (⟨"BowlsWithinModel", "outermost", "(I)I"⟩, 20) := ⟨⟨by decide +kernel, by decide +kernel⟩, List.mem_of_getElem? (i := 905) (by decide +kernel), List.mem_of_getElem? (i := 1118) (by decide +kernel), List.mem_of_getElem? (i := 1119) (by decide +kernel)⟩
theorem lw_p50 : lw_okq (⟨"BowlsWithinModel", "heightOf", "(I)I"⟩, 20) := ⟨⟨by decide +kernel, by decide +kernel⟩, List.mem_of_getElem? (i := 905) (by decide +kernel), List.mem_of_getElem? (i := 1126) (by decide +kernel), List.mem_of_getElem? (i := 1127) (by decide +kernel)⟩
theorem lw_p51 : lw_okq (⟨"BowlsWithinModel", "longestOf", "(I)I"⟩, 20) := ⟨⟨by decide +kernel, by decide +kernel⟩, List.mem_of_getElem? (i := 905) (by decide +kernel), List.mem_of_getElem? (i := 1134) (by decide +kernel), List.mem_of_getElem? (i := 1135) (by decide +kernel)⟩
theorem lw_p52 : lw_okq (⟨"BowlsWithinModel", "leastOf", "(II)I"⟩, 20) := ⟨⟨by decide +kernel, by decide +kernel⟩, List.mem_of_getElem? (i := 905) (by decide +kernel), List.mem_of_getElem? (i := 1145) (by decide +kernel), List.mem_of_getElem? (i := 1146) (by decide +kernel)⟩
theorem lw_p53 : lw_okq (⟨"BowlsWithinModel", "counted", "(III)I"⟩, 20) := ⟨⟨by decide +kernel, by decide +kernel⟩, List.mem_of_getElem? (i := 905) (by decide +kernel), List.mem_of_getElem? (i := 1149) (by decide +kernel), List.mem_of_getElem? (i := 1150) (by decide +kernel)⟩
theorem lw_p54 : lw_okq (⟨"BowlsWithinModel", "areApart", "(I)Z"⟩, 20) := ⟨⟨by decide +kernel, by decide +kernel⟩, List.mem_of_getElem? (i := 905) (by decide +kernel), List.mem_of_getElem? (i := 1166) (by decide +kernel), List.mem_of_getElem? (i := 1167) (by decide +kernel)⟩
theorem lw_p55 : lw_okq (⟨"BowlsWithinModel", "wholeOf", "(II)I"⟩, 20) := ⟨⟨by decide +kernel, by decide +kernel⟩, List.mem_of_getElem? (i := 905) (by decide +kernel), List.mem_of_getElem? (i := 1174) (by decide +kernel), List.mem_of_getElem? (i := 1175) (by decide +kernel)⟩
theorem lw_p56 : lw_okq (⟨"BowlsWithinModel", "canBeBetween", "(II)Z"⟩, 20) := ⟨⟨by decide +kernel, by decide +kernel⟩, List.mem_of_getElem? (i := 905) (by decide +kernel), List.mem_of_getElem? (i := 1182) (by decide +kernel), List.mem_of_getElem? (i := 1183) (by decide +kernel)⟩
theorem lw_p57 : lw_okq (⟨"BowlsWithinModel", "longestRow", "(I)I"⟩, 20) := ⟨⟨by decide +kernel, by decide +kernel⟩, List.mem_of_getElem? (i := 905) (by decide +kernel), List.mem_of_getElem? (i := 1190) (by decide +kernel), List.mem_of_getElem? (i := 1191) (by decide +kernel)⟩
theorem lw_p58 : lw_okq (⟨"BowlsWithinModel", "wrongOut", "(I)I"⟩, 20) := ⟨⟨by decide +kernel, by decide +kernel⟩, List.mem_of_getElem? (i := 905) (by decide +kernel), List.mem_of_getElem? (i := 1198) (by decide +kernel), List.mem_of_getElem? (i := 1199) (by decide +kernel)⟩
theorem lw_p59 : lw_okq (⟨"BowlsWithinModel", "wrongAt", "(I)I"⟩, 20) := ⟨⟨by decide +kernel, by decide +kernel⟩, List.mem_of_getElem? (i := 905) (by decide +kernel), List.mem_of_getElem? (i := 1202) (by decide +kernel), List.mem_of_getElem? (i := 1203) (by decide +kernel)⟩
theorem lw_p60 : lw_okq (⟨"BowlsWithinModel", "spanOf", "(IIII)I"⟩, 20) := ⟨⟨by decide +kernel, by decide +kernel⟩, List.mem_of_getElem? (i := 905) (by decide +kernel), List.mem_of_getElem? (i := 1214) (by decide +kernel), List.mem_of_getElem? (i := 1215) (by decide +kernel)⟩
theorem lw_p61 : lw_okq (⟨"BowlsWithinModel", "perhaps", "(II)I"⟩, 20) := ⟨⟨by decide +kernel, by decide +kernel⟩, List.mem_of_getElem? (i := 905) (by decide +kernel), List.mem_of_getElem? (i := 1225) (by decide +kernel), List.mem_of_getElem? (i := 1226) (by decide +kernel)⟩
theorem lw_p62 : lw_okq (⟨"BowlsWithinModel", "drawn", "(I)I"⟩, 20) := ⟨⟨by decide +kernel, by decide +kernel⟩, List.mem_of_getElem? (i := 905) (by decide +kernel), List.mem_of_getElem? (i := 1238) (by decide +kernel), List.mem_of_getElem? (i := 1239) (by decide +kernel)⟩
def lw_privs_4 : List (MethodName × Nat) := [(⟨"BowlsWithinModel", "isNest", "(I)Z"⟩, 20), (⟨"BowlsWithinModel", "outermost", "(I)I"⟩, 20), (⟨"BowlsWithinModel", "heightOf", "(I)I"⟩, 20), (⟨"BowlsWithinModel", "longestOf", "(I)I"⟩, 20), (⟨"BowlsWithinModel", "leastOf", "(II)I"⟩, 20), (⟨"BowlsWithinModel", "counted", "(III)I"⟩, 20), (⟨"BowlsWithinModel", "areApart", "(I)Z"⟩, 20), (⟨"BowlsWithinModel", "wholeOf", "(II)I"⟩, 20), (⟨"BowlsWithinModel", "canBeBetween", "(II)Z"⟩, 20), (⟨"BowlsWithinModel", "longestRow", "(I)I"⟩, 20), (⟨"BowlsWithinModel", "wrongOut", "(I)I"⟩, 20), (⟨"BowlsWithinModel", "wrongAt", "(I)I"⟩, 20), (⟨"BowlsWithinModel", "spanOf", "(IIII)I"⟩, 20), (⟨"BowlsWithinModel", "perhaps", "(II)I"⟩, 20), (⟨"BowlsWithinModel", "drawn", "(I)I"⟩, 20)]
theorem lw_r4 : ∀ q ∈ lw_privs_4, lw_okq q := List.forall_mem_cons.mpr ⟨lw_p48, List.forall_mem_cons.mpr ⟨lw_p49, List.forall_mem_cons.mpr ⟨lw_p50, List.forall_mem_cons.mpr ⟨lw_p51, List.forall_mem_cons.mpr ⟨lw_p52, List.forall_mem_cons.mpr ⟨lw_p53, List.forall_mem_cons.mpr ⟨lw_p54, List.forall_mem_cons.mpr ⟨lw_p55, List.forall_mem_cons.mpr ⟨lw_p56, List.forall_mem_cons.mpr ⟨lw_p57, List.forall_mem_cons.mpr ⟨lw_p58, List.forall_mem_cons.mpr ⟨lw_p59, List.forall_mem_cons.mpr ⟨lw_p60, List.forall_mem_cons.mpr ⟨lw_p61, List.forall_mem_cons.mpr ⟨lw_p62, fun _ h => absurd h List.not_mem_nil⟩⟩⟩⟩⟩⟩⟩⟩⟩⟩⟩⟩⟩⟩⟩
def lw_privs : List (MethodName × Nat) := lw_privs_1 ++ (lw_privs_2 ++ (lw_privs_3 ++ (lw_privs_4)))
def lw_tbl : List Cond := k2_sels lw_privs ++ tables_1
theorem lw_privs_ok : ∀ q ∈ lw_privs, lw_okq q := by
  show ∀ q ∈ lw_privs_1 ++ (lw_privs_2 ++ (lw_privs_3 ++ (lw_privs_4))), lw_okq q
  exact List.forall_mem_append.mpr ⟨lw_r1, List.forall_mem_append.mpr ⟨lw_r2, List.forall_mem_append.mpr ⟨lw_r3, lw_r4⟩⟩⟩
end
section
/-! Names out of the printed text; zD: an instruction and the next place. -/
def zD (cc : ByteArray) (pc : Nat) (i : Instr) (len np : Nat) : Prop := decode cc pc = .ok (i, len) ∧ pc + len = np
def RX0 : String := "BowlsWithin$Bowl"
def TX0 : u_T := fun k => match k with
  | _ => ("", "", "", false)
def tyX0 : Nat → FieldType := fun k => match k with
  | _ => .int
abbrev wsX00 : List Cond := u_ws RX0 TX0 0
theorem nmX0 : ∀ a, a < 0 → ∀ b, b < 0 → a ≠ b → (TX0 a).2.1 ≠ (TX0 b).2.1 := by decide +kernel
theorem tyX0_ok : ∀ k, k < 0 → parseFieldDescriptor (TX0 k).2.2.1 = some (tyX0 k) := by decide +kernel
abbrev cX0_init : ByteArray := prog_2_method_1_code
def yX0_init : MethodName := ⟨RX0, "<init>", "()V"⟩
abbrev cX0_outside : ByteArray := prog_2_method_2_code
def yX0_outside : MethodName := ⟨RX0, "outside", "(III)I"⟩
abbrev cX0_inside : ByteArray := prog_2_method_3_code
def yX0_inside : MethodName := ⟨RX0, "inside", "(IIII)I"⟩
abbrev cX0_rise : ByteArray := prog_2_method_4_code
def yX0_rise : MethodName := ⟨RX0, "rise", "(I)I"⟩
abbrev cX0_cost : ByteArray := prog_2_method_5_code
def yX0_cost : MethodName := ⟨RX0, "cost", "(I)I"⟩
abbrev cX0_minds : ByteArray := prog_2_method_6_code
def yX0_minds : MethodName := ⟨RX0, "minds", "()Z"⟩
abbrev cX0_fail : ByteArray := prog_2_method_7_code
def yX0_fail : MethodName := ⟨RX0, "fail", "(I)V"⟩
def RX1 : String := "BowlsWithin$Deep"
def TX1 : u_T := fun k => match k with
  | _ => ("", "", "", false)
def tyX1 : Nat → FieldType := fun k => match k with
  | _ => .int
abbrev wsX10 : List Cond := u_ws RX1 TX1 0
theorem nmX1 : ∀ a, a < 0 → ∀ b, b < 0 → a ≠ b → (TX1 a).2.1 ≠ (TX1 b).2.1 := by decide +kernel
theorem tyX1_ok : ∀ k, k < 0 → parseFieldDescriptor (TX1 k).2.2.1 = some (tyX1 k) := by decide +kernel
abbrev cX1_init : ByteArray := prog_3_method_1_code
def yX1_init : MethodName := ⟨RX1, "<init>", "()V"⟩
abbrev cX1_rise : ByteArray := prog_3_method_2_code
def yX1_rise : MethodName := ⟨RX1, "rise", "(I)I"⟩
abbrev cX1_cost : ByteArray := prog_3_method_3_code
def yX1_cost : MethodName := ⟨RX1, "cost", "(I)I"⟩
def RX2 : String := "BowlsWithin$Flat"
def TX2 : u_T := fun k => match k with
  | _ => ("", "", "", false)
def tyX2 : Nat → FieldType := fun k => match k with
  | _ => .int
abbrev wsX20 : List Cond := u_ws RX2 TX2 0
theorem nmX2 : ∀ a, a < 0 → ∀ b, b < 0 → a ≠ b → (TX2 a).2.1 ≠ (TX2 b).2.1 := by decide +kernel
theorem tyX2_ok : ∀ k, k < 0 → parseFieldDescriptor (TX2 k).2.2.1 = some (tyX2 k) := by decide +kernel
abbrev cX2_init : ByteArray := prog_4_method_1_code
def yX2_init : MethodName := ⟨RX2, "<init>", "()V"⟩
abbrev cX2_rise : ByteArray := prog_4_method_2_code
def yX2_rise : MethodName := ⟨RX2, "rise", "(I)I"⟩
abbrev cX2_cost : ByteArray := prog_4_method_3_code
def yX2_cost : MethodName := ⟨RX2, "cost", "(I)I"⟩
abbrev cX2_fail : ByteArray := prog_4_method_4_code
def yX2_fail : MethodName := ⟨RX2, "fail", "(I)V"⟩
def RX3 : String := "BowlsWithin$Foot"
def TX3 : u_T := fun k => match k with
  | _ => ("", "", "", false)
def tyX3 : Nat → FieldType := fun k => match k with
  | _ => .int
abbrev wsX30 : List Cond := u_ws RX3 TX3 0
theorem nmX3 : ∀ a, a < 0 → ∀ b, b < 0 → a ≠ b → (TX3 a).2.1 ≠ (TX3 b).2.1 := by decide +kernel
theorem tyX3_ok : ∀ k, k < 0 → parseFieldDescriptor (TX3 k).2.2.1 = some (tyX3 k) := by decide +kernel
abbrev cX3_init : ByteArray := prog_5_method_1_code
def yX3_init : MethodName := ⟨RX3, "<init>", "()V"⟩
abbrev cX3_inside : ByteArray := prog_5_method_2_code
def yX3_inside : MethodName := ⟨RX3, "inside", "(IIII)I"⟩
abbrev cX3_rise : ByteArray := prog_5_method_3_code
def yX3_rise : MethodName := ⟨RX3, "rise", "(I)I"⟩
abbrev cX3_cost : ByteArray := prog_5_method_4_code
def yX3_cost : MethodName := ⟨RX3, "cost", "(I)I"⟩
def RX4 : String := "BowlsWithin$Glued"
def TX4 : u_T := fun k => match k with
  | _ => ("", "", "", false)
def tyX4 : Nat → FieldType := fun k => match k with
  | _ => .int
abbrev wsX40 : List Cond := u_ws RX4 TX4 0
theorem nmX4 : ∀ a, a < 0 → ∀ b, b < 0 → a ≠ b → (TX4 a).2.1 ≠ (TX4 b).2.1 := by decide +kernel
theorem tyX4_ok : ∀ k, k < 0 → parseFieldDescriptor (TX4 k).2.2.1 = some (tyX4 k) := by decide +kernel
abbrev cX4_init : ByteArray := prog_6_method_1_code
def yX4_init : MethodName := ⟨RX4, "<init>", "()V"⟩
abbrev cX4_outside : ByteArray := prog_6_method_2_code
def yX4_outside : MethodName := ⟨RX4, "outside", "(III)I"⟩
abbrev cX4_inside : ByteArray := prog_6_method_3_code
def yX4_inside : MethodName := ⟨RX4, "inside", "(IIII)I"⟩
abbrev cX4_cost : ByteArray := prog_6_method_4_code
def yX4_cost : MethodName := ⟨RX4, "cost", "(I)I"⟩
abbrev cX4_fail : ByteArray := prog_6_method_5_code
def yX4_fail : MethodName := ⟨RX4, "fail", "(I)V"⟩
def RX5 : String := "BowlsWithin$Heap"
def TX5 : u_T := fun k => match k with
  | 0 => ("BowlsWithin$Heap", "kinds", "[LBowlsWithin$Bowl;", true)
  | 1 => ("BowlsWithin$Heap", "kind", "[I", true)
  | 2 => ("BowlsWithin$Heap", "figure", "[I", true)
  | 3 => ("BowlsWithin$Heap", "turned", "[I", true)
  | 4 => ("BowlsWithin$Heap", "width", "[I", true)
  | 5 => ("BowlsWithin$Heap", "depth", "[I", true)
  | 6 => ("BowlsWithin$Heap", "order", "[I", true)
  | 7 => ("BowlsWithin$Heap", "count", "I", false)
  | _ => ("BowlsWithin$Heap", "warmth", "I", false)
def tyX5 : Nat → FieldType := fun k => match k with
  | 0 => .array (.object "BowlsWithin$Bowl")
  | 1 => .array .int
  | 2 => .array .int
  | 3 => .array .int
  | 4 => .array .int
  | 5 => .array .int
  | 6 => .array .int
  | 7 => .int
  | _ => .int
abbrev wsX50 : List Cond := u_ws RX5 TX5 9
theorem nmX5 : ∀ a, a < 9 → ∀ b, b < 9 → a ≠ b → (TX5 a).2.1 ≠ (TX5 b).2.1 := by decide +kernel
theorem tyX5_ok : ∀ k, k < 9 → parseFieldDescriptor (TX5 k).2.2.1 = some (tyX5 k) := by decide +kernel
abbrev cX5_init : ByteArray := prog_7_method_1_code
def yX5_init : MethodName := ⟨RX5, "<init>", "([LBowlsWithin$Bowl;)V"⟩
abbrev cX5_become : ByteArray := prog_7_method_2_code
def yX5_become : MethodName := ⟨RX5, "become", "(LBowlsWithin$Heap;)V"⟩
abbrev cX5_has : ByteArray := prog_7_method_3_code
def yX5_has : MethodName := ⟨RX5, "has", "(I)Z"⟩
abbrev cX5_all : ByteArray := prog_7_method_4_code
def yX5_all : MethodName := ⟨RX5, "all", "()I"⟩
abbrev cX5_add : ByteArray := prog_7_method_5_code
def yX5_add : MethodName := ⟨RX5, "add", "(IIIII)Z"⟩
abbrev cX5_think : ByteArray := prog_7_method_6_code
def yX5_think : MethodName := ⟨RX5, "think", "(II)I"⟩
abbrev cX5_place : ByteArray := prog_7_method_7_code
def yX5_place : MethodName := ⟨RX5, "place", "(IIIII)V"⟩
abbrev cX5_dropLatest : ByteArray := prog_7_method_8_code
def yX5_dropLatest : MethodName := ⟨RX5, "dropLatest", "()Z"⟩
abbrev cX5_flip : ByteArray := prog_7_method_9_code
def yX5_flip : MethodName := ⟨RX5, "flip", "(I)Z"⟩
abbrev cX5_tell : ByteArray := prog_7_method_10_code
def yX5_tell : MethodName := ⟨RX5, "tell", "(LBowlsWithin$Shelf;I)Z"⟩
abbrev cX5_tellBowl : ByteArray := prog_7_method_11_code
def yX5_tellBowl : MethodName := ⟨RX5, "tellBowl", "(LBowlsWithin$Shelf;I)Z"⟩
abbrev cX5_outsideAt : ByteArray := prog_7_method_12_code
def yX5_outsideAt : MethodName := ⟨RX5, "outsideAt", "(II)I"⟩
abbrev cX5_insideAt : ByteArray := prog_7_method_13_code
def yX5_insideAt : MethodName := ⟨RX5, "insideAt", "(III)I"⟩
abbrev cX5_riseOf : ByteArray := prog_7_method_14_code
def yX5_riseOf : MethodName := ⟨RX5, "riseOf", "(I)I"⟩
abbrev cX5_isIn : ByteArray := prog_7_method_15_code
def yX5_isIn : MethodName := ⟨RX5, "isIn", "(III)Z"⟩
abbrev cX5_agree : ByteArray := prog_7_method_16_code
def yX5_agree : MethodName := ⟨RX5, "agree", "(II)Z"⟩
abbrev cX5_spanned : ByteArray := prog_7_method_17_code
def yX5_spanned : MethodName := ⟨RX5, "spanned", "(IIII)I"⟩
abbrev cX5_arrange : ByteArray := prog_7_method_18_code
def yX5_arrange : MethodName := ⟨RX5, "arrange", "()V"⟩
abbrev cX5_heightOf : ByteArray := prog_7_method_19_code
def yX5_heightOf : MethodName := ⟨RX5, "heightOf", "(I)I"⟩
abbrev cX5_pairsIn : ByteArray := prog_7_method_20_code
def yX5_pairsIn : MethodName := ⟨RX5, "pairsIn", "()I"⟩
abbrev cX5_allDepths : ByteArray := prog_7_method_21_code
def yX5_allDepths : MethodName := ⟨RX5, "allDepths", "()I"⟩
def RX6 : String := "BowlsWithin$Lid"
def TX6 : u_T := fun k => match k with
  | _ => ("", "", "", false)
def tyX6 : Nat → FieldType := fun k => match k with
  | _ => .int
abbrev wsX60 : List Cond := u_ws RX6 TX6 0
theorem nmX6 : ∀ a, a < 0 → ∀ b, b < 0 → a ≠ b → (TX6 a).2.1 ≠ (TX6 b).2.1 := by decide +kernel
theorem tyX6_ok : ∀ k, k < 0 → parseFieldDescriptor (TX6 k).2.2.1 = some (tyX6 k) := by decide +kernel
abbrev cX6_init : ByteArray := prog_8_method_1_code
def yX6_init : MethodName := ⟨RX6, "<init>", "()V"⟩
abbrev cX6_outside : ByteArray := prog_8_method_2_code
def yX6_outside : MethodName := ⟨RX6, "outside", "(III)I"⟩
abbrev cX6_inside : ByteArray := prog_8_method_3_code
def yX6_inside : MethodName := ⟨RX6, "inside", "(IIII)I"⟩
abbrev cX6_rise : ByteArray := prog_8_method_4_code
def yX6_rise : MethodName := ⟨RX6, "rise", "(I)I"⟩
abbrev cX6_cost : ByteArray := prog_8_method_5_code
def yX6_cost : MethodName := ⟨RX6, "cost", "(I)I"⟩
def RX7 : String := "BowlsWithin$Nests"
def TX7 : u_T := fun k => match k with
  | 0 => ("BowlsWithin$Nests", "heights", "[I", true)
  | 1 => ("BowlsWithin$Nests", "innermost", "[I", true)
  | 2 => ("BowlsWithin$Nests", "found", "[I", true)
  | 3 => ("BowlsWithin$Nests", "costs", "[I", true)
  | 4 => ("BowlsWithin$Nests", "least", "[I", true)
  | 5 => ("BowlsWithin$Nests", "around", "[I", true)
  | 6 => ("BowlsWithin$Nests", "longestInward", "[I", true)
  | 7 => ("BowlsWithin$Nests", "longestOutward", "[I", true)
  | 8 => ("BowlsWithin$Nests", "foundCount", "I", false)
  | 9 => ("BowlsWithin$Nests", "bowls", "I", false)
  | _ => ("BowlsWithin$Nests", "all", "I", false)
def tyX7 : Nat → FieldType := fun k => match k with
  | 0 => .array .int
  | 1 => .array .int
  | 2 => .array .int
  | 3 => .array .int
  | 4 => .array .int
  | 5 => .array .int
  | 6 => .array .int
  | 7 => .array .int
  | 8 => .int
  | 9 => .int
  | _ => .int
abbrev wsX70 : List Cond := u_ws RX7 TX7 11
theorem nmX7 : ∀ a, a < 11 → ∀ b, b < 11 → a ≠ b → (TX7 a).2.1 ≠ (TX7 b).2.1 := by decide +kernel
theorem tyX7_ok : ∀ k, k < 11 → parseFieldDescriptor (TX7 k).2.2.1 = some (tyX7 k) := by decide +kernel
abbrev cX7_init : ByteArray := prog_9_method_1_code
def yX7_init : MethodName := ⟨RX7, "<init>", "()V"⟩
abbrev cX7_findAll : ByteArray := prog_9_method_2_code
def yX7_findAll : MethodName := ⟨RX7, "findAll", "(LBowlsWithin$Heap;)V"⟩
abbrev cX7_growBy : ByteArray := prog_9_method_3_code
def yX7_growBy : MethodName := ⟨RX7, "growBy", "(LBowlsWithin$Heap;I)V"⟩
abbrev cX7_note : ByteArray := prog_9_method_4_code
def yX7_note : MethodName := ⟨RX7, "note", "(III)V"⟩
abbrev cX7_longestOf : ByteArray := prog_9_method_5_code
def yX7_longestOf : MethodName := ⟨RX7, "longestOf", "(I)I"⟩
abbrev cX7_isLonger : ByteArray := prog_9_method_6_code
def yX7_isLonger : MethodName := ⟨RX7, "isLonger", "(II)Z"⟩
abbrev cX7_mostApart : ByteArray := prog_9_method_7_code
def yX7_mostApart : MethodName := ⟨RX7, "mostApart", "()I"⟩
abbrev cX7_isApart : ByteArray := prog_9_method_8_code
def yX7_isApart : MethodName := ⟨RX7, "isApart", "(I)Z"⟩
abbrev cX7_costOneEach : ByteArray := prog_9_method_9_code
def yX7_costOneEach : MethodName := ⟨RX7, "costOneEach", "(I)V"⟩
abbrev cX7_costHeights : ByteArray := prog_9_method_10_code
def yX7_costHeights : MethodName := ⟨RX7, "costHeights", "()V"⟩
abbrev cX7_costLessForSetsOf : ByteArray := prog_9_method_11_code
def yX7_costLessForSetsOf : MethodName := ⟨RX7, "costLessForSetsOf", "(I)V"⟩
abbrev cX7_leastSum : ByteArray := prog_9_method_12_code
def yX7_leastSum : MethodName := ⟨RX7, "leastSum", "()I"⟩
abbrev cX7_findChains : ByteArray := prog_9_method_13_code
def yX7_findChains : MethodName := ⟨RX7, "findChains", "(LBowlsWithin$Heap;)V"⟩
abbrev cX7_lengthenInward : ByteArray := prog_9_method_14_code
def yX7_lengthenInward : MethodName := ⟨RX7, "lengthenInward", "(I)V"⟩
abbrev cX7_lengthenOutward : ByteArray := prog_9_method_15_code
def yX7_lengthenOutward : MethodName := ⟨RX7, "lengthenOutward", "(I)V"⟩
abbrev cX7_longestWith : ByteArray := prog_9_method_16_code
def yX7_longestWith : MethodName := ⟨RX7, "longestWith", "(LBowlsWithin$Heap;I)I"⟩
def RX8 : String := "BowlsWithin$Oval"
def TX8 : u_T := fun k => match k with
  | _ => ("", "", "", false)
def tyX8 : Nat → FieldType := fun k => match k with
  | _ => .int
abbrev wsX80 : List Cond := u_ws RX8 TX8 0
theorem nmX8 : ∀ a, a < 0 → ∀ b, b < 0 → a ≠ b → (TX8 a).2.1 ≠ (TX8 b).2.1 := by decide +kernel
theorem tyX8_ok : ∀ k, k < 0 → parseFieldDescriptor (TX8 k).2.2.1 = some (tyX8 k) := by decide +kernel
abbrev cX8_init : ByteArray := prog_10_method_1_code
def yX8_init : MethodName := ⟨RX8, "<init>", "()V"⟩
abbrev cX8_outside : ByteArray := prog_10_method_2_code
def yX8_outside : MethodName := ⟨RX8, "outside", "(III)I"⟩
abbrev cX8_inside : ByteArray := prog_10_method_3_code
def yX8_inside : MethodName := ⟨RX8, "inside", "(IIII)I"⟩
abbrev cX8_cost : ByteArray := prog_10_method_4_code
def yX8_cost : MethodName := ⟨RX8, "cost", "(I)I"⟩
abbrev cX8_minds : ByteArray := prog_10_method_5_code
def yX8_minds : MethodName := ⟨RX8, "minds", "()Z"⟩
def RX9 : String := "BowlsWithin$Second"
def TX9 : u_T := fun k => match k with
  | _ => ("", "", "", false)
def tyX9 : Nat → FieldType := fun k => match k with
  | _ => .int
abbrev wsX90 : List Cond := u_ws RX9 TX9 0
theorem nmX9 : ∀ a, a < 0 → ∀ b, b < 0 → a ≠ b → (TX9 a).2.1 ≠ (TX9 b).2.1 := by decide +kernel
theorem tyX9_ok : ∀ k, k < 0 → parseFieldDescriptor (TX9 k).2.2.1 = some (tyX9 k) := by decide +kernel
abbrev cX9_init : ByteArray := prog_11_method_1_code
def yX9_init : MethodName := ⟨RX9, "<init>", "()V"⟩
abbrev cX9_outside : ByteArray := prog_11_method_2_code
def yX9_outside : MethodName := ⟨RX9, "outside", "(III)I"⟩
abbrev cX9_cost : ByteArray := prog_11_method_3_code
def yX9_cost : MethodName := ⟨RX9, "cost", "(I)I"⟩
abbrev cX9_fail : ByteArray := prog_11_method_4_code
def yX9_fail : MethodName := ⟨RX9, "fail", "(I)V"⟩
def RX10 : String := "BowlsWithin$Shelf"
def TX10 : u_T := fun k => match k with
  | 0 => ("BowlsWithin$Shelf", "elements", "[I", true)
  | 1 => ("BowlsWithin$Shelf", "holds", "I", false)
  | 2 => ("BowlsWithin$Shelf", "kind", "I", false)
  | 3 => ("BowlsWithin$Shelf", "figure", "I", false)
  | 4 => ("BowlsWithin$Shelf", "sort", "I", false)
  | _ => ("BowlsWithin$Shelf", "size", "I", false)
def tyX10 : Nat → FieldType := fun k => match k with
  | 0 => .array .int
  | 1 => .int
  | 2 => .int
  | 3 => .int
  | 4 => .int
  | _ => .int
abbrev wsX100 : List Cond := u_ws RX10 TX10 6
theorem nmX10 : ∀ a, a < 6 → ∀ b, b < 6 → a ≠ b → (TX10 a).2.1 ≠ (TX10 b).2.1 := by decide +kernel
theorem tyX10_ok : ∀ k, k < 6 → parseFieldDescriptor (TX10 k).2.2.1 = some (tyX10 k) := by decide +kernel
abbrev cX10_init : ByteArray := prog_12_method_1_code
def yX10_init : MethodName := ⟨RX10, "<init>", "()V"⟩
abbrev cX10_clear : ByteArray := prog_12_method_2_code
def yX10_clear : MethodName := ⟨RX10, "clear", "()V"⟩
abbrev cX10_holdBowl : ByteArray := prog_12_method_3_code
def yX10_holdBowl : MethodName := ⟨RX10, "holdBowl", "(II)V"⟩
abbrev cX10_holdRow : ByteArray := prog_12_method_4_code
def yX10_holdRow : MethodName := ⟨RX10, "holdRow", "(II)V"⟩
abbrev cX10_hasPlace : ByteArray := prog_12_method_5_code
def yX10_hasPlace : MethodName := ⟨RX10, "hasPlace", "(I)Z"⟩
abbrev cX10_hasStretch : ByteArray := prog_12_method_6_code
def yX10_hasStretch : MethodName := ⟨RX10, "hasStretch", "(II)Z"⟩
abbrev cX10_set : ByteArray := prog_12_method_7_code
def yX10_set : MethodName := ⟨RX10, "set", "(II)V"⟩
abbrev cX10_at : ByteArray := prog_12_method_8_code
def yX10_at : MethodName := ⟨RX10, "at", "(I)I"⟩
abbrev cX10_digitAt : ByteArray := prog_12_method_9_code
def yX10_digitAt : MethodName := ⟨RX10, "digitAt", "(I)I"⟩
abbrev cX10_isDigit : ByteArray := prog_12_method_10_code
def yX10_isDigit : MethodName := ⟨RX10, "isDigit", "(I)Z"⟩
abbrev cX10_faultOfForm : ByteArray := prog_12_method_11_code
def yX10_faultOfForm : MethodName := ⟨RX10, "faultOfForm", "()I"⟩
abbrev cX10_statementEnd : ByteArray := prog_12_method_12_code
def yX10_statementEnd : MethodName := ⟨RX10, "statementEnd", "(I)I"⟩
abbrev cX10_signEnd : ByteArray := prog_12_method_13_code
def yX10_signEnd : MethodName := ⟨RX10, "signEnd", "(II)I"⟩
abbrev cX10_digitEnd : ByteArray := prog_12_method_14_code
def yX10_digitEnd : MethodName := ⟨RX10, "digitEnd", "(I)I"⟩
abbrev cX10_numberEnd : ByteArray := prog_12_method_15_code
def yX10_numberEnd : MethodName := ⟨RX10, "numberEnd", "(I)I"⟩
abbrev cX10_numberAt : ByteArray := prog_12_method_16_code
def yX10_numberAt : MethodName := ⟨RX10, "numberAt", "(I)I"⟩
def RX11 : String := "BowlsWithin"
def TX11 : u_T := fun k => match k with
  | 0 => ("BowlsWithin", "kinds", "[LBowlsWithin$Bowl;", true)
  | 1 => ("BowlsWithin", "now", "LBowlsWithin$Heap;", true)
  | 2 => ("BowlsWithin", "trial", "LBowlsWithin$Heap;", true)
  | 3 => ("BowlsWithin", "imaged", "LBowlsWithin$Heap;", true)
  | 4 => ("BowlsWithin", "nests", "LBowlsWithin$Nests;", true)
  | 5 => ("BowlsWithin", "shelves", "[LBowlsWithin$Shelf;", true)
  | _ => ("BowlsWithin", "hasImage", "Z", false)
def tyX11 : Nat → FieldType := fun k => match k with
  | 0 => .array (.object "BowlsWithin$Bowl")
  | 1 => .object "BowlsWithin$Heap"
  | 2 => .object "BowlsWithin$Heap"
  | 3 => .object "BowlsWithin$Heap"
  | 4 => .object "BowlsWithin$Nests"
  | 5 => .array (.object "BowlsWithin$Shelf")
  | _ => .boolean
abbrev wsX110 : List Cond := u_ws RX11 TX11 7
theorem nmX11 : ∀ a, a < 7 → ∀ b, b < 7 → a ≠ b → (TX11 a).2.1 ≠ (TX11 b).2.1 := by decide +kernel
theorem tyX11_ok : ∀ k, k < 7 → parseFieldDescriptor (TX11 k).2.2.1 = some (tyX11 k) := by decide +kernel
abbrev cX11_init : ByteArray := prog_1_method_1_code
def yX11_init : MethodName := ⟨RX11, "<init>", "()V"⟩
abbrev cX11_heap : ByteArray := prog_1_method_2_code
def yX11_heap : MethodName := ⟨RX11, "heap", "(I)I"⟩
abbrev cX11_bowl : ByteArray := prog_1_method_3_code
def yX11_bowl : MethodName := ⟨RX11, "bowl", "(II)I"⟩
abbrev cX11_comes : ByteArray := prog_1_method_4_code
def yX11_comes : MethodName := ⟨RX11, "comes", "(IIII)I"⟩
abbrev cX11_warm : ByteArray := prog_1_method_5_code
def yX11_warm : MethodName := ⟨RX11, "warm", "(I)I"⟩
abbrev cX11_turn : ByteArray := prog_1_method_6_code
def yX11_turn : MethodName := ⟨RX11, "turn", "(I)I"⟩
abbrev cX11_lies : ByteArray := prog_1_method_7_code
def yX11_lies : MethodName := ⟨RX11, "lies", "(II)I"⟩
abbrev cX11_nest : ByteArray := prog_1_method_8_code
def yX11_nest : MethodName := ⟨RX11, "nest", "(I)I"⟩
abbrev cX11_height : ByteArray := prog_1_method_9_code
def yX11_height : MethodName := ⟨RX11, "height", "(I)I"⟩
abbrev cX11_longest : ByteArray := prog_1_method_10_code
def yX11_longest : MethodName := ⟨RX11, "longest", "(II)I"⟩
abbrev cX11_fewest : ByteArray := prog_1_method_11_code
def yX11_fewest : MethodName := ⟨RX11, "fewest", "()I"⟩
abbrev cX11_apart : ByteArray := prog_1_method_12_code
def yX11_apart : MethodName := ⟨RX11, "apart", "(I)I"⟩
abbrev cX11_carry : ByteArray := prog_1_method_13_code
def yX11_carry : MethodName := ⟨RX11, "carry", "()I"⟩
abbrev cX11_load : ByteArray := prog_1_method_14_code
def yX11_load : MethodName := ⟨RX11, "load", "(I)I"⟩
abbrev cX11_whole : ByteArray := prog_1_method_15_code
def yX11_whole : MethodName := ⟨RX11, "whole", "(I)I"⟩
abbrev cX11_throwsNew : ByteArray := prog_1_method_16_code
def yX11_throwsNew : MethodName := ⟨RX11, "throwsNew", "()I"⟩
abbrev cX11_helps : ByteArray := prog_1_method_17_code
def yX11_helps : MethodName := ⟨RX11, "helps", "(II)I"⟩
abbrev cX11_out : ByteArray := prog_1_method_18_code
def yX11_out : MethodName := ⟨RX11, "out", "(II)I"⟩
abbrev cX11_judge : ByteArray := prog_1_method_19_code
def yX11_judge : MethodName := ⟨RX11, "judge", "(I)I"⟩
abbrev cX11_spans : ByteArray := prog_1_method_20_code
def yX11_spans : MethodName := ⟨RX11, "spans", "(III)I"⟩
abbrev cX11_next : ByteArray := prog_1_method_21_code
def yX11_next : MethodName := ⟨RX11, "next", "(II)I"⟩
abbrev cX11_from : ByteArray := prog_1_method_22_code
def yX11_from : MethodName := ⟨RX11, "from", "(IIII)I"⟩
abbrev cX11_breaks : ByteArray := prog_1_method_23_code
def yX11_breaks : MethodName := ⟨RX11, "breaks", "(III)I"⟩
abbrev cX11_image : ByteArray := prog_1_method_24_code
def yX11_image : MethodName := ⟨RX11, "image", "()I"⟩
abbrev cX11_restore : ByteArray := prog_1_method_25_code
def yX11_restore : MethodName := ⟨RX11, "restore", "()I"⟩
abbrev cX11_count : ByteArray := prog_1_method_26_code
def yX11_count : MethodName := ⟨RX11, "count", "(I)I"⟩
abbrev cX11_keep : ByteArray := prog_1_method_27_code
def yX11_keep : MethodName := ⟨RX11, "keep", "(IIII)I"⟩
abbrev cX11_row : ByteArray := prog_1_method_28_code
def yX11_row : MethodName := ⟨RX11, "row", "(III)I"⟩
abbrev cX11_put : ByteArray := prog_1_method_29_code
def yX11_put : MethodName := ⟨RX11, "put", "(III)I"⟩
abbrev cX11_element : ByteArray := prog_1_method_30_code
def yX11_element : MethodName := ⟨RX11, "element", "(II)J"⟩
abbrev cX11_copy : ByteArray := prog_1_method_31_code
def yX11_copy : MethodName := ⟨RX11, "copy", "(IIIII)I"⟩
abbrev cX11_price : ByteArray := prog_1_method_32_code
def yX11_price : MethodName := ⟨RX11, "price", "(I)I"⟩
abbrev cX11_toss : ByteArray := prog_1_method_33_code
def yX11_toss : MethodName := ⟨RX11, "toss", "(I)I"⟩
abbrev cX11_isWithin : ByteArray := prog_1_method_34_code
def yX11_isWithin : MethodName := ⟨RX11, "isWithin", "(III)Z"⟩
abbrev cX11_isShelf : ByteArray := prog_1_method_35_code
def yX11_isShelf : MethodName := ⟨RX11, "isShelf", "(I)Z"⟩
abbrev cX11_areHairs : ByteArray := prog_1_method_36_code
def yX11_areHairs : MethodName := ⟨RX11, "areHairs", "(I)Z"⟩
abbrev cX11_isWarmth : ByteArray := prog_1_method_37_code
def yX11_isWarmth : MethodName := ⟨RX11, "isWarmth", "(I)Z"⟩
abbrev cX11_areBowls : ByteArray := prog_1_method_38_code
def yX11_areBowls : MethodName := ⟨RX11, "areBowls", "(I)Z"⟩
abbrev cX11_arePair : ByteArray := prog_1_method_39_code
def yX11_arePair : MethodName := ⟨RX11, "arePair", "(II)Z"⟩
abbrev cX11_rowRefusal : ByteArray := prog_1_method_40_code
def yX11_rowRefusal : MethodName := ⟨RX11, "rowRefusal", "(I)I"⟩
abbrev cX11_bytesRefusal : ByteArray := prog_1_method_41_code
def yX11_bytesRefusal : MethodName := ⟨RX11, "bytesRefusal", "(I)I"⟩
abbrev cX11_bowlRefusal : ByteArray := prog_1_method_42_code
def yX11_bowlRefusal : MethodName := ⟨RX11, "bowlRefusal", "(I)I"⟩
abbrev cX11_shelfRefusal : ByteArray := prog_1_method_43_code
def yX11_shelfRefusal : MethodName := ⟨RX11, "shelfRefusal", "(II)I"⟩
abbrev cX11_tellAll : ByteArray := prog_1_method_44_code
def yX11_tellAll : MethodName := ⟨RX11, "tellAll", "(LBowlsWithin$Shelf;)I"⟩
abbrev cX11_firstMisplaced : ByteArray := prog_1_method_45_code
def yX11_firstMisplaced : MethodName := ⟨RX11, "firstMisplaced", "(LBowlsWithin$Shelf;)I"⟩
abbrev cX11_isBridged : ByteArray := prog_1_method_46_code
def yX11_isBridged : MethodName := ⟨RX11, "isBridged", "(III)Z"⟩
abbrev cX11_pairsPerhaps : ByteArray := prog_1_method_47_code
def yX11_pairsPerhaps : MethodName := ⟨RX11, "pairsPerhaps", "(II)I"⟩
abbrev cX11_brokenBy : ByteArray := prog_1_method_48_code
def yX11_brokenBy : MethodName := ⟨RX11, "brokenBy", "(II)I"⟩
def RX12 : String := "BowlsWithinModel"
def TX12 : u_T := fun k => match k with
  | 0 => ("BowlsWithinModel", "s", "[I", true)
  | 1 => ("BowlsWithinModel", "image", "[I", true)
  | 2 => ("BowlsWithinModel", "read", "[I", true)
  | 3 => ("BowlsWithinModel", "kept", "[I", true)
  | 4 => ("BowlsWithinModel", "sort", "[I", true)
  | 5 => ("BowlsWithinModel", "size", "[I", true)
  | 6 => ("BowlsWithinModel", "element", "[I", true)
  | 7 => ("BowlsWithinModel", "keptKind", "[I", true)
  | 8 => ("BowlsWithinModel", "keptFigure", "[I", true)
  | 9 => ("BowlsWithinModel", "hasImage", "Z", false)
  | 10 => ("BowlsWithinModel", "thrown", "I", false)
  | 11 => ("BowlsWithinModel", "pos", "I", false)
  | 12 => ("BowlsWithinModel", "base", "I", false)
  | 13 => ("BowlsWithinModel", "end", "I", false)
  | 14 => ("BowlsWithinModel", "told", "I", false)
  | 15 => ("BowlsWithinModel", "numbers", "[I", true)
  | 16 => ("BowlsWithinModel", "least", "[I", true)
  | 17 => ("BowlsWithinModel", "counts", "[I", true)
  | 18 => ("BowlsWithinModel", "row", "[I", true)
  | _ => ("BowlsWithinModel", "seed", "I", false)
def tyX12 : Nat → FieldType := fun k => match k with
  | 0 => .array .int
  | 1 => .array .int
  | 2 => .array .int
  | 3 => .array .int
  | 4 => .array .int
  | 5 => .array .int
  | 6 => .array .int
  | 7 => .array .int
  | 8 => .array .int
  | 9 => .boolean
  | 10 => .int
  | 11 => .int
  | 12 => .int
  | 13 => .int
  | 14 => .int
  | 15 => .array .int
  | 16 => .array .int
  | 17 => .array .int
  | 18 => .array .int
  | _ => .int
abbrev wsX120 : List Cond := u_ws RX12 TX12 20
theorem nmX12 : ∀ a, a < 20 → ∀ b, b < 20 → a ≠ b → (TX12 a).2.1 ≠ (TX12 b).2.1 := by decide +kernel
theorem tyX12_ok : ∀ k, k < 20 → parseFieldDescriptor (TX12 k).2.2.1 = some (tyX12 k) := by decide +kernel
abbrev cX12_init : ByteArray := prog_14_method_1_code
def yX12_init : MethodName := ⟨RX12, "<init>", "()V"⟩
abbrev cX12_thrown : ByteArray := prog_14_method_2_code
def yX12_thrown : MethodName := ⟨RX12, "thrown", "()I"⟩
abbrev cX12_isIn : ByteArray := prog_14_method_3_code
def yX12_isIn : MethodName := ⟨RX12, "isIn", "(JJJ)Z"⟩
abbrev cX12_isShelf : ByteArray := prog_14_method_4_code
def yX12_isShelf : MethodName := ⟨RX12, "isShelf", "(I)Z"⟩
abbrev cX12_isBowl : ByteArray := prog_14_method_5_code
def yX12_isBowl : MethodName := ⟨RX12, "isBowl", "(I)Z"⟩
abbrev cX12_get : ByteArray := prog_14_method_6_code
def yX12_get : MethodName := ⟨RX12, "get", "(II)I"⟩
abbrev cX12_puts : ByteArray := prog_14_method_7_code
def yX12_puts : MethodName := ⟨RX12, "puts", "(III)V"⟩
abbrev cX12_lays : ByteArray := prog_14_method_8_code
def yX12_lays : MethodName := ⟨RX12, "lays", "([I[I)V"⟩
abbrev cX12_bits : ByteArray := prog_14_method_9_code
def yX12_bits : MethodName := ⟨RX12, "bits", "(I)I"⟩
abbrev cX12_everything : ByteArray := prog_14_method_10_code
def yX12_everything : MethodName := ⟨RX12, "everything", "()I"⟩
abbrev cX12_areBowls : ByteArray := prog_14_method_11_code
def yX12_areBowls : MethodName := ⟨RX12, "areBowls", "(I)Z"⟩
abbrev cX12_turned : ByteArray := prog_14_method_12_code
def yX12_turned : MethodName := ⟨RX12, "turned", "(I)I"⟩
abbrev cX12_outsideBy : ByteArray := prog_14_method_13_code
def yX12_outsideBy : MethodName := ⟨RX12, "outsideBy", "(II)I"⟩
abbrev cX12_insideBy : ByteArray := prog_14_method_14_code
def yX12_insideBy : MethodName := ⟨RX12, "insideBy", "(III)I"⟩
abbrev cX12_outside : ByteArray := prog_14_method_15_code
def yX12_outside : MethodName := ⟨RX12, "outside", "(I)I"⟩
abbrev cX12_inside : ByteArray := prog_14_method_16_code
def yX12_inside : MethodName := ⟨RX12, "inside", "(I)I"⟩
abbrev cX12_rise : ByteArray := prog_14_method_17_code
def yX12_rise : MethodName := ⟨RX12, "rise", "(I)I"⟩
abbrev cX12_isOval : ByteArray := prog_14_method_18_code
def yX12_isOval : MethodName := ⟨RX12, "isOval", "(I)Z"⟩
abbrev cX12_fitsBut : ByteArray := prog_14_method_19_code
def yX12_fitsBut : MethodName := ⟨RX12, "fitsBut", "(II)Z"⟩
abbrev cX12_liesAt : ByteArray := prog_14_method_20_code
def yX12_liesAt : MethodName := ⟨RX12, "liesAt", "(III)Z"⟩
abbrev cX12_liesNow : ByteArray := prog_14_method_21_code
def yX12_liesNow : MethodName := ⟨RX12, "liesNow", "(II)Z"⟩
abbrev cX12_here : ByteArray := prog_14_method_22_code
def yX12_here : MethodName := ⟨RX12, "here", "()I"⟩
abbrev cX12_isDigit : ByteArray := prog_14_method_23_code
def yX12_isDigit : MethodName := ⟨RX12, "isDigit", "()Z"⟩
abbrev cX12_takes : ByteArray := prog_14_method_24_code
def yX12_takes : MethodName := ⟨RX12, "takes", "(I)Z"⟩
abbrev cX12_readsNumber : ByteArray := prog_14_method_25_code
def yX12_readsNumber : MethodName := ⟨RX12, "readsNumber", "(I)Z"⟩
abbrev cX12_readsStatement : ByteArray := prog_14_method_26_code
def yX12_readsStatement : MethodName := ⟨RX12, "readsStatement", "()Z"⟩
abbrev cX12_comesTold : ByteArray := prog_14_method_27_code
def yX12_comesTold : MethodName := ⟨RX12, "comesTold", "(I)Z"⟩
abbrev cX12_wrongRow : ByteArray := prog_14_method_28_code
def yX12_wrongRow : MethodName := ⟨RX12, "wrongRow", "(II)I"⟩
abbrev cX12_heap : ByteArray := prog_14_method_29_code
def yX12_heap : MethodName := ⟨RX12, "heap", "(I)I"⟩
abbrev cX12_bowl : ByteArray := prog_14_method_30_code
def yX12_bowl : MethodName := ⟨RX12, "bowl", "(II)I"⟩
abbrev cX12_wrongKept : ByteArray := prog_14_method_31_code
def yX12_wrongKept : MethodName := ⟨RX12, "wrongKept", "(I)I"⟩
abbrev cX12_adds : ByteArray := prog_14_method_32_code
def yX12_adds : MethodName := ⟨RX12, "adds", "(IIIII)V"⟩
abbrev cX12_comes : ByteArray := prog_14_method_33_code
def yX12_comes : MethodName := ⟨RX12, "comes", "(IIII)I"⟩
abbrev cX12_warm : ByteArray := prog_14_method_34_code
def yX12_warm : MethodName := ⟨RX12, "warm", "(I)I"⟩
abbrev cX12_turn : ByteArray := prog_14_method_35_code
def yX12_turn : MethodName := ⟨RX12, "turn", "(I)I"⟩
abbrev cX12_lies : ByteArray := prog_14_method_36_code
def yX12_lies : MethodName := ⟨RX12, "lies", "(II)I"⟩
abbrev cX12_outermost : ByteArray := prog_14_method_37_code
def yX12_outermost : MethodName := ⟨RX12, "outermost", "(I)I"⟩
abbrev cX12_isNest : ByteArray := prog_14_method_38_code
def yX12_isNest : MethodName := ⟨RX12, "isNest", "(I)Z"⟩
abbrev cX12_nest : ByteArray := prog_14_method_39_code
def yX12_nest : MethodName := ⟨RX12, "nest", "(I)I"⟩
abbrev cX12_heightOf : ByteArray := prog_14_method_40_code
def yX12_heightOf : MethodName := ⟨RX12, "heightOf", "(I)I"⟩
abbrev cX12_height : ByteArray := prog_14_method_41_code
def yX12_height : MethodName := ⟨RX12, "height", "(I)I"⟩
abbrev cX12_longestOf : ByteArray := prog_14_method_42_code
def yX12_longestOf : MethodName := ⟨RX12, "longestOf", "(I)I"⟩
abbrev cX12_longest : ByteArray := prog_14_method_43_code
def yX12_longest : MethodName := ⟨RX12, "longest", "(II)I"⟩
abbrev cX12_counted : ByteArray := prog_14_method_44_code
def yX12_counted : MethodName := ⟨RX12, "counted", "(III)I"⟩
abbrev cX12_leastOf : ByteArray := prog_14_method_45_code
def yX12_leastOf : MethodName := ⟨RX12, "leastOf", "(II)I"⟩
abbrev cX12_fewest : ByteArray := prog_14_method_46_code
def yX12_fewest : MethodName := ⟨RX12, "fewest", "()I"⟩
abbrev cX12_carry : ByteArray := prog_14_method_47_code
def yX12_carry : MethodName := ⟨RX12, "carry", "()I"⟩
abbrev cX12_load : ByteArray := prog_14_method_48_code
def yX12_load : MethodName := ⟨RX12, "load", "(I)I"⟩
abbrev cX12_areApart : ByteArray := prog_14_method_49_code
def yX12_areApart : MethodName := ⟨RX12, "areApart", "(I)Z"⟩
abbrev cX12_apart : ByteArray := prog_14_method_50_code
def yX12_apart : MethodName := ⟨RX12, "apart", "(I)I"⟩
abbrev cX12_wholeOf : ByteArray := prog_14_method_51_code
def yX12_wholeOf : MethodName := ⟨RX12, "wholeOf", "(II)I"⟩
abbrev cX12_whole : ByteArray := prog_14_method_52_code
def yX12_whole : MethodName := ⟨RX12, "whole", "(I)I"⟩
abbrev cX12_canBeBetween : ByteArray := prog_14_method_53_code
def yX12_canBeBetween : MethodName := ⟨RX12, "canBeBetween", "(II)Z"⟩
abbrev cX12_throwsNew : ByteArray := prog_14_method_54_code
def yX12_throwsNew : MethodName := ⟨RX12, "throwsNew", "()I"⟩
abbrev cX12_longestRow : ByteArray := prog_14_method_55_code
def yX12_longestRow : MethodName := ⟨RX12, "longestRow", "(I)I"⟩
abbrev cX12_helps : ByteArray := prog_14_method_56_code
def yX12_helps : MethodName := ⟨RX12, "helps", "(II)I"⟩
abbrev cX12_wrongOut : ByteArray := prog_14_method_57_code
def yX12_wrongOut : MethodName := ⟨RX12, "wrongOut", "(I)I"⟩
abbrev cX12_wrongAt : ByteArray := prog_14_method_58_code
def yX12_wrongAt : MethodName := ⟨RX12, "wrongAt", "(I)I"⟩
abbrev cX12_out : ByteArray := prog_14_method_59_code
def yX12_out : MethodName := ⟨RX12, "out", "(II)I"⟩
abbrev cX12_judge : ByteArray := prog_14_method_60_code
def yX12_judge : MethodName := ⟨RX12, "judge", "(I)I"⟩
abbrev cX12_narrow : ByteArray := prog_14_method_61_code
def yX12_narrow : MethodName := ⟨RX12, "narrow", "(II)I"⟩
abbrev cX12_spanOf : ByteArray := prog_14_method_62_code
def yX12_spanOf : MethodName := ⟨RX12, "spanOf", "(IIII)I"⟩
abbrev cX12_spans : ByteArray := prog_14_method_63_code
def yX12_spans : MethodName := ⟨RX12, "spans", "(III)I"⟩
abbrev cX12_perhaps : ByteArray := prog_14_method_64_code
def yX12_perhaps : MethodName := ⟨RX12, "perhaps", "(II)I"⟩
abbrev cX12_next : ByteArray := prog_14_method_65_code
def yX12_next : MethodName := ⟨RX12, "next", "(II)I"⟩
abbrev cX12_from : ByteArray := prog_14_method_66_code
def yX12_from : MethodName := ⟨RX12, "from", "(IIII)I"⟩
abbrev cX12_drawn : ByteArray := prog_14_method_67_code
def yX12_drawn : MethodName := ⟨RX12, "drawn", "(I)I"⟩
abbrev cX12_breaks : ByteArray := prog_14_method_68_code
def yX12_breaks : MethodName := ⟨RX12, "breaks", "(III)I"⟩
abbrev cX12_image : ByteArray := prog_14_method_69_code
def yX12_image : MethodName := ⟨RX12, "image", "()I"⟩
abbrev cX12_restore : ByteArray := prog_14_method_70_code
def yX12_restore : MethodName := ⟨RX12, "restore", "()I"⟩
abbrev cX12_count : ByteArray := prog_14_method_71_code
def yX12_count : MethodName := ⟨RX12, "count", "(I)I"⟩
abbrev cX12_priceBy : ByteArray := prog_14_method_72_code
def yX12_priceBy : MethodName := ⟨RX12, "priceBy", "(II)I"⟩
abbrev cX12_keep : ByteArray := prog_14_method_73_code
def yX12_keep : MethodName := ⟨RX12, "keep", "(IIII)I"⟩
abbrev cX12_row : ByteArray := prog_14_method_74_code
def yX12_row : MethodName := ⟨RX12, "row", "(III)I"⟩
abbrev cX12_put : ByteArray := prog_14_method_75_code
def yX12_put : MethodName := ⟨RX12, "put", "(III)I"⟩
abbrev cX12_element : ByteArray := prog_14_method_76_code
def yX12_element : MethodName := ⟨RX12, "element", "(II)J"⟩
abbrev cX12_copy : ByteArray := prog_14_method_77_code
def yX12_copy : MethodName := ⟨RX12, "copy", "(IIIII)I"⟩
abbrev cX12_price : ByteArray := prog_14_method_78_code
def yX12_price : MethodName := ⟨RX12, "price", "(I)I"⟩
abbrev cX12_toss : ByteArray := prog_14_method_79_code
def yX12_toss : MethodName := ⟨RX12, "toss", "(I)I"⟩
def RJ6 : String := "java/lang/Integer"
abbrev cJ6_bitCount_0f7a4 : ByteArray := prog_18_method_49_code
def yJ6_bitCount_0f7a4 : MethodName := ⟨RJ6, "bitCount", "(I)I"⟩
def RJ9 : String := "java/lang/Math"
abbrev cJ9_max_7cf53 : ByteArray := prog_19_method_65_code
def yJ9_max_7cf53 : MethodName := ⟨RJ9, "max", "(II)I"⟩
abbrev cJ9_min_7cf53 : ByteArray := prog_19_method_69_code
def yJ9_min_7cf53 : MethodName := ⟨RJ9, "min", "(II)I"⟩
def RJ0 : String := "java/lang/String"
def RJ10 : String := "java/lang/System"
def RL : String := "BowlsWithinLaw"
abbrev cL_element : ByteArray := method_3_code
def yL_element : MethodName := ⟨RL, "element", "(LBowlsWithin;II[J)I"⟩
abbrev cL_law : ByteArray := code
def yL_law : MethodName := ⟨RL, "law", "([I)Z"⟩
abbrev vwCl : List vw_C := [(RX0, TX0, 0), (RX1, TX1, 0), (RX2, TX2, 0), (RX3, TX3, 0), (RX4, TX4, 0), (RX5, TX5, 9), (RX6, TX6, 0), (RX7, TX7, 11), (RX8, TX8, 0), (RX9, TX9, 0), (RX10, TX10, 6), (RX11, TX11, 7), (RX12, TX12, 20)]
end
section
/-! The machine over one fixed world: objects have numbers; a world holds the ints (fields, rows); references never change. -/
abbrev ww : Type := Nat → Nat → Int32
def wu (w : ww) (o i : Nat) (v : Int32) : ww := fun a b => if a = o then (if b = i then v else w a b) else w a b
abbrev zSh : Type := (Nat × List (Option Nat)) ⊕ (Nat ⊕ ((Nat × List Nat) ⊕ Nat))
/-- an object: number of its class, its fields (none: an int; some: the object that it names) -/
abbrev zob (ci : Nat) (fl : List (Option Nat)) : zSh := .inl (ci, fl)
abbrev zia (n : Nat) : zSh := .inr (.inl n)
abbrev zra (t : Nat) (l : List Nat) : zSh := .inr (.inr (.inl (t, l)))
abbrev zla (n : Nat) : zSh := .inr (.inr (.inr n))
def zheap (h : Nat) : List zSh := [zob 5 [some 1, some (h+1), some (h+2), some (h+3), some (h+4), some (h+5), some (h+6), none, none], zia 10, zia 10, zia 10, zia 10, zia 10, zia 10]
def zshelf (h : Nat) : List zSh := [zob 10 [some (h+1), none, none, none, none, none], zia 100]
def zshapes : List zSh :=
  [zob 11 [some 1, some 10, some 17, some 24, some 31, some 40, none], zra 1 [2, 3, 4, 5, 6, 7, 8, 9],
   zob 0 [], zob 8 [], zob 6 [], zob 3 [], zob 9 [], zob 4 [], zob 1 [], zob 2 []] ++ zheap 10 ++ zheap 17 ++ zheap 24 ++
  [zob 7 [some 32, some 33, some 34, some 35, some 36, some 37, some 38, some 39, none, none, none], zia 512, zia 512, zia 512, zia 512, zia 512, zia 9, zia 9, zia 9,
   zra 2 [41, 43, 45, 47, 49, 51, 53, 55]] ++ zshelf 41 ++ zshelf 43 ++ zshelf 45 ++ zshelf 47 ++ zshelf 49 ++ zshelf 51 ++ zshelf 53 ++ zshelf 55 ++
  [zob 12 [some 58, some 59, some 60, some 61, some 62, some 63, some 64, some 65, some 66, none, none, none, none, none, none, some 67, some 68, some 69, some 70, none],
   zia 52, zia 52, zia 52, zia 8, zia 8, zia 8, zia 800, zia 8, zia 8, zia 5, zia 512, zia 512, zia 10, zla 1]
def zfs (φ : Nat → Nat) (w : ww) (o : Nat) : Nat → List (Option Nat) → List Value
  | _, [] => []
  | k, none :: l => .int (w o k) :: zfs φ w o (k + 1) l
  | k, some r :: l => .ref (φ r) :: zfs φ w o (k + 1) l
def zfv (φ : Nat → Nat) (w : ww) (o k : Nat) : Option Nat → Value
  | none => .int (w o k)
  | some r => .ref (φ r)
theorem zfs_get (φ : Nat → Nat) (w : ww) (o : Nat) : ∀ (fl : List (Option Nat)) (j k : Nat), (zfs φ w o j fl)[k]? = (fl[k]?).map (zfv φ w o (j + k))
  | [], j, k => by simp [zfs]
  | none :: l, j, 0 => by simp [zfs, zfv]
  | some r :: l, j, 0 => by simp [zfs, zfv]
  | none :: l, j, k + 1 => by
    have h := zfs_get φ w o l (j + 1) k
    simp only [zfs, List.getElem?_cons_succ, h]
    congr 2; omega
  | some r :: l, j, k + 1 => by
    have h := zfs_get φ w o l (j + 1) k
    simp only [zfs, List.getElem?_cons_succ, h]
    congr 2; omega
theorem zfs_len (φ : Nat → Nat) (w : ww) (o : Nat) : ∀ (fl : List (Option Nat)) (j : Nat), (zfs φ w o j fl).length = fl.length
  | [], j => rfl
  | none :: l, j => by simp [zfs, zfs_len φ w o l]
  | some r :: l, j => by simp [zfs, zfs_len φ w o l]
theorem zfs_set (φ : Nat → Nat) (w : ww) (o : Nat) (fl : List (Option Nat)) (k : Nat) (v : Int32) (hk : fl[k]? = some none) : (zfs φ w o 0 fl).set k (.int v) = zfs φ (wu w o k v) o 0 fl := by
  have hl : k < fl.length := (List.getElem?_eq_some_iff.mp hk).1
  apply List.ext_getElem?
  intro i
  by_cases hi : i = k
  · subst hi
    rw [List.getElem?_set_self (by rw [zfs_len]; exact hl), zfs_get, hk]
    simp [zfv, wu]
  · rw [List.getElem?_set_ne (Ne.symm hi), zfs_get, zfs_get]
    cases hf : fl[i]? with
    | none => rfl
    | some f =>
      cases f with
      | none => simp [zfv, wu, hi]
      | some r => simp [zfv]
theorem zfs_congr (φ : Nat → Nat) (w w' : ww) (o : Nat) (h : w o = w' o) (fl : List (Option Nat)) (j : Nat) : zfs φ w o j fl = zfs φ w' o j fl := by
  apply List.ext_getElem?
  intro i
  rw [zfs_get, zfs_get]
  cases hf : fl[i]? with
  | none => rfl
  | some f => cases f <;> simp [zfv, h]
def zcell (φ : Nat → Nat) (cA : Nat → ClassId) (w : ww) (o : Nat) : zSh → va_E
  | .inl (ci, fl) => .inr (ci, zfs φ w o 0 fl)
  | .inr (.inl n) => .inl (cA 0, n, .inl (w o))
  | .inr (.inr (.inl (t, l))) => .inl (cA t, l.length, .inr (.inr (.inr (.inr (fun k => (l[k]?).map φ)))))
  | .inr (.inr (.inr n)) => .inl (cA 3, n, .inr (.inl (fun k => (w o k).toInt64)))
theorem zcell_congr (φ : Nat → Nat) (cA : Nat → ClassId) (w w' : ww) (o : Nat) (h : w o = w' o) (sh : zSh) : zcell φ cA w o sh = zcell φ cA w' o sh := by
  rcases sh with ⟨ci, fl⟩ | n | ⟨t, l⟩ | n
  · simp [zcell, zfs_congr φ w w' o h]
  · simp [zcell, h]
  · simp [zcell]
  · simp [zcell, h]
def zWS (φ : Nat → Nat) (cA : Nat → ClassId) (w : ww) : va_W := zshapes.mapIdx (fun o sh => (φ o, zcell φ cA w o sh))
theorem zWS_get {φ : Nat → Nat} {cA : Nat → ClassId} {w : ww} {o : Nat} {sh : zSh} (h : zshapes[o]? = some sh) : (zWS φ cA w)[o]? = some (φ o, zcell φ cA w o sh) := by
  simp [zWS, h]
theorem zWS_set {φ : Nat → Nat} {cA : Nat → ClassId} {w w' : ww} {o : Nat} {sh : zSh} (h : zshapes[o]? = some sh) (hw : ∀ p, p ≠ o → w p = w' p) : (zWS φ cA w).set o (φ o, zcell φ cA w' o sh) = zWS φ cA w' := by
  have hl : o < zshapes.length := (List.getElem?_eq_some_iff.mp h).1
  apply List.ext_getElem?
  intro i
  by_cases hi : i = o
  · subst hi
    rw [List.getElem?_set_self (by simp [zWS]; exact hl), zWS_get h]
  · rw [List.getElem?_set_ne (Ne.symm hi)]
    simp only [zWS, List.getElem?_mapIdx]
    cases hs : zshapes[i]? with
    | none => rfl
    | some s => simp [zcell_congr φ cA w w' i (hw i hi) s]
theorem wu_off {w : ww} {o i : Nat} {v : Int32} {p : Nat} (h : p ≠ o) : w p = wu w o i v p := by
  funext b
  simp [wu, h]
/-- the values that a frame holds: numbers of objects for addresses -/
def tv (φ : Nat → Nat) : Value → Value
  | .ref a => .ref (φ a)
  | v => v
theorem tv_cat (φ : Nat → Nat) (v : Value) : (tv φ v).category = v.category := by cases v <;> rfl
abbrev zL : Type := List (Option Value)
def zas (φ : Nat → Nat) : Nat → zL → List (Nat × Value)
  | _, [] => []
  | j, none :: l => zas φ (j + 1) l
  | j, some v :: l => (j, tv φ v) :: zas φ (j + 1) l
theorem zas_mem {φ : Nat → Nat} : ∀ (L : zL) (j : Nat) (q : Nat × Value), q ∈ zas φ j L ↔ ∃ (i : Nat) (v : Value), L[i]? = some (some v) ∧ q = (j + i, tv φ v)
  | [], j, q => by simp [zas]
  | none :: l, j, q => by
    rw [zas, zas_mem l (j + 1) q]
    constructor
    · rintro ⟨i, v, h, rfl⟩
      exact ⟨i + 1, v, by simpa using h, by congr 1; omega⟩
    · rintro ⟨i, v, h, rfl⟩
      cases i with
      | zero => simp at h
      | succ i => exact ⟨i, v, by simpa using h, by congr 1; omega⟩
  | some u :: l, j, q => by
    rw [zas, List.mem_cons, zas_mem l (j + 1) q]
    constructor
    · rintro (rfl | ⟨i, v, h, rfl⟩)
      · exact ⟨0, u, by simp, by simp⟩
      · exact ⟨i + 1, v, by simpa using h, by congr 1; omega⟩
    · rintro ⟨i, v, h, rfl⟩
      cases i with
      | zero =>
        simp at h
        subst h
        exact Or.inl (by simp)
      | succ i => exact Or.inr ⟨i, v, by simpa using h, by congr 1; omega⟩
def zlok (φ : Nat → Nat) (ls : Array Slot) (nL : Nat) (L : zL) : Prop := lv_has ls nL (zas φ 0 L)
theorem zlok.at {φ : Nat → Nat} {ls : Array Slot} {nL : Nat} {L : zL} (h : zlok φ ls nL L) {k : Nat} {v : Value} (hk : L[k]? = some (some v)) : ls[k]? = some (.val (tv φ v)) :=
  h.2.2 (k, tv φ v) ((zas_mem L 0 _).mpr ⟨k, v, hk, by simp⟩)
def znl (L : zL) : Bool := L.all (fun o => match o with | some (.long _) => false | some (.double _) => false | _ => true)
theorem znl_cat {L : zL} (h : znl L = true) {i : Nat} {v : Value} (hv : L[i]? = some (some v)) : ¬ v.category = 2 := by
  have h1 := List.all_eq_true.mp h _ (List.mem_of_getElem? hv)
  cases v <;> simp_all [Value.category]
theorem zlok.set {φ : Nat → Nat} {ls' : Array Slot} {nL : Nat} {L : zL} {i : Nat} {v : Value} (hn : znl L = true)
    (h : lv_has ls' nL ((i, tv φ v) :: (zas φ 0 L).filter (fun q => !(q.1 == i) && !(q.1 + 1 == i && q.2.category == 2)))) : zlok φ ls' nL (L.set i (some v)) := by
  refine ⟨h.1, h.2.1, fun q hq => h.2.2 q ?_⟩
  obtain ⟨k, u, hk, rfl⟩ := (zas_mem _ 0 q).mp hq
  simp only [Nat.zero_add]
  by_cases hki : k = i
  · subst hki
    have hl : k < L.length := by
      have := (List.getElem?_eq_some_iff.mp hk).1
      simpa using this
    rw [List.getElem?_set_self hl] at hk
    cases hk
    exact List.mem_cons_self
  · rw [List.getElem?_set_ne (Ne.symm hki)] at hk
    refine List.mem_cons_of_mem _ (List.mem_filter.mpr ⟨(zas_mem L 0 _).mpr ⟨k, u, hk, by simp⟩, ?_⟩)
    have hc := znl_cat hn hk
    simp [hki, tv_cat, hc]
theorem zlok.sub {φ : Nat → Nat} {ls : Array Slot} {nL : Nat} {L L' : zL} (h : zlok φ ls nL L) (hs : ∀ (k : Nat) (v : Value), L'[k]? = some (some v) → L[k]? = some (some v)) : zlok φ ls nL L' := by
  refine ⟨h.1, h.2.1, fun q hq => h.2.2 q ?_⟩
  obtain ⟨k, u, hk, rfl⟩ := (zas_mem _ 0 q).mp hq
  exact (zas_mem L 0 _).mpr ⟨k, u, hs k u hk, rfl⟩
/-- forgetting locals -/
def zfm : List Bool → zL → zL
  | _, [] => []
  | [], _ :: L => none :: zfm [] L
  | true :: ms, v :: L => v :: zfm ms L
  | false :: ms, _ :: L => none :: zfm ms L
theorem zfm_sub : ∀ (ms : List Bool) (L : zL) (k : Nat) (v : Value), (zfm ms L)[k]? = some (some v) → L[k]? = some (some v)
  | _, [], k, v, h => by simp [zfm] at h
  | [], a :: L, 0, v, h => by simp [zfm] at h
  | [], a :: L, k + 1, v, h => by
    simp only [zfm, List.getElem?_cons_succ] at h ⊢
    exact zfm_sub [] L k v h
  | true :: ms, a :: L, 0, v, h => by simpa [zfm] using h
  | false :: ms, a :: L, 0, v, h => by simp [zfm] at h
  | true :: ms, a :: L, k + 1, v, h => by
    simp only [zfm, List.getElem?_cons_succ] at h ⊢
    exact zfm_sub ms L k v h
  | false :: ms, a :: L, k + 1, v, h => by
    simp only [zfm, List.getElem?_cons_succ] at h ⊢
    exact zfm_sub ms L k v h
/-- the tables' words that every method has -/
def big : List Cond := lw_tbl.filter goodWord
theorem big_in {w : Cond} (h : w ∈ tables_1) (hg : goodWord w = true) : w ∈ big := List.mem_filter.mpr ⟨List.mem_append_right _ h, hg⟩
theorem big_sel {q : MethodName × Nat} (h : q ∈ lw_privs) : Cond.selects q.1.cls q.1 q.1 ∈ big := List.mem_filter.mpr ⟨List.mem_append_left _ (List.mem_map.mpr ⟨q, h, rfl⟩), rfl⟩
def zisN : Cond → Bool
  | .fieldLinkNest .. => true
  | .methodLinkNest .. => true
  | _ => false
def nests : List Cond := tables_1.filter zisN
theorem nests_in {w : Cond} (h : w ∈ tables_1) (hg : zisN w = true) : w ∈ nests := List.mem_filter.mpr ⟨h, hg⟩
theorem nests_warm {s U : State} (hW : s.WarmedH U.vm) (h : ∀ w ∈ nests, va_Nw w s) : ∀ w ∈ nests, va_Nw w U := by
  intro w hw
  have h1 := h w hw
  have h2 := (List.mem_filter.mp hw).2
  cases w <;> first | (cases h2; done) | exact va_Nw.warmF hW h1 | exact va_Nw.warmM hW h1
theorem nests_same {u U : State} (hvm : u.vm = U.vm) (h : ∀ w ∈ nests, va_Nw w u) : ∀ w ∈ nests, va_Nw w U := by
  intro w hw
  have h1 := h w hw
  have h2 := (List.mem_filter.mp hw).2
  cases w <;> first | (cases h2; done) | exact va_Nw.same rfl hvm h1
def ztys (cA : Nat → ClassId) : List (ClassId × FieldType) := [(cA 0, .int), (cA 1, .object "BowlsWithin$Bowl"), (cA 2, .object "BowlsWithin$Shelf"), (cA 3, .long)]
def zK (D : va_G) (cA : Nat → ClassId) (U : State) : Prop := va_K D vwCl (ztys cA) U ∧ ∀ w ∈ nests, va_Nw w U
theorem zK.warm {D : va_G} {cA : Nat → ClassId} {s U : State} (hW : s.WarmedH U.vm) (h : zK D cA s) : zK D cA U := ⟨va_K.moved hW.alike h.1, nests_warm hW h.2⟩
theorem zK.same {D : va_G} {cA : Nat → ClassId} {u U : State} (hvm : u.vm = U.vm) (h : zK D cA u) : zK D cA U := ⟨va_K.moved (by rw [← hvm]; exact Vm.Alike.refl _) h.1, nests_same hvm h.2⟩
abbrev zG : Type := Nat → zL → List Value → ww → Prop
def zV (p : Program) (l : Launch) (e : Env) (R : Room) (s : State) (m : MethodId) (args : Array Value) (below : List Frame) (meth : Method) (c : Code) (nL : Nat) (φ : Nat → Nat) (cA : Nat → ClassId) (D : va_G) (A : Nat → Prop) (H0 : Heap) (cells slots : Nat) (Qm : State → Prop) : zG := fun pc L S w =>
  ∀ (ls : Array Slot) (H : Heap) (locs : List Loc), zlok φ ls nL L → va_P D vwCl (zWS φ cA w) H → va_D A (zWS φ cA w) → va_S A H0 H locs →
    W p l e R s m args below meth c H locs cells slots Qm (F0 m pc ls (S.map (tv φ)))
/-- a walk of a method of class own, with the code cc: what holds at each place -/
def zE (own : String) (cc : ByteArray) (nL n : Nat) (G : zG) : Prop := ∃ (p : Program) (l : Launch) (e : Env) (R : Room) (s : State) (m : MethodId) (args : Array Value) (below : List Frame) (meth : Method) (c : Code) (φ : Nat → Nat) (cA : Nat → ClassId) (D : va_G) (A : Nat → Prop) (H0 : Heap) (cells slots : Nat) (Qm : State → Prop) (Ts : List Cond),
  G = zV p l e R s m args below meth c nL φ cA D A H0 cells slots Qm ∧ CallFix p m c cc nL s args Ts own ∧ (∀ w ∈ big, w ∈ Ts) ∧ zK D cA s ∧ (∀ q, H0.size ≤ q → A q) ∧ n ≤ R.frames ∧ 60 * n ≤ R.locals ∧ cells ≤ R.cells ∧ slots ≤ R.slots
def zR (own : String) (cc : ByteArray) (nL n : Nat) (ret : Option FieldType) (Q : Option Value → ww → Prop) (G : zG) : Prop := zE own cc nL n G ∧
  (∀ (ty : FieldType) (v : Int32) (pc : Nat) (L : zL) (w : ww) (np : Nat), zD cc pc .ireturn 1 np → ret = some ty → narrow ty (.int v) = .int v → Q (some (.int v)) w → G pc L [.int v] w) ∧
  (∀ (v : Int64) (pc : Nat) (L : zL) (w : ww) (np : Nat), zD cc pc .lreturn 1 np → ret = some .long → Q (some (.long v)) w → G pc L [.long v] w) ∧
  (∀ (pc : Nat) (L : zL) (w : ww) (np : Nat), zD cc pc .return_ 1 np → ret = none → Q none w → G pc L [] w)
end
section
/-! One row an instruction, over zE. -/
section ZRows
variable {own : String} {cc : ByteArray} {nL n : Nat} {G : zG} {pc np : Nat} {L : zL} {S : List Value} {w : ww}
def zopen (G : zG) (own : String) (cc : ByteArray) (nL n : Nat) (P : Prop) : Prop := ∀ (p : Program) (l : Launch) (e : Env) (R : Room) (s : State) (m : MethodId) (args : Array Value) (below : List Frame) (meth : Method) (c : Code) (φ : Nat → Nat) (cA : Nat → ClassId) (D : va_G) (A : Nat → Prop) (H0 : Heap) (cells slots : Nat) (Qm : State → Prop) (Ts : List Cond),
  G = zV p l e R s m args below meth c nL φ cA D A H0 cells slots Qm → CallFix p m c cc nL s args Ts own → (∀ w ∈ big, w ∈ Ts) → zK D cA s → (∀ q, H0.size ≤ q → A q) → n ≤ R.frames → 60 * n ≤ R.locals → cells ≤ R.cells → slots ≤ R.slots → P
theorem zE.elim {P : Prop} (h : zE own cc nL n G) (k : zopen G own cc nL n P) : P := by
  obtain ⟨p, l, e, R, s, m, args, below, meth, c, φ, cA, D, A, H0, cells, slots, Qm, Ts, h1, h2, h3, h4, h5, h6, h7, h8, h9⟩ := h
  exact k p l e R s m args below meth c φ cA D A H0 cells slots Qm Ts h1 h2 h3 h4 h5 h6 h7 h8 h9
theorem zr_iconst (h : zE own cc nL n G) {k : Int} (hd : zD cc pc (.iconst k) 1 np) {v : Int32} (hv : Int32.ofInt k = v) (kk : G np L (.int v :: S) w) : G pc L (S) w := by
  refine h.elim fun p l e R s m args below meth c φ cA D A H0 cells slots Qm Ts hG hC hB hK hA hn1 hn2 hn3 hn4 => ?_
  subst hG
  obtain ⟨hx, hb, hml, hown, hts⟩ := hC
  obtain ⟨hd, rfl⟩ := hd
  intro ls H locs hls hP hD hS
  exact lv_iconst hx hb hd hv (kk ls H locs hls hP hD hS)
theorem zr_bipush (h : zE own cc nL n G) {k : Int} (hd : zD cc pc (.bipush k) 2 np) {v : Int32} (hv : (Int8.ofInt k).toInt32 = v) (kk : G np L (.int v :: S) w) : G pc L (S) w := by
  refine h.elim fun p l e R s m args below meth c φ cA D A H0 cells slots Qm Ts hG hC hB hK hA hn1 hn2 hn3 hn4 => ?_
  subst hG
  obtain ⟨hx, hb, hml, hown, hts⟩ := hC
  obtain ⟨hd, rfl⟩ := hd
  intro ls H locs hls hP hD hS
  exact lv_bipush hx hb hd hv (kk ls H locs hls hP hD hS)
theorem zr_sipush (h : zE own cc nL n G) {k : Int} (hd : zD cc pc (.sipush k) 3 np) {v : Int32} (hv : (Int16.ofInt k).toInt32 = v) (kk : G np L (.int v :: S) w) : G pc L (S) w := by
  refine h.elim fun p l e R s m args below meth c φ cA D A H0 cells slots Qm Ts hG hC hB hK hA hn1 hn2 hn3 hn4 => ?_
  subst hG
  obtain ⟨hx, hb, hml, hown, hts⟩ := hC
  obtain ⟨hd, rfl⟩ := hd
  intro ls H locs hls hP hD hS
  exact lv_sipush hx hb hd hv (kk ls H locs hls hP hD hS)
theorem zr_lconst (h : zE own cc nL n G) {k : Fin 2} (hd : zD cc pc (.lconst k) 1 np) {v : Int64} (hv : Int64.ofNat (k : Nat) = v) (kk : G np L (.long v :: S) w) : G pc L (S) w := by
  refine h.elim fun p l e R s m args below meth c φ cA D A H0 cells slots Qm Ts hG hC hB hK hA hn1 hn2 hn3 hn4 => ?_
  subst hG
  obtain ⟨hx, hb, hml, hown, hts⟩ := hC
  obtain ⟨hd, rfl⟩ := hd
  intro ls H locs hls hP hD hS
  exact lv_lconst hx hb hd hv (kk ls H locs hls hP hD hS)
theorem zr_ldc (h : zE own cc nL n G) {k : Nat} (hd : zD cc pc (.ldc k) 2 np) {v : Int32} (hc : Jvm.Cond.constant own k v ∈ big) (kk : G np L (.int v :: S) w) : G pc L (S) w := by
  refine h.elim fun p l e R s m args below meth c φ cA D A H0 cells slots Qm Ts hG hC hB hK hA hn1 hn2 hn3 hn4 => ?_
  subst hG
  obtain ⟨hx, hb, hml, hown, hts⟩ := hC
  obtain ⟨hd, rfl⟩ := hd
  intro ls H locs hls hP hD hS
  exact lv_ldc hx hb hown (hts _ (hB _ hc)) hd (kk ls H locs hls hP hD hS)
theorem zr_ldcw (h : zE own cc nL n G) {k : Nat} (hd : zD cc pc (.ldc_w k) 3 np) {v : Int32} (hc : Jvm.Cond.constant own k v ∈ big) (kk : G np L (.int v :: S) w) : G pc L (S) w := by
  refine h.elim fun p l e R s m args below meth c φ cA D A H0 cells slots Qm Ts hG hC hB hK hA hn1 hn2 hn3 hn4 => ?_
  subst hG
  obtain ⟨hx, hb, hml, hown, hts⟩ := hC
  obtain ⟨hd, rfl⟩ := hd
  intro ls H locs hls hP hD hS
  exact lv_ldcw hx hb hown (hts _ (hB _ hc)) hd (kk ls H locs hls hP hD hS)
theorem zr_ldc2 (h : zE own cc nL n G) {k : Nat} (hd : zD cc pc (.ldc2_w k) 3 np) {v : Int64} (hc : Jvm.Cond.constantLong own k v ∈ big) (kk : G np L (.long v :: S) w) : G pc L (S) w := by
  refine h.elim fun p l e R s m args below meth c φ cA D A H0 cells slots Qm Ts hG hC hB hK hA hn1 hn2 hn3 hn4 => ?_
  subst hG
  obtain ⟨hx, hb, hml, hown, hts⟩ := hC
  obtain ⟨hd, rfl⟩ := hd
  intro ls H locs hls hP hD hS
  exact lv_ldc2 hx hb hown (hts _ (hB _ hc)) hd (kk ls H locs hls hP hD hS)
theorem zr_iload_n (h : zE own cc nL n G) {k : Fin 4} (hd : zD cc pc (.iload_n k) 1 np) {x : Int32} (hl : L[k.val]? = some (some (.int x))) (kk : G np L (.int x :: S) w) : G pc L (S) w := by
  refine h.elim fun p l e R s m args below meth c φ cA D A H0 cells slots Qm Ts hG hC hB hK hA hn1 hn2 hn3 hn4 => ?_
  subst hG
  obtain ⟨hx, hb, hml, hown, hts⟩ := hC
  obtain ⟨hd, rfl⟩ := hd
  intro ls H locs hls hP hD hS
  exact lv_iload_n hx hb hd rfl (hls.at hl) (kk ls H locs hls hP hD hS)
theorem zr_iload (h : zE own cc nL n G) {k : Nat} (hd : zD cc pc (.iload k) 2 np) {x : Int32} (hl : L[k]? = some (some (.int x))) (kk : G np L (.int x :: S) w) : G pc L (S) w := by
  refine h.elim fun p l e R s m args below meth c φ cA D A H0 cells slots Qm Ts hG hC hB hK hA hn1 hn2 hn3 hn4 => ?_
  subst hG
  obtain ⟨hx, hb, hml, hown, hts⟩ := hC
  obtain ⟨hd, rfl⟩ := hd
  intro ls H locs hls hP hD hS
  exact lv_iload hx hb hd (hls.at hl) (kk ls H locs hls hP hD hS)
theorem zr_lload_n (h : zE own cc nL n G) {k : Fin 4} (hd : zD cc pc (.lload_n k) 1 np) {x : Int64} (hl : L[k.val]? = some (some (.long x))) (kk : G np L (.long x :: S) w) : G pc L (S) w := by
  refine h.elim fun p l e R s m args below meth c φ cA D A H0 cells slots Qm Ts hG hC hB hK hA hn1 hn2 hn3 hn4 => ?_
  subst hG
  obtain ⟨hx, hb, hml, hown, hts⟩ := hC
  obtain ⟨hd, rfl⟩ := hd
  intro ls H locs hls hP hD hS
  exact lv_lload_n hx hb hd rfl (hls.at hl) (kk ls H locs hls hP hD hS)
theorem zr_lload (h : zE own cc nL n G) {k : Nat} (hd : zD cc pc (.lload k) 2 np) {x : Int64} (hl : L[k]? = some (some (.long x))) (kk : G np L (.long x :: S) w) : G pc L (S) w := by
  refine h.elim fun p l e R s m args below meth c φ cA D A H0 cells slots Qm Ts hG hC hB hK hA hn1 hn2 hn3 hn4 => ?_
  subst hG
  obtain ⟨hx, hb, hml, hown, hts⟩ := hC
  obtain ⟨hd, rfl⟩ := hd
  intro ls H locs hls hP hD hS
  exact lv_lload hx hb hd (hls.at hl) (kk ls H locs hls hP hD hS)
theorem zr_aload_n (h : zE own cc nL n G) {k : Fin 4} (hd : zD cc pc (.aload_n k) 1 np) {x : Nat} (hl : L[k.val]? = some (some (.ref x))) (kk : G np L (.ref x :: S) w) : G pc L (S) w := by
  refine h.elim fun p l e R s m args below meth c φ cA D A H0 cells slots Qm Ts hG hC hB hK hA hn1 hn2 hn3 hn4 => ?_
  subst hG
  obtain ⟨hx, hb, hml, hown, hts⟩ := hC
  obtain ⟨hd, rfl⟩ := hd
  intro ls H locs hls hP hD hS
  exact lv_aload_n hx hb hd rfl (hls.at hl) (kk ls H locs hls hP hD hS)
theorem zr_aload (h : zE own cc nL n G) {k : Nat} (hd : zD cc pc (.aload k) 2 np) {x : Nat} (hl : L[k]? = some (some (.ref x))) (kk : G np L (.ref x :: S) w) : G pc L (S) w := by
  refine h.elim fun p l e R s m args below meth c φ cA D A H0 cells slots Qm Ts hG hC hB hK hA hn1 hn2 hn3 hn4 => ?_
  subst hG
  obtain ⟨hx, hb, hml, hown, hts⟩ := hC
  obtain ⟨hd, rfl⟩ := hd
  intro ls H locs hls hP hD hS
  exact lv_aload hx hb hd (hls.at hl) (kk ls H locs hls hP hD hS)
theorem zr_istore_n (h : zE own cc nL n G) {k : Fin 4} (hd : zD cc pc (.istore_n k) 1 np) {x : Int32} (hi : k.val < nL) (hz : znl L = true) (kk : G np (L.set k.val (some (.int x))) S w) : G pc L (.int x :: S) w := by
  refine h.elim fun p l e R s m args below meth c φ cA D A H0 cells slots Qm Ts hG hC hB hK hA hn1 hn2 hn3 hn4 => ?_
  subst hG
  obtain ⟨hx, hb, hml, hown, hts⟩ := hC
  obtain ⟨hd, rfl⟩ := hd
  intro ls H locs hls hP hD hS
  exact lv_istore_n hx hb hd rfl hls hi rfl (fun ls1 h1 => kk ls1 H locs (zlok.set (v := .int x) hz h1) hP hD hS)
theorem zr_istore (h : zE own cc nL n G) {k : Nat} (hd : zD cc pc (.istore k) 2 np) {x : Int32} (hi : k < nL) (hz : znl L = true) (kk : G np (L.set k (some (.int x))) S w) : G pc L (.int x :: S) w := by
  refine h.elim fun p l e R s m args below meth c φ cA D A H0 cells slots Qm Ts hG hC hB hK hA hn1 hn2 hn3 hn4 => ?_
  subst hG
  obtain ⟨hx, hb, hml, hown, hts⟩ := hC
  obtain ⟨hd, rfl⟩ := hd
  intro ls H locs hls hP hD hS
  exact lv_istore hx hb hd hls hi rfl (fun ls1 h1 => kk ls1 H locs (zlok.set (v := .int x) hz h1) hP hD hS)
theorem zr_astore_n (h : zE own cc nL n G) {k : Fin 4} (hd : zD cc pc (.astore_n k) 1 np) {x : Nat} (hi : k.val < nL) (hz : znl L = true) (kk : G np (L.set k.val (some (.ref x))) S w) : G pc L (.ref x :: S) w := by
  refine h.elim fun p l e R s m args below meth c φ cA D A H0 cells slots Qm Ts hG hC hB hK hA hn1 hn2 hn3 hn4 => ?_
  subst hG
  obtain ⟨hx, hb, hml, hown, hts⟩ := hC
  obtain ⟨hd, rfl⟩ := hd
  intro ls H locs hls hP hD hS
  exact lv_astore_n hx hb hd rfl hls hi rfl (fun ls1 h1 => kk ls1 H locs (zlok.set (v := .ref x) hz h1) hP hD hS)
theorem zr_astore (h : zE own cc nL n G) {k : Nat} (hd : zD cc pc (.astore k) 2 np) {x : Nat} (hi : k < nL) (hz : znl L = true) (kk : G np (L.set k (some (.ref x))) S w) : G pc L (.ref x :: S) w := by
  refine h.elim fun p l e R s m args below meth c φ cA D A H0 cells slots Qm Ts hG hC hB hK hA hn1 hn2 hn3 hn4 => ?_
  subst hG
  obtain ⟨hx, hb, hml, hown, hts⟩ := hC
  obtain ⟨hd, rfl⟩ := hd
  intro ls H locs hls hP hD hS
  exact lv_astore hx hb hd hls hi rfl (fun ls1 h1 => kk ls1 H locs (zlok.set (v := .ref x) hz h1) hP hD hS)
theorem zr_iinc (h : zE own cc nL n G) {k : Nat} {i : Int} (hd : zD cc pc (.iinc k i) 3 np) {x : Int32} (hl : L[k]? = some (some (.int x))) {v : Int32} (hv : x + Int32.ofInt i = v) (hi : k < nL) (hz : znl L = true) (kk : G np (L.set k (some (.int v))) S w) : G pc L (S) w := by
  refine h.elim fun p l e R s m args below meth c φ cA D A H0 cells slots Qm Ts hG hC hB hK hA hn1 hn2 hn3 hn4 => ?_
  subst hG
  obtain ⟨hx, hb, hml, hown, hts⟩ := hC
  obtain ⟨hd, rfl⟩ := hd
  intro ls H locs hls hP hD hS
  obtain ⟨j, hj⟩ := List.getElem?_of_mem ((zas_mem (φ := φ) L 0 (k, .int x)).mpr ⟨k, .int x, hl, by simp [tv]⟩)
  exact lv_iinc hx hb hd hls (k := j) hj hv hi rfl (fun ls1 h1 => kk ls1 H locs (zlok.set (v := .int v) hz h1) hP hD hS)
theorem zr_mask (h : zE own cc nL n G) (ms : List Bool) (kk : G pc (zfm ms L) S w) : G pc L S w := by
  refine h.elim fun p l e R s m args below meth c φ cA D A H0 cells slots Qm Ts hG hC hB hK hA hn1 hn2 hn3 hn4 => ?_
  subst hG
  obtain ⟨hx, hb, hml, hown, hts⟩ := hC
  intro ls H locs hls hP hD hS
  exact kk ls H locs (zlok.sub hls (zfm_sub ms L)) hP hD hS
theorem zr_locals (h : zE own cc nL n G) {L2 : zL} (hs : ∀ (k : Nat) (v : Value), L2[k]? = some (some v) → L[k]? = some (some v)) (kk : G pc L2 S w) : G pc L S w := by
  refine h.elim fun p l e R s m args below meth c φ cA D A H0 cells slots Qm Ts hG hC hB hK hA hn1 hn2 hn3 hn4 => ?_
  subst hG
  obtain ⟨hx, hb, hml, hown, hts⟩ := hC
  intro ls H locs hls hP hD hS
  exact kk ls H locs (zlok.sub hls hs) hP hD hS
theorem zr_iadd (h : zE own cc nL n G) (hd : zD cc pc (.iadd) 1 np) {x y : Int32} (kk : G np L (.int (x + y) :: S) w) : G pc L (.int y :: .int x :: S) w := by
  refine h.elim fun p l e R s m args below meth c φ cA D A H0 cells slots Qm Ts hG hC hB hK hA hn1 hn2 hn3 hn4 => ?_
  subst hG
  obtain ⟨hx, hb, hml, hown, hts⟩ := hC
  obtain ⟨hd, rfl⟩ := hd
  intro ls H locs hls hP hD hS
  exact lv_iadd hx hb hd (kk ls H locs hls hP hD hS)
theorem zr_isub (h : zE own cc nL n G) (hd : zD cc pc (.isub) 1 np) {x y : Int32} (kk : G np L (.int (x - y) :: S) w) : G pc L (.int y :: .int x :: S) w := by
  refine h.elim fun p l e R s m args below meth c φ cA D A H0 cells slots Qm Ts hG hC hB hK hA hn1 hn2 hn3 hn4 => ?_
  subst hG
  obtain ⟨hx, hb, hml, hown, hts⟩ := hC
  obtain ⟨hd, rfl⟩ := hd
  intro ls H locs hls hP hD hS
  exact lv_isub hx hb hd (kk ls H locs hls hP hD hS)
theorem zr_imul (h : zE own cc nL n G) (hd : zD cc pc (.imul) 1 np) {x y : Int32} (kk : G np L (.int (x * y) :: S) w) : G pc L (.int y :: .int x :: S) w := by
  refine h.elim fun p l e R s m args below meth c φ cA D A H0 cells slots Qm Ts hG hC hB hK hA hn1 hn2 hn3 hn4 => ?_
  subst hG
  obtain ⟨hx, hb, hml, hown, hts⟩ := hC
  obtain ⟨hd, rfl⟩ := hd
  intro ls H locs hls hP hD hS
  exact lv_imul hx hb hd (kk ls H locs hls hP hD hS)
theorem zr_iand (h : zE own cc nL n G) (hd : zD cc pc (.iand) 1 np) {x y : Int32} (kk : G np L (.int (x &&& y) :: S) w) : G pc L (.int y :: .int x :: S) w := by
  refine h.elim fun p l e R s m args below meth c φ cA D A H0 cells slots Qm Ts hG hC hB hK hA hn1 hn2 hn3 hn4 => ?_
  subst hG
  obtain ⟨hx, hb, hml, hown, hts⟩ := hC
  obtain ⟨hd, rfl⟩ := hd
  intro ls H locs hls hP hD hS
  exact lv_iand hx hb hd (kk ls H locs hls hP hD hS)
theorem zr_ior (h : zE own cc nL n G) (hd : zD cc pc (.ior) 1 np) {x y : Int32} (kk : G np L (.int (x ||| y) :: S) w) : G pc L (.int y :: .int x :: S) w := by
  refine h.elim fun p l e R s m args below meth c φ cA D A H0 cells slots Qm Ts hG hC hB hK hA hn1 hn2 hn3 hn4 => ?_
  subst hG
  obtain ⟨hx, hb, hml, hown, hts⟩ := hC
  obtain ⟨hd, rfl⟩ := hd
  intro ls H locs hls hP hD hS
  exact lv_ior hx hb hd (kk ls H locs hls hP hD hS)
theorem zr_ixor (h : zE own cc nL n G) (hd : zD cc pc (.ixor) 1 np) {x y : Int32} (kk : G np L (.int (x ^^^ y) :: S) w) : G pc L (.int y :: .int x :: S) w := by
  refine h.elim fun p l e R s m args below meth c φ cA D A H0 cells slots Qm Ts hG hC hB hK hA hn1 hn2 hn3 hn4 => ?_
  subst hG
  obtain ⟨hx, hb, hml, hown, hts⟩ := hC
  obtain ⟨hd, rfl⟩ := hd
  intro ls H locs hls hP hD hS
  exact lv_ixor hx hb hd (kk ls H locs hls hP hD hS)
theorem zr_ishl (h : zE own cc nL n G) (hd : zD cc pc (.ishl) 1 np) {x y : Int32} (kk : G np L (.int (x <<< (y &&& 31)) :: S) w) : G pc L (.int y :: .int x :: S) w := by
  refine h.elim fun p l e R s m args below meth c φ cA D A H0 cells slots Qm Ts hG hC hB hK hA hn1 hn2 hn3 hn4 => ?_
  subst hG
  obtain ⟨hx, hb, hml, hown, hts⟩ := hC
  obtain ⟨hd, rfl⟩ := hd
  intro ls H locs hls hP hD hS
  exact lv_ishl hx hb hd (kk ls H locs hls hP hD hS)
theorem zr_ishr (h : zE own cc nL n G) (hd : zD cc pc (.ishr) 1 np) {x y : Int32} (kk : G np L (.int (x >>> (y &&& 31)) :: S) w) : G pc L (.int y :: .int x :: S) w := by
  refine h.elim fun p l e R s m args below meth c φ cA D A H0 cells slots Qm Ts hG hC hB hK hA hn1 hn2 hn3 hn4 => ?_
  subst hG
  obtain ⟨hx, hb, hml, hown, hts⟩ := hC
  obtain ⟨hd, rfl⟩ := hd
  intro ls H locs hls hP hD hS
  exact lv_ishr hx hb hd (kk ls H locs hls hP hD hS)
theorem zr_iushr (h : zE own cc nL n G) (hd : zD cc pc (.iushr) 1 np) {x y : Int32} (kk : G np L (.int ((x.toUInt32 >>> (y.toUInt32 &&& Int32.toUInt32 31)).toInt32) :: S) w) : G pc L (.int y :: .int x :: S) w := by
  refine h.elim fun p l e R s m args below meth c φ cA D A H0 cells slots Qm Ts hG hC hB hK hA hn1 hn2 hn3 hn4 => ?_
  subst hG
  obtain ⟨hx, hb, hml, hown, hts⟩ := hC
  obtain ⟨hd, rfl⟩ := hd
  intro ls H locs hls hP hD hS
  exact lv_iushr hx hb hd rfl (kk ls H locs hls hP hD hS)
theorem zr_idiv (h : zE own cc nL n G) (hd : zD cc pc (.idiv) 1 np) {x y : Int32} (hne : ¬ y = 0) (kk : G np L (.int (x / y) :: S) w) : G pc L (.int y :: .int x :: S) w := by
  refine h.elim fun p l e R s m args below meth c φ cA D A H0 cells slots Qm Ts hG hC hB hK hA hn1 hn2 hn3 hn4 => ?_
  subst hG
  obtain ⟨hx, hb, hml, hown, hts⟩ := hC
  obtain ⟨hd, rfl⟩ := hd
  intro ls H locs hls hP hD hS
  exact lv_idiv hx hb hd hne (kk ls H locs hls hP hD hS)
theorem zr_irem (h : zE own cc nL n G) (hd : zD cc pc (.irem) 1 np) {x y : Int32} (hne : ¬ y = 0) (kk : G np L (.int (x - x / y * y) :: S) w) : G pc L (.int y :: .int x :: S) w := by
  refine h.elim fun p l e R s m args below meth c φ cA D A H0 cells slots Qm Ts hG hC hB hK hA hn1 hn2 hn3 hn4 => ?_
  subst hG
  obtain ⟨hx, hb, hml, hown, hts⟩ := hC
  obtain ⟨hd, rfl⟩ := hd
  intro ls H locs hls hP hD hS
  exact lv_irem hx hb hd hne (kk ls H locs hls hP hD hS)
theorem zr_ineg (h : zE own cc nL n G) (hd : zD cc pc (.ineg) 1 np) {x : Int32} (kk : G np L (.int (-x) :: S) w) : G pc L (.int x :: S) w := by
  refine h.elim fun p l e R s m args below meth c φ cA D A H0 cells slots Qm Ts hG hC hB hK hA hn1 hn2 hn3 hn4 => ?_
  subst hG
  obtain ⟨hx, hb, hml, hown, hts⟩ := hC
  obtain ⟨hd, rfl⟩ := hd
  intro ls H locs hls hP hD hS
  exact lv_ineg hx hb hd (kk ls H locs hls hP hD hS)
theorem zr_i2l (h : zE own cc nL n G) (hd : zD cc pc (.i2l) 1 np) {x : Int32} (kk : G np L (.long x.toInt64 :: S) w) : G pc L (.int x :: S) w := by
  refine h.elim fun p l e R s m args below meth c φ cA D A H0 cells slots Qm Ts hG hC hB hK hA hn1 hn2 hn3 hn4 => ?_
  subst hG
  obtain ⟨hx, hb, hml, hown, hts⟩ := hC
  obtain ⟨hd, rfl⟩ := hd
  intro ls H locs hls hP hD hS
  exact lv_i2l hx hb hd rfl (kk ls H locs hls hP hD hS)
theorem zr_i2b (h : zE own cc nL n G) (hd : zD cc pc (.i2b) 1 np) {x : Int32} (kk : G np L (.int x.toInt8.toInt32 :: S) w) : G pc L (.int x :: S) w := by
  refine h.elim fun p l e R s m args below meth c φ cA D A H0 cells slots Qm Ts hG hC hB hK hA hn1 hn2 hn3 hn4 => ?_
  subst hG
  obtain ⟨hx, hb, hml, hown, hts⟩ := hC
  obtain ⟨hd, rfl⟩ := hd
  intro ls H locs hls hP hD hS
  exact lv_i2b hx hb hd rfl (kk ls H locs hls hP hD hS)
theorem zr_i2s (h : zE own cc nL n G) (hd : zD cc pc (.i2s) 1 np) {x : Int32} (kk : G np L (.int x.toInt16.toInt32 :: S) w) : G pc L (.int x :: S) w := by
  refine h.elim fun p l e R s m args below meth c φ cA D A H0 cells slots Qm Ts hG hC hB hK hA hn1 hn2 hn3 hn4 => ?_
  subst hG
  obtain ⟨hx, hb, hml, hown, hts⟩ := hC
  obtain ⟨hd, rfl⟩ := hd
  intro ls H locs hls hP hD hS
  exact lv_i2s hx hb hd rfl (kk ls H locs hls hP hD hS)
theorem zr_lcmp (h : zE own cc nL n G) (hd : zD cc pc (.lcmp) 1 np) {x y : Int64} (kk : G np L (.int (lg_cmp x y) :: S) w) : G pc L (.long y :: .long x :: S) w := by
  refine h.elim fun p l e R s m args below meth c φ cA D A H0 cells slots Qm Ts hG hC hB hK hA hn1 hn2 hn3 hn4 => ?_
  subst hG
  obtain ⟨hx, hb, hml, hown, hts⟩ := hC
  obtain ⟨hd, rfl⟩ := hd
  intro ls H locs hls hP hD hS
  exact W.lcmp hx hb hd (kk ls H locs hls hP hD hS)
theorem zr_dup (h : zE own cc nL n G) (hd : zD cc pc (.dup) 1 np) {v : Value} (hv : v.category = 1) (kk : G np L (v :: v :: S) w) : G pc L (v :: S) w := by
  refine h.elim fun p l e R s m args below meth c φ cA D A H0 cells slots Qm Ts hG hC hB hK hA hn1 hn2 hn3 hn4 => ?_
  subst hG
  obtain ⟨hx, hb, hml, hown, hts⟩ := hC
  obtain ⟨hd, rfl⟩ := hd
  intro ls H locs hls hP hD hS
  exact lv_dup hx hb hd (by rw [tv_cat]; exact hv) (kk ls H locs hls hP hD hS)
theorem zr_dup2 (h : zE own cc nL n G) (hd : zD cc pc (.dup2) 1 np) {v u : Value} (hv : v.category = 1) (hu : u.category = 1) (kk : G np L (v :: u :: v :: u :: S) w) : G pc L (v :: u :: S) w := by
  refine h.elim fun p l e R s m args below meth c φ cA D A H0 cells slots Qm Ts hG hC hB hK hA hn1 hn2 hn3 hn4 => ?_
  subst hG
  obtain ⟨hx, hb, hml, hown, hts⟩ := hC
  obtain ⟨hd, rfl⟩ := hd
  intro ls H locs hls hP hD hS
  exact lv_dup2_11 hx hb hd (by rw [tv_cat]; exact hv) (by rw [tv_cat]; exact hu) (kk ls H locs hls hP hD hS)
theorem zr_if_eq (h : zE own cc nL n G) {off : Int} (hd : zD cc pc (.ifCond .eq off) 3 np) {tgt : Nat} {x : Int32} (ht : (pc : Int) + off = (tgt : Int)) (kt : x = 0 → G tgt L S w) (kf : ¬ x = 0 → G np L S w) : G pc L (.int x :: S) w := by
  refine h.elim fun p l e R s m args below meth c φ cA D A H0 cells slots Qm Ts hG hC hB hK hA hn1 hn2 hn3 hn4 => ?_
  subst hG
  obtain ⟨hx, hb, hml, hown, hts⟩ := hC
  obtain ⟨hd, rfl⟩ := hd
  intro ls H locs hls hP hD hS
  exact lv_if_eq hx hb hd ht (fun q => kt q ls H locs hls hP hD hS) (fun q => kf q ls H locs hls hP hD hS)
theorem zr_icmp_eq (h : zE own cc nL n G) {off : Int} (hd : zD cc pc (.if_icmp .eq off) 3 np) {tgt : Nat} {x y : Int32} (ht : (pc : Int) + off = (tgt : Int)) (kt : x = y → G tgt L S w) (kf : ¬ x = y → G np L S w) : G pc L (.int y :: .int x :: S) w := by
  refine h.elim fun p l e R s m args below meth c φ cA D A H0 cells slots Qm Ts hG hC hB hK hA hn1 hn2 hn3 hn4 => ?_
  subst hG
  obtain ⟨hx, hb, hml, hown, hts⟩ := hC
  obtain ⟨hd, rfl⟩ := hd
  intro ls H locs hls hP hD hS
  exact lv_icmp_eq hx hb hd ht (fun q => kt q ls H locs hls hP hD hS) (fun q => kf q ls H locs hls hP hD hS)
theorem zr_if_ne (h : zE own cc nL n G) {off : Int} (hd : zD cc pc (.ifCond .ne off) 3 np) {tgt : Nat} {x : Int32} (ht : (pc : Int) + off = (tgt : Int)) (kt : ¬ x = 0 → G tgt L S w) (kf : x = 0 → G np L S w) : G pc L (.int x :: S) w := by
  refine h.elim fun p l e R s m args below meth c φ cA D A H0 cells slots Qm Ts hG hC hB hK hA hn1 hn2 hn3 hn4 => ?_
  subst hG
  obtain ⟨hx, hb, hml, hown, hts⟩ := hC
  obtain ⟨hd, rfl⟩ := hd
  intro ls H locs hls hP hD hS
  exact lv_if_ne hx hb hd ht (fun q => kt q ls H locs hls hP hD hS) (fun q => kf q ls H locs hls hP hD hS)
theorem zr_icmp_ne (h : zE own cc nL n G) {off : Int} (hd : zD cc pc (.if_icmp .ne off) 3 np) {tgt : Nat} {x y : Int32} (ht : (pc : Int) + off = (tgt : Int)) (kt : ¬ x = y → G tgt L S w) (kf : x = y → G np L S w) : G pc L (.int y :: .int x :: S) w := by
  refine h.elim fun p l e R s m args below meth c φ cA D A H0 cells slots Qm Ts hG hC hB hK hA hn1 hn2 hn3 hn4 => ?_
  subst hG
  obtain ⟨hx, hb, hml, hown, hts⟩ := hC
  obtain ⟨hd, rfl⟩ := hd
  intro ls H locs hls hP hD hS
  exact lv_icmp_ne hx hb hd ht (fun q => kt q ls H locs hls hP hD hS) (fun q => kf q ls H locs hls hP hD hS)
theorem zr_if_lt (h : zE own cc nL n G) {off : Int} (hd : zD cc pc (.ifCond .lt off) 3 np) {tgt : Nat} {x : Int32} (ht : (pc : Int) + off = (tgt : Int)) (kt : x < 0 → G tgt L S w) (kf : ¬ x < 0 → G np L S w) : G pc L (.int x :: S) w := by
  refine h.elim fun p l e R s m args below meth c φ cA D A H0 cells slots Qm Ts hG hC hB hK hA hn1 hn2 hn3 hn4 => ?_
  subst hG
  obtain ⟨hx, hb, hml, hown, hts⟩ := hC
  obtain ⟨hd, rfl⟩ := hd
  intro ls H locs hls hP hD hS
  exact lv_if_lt hx hb hd ht (fun q => kt q ls H locs hls hP hD hS) (fun q => kf q ls H locs hls hP hD hS)
theorem zr_icmp_lt (h : zE own cc nL n G) {off : Int} (hd : zD cc pc (.if_icmp .lt off) 3 np) {tgt : Nat} {x y : Int32} (ht : (pc : Int) + off = (tgt : Int)) (kt : x < y → G tgt L S w) (kf : ¬ x < y → G np L S w) : G pc L (.int y :: .int x :: S) w := by
  refine h.elim fun p l e R s m args below meth c φ cA D A H0 cells slots Qm Ts hG hC hB hK hA hn1 hn2 hn3 hn4 => ?_
  subst hG
  obtain ⟨hx, hb, hml, hown, hts⟩ := hC
  obtain ⟨hd, rfl⟩ := hd
  intro ls H locs hls hP hD hS
  exact lv_icmp_lt hx hb hd ht (fun q => kt q ls H locs hls hP hD hS) (fun q => kf q ls H locs hls hP hD hS)
theorem zr_if_ge (h : zE own cc nL n G) {off : Int} (hd : zD cc pc (.ifCond .ge off) 3 np) {tgt : Nat} {x : Int32} (ht : (pc : Int) + off = (tgt : Int)) (kt : 0 ≤ x → G tgt L S w) (kf : ¬ 0 ≤ x → G np L S w) : G pc L (.int x :: S) w := by
  refine h.elim fun p l e R s m args below meth c φ cA D A H0 cells slots Qm Ts hG hC hB hK hA hn1 hn2 hn3 hn4 => ?_
  subst hG
  obtain ⟨hx, hb, hml, hown, hts⟩ := hC
  obtain ⟨hd, rfl⟩ := hd
  intro ls H locs hls hP hD hS
  exact lv_if_ge hx hb hd ht (fun q => kt q ls H locs hls hP hD hS) (fun q => kf q ls H locs hls hP hD hS)
theorem zr_icmp_ge (h : zE own cc nL n G) {off : Int} (hd : zD cc pc (.if_icmp .ge off) 3 np) {tgt : Nat} {x y : Int32} (ht : (pc : Int) + off = (tgt : Int)) (kt : y ≤ x → G tgt L S w) (kf : ¬ y ≤ x → G np L S w) : G pc L (.int y :: .int x :: S) w := by
  refine h.elim fun p l e R s m args below meth c φ cA D A H0 cells slots Qm Ts hG hC hB hK hA hn1 hn2 hn3 hn4 => ?_
  subst hG
  obtain ⟨hx, hb, hml, hown, hts⟩ := hC
  obtain ⟨hd, rfl⟩ := hd
  intro ls H locs hls hP hD hS
  exact lv_icmp_ge hx hb hd ht (fun q => kt q ls H locs hls hP hD hS) (fun q => kf q ls H locs hls hP hD hS)
theorem zr_if_gt (h : zE own cc nL n G) {off : Int} (hd : zD cc pc (.ifCond .gt off) 3 np) {tgt : Nat} {x : Int32} (ht : (pc : Int) + off = (tgt : Int)) (kt : 0 < x → G tgt L S w) (kf : ¬ 0 < x → G np L S w) : G pc L (.int x :: S) w := by
  refine h.elim fun p l e R s m args below meth c φ cA D A H0 cells slots Qm Ts hG hC hB hK hA hn1 hn2 hn3 hn4 => ?_
  subst hG
  obtain ⟨hx, hb, hml, hown, hts⟩ := hC
  obtain ⟨hd, rfl⟩ := hd
  intro ls H locs hls hP hD hS
  exact lv_if_gt hx hb hd ht (fun q => kt q ls H locs hls hP hD hS) (fun q => kf q ls H locs hls hP hD hS)
theorem zr_icmp_gt (h : zE own cc nL n G) {off : Int} (hd : zD cc pc (.if_icmp .gt off) 3 np) {tgt : Nat} {x y : Int32} (ht : (pc : Int) + off = (tgt : Int)) (kt : y < x → G tgt L S w) (kf : ¬ y < x → G np L S w) : G pc L (.int y :: .int x :: S) w := by
  refine h.elim fun p l e R s m args below meth c φ cA D A H0 cells slots Qm Ts hG hC hB hK hA hn1 hn2 hn3 hn4 => ?_
  subst hG
  obtain ⟨hx, hb, hml, hown, hts⟩ := hC
  obtain ⟨hd, rfl⟩ := hd
  intro ls H locs hls hP hD hS
  exact lv_icmp_gt hx hb hd ht (fun q => kt q ls H locs hls hP hD hS) (fun q => kf q ls H locs hls hP hD hS)
theorem zr_if_le (h : zE own cc nL n G) {off : Int} (hd : zD cc pc (.ifCond .le off) 3 np) {tgt : Nat} {x : Int32} (ht : (pc : Int) + off = (tgt : Int)) (kt : x ≤ 0 → G tgt L S w) (kf : ¬ x ≤ 0 → G np L S w) : G pc L (.int x :: S) w := by
  refine h.elim fun p l e R s m args below meth c φ cA D A H0 cells slots Qm Ts hG hC hB hK hA hn1 hn2 hn3 hn4 => ?_
  subst hG
  obtain ⟨hx, hb, hml, hown, hts⟩ := hC
  obtain ⟨hd, rfl⟩ := hd
  intro ls H locs hls hP hD hS
  exact lv_if_le hx hb hd ht (fun q => kt q ls H locs hls hP hD hS) (fun q => kf q ls H locs hls hP hD hS)
theorem zr_icmp_le (h : zE own cc nL n G) {off : Int} (hd : zD cc pc (.if_icmp .le off) 3 np) {tgt : Nat} {x y : Int32} (ht : (pc : Int) + off = (tgt : Int)) (kt : x ≤ y → G tgt L S w) (kf : ¬ x ≤ y → G np L S w) : G pc L (.int y :: .int x :: S) w := by
  refine h.elim fun p l e R s m args below meth c φ cA D A H0 cells slots Qm Ts hG hC hB hK hA hn1 hn2 hn3 hn4 => ?_
  subst hG
  obtain ⟨hx, hb, hml, hown, hts⟩ := hC
  obtain ⟨hd, rfl⟩ := hd
  intro ls H locs hls hP hD hS
  exact lv_icmp_le hx hb hd ht (fun q => kt q ls H locs hls hP hD hS) (fun q => kf q ls H locs hls hP hD hS)
theorem zr_goto (h : zE own cc nL n G) {off : Int} (hd : zD cc pc (.goto off) 3 np) {tgt : Nat} (ht : (pc : Int) + off = (tgt : Int)) (kk : G tgt L S w) : G pc L S w := by
  refine h.elim fun p l e R s m args below meth c φ cA D A H0 cells slots Qm Ts hG hC hB hK hA hn1 hn2 hn3 hn4 => ?_
  subst hG
  obtain ⟨hx, hb, hml, hown, hts⟩ := hC
  obtain ⟨hd, rfl⟩ := hd
  intro ls H locs hls hP hD hS
  exact lv_goto hx hb hd ht (kk ls H locs hls hP hD hS)
theorem zr_lookup (h : zE own cc nL n G) {dflt : Int} {ps : Array (Int × Int)} {len : Nat} {x : Int32} {off : Int} {tgt : Nat} (hd : zD cc pc (.lookupswitch dflt ps) len np) (hp : (ps.toList.zip (ps.toList.drop 1)).all (fun (a, next) => a.1 < next.1) = true) (ho : Op.lookupswitch.offset ps.toList dflt x.toInt = off) (ht : (pc : Int) + off = (tgt : Int)) (kk : G tgt L S w) : G pc L (.int x :: S) w := by
  refine h.elim fun p l e R s m args below meth c φ cA D A H0 cells slots Qm Ts hG hC hB hK hA hn1 hn2 hn3 hn4 => ?_
  subst hG
  obtain ⟨hx, hb, hml, hown, hts⟩ := hC
  obtain ⟨hd, rfl⟩ := hd
  intro ls H locs hls hP hD hS
  exact lv_lookup hx hb hd hp ho ht (kk ls H locs hls hP hD hS)
theorem zr_tableOut (h : zE own cc nL n G) {dflt lo hi : Int} {offs : Array Int} {len : Nat} {x : Int32} {tgt : Nat} (hd : zD cc pc (.tableswitch dflt lo hi offs) len np) (hx1 : x.toInt < lo ∨ hi < x.toInt) (ht : (pc : Int) + dflt = (tgt : Int)) (kk : G tgt L S w) : G pc L (.int x :: S) w := by
  refine h.elim fun p l e R s m args below meth c φ cA D A H0 cells slots Qm Ts hG hC hB hK hA hn1 hn2 hn3 hn4 => ?_
  subst hG
  obtain ⟨hx, hb, hml, hown, hts⟩ := hC
  obtain ⟨hd, rfl⟩ := hd
  intro ls H locs hls hP hD hS
  exact lv_tableOut hx hb hd hx1 ht (kk ls H locs hls hP hD hS)
theorem zr_tableIn (h : zE own cc nL n G) {dflt lo hi : Int} {offs : Array Int} {len : Nat} {x : Int32} {off : Int} {tgt : Nat} (hd : zD cc pc (.tableswitch dflt lo hi offs) len np) (h1 : ¬ x.toInt < lo) (h2 : ¬ hi < x.toInt) (ho : offs[(x.toInt - lo).toNat]? = some off) (ht : (pc : Int) + off = (tgt : Int)) (kk : G tgt L S w) : G pc L (.int x :: S) w := by
  refine h.elim fun p l e R s m args below meth c φ cA D A H0 cells slots Qm Ts hG hC hB hK hA hn1 hn2 hn3 hn4 => ?_
  subst hG
  obtain ⟨hx, hb, hml, hown, hts⟩ := hC
  obtain ⟨hd, rfl⟩ := hd
  intro ls H locs hls hP hD hS
  exact lv_tableIn hx hb hd h1 h2 ho ht (kk ls H locs hls hP hD hS)
def zF (own : String) (idx ci k : Nat) : Prop := ∃ (C : String) (T : u_T) (N : Nat) (ty0 : Nat → FieldType), vwCl[ci]? = some (C, T, N) ∧ k < N ∧ (∀ w ∈ u_ws C T N, w ∈ big) ∧ (∀ k, k < N → parseFieldDescriptor (T k).2.2.1 = some (ty0 k)) ∧ (∀ a, a < N → ∀ b, b < N → a ≠ b → (T a).2.1 ≠ (T b).2.1) ∧
  (Cond.fieldLink own idx (T k).1 (T k).2.1 (T k).2.2.1 ∈ big ∨ ∃ host, Cond.fieldLinkNest own idx (T k).1 (T k).2.1 (T k).2.2.1 host ∈ nests)
def zFp (own : String) (idx ci k : Nat) (ty : FieldType) : Prop := zF own idx ci k ∧ ∃ q : vw_C, vwCl[ci]? = some q ∧ (q.2.1 k).2.2.2 = false ∧ parseFieldDescriptor (q.2.1 k).2.2.1 = some ty
theorem zr_getI (h : zE own cc nL n G) {idx o ci k : Nat} {fl : List (Option Nat)} (hd : zD cc pc (.getfield idx) 3 np) (hf : zF own idx ci k) (hs : zshapes[o]? = some (zob ci fl)) (hk : fl[k]? = some (none)) (kk : G np L (.int (w o k) :: S) w) : G pc L (.ref o :: S) w := by
  refine h.elim fun p l e R s m args below meth c φ cA D A H0 cells slots Qm Ts hG hC hB hK hA hn1 hn2 hn3 hn4 => ?_
  subst hG
  obtain ⟨hx, hb, hml, hown, hts⟩ := hC
  obtain ⟨hd, rfl⟩ := hd
  intro ls H locs hls hP hD hS
  obtain ⟨C, T, N, ty0, hc, hkN, hin, hty, hnm, hl⟩ := hf
  have hv : (zfs φ w o 0 fl)[k]? = some (tv φ (.int (w o k))) := by rw [zfs_get, hk]; simp [zfv, tv]
  rcases hl with hl | ⟨host, hl⟩
  · exact va_get hx hb hts (fun w hw => hB w (hin w hw)) hown hK.1 hP o (zWS_get hs) hc k hkN (hts _ (hB _ hl)) (fun _ q => q) hv hd (kk ls H locs hls hP hD hS)
  · exact va_getN hx hb hts (fun w hw => hB w (hin w hw)) hown hK.1 hP o (zWS_get hs) hc k hkN (va_Nw.use rfl (hK.2 _ hl)) (fun _ q => q) hv hd (kk ls H locs hls hP hD hS)
theorem zr_getR (h : zE own cc nL n G) {idx o ci k : Nat} {fl : List (Option Nat)} {r : Nat} (hd : zD cc pc (.getfield idx) 3 np) (hf : zF own idx ci k) (hs : zshapes[o]? = some (zob ci fl)) (hk : fl[k]? = some (some r)) (kk : G np L (.ref r :: S) w) : G pc L (.ref o :: S) w := by
  refine h.elim fun p l e R s m args below meth c φ cA D A H0 cells slots Qm Ts hG hC hB hK hA hn1 hn2 hn3 hn4 => ?_
  subst hG
  obtain ⟨hx, hb, hml, hown, hts⟩ := hC
  obtain ⟨hd, rfl⟩ := hd
  intro ls H locs hls hP hD hS
  obtain ⟨C, T, N, ty0, hc, hkN, hin, hty, hnm, hl⟩ := hf
  have hv : (zfs φ w o 0 fl)[k]? = some (tv φ (.ref r)) := by rw [zfs_get, hk]; simp [zfv, tv]
  rcases hl with hl | ⟨host, hl⟩
  · exact va_get hx hb hts (fun w hw => hB w (hin w hw)) hown hK.1 hP o (zWS_get hs) hc k hkN (hts _ (hB _ hl)) (fun _ q => q) hv hd (kk ls H locs hls hP hD hS)
  · exact va_getN hx hb hts (fun w hw => hB w (hin w hw)) hown hK.1 hP o (zWS_get hs) hc k hkN (va_Nw.use rfl (hK.2 _ hl)) (fun _ q => q) hv hd (kk ls H locs hls hP hD hS)
theorem zr_put (h : zE own cc nL n G) {idx o ci k : Nat} {fl : List (Option Nat)} {ty : FieldType} {v : Int32} (hd : zD cc pc (.putfield idx) 3 np) (hf : zFp own idx ci k ty) (hs : zshapes[o]? = some (zob ci fl)) (hk : fl[k]? = some none) (hn : narrow ty (.int v) = .int v) (hfit : fits ty (.int v) = true) (kk : G np L S (wu w o k v)) : G pc L (.int v :: .ref o :: S) w := by
  refine h.elim fun p l e R s m args below meth c φ cA D A H0 cells slots Qm Ts hG hC hB hK hA hn1 hn2 hn3 hn4 => ?_
  subst hG
  obtain ⟨hx, hb, hml, hown, hts⟩ := hC
  obtain ⟨hd, rfl⟩ := hd
  intro ls H locs hls hP hD hS
  obtain ⟨⟨C, T, N, ty0, hc, hkN, hin, hty, hnm, hl⟩, q, hq, hfin, hdesc⟩ := hf
  cases hc.symm.trans hq
  have hkl : k < (zfs φ w o 0 fl).length := by rw [zfs_len]; exact (List.getElem?_eq_some_iff.mp hk).1
  have key : (zWS φ cA w).set o (φ o, .inr (ci, (zfs φ w o 0 fl).set k (.int v))) = zWS φ cA (wu w o k v) := by
    rw [zfs_set φ w o fl k v hk]
    exact zWS_set (φ := φ) (cA := cA) (w := w) (w' := wu w o k v) (sh := zob ci fl) hs (fun p hp => wu_off hp)
  rcases hl with hl | ⟨host, hl⟩
  · exact va_put hx hb hts (fun w hw => hB w (hin w hw)) ty0 hty hnm hown hK.1 hP hD hS o (zWS_get hs) hc k hkN (hts _ (hB _ hl)) (fun _ q => q) hfin hdesc hn hfit hkl hd (fun H1 locs1 hP1 hD1 hS1 => kk ls H1 locs1 hls (key ▸ hP1) (key ▸ hD1) hS1)
  · exact va_putN hx hb hts (fun w hw => hB w (hin w hw)) ty0 hty hnm hown hK.1 hP hD hS o (zWS_get hs) hc k hkN (va_Nw.use rfl (hK.2 _ hl)) (fun _ q => q) hfin hdesc hn hfit hkl hd (fun H1 locs1 hP1 hD1 hS1 => kk ls H1 locs1 hls (key ▸ hP1) (key ▸ hD1) hS1)
theorem zr_iald (h : zE own cc nL n G) {o N : Nat} {i : Int32} (hd : zD cc pc .iaload 1 np) (hs : zshapes[o]? = some (zia N)) (hin : vp_in i N) (kk : G np L (.int (w o i.toNatClampNeg) :: S) w) : G pc L (.int i :: .ref o :: S) w := by
  refine h.elim fun p l e R s m args below meth c φ cA D A H0 cells slots Qm Ts hG hC hB hK hA hn1 hn2 hn3 hn4 => ?_
  subst hG
  obtain ⟨hx, hb, hml, hown, hts⟩ := hC
  obtain ⟨hd, rfl⟩ := hd
  intro ls H locs hls hP hD hS
  exact va_iald hx hb hK.1 hP o 0 (zWS_get hs) rfl hin hd (kk ls H locs hls hP hD hS)
theorem zr_iast (h : zE own cc nL n G) {o N : Nat} {i x : Int32} (hd : zD cc pc .iastore 1 np) (hs : zshapes[o]? = some (zia N)) (hin : vp_in i N) (kk : G np L S (wu w o i.toNatClampNeg x)) : G pc L (.int x :: .int i :: .ref o :: S) w := by
  refine h.elim fun p l e R s m args below meth c φ cA D A H0 cells slots Qm Ts hG hC hB hK hA hn1 hn2 hn3 hn4 => ?_
  subst hG
  obtain ⟨hx, hb, hml, hown, hts⟩ := hC
  obtain ⟨hd, rfl⟩ := hd
  intro ls H locs hls hP hD hS
  have key : (zWS φ cA w).set o (φ o, .inl (cA 0, N, .inl (upd (w o) i.toNatClampNeg x))) = zWS φ cA (wu w o i.toNatClampNeg x) := by
    have e : upd (w o) i.toNatClampNeg x = wu w o i.toNatClampNeg x o := by funext b; simp [upd, wu]
    rw [e]
    exact zWS_set (φ := φ) (cA := cA) (w := w) (w' := wu w o i.toNatClampNeg x) (sh := zia N) hs (fun p hp => wu_off hp)
  exact va_iast hx hb hK.1 hP hD hS o 0 (zWS_get hs) rfl hin hd (fun H1 locs1 hP1 hD1 hS1 => kk ls H1 locs1 hls (key ▸ hP1) (key ▸ hD1) hS1)
theorem zr_aald (h : zE own cc nL n G) {o t r : Nat} {l0 : List Nat} {i : Int32} (hd : zD cc pc .aaload 1 np) (hs : zshapes[o]? = some (zra t l0)) (ht : t = 1 ∨ t = 2) (hin : vp_in i l0.length) (hr : l0[i.toNatClampNeg]? = some r) (kk : G np L (.ref r :: S) w) : G pc L (.int i :: .ref o :: S) w := by
  refine h.elim fun p l e R s m args below meth c φ cA D A H0 cells slots Qm Ts hG hC hB hK hA hn1 hn2 hn3 hn4 => ?_
  subst hG
  obtain ⟨hx, hb, hml, hown, hts⟩ := hC
  obtain ⟨hd, rfl⟩ := hd
  intro ls H locs hls hP hD hS
  have kk2 := kk ls H locs hls hP hD hS
  have e : va_rf ((fun k => (l0[k]?).map φ) i.toNatClampNeg) = tv φ (.ref r) := by simp [hr, va_rf, tv]
  rcases ht with rfl | rfl
  · exact va_aldq (f := fun k => (l0[k]?).map φ) hx hb hK.1 hP o 1 (zWS_get hs) rfl hin hd (by rw [e]; exact kk2)
  · exact va_aldq (f := fun k => (l0[k]?).map φ) hx hb hK.1 hP o 2 (zWS_get hs) rfl hin hd (by rw [e]; exact kk2)
end ZRows
end
section
/-! Contracts over the fixed world, and calls. -/
/-- a method: its name, code, locals, what it returns -/
abbrev zM : Type := MethodName × ByteArray × Nat × Option FieldType
def zws (M : zM) : List Cond := Cond.code M.1 M.2.1 M.2.2.1 M.2.2.2 :: big
def zrm (n : Nat) : Room := { frames := n, cells := 0, slots := 0, locals := 60 * n }
def zA (φ : Nat → Nat) (sz : Nat) : Nat → Prop := fun q => (∃ o, o < zshapes.length ∧ q = φ o) ∨ sz ≤ q
def zB (φ : Nat → Nat) (cA : Nat → ClassId) (D : va_G) (w : ww) (sz : Nat) : State → Prop := fun U => U.heap.size = sz ∧ va_P D vwCl (zWS φ cA w) U.heap ∧ zK D cA U ∧ va_D (fun _ => True) (zWS φ cA w)
def zQc (φ : Nat → Nat) (cA : Nat → ClassId) (D : va_G) (A : Nat → Prop) (Q : Option Value → ww → Prop) : Array Value → State → Outcome → State → Prop := fun _ st oc t =>
  (∃ (r : Option Value) (w : ww), oc = .returned (r.map (tv φ)) ∧ Q r w ∧ va_P D vwCl (zWS φ cA w) t.heap ∧ va_D A (zWS φ cA w)) ∧ va_F A st t
def Ct (M : zM) (n : Nat) (av : List Value) (w : ww) (Q : Option Value → ww → Prop) : Prop := ∀ (l : Launch) (φ : Nat → Nat) (cA : Nat → ClassId) (D : va_G) (sz : Nat),
  Met l M.1 (zws M) (zrm n) (va_Pc (av.map (tv φ)) (zB φ cA D w sz)) (zQc φ cA D (zA φ sz) Q) 0 0 (zA φ sz)
def zel : List Value → zL
  | [] => []
  | v :: l => match v with
    | .long x => some (.long x) :: none :: zel l
    | .double x => some (.double x) :: none :: zel l
    | v => some v :: zel l
def zpad : Nat → zL → zL
  | 0, _ => []
  | n + 1, [] => none :: zpad n []
  | n + 1, a :: l => a :: zpad n l
theorem zpad_sub : ∀ (n : Nat) (L : zL) (k : Nat) (v : Value), (zpad n L)[k]? = some (some v) → L[k]? = some (some v)
  | 0, L, k, v, h => by simp [zpad] at h
  | n + 1, [], 0, v, h => by simp [zpad] at h
  | n + 1, [], k + 1, v, h => by
    have := zpad_sub n [] k v (by simpa [zpad] using h)
    simp at this
  | n + 1, a :: l, 0, v, h => by simpa [zpad] using h
  | n + 1, a :: l, k + 1, v, h => by
    simpa using zpad_sub n l k v (by simpa [zpad] using h)
theorem zel_mem (φ : Nat → Nat) : ∀ (vs : List Value) (j : Nat), ∀ q ∈ zas φ j (zel vs), q ∈ lv_args j (vs.map (tv φ))
  | [], j, q, h => by simp [zel, zas] at h
  | v :: l, j, q, h => by
    cases v with
    | long x =>
      simp only [zel, zas, List.mem_cons] at h
      rcases h with rfl | h
      · simp [lv_args]
      · have := zel_mem φ l (j + 1 + 1) q h
        simp [lv_args, tv, Value.category] at this ⊢
        exact Or.inr this
    | double x =>
      simp only [zel, zas, List.mem_cons] at h
      rcases h with rfl | h
      · simp [lv_args]
      · have := zel_mem φ l (j + 1 + 1) q h
        simp [lv_args, tv, Value.category] at this ⊢
        exact Or.inr this
    | int x =>
      simp only [zel, zas, List.mem_cons] at h
      rcases h with rfl | h
      · simp [lv_args]
      · have := zel_mem φ l (j + 1) q h
        simp [lv_args, tv, Value.category] at this ⊢
        exact Or.inr this
    | float x =>
      simp only [zel, zas, List.mem_cons] at h
      rcases h with rfl | h
      · simp [lv_args]
      · have := zel_mem φ l (j + 1) q h
        simp [lv_args, tv, Value.category] at this ⊢
        exact Or.inr this
    | null =>
      simp only [zel, zas, List.mem_cons] at h
      rcases h with rfl | h
      · simp [lv_args]
      · have := zel_mem φ l (j + 1) q h
        simp [lv_args, tv, Value.category] at this ⊢
        exact Or.inr this
    | ref x =>
      simp only [zel, zas, List.mem_cons] at h
      rcases h with rfl | h
      · simp [lv_args]
      · have := zel_mem φ l (j + 1) q h
        simp [lv_args, tv, Value.category] at this ⊢
        exact Or.inr this
    | retAddr x =>
      simp only [zel, zas, List.mem_cons] at h
      rcases h with rfl | h
      · simp [lv_args]
      · have := zel_mem φ l (j + 1) q h
        simp [lv_args, tv, Value.category] at this ⊢
        exact Or.inr this
theorem zA_big {φ : Nat → Nat} {cA : Nat → ClassId} {w : ww} {sz : Nat} {B : Nat → Prop} (hD : va_D B (zWS φ cA w)) : va_D (zA φ sz) (zWS φ cA w) := by
  refine ⟨hD.1, fun k q hk => Or.inl ⟨k, ?_, ?_⟩⟩
  · have := (List.getElem?_eq_some_iff.mp hk).1
    simpa [zWS] using this
  · simp only [zWS, List.getElem?_mapIdx, Option.map_eq_some_iff] at hk
    obtain ⟨a, -, rfl⟩ := hk
    rfl
set_option maxHeartbeats 2000000 in
/-- a contract out of a walk of its body -/
theorem Ct.of {M : zM} {n : Nat} {av : List Value} {w : ww} {Q : Option Value → ww → Prop} (hp : plainName M.1.cls = true) (hlen : (zel av).length ≤ M.2.2.1) (hfit : ∀ φ : Nat → Nat, (lg_sl (av.map (tv φ))).length ≤ M.2.2.1)
    (body : ∀ G : zG, zR M.1.cls M.2.1 M.2.2.1 n M.2.2.2 Q G → G 0 (zpad M.2.2.1 (zel av)) [] w) : Ct M n av w Q := by
  intro l φ cA D sz
  refine Met.ofW (cc := M.2.1) (maxL := M.2.2.1) (ret := M.2.2.2) hp rfl ?_
  intro p e s m args below meth c s₁ B hml hv
  obtain ⟨rfl, rfl, hP, hK, hD0⟩ := hv
  have hx := B.exec
  have hb := B.bytes
  have hr := B.returns
  have hts := atoms_spec (ws := zws M) B.pre
  have hown : s.vm.findClass M.1.cls = some m.cls := findClass_of_methodNamed B.named
  have hlocks := B.notSynchronized
  have hD := zA_big (sz := s.heap.size) hD0
  rw [lg_entry_eq]
  have hl := lv_entry (av.map (tv φ)) (n := M.2.2.1) (hfit φ)
  have hls : zlok φ ((lg_sl (av.map (tv φ)) ++ List.replicate (M.2.2.1 - (lg_sl (av.map (tv φ))).length) Slot.unset).toArray) M.2.2.1 (zel av) :=
    ⟨hl.1, hl.2.1, fun q hq => hl.2.2 q (zel_mem φ av 0 q hq)⟩
  have hls := zlok.sub hls (zpad_sub M.2.2.1 (zel av))
  refine body (zV p l e (headSpec (zws M) (zrm n)).room s m (av.map (tv φ)).toArray below meth c M.2.2.1 φ cA D (zA φ s.heap.size) s.heap 0 0 (MQ below (zQc φ cA D (zA φ s.heap.size) Q) (av.map (tv φ)).toArray s 0 0 (zA φ s.heap.size))) ⟨⟨p, l, e, (headSpec (zws M) (zrm n)).room, s, m, (av.map (tv φ)).toArray, below, meth, c, φ, cA, D, zA φ s.heap.size, s.heap, 0, 0, _, zws M, rfl, ⟨hx, hb, hml, hown, hts⟩, fun w hw => List.mem_cons_of_mem _ hw, hK, fun q h => Or.inr h, Nat.le_refl _, Nat.le_refl _, Nat.zero_le _, Nat.zero_le _⟩, ?_, ?_, ?_⟩ _ s.heap [] hls hP hD va_S.rf
  · intro ty v pc L w np hd hret hn hQ ls H locs hls hP hD hS
    exact W.zret hx hb (hr.trans hret) hn (fun t ht hW => ⟨⟨some (.int v), w, rfl, hQ, by rw [ht]; exact hP, hD⟩, hS.F ht⟩) hS.2.2 hd.1
  · intro v pc L w np hd hret hQ ls H locs hls hP hD hS
    exact W.lret hx hb (hr.trans hret) (fun t ht hW => ⟨⟨some (.long v), w, rfl, hQ, by rw [ht]; exact hP, hD⟩, hS.F ht⟩) hS.2.2 hd.1
  · intro pc L w np hd hret hQ ls H locs hls hP hD hS
    exact W.vret hx hb (hr.trans hret) (fun t ht hW => ⟨⟨none, w, rfl, hQ, by rw [ht]; exact hP, hD⟩, hS.F ht⟩) hS.2.2 hd.1
def zpush : Option Value → List Value → List Value
  | none, S => S
  | some v, S => v :: S
theorem zpush_map (φ : Nat → Nat) (r : Option Value) (S : List Value) : (r.map (tv φ)).toList ++ S.map (tv φ) = (zpush r S).map (tv φ) := by cases r <;> simp [zpush]
def zcat (S : List Value) : Nat := (S.map fun v => v.category).sum
theorem zcat_tv (φ : Nat → Nat) (S : List Value) : ((S.map (tv φ)).map fun v => v.category).sum = zcat S := by
  unfold zcat
  rw [List.map_map]
  congr 1
  exact List.map_congr_left (fun v _ => tv_cat φ v)
section ZCalls
variable {p : Program} {l : Launch} {e : Env} {R : Room} {s : State} {m : MethodId} {args : Array Value} {below : List Frame} {meth : Method} {c : Code} {φ : Nat → Nat} {cA : Nat → ClassId} {D : va_G} {A : Nat → Prop} {H0 : Heap} {cells slots : Nat} {Qm : State → Prop}
theorem zA_in {w : ww} {H : Heap} {locs : List Loc} (hD : va_D A (zWS φ cA w)) (hS : va_S A H0 H locs) (hA : ∀ q, H0.size ≤ q → A q) : ∀ q, zA φ H.size q → A q := by
  intro q hq
  rcases hq with ⟨o, ho, rfl⟩ | hq
  · obtain ⟨sh, hsh⟩ : ∃ sh, zshapes[o]? = some sh := ⟨_, List.getElem?_eq_getElem ho⟩
    exact hD.2 o _ (zWS_get hsh)
  · exact hA q (Nat.le_trans hS.1 hq)
/-- behind a call -/
theorem z_behind {nL pc : Nat} {L : zL} {ls : Array Slot} {H : Heap} {locs : List Loc} {S st0 : List Value} {a : Array Value} {w : ww} {Q : Option Value → ww → Prop}
    (hr : va_Run p l e R s m args below meth c H locs cells slots 0 0 (F0 m pc ls st0) (S.map (tv φ)) (zQc φ cA D (zA φ H.size) Q a) (zA φ H.size)) (hls : zlok φ ls nL L) (hD : va_D A (zWS φ cA w)) (hS : va_S A H0 H locs) (hA : ∀ q, H0.size ≤ q → A q)
    (kk : ∀ r w', Q r w' → zV p l e R s m args below meth c nL φ cA D A H0 cells slots Qm (pc + 3) L (zpush r S) w') : W p l e R s m args below meth c H locs cells slots Qm (F0 m pc ls st0) := by
  have hin := zA_in hD hS hA
  intro T hT X
  obtain ⟨v, st₀, t, T', L2, h0, X', hL, e1, e2, ⟨⟨r, w', hv, hq, hP1, hD1⟩, hz, hk⟩, st⟩ := hr T hT X
  have hv : v = r.map (tv φ) := by cases hv; rfl
  subst hv
  rw [h0] at hz hk
  obtain ⟨t2, a1, b1⟩ := kk r w' hq ls T'.heap (locs ++ L2) hls (by rw [e1]; exact hP1) (hD1.weaken (fun k q _ h => hin q.1 h))
    ⟨Nat.le_trans hS.1 (by rw [e1]; exact hz), fun q h1 h2 => by rw [e1, hk q (Nat.lt_of_lt_of_le h1 hS.1) (fun z => h2 (hin q z))]; exact hS.2.1 q h1 h2, fun q hq => by
      rcases List.mem_append.mp hq with h | h
      · exact hS.2.2 q h
      · exact hin _ (hL q h)⟩ T' rfl X'
  refine ⟨t2, st t2 ?_, b1⟩
  rw [zpush_map]
  exact a1
end ZCalls
/-- what a call of M, by the pool's place idx of class own, asks of the tables; k: how many arguments -/
def zLn (own : String) (idx : Nat) (M : zM) (k : Nat) : Prop := (Cond.methodLink own idx M.1 ∈ big ∨ ∃ host, Cond.methodLinkNest own idx M.1 host ∈ nests) ∧ Cond.code M.1 M.2.1 M.2.2.1 M.2.2.2 ∈ big ∧ Cond.initialized M.1.cls ∈ big ∧ (M.1.cls ≠ "java/lang/invoke/MethodHandle" ∧ M.1.cls ≠ "java/lang/invoke/VarHandle" ∧ (parseMethodDescriptor M.1.desc).map (fun d => d.parameters.length) = some k) ∧ M.2.2.1 ≤ 30
def zLv (own : String) (idx : Nat) (M : zM) (k : Nat) : Prop := zLn own idx M k ∧ Cond.instanceMethod M.1 ∈ big ∧ Cond.selects M.1.cls M.1 M.1 ∈ big
def zLs (own : String) (idx : Nat) (M : zM) (k : Nat) : Prop := zLn own idx M k ∧ Cond.static M.1 ∈ big
theorem big_good {w : Cond} (h : w ∈ big) : (w.onTables && w.keeps) = true ∨ ∃ ty, w = .arrayClass ty := good_of_word (List.mem_filter.mp h).2
theorem zws_good {M : zM} {Ts : List Cond} (hB : ∀ w ∈ big, w ∈ Ts) (hc : Cond.code M.1 M.2.1 M.2.2.1 M.2.2.2 ∈ big) : GoodIn Ts (zws M) := by
  intro w hw
  rcases List.mem_cons.mp hw with rfl | hw
  · exact ⟨hB _ hc, big_good hc⟩
  · exact ⟨hB _ hw, big_good hw⟩
theorem z_blind {φ : Nat → Nat} {cA : Nat → ClassId} {D : va_G} {w : ww} {sz : Nat} {av : List Value} : FrameBlind (va_Pc av (zB φ cA D w sz)) := by
  intro a U g mk q
  obtain ⟨q0, q1, qP, qK, qD⟩ := q
  exact ⟨q0, q1, qP, zK.same (u := U) (U := U.calling g mk a) rfl qK, qD⟩
section ZCallRows
variable {own : String} {cc : ByteArray} {nL n : Nat} {G : zG} {pc np : Nat} {L : zL} {S : List Value} {w : ww}
set_option maxHeartbeats 2000000 in
theorem zr_callV (h : zE own cc nL n G) {idx k j o ci : Nat} {fl : List (Option Nat)} {q : vw_C} {M : zM} {As : List Value} (hd : zD cc pc (.invokevirtual idx) 3 np) (hl : zLv own idx M j) (hs : zshapes[o]? = some (zob ci fl)) (hq : vwCl[ci]? = some q) (hqc : q.1 = M.1.cls) (hn : k + 1 ≤ n) (hlen : As.length = j) (hcat : zcat S ≤ 8)
    (hc : Ct M k (.ref o :: As) w (fun r w' => G np L (zpush r S) w')) : G pc L (As.reverse ++ .ref o :: S) w := by
  refine h.elim fun p l e R s m args below meth c φ cA D A H0 cells slots Qm Ts hG hC hB hK hA hn1 hn2 hn3 hn4 => ?_
  subst hG
  obtain ⟨hd, rfl⟩ := hd
  intro ls H locs hls hP hD hS
  have hC' := hC
  obtain ⟨hx, hb, hml, hown, hts⟩ := hC'
  obtain ⟨⟨hlk, hcode, hini, ⟨hm1, hm2, hpar⟩, h30⟩, hinst, hsel⟩ := hl
  have hM := hc l φ cA D H.size
  have hMeq : M.1 = ⟨M.1.cls, M.1.name, M.1.desc⟩ := rfl
  have hPre : PreV s H M.1.cls (φ o) (va_Pc ((Value.ref o :: As).map (tv φ)) (zB φ cA D w H.size)) (As.map (tv φ)) :=
    ⟨z_blind, by have := va_recv hK.1 hP hq (zWS_get hs); rw [hqc] at this; exact this, fun U hU hW => ⟨by simp [tv], by rw [hU], by rw [hU]; exact hP, hK.warm hW, hD.weaken (fun _ _ _ _ => trivial)⟩⟩
  have hR1 : (zrm k).frames + 1 ≤ R.frames := Nat.le_trans hn hn1
  have hR2 : 8 + (M.2.2.1 + 11) + (zrm k).locals ≤ R.locals := by show 8 + (M.2.2.1 + 11) + 60 * k ≤ R.locals; omega
  have hst : ((As.reverse ++ .ref o :: S).map (tv φ)) = (As.map (tv φ)).reverse ++ .ref (φ o) :: S.map (tv φ) := by simp [tv]
  rw [hst]
  have hcat' : 2 * (F0 m pc ls ((As.map (tv φ)).reverse ++ .ref (φ o) :: S.map (tv φ))).monitorRoom + ((S.map (tv φ)).map fun v => v.category).sum ≤ 8 := lv_room (by rw [zcat_tv]; exact hcat)
  rcases hlk with hlk | ⟨host, hlk⟩
  · have cw : CallW R s args own M.1.cls idx M.1 M.2.1 M.2.2.1 M.2.2.2 (zws M) (zrm k) 0 0 j :=
      ⟨callB_of j hts (zws_good hB hcode) rfl rfl rfl (hts _ (hB _ hini)) (hts _ (hB _ hlk)) ⟨hm1, hm2, hpar⟩ ⟨hR1, hR2⟩, hts _ (hB _ hinst), hts _ (hB _ hsel)⟩
    exact z_behind (va_runV hC hM cw hPre rfl (by simpa using hlen) hls.1 rfl hcat' hd ⟨hn3, hn4⟩) hls hD hS hA (fun r w' hq => hq)
  · have cw : va_CN R s args own idx M.1 host M.2.1 M.2.2.1 M.2.2.2 (zws M) (zrm k) 0 0 j ∧ (Cond.instanceMethod M.1).before args s = true ∧ (Cond.selects M.1.cls M.1 M.1).before args s = true :=
      ⟨va_cnB j hts (zws_good hB hcode) rfl rfl rfl (hK.2 _ hlk) (hts _ (hB _ hini)) ⟨hm1, hm2, hpar⟩ ⟨hR1, hR2⟩, hts _ (hB _ hinst), hts _ (hB _ hsel)⟩
    exact z_behind (va_runVN hC hM cw hPre rfl (by simpa using hlen) hls.1 rfl hcat' hd ⟨hn3, hn4⟩) hls hD hS hA (fun r w' hq => hq)
set_option maxHeartbeats 2000000 in
theorem zr_callS (h : zE own cc nL n G) {idx k j : Nat} {M : zM} {As : List Value} (hd : zD cc pc (.invokestatic idx) 3 np) (hl : zLs own idx M j) (hn : k + 1 ≤ n) (hlen : As.length = j) (hcat : zcat S ≤ 8)
    (hc : Ct M k As w (fun r w' => G np L (zpush r S) w')) : G pc L (As.reverse ++ S) w := by
  refine h.elim fun p l e R s m args below meth c φ cA D A H0 cells slots Qm Ts hG hC hB hK hA hn1 hn2 hn3 hn4 => ?_
  subst hG
  obtain ⟨hd, rfl⟩ := hd
  intro ls H locs hls hP hD hS
  have hC' := hC
  obtain ⟨hx, hb, hml, hown, hts⟩ := hC'
  obtain ⟨⟨hlk, hcode, hini, ⟨hm1, hm2, hpar⟩, h30⟩, hstat⟩ := hl
  have hM := hc l φ cA D H.size
  have hPre : PreS s H (va_Pc (As.map (tv φ)) (zB φ cA D w H.size)) (As.map (tv φ)) :=
    ⟨z_blind, fun U hU hW => ⟨rfl, by rw [hU], by rw [hU]; exact hP, hK.warm hW, hD.weaken (fun _ _ _ _ => trivial)⟩⟩
  have hR1 : (zrm k).frames + 1 ≤ R.frames := Nat.le_trans hn hn1
  have hR2 : 8 + (M.2.2.1 + 11) + (zrm k).locals ≤ R.locals := by show 8 + (M.2.2.1 + 11) + 60 * k ≤ R.locals; omega
  have hst : ((As.reverse ++ S).map (tv φ)) = (As.map (tv φ)).reverse ++ S.map (tv φ) := by simp
  rw [hst]
  have hcat' : 2 * (F0 m pc ls ((As.map (tv φ)).reverse ++ S.map (tv φ))).monitorRoom + ((S.map (tv φ)).map fun v => v.category).sum ≤ 8 := lv_room (by rw [zcat_tv]; exact hcat)
  rcases hlk with hlk | ⟨host, hlk⟩
  · have cw : CallB R s args own idx M.1 M.2.1 M.2.2.1 M.2.2.2 (zws M) (zrm k) 0 0 j ∧ (Cond.static M.1).before args s = true :=
      ⟨callB_of j hts (zws_good hB hcode) rfl rfl rfl (hts _ (hB _ hini)) (hts _ (hB _ hlk)) ⟨hm1, hm2, hpar⟩ ⟨hR1, hR2⟩, hts _ (hB _ hstat)⟩
    exact z_behind (va_runS hC hM cw hPre rfl (by simpa using hlen) hls.1 rfl hcat' hd ⟨hn3, hn4⟩) hls hD hS hA (fun r w' hq => hq)
  · have cw : va_CN R s args own idx M.1 host M.2.1 M.2.2.1 M.2.2.2 (zws M) (zrm k) 0 0 j ∧ (Cond.static M.1).before args s = true ∧ True :=
      ⟨va_cnB j hts (zws_good hB hcode) rfl rfl rfl (hK.2 _ hlk) (hts _ (hB _ hini)) ⟨hm1, hm2, hpar⟩ ⟨hR1, hR2⟩, hts _ (hB _ hstat), trivial⟩
    exact z_behind (va_runSN hC hM cw hPre rfl (by simpa using hlen) hls.1 rfl hcat' hd ⟨hn3, hn4⟩) hls hD hS hA (fun r w' hq => hq)
end ZCallRows
end
