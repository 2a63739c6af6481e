section
-- ===== PART A: goes FIRST, ahead of the names: the tables' words, and 'selects' of the private methods out of them =====
/-- a private method of a class that the tables say can be made, by its rows of tables_1 -/
def lw_okq (q : MethodName × Nat) : Prop := (q.1.cls ≠ "java/lang/invoke/MethodHandle" ∧ q.1.cls ≠ "java/lang/invoke/VarHandle") ∧ Cond.instantiable q.1.cls q.2 ∈ tables_1 ∧ Cond.privateMethod q.1 ∈ tables_1 ∧ Cond.instanceMethod q.1 ∈ tables_1
theorem lw_p0 : lw_okq (⟨"BowlsWithin", "bytesRefusal", "(I)I"⟩, 7) := ⟨⟨by decide +kernel, by decide +kernel⟩, List.mem_of_getElem? (i := 24) (by decide +kernel), List.mem_of_getElem? (i := 234) (by decide +kernel), List.mem_of_getElem? (i := 235) (by decide +kernel)⟩
theorem lw_p1 : lw_okq (⟨"BowlsWithin", "shelfRefusal", "(II)I"⟩, 7) := ⟨⟨by decide +kernel, by decide +kernel⟩, List.mem_of_getElem? (i := 24) (by decide +kernel), List.mem_of_getElem? (i := 238) (by decide +kernel), List.mem_of_getElem? (i := 239) (by decide +kernel)⟩
theorem lw_p2 : lw_okq (⟨"BowlsWithin$Shelf", "digitEnd", "(I)I"⟩, 6) := ⟨⟨by decide +kernel, by decide +kernel⟩, List.mem_of_getElem? (i := 177) (by decide +kernel), List.mem_of_getElem? (i := 264) (by decide +kernel), List.mem_of_getElem? (i := 265) (by decide +kernel)⟩
theorem lw_p3 : lw_okq (⟨"BowlsWithin$Shelf", "isDigit", "(I)Z"⟩, 6) := ⟨⟨by decide +kernel, by decide +kernel⟩, List.mem_of_getElem? (i := 177) (by decide +kernel), List.mem_of_getElem? (i := 268) (by decide +kernel), List.mem_of_getElem? (i := 269) (by decide +kernel)⟩
theorem lw_p4 : lw_okq (⟨"BowlsWithin$Shelf", "signEnd", "(II)I"⟩, 6) := ⟨⟨by decide +kernel, by decide +kernel⟩, List.mem_of_getElem? (i := 177) (by decide +kernel), List.mem_of_getElem? (i := 276) (by decide +kernel), List.mem_of_getElem? (i := 277) (by decide +kernel)⟩
theorem lw_p5 : lw_okq (⟨"BowlsWithin", "tellAll", "(LBowlsWithin$Shelf;)I"⟩, 7) := ⟨⟨by decide +kernel, by decide +kernel⟩, List.mem_of_getElem? (i := 24) (by decide +kernel), List.mem_of_getElem? (i := 280) (by decide +kernel), List.mem_of_getElem? (i := 281) (by decide +kernel)⟩
theorem lw_p6 : lw_okq (⟨"BowlsWithin$Heap", "tellBowl", "(LBowlsWithin$Shelf;I)Z"⟩, 9) := ⟨⟨by decide +kernel, by decide +kernel⟩, List.mem_of_getElem? (i := 89) (by decide +kernel), List.mem_of_getElem? (i := 296) (by decide +kernel), List.mem_of_getElem? (i := 297) (by decide +kernel)⟩
theorem lw_p7 : lw_okq (⟨"BowlsWithin$Heap", "place", "(IIIII)V"⟩, 9) := ⟨⟨by decide +kernel, by decide +kernel⟩, List.mem_of_getElem? (i := 89) (by decide +kernel), List.mem_of_getElem? (i := 314) (by decide +kernel), List.mem_of_getElem? (i := 315) (by decide +kernel)⟩
theorem lw_p8 : lw_okq (⟨"BowlsWithin", "bowlRefusal", "(I)I"⟩, 7) := ⟨⟨by decide +kernel, by decide +kernel⟩, List.mem_of_getElem? (i := 24) (by decide +kernel), List.mem_of_getElem? (i := 431) (by decide +kernel), List.mem_of_getElem? (i := 432) (by decide +kernel)⟩
theorem lw_p9 : lw_okq (⟨"BowlsWithin", "arePair", "(II)Z"⟩, 7) := ⟨⟨by decide +kernel, by decide +kernel⟩, List.mem_of_getElem? (i := 24) (by decide +kernel), List.mem_of_getElem? (i := 452) (by decide +kernel), List.mem_of_getElem? (i := 453) (by decide +kernel)⟩
theorem lw_p10 : lw_okq (⟨"BowlsWithin$Heap", "agree", "(II)Z"⟩, 9) := ⟨⟨by decide +kernel, by decide +kernel⟩, List.mem_of_getElem? (i := 89) (by decide +kernel), List.mem_of_getElem? (i := 460) (by decide +kernel), List.mem_of_getElem? (i := 461) (by decide +kernel)⟩
theorem lw_p11 : lw_okq (⟨"BowlsWithin", "areBowls", "(I)Z"⟩, 7) := ⟨⟨by decide +kernel, by decide +kernel⟩, List.mem_of_getElem? (i := 24) (by decide +kernel), List.mem_of_getElem? (i := 484) (by decide +kernel), List.mem_of_getElem? (i := 485) (by decide +kernel)⟩
theorem lw_p12 : lw_okq (⟨"BowlsWithin$Nests", "growBy", "(LBowlsWithin$Heap;I)V"⟩, 11) := ⟨⟨by decide +kernel, by decide +kernel⟩, List.mem_of_getElem? (i := 136) (by decide +kernel), List.mem_of_getElem? (i := 519) (by decide +kernel), List.mem_of_getElem? (i := 520) (by decide +kernel)⟩
theorem lw_p13 : lw_okq (⟨"BowlsWithin$Nests", "note", "(III)V"⟩, 11) := ⟨⟨by decide +kernel, by decide +kernel⟩, List.mem_of_getElem? (i := 136) (by decide +kernel), List.mem_of_getElem? (i := 524) (by decide +kernel), List.mem_of_getElem? (i := 525) (by decide +kernel)⟩
theorem lw_p14 : lw_okq (⟨"BowlsWithin$Nests", "isLonger", "(II)Z"⟩, 11) := ⟨⟨by decide +kernel, by decide +kernel⟩, List.mem_of_getElem? (i := 136) (by decide +kernel), List.mem_of_getElem? (i := 532) (by decide +kernel), List.mem_of_getElem? (i := 533) (by decide +kernel)⟩
theorem lw_p15 : lw_okq (⟨"BowlsWithin$Nests", "isApart", "(I)Z"⟩, 11) := ⟨⟨by decide +kernel, by decide +kernel⟩, List.mem_of_getElem? (i := 136) (by decide +kernel), List.mem_of_getElem? (i := 565) (by decide +kernel), List.mem_of_getElem? (i := 566) (by decide +kernel)⟩
def lw_privs_1 : List (MethodName × Nat) := [(⟨"BowlsWithin", "bytesRefusal", "(I)I"⟩, 7), (⟨"BowlsWithin", "shelfRefusal", "(II)I"⟩, 7), (⟨"BowlsWithin$Shelf", "digitEnd", "(I)I"⟩, 6), (⟨"BowlsWithin$Shelf", "isDigit", "(I)Z"⟩, 6), (⟨"BowlsWithin$Shelf", "signEnd", "(II)I"⟩, 6), (⟨"BowlsWithin", "tellAll", "(LBowlsWithin$Shelf;)I"⟩, 7), (⟨"BowlsWithin$Heap", "tellBowl", "(LBowlsWithin$Shelf;I)Z"⟩, 9), (⟨"BowlsWithin$Heap", "place", "(IIIII)V"⟩, 9), (⟨"BowlsWithin", "bowlRefusal", "(I)I"⟩, 7), (⟨"BowlsWithin", "arePair", "(II)Z"⟩, 7), (⟨"BowlsWithin$Heap", "agree", "(II)Z"⟩, 9), (⟨"BowlsWithin", "areBowls", "(I)Z"⟩, 7), (⟨"BowlsWithin$Nests", "growBy", "(LBowlsWithin$Heap;I)V"⟩, 11), (⟨"BowlsWithin$Nests", "note", "(III)V"⟩, 11), (⟨"BowlsWithin$Nests", "isLonger", "(II)Z"⟩, 11), (⟨"BowlsWithin$Nests", "isApart", "(I)Z"⟩, 11)]
theorem lw_r1 : ∀ q ∈ lw_privs_1, lw_okq q := List.forall_mem_cons.mpr ⟨lw_p0, List.forall_mem_cons.mpr ⟨lw_p1, List.forall_mem_cons.mpr ⟨lw_p2, List.forall_mem_cons.mpr ⟨lw_p3, List.forall_mem_cons.mpr ⟨lw_p4, List.forall_mem_cons.mpr ⟨lw_p5, List.forall_mem_cons.mpr ⟨lw_p6, List.forall_mem_cons.mpr ⟨lw_p7, List.forall_mem_cons.mpr ⟨lw_p8, List.forall_mem_cons.mpr ⟨lw_p9, List.forall_mem_cons.mpr ⟨lw_p10, List.forall_mem_cons.mpr ⟨lw_p11, List.forall_mem_cons.mpr ⟨lw_p12, List.forall_mem_cons.mpr ⟨lw_p13, List.forall_mem_cons.mpr ⟨lw_p14, List.forall_mem_cons.mpr ⟨lw_p15, fun _ h => absurd h List.not_mem_nil⟩⟩⟩⟩⟩⟩⟩⟩⟩⟩⟩⟩⟩⟩⟩⟩
theorem lw_p16 : lw_okq (⟨"BowlsWithin", "isBridged", "(III)Z"⟩, 7) := ⟨⟨by decide +kernel, by decide +kernel⟩, List.mem_of_getElem? (i := 24) (by decide +kernel), List.mem_of_getElem? (i := 598) (by decide +kernel), List.mem_of_getElem? (i := 599) (by decide +kernel)⟩
theorem lw_p17 : lw_okq (⟨"BowlsWithin$Nests", "lengthenInward", "(I)V"⟩, 11) := ⟨⟨by decide +kernel, by decide +kernel⟩, List.mem_of_getElem? (i := 136) (by decide +kernel), List.mem_of_getElem? (i := 610) (by decide +kernel), List.mem_of_getElem? (i := 611) (by decide +kernel)⟩
theorem lw_p18 : lw_okq (⟨"BowlsWithin$Nests", "lengthenOutward", "(I)V"⟩, 11) := ⟨⟨by decide +kernel, by decide +kernel⟩, List.mem_of_getElem? (i := 136) (by decide +kernel), List.mem_of_getElem? (i := 615) (by decide +kernel), List.mem_of_getElem? (i := 616) (by decide +kernel)⟩
theorem lw_p19 : lw_okq (⟨"BowlsWithin", "firstMisplaced", "(LBowlsWithin$Shelf;)I"⟩, 7) := ⟨⟨by decide +kernel, by decide +kernel⟩, List.mem_of_getElem? (i := 24) (by decide +kernel), List.mem_of_getElem? (i := 627) (by decide +kernel), List.mem_of_getElem? (i := 628) (by decide +kernel)⟩
theorem lw_p20 : lw_okq (⟨"BowlsWithin", "rowRefusal", "(I)I"⟩, 7) := ⟨⟨by decide +kernel, by decide +kernel⟩, List.mem_of_getElem? (i := 24) (by decide +kernel), List.mem_of_getElem? (i := 636) (by decide +kernel), List.mem_of_getElem? (i := 637) (by decide +kernel)⟩
theorem lw_p21 : lw_okq (⟨"BowlsWithin", "pairsPerhaps", "(II)I"⟩, 7) := ⟨⟨by decide +kernel, by decide +kernel⟩, List.mem_of_getElem? (i := 24) (by decide +kernel), List.mem_of_getElem? (i := 653) (by decide +kernel), List.mem_of_getElem? (i := 654) (by decide +kernel)⟩
theorem lw_p22 : lw_okq (⟨"BowlsWithin", "brokenBy", "(II)I"⟩, 7) := ⟨⟨by decide +kernel, by decide +kernel⟩, List.mem_of_getElem? (i := 24) (by decide +kernel), List.mem_of_getElem? (i := 665) (by decide +kernel), List.mem_of_getElem? (i := 666) (by decide +kernel)⟩
theorem lw_p23 : lw_okq (⟨"java/lang/Throwable", "fillInStackTrace", "(I)Ljava/lang/Throwable;"⟩, 6) := ⟨⟨by decide +kernel, by decide +kernel⟩, List.mem_of_getElem? (i := 820) (by decide +kernel), List.mem_of_getElem? (i := 818) (by decide +kernel), List.mem_of_getElem? (i := 819) (by decide +kernel)⟩
theorem lw_p24 : lw_okq (⟨"BowlsWithinModel", "wrongRow", "(II)I"⟩, 20) := ⟨⟨by decide +kernel, by decide +kernel⟩, List.mem_of_getElem? (i := 905) (by decide +kernel), List.mem_of_getElem? (i := 980) (by decide +kernel), List.mem_of_getElem? (i := 981) (by decide +kernel)⟩
theorem lw_p25 : lw_okq (⟨"BowlsWithinModel", "readsStatement", "()Z"⟩, 20) := ⟨⟨by decide +kernel, by decide +kernel⟩, List.mem_of_getElem? (i := 905) (by decide +kernel), List.mem_of_getElem? (i := 991) (by decide +kernel), List.mem_of_getElem? (i := 992) (by decide +kernel)⟩
theorem lw_p26 : lw_okq (⟨"BowlsWithinModel", "here", "()I"⟩, 20) := ⟨⟨by decide +kernel, by decide +kernel⟩, List.mem_of_getElem? (i := 905) (by decide +kernel), List.mem_of_getElem? (i := 995) (by decide +kernel), List.mem_of_getElem? (i := 996) (by decide +kernel)⟩
theorem lw_p27 : lw_okq (⟨"BowlsWithinModel", "readsNumber", "(I)Z"⟩, 20) := ⟨⟨by decide +kernel, by decide +kernel⟩, List.mem_of_getElem? (i := 905) (by decide +kernel), List.mem_of_getElem? (i := 999) (by decide +kernel), List.mem_of_getElem? (i := 1000) (by decide +kernel)⟩
theorem lw_p28 : lw_okq (⟨"BowlsWithinModel", "isDigit", "()Z"⟩, 20) := ⟨⟨by decide +kernel, by decide +kernel⟩, List.mem_of_getElem? (i := 905) (by decide +kernel), List.mem_of_getElem? (i := 1003) (by decide +kernel), List.mem_of_getElem? (i := 1004) (by decide +kernel)⟩
theorem lw_p29 : lw_okq (⟨"BowlsWithinModel", "takes", "(I)Z"⟩, 20) := ⟨⟨by decide +kernel, by decide +kernel⟩, List.mem_of_getElem? (i := 905) (by decide +kernel), List.mem_of_getElem? (i := 1009) (by decide +kernel), List.mem_of_getElem? (i := 1010) (by decide +kernel)⟩
theorem lw_p30 : lw_okq (⟨"BowlsWithinModel", "comesTold", "(I)Z"⟩, 20) := ⟨⟨by decide +kernel, by decide +kernel⟩, List.mem_of_getElem? (i := 905) (by decide +kernel), List.mem_of_getElem? (i := 1016) (by decide +kernel), List.mem_of_getElem? (i := 1017) (by decide +kernel)⟩
theorem lw_p31 : lw_okq (⟨"BowlsWithinModel", "puts", "(III)V"⟩, 20) := ⟨⟨by decide +kernel, by decide +kernel⟩, List.mem_of_getElem? (i := 905) (by decide +kernel), List.mem_of_getElem? (i := 1020) (by decide +kernel), List.mem_of_getElem? (i := 1021) (by decide +kernel)⟩
def lw_privs_2 : List (MethodName × Nat) := [(⟨"BowlsWithin", "isBridged", "(III)Z"⟩, 7), (⟨"BowlsWithin$Nests", "lengthenInward", "(I)V"⟩, 11), (⟨"BowlsWithin$Nests", "lengthenOutward", "(I)V"⟩, 11), (⟨"BowlsWithin", "firstMisplaced", "(LBowlsWithin$Shelf;)I"⟩, 7), (⟨"BowlsWithin", "rowRefusal", "(I)I"⟩, 7), (⟨"BowlsWithin", "pairsPerhaps", "(II)I"⟩, 7), (⟨"BowlsWithin", "brokenBy", "(II)I"⟩, 7), (⟨"java/lang/Throwable", "fillInStackTrace", "(I)Ljava/lang/Throwable;"⟩, 6), (⟨"BowlsWithinModel", "wrongRow", "(II)I"⟩, 20), (⟨"BowlsWithinModel", "readsStatement", "()Z"⟩, 20), (⟨"BowlsWithinModel", "here", "()I"⟩, 20), (⟨"BowlsWithinModel", "readsNumber", "(I)Z"⟩, 20), (⟨"BowlsWithinModel", "isDigit", "()Z"⟩, 20), (⟨"BowlsWithinModel", "takes", "(I)Z"⟩, 20), (⟨"BowlsWithinModel", "comesTold", "(I)Z"⟩, 20), (⟨"BowlsWithinModel", "puts", "(III)V"⟩, 20)]
theorem lw_r2 : ∀ q ∈ lw_privs_2, lw_okq q := List.forall_mem_cons.mpr ⟨lw_p16, List.forall_mem_cons.mpr ⟨lw_p17, List.forall_mem_cons.mpr ⟨lw_p18, List.forall_mem_cons.mpr ⟨lw_p19, List.forall_mem_cons.mpr ⟨lw_p20, List.forall_mem_cons.mpr ⟨lw_p21, List.forall_mem_cons.mpr ⟨lw_p22, List.forall_mem_cons.mpr ⟨lw_p23, List.forall_mem_cons.mpr ⟨lw_p24, List.forall_mem_cons.mpr ⟨lw_p25, List.forall_mem_cons.mpr ⟨lw_p26, List.forall_mem_cons.mpr ⟨lw_p27, List.forall_mem_cons.mpr ⟨lw_p28, List.forall_mem_cons.mpr ⟨lw_p29, List.forall_mem_cons.mpr ⟨lw_p30, List.forall_mem_cons.mpr ⟨lw_p31, fun _ h => absurd h List.not_mem_nil⟩⟩⟩⟩⟩⟩⟩⟩⟩⟩⟩⟩⟩⟩⟩⟩
theorem lw_p32 : lw_okq (⟨"BowlsWithinModel", "isBowl", "(I)Z"⟩, 20) := ⟨⟨by decide +kernel, by decide +kernel⟩, List.mem_of_getElem? (i := 905) (by decide +kernel), List.mem_of_getElem? (i := 1024) (by decide +kernel), List.mem_of_getElem? (i := 1025) (by decide +kernel)⟩
theorem lw_p33 : lw_okq (⟨"BowlsWithinModel", "get", "(II)I"⟩, 20) := ⟨⟨by decide +kernel, by decide +kernel⟩, List.mem_of_getElem? (i := 905) (by decide +kernel), List.mem_of_getElem? (i := 1028) (by decide +kernel), List.mem_of_getElem? (i := 1029) (by decide +kernel)⟩
theorem lw_p34 : lw_okq (⟨"BowlsWithinModel", "outside", "(I)I"⟩, 20) := ⟨⟨by decide +kernel, by decide +kernel⟩, List.mem_of_getElem? (i := 905) (by decide +kernel), List.mem_of_getElem? (i := 1036) (by decide +kernel), List.mem_of_getElem? (i := 1037) (by decide +kernel)⟩
theorem lw_p35 : lw_okq (⟨"BowlsWithinModel", "outsideBy", "(II)I"⟩, 20) := ⟨⟨by decide +kernel, by decide +kernel⟩, List.mem_of_getElem? (i := 905) (by decide +kernel), List.mem_of_getElem? (i := 1040) (by decide +kernel), List.mem_of_getElem? (i := 1041) (by decide +kernel)⟩
theorem lw_p36 : lw_okq (⟨"BowlsWithinModel", "turned", "(I)I"⟩, 20) := ⟨⟨by decide +kernel, by decide +kernel⟩, List.mem_of_getElem? (i := 905) (by decide +kernel), List.mem_of_getElem? (i := 1044) (by decide +kernel), List.mem_of_getElem? (i := 1045) (by decide +kernel)⟩
theorem lw_p37 : lw_okq (⟨"BowlsWithinModel", "inside", "(I)I"⟩, 20) := ⟨⟨by decide +kernel, by decide +kernel⟩, List.mem_of_getElem? (i := 905) (by decide +kernel), List.mem_of_getElem? (i := 1048) (by decide +kernel), List.mem_of_getElem? (i := 1049) (by decide +kernel)⟩
theorem lw_p38 : lw_okq (⟨"BowlsWithinModel", "insideBy", "(III)I"⟩, 20) := ⟨⟨by decide +kernel, by decide +kernel⟩, List.mem_of_getElem? (i := 905) (by decide +kernel), List.mem_of_getElem? (i := 1052) (by decide +kernel), List.mem_of_getElem? (i := 1053) (by decide +kernel)⟩
theorem lw_p39 : lw_okq (⟨"BowlsWithinModel", "rise", "(I)I"⟩, 20) := ⟨⟨by decide +kernel, by decide +kernel⟩, List.mem_of_getElem? (i := 905) (by decide +kernel), List.mem_of_getElem? (i := 1056) (by decide +kernel), List.mem_of_getElem? (i := 1057) (by decide +kernel)⟩
theorem lw_p40 : lw_okq (⟨"BowlsWithinModel", "wrongKept", "(I)I"⟩, 20) := ⟨⟨by decide +kernel, by decide +kernel⟩, List.mem_of_getElem? (i := 905) (by decide +kernel), List.mem_of_getElem? (i := 1065) (by decide +kernel), List.mem_of_getElem? (i := 1066) (by decide +kernel)⟩
theorem lw_p41 : lw_okq (⟨"BowlsWithinModel", "adds", "(IIIII)V"⟩, 20) := ⟨⟨by decide +kernel, by decide +kernel⟩, List.mem_of_getElem? (i := 905) (by decide +kernel), List.mem_of_getElem? (i := 1069) (by decide +kernel), List.mem_of_getElem? (i := 1070) (by decide +kernel)⟩
theorem lw_p42 : lw_okq (⟨"BowlsWithinModel", "liesNow", "(II)Z"⟩, 20) := ⟨⟨by decide +kernel, by decide +kernel⟩, List.mem_of_getElem? (i := 905) (by decide +kernel), List.mem_of_getElem? (i := 1086) (by decide +kernel), List.mem_of_getElem? (i := 1087) (by decide +kernel)⟩
theorem lw_p43 : lw_okq (⟨"BowlsWithinModel", "liesAt", "(III)Z"⟩, 20) := ⟨⟨by decide +kernel, by decide +kernel⟩, List.mem_of_getElem? (i := 905) (by decide +kernel), List.mem_of_getElem? (i := 1090) (by decide +kernel), List.mem_of_getElem? (i := 1091) (by decide +kernel)⟩
theorem lw_p44 : lw_okq (⟨"BowlsWithinModel", "fitsBut", "(II)Z"⟩, 20) := ⟨⟨by decide +kernel, by decide +kernel⟩, List.mem_of_getElem? (i := 905) (by decide +kernel), List.mem_of_getElem? (i := 1094) (by decide +kernel), List.mem_of_getElem? (i := 1095) (by decide +kernel)⟩
theorem lw_p45 : lw_okq (⟨"BowlsWithinModel", "isOval", "(I)Z"⟩, 20) := ⟨⟨by decide +kernel, by decide +kernel⟩, List.mem_of_getElem? (i := 905) (by decide +kernel), List.mem_of_getElem? (i := 1098) (by decide +kernel), List.mem_of_getElem? (i := 1099) (by decide +kernel)⟩
theorem lw_p46 : lw_okq (⟨"BowlsWithinModel", "areBowls", "(I)Z"⟩, 20) := ⟨⟨by decide +kernel, by decide +kernel⟩, List.mem_of_getElem? (i := 905) (by decide +kernel), List.mem_of_getElem? (i := 1106) (by decide +kernel), List.mem_of_getElem? (i := 1107) (by decide +kernel)⟩
theorem lw_p47 : lw_okq (⟨"BowlsWithinModel", "everything", "()I"⟩, 20) := ⟨⟨by decide +kernel, by decide +kernel⟩, List.mem_of_getElem? (i := 905) (by decide +kernel), List.mem_of_getElem? (i := 1110) (by decide +kernel), List.mem_of_getElem? (i := 1111) (by decide +kernel)⟩
def lw_privs_3 : List (MethodName × Nat) := [(⟨"BowlsWithinModel", "isBowl", "(I)Z"⟩, 20), (⟨"BowlsWithinModel", "get", "(II)I"⟩, 20), (⟨"BowlsWithinModel", "outside", "(I)I"⟩, 20), (⟨"BowlsWithinModel", "outsideBy", "(II)I"⟩, 20), (⟨"BowlsWithinModel", "turned", "(I)I"⟩, 20), (⟨"BowlsWithinModel", "inside", "(I)I"⟩, 20), (⟨"BowlsWithinModel", "insideBy", "(III)I"⟩, 20), (⟨"BowlsWithinModel", "rise", "(I)I"⟩, 20), (⟨"BowlsWithinModel", "wrongKept", "(I)I"⟩, 20), (⟨"BowlsWithinModel", "adds", "(IIIII)V"⟩, 20), (⟨"BowlsWithinModel", "liesNow", "(II)Z"⟩, 20), (⟨"BowlsWithinModel", "liesAt", "(III)Z"⟩, 20), (⟨"BowlsWithinModel", "fitsBut", "(II)Z"⟩, 20), (⟨"BowlsWithinModel", "isOval", "(I)Z"⟩, 20), (⟨"BowlsWithinModel", "areBowls", "(I)Z"⟩, 20), (⟨"BowlsWithinModel", "everything", "()I"⟩, 20)]
theorem lw_r3 : ∀ q ∈ lw_privs_3, lw_okq q := List.forall_mem_cons.mpr ⟨lw_p32, List.forall_mem_cons.mpr ⟨lw_p33, List.forall_mem_cons.mpr ⟨lw_p34, List.forall_mem_cons.mpr ⟨lw_p35, List.forall_mem_cons.mpr ⟨lw_p36, List.forall_mem_cons.mpr ⟨lw_p37, List.forall_mem_cons.mpr ⟨lw_p38, List.forall_mem_cons.mpr ⟨lw_p39, List.forall_mem_cons.mpr ⟨lw_p40, List.forall_mem_cons.mpr ⟨lw_p41, List.forall_mem_cons.mpr ⟨lw_p42, List.forall_mem_cons.mpr ⟨lw_p43, List.forall_mem_cons.mpr ⟨lw_p44, List.forall_mem_cons.mpr ⟨lw_p45, List.forall_mem_cons.mpr ⟨lw_p46, List.forall_mem_cons.mpr ⟨lw_p47, fun _ h => absurd h List.not_mem_nil⟩⟩⟩⟩⟩⟩⟩⟩⟩⟩⟩⟩⟩⟩⟩⟩
theorem lw_p48 : lw_okq (⟨"BowlsWithinModel", "isNest", "(I)Z"⟩, 20) := ⟨⟨by decide +kernel, by decide +kernel⟩, List.mem_of_getElem? (i := 905) (by decide +kernel), List.mem_of_getElem? (i := 1114) (by decide +kernel), List.mem_of_getElem? (i := 1115) (by decide +kernel)⟩
theorem lw_p49 : lw_okq (⟨"BowlsWithinModel", "outermost", "(I)I"⟩, 20) := ⟨⟨by decide +kernel, by decide +kernel⟩, List.mem_of_getElem? (i := 905) (by decide +kernel), List.mem_of_getElem? (i := 1118) (by decide +kernel), List.mem_of_getElem? (i := 1119) (by decide +kernel)⟩
theorem lw_p50 : lw_okq (⟨"BowlsWithinModel", "heightOf", "(I)I"⟩, 20) := ⟨⟨by decide +kernel, by decide +kernel⟩, List.mem_of_getElem? (i := 905) (by decide +kernel), List.mem_of_getElem? (i := 1126) (by decide +kernel), List.mem_of_getElem? (i := 1127) (by decide +kernel)⟩
theorem lw_p51 : lw_okq (⟨"BowlsWithinModel", "longestOf", "(I)I"⟩, 20) := ⟨⟨by decide +kernel, by decide +kernel⟩, List.mem_of_getElem? (i := 905) (by decide +kernel), List.mem_of_getElem? (i := 1134) (by decide +kernel), List.mem_of_getElem? (i := 1135) (by decide +kernel)⟩
theorem lw_p52 : lw_okq (⟨"BowlsWithinModel", "leastOf", "(II)I"⟩, 20) := ⟨⟨by decide +kernel, by decide +kernel⟩, List.mem_of_getElem? (i := 905) (by decide +kernel), List.mem_of_getElem? (i := 1145) (by decide +kernel), List.mem_of_getElem? (i := 1146) (by decide +kernel)⟩
theorem lw_p53 : lw_okq (⟨"BowlsWithinModel", "counted", "(III)I"⟩, 20) := ⟨⟨by decide +kernel, by decide +kernel⟩, List.mem_of_getElem? (i := 905) (by decide +kernel), List.mem_of_getElem? (i := 1149) (by decide +kernel), List.mem_of_getElem? (i := 1150) (by decide +kernel)⟩
theorem lw_p54 : lw_okq (⟨"BowlsWithinModel", "areApart", "(I)Z"⟩, 20) := ⟨⟨by decide +kernel, by decide +kernel⟩, List.mem_of_getElem? (i := 905) (by decide +kernel), List.mem_of_getElem? (i := 1166) (by decide +kernel), List.mem_of_getElem? (i := 1167) (by decide +kernel)⟩
theorem lw_p55 : lw_okq (⟨"BowlsWithinModel", "wholeOf", "(II)I"⟩, 20) := ⟨⟨by decide +kernel, by decide +kernel⟩, List.mem_of_getElem? (i := 905) (by decide +kernel), List.mem_of_getElem? (i := 1174) (by decide +kernel), List.mem_of_getElem? (i := 1175) (by decide +kernel)⟩
theorem lw_p56 : lw_okq (⟨"BowlsWithinModel", "canBeBetween", "(II)Z"⟩, 20) := ⟨⟨by decide +kernel, by decide +kernel⟩, List.mem_of_getElem? (i := 905) (by decide +kernel), List.mem_of_getElem? (i := 1182) (by decide +kernel), List.mem_of_getElem? (i := 1183) (by decide +kernel)⟩
theorem lw_p57 : lw_okq (⟨"BowlsWithinModel", "longestRow", "(I)I"⟩, 20) := ⟨⟨by decide +kernel, by decide +kernel⟩, List.mem_of_getElem? (i := 905) (by decide +kernel), List.mem_of_getElem? (i := 1190) (by decide +kernel), List.mem_of_getElem? (i := 1191) (by decide +kernel)⟩
theorem lw_p58 : lw_okq (⟨"BowlsWithinModel", "wrongOut", "(I)I"⟩, 20) := ⟨⟨by decide +kernel, by decide +kernel⟩, List.mem_of_getElem? (i := 905) (by decide +kernel), List.mem_of_getElem? (i := 1198) (by decide +kernel), List.mem_of_getElem? (i := 1199) (by decide +kernel)⟩
theorem lw_p59 : lw_okq (⟨"BowlsWithinModel", "wrongAt", "(I)I"⟩, 20) := ⟨⟨by decide +kernel, by decide +kernel⟩, List.mem_of_getElem? (i := 905) (by decide +kernel), List.mem_of_getElem? (i := 1202) (by decide +kernel), List.mem_of_getElem? (i := 1203) (by decide +kernel)⟩
theorem lw_p60 : lw_okq (⟨"BowlsWithinModel", "spanOf", "(IIII)I"⟩, 20) := ⟨⟨by decide +kernel, by decide +kernel⟩, List.mem_of_getElem? (i := 905) (by decide +kernel), List.mem_of_getElem? (i := 1214) (by decide +kernel), List.mem_of_getElem? (i := 1215) (by decide +kernel)⟩
theorem lw_p61 : lw_okq (⟨"BowlsWithinModel", "perhaps", "(II)I"⟩, 20) := ⟨⟨by decide +kernel, by decide +kernel⟩, List.mem_of_getElem? (i := 905) (by decide +kernel), List.mem_of_getElem? (i := 1225) (by decide +kernel), List.mem_of_getElem? (i := 1226) (by decide +kernel)⟩
theorem lw_p62 : lw_okq (⟨"BowlsWithinModel", "drawn", "(I)I"⟩, 20) := ⟨⟨by decide +kernel, by decide +kernel⟩, List.mem_of_getElem? (i := 905) (by decide +kernel), List.mem_of_getElem? (i := 1238) (by decide +kernel), List.mem_of_getElem? (i := 1239) (by decide +kernel)⟩
def lw_privs_4 : List (MethodName × Nat) := [(⟨"BowlsWithinModel", "isNest", "(I)Z"⟩, 20), (⟨"BowlsWithinModel", "outermost", "(I)I"⟩, 20), (⟨"BowlsWithinModel", "heightOf", "(I)I"⟩, 20), (⟨"BowlsWithinModel", "longestOf", "(I)I"⟩, 20), (⟨"BowlsWithinModel", "leastOf", "(II)I"⟩, 20), (⟨"BowlsWithinModel", "counted", "(III)I"⟩, 20), (⟨"BowlsWithinModel", "areApart", "(I)Z"⟩, 20), (⟨"BowlsWithinModel", "wholeOf", "(II)I"⟩, 20), (⟨"BowlsWithinModel", "canBeBetween", "(II)Z"⟩, 20), (⟨"BowlsWithinModel", "longestRow", "(I)I"⟩, 20), (⟨"BowlsWithinModel", "wrongOut", "(I)I"⟩, 20), (⟨"BowlsWithinModel", "wrongAt", "(I)I"⟩, 20), (⟨"BowlsWithinModel", "spanOf", "(IIII)I"⟩, 20), (⟨"BowlsWithinModel", "perhaps", "(II)I"⟩, 20), (⟨"BowlsWithinModel", "drawn", "(I)I"⟩, 20)]
theorem lw_r4 : ∀ q ∈ lw_privs_4, lw_okq q := List.forall_mem_cons.mpr ⟨lw_p48, List.forall_mem_cons.mpr ⟨lw_p49, List.forall_mem_cons.mpr ⟨lw_p50, List.forall_mem_cons.mpr ⟨lw_p51, List.forall_mem_cons.mpr ⟨lw_p52, List.forall_mem_cons.mpr ⟨lw_p53, List.forall_mem_cons.mpr ⟨lw_p54, List.forall_mem_cons.mpr ⟨lw_p55, List.forall_mem_cons.mpr ⟨lw_p56, List.forall_mem_cons.mpr ⟨lw_p57, List.forall_mem_cons.mpr ⟨lw_p58, List.forall_mem_cons.mpr ⟨lw_p59, List.forall_mem_cons.mpr ⟨lw_p60, List.forall_mem_cons.mpr ⟨lw_p61, List.forall_mem_cons.mpr ⟨lw_p62, fun _ h => absurd h List.not_mem_nil⟩⟩⟩⟩⟩⟩⟩⟩⟩⟩⟩⟩⟩⟩⟩
def lw_privs : List (MethodName × Nat) := lw_privs_1 ++ (lw_privs_2 ++ (lw_privs_3 ++ (lw_privs_4)))
def lw_tbl : List Cond := k2_sels lw_privs ++ tables_1
theorem lw_privs_ok : ∀ q ∈ lw_privs, lw_okq q := by
  show ∀ q ∈ lw_privs_1 ++ (lw_privs_2 ++ (lw_privs_3 ++ (lw_privs_4))), lw_okq q
  exact List.forall_mem_append.mpr ⟨lw_r1, List.forall_mem_append.mpr ⟨lw_r2, List.forall_mem_append.mpr ⟨lw_r3, lw_r4⟩⟩⟩
end
section
/-! Names out of the printed text; zD: an instruction and the next place. -/
def zD (cc : ByteArray) (pc : Nat) (i : Instr) (len np : Nat) : Prop := decode cc pc = .ok (i, len) ∧ pc + len = np
def RX0 : String := "BowlsWithin$Bowl"
def TX0 : u_T := fun k => match k with
  | _ => ("", "", "", false)
def tyX0 : Nat → FieldType := fun k => match k with
  | _ => .int
abbrev wsX00 : List Cond := u_ws RX0 TX0 0
theorem nmX0 : ∀ a, a < 0 → ∀ b, b < 0 → a ≠ b → (TX0 a).2.1 ≠ (TX0 b).2.1 := by decide +kernel
theorem tyX0_ok : ∀ k, k < 0 → parseFieldDescriptor (TX0 k).2.2.1 = some (tyX0 k) := by decide +kernel
abbrev cX0_init : ByteArray := prog_2_method_1_code
def yX0_init : MethodName := ⟨RX0, "<init>", "()V"⟩
abbrev cX0_outside : ByteArray := prog_2_method_2_code
def yX0_outside : MethodName := ⟨RX0, "outside", "(III)I"⟩
abbrev cX0_inside : ByteArray := prog_2_method_3_code
def yX0_inside : MethodName := ⟨RX0, "inside", "(IIII)I"⟩
abbrev cX0_rise : ByteArray := prog_2_method_4_code
def yX0_rise : MethodName := ⟨RX0, "rise", "(I)I"⟩
abbrev cX0_cost : ByteArray := prog_2_method_5_code
def yX0_cost : MethodName := ⟨RX0, "cost", "(I)I"⟩
abbrev cX0_minds : ByteArray := prog_2_method_6_code
def yX0_minds : MethodName := ⟨RX0, "minds", "()Z"⟩
abbrev cX0_fail : ByteArray := prog_2_method_7_code
def yX0_fail : MethodName := ⟨RX0, "fail", "(I)V"⟩
def RX1 : String := "BowlsWithin$Deep"
def TX1 : u_T := fun k => match k with
  | _ => ("", "", "", false)
def tyX1 : Nat → FieldType := fun k => match k with
  | _ => .int
abbrev wsX10 : List Cond := u_ws RX1 TX1 0
theorem nmX1 : ∀ a, a < 0 → ∀ b, b < 0 → a ≠ b → (TX1 a).2.1 ≠ (TX1 b).2.1 := by decide +kernel
theorem tyX1_ok : ∀ k, k < 0 → parseFieldDescriptor (TX1 k).2.2.1 = some (tyX1 k) := by decide +kernel
abbrev cX1_init : ByteArray := prog_3_method_1_code
def yX1_init : MethodName := ⟨RX1, "<init>", "()V"⟩
abbrev cX1_rise : ByteArray := prog_3_method_2_code
def yX1_rise : MethodName := ⟨RX1, "rise", "(I)I"⟩
abbrev cX1_cost : ByteArray := prog_3_method_3_code
def yX1_cost : MethodName := ⟨RX1, "cost", "(I)I"⟩
def RX2 : String := "BowlsWithin$Flat"
def TX2 : u_T := fun k => match k with
  | _ => ("", "", "", false)
def tyX2 : Nat → FieldType := fun k => match k with
  | _ => .int
abbrev wsX20 : List Cond := u_ws RX2 TX2 0
theorem nmX2 : ∀ a, a < 0 → ∀ b, b < 0 → a ≠ b → (TX2 a).2.1 ≠ (TX2 b).2.1 := by decide +kernel
theorem tyX2_ok : ∀ k, k < 0 → parseFieldDescriptor (TX2 k).2.2.1 = some (tyX2 k) := by decide +kernel
abbrev cX2_init : ByteArray := prog_4_method_1_code
def yX2_init : MethodName := ⟨RX2, "<init>", "()V"⟩
abbrev cX2_rise : ByteArray := prog_4_method_2_code
def yX2_rise : MethodName := ⟨RX2, "rise", "(I)I"⟩
abbrev cX2_cost : ByteArray := prog_4_method_3_code
def yX2_cost : MethodName := ⟨RX2, "cost", "(I)I"⟩
abbrev cX2_fail : ByteArray := prog_4_method_4_code
def yX2_fail : MethodName := ⟨RX2, "fail", "(I)V"⟩
def RX3 : String := "BowlsWithin$Foot"
def TX3 : u_T := fun k => match k with
  | _ => ("", "", "", false)
def tyX3 : Nat → FieldType := fun k => match k with
  | _ => .int
abbrev wsX30 : List Cond := u_ws RX3 TX3 0
theorem nmX3 : ∀ a, a < 0 → ∀ b, b < 0 → a ≠ b → (TX3 a).2.1 ≠ (TX3 b).2.1 := by decide +kernel
theorem tyX3_ok : ∀ k, k < 0 → parseFieldDescriptor (TX3 k).2.2.1 = some (tyX3 k) := by decide +kernel
abbrev cX3_init : ByteArray := prog_5_method_1_code
def yX3_init : MethodName := ⟨RX3, "<init>", "()V"⟩
abbrev cX3_inside : ByteArray := prog_5_method_2_code
def yX3_inside : MethodName := ⟨RX3, "inside", "(IIII)I"⟩
abbrev cX3_rise : ByteArray := prog_5_method_3_code
def yX3_rise : MethodName := ⟨RX3, "rise", "(I)I"⟩
abbrev cX3_cost : ByteArray := prog_5_method_4_code
def yX3_cost : MethodName := ⟨RX3, "cost", "(I)I"⟩
def RX4 : String := "BowlsWithin$Glued"
def TX4 : u_T := fun k => match k with
  | _ => ("", "", "", false)
def tyX4 : Nat → FieldType := fun k => match k with
  | _ => .int
abbrev wsX40 : List Cond := u_ws RX4 TX4 0
theorem nmX4 : ∀ a, a < 0 → ∀ b, b < 0 → a ≠ b → (TX4 a).2.1 ≠ (TX4 b).2.1 := by decide +kernel
theorem tyX4_ok : ∀ k, k < 0 → parseFieldDescriptor (TX4 k).2.2.1 = some (tyX4 k) := by decide +kernel
abbrev cX4_init : ByteArray := prog_6_method_1_code
def yX4_init : MethodName := ⟨RX4, "<init>", "()V"⟩
abbrev cX4_outside : ByteArray := prog_6_method_2_code
def yX4_outside : MethodName := ⟨RX4, "outside", "(III)I"⟩
abbrev cX4_inside : ByteArray := prog_6_method_3_code
def yX4_inside : MethodName := ⟨RX4, "inside", "(IIII)I"⟩
abbrev cX4_cost : ByteArray := prog_6_method_4_code
def yX4_cost : MethodName := ⟨RX4, "cost", "(I)I"⟩
abbrev cX4_fail : ByteArray := prog_6_method_5_code
def yX4_fail : MethodName := ⟨RX4, "fail", "(I)V"⟩
def RX5 : String := "BowlsWithin$Heap"
def TX5 : u_T := fun k => match k with
  | 0 => ("BowlsWithin$Heap", "kinds", "[LBowlsWithin$Bowl;", true)
  | 1 => ("BowlsWithin$Heap", "kind", "[I", true)
  | 2 => ("BowlsWithin$Heap", "figure", "[I", true)
  | 3 => ("BowlsWithin$Heap", "turned", "[I", true)
  | 4 => ("BowlsWithin$Heap", "width", "[I", true)
  | 5 => ("BowlsWithin$Heap", "depth", "[I", true)
  | 6 => ("BowlsWithin$Heap", "order", "[I", true)
  | 7 => ("BowlsWithin$Heap", "count", "I", false)
  | _ => ("BowlsWithin$Heap", "warmth", "I", false)
def tyX5 : Nat → FieldType := fun k => match k with
  | 0 => .array (.object "BowlsWithin$Bowl")
  | 1 => .array .int
  | 2 => .array .int
  | 3 => .array .int
  | 4 => .array .int
  | 5 => .array .int
  | 6 => .array .int
  | 7 => .int
  | _ => .int
abbrev wsX50 : List Cond := u_ws RX5 TX5 9
theorem nmX5 : ∀ a, a < 9 → ∀ b, b < 9 → a ≠ b → (TX5 a).2.1 ≠ (TX5 b).2.1 := by decide +kernel
theorem tyX5_ok : ∀ k, k < 9 → parseFieldDescriptor (TX5 k).2.2.1 = some (tyX5 k) := by decide +kernel
abbrev cX5_init : ByteArray := prog_7_method_1_code
def yX5_init : MethodName := ⟨RX5, "<init>", "([LBowlsWithin$Bowl;)V"⟩
abbrev cX5_become : ByteArray := prog_7_method_2_code
def yX5_become : MethodName := ⟨RX5, "become", "(LBowlsWithin$Heap;)V"⟩
abbrev cX5_has : ByteArray := prog_7_method_3_code
def yX5_has : MethodName := ⟨RX5, "has", "(I)Z"⟩
abbrev cX5_all : ByteArray := prog_7_method_4_code
def yX5_all : MethodName := ⟨RX5, "all", "()I"⟩
abbrev cX5_add : ByteArray := prog_7_method_5_code
def yX5_add : MethodName := ⟨RX5, "add", "(IIIII)Z"⟩
abbrev cX5_think : ByteArray := prog_7_method_6_code
def yX5_think : MethodName := ⟨RX5, "think", "(II)I"⟩
abbrev cX5_place : ByteArray := prog_7_method_7_code
def yX5_place : MethodName := ⟨RX5, "place", "(IIIII)V"⟩
abbrev cX5_dropLatest : ByteArray := prog_7_method_8_code
def yX5_dropLatest : MethodName := ⟨RX5, "dropLatest", "()Z"⟩
abbrev cX5_flip : ByteArray := prog_7_method_9_code
def yX5_flip : MethodName := ⟨RX5, "flip", "(I)Z"⟩
abbrev cX5_tell : ByteArray := prog_7_method_10_code
def yX5_tell : MethodName := ⟨RX5, "tell", "(LBowlsWithin$Shelf;I)Z"⟩
abbrev cX5_tellBowl : ByteArray := prog_7_method_11_code
def yX5_tellBowl : MethodName := ⟨RX5, "tellBowl", "(LBowlsWithin$Shelf;I)Z"⟩
abbrev cX5_outsideAt : ByteArray := prog_7_method_12_code
def yX5_outsideAt : MethodName := ⟨RX5, "outsideAt", "(II)I"⟩
abbrev cX5_insideAt : ByteArray := prog_7_method_13_code
def yX5_insideAt : MethodName := ⟨RX5, "insideAt", "(III)I"⟩
abbrev cX5_riseOf : ByteArray := prog_7_method_14_code
def yX5_riseOf : MethodName := ⟨RX5, "riseOf", "(I)I"⟩
abbrev cX5_isIn : ByteArray := prog_7_method_15_code
def yX5_isIn : MethodName := ⟨RX5, "isIn", "(III)Z"⟩
abbrev cX5_agree : ByteArray := prog_7_method_16_code
def yX5_agree : MethodName := ⟨RX5, "agree", "(II)Z"⟩
abbrev cX5_spanned : ByteArray := prog_7_method_17_code
def yX5_spanned : MethodName := ⟨RX5, "spanned", "(IIII)I"⟩
abbrev cX5_arrange : ByteArray := prog_7_method_18_code
def yX5_arrange : MethodName := ⟨RX5, "arrange", "()V"⟩
abbrev cX5_heightOf : ByteArray := prog_7_method_19_code
def yX5_heightOf : MethodName := ⟨RX5, "heightOf", "(I)I"⟩
abbrev cX5_pairsIn : ByteArray := prog_7_method_20_code
def yX5_pairsIn : MethodName := ⟨RX5, "pairsIn", "()I"⟩
abbrev cX5_allDepths : ByteArray := prog_7_method_21_code
def yX5_allDepths : MethodName := ⟨RX5, "allDepths", "()I"⟩
def RX6 : String := "BowlsWithin$Lid"
def TX6 : u_T := fun k => match k with
  | _ => ("", "", "", false)
def tyX6 : Nat → FieldType := fun k => match k with
  | _ => .int
abbrev wsX60 : List Cond := u_ws RX6 TX6 0
theorem nmX6 : ∀ a, a < 0 → ∀ b, b < 0 → a ≠ b → (TX6 a).2.1 ≠ (TX6 b).2.1 := by decide +kernel
theorem tyX6_ok : ∀ k, k < 0 → parseFieldDescriptor (TX6 k).2.2.1 = some (tyX6 k) := by decide +kernel
abbrev cX6_init : ByteArray := prog_8_method_1_code
def yX6_init : MethodName := ⟨RX6, "<init>", "()V"⟩
abbrev cX6_outside : ByteArray := prog_8_method_2_code
def yX6_outside : MethodName := ⟨RX6, "outside", "(III)I"⟩
abbrev cX6_inside : ByteArray := prog_8_method_3_code
def yX6_inside : MethodName := ⟨RX6, "inside", "(IIII)I"⟩
abbrev cX6_rise : ByteArray := prog_8_method_4_code
def yX6_rise : MethodName := ⟨RX6, "rise", "(I)I"⟩
abbrev cX6_cost : ByteArray := prog_8_method_5_code
def yX6_cost : MethodName := ⟨RX6, "cost", "(I)I"⟩
def RX7 : String := "BowlsWithin$Nests"
def TX7 : u_T := fun k => match k with
  | 0 => ("BowlsWithin$Nests", "heights", "[I", true)
  | 1 => ("BowlsWithin$Nests", "innermost", "[I", true)
  | 2 => ("BowlsWithin$Nests", "found", "[I", true)
  | 3 => ("BowlsWithin$Nests", "costs", "[I", true)
  | 4 => ("BowlsWithin$Nests", "least", "[I", true)
  | 5 => ("BowlsWithin$Nests", "around", "[I", true)
  | 6 => ("BowlsWithin$Nests", "longestInward", "[I", true)
  | 7 => ("BowlsWithin$Nests", "longestOutward", "[I", true)
  | 8 => ("BowlsWithin$Nests", "foundCount", "I", false)
  | 9 => ("BowlsWithin$Nests", "bowls", "I", false)
  | _ => ("BowlsWithin$Nests", "all", "I", false)
def tyX7 : Nat → FieldType := fun k => match k with
  | 0 => .array .int
  | 1 => .array .int
  | 2 => .array .int
  | 3 => .array .int
  | 4 => .array .int
  | 5 => .array .int
  | 6 => .array .int
  | 7 => .array .int
  | 8 => .int
  | 9 => .int
  | _ => .int
abbrev wsX70 : List Cond := u_ws RX7 TX7 11
theorem nmX7 : ∀ a, a < 11 → ∀ b, b < 11 → a ≠ b → (TX7 a).2.1 ≠ (TX7 b).2.1 := by decide +kernel
theorem tyX7_ok : ∀ k, k < 11 → parseFieldDescriptor (TX7 k).2.2.1 = some (tyX7 k) := by decide +kernel
abbrev cX7_init : ByteArray := prog_9_method_1_code
def yX7_init : MethodName := ⟨RX7, "<init>", "()V"⟩
abbrev cX7_findAll : ByteArray := prog_9_method_2_code
def yX7_findAll : MethodName := ⟨RX7, "findAll", "(LBowlsWithin$Heap;)V"⟩
abbrev cX7_growBy : ByteArray := prog_9_method_3_code
def yX7_growBy : MethodName := ⟨RX7, "growBy", "(LBowlsWithin$Heap;I)V"⟩
abbrev cX7_note : ByteArray := prog_9_method_4_code
def yX7_note : MethodName := ⟨RX7, "note", "(III)V"⟩
abbrev cX7_longestOf : ByteArray := prog_9_method_5_code
def yX7_longestOf : MethodName := ⟨RX7, "longestOf", "(I)I"⟩
abbrev cX7_isLonger : ByteArray := prog_9_method_6_code
def yX7_isLonger : MethodName := ⟨RX7, "isLonger", "(II)Z"⟩
abbrev cX7_mostApart : ByteArray := prog_9_method_7_code
def yX7_mostApart : MethodName := ⟨RX7, "mostApart", "()I"⟩
abbrev cX7_isApart : ByteArray := prog_9_method_8_code
def yX7_isApart : MethodName := ⟨RX7, "isApart", "(I)Z"⟩
abbrev cX7_costOneEach : ByteArray := prog_9_method_9_code
def yX7_costOneEach : MethodName := ⟨RX7, "costOneEach", "(I)V"⟩
abbrev cX7_costHeights : ByteArray := prog_9_method_10_code
def yX7_costHeights : MethodName := ⟨RX7, "costHeights", "()V"⟩
abbrev cX7_costLessForSetsOf : ByteArray := prog_9_method_11_code
def yX7_costLessForSetsOf : MethodName := ⟨RX7, "costLessForSetsOf", "(I)V"⟩
abbrev cX7_leastSum : ByteArray := prog_9_method_12_code
def yX7_leastSum : MethodName := ⟨RX7, "leastSum", "()I"⟩
abbrev cX7_findChains : ByteArray := prog_9_method_13_code
def yX7_findChains : MethodName := ⟨RX7, "findChains", "(LBowlsWithin$Heap;)V"⟩
abbrev cX7_lengthenInward : ByteArray := prog_9_method_14_code
def yX7_lengthenInward : MethodName := ⟨RX7, "lengthenInward", "(I)V"⟩
abbrev cX7_lengthenOutward : ByteArray := prog_9_method_15_code
def yX7_lengthenOutward : MethodName := ⟨RX7, "lengthenOutward", "(I)V"⟩
abbrev cX7_longestWith : ByteArray := prog_9_method_16_code
def yX7_longestWith : MethodName := ⟨RX7, "longestWith", "(LBowlsWithin$Heap;I)I"⟩
def RX8 : String := "BowlsWithin$Oval"
def TX8 : u_T := fun k => match k with
  | _ => ("", "", "", false)
def tyX8 : Nat → FieldType := fun k => match k with
  | _ => .int
abbrev wsX80 : List Cond := u_ws RX8 TX8 0
theorem nmX8 : ∀ a, a < 0 → ∀ b, b < 0 → a ≠ b → (TX8 a).2.1 ≠ (TX8 b).2.1 := by decide +kernel
theorem tyX8_ok : ∀ k, k < 0 → parseFieldDescriptor (TX8 k).2.2.1 = some (tyX8 k) := by decide +kernel
abbrev cX8_init : ByteArray := prog_10_method_1_code
def yX8_init : MethodName := ⟨RX8, "<init>", "()V"⟩
abbrev cX8_outside : ByteArray := prog_10_method_2_code
def yX8_outside : MethodName := ⟨RX8, "outside", "(III)I"⟩
abbrev cX8_inside : ByteArray := prog_10_method_3_code
def yX8_inside : MethodName := ⟨RX8, "inside", "(IIII)I"⟩
abbrev cX8_cost : ByteArray := prog_10_method_4_code
def yX8_cost : MethodName := ⟨RX8, "cost", "(I)I"⟩
abbrev cX8_minds : ByteArray := prog_10_method_5_code
def yX8_minds : MethodName := ⟨RX8, "minds", "()Z"⟩
def RX9 : String := "BowlsWithin$Second"
def TX9 : u_T := fun k => match k with
  | _ => ("", "", "", false)
def tyX9 : Nat → FieldType := fun k => match k with
  | _ => .int
abbrev wsX90 : List Cond := u_ws RX9 TX9 0
theorem nmX9 : ∀ a, a < 0 → ∀ b, b < 0 → a ≠ b → (TX9 a).2.1 ≠ (TX9 b).2.1 := by decide +kernel
theorem tyX9_ok : ∀ k, k < 0 → parseFieldDescriptor (TX9 k).2.2.1 = some (tyX9 k) := by decide +kernel
abbrev cX9_init : ByteArray := prog_11_method_1_code
def yX9_init : MethodName := ⟨RX9, "<init>", "()V"⟩
abbrev cX9_outside : ByteArray := prog_11_method_2_code
def yX9_outside : MethodName := ⟨RX9, "outside", "(III)I"⟩
abbrev cX9_cost : ByteArray := prog_11_method_3_code
def yX9_cost : MethodName := ⟨RX9, "cost", "(I)I"⟩
abbrev cX9_fail : ByteArray := prog_11_method_4_code
def yX9_fail : MethodName := ⟨RX9, "fail", "(I)V"⟩
def RX10 : String := "BowlsWithin$Shelf"
def TX10 : u_T := fun k => match k with
  | 0 => ("BowlsWithin$Shelf", "elements", "[I", true)
  | 1 => ("BowlsWithin$Shelf", "holds", "I", false)
  | 2 => ("BowlsWithin$Shelf", "kind", "I", false)
  | 3 => ("BowlsWithin$Shelf", "figure", "I", false)
  | 4 => ("BowlsWithin$Shelf", "sort", "I", false)
  | _ => ("BowlsWithin$Shelf", "size", "I", false)
def tyX10 : Nat → FieldType := fun k => match k with
  | 0 => .array .int
  | 1 => .int
  | 2 => .int
  | 3 => .int
  | 4 => .int
  | _ => .int
abbrev wsX100 : List Cond := u_ws RX10 TX10 6
theorem nmX10 : ∀ a, a < 6 → ∀ b, b < 6 → a ≠ b → (TX10 a).2.1 ≠ (TX10 b).2.1 := by decide +kernel
theorem tyX10_ok : ∀ k, k < 6 → parseFieldDescriptor (TX10 k).2.2.1 = some (tyX10 k) := by decide +kernel
abbrev cX10_init : ByteArray := prog_12_method_1_code
def yX10_init : MethodName := ⟨RX10, "<init>", "()V"⟩
abbrev cX10_clear : ByteArray := prog_12_method_2_code
def yX10_clear : MethodName := ⟨RX10, "clear", "()V"⟩
abbrev cX10_holdBowl : ByteArray := prog_12_method_3_code
def yX10_holdBowl : MethodName := ⟨RX10, "holdBowl", "(II)V"⟩
abbrev cX10_holdRow : ByteArray := prog_12_method_4_code
def yX10_holdRow : MethodName := ⟨RX10, "holdRow", "(II)V"⟩
abbrev cX10_hasPlace : ByteArray := prog_12_method_5_code
def yX10_hasPlace : MethodName := ⟨RX10, "hasPlace", "(I)Z"⟩
abbrev cX10_hasStretch : ByteArray := prog_12_method_6_code
def yX10_hasStretch : MethodName := ⟨RX10, "hasStretch", "(II)Z"⟩
abbrev cX10_set : ByteArray := prog_12_method_7_code
def yX10_set : MethodName := ⟨RX10, "set", "(II)V"⟩
abbrev cX10_at : ByteArray := prog_12_method_8_code
def yX10_at : MethodName := ⟨RX10, "at", "(I)I"⟩
abbrev cX10_digitAt : ByteArray := prog_12_method_9_code
def yX10_digitAt : MethodName := ⟨RX10, "digitAt", "(I)I"⟩
abbrev cX10_isDigit : ByteArray := prog_12_method_10_code
def yX10_isDigit : MethodName := ⟨RX10, "isDigit", "(I)Z"⟩
abbrev cX10_faultOfForm : ByteArray := prog_12_method_11_code
def yX10_faultOfForm : MethodName := ⟨RX10, "faultOfForm", "()I"⟩
abbrev cX10_statementEnd : ByteArray := prog_12_method_12_code
def yX10_statementEnd : MethodName := ⟨RX10, "statementEnd", "(I)I"⟩
abbrev cX10_signEnd : ByteArray := prog_12_method_13_code
def yX10_signEnd : MethodName := ⟨RX10, "signEnd", "(II)I"⟩
abbrev cX10_digitEnd : ByteArray := prog_12_method_14_code
def yX10_digitEnd : MethodName := ⟨RX10, "digitEnd", "(I)I"⟩
abbrev cX10_numberEnd : ByteArray := prog_12_method_15_code
def yX10_numberEnd : MethodName := ⟨RX10, "numberEnd", "(I)I"⟩
abbrev cX10_numberAt : ByteArray := prog_12_method_16_code
def yX10_numberAt : MethodName := ⟨RX10, "numberAt", "(I)I"⟩
def RX11 : String := "BowlsWithin"
def TX11 : u_T := fun k => match k with
  | 0 => ("BowlsWithin", "kinds", "[LBowlsWithin$Bowl;", true)
  | 1 => ("BowlsWithin", "now", "LBowlsWithin$Heap;", true)
  | 2 => ("BowlsWithin", "trial", "LBowlsWithin$Heap;", true)
  | 3 => ("BowlsWithin", "imaged", "LBowlsWithin$Heap;", true)
  | 4 => ("BowlsWithin", "nests", "LBowlsWithin$Nests;", true)
  | 5 => ("BowlsWithin", "shelves", "[LBowlsWithin$Shelf;", true)
  | _ => ("BowlsWithin", "hasImage", "Z", false)
def tyX11 : Nat → FieldType := fun k => match k with
  | 0 => .array (.object "BowlsWithin$Bowl")
  | 1 => .object "BowlsWithin$Heap"
  | 2 => .object "BowlsWithin$Heap"
  | 3 => .object "BowlsWithin$Heap"
  | 4 => .object "BowlsWithin$Nests"
  | 5 => .array (.object "BowlsWithin$Shelf")
  | _ => .boolean
abbrev wsX110 : List Cond := u_ws RX11 TX11 7
theorem nmX11 : ∀ a, a < 7 → ∀ b, b < 7 → a ≠ b → (TX11 a).2.1 ≠ (TX11 b).2.1 := by decide +kernel
theorem tyX11_ok : ∀ k, k < 7 → parseFieldDescriptor (TX11 k).2.2.1 = some (tyX11 k) := by decide +kernel
abbrev cX11_init : ByteArray := prog_1_method_1_code
def yX11_init : MethodName := ⟨RX11, "<init>", "()V"⟩
abbrev cX11_heap : ByteArray := prog_1_method_2_code
def yX11_heap : MethodName := ⟨RX11, "heap", "(I)I"⟩
abbrev cX11_bowl : ByteArray := prog_1_method_3_code
def yX11_bowl : MethodName := ⟨RX11, "bowl", "(II)I"⟩
abbrev cX11_comes : ByteArray := prog_1_method_4_code
def yX11_comes : MethodName := ⟨RX11, "comes", "(IIII)I"⟩
abbrev cX11_warm : ByteArray := prog_1_method_5_code
def yX11_warm : MethodName := ⟨RX11, "warm", "(I)I"⟩
abbrev cX11_turn : ByteArray := prog_1_method_6_code
def yX11_turn : MethodName := ⟨RX11, "turn", "(I)I"⟩
abbrev cX11_lies : ByteArray := prog_1_method_7_code
def yX11_lies : MethodName := ⟨RX11, "lies", "(II)I"⟩
abbrev cX11_nest : ByteArray := prog_1_method_8_code
def yX11_nest : MethodName := ⟨RX11, "nest", "(I)I"⟩
abbrev cX11_height : ByteArray := prog_1_method_9_code
def yX11_height : MethodName := ⟨RX11, "height", "(I)I"⟩
abbrev cX11_longest : ByteArray := prog_1_method_10_code
def yX11_longest : MethodName := ⟨RX11, "longest", "(II)I"⟩
abbrev cX11_fewest : ByteArray := prog_1_method_11_code
def yX11_fewest : MethodName := ⟨RX11, "fewest", "()I"⟩
abbrev cX11_apart : ByteArray := prog_1_method_12_code
def yX11_apart : MethodName := ⟨RX11, "apart", "(I)I"⟩
abbrev cX11_carry : ByteArray := prog_1_method_13_code
def yX11_carry : MethodName := ⟨RX11, "carry", "()I"⟩
abbrev cX11_load : ByteArray := prog_1_method_14_code
def yX11_load : MethodName := ⟨RX11, "load", "(I)I"⟩
abbrev cX11_whole : ByteArray := prog_1_method_15_code
def yX11_whole : MethodName := ⟨RX11, "whole", "(I)I"⟩
abbrev cX11_throwsNew : ByteArray := prog_1_method_16_code
def yX11_throwsNew : MethodName := ⟨RX11, "throwsNew", "()I"⟩
abbrev cX11_helps : ByteArray := prog_1_method_17_code
def yX11_helps : MethodName := ⟨RX11, "helps", "(II)I"⟩
abbrev cX11_out : ByteArray := prog_1_method_18_code
def yX11_out : MethodName := ⟨RX11, "out", "(II)I"⟩
abbrev cX11_judge : ByteArray := prog_1_method_19_code
def yX11_judge : MethodName := ⟨RX11, "judge", "(I)I"⟩
abbrev cX11_spans : ByteArray := prog_1_method_20_code
def yX11_spans : MethodName := ⟨RX11, "spans", "(III)I"⟩
abbrev cX11_next : ByteArray := prog_1_method_21_code
def yX11_next : MethodName := ⟨RX11, "next", "(II)I"⟩
abbrev cX11_from : ByteArray := prog_1_method_22_code
def yX11_from : MethodName := ⟨RX11, "from", "(IIII)I"⟩
abbrev cX11_breaks : ByteArray := prog_1_method_23_code
def yX11_breaks : MethodName := ⟨RX11, "breaks", "(III)I"⟩
abbrev cX11_image : ByteArray := prog_1_method_24_code
def yX11_image : MethodName := ⟨RX11, "image", "()I"⟩
abbrev cX11_restore : ByteArray := prog_1_method_25_code
def yX11_restore : MethodName := ⟨RX11, "restore", "()I"⟩
abbrev cX11_count : ByteArray := prog_1_method_26_code
def yX11_count : MethodName := ⟨RX11, "count", "(I)I"⟩
abbrev cX11_keep : ByteArray := prog_1_method_27_code
def yX11_keep : MethodName := ⟨RX11, "keep", "(IIII)I"⟩
abbrev cX11_row : ByteArray := prog_1_method_28_code
def yX11_row : MethodName := ⟨RX11, "row", "(III)I"⟩
abbrev cX11_put : ByteArray := prog_1_method_29_code
def yX11_put : MethodName := ⟨RX11, "put", "(III)I"⟩
abbrev cX11_element : ByteArray := prog_1_method_30_code
def yX11_element : MethodName := ⟨RX11, "element", "(II)J"⟩
abbrev cX11_copy : ByteArray := prog_1_method_31_code
def yX11_copy : MethodName := ⟨RX11, "copy", "(IIIII)I"⟩
abbrev cX11_price : ByteArray := prog_1_method_32_code
def yX11_price : MethodName := ⟨RX11, "price", "(I)I"⟩
abbrev cX11_toss : ByteArray := prog_1_method_33_code
def yX11_toss : MethodName := ⟨RX11, "toss", "(I)I"⟩
abbrev cX11_isWithin : ByteArray := prog_1_method_34_code
def yX11_isWithin : MethodName := ⟨RX11, "isWithin", "(III)Z"⟩
abbrev cX11_isShelf : ByteArray := prog_1_method_35_code
def yX11_isShelf : MethodName := ⟨RX11, "isShelf", "(I)Z"⟩
abbrev cX11_areHairs : ByteArray := prog_1_method_36_code
def yX11_areHairs : MethodName := ⟨RX11, "areHairs", "(I)Z"⟩
abbrev cX11_isWarmth : ByteArray := prog_1_method_37_code
def yX11_isWarmth : MethodName := ⟨RX11, "isWarmth", "(I)Z"⟩
abbrev cX11_areBowls : ByteArray := prog_1_method_38_code
def yX11_areBowls : MethodName := ⟨RX11, "areBowls", "(I)Z"⟩
abbrev cX11_arePair : ByteArray := prog_1_method_39_code
def yX11_arePair : MethodName := ⟨RX11, "arePair", "(II)Z"⟩
abbrev cX11_rowRefusal : ByteArray := prog_1_method_40_code
def yX11_rowRefusal : MethodName := ⟨RX11, "rowRefusal", "(I)I"⟩
abbrev cX11_bytesRefusal : ByteArray := prog_1_method_41_code
def yX11_bytesRefusal : MethodName := ⟨RX11, "bytesRefusal", "(I)I"⟩
abbrev cX11_bowlRefusal : ByteArray := prog_1_method_42_code
def yX11_bowlRefusal : MethodName := ⟨RX11, "bowlRefusal", "(I)I"⟩
abbrev cX11_shelfRefusal : ByteArray := prog_1_method_43_code
def yX11_shelfRefusal : MethodName := ⟨RX11, "shelfRefusal", "(II)I"⟩
abbrev cX11_tellAll : ByteArray := prog_1_method_44_code
def yX11_tellAll : MethodName := ⟨RX11, "tellAll", "(LBowlsWithin$Shelf;)I"⟩
abbrev cX11_firstMisplaced : ByteArray := prog_1_method_45_code
def yX11_firstMisplaced : MethodName := ⟨RX11, "firstMisplaced", "(LBowlsWithin$Shelf;)I"⟩
abbrev cX11_isBridged : ByteArray := prog_1_method_46_code
def yX11_isBridged : MethodName := ⟨RX11, "isBridged", "(III)Z"⟩
abbrev cX11_pairsPerhaps : ByteArray := prog_1_method_47_code
def yX11_pairsPerhaps : MethodName := ⟨RX11, "pairsPerhaps", "(II)I"⟩
abbrev cX11_brokenBy : ByteArray := prog_1_method_48_code
def yX11_brokenBy : MethodName := ⟨RX11, "brokenBy", "(II)I"⟩
def RX12 : String := "BowlsWithinModel"
def TX12 : u_T := fun k => match k with
  | 0 => ("BowlsWithinModel", "s", "[I", true)
  | 1 => ("BowlsWithinModel", "image", "[I", true)
  | 2 => ("BowlsWithinModel", "read", "[I", true)
  | 3 => ("BowlsWithinModel", "kept", "[I", true)
  | 4 => ("BowlsWithinModel", "sort", "[I", true)
  | 5 => ("BowlsWithinModel", "size", "[I", true)
  | 6 => ("BowlsWithinModel", "element", "[I", true)
  | 7 => ("BowlsWithinModel", "keptKind", "[I", true)
  | 8 => ("BowlsWithinModel", "keptFigure", "[I", true)
  | 9 => ("BowlsWithinModel", "hasImage", "Z", false)
  | 10 => ("BowlsWithinModel", "thrown", "I", false)
  | 11 => ("BowlsWithinModel", "pos", "I", false)
  | 12 => ("BowlsWithinModel", "base", "I", false)
  | 13 => ("BowlsWithinModel", "end", "I", false)
  | 14 => ("BowlsWithinModel", "told", "I", false)
  | 15 => ("BowlsWithinModel", "numbers", "[I", true)
  | 16 => ("BowlsWithinModel", "least", "[I", true)
  | 17 => ("BowlsWithinModel", "counts", "[I", true)
  | 18 => ("BowlsWithinModel", "row", "[I", true)
  | _ => ("BowlsWithinModel", "seed", "I", false)
def tyX12 : Nat → FieldType := fun k => match k with
  | 0 => .array .int
  | 1 => .array .int
  | 2 => .array .int
  | 3 => .array .int
  | 4 => .array .int
  | 5 => .array .int
  | 6 => .array .int
  | 7 => .array .int
  | 8 => .array .int
  | 9 => .boolean
  | 10 => .int
  | 11 => .int
  | 12 => .int
  | 13 => .int
  | 14 => .int
  | 15 => .array .int
  | 16 => .array .int
  | 17 => .array .int
  | 18 => .array .int
  | _ => .int
abbrev wsX120 : List Cond := u_ws RX12 TX12 20
theorem nmX12 : ∀ a, a < 20 → ∀ b, b < 20 → a ≠ b → (TX12 a).2.1 ≠ (TX12 b).2.1 := by decide +kernel
theorem tyX12_ok : ∀ k, k < 20 → parseFieldDescriptor (TX12 k).2.2.1 = some (tyX12 k) := by decide +kernel
abbrev cX12_init : ByteArray := prog_14_method_1_code
def yX12_init : MethodName := ⟨RX12, "<init>", "()V"⟩
abbrev cX12_thrown : ByteArray := prog_14_method_2_code
def yX12_thrown : MethodName := ⟨RX12, "thrown", "()I"⟩
abbrev cX12_isIn : ByteArray := prog_14_method_3_code
def yX12_isIn : MethodName := ⟨RX12, "isIn", "(JJJ)Z"⟩
abbrev cX12_isShelf : ByteArray := prog_14_method_4_code
def yX12_isShelf : MethodName := ⟨RX12, "isShelf", "(I)Z"⟩
abbrev cX12_isBowl : ByteArray := prog_14_method_5_code
def yX12_isBowl : MethodName := ⟨RX12, "isBowl", "(I)Z"⟩
abbrev cX12_get : ByteArray := prog_14_method_6_code
def yX12_get : MethodName := ⟨RX12, "get", "(II)I"⟩
abbrev cX12_puts : ByteArray := prog_14_method_7_code
def yX12_puts : MethodName := ⟨RX12, "puts", "(III)V"⟩
abbrev cX12_lays : ByteArray := prog_14_method_8_code
def yX12_lays : MethodName := ⟨RX12, "lays", "([I[I)V"⟩
abbrev cX12_bits : ByteArray := prog_14_method_9_code
def yX12_bits : MethodName := ⟨RX12, "bits", "(I)I"⟩
abbrev cX12_everything : ByteArray := prog_14_method_10_code
def yX12_everything : MethodName := ⟨RX12, "everything", "()I"⟩
abbrev cX12_areBowls : ByteArray := prog_14_method_11_code
def yX12_areBowls : MethodName := ⟨RX12, "areBowls", "(I)Z"⟩
abbrev cX12_turned : ByteArray := prog_14_method_12_code
def yX12_turned : MethodName := ⟨RX12, "turned", "(I)I"⟩
abbrev cX12_outsideBy : ByteArray := prog_14_method_13_code
def yX12_outsideBy : MethodName := ⟨RX12, "outsideBy", "(II)I"⟩
abbrev cX12_insideBy : ByteArray := prog_14_method_14_code
def yX12_insideBy : MethodName := ⟨RX12, "insideBy", "(III)I"⟩
abbrev cX12_outside : ByteArray := prog_14_method_15_code
def yX12_outside : MethodName := ⟨RX12, "outside", "(I)I"⟩
abbrev cX12_inside : ByteArray := prog_14_method_16_code
def yX12_inside : MethodName := ⟨RX12, "inside", "(I)I"⟩
abbrev cX12_rise : ByteArray := prog_14_method_17_code
def yX12_rise : MethodName := ⟨RX12, "rise", "(I)I"⟩
abbrev cX12_isOval : ByteArray := prog_14_method_18_code
def yX12_isOval : MethodName := ⟨RX12, "isOval", "(I)Z"⟩
abbrev cX12_fitsBut : ByteArray := prog_14_method_19_code
def yX12_fitsBut : MethodName := ⟨RX12, "fitsBut", "(II)Z"⟩
abbrev cX12_liesAt : ByteArray := prog_14_method_20_code
def yX12_liesAt : MethodName := ⟨RX12, "liesAt", "(III)Z"⟩
abbrev cX12_liesNow : ByteArray := prog_14_method_21_code
def yX12_liesNow : MethodName := ⟨RX12, "liesNow", "(II)Z"⟩
abbrev cX12_here : ByteArray := prog_14_method_22_code
def yX12_here : MethodName := ⟨RX12, "here", "()I"⟩
abbrev cX12_isDigit : ByteArray := prog_14_method_23_code
def yX12_isDigit : MethodName := ⟨RX12, "isDigit", "()Z"⟩
abbrev cX12_takes : ByteArray := prog_14_method_24_code
def yX12_takes : MethodName := ⟨RX12, "takes", "(I)Z"⟩
abbrev cX12_readsNumber : ByteArray := prog_14_method_25_code
def yX12_readsNumber : MethodName := ⟨RX12, "readsNumber", "(I)Z"⟩
abbrev cX12_readsStatement : ByteArray := prog_14_method_26_code
def yX12_readsStatement : MethodName := ⟨RX12, "readsStatement", "()Z"⟩
abbrev cX12_comesTold : ByteArray := prog_14_method_27_code
def yX12_comesTold : MethodName := ⟨RX12, "comesTold", "(I)Z"⟩
abbrev cX12_wrongRow : ByteArray := prog_14_method_28_code
def yX12_wrongRow : MethodName := ⟨RX12, "wrongRow", "(II)I"⟩
abbrev cX12_heap : ByteArray := prog_14_method_29_code
def yX12_heap : MethodName := ⟨RX12, "heap", "(I)I"⟩
abbrev cX12_bowl : ByteArray := prog_14_method_30_code
def yX12_bowl : MethodName := ⟨RX12, "bowl", "(II)I"⟩
abbrev cX12_wrongKept : ByteArray := prog_14_method_31_code
def yX12_wrongKept : MethodName := ⟨RX12, "wrongKept", "(I)I"⟩
abbrev cX12_adds : ByteArray := prog_14_method_32_code
def yX12_adds : MethodName := ⟨RX12, "adds", "(IIIII)V"⟩
abbrev cX12_comes : ByteArray := prog_14_method_33_code
def yX12_comes : MethodName := ⟨RX12, "comes", "(IIII)I"⟩
abbrev cX12_warm : ByteArray := prog_14_method_34_code
def yX12_warm : MethodName := ⟨RX12, "warm", "(I)I"⟩
abbrev cX12_turn : ByteArray := prog_14_method_35_code
def yX12_turn : MethodName := ⟨RX12, "turn", "(I)I"⟩
abbrev cX12_lies : ByteArray := prog_14_method_36_code
def yX12_lies : MethodName := ⟨RX12, "lies", "(II)I"⟩
abbrev cX12_outermost : ByteArray := prog_14_method_37_code
def yX12_outermost : MethodName := ⟨RX12, "outermost", "(I)I"⟩
abbrev cX12_isNest : ByteArray := prog_14_method_38_code
def yX12_isNest : MethodName := ⟨RX12, "isNest", "(I)Z"⟩
abbrev cX12_nest : ByteArray := prog_14_method_39_code
def yX12_nest : MethodName := ⟨RX12, "nest", "(I)I"⟩
abbrev cX12_heightOf : ByteArray := prog_14_method_40_code
def yX12_heightOf : MethodName := ⟨RX12, "heightOf", "(I)I"⟩
abbrev cX12_height : ByteArray := prog_14_method_41_code
def yX12_height : MethodName := ⟨RX12, "height", "(I)I"⟩
abbrev cX12_longestOf : ByteArray := prog_14_method_42_code
def yX12_longestOf : MethodName := ⟨RX12, "longestOf", "(I)I"⟩
abbrev cX12_longest : ByteArray := prog_14_method_43_code
def yX12_longest : MethodName := ⟨RX12, "longest", "(II)I"⟩
abbrev cX12_counted : ByteArray := prog_14_method_44_code
def yX12_counted : MethodName := ⟨RX12, "counted", "(III)I"⟩
abbrev cX12_leastOf : ByteArray := prog_14_method_45_code
def yX12_leastOf : MethodName := ⟨RX12, "leastOf", "(II)I"⟩
abbrev cX12_fewest : ByteArray := prog_14_method_46_code
def yX12_fewest : MethodName := ⟨RX12, "fewest", "()I"⟩
abbrev cX12_carry : ByteArray := prog_14_method_47_code
def yX12_carry : MethodName := ⟨RX12, "carry", "()I"⟩
abbrev cX12_load : ByteArray := prog_14_method_48_code
def yX12_load : MethodName := ⟨RX12, "load", "(I)I"⟩
abbrev cX12_areApart : ByteArray := prog_14_method_49_code
def yX12_areApart : MethodName := ⟨RX12, "areApart", "(I)Z"⟩
abbrev cX12_apart : ByteArray := prog_14_method_50_code
def yX12_apart : MethodName := ⟨RX12, "apart", "(I)I"⟩
abbrev cX12_wholeOf : ByteArray := prog_14_method_51_code
def yX12_wholeOf : MethodName := ⟨RX12, "wholeOf", "(II)I"⟩
abbrev cX12_whole : ByteArray := prog_14_method_52_code
def yX12_whole : MethodName := ⟨RX12, "whole", "(I)I"⟩
abbrev cX12_canBeBetween : ByteArray := prog_14_method_53_code
def yX12_canBeBetween : MethodName := ⟨RX12, "canBeBetween", "(II)Z"⟩
abbrev cX12_throwsNew : ByteArray := prog_14_method_54_code
def yX12_throwsNew : MethodName := ⟨RX12, "throwsNew", "()I"⟩
abbrev cX12_longestRow : ByteArray := prog_14_method_55_code
def yX12_longestRow : MethodName := ⟨RX12, "longestRow", "(I)I"⟩
abbrev cX12_helps : ByteArray := prog_14_method_56_code
def yX12_helps : MethodName := ⟨RX12, "helps", "(II)I"⟩
abbrev cX12_wrongOut : ByteArray := prog_14_method_57_code
def yX12_wrongOut : MethodName := ⟨RX12, "wrongOut", "(I)I"⟩
abbrev cX12_wrongAt : ByteArray := prog_14_method_58_code
def yX12_wrongAt : MethodName := ⟨RX12, "wrongAt", "(I)I"⟩
abbrev cX12_out : ByteArray := prog_14_method_59_code
def yX12_out : MethodName := ⟨RX12, "out", "(II)I"⟩
abbrev cX12_judge : ByteArray := prog_14_method_60_code
def yX12_judge : MethodName := ⟨RX12, "judge", "(I)I"⟩
abbrev cX12_narrow : ByteArray := prog_14_method_61_code
def yX12_narrow : MethodName := ⟨RX12, "narrow", "(II)I"⟩
abbrev cX12_spanOf : ByteArray := prog_14_method_62_code
def yX12_spanOf : MethodName := ⟨RX12, "spanOf", "(IIII)I"⟩
abbrev cX12_spans : ByteArray := prog_14_method_63_code
def yX12_spans : MethodName := ⟨RX12, "spans", "(III)I"⟩
abbrev cX12_perhaps : ByteArray := prog_14_method_64_code
def yX12_perhaps : MethodName := ⟨RX12, "perhaps", "(II)I"⟩
abbrev cX12_next : ByteArray := prog_14_method_65_code
def yX12_next : MethodName := ⟨RX12, "next", "(II)I"⟩
abbrev cX12_from : ByteArray := prog_14_method_66_code
def yX12_from : MethodName := ⟨RX12, "from", "(IIII)I"⟩
abbrev cX12_drawn : ByteArray := prog_14_method_67_code
def yX12_drawn : MethodName := ⟨RX12, "drawn", "(I)I"⟩
abbrev cX12_breaks : ByteArray := prog_14_method_68_code
def yX12_breaks : MethodName := ⟨RX12, "breaks", "(III)I"⟩
abbrev cX12_image : ByteArray := prog_14_method_69_code
def yX12_image : MethodName := ⟨RX12, "image", "()I"⟩
abbrev cX12_restore : ByteArray := prog_14_method_70_code
def yX12_restore : MethodName := ⟨RX12, "restore", "()I"⟩
abbrev cX12_count : ByteArray := prog_14_method_71_code
def yX12_count : MethodName := ⟨RX12, "count", "(I)I"⟩
abbrev cX12_priceBy : ByteArray := prog_14_method_72_code
def yX12_priceBy : MethodName := ⟨RX12, "priceBy", "(II)I"⟩
abbrev cX12_keep : ByteArray := prog_14_method_73_code
def yX12_keep : MethodName := ⟨RX12, "keep", "(IIII)I"⟩
abbrev cX12_row : ByteArray := prog_14_method_74_code
def yX12_row : MethodName := ⟨RX12, "row", "(III)I"⟩
abbrev cX12_put : ByteArray := prog_14_method_75_code
def yX12_put : MethodName := ⟨RX12, "put", "(III)I"⟩
abbrev cX12_element : ByteArray := prog_14_method_76_code
def yX12_element : MethodName := ⟨RX12, "element", "(II)J"⟩
abbrev cX12_copy : ByteArray := prog_14_method_77_code
def yX12_copy : MethodName := ⟨RX12, "copy", "(IIIII)I"⟩
abbrev cX12_price : ByteArray := prog_14_method_78_code
def yX12_price : MethodName := ⟨RX12, "price", "(I)I"⟩
abbrev cX12_toss : ByteArray := prog_14_method_79_code
def yX12_toss : MethodName := ⟨RX12, "toss", "(I)I"⟩
def RJ6 : String := "java/lang/Integer"
abbrev cJ6_bitCount_0f7a4 : ByteArray := prog_18_method_49_code
def yJ6_bitCount_0f7a4 : MethodName := ⟨RJ6, "bitCount", "(I)I"⟩
def RJ9 : String := "java/lang/Math"
abbrev cJ9_max_7cf53 : ByteArray := prog_19_method_65_code
def yJ9_max_7cf53 : MethodName := ⟨RJ9, "max", "(II)I"⟩
abbrev cJ9_min_7cf53 : ByteArray := prog_19_method_69_code
def yJ9_min_7cf53 : MethodName := ⟨RJ9, "min", "(II)I"⟩
def RJ0 : String := "java/lang/String"
def RJ10 : String := "java/lang/System"
def RL : String := "BowlsWithinLaw"
abbrev cL_element : ByteArray := method_3_code
def yL_element : MethodName := ⟨RL, "element", "(LBowlsWithin;II[J)I"⟩
abbrev cL_law : ByteArray := code
def yL_law : MethodName := ⟨RL, "law", "([I)Z"⟩
abbrev vwCl : List vw_C := [(RX0, TX0, 0), (RX1, TX1, 0), (RX2, TX2, 0), (RX3, TX3, 0), (RX4, TX4, 0), (RX5, TX5, 9), (RX6, TX6, 0), (RX7, TX7, 11), (RX8, TX8, 0), (RX9, TX9, 0), (RX10, TX10, 6), (RX11, TX11, 7), (RX12, TX12, 20)]
end
section
/-! The machine over one fixed world: objects have numbers; a world holds the ints (fields, rows); references never change. -/
abbrev ww : Type := Nat → Nat → Int32
def wu (w : ww) (o i : Nat) (v : Int32) : ww := fun a b => if a = o then (if b = i then v else w a b) else w a b
abbrev zSh : Type := (Nat × List (Option Nat)) ⊕ (Nat ⊕ ((Nat × List Nat) ⊕ Nat))
/-- an object: number of its class, its fields (none: an int; some: the object that it names) -/
abbrev zob (ci : Nat) (fl : List (Option Nat)) : zSh := .inl (ci, fl)
abbrev zia (n : Nat) : zSh := .inr (.inl n)
abbrev zra (t : Nat) (l : List Nat) : zSh := .inr (.inr (.inl (t, l)))
abbrev zla (n : Nat) : zSh := .inr (.inr (.inr n))
def zheap (h : Nat) : List zSh := [zob 5 [some 1, some (h+1), some (h+2), some (h+3), some (h+4), some (h+5), some (h+6), none, none], zia 10, zia 10, zia 10, zia 10, zia 10, zia 10]
def zshelf (h : Nat) : List zSh := [zob 10 [some (h+1), none, none, none, none, none], zia 100]
def zshapes : List zSh :=
  [zob 11 [some 1, some 10, some 17, some 24, some 31, some 40, none], zra 1 [2, 3, 4, 5, 6, 7, 8, 9],
   zob 0 [], zob 8 [], zob 6 [], zob 3 [], zob 9 [], zob 4 [], zob 1 [], zob 2 []] ++ zheap 10 ++ zheap 17 ++ zheap 24 ++
  [zob 7 [some 32, some 33, some 34, some 35, some 36, some 37, some 38, some 39, none, none, none], zia 512, zia 512, zia 512, zia 512, zia 512, zia 9, zia 9, zia 9,
   zra 2 [41, 43, 45, 47, 49, 51, 53, 55]] ++ zshelf 41 ++ zshelf 43 ++ zshelf 45 ++ zshelf 47 ++ zshelf 49 ++ zshelf 51 ++ zshelf 53 ++ zshelf 55 ++
  [zob 12 [some 58, some 59, some 60, some 61, some 62, some 63, some 64, some 65, some 66, none, none, none, none, none, none, some 67, some 68, some 69, some 70, none],
   zia 52, zia 52, zia 52, zia 8, zia 8, zia 8, zia 800, zia 8, zia 8, zia 5, zia 512, zia 512, zia 10, zla 1]
def zfs (φ : Nat → Nat) (w : ww) (o : Nat) : Nat → List (Option Nat) → List Value
  | _, [] => []
  | k, none :: l => .int (w o k) :: zfs φ w o (k + 1) l
  | k, some r :: l => .ref (φ r) :: zfs φ w o (k + 1) l
def zfv (φ : Nat → Nat) (w : ww) (o k : Nat) : Option Nat → Value
  | none => .int (w o k)
  | some r => .ref (φ r)
theorem zfs_get (φ : Nat → Nat) (w : ww) (o : Nat) : ∀ (fl : List (Option Nat)) (j k : Nat), (zfs φ w o j fl)[k]? = (fl[k]?).map (zfv φ w o (j + k))
  | [], j, k => by simp [zfs]
  | none :: l, j, 0 => by simp [zfs, zfv]
  | some r :: l, j, 0 => by simp [zfs, zfv]
  | none :: l, j, k + 1 => by
    have h := zfs_get φ w o l (j + 1) k
    simp only [zfs, List.getElem?_cons_succ, h]
    congr 2; omega
  | some r :: l, j, k + 1 => by
    have h := zfs_get φ w o l (j + 1) k
    simp only [zfs, List.getElem?_cons_succ, h]
    congr 2; omega
theorem zfs_len (φ : Nat → Nat) (w : ww) (o : Nat) : ∀ (fl : List (Option Nat)) (j : Nat), (zfs φ w o j fl).length = fl.length
  | [], j => rfl
  | none :: l, j => by simp [zfs, zfs_len φ w o l]
  | some r :: l, j => by simp [zfs, zfs_len φ w o l]
theorem zfs_set (φ : Nat → Nat) (w : ww) (o : Nat) (fl : List (Option Nat)) (k : Nat) (v : Int32) (hk : fl[k]? = some none) : (zfs φ w o 0 fl).set k (.int v) = zfs φ (wu w o k v) o 0 fl := by
  have hl : k < fl.length := (List.getElem?_eq_some_iff.mp hk).1
  apply List.ext_getElem?
  intro i
  by_cases hi : i = k
  · subst hi
    rw [List.getElem?_set_self (by rw [zfs_len]; exact hl), zfs_get, hk]
    simp [zfv, wu]
  · rw [List.getElem?_set_ne (Ne.symm hi), zfs_get, zfs_get]
    cases hf : fl[i]? with
    | none => rfl
    | some f =>
      cases f with
      | none => simp [zfv, wu, hi]
      | some r => simp [zfv]
theorem zfs_congr (φ : Nat → Nat) (w w' : ww) (o : Nat) (h : w o = w' o) (fl : List (Option Nat)) (j : Nat) : zfs φ w o j fl = zfs φ w' o j fl := by
  apply List.ext_getElem?
  intro i
  rw [zfs_get, zfs_get]
  cases hf : fl[i]? with
  | none => rfl
  | some f => cases f <;> simp [zfv, h]
def zcell (φ : Nat → Nat) (cA : Nat → ClassId) (w : ww) (o : Nat) : zSh → va_E
  | .inl (ci, fl) => .inr (ci, zfs φ w o 0 fl)
  | .inr (.inl n) => .inl (cA 0, n, .inl (w o))
  | .inr (.inr (.inl (t, l))) => .inl (cA t, l.length, .inr (.inr (.inr (.inr (fun k => (l[k]?).map φ)))))
  | .inr (.inr (.inr n)) => .inl (cA 3, n, .inr (.inl (fun k => (w o k).toInt64)))
theorem zcell_congr (φ : Nat → Nat) (cA : Nat → ClassId) (w w' : ww) (o : Nat) (h : w o = w' o) (sh : zSh) : zcell φ cA w o sh = zcell φ cA w' o sh := by
  rcases sh with ⟨ci, fl⟩ | n | ⟨t, l⟩ | n
  · simp [zcell, zfs_congr φ w w' o h]
  · simp [zcell, h]
  · simp [zcell]
  · simp [zcell, h]
def zWS (φ : Nat → Nat) (cA : Nat → ClassId) (w : ww) : va_W := zshapes.mapIdx (fun o sh => (φ o, zcell φ cA w o sh))
theorem zWS_get {φ : Nat → Nat} {cA : Nat → ClassId} {w : ww} {o : Nat} {sh : zSh} (h : zshapes[o]? = some sh) : (zWS φ cA w)[o]? = some (φ o, zcell φ cA w o sh) := by
  simp [zWS, h]
theorem zWS_set {φ : Nat → Nat} {cA : Nat → ClassId} {w w' : ww} {o : Nat} {sh : zSh} (h : zshapes[o]? = some sh) (hw : ∀ p, p ≠ o → w p = w' p) : (zWS φ cA w).set o (φ o, zcell φ cA w' o sh) = zWS φ cA w' := by
  have hl : o < zshapes.length := (List.getElem?_eq_some_iff.mp h).1
  apply List.ext_getElem?
  intro i
  by_cases hi : i = o
  · subst hi
    rw [List.getElem?_set_self (by simp [zWS]; exact hl), zWS_get h]
  · rw [List.getElem?_set_ne (Ne.symm hi)]
    simp only [zWS, List.getElem?_mapIdx]
    cases hs : zshapes[i]? with
    | none => rfl
    | some s => simp [zcell_congr φ cA w w' i (hw i hi) s]
theorem wu_off {w : ww} {o i : Nat} {v : Int32} {p : Nat} (h : p ≠ o) : w p = wu w o i v p := by
  funext b
  simp [wu, h]
/-- the values that a frame holds: numbers of objects for addresses -/
def tv (φ : Nat → Nat) : Value → Value
  | .ref a => .ref (φ a)
  | v => v
theorem tv_cat (φ : Nat → Nat) (v : Value) : (tv φ v).category = v.category := by cases v <;> rfl
abbrev zL : Type := List (Option Value)
def zas (φ : Nat → Nat) : Nat → zL → List (Nat × Value)
  | _, [] => []
  | j, none :: l => zas φ (j + 1) l
  | j, some v :: l => (j, tv φ v) :: zas φ (j + 1) l
theorem zas_mem {φ : Nat → Nat} : ∀ (L : zL) (j : Nat) (q : Nat × Value), q ∈ zas φ j L ↔ ∃ (i : Nat) (v : Value), L[i]? = some (some v) ∧ q = (j + i, tv φ v)
  | [], j, q => by simp [zas]
  | none :: l, j, q => by
    rw [zas, zas_mem l (j + 1) q]
    constructor
    · rintro ⟨i, v, h, rfl⟩
      exact ⟨i + 1, v, by simpa using h, by congr 1; omega⟩
    · rintro ⟨i, v, h, rfl⟩
      cases i with
      | zero => simp at h
      | succ i => exact ⟨i, v, by simpa using h, by congr 1; omega⟩
  | some u :: l, j, q => by
    rw [zas, List.mem_cons, zas_mem l (j + 1) q]
    constructor
    · rintro (rfl | ⟨i, v, h, rfl⟩)
      · exact ⟨0, u, by simp, by simp⟩
      · exact ⟨i + 1, v, by simpa using h, by congr 1; omega⟩
    · rintro ⟨i, v, h, rfl⟩
      cases i with
      | zero =>
        simp at h
        subst h
        exact Or.inl (by simp)
      | succ i => exact Or.inr ⟨i, v, by simpa using h, by congr 1; omega⟩
def zlok (φ : Nat → Nat) (ls : Array Slot) (nL : Nat) (L : zL) : Prop := lv_has ls nL (zas φ 0 L)
theorem zlok.at {φ : Nat → Nat} {ls : Array Slot} {nL : Nat} {L : zL} (h : zlok φ ls nL L) {k : Nat} {v : Value} (hk : L[k]? = some (some v)) : ls[k]? = some (.val (tv φ v)) :=
  h.2.2 (k, tv φ v) ((zas_mem L 0 _).mpr ⟨k, v, hk, by simp⟩)
def znl (L : zL) : Bool := L.all (fun o => match o with | some (.long _) => false | some (.double _) => false | _ => true)
theorem znl_cat {L : zL} (h : znl L = true) {i : Nat} {v : Value} (hv : L[i]? = some (some v)) : ¬ v.category = 2 := by
  have h1 := List.all_eq_true.mp h _ (List.mem_of_getElem? hv)
  cases v <;> simp_all [Value.category]
theorem zlok.set {φ : Nat → Nat} {ls' : Array Slot} {nL : Nat} {L : zL} {i : Nat} {v : Value} (hn : znl L = true)
    (h : lv_has ls' nL ((i, tv φ v) :: (zas φ 0 L).filter (fun q => !(q.1 == i) && !(q.1 + 1 == i && q.2.category == 2)))) : zlok φ ls' nL (L.set i (some v)) := by
  refine ⟨h.1, h.2.1, fun q hq => h.2.2 q ?_⟩
  obtain ⟨k, u, hk, rfl⟩ := (zas_mem _ 0 q).mp hq
  simp only [Nat.zero_add]
  by_cases hki : k = i
  · subst hki
    have hl : k < L.length := by
      have := (List.getElem?_eq_some_iff.mp hk).1
      simpa using this
    rw [List.getElem?_set_self hl] at hk
    cases hk
    exact List.mem_cons_self
  · rw [List.getElem?_set_ne (Ne.symm hki)] at hk
    refine List.mem_cons_of_mem _ (List.mem_filter.mpr ⟨(zas_mem L 0 _).mpr ⟨k, u, hk, by simp⟩, ?_⟩)
    have hc := znl_cat hn hk
    simp [hki, tv_cat, hc]
theorem zlok.sub {φ : Nat → Nat} {ls : Array Slot} {nL : Nat} {L L' : zL} (h : zlok φ ls nL L) (hs : ∀ (k : Nat) (v : Value), L'[k]? = some (some v) → L[k]? = some (some v)) : zlok φ ls nL L' := by
  refine ⟨h.1, h.2.1, fun q hq => h.2.2 q ?_⟩
  obtain ⟨k, u, hk, rfl⟩ := (zas_mem _ 0 q).mp hq
  exact (zas_mem L 0 _).mpr ⟨k, u, hs k u hk, rfl⟩
/-- forgetting locals -/
def zfm : List Bool → zL → zL
  | _, [] => []
  | [], _ :: L => none :: zfm [] L
  | true :: ms, v :: L => v :: zfm ms L
  | false :: ms, _ :: L => none :: zfm ms L
theorem zfm_sub : ∀ (ms : List Bool) (L : zL) (k : Nat) (v : Value), (zfm ms L)[k]? = some (some v) → L[k]? = some (some v)
  | _, [], k, v, h => by simp [zfm] at h
  | [], a :: L, 0, v, h => by simp [zfm] at h
  | [], a :: L, k + 1, v, h => by
    simp only [zfm, List.getElem?_cons_succ] at h ⊢
    exact zfm_sub [] L k v h
  | true :: ms, a :: L, 0, v, h => by simpa [zfm] using h
  | false :: ms, a :: L, 0, v, h => by simp [zfm] at h
  | true :: ms, a :: L, k + 1, v, h => by
    simp only [zfm, List.getElem?_cons_succ] at h ⊢
    exact zfm_sub ms L k v h
  | false :: ms, a :: L, k + 1, v, h => by
    simp only [zfm, List.getElem?_cons_succ] at h ⊢
    exact zfm_sub ms L k v h
/-- the tables' words that every method has -/
def big : List Cond := lw_tbl.filter goodWord
theorem big_in {w : Cond} (h : w ∈ tables_1) (hg : goodWord w = true) : w ∈ big := List.mem_filter.mpr ⟨List.mem_append_right _ h, hg⟩
theorem big_sel {q : MethodName × Nat} (h : q ∈ lw_privs) : Cond.selects q.1.cls q.1 q.1 ∈ big := List.mem_filter.mpr ⟨List.mem_append_left _ (List.mem_map.mpr ⟨q, h, rfl⟩), rfl⟩
def zisN : Cond → Bool
  | .fieldLinkNest .. => true
  | .methodLinkNest .. => true
  | _ => false
def nests : List Cond := tables_1.filter zisN
theorem nests_in {w : Cond} (h : w ∈ tables_1) (hg : zisN w = true) : w ∈ nests := List.mem_filter.mpr ⟨h, hg⟩
theorem nests_warm {s U : State} (hW : s.WarmedH U.vm) (h : ∀ w ∈ nests, va_Nw w s) : ∀ w ∈ nests, va_Nw w U := by
  intro w hw
  have h1 := h w hw
  have h2 := (List.mem_filter.mp hw).2
  cases w <;> first | (cases h2; done) | exact va_Nw.warmF hW h1 | exact va_Nw.warmM hW h1
theorem nests_same {u U : State} (hvm : u.vm = U.vm) (h : ∀ w ∈ nests, va_Nw w u) : ∀ w ∈ nests, va_Nw w U := by
  intro w hw
  have h1 := h w hw
  have h2 := (List.mem_filter.mp hw).2
  cases w <;> first | (cases h2; done) | exact va_Nw.same rfl hvm h1
def ztys (cA : Nat → ClassId) : List (ClassId × FieldType) := [(cA 0, .int), (cA 1, .object "BowlsWithin$Bowl"), (cA 2, .object "BowlsWithin$Shelf"), (cA 3, .long)]
def zK (D : va_G) (cA : Nat → ClassId) (U : State) : Prop := va_K D vwCl (ztys cA) U ∧ ∀ w ∈ nests, va_Nw w U
theorem zK.warm {D : va_G} {cA : Nat → ClassId} {s U : State} (hW : s.WarmedH U.vm) (h : zK D cA s) : zK D cA U := ⟨va_K.moved hW.alike h.1, nests_warm hW h.2⟩
theorem zK.same {D : va_G} {cA : Nat → ClassId} {u U : State} (hvm : u.vm = U.vm) (h : zK D cA u) : zK D cA U := ⟨va_K.moved (by rw [← hvm]; exact Vm.Alike.refl _) h.1, nests_same hvm h.2⟩
abbrev zG : Type := Nat → zL → List Value → ww → Prop
def zV (p : Program) (l : Launch) (e : Env) (R : Room) (s : State) (m : MethodId) (args : Array Value) (below : List Frame) (meth : Method) (c : Code) (nL : Nat) (φ : Nat → Nat) (cA : Nat → ClassId) (D : va_G) (A : Nat → Prop) (H0 : Heap) (cells slots : Nat) (Qm : State → Prop) : zG := fun pc L S w =>
  ∀ (ls : Array Slot) (H : Heap) (locs : List Loc), zlok φ ls nL L → va_P D vwCl (zWS φ cA w) H → va_D A (zWS φ cA w) → va_S A H0 H locs →
    W p l e R s m args below meth c H locs cells slots Qm (F0 m pc ls (S.map (tv φ)))
/-- a walk of a method of class own, with the code cc: what holds at each place -/
def zE (own : String) (cc : ByteArray) (nL n : Nat) (G : zG) : Prop := ∃ (p : Program) (l : Launch) (e : Env) (R : Room) (s : State) (m : MethodId) (args : Array Value) (below : List Frame) (meth : Method) (c : Code) (φ : Nat → Nat) (cA : Nat → ClassId) (D : va_G) (A : Nat → Prop) (H0 : Heap) (cells slots : Nat) (Qm : State → Prop) (Ts : List Cond),
  G = zV p l e R s m args below meth c nL φ cA D A H0 cells slots Qm ∧ CallFix p m c cc nL s args Ts own ∧ (∀ w ∈ big, w ∈ Ts) ∧ zK D cA s ∧ (∀ q, H0.size ≤ q → A q) ∧ n ≤ R.frames ∧ 60 * n ≤ R.locals ∧ cells ≤ R.cells ∧ slots ≤ R.slots
def zR (own : String) (cc : ByteArray) (nL n : Nat) (ret : Option FieldType) (Q : Option Value → ww → Prop) (G : zG) : Prop := zE own cc nL n G ∧
  (∀ (ty : FieldType) (v : Int32) (pc : Nat) (L : zL) (w : ww) (np : Nat), zD cc pc .ireturn 1 np → ret = some ty → narrow ty (.int v) = .int v → Q (some (.int v)) w → G pc L [.int v] w) ∧
  (∀ (v : Int64) (pc : Nat) (L : zL) (w : ww) (np : Nat), zD cc pc .lreturn 1 np → ret = some .long → Q (some (.long v)) w → G pc L [.long v] w) ∧
  (∀ (pc : Nat) (L : zL) (w : ww) (np : Nat), zD cc pc .return_ 1 np → ret = none → Q none w → G pc L [] w)
end
section
/-! One row an instruction, over zE. -/
section ZRows
variable {own : String} {cc : ByteArray} {nL n : Nat} {G : zG} {pc np : Nat} {L : zL} {S : List Value} {w : ww}
def zopen (G : zG) (own : String) (cc : ByteArray) (nL n : Nat) (P : Prop) : Prop := ∀ (p : Program) (l : Launch) (e : Env) (R : Room) (s : State) (m : MethodId) (args : Array Value) (below : List Frame) (meth : Method) (c : Code) (φ : Nat → Nat) (cA : Nat → ClassId) (D : va_G) (A : Nat → Prop) (H0 : Heap) (cells slots : Nat) (Qm : State → Prop) (Ts : List Cond),
  G = zV p l e R s m args below meth c nL φ cA D A H0 cells slots Qm → CallFix p m c cc nL s args Ts own → (∀ w ∈ big, w ∈ Ts) → zK D cA s → (∀ q, H0.size ≤ q → A q) → n ≤ R.frames → 60 * n ≤ R.locals → cells ≤ R.cells → slots ≤ R.slots → P
theorem zE.elim {P : Prop} (h : zE own cc nL n G) (k : zopen G own cc nL n P) : P := by
  obtain ⟨p, l, e, R, s, m, args, below, meth, c, φ, cA, D, A, H0, cells, slots, Qm, Ts, h1, h2, h3, h4, h5, h6, h7, h8, h9⟩ := h
  exact k p l e R s m args below meth c φ cA D A H0 cells slots Qm Ts h1 h2 h3 h4 h5 h6 h7 h8 h9
theorem zr_iconst (h : zE own cc nL n G) {k : Int} (hd : zD cc pc (.iconst k) 1 np) {v : Int32} (hv : Int32.ofInt k = v) (kk : G np L (.int v :: S) w) : G pc L (S) w := by
  refine h.elim fun p l e R s m args below meth c φ cA D A H0 cells slots Qm Ts hG hC hB hK hA hn1 hn2 hn3 hn4 => ?_
  subst hG
  obtain ⟨hx, hb, hml, hown, hts⟩ := hC
  obtain ⟨hd, rfl⟩ := hd
  intro ls H locs hls hP hD hS
  exact lv_iconst hx hb hd hv (kk ls H locs hls hP hD hS)
theorem zr_bipush (h : zE own cc nL n G) {k : Int} (hd : zD cc pc (.bipush k) 2 np) {v : Int32} (hv : (Int8.ofInt k).toInt32 = v) (kk : G np L (.int v :: S) w) : G pc L (S) w := by
  refine h.elim fun p l e R s m args below meth c φ cA D A H0 cells slots Qm Ts hG hC hB hK hA hn1 hn2 hn3 hn4 => ?_
  subst hG
  obtain ⟨hx, hb, hml, hown, hts⟩ := hC
  obtain ⟨hd, rfl⟩ := hd
  intro ls H locs hls hP hD hS
  exact lv_bipush hx hb hd hv (kk ls H locs hls hP hD hS)
theorem zr_sipush (h : zE own cc nL n G) {k : Int} (hd : zD cc pc (.sipush k) 3 np) {v : Int32} (hv : (Int16.ofInt k).toInt32 = v) (kk : G np L (.int v :: S) w) : G pc L (S) w := by
  refine h.elim fun p l e R s m args below meth c φ cA D A H0 cells slots Qm Ts hG hC hB hK hA hn1 hn2 hn3 hn4 => ?_
  subst hG
  obtain ⟨hx, hb, hml, hown, hts⟩ := hC
  obtain ⟨hd, rfl⟩ := hd
  intro ls H locs hls hP hD hS
  exact lv_sipush hx hb hd hv (kk ls H locs hls hP hD hS)
theorem zr_lconst (h : zE own cc nL n G) {k : Fin 2} (hd : zD cc pc (.lconst k) 1 np) {v : Int64} (hv : Int64.ofNat (k : Nat) = v) (kk : G np L (.long v :: S) w) : G pc L (S) w := by
  refine h.elim fun p l e R s m args below meth c φ cA D A H0 cells slots Qm Ts hG hC hB hK hA hn1 hn2 hn3 hn4 => ?_
  subst hG
  obtain ⟨hx, hb, hml, hown, hts⟩ := hC
  obtain ⟨hd, rfl⟩ := hd
  intro ls H locs hls hP hD hS
  exact lv_lconst hx hb hd hv (kk ls H locs hls hP hD hS)
theorem zr_ldc (h : zE own cc nL n G) {k : Nat} (hd : zD cc pc (.ldc k) 2 np) {v : Int32} (hc : Jvm.Cond.constant own k v ∈ big) (kk : G np L (.int v :: S) w) : G pc L (S) w := by
  refine h.elim fun p l e R s m args below meth c φ cA D A H0 cells slots Qm Ts hG hC hB hK hA hn1 hn2 hn3 hn4 => ?_
  subst hG
  obtain ⟨hx, hb, hml, hown, hts⟩ := hC
  obtain ⟨hd, rfl⟩ := hd
  intro ls H locs hls hP hD hS
  exact lv_ldc hx hb hown (hts _ (hB _ hc)) hd (kk ls H locs hls hP hD hS)
theorem zr_ldcw (h : zE own cc nL n G) {k : Nat} (hd : zD cc pc (.ldc_w k) 3 np) {v : Int32} (hc : Jvm.Cond.constant own k v ∈ big) (kk : G np L (.int v :: S) w) : G pc L (S) w := by
  refine h.elim fun p l e R s m args below meth c φ cA D A H0 cells slots Qm Ts hG hC hB hK hA hn1 hn2 hn3 hn4 => ?_
  subst hG
  obtain ⟨hx, hb, hml, hown, hts⟩ := hC
  obtain ⟨hd, rfl⟩ := hd
  intro ls H locs hls hP hD hS
  exact lv_ldcw hx hb hown (hts _ (hB _ hc)) hd (kk ls H locs hls hP hD hS)
theorem zr_ldc2 (h : zE own cc nL n G) {k : Nat} (hd : zD cc pc (.ldc2_w k) 3 np) {v : Int64} (hc : Jvm.Cond.constantLong own k v ∈ big) (kk : G np L (.long v :: S) w) : G pc L (S) w := by
  refine h.elim fun p l e R s m args below meth c φ cA D A H0 cells slots Qm Ts hG hC hB hK hA hn1 hn2 hn3 hn4 => ?_
  subst hG
  obtain ⟨hx, hb, hml, hown, hts⟩ := hC
  obtain ⟨hd, rfl⟩ := hd
  intro ls H locs hls hP hD hS
  exact lv_ldc2 hx hb hown (hts _ (hB _ hc)) hd (kk ls H locs hls hP hD hS)
theorem zr_iload_n (h : zE own cc nL n G) {k : Fin 4} (hd : zD cc pc (.iload_n k) 1 np) {x : Int32} (hl : L[k.val]? = some (some (.int x))) (kk : G np L (.int x :: S) w) : G pc L (S) w := by
  refine h.elim fun p l e R s m args below meth c φ cA D A H0 cells slots Qm Ts hG hC hB hK hA hn1 hn2 hn3 hn4 => ?_
  subst hG
  obtain ⟨hx, hb, hml, hown, hts⟩ := hC
  obtain ⟨hd, rfl⟩ := hd
  intro ls H locs hls hP hD hS
  exact lv_iload_n hx hb hd rfl (hls.at hl) (kk ls H locs hls hP hD hS)
theorem zr_iload (h : zE own cc nL n G) {k : Nat} (hd : zD cc pc (.iload k) 2 np) {x : Int32} (hl : L[k]? = some (some (.int x))) (kk : G np L (.int x :: S) w) : G pc L (S) w := by
  refine h.elim fun p l e R s m args below meth c φ cA D A H0 cells slots Qm Ts hG hC hB hK hA hn1 hn2 hn3 hn4 => ?_
  subst hG
  obtain ⟨hx, hb, hml, hown, hts⟩ := hC
  obtain ⟨hd, rfl⟩ := hd
  intro ls H locs hls hP hD hS
  exact lv_iload hx hb hd (hls.at hl) (kk ls H locs hls hP hD hS)
theorem zr_lload_n (h : zE own cc nL n G) {k : Fin 4} (hd : zD cc pc (.lload_n k) 1 np) {x : Int64} (hl : L[k.val]? = some (some (.long x))) (kk : G np L (.long x :: S) w) : G pc L (S) w := by
  refine h.elim fun p l e R s m args below meth c φ cA D A H0 cells slots Qm Ts hG hC hB hK hA hn1 hn2 hn3 hn4 => ?_
  subst hG
  obtain ⟨hx, hb, hml, hown, hts⟩ := hC
  obtain ⟨hd, rfl⟩ := hd
  intro ls H locs hls hP hD hS
  exact lv_lload_n hx hb hd rfl (hls.at hl) (kk ls H locs hls hP hD hS)
theorem zr_lload (h : zE own cc nL n G) {k : Nat} (hd : zD cc pc (.lload k) 2 np) {x : Int64} (hl : L[k]? = some (some (.long x))) (kk : G np L (.long x :: S) w) : G pc L (S) w := by
  refine h.elim fun p l e R s m args below meth c φ cA D A H0 cells slots Qm Ts hG hC hB hK hA hn1 hn2 hn3 hn4 => ?_
  subst hG
  obtain ⟨hx, hb, hml, hown, hts⟩ := hC
  obtain ⟨hd, rfl⟩ := hd
  intro ls H locs hls hP hD hS
  exact lv_lload hx hb hd (hls.at hl) (kk ls H locs hls hP hD hS)
theorem zr_aload_n (h : zE own cc nL n G) {k : Fin 4} (hd : zD cc pc (.aload_n k) 1 np) {x : Nat} (hl : L[k.val]? = some (some (.ref x))) (kk : G np L (.ref x :: S) w) : G pc L (S) w := by
  refine h.elim fun p l e R s m args below meth c φ cA D A H0 cells slots Qm Ts hG hC hB hK hA hn1 hn2 hn3 hn4 => ?_
  subst hG
  obtain ⟨hx, hb, hml, hown, hts⟩ := hC
  obtain ⟨hd, rfl⟩ := hd
  intro ls H locs hls hP hD hS
  exact lv_aload_n hx hb hd rfl (hls.at hl) (kk ls H locs hls hP hD hS)
theorem zr_aload (h : zE own cc nL n G) {k : Nat} (hd : zD cc pc (.aload k) 2 np) {x : Nat} (hl : L[k]? = some (some (.ref x))) (kk : G np L (.ref x :: S) w) : G pc L (S) w := by
  refine h.elim fun p l e R s m args below meth c φ cA D A H0 cells slots Qm Ts hG hC hB hK hA hn1 hn2 hn3 hn4 => ?_
  subst hG
  obtain ⟨hx, hb, hml, hown, hts⟩ := hC
  obtain ⟨hd, rfl⟩ := hd
  intro ls H locs hls hP hD hS
  exact lv_aload hx hb hd (hls.at hl) (kk ls H locs hls hP hD hS)
theorem zr_istore_n (h : zE own cc nL n G) {k : Fin 4} (hd : zD cc pc (.istore_n k) 1 np) {x : Int32} (hi : k.val < nL) (hz : znl L = true) (kk : G np (L.set k.val (some (.int x))) S w) : G pc L (.int x :: S) w := by
  refine h.elim fun p l e R s m args below meth c φ cA D A H0 cells slots Qm Ts hG hC hB hK hA hn1 hn2 hn3 hn4 => ?_
  subst hG
  obtain ⟨hx, hb, hml, hown, hts⟩ := hC
  obtain ⟨hd, rfl⟩ := hd
  intro ls H locs hls hP hD hS
  exact lv_istore_n hx hb hd rfl hls hi rfl (fun ls1 h1 => kk ls1 H locs (zlok.set (v := .int x) hz h1) hP hD hS)
theorem zr_istore (h : zE own cc nL n G) {k : Nat} (hd : zD cc pc (.istore k) 2 np) {x : Int32} (hi : k < nL) (hz : znl L = true) (kk : G np (L.set k (some (.int x))) S w) : G pc L (.int x :: S) w := by
  refine h.elim fun p l e R s m args below meth c φ cA D A H0 cells slots Qm Ts hG hC hB hK hA hn1 hn2 hn3 hn4 => ?_
  subst hG
  obtain ⟨hx, hb, hml, hown, hts⟩ := hC
  obtain ⟨hd, rfl⟩ := hd
  intro ls H locs hls hP hD hS
  exact lv_istore hx hb hd hls hi rfl (fun ls1 h1 => kk ls1 H locs (zlok.set (v := .int x) hz h1) hP hD hS)
theorem zr_astore_n (h : zE own cc nL n G) {k : Fin 4} (hd : zD cc pc (.astore_n k) 1 np) {x : Nat} (hi : k.val < nL) (hz : znl L = true) (kk : G np (L.set k.val (some (.ref x))) S w) : G pc L (.ref x :: S) w := by
  refine h.elim fun p l e R s m args below meth c φ cA D A H0 cells slots Qm Ts hG hC hB hK hA hn1 hn2 hn3 hn4 => ?_
  subst hG
  obtain ⟨hx, hb, hml, hown, hts⟩ := hC
  obtain ⟨hd, rfl⟩ := hd
  intro ls H locs hls hP hD hS
  exact lv_astore_n hx hb hd rfl hls hi rfl (fun ls1 h1 => kk ls1 H locs (zlok.set (v := .ref x) hz h1) hP hD hS)
theorem zr_astore (h : zE own cc nL n G) {k : Nat} (hd : zD cc pc (.astore k) 2 np) {x : Nat} (hi : k < nL) (hz : znl L = true) (kk : G np (L.set k (some (.ref x))) S w) : G pc L (.ref x :: S) w := by
  refine h.elim fun p l e R s m args below meth c φ cA D A H0 cells slots Qm Ts hG hC hB hK hA hn1 hn2 hn3 hn4 => ?_
  subst hG
  obtain ⟨hx, hb, hml, hown, hts⟩ := hC
  obtain ⟨hd, rfl⟩ := hd
  intro ls H locs hls hP hD hS
  exact lv_astore hx hb hd hls hi rfl (fun ls1 h1 => kk ls1 H locs (zlok.set (v := .ref x) hz h1) hP hD hS)
theorem zr_iinc (h : zE own cc nL n G) {k : Nat} {i : Int} (hd : zD cc pc (.iinc k i) 3 np) {x : Int32} (hl : L[k]? = some (some (.int x))) {v : Int32} (hv : x + Int32.ofInt i = v) (hi : k < nL) (hz : znl L = true) (kk : G np (L.set k (some (.int v))) S w) : G pc L (S) w := by
  refine h.elim fun p l e R s m args below meth c φ cA D A H0 cells slots Qm Ts hG hC hB hK hA hn1 hn2 hn3 hn4 => ?_
  subst hG
  obtain ⟨hx, hb, hml, hown, hts⟩ := hC
  obtain ⟨hd, rfl⟩ := hd
  intro ls H locs hls hP hD hS
  obtain ⟨j, hj⟩ := List.getElem?_of_mem ((zas_mem (φ := φ) L 0 (k, .int x)).mpr ⟨k, .int x, hl, by simp [tv]⟩)
  exact lv_iinc hx hb hd hls (k := j) hj hv hi rfl (fun ls1 h1 => kk ls1 H locs (zlok.set (v := .int v) hz h1) hP hD hS)
theorem zr_mask (h : zE own cc nL n G) (ms : List Bool) (kk : G pc (zfm ms L) S w) : G pc L S w := by
  refine h.elim fun p l e R s m args below meth c φ cA D A H0 cells slots Qm Ts hG hC hB hK hA hn1 hn2 hn3 hn4 => ?_
  subst hG
  obtain ⟨hx, hb, hml, hown, hts⟩ := hC
  intro ls H locs hls hP hD hS
  exact kk ls H locs (zlok.sub hls (zfm_sub ms L)) hP hD hS
theorem zr_locals (h : zE own cc nL n G) {L2 : zL} (hs : ∀ (k : Nat) (v : Value), L2[k]? = some (some v) → L[k]? = some (some v)) (kk : G pc L2 S w) : G pc L S w := by
  refine h.elim fun p l e R s m args below meth c φ cA D A H0 cells slots Qm Ts hG hC hB hK hA hn1 hn2 hn3 hn4 => ?_
  subst hG
  obtain ⟨hx, hb, hml, hown, hts⟩ := hC
  intro ls H locs hls hP hD hS
  exact kk ls H locs (zlok.sub hls hs) hP hD hS
theorem zr_iadd (h : zE own cc nL n G) (hd : zD cc pc (.iadd) 1 np) {x y : Int32} (kk : G np L (.int (x + y) :: S) w) : G pc L (.int y :: .int x :: S) w := by
  refine h.elim fun p l e R s m args below meth c φ cA D A H0 cells slots Qm Ts hG hC hB hK hA hn1 hn2 hn3 hn4 => ?_
  subst hG
  obtain ⟨hx, hb, hml, hown, hts⟩ := hC
  obtain ⟨hd, rfl⟩ := hd
  intro ls H locs hls hP hD hS
  exact lv_iadd hx hb hd (kk ls H locs hls hP hD hS)
theorem zr_isub (h : zE own cc nL n G) (hd : zD cc pc (.isub) 1 np) {x y : Int32} (kk : G np L (.int (x - y) :: S) w) : G pc L (.int y :: .int x :: S) w := by
  refine h.elim fun p l e R s m args below meth c φ cA D A H0 cells slots Qm Ts hG hC hB hK hA hn1 hn2 hn3 hn4 => ?_
  subst hG
  obtain ⟨hx, hb, hml, hown, hts⟩ := hC
  obtain ⟨hd, rfl⟩ := hd
  intro ls H locs hls hP hD hS
  exact lv_isub hx hb hd (kk ls H locs hls hP hD hS)
theorem zr_imul (h : zE own cc nL n G) (hd : zD cc pc (.imul) 1 np) {x y : Int32} (kk : G np L (.int (x * y) :: S) w) : G pc L (.int y :: .int x :: S) w := by
  refine h.elim fun p l e R s m args below meth c φ cA D A H0 cells slots Qm Ts hG hC hB hK hA hn1 hn2 hn3 hn4 => ?_
  subst hG
  obtain ⟨hx, hb, hml, hown, hts⟩ := hC
  obtain ⟨hd, rfl⟩ := hd
  intro ls H locs hls hP hD hS
  exact lv_imul hx hb hd (kk ls H locs hls hP hD hS)
theorem zr_iand (h : zE own cc nL n G) (hd : zD cc pc (.iand) 1 np) {x y : Int32} (kk : G np L (.int (x &&& y) :: S) w) : G pc L (.int y :: .int x :: S) w := by
  refine h.elim fun p l e R s m args below meth c φ cA D A H0 cells slots Qm Ts hG hC hB hK hA hn1 hn2 hn3 hn4 => ?_
  subst hG
  obtain ⟨hx, hb, hml, hown, hts⟩ := hC
  obtain ⟨hd, rfl⟩ := hd
  intro ls H locs hls hP hD hS
  exact lv_iand hx hb hd (kk ls H locs hls hP hD hS)
theorem zr_ior (h : zE own cc nL n G) (hd : zD cc pc (.ior) 1 np) {x y : Int32} (kk : G np L (.int (x ||| y) :: S) w) : G pc L (.int y :: .int x :: S) w := by
  refine h.elim fun p l e R s m args below meth c φ cA D A H0 cells slots Qm Ts hG hC hB hK hA hn1 hn2 hn3 hn4 => ?_
  subst hG
  obtain ⟨hx, hb, hml, hown, hts⟩ := hC
  obtain ⟨hd, rfl⟩ := hd
  intro ls H locs hls hP hD hS
  exact lv_ior hx hb hd (kk ls H locs hls hP hD hS)
theorem zr_ixor (h : zE own cc nL n G) (hd : zD cc pc (.ixor) 1 np) {x y : Int32} (kk : G np L (.int (x ^^^ y) :: S) w) : G pc L (.int y :: .int x :: S) w := by
  refine h.elim fun p l e R s m args below meth c φ cA D A H0 cells slots Qm Ts hG hC hB hK hA hn1 hn2 hn3 hn4 => ?_
  subst hG
  obtain ⟨hx, hb, hml, hown, hts⟩ := hC
  obtain ⟨hd, rfl⟩ := hd
  intro ls H locs hls hP hD hS
  exact lv_ixor hx hb hd (kk ls H locs hls hP hD hS)
theorem zr_ishl (h : zE own cc nL n G) (hd : zD cc pc (.ishl) 1 np) {x y : Int32} (kk : G np L (.int (x <<< (y &&& 31)) :: S) w) : G pc L (.int y :: .int x :: S) w := by
  refine h.elim fun p l e R s m args below meth c φ cA D A H0 cells slots Qm Ts hG hC hB hK hA hn1 hn2 hn3 hn4 => ?_
  subst hG
  obtain ⟨hx, hb, hml, hown, hts⟩ := hC
  obtain ⟨hd, rfl⟩ := hd
  intro ls H locs hls hP hD hS
  exact lv_ishl hx hb hd (kk ls H locs hls hP hD hS)
theorem zr_ishr (h : zE own cc nL n G) (hd : zD cc pc (.ishr) 1 np) {x y : Int32} (kk : G np L (.int (x >>> (y &&& 31)) :: S) w) : G pc L (.int y :: .int x :: S) w := by
  refine h.elim fun p l e R s m args below meth c φ cA D A H0 cells slots Qm Ts hG hC hB hK hA hn1 hn2 hn3 hn4 => ?_
  subst hG
  obtain ⟨hx, hb, hml, hown, hts⟩ := hC
  obtain ⟨hd, rfl⟩ := hd
  intro ls H locs hls hP hD hS
  exact lv_ishr hx hb hd (kk ls H locs hls hP hD hS)
theorem zr_iushr (h : zE own cc nL n G) (hd : zD cc pc (.iushr) 1 np) {x y : Int32} (kk : G np L (.int ((x.toUInt32 >>> (y.toUInt32 &&& Int32.toUInt32 31)).toInt32) :: S) w) : G pc L (.int y :: .int x :: S) w := by
  refine h.elim fun p l e R s m args below meth c φ cA D A H0 cells slots Qm Ts hG hC hB hK hA hn1 hn2 hn3 hn4 => ?_
  subst hG
  obtain ⟨hx, hb, hml, hown, hts⟩ := hC
  obtain ⟨hd, rfl⟩ := hd
  intro ls H locs hls hP hD hS
  exact lv_iushr hx hb hd rfl (kk ls H locs hls hP hD hS)
theorem zr_idiv (h : zE own cc nL n G) (hd : zD cc pc (.idiv) 1 np) {x y : Int32} (hne : ¬ y = 0) (kk : G np L (.int (x / y) :: S) w) : G pc L (.int y :: .int x :: S) w := by
  refine h.elim fun p l e R s m args below meth c φ cA D A H0 cells slots Qm Ts hG hC hB hK hA hn1 hn2 hn3 hn4 => ?_
  subst hG
  obtain ⟨hx, hb, hml, hown, hts⟩ := hC
  obtain ⟨hd, rfl⟩ := hd
  intro ls H locs hls hP hD hS
  exact lv_idiv hx hb hd hne (kk ls H locs hls hP hD hS)
theorem zr_irem (h : zE own cc nL n G) (hd : zD cc pc (.irem) 1 np) {x y : Int32} (hne : ¬ y = 0) (kk : G np L (.int (x - x / y * y) :: S) w) : G pc L (.int y :: .int x :: S) w := by
  refine h.elim fun p l e R s m args below meth c φ cA D A H0 cells slots Qm Ts hG hC hB hK hA hn1 hn2 hn3 hn4 => ?_
  subst hG
  obtain ⟨hx, hb, hml, hown, hts⟩ := hC
  obtain ⟨hd, rfl⟩ := hd
  intro ls H locs hls hP hD hS
  exact lv_irem hx hb hd hne (kk ls H locs hls hP hD hS)
theorem zr_ineg (h : zE own cc nL n G) (hd : zD cc pc (.ineg) 1 np) {x : Int32} (kk : G np L (.int (-x) :: S) w) : G pc L (.int x :: S) w := by
  refine h.elim fun p l e R s m args below meth c φ cA D A H0 cells slots Qm Ts hG hC hB hK hA hn1 hn2 hn3 hn4 => ?_
  subst hG
  obtain ⟨hx, hb, hml, hown, hts⟩ := hC
  obtain ⟨hd, rfl⟩ := hd
  intro ls H locs hls hP hD hS
  exact lv_ineg hx hb hd (kk ls H locs hls hP hD hS)
theorem zr_i2l (h : zE own cc nL n G) (hd : zD cc pc (.i2l) 1 np) {x : Int32} (kk : G np L (.long x.toInt64 :: S) w) : G pc L (.int x :: S) w := by
  refine h.elim fun p l e R s m args below meth c φ cA D A H0 cells slots Qm Ts hG hC hB hK hA hn1 hn2 hn3 hn4 => ?_
  subst hG
  obtain ⟨hx, hb, hml, hown, hts⟩ := hC
  obtain ⟨hd, rfl⟩ := hd
  intro ls H locs hls hP hD hS
  exact lv_i2l hx hb hd rfl (kk ls H locs hls hP hD hS)
theorem zr_i2b (h : zE own cc nL n G) (hd : zD cc pc (.i2b) 1 np) {x : Int32} (kk : G np L (.int x.toInt8.toInt32 :: S) w) : G pc L (.int x :: S) w := by
  refine h.elim fun p l e R s m args below meth c φ cA D A H0 cells slots Qm Ts hG hC hB hK hA hn1 hn2 hn3 hn4 => ?_
  subst hG
  obtain ⟨hx, hb, hml, hown, hts⟩ := hC
  obtain ⟨hd, rfl⟩ := hd
  intro ls H locs hls hP hD hS
  exact lv_i2b hx hb hd rfl (kk ls H locs hls hP hD hS)
theorem zr_i2s (h : zE own cc nL n G) (hd : zD cc pc (.i2s) 1 np) {x : Int32} (kk : G np L (.int x.toInt16.toInt32 :: S) w) : G pc L (.int x :: S) w := by
  refine h.elim fun p l e R s m args below meth c φ cA D A H0 cells slots Qm Ts hG hC hB hK hA hn1 hn2 hn3 hn4 => ?_
  subst hG
  obtain ⟨hx, hb, hml, hown, hts⟩ := hC
  obtain ⟨hd, rfl⟩ := hd
  intro ls H locs hls hP hD hS
  exact lv_i2s hx hb hd rfl (kk ls H locs hls hP hD hS)
theorem zr_lcmp (h : zE own cc nL n G) (hd : zD cc pc (.lcmp) 1 np) {x y : Int64} (kk : G np L (.int (lg_cmp x y) :: S) w) : G pc L (.long y :: .long x :: S) w := by
  refine h.elim fun p l e R s m args below meth c φ cA D A H0 cells slots Qm Ts hG hC hB hK hA hn1 hn2 hn3 hn4 => ?_
  subst hG
  obtain ⟨hx, hb, hml, hown, hts⟩ := hC
  obtain ⟨hd, rfl⟩ := hd
  intro ls H locs hls hP hD hS
  exact W.lcmp hx hb hd (kk ls H locs hls hP hD hS)
theorem zr_dup (h : zE own cc nL n G) (hd : zD cc pc (.dup) 1 np) {v : Value} (hv : v.category = 1) (kk : G np L (v :: v :: S) w) : G pc L (v :: S) w := by
  refine h.elim fun p l e R s m args below meth c φ cA D A H0 cells slots Qm Ts hG hC hB hK hA hn1 hn2 hn3 hn4 => ?_
  subst hG
  obtain ⟨hx, hb, hml, hown, hts⟩ := hC
  obtain ⟨hd, rfl⟩ := hd
  intro ls H locs hls hP hD hS
  exact lv_dup hx hb hd (by rw [tv_cat]; exact hv) (kk ls H locs hls hP hD hS)
theorem zr_dup2 (h : zE own cc nL n G) (hd : zD cc pc (.dup2) 1 np) {v u : Value} (hv : v.category = 1) (hu : u.category = 1) (kk : G np L (v :: u :: v :: u :: S) w) : G pc L (v :: u :: S) w := by
  refine h.elim fun p l e R s m args below meth c φ cA D A H0 cells slots Qm Ts hG hC hB hK hA hn1 hn2 hn3 hn4 => ?_
  subst hG
  obtain ⟨hx, hb, hml, hown, hts⟩ := hC
  obtain ⟨hd, rfl⟩ := hd
  intro ls H locs hls hP hD hS
  exact lv_dup2_11 hx hb hd (by rw [tv_cat]; exact hv) (by rw [tv_cat]; exact hu) (kk ls H locs hls hP hD hS)
theorem zr_if_eq (h : zE own cc nL n G) {off : Int} (hd : zD cc pc (.ifCond .eq off) 3 np) {tgt : Nat} {x : Int32} (ht : (pc : Int) + off = (tgt : Int)) (kt : x = 0 → G tgt L S w) (kf : ¬ x = 0 → G np L S w) : G pc L (.int x :: S) w := by
  refine h.elim fun p l e R s m args below meth c φ cA D A H0 cells slots Qm Ts hG hC hB hK hA hn1 hn2 hn3 hn4 => ?_
  subst hG
  obtain ⟨hx, hb, hml, hown, hts⟩ := hC
  obtain ⟨hd, rfl⟩ := hd
  intro ls H locs hls hP hD hS
  exact lv_if_eq hx hb hd ht (fun q => kt q ls H locs hls hP hD hS) (fun q => kf q ls H locs hls hP hD hS)
theorem zr_icmp_eq (h : zE own cc nL n G) {off : Int} (hd : zD cc pc (.if_icmp .eq off) 3 np) {tgt : Nat} {x y : Int32} (ht : (pc : Int) + off = (tgt : Int)) (kt : x = y → G tgt L S w) (kf : ¬ x = y → G np L S w) : G pc L (.int y :: .int x :: S) w := by
  refine h.elim fun p l e R s m args below meth c φ cA D A H0 cells slots Qm Ts hG hC hB hK hA hn1 hn2 hn3 hn4 => ?_
  subst hG
  obtain ⟨hx, hb, hml, hown, hts⟩ := hC
  obtain ⟨hd, rfl⟩ := hd
  intro ls H locs hls hP hD hS
  exact lv_icmp_eq hx hb hd ht (fun q => kt q ls H locs hls hP hD hS) (fun q => kf q ls H locs hls hP hD hS)
theorem zr_if_ne (h : zE own cc nL n G) {off : Int} (hd : zD cc pc (.ifCond .ne off) 3 np) {tgt : Nat} {x : Int32} (ht : (pc : Int) + off = (tgt : Int)) (kt : ¬ x = 0 → G tgt L S w) (kf : x = 0 → G np L S w) : G pc L (.int x :: S) w := by
  refine h.elim fun p l e R s m args below meth c φ cA D A H0 cells slots Qm Ts hG hC hB hK hA hn1 hn2 hn3 hn4 => ?_
  subst hG
  obtain ⟨hx, hb, hml, hown, hts⟩ := hC
  obtain ⟨hd, rfl⟩ := hd
  intro ls H locs hls hP hD hS
  exact lv_if_ne hx hb hd ht (fun q => kt q ls H locs hls hP hD hS) (fun q => kf q ls H locs hls hP hD hS)
theorem zr_icmp_ne (h : zE own cc nL n G) {off : Int} (hd : zD cc pc (.if_icmp .ne off) 3 np) {tgt : Nat} {x y : Int32} (ht : (pc : Int) + off = (tgt : Int)) (kt : ¬ x = y → G tgt L S w) (kf : x = y → G np L S w) : G pc L (.int y :: .int x :: S) w := by
  refine h.elim fun p l e R s m args below meth c φ cA D A H0 cells slots Qm Ts hG hC hB hK hA hn1 hn2 hn3 hn4 => ?_
  subst hG
  obtain ⟨hx, hb, hml, hown, hts⟩ := hC
  obtain ⟨hd, rfl⟩ := hd
  intro ls H locs hls hP hD hS
  exact lv_icmp_ne hx hb hd ht (fun q => kt q ls H locs hls hP hD hS) (fun q => kf q ls H locs hls hP hD hS)
theorem zr_if_lt (h : zE own cc nL n G) {off : Int} (hd : zD cc pc (.ifCond .lt off) 3 np) {tgt : Nat} {x : Int32} (ht : (pc : Int) + off = (tgt : Int)) (kt : x < 0 → G tgt L S w) (kf : ¬ x < 0 → G np L S w) : G pc L (.int x :: S) w := by
  refine h.elim fun p l e R s m args below meth c φ cA D A H0 cells slots Qm Ts hG hC hB hK hA hn1 hn2 hn3 hn4 => ?_
  subst hG
  obtain ⟨hx, hb, hml, hown, hts⟩ := hC
  obtain ⟨hd, rfl⟩ := hd
  intro ls H locs hls hP hD hS
  exact lv_if_lt hx hb hd ht (fun q => kt q ls H locs hls hP hD hS) (fun q => kf q ls H locs hls hP hD hS)
theorem zr_icmp_lt (h : zE own cc nL n G) {off : Int} (hd : zD cc pc (.if_icmp .lt off) 3 np) {tgt : Nat} {x y : Int32} (ht : (pc : Int) + off = (tgt : Int)) (kt : x < y → G tgt L S w) (kf : ¬ x < y → G np L S w) : G pc L (.int y :: .int x :: S) w := by
  refine h.elim fun p l e R s m args below meth c φ cA D A H0 cells slots Qm Ts hG hC hB hK hA hn1 hn2 hn3 hn4 => ?_
  subst hG
  obtain ⟨hx, hb, hml, hown, hts⟩ := hC
  obtain ⟨hd, rfl⟩ := hd
  intro ls H locs hls hP hD hS
  exact lv_icmp_lt hx hb hd ht (fun q => kt q ls H locs hls hP hD hS) (fun q => kf q ls H locs hls hP hD hS)
theorem zr_if_ge (h : zE own cc nL n G) {off : Int} (hd : zD cc pc (.ifCond .ge off) 3 np) {tgt : Nat} {x : Int32} (ht : (pc : Int) + off = (tgt : Int)) (kt : 0 ≤ x → G tgt L S w) (kf : ¬ 0 ≤ x → G np L S w) : G pc L (.int x :: S) w := by
  refine h.elim fun p l e R s m args below meth c φ cA D A H0 cells slots Qm Ts hG hC hB hK hA hn1 hn2 hn3 hn4 => ?_
  subst hG
  obtain ⟨hx, hb, hml, hown, hts⟩ := hC
  obtain ⟨hd, rfl⟩ := hd
  intro ls H locs hls hP hD hS
  exact lv_if_ge hx hb hd ht (fun q => kt q ls H locs hls hP hD hS) (fun q => kf q ls H locs hls hP hD hS)
theorem zr_icmp_ge (h : zE own cc nL n G) {off : Int} (hd : zD cc pc (.if_icmp .ge off) 3 np) {tgt : Nat} {x y : Int32} (ht : (pc : Int) + off = (tgt : Int)) (kt : y ≤ x → G tgt L S w) (kf : ¬ y ≤ x → G np L S w) : G pc L (.int y :: .int x :: S) w := by
  refine h.elim fun p l e R s m args below meth c φ cA D A H0 cells slots Qm Ts hG hC hB hK hA hn1 hn2 hn3 hn4 => ?_
  subst hG
  obtain ⟨hx, hb, hml, hown, hts⟩ := hC
  obtain ⟨hd, rfl⟩ := hd
  intro ls H locs hls hP hD hS
  exact lv_icmp_ge hx hb hd ht (fun q => kt q ls H locs hls hP hD hS) (fun q => kf q ls H locs hls hP hD hS)
theorem zr_if_gt (h : zE own cc nL n G) {off : Int} (hd : zD cc pc (.ifCond .gt off) 3 np) {tgt : Nat} {x : Int32} (ht : (pc : Int) + off = (tgt : Int)) (kt : 0 < x → G tgt L S w) (kf : ¬ 0 < x → G np L S w) : G pc L (.int x :: S) w := by
  refine h.elim fun p l e R s m args below meth c φ cA D A H0 cells slots Qm Ts hG hC hB hK hA hn1 hn2 hn3 hn4 => ?_
  subst hG
  obtain ⟨hx, hb, hml, hown, hts⟩ := hC
  obtain ⟨hd, rfl⟩ := hd
  intro ls H locs hls hP hD hS
  exact lv_if_gt hx hb hd ht (fun q => kt q ls H locs hls hP hD hS) (fun q => kf q ls H locs hls hP hD hS)
theorem zr_icmp_gt (h : zE own cc nL n G) {off : Int} (hd : zD cc pc (.if_icmp .gt off) 3 np) {tgt : Nat} {x y : Int32} (ht : (pc : Int) + off = (tgt : Int)) (kt : y < x → G tgt L S w) (kf : ¬ y < x → G np L S w) : G pc L (.int y :: .int x :: S) w := by
  refine h.elim fun p l e R s m args below meth c φ cA D A H0 cells slots Qm Ts hG hC hB hK hA hn1 hn2 hn3 hn4 => ?_
  subst hG
  obtain ⟨hx, hb, hml, hown, hts⟩ := hC
  obtain ⟨hd, rfl⟩ := hd
  intro ls H locs hls hP hD hS
  exact lv_icmp_gt hx hb hd ht (fun q => kt q ls H locs hls hP hD hS) (fun q => kf q ls H locs hls hP hD hS)
theorem zr_if_le (h : zE own cc nL n G) {off : Int} (hd : zD cc pc (.ifCond .le off) 3 np) {tgt : Nat} {x : Int32} (ht : (pc : Int) + off = (tgt : Int)) (kt : x ≤ 0 → G tgt L S w) (kf : ¬ x ≤ 0 → G np L S w) : G pc L (.int x :: S) w := by
  refine h.elim fun p l e R s m args below meth c φ cA D A H0 cells slots Qm Ts hG hC hB hK hA hn1 hn2 hn3 hn4 => ?_
  subst hG
  obtain ⟨hx, hb, hml, hown, hts⟩ := hC
  obtain ⟨hd, rfl⟩ := hd
  intro ls H locs hls hP hD hS
  exact lv_if_le hx hb hd ht (fun q => kt q ls H locs hls hP hD hS) (fun q => kf q ls H locs hls hP hD hS)
theorem zr_icmp_le (h : zE own cc nL n G) {off : Int} (hd : zD cc pc (.if_icmp .le off) 3 np) {tgt : Nat} {x y : Int32} (ht : (pc : Int) + off = (tgt : Int)) (kt : x ≤ y → G tgt L S w) (kf : ¬ x ≤ y → G np L S w) : G pc L (.int y :: .int x :: S) w := by
  refine h.elim fun p l e R s m args below meth c φ cA D A H0 cells slots Qm Ts hG hC hB hK hA hn1 hn2 hn3 hn4 => ?_
  subst hG
  obtain ⟨hx, hb, hml, hown, hts⟩ := hC
  obtain ⟨hd, rfl⟩ := hd
  intro ls H locs hls hP hD hS
  exact lv_icmp_le hx hb hd ht (fun q => kt q ls H locs hls hP hD hS) (fun q => kf q ls H locs hls hP hD hS)
theorem zr_goto (h : zE own cc nL n G) {off : Int} (hd : zD cc pc (.goto off) 3 np) {tgt : Nat} (ht : (pc : Int) + off = (tgt : Int)) (kk : G tgt L S w) : G pc L S w := by
  refine h.elim fun p l e R s m args below meth c φ cA D A H0 cells slots Qm Ts hG hC hB hK hA hn1 hn2 hn3 hn4 => ?_
  subst hG
  obtain ⟨hx, hb, hml, hown, hts⟩ := hC
  obtain ⟨hd, rfl⟩ := hd
  intro ls H locs hls hP hD hS
  exact lv_goto hx hb hd ht (kk ls H locs hls hP hD hS)
theorem zr_lookup (h : zE own cc nL n G) {dflt : Int} {ps : Array (Int × Int)} {len : Nat} {x : Int32} {off : Int} {tgt : Nat} (hd : zD cc pc (.lookupswitch dflt ps) len np) (hp : (ps.toList.zip (ps.toList.drop 1)).all (fun (a, next) => a.1 < next.1) = true) (ho : Op.lookupswitch.offset ps.toList dflt x.toInt = off) (ht : (pc : Int) + off = (tgt : Int)) (kk : G tgt L S w) : G pc L (.int x :: S) w := by
  refine h.elim fun p l e R s m args below meth c φ cA D A H0 cells slots Qm Ts hG hC hB hK hA hn1 hn2 hn3 hn4 => ?_
  subst hG
  obtain ⟨hx, hb, hml, hown, hts⟩ := hC
  obtain ⟨hd, rfl⟩ := hd
  intro ls H locs hls hP hD hS
  exact lv_lookup hx hb hd hp ho ht (kk ls H locs hls hP hD hS)
theorem zr_tableOut (h : zE own cc nL n G) {dflt lo hi : Int} {offs : Array Int} {len : Nat} {x : Int32} {tgt : Nat} (hd : zD cc pc (.tableswitch dflt lo hi offs) len np) (hx1 : x.toInt < lo ∨ hi < x.toInt) (ht : (pc : Int) + dflt = (tgt : Int)) (kk : G tgt L S w) : G pc L (.int x :: S) w := by
  refine h.elim fun p l e R s m args below meth c φ cA D A H0 cells slots Qm Ts hG hC hB hK hA hn1 hn2 hn3 hn4 => ?_
  subst hG
  obtain ⟨hx, hb, hml, hown, hts⟩ := hC
  obtain ⟨hd, rfl⟩ := hd
  intro ls H locs hls hP hD hS
  exact lv_tableOut hx hb hd hx1 ht (kk ls H locs hls hP hD hS)
theorem zr_tableIn (h : zE own cc nL n G) {dflt lo hi : Int} {offs : Array Int} {len : Nat} {x : Int32} {off : Int} {tgt : Nat} (hd : zD cc pc (.tableswitch dflt lo hi offs) len np) (h1 : ¬ x.toInt < lo) (h2 : ¬ hi < x.toInt) (ho : offs[(x.toInt - lo).toNat]? = some off) (ht : (pc : Int) + off = (tgt : Int)) (kk : G tgt L S w) : G pc L (.int x :: S) w := by
  refine h.elim fun p l e R s m args below meth c φ cA D A H0 cells slots Qm Ts hG hC hB hK hA hn1 hn2 hn3 hn4 => ?_
  subst hG
  obtain ⟨hx, hb, hml, hown, hts⟩ := hC
  obtain ⟨hd, rfl⟩ := hd
  intro ls H locs hls hP hD hS
  exact lv_tableIn hx hb hd h1 h2 ho ht (kk ls H locs hls hP hD hS)
def zF (own : String) (idx ci k : Nat) : Prop := ∃ (C : String) (T : u_T) (N : Nat) (ty0 : Nat → FieldType), vwCl[ci]? = some (C, T, N) ∧ k < N ∧ (∀ w ∈ u_ws C T N, w ∈ big) ∧ (∀ k, k < N → parseFieldDescriptor (T k).2.2.1 = some (ty0 k)) ∧ (∀ a, a < N → ∀ b, b < N → a ≠ b → (T a).2.1 ≠ (T b).2.1) ∧
  (Cond.fieldLink own idx (T k).1 (T k).2.1 (T k).2.2.1 ∈ big ∨ ∃ host, Cond.fieldLinkNest own idx (T k).1 (T k).2.1 (T k).2.2.1 host ∈ nests)
def zFp (own : String) (idx ci k : Nat) (ty : FieldType) : Prop := zF own idx ci k ∧ ∃ q : vw_C, vwCl[ci]? = some q ∧ (q.2.1 k).2.2.2 = false ∧ parseFieldDescriptor (q.2.1 k).2.2.1 = some ty
theorem zr_getI (h : zE own cc nL n G) {idx o ci k : Nat} {fl : List (Option Nat)} (hd : zD cc pc (.getfield idx) 3 np) (hf : zF own idx ci k) (hs : zshapes[o]? = some (zob ci fl)) (hk : fl[k]? = some (none)) (kk : G np L (.int (w o k) :: S) w) : G pc L (.ref o :: S) w := by
  refine h.elim fun p l e R s m args below meth c φ cA D A H0 cells slots Qm Ts hG hC hB hK hA hn1 hn2 hn3 hn4 => ?_
  subst hG
  obtain ⟨hx, hb, hml, hown, hts⟩ := hC
  obtain ⟨hd, rfl⟩ := hd
  intro ls H locs hls hP hD hS
  obtain ⟨C, T, N, ty0, hc, hkN, hin, hty, hnm, hl⟩ := hf
  have hv : (zfs φ w o 0 fl)[k]? = some (tv φ (.int (w o k))) := by rw [zfs_get, hk]; simp [zfv, tv]
  rcases hl with hl | ⟨host, hl⟩
  · exact va_get hx hb hts (fun w hw => hB w (hin w hw)) hown hK.1 hP o (zWS_get hs) hc k hkN (hts _ (hB _ hl)) (fun _ q => q) hv hd (kk ls H locs hls hP hD hS)
  · exact va_getN hx hb hts (fun w hw => hB w (hin w hw)) hown hK.1 hP o (zWS_get hs) hc k hkN (va_Nw.use rfl (hK.2 _ hl)) (fun _ q => q) hv hd (kk ls H locs hls hP hD hS)
theorem zr_getR (h : zE own cc nL n G) {idx o ci k : Nat} {fl : List (Option Nat)} {r : Nat} (hd : zD cc pc (.getfield idx) 3 np) (hf : zF own idx ci k) (hs : zshapes[o]? = some (zob ci fl)) (hk : fl[k]? = some (some r)) (kk : G np L (.ref r :: S) w) : G pc L (.ref o :: S) w := by
  refine h.elim fun p l e R s m args below meth c φ cA D A H0 cells slots Qm Ts hG hC hB hK hA hn1 hn2 hn3 hn4 => ?_
  subst hG
  obtain ⟨hx, hb, hml, hown, hts⟩ := hC
  obtain ⟨hd, rfl⟩ := hd
  intro ls H locs hls hP hD hS
  obtain ⟨C, T, N, ty0, hc, hkN, hin, hty, hnm, hl⟩ := hf
  have hv : (zfs φ w o 0 fl)[k]? = some (tv φ (.ref r)) := by rw [zfs_get, hk]; simp [zfv, tv]
  rcases hl with hl | ⟨host, hl⟩
  · exact va_get hx hb hts (fun w hw => hB w (hin w hw)) hown hK.1 hP o (zWS_get hs) hc k hkN (hts _ (hB _ hl)) (fun _ q => q) hv hd (kk ls H locs hls hP hD hS)
  · exact va_getN hx hb hts (fun w hw => hB w (hin w hw)) hown hK.1 hP o (zWS_get hs) hc k hkN (va_Nw.use rfl (hK.2 _ hl)) (fun _ q => q) hv hd (kk ls H locs hls hP hD hS)
theorem zr_put (h : zE own cc nL n G) {idx o ci k : Nat} {fl : List (Option Nat)} {ty : FieldType} {v : Int32} (hd : zD cc pc (.putfield idx) 3 np) (hf : zFp own idx ci k ty) (hs : zshapes[o]? = some (zob ci fl)) (hk : fl[k]? = some none) (hn : narrow ty (.int v) = .int v) (hfit : fits ty (.int v) = true) (kk : G np L S (wu w o k v)) : G pc L (.int v :: .ref o :: S) w := by
  refine h.elim fun p l e R s m args below meth c φ cA D A H0 cells slots Qm Ts hG hC hB hK hA hn1 hn2 hn3 hn4 => ?_
  subst hG
  obtain ⟨hx, hb, hml, hown, hts⟩ := hC
  obtain ⟨hd, rfl⟩ := hd
  intro ls H locs hls hP hD hS
  obtain ⟨⟨C, T, N, ty0, hc, hkN, hin, hty, hnm, hl⟩, q, hq, hfin, hdesc⟩ := hf
  cases hc.symm.trans hq
  have hkl : k < (zfs φ w o 0 fl).length := by rw [zfs_len]; exact (List.getElem?_eq_some_iff.mp hk).1
  have key : (zWS φ cA w).set o (φ o, .inr (ci, (zfs φ w o 0 fl).set k (.int v))) = zWS φ cA (wu w o k v) := by
    rw [zfs_set φ w o fl k v hk]
    exact zWS_set (φ := φ) (cA := cA) (w := w) (w' := wu w o k v) (sh := zob ci fl) hs (fun p hp => wu_off hp)
  rcases hl with hl | ⟨host, hl⟩
  · exact va_put hx hb hts (fun w hw => hB w (hin w hw)) ty0 hty hnm hown hK.1 hP hD hS o (zWS_get hs) hc k hkN (hts _ (hB _ hl)) (fun _ q => q) hfin hdesc hn hfit hkl hd (fun H1 locs1 hP1 hD1 hS1 => kk ls H1 locs1 hls (key ▸ hP1) (key ▸ hD1) hS1)
  · exact va_putN hx hb hts (fun w hw => hB w (hin w hw)) ty0 hty hnm hown hK.1 hP hD hS o (zWS_get hs) hc k hkN (va_Nw.use rfl (hK.2 _ hl)) (fun _ q => q) hfin hdesc hn hfit hkl hd (fun H1 locs1 hP1 hD1 hS1 => kk ls H1 locs1 hls (key ▸ hP1) (key ▸ hD1) hS1)
theorem zr_iald (h : zE own cc nL n G) {o N : Nat} {i : Int32} (hd : zD cc pc .iaload 1 np) (hs : zshapes[o]? = some (zia N)) (hin : vp_in i N) (kk : G np L (.int (w o i.toNatClampNeg) :: S) w) : G pc L (.int i :: .ref o :: S) w := by
  refine h.elim fun p l e R s m args below meth c φ cA D A H0 cells slots Qm Ts hG hC hB hK hA hn1 hn2 hn3 hn4 => ?_
  subst hG
  obtain ⟨hx, hb, hml, hown, hts⟩ := hC
  obtain ⟨hd, rfl⟩ := hd
  intro ls H locs hls hP hD hS
  exact va_iald hx hb hK.1 hP o 0 (zWS_get hs) rfl hin hd (kk ls H locs hls hP hD hS)
theorem zr_iast (h : zE own cc nL n G) {o N : Nat} {i x : Int32} (hd : zD cc pc .iastore 1 np) (hs : zshapes[o]? = some (zia N)) (hin : vp_in i N) (kk : G np L S (wu w o i.toNatClampNeg x)) : G pc L (.int x :: .int i :: .ref o :: S) w := by
  refine h.elim fun p l e R s m args below meth c φ cA D A H0 cells slots Qm Ts hG hC hB hK hA hn1 hn2 hn3 hn4 => ?_
  subst hG
  obtain ⟨hx, hb, hml, hown, hts⟩ := hC
  obtain ⟨hd, rfl⟩ := hd
  intro ls H locs hls hP hD hS
  have key : (zWS φ cA w).set o (φ o, .inl (cA 0, N, .inl (upd (w o) i.toNatClampNeg x))) = zWS φ cA (wu w o i.toNatClampNeg x) := by
    have e : upd (w o) i.toNatClampNeg x = wu w o i.toNatClampNeg x o := by funext b; simp [upd, wu]
    rw [e]
    exact zWS_set (φ := φ) (cA := cA) (w := w) (w' := wu w o i.toNatClampNeg x) (sh := zia N) hs (fun p hp => wu_off hp)
  exact va_iast hx hb hK.1 hP hD hS o 0 (zWS_get hs) rfl hin hd (fun H1 locs1 hP1 hD1 hS1 => kk ls H1 locs1 hls (key ▸ hP1) (key ▸ hD1) hS1)
theorem zr_aald (h : zE own cc nL n G) {o t r : Nat} {l0 : List Nat} {i : Int32} (hd : zD cc pc .aaload 1 np) (hs : zshapes[o]? = some (zra t l0)) (ht : t = 1 ∨ t = 2) (hin : vp_in i l0.length) (hr : l0[i.toNatClampNeg]? = some r) (kk : G np L (.ref r :: S) w) : G pc L (.int i :: .ref o :: S) w := by
  refine h.elim fun p l e R s m args below meth c φ cA D A H0 cells slots Qm Ts hG hC hB hK hA hn1 hn2 hn3 hn4 => ?_
  subst hG
  obtain ⟨hx, hb, hml, hown, hts⟩ := hC
  obtain ⟨hd, rfl⟩ := hd
  intro ls H locs hls hP hD hS
  have kk2 := kk ls H locs hls hP hD hS
  have e : va_rf ((fun k => (l0[k]?).map φ) i.toNatClampNeg) = tv φ (.ref r) := by simp [hr, va_rf, tv]
  rcases ht with rfl | rfl
  · exact va_aldq (f := fun k => (l0[k]?).map φ) hx hb hK.1 hP o 1 (zWS_get hs) rfl hin hd (by rw [e]; exact kk2)
  · exact va_aldq (f := fun k => (l0[k]?).map φ) hx hb hK.1 hP o 2 (zWS_get hs) rfl hin hd (by rw [e]; exact kk2)
end ZRows
end
section
/-! Contracts over the fixed world, and calls. -/
/-- a method: its name, code, locals, what it returns -/
abbrev zM : Type := MethodName × ByteArray × Nat × Option FieldType
def zws (M : zM) : List Cond := Cond.code M.1 M.2.1 M.2.2.1 M.2.2.2 :: big
def zrm (n : Nat) : Room := { frames := n, cells := 0, slots := 0, locals := 60 * n }
def zA (φ : Nat → Nat) (sz : Nat) : Nat → Prop := fun q => (∃ o, o < zshapes.length ∧ q = φ o) ∨ sz ≤ q
def zB (φ : Nat → Nat) (cA : Nat → ClassId) (D : va_G) (w : ww) (sz : Nat) : State → Prop := fun U => U.heap.size = sz ∧ va_P D vwCl (zWS φ cA w) U.heap ∧ zK D cA U ∧ va_D (fun _ => True) (zWS φ cA w)
def zQc (φ : Nat → Nat) (cA : Nat → ClassId) (D : va_G) (A : Nat → Prop) (Q : Option Value → ww → Prop) : Array Value → State → Outcome → State → Prop := fun _ st oc t =>
  (∃ (r : Option Value) (w : ww), oc = .returned (r.map (tv φ)) ∧ Q r w ∧ va_P D vwCl (zWS φ cA w) t.heap ∧ va_D A (zWS φ cA w)) ∧ va_F A st t
def Ct (M : zM) (n : Nat) (av : List Value) (w : ww) (Q : Option Value → ww → Prop) : Prop := ∀ (l : Launch) (φ : Nat → Nat) (cA : Nat → ClassId) (D : va_G) (sz : Nat),
  Met l M.1 (zws M) (zrm n) (va_Pc (av.map (tv φ)) (zB φ cA D w sz)) (zQc φ cA D (zA φ sz) Q) 0 0 (zA φ sz)
def zel : List Value → zL
  | [] => []
  | v :: l => match v with
    | .long x => some (.long x) :: none :: zel l
    | .double x => some (.double x) :: none :: zel l
    | v => some v :: zel l
def zpad : Nat → zL → zL
  | 0, _ => []
  | n + 1, [] => none :: zpad n []
  | n + 1, a :: l => a :: zpad n l
theorem zpad_sub : ∀ (n : Nat) (L : zL) (k : Nat) (v : Value), (zpad n L)[k]? = some (some v) → L[k]? = some (some v)
  | 0, L, k, v, h => by simp [zpad] at h
  | n + 1, [], 0, v, h => by simp [zpad] at h
  | n + 1, [], k + 1, v, h => by
    have := zpad_sub n [] k v (by simpa [zpad] using h)
    simp at this
  | n + 1, a :: l, 0, v, h => by simpa [zpad] using h
  | n + 1, a :: l, k + 1, v, h => by
    simpa using zpad_sub n l k v (by simpa [zpad] using h)
theorem zel_mem (φ : Nat → Nat) : ∀ (vs : List Value) (j : Nat), ∀ q ∈ zas φ j (zel vs), q ∈ lv_args j (vs.map (tv φ))
  | [], j, q, h => by simp [zel, zas] at h
  | v :: l, j, q, h => by
    cases v with
    | long x =>
      simp only [zel, zas, List.mem_cons] at h
      rcases h with rfl | h
      · simp [lv_args]
      · have := zel_mem φ l (j + 1 + 1) q h
        simp [lv_args, tv, Value.category] at this ⊢
        exact Or.inr this
    | double x =>
      simp only [zel, zas, List.mem_cons] at h
      rcases h with rfl | h
      · simp [lv_args]
      · have := zel_mem φ l (j + 1 + 1) q h
        simp [lv_args, tv, Value.category] at this ⊢
        exact Or.inr this
    | int x =>
      simp only [zel, zas, List.mem_cons] at h
      rcases h with rfl | h
      · simp [lv_args]
      · have := zel_mem φ l (j + 1) q h
        simp [lv_args, tv, Value.category] at this ⊢
        exact Or.inr this
    | float x =>
      simp only [zel, zas, List.mem_cons] at h
      rcases h with rfl | h
      · simp [lv_args]
      · have := zel_mem φ l (j + 1) q h
        simp [lv_args, tv, Value.category] at this ⊢
        exact Or.inr this
    | null =>
      simp only [zel, zas, List.mem_cons] at h
      rcases h with rfl | h
      · simp [lv_args]
      · have := zel_mem φ l (j + 1) q h
        simp [lv_args, tv, Value.category] at this ⊢
        exact Or.inr this
    | ref x =>
      simp only [zel, zas, List.mem_cons] at h
      rcases h with rfl | h
      · simp [lv_args]
      · have := zel_mem φ l (j + 1) q h
        simp [lv_args, tv, Value.category] at this ⊢
        exact Or.inr this
    | retAddr x =>
      simp only [zel, zas, List.mem_cons] at h
      rcases h with rfl | h
      · simp [lv_args]
      · have := zel_mem φ l (j + 1) q h
        simp [lv_args, tv, Value.category] at this ⊢
        exact Or.inr this
theorem zA_big {φ : Nat → Nat} {cA : Nat → ClassId} {w : ww} {sz : Nat} {B : Nat → Prop} (hD : va_D B (zWS φ cA w)) : va_D (zA φ sz) (zWS φ cA w) := by
  refine ⟨hD.1, fun k q hk => Or.inl ⟨k, ?_, ?_⟩⟩
  · have := (List.getElem?_eq_some_iff.mp hk).1
    simpa [zWS] using this
  · simp only [zWS, List.getElem?_mapIdx, Option.map_eq_some_iff] at hk
    obtain ⟨a, -, rfl⟩ := hk
    rfl
set_option maxHeartbeats 2000000 in
/-- a contract out of a walk of its body -/
theorem Ct.of {M : zM} {n : Nat} {av : List Value} {w : ww} {Q : Option Value → ww → Prop} (hp : plainName M.1.cls = true) (hlen : (zel av).length ≤ M.2.2.1) (hfit : ∀ φ : Nat → Nat, (lg_sl (av.map (tv φ))).length ≤ M.2.2.1)
    (body : ∀ G : zG, zR M.1.cls M.2.1 M.2.2.1 n M.2.2.2 Q G → G 0 (zpad M.2.2.1 (zel av)) [] w) : Ct M n av w Q := by
  intro l φ cA D sz
  refine Met.ofW (cc := M.2.1) (maxL := M.2.2.1) (ret := M.2.2.2) hp rfl ?_
  intro p e s m args below meth c s₁ B hml hv
  obtain ⟨rfl, rfl, hP, hK, hD0⟩ := hv
  have hx := B.exec
  have hb := B.bytes
  have hr := B.returns
  have hts := atoms_spec (ws := zws M) B.pre
  have hown : s.vm.findClass M.1.cls = some m.cls := findClass_of_methodNamed B.named
  have hlocks := B.notSynchronized
  have hD := zA_big (sz := s.heap.size) hD0
  rw [lg_entry_eq]
  have hl := lv_entry (av.map (tv φ)) (n := M.2.2.1) (hfit φ)
  have hls : zlok φ ((lg_sl (av.map (tv φ)) ++ List.replicate (M.2.2.1 - (lg_sl (av.map (tv φ))).length) Slot.unset).toArray) M.2.2.1 (zel av) :=
    ⟨hl.1, hl.2.1, fun q hq => hl.2.2 q (zel_mem φ av 0 q hq)⟩
  have hls := zlok.sub hls (zpad_sub M.2.2.1 (zel av))
  refine body (zV p l e (headSpec (zws M) (zrm n)).room s m (av.map (tv φ)).toArray below meth c M.2.2.1 φ cA D (zA φ s.heap.size) s.heap 0 0 (MQ below (zQc φ cA D (zA φ s.heap.size) Q) (av.map (tv φ)).toArray s 0 0 (zA φ s.heap.size))) ⟨⟨p, l, e, (headSpec (zws M) (zrm n)).room, s, m, (av.map (tv φ)).toArray, below, meth, c, φ, cA, D, zA φ s.heap.size, s.heap, 0, 0, _, zws M, rfl, ⟨hx, hb, hml, hown, hts⟩, fun w hw => List.mem_cons_of_mem _ hw, hK, fun q h => Or.inr h, Nat.le_refl _, Nat.le_refl _, Nat.zero_le _, Nat.zero_le _⟩, ?_, ?_, ?_⟩ _ s.heap [] hls hP hD va_S.rf
  · intro ty v pc L w np hd hret hn hQ ls H locs hls hP hD hS
    exact W.zret hx hb (hr.trans hret) hn (fun t ht hW => ⟨⟨some (.int v), w, rfl, hQ, by rw [ht]; exact hP, hD⟩, hS.F ht⟩) hS.2.2 hd.1
  · intro v pc L w np hd hret hQ ls H locs hls hP hD hS
    exact W.lret hx hb (hr.trans hret) (fun t ht hW => ⟨⟨some (.long v), w, rfl, hQ, by rw [ht]; exact hP, hD⟩, hS.F ht⟩) hS.2.2 hd.1
  · intro pc L w np hd hret hQ ls H locs hls hP hD hS
    exact W.vret hx hb (hr.trans hret) (fun t ht hW => ⟨⟨none, w, rfl, hQ, by rw [ht]; exact hP, hD⟩, hS.F ht⟩) hS.2.2 hd.1
def zpush : Option Value → List Value → List Value
  | none, S => S
  | some v, S => v :: S
theorem zpush_map (φ : Nat → Nat) (r : Option Value) (S : List Value) : (r.map (tv φ)).toList ++ S.map (tv φ) = (zpush r S).map (tv φ) := by cases r <;> simp [zpush]
def zcat (S : List Value) : Nat := (S.map fun v => v.category).sum
theorem zcat_tv (φ : Nat → Nat) (S : List Value) : ((S.map (tv φ)).map fun v => v.category).sum = zcat S := by
  unfold zcat
  rw [List.map_map]
  congr 1
  exact List.map_congr_left (fun v _ => tv_cat φ v)
section ZCalls
variable {p : Program} {l : Launch} {e : Env} {R : Room} {s : State} {m : MethodId} {args : Array Value} {below : List Frame} {meth : Method} {c : Code} {φ : Nat → Nat} {cA : Nat → ClassId} {D : va_G} {A : Nat → Prop} {H0 : Heap} {cells slots : Nat} {Qm : State → Prop}
theorem zA_in {w : ww} {H : Heap} {locs : List Loc} (hD : va_D A (zWS φ cA w)) (hS : va_S A H0 H locs) (hA : ∀ q, H0.size ≤ q → A q) : ∀ q, zA φ H.size q → A q := by
  intro q hq
  rcases hq with ⟨o, ho, rfl⟩ | hq
  · obtain ⟨sh, hsh⟩ : ∃ sh, zshapes[o]? = some sh := ⟨_, List.getElem?_eq_getElem ho⟩
    exact hD.2 o _ (zWS_get hsh)
  · exact hA q (Nat.le_trans hS.1 hq)
/-- behind a call -/
theorem z_behind {nL pc : Nat} {L : zL} {ls : Array Slot} {H : Heap} {locs : List Loc} {S st0 : List Value} {a : Array Value} {w : ww} {Q : Option Value → ww → Prop}
    (hr : va_Run p l e R s m args below meth c H locs cells slots 0 0 (F0 m pc ls st0) (S.map (tv φ)) (zQc φ cA D (zA φ H.size) Q a) (zA φ H.size)) (hls : zlok φ ls nL L) (hD : va_D A (zWS φ cA w)) (hS : va_S A H0 H locs) (hA : ∀ q, H0.size ≤ q → A q)
    (kk : ∀ r w', Q r w' → zV p l e R s m args below meth c nL φ cA D A H0 cells slots Qm (pc + 3) L (zpush r S) w') : W p l e R s m args below meth c H locs cells slots Qm (F0 m pc ls st0) := by
  have hin := zA_in hD hS hA
  intro T hT X
  obtain ⟨v, st₀, t, T', L2, h0, X', hL, e1, e2, ⟨⟨r, w', hv, hq, hP1, hD1⟩, hz, hk⟩, st⟩ := hr T hT X
  have hv : v = r.map (tv φ) := by cases hv; rfl
  subst hv
  rw [h0] at hz hk
  obtain ⟨t2, a1, b1⟩ := kk r w' hq ls T'.heap (locs ++ L2) hls (by rw [e1]; exact hP1) (hD1.weaken (fun k q _ h => hin q.1 h))
    ⟨Nat.le_trans hS.1 (by rw [e1]; exact hz), fun q h1 h2 => by rw [e1, hk q (Nat.lt_of_lt_of_le h1 hS.1) (fun z => h2 (hin q z))]; exact hS.2.1 q h1 h2, fun q hq => by
      rcases List.mem_append.mp hq with h | h
      · exact hS.2.2 q h
      · exact hin _ (hL q h)⟩ T' rfl X'
  refine ⟨t2, st t2 ?_, b1⟩
  rw [zpush_map]
  exact a1
end ZCalls
/-- what a call of M, by the pool's place idx of class own, asks of the tables; k: how many arguments -/
def zLn (own : String) (idx : Nat) (M : zM) (k : Nat) : Prop := (Cond.methodLink own idx M.1 ∈ big ∨ ∃ host, Cond.methodLinkNest own idx M.1 host ∈ nests) ∧ Cond.code M.1 M.2.1 M.2.2.1 M.2.2.2 ∈ big ∧ Cond.initialized M.1.cls ∈ big ∧ (M.1.cls ≠ "java/lang/invoke/MethodHandle" ∧ M.1.cls ≠ "java/lang/invoke/VarHandle" ∧ (parseMethodDescriptor M.1.desc).map (fun d => d.parameters.length) = some k) ∧ M.2.2.1 ≤ 30
def zLv (own : String) (idx : Nat) (M : zM) (k : Nat) : Prop := zLn own idx M k ∧ Cond.instanceMethod M.1 ∈ big ∧ Cond.selects M.1.cls M.1 M.1 ∈ big
def zLs (own : String) (idx : Nat) (M : zM) (k : Nat) : Prop := zLn own idx M k ∧ Cond.static M.1 ∈ big
theorem big_good {w : Cond} (h : w ∈ big) : (w.onTables && w.keeps) = true ∨ ∃ ty, w = .arrayClass ty := good_of_word (List.mem_filter.mp h).2
theorem zws_good {M : zM} {Ts : List Cond} (hB : ∀ w ∈ big, w ∈ Ts) (hc : Cond.code M.1 M.2.1 M.2.2.1 M.2.2.2 ∈ big) : GoodIn Ts (zws M) := by
  intro w hw
  rcases List.mem_cons.mp hw with rfl | hw
  · exact ⟨hB _ hc, big_good hc⟩
  · exact ⟨hB _ hw, big_good hw⟩
theorem z_blind {φ : Nat → Nat} {cA : Nat → ClassId} {D : va_G} {w : ww} {sz : Nat} {av : List Value} : FrameBlind (va_Pc av (zB φ cA D w sz)) := by
  intro a U g mk q
  obtain ⟨q0, q1, qP, qK, qD⟩ := q
  exact ⟨q0, q1, qP, zK.same (u := U) (U := U.calling g mk a) rfl qK, qD⟩
section ZCallRows
variable {own : String} {cc : ByteArray} {nL n : Nat} {G : zG} {pc np : Nat} {L : zL} {S : List Value} {w : ww}
set_option maxHeartbeats 2000000 in
theorem zr_callV (h : zE own cc nL n G) {idx k j o ci : Nat} {fl : List (Option Nat)} {q : vw_C} {M : zM} {As : List Value} (hd : zD cc pc (.invokevirtual idx) 3 np) (hl : zLv own idx M j) (hs : zshapes[o]? = some (zob ci fl)) (hq : vwCl[ci]? = some q) (hqc : q.1 = M.1.cls) (hn : k + 1 ≤ n) (hlen : As.length = j) (hcat : zcat S ≤ 8)
    (hc : Ct M k (.ref o :: As) w (fun r w' => G np L (zpush r S) w')) : G pc L (As.reverse ++ .ref o :: S) w := by
  refine h.elim fun p l e R s m args below meth c φ cA D A H0 cells slots Qm Ts hG hC hB hK hA hn1 hn2 hn3 hn4 => ?_
  subst hG
  obtain ⟨hd, rfl⟩ := hd
  intro ls H locs hls hP hD hS
  have hC' := hC
  obtain ⟨hx, hb, hml, hown, hts⟩ := hC'
  obtain ⟨⟨hlk, hcode, hini, ⟨hm1, hm2, hpar⟩, h30⟩, hinst, hsel⟩ := hl
  have hM := hc l φ cA D H.size
  have hMeq : M.1 = ⟨M.1.cls, M.1.name, M.1.desc⟩ := rfl
  have hPre : PreV s H M.1.cls (φ o) (va_Pc ((Value.ref o :: As).map (tv φ)) (zB φ cA D w H.size)) (As.map (tv φ)) :=
    ⟨z_blind, by have := va_recv hK.1 hP hq (zWS_get hs); rw [hqc] at this; exact this, fun U hU hW => ⟨by simp [tv], by rw [hU], by rw [hU]; exact hP, hK.warm hW, hD.weaken (fun _ _ _ _ => trivial)⟩⟩
  have hR1 : (zrm k).frames + 1 ≤ R.frames := Nat.le_trans hn hn1
  have hR2 : 8 + (M.2.2.1 + 11) + (zrm k).locals ≤ R.locals := by show 8 + (M.2.2.1 + 11) + 60 * k ≤ R.locals; omega
  have hst : ((As.reverse ++ .ref o :: S).map (tv φ)) = (As.map (tv φ)).reverse ++ .ref (φ o) :: S.map (tv φ) := by simp [tv]
  rw [hst]
  have hcat' : 2 * (F0 m pc ls ((As.map (tv φ)).reverse ++ .ref (φ o) :: S.map (tv φ))).monitorRoom + ((S.map (tv φ)).map fun v => v.category).sum ≤ 8 := lv_room (by rw [zcat_tv]; exact hcat)
  rcases hlk with hlk | ⟨host, hlk⟩
  · have cw : CallW R s args own M.1.cls idx M.1 M.2.1 M.2.2.1 M.2.2.2 (zws M) (zrm k) 0 0 j :=
      ⟨callB_of j hts (zws_good hB hcode) rfl rfl rfl (hts _ (hB _ hini)) (hts _ (hB _ hlk)) ⟨hm1, hm2, hpar⟩ ⟨hR1, hR2⟩, hts _ (hB _ hinst), hts _ (hB _ hsel)⟩
    exact z_behind (va_runV hC hM cw hPre rfl (by simpa using hlen) hls.1 rfl hcat' hd ⟨hn3, hn4⟩) hls hD hS hA (fun r w' hq => hq)
  · have cw : va_CN R s args own idx M.1 host M.2.1 M.2.2.1 M.2.2.2 (zws M) (zrm k) 0 0 j ∧ (Cond.instanceMethod M.1).before args s = true ∧ (Cond.selects M.1.cls M.1 M.1).before args s = true :=
      ⟨va_cnB j hts (zws_good hB hcode) rfl rfl rfl (hK.2 _ hlk) (hts _ (hB _ hini)) ⟨hm1, hm2, hpar⟩ ⟨hR1, hR2⟩, hts _ (hB _ hinst), hts _ (hB _ hsel)⟩
    exact z_behind (va_runVN hC hM cw hPre rfl (by simpa using hlen) hls.1 rfl hcat' hd ⟨hn3, hn4⟩) hls hD hS hA (fun r w' hq => hq)
set_option maxHeartbeats 2000000 in
theorem zr_callS (h : zE own cc nL n G) {idx k j : Nat} {M : zM} {As : List Value} (hd : zD cc pc (.invokestatic idx) 3 np) (hl : zLs own idx M j) (hn : k + 1 ≤ n) (hlen : As.length = j) (hcat : zcat S ≤ 8)
    (hc : Ct M k As w (fun r w' => G np L (zpush r S) w')) : G pc L (As.reverse ++ S) w := by
  refine h.elim fun p l e R s m args below meth c φ cA D A H0 cells slots Qm Ts hG hC hB hK hA hn1 hn2 hn3 hn4 => ?_
  subst hG
  obtain ⟨hd, rfl⟩ := hd
  intro ls H locs hls hP hD hS
  have hC' := hC
  obtain ⟨hx, hb, hml, hown, hts⟩ := hC'
  obtain ⟨⟨hlk, hcode, hini, ⟨hm1, hm2, hpar⟩, h30⟩, hstat⟩ := hl
  have hM := hc l φ cA D H.size
  have hPre : PreS s H (va_Pc (As.map (tv φ)) (zB φ cA D w H.size)) (As.map (tv φ)) :=
    ⟨z_blind, fun U hU hW => ⟨rfl, by rw [hU], by rw [hU]; exact hP, hK.warm hW, hD.weaken (fun _ _ _ _ => trivial)⟩⟩
  have hR1 : (zrm k).frames + 1 ≤ R.frames := Nat.le_trans hn hn1
  have hR2 : 8 + (M.2.2.1 + 11) + (zrm k).locals ≤ R.locals := by show 8 + (M.2.2.1 + 11) + 60 * k ≤ R.locals; omega
  have hst : ((As.reverse ++ S).map (tv φ)) = (As.map (tv φ)).reverse ++ S.map (tv φ) := by simp
  rw [hst]
  have hcat' : 2 * (F0 m pc ls ((As.map (tv φ)).reverse ++ S.map (tv φ))).monitorRoom + ((S.map (tv φ)).map fun v => v.category).sum ≤ 8 := lv_room (by rw [zcat_tv]; exact hcat)
  rcases hlk with hlk | ⟨host, hlk⟩
  · have cw : CallB R s args own idx M.1 M.2.1 M.2.2.1 M.2.2.2 (zws M) (zrm k) 0 0 j ∧ (Cond.static M.1).before args s = true :=
      ⟨callB_of j hts (zws_good hB hcode) rfl rfl rfl (hts _ (hB _ hini)) (hts _ (hB _ hlk)) ⟨hm1, hm2, hpar⟩ ⟨hR1, hR2⟩, hts _ (hB _ hstat)⟩
    exact z_behind (va_runS hC hM cw hPre rfl (by simpa using hlen) hls.1 rfl hcat' hd ⟨hn3, hn4⟩) hls hD hS hA (fun r w' hq => hq)
  · have cw : va_CN R s args own idx M.1 host M.2.1 M.2.2.1 M.2.2.2 (zws M) (zrm k) 0 0 j ∧ (Cond.static M.1).before args s = true ∧ True :=
      ⟨va_cnB j hts (zws_good hB hcode) rfl rfl rfl (hK.2 _ hlk) (hts _ (hB _ hini)) ⟨hm1, hm2, hpar⟩ ⟨hR1, hR2⟩, hts _ (hB _ hstat), trivial⟩
    exact z_behind (va_runSN hC hM cw hPre rfl (by simpa using hlen) hls.1 rfl hcat' hd ⟨hn3, hn4⟩) hls hD hS hA (fun r w' hq => hq)
end ZCallRows
end
section
/-! Calls of overridden methods by a superclass's name, and calls of super. -/
def zLu (own : String) (idx : Nat) (x : MethodName) (C : String) (M : zM) (k : Nat) : Prop := Cond.methodLink own idx x ∈ big ∧ Cond.sameMethod x.cls x.cls x.name x.desc ∈ big ∧ Cond.instanceMethod x ∈ big ∧ (∃ b m r, Cond.code x b m r ∈ big) ∧ Cond.selects C x M.1 ∈ big ∧ Cond.instanceMethod M.1 ∈ big ∧ Cond.initialized M.1.cls ∈ big ∧ Cond.code M.1 M.2.1 M.2.2.1 M.2.2.2 ∈ big ∧ (x.cls ≠ "java/lang/invoke/MethodHandle" ∧ x.cls ≠ "java/lang/invoke/VarHandle") ∧ (parseMethodDescriptor x.desc).map (fun d => d.parameters.length) = some k ∧ M.2.2.1 ≤ 30
def zLp (own : String) (idx : Nat) (x : MethodName) (M : zM) (k : Nat) : Prop := Cond.methodLink own idx x ∈ big ∧ Cond.sameMethod x.cls M.1.cls x.name x.desc ∈ big ∧ Cond.superclass own x.cls ∈ big ∧ (x.cls = M.1.cls ∨ Cond.superclass x.cls M.1.cls ∈ big) ∧ M.1.name = x.name ∧ M.1.desc = x.desc ∧ Cond.instanceMethod M.1 ∈ big ∧ Cond.initialized M.1.cls ∈ big ∧ Cond.code M.1 M.2.1 M.2.2.1 M.2.2.2 ∈ big ∧ x.name ≠ "<init>" ∧ (parseMethodDescriptor M.1.desc).map (fun d => d.parameters.length) = some k ∧ M.2.2.1 ≤ 30
section ZSup
variable {own : String} {cc : ByteArray} {nL n : Nat} {G : zG} {pc np : Nat} {L : zL} {S : List Value} {w : ww}
set_option maxHeartbeats 2000000 in
theorem zr_callU (h : zE own cc nL n G) {idx k j o ci : Nat} {fl : List (Option Nat)} {q : vw_C} {M : zM} {As : List Value} {x : MethodName} (hd : zD cc pc (.invokevirtual idx) 3 np) (hl : zLu own idx x q.1 M j) (hs : zshapes[o]? = some (zob ci fl)) (hq : vwCl[ci]? = some q) (hn : k + 1 ≤ n) (hlen : As.length = j) (hcat : zcat S ≤ 8)
    (hc : Ct M k (.ref o :: As) w (fun r w' => G np L (zpush r S) w')) : G pc L (As.reverse ++ .ref o :: S) w := by
  refine h.elim fun p l e R s m args below meth c φ cA D A H0 cells slots Qm Ts hG hC hB hK hA hn1 hn2 hn3 hn4 => ?_
  subst hG
  obtain ⟨hd, rfl⟩ := hd
  intro ls H locs hls hP hD hS
  have hC' := hC
  obtain ⟨hx, hb, hml, hown, hts⟩ := hC'
  obtain ⟨hlk, hsame, hinx, ⟨b0, m0, r0, hcx⟩, hsel, hinst, hini, hcode, hmh, hpar, h30⟩ := hl
  have hM := hc l φ cA D H.size
  have hPre : PreV s H q.1 (φ o) (va_Pc ((Value.ref o :: As).map (tv φ)) (zB φ cA D w H.size)) (As.map (tv φ)) :=
    ⟨z_blind, va_recv hK.1 hP hq (zWS_get hs), fun U hU hW => ⟨by simp [tv], by rw [hU], by rw [hU]; exact hP, hK.warm hW, hD.weaken (fun _ _ _ _ => trivial)⟩⟩
  have hR1 : (zrm k).frames + 1 ≤ R.frames := Nat.le_trans hn hn1
  have hR2 : 8 + (M.2.2.1 + 11) + (zrm k).locals ≤ R.locals := by show 8 + (M.2.2.1 + 11) + 60 * k ≤ R.locals; omega
  have hst : ((As.reverse ++ .ref o :: S).map (tv φ)) = (As.map (tv φ)).reverse ++ .ref (φ o) :: S.map (tv φ) := by simp [tv]
  rw [hst]
  have hcat' : 2 * (F0 m pc ls ((As.map (tv φ)).reverse ++ .ref (φ o) :: S.map (tv φ))).monitorRoom + ((S.map (tv φ)).map fun v => v.category).sum ≤ 8 := lv_room (by rw [zcat_tv]; exact hcat)
  have hws := zws_good hB hcode
  have cw : va_CU R s args own q.1 x.cls idx x M.1 M.2.1 M.2.2.1 M.2.2.2 (zws M) (zrm k) 0 0 j := by
    refine ⟨⟨rfl, rfl, hR1, hR2, pay_in hts hws, List.mem_cons_self⟩, hts _ (hB _ hcode), hts _ (hB _ hini), hmh, fun sig h => ?_, hts _ (hB _ hlk), hts _ (hB _ hsame), va_Decl.of (hts _ (hB _ hinx)) (hts _ (hB _ hcx)), hts _ (hB _ hsel), hts _ (hB _ hinst)⟩
    rw [h] at hpar
    exact (Option.some.inj hpar).symm
  exact z_behind (va_runU hC hM cw hPre rfl (by simpa using hlen) hls.1 rfl hcat' hd ⟨hn3, hn4⟩) hls hD hS hA (fun r w' hq => hq)
theorem zsub1 {vm : Vm} {a b : ClassId} {k : Class} (hk : vm.classes[a]? = some k) (hsup : k.super = some b) : vm.isSubclass a b = true := by
  have hs : 1 ≤ vm.classes.size := by
    have := (Array.getElem?_eq_some_iff.mp hk).1
    omega
  obtain ⟨z, hz⟩ : ∃ z, vm.classes.size = z + 1 := ⟨vm.classes.size - 1, by omega⟩
  simp only [Vm.isSubclass, hz]
  simp [Vm.isSubclassAux, hk, hsup]
set_option maxHeartbeats 2000000 in
theorem zr_callP (h : zE own cc nL n G) {idx k j o ci : Nat} {fl : List (Option Nat)} {q : vw_C} {M : zM} {As : List Value} {x : MethodName} (hd : zD cc pc (.invokespecial idx) 3 np) (hl : zLp own idx x M j) (hs : zshapes[o]? = some (zob ci fl)) (hq : vwCl[ci]? = some q) (hn : k + 1 ≤ n) (hlen : As.length = j) (hcat : zcat S ≤ 8)
    (hc : Ct M k (.ref o :: As) w (fun r w' => G np L (zpush r S) w')) : G pc L (As.reverse ++ .ref o :: S) w := by
  refine h.elim fun p l e R s m args below meth c φ cA D A H0 cells slots Qm Ts hG hC hB hK hA hn1 hn2 hn3 hn4 => ?_
  subst hG
  obtain ⟨hd, rfl⟩ := hd
  intro ls H locs hls hP hD hS
  have hC' := hC
  obtain ⟨hx, hb, hml, hown, hts⟩ := hC'
  obtain ⟨hlk, hsame, hsup, hup, hnm, hds, hinst, hini, hcode, hno, hpar, h30⟩ := hl
  have hM := hc l φ cA D H.size
  obtain ⟨cellB, hcB, hoB, hclB⟩ := va_recv hK.1 hP hq (zWS_get hs)
  obtain ⟨-, hfc, kB, hkB, -⟩ := hK.1.1 ci _ hq
  have e0 := Option.some.inj (hfc.symm.trans hclB)
  rw [e0] at hkB
  have hPc : ∀ U : State, U.heap = H → s.WarmedH U.vm → va_Pc ((Value.ref o :: As).map (tv φ)) (zB φ cA D w H.size) (Value.ref (φ o) :: As.map (tv φ)).toArray U :=
    fun U hU hW => ⟨by simp [tv], by rw [hU], by rw [hU]; exact hP, hK.warm hW, hD.weaken (fun _ _ _ _ => trivial)⟩
  have hR1 : (zrm k).frames + 1 ≤ R.frames := Nat.le_trans hn hn1
  have hR2 : 8 + (M.2.2.1 + 11) + (zrm k).locals ≤ R.locals := by show 8 + (M.2.2.1 + 11) + 60 * k ≤ R.locals; omega
  have hst : ((As.reverse ++ .ref o :: S).map (tv φ)) = (As.map (tv φ)).reverse ++ .ref (φ o) :: S.map (tv φ) := by simp [tv]
  rw [hst]
  have hcat' : 2 * (F0 m pc ls ((As.map (tv φ)).reverse ++ .ref (φ o) :: S.map (tv φ))).monitorRoom + ((S.map (tv φ)).map fun v => v.category).sum ≤ 8 := lv_room (by rw [zcat_tv]; exact hcat)
  have hws := zws_good hB hcode
  have hini' := hts _ (hB _ hini)
  have hK' : Back l R p e below s args M.1 3 8 (PreOf R 0 0 (va_Pc ((Value.ref o :: As).map (tv φ)) (zB φ cA D w H.size))) (PostOf (zQc φ cA D (zA φ H.size) (fun r w' => zV p l e R s m args below meth c nL φ cA D A H0 cells slots Qm (pc + 3) L (zpush r S) w')) 0 0 (zA φ H.size)) :=
    back_of (bytes := M.2.1) (maxL := M.2.2.1) (ret := M.2.2.2) hM z_blind rfl rfl hR1 hR2 (pay_in hts hws) List.mem_cons_self (fun a' U hW => word_at hW (Or.inl (by first | rfl | simp [Cond.onTables, Cond.keeps, Cond.steady])) hini')
  refine z_behind (a := (Value.ref (φ o) :: As.map (tv φ)).toArray) (Q := fun r w' => zV p l e R s m args below meth c nL φ cA D A H0 cells slots Qm (pc + 3) L (zpush r S) w') ?_ hls hD hS hA (fun r w' hq => hq)
  intro T hT X
  obtain ⟨mk, methM, hnamed, hmethM, hstM, habM⟩ := Cond.instanceMethod_spec (hts _ (hB _ hinst))
  obtain ⟨methM', cM, hmethM', -, -, -, -, -, -, hsigM⟩ := Cond.code_spec hnamed (hts _ (hB _ hcode))
  cases hmethM.symm.trans hmethM'
  obtain ⟨ps, dk, kp, hps, hdk, hkp, hsuper, -, -, hnid⟩ := Cond.superclass_spec hown (hts _ (hB _ hsup))
  have hn0 : s.methodNamed? ⟨M.1.cls, x.name, x.desc⟩ = some mk := by rw [← hnm, ← hds]; exact hnamed
  have hsub : s.vm.isSubclass ps mk.cls = true := by
    rcases hup with hup | hup
    · have hpm : ps = mk.cls := Option.some.inj (hps.symm.trans (hup ▸ findClass_of_methodNamed hnamed))
      rw [hpm]; simp [Vm.isSubclass, Vm.isSubclassAux]
    · obtain ⟨ps2, dk2, kp2, hps2, hdk2, hkp2, hsuper2, -⟩ := Cond.superclass_spec hps (hts _ (hB _ hup))
      have hpm : ps2 = mk.cls := Option.some.inj (hps2.symm.trans (findClass_of_methodNamed hnamed))
      exact zsub1 hdk2 (hpm ▸ hsuper2)
  have hlen2 : (As.map (tv φ)).length = methM.sig.parameters.length := by
    have h1 := hpar
    rw [hsigM] at h1
    have h2 := (Option.some.inj h1)
    simp only [List.length_map, hlen]
    exact h2.symm
  obtain ⟨vm₁, X₁, hstep₁⟩ := X.invokespecialUp hx hown (hts _ (hB _ hlk)) (hts _ (hB _ hsame)) hn0 hmethM hstM habM hno hdk hnid hps hsuper hsub (a := φ o) (cell := cellB) (by rw [hT]; exact hcB)
    (fun z h => by rw [h] at hoB; cases hoB) hkB (g := F0 m pc ls ((As.map (tv φ)).reverse ++ .ref (φ o) :: S.map (tv φ))) rfl (argsL := As.map (tv φ)) (rest := S.map (tv φ)) hlen2 rfl (by rw [hb]; exact hd)
  obtain ⟨v, ⟨U', l2, c2, s2⟩, X', ⟨g', mk', t, L2, e1, e2, hq2, h1, hL, h2, h3⟩, hsteps⟩ := hK' m meth c ⟨T.setVm vm₁, locs, cells, slots⟩ { F0 m pc ls ((As.map (tv φ)).reverse ++ .ref (φ o) :: S.map (tv φ)) with stack := S.map (tv φ) } (.invokespecial idx) mk (Value.ref (φ o) :: As.map (tv φ)).toArray X₁ rfl (hls.1.trans hml.symm) (by rw [hb]; exact hd) hcat' (X₁.named hnamed) ⟨hn3, hn4, hPc _ hT X₁.warmed⟩
  dsimp only [Pt.U, Pt.locs, Pt.cells, Pt.slots] at X' e1 e2 h1 h2 h3 hsteps
  subst h1; subst h2; subst h3
  exact ⟨v, (T.setVm vm₁).calling g' mk' (Value.ref (φ o) :: As.map (tv φ)).toArray, t, U', L2, hT, X', hL, e1, e2, hq2, fun target h => hstep₁ _ (by rw [doInvoke_state]; exact hsteps.trans h)⟩
end ZSup
end
section
/-! Methods, and what calls and fields ask of the tables. -/
abbrev mX11_init : zM := (yX11_init, cX11_init, 3, none)
theorem ckX11_init : Cond.code yX11_init cX11_init 3 (none) ∈ big := big_in (List.mem_of_getElem? (i := 27) (by decide +kernel)) rfl
abbrev mX0_init : zM := (yX0_init, cX0_init, 1, none)
theorem ckX0_init : Cond.code yX0_init cX0_init 1 (none) ∈ big := big_in (List.mem_of_getElem? (i := 36) (by decide +kernel)) rfl
abbrev mX8_init : zM := (yX8_init, cX8_init, 1, none)
theorem ckX8_init : Cond.code yX8_init cX8_init 1 (none) ∈ big := big_in (List.mem_of_getElem? (i := 43) (by decide +kernel)) rfl
abbrev mX6_init : zM := (yX6_init, cX6_init, 1, none)
theorem ckX6_init : Cond.code yX6_init cX6_init 1 (none) ∈ big := big_in (List.mem_of_getElem? (i := 50) (by decide +kernel)) rfl
abbrev mX3_init : zM := (yX3_init, cX3_init, 1, none)
theorem ckX3_init : Cond.code yX3_init cX3_init 1 (none) ∈ big := big_in (List.mem_of_getElem? (i := 57) (by decide +kernel)) rfl
abbrev mX9_init : zM := (yX9_init, cX9_init, 1, none)
theorem ckX9_init : Cond.code yX9_init cX9_init 1 (none) ∈ big := big_in (List.mem_of_getElem? (i := 64) (by decide +kernel)) rfl
abbrev mX4_init : zM := (yX4_init, cX4_init, 1, none)
theorem ckX4_init : Cond.code yX4_init cX4_init 1 (none) ∈ big := big_in (List.mem_of_getElem? (i := 71) (by decide +kernel)) rfl
abbrev mX1_init : zM := (yX1_init, cX1_init, 1, none)
theorem ckX1_init : Cond.code yX1_init cX1_init 1 (none) ∈ big := big_in (List.mem_of_getElem? (i := 78) (by decide +kernel)) rfl
abbrev mX2_init : zM := (yX2_init, cX2_init, 1, none)
theorem ckX2_init : Cond.code yX2_init cX2_init 1 (none) ∈ big := big_in (List.mem_of_getElem? (i := 85) (by decide +kernel)) rfl
abbrev mX5_init : zM := (yX5_init, cX5_init, 2, none)
theorem ckX5_init : Cond.code yX5_init cX5_init 2 (none) ∈ big := big_in (List.mem_of_getElem? (i := 92) (by decide +kernel)) rfl
abbrev mX7_init : zM := (yX7_init, cX7_init, 1, none)
theorem ckX7_init : Cond.code yX7_init cX7_init 1 (none) ∈ big := big_in (List.mem_of_getElem? (i := 139) (by decide +kernel)) rfl
abbrev mX10_init : zM := (yX10_init, cX10_init, 1, none)
theorem ckX10_init : Cond.code yX10_init cX10_init 1 (none) ∈ big := big_in (List.mem_of_getElem? (i := 180) (by decide +kernel)) rfl
abbrev mX11_heap : zM := (yX11_heap, cX11_heap, 4, some .int)
theorem ckX11_heap : Cond.code yX11_heap cX11_heap 4 (some .int) ∈ big := big_in (List.mem_of_getElem? (i := 232) (by decide +kernel)) rfl
abbrev mX11_bytesRefusal : zM := (yX11_bytesRefusal, cX11_bytesRefusal, 3, some .int)
theorem ckX11_bytesRefusal : Cond.code yX11_bytesRefusal cX11_bytesRefusal 3 (some .int) ∈ big := big_in (List.mem_of_getElem? (i := 236) (by decide +kernel)) rfl
abbrev mX11_shelfRefusal : zM := (yX11_shelfRefusal, cX11_shelfRefusal, 3, some .int)
theorem ckX11_shelfRefusal : Cond.code yX11_shelfRefusal cX11_shelfRefusal 3 (some .int) ∈ big := big_in (List.mem_of_getElem? (i := 240) (by decide +kernel)) rfl
abbrev mX11_isShelf : zM := (yX11_isShelf, cX11_isShelf, 1, some .boolean)
theorem ckX11_isShelf : Cond.code yX11_isShelf cX11_isShelf 1 (some .boolean) ∈ big := big_in (List.mem_of_getElem? (i := 243) (by decide +kernel)) rfl
abbrev mX11_isWithin : zM := (yX11_isWithin, cX11_isWithin, 3, some .boolean)
theorem ckX11_isWithin : Cond.code yX11_isWithin cX11_isWithin 3 (some .boolean) ∈ big := big_in (List.mem_of_getElem? (i := 246) (by decide +kernel)) rfl
abbrev mX10_faultOfForm : zM := (yX10_faultOfForm, cX10_faultOfForm, 4, some .int)
theorem ckX10_faultOfForm : Cond.code yX10_faultOfForm cX10_faultOfForm 4 (some .int) ∈ big := big_in (List.mem_of_getElem? (i := 250) (by decide +kernel)) rfl
abbrev mX10_statementEnd : zM := (yX10_statementEnd, cX10_statementEnd, 3, some .int)
theorem ckX10_statementEnd : Cond.code yX10_statementEnd cX10_statementEnd 3 (some .int) ∈ big := big_in (List.mem_of_getElem? (i := 254) (by decide +kernel)) rfl
abbrev mX10_at : zM := (yX10_at, cX10_at, 2, some .int)
theorem ckX10_at : Cond.code yX10_at cX10_at 2 (some .int) ∈ big := big_in (List.mem_of_getElem? (i := 258) (by decide +kernel)) rfl
abbrev mX10_hasPlace : zM := (yX10_hasPlace, cX10_hasPlace, 2, some .boolean)
theorem ckX10_hasPlace : Cond.code yX10_hasPlace cX10_hasPlace 2 (some .boolean) ∈ big := big_in (List.mem_of_getElem? (i := 262) (by decide +kernel)) rfl
abbrev mX10_digitEnd : zM := (yX10_digitEnd, cX10_digitEnd, 2, some .int)
theorem ckX10_digitEnd : Cond.code yX10_digitEnd cX10_digitEnd 2 (some .int) ∈ big := big_in (List.mem_of_getElem? (i := 266) (by decide +kernel)) rfl
abbrev mX10_isDigit : zM := (yX10_isDigit, cX10_isDigit, 2, some .boolean)
theorem ckX10_isDigit : Cond.code yX10_isDigit cX10_isDigit 2 (some .boolean) ∈ big := big_in (List.mem_of_getElem? (i := 270) (by decide +kernel)) rfl
abbrev mX10_numberEnd : zM := (yX10_numberEnd, cX10_numberEnd, 3, some .int)
theorem ckX10_numberEnd : Cond.code yX10_numberEnd cX10_numberEnd 3 (some .int) ∈ big := big_in (List.mem_of_getElem? (i := 274) (by decide +kernel)) rfl
abbrev mX10_signEnd : zM := (yX10_signEnd, cX10_signEnd, 3, some .int)
theorem ckX10_signEnd : Cond.code yX10_signEnd cX10_signEnd 3 (some .int) ∈ big := big_in (List.mem_of_getElem? (i := 278) (by decide +kernel)) rfl
abbrev mX11_tellAll : zM := (yX11_tellAll, cX11_tellAll, 4, some .int)
theorem ckX11_tellAll : Cond.code yX11_tellAll cX11_tellAll 4 (some .int) ∈ big := big_in (List.mem_of_getElem? (i := 282) (by decide +kernel)) rfl
abbrev mX5_become : zM := (yX5_become, cX5_become, 2, none)
theorem ckX5_become : Cond.code yX5_become cX5_become 2 (none) ∈ big := big_in (List.mem_of_getElem? (i := 286) (by decide +kernel)) rfl
abbrev mX5_tell : zM := (yX5_tell, cX5_tell, 3, some .boolean)
theorem ckX5_tell : Cond.code yX5_tell cX5_tell 3 (some .boolean) ∈ big := big_in (List.mem_of_getElem? (i := 293) (by decide +kernel)) rfl
abbrev mX5_tellBowl : zM := (yX5_tellBowl, cX5_tellBowl, 7, some .boolean)
theorem ckX5_tellBowl : Cond.code yX5_tellBowl cX5_tellBowl 7 (some .boolean) ∈ big := big_in (List.mem_of_getElem? (i := 298) (by decide +kernel)) rfl
abbrev mX10_digitAt : zM := (yX10_digitAt, cX10_digitAt, 2, some .int)
theorem ckX10_digitAt : Cond.code yX10_digitAt cX10_digitAt 2 (some .int) ∈ big := big_in (List.mem_of_getElem? (i := 302) (by decide +kernel)) rfl
abbrev mX10_numberAt : zM := (yX10_numberAt, cX10_numberAt, 3, some .int)
theorem ckX10_numberAt : Cond.code yX10_numberAt cX10_numberAt 3 (some .int) ∈ big := big_in (List.mem_of_getElem? (i := 306) (by decide +kernel)) rfl
abbrev mX5_add : zM := (yX5_add, cX5_add, 6, some .boolean)
theorem ckX5_add : Cond.code yX5_add cX5_add 6 (some .boolean) ∈ big := big_in (List.mem_of_getElem? (i := 312) (by decide +kernel)) rfl
abbrev mX5_place : zM := (yX5_place, cX5_place, 6, none)
theorem ckX5_place : Cond.code yX5_place cX5_place 6 (none) ∈ big := big_in (List.mem_of_getElem? (i := 316) (by decide +kernel)) rfl
abbrev mX5_flip : zM := (yX5_flip, cX5_flip, 2, some .boolean)
theorem ckX5_flip : Cond.code yX5_flip cX5_flip 2 (some .boolean) ∈ big := big_in (List.mem_of_getElem? (i := 320) (by decide +kernel)) rfl
abbrev mX5_has : zM := (yX5_has, cX5_has, 2, some .boolean)
theorem ckX5_has : Cond.code yX5_has cX5_has 2 (some .boolean) ∈ big := big_in (List.mem_of_getElem? (i := 324) (by decide +kernel)) rfl
abbrev mX5_dropLatest : zM := (yX5_dropLatest, cX5_dropLatest, 1, some .boolean)
theorem ckX5_dropLatest : Cond.code yX5_dropLatest cX5_dropLatest 1 (some .boolean) ∈ big := big_in (List.mem_of_getElem? (i := 328) (by decide +kernel)) rfl
abbrev mX11_bowl : zM := (yX11_bowl, cX11_bowl, 3, some .int)
theorem ckX11_bowl : Cond.code yX11_bowl cX11_bowl 3 (some .int) ∈ big := big_in (List.mem_of_getElem? (i := 333) (by decide +kernel)) rfl
abbrev mX5_outsideAt : zM := (yX5_outsideAt, cX5_outsideAt, 3, some .int)
theorem ckX5_outsideAt : Cond.code yX5_outsideAt cX5_outsideAt 3 (some .int) ∈ big := big_in (List.mem_of_getElem? (i := 338) (by decide +kernel)) rfl
abbrev mX6_outside : zM := (yX6_outside, cX6_outside, 4, some .int)
theorem ckX6_outside : Cond.code yX6_outside cX6_outside 4 (some .int) ∈ big := big_in (List.mem_of_getElem? (i := 346) (by decide +kernel)) rfl
abbrev mJ9_max_7cf53 : zM := (yJ9_max_7cf53, cJ9_max_7cf53, 2, some .int)
theorem ckJ9_max_7cf53 : Cond.code yJ9_max_7cf53 cJ9_max_7cf53 2 (some .int) ∈ big := big_in (List.mem_of_getElem? (i := 350) (by decide +kernel)) rfl
abbrev mX4_outside : zM := (yX4_outside, cX4_outside, 4, some .int)
theorem ckX4_outside : Cond.code yX4_outside cX4_outside 4 (some .int) ∈ big := big_in (List.mem_of_getElem? (i := 354) (by decide +kernel)) rfl
abbrev mX8_outside : zM := (yX8_outside, cX8_outside, 4, some .int)
theorem ckX8_outside : Cond.code yX8_outside cX8_outside 4 (some .int) ∈ big := big_in (List.mem_of_getElem? (i := 361) (by decide +kernel)) rfl
abbrev mX9_outside : zM := (yX9_outside, cX9_outside, 4, some .int)
theorem ckX9_outside : Cond.code yX9_outside cX9_outside 4 (some .int) ∈ big := big_in (List.mem_of_getElem? (i := 365) (by decide +kernel)) rfl
abbrev mX0_outside : zM := (yX0_outside, cX0_outside, 4, some .int)
theorem ckX0_outside : Cond.code yX0_outside cX0_outside 4 (some .int) ∈ big := big_in (List.mem_of_getElem? (i := 367) (by decide +kernel)) rfl
abbrev mX5_insideAt : zM := (yX5_insideAt, cX5_insideAt, 4, some .int)
theorem ckX5_insideAt : Cond.code yX5_insideAt cX5_insideAt 4 (some .int) ∈ big := big_in (List.mem_of_getElem? (i := 371) (by decide +kernel)) rfl
abbrev mX3_inside : zM := (yX3_inside, cX3_inside, 5, some .int)
theorem ckX3_inside : Cond.code yX3_inside cX3_inside 5 (some .int) ∈ big := big_in (List.mem_of_getElem? (i := 378) (by decide +kernel)) rfl
abbrev mX6_inside : zM := (yX6_inside, cX6_inside, 5, some .int)
theorem ckX6_inside : Cond.code yX6_inside cX6_inside 5 (some .int) ∈ big := big_in (List.mem_of_getElem? (i := 382) (by decide +kernel)) rfl
abbrev mX4_inside : zM := (yX4_inside, cX4_inside, 5, some .int)
theorem ckX4_inside : Cond.code yX4_inside cX4_inside 5 (some .int) ∈ big := big_in (List.mem_of_getElem? (i := 386) (by decide +kernel)) rfl
abbrev mX8_inside : zM := (yX8_inside, cX8_inside, 5, some .int)
theorem ckX8_inside : Cond.code yX8_inside cX8_inside 5 (some .int) ∈ big := big_in (List.mem_of_getElem? (i := 391) (by decide +kernel)) rfl
abbrev mX0_inside : zM := (yX0_inside, cX0_inside, 5, some .int)
theorem ckX0_inside : Cond.code yX0_inside cX0_inside 5 (some .int) ∈ big := big_in (List.mem_of_getElem? (i := 394) (by decide +kernel)) rfl
abbrev mX5_riseOf : zM := (yX5_riseOf, cX5_riseOf, 2, some .int)
theorem ckX5_riseOf : Cond.code yX5_riseOf cX5_riseOf 2 (some .int) ∈ big := big_in (List.mem_of_getElem? (i := 398) (by decide +kernel)) rfl
abbrev mX1_rise : zM := (yX1_rise, cX1_rise, 2, some .int)
theorem ckX1_rise : Cond.code yX1_rise cX1_rise 2 (some .int) ∈ big := big_in (List.mem_of_getElem? (i := 405) (by decide +kernel)) rfl
abbrev mX3_rise : zM := (yX3_rise, cX3_rise, 2, some .int)
theorem ckX3_rise : Cond.code yX3_rise cX3_rise 2 (some .int) ∈ big := big_in (List.mem_of_getElem? (i := 408) (by decide +kernel)) rfl
abbrev mX2_rise : zM := (yX2_rise, cX2_rise, 2, some .int)
theorem ckX2_rise : Cond.code yX2_rise cX2_rise 2 (some .int) ∈ big := big_in (List.mem_of_getElem? (i := 412) (by decide +kernel)) rfl
abbrev mX6_rise : zM := (yX6_rise, cX6_rise, 2, some .int)
theorem ckX6_rise : Cond.code yX6_rise cX6_rise 2 (some .int) ∈ big := big_in (List.mem_of_getElem? (i := 415) (by decide +kernel)) rfl
abbrev mX0_rise : zM := (yX0_rise, cX0_rise, 2, some .int)
theorem ckX0_rise : Cond.code yX0_rise cX0_rise 2 (some .int) ∈ big := big_in (List.mem_of_getElem? (i := 422) (by decide +kernel)) rfl
abbrev mX11_comes : zM := (yX11_comes, cX11_comes, 6, some .int)
theorem ckX11_comes : Cond.code yX11_comes cX11_comes 6 (some .int) ∈ big := big_in (List.mem_of_getElem? (i := 426) (by decide +kernel)) rfl
abbrev mX11_areHairs : zM := (yX11_areHairs, cX11_areHairs, 1, some .boolean)
theorem ckX11_areHairs : Cond.code yX11_areHairs cX11_areHairs 1 (some .boolean) ∈ big := big_in (List.mem_of_getElem? (i := 429) (by decide +kernel)) rfl
abbrev mX11_bowlRefusal : zM := (yX11_bowlRefusal, cX11_bowlRefusal, 2, some .int)
theorem ckX11_bowlRefusal : Cond.code yX11_bowlRefusal cX11_bowlRefusal 2 (some .int) ∈ big := big_in (List.mem_of_getElem? (i := 433) (by decide +kernel)) rfl
abbrev mX11_warm : zM := (yX11_warm, cX11_warm, 3, some .int)
theorem ckX11_warm : Cond.code yX11_warm cX11_warm 3 (some .int) ∈ big := big_in (List.mem_of_getElem? (i := 438) (by decide +kernel)) rfl
abbrev mX11_isWarmth : zM := (yX11_isWarmth, cX11_isWarmth, 1, some .boolean)
theorem ckX11_isWarmth : Cond.code yX11_isWarmth cX11_isWarmth 1 (some .boolean) ∈ big := big_in (List.mem_of_getElem? (i := 441) (by decide +kernel)) rfl
abbrev mX11_turn : zM := (yX11_turn, cX11_turn, 2, some .int)
theorem ckX11_turn : Cond.code yX11_turn cX11_turn 2 (some .int) ∈ big := big_in (List.mem_of_getElem? (i := 445) (by decide +kernel)) rfl
abbrev mX11_lies : zM := (yX11_lies, cX11_lies, 3, some .int)
theorem ckX11_lies : Cond.code yX11_lies cX11_lies 3 (some .int) ∈ big := big_in (List.mem_of_getElem? (i := 450) (by decide +kernel)) rfl
abbrev mX11_arePair : zM := (yX11_arePair, cX11_arePair, 3, some .boolean)
theorem ckX11_arePair : Cond.code yX11_arePair cX11_arePair 3 (some .boolean) ∈ big := big_in (List.mem_of_getElem? (i := 454) (by decide +kernel)) rfl
abbrev mX5_isIn : zM := (yX5_isIn, cX5_isIn, 4, some .boolean)
theorem ckX5_isIn : Cond.code yX5_isIn cX5_isIn 4 (some .boolean) ∈ big := big_in (List.mem_of_getElem? (i := 458) (by decide +kernel)) rfl
abbrev mX5_agree : zM := (yX5_agree, cX5_agree, 4, some .boolean)
theorem ckX5_agree : Cond.code yX5_agree cX5_agree 4 (some .boolean) ∈ big := big_in (List.mem_of_getElem? (i := 462) (by decide +kernel)) rfl
abbrev mX8_minds : zM := (yX8_minds, cX8_minds, 1, some .boolean)
theorem ckX8_minds : Cond.code yX8_minds cX8_minds 1 (some .boolean) ∈ big := big_in (List.mem_of_getElem? (i := 474) (by decide +kernel)) rfl
abbrev mX0_minds : zM := (yX0_minds, cX0_minds, 1, some .boolean)
theorem ckX0_minds : Cond.code yX0_minds cX0_minds 1 (some .boolean) ∈ big := big_in (List.mem_of_getElem? (i := 476) (by decide +kernel)) rfl
abbrev mX11_nest : zM := (yX11_nest, cX11_nest, 2, some .int)
theorem ckX11_nest : Cond.code yX11_nest cX11_nest 2 (some .int) ∈ big := big_in (List.mem_of_getElem? (i := 482) (by decide +kernel)) rfl
abbrev mX11_areBowls : zM := (yX11_areBowls, cX11_areBowls, 2, some .boolean)
theorem ckX11_areBowls : Cond.code yX11_areBowls cX11_areBowls 2 (some .boolean) ∈ big := big_in (List.mem_of_getElem? (i := 486) (by decide +kernel)) rfl
abbrev mX5_all : zM := (yX5_all, cX5_all, 1, some .int)
theorem ckX5_all : Cond.code yX5_all cX5_all 1 (some .int) ∈ big := big_in (List.mem_of_getElem? (i := 490) (by decide +kernel)) rfl
abbrev mX5_heightOf : zM := (yX5_heightOf, cX5_heightOf, 6, some .int)
theorem ckX5_heightOf : Cond.code yX5_heightOf cX5_heightOf 6 (some .int) ∈ big := big_in (List.mem_of_getElem? (i := 494) (by decide +kernel)) rfl
abbrev mX5_arrange : zM := (yX5_arrange, cX5_arrange, 4, none)
theorem ckX5_arrange : Cond.code yX5_arrange cX5_arrange 4 (none) ∈ big := big_in (List.mem_of_getElem? (i := 498) (by decide +kernel)) rfl
abbrev mX11_height : zM := (yX11_height, cX11_height, 3, some .int)
theorem ckX11_height : Cond.code yX11_height cX11_height 3 (some .int) ∈ big := big_in (List.mem_of_getElem? (i := 504) (by decide +kernel)) rfl
abbrev mX11_longest : zM := (yX11_longest, cX11_longest, 4, some .int)
theorem ckX11_longest : Cond.code yX11_longest cX11_longest 4 (some .int) ∈ big := big_in (List.mem_of_getElem? (i := 508) (by decide +kernel)) rfl
abbrev mX7_findAll : zM := (yX7_findAll, cX7_findAll, 5, none)
theorem ckX7_findAll : Cond.code yX7_findAll cX7_findAll 5 (none) ∈ big := big_in (List.mem_of_getElem? (i := 512) (by decide +kernel)) rfl
abbrev mJ9_min_7cf53 : zM := (yJ9_min_7cf53, cJ9_min_7cf53, 2, some .int)
theorem ckJ9_min_7cf53 : Cond.code yJ9_min_7cf53 cJ9_min_7cf53 2 (some .int) ∈ big := big_in (List.mem_of_getElem? (i := 515) (by decide +kernel)) rfl
abbrev mX7_growBy : zM := (yX7_growBy, cX7_growBy, 7, none)
theorem ckX7_growBy : Cond.code yX7_growBy cX7_growBy 7 (none) ∈ big := big_in (List.mem_of_getElem? (i := 521) (by decide +kernel)) rfl
abbrev mX7_note : zM := (yX7_note, cX7_note, 4, none)
theorem ckX7_note : Cond.code yX7_note cX7_note 4 (none) ∈ big := big_in (List.mem_of_getElem? (i := 526) (by decide +kernel)) rfl
abbrev mX7_longestOf : zM := (yX7_longestOf, cX7_longestOf, 5, some .int)
theorem ckX7_longestOf : Cond.code yX7_longestOf cX7_longestOf 5 (some .int) ∈ big := big_in (List.mem_of_getElem? (i := 530) (by decide +kernel)) rfl
abbrev mX7_isLonger : zM := (yX7_isLonger, cX7_isLonger, 4, some .boolean)
theorem ckX7_isLonger : Cond.code yX7_isLonger cX7_isLonger 4 (some .boolean) ∈ big := big_in (List.mem_of_getElem? (i := 534) (by decide +kernel)) rfl
abbrev mJ6_bitCount_0f7a4 : zM := (yJ6_bitCount_0f7a4, cJ6_bitCount_0f7a4, 1, some .int)
theorem ckJ6_bitCount_0f7a4 : Cond.code yJ6_bitCount_0f7a4 cJ6_bitCount_0f7a4 1 (some .int) ∈ big := big_in (List.mem_of_getElem? (i := 537) (by decide +kernel)) rfl
abbrev mX11_fewest : zM := (yX11_fewest, cX11_fewest, 1, some .int)
theorem ckX11_fewest : Cond.code yX11_fewest cX11_fewest 1 (some .int) ∈ big := big_in (List.mem_of_getElem? (i := 545) (by decide +kernel)) rfl
abbrev mX7_costOneEach : zM := (yX7_costOneEach, cX7_costOneEach, 3, none)
theorem ckX7_costOneEach : Cond.code yX7_costOneEach cX7_costOneEach 3 (none) ∈ big := big_in (List.mem_of_getElem? (i := 550) (by decide +kernel)) rfl
abbrev mX7_leastSum : zM := (yX7_leastSum, cX7_leastSum, 6, some .int)
theorem ckX7_leastSum : Cond.code yX7_leastSum cX7_leastSum 6 (some .int) ∈ big := big_in (List.mem_of_getElem? (i := 555) (by decide +kernel)) rfl
abbrev mX11_apart : zM := (yX11_apart, cX11_apart, 3, some .int)
theorem ckX11_apart : Cond.code yX11_apart cX11_apart 3 (some .int) ∈ big := big_in (List.mem_of_getElem? (i := 559) (by decide +kernel)) rfl
abbrev mX7_mostApart : zM := (yX7_mostApart, cX7_mostApart, 3, some .int)
theorem ckX7_mostApart : Cond.code yX7_mostApart cX7_mostApart 3 (some .int) ∈ big := big_in (List.mem_of_getElem? (i := 563) (by decide +kernel)) rfl
abbrev mX7_isApart : zM := (yX7_isApart, cX7_isApart, 3, some .boolean)
theorem ckX7_isApart : Cond.code yX7_isApart cX7_isApart 3 (some .boolean) ∈ big := big_in (List.mem_of_getElem? (i := 567) (by decide +kernel)) rfl
abbrev mX11_carry : zM := (yX11_carry, cX11_carry, 1, some .int)
theorem ckX11_carry : Cond.code yX11_carry cX11_carry 1 (some .int) ∈ big := big_in (List.mem_of_getElem? (i := 571) (by decide +kernel)) rfl
abbrev mX7_costHeights : zM := (yX7_costHeights, cX7_costHeights, 2, none)
theorem ckX7_costHeights : Cond.code yX7_costHeights cX7_costHeights 2 (none) ∈ big := big_in (List.mem_of_getElem? (i := 575) (by decide +kernel)) rfl
abbrev mX11_load : zM := (yX11_load, cX11_load, 3, some .int)
theorem ckX11_load : Cond.code yX11_load cX11_load 3 (some .int) ∈ big := big_in (List.mem_of_getElem? (i := 579) (by decide +kernel)) rfl
abbrev mX11_whole : zM := (yX11_whole, cX11_whole, 2, some .int)
theorem ckX11_whole : Cond.code yX11_whole cX11_whole 2 (some .int) ∈ big := big_in (List.mem_of_getElem? (i := 583) (by decide +kernel)) rfl
abbrev mX7_costLessForSetsOf : zM := (yX7_costLessForSetsOf, cX7_costLessForSetsOf, 4, none)
theorem ckX7_costLessForSetsOf : Cond.code yX7_costLessForSetsOf cX7_costLessForSetsOf 4 (none) ∈ big := big_in (List.mem_of_getElem? (i := 587) (by decide +kernel)) rfl
abbrev mX11_throwsNew : zM := (yX11_throwsNew, cX11_throwsNew, 6, some .int)
theorem ckX11_throwsNew : Cond.code yX11_throwsNew cX11_throwsNew 6 (some .int) ∈ big := big_in (List.mem_of_getElem? (i := 591) (by decide +kernel)) rfl
abbrev mX5_think : zM := (yX5_think, cX5_think, 3, some .int)
theorem ckX5_think : Cond.code yX5_think cX5_think 3 (some .int) ∈ big := big_in (List.mem_of_getElem? (i := 596) (by decide +kernel)) rfl
abbrev mX11_isBridged : zM := (yX11_isBridged, cX11_isBridged, 5, some .boolean)
theorem ckX11_isBridged : Cond.code yX11_isBridged cX11_isBridged 5 (some .boolean) ∈ big := big_in (List.mem_of_getElem? (i := 600) (by decide +kernel)) rfl
abbrev mX11_helps : zM := (yX11_helps, cX11_helps, 8, some .int)
theorem ckX11_helps : Cond.code yX11_helps cX11_helps 8 (some .int) ∈ big := big_in (List.mem_of_getElem? (i := 604) (by decide +kernel)) rfl
abbrev mX7_findChains : zM := (yX7_findChains, cX7_findChains, 3, none)
theorem ckX7_findChains : Cond.code yX7_findChains cX7_findChains 3 (none) ∈ big := big_in (List.mem_of_getElem? (i := 608) (by decide +kernel)) rfl
abbrev mX7_lengthenInward : zM := (yX7_lengthenInward, cX7_lengthenInward, 3, none)
theorem ckX7_lengthenInward : Cond.code yX7_lengthenInward cX7_lengthenInward 3 (none) ∈ big := big_in (List.mem_of_getElem? (i := 612) (by decide +kernel)) rfl
abbrev mX7_lengthenOutward : zM := (yX7_lengthenOutward, cX7_lengthenOutward, 3, none)
theorem ckX7_lengthenOutward : Cond.code yX7_lengthenOutward cX7_lengthenOutward 3 (none) ∈ big := big_in (List.mem_of_getElem? (i := 617) (by decide +kernel)) rfl
abbrev mX7_longestWith : zM := (yX7_longestWith, cX7_longestWith, 7, some .int)
theorem ckX7_longestWith : Cond.code yX7_longestWith cX7_longestWith 7 (some .int) ∈ big := big_in (List.mem_of_getElem? (i := 621) (by decide +kernel)) rfl
abbrev mX11_out : zM := (yX11_out, cX11_out, 7, some .int)
theorem ckX11_out : Cond.code yX11_out cX11_out 7 (some .int) ∈ big := big_in (List.mem_of_getElem? (i := 625) (by decide +kernel)) rfl
abbrev mX11_firstMisplaced : zM := (yX11_firstMisplaced, cX11_firstMisplaced, 5, some .int)
theorem ckX11_firstMisplaced : Cond.code yX11_firstMisplaced cX11_firstMisplaced 5 (some .int) ∈ big := big_in (List.mem_of_getElem? (i := 629) (by decide +kernel)) rfl
abbrev mX11_judge : zM := (yX11_judge, cX11_judge, 4, some .int)
theorem ckX11_judge : Cond.code yX11_judge cX11_judge 4 (some .int) ∈ big := big_in (List.mem_of_getElem? (i := 634) (by decide +kernel)) rfl
abbrev mX11_rowRefusal : zM := (yX11_rowRefusal, cX11_rowRefusal, 2, some .int)
theorem ckX11_rowRefusal : Cond.code yX11_rowRefusal cX11_rowRefusal 2 (some .int) ∈ big := big_in (List.mem_of_getElem? (i := 638) (by decide +kernel)) rfl
abbrev mX11_spans : zM := (yX11_spans, cX11_spans, 4, some .int)
theorem ckX11_spans : Cond.code yX11_spans cX11_spans 4 (some .int) ∈ big := big_in (List.mem_of_getElem? (i := 642) (by decide +kernel)) rfl
abbrev mX5_spanned : zM := (yX5_spanned, cX5_spanned, 9, some .int)
theorem ckX5_spanned : Cond.code yX5_spanned cX5_spanned 9 (some .int) ∈ big := big_in (List.mem_of_getElem? (i := 646) (by decide +kernel)) rfl
abbrev mX11_next : zM := (yX11_next, cX11_next, 7, some .int)
theorem ckX11_next : Cond.code yX11_next cX11_next 7 (some .int) ∈ big := big_in (List.mem_of_getElem? (i := 651) (by decide +kernel)) rfl
abbrev mX11_pairsPerhaps : zM := (yX11_pairsPerhaps, cX11_pairsPerhaps, 8, some .int)
theorem ckX11_pairsPerhaps : Cond.code yX11_pairsPerhaps cX11_pairsPerhaps 8 (some .int) ∈ big := big_in (List.mem_of_getElem? (i := 655) (by decide +kernel)) rfl
abbrev mX11_from : zM := (yX11_from, cX11_from, 7, some .int)
theorem ckX11_from : Cond.code yX11_from cX11_from 7 (some .int) ∈ big := big_in (List.mem_of_getElem? (i := 659) (by decide +kernel)) rfl
abbrev mX11_breaks : zM := (yX11_breaks, cX11_breaks, 5, some .int)
theorem ckX11_breaks : Cond.code yX11_breaks cX11_breaks 5 (some .int) ∈ big := big_in (List.mem_of_getElem? (i := 663) (by decide +kernel)) rfl
abbrev mX11_brokenBy : zM := (yX11_brokenBy, cX11_brokenBy, 7, some .int)
theorem ckX11_brokenBy : Cond.code yX11_brokenBy cX11_brokenBy 7 (some .int) ∈ big := big_in (List.mem_of_getElem? (i := 667) (by decide +kernel)) rfl
abbrev mX11_image : zM := (yX11_image, cX11_image, 1, some .int)
theorem ckX11_image : Cond.code yX11_image cX11_image 1 (some .int) ∈ big := big_in (List.mem_of_getElem? (i := 674) (by decide +kernel)) rfl
abbrev mX11_restore : zM := (yX11_restore, cX11_restore, 1, some .int)
theorem ckX11_restore : Cond.code yX11_restore cX11_restore 1 (some .int) ∈ big := big_in (List.mem_of_getElem? (i := 678) (by decide +kernel)) rfl
abbrev mX11_count : zM := (yX11_count, cX11_count, 2, some .int)
theorem ckX11_count : Cond.code yX11_count cX11_count 2 (some .int) ∈ big := big_in (List.mem_of_getElem? (i := 682) (by decide +kernel)) rfl
abbrev mX5_pairsIn : zM := (yX5_pairsIn, cX5_pairsIn, 4, some .int)
theorem ckX5_pairsIn : Cond.code yX5_pairsIn cX5_pairsIn 4 (some .int) ∈ big := big_in (List.mem_of_getElem? (i := 686) (by decide +kernel)) rfl
abbrev mX5_allDepths : zM := (yX5_allDepths, cX5_allDepths, 3, some .int)
theorem ckX5_allDepths : Cond.code yX5_allDepths cX5_allDepths 3 (some .int) ∈ big := big_in (List.mem_of_getElem? (i := 690) (by decide +kernel)) rfl
abbrev mX11_keep : zM := (yX11_keep, cX11_keep, 5, some .int)
theorem ckX11_keep : Cond.code yX11_keep cX11_keep 5 (some .int) ∈ big := big_in (List.mem_of_getElem? (i := 694) (by decide +kernel)) rfl
abbrev mX10_clear : zM := (yX10_clear, cX10_clear, 1, none)
theorem ckX10_clear : Cond.code yX10_clear cX10_clear 1 (none) ∈ big := big_in (List.mem_of_getElem? (i := 698) (by decide +kernel)) rfl
abbrev mX10_holdBowl : zM := (yX10_holdBowl, cX10_holdBowl, 3, none)
theorem ckX10_holdBowl : Cond.code yX10_holdBowl cX10_holdBowl 3 (none) ∈ big := big_in (List.mem_of_getElem? (i := 702) (by decide +kernel)) rfl
abbrev mX11_row : zM := (yX11_row, cX11_row, 4, some .int)
theorem ckX11_row : Cond.code yX11_row cX11_row 4 (some .int) ∈ big := big_in (List.mem_of_getElem? (i := 706) (by decide +kernel)) rfl
abbrev mX10_holdRow : zM := (yX10_holdRow, cX10_holdRow, 4, none)
theorem ckX10_holdRow : Cond.code yX10_holdRow cX10_holdRow 4 (none) ∈ big := big_in (List.mem_of_getElem? (i := 710) (by decide +kernel)) rfl
abbrev mX11_put : zM := (yX11_put, cX11_put, 5, some .int)
theorem ckX11_put : Cond.code yX11_put cX11_put 5 (some .int) ∈ big := big_in (List.mem_of_getElem? (i := 714) (by decide +kernel)) rfl
abbrev mX10_set : zM := (yX10_set, cX10_set, 3, none)
theorem ckX10_set : Cond.code yX10_set cX10_set 3 (none) ∈ big := big_in (List.mem_of_getElem? (i := 719) (by decide +kernel)) rfl
abbrev mX11_copy : zM := (yX11_copy, cX11_copy, 8, some .int)
theorem ckX11_copy : Cond.code yX11_copy cX11_copy 8 (some .int) ∈ big := big_in (List.mem_of_getElem? (i := 723) (by decide +kernel)) rfl
abbrev mX10_hasStretch : zM := (yX10_hasStretch, cX10_hasStretch, 3, some .boolean)
theorem ckX10_hasStretch : Cond.code yX10_hasStretch cX10_hasStretch 3 (some .boolean) ∈ big := big_in (List.mem_of_getElem? (i := 727) (by decide +kernel)) rfl
abbrev mX11_price : zM := (yX11_price, cX11_price, 3, some .int)
theorem ckX11_price : Cond.code yX11_price cX11_price 3 (some .int) ∈ big := big_in (List.mem_of_getElem? (i := 732) (by decide +kernel)) rfl
abbrev mX1_cost : zM := (yX1_cost, cX1_cost, 2, some .int)
theorem ckX1_cost : Cond.code yX1_cost cX1_cost 2 (some .int) ∈ big := big_in (List.mem_of_getElem? (i := 739) (by decide +kernel)) rfl
abbrev mX3_cost : zM := (yX3_cost, cX3_cost, 2, some .int)
theorem ckX3_cost : Cond.code yX3_cost cX3_cost 2 (some .int) ∈ big := big_in (List.mem_of_getElem? (i := 742) (by decide +kernel)) rfl
abbrev mX2_cost : zM := (yX2_cost, cX2_cost, 2, some .int)
theorem ckX2_cost : Cond.code yX2_cost cX2_cost 2 (some .int) ∈ big := big_in (List.mem_of_getElem? (i := 746) (by decide +kernel)) rfl
abbrev mX6_cost : zM := (yX6_cost, cX6_cost, 2, some .int)
theorem ckX6_cost : Cond.code yX6_cost cX6_cost 2 (some .int) ∈ big := big_in (List.mem_of_getElem? (i := 749) (by decide +kernel)) rfl
abbrev mX4_cost : zM := (yX4_cost, cX4_cost, 2, some .int)
theorem ckX4_cost : Cond.code yX4_cost cX4_cost 2 (some .int) ∈ big := big_in (List.mem_of_getElem? (i := 754) (by decide +kernel)) rfl
abbrev mX8_cost : zM := (yX8_cost, cX8_cost, 2, some .int)
theorem ckX8_cost : Cond.code yX8_cost cX8_cost 2 (some .int) ∈ big := big_in (List.mem_of_getElem? (i := 759) (by decide +kernel)) rfl
abbrev mX9_cost : zM := (yX9_cost, cX9_cost, 2, some .int)
theorem ckX9_cost : Cond.code yX9_cost cX9_cost 2 (some .int) ∈ big := big_in (List.mem_of_getElem? (i := 763) (by decide +kernel)) rfl
abbrev mX0_cost : zM := (yX0_cost, cX0_cost, 2, some .int)
theorem ckX0_cost : Cond.code yX0_cost cX0_cost 2 (some .int) ∈ big := big_in (List.mem_of_getElem? (i := 765) (by decide +kernel)) rfl
abbrev mX2_fail : zM := (yX2_fail, cX2_fail, 2, none)
theorem ckX2_fail : Cond.code yX2_fail cX2_fail 2 (none) ∈ big := big_in (List.mem_of_getElem? (i := 780) (by decide +kernel)) rfl
abbrev mX4_fail : zM := (yX4_fail, cX4_fail, 2, none)
theorem ckX4_fail : Cond.code yX4_fail cX4_fail 2 (none) ∈ big := big_in (List.mem_of_getElem? (i := 852) (by decide +kernel)) rfl
abbrev mX9_fail : zM := (yX9_fail, cX9_fail, 2, none)
theorem ckX9_fail : Cond.code yX9_fail cX9_fail 2 (none) ∈ big := big_in (List.mem_of_getElem? (i := 873) (by decide +kernel)) rfl
abbrev mX0_fail : zM := (yX0_fail, cX0_fail, 2, none)
theorem ckX0_fail : Cond.code yX0_fail cX0_fail 2 (none) ∈ big := big_in (List.mem_of_getElem? (i := 874) (by decide +kernel)) rfl
abbrev mX11_element : zM := (yX11_element, cX11_element, 3, some .long)
theorem ckX11_element : Cond.code yX11_element cX11_element 3 (some .long) ∈ big := big_in (List.mem_of_getElem? (i := 899) (by decide +kernel)) rfl
abbrev mX12_init : zM := (yX12_init, cX12_init, 1, none)
theorem ckX12_init : Cond.code yX12_init cX12_init 1 (none) ∈ big := big_in (List.mem_of_getElem? (i := 908) (by decide +kernel)) rfl
abbrev mX12_thrown : zM := (yX12_thrown, cX12_thrown, 1, some .int)
theorem ckX12_thrown : Cond.code yX12_thrown cX12_thrown 1 (some .int) ∈ big := big_in (List.mem_of_getElem? (i := 974) (by decide +kernel)) rfl
abbrev mX12_heap : zM := (yX12_heap, cX12_heap, 7, some .int)
theorem ckX12_heap : Cond.code yX12_heap cX12_heap 7 (some .int) ∈ big := big_in (List.mem_of_getElem? (i := 978) (by decide +kernel)) rfl
abbrev mX12_wrongRow : zM := (yX12_wrongRow, cX12_wrongRow, 3, some .int)
theorem ckX12_wrongRow : Cond.code yX12_wrongRow cX12_wrongRow 3 (some .int) ∈ big := big_in (List.mem_of_getElem? (i := 982) (by decide +kernel)) rfl
abbrev mX12_isShelf : zM := (yX12_isShelf, cX12_isShelf, 1, some .boolean)
theorem ckX12_isShelf : Cond.code yX12_isShelf cX12_isShelf 1 (some .boolean) ∈ big := big_in (List.mem_of_getElem? (i := 985) (by decide +kernel)) rfl
abbrev mX12_isIn : zM := (yX12_isIn, cX12_isIn, 6, some .boolean)
theorem ckX12_isIn : Cond.code yX12_isIn cX12_isIn 6 (some .boolean) ∈ big := big_in (List.mem_of_getElem? (i := 989) (by decide +kernel)) rfl
abbrev mX12_readsStatement : zM := (yX12_readsStatement, cX12_readsStatement, 3, some .boolean)
theorem ckX12_readsStatement : Cond.code yX12_readsStatement cX12_readsStatement 3 (some .boolean) ∈ big := big_in (List.mem_of_getElem? (i := 993) (by decide +kernel)) rfl
abbrev mX12_here : zM := (yX12_here, cX12_here, 1, some .int)
theorem ckX12_here : Cond.code yX12_here cX12_here 1 (some .int) ∈ big := big_in (List.mem_of_getElem? (i := 997) (by decide +kernel)) rfl
abbrev mX12_readsNumber : zM := (yX12_readsNumber, cX12_readsNumber, 3, some .boolean)
theorem ckX12_readsNumber : Cond.code yX12_readsNumber cX12_readsNumber 3 (some .boolean) ∈ big := big_in (List.mem_of_getElem? (i := 1001) (by decide +kernel)) rfl
abbrev mX12_isDigit : zM := (yX12_isDigit, cX12_isDigit, 1, some .boolean)
theorem ckX12_isDigit : Cond.code yX12_isDigit cX12_isDigit 1 (some .boolean) ∈ big := big_in (List.mem_of_getElem? (i := 1005) (by decide +kernel)) rfl
abbrev mX12_takes : zM := (yX12_takes, cX12_takes, 2, some .boolean)
theorem ckX12_takes : Cond.code yX12_takes cX12_takes 2 (some .boolean) ∈ big := big_in (List.mem_of_getElem? (i := 1011) (by decide +kernel)) rfl
abbrev mX12_lays : zM := (yX12_lays, cX12_lays, 3, none)
theorem ckX12_lays : Cond.code yX12_lays cX12_lays 3 (none) ∈ big := big_in (List.mem_of_getElem? (i := 1014) (by decide +kernel)) rfl
abbrev mX12_comesTold : zM := (yX12_comesTold, cX12_comesTold, 5, some .boolean)
theorem ckX12_comesTold : Cond.code yX12_comesTold cX12_comesTold 5 (some .boolean) ∈ big := big_in (List.mem_of_getElem? (i := 1018) (by decide +kernel)) rfl
abbrev mX12_puts : zM := (yX12_puts, cX12_puts, 4, none)
theorem ckX12_puts : Cond.code yX12_puts cX12_puts 4 (none) ∈ big := big_in (List.mem_of_getElem? (i := 1022) (by decide +kernel)) rfl
abbrev mX12_isBowl : zM := (yX12_isBowl, cX12_isBowl, 2, some .boolean)
theorem ckX12_isBowl : Cond.code yX12_isBowl cX12_isBowl 2 (some .boolean) ∈ big := big_in (List.mem_of_getElem? (i := 1026) (by decide +kernel)) rfl
abbrev mX12_get : zM := (yX12_get, cX12_get, 3, some .int)
theorem ckX12_get : Cond.code yX12_get cX12_get 3 (some .int) ∈ big := big_in (List.mem_of_getElem? (i := 1030) (by decide +kernel)) rfl
abbrev mX12_bowl : zM := (yX12_bowl, cX12_bowl, 3, some .int)
theorem ckX12_bowl : Cond.code yX12_bowl cX12_bowl 3 (some .int) ∈ big := big_in (List.mem_of_getElem? (i := 1034) (by decide +kernel)) rfl
abbrev mX12_outside : zM := (yX12_outside, cX12_outside, 2, some .int)
theorem ckX12_outside : Cond.code yX12_outside cX12_outside 2 (some .int) ∈ big := big_in (List.mem_of_getElem? (i := 1038) (by decide +kernel)) rfl
abbrev mX12_outsideBy : zM := (yX12_outsideBy, cX12_outsideBy, 4, some .int)
theorem ckX12_outsideBy : Cond.code yX12_outsideBy cX12_outsideBy 4 (some .int) ∈ big := big_in (List.mem_of_getElem? (i := 1042) (by decide +kernel)) rfl
abbrev mX12_turned : zM := (yX12_turned, cX12_turned, 2, some .int)
theorem ckX12_turned : Cond.code yX12_turned cX12_turned 2 (some .int) ∈ big := big_in (List.mem_of_getElem? (i := 1046) (by decide +kernel)) rfl
abbrev mX12_inside : zM := (yX12_inside, cX12_inside, 2, some .int)
theorem ckX12_inside : Cond.code yX12_inside cX12_inside 2 (some .int) ∈ big := big_in (List.mem_of_getElem? (i := 1050) (by decide +kernel)) rfl
abbrev mX12_insideBy : zM := (yX12_insideBy, cX12_insideBy, 5, some .int)
theorem ckX12_insideBy : Cond.code yX12_insideBy cX12_insideBy 5 (some .int) ∈ big := big_in (List.mem_of_getElem? (i := 1054) (by decide +kernel)) rfl
abbrev mX12_rise : zM := (yX12_rise, cX12_rise, 2, some .int)
theorem ckX12_rise : Cond.code yX12_rise cX12_rise 2 (some .int) ∈ big := big_in (List.mem_of_getElem? (i := 1058) (by decide +kernel)) rfl
abbrev mX12_comes : zM := (yX12_comes, cX12_comes, 6, some .int)
theorem ckX12_comes : Cond.code yX12_comes cX12_comes 6 (some .int) ∈ big := big_in (List.mem_of_getElem? (i := 1062) (by decide +kernel)) rfl
abbrev mX12_wrongKept : zM := (yX12_wrongKept, cX12_wrongKept, 2, some .int)
theorem ckX12_wrongKept : Cond.code yX12_wrongKept cX12_wrongKept 2 (some .int) ∈ big := big_in (List.mem_of_getElem? (i := 1067) (by decide +kernel)) rfl
abbrev mX12_adds : zM := (yX12_adds, cX12_adds, 6, none)
theorem ckX12_adds : Cond.code yX12_adds cX12_adds 6 (none) ∈ big := big_in (List.mem_of_getElem? (i := 1071) (by decide +kernel)) rfl
abbrev mX12_warm : zM := (yX12_warm, cX12_warm, 3, some .int)
theorem ckX12_warm : Cond.code yX12_warm cX12_warm 3 (some .int) ∈ big := big_in (List.mem_of_getElem? (i := 1075) (by decide +kernel)) rfl
abbrev mX12_turn : zM := (yX12_turn, cX12_turn, 2, some .int)
theorem ckX12_turn : Cond.code yX12_turn cX12_turn 2 (some .int) ∈ big := big_in (List.mem_of_getElem? (i := 1080) (by decide +kernel)) rfl
abbrev mX12_lies : zM := (yX12_lies, cX12_lies, 3, some .int)
theorem ckX12_lies : Cond.code yX12_lies cX12_lies 3 (some .int) ∈ big := big_in (List.mem_of_getElem? (i := 1084) (by decide +kernel)) rfl
abbrev mX12_liesNow : zM := (yX12_liesNow, cX12_liesNow, 3, some .boolean)
theorem ckX12_liesNow : Cond.code yX12_liesNow cX12_liesNow 3 (some .boolean) ∈ big := big_in (List.mem_of_getElem? (i := 1088) (by decide +kernel)) rfl
abbrev mX12_liesAt : zM := (yX12_liesAt, cX12_liesAt, 4, some .boolean)
theorem ckX12_liesAt : Cond.code yX12_liesAt cX12_liesAt 4 (some .boolean) ∈ big := big_in (List.mem_of_getElem? (i := 1092) (by decide +kernel)) rfl
abbrev mX12_fitsBut : zM := (yX12_fitsBut, cX12_fitsBut, 3, some .boolean)
theorem ckX12_fitsBut : Cond.code yX12_fitsBut cX12_fitsBut 3 (some .boolean) ∈ big := big_in (List.mem_of_getElem? (i := 1096) (by decide +kernel)) rfl
abbrev mX12_isOval : zM := (yX12_isOval, cX12_isOval, 2, some .boolean)
theorem ckX12_isOval : Cond.code yX12_isOval cX12_isOval 2 (some .boolean) ∈ big := big_in (List.mem_of_getElem? (i := 1100) (by decide +kernel)) rfl
abbrev mX12_nest : zM := (yX12_nest, cX12_nest, 2, some .int)
theorem ckX12_nest : Cond.code yX12_nest cX12_nest 2 (some .int) ∈ big := big_in (List.mem_of_getElem? (i := 1104) (by decide +kernel)) rfl
abbrev mX12_areBowls : zM := (yX12_areBowls, cX12_areBowls, 2, some .boolean)
theorem ckX12_areBowls : Cond.code yX12_areBowls cX12_areBowls 2 (some .boolean) ∈ big := big_in (List.mem_of_getElem? (i := 1108) (by decide +kernel)) rfl
abbrev mX12_everything : zM := (yX12_everything, cX12_everything, 1, some .int)
theorem ckX12_everything : Cond.code yX12_everything cX12_everything 1 (some .int) ∈ big := big_in (List.mem_of_getElem? (i := 1112) (by decide +kernel)) rfl
abbrev mX12_isNest : zM := (yX12_isNest, cX12_isNest, 5, some .boolean)
theorem ckX12_isNest : Cond.code yX12_isNest cX12_isNest 5 (some .boolean) ∈ big := big_in (List.mem_of_getElem? (i := 1116) (by decide +kernel)) rfl
abbrev mX12_outermost : zM := (yX12_outermost, cX12_outermost, 4, some .int)
theorem ckX12_outermost : Cond.code yX12_outermost cX12_outermost 4 (some .int) ∈ big := big_in (List.mem_of_getElem? (i := 1120) (by decide +kernel)) rfl
abbrev mX12_height : zM := (yX12_height, cX12_height, 2, some .int)
theorem ckX12_height : Cond.code yX12_height cX12_height 2 (some .int) ∈ big := big_in (List.mem_of_getElem? (i := 1124) (by decide +kernel)) rfl
abbrev mX12_heightOf : zM := (yX12_heightOf, cX12_heightOf, 5, some .int)
theorem ckX12_heightOf : Cond.code yX12_heightOf cX12_heightOf 5 (some .int) ∈ big := big_in (List.mem_of_getElem? (i := 1128) (by decide +kernel)) rfl
abbrev mX12_longest : zM := (yX12_longest, cX12_longest, 4, some .int)
theorem ckX12_longest : Cond.code yX12_longest cX12_longest 4 (some .int) ∈ big := big_in (List.mem_of_getElem? (i := 1132) (by decide +kernel)) rfl
abbrev mX12_longestOf : zM := (yX12_longestOf, cX12_longestOf, 4, some .int)
theorem ckX12_longestOf : Cond.code yX12_longestOf cX12_longestOf 4 (some .int) ∈ big := big_in (List.mem_of_getElem? (i := 1136) (by decide +kernel)) rfl
abbrev mX12_bits : zM := (yX12_bits, cX12_bits, 3, some .int)
theorem ckX12_bits : Cond.code yX12_bits cX12_bits 3 (some .int) ∈ big := big_in (List.mem_of_getElem? (i := 1139) (by decide +kernel)) rfl
abbrev mX12_fewest : zM := (yX12_fewest, cX12_fewest, 1, some .int)
theorem ckX12_fewest : Cond.code yX12_fewest cX12_fewest 1 (some .int) ∈ big := big_in (List.mem_of_getElem? (i := 1143) (by decide +kernel)) rfl
abbrev mX12_leastOf : zM := (yX12_leastOf, cX12_leastOf, 7, some .int)
theorem ckX12_leastOf : Cond.code yX12_leastOf cX12_leastOf 7 (some .int) ∈ big := big_in (List.mem_of_getElem? (i := 1147) (by decide +kernel)) rfl
abbrev mX12_counted : zM := (yX12_counted, cX12_counted, 5, some .int)
theorem ckX12_counted : Cond.code yX12_counted cX12_counted 5 (some .int) ∈ big := big_in (List.mem_of_getElem? (i := 1151) (by decide +kernel)) rfl
abbrev mX12_carry : zM := (yX12_carry, cX12_carry, 1, some .int)
theorem ckX12_carry : Cond.code yX12_carry cX12_carry 1 (some .int) ∈ big := big_in (List.mem_of_getElem? (i := 1156) (by decide +kernel)) rfl
abbrev mX12_load : zM := (yX12_load, cX12_load, 3, some .int)
theorem ckX12_load : Cond.code yX12_load cX12_load 3 (some .int) ∈ big := big_in (List.mem_of_getElem? (i := 1160) (by decide +kernel)) rfl
abbrev mX12_apart : zM := (yX12_apart, cX12_apart, 4, some .int)
theorem ckX12_apart : Cond.code yX12_apart cX12_apart 4 (some .int) ∈ big := big_in (List.mem_of_getElem? (i := 1164) (by decide +kernel)) rfl
abbrev mX12_areApart : zM := (yX12_areApart, cX12_areApart, 4, some .boolean)
theorem ckX12_areApart : Cond.code yX12_areApart cX12_areApart 4 (some .boolean) ∈ big := big_in (List.mem_of_getElem? (i := 1168) (by decide +kernel)) rfl
abbrev mX12_whole : zM := (yX12_whole, cX12_whole, 2, some .int)
theorem ckX12_whole : Cond.code yX12_whole cX12_whole 2 (some .int) ∈ big := big_in (List.mem_of_getElem? (i := 1172) (by decide +kernel)) rfl
abbrev mX12_wholeOf : zM := (yX12_wholeOf, cX12_wholeOf, 7, some .int)
theorem ckX12_wholeOf : Cond.code yX12_wholeOf cX12_wholeOf 7 (some .int) ∈ big := big_in (List.mem_of_getElem? (i := 1176) (by decide +kernel)) rfl
abbrev mX12_throwsNew : zM := (yX12_throwsNew, cX12_throwsNew, 5, some .int)
theorem ckX12_throwsNew : Cond.code yX12_throwsNew cX12_throwsNew 5 (some .int) ∈ big := big_in (List.mem_of_getElem? (i := 1180) (by decide +kernel)) rfl
abbrev mX12_canBeBetween : zM := (yX12_canBeBetween, cX12_canBeBetween, 6, some .boolean)
theorem ckX12_canBeBetween : Cond.code yX12_canBeBetween cX12_canBeBetween 6 (some .boolean) ∈ big := big_in (List.mem_of_getElem? (i := 1184) (by decide +kernel)) rfl
abbrev mX12_helps : zM := (yX12_helps, cX12_helps, 7, some .int)
theorem ckX12_helps : Cond.code yX12_helps cX12_helps 7 (some .int) ∈ big := big_in (List.mem_of_getElem? (i := 1188) (by decide +kernel)) rfl
abbrev mX12_longestRow : zM := (yX12_longestRow, cX12_longestRow, 6, some .int)
theorem ckX12_longestRow : Cond.code yX12_longestRow cX12_longestRow 6 (some .int) ∈ big := big_in (List.mem_of_getElem? (i := 1192) (by decide +kernel)) rfl
abbrev mX12_out : zM := (yX12_out, cX12_out, 6, some .int)
theorem ckX12_out : Cond.code yX12_out cX12_out 6 (some .int) ∈ big := big_in (List.mem_of_getElem? (i := 1196) (by decide +kernel)) rfl
abbrev mX12_wrongOut : zM := (yX12_wrongOut, cX12_wrongOut, 3, some .int)
theorem ckX12_wrongOut : Cond.code yX12_wrongOut cX12_wrongOut 3 (some .int) ∈ big := big_in (List.mem_of_getElem? (i := 1200) (by decide +kernel)) rfl
abbrev mX12_wrongAt : zM := (yX12_wrongAt, cX12_wrongAt, 5, some .int)
theorem ckX12_wrongAt : Cond.code yX12_wrongAt cX12_wrongAt 5 (some .int) ∈ big := big_in (List.mem_of_getElem? (i := 1204) (by decide +kernel)) rfl
abbrev mX12_judge : zM := (yX12_judge, cX12_judge, 3, some .int)
theorem ckX12_judge : Cond.code yX12_judge cX12_judge 3 (some .int) ∈ big := big_in (List.mem_of_getElem? (i := 1208) (by decide +kernel)) rfl
abbrev mX12_spans : zM := (yX12_spans, cX12_spans, 4, some .int)
theorem ckX12_spans : Cond.code yX12_spans cX12_spans 4 (some .int) ∈ big := big_in (List.mem_of_getElem? (i := 1212) (by decide +kernel)) rfl
abbrev mX12_spanOf : zM := (yX12_spanOf, cX12_spanOf, 7, some .int)
theorem ckX12_spanOf : Cond.code yX12_spanOf cX12_spanOf 7 (some .int) ∈ big := big_in (List.mem_of_getElem? (i := 1216) (by decide +kernel)) rfl
abbrev mX12_narrow : zM := (yX12_narrow, cX12_narrow, 2, some .int)
theorem ckX12_narrow : Cond.code yX12_narrow cX12_narrow 2 (some .int) ∈ big := big_in (List.mem_of_getElem? (i := 1219) (by decide +kernel)) rfl
abbrev mX12_next : zM := (yX12_next, cX12_next, 7, some .int)
theorem ckX12_next : Cond.code yX12_next cX12_next 7 (some .int) ∈ big := big_in (List.mem_of_getElem? (i := 1223) (by decide +kernel)) rfl
abbrev mX12_perhaps : zM := (yX12_perhaps, cX12_perhaps, 6, some .int)
theorem ckX12_perhaps : Cond.code yX12_perhaps cX12_perhaps 6 (some .int) ∈ big := big_in (List.mem_of_getElem? (i := 1227) (by decide +kernel)) rfl
abbrev mX12_from : zM := (yX12_from, cX12_from, 6, some .int)
theorem ckX12_from : Cond.code yX12_from cX12_from 6 (some .int) ∈ big := big_in (List.mem_of_getElem? (i := 1231) (by decide +kernel)) rfl
abbrev mX12_breaks : zM := (yX12_breaks, cX12_breaks, 6, some .int)
theorem ckX12_breaks : Cond.code yX12_breaks cX12_breaks 6 (some .int) ∈ big := big_in (List.mem_of_getElem? (i := 1235) (by decide +kernel)) rfl
abbrev mX12_drawn : zM := (yX12_drawn, cX12_drawn, 2, some .int)
theorem ckX12_drawn : Cond.code yX12_drawn cX12_drawn 2 (some .int) ∈ big := big_in (List.mem_of_getElem? (i := 1240) (by decide +kernel)) rfl
abbrev mX12_image : zM := (yX12_image, cX12_image, 1, some .int)
theorem ckX12_image : Cond.code yX12_image cX12_image 1 (some .int) ∈ big := big_in (List.mem_of_getElem? (i := 1247) (by decide +kernel)) rfl
abbrev mX12_restore : zM := (yX12_restore, cX12_restore, 1, some .int)
theorem ckX12_restore : Cond.code yX12_restore cX12_restore 1 (some .int) ∈ big := big_in (List.mem_of_getElem? (i := 1251) (by decide +kernel)) rfl
abbrev mX12_count : zM := (yX12_count, cX12_count, 5, some .int)
theorem ckX12_count : Cond.code yX12_count cX12_count 5 (some .int) ∈ big := big_in (List.mem_of_getElem? (i := 1255) (by decide +kernel)) rfl
abbrev mX12_keep : zM := (yX12_keep, cX12_keep, 5, some .int)
theorem ckX12_keep : Cond.code yX12_keep cX12_keep 5 (some .int) ∈ big := big_in (List.mem_of_getElem? (i := 1259) (by decide +kernel)) rfl
abbrev mX12_row : zM := (yX12_row, cX12_row, 5, some .int)
theorem ckX12_row : Cond.code yX12_row cX12_row 5 (some .int) ∈ big := big_in (List.mem_of_getElem? (i := 1263) (by decide +kernel)) rfl
abbrev mX12_put : zM := (yX12_put, cX12_put, 5, some .int)
theorem ckX12_put : Cond.code yX12_put cX12_put 5 (some .int) ∈ big := big_in (List.mem_of_getElem? (i := 1268) (by decide +kernel)) rfl
abbrev mX12_element : zM := (yX12_element, cX12_element, 3, some .long)
theorem ckX12_element : Cond.code yX12_element cX12_element 3 (some .long) ∈ big := big_in (List.mem_of_getElem? (i := 1272) (by decide +kernel)) rfl
abbrev mX12_copy : zM := (yX12_copy, cX12_copy, 8, some .int)
theorem ckX12_copy : Cond.code yX12_copy cX12_copy 8 (some .int) ∈ big := big_in (List.mem_of_getElem? (i := 1276) (by decide +kernel)) rfl
abbrev mX12_price : zM := (yX12_price, cX12_price, 3, some .int)
theorem ckX12_price : Cond.code yX12_price cX12_price 3 (some .int) ∈ big := big_in (List.mem_of_getElem? (i := 1280) (by decide +kernel)) rfl
abbrev mX12_priceBy : zM := (yX12_priceBy, cX12_priceBy, 2, some .int)
theorem ckX12_priceBy : Cond.code yX12_priceBy cX12_priceBy 2 (some .int) ∈ big := big_in (List.mem_of_getElem? (i := 1283) (by decide +kernel)) rfl
abbrev mX12_toss : zM := (yX12_toss, cX12_toss, 5, some .int)
theorem ckX12_toss : Cond.code yX12_toss cX12_toss 5 (some .int) ∈ big := big_in (List.mem_of_getElem? (i := 1287) (by decide +kernel)) rfl
theorem ikRL : Cond.initialized RL ∈ big := big_in (List.mem_of_getElem? (i := 0) (by decide +kernel)) rfl
theorem ikRX11 : Cond.initialized RX11 ∈ big := big_in (List.mem_of_getElem? (i := 1) (by decide +kernel)) rfl
theorem ikRX0 : Cond.initialized RX0 ∈ big := big_in (List.mem_of_getElem? (i := 2) (by decide +kernel)) rfl
theorem ikRX8 : Cond.initialized RX8 ∈ big := big_in (List.mem_of_getElem? (i := 3) (by decide +kernel)) rfl
theorem ikRX6 : Cond.initialized RX6 ∈ big := big_in (List.mem_of_getElem? (i := 4) (by decide +kernel)) rfl
theorem ikRX3 : Cond.initialized RX3 ∈ big := big_in (List.mem_of_getElem? (i := 5) (by decide +kernel)) rfl
theorem ikRX9 : Cond.initialized RX9 ∈ big := big_in (List.mem_of_getElem? (i := 6) (by decide +kernel)) rfl
theorem ikRX4 : Cond.initialized RX4 ∈ big := big_in (List.mem_of_getElem? (i := 7) (by decide +kernel)) rfl
theorem ikRX1 : Cond.initialized RX1 ∈ big := big_in (List.mem_of_getElem? (i := 8) (by decide +kernel)) rfl
theorem ikRX2 : Cond.initialized RX2 ∈ big := big_in (List.mem_of_getElem? (i := 9) (by decide +kernel)) rfl
theorem ikRX5 : Cond.initialized RX5 ∈ big := big_in (List.mem_of_getElem? (i := 10) (by decide +kernel)) rfl
theorem ikRX7 : Cond.initialized RX7 ∈ big := big_in (List.mem_of_getElem? (i := 11) (by decide +kernel)) rfl
theorem ikRX10 : Cond.initialized RX10 ∈ big := big_in (List.mem_of_getElem? (i := 12) (by decide +kernel)) rfl
theorem ikRX12 : Cond.initialized RX12 ∈ big := big_in (List.mem_of_getElem? (i := 13) (by decide +kernel)) rfl
theorem ikRJ10 : Cond.initialized RJ10 ∈ big := big_in (List.mem_of_getElem? (i := 14) (by decide +kernel)) rfl
theorem ikRJ9 : Cond.initialized RJ9 ∈ big := big_in (List.mem_of_getElem? (i := 15) (by decide +kernel)) rfl
theorem ikRJ6 : Cond.initialized RJ6 ∈ big := big_in (List.mem_of_getElem? (i := 16) (by decide +kernel)) rfl
theorem nkX11_init : Cond.instanceMethod yX11_init ∈ big := big_in (List.mem_of_getElem? (i := 26) (by decide +kernel)) rfl
theorem nkX0_init : Cond.instanceMethod yX0_init ∈ big := big_in (List.mem_of_getElem? (i := 35) (by decide +kernel)) rfl
theorem nkX8_init : Cond.instanceMethod yX8_init ∈ big := big_in (List.mem_of_getElem? (i := 42) (by decide +kernel)) rfl
theorem nkX6_init : Cond.instanceMethod yX6_init ∈ big := big_in (List.mem_of_getElem? (i := 49) (by decide +kernel)) rfl
theorem nkX3_init : Cond.instanceMethod yX3_init ∈ big := big_in (List.mem_of_getElem? (i := 56) (by decide +kernel)) rfl
theorem nkX9_init : Cond.instanceMethod yX9_init ∈ big := big_in (List.mem_of_getElem? (i := 63) (by decide +kernel)) rfl
theorem nkX4_init : Cond.instanceMethod yX4_init ∈ big := big_in (List.mem_of_getElem? (i := 70) (by decide +kernel)) rfl
theorem nkX1_init : Cond.instanceMethod yX1_init ∈ big := big_in (List.mem_of_getElem? (i := 77) (by decide +kernel)) rfl
theorem nkX2_init : Cond.instanceMethod yX2_init ∈ big := big_in (List.mem_of_getElem? (i := 84) (by decide +kernel)) rfl
theorem nkX5_init : Cond.instanceMethod yX5_init ∈ big := big_in (List.mem_of_getElem? (i := 91) (by decide +kernel)) rfl
theorem nkX7_init : Cond.instanceMethod yX7_init ∈ big := big_in (List.mem_of_getElem? (i := 138) (by decide +kernel)) rfl
theorem nkX10_init : Cond.instanceMethod yX10_init ∈ big := big_in (List.mem_of_getElem? (i := 179) (by decide +kernel)) rfl
theorem nkX11_heap : Cond.instanceMethod yX11_heap ∈ big := big_in (List.mem_of_getElem? (i := 230) (by decide +kernel)) rfl
theorem nkX11_bytesRefusal : Cond.instanceMethod yX11_bytesRefusal ∈ big := big_in (List.mem_of_getElem? (i := 235) (by decide +kernel)) rfl
theorem nkX11_shelfRefusal : Cond.instanceMethod yX11_shelfRefusal ∈ big := big_in (List.mem_of_getElem? (i := 239) (by decide +kernel)) rfl
theorem nkX10_faultOfForm : Cond.instanceMethod yX10_faultOfForm ∈ big := big_in (List.mem_of_getElem? (i := 248) (by decide +kernel)) rfl
theorem nkX10_statementEnd : Cond.instanceMethod yX10_statementEnd ∈ big := big_in (List.mem_of_getElem? (i := 252) (by decide +kernel)) rfl
theorem nkX10_at : Cond.instanceMethod yX10_at ∈ big := big_in (List.mem_of_getElem? (i := 256) (by decide +kernel)) rfl
theorem nkX10_hasPlace : Cond.instanceMethod yX10_hasPlace ∈ big := big_in (List.mem_of_getElem? (i := 260) (by decide +kernel)) rfl
theorem nkX10_digitEnd : Cond.instanceMethod yX10_digitEnd ∈ big := big_in (List.mem_of_getElem? (i := 265) (by decide +kernel)) rfl
theorem nkX10_isDigit : Cond.instanceMethod yX10_isDigit ∈ big := big_in (List.mem_of_getElem? (i := 269) (by decide +kernel)) rfl
theorem nkX10_numberEnd : Cond.instanceMethod yX10_numberEnd ∈ big := big_in (List.mem_of_getElem? (i := 272) (by decide +kernel)) rfl
theorem nkX10_signEnd : Cond.instanceMethod yX10_signEnd ∈ big := big_in (List.mem_of_getElem? (i := 277) (by decide +kernel)) rfl
theorem nkX11_tellAll : Cond.instanceMethod yX11_tellAll ∈ big := big_in (List.mem_of_getElem? (i := 281) (by decide +kernel)) rfl
theorem nkX5_become : Cond.instanceMethod yX5_become ∈ big := big_in (List.mem_of_getElem? (i := 284) (by decide +kernel)) rfl
theorem nkX5_tell : Cond.instanceMethod yX5_tell ∈ big := big_in (List.mem_of_getElem? (i := 291) (by decide +kernel)) rfl
theorem nkX5_tellBowl : Cond.instanceMethod yX5_tellBowl ∈ big := big_in (List.mem_of_getElem? (i := 297) (by decide +kernel)) rfl
theorem nkX10_digitAt : Cond.instanceMethod yX10_digitAt ∈ big := big_in (List.mem_of_getElem? (i := 300) (by decide +kernel)) rfl
theorem nkX10_numberAt : Cond.instanceMethod yX10_numberAt ∈ big := big_in (List.mem_of_getElem? (i := 304) (by decide +kernel)) rfl
theorem nkX5_add : Cond.instanceMethod yX5_add ∈ big := big_in (List.mem_of_getElem? (i := 310) (by decide +kernel)) rfl
theorem nkX5_place : Cond.instanceMethod yX5_place ∈ big := big_in (List.mem_of_getElem? (i := 315) (by decide +kernel)) rfl
theorem nkX5_flip : Cond.instanceMethod yX5_flip ∈ big := big_in (List.mem_of_getElem? (i := 318) (by decide +kernel)) rfl
theorem nkX5_has : Cond.instanceMethod yX5_has ∈ big := big_in (List.mem_of_getElem? (i := 322) (by decide +kernel)) rfl
theorem nkX5_dropLatest : Cond.instanceMethod yX5_dropLatest ∈ big := big_in (List.mem_of_getElem? (i := 326) (by decide +kernel)) rfl
theorem nkX11_bowl : Cond.instanceMethod yX11_bowl ∈ big := big_in (List.mem_of_getElem? (i := 331) (by decide +kernel)) rfl
theorem nkX5_outsideAt : Cond.instanceMethod yX5_outsideAt ∈ big := big_in (List.mem_of_getElem? (i := 336) (by decide +kernel)) rfl
theorem nkX0_outside : Cond.instanceMethod yX0_outside ∈ big := big_in (List.mem_of_getElem? (i := 340) (by decide +kernel)) rfl
theorem nkX6_outside : Cond.instanceMethod yX6_outside ∈ big := big_in (List.mem_of_getElem? (i := 345) (by decide +kernel)) rfl
theorem nkX4_outside : Cond.instanceMethod yX4_outside ∈ big := big_in (List.mem_of_getElem? (i := 353) (by decide +kernel)) rfl
theorem nkX8_outside : Cond.instanceMethod yX8_outside ∈ big := big_in (List.mem_of_getElem? (i := 360) (by decide +kernel)) rfl
theorem nkX9_outside : Cond.instanceMethod yX9_outside ∈ big := big_in (List.mem_of_getElem? (i := 364) (by decide +kernel)) rfl
theorem nkX5_insideAt : Cond.instanceMethod yX5_insideAt ∈ big := big_in (List.mem_of_getElem? (i := 369) (by decide +kernel)) rfl
theorem nkX0_inside : Cond.instanceMethod yX0_inside ∈ big := big_in (List.mem_of_getElem? (i := 373) (by decide +kernel)) rfl
theorem nkX3_inside : Cond.instanceMethod yX3_inside ∈ big := big_in (List.mem_of_getElem? (i := 377) (by decide +kernel)) rfl
theorem nkX6_inside : Cond.instanceMethod yX6_inside ∈ big := big_in (List.mem_of_getElem? (i := 381) (by decide +kernel)) rfl
theorem nkX4_inside : Cond.instanceMethod yX4_inside ∈ big := big_in (List.mem_of_getElem? (i := 385) (by decide +kernel)) rfl
theorem nkX8_inside : Cond.instanceMethod yX8_inside ∈ big := big_in (List.mem_of_getElem? (i := 390) (by decide +kernel)) rfl
theorem nkX5_riseOf : Cond.instanceMethod yX5_riseOf ∈ big := big_in (List.mem_of_getElem? (i := 396) (by decide +kernel)) rfl
theorem nkX0_rise : Cond.instanceMethod yX0_rise ∈ big := big_in (List.mem_of_getElem? (i := 400) (by decide +kernel)) rfl
theorem nkX1_rise : Cond.instanceMethod yX1_rise ∈ big := big_in (List.mem_of_getElem? (i := 404) (by decide +kernel)) rfl
theorem nkX3_rise : Cond.instanceMethod yX3_rise ∈ big := big_in (List.mem_of_getElem? (i := 407) (by decide +kernel)) rfl
theorem nkX2_rise : Cond.instanceMethod yX2_rise ∈ big := big_in (List.mem_of_getElem? (i := 411) (by decide +kernel)) rfl
theorem nkX6_rise : Cond.instanceMethod yX6_rise ∈ big := big_in (List.mem_of_getElem? (i := 414) (by decide +kernel)) rfl
theorem nkX11_comes : Cond.instanceMethod yX11_comes ∈ big := big_in (List.mem_of_getElem? (i := 424) (by decide +kernel)) rfl
theorem nkX11_bowlRefusal : Cond.instanceMethod yX11_bowlRefusal ∈ big := big_in (List.mem_of_getElem? (i := 432) (by decide +kernel)) rfl
theorem nkX11_warm : Cond.instanceMethod yX11_warm ∈ big := big_in (List.mem_of_getElem? (i := 436) (by decide +kernel)) rfl
theorem nkX11_turn : Cond.instanceMethod yX11_turn ∈ big := big_in (List.mem_of_getElem? (i := 443) (by decide +kernel)) rfl
theorem nkX11_lies : Cond.instanceMethod yX11_lies ∈ big := big_in (List.mem_of_getElem? (i := 448) (by decide +kernel)) rfl
theorem nkX11_arePair : Cond.instanceMethod yX11_arePair ∈ big := big_in (List.mem_of_getElem? (i := 453) (by decide +kernel)) rfl
theorem nkX5_isIn : Cond.instanceMethod yX5_isIn ∈ big := big_in (List.mem_of_getElem? (i := 456) (by decide +kernel)) rfl
theorem nkX5_agree : Cond.instanceMethod yX5_agree ∈ big := big_in (List.mem_of_getElem? (i := 461) (by decide +kernel)) rfl
theorem nkX0_minds : Cond.instanceMethod yX0_minds ∈ big := big_in (List.mem_of_getElem? (i := 464) (by decide +kernel)) rfl
theorem nkX8_minds : Cond.instanceMethod yX8_minds ∈ big := big_in (List.mem_of_getElem? (i := 473) (by decide +kernel)) rfl
theorem nkX11_nest : Cond.instanceMethod yX11_nest ∈ big := big_in (List.mem_of_getElem? (i := 480) (by decide +kernel)) rfl
theorem nkX11_areBowls : Cond.instanceMethod yX11_areBowls ∈ big := big_in (List.mem_of_getElem? (i := 485) (by decide +kernel)) rfl
theorem nkX5_all : Cond.instanceMethod yX5_all ∈ big := big_in (List.mem_of_getElem? (i := 488) (by decide +kernel)) rfl
theorem nkX5_heightOf : Cond.instanceMethod yX5_heightOf ∈ big := big_in (List.mem_of_getElem? (i := 492) (by decide +kernel)) rfl
theorem nkX5_arrange : Cond.instanceMethod yX5_arrange ∈ big := big_in (List.mem_of_getElem? (i := 496) (by decide +kernel)) rfl
theorem nkX11_height : Cond.instanceMethod yX11_height ∈ big := big_in (List.mem_of_getElem? (i := 502) (by decide +kernel)) rfl
theorem nkX11_longest : Cond.instanceMethod yX11_longest ∈ big := big_in (List.mem_of_getElem? (i := 506) (by decide +kernel)) rfl
theorem nkX7_findAll : Cond.instanceMethod yX7_findAll ∈ big := big_in (List.mem_of_getElem? (i := 510) (by decide +kernel)) rfl
theorem nkX7_growBy : Cond.instanceMethod yX7_growBy ∈ big := big_in (List.mem_of_getElem? (i := 520) (by decide +kernel)) rfl
theorem nkX7_note : Cond.instanceMethod yX7_note ∈ big := big_in (List.mem_of_getElem? (i := 525) (by decide +kernel)) rfl
theorem nkX7_longestOf : Cond.instanceMethod yX7_longestOf ∈ big := big_in (List.mem_of_getElem? (i := 528) (by decide +kernel)) rfl
theorem nkX7_isLonger : Cond.instanceMethod yX7_isLonger ∈ big := big_in (List.mem_of_getElem? (i := 533) (by decide +kernel)) rfl
theorem nkX11_fewest : Cond.instanceMethod yX11_fewest ∈ big := big_in (List.mem_of_getElem? (i := 543) (by decide +kernel)) rfl
theorem nkX7_costOneEach : Cond.instanceMethod yX7_costOneEach ∈ big := big_in (List.mem_of_getElem? (i := 548) (by decide +kernel)) rfl
theorem nkX7_leastSum : Cond.instanceMethod yX7_leastSum ∈ big := big_in (List.mem_of_getElem? (i := 553) (by decide +kernel)) rfl
theorem nkX11_apart : Cond.instanceMethod yX11_apart ∈ big := big_in (List.mem_of_getElem? (i := 557) (by decide +kernel)) rfl
theorem nkX7_mostApart : Cond.instanceMethod yX7_mostApart ∈ big := big_in (List.mem_of_getElem? (i := 561) (by decide +kernel)) rfl
theorem nkX7_isApart : Cond.instanceMethod yX7_isApart ∈ big := big_in (List.mem_of_getElem? (i := 566) (by decide +kernel)) rfl
theorem nkX11_carry : Cond.instanceMethod yX11_carry ∈ big := big_in (List.mem_of_getElem? (i := 569) (by decide +kernel)) rfl
theorem nkX7_costHeights : Cond.instanceMethod yX7_costHeights ∈ big := big_in (List.mem_of_getElem? (i := 573) (by decide +kernel)) rfl
theorem nkX11_load : Cond.instanceMethod yX11_load ∈ big := big_in (List.mem_of_getElem? (i := 577) (by decide +kernel)) rfl
theorem nkX11_whole : Cond.instanceMethod yX11_whole ∈ big := big_in (List.mem_of_getElem? (i := 581) (by decide +kernel)) rfl
theorem nkX7_costLessForSetsOf : Cond.instanceMethod yX7_costLessForSetsOf ∈ big := big_in (List.mem_of_getElem? (i := 585) (by decide +kernel)) rfl
theorem nkX11_throwsNew : Cond.instanceMethod yX11_throwsNew ∈ big := big_in (List.mem_of_getElem? (i := 589) (by decide +kernel)) rfl
theorem nkX5_think : Cond.instanceMethod yX5_think ∈ big := big_in (List.mem_of_getElem? (i := 594) (by decide +kernel)) rfl
theorem nkX11_isBridged : Cond.instanceMethod yX11_isBridged ∈ big := big_in (List.mem_of_getElem? (i := 599) (by decide +kernel)) rfl
theorem nkX11_helps : Cond.instanceMethod yX11_helps ∈ big := big_in (List.mem_of_getElem? (i := 602) (by decide +kernel)) rfl
theorem nkX7_findChains : Cond.instanceMethod yX7_findChains ∈ big := big_in (List.mem_of_getElem? (i := 606) (by decide +kernel)) rfl
theorem nkX7_lengthenInward : Cond.instanceMethod yX7_lengthenInward ∈ big := big_in (List.mem_of_getElem? (i := 611) (by decide +kernel)) rfl
theorem nkX7_lengthenOutward : Cond.instanceMethod yX7_lengthenOutward ∈ big := big_in (List.mem_of_getElem? (i := 616) (by decide +kernel)) rfl
theorem nkX7_longestWith : Cond.instanceMethod yX7_longestWith ∈ big := big_in (List.mem_of_getElem? (i := 619) (by decide +kernel)) rfl
theorem nkX11_out : Cond.instanceMethod yX11_out ∈ big := big_in (List.mem_of_getElem? (i := 623) (by decide +kernel)) rfl
theorem nkX11_firstMisplaced : Cond.instanceMethod yX11_firstMisplaced ∈ big := big_in (List.mem_of_getElem? (i := 628) (by decide +kernel)) rfl
theorem nkX11_judge : Cond.instanceMethod yX11_judge ∈ big := big_in (List.mem_of_getElem? (i := 632) (by decide +kernel)) rfl
theorem nkX11_rowRefusal : Cond.instanceMethod yX11_rowRefusal ∈ big := big_in (List.mem_of_getElem? (i := 637) (by decide +kernel)) rfl
theorem nkX11_spans : Cond.instanceMethod yX11_spans ∈ big := big_in (List.mem_of_getElem? (i := 640) (by decide +kernel)) rfl
theorem nkX5_spanned : Cond.instanceMethod yX5_spanned ∈ big := big_in (List.mem_of_getElem? (i := 644) (by decide +kernel)) rfl
theorem nkX11_next : Cond.instanceMethod yX11_next ∈ big := big_in (List.mem_of_getElem? (i := 649) (by decide +kernel)) rfl
theorem nkX11_pairsPerhaps : Cond.instanceMethod yX11_pairsPerhaps ∈ big := big_in (List.mem_of_getElem? (i := 654) (by decide +kernel)) rfl
theorem nkX11_from : Cond.instanceMethod yX11_from ∈ big := big_in (List.mem_of_getElem? (i := 657) (by decide +kernel)) rfl
theorem nkX11_breaks : Cond.instanceMethod yX11_breaks ∈ big := big_in (List.mem_of_getElem? (i := 661) (by decide +kernel)) rfl
theorem nkX11_brokenBy : Cond.instanceMethod yX11_brokenBy ∈ big := big_in (List.mem_of_getElem? (i := 666) (by decide +kernel)) rfl
theorem nkX11_image : Cond.instanceMethod yX11_image ∈ big := big_in (List.mem_of_getElem? (i := 672) (by decide +kernel)) rfl
theorem nkX11_restore : Cond.instanceMethod yX11_restore ∈ big := big_in (List.mem_of_getElem? (i := 676) (by decide +kernel)) rfl
theorem nkX11_count : Cond.instanceMethod yX11_count ∈ big := big_in (List.mem_of_getElem? (i := 680) (by decide +kernel)) rfl
theorem nkX5_pairsIn : Cond.instanceMethod yX5_pairsIn ∈ big := big_in (List.mem_of_getElem? (i := 684) (by decide +kernel)) rfl
theorem nkX5_allDepths : Cond.instanceMethod yX5_allDepths ∈ big := big_in (List.mem_of_getElem? (i := 688) (by decide +kernel)) rfl
theorem nkX11_keep : Cond.instanceMethod yX11_keep ∈ big := big_in (List.mem_of_getElem? (i := 692) (by decide +kernel)) rfl
theorem nkX10_clear : Cond.instanceMethod yX10_clear ∈ big := big_in (List.mem_of_getElem? (i := 696) (by decide +kernel)) rfl
theorem nkX10_holdBowl : Cond.instanceMethod yX10_holdBowl ∈ big := big_in (List.mem_of_getElem? (i := 700) (by decide +kernel)) rfl
theorem nkX11_row : Cond.instanceMethod yX11_row ∈ big := big_in (List.mem_of_getElem? (i := 704) (by decide +kernel)) rfl
theorem nkX10_holdRow : Cond.instanceMethod yX10_holdRow ∈ big := big_in (List.mem_of_getElem? (i := 708) (by decide +kernel)) rfl
theorem nkX11_put : Cond.instanceMethod yX11_put ∈ big := big_in (List.mem_of_getElem? (i := 712) (by decide +kernel)) rfl
theorem nkX10_set : Cond.instanceMethod yX10_set ∈ big := big_in (List.mem_of_getElem? (i := 717) (by decide +kernel)) rfl
theorem nkX11_copy : Cond.instanceMethod yX11_copy ∈ big := big_in (List.mem_of_getElem? (i := 721) (by decide +kernel)) rfl
theorem nkX10_hasStretch : Cond.instanceMethod yX10_hasStretch ∈ big := big_in (List.mem_of_getElem? (i := 725) (by decide +kernel)) rfl
theorem nkX11_price : Cond.instanceMethod yX11_price ∈ big := big_in (List.mem_of_getElem? (i := 730) (by decide +kernel)) rfl
theorem nkX0_cost : Cond.instanceMethod yX0_cost ∈ big := big_in (List.mem_of_getElem? (i := 734) (by decide +kernel)) rfl
theorem nkX1_cost : Cond.instanceMethod yX1_cost ∈ big := big_in (List.mem_of_getElem? (i := 738) (by decide +kernel)) rfl
theorem nkX3_cost : Cond.instanceMethod yX3_cost ∈ big := big_in (List.mem_of_getElem? (i := 741) (by decide +kernel)) rfl
theorem nkX2_cost : Cond.instanceMethod yX2_cost ∈ big := big_in (List.mem_of_getElem? (i := 745) (by decide +kernel)) rfl
theorem nkX6_cost : Cond.instanceMethod yX6_cost ∈ big := big_in (List.mem_of_getElem? (i := 748) (by decide +kernel)) rfl
theorem nkX4_cost : Cond.instanceMethod yX4_cost ∈ big := big_in (List.mem_of_getElem? (i := 753) (by decide +kernel)) rfl
theorem nkX8_cost : Cond.instanceMethod yX8_cost ∈ big := big_in (List.mem_of_getElem? (i := 758) (by decide +kernel)) rfl
theorem nkX9_cost : Cond.instanceMethod yX9_cost ∈ big := big_in (List.mem_of_getElem? (i := 762) (by decide +kernel)) rfl
theorem nkX11_toss : Cond.instanceMethod yX11_toss ∈ big := big_in (List.mem_of_getElem? (i := 767) (by decide +kernel)) rfl
theorem nkX0_fail : Cond.instanceMethod yX0_fail ∈ big := big_in (List.mem_of_getElem? (i := 774) (by decide +kernel)) rfl
theorem nkX2_fail : Cond.instanceMethod yX2_fail ∈ big := big_in (List.mem_of_getElem? (i := 779) (by decide +kernel)) rfl
theorem nkX4_fail : Cond.instanceMethod yX4_fail ∈ big := big_in (List.mem_of_getElem? (i := 851) (by decide +kernel)) rfl
theorem nkX9_fail : Cond.instanceMethod yX9_fail ∈ big := big_in (List.mem_of_getElem? (i := 872) (by decide +kernel)) rfl
theorem nkX11_element : Cond.instanceMethod yX11_element ∈ big := big_in (List.mem_of_getElem? (i := 897) (by decide +kernel)) rfl
theorem nkX12_init : Cond.instanceMethod yX12_init ∈ big := big_in (List.mem_of_getElem? (i := 907) (by decide +kernel)) rfl
theorem nkX12_thrown : Cond.instanceMethod yX12_thrown ∈ big := big_in (List.mem_of_getElem? (i := 972) (by decide +kernel)) rfl
theorem nkX12_heap : Cond.instanceMethod yX12_heap ∈ big := big_in (List.mem_of_getElem? (i := 976) (by decide +kernel)) rfl
theorem nkX12_wrongRow : Cond.instanceMethod yX12_wrongRow ∈ big := big_in (List.mem_of_getElem? (i := 981) (by decide +kernel)) rfl
theorem nkX12_readsStatement : Cond.instanceMethod yX12_readsStatement ∈ big := big_in (List.mem_of_getElem? (i := 992) (by decide +kernel)) rfl
theorem nkX12_here : Cond.instanceMethod yX12_here ∈ big := big_in (List.mem_of_getElem? (i := 996) (by decide +kernel)) rfl
theorem nkX12_readsNumber : Cond.instanceMethod yX12_readsNumber ∈ big := big_in (List.mem_of_getElem? (i := 1000) (by decide +kernel)) rfl
theorem nkX12_isDigit : Cond.instanceMethod yX12_isDigit ∈ big := big_in (List.mem_of_getElem? (i := 1004) (by decide +kernel)) rfl
theorem nkX12_takes : Cond.instanceMethod yX12_takes ∈ big := big_in (List.mem_of_getElem? (i := 1010) (by decide +kernel)) rfl
theorem nkX12_comesTold : Cond.instanceMethod yX12_comesTold ∈ big := big_in (List.mem_of_getElem? (i := 1017) (by decide +kernel)) rfl
theorem nkX12_puts : Cond.instanceMethod yX12_puts ∈ big := big_in (List.mem_of_getElem? (i := 1021) (by decide +kernel)) rfl
theorem nkX12_isBowl : Cond.instanceMethod yX12_isBowl ∈ big := big_in (List.mem_of_getElem? (i := 1025) (by decide +kernel)) rfl
theorem nkX12_get : Cond.instanceMethod yX12_get ∈ big := big_in (List.mem_of_getElem? (i := 1029) (by decide +kernel)) rfl
theorem nkX12_bowl : Cond.instanceMethod yX12_bowl ∈ big := big_in (List.mem_of_getElem? (i := 1032) (by decide +kernel)) rfl
theorem nkX12_outside : Cond.instanceMethod yX12_outside ∈ big := big_in (List.mem_of_getElem? (i := 1037) (by decide +kernel)) rfl
theorem nkX12_outsideBy : Cond.instanceMethod yX12_outsideBy ∈ big := big_in (List.mem_of_getElem? (i := 1041) (by decide +kernel)) rfl
theorem nkX12_turned : Cond.instanceMethod yX12_turned ∈ big := big_in (List.mem_of_getElem? (i := 1045) (by decide +kernel)) rfl
theorem nkX12_inside : Cond.instanceMethod yX12_inside ∈ big := big_in (List.mem_of_getElem? (i := 1049) (by decide +kernel)) rfl
theorem nkX12_insideBy : Cond.instanceMethod yX12_insideBy ∈ big := big_in (List.mem_of_getElem? (i := 1053) (by decide +kernel)) rfl
theorem nkX12_rise : Cond.instanceMethod yX12_rise ∈ big := big_in (List.mem_of_getElem? (i := 1057) (by decide +kernel)) rfl
theorem nkX12_comes : Cond.instanceMethod yX12_comes ∈ big := big_in (List.mem_of_getElem? (i := 1060) (by decide +kernel)) rfl
theorem nkX12_wrongKept : Cond.instanceMethod yX12_wrongKept ∈ big := big_in (List.mem_of_getElem? (i := 1066) (by decide +kernel)) rfl
theorem nkX12_adds : Cond.instanceMethod yX12_adds ∈ big := big_in (List.mem_of_getElem? (i := 1070) (by decide +kernel)) rfl
theorem nkX12_warm : Cond.instanceMethod yX12_warm ∈ big := big_in (List.mem_of_getElem? (i := 1073) (by decide +kernel)) rfl
theorem nkX12_turn : Cond.instanceMethod yX12_turn ∈ big := big_in (List.mem_of_getElem? (i := 1078) (by decide +kernel)) rfl
theorem nkX12_lies : Cond.instanceMethod yX12_lies ∈ big := big_in (List.mem_of_getElem? (i := 1082) (by decide +kernel)) rfl
theorem nkX12_liesNow : Cond.instanceMethod yX12_liesNow ∈ big := big_in (List.mem_of_getElem? (i := 1087) (by decide +kernel)) rfl
theorem nkX12_liesAt : Cond.instanceMethod yX12_liesAt ∈ big := big_in (List.mem_of_getElem? (i := 1091) (by decide +kernel)) rfl
theorem nkX12_fitsBut : Cond.instanceMethod yX12_fitsBut ∈ big := big_in (List.mem_of_getElem? (i := 1095) (by decide +kernel)) rfl
theorem nkX12_isOval : Cond.instanceMethod yX12_isOval ∈ big := big_in (List.mem_of_getElem? (i := 1099) (by decide +kernel)) rfl
theorem nkX12_nest : Cond.instanceMethod yX12_nest ∈ big := big_in (List.mem_of_getElem? (i := 1102) (by decide +kernel)) rfl
theorem nkX12_areBowls : Cond.instanceMethod yX12_areBowls ∈ big := big_in (List.mem_of_getElem? (i := 1107) (by decide +kernel)) rfl
theorem nkX12_everything : Cond.instanceMethod yX12_everything ∈ big := big_in (List.mem_of_getElem? (i := 1111) (by decide +kernel)) rfl
theorem nkX12_isNest : Cond.instanceMethod yX12_isNest ∈ big := big_in (List.mem_of_getElem? (i := 1115) (by decide +kernel)) rfl
theorem nkX12_outermost : Cond.instanceMethod yX12_outermost ∈ big := big_in (List.mem_of_getElem? (i := 1119) (by decide +kernel)) rfl
theorem nkX12_height : Cond.instanceMethod yX12_height ∈ big := big_in (List.mem_of_getElem? (i := 1122) (by decide +kernel)) rfl
theorem nkX12_heightOf : Cond.instanceMethod yX12_heightOf ∈ big := big_in (List.mem_of_getElem? (i := 1127) (by decide +kernel)) rfl
theorem nkX12_longest : Cond.instanceMethod yX12_longest ∈ big := big_in (List.mem_of_getElem? (i := 1130) (by decide +kernel)) rfl
theorem nkX12_longestOf : Cond.instanceMethod yX12_longestOf ∈ big := big_in (List.mem_of_getElem? (i := 1135) (by decide +kernel)) rfl
theorem nkX12_fewest : Cond.instanceMethod yX12_fewest ∈ big := big_in (List.mem_of_getElem? (i := 1141) (by decide +kernel)) rfl
theorem nkX12_leastOf : Cond.instanceMethod yX12_leastOf ∈ big := big_in (List.mem_of_getElem? (i := 1146) (by decide +kernel)) rfl
theorem nkX12_counted : Cond.instanceMethod yX12_counted ∈ big := big_in (List.mem_of_getElem? (i := 1150) (by decide +kernel)) rfl
theorem nkX12_carry : Cond.instanceMethod yX12_carry ∈ big := big_in (List.mem_of_getElem? (i := 1154) (by decide +kernel)) rfl
theorem nkX12_load : Cond.instanceMethod yX12_load ∈ big := big_in (List.mem_of_getElem? (i := 1158) (by decide +kernel)) rfl
theorem nkX12_apart : Cond.instanceMethod yX12_apart ∈ big := big_in (List.mem_of_getElem? (i := 1162) (by decide +kernel)) rfl
theorem nkX12_areApart : Cond.instanceMethod yX12_areApart ∈ big := big_in (List.mem_of_getElem? (i := 1167) (by decide +kernel)) rfl
theorem nkX12_whole : Cond.instanceMethod yX12_whole ∈ big := big_in (List.mem_of_getElem? (i := 1170) (by decide +kernel)) rfl
theorem nkX12_wholeOf : Cond.instanceMethod yX12_wholeOf ∈ big := big_in (List.mem_of_getElem? (i := 1175) (by decide +kernel)) rfl
theorem nkX12_throwsNew : Cond.instanceMethod yX12_throwsNew ∈ big := big_in (List.mem_of_getElem? (i := 1178) (by decide +kernel)) rfl
theorem nkX12_canBeBetween : Cond.instanceMethod yX12_canBeBetween ∈ big := big_in (List.mem_of_getElem? (i := 1183) (by decide +kernel)) rfl
theorem nkX12_helps : Cond.instanceMethod yX12_helps ∈ big := big_in (List.mem_of_getElem? (i := 1186) (by decide +kernel)) rfl
theorem nkX12_longestRow : Cond.instanceMethod yX12_longestRow ∈ big := big_in (List.mem_of_getElem? (i := 1191) (by decide +kernel)) rfl
theorem nkX12_out : Cond.instanceMethod yX12_out ∈ big := big_in (List.mem_of_getElem? (i := 1194) (by decide +kernel)) rfl
theorem nkX12_wrongOut : Cond.instanceMethod yX12_wrongOut ∈ big := big_in (List.mem_of_getElem? (i := 1199) (by decide +kernel)) rfl
theorem nkX12_wrongAt : Cond.instanceMethod yX12_wrongAt ∈ big := big_in (List.mem_of_getElem? (i := 1203) (by decide +kernel)) rfl
theorem nkX12_judge : Cond.instanceMethod yX12_judge ∈ big := big_in (List.mem_of_getElem? (i := 1206) (by decide +kernel)) rfl
theorem nkX12_spans : Cond.instanceMethod yX12_spans ∈ big := big_in (List.mem_of_getElem? (i := 1210) (by decide +kernel)) rfl
theorem nkX12_spanOf : Cond.instanceMethod yX12_spanOf ∈ big := big_in (List.mem_of_getElem? (i := 1215) (by decide +kernel)) rfl
theorem nkX12_next : Cond.instanceMethod yX12_next ∈ big := big_in (List.mem_of_getElem? (i := 1221) (by decide +kernel)) rfl
theorem nkX12_perhaps : Cond.instanceMethod yX12_perhaps ∈ big := big_in (List.mem_of_getElem? (i := 1226) (by decide +kernel)) rfl
theorem nkX12_from : Cond.instanceMethod yX12_from ∈ big := big_in (List.mem_of_getElem? (i := 1229) (by decide +kernel)) rfl
theorem nkX12_breaks : Cond.instanceMethod yX12_breaks ∈ big := big_in (List.mem_of_getElem? (i := 1233) (by decide +kernel)) rfl
theorem nkX12_drawn : Cond.instanceMethod yX12_drawn ∈ big := big_in (List.mem_of_getElem? (i := 1239) (by decide +kernel)) rfl
theorem nkX12_image : Cond.instanceMethod yX12_image ∈ big := big_in (List.mem_of_getElem? (i := 1245) (by decide +kernel)) rfl
theorem nkX12_restore : Cond.instanceMethod yX12_restore ∈ big := big_in (List.mem_of_getElem? (i := 1249) (by decide +kernel)) rfl
theorem nkX12_count : Cond.instanceMethod yX12_count ∈ big := big_in (List.mem_of_getElem? (i := 1253) (by decide +kernel)) rfl
theorem nkX12_keep : Cond.instanceMethod yX12_keep ∈ big := big_in (List.mem_of_getElem? (i := 1257) (by decide +kernel)) rfl
theorem nkX12_row : Cond.instanceMethod yX12_row ∈ big := big_in (List.mem_of_getElem? (i := 1261) (by decide +kernel)) rfl
theorem nkX12_put : Cond.instanceMethod yX12_put ∈ big := big_in (List.mem_of_getElem? (i := 1266) (by decide +kernel)) rfl
theorem nkX12_element : Cond.instanceMethod yX12_element ∈ big := big_in (List.mem_of_getElem? (i := 1270) (by decide +kernel)) rfl
theorem nkX12_copy : Cond.instanceMethod yX12_copy ∈ big := big_in (List.mem_of_getElem? (i := 1274) (by decide +kernel)) rfl
theorem nkX12_price : Cond.instanceMethod yX12_price ∈ big := big_in (List.mem_of_getElem? (i := 1278) (by decide +kernel)) rfl
theorem nkX12_toss : Cond.instanceMethod yX12_toss ∈ big := big_in (List.mem_of_getElem? (i := 1285) (by decide +kernel)) rfl
theorem skX11_isShelf : Cond.static yX11_isShelf ∈ big := big_in (List.mem_of_getElem? (i := 242) (by decide +kernel)) rfl
theorem skX11_isWithin : Cond.static yX11_isWithin ∈ big := big_in (List.mem_of_getElem? (i := 245) (by decide +kernel)) rfl
theorem skJ9_max_7cf53 : Cond.static yJ9_max_7cf53 ∈ big := big_in (List.mem_of_getElem? (i := 349) (by decide +kernel)) rfl
theorem skX11_areHairs : Cond.static yX11_areHairs ∈ big := big_in (List.mem_of_getElem? (i := 428) (by decide +kernel)) rfl
theorem skX11_isWarmth : Cond.static yX11_isWarmth ∈ big := big_in (List.mem_of_getElem? (i := 440) (by decide +kernel)) rfl
theorem skJ9_min_7cf53 : Cond.static yJ9_min_7cf53 ∈ big := big_in (List.mem_of_getElem? (i := 514) (by decide +kernel)) rfl
theorem skJ6_bitCount_0f7a4 : Cond.static yJ6_bitCount_0f7a4 ∈ big := big_in (List.mem_of_getElem? (i := 536) (by decide +kernel)) rfl
theorem skL_element : Cond.static yL_element ∈ big := big_in (List.mem_of_getElem? (i := 892) (by decide +kernel)) rfl
theorem skX12_isShelf : Cond.static yX12_isShelf ∈ big := big_in (List.mem_of_getElem? (i := 984) (by decide +kernel)) rfl
theorem skX12_isIn : Cond.static yX12_isIn ∈ big := big_in (List.mem_of_getElem? (i := 988) (by decide +kernel)) rfl
theorem skX12_lays : Cond.static yX12_lays ∈ big := big_in (List.mem_of_getElem? (i := 1013) (by decide +kernel)) rfl
theorem skX12_bits : Cond.static yX12_bits ∈ big := big_in (List.mem_of_getElem? (i := 1138) (by decide +kernel)) rfl
theorem skX12_narrow : Cond.static yX12_narrow ∈ big := big_in (List.mem_of_getElem? (i := 1218) (by decide +kernel)) rfl
theorem skX12_priceBy : Cond.static yX12_priceBy ∈ big := big_in (List.mem_of_getElem? (i := 1282) (by decide +kernel)) rfl
theorem vkX10_numberAt : Cond.selects yX10_numberAt.cls yX10_numberAt yX10_numberAt ∈ big := big_in (List.mem_of_getElem? (i := 305) (by decide +kernel)) rfl
-- no selects: X6_rise
-- no selects: X2_rise
theorem vkX11_image : Cond.selects yX11_image.cls yX11_image yX11_image ∈ big := big_in (List.mem_of_getElem? (i := 673) (by decide +kernel)) rfl
-- no selects: X1_rise
theorem vkX5_flip : Cond.selects yX5_flip.cls yX5_flip yX5_flip ∈ big := big_in (List.mem_of_getElem? (i := 319) (by decide +kernel)) rfl
theorem vkX7_leastSum : Cond.selects yX7_leastSum.cls yX7_leastSum yX7_leastSum ∈ big := big_in (List.mem_of_getElem? (i := 554) (by decide +kernel)) rfl
theorem vkX12_drawn : Cond.selects yX12_drawn.cls yX12_drawn yX12_drawn ∈ big := big_sel (q := (yX12_drawn, 20)) (List.mem_of_getElem? (i := 62) (by decide +kernel))
theorem vkX11_bytesRefusal : Cond.selects yX11_bytesRefusal.cls yX11_bytesRefusal yX11_bytesRefusal ∈ big := big_sel (q := (yX11_bytesRefusal, 7)) (List.mem_of_getElem? (i := 0) (by decide +kernel))
theorem vkX12_longestOf : Cond.selects yX12_longestOf.cls yX12_longestOf yX12_longestOf ∈ big := big_sel (q := (yX12_longestOf, 20)) (List.mem_of_getElem? (i := 51) (by decide +kernel))
theorem vkX12_judge : Cond.selects yX12_judge.cls yX12_judge yX12_judge ∈ big := big_in (List.mem_of_getElem? (i := 1207) (by decide +kernel)) rfl
theorem vkX5_agree : Cond.selects yX5_agree.cls yX5_agree yX5_agree ∈ big := big_sel (q := (yX5_agree, 9)) (List.mem_of_getElem? (i := 10) (by decide +kernel))
-- no selects: X4_inside
theorem vkX5_heightOf : Cond.selects yX5_heightOf.cls yX5_heightOf yX5_heightOf ∈ big := big_in (List.mem_of_getElem? (i := 493) (by decide +kernel)) rfl
theorem vkX12_wholeOf : Cond.selects yX12_wholeOf.cls yX12_wholeOf yX12_wholeOf ∈ big := big_sel (q := (yX12_wholeOf, 20)) (List.mem_of_getElem? (i := 55) (by decide +kernel))
theorem vkX11_bowl : Cond.selects yX11_bowl.cls yX11_bowl yX11_bowl ∈ big := big_in (List.mem_of_getElem? (i := 332) (by decide +kernel)) rfl
theorem vkX12_toss : Cond.selects yX12_toss.cls yX12_toss yX12_toss ∈ big := big_in (List.mem_of_getElem? (i := 1286) (by decide +kernel)) rfl
theorem vkX11_height : Cond.selects yX11_height.cls yX11_height yX11_height ∈ big := big_in (List.mem_of_getElem? (i := 503) (by decide +kernel)) rfl
theorem vkX12_liesAt : Cond.selects yX12_liesAt.cls yX12_liesAt yX12_liesAt ∈ big := big_sel (q := (yX12_liesAt, 20)) (List.mem_of_getElem? (i := 43) (by decide +kernel))
theorem vkX10_statementEnd : Cond.selects yX10_statementEnd.cls yX10_statementEnd yX10_statementEnd ∈ big := big_in (List.mem_of_getElem? (i := 253) (by decide +kernel)) rfl
theorem vkX7_findChains : Cond.selects yX7_findChains.cls yX7_findChains yX7_findChains ∈ big := big_in (List.mem_of_getElem? (i := 607) (by decide +kernel)) rfl
theorem vkX10_clear : Cond.selects yX10_clear.cls yX10_clear yX10_clear ∈ big := big_in (List.mem_of_getElem? (i := 697) (by decide +kernel)) rfl
theorem vkX11_lies : Cond.selects yX11_lies.cls yX11_lies yX11_lies ∈ big := big_in (List.mem_of_getElem? (i := 449) (by decide +kernel)) rfl
theorem vkX7_isLonger : Cond.selects yX7_isLonger.cls yX7_isLonger yX7_isLonger ∈ big := big_sel (q := (yX7_isLonger, 11)) (List.mem_of_getElem? (i := 14) (by decide +kernel))
theorem vkX11_throwsNew : Cond.selects yX11_throwsNew.cls yX11_throwsNew yX11_throwsNew ∈ big := big_in (List.mem_of_getElem? (i := 590) (by decide +kernel)) rfl
theorem vkX12_readsStatement : Cond.selects yX12_readsStatement.cls yX12_readsStatement yX12_readsStatement ∈ big := big_sel (q := (yX12_readsStatement, 20)) (List.mem_of_getElem? (i := 25) (by decide +kernel))
theorem vkX11_row : Cond.selects yX11_row.cls yX11_row yX11_row ∈ big := big_in (List.mem_of_getElem? (i := 705) (by decide +kernel)) rfl
theorem vkX12_longest : Cond.selects yX12_longest.cls yX12_longest yX12_longest ∈ big := big_in (List.mem_of_getElem? (i := 1131) (by decide +kernel)) rfl
theorem vkX12_heightOf : Cond.selects yX12_heightOf.cls yX12_heightOf yX12_heightOf ∈ big := big_sel (q := (yX12_heightOf, 20)) (List.mem_of_getElem? (i := 50) (by decide +kernel))
theorem vkX5_tell : Cond.selects yX5_tell.cls yX5_tell yX5_tell ∈ big := big_in (List.mem_of_getElem? (i := 292) (by decide +kernel)) rfl
theorem vkX11_turn : Cond.selects yX11_turn.cls yX11_turn yX11_turn ∈ big := big_in (List.mem_of_getElem? (i := 444) (by decide +kernel)) rfl
theorem vkX11_comes : Cond.selects yX11_comes.cls yX11_comes yX11_comes ∈ big := big_in (List.mem_of_getElem? (i := 425) (by decide +kernel)) rfl
theorem vkX12_heap : Cond.selects yX12_heap.cls yX12_heap yX12_heap ∈ big := big_in (List.mem_of_getElem? (i := 977) (by decide +kernel)) rfl
theorem vkX12_next : Cond.selects yX12_next.cls yX12_next yX12_next ∈ big := big_in (List.mem_of_getElem? (i := 1222) (by decide +kernel)) rfl
theorem vkX12_perhaps : Cond.selects yX12_perhaps.cls yX12_perhaps yX12_perhaps ∈ big := big_sel (q := (yX12_perhaps, 20)) (List.mem_of_getElem? (i := 61) (by decide +kernel))
theorem vkX7_isApart : Cond.selects yX7_isApart.cls yX7_isApart yX7_isApart ∈ big := big_sel (q := (yX7_isApart, 11)) (List.mem_of_getElem? (i := 15) (by decide +kernel))
theorem vkX11_copy : Cond.selects yX11_copy.cls yX11_copy yX11_copy ∈ big := big_in (List.mem_of_getElem? (i := 722) (by decide +kernel)) rfl
theorem vkX11_warm : Cond.selects yX11_warm.cls yX11_warm yX11_warm ∈ big := big_in (List.mem_of_getElem? (i := 437) (by decide +kernel)) rfl
theorem vkX12_thrown : Cond.selects yX12_thrown.cls yX12_thrown yX12_thrown ∈ big := big_in (List.mem_of_getElem? (i := 973) (by decide +kernel)) rfl
theorem vkX12_keep : Cond.selects yX12_keep.cls yX12_keep yX12_keep ∈ big := big_in (List.mem_of_getElem? (i := 1258) (by decide +kernel)) rfl
theorem vkX5_allDepths : Cond.selects yX5_allDepths.cls yX5_allDepths yX5_allDepths ∈ big := big_in (List.mem_of_getElem? (i := 689) (by decide +kernel)) rfl
-- no selects: X1_cost
theorem vkX12_isNest : Cond.selects yX12_isNest.cls yX12_isNest yX12_isNest ∈ big := big_sel (q := (yX12_isNest, 20)) (List.mem_of_getElem? (i := 48) (by decide +kernel))
theorem vkX11_helps : Cond.selects yX11_helps.cls yX11_helps yX11_helps ∈ big := big_in (List.mem_of_getElem? (i := 603) (by decide +kernel)) rfl
theorem vkX11_from : Cond.selects yX11_from.cls yX11_from yX11_from ∈ big := big_in (List.mem_of_getElem? (i := 658) (by decide +kernel)) rfl
theorem vkX12_turned : Cond.selects yX12_turned.cls yX12_turned yX12_turned ∈ big := big_sel (q := (yX12_turned, 20)) (List.mem_of_getElem? (i := 36) (by decide +kernel))
theorem vkX12_canBeBetween : Cond.selects yX12_canBeBetween.cls yX12_canBeBetween yX12_canBeBetween ∈ big := big_sel (q := (yX12_canBeBetween, 20)) (List.mem_of_getElem? (i := 56) (by decide +kernel))
theorem vkX12_wrongOut : Cond.selects yX12_wrongOut.cls yX12_wrongOut yX12_wrongOut ∈ big := big_sel (q := (yX12_wrongOut, 20)) (List.mem_of_getElem? (i := 58) (by decide +kernel))
theorem vkX11_price : Cond.selects yX11_price.cls yX11_price yX11_price ∈ big := big_in (List.mem_of_getElem? (i := 731) (by decide +kernel)) rfl
theorem vkX11_breaks : Cond.selects yX11_breaks.cls yX11_breaks yX11_breaks ∈ big := big_in (List.mem_of_getElem? (i := 662) (by decide +kernel)) rfl
theorem vkX7_lengthenInward : Cond.selects yX7_lengthenInward.cls yX7_lengthenInward yX7_lengthenInward ∈ big := big_sel (q := (yX7_lengthenInward, 11)) (List.mem_of_getElem? (i := 17) (by decide +kernel))
theorem vkX12_insideBy : Cond.selects yX12_insideBy.cls yX12_insideBy yX12_insideBy ∈ big := big_sel (q := (yX12_insideBy, 20)) (List.mem_of_getElem? (i := 38) (by decide +kernel))
theorem vkX12_whole : Cond.selects yX12_whole.cls yX12_whole yX12_whole ∈ big := big_in (List.mem_of_getElem? (i := 1171) (by decide +kernel)) rfl
theorem vkX7_findAll : Cond.selects yX7_findAll.cls yX7_findAll yX7_findAll ∈ big := big_in (List.mem_of_getElem? (i := 511) (by decide +kernel)) rfl
theorem vkX12_element : Cond.selects yX12_element.cls yX12_element yX12_element ∈ big := big_in (List.mem_of_getElem? (i := 1271) (by decide +kernel)) rfl
theorem vkX11_out : Cond.selects yX11_out.cls yX11_out yX11_out ∈ big := big_in (List.mem_of_getElem? (i := 624) (by decide +kernel)) rfl
theorem vkX11_tellAll : Cond.selects yX11_tellAll.cls yX11_tellAll yX11_tellAll ∈ big := big_sel (q := (yX11_tellAll, 7)) (List.mem_of_getElem? (i := 5) (by decide +kernel))
theorem vkX11_put : Cond.selects yX11_put.cls yX11_put yX11_put ∈ big := big_in (List.mem_of_getElem? (i := 713) (by decide +kernel)) rfl
theorem vkX11_pairsPerhaps : Cond.selects yX11_pairsPerhaps.cls yX11_pairsPerhaps yX11_pairsPerhaps ∈ big := big_sel (q := (yX11_pairsPerhaps, 7)) (List.mem_of_getElem? (i := 21) (by decide +kernel))
theorem vkX10_digitEnd : Cond.selects yX10_digitEnd.cls yX10_digitEnd yX10_digitEnd ∈ big := big_sel (q := (yX10_digitEnd, 6)) (List.mem_of_getElem? (i := 2) (by decide +kernel))
-- no selects: X9_outside
-- no selects: X8_minds
theorem vkX12_inside : Cond.selects yX12_inside.cls yX12_inside yX12_inside ∈ big := big_sel (q := (yX12_inside, 20)) (List.mem_of_getElem? (i := 37) (by decide +kernel))
theorem vkX7_longestWith : Cond.selects yX7_longestWith.cls yX7_longestWith yX7_longestWith ∈ big := big_in (List.mem_of_getElem? (i := 620) (by decide +kernel)) rfl
theorem vkX11_restore : Cond.selects yX11_restore.cls yX11_restore yX11_restore ∈ big := big_in (List.mem_of_getElem? (i := 677) (by decide +kernel)) rfl
theorem vkX12_isDigit : Cond.selects yX12_isDigit.cls yX12_isDigit yX12_isDigit ∈ big := big_sel (q := (yX12_isDigit, 20)) (List.mem_of_getElem? (i := 28) (by decide +kernel))
theorem vkX12_adds : Cond.selects yX12_adds.cls yX12_adds yX12_adds ∈ big := big_sel (q := (yX12_adds, 20)) (List.mem_of_getElem? (i := 41) (by decide +kernel))
theorem vkX0_minds : Cond.selects yX0_minds.cls yX0_minds yX0_minds ∈ big := big_in (List.mem_of_getElem? (i := 465) (by decide +kernel)) rfl
theorem vkX5_arrange : Cond.selects yX5_arrange.cls yX5_arrange yX5_arrange ∈ big := big_in (List.mem_of_getElem? (i := 497) (by decide +kernel)) rfl
theorem vkX11_shelfRefusal : Cond.selects yX11_shelfRefusal.cls yX11_shelfRefusal yX11_shelfRefusal ∈ big := big_sel (q := (yX11_shelfRefusal, 7)) (List.mem_of_getElem? (i := 1) (by decide +kernel))
theorem vkX11_brokenBy : Cond.selects yX11_brokenBy.cls yX11_brokenBy yX11_brokenBy ∈ big := big_sel (q := (yX11_brokenBy, 7)) (List.mem_of_getElem? (i := 22) (by decide +kernel))
theorem vkX11_fewest : Cond.selects yX11_fewest.cls yX11_fewest yX11_fewest ∈ big := big_in (List.mem_of_getElem? (i := 544) (by decide +kernel)) rfl
theorem vkX11_arePair : Cond.selects yX11_arePair.cls yX11_arePair yX11_arePair ∈ big := big_sel (q := (yX11_arePair, 7)) (List.mem_of_getElem? (i := 9) (by decide +kernel))
theorem vkX12_count : Cond.selects yX12_count.cls yX12_count yX12_count ∈ big := big_in (List.mem_of_getElem? (i := 1254) (by decide +kernel)) rfl
theorem vkX12_nest : Cond.selects yX12_nest.cls yX12_nest yX12_nest ∈ big := big_in (List.mem_of_getElem? (i := 1103) (by decide +kernel)) rfl
-- no selects: X3_inside
theorem vkX12_isBowl : Cond.selects yX12_isBowl.cls yX12_isBowl yX12_isBowl ∈ big := big_sel (q := (yX12_isBowl, 20)) (List.mem_of_getElem? (i := 32) (by decide +kernel))
theorem vkX12_copy : Cond.selects yX12_copy.cls yX12_copy yX12_copy ∈ big := big_in (List.mem_of_getElem? (i := 1275) (by decide +kernel)) rfl
theorem vkX10_digitAt : Cond.selects yX10_digitAt.cls yX10_digitAt yX10_digitAt ∈ big := big_in (List.mem_of_getElem? (i := 301) (by decide +kernel)) rfl
theorem vkX7_note : Cond.selects yX7_note.cls yX7_note yX7_note ∈ big := big_sel (q := (yX7_note, 11)) (List.mem_of_getElem? (i := 13) (by decide +kernel))
theorem vkX12_apart : Cond.selects yX12_apart.cls yX12_apart yX12_apart ∈ big := big_in (List.mem_of_getElem? (i := 1163) (by decide +kernel)) rfl
theorem vkX11_heap : Cond.selects yX11_heap.cls yX11_heap yX11_heap ∈ big := big_in (List.mem_of_getElem? (i := 231) (by decide +kernel)) rfl
theorem vkX12_rise : Cond.selects yX12_rise.cls yX12_rise yX12_rise ∈ big := big_sel (q := (yX12_rise, 20)) (List.mem_of_getElem? (i := 39) (by decide +kernel))
theorem vkX12_outermost : Cond.selects yX12_outermost.cls yX12_outermost yX12_outermost ∈ big := big_sel (q := (yX12_outermost, 20)) (List.mem_of_getElem? (i := 49) (by decide +kernel))
-- no selects: X8_outside
theorem vkX12_wrongAt : Cond.selects yX12_wrongAt.cls yX12_wrongAt yX12_wrongAt ∈ big := big_sel (q := (yX12_wrongAt, 20)) (List.mem_of_getElem? (i := 59) (by decide +kernel))
theorem vkX11_isBridged : Cond.selects yX11_isBridged.cls yX11_isBridged yX11_isBridged ∈ big := big_sel (q := (yX11_isBridged, 7)) (List.mem_of_getElem? (i := 16) (by decide +kernel))
theorem vkX7_lengthenOutward : Cond.selects yX7_lengthenOutward.cls yX7_lengthenOutward yX7_lengthenOutward ∈ big := big_sel (q := (yX7_lengthenOutward, 11)) (List.mem_of_getElem? (i := 18) (by decide +kernel))
-- no selects: X9_fail
theorem vkX12_spans : Cond.selects yX12_spans.cls yX12_spans yX12_spans ∈ big := big_in (List.mem_of_getElem? (i := 1211) (by decide +kernel)) rfl
theorem vkX12_here : Cond.selects yX12_here.cls yX12_here yX12_here ∈ big := big_sel (q := (yX12_here, 20)) (List.mem_of_getElem? (i := 26) (by decide +kernel))
theorem vkX11_spans : Cond.selects yX11_spans.cls yX11_spans yX11_spans ∈ big := big_in (List.mem_of_getElem? (i := 641) (by decide +kernel)) rfl
theorem vkX11_judge : Cond.selects yX11_judge.cls yX11_judge yX11_judge ∈ big := big_in (List.mem_of_getElem? (i := 633) (by decide +kernel)) rfl
theorem vkX10_holdBowl : Cond.selects yX10_holdBowl.cls yX10_holdBowl yX10_holdBowl ∈ big := big_in (List.mem_of_getElem? (i := 701) (by decide +kernel)) rfl
theorem vkX12_carry : Cond.selects yX12_carry.cls yX12_carry yX12_carry ∈ big := big_in (List.mem_of_getElem? (i := 1155) (by decide +kernel)) rfl
theorem vkX0_outside : Cond.selects yX0_outside.cls yX0_outside yX0_outside ∈ big := big_in (List.mem_of_getElem? (i := 341) (by decide +kernel)) rfl
theorem vkX11_apart : Cond.selects yX11_apart.cls yX11_apart yX11_apart ∈ big := big_in (List.mem_of_getElem? (i := 558) (by decide +kernel)) rfl
-- no selects: X9_cost
-- no selects: X6_outside
theorem vkX5_think : Cond.selects yX5_think.cls yX5_think yX5_think ∈ big := big_in (List.mem_of_getElem? (i := 595) (by decide +kernel)) rfl
theorem vkX5_spanned : Cond.selects yX5_spanned.cls yX5_spanned yX5_spanned ∈ big := big_in (List.mem_of_getElem? (i := 645) (by decide +kernel)) rfl
theorem vkX5_all : Cond.selects yX5_all.cls yX5_all yX5_all ∈ big := big_in (List.mem_of_getElem? (i := 489) (by decide +kernel)) rfl
theorem vkX12_longestRow : Cond.selects yX12_longestRow.cls yX12_longestRow yX12_longestRow ∈ big := big_sel (q := (yX12_longestRow, 20)) (List.mem_of_getElem? (i := 57) (by decide +kernel))
theorem vkX5_place : Cond.selects yX5_place.cls yX5_place yX5_place ∈ big := big_sel (q := (yX5_place, 9)) (List.mem_of_getElem? (i := 7) (by decide +kernel))
theorem vkX7_costOneEach : Cond.selects yX7_costOneEach.cls yX7_costOneEach yX7_costOneEach ∈ big := big_in (List.mem_of_getElem? (i := 549) (by decide +kernel)) rfl
theorem vkX12_image : Cond.selects yX12_image.cls yX12_image yX12_image ∈ big := big_in (List.mem_of_getElem? (i := 1246) (by decide +kernel)) rfl
theorem vkX5_dropLatest : Cond.selects yX5_dropLatest.cls yX5_dropLatest yX5_dropLatest ∈ big := big_in (List.mem_of_getElem? (i := 327) (by decide +kernel)) rfl
theorem vkX12_price : Cond.selects yX12_price.cls yX12_price yX12_price ∈ big := big_in (List.mem_of_getElem? (i := 1279) (by decide +kernel)) rfl
theorem vkX10_isDigit : Cond.selects yX10_isDigit.cls yX10_isDigit yX10_isDigit ∈ big := big_sel (q := (yX10_isDigit, 6)) (List.mem_of_getElem? (i := 3) (by decide +kernel))
theorem vkX10_hasPlace : Cond.selects yX10_hasPlace.cls yX10_hasPlace yX10_hasPlace ∈ big := big_in (List.mem_of_getElem? (i := 261) (by decide +kernel)) rfl
theorem vkX12_outsideBy : Cond.selects yX12_outsideBy.cls yX12_outsideBy yX12_outsideBy ∈ big := big_sel (q := (yX12_outsideBy, 20)) (List.mem_of_getElem? (i := 35) (by decide +kernel))
-- no selects: X2_fail
theorem vkX10_set : Cond.selects yX10_set.cls yX10_set yX10_set ∈ big := big_in (List.mem_of_getElem? (i := 718) (by decide +kernel)) rfl
theorem vkX12_put : Cond.selects yX12_put.cls yX12_put yX12_put ∈ big := big_in (List.mem_of_getElem? (i := 1267) (by decide +kernel)) rfl
theorem vkX12_takes : Cond.selects yX12_takes.cls yX12_takes yX12_takes ∈ big := big_sel (q := (yX12_takes, 20)) (List.mem_of_getElem? (i := 29) (by decide +kernel))
theorem vkX7_costHeights : Cond.selects yX7_costHeights.cls yX7_costHeights yX7_costHeights ∈ big := big_in (List.mem_of_getElem? (i := 574) (by decide +kernel)) rfl
theorem vkX12_counted : Cond.selects yX12_counted.cls yX12_counted yX12_counted ∈ big := big_sel (q := (yX12_counted, 20)) (List.mem_of_getElem? (i := 53) (by decide +kernel))
theorem vkX10_signEnd : Cond.selects yX10_signEnd.cls yX10_signEnd yX10_signEnd ∈ big := big_sel (q := (yX10_signEnd, 6)) (List.mem_of_getElem? (i := 4) (by decide +kernel))
theorem vkX12_everything : Cond.selects yX12_everything.cls yX12_everything yX12_everything ∈ big := big_sel (q := (yX12_everything, 20)) (List.mem_of_getElem? (i := 47) (by decide +kernel))
theorem vkX11_areBowls : Cond.selects yX11_areBowls.cls yX11_areBowls yX11_areBowls ∈ big := big_sel (q := (yX11_areBowls, 7)) (List.mem_of_getElem? (i := 11) (by decide +kernel))
theorem vkX11_rowRefusal : Cond.selects yX11_rowRefusal.cls yX11_rowRefusal yX11_rowRefusal ∈ big := big_sel (q := (yX11_rowRefusal, 7)) (List.mem_of_getElem? (i := 20) (by decide +kernel))
theorem vkX7_growBy : Cond.selects yX7_growBy.cls yX7_growBy yX7_growBy ∈ big := big_sel (q := (yX7_growBy, 11)) (List.mem_of_getElem? (i := 12) (by decide +kernel))
-- no selects: X3_rise
theorem vkX12_bowl : Cond.selects yX12_bowl.cls yX12_bowl yX12_bowl ∈ big := big_in (List.mem_of_getElem? (i := 1033) (by decide +kernel)) rfl
theorem vkX7_longestOf : Cond.selects yX7_longestOf.cls yX7_longestOf yX7_longestOf ∈ big := big_in (List.mem_of_getElem? (i := 529) (by decide +kernel)) rfl
theorem vkX5_has : Cond.selects yX5_has.cls yX5_has yX5_has ∈ big := big_in (List.mem_of_getElem? (i := 323) (by decide +kernel)) rfl
theorem vkX10_numberEnd : Cond.selects yX10_numberEnd.cls yX10_numberEnd yX10_numberEnd ∈ big := big_in (List.mem_of_getElem? (i := 273) (by decide +kernel)) rfl
theorem vkX12_outside : Cond.selects yX12_outside.cls yX12_outside yX12_outside ∈ big := big_sel (q := (yX12_outside, 20)) (List.mem_of_getElem? (i := 34) (by decide +kernel))
theorem vkX11_longest : Cond.selects yX11_longest.cls yX11_longest yX11_longest ∈ big := big_in (List.mem_of_getElem? (i := 507) (by decide +kernel)) rfl
theorem vkX0_cost : Cond.selects yX0_cost.cls yX0_cost yX0_cost ∈ big := big_in (List.mem_of_getElem? (i := 735) (by decide +kernel)) rfl
theorem vkX12_puts : Cond.selects yX12_puts.cls yX12_puts yX12_puts ∈ big := big_sel (q := (yX12_puts, 20)) (List.mem_of_getElem? (i := 31) (by decide +kernel))
theorem vkX12_height : Cond.selects yX12_height.cls yX12_height yX12_height ∈ big := big_in (List.mem_of_getElem? (i := 1123) (by decide +kernel)) rfl
-- no selects: X6_cost
theorem vkX7_costLessForSetsOf : Cond.selects yX7_costLessForSetsOf.cls yX7_costLessForSetsOf yX7_costLessForSetsOf ∈ big := big_in (List.mem_of_getElem? (i := 586) (by decide +kernel)) rfl
theorem vkX5_add : Cond.selects yX5_add.cls yX5_add yX5_add ∈ big := big_in (List.mem_of_getElem? (i := 311) (by decide +kernel)) rfl
theorem vkX11_load : Cond.selects yX11_load.cls yX11_load yX11_load ∈ big := big_in (List.mem_of_getElem? (i := 578) (by decide +kernel)) rfl
theorem vkX11_next : Cond.selects yX11_next.cls yX11_next yX11_next ∈ big := big_in (List.mem_of_getElem? (i := 650) (by decide +kernel)) rfl
theorem vkX12_row : Cond.selects yX12_row.cls yX12_row yX12_row ∈ big := big_in (List.mem_of_getElem? (i := 1262) (by decide +kernel)) rfl
theorem vkX12_lies : Cond.selects yX12_lies.cls yX12_lies yX12_lies ∈ big := big_in (List.mem_of_getElem? (i := 1083) (by decide +kernel)) rfl
theorem vkX11_keep : Cond.selects yX11_keep.cls yX11_keep yX11_keep ∈ big := big_in (List.mem_of_getElem? (i := 693) (by decide +kernel)) rfl
theorem vkX12_throwsNew : Cond.selects yX12_throwsNew.cls yX12_throwsNew yX12_throwsNew ∈ big := big_in (List.mem_of_getElem? (i := 1179) (by decide +kernel)) rfl
theorem vkX5_riseOf : Cond.selects yX5_riseOf.cls yX5_riseOf yX5_riseOf ∈ big := big_in (List.mem_of_getElem? (i := 397) (by decide +kernel)) rfl
theorem vkX10_hasStretch : Cond.selects yX10_hasStretch.cls yX10_hasStretch yX10_hasStretch ∈ big := big_in (List.mem_of_getElem? (i := 726) (by decide +kernel)) rfl
theorem vkX12_warm : Cond.selects yX12_warm.cls yX12_warm yX12_warm ∈ big := big_in (List.mem_of_getElem? (i := 1074) (by decide +kernel)) rfl
theorem vkX11_carry : Cond.selects yX11_carry.cls yX11_carry yX11_carry ∈ big := big_in (List.mem_of_getElem? (i := 570) (by decide +kernel)) rfl
theorem vkX12_from : Cond.selects yX12_from.cls yX12_from yX12_from ∈ big := big_in (List.mem_of_getElem? (i := 1230) (by decide +kernel)) rfl
theorem vkX12_wrongRow : Cond.selects yX12_wrongRow.cls yX12_wrongRow yX12_wrongRow ∈ big := big_sel (q := (yX12_wrongRow, 20)) (List.mem_of_getElem? (i := 24) (by decide +kernel))
theorem vkX12_comes : Cond.selects yX12_comes.cls yX12_comes yX12_comes ∈ big := big_in (List.mem_of_getElem? (i := 1061) (by decide +kernel)) rfl
theorem vkX12_turn : Cond.selects yX12_turn.cls yX12_turn yX12_turn ∈ big := big_in (List.mem_of_getElem? (i := 1079) (by decide +kernel)) rfl
theorem vkX11_firstMisplaced : Cond.selects yX11_firstMisplaced.cls yX11_firstMisplaced yX11_firstMisplaced ∈ big := big_sel (q := (yX11_firstMisplaced, 7)) (List.mem_of_getElem? (i := 19) (by decide +kernel))
theorem vkX12_comesTold : Cond.selects yX12_comesTold.cls yX12_comesTold yX12_comesTold ∈ big := big_sel (q := (yX12_comesTold, 20)) (List.mem_of_getElem? (i := 30) (by decide +kernel))
theorem vkX0_inside : Cond.selects yX0_inside.cls yX0_inside yX0_inside ∈ big := big_in (List.mem_of_getElem? (i := 374) (by decide +kernel)) rfl
theorem vkX5_isIn : Cond.selects yX5_isIn.cls yX5_isIn yX5_isIn ∈ big := big_in (List.mem_of_getElem? (i := 457) (by decide +kernel)) rfl
theorem vkX7_mostApart : Cond.selects yX7_mostApart.cls yX7_mostApart yX7_mostApart ∈ big := big_in (List.mem_of_getElem? (i := 562) (by decide +kernel)) rfl
theorem vkX11_whole : Cond.selects yX11_whole.cls yX11_whole yX11_whole ∈ big := big_in (List.mem_of_getElem? (i := 582) (by decide +kernel)) rfl
theorem vkX5_insideAt : Cond.selects yX5_insideAt.cls yX5_insideAt yX5_insideAt ∈ big := big_in (List.mem_of_getElem? (i := 370) (by decide +kernel)) rfl
-- no selects: X6_inside
theorem vkX12_fitsBut : Cond.selects yX12_fitsBut.cls yX12_fitsBut yX12_fitsBut ∈ big := big_sel (q := (yX12_fitsBut, 20)) (List.mem_of_getElem? (i := 44) (by decide +kernel))
theorem vkX11_element : Cond.selects yX11_element.cls yX11_element yX11_element ∈ big := big_in (List.mem_of_getElem? (i := 898) (by decide +kernel)) rfl
theorem vkX12_isOval : Cond.selects yX12_isOval.cls yX12_isOval yX12_isOval ∈ big := big_sel (q := (yX12_isOval, 20)) (List.mem_of_getElem? (i := 45) (by decide +kernel))
theorem vkX12_readsNumber : Cond.selects yX12_readsNumber.cls yX12_readsNumber yX12_readsNumber ∈ big := big_sel (q := (yX12_readsNumber, 20)) (List.mem_of_getElem? (i := 27) (by decide +kernel))
-- no selects: X4_outside
-- no selects: X8_inside
theorem vkX12_helps : Cond.selects yX12_helps.cls yX12_helps yX12_helps ∈ big := big_in (List.mem_of_getElem? (i := 1187) (by decide +kernel)) rfl
theorem vkX5_tellBowl : Cond.selects yX5_tellBowl.cls yX5_tellBowl yX5_tellBowl ∈ big := big_sel (q := (yX5_tellBowl, 9)) (List.mem_of_getElem? (i := 6) (by decide +kernel))
theorem vkX5_pairsIn : Cond.selects yX5_pairsIn.cls yX5_pairsIn yX5_pairsIn ∈ big := big_in (List.mem_of_getElem? (i := 685) (by decide +kernel)) rfl
theorem vkX12_get : Cond.selects yX12_get.cls yX12_get yX12_get ∈ big := big_sel (q := (yX12_get, 20)) (List.mem_of_getElem? (i := 33) (by decide +kernel))
theorem vkX0_fail : Cond.selects yX0_fail.cls yX0_fail yX0_fail ∈ big := big_in (List.mem_of_getElem? (i := 775) (by decide +kernel)) rfl
theorem vkX12_breaks : Cond.selects yX12_breaks.cls yX12_breaks yX12_breaks ∈ big := big_in (List.mem_of_getElem? (i := 1234) (by decide +kernel)) rfl
-- no selects: X4_fail
theorem vkX12_out : Cond.selects yX12_out.cls yX12_out yX12_out ∈ big := big_in (List.mem_of_getElem? (i := 1195) (by decide +kernel)) rfl
theorem vkX12_wrongKept : Cond.selects yX12_wrongKept.cls yX12_wrongKept yX12_wrongKept ∈ big := big_sel (q := (yX12_wrongKept, 20)) (List.mem_of_getElem? (i := 40) (by decide +kernel))
theorem vkX12_areBowls : Cond.selects yX12_areBowls.cls yX12_areBowls yX12_areBowls ∈ big := big_sel (q := (yX12_areBowls, 20)) (List.mem_of_getElem? (i := 46) (by decide +kernel))
theorem vkX11_count : Cond.selects yX11_count.cls yX11_count yX11_count ∈ big := big_in (List.mem_of_getElem? (i := 681) (by decide +kernel)) rfl
-- no selects: X3_cost
theorem vkX5_outsideAt : Cond.selects yX5_outsideAt.cls yX5_outsideAt yX5_outsideAt ∈ big := big_in (List.mem_of_getElem? (i := 337) (by decide +kernel)) rfl
theorem vkX10_faultOfForm : Cond.selects yX10_faultOfForm.cls yX10_faultOfForm yX10_faultOfForm ∈ big := big_in (List.mem_of_getElem? (i := 249) (by decide +kernel)) rfl
theorem vkX11_nest : Cond.selects yX11_nest.cls yX11_nest yX11_nest ∈ big := big_in (List.mem_of_getElem? (i := 481) (by decide +kernel)) rfl
theorem vkX12_leastOf : Cond.selects yX12_leastOf.cls yX12_leastOf yX12_leastOf ∈ big := big_sel (q := (yX12_leastOf, 20)) (List.mem_of_getElem? (i := 52) (by decide +kernel))
theorem vkX12_areApart : Cond.selects yX12_areApart.cls yX12_areApart yX12_areApart ∈ big := big_sel (q := (yX12_areApart, 20)) (List.mem_of_getElem? (i := 54) (by decide +kernel))
-- no selects: X2_cost
-- no selects: X8_cost
theorem vkX10_at : Cond.selects yX10_at.cls yX10_at yX10_at ∈ big := big_in (List.mem_of_getElem? (i := 257) (by decide +kernel)) rfl
theorem vkX12_spanOf : Cond.selects yX12_spanOf.cls yX12_spanOf yX12_spanOf ∈ big := big_sel (q := (yX12_spanOf, 20)) (List.mem_of_getElem? (i := 60) (by decide +kernel))
theorem vkX11_bowlRefusal : Cond.selects yX11_bowlRefusal.cls yX11_bowlRefusal yX11_bowlRefusal ∈ big := big_sel (q := (yX11_bowlRefusal, 7)) (List.mem_of_getElem? (i := 8) (by decide +kernel))
theorem vkX12_restore : Cond.selects yX12_restore.cls yX12_restore yX12_restore ∈ big := big_in (List.mem_of_getElem? (i := 1250) (by decide +kernel)) rfl
theorem vkX12_load : Cond.selects yX12_load.cls yX12_load yX12_load ∈ big := big_in (List.mem_of_getElem? (i := 1159) (by decide +kernel)) rfl
theorem vkX5_become : Cond.selects yX5_become.cls yX5_become yX5_become ∈ big := big_in (List.mem_of_getElem? (i := 285) (by decide +kernel)) rfl
-- no selects: X4_cost
theorem vkX12_liesNow : Cond.selects yX12_liesNow.cls yX12_liesNow yX12_liesNow ∈ big := big_sel (q := (yX12_liesNow, 20)) (List.mem_of_getElem? (i := 42) (by decide +kernel))
theorem vkX10_holdRow : Cond.selects yX10_holdRow.cls yX10_holdRow yX10_holdRow ∈ big := big_in (List.mem_of_getElem? (i := 709) (by decide +kernel)) rfl
theorem vkX12_fewest : Cond.selects yX12_fewest.cls yX12_fewest yX12_fewest ∈ big := big_in (List.mem_of_getElem? (i := 1142) (by decide +kernel)) rfl
theorem vkX0_rise : Cond.selects yX0_rise.cls yX0_rise yX0_rise ∈ big := big_in (List.mem_of_getElem? (i := 401) (by decide +kernel)) rfl
theorem dkX10_numberAt : yX10_numberAt.cls ≠ "java/lang/invoke/MethodHandle" ∧ yX10_numberAt.cls ≠ "java/lang/invoke/VarHandle" ∧ (parseMethodDescriptor yX10_numberAt.desc).map (fun d => d.parameters.length) = some 1 := by decide +kernel
theorem dkX6_rise : yX6_rise.cls ≠ "java/lang/invoke/MethodHandle" ∧ yX6_rise.cls ≠ "java/lang/invoke/VarHandle" ∧ (parseMethodDescriptor yX6_rise.desc).map (fun d => d.parameters.length) = some 1 := by decide +kernel
theorem dkX2_rise : yX2_rise.cls ≠ "java/lang/invoke/MethodHandle" ∧ yX2_rise.cls ≠ "java/lang/invoke/VarHandle" ∧ (parseMethodDescriptor yX2_rise.desc).map (fun d => d.parameters.length) = some 1 := by decide +kernel
theorem dkX11_image : yX11_image.cls ≠ "java/lang/invoke/MethodHandle" ∧ yX11_image.cls ≠ "java/lang/invoke/VarHandle" ∧ (parseMethodDescriptor yX11_image.desc).map (fun d => d.parameters.length) = some 0 := by decide +kernel
theorem dkX12_isIn : yX12_isIn.cls ≠ "java/lang/invoke/MethodHandle" ∧ yX12_isIn.cls ≠ "java/lang/invoke/VarHandle" ∧ (parseMethodDescriptor yX12_isIn.desc).map (fun d => d.parameters.length) = some 3 := by decide +kernel
theorem dkX11_isShelf : yX11_isShelf.cls ≠ "java/lang/invoke/MethodHandle" ∧ yX11_isShelf.cls ≠ "java/lang/invoke/VarHandle" ∧ (parseMethodDescriptor yX11_isShelf.desc).map (fun d => d.parameters.length) = some 1 := by decide +kernel
theorem dkX1_rise : yX1_rise.cls ≠ "java/lang/invoke/MethodHandle" ∧ yX1_rise.cls ≠ "java/lang/invoke/VarHandle" ∧ (parseMethodDescriptor yX1_rise.desc).map (fun d => d.parameters.length) = some 1 := by decide +kernel
theorem dkX5_flip : yX5_flip.cls ≠ "java/lang/invoke/MethodHandle" ∧ yX5_flip.cls ≠ "java/lang/invoke/VarHandle" ∧ (parseMethodDescriptor yX5_flip.desc).map (fun d => d.parameters.length) = some 1 := by decide +kernel
theorem dkX7_leastSum : yX7_leastSum.cls ≠ "java/lang/invoke/MethodHandle" ∧ yX7_leastSum.cls ≠ "java/lang/invoke/VarHandle" ∧ (parseMethodDescriptor yX7_leastSum.desc).map (fun d => d.parameters.length) = some 0 := by decide +kernel
theorem dkX12_drawn : yX12_drawn.cls ≠ "java/lang/invoke/MethodHandle" ∧ yX12_drawn.cls ≠ "java/lang/invoke/VarHandle" ∧ (parseMethodDescriptor yX12_drawn.desc).map (fun d => d.parameters.length) = some 1 := by decide +kernel
theorem dkX11_bytesRefusal : yX11_bytesRefusal.cls ≠ "java/lang/invoke/MethodHandle" ∧ yX11_bytesRefusal.cls ≠ "java/lang/invoke/VarHandle" ∧ (parseMethodDescriptor yX11_bytesRefusal.desc).map (fun d => d.parameters.length) = some 1 := by decide +kernel
theorem dkX12_longestOf : yX12_longestOf.cls ≠ "java/lang/invoke/MethodHandle" ∧ yX12_longestOf.cls ≠ "java/lang/invoke/VarHandle" ∧ (parseMethodDescriptor yX12_longestOf.desc).map (fun d => d.parameters.length) = some 1 := by decide +kernel
theorem dkX12_judge : yX12_judge.cls ≠ "java/lang/invoke/MethodHandle" ∧ yX12_judge.cls ≠ "java/lang/invoke/VarHandle" ∧ (parseMethodDescriptor yX12_judge.desc).map (fun d => d.parameters.length) = some 1 := by decide +kernel
theorem dkX5_agree : yX5_agree.cls ≠ "java/lang/invoke/MethodHandle" ∧ yX5_agree.cls ≠ "java/lang/invoke/VarHandle" ∧ (parseMethodDescriptor yX5_agree.desc).map (fun d => d.parameters.length) = some 2 := by decide +kernel
theorem dkX4_inside : yX4_inside.cls ≠ "java/lang/invoke/MethodHandle" ∧ yX4_inside.cls ≠ "java/lang/invoke/VarHandle" ∧ (parseMethodDescriptor yX4_inside.desc).map (fun d => d.parameters.length) = some 4 := by decide +kernel
theorem dkX5_heightOf : yX5_heightOf.cls ≠ "java/lang/invoke/MethodHandle" ∧ yX5_heightOf.cls ≠ "java/lang/invoke/VarHandle" ∧ (parseMethodDescriptor yX5_heightOf.desc).map (fun d => d.parameters.length) = some 1 := by decide +kernel
theorem dkX11_areHairs : yX11_areHairs.cls ≠ "java/lang/invoke/MethodHandle" ∧ yX11_areHairs.cls ≠ "java/lang/invoke/VarHandle" ∧ (parseMethodDescriptor yX11_areHairs.desc).map (fun d => d.parameters.length) = some 1 := by decide +kernel
theorem dkX12_wholeOf : yX12_wholeOf.cls ≠ "java/lang/invoke/MethodHandle" ∧ yX12_wholeOf.cls ≠ "java/lang/invoke/VarHandle" ∧ (parseMethodDescriptor yX12_wholeOf.desc).map (fun d => d.parameters.length) = some 2 := by decide +kernel
theorem dkX11_bowl : yX11_bowl.cls ≠ "java/lang/invoke/MethodHandle" ∧ yX11_bowl.cls ≠ "java/lang/invoke/VarHandle" ∧ (parseMethodDescriptor yX11_bowl.desc).map (fun d => d.parameters.length) = some 2 := by decide +kernel
theorem dkX12_toss : yX12_toss.cls ≠ "java/lang/invoke/MethodHandle" ∧ yX12_toss.cls ≠ "java/lang/invoke/VarHandle" ∧ (parseMethodDescriptor yX12_toss.desc).map (fun d => d.parameters.length) = some 1 := by decide +kernel
theorem dkX11_height : yX11_height.cls ≠ "java/lang/invoke/MethodHandle" ∧ yX11_height.cls ≠ "java/lang/invoke/VarHandle" ∧ (parseMethodDescriptor yX11_height.desc).map (fun d => d.parameters.length) = some 1 := by decide +kernel
theorem dkX12_liesAt : yX12_liesAt.cls ≠ "java/lang/invoke/MethodHandle" ∧ yX12_liesAt.cls ≠ "java/lang/invoke/VarHandle" ∧ (parseMethodDescriptor yX12_liesAt.desc).map (fun d => d.parameters.length) = some 3 := by decide +kernel
theorem dkX11_init : yX11_init.cls ≠ "java/lang/invoke/MethodHandle" ∧ yX11_init.cls ≠ "java/lang/invoke/VarHandle" ∧ (parseMethodDescriptor yX11_init.desc).map (fun d => d.parameters.length) = some 0 := by decide +kernel
theorem dkX2_init : yX2_init.cls ≠ "java/lang/invoke/MethodHandle" ∧ yX2_init.cls ≠ "java/lang/invoke/VarHandle" ∧ (parseMethodDescriptor yX2_init.desc).map (fun d => d.parameters.length) = some 0 := by decide +kernel
theorem dkX10_statementEnd : yX10_statementEnd.cls ≠ "java/lang/invoke/MethodHandle" ∧ yX10_statementEnd.cls ≠ "java/lang/invoke/VarHandle" ∧ (parseMethodDescriptor yX10_statementEnd.desc).map (fun d => d.parameters.length) = some 1 := by decide +kernel
theorem dkX10_init : yX10_init.cls ≠ "java/lang/invoke/MethodHandle" ∧ yX10_init.cls ≠ "java/lang/invoke/VarHandle" ∧ (parseMethodDescriptor yX10_init.desc).map (fun d => d.parameters.length) = some 0 := by decide +kernel
theorem dkX7_findChains : yX7_findChains.cls ≠ "java/lang/invoke/MethodHandle" ∧ yX7_findChains.cls ≠ "java/lang/invoke/VarHandle" ∧ (parseMethodDescriptor yX7_findChains.desc).map (fun d => d.parameters.length) = some 1 := by decide +kernel
theorem dkX10_clear : yX10_clear.cls ≠ "java/lang/invoke/MethodHandle" ∧ yX10_clear.cls ≠ "java/lang/invoke/VarHandle" ∧ (parseMethodDescriptor yX10_clear.desc).map (fun d => d.parameters.length) = some 0 := by decide +kernel
theorem dkX11_lies : yX11_lies.cls ≠ "java/lang/invoke/MethodHandle" ∧ yX11_lies.cls ≠ "java/lang/invoke/VarHandle" ∧ (parseMethodDescriptor yX11_lies.desc).map (fun d => d.parameters.length) = some 2 := by decide +kernel
theorem dkX7_isLonger : yX7_isLonger.cls ≠ "java/lang/invoke/MethodHandle" ∧ yX7_isLonger.cls ≠ "java/lang/invoke/VarHandle" ∧ (parseMethodDescriptor yX7_isLonger.desc).map (fun d => d.parameters.length) = some 2 := by decide +kernel
theorem dkX11_throwsNew : yX11_throwsNew.cls ≠ "java/lang/invoke/MethodHandle" ∧ yX11_throwsNew.cls ≠ "java/lang/invoke/VarHandle" ∧ (parseMethodDescriptor yX11_throwsNew.desc).map (fun d => d.parameters.length) = some 0 := by decide +kernel
theorem dkX12_readsStatement : yX12_readsStatement.cls ≠ "java/lang/invoke/MethodHandle" ∧ yX12_readsStatement.cls ≠ "java/lang/invoke/VarHandle" ∧ (parseMethodDescriptor yX12_readsStatement.desc).map (fun d => d.parameters.length) = some 0 := by decide +kernel
theorem dkX0_init : yX0_init.cls ≠ "java/lang/invoke/MethodHandle" ∧ yX0_init.cls ≠ "java/lang/invoke/VarHandle" ∧ (parseMethodDescriptor yX0_init.desc).map (fun d => d.parameters.length) = some 0 := by decide +kernel
theorem dkX11_row : yX11_row.cls ≠ "java/lang/invoke/MethodHandle" ∧ yX11_row.cls ≠ "java/lang/invoke/VarHandle" ∧ (parseMethodDescriptor yX11_row.desc).map (fun d => d.parameters.length) = some 3 := by decide +kernel
theorem dkX6_init : yX6_init.cls ≠ "java/lang/invoke/MethodHandle" ∧ yX6_init.cls ≠ "java/lang/invoke/VarHandle" ∧ (parseMethodDescriptor yX6_init.desc).map (fun d => d.parameters.length) = some 0 := by decide +kernel
theorem dkX12_longest : yX12_longest.cls ≠ "java/lang/invoke/MethodHandle" ∧ yX12_longest.cls ≠ "java/lang/invoke/VarHandle" ∧ (parseMethodDescriptor yX12_longest.desc).map (fun d => d.parameters.length) = some 2 := by decide +kernel
theorem dkX12_heightOf : yX12_heightOf.cls ≠ "java/lang/invoke/MethodHandle" ∧ yX12_heightOf.cls ≠ "java/lang/invoke/VarHandle" ∧ (parseMethodDescriptor yX12_heightOf.desc).map (fun d => d.parameters.length) = some 1 := by decide +kernel
theorem dkX4_init : yX4_init.cls ≠ "java/lang/invoke/MethodHandle" ∧ yX4_init.cls ≠ "java/lang/invoke/VarHandle" ∧ (parseMethodDescriptor yX4_init.desc).map (fun d => d.parameters.length) = some 0 := by decide +kernel
theorem dkX5_tell : yX5_tell.cls ≠ "java/lang/invoke/MethodHandle" ∧ yX5_tell.cls ≠ "java/lang/invoke/VarHandle" ∧ (parseMethodDescriptor yX5_tell.desc).map (fun d => d.parameters.length) = some 2 := by decide +kernel
theorem dkX11_turn : yX11_turn.cls ≠ "java/lang/invoke/MethodHandle" ∧ yX11_turn.cls ≠ "java/lang/invoke/VarHandle" ∧ (parseMethodDescriptor yX11_turn.desc).map (fun d => d.parameters.length) = some 1 := by decide +kernel
theorem dkX11_comes : yX11_comes.cls ≠ "java/lang/invoke/MethodHandle" ∧ yX11_comes.cls ≠ "java/lang/invoke/VarHandle" ∧ (parseMethodDescriptor yX11_comes.desc).map (fun d => d.parameters.length) = some 4 := by decide +kernel
theorem dkX12_heap : yX12_heap.cls ≠ "java/lang/invoke/MethodHandle" ∧ yX12_heap.cls ≠ "java/lang/invoke/VarHandle" ∧ (parseMethodDescriptor yX12_heap.desc).map (fun d => d.parameters.length) = some 1 := by decide +kernel
theorem dkJ6_bitCount_0f7a4 : yJ6_bitCount_0f7a4.cls ≠ "java/lang/invoke/MethodHandle" ∧ yJ6_bitCount_0f7a4.cls ≠ "java/lang/invoke/VarHandle" ∧ (parseMethodDescriptor yJ6_bitCount_0f7a4.desc).map (fun d => d.parameters.length) = some 1 := by decide +kernel
theorem dkX12_next : yX12_next.cls ≠ "java/lang/invoke/MethodHandle" ∧ yX12_next.cls ≠ "java/lang/invoke/VarHandle" ∧ (parseMethodDescriptor yX12_next.desc).map (fun d => d.parameters.length) = some 2 := by decide +kernel
theorem dkX1_init : yX1_init.cls ≠ "java/lang/invoke/MethodHandle" ∧ yX1_init.cls ≠ "java/lang/invoke/VarHandle" ∧ (parseMethodDescriptor yX1_init.desc).map (fun d => d.parameters.length) = some 0 := by decide +kernel
theorem dkX12_perhaps : yX12_perhaps.cls ≠ "java/lang/invoke/MethodHandle" ∧ yX12_perhaps.cls ≠ "java/lang/invoke/VarHandle" ∧ (parseMethodDescriptor yX12_perhaps.desc).map (fun d => d.parameters.length) = some 2 := by decide +kernel
theorem dkX7_isApart : yX7_isApart.cls ≠ "java/lang/invoke/MethodHandle" ∧ yX7_isApart.cls ≠ "java/lang/invoke/VarHandle" ∧ (parseMethodDescriptor yX7_isApart.desc).map (fun d => d.parameters.length) = some 1 := by decide +kernel
theorem dkX11_copy : yX11_copy.cls ≠ "java/lang/invoke/MethodHandle" ∧ yX11_copy.cls ≠ "java/lang/invoke/VarHandle" ∧ (parseMethodDescriptor yX11_copy.desc).map (fun d => d.parameters.length) = some 5 := by decide +kernel
theorem dkX11_warm : yX11_warm.cls ≠ "java/lang/invoke/MethodHandle" ∧ yX11_warm.cls ≠ "java/lang/invoke/VarHandle" ∧ (parseMethodDescriptor yX11_warm.desc).map (fun d => d.parameters.length) = some 1 := by decide +kernel
theorem dkX12_thrown : yX12_thrown.cls ≠ "java/lang/invoke/MethodHandle" ∧ yX12_thrown.cls ≠ "java/lang/invoke/VarHandle" ∧ (parseMethodDescriptor yX12_thrown.desc).map (fun d => d.parameters.length) = some 0 := by decide +kernel
theorem dkX12_keep : yX12_keep.cls ≠ "java/lang/invoke/MethodHandle" ∧ yX12_keep.cls ≠ "java/lang/invoke/VarHandle" ∧ (parseMethodDescriptor yX12_keep.desc).map (fun d => d.parameters.length) = some 4 := by decide +kernel
theorem dkX5_allDepths : yX5_allDepths.cls ≠ "java/lang/invoke/MethodHandle" ∧ yX5_allDepths.cls ≠ "java/lang/invoke/VarHandle" ∧ (parseMethodDescriptor yX5_allDepths.desc).map (fun d => d.parameters.length) = some 0 := by decide +kernel
theorem dkX1_cost : yX1_cost.cls ≠ "java/lang/invoke/MethodHandle" ∧ yX1_cost.cls ≠ "java/lang/invoke/VarHandle" ∧ (parseMethodDescriptor yX1_cost.desc).map (fun d => d.parameters.length) = some 1 := by decide +kernel
theorem dkX12_isNest : yX12_isNest.cls ≠ "java/lang/invoke/MethodHandle" ∧ yX12_isNest.cls ≠ "java/lang/invoke/VarHandle" ∧ (parseMethodDescriptor yX12_isNest.desc).map (fun d => d.parameters.length) = some 1 := by decide +kernel
theorem dkX11_helps : yX11_helps.cls ≠ "java/lang/invoke/MethodHandle" ∧ yX11_helps.cls ≠ "java/lang/invoke/VarHandle" ∧ (parseMethodDescriptor yX11_helps.desc).map (fun d => d.parameters.length) = some 2 := by decide +kernel
theorem dkX11_from : yX11_from.cls ≠ "java/lang/invoke/MethodHandle" ∧ yX11_from.cls ≠ "java/lang/invoke/VarHandle" ∧ (parseMethodDescriptor yX11_from.desc).map (fun d => d.parameters.length) = some 4 := by decide +kernel
theorem dkX12_turned : yX12_turned.cls ≠ "java/lang/invoke/MethodHandle" ∧ yX12_turned.cls ≠ "java/lang/invoke/VarHandle" ∧ (parseMethodDescriptor yX12_turned.desc).map (fun d => d.parameters.length) = some 1 := by decide +kernel
theorem dkX12_canBeBetween : yX12_canBeBetween.cls ≠ "java/lang/invoke/MethodHandle" ∧ yX12_canBeBetween.cls ≠ "java/lang/invoke/VarHandle" ∧ (parseMethodDescriptor yX12_canBeBetween.desc).map (fun d => d.parameters.length) = some 2 := by decide +kernel
theorem dkX12_wrongOut : yX12_wrongOut.cls ≠ "java/lang/invoke/MethodHandle" ∧ yX12_wrongOut.cls ≠ "java/lang/invoke/VarHandle" ∧ (parseMethodDescriptor yX12_wrongOut.desc).map (fun d => d.parameters.length) = some 1 := by decide +kernel
theorem dkX11_price : yX11_price.cls ≠ "java/lang/invoke/MethodHandle" ∧ yX11_price.cls ≠ "java/lang/invoke/VarHandle" ∧ (parseMethodDescriptor yX11_price.desc).map (fun d => d.parameters.length) = some 1 := by decide +kernel
theorem dkX11_breaks : yX11_breaks.cls ≠ "java/lang/invoke/MethodHandle" ∧ yX11_breaks.cls ≠ "java/lang/invoke/VarHandle" ∧ (parseMethodDescriptor yX11_breaks.desc).map (fun d => d.parameters.length) = some 3 := by decide +kernel
theorem dkX7_lengthenInward : yX7_lengthenInward.cls ≠ "java/lang/invoke/MethodHandle" ∧ yX7_lengthenInward.cls ≠ "java/lang/invoke/VarHandle" ∧ (parseMethodDescriptor yX7_lengthenInward.desc).map (fun d => d.parameters.length) = some 1 := by decide +kernel
theorem dkX12_insideBy : yX12_insideBy.cls ≠ "java/lang/invoke/MethodHandle" ∧ yX12_insideBy.cls ≠ "java/lang/invoke/VarHandle" ∧ (parseMethodDescriptor yX12_insideBy.desc).map (fun d => d.parameters.length) = some 3 := by decide +kernel
theorem dkX12_whole : yX12_whole.cls ≠ "java/lang/invoke/MethodHandle" ∧ yX12_whole.cls ≠ "java/lang/invoke/VarHandle" ∧ (parseMethodDescriptor yX12_whole.desc).map (fun d => d.parameters.length) = some 1 := by decide +kernel
theorem dkX7_findAll : yX7_findAll.cls ≠ "java/lang/invoke/MethodHandle" ∧ yX7_findAll.cls ≠ "java/lang/invoke/VarHandle" ∧ (parseMethodDescriptor yX7_findAll.desc).map (fun d => d.parameters.length) = some 1 := by decide +kernel
theorem dkX12_element : yX12_element.cls ≠ "java/lang/invoke/MethodHandle" ∧ yX12_element.cls ≠ "java/lang/invoke/VarHandle" ∧ (parseMethodDescriptor yX12_element.desc).map (fun d => d.parameters.length) = some 2 := by decide +kernel
theorem dkX11_out : yX11_out.cls ≠ "java/lang/invoke/MethodHandle" ∧ yX11_out.cls ≠ "java/lang/invoke/VarHandle" ∧ (parseMethodDescriptor yX11_out.desc).map (fun d => d.parameters.length) = some 2 := by decide +kernel
theorem dkX11_tellAll : yX11_tellAll.cls ≠ "java/lang/invoke/MethodHandle" ∧ yX11_tellAll.cls ≠ "java/lang/invoke/VarHandle" ∧ (parseMethodDescriptor yX11_tellAll.desc).map (fun d => d.parameters.length) = some 1 := by decide +kernel
theorem dkX11_put : yX11_put.cls ≠ "java/lang/invoke/MethodHandle" ∧ yX11_put.cls ≠ "java/lang/invoke/VarHandle" ∧ (parseMethodDescriptor yX11_put.desc).map (fun d => d.parameters.length) = some 3 := by decide +kernel
theorem dkX11_pairsPerhaps : yX11_pairsPerhaps.cls ≠ "java/lang/invoke/MethodHandle" ∧ yX11_pairsPerhaps.cls ≠ "java/lang/invoke/VarHandle" ∧ (parseMethodDescriptor yX11_pairsPerhaps.desc).map (fun d => d.parameters.length) = some 2 := by decide +kernel
theorem dkX10_digitEnd : yX10_digitEnd.cls ≠ "java/lang/invoke/MethodHandle" ∧ yX10_digitEnd.cls ≠ "java/lang/invoke/VarHandle" ∧ (parseMethodDescriptor yX10_digitEnd.desc).map (fun d => d.parameters.length) = some 1 := by decide +kernel
theorem dkX9_outside : yX9_outside.cls ≠ "java/lang/invoke/MethodHandle" ∧ yX9_outside.cls ≠ "java/lang/invoke/VarHandle" ∧ (parseMethodDescriptor yX9_outside.desc).map (fun d => d.parameters.length) = some 3 := by decide +kernel
theorem dkX8_minds : yX8_minds.cls ≠ "java/lang/invoke/MethodHandle" ∧ yX8_minds.cls ≠ "java/lang/invoke/VarHandle" ∧ (parseMethodDescriptor yX8_minds.desc).map (fun d => d.parameters.length) = some 0 := by decide +kernel
theorem dkX12_inside : yX12_inside.cls ≠ "java/lang/invoke/MethodHandle" ∧ yX12_inside.cls ≠ "java/lang/invoke/VarHandle" ∧ (parseMethodDescriptor yX12_inside.desc).map (fun d => d.parameters.length) = some 1 := by decide +kernel
theorem dkX7_longestWith : yX7_longestWith.cls ≠ "java/lang/invoke/MethodHandle" ∧ yX7_longestWith.cls ≠ "java/lang/invoke/VarHandle" ∧ (parseMethodDescriptor yX7_longestWith.desc).map (fun d => d.parameters.length) = some 2 := by decide +kernel
theorem dkX11_restore : yX11_restore.cls ≠ "java/lang/invoke/MethodHandle" ∧ yX11_restore.cls ≠ "java/lang/invoke/VarHandle" ∧ (parseMethodDescriptor yX11_restore.desc).map (fun d => d.parameters.length) = some 0 := by decide +kernel
theorem dkX12_isDigit : yX12_isDigit.cls ≠ "java/lang/invoke/MethodHandle" ∧ yX12_isDigit.cls ≠ "java/lang/invoke/VarHandle" ∧ (parseMethodDescriptor yX12_isDigit.desc).map (fun d => d.parameters.length) = some 0 := by decide +kernel
theorem dkX12_adds : yX12_adds.cls ≠ "java/lang/invoke/MethodHandle" ∧ yX12_adds.cls ≠ "java/lang/invoke/VarHandle" ∧ (parseMethodDescriptor yX12_adds.desc).map (fun d => d.parameters.length) = some 5 := by decide +kernel
theorem dkX0_minds : yX0_minds.cls ≠ "java/lang/invoke/MethodHandle" ∧ yX0_minds.cls ≠ "java/lang/invoke/VarHandle" ∧ (parseMethodDescriptor yX0_minds.desc).map (fun d => d.parameters.length) = some 0 := by decide +kernel
theorem dkX5_arrange : yX5_arrange.cls ≠ "java/lang/invoke/MethodHandle" ∧ yX5_arrange.cls ≠ "java/lang/invoke/VarHandle" ∧ (parseMethodDescriptor yX5_arrange.desc).map (fun d => d.parameters.length) = some 0 := by decide +kernel
theorem dkX11_shelfRefusal : yX11_shelfRefusal.cls ≠ "java/lang/invoke/MethodHandle" ∧ yX11_shelfRefusal.cls ≠ "java/lang/invoke/VarHandle" ∧ (parseMethodDescriptor yX11_shelfRefusal.desc).map (fun d => d.parameters.length) = some 2 := by decide +kernel
theorem dkX11_brokenBy : yX11_brokenBy.cls ≠ "java/lang/invoke/MethodHandle" ∧ yX11_brokenBy.cls ≠ "java/lang/invoke/VarHandle" ∧ (parseMethodDescriptor yX11_brokenBy.desc).map (fun d => d.parameters.length) = some 2 := by decide +kernel
theorem dkX11_fewest : yX11_fewest.cls ≠ "java/lang/invoke/MethodHandle" ∧ yX11_fewest.cls ≠ "java/lang/invoke/VarHandle" ∧ (parseMethodDescriptor yX11_fewest.desc).map (fun d => d.parameters.length) = some 0 := by decide +kernel
theorem dkX11_arePair : yX11_arePair.cls ≠ "java/lang/invoke/MethodHandle" ∧ yX11_arePair.cls ≠ "java/lang/invoke/VarHandle" ∧ (parseMethodDescriptor yX11_arePair.desc).map (fun d => d.parameters.length) = some 2 := by decide +kernel
theorem dkX12_count : yX12_count.cls ≠ "java/lang/invoke/MethodHandle" ∧ yX12_count.cls ≠ "java/lang/invoke/VarHandle" ∧ (parseMethodDescriptor yX12_count.desc).map (fun d => d.parameters.length) = some 1 := by decide +kernel
theorem dkX12_nest : yX12_nest.cls ≠ "java/lang/invoke/MethodHandle" ∧ yX12_nest.cls ≠ "java/lang/invoke/VarHandle" ∧ (parseMethodDescriptor yX12_nest.desc).map (fun d => d.parameters.length) = some 1 := by decide +kernel
theorem dkX3_inside : yX3_inside.cls ≠ "java/lang/invoke/MethodHandle" ∧ yX3_inside.cls ≠ "java/lang/invoke/VarHandle" ∧ (parseMethodDescriptor yX3_inside.desc).map (fun d => d.parameters.length) = some 4 := by decide +kernel
theorem dkX12_isBowl : yX12_isBowl.cls ≠ "java/lang/invoke/MethodHandle" ∧ yX12_isBowl.cls ≠ "java/lang/invoke/VarHandle" ∧ (parseMethodDescriptor yX12_isBowl.desc).map (fun d => d.parameters.length) = some 1 := by decide +kernel
theorem dkX12_copy : yX12_copy.cls ≠ "java/lang/invoke/MethodHandle" ∧ yX12_copy.cls ≠ "java/lang/invoke/VarHandle" ∧ (parseMethodDescriptor yX12_copy.desc).map (fun d => d.parameters.length) = some 5 := by decide +kernel
theorem dkX10_digitAt : yX10_digitAt.cls ≠ "java/lang/invoke/MethodHandle" ∧ yX10_digitAt.cls ≠ "java/lang/invoke/VarHandle" ∧ (parseMethodDescriptor yX10_digitAt.desc).map (fun d => d.parameters.length) = some 1 := by decide +kernel
theorem dkX7_note : yX7_note.cls ≠ "java/lang/invoke/MethodHandle" ∧ yX7_note.cls ≠ "java/lang/invoke/VarHandle" ∧ (parseMethodDescriptor yX7_note.desc).map (fun d => d.parameters.length) = some 3 := by decide +kernel
theorem dkX12_apart : yX12_apart.cls ≠ "java/lang/invoke/MethodHandle" ∧ yX12_apart.cls ≠ "java/lang/invoke/VarHandle" ∧ (parseMethodDescriptor yX12_apart.desc).map (fun d => d.parameters.length) = some 1 := by decide +kernel
theorem dkJ9_min_7cf53 : yJ9_min_7cf53.cls ≠ "java/lang/invoke/MethodHandle" ∧ yJ9_min_7cf53.cls ≠ "java/lang/invoke/VarHandle" ∧ (parseMethodDescriptor yJ9_min_7cf53.desc).map (fun d => d.parameters.length) = some 2 := by decide +kernel
theorem dkX11_heap : yX11_heap.cls ≠ "java/lang/invoke/MethodHandle" ∧ yX11_heap.cls ≠ "java/lang/invoke/VarHandle" ∧ (parseMethodDescriptor yX11_heap.desc).map (fun d => d.parameters.length) = some 1 := by decide +kernel
theorem dkX12_rise : yX12_rise.cls ≠ "java/lang/invoke/MethodHandle" ∧ yX12_rise.cls ≠ "java/lang/invoke/VarHandle" ∧ (parseMethodDescriptor yX12_rise.desc).map (fun d => d.parameters.length) = some 1 := by decide +kernel
theorem dkX12_outermost : yX12_outermost.cls ≠ "java/lang/invoke/MethodHandle" ∧ yX12_outermost.cls ≠ "java/lang/invoke/VarHandle" ∧ (parseMethodDescriptor yX12_outermost.desc).map (fun d => d.parameters.length) = some 1 := by decide +kernel
theorem dkX8_outside : yX8_outside.cls ≠ "java/lang/invoke/MethodHandle" ∧ yX8_outside.cls ≠ "java/lang/invoke/VarHandle" ∧ (parseMethodDescriptor yX8_outside.desc).map (fun d => d.parameters.length) = some 3 := by decide +kernel
theorem dkX12_wrongAt : yX12_wrongAt.cls ≠ "java/lang/invoke/MethodHandle" ∧ yX12_wrongAt.cls ≠ "java/lang/invoke/VarHandle" ∧ (parseMethodDescriptor yX12_wrongAt.desc).map (fun d => d.parameters.length) = some 1 := by decide +kernel
theorem dkX11_isBridged : yX11_isBridged.cls ≠ "java/lang/invoke/MethodHandle" ∧ yX11_isBridged.cls ≠ "java/lang/invoke/VarHandle" ∧ (parseMethodDescriptor yX11_isBridged.desc).map (fun d => d.parameters.length) = some 3 := by decide +kernel
theorem dkX7_lengthenOutward : yX7_lengthenOutward.cls ≠ "java/lang/invoke/MethodHandle" ∧ yX7_lengthenOutward.cls ≠ "java/lang/invoke/VarHandle" ∧ (parseMethodDescriptor yX7_lengthenOutward.desc).map (fun d => d.parameters.length) = some 1 := by decide +kernel
theorem dkX9_fail : yX9_fail.cls ≠ "java/lang/invoke/MethodHandle" ∧ yX9_fail.cls ≠ "java/lang/invoke/VarHandle" ∧ (parseMethodDescriptor yX9_fail.desc).map (fun d => d.parameters.length) = some 1 := by decide +kernel
theorem dkX12_spans : yX12_spans.cls ≠ "java/lang/invoke/MethodHandle" ∧ yX12_spans.cls ≠ "java/lang/invoke/VarHandle" ∧ (parseMethodDescriptor yX12_spans.desc).map (fun d => d.parameters.length) = some 3 := by decide +kernel
theorem dkX12_here : yX12_here.cls ≠ "java/lang/invoke/MethodHandle" ∧ yX12_here.cls ≠ "java/lang/invoke/VarHandle" ∧ (parseMethodDescriptor yX12_here.desc).map (fun d => d.parameters.length) = some 0 := by decide +kernel
theorem dkX11_isWithin : yX11_isWithin.cls ≠ "java/lang/invoke/MethodHandle" ∧ yX11_isWithin.cls ≠ "java/lang/invoke/VarHandle" ∧ (parseMethodDescriptor yX11_isWithin.desc).map (fun d => d.parameters.length) = some 3 := by decide +kernel
theorem dkX11_spans : yX11_spans.cls ≠ "java/lang/invoke/MethodHandle" ∧ yX11_spans.cls ≠ "java/lang/invoke/VarHandle" ∧ (parseMethodDescriptor yX11_spans.desc).map (fun d => d.parameters.length) = some 3 := by decide +kernel
theorem dkX11_judge : yX11_judge.cls ≠ "java/lang/invoke/MethodHandle" ∧ yX11_judge.cls ≠ "java/lang/invoke/VarHandle" ∧ (parseMethodDescriptor yX11_judge.desc).map (fun d => d.parameters.length) = some 1 := by decide +kernel
theorem dkX10_holdBowl : yX10_holdBowl.cls ≠ "java/lang/invoke/MethodHandle" ∧ yX10_holdBowl.cls ≠ "java/lang/invoke/VarHandle" ∧ (parseMethodDescriptor yX10_holdBowl.desc).map (fun d => d.parameters.length) = some 2 := by decide +kernel
theorem dkX12_carry : yX12_carry.cls ≠ "java/lang/invoke/MethodHandle" ∧ yX12_carry.cls ≠ "java/lang/invoke/VarHandle" ∧ (parseMethodDescriptor yX12_carry.desc).map (fun d => d.parameters.length) = some 0 := by decide +kernel
theorem dkX12_priceBy : yX12_priceBy.cls ≠ "java/lang/invoke/MethodHandle" ∧ yX12_priceBy.cls ≠ "java/lang/invoke/VarHandle" ∧ (parseMethodDescriptor yX12_priceBy.desc).map (fun d => d.parameters.length) = some 2 := by decide +kernel
theorem dkX0_outside : yX0_outside.cls ≠ "java/lang/invoke/MethodHandle" ∧ yX0_outside.cls ≠ "java/lang/invoke/VarHandle" ∧ (parseMethodDescriptor yX0_outside.desc).map (fun d => d.parameters.length) = some 3 := by decide +kernel
theorem dkX11_apart : yX11_apart.cls ≠ "java/lang/invoke/MethodHandle" ∧ yX11_apart.cls ≠ "java/lang/invoke/VarHandle" ∧ (parseMethodDescriptor yX11_apart.desc).map (fun d => d.parameters.length) = some 1 := by decide +kernel
theorem dkX9_cost : yX9_cost.cls ≠ "java/lang/invoke/MethodHandle" ∧ yX9_cost.cls ≠ "java/lang/invoke/VarHandle" ∧ (parseMethodDescriptor yX9_cost.desc).map (fun d => d.parameters.length) = some 1 := by decide +kernel
theorem dkX6_outside : yX6_outside.cls ≠ "java/lang/invoke/MethodHandle" ∧ yX6_outside.cls ≠ "java/lang/invoke/VarHandle" ∧ (parseMethodDescriptor yX6_outside.desc).map (fun d => d.parameters.length) = some 3 := by decide +kernel
theorem dkX5_think : yX5_think.cls ≠ "java/lang/invoke/MethodHandle" ∧ yX5_think.cls ≠ "java/lang/invoke/VarHandle" ∧ (parseMethodDescriptor yX5_think.desc).map (fun d => d.parameters.length) = some 2 := by decide +kernel
theorem dkX5_spanned : yX5_spanned.cls ≠ "java/lang/invoke/MethodHandle" ∧ yX5_spanned.cls ≠ "java/lang/invoke/VarHandle" ∧ (parseMethodDescriptor yX5_spanned.desc).map (fun d => d.parameters.length) = some 4 := by decide +kernel
theorem dkX5_all : yX5_all.cls ≠ "java/lang/invoke/MethodHandle" ∧ yX5_all.cls ≠ "java/lang/invoke/VarHandle" ∧ (parseMethodDescriptor yX5_all.desc).map (fun d => d.parameters.length) = some 0 := by decide +kernel
theorem dkX12_lays : yX12_lays.cls ≠ "java/lang/invoke/MethodHandle" ∧ yX12_lays.cls ≠ "java/lang/invoke/VarHandle" ∧ (parseMethodDescriptor yX12_lays.desc).map (fun d => d.parameters.length) = some 2 := by decide +kernel
theorem dkX12_longestRow : yX12_longestRow.cls ≠ "java/lang/invoke/MethodHandle" ∧ yX12_longestRow.cls ≠ "java/lang/invoke/VarHandle" ∧ (parseMethodDescriptor yX12_longestRow.desc).map (fun d => d.parameters.length) = some 1 := by decide +kernel
theorem dkX5_place : yX5_place.cls ≠ "java/lang/invoke/MethodHandle" ∧ yX5_place.cls ≠ "java/lang/invoke/VarHandle" ∧ (parseMethodDescriptor yX5_place.desc).map (fun d => d.parameters.length) = some 5 := by decide +kernel
theorem dkX7_costOneEach : yX7_costOneEach.cls ≠ "java/lang/invoke/MethodHandle" ∧ yX7_costOneEach.cls ≠ "java/lang/invoke/VarHandle" ∧ (parseMethodDescriptor yX7_costOneEach.desc).map (fun d => d.parameters.length) = some 1 := by decide +kernel
theorem dkX12_image : yX12_image.cls ≠ "java/lang/invoke/MethodHandle" ∧ yX12_image.cls ≠ "java/lang/invoke/VarHandle" ∧ (parseMethodDescriptor yX12_image.desc).map (fun d => d.parameters.length) = some 0 := by decide +kernel
theorem dkJ9_max_7cf53 : yJ9_max_7cf53.cls ≠ "java/lang/invoke/MethodHandle" ∧ yJ9_max_7cf53.cls ≠ "java/lang/invoke/VarHandle" ∧ (parseMethodDescriptor yJ9_max_7cf53.desc).map (fun d => d.parameters.length) = some 2 := by decide +kernel
theorem dkX5_dropLatest : yX5_dropLatest.cls ≠ "java/lang/invoke/MethodHandle" ∧ yX5_dropLatest.cls ≠ "java/lang/invoke/VarHandle" ∧ (parseMethodDescriptor yX5_dropLatest.desc).map (fun d => d.parameters.length) = some 0 := by decide +kernel
theorem dkX12_price : yX12_price.cls ≠ "java/lang/invoke/MethodHandle" ∧ yX12_price.cls ≠ "java/lang/invoke/VarHandle" ∧ (parseMethodDescriptor yX12_price.desc).map (fun d => d.parameters.length) = some 1 := by decide +kernel
theorem dkX10_isDigit : yX10_isDigit.cls ≠ "java/lang/invoke/MethodHandle" ∧ yX10_isDigit.cls ≠ "java/lang/invoke/VarHandle" ∧ (parseMethodDescriptor yX10_isDigit.desc).map (fun d => d.parameters.length) = some 1 := by decide +kernel
theorem dkX10_hasPlace : yX10_hasPlace.cls ≠ "java/lang/invoke/MethodHandle" ∧ yX10_hasPlace.cls ≠ "java/lang/invoke/VarHandle" ∧ (parseMethodDescriptor yX10_hasPlace.desc).map (fun d => d.parameters.length) = some 1 := by decide +kernel
theorem dkX12_outsideBy : yX12_outsideBy.cls ≠ "java/lang/invoke/MethodHandle" ∧ yX12_outsideBy.cls ≠ "java/lang/invoke/VarHandle" ∧ (parseMethodDescriptor yX12_outsideBy.desc).map (fun d => d.parameters.length) = some 2 := by decide +kernel
theorem dkX2_fail : yX2_fail.cls ≠ "java/lang/invoke/MethodHandle" ∧ yX2_fail.cls ≠ "java/lang/invoke/VarHandle" ∧ (parseMethodDescriptor yX2_fail.desc).map (fun d => d.parameters.length) = some 1 := by decide +kernel
theorem dkX7_init : yX7_init.cls ≠ "java/lang/invoke/MethodHandle" ∧ yX7_init.cls ≠ "java/lang/invoke/VarHandle" ∧ (parseMethodDescriptor yX7_init.desc).map (fun d => d.parameters.length) = some 0 := by decide +kernel
theorem dkX10_set : yX10_set.cls ≠ "java/lang/invoke/MethodHandle" ∧ yX10_set.cls ≠ "java/lang/invoke/VarHandle" ∧ (parseMethodDescriptor yX10_set.desc).map (fun d => d.parameters.length) = some 2 := by decide +kernel
theorem dkX12_put : yX12_put.cls ≠ "java/lang/invoke/MethodHandle" ∧ yX12_put.cls ≠ "java/lang/invoke/VarHandle" ∧ (parseMethodDescriptor yX12_put.desc).map (fun d => d.parameters.length) = some 3 := by decide +kernel
theorem dkX12_takes : yX12_takes.cls ≠ "java/lang/invoke/MethodHandle" ∧ yX12_takes.cls ≠ "java/lang/invoke/VarHandle" ∧ (parseMethodDescriptor yX12_takes.desc).map (fun d => d.parameters.length) = some 1 := by decide +kernel
theorem dkX7_costHeights : yX7_costHeights.cls ≠ "java/lang/invoke/MethodHandle" ∧ yX7_costHeights.cls ≠ "java/lang/invoke/VarHandle" ∧ (parseMethodDescriptor yX7_costHeights.desc).map (fun d => d.parameters.length) = some 0 := by decide +kernel
theorem dkX12_counted : yX12_counted.cls ≠ "java/lang/invoke/MethodHandle" ∧ yX12_counted.cls ≠ "java/lang/invoke/VarHandle" ∧ (parseMethodDescriptor yX12_counted.desc).map (fun d => d.parameters.length) = some 3 := by decide +kernel
theorem dkX5_init : yX5_init.cls ≠ "java/lang/invoke/MethodHandle" ∧ yX5_init.cls ≠ "java/lang/invoke/VarHandle" ∧ (parseMethodDescriptor yX5_init.desc).map (fun d => d.parameters.length) = some 1 := by decide +kernel
theorem dkX10_signEnd : yX10_signEnd.cls ≠ "java/lang/invoke/MethodHandle" ∧ yX10_signEnd.cls ≠ "java/lang/invoke/VarHandle" ∧ (parseMethodDescriptor yX10_signEnd.desc).map (fun d => d.parameters.length) = some 2 := by decide +kernel
theorem dkX12_everything : yX12_everything.cls ≠ "java/lang/invoke/MethodHandle" ∧ yX12_everything.cls ≠ "java/lang/invoke/VarHandle" ∧ (parseMethodDescriptor yX12_everything.desc).map (fun d => d.parameters.length) = some 0 := by decide +kernel
theorem dkX11_areBowls : yX11_areBowls.cls ≠ "java/lang/invoke/MethodHandle" ∧ yX11_areBowls.cls ≠ "java/lang/invoke/VarHandle" ∧ (parseMethodDescriptor yX11_areBowls.desc).map (fun d => d.parameters.length) = some 1 := by decide +kernel
theorem dkX11_rowRefusal : yX11_rowRefusal.cls ≠ "java/lang/invoke/MethodHandle" ∧ yX11_rowRefusal.cls ≠ "java/lang/invoke/VarHandle" ∧ (parseMethodDescriptor yX11_rowRefusal.desc).map (fun d => d.parameters.length) = some 1 := by decide +kernel
theorem dkX7_growBy : yX7_growBy.cls ≠ "java/lang/invoke/MethodHandle" ∧ yX7_growBy.cls ≠ "java/lang/invoke/VarHandle" ∧ (parseMethodDescriptor yX7_growBy.desc).map (fun d => d.parameters.length) = some 2 := by decide +kernel
theorem dkX3_rise : yX3_rise.cls ≠ "java/lang/invoke/MethodHandle" ∧ yX3_rise.cls ≠ "java/lang/invoke/VarHandle" ∧ (parseMethodDescriptor yX3_rise.desc).map (fun d => d.parameters.length) = some 1 := by decide +kernel
theorem dkX12_bowl : yX12_bowl.cls ≠ "java/lang/invoke/MethodHandle" ∧ yX12_bowl.cls ≠ "java/lang/invoke/VarHandle" ∧ (parseMethodDescriptor yX12_bowl.desc).map (fun d => d.parameters.length) = some 2 := by decide +kernel
theorem dkX7_longestOf : yX7_longestOf.cls ≠ "java/lang/invoke/MethodHandle" ∧ yX7_longestOf.cls ≠ "java/lang/invoke/VarHandle" ∧ (parseMethodDescriptor yX7_longestOf.desc).map (fun d => d.parameters.length) = some 1 := by decide +kernel
theorem dkX5_has : yX5_has.cls ≠ "java/lang/invoke/MethodHandle" ∧ yX5_has.cls ≠ "java/lang/invoke/VarHandle" ∧ (parseMethodDescriptor yX5_has.desc).map (fun d => d.parameters.length) = some 1 := by decide +kernel
theorem dkX10_numberEnd : yX10_numberEnd.cls ≠ "java/lang/invoke/MethodHandle" ∧ yX10_numberEnd.cls ≠ "java/lang/invoke/VarHandle" ∧ (parseMethodDescriptor yX10_numberEnd.desc).map (fun d => d.parameters.length) = some 1 := by decide +kernel
theorem dkX12_outside : yX12_outside.cls ≠ "java/lang/invoke/MethodHandle" ∧ yX12_outside.cls ≠ "java/lang/invoke/VarHandle" ∧ (parseMethodDescriptor yX12_outside.desc).map (fun d => d.parameters.length) = some 1 := by decide +kernel
theorem dkX11_longest : yX11_longest.cls ≠ "java/lang/invoke/MethodHandle" ∧ yX11_longest.cls ≠ "java/lang/invoke/VarHandle" ∧ (parseMethodDescriptor yX11_longest.desc).map (fun d => d.parameters.length) = some 2 := by decide +kernel
theorem dkX0_cost : yX0_cost.cls ≠ "java/lang/invoke/MethodHandle" ∧ yX0_cost.cls ≠ "java/lang/invoke/VarHandle" ∧ (parseMethodDescriptor yX0_cost.desc).map (fun d => d.parameters.length) = some 1 := by decide +kernel
theorem dkX12_puts : yX12_puts.cls ≠ "java/lang/invoke/MethodHandle" ∧ yX12_puts.cls ≠ "java/lang/invoke/VarHandle" ∧ (parseMethodDescriptor yX12_puts.desc).map (fun d => d.parameters.length) = some 3 := by decide +kernel
theorem dkX12_height : yX12_height.cls ≠ "java/lang/invoke/MethodHandle" ∧ yX12_height.cls ≠ "java/lang/invoke/VarHandle" ∧ (parseMethodDescriptor yX12_height.desc).map (fun d => d.parameters.length) = some 1 := by decide +kernel
theorem dkX6_cost : yX6_cost.cls ≠ "java/lang/invoke/MethodHandle" ∧ yX6_cost.cls ≠ "java/lang/invoke/VarHandle" ∧ (parseMethodDescriptor yX6_cost.desc).map (fun d => d.parameters.length) = some 1 := by decide +kernel
theorem dkX7_costLessForSetsOf : yX7_costLessForSetsOf.cls ≠ "java/lang/invoke/MethodHandle" ∧ yX7_costLessForSetsOf.cls ≠ "java/lang/invoke/VarHandle" ∧ (parseMethodDescriptor yX7_costLessForSetsOf.desc).map (fun d => d.parameters.length) = some 1 := by decide +kernel
theorem dkX5_add : yX5_add.cls ≠ "java/lang/invoke/MethodHandle" ∧ yX5_add.cls ≠ "java/lang/invoke/VarHandle" ∧ (parseMethodDescriptor yX5_add.desc).map (fun d => d.parameters.length) = some 5 := by decide +kernel
theorem dkX12_init : yX12_init.cls ≠ "java/lang/invoke/MethodHandle" ∧ yX12_init.cls ≠ "java/lang/invoke/VarHandle" ∧ (parseMethodDescriptor yX12_init.desc).map (fun d => d.parameters.length) = some 0 := by decide +kernel
theorem dkX11_load : yX11_load.cls ≠ "java/lang/invoke/MethodHandle" ∧ yX11_load.cls ≠ "java/lang/invoke/VarHandle" ∧ (parseMethodDescriptor yX11_load.desc).map (fun d => d.parameters.length) = some 1 := by decide +kernel
theorem dkX11_next : yX11_next.cls ≠ "java/lang/invoke/MethodHandle" ∧ yX11_next.cls ≠ "java/lang/invoke/VarHandle" ∧ (parseMethodDescriptor yX11_next.desc).map (fun d => d.parameters.length) = some 2 := by decide +kernel
theorem dkX12_row : yX12_row.cls ≠ "java/lang/invoke/MethodHandle" ∧ yX12_row.cls ≠ "java/lang/invoke/VarHandle" ∧ (parseMethodDescriptor yX12_row.desc).map (fun d => d.parameters.length) = some 3 := by decide +kernel
theorem dkX12_lies : yX12_lies.cls ≠ "java/lang/invoke/MethodHandle" ∧ yX12_lies.cls ≠ "java/lang/invoke/VarHandle" ∧ (parseMethodDescriptor yX12_lies.desc).map (fun d => d.parameters.length) = some 2 := by decide +kernel
theorem dkX11_keep : yX11_keep.cls ≠ "java/lang/invoke/MethodHandle" ∧ yX11_keep.cls ≠ "java/lang/invoke/VarHandle" ∧ (parseMethodDescriptor yX11_keep.desc).map (fun d => d.parameters.length) = some 4 := by decide +kernel
theorem dkX12_narrow : yX12_narrow.cls ≠ "java/lang/invoke/MethodHandle" ∧ yX12_narrow.cls ≠ "java/lang/invoke/VarHandle" ∧ (parseMethodDescriptor yX12_narrow.desc).map (fun d => d.parameters.length) = some 2 := by decide +kernel
theorem dkX12_throwsNew : yX12_throwsNew.cls ≠ "java/lang/invoke/MethodHandle" ∧ yX12_throwsNew.cls ≠ "java/lang/invoke/VarHandle" ∧ (parseMethodDescriptor yX12_throwsNew.desc).map (fun d => d.parameters.length) = some 0 := by decide +kernel
theorem dkX5_riseOf : yX5_riseOf.cls ≠ "java/lang/invoke/MethodHandle" ∧ yX5_riseOf.cls ≠ "java/lang/invoke/VarHandle" ∧ (parseMethodDescriptor yX5_riseOf.desc).map (fun d => d.parameters.length) = some 1 := by decide +kernel
theorem dkX10_hasStretch : yX10_hasStretch.cls ≠ "java/lang/invoke/MethodHandle" ∧ yX10_hasStretch.cls ≠ "java/lang/invoke/VarHandle" ∧ (parseMethodDescriptor yX10_hasStretch.desc).map (fun d => d.parameters.length) = some 2 := by decide +kernel
theorem dkX12_warm : yX12_warm.cls ≠ "java/lang/invoke/MethodHandle" ∧ yX12_warm.cls ≠ "java/lang/invoke/VarHandle" ∧ (parseMethodDescriptor yX12_warm.desc).map (fun d => d.parameters.length) = some 1 := by decide +kernel
theorem dkX11_carry : yX11_carry.cls ≠ "java/lang/invoke/MethodHandle" ∧ yX11_carry.cls ≠ "java/lang/invoke/VarHandle" ∧ (parseMethodDescriptor yX11_carry.desc).map (fun d => d.parameters.length) = some 0 := by decide +kernel
theorem dkX12_from : yX12_from.cls ≠ "java/lang/invoke/MethodHandle" ∧ yX12_from.cls ≠ "java/lang/invoke/VarHandle" ∧ (parseMethodDescriptor yX12_from.desc).map (fun d => d.parameters.length) = some 4 := by decide +kernel
theorem dkX12_wrongRow : yX12_wrongRow.cls ≠ "java/lang/invoke/MethodHandle" ∧ yX12_wrongRow.cls ≠ "java/lang/invoke/VarHandle" ∧ (parseMethodDescriptor yX12_wrongRow.desc).map (fun d => d.parameters.length) = some 2 := by decide +kernel
theorem dkX12_comes : yX12_comes.cls ≠ "java/lang/invoke/MethodHandle" ∧ yX12_comes.cls ≠ "java/lang/invoke/VarHandle" ∧ (parseMethodDescriptor yX12_comes.desc).map (fun d => d.parameters.length) = some 4 := by decide +kernel
theorem dkX12_turn : yX12_turn.cls ≠ "java/lang/invoke/MethodHandle" ∧ yX12_turn.cls ≠ "java/lang/invoke/VarHandle" ∧ (parseMethodDescriptor yX12_turn.desc).map (fun d => d.parameters.length) = some 1 := by decide +kernel
theorem dkX11_firstMisplaced : yX11_firstMisplaced.cls ≠ "java/lang/invoke/MethodHandle" ∧ yX11_firstMisplaced.cls ≠ "java/lang/invoke/VarHandle" ∧ (parseMethodDescriptor yX11_firstMisplaced.desc).map (fun d => d.parameters.length) = some 1 := by decide +kernel
theorem dkX12_comesTold : yX12_comesTold.cls ≠ "java/lang/invoke/MethodHandle" ∧ yX12_comesTold.cls ≠ "java/lang/invoke/VarHandle" ∧ (parseMethodDescriptor yX12_comesTold.desc).map (fun d => d.parameters.length) = some 1 := by decide +kernel
theorem dkX0_inside : yX0_inside.cls ≠ "java/lang/invoke/MethodHandle" ∧ yX0_inside.cls ≠ "java/lang/invoke/VarHandle" ∧ (parseMethodDescriptor yX0_inside.desc).map (fun d => d.parameters.length) = some 4 := by decide +kernel
theorem dkX12_isShelf : yX12_isShelf.cls ≠ "java/lang/invoke/MethodHandle" ∧ yX12_isShelf.cls ≠ "java/lang/invoke/VarHandle" ∧ (parseMethodDescriptor yX12_isShelf.desc).map (fun d => d.parameters.length) = some 1 := by decide +kernel
theorem dkX5_isIn : yX5_isIn.cls ≠ "java/lang/invoke/MethodHandle" ∧ yX5_isIn.cls ≠ "java/lang/invoke/VarHandle" ∧ (parseMethodDescriptor yX5_isIn.desc).map (fun d => d.parameters.length) = some 3 := by decide +kernel
theorem dkX7_mostApart : yX7_mostApart.cls ≠ "java/lang/invoke/MethodHandle" ∧ yX7_mostApart.cls ≠ "java/lang/invoke/VarHandle" ∧ (parseMethodDescriptor yX7_mostApart.desc).map (fun d => d.parameters.length) = some 0 := by decide +kernel
theorem dkX11_whole : yX11_whole.cls ≠ "java/lang/invoke/MethodHandle" ∧ yX11_whole.cls ≠ "java/lang/invoke/VarHandle" ∧ (parseMethodDescriptor yX11_whole.desc).map (fun d => d.parameters.length) = some 1 := by decide +kernel
theorem dkX5_insideAt : yX5_insideAt.cls ≠ "java/lang/invoke/MethodHandle" ∧ yX5_insideAt.cls ≠ "java/lang/invoke/VarHandle" ∧ (parseMethodDescriptor yX5_insideAt.desc).map (fun d => d.parameters.length) = some 3 := by decide +kernel
theorem dkX6_inside : yX6_inside.cls ≠ "java/lang/invoke/MethodHandle" ∧ yX6_inside.cls ≠ "java/lang/invoke/VarHandle" ∧ (parseMethodDescriptor yX6_inside.desc).map (fun d => d.parameters.length) = some 4 := by decide +kernel
theorem dkX12_fitsBut : yX12_fitsBut.cls ≠ "java/lang/invoke/MethodHandle" ∧ yX12_fitsBut.cls ≠ "java/lang/invoke/VarHandle" ∧ (parseMethodDescriptor yX12_fitsBut.desc).map (fun d => d.parameters.length) = some 2 := by decide +kernel
theorem dkX9_init : yX9_init.cls ≠ "java/lang/invoke/MethodHandle" ∧ yX9_init.cls ≠ "java/lang/invoke/VarHandle" ∧ (parseMethodDescriptor yX9_init.desc).map (fun d => d.parameters.length) = some 0 := by decide +kernel
theorem dkX11_element : yX11_element.cls ≠ "java/lang/invoke/MethodHandle" ∧ yX11_element.cls ≠ "java/lang/invoke/VarHandle" ∧ (parseMethodDescriptor yX11_element.desc).map (fun d => d.parameters.length) = some 2 := by decide +kernel
theorem dkX12_isOval : yX12_isOval.cls ≠ "java/lang/invoke/MethodHandle" ∧ yX12_isOval.cls ≠ "java/lang/invoke/VarHandle" ∧ (parseMethodDescriptor yX12_isOval.desc).map (fun d => d.parameters.length) = some 1 := by decide +kernel
theorem dkX12_readsNumber : yX12_readsNumber.cls ≠ "java/lang/invoke/MethodHandle" ∧ yX12_readsNumber.cls ≠ "java/lang/invoke/VarHandle" ∧ (parseMethodDescriptor yX12_readsNumber.desc).map (fun d => d.parameters.length) = some 1 := by decide +kernel
theorem dkX4_outside : yX4_outside.cls ≠ "java/lang/invoke/MethodHandle" ∧ yX4_outside.cls ≠ "java/lang/invoke/VarHandle" ∧ (parseMethodDescriptor yX4_outside.desc).map (fun d => d.parameters.length) = some 3 := by decide +kernel
theorem dkX8_inside : yX8_inside.cls ≠ "java/lang/invoke/MethodHandle" ∧ yX8_inside.cls ≠ "java/lang/invoke/VarHandle" ∧ (parseMethodDescriptor yX8_inside.desc).map (fun d => d.parameters.length) = some 4 := by decide +kernel
theorem dkX12_helps : yX12_helps.cls ≠ "java/lang/invoke/MethodHandle" ∧ yX12_helps.cls ≠ "java/lang/invoke/VarHandle" ∧ (parseMethodDescriptor yX12_helps.desc).map (fun d => d.parameters.length) = some 2 := by decide +kernel
theorem dkX5_tellBowl : yX5_tellBowl.cls ≠ "java/lang/invoke/MethodHandle" ∧ yX5_tellBowl.cls ≠ "java/lang/invoke/VarHandle" ∧ (parseMethodDescriptor yX5_tellBowl.desc).map (fun d => d.parameters.length) = some 2 := by decide +kernel
theorem dkX5_pairsIn : yX5_pairsIn.cls ≠ "java/lang/invoke/MethodHandle" ∧ yX5_pairsIn.cls ≠ "java/lang/invoke/VarHandle" ∧ (parseMethodDescriptor yX5_pairsIn.desc).map (fun d => d.parameters.length) = some 0 := by decide +kernel
theorem dkX12_get : yX12_get.cls ≠ "java/lang/invoke/MethodHandle" ∧ yX12_get.cls ≠ "java/lang/invoke/VarHandle" ∧ (parseMethodDescriptor yX12_get.desc).map (fun d => d.parameters.length) = some 2 := by decide +kernel
theorem dkX0_fail : yX0_fail.cls ≠ "java/lang/invoke/MethodHandle" ∧ yX0_fail.cls ≠ "java/lang/invoke/VarHandle" ∧ (parseMethodDescriptor yX0_fail.desc).map (fun d => d.parameters.length) = some 1 := by decide +kernel
theorem dkX12_breaks : yX12_breaks.cls ≠ "java/lang/invoke/MethodHandle" ∧ yX12_breaks.cls ≠ "java/lang/invoke/VarHandle" ∧ (parseMethodDescriptor yX12_breaks.desc).map (fun d => d.parameters.length) = some 3 := by decide +kernel
theorem dkX4_fail : yX4_fail.cls ≠ "java/lang/invoke/MethodHandle" ∧ yX4_fail.cls ≠ "java/lang/invoke/VarHandle" ∧ (parseMethodDescriptor yX4_fail.desc).map (fun d => d.parameters.length) = some 1 := by decide +kernel
theorem dkX3_init : yX3_init.cls ≠ "java/lang/invoke/MethodHandle" ∧ yX3_init.cls ≠ "java/lang/invoke/VarHandle" ∧ (parseMethodDescriptor yX3_init.desc).map (fun d => d.parameters.length) = some 0 := by decide +kernel
theorem dkX12_out : yX12_out.cls ≠ "java/lang/invoke/MethodHandle" ∧ yX12_out.cls ≠ "java/lang/invoke/VarHandle" ∧ (parseMethodDescriptor yX12_out.desc).map (fun d => d.parameters.length) = some 2 := by decide +kernel
theorem dkX12_wrongKept : yX12_wrongKept.cls ≠ "java/lang/invoke/MethodHandle" ∧ yX12_wrongKept.cls ≠ "java/lang/invoke/VarHandle" ∧ (parseMethodDescriptor yX12_wrongKept.desc).map (fun d => d.parameters.length) = some 1 := by decide +kernel
theorem dkX12_areBowls : yX12_areBowls.cls ≠ "java/lang/invoke/MethodHandle" ∧ yX12_areBowls.cls ≠ "java/lang/invoke/VarHandle" ∧ (parseMethodDescriptor yX12_areBowls.desc).map (fun d => d.parameters.length) = some 1 := by decide +kernel
theorem dkX11_count : yX11_count.cls ≠ "java/lang/invoke/MethodHandle" ∧ yX11_count.cls ≠ "java/lang/invoke/VarHandle" ∧ (parseMethodDescriptor yX11_count.desc).map (fun d => d.parameters.length) = some 1 := by decide +kernel
theorem dkX3_cost : yX3_cost.cls ≠ "java/lang/invoke/MethodHandle" ∧ yX3_cost.cls ≠ "java/lang/invoke/VarHandle" ∧ (parseMethodDescriptor yX3_cost.desc).map (fun d => d.parameters.length) = some 1 := by decide +kernel
theorem dkX5_outsideAt : yX5_outsideAt.cls ≠ "java/lang/invoke/MethodHandle" ∧ yX5_outsideAt.cls ≠ "java/lang/invoke/VarHandle" ∧ (parseMethodDescriptor yX5_outsideAt.desc).map (fun d => d.parameters.length) = some 2 := by decide +kernel
theorem dkX11_isWarmth : yX11_isWarmth.cls ≠ "java/lang/invoke/MethodHandle" ∧ yX11_isWarmth.cls ≠ "java/lang/invoke/VarHandle" ∧ (parseMethodDescriptor yX11_isWarmth.desc).map (fun d => d.parameters.length) = some 1 := by decide +kernel
theorem dkX10_faultOfForm : yX10_faultOfForm.cls ≠ "java/lang/invoke/MethodHandle" ∧ yX10_faultOfForm.cls ≠ "java/lang/invoke/VarHandle" ∧ (parseMethodDescriptor yX10_faultOfForm.desc).map (fun d => d.parameters.length) = some 0 := by decide +kernel
theorem dkX11_nest : yX11_nest.cls ≠ "java/lang/invoke/MethodHandle" ∧ yX11_nest.cls ≠ "java/lang/invoke/VarHandle" ∧ (parseMethodDescriptor yX11_nest.desc).map (fun d => d.parameters.length) = some 1 := by decide +kernel
theorem dkX12_leastOf : yX12_leastOf.cls ≠ "java/lang/invoke/MethodHandle" ∧ yX12_leastOf.cls ≠ "java/lang/invoke/VarHandle" ∧ (parseMethodDescriptor yX12_leastOf.desc).map (fun d => d.parameters.length) = some 2 := by decide +kernel
theorem dkX12_areApart : yX12_areApart.cls ≠ "java/lang/invoke/MethodHandle" ∧ yX12_areApart.cls ≠ "java/lang/invoke/VarHandle" ∧ (parseMethodDescriptor yX12_areApart.desc).map (fun d => d.parameters.length) = some 1 := by decide +kernel
theorem dkX2_cost : yX2_cost.cls ≠ "java/lang/invoke/MethodHandle" ∧ yX2_cost.cls ≠ "java/lang/invoke/VarHandle" ∧ (parseMethodDescriptor yX2_cost.desc).map (fun d => d.parameters.length) = some 1 := by decide +kernel
theorem dkX8_cost : yX8_cost.cls ≠ "java/lang/invoke/MethodHandle" ∧ yX8_cost.cls ≠ "java/lang/invoke/VarHandle" ∧ (parseMethodDescriptor yX8_cost.desc).map (fun d => d.parameters.length) = some 1 := by decide +kernel
theorem dkX10_at : yX10_at.cls ≠ "java/lang/invoke/MethodHandle" ∧ yX10_at.cls ≠ "java/lang/invoke/VarHandle" ∧ (parseMethodDescriptor yX10_at.desc).map (fun d => d.parameters.length) = some 1 := by decide +kernel
theorem dkX12_spanOf : yX12_spanOf.cls ≠ "java/lang/invoke/MethodHandle" ∧ yX12_spanOf.cls ≠ "java/lang/invoke/VarHandle" ∧ (parseMethodDescriptor yX12_spanOf.desc).map (fun d => d.parameters.length) = some 4 := by decide +kernel
theorem dkX11_bowlRefusal : yX11_bowlRefusal.cls ≠ "java/lang/invoke/MethodHandle" ∧ yX11_bowlRefusal.cls ≠ "java/lang/invoke/VarHandle" ∧ (parseMethodDescriptor yX11_bowlRefusal.desc).map (fun d => d.parameters.length) = some 1 := by decide +kernel
theorem dkX12_restore : yX12_restore.cls ≠ "java/lang/invoke/MethodHandle" ∧ yX12_restore.cls ≠ "java/lang/invoke/VarHandle" ∧ (parseMethodDescriptor yX12_restore.desc).map (fun d => d.parameters.length) = some 0 := by decide +kernel
theorem dkX12_bits : yX12_bits.cls ≠ "java/lang/invoke/MethodHandle" ∧ yX12_bits.cls ≠ "java/lang/invoke/VarHandle" ∧ (parseMethodDescriptor yX12_bits.desc).map (fun d => d.parameters.length) = some 1 := by decide +kernel
theorem dkX8_init : yX8_init.cls ≠ "java/lang/invoke/MethodHandle" ∧ yX8_init.cls ≠ "java/lang/invoke/VarHandle" ∧ (parseMethodDescriptor yX8_init.desc).map (fun d => d.parameters.length) = some 0 := by decide +kernel
theorem dkX12_load : yX12_load.cls ≠ "java/lang/invoke/MethodHandle" ∧ yX12_load.cls ≠ "java/lang/invoke/VarHandle" ∧ (parseMethodDescriptor yX12_load.desc).map (fun d => d.parameters.length) = some 1 := by decide +kernel
theorem dkX5_become : yX5_become.cls ≠ "java/lang/invoke/MethodHandle" ∧ yX5_become.cls ≠ "java/lang/invoke/VarHandle" ∧ (parseMethodDescriptor yX5_become.desc).map (fun d => d.parameters.length) = some 1 := by decide +kernel
theorem dkX4_cost : yX4_cost.cls ≠ "java/lang/invoke/MethodHandle" ∧ yX4_cost.cls ≠ "java/lang/invoke/VarHandle" ∧ (parseMethodDescriptor yX4_cost.desc).map (fun d => d.parameters.length) = some 1 := by decide +kernel
theorem dkX12_liesNow : yX12_liesNow.cls ≠ "java/lang/invoke/MethodHandle" ∧ yX12_liesNow.cls ≠ "java/lang/invoke/VarHandle" ∧ (parseMethodDescriptor yX12_liesNow.desc).map (fun d => d.parameters.length) = some 2 := by decide +kernel
theorem dkX10_holdRow : yX10_holdRow.cls ≠ "java/lang/invoke/MethodHandle" ∧ yX10_holdRow.cls ≠ "java/lang/invoke/VarHandle" ∧ (parseMethodDescriptor yX10_holdRow.desc).map (fun d => d.parameters.length) = some 2 := by decide +kernel
theorem dkX12_fewest : yX12_fewest.cls ≠ "java/lang/invoke/MethodHandle" ∧ yX12_fewest.cls ≠ "java/lang/invoke/VarHandle" ∧ (parseMethodDescriptor yX12_fewest.desc).map (fun d => d.parameters.length) = some 0 := by decide +kernel
theorem dkX0_rise : yX0_rise.cls ≠ "java/lang/invoke/MethodHandle" ∧ yX0_rise.cls ≠ "java/lang/invoke/VarHandle" ∧ (parseMethodDescriptor yX0_rise.desc).map (fun d => d.parameters.length) = some 1 := by decide +kernel
theorem lX11_70 : zLv RX11 70 mX11_bytesRefusal 1 := ⟨⟨Or.inl (big_in (List.mem_of_getElem? (i := 233) (by decide +kernel)) rfl), ckX11_bytesRefusal, ikRX11, dkX11_bytesRefusal, by decide⟩, nkX11_bytesRefusal, vkX11_bytesRefusal⟩
theorem lX11_74 : zLv RX11 74 mX10_faultOfForm 0 := ⟨⟨Or.inl (big_in (List.mem_of_getElem? (i := 247) (by decide +kernel)) rfl), ckX10_faultOfForm, ikRX10, dkX10_faultOfForm, by decide⟩, nkX10_faultOfForm, vkX10_faultOfForm⟩
theorem lX11_78 : zLv RX11 78 mX11_tellAll 1 := ⟨⟨Or.inl (big_in (List.mem_of_getElem? (i := 279) (by decide +kernel)) rfl), ckX11_tellAll, ikRX11, dkX11_tellAll, by decide⟩, nkX11_tellAll, vkX11_tellAll⟩
theorem lX11_82 : zLv RX11 82 mX5_has 1 := ⟨⟨Or.inl (big_in (List.mem_of_getElem? (i := 334) (by decide +kernel)) rfl), ckX5_has, ikRX5, dkX5_has, by decide⟩, nkX5_has, vkX5_has⟩
theorem lX11_102 : zLv RX11 102 mX5_outsideAt 2 := ⟨⟨Or.inl (big_in (List.mem_of_getElem? (i := 335) (by decide +kernel)) rfl), ckX5_outsideAt, ikRX5, dkX5_outsideAt, by decide⟩, nkX5_outsideAt, vkX5_outsideAt⟩
theorem lX11_110 : zLv RX11 110 mX5_insideAt 3 := ⟨⟨Or.inl (big_in (List.mem_of_getElem? (i := 368) (by decide +kernel)) rfl), ckX5_insideAt, ikRX5, dkX5_insideAt, by decide⟩, nkX5_insideAt, vkX5_insideAt⟩
theorem lX11_114 : zLv RX11 114 mX5_riseOf 1 := ⟨⟨Or.inl (big_in (List.mem_of_getElem? (i := 395) (by decide +kernel)) rfl), ckX5_riseOf, ikRX5, dkX5_riseOf, by decide⟩, nkX5_riseOf, vkX5_riseOf⟩
theorem lX11_117 : zLs RX11 117 mX11_isShelf 1 := ⟨⟨Or.inl (big_in (List.mem_of_getElem? (i := 241) (by decide +kernel)) rfl), ckX11_isShelf, ikRX11, dkX11_isShelf, by decide⟩, skX11_isShelf⟩
theorem lX11_120 : zLs RX11 120 mX11_areHairs 1 := ⟨⟨Or.inl (big_in (List.mem_of_getElem? (i := 427) (by decide +kernel)) rfl), ckX11_areHairs, ikRX11, dkX11_areHairs, by decide⟩, skX11_areHairs⟩
theorem lX11_123 : zLs RX11 123 mX11_isWithin 3 := ⟨⟨Or.inl (big_in (List.mem_of_getElem? (i := 244) (by decide +kernel)) rfl), ckX11_isWithin, ikRX11, dkX11_isWithin, by decide⟩, skX11_isWithin⟩
theorem lX11_127 : zLv RX11 127 mX11_bowlRefusal 1 := ⟨⟨Or.inl (big_in (List.mem_of_getElem? (i := 430) (by decide +kernel)) rfl), ckX11_bowlRefusal, ikRX11, dkX11_bowlRefusal, by decide⟩, nkX11_bowlRefusal, vkX11_bowlRefusal⟩
theorem lX11_134 : zLv RX11 134 mX5_add 5 := ⟨⟨Or.inl (big_in (List.mem_of_getElem? (i := 434) (by decide +kernel)) rfl), ckX5_add, ikRX5, dkX5_add, by decide⟩, nkX5_add, vkX5_add⟩
theorem lX11_141 : zLs RX11 141 mX11_isWarmth 1 := ⟨⟨Or.inl (big_in (List.mem_of_getElem? (i := 439) (by decide +kernel)) rfl), ckX11_isWarmth, ikRX11, dkX11_isWarmth, by decide⟩, skX11_isWarmth⟩
theorem lX11_144 : zLv RX11 144 mX5_flip 1 := ⟨⟨Or.inl (big_in (List.mem_of_getElem? (i := 446) (by decide +kernel)) rfl), ckX5_flip, ikRX5, dkX5_flip, by decide⟩, nkX5_flip, vkX5_flip⟩
theorem lX11_147 : zLv RX11 147 mX11_arePair 2 := ⟨⟨Or.inl (big_in (List.mem_of_getElem? (i := 451) (by decide +kernel)) rfl), ckX11_arePair, ikRX11, dkX11_arePair, by decide⟩, nkX11_arePair, vkX11_arePair⟩
theorem lX11_151 : zLv RX11 151 mX5_isIn 3 := ⟨⟨Or.inl (big_in (List.mem_of_getElem? (i := 455) (by decide +kernel)) rfl), ckX5_isIn, ikRX5, dkX5_isIn, by decide⟩, nkX5_isIn, vkX5_isIn⟩
theorem lX11_154 : zLv RX11 154 mX11_areBowls 1 := ⟨⟨Or.inl (big_in (List.mem_of_getElem? (i := 483) (by decide +kernel)) rfl), ckX11_areBowls, ikRX11, dkX11_areBowls, by decide⟩, nkX11_areBowls, vkX11_areBowls⟩
theorem lX11_157 : zLv RX11 157 mX5_heightOf 1 := ⟨⟨Or.inl (big_in (List.mem_of_getElem? (i := 491) (by decide +kernel)) rfl), ckX5_heightOf, ikRX5, dkX5_heightOf, by decide⟩, nkX5_heightOf, vkX5_heightOf⟩
theorem lX11_160 : zLv RX11 160 mX7_findAll 1 := ⟨⟨Or.inl (big_in (List.mem_of_getElem? (i := 509) (by decide +kernel)) rfl), ckX7_findAll, ikRX7, dkX7_findAll, by decide⟩, nkX7_findAll, vkX7_findAll⟩
theorem lX11_164 : zLv RX11 164 mX7_longestOf 1 := ⟨⟨Or.inl (big_in (List.mem_of_getElem? (i := 527) (by decide +kernel)) rfl), ckX7_longestOf, ikRX7, dkX7_longestOf, by decide⟩, nkX7_longestOf, vkX7_longestOf⟩
theorem lX11_167 : zLs RX11 167 mJ6_bitCount_0f7a4 1 := ⟨⟨Or.inl (big_in (List.mem_of_getElem? (i := 541) (by decide +kernel)) rfl), ckJ6_bitCount_0f7a4, ikRJ6, dkJ6_bitCount_0f7a4, by decide⟩, skJ6_bitCount_0f7a4⟩
theorem lX11_173 : zLv RX11 173 mX7_costOneEach 1 := ⟨⟨Or.inl (big_in (List.mem_of_getElem? (i := 547) (by decide +kernel)) rfl), ckX7_costOneEach, ikRX7, dkX7_costOneEach, by decide⟩, nkX7_costOneEach, vkX7_costOneEach⟩
theorem lX11_177 : zLv RX11 177 mX7_leastSum 0 := ⟨⟨Or.inl (big_in (List.mem_of_getElem? (i := 552) (by decide +kernel)) rfl), ckX7_leastSum, ikRX7, dkX7_leastSum, by decide⟩, nkX7_leastSum, vkX7_leastSum⟩
theorem lX11_180 : zLv RX11 180 mX7_mostApart 0 := ⟨⟨Or.inl (big_in (List.mem_of_getElem? (i := 560) (by decide +kernel)) rfl), ckX7_mostApart, ikRX7, dkX7_mostApart, by decide⟩, nkX7_mostApart, vkX7_mostApart⟩
theorem lX11_183 : zLv RX11 183 mX7_costHeights 0 := ⟨⟨Or.inl (big_in (List.mem_of_getElem? (i := 572) (by decide +kernel)) rfl), ckX7_costHeights, ikRX7, dkX7_costHeights, by decide⟩, nkX7_costHeights, vkX7_costHeights⟩
theorem lX11_186 : zLv RX11 186 mX7_costLessForSetsOf 1 := ⟨⟨Or.inl (big_in (List.mem_of_getElem? (i := 584) (by decide +kernel)) rfl), ckX7_costLessForSetsOf, ikRX7, dkX7_costLessForSetsOf, by decide⟩, nkX7_costLessForSetsOf, vkX7_costLessForSetsOf⟩
theorem lX11_189 : zLv RX11 189 mX5_arrange 0 := ⟨⟨Or.inl (big_in (List.mem_of_getElem? (i := 592) (by decide +kernel)) rfl), ckX5_arrange, ikRX5, dkX5_arrange, by decide⟩, nkX5_arrange, vkX5_arrange⟩
theorem lX11_192 : zLv RX11 192 mX5_become 1 := ⟨⟨Or.inl (big_in (List.mem_of_getElem? (i := 283) (by decide +kernel)) rfl), ckX5_become, ikRX5, dkX5_become, by decide⟩, nkX5_become, vkX5_become⟩
theorem lX11_195 : zLv RX11 195 mX5_think 2 := ⟨⟨Or.inl (big_in (List.mem_of_getElem? (i := 593) (by decide +kernel)) rfl), ckX5_think, ikRX5, dkX5_think, by decide⟩, nkX5_think, vkX5_think⟩
theorem lX11_201 : zLv RX11 201 mX11_isBridged 3 := ⟨⟨Or.inl (big_in (List.mem_of_getElem? (i := 597) (by decide +kernel)) rfl), ckX11_isBridged, ikRX11, dkX11_isBridged, by decide⟩, nkX11_isBridged, vkX11_isBridged⟩
theorem lX11_204 : zLv RX11 204 mX7_findChains 1 := ⟨⟨Or.inl (big_in (List.mem_of_getElem? (i := 605) (by decide +kernel)) rfl), ckX7_findChains, ikRX7, dkX7_findChains, by decide⟩, nkX7_findChains, vkX7_findChains⟩
theorem lX11_207 : zLv RX11 207 mX7_longestWith 2 := ⟨⟨Or.inl (big_in (List.mem_of_getElem? (i := 618) (by decide +kernel)) rfl), ckX7_longestWith, ikRX7, dkX7_longestWith, by decide⟩, nkX7_longestWith, vkX7_longestWith⟩
theorem lX11_214 : zLv RX11 214 mX11_firstMisplaced 1 := ⟨⟨Or.inl (big_in (List.mem_of_getElem? (i := 626) (by decide +kernel)) rfl), ckX11_firstMisplaced, ikRX11, dkX11_firstMisplaced, by decide⟩, nkX11_firstMisplaced, vkX11_firstMisplaced⟩
theorem lX11_217 : zLv RX11 217 mX10_at 1 := ⟨⟨Or.inl (big_in (List.mem_of_getElem? (i := 630) (by decide +kernel)) rfl), ckX10_at, ikRX10, dkX10_at, by decide⟩, nkX10_at, vkX10_at⟩
theorem lX11_220 : zLv RX11 220 mX11_rowRefusal 1 := ⟨⟨Or.inl (big_in (List.mem_of_getElem? (i := 635) (by decide +kernel)) rfl), ckX11_rowRefusal, ikRX11, dkX11_rowRefusal, by decide⟩, nkX11_rowRefusal, vkX11_rowRefusal⟩
theorem lX11_223 : zLv RX11 223 mX5_spanned 4 := ⟨⟨Or.inl (big_in (List.mem_of_getElem? (i := 643) (by decide +kernel)) rfl), ckX5_spanned, ikRX5, dkX5_spanned, by decide⟩, nkX5_spanned, vkX5_spanned⟩
theorem lX11_227 : zLv RX11 227 mX11_pairsPerhaps 2 := ⟨⟨Or.inl (big_in (List.mem_of_getElem? (i := 652) (by decide +kernel)) rfl), ckX11_pairsPerhaps, ikRX11, dkX11_pairsPerhaps, by decide⟩, nkX11_pairsPerhaps, vkX11_pairsPerhaps⟩
theorem lX11_230 : zLv RX11 230 mX11_brokenBy 2 := ⟨⟨Or.inl (big_in (List.mem_of_getElem? (i := 664) (by decide +kernel)) rfl), ckX11_brokenBy, ikRX11, dkX11_brokenBy, by decide⟩, nkX11_brokenBy, vkX11_brokenBy⟩
theorem lX11_233 : zLv RX11 233 mX5_all 0 := ⟨⟨Or.inl (big_in (List.mem_of_getElem? (i := 487) (by decide +kernel)) rfl), ckX5_all, ikRX5, dkX5_all, by decide⟩, nkX5_all, vkX5_all⟩
theorem lX11_236 : zLv RX11 236 mX5_pairsIn 0 := ⟨⟨Or.inl (big_in (List.mem_of_getElem? (i := 683) (by decide +kernel)) rfl), ckX5_pairsIn, ikRX5, dkX5_pairsIn, by decide⟩, nkX5_pairsIn, vkX5_pairsIn⟩
theorem lX11_239 : zLv RX11 239 mX5_allDepths 0 := ⟨⟨Or.inl (big_in (List.mem_of_getElem? (i := 687) (by decide +kernel)) rfl), ckX5_allDepths, ikRX5, dkX5_allDepths, by decide⟩, nkX5_allDepths, vkX5_allDepths⟩
theorem lX11_242 : zLv RX11 242 mX10_clear 0 := ⟨⟨Or.inl (big_in (List.mem_of_getElem? (i := 695) (by decide +kernel)) rfl), ckX10_clear, ikRX10, dkX10_clear, by decide⟩, nkX10_clear, vkX10_clear⟩
theorem lX11_245 : zLv RX11 245 mX10_holdBowl 2 := ⟨⟨Or.inl (big_in (List.mem_of_getElem? (i := 699) (by decide +kernel)) rfl), ckX10_holdBowl, ikRX10, dkX10_holdBowl, by decide⟩, nkX10_holdBowl, vkX10_holdBowl⟩
theorem lX11_249 : zLv RX11 249 mX10_holdRow 2 := ⟨⟨Or.inl (big_in (List.mem_of_getElem? (i := 707) (by decide +kernel)) rfl), ckX10_holdRow, ikRX10, dkX10_holdRow, by decide⟩, nkX10_holdRow, vkX10_holdRow⟩
theorem lX11_252 : zLv RX11 252 mX10_hasPlace 1 := ⟨⟨Or.inl (big_in (List.mem_of_getElem? (i := 715) (by decide +kernel)) rfl), ckX10_hasPlace, ikRX10, dkX10_hasPlace, by decide⟩, nkX10_hasPlace, vkX10_hasPlace⟩
theorem lX11_255 : zLv RX11 255 mX10_set 2 := ⟨⟨Or.inl (big_in (List.mem_of_getElem? (i := 716) (by decide +kernel)) rfl), ckX10_set, ikRX10, dkX10_set, by decide⟩, nkX10_set, vkX10_set⟩
theorem lX11_276 : zLv RX11 276 mX10_hasStretch 2 := ⟨⟨Or.inl (big_in (List.mem_of_getElem? (i := 724) (by decide +kernel)) rfl), ckX10_hasStretch, ikRX10, dkX10_hasStretch, by decide⟩, nkX10_hasStretch, vkX10_hasStretch⟩
theorem lX11_296 : zLv RX11 296 mX11_shelfRefusal 2 := ⟨⟨Or.inl (big_in (List.mem_of_getElem? (i := 237) (by decide +kernel)) rfl), ckX11_shelfRefusal, ikRX11, dkX11_shelfRefusal, by decide⟩, nkX11_shelfRefusal, vkX11_shelfRefusal⟩
theorem lX11_299 : zLv RX11 299 mX5_tell 2 := ⟨⟨Or.inl (big_in (List.mem_of_getElem? (i := 290) (by decide +kernel)) rfl), ckX5_tell, ikRX5, dkX5_tell, by decide⟩, nkX5_tell, vkX5_tell⟩
theorem lX11_303 : zLv RX11 303 mX10_statementEnd 1 := ⟨⟨Or.inl (big_in (List.mem_of_getElem? (i := 329) (by decide +kernel)) rfl), ckX10_statementEnd, ikRX10, dkX10_statementEnd, by decide⟩, nkX10_statementEnd, vkX10_statementEnd⟩
theorem lX5_47 : zLv RX5 47 mX5_place 5 := ⟨⟨Or.inl (big_in (List.mem_of_getElem? (i := 313) (by decide +kernel)) rfl), ckX5_place, ikRX5, dkX5_place, by decide⟩, nkX5_place, vkX5_place⟩
theorem lX5_51 : zLv RX5 51 mX5_has 1 := ⟨⟨Or.inl (big_in (List.mem_of_getElem? (i := 321) (by decide +kernel)) rfl), ckX5_has, ikRX5, dkX5_has, by decide⟩, nkX5_has, vkX5_has⟩
theorem lX5_55 : zLv RX5 55 mX10_at 1 := ⟨⟨Or.inl (big_in (List.mem_of_getElem? (i := 294) (by decide +kernel)) rfl), ckX10_at, ikRX10, dkX10_at, by decide⟩, nkX10_at, vkX10_at⟩
theorem lX5_61 : zLv RX5 61 mX5_tellBowl 2 := ⟨⟨Or.inl (big_in (List.mem_of_getElem? (i := 295) (by decide +kernel)) rfl), ckX5_tellBowl, ikRX5, dkX5_tellBowl, by decide⟩, nkX5_tellBowl, vkX5_tellBowl⟩
theorem lX5_65 : zLv RX5 65 mX10_digitAt 1 := ⟨⟨Or.inl (big_in (List.mem_of_getElem? (i := 299) (by decide +kernel)) rfl), ckX10_digitAt, ikRX10, dkX10_digitAt, by decide⟩, nkX10_digitAt, vkX10_digitAt⟩
theorem lX5_68 : zLv RX5 68 mX5_flip 1 := ⟨⟨Or.inl (big_in (List.mem_of_getElem? (i := 317) (by decide +kernel)) rfl), ckX5_flip, ikRX5, dkX5_flip, by decide⟩, nkX5_flip, vkX5_flip⟩
theorem lX5_71 : zLv RX5 71 mX5_dropLatest 0 := ⟨⟨Or.inl (big_in (List.mem_of_getElem? (i := 325) (by decide +kernel)) rfl), ckX5_dropLatest, ikRX5, dkX5_dropLatest, by decide⟩, nkX5_dropLatest, vkX5_dropLatest⟩
theorem lX5_75 : zLv RX5 75 mX10_numberAt 1 := ⟨⟨Or.inl (big_in (List.mem_of_getElem? (i := 303) (by decide +kernel)) rfl), ckX10_numberAt, ikRX10, dkX10_numberAt, by decide⟩, nkX10_numberAt, vkX10_numberAt⟩
theorem lX5_78 : zLv RX5 78 mX10_numberEnd 1 := ⟨⟨Or.inl (big_in (List.mem_of_getElem? (i := 308) (by decide +kernel)) rfl), ckX10_numberEnd, ikRX10, dkX10_numberEnd, by decide⟩, nkX10_numberEnd, vkX10_numberEnd⟩
theorem lX5_81 : zLv RX5 81 mX5_add 5 := ⟨⟨Or.inl (big_in (List.mem_of_getElem? (i := 309) (by decide +kernel)) rfl), ckX5_add, ikRX5, dkX5_add, by decide⟩, nkX5_add, vkX5_add⟩
theorem lX5_98 : zLv RX5 98 mX5_agree 2 := ⟨⟨Or.inl (big_in (List.mem_of_getElem? (i := 459) (by decide +kernel)) rfl), ckX5_agree, ikRX5, dkX5_agree, by decide⟩, nkX5_agree, vkX5_agree⟩
theorem lX5_102 : zLv RX5 102 mX5_outsideAt 2 := ⟨⟨Or.inl (big_in (List.mem_of_getElem? (i := 477) (by decide +kernel)) rfl), ckX5_outsideAt, ikRX5, dkX5_outsideAt, by decide⟩, nkX5_outsideAt, vkX5_outsideAt⟩
theorem lX5_106 : zLv RX5 106 mX5_insideAt 3 := ⟨⟨Or.inl (big_in (List.mem_of_getElem? (i := 478) (by decide +kernel)) rfl), ckX5_insideAt, ikRX5, dkX5_insideAt, by decide⟩, nkX5_insideAt, vkX5_insideAt⟩
theorem lX5_112 : zLs RX5 112 mJ9_max_7cf53 2 := ⟨⟨Or.inl (big_in (List.mem_of_getElem? (i := 647) (by decide +kernel)) rfl), ckJ9_max_7cf53, ikRJ9, dkJ9_max_7cf53, by decide⟩, skJ9_max_7cf53⟩
theorem lX5_117 : zLv RX5 117 mX5_arrange 0 := ⟨⟨Or.inl (big_in (List.mem_of_getElem? (i := 495) (by decide +kernel)) rfl), ckX5_arrange, ikRX5, dkX5_arrange, by decide⟩, nkX5_arrange, vkX5_arrange⟩
theorem lX5_120 : zLv RX5 120 mX5_isIn 3 := ⟨⟨Or.inl (big_in (List.mem_of_getElem? (i := 499) (by decide +kernel)) rfl), ckX5_isIn, ikRX5, dkX5_isIn, by decide⟩, nkX5_isIn, vkX5_isIn⟩
theorem lX5_124 : zLv RX5 124 mX5_riseOf 1 := ⟨⟨Or.inl (big_in (List.mem_of_getElem? (i := 500) (by decide +kernel)) rfl), ckX5_riseOf, ikRX5, dkX5_riseOf, by decide⟩, nkX5_riseOf, vkX5_riseOf⟩
theorem lX6_11 : zLs RX6 11 mJ9_max_7cf53 2 := ⟨⟨Or.inl (big_in (List.mem_of_getElem? (i := 348) (by decide +kernel)) rfl), ckJ9_max_7cf53, ikRJ9, dkJ9_max_7cf53, by decide⟩, skJ9_max_7cf53⟩
theorem lX7_42 : zLs RX7 42 mJ9_min_7cf53 2 := ⟨⟨Or.inl (big_in (List.mem_of_getElem? (i := 513) (by decide +kernel)) rfl), ckJ9_min_7cf53, ikRJ9, dkJ9_min_7cf53, by decide⟩, skJ9_min_7cf53⟩
theorem lX7_57 : zLv RX7 57 mX5_arrange 0 := ⟨⟨Or.inl (big_in (List.mem_of_getElem? (i := 516) (by decide +kernel)) rfl), ckX5_arrange, ikRX5, dkX5_arrange, by decide⟩, nkX5_arrange, vkX5_arrange⟩
theorem lX7_66 : zLv RX7 66 mX5_isIn 3 := ⟨⟨Or.inl (big_in (List.mem_of_getElem? (i := 517) (by decide +kernel)) rfl), ckX5_isIn, ikRX5, dkX5_isIn, by decide⟩, nkX5_isIn, vkX5_isIn⟩
theorem lX7_70 : zLv RX7 70 mX7_growBy 2 := ⟨⟨Or.inl (big_in (List.mem_of_getElem? (i := 518) (by decide +kernel)) rfl), ckX7_growBy, ikRX7, dkX7_growBy, by decide⟩, nkX7_growBy, vkX7_growBy⟩
theorem lX7_74 : zLv RX7 74 mX5_riseOf 1 := ⟨⟨Or.inl (big_in (List.mem_of_getElem? (i := 522) (by decide +kernel)) rfl), ckX5_riseOf, ikRX5, dkX5_riseOf, by decide⟩, nkX5_riseOf, vkX5_riseOf⟩
theorem lX7_81 : zLv RX7 81 mX7_note 3 := ⟨⟨Or.inl (big_in (List.mem_of_getElem? (i := 523) (by decide +kernel)) rfl), ckX7_note, ikRX7, dkX7_note, by decide⟩, nkX7_note, vkX7_note⟩
theorem lX7_85 : zLv RX7 85 mX7_isLonger 2 := ⟨⟨Or.inl (big_in (List.mem_of_getElem? (i := 531) (by decide +kernel)) rfl), ckX7_isLonger, ikRX7, dkX7_isLonger, by decide⟩, nkX7_isLonger, vkX7_isLonger⟩
theorem lX7_89 : zLs RX7 89 mJ6_bitCount_0f7a4 1 := ⟨⟨Or.inl (big_in (List.mem_of_getElem? (i := 535) (by decide +kernel)) rfl), ckJ6_bitCount_0f7a4, ikRJ6, dkJ6_bitCount_0f7a4, by decide⟩, skJ6_bitCount_0f7a4⟩
theorem lX7_94 : zLv RX7 94 mX7_isApart 1 := ⟨⟨Or.inl (big_in (List.mem_of_getElem? (i := 564) (by decide +kernel)) rfl), ckX7_isApart, ikRX7, dkX7_isApart, by decide⟩, nkX7_isApart, vkX7_isApart⟩
theorem lX7_99 : zLv RX7 99 mX7_lengthenInward 1 := ⟨⟨Or.inl (big_in (List.mem_of_getElem? (i := 609) (by decide +kernel)) rfl), ckX7_lengthenInward, ikRX7, dkX7_lengthenInward, by decide⟩, nkX7_lengthenInward, vkX7_lengthenInward⟩
theorem lX7_103 : zLv RX7 103 mX7_lengthenOutward 1 := ⟨⟨Or.inl (big_in (List.mem_of_getElem? (i := 614) (by decide +kernel)) rfl), ckX7_lengthenOutward, ikRX7, dkX7_lengthenOutward, by decide⟩, nkX7_lengthenOutward, vkX7_lengthenOutward⟩
theorem lX7_106 : zLs RX7 106 mJ9_max_7cf53 2 := ⟨⟨Or.inl (big_in (List.mem_of_getElem? (i := 613) (by decide +kernel)) rfl), ckJ9_max_7cf53, ikRJ9, dkJ9_max_7cf53, by decide⟩, skJ9_max_7cf53⟩
theorem lX10_31 : zLv RX10 31 mX10_hasPlace 1 := ⟨⟨Or.inl (big_in (List.mem_of_getElem? (i := 259) (by decide +kernel)) rfl), ckX10_hasPlace, ikRX10, dkX10_hasPlace, by decide⟩, nkX10_hasPlace, vkX10_hasPlace⟩
theorem lX10_35 : zLv RX10 35 mX10_at 1 := ⟨⟨Or.inl (big_in (List.mem_of_getElem? (i := 255) (by decide +kernel)) rfl), ckX10_at, ikRX10, dkX10_at, by decide⟩, nkX10_at, vkX10_at⟩
theorem lX10_39 : zLv RX10 39 mX10_statementEnd 1 := ⟨⟨Or.inl (big_in (List.mem_of_getElem? (i := 251) (by decide +kernel)) rfl), ckX10_statementEnd, ikRX10, dkX10_statementEnd, by decide⟩, nkX10_statementEnd, vkX10_statementEnd⟩
theorem lX10_42 : zLv RX10 42 mX10_digitEnd 1 := ⟨⟨Or.inl (big_in (List.mem_of_getElem? (i := 263) (by decide +kernel)) rfl), ckX10_digitEnd, ikRX10, dkX10_digitEnd, by decide⟩, nkX10_digitEnd, vkX10_digitEnd⟩
theorem lX10_45 : zLv RX10 45 mX10_numberEnd 1 := ⟨⟨Or.inl (big_in (List.mem_of_getElem? (i := 271) (by decide +kernel)) rfl), ckX10_numberEnd, ikRX10, dkX10_numberEnd, by decide⟩, nkX10_numberEnd, vkX10_numberEnd⟩
theorem lX10_48 : zLv RX10 48 mX10_signEnd 2 := ⟨⟨Or.inl (big_in (List.mem_of_getElem? (i := 275) (by decide +kernel)) rfl), ckX10_signEnd, ikRX10, dkX10_signEnd, by decide⟩, nkX10_signEnd, vkX10_signEnd⟩
theorem lX10_52 : zLv RX10 52 mX10_isDigit 1 := ⟨⟨Or.inl (big_in (List.mem_of_getElem? (i := 267) (by decide +kernel)) rfl), ckX10_isDigit, ikRX10, dkX10_isDigit, by decide⟩, nkX10_isDigit, vkX10_isDigit⟩
theorem lX10_55 : zLv RX10 55 mX10_digitAt 1 := ⟨⟨Or.inl (big_in (List.mem_of_getElem? (i := 307) (by decide +kernel)) rfl), ckX10_digitAt, ikRX10, dkX10_digitAt, by decide⟩, nkX10_digitAt, vkX10_digitAt⟩
theorem lL_7 : zLv RL 7 mX11_element 2 := ⟨⟨Or.inl (big_in (List.mem_of_getElem? (i := 896) (by decide +kernel)) rfl), ckX11_element, ikRX11, dkX11_element, by decide⟩, nkX11_element, vkX11_element⟩
theorem lL_21 : zLv RL 21 mX11_heap 1 := ⟨⟨Or.inl (big_in (List.mem_of_getElem? (i := 229) (by decide +kernel)) rfl), ckX11_heap, ikRX11, dkX11_heap, by decide⟩, nkX11_heap, vkX11_heap⟩
theorem lL_25 : zLv RL 25 mX12_heap 1 := ⟨⟨Or.inl (big_in (List.mem_of_getElem? (i := 975) (by decide +kernel)) rfl), ckX12_heap, ikRX12, dkX12_heap, by decide⟩, nkX12_heap, vkX12_heap⟩
theorem lL_26 : zLv RL 26 mX11_bowl 2 := ⟨⟨Or.inl (big_in (List.mem_of_getElem? (i := 330) (by decide +kernel)) rfl), ckX11_bowl, ikRX11, dkX11_bowl, by decide⟩, nkX11_bowl, vkX11_bowl⟩
theorem lL_30 : zLv RL 30 mX12_bowl 2 := ⟨⟨Or.inl (big_in (List.mem_of_getElem? (i := 1031) (by decide +kernel)) rfl), ckX12_bowl, ikRX12, dkX12_bowl, by decide⟩, nkX12_bowl, vkX12_bowl⟩
theorem lL_31 : zLv RL 31 mX11_comes 4 := ⟨⟨Or.inl (big_in (List.mem_of_getElem? (i := 423) (by decide +kernel)) rfl), ckX11_comes, ikRX11, dkX11_comes, by decide⟩, nkX11_comes, vkX11_comes⟩
theorem lL_35 : zLv RL 35 mX12_comes 4 := ⟨⟨Or.inl (big_in (List.mem_of_getElem? (i := 1059) (by decide +kernel)) rfl), ckX12_comes, ikRX12, dkX12_comes, by decide⟩, nkX12_comes, vkX12_comes⟩
theorem lL_36 : zLv RL 36 mX11_warm 1 := ⟨⟨Or.inl (big_in (List.mem_of_getElem? (i := 435) (by decide +kernel)) rfl), ckX11_warm, ikRX11, dkX11_warm, by decide⟩, nkX11_warm, vkX11_warm⟩
theorem lL_39 : zLv RL 39 mX12_warm 1 := ⟨⟨Or.inl (big_in (List.mem_of_getElem? (i := 1072) (by decide +kernel)) rfl), ckX12_warm, ikRX12, dkX12_warm, by decide⟩, nkX12_warm, vkX12_warm⟩
theorem lL_40 : zLv RL 40 mX11_turn 1 := ⟨⟨Or.inl (big_in (List.mem_of_getElem? (i := 442) (by decide +kernel)) rfl), ckX11_turn, ikRX11, dkX11_turn, by decide⟩, nkX11_turn, vkX11_turn⟩
theorem lL_43 : zLv RL 43 mX12_turn 1 := ⟨⟨Or.inl (big_in (List.mem_of_getElem? (i := 1077) (by decide +kernel)) rfl), ckX12_turn, ikRX12, dkX12_turn, by decide⟩, nkX12_turn, vkX12_turn⟩
theorem lL_44 : zLv RL 44 mX11_lies 2 := ⟨⟨Or.inl (big_in (List.mem_of_getElem? (i := 447) (by decide +kernel)) rfl), ckX11_lies, ikRX11, dkX11_lies, by decide⟩, nkX11_lies, vkX11_lies⟩
theorem lL_47 : zLv RL 47 mX12_lies 2 := ⟨⟨Or.inl (big_in (List.mem_of_getElem? (i := 1081) (by decide +kernel)) rfl), ckX12_lies, ikRX12, dkX12_lies, by decide⟩, nkX12_lies, vkX12_lies⟩
theorem lL_48 : zLv RL 48 mX11_nest 1 := ⟨⟨Or.inl (big_in (List.mem_of_getElem? (i := 479) (by decide +kernel)) rfl), ckX11_nest, ikRX11, dkX11_nest, by decide⟩, nkX11_nest, vkX11_nest⟩
theorem lL_51 : zLv RL 51 mX12_nest 1 := ⟨⟨Or.inl (big_in (List.mem_of_getElem? (i := 1101) (by decide +kernel)) rfl), ckX12_nest, ikRX12, dkX12_nest, by decide⟩, nkX12_nest, vkX12_nest⟩
theorem lL_52 : zLv RL 52 mX11_height 1 := ⟨⟨Or.inl (big_in (List.mem_of_getElem? (i := 501) (by decide +kernel)) rfl), ckX11_height, ikRX11, dkX11_height, by decide⟩, nkX11_height, vkX11_height⟩
theorem lL_55 : zLv RL 55 mX12_height 1 := ⟨⟨Or.inl (big_in (List.mem_of_getElem? (i := 1121) (by decide +kernel)) rfl), ckX12_height, ikRX12, dkX12_height, by decide⟩, nkX12_height, vkX12_height⟩
theorem lL_56 : zLv RL 56 mX11_longest 2 := ⟨⟨Or.inl (big_in (List.mem_of_getElem? (i := 505) (by decide +kernel)) rfl), ckX11_longest, ikRX11, dkX11_longest, by decide⟩, nkX11_longest, vkX11_longest⟩
theorem lL_59 : zLv RL 59 mX12_longest 2 := ⟨⟨Or.inl (big_in (List.mem_of_getElem? (i := 1129) (by decide +kernel)) rfl), ckX12_longest, ikRX12, dkX12_longest, by decide⟩, nkX12_longest, vkX12_longest⟩
theorem lL_60 : zLv RL 60 mX11_fewest 0 := ⟨⟨Or.inl (big_in (List.mem_of_getElem? (i := 542) (by decide +kernel)) rfl), ckX11_fewest, ikRX11, dkX11_fewest, by decide⟩, nkX11_fewest, vkX11_fewest⟩
theorem lL_64 : zLv RL 64 mX12_fewest 0 := ⟨⟨Or.inl (big_in (List.mem_of_getElem? (i := 1140) (by decide +kernel)) rfl), ckX12_fewest, ikRX12, dkX12_fewest, by decide⟩, nkX12_fewest, vkX12_fewest⟩
theorem lL_65 : zLv RL 65 mX11_apart 1 := ⟨⟨Or.inl (big_in (List.mem_of_getElem? (i := 556) (by decide +kernel)) rfl), ckX11_apart, ikRX11, dkX11_apart, by decide⟩, nkX11_apart, vkX11_apart⟩
theorem lL_68 : zLv RL 68 mX12_apart 1 := ⟨⟨Or.inl (big_in (List.mem_of_getElem? (i := 1161) (by decide +kernel)) rfl), ckX12_apart, ikRX12, dkX12_apart, by decide⟩, nkX12_apart, vkX12_apart⟩
theorem lL_69 : zLv RL 69 mX11_carry 0 := ⟨⟨Or.inl (big_in (List.mem_of_getElem? (i := 568) (by decide +kernel)) rfl), ckX11_carry, ikRX11, dkX11_carry, by decide⟩, nkX11_carry, vkX11_carry⟩
theorem lL_72 : zLv RL 72 mX12_carry 0 := ⟨⟨Or.inl (big_in (List.mem_of_getElem? (i := 1153) (by decide +kernel)) rfl), ckX12_carry, ikRX12, dkX12_carry, by decide⟩, nkX12_carry, vkX12_carry⟩
theorem lL_73 : zLv RL 73 mX11_load 1 := ⟨⟨Or.inl (big_in (List.mem_of_getElem? (i := 576) (by decide +kernel)) rfl), ckX11_load, ikRX11, dkX11_load, by decide⟩, nkX11_load, vkX11_load⟩
theorem lL_76 : zLv RL 76 mX12_load 1 := ⟨⟨Or.inl (big_in (List.mem_of_getElem? (i := 1157) (by decide +kernel)) rfl), ckX12_load, ikRX12, dkX12_load, by decide⟩, nkX12_load, vkX12_load⟩
theorem lL_77 : zLv RL 77 mX11_whole 1 := ⟨⟨Or.inl (big_in (List.mem_of_getElem? (i := 580) (by decide +kernel)) rfl), ckX11_whole, ikRX11, dkX11_whole, by decide⟩, nkX11_whole, vkX11_whole⟩
theorem lL_80 : zLv RL 80 mX12_whole 1 := ⟨⟨Or.inl (big_in (List.mem_of_getElem? (i := 1169) (by decide +kernel)) rfl), ckX12_whole, ikRX12, dkX12_whole, by decide⟩, nkX12_whole, vkX12_whole⟩
theorem lL_81 : zLv RL 81 mX11_throwsNew 0 := ⟨⟨Or.inl (big_in (List.mem_of_getElem? (i := 588) (by decide +kernel)) rfl), ckX11_throwsNew, ikRX11, dkX11_throwsNew, by decide⟩, nkX11_throwsNew, vkX11_throwsNew⟩
theorem lL_84 : zLv RL 84 mX12_throwsNew 0 := ⟨⟨Or.inl (big_in (List.mem_of_getElem? (i := 1177) (by decide +kernel)) rfl), ckX12_throwsNew, ikRX12, dkX12_throwsNew, by decide⟩, nkX12_throwsNew, vkX12_throwsNew⟩
theorem lL_85 : zLv RL 85 mX11_helps 2 := ⟨⟨Or.inl (big_in (List.mem_of_getElem? (i := 601) (by decide +kernel)) rfl), ckX11_helps, ikRX11, dkX11_helps, by decide⟩, nkX11_helps, vkX11_helps⟩
theorem lL_88 : zLv RL 88 mX12_helps 2 := ⟨⟨Or.inl (big_in (List.mem_of_getElem? (i := 1185) (by decide +kernel)) rfl), ckX12_helps, ikRX12, dkX12_helps, by decide⟩, nkX12_helps, vkX12_helps⟩
theorem lL_89 : zLv RL 89 mX11_out 2 := ⟨⟨Or.inl (big_in (List.mem_of_getElem? (i := 622) (by decide +kernel)) rfl), ckX11_out, ikRX11, dkX11_out, by decide⟩, nkX11_out, vkX11_out⟩
theorem lL_92 : zLv RL 92 mX12_out 2 := ⟨⟨Or.inl (big_in (List.mem_of_getElem? (i := 1193) (by decide +kernel)) rfl), ckX12_out, ikRX12, dkX12_out, by decide⟩, nkX12_out, vkX12_out⟩
theorem lL_93 : zLv RL 93 mX11_judge 1 := ⟨⟨Or.inl (big_in (List.mem_of_getElem? (i := 631) (by decide +kernel)) rfl), ckX11_judge, ikRX11, dkX11_judge, by decide⟩, nkX11_judge, vkX11_judge⟩
theorem lL_96 : zLv RL 96 mX12_judge 1 := ⟨⟨Or.inl (big_in (List.mem_of_getElem? (i := 1205) (by decide +kernel)) rfl), ckX12_judge, ikRX12, dkX12_judge, by decide⟩, nkX12_judge, vkX12_judge⟩
theorem lL_97 : zLv RL 97 mX11_spans 3 := ⟨⟨Or.inl (big_in (List.mem_of_getElem? (i := 639) (by decide +kernel)) rfl), ckX11_spans, ikRX11, dkX11_spans, by decide⟩, nkX11_spans, vkX11_spans⟩
theorem lL_101 : zLv RL 101 mX12_spans 3 := ⟨⟨Or.inl (big_in (List.mem_of_getElem? (i := 1209) (by decide +kernel)) rfl), ckX12_spans, ikRX12, dkX12_spans, by decide⟩, nkX12_spans, vkX12_spans⟩
theorem lL_102 : zLv RL 102 mX11_next 2 := ⟨⟨Or.inl (big_in (List.mem_of_getElem? (i := 648) (by decide +kernel)) rfl), ckX11_next, ikRX11, dkX11_next, by decide⟩, nkX11_next, vkX11_next⟩
theorem lL_105 : zLv RL 105 mX12_next 2 := ⟨⟨Or.inl (big_in (List.mem_of_getElem? (i := 1220) (by decide +kernel)) rfl), ckX12_next, ikRX12, dkX12_next, by decide⟩, nkX12_next, vkX12_next⟩
theorem lL_106 : zLv RL 106 mX11_from 4 := ⟨⟨Or.inl (big_in (List.mem_of_getElem? (i := 656) (by decide +kernel)) rfl), ckX11_from, ikRX11, dkX11_from, by decide⟩, nkX11_from, vkX11_from⟩
theorem lL_109 : zLv RL 109 mX12_from 4 := ⟨⟨Or.inl (big_in (List.mem_of_getElem? (i := 1228) (by decide +kernel)) rfl), ckX12_from, ikRX12, dkX12_from, by decide⟩, nkX12_from, vkX12_from⟩
theorem lL_110 : zLv RL 110 mX11_breaks 3 := ⟨⟨Or.inl (big_in (List.mem_of_getElem? (i := 660) (by decide +kernel)) rfl), ckX11_breaks, ikRX11, dkX11_breaks, by decide⟩, nkX11_breaks, vkX11_breaks⟩
theorem lL_113 : zLv RL 113 mX12_breaks 3 := ⟨⟨Or.inl (big_in (List.mem_of_getElem? (i := 1232) (by decide +kernel)) rfl), ckX12_breaks, ikRX12, dkX12_breaks, by decide⟩, nkX12_breaks, vkX12_breaks⟩
theorem lL_114 : zLv RL 114 mX11_image 0 := ⟨⟨Or.inl (big_in (List.mem_of_getElem? (i := 671) (by decide +kernel)) rfl), ckX11_image, ikRX11, dkX11_image, by decide⟩, nkX11_image, vkX11_image⟩
theorem lL_117 : zLv RL 117 mX12_image 0 := ⟨⟨Or.inl (big_in (List.mem_of_getElem? (i := 1244) (by decide +kernel)) rfl), ckX12_image, ikRX12, dkX12_image, by decide⟩, nkX12_image, vkX12_image⟩
theorem lL_118 : zLv RL 118 mX11_restore 0 := ⟨⟨Or.inl (big_in (List.mem_of_getElem? (i := 675) (by decide +kernel)) rfl), ckX11_restore, ikRX11, dkX11_restore, by decide⟩, nkX11_restore, vkX11_restore⟩
theorem lL_121 : zLv RL 121 mX12_restore 0 := ⟨⟨Or.inl (big_in (List.mem_of_getElem? (i := 1248) (by decide +kernel)) rfl), ckX12_restore, ikRX12, dkX12_restore, by decide⟩, nkX12_restore, vkX12_restore⟩
theorem lL_122 : zLv RL 122 mX11_count 1 := ⟨⟨Or.inl (big_in (List.mem_of_getElem? (i := 679) (by decide +kernel)) rfl), ckX11_count, ikRX11, dkX11_count, by decide⟩, nkX11_count, vkX11_count⟩
theorem lL_125 : zLv RL 125 mX12_count 1 := ⟨⟨Or.inl (big_in (List.mem_of_getElem? (i := 1252) (by decide +kernel)) rfl), ckX12_count, ikRX12, dkX12_count, by decide⟩, nkX12_count, vkX12_count⟩
theorem lL_126 : zLv RL 126 mX11_keep 4 := ⟨⟨Or.inl (big_in (List.mem_of_getElem? (i := 691) (by decide +kernel)) rfl), ckX11_keep, ikRX11, dkX11_keep, by decide⟩, nkX11_keep, vkX11_keep⟩
theorem lL_129 : zLv RL 129 mX12_keep 4 := ⟨⟨Or.inl (big_in (List.mem_of_getElem? (i := 1256) (by decide +kernel)) rfl), ckX12_keep, ikRX12, dkX12_keep, by decide⟩, nkX12_keep, vkX12_keep⟩
theorem lL_130 : zLv RL 130 mX11_row 3 := ⟨⟨Or.inl (big_in (List.mem_of_getElem? (i := 703) (by decide +kernel)) rfl), ckX11_row, ikRX11, dkX11_row, by decide⟩, nkX11_row, vkX11_row⟩
theorem lL_133 : zLv RL 133 mX12_row 3 := ⟨⟨Or.inl (big_in (List.mem_of_getElem? (i := 1260) (by decide +kernel)) rfl), ckX12_row, ikRX12, dkX12_row, by decide⟩, nkX12_row, vkX12_row⟩
theorem lL_134 : zLv RL 134 mX11_put 3 := ⟨⟨Or.inl (big_in (List.mem_of_getElem? (i := 711) (by decide +kernel)) rfl), ckX11_put, ikRX11, dkX11_put, by decide⟩, nkX11_put, vkX11_put⟩
theorem lL_137 : zLv RL 137 mX12_put 3 := ⟨⟨Or.inl (big_in (List.mem_of_getElem? (i := 1265) (by decide +kernel)) rfl), ckX12_put, ikRX12, dkX12_put, by decide⟩, nkX12_put, vkX12_put⟩
theorem lL_143 : zLv RL 143 mX12_element 2 := ⟨⟨Or.inl (big_in (List.mem_of_getElem? (i := 1269) (by decide +kernel)) rfl), ckX12_element, ikRX12, dkX12_element, by decide⟩, nkX12_element, vkX12_element⟩
theorem lL_144 : zLv RL 144 mX12_thrown 0 := ⟨⟨Or.inl (big_in (List.mem_of_getElem? (i := 971) (by decide +kernel)) rfl), ckX12_thrown, ikRX12, dkX12_thrown, by decide⟩, nkX12_thrown, vkX12_thrown⟩
theorem lL_147 : zLv RL 147 mX11_copy 5 := ⟨⟨Or.inl (big_in (List.mem_of_getElem? (i := 720) (by decide +kernel)) rfl), ckX11_copy, ikRX11, dkX11_copy, by decide⟩, nkX11_copy, vkX11_copy⟩
theorem lL_151 : zLv RL 151 mX12_copy 5 := ⟨⟨Or.inl (big_in (List.mem_of_getElem? (i := 1273) (by decide +kernel)) rfl), ckX12_copy, ikRX12, dkX12_copy, by decide⟩, nkX12_copy, vkX12_copy⟩
theorem lL_152 : zLv RL 152 mX11_price 1 := ⟨⟨Or.inl (big_in (List.mem_of_getElem? (i := 729) (by decide +kernel)) rfl), ckX11_price, ikRX11, dkX11_price, by decide⟩, nkX11_price, vkX11_price⟩
theorem lL_155 : zLv RL 155 mX12_price 1 := ⟨⟨Or.inl (big_in (List.mem_of_getElem? (i := 1277) (by decide +kernel)) rfl), ckX12_price, ikRX12, dkX12_price, by decide⟩, nkX12_price, vkX12_price⟩
theorem lL_159 : zLv RL 159 mX12_toss 1 := ⟨⟨Or.inl (big_in (List.mem_of_getElem? (i := 1284) (by decide +kernel)) rfl), ckX12_toss, ikRX12, dkX12_toss, by decide⟩, nkX12_toss, vkX12_toss⟩
theorem lX12_55 : zLs RX12 55 mX12_isIn 3 := ⟨⟨Or.inl (big_in (List.mem_of_getElem? (i := 987) (by decide +kernel)) rfl), ckX12_isIn, ikRX12, dkX12_isIn, by decide⟩, skX12_isIn⟩
theorem lX12_59 : zLv RX12 59 mX12_everything 0 := ⟨⟨Or.inl (big_in (List.mem_of_getElem? (i := 1109) (by decide +kernel)) rfl), ckX12_everything, ikRX12, dkX12_everything, by decide⟩, nkX12_everything, vkX12_everything⟩
theorem lX12_63 : zLv RX12 63 mX12_get 2 := ⟨⟨Or.inl (big_in (List.mem_of_getElem? (i := 1027) (by decide +kernel)) rfl), ckX12_get, ikRX12, dkX12_get, by decide⟩, nkX12_get, vkX12_get⟩
theorem lX12_67 : zLv RX12 67 mX12_turned 1 := ⟨⟨Or.inl (big_in (List.mem_of_getElem? (i := 1043) (by decide +kernel)) rfl), ckX12_turned, ikRX12, dkX12_turned, by decide⟩, nkX12_turned, vkX12_turned⟩
theorem lX12_71 : zLv RX12 71 mX12_outsideBy 2 := ⟨⟨Or.inl (big_in (List.mem_of_getElem? (i := 1039) (by decide +kernel)) rfl), ckX12_outsideBy, ikRX12, dkX12_outsideBy, by decide⟩, nkX12_outsideBy, vkX12_outsideBy⟩
theorem lX12_74 : zLv RX12 74 mX12_insideBy 3 := ⟨⟨Or.inl (big_in (List.mem_of_getElem? (i := 1051) (by decide +kernel)) rfl), ckX12_insideBy, ikRX12, dkX12_insideBy, by decide⟩, nkX12_insideBy, vkX12_insideBy⟩
theorem lX12_78 : zLv RX12 78 mX12_isOval 1 := ⟨⟨Or.inl (big_in (List.mem_of_getElem? (i := 1097) (by decide +kernel)) rfl), ckX12_isOval, ikRX12, dkX12_isOval, by decide⟩, nkX12_isOval, vkX12_isOval⟩
theorem lX12_82 : zLv RX12 82 mX12_outside 1 := ⟨⟨Or.inl (big_in (List.mem_of_getElem? (i := 1035) (by decide +kernel)) rfl), ckX12_outside, ikRX12, dkX12_outside, by decide⟩, nkX12_outside, vkX12_outside⟩
theorem lX12_85 : zLv RX12 85 mX12_fitsBut 2 := ⟨⟨Or.inl (big_in (List.mem_of_getElem? (i := 1093) (by decide +kernel)) rfl), ckX12_fitsBut, ikRX12, dkX12_fitsBut, by decide⟩, nkX12_fitsBut, vkX12_fitsBut⟩
theorem lX12_89 : zLv RX12 89 mX12_liesAt 3 := ⟨⟨Or.inl (big_in (List.mem_of_getElem? (i := 1089) (by decide +kernel)) rfl), ckX12_liesAt, ikRX12, dkX12_liesAt, by decide⟩, nkX12_liesAt, vkX12_liesAt⟩
theorem lX12_102 : zLv RX12 102 mX12_here 0 := ⟨⟨Or.inl (big_in (List.mem_of_getElem? (i := 994) (by decide +kernel)) rfl), ckX12_here, ikRX12, dkX12_here, by decide⟩, nkX12_here, vkX12_here⟩
theorem lX12_109 : zLv RX12 109 mX12_isDigit 0 := ⟨⟨Or.inl (big_in (List.mem_of_getElem? (i := 1002) (by decide +kernel)) rfl), ckX12_isDigit, ikRX12, dkX12_isDigit, by decide⟩, nkX12_isDigit, vkX12_isDigit⟩
theorem lX12_116 : zLv RX12 116 mX12_readsNumber 1 := ⟨⟨Or.inl (big_in (List.mem_of_getElem? (i := 998) (by decide +kernel)) rfl), ckX12_readsNumber, ikRX12, dkX12_readsNumber, by decide⟩, nkX12_readsNumber, vkX12_readsNumber⟩
theorem lX12_119 : zLv RX12 119 mX12_takes 1 := ⟨⟨Or.inl (big_in (List.mem_of_getElem? (i := 1008) (by decide +kernel)) rfl), ckX12_takes, ikRX12, dkX12_takes, by decide⟩, nkX12_takes, vkX12_takes⟩
theorem lX12_122 : zLv RX12 122 mX12_puts 3 := ⟨⟨Or.inl (big_in (List.mem_of_getElem? (i := 1019) (by decide +kernel)) rfl), ckX12_puts, ikRX12, dkX12_puts, by decide⟩, nkX12_puts, vkX12_puts⟩
theorem lX12_126 : zLv RX12 126 mX12_isBowl 1 := ⟨⟨Or.inl (big_in (List.mem_of_getElem? (i := 1023) (by decide +kernel)) rfl), ckX12_isBowl, ikRX12, dkX12_isBowl, by decide⟩, nkX12_isBowl, vkX12_isBowl⟩
theorem lX12_129 : zLs RX12 129 mX12_isShelf 1 := ⟨⟨Or.inl (big_in (List.mem_of_getElem? (i := 983) (by decide +kernel)) rfl), ckX12_isShelf, ikRX12, dkX12_isShelf, by decide⟩, skX12_isShelf⟩
theorem lX12_132 : zLv RX12 132 mX12_wrongRow 2 := ⟨⟨Or.inl (big_in (List.mem_of_getElem? (i := 979) (by decide +kernel)) rfl), ckX12_wrongRow, ikRX12, dkX12_wrongRow, by decide⟩, nkX12_wrongRow, vkX12_wrongRow⟩
theorem lX12_135 : zLv RX12 135 mX12_readsStatement 0 := ⟨⟨Or.inl (big_in (List.mem_of_getElem? (i := 990) (by decide +kernel)) rfl), ckX12_readsStatement, ikRX12, dkX12_readsStatement, by decide⟩, nkX12_readsStatement, vkX12_readsStatement⟩
theorem lX12_138 : zLs RX12 138 mX12_lays 2 := ⟨⟨Or.inl (big_in (List.mem_of_getElem? (i := 1012) (by decide +kernel)) rfl), ckX12_lays, ikRX12, dkX12_lays, by decide⟩, skX12_lays⟩
theorem lX12_142 : zLv RX12 142 mX12_comesTold 1 := ⟨⟨Or.inl (big_in (List.mem_of_getElem? (i := 1015) (by decide +kernel)) rfl), ckX12_comesTold, ikRX12, dkX12_comesTold, by decide⟩, nkX12_comesTold, vkX12_comesTold⟩
theorem lX12_145 : zLv RX12 145 mX12_inside 1 := ⟨⟨Or.inl (big_in (List.mem_of_getElem? (i := 1047) (by decide +kernel)) rfl), ckX12_inside, ikRX12, dkX12_inside, by decide⟩, nkX12_inside, vkX12_inside⟩
theorem lX12_148 : zLv RX12 148 mX12_rise 1 := ⟨⟨Or.inl (big_in (List.mem_of_getElem? (i := 1055) (by decide +kernel)) rfl), ckX12_rise, ikRX12, dkX12_rise, by decide⟩, nkX12_rise, vkX12_rise⟩
theorem lX12_153 : zLv RX12 153 mX12_wrongKept 1 := ⟨⟨Or.inl (big_in (List.mem_of_getElem? (i := 1064) (by decide +kernel)) rfl), ckX12_wrongKept, ikRX12, dkX12_wrongKept, by decide⟩, nkX12_wrongKept, vkX12_wrongKept⟩
theorem lX12_156 : zLv RX12 156 mX12_adds 5 := ⟨⟨Or.inl (big_in (List.mem_of_getElem? (i := 1068) (by decide +kernel)) rfl), ckX12_adds, ikRX12, dkX12_adds, by decide⟩, nkX12_adds, vkX12_adds⟩
theorem lX12_162 : zLv RX12 162 mX12_liesNow 2 := ⟨⟨Or.inl (big_in (List.mem_of_getElem? (i := 1085) (by decide +kernel)) rfl), ckX12_liesNow, ikRX12, dkX12_liesNow, by decide⟩, nkX12_liesNow, vkX12_liesNow⟩
theorem lX12_165 : zLv RX12 165 mX12_outermost 1 := ⟨⟨Or.inl (big_in (List.mem_of_getElem? (i := 1117) (by decide +kernel)) rfl), ckX12_outermost, ikRX12, dkX12_outermost, by decide⟩, nkX12_outermost, vkX12_outermost⟩
theorem lX12_168 : zLv RX12 168 mX12_areBowls 1 := ⟨⟨Or.inl (big_in (List.mem_of_getElem? (i := 1105) (by decide +kernel)) rfl), ckX12_areBowls, ikRX12, dkX12_areBowls, by decide⟩, nkX12_areBowls, vkX12_areBowls⟩
theorem lX12_171 : zLv RX12 171 mX12_isNest 1 := ⟨⟨Or.inl (big_in (List.mem_of_getElem? (i := 1113) (by decide +kernel)) rfl), ckX12_isNest, ikRX12, dkX12_isNest, by decide⟩, nkX12_isNest, vkX12_isNest⟩
theorem lX12_174 : zLv RX12 174 mX12_heightOf 1 := ⟨⟨Or.inl (big_in (List.mem_of_getElem? (i := 1125) (by decide +kernel)) rfl), ckX12_heightOf, ikRX12, dkX12_heightOf, by decide⟩, nkX12_heightOf, vkX12_heightOf⟩
theorem lX12_177 : zLs RX12 177 mX12_bits 1 := ⟨⟨Or.inl (big_in (List.mem_of_getElem? (i := 1137) (by decide +kernel)) rfl), ckX12_bits, ikRX12, dkX12_bits, by decide⟩, skX12_bits⟩
theorem lX12_180 : zLv RX12 180 mX12_longestOf 1 := ⟨⟨Or.inl (big_in (List.mem_of_getElem? (i := 1133) (by decide +kernel)) rfl), ckX12_longestOf, ikRX12, dkX12_longestOf, by decide⟩, nkX12_longestOf, vkX12_longestOf⟩
theorem lX12_184 : zLv RX12 184 mX12_counted 3 := ⟨⟨Or.inl (big_in (List.mem_of_getElem? (i := 1148) (by decide +kernel)) rfl), ckX12_counted, ikRX12, dkX12_counted, by decide⟩, nkX12_counted, vkX12_counted⟩
theorem lX12_187 : zLv RX12 187 mX12_leastOf 2 := ⟨⟨Or.inl (big_in (List.mem_of_getElem? (i := 1144) (by decide +kernel)) rfl), ckX12_leastOf, ikRX12, dkX12_leastOf, by decide⟩, nkX12_leastOf, vkX12_leastOf⟩
theorem lX12_190 : zLv RX12 190 mX12_areApart 1 := ⟨⟨Or.inl (big_in (List.mem_of_getElem? (i := 1165) (by decide +kernel)) rfl), ckX12_areApart, ikRX12, dkX12_areApart, by decide⟩, nkX12_areApart, vkX12_areApart⟩
theorem lX12_193 : zLv RX12 193 mX12_wholeOf 2 := ⟨⟨Or.inl (big_in (List.mem_of_getElem? (i := 1173) (by decide +kernel)) rfl), ckX12_wholeOf, ikRX12, dkX12_wholeOf, by decide⟩, nkX12_wholeOf, vkX12_wholeOf⟩
theorem lX12_196 : zLv RX12 196 mX12_canBeBetween 2 := ⟨⟨Or.inl (big_in (List.mem_of_getElem? (i := 1181) (by decide +kernel)) rfl), ckX12_canBeBetween, ikRX12, dkX12_canBeBetween, by decide⟩, nkX12_canBeBetween, vkX12_canBeBetween⟩
theorem lX12_199 : zLv RX12 199 mX12_longestRow 1 := ⟨⟨Or.inl (big_in (List.mem_of_getElem? (i := 1189) (by decide +kernel)) rfl), ckX12_longestRow, ikRX12, dkX12_longestRow, by decide⟩, nkX12_longestRow, vkX12_longestRow⟩
theorem lX12_202 : zLv RX12 202 mX12_wrongAt 1 := ⟨⟨Or.inl (big_in (List.mem_of_getElem? (i := 1201) (by decide +kernel)) rfl), ckX12_wrongAt, ikRX12, dkX12_wrongAt, by decide⟩, nkX12_wrongAt, vkX12_wrongAt⟩
theorem lX12_205 : zLv RX12 205 mX12_wrongOut 1 := ⟨⟨Or.inl (big_in (List.mem_of_getElem? (i := 1197) (by decide +kernel)) rfl), ckX12_wrongOut, ikRX12, dkX12_wrongOut, by decide⟩, nkX12_wrongOut, vkX12_wrongOut⟩
theorem lX12_208 : zLs RX12 208 mX12_narrow 2 := ⟨⟨Or.inl (big_in (List.mem_of_getElem? (i := 1217) (by decide +kernel)) rfl), ckX12_narrow, ikRX12, dkX12_narrow, by decide⟩, skX12_narrow⟩
theorem lX12_211 : zLv RX12 211 mX12_spanOf 4 := ⟨⟨Or.inl (big_in (List.mem_of_getElem? (i := 1213) (by decide +kernel)) rfl), ckX12_spanOf, ikRX12, dkX12_spanOf, by decide⟩, nkX12_spanOf, vkX12_spanOf⟩
theorem lX12_215 : zLv RX12 215 mX12_perhaps 2 := ⟨⟨Or.inl (big_in (List.mem_of_getElem? (i := 1224) (by decide +kernel)) rfl), ckX12_perhaps, ikRX12, dkX12_perhaps, by decide⟩, nkX12_perhaps, vkX12_perhaps⟩
theorem lX12_226 : zLv RX12 226 mX12_drawn 1 := ⟨⟨Or.inl (big_in (List.mem_of_getElem? (i := 1237) (by decide +kernel)) rfl), ckX12_drawn, ikRX12, dkX12_drawn, by decide⟩, nkX12_drawn, vkX12_drawn⟩
theorem lX12_235 : zLs RX12 235 mX12_priceBy 2 := ⟨⟨Or.inl (big_in (List.mem_of_getElem? (i := 1281) (by decide +kernel)) rfl), ckX12_priceBy, ikRX12, dkX12_priceBy, by decide⟩, skX12_priceBy⟩
theorem lX11_288_Oval : zLu RX11 288 yX0_cost RX8 mX8_cost 1 := ⟨big_in (List.mem_of_getElem? (i := 733) (by decide +kernel)) rfl, big_in (List.mem_of_getElem? (i := 736) (by decide +kernel)) rfl, nkX0_cost, ⟨_, _, _, ckX0_cost⟩, big_in (List.mem_of_getElem? (i := 757) (by decide +kernel)) rfl, nkX8_cost, ikRX8, ckX8_cost, ⟨dkX0_cost.1, dkX0_cost.2.1⟩, dkX0_cost.2.2, by decide⟩
theorem lX11_288_Lid : zLu RX11 288 yX0_cost RX6 mX6_cost 1 := ⟨big_in (List.mem_of_getElem? (i := 733) (by decide +kernel)) rfl, big_in (List.mem_of_getElem? (i := 736) (by decide +kernel)) rfl, nkX0_cost, ⟨_, _, _, ckX0_cost⟩, big_in (List.mem_of_getElem? (i := 756) (by decide +kernel)) rfl, nkX6_cost, ikRX6, ckX6_cost, ⟨dkX0_cost.1, dkX0_cost.2.1⟩, dkX0_cost.2.2, by decide⟩
theorem lX11_288_Foot : zLu RX11 288 yX0_cost RX3 mX3_cost 1 := ⟨big_in (List.mem_of_getElem? (i := 733) (by decide +kernel)) rfl, big_in (List.mem_of_getElem? (i := 736) (by decide +kernel)) rfl, nkX0_cost, ⟨_, _, _, ckX0_cost⟩, big_in (List.mem_of_getElem? (i := 751) (by decide +kernel)) rfl, nkX3_cost, ikRX3, ckX3_cost, ⟨dkX0_cost.1, dkX0_cost.2.1⟩, dkX0_cost.2.2, by decide⟩
theorem lX11_288_Second : zLu RX11 288 yX0_cost RX9 mX9_cost 1 := ⟨big_in (List.mem_of_getElem? (i := 733) (by decide +kernel)) rfl, big_in (List.mem_of_getElem? (i := 736) (by decide +kernel)) rfl, nkX0_cost, ⟨_, _, _, ckX0_cost⟩, big_in (List.mem_of_getElem? (i := 761) (by decide +kernel)) rfl, nkX9_cost, ikRX9, ckX9_cost, ⟨dkX0_cost.1, dkX0_cost.2.1⟩, dkX0_cost.2.2, by decide⟩
theorem lX11_288_Glued : zLu RX11 288 yX0_cost RX4 mX4_cost 1 := ⟨big_in (List.mem_of_getElem? (i := 733) (by decide +kernel)) rfl, big_in (List.mem_of_getElem? (i := 736) (by decide +kernel)) rfl, nkX0_cost, ⟨_, _, _, ckX0_cost⟩, big_in (List.mem_of_getElem? (i := 752) (by decide +kernel)) rfl, nkX4_cost, ikRX4, ckX4_cost, ⟨dkX0_cost.1, dkX0_cost.2.1⟩, dkX0_cost.2.2, by decide⟩
theorem lX11_288_Deep : zLu RX11 288 yX0_cost RX1 mX1_cost 1 := ⟨big_in (List.mem_of_getElem? (i := 733) (by decide +kernel)) rfl, big_in (List.mem_of_getElem? (i := 736) (by decide +kernel)) rfl, nkX0_cost, ⟨_, _, _, ckX0_cost⟩, big_in (List.mem_of_getElem? (i := 737) (by decide +kernel)) rfl, nkX1_cost, ikRX1, ckX1_cost, ⟨dkX0_cost.1, dkX0_cost.2.1⟩, dkX0_cost.2.2, by decide⟩
theorem lX11_288_Flat : zLu RX11 288 yX0_cost RX2 mX2_cost 1 := ⟨big_in (List.mem_of_getElem? (i := 733) (by decide +kernel)) rfl, big_in (List.mem_of_getElem? (i := 736) (by decide +kernel)) rfl, nkX0_cost, ⟨_, _, _, ckX0_cost⟩, big_in (List.mem_of_getElem? (i := 744) (by decide +kernel)) rfl, nkX2_cost, ikRX2, ckX2_cost, ⟨dkX0_cost.1, dkX0_cost.2.1⟩, dkX0_cost.2.2, by decide⟩
theorem lX11_288_Bowl : zLu RX11 288 yX0_cost RX0 mX0_cost 1 := ⟨big_in (List.mem_of_getElem? (i := 733) (by decide +kernel)) rfl, big_in (List.mem_of_getElem? (i := 736) (by decide +kernel)) rfl, nkX0_cost, ⟨_, _, _, ckX0_cost⟩, big_in (List.mem_of_getElem? (i := 735) (by decide +kernel)) rfl, nkX0_cost, ikRX0, ckX0_cost, ⟨dkX0_cost.1, dkX0_cost.2.1⟩, dkX0_cost.2.2, by decide⟩
theorem lX11_291_Oval : zLu RX11 291 yX0_fail RX8 mX0_fail 1 := ⟨big_in (List.mem_of_getElem? (i := 773) (by decide +kernel)) rfl, big_in (List.mem_of_getElem? (i := 776) (by decide +kernel)) rfl, nkX0_fail, ⟨_, _, _, ckX0_fail⟩, big_in (List.mem_of_getElem? (i := 870) (by decide +kernel)) rfl, nkX0_fail, ikRX0, ckX0_fail, ⟨dkX0_fail.1, dkX0_fail.2.1⟩, dkX0_fail.2.2, by decide⟩
theorem lX11_291_Lid : zLu RX11 291 yX0_fail RX6 mX0_fail 1 := ⟨big_in (List.mem_of_getElem? (i := 773) (by decide +kernel)) rfl, big_in (List.mem_of_getElem? (i := 776) (by decide +kernel)) rfl, nkX0_fail, ⟨_, _, _, ckX0_fail⟩, big_in (List.mem_of_getElem? (i := 869) (by decide +kernel)) rfl, nkX0_fail, ikRX0, ckX0_fail, ⟨dkX0_fail.1, dkX0_fail.2.1⟩, dkX0_fail.2.2, by decide⟩
theorem lX11_291_Foot : zLu RX11 291 yX0_fail RX3 mX0_fail 1 := ⟨big_in (List.mem_of_getElem? (i := 773) (by decide +kernel)) rfl, big_in (List.mem_of_getElem? (i := 776) (by decide +kernel)) rfl, nkX0_fail, ⟨_, _, _, ckX0_fail⟩, big_in (List.mem_of_getElem? (i := 849) (by decide +kernel)) rfl, nkX0_fail, ikRX0, ckX0_fail, ⟨dkX0_fail.1, dkX0_fail.2.1⟩, dkX0_fail.2.2, by decide⟩
theorem lX11_291_Second : zLu RX11 291 yX0_fail RX9 mX9_fail 1 := ⟨big_in (List.mem_of_getElem? (i := 773) (by decide +kernel)) rfl, big_in (List.mem_of_getElem? (i := 776) (by decide +kernel)) rfl, nkX0_fail, ⟨_, _, _, ckX0_fail⟩, big_in (List.mem_of_getElem? (i := 871) (by decide +kernel)) rfl, nkX9_fail, ikRX9, ckX9_fail, ⟨dkX0_fail.1, dkX0_fail.2.1⟩, dkX0_fail.2.2, by decide⟩
theorem lX11_291_Glued : zLu RX11 291 yX0_fail RX4 mX4_fail 1 := ⟨big_in (List.mem_of_getElem? (i := 773) (by decide +kernel)) rfl, big_in (List.mem_of_getElem? (i := 776) (by decide +kernel)) rfl, nkX0_fail, ⟨_, _, _, ckX0_fail⟩, big_in (List.mem_of_getElem? (i := 850) (by decide +kernel)) rfl, nkX4_fail, ikRX4, ckX4_fail, ⟨dkX0_fail.1, dkX0_fail.2.1⟩, dkX0_fail.2.2, by decide⟩
theorem lX11_291_Deep : zLu RX11 291 yX0_fail RX1 mX0_fail 1 := ⟨big_in (List.mem_of_getElem? (i := 773) (by decide +kernel)) rfl, big_in (List.mem_of_getElem? (i := 776) (by decide +kernel)) rfl, nkX0_fail, ⟨_, _, _, ckX0_fail⟩, big_in (List.mem_of_getElem? (i := 777) (by decide +kernel)) rfl, nkX0_fail, ikRX0, ckX0_fail, ⟨dkX0_fail.1, dkX0_fail.2.1⟩, dkX0_fail.2.2, by decide⟩
theorem lX11_291_Flat : zLu RX11 291 yX0_fail RX2 mX2_fail 1 := ⟨big_in (List.mem_of_getElem? (i := 773) (by decide +kernel)) rfl, big_in (List.mem_of_getElem? (i := 776) (by decide +kernel)) rfl, nkX0_fail, ⟨_, _, _, ckX0_fail⟩, big_in (List.mem_of_getElem? (i := 778) (by decide +kernel)) rfl, nkX2_fail, ikRX2, ckX2_fail, ⟨dkX0_fail.1, dkX0_fail.2.1⟩, dkX0_fail.2.2, by decide⟩
theorem lX11_291_Bowl : zLu RX11 291 yX0_fail RX0 mX0_fail 1 := ⟨big_in (List.mem_of_getElem? (i := 773) (by decide +kernel)) rfl, big_in (List.mem_of_getElem? (i := 776) (by decide +kernel)) rfl, nkX0_fail, ⟨_, _, _, ckX0_fail⟩, big_in (List.mem_of_getElem? (i := 775) (by decide +kernel)) rfl, nkX0_fail, ikRX0, ckX0_fail, ⟨dkX0_fail.1, dkX0_fail.2.1⟩, dkX0_fail.2.2, by decide⟩
theorem lX1_7 : zLp RX1 7 ⟨RX3, "rise", "(I)I"⟩ mX3_rise 1 := ⟨big_in (List.mem_of_getElem? (i := 406) (by decide +kernel)) rfl, big_in (List.mem_of_getElem? (i := 1291) (by decide +kernel)) rfl, big_in (List.mem_of_getElem? (i := 80) (by decide +kernel)) rfl, Or.inl rfl, rfl, rfl, nkX3_rise, ikRX3, ckX3_rise, by decide, dkX3_rise.2.2, by decide⟩
theorem lX1_11 : zLp RX1 11 ⟨RX3, "cost", "(I)I"⟩ mX3_cost 1 := ⟨big_in (List.mem_of_getElem? (i := 740) (by decide +kernel)) rfl, big_in (List.mem_of_getElem? (i := 1293) (by decide +kernel)) rfl, big_in (List.mem_of_getElem? (i := 80) (by decide +kernel)) rfl, Or.inl rfl, rfl, rfl, nkX3_cost, ikRX3, ckX3_cost, by decide, dkX3_cost.2.2, by decide⟩
theorem lX2_7 : zLp RX2 7 ⟨RX6, "rise", "(I)I"⟩ mX6_rise 1 := ⟨big_in (List.mem_of_getElem? (i := 413) (by decide +kernel)) rfl, big_in (List.mem_of_getElem? (i := 1292) (by decide +kernel)) rfl, big_in (List.mem_of_getElem? (i := 87) (by decide +kernel)) rfl, Or.inl rfl, rfl, rfl, nkX6_rise, ikRX6, ckX6_rise, by decide, dkX6_rise.2.2, by decide⟩
theorem lX2_11 : zLp RX2 11 ⟨RX6, "cost", "(I)I"⟩ mX6_cost 1 := ⟨big_in (List.mem_of_getElem? (i := 747) (by decide +kernel)) rfl, big_in (List.mem_of_getElem? (i := 1294) (by decide +kernel)) rfl, big_in (List.mem_of_getElem? (i := 87) (by decide +kernel)) rfl, Or.inl rfl, rfl, rfl, nkX6_cost, ikRX6, ckX6_cost, by decide, dkX6_cost.2.2, by decide⟩
theorem lX3_7 : zLp RX3 7 ⟨RX0, "inside", "(IIII)I"⟩ mX0_inside 4 := ⟨big_in (List.mem_of_getElem? (i := 379) (by decide +kernel)) rfl, big_in (List.mem_of_getElem? (i := 375) (by decide +kernel)) rfl, big_in (List.mem_of_getElem? (i := 59) (by decide +kernel)) rfl, Or.inl rfl, rfl, rfl, nkX0_inside, ikRX0, ckX0_inside, by decide, dkX0_inside.2.2, by decide⟩
theorem lX3_11 : zLp RX3 11 ⟨RX0, "rise", "(I)I"⟩ mX0_rise 1 := ⟨big_in (List.mem_of_getElem? (i := 409) (by decide +kernel)) rfl, big_in (List.mem_of_getElem? (i := 402) (by decide +kernel)) rfl, big_in (List.mem_of_getElem? (i := 59) (by decide +kernel)) rfl, Or.inl rfl, rfl, rfl, nkX0_rise, ikRX0, ckX0_rise, by decide, dkX0_rise.2.2, by decide⟩
theorem lX3_15 : zLp RX3 15 ⟨RX0, "cost", "(I)I"⟩ mX0_cost 1 := ⟨big_in (List.mem_of_getElem? (i := 743) (by decide +kernel)) rfl, big_in (List.mem_of_getElem? (i := 736) (by decide +kernel)) rfl, big_in (List.mem_of_getElem? (i := 59) (by decide +kernel)) rfl, Or.inl rfl, rfl, rfl, nkX0_cost, ikRX0, ckX0_cost, by decide, dkX0_cost.2.2, by decide⟩
theorem lX4_7 : zLp RX4 7 ⟨RX3, "outside", "(III)I"⟩ mX0_outside 3 := ⟨big_in (List.mem_of_getElem? (i := 355) (by decide +kernel)) rfl, big_in (List.mem_of_getElem? (i := 356) (by decide +kernel)) rfl, big_in (List.mem_of_getElem? (i := 73) (by decide +kernel)) rfl, Or.inr (big_in (List.mem_of_getElem? (i := 59) (by decide +kernel)) rfl), rfl, rfl, nkX0_outside, ikRX0, ckX0_outside, by decide, dkX0_outside.2.2, by decide⟩
theorem lX4_11 : zLp RX4 11 ⟨RX3, "inside", "(IIII)I"⟩ mX3_inside 4 := ⟨big_in (List.mem_of_getElem? (i := 387) (by decide +kernel)) rfl, big_in (List.mem_of_getElem? (i := 1290) (by decide +kernel)) rfl, big_in (List.mem_of_getElem? (i := 73) (by decide +kernel)) rfl, Or.inl rfl, rfl, rfl, nkX3_inside, ikRX3, ckX3_inside, by decide, dkX3_inside.2.2, by decide⟩
theorem lX4_15 : zLp RX4 15 ⟨RX3, "cost", "(I)I"⟩ mX3_cost 1 := ⟨big_in (List.mem_of_getElem? (i := 755) (by decide +kernel)) rfl, big_in (List.mem_of_getElem? (i := 1293) (by decide +kernel)) rfl, big_in (List.mem_of_getElem? (i := 73) (by decide +kernel)) rfl, Or.inl rfl, rfl, rfl, nkX3_cost, ikRX3, ckX3_cost, by decide, dkX3_cost.2.2, by decide⟩
theorem lX5_85_Oval : zLu RX5 85 yX0_outside RX8 mX8_outside 3 := ⟨big_in (List.mem_of_getElem? (i := 339) (by decide +kernel)) rfl, big_in (List.mem_of_getElem? (i := 342) (by decide +kernel)) rfl, nkX0_outside, ⟨_, _, _, ckX0_outside⟩, big_in (List.mem_of_getElem? (i := 359) (by decide +kernel)) rfl, nkX8_outside, ikRX8, ckX8_outside, ⟨dkX0_outside.1, dkX0_outside.2.1⟩, dkX0_outside.2.2, by decide⟩
theorem lX5_85_Lid : zLu RX5 85 yX0_outside RX6 mX6_outside 3 := ⟨big_in (List.mem_of_getElem? (i := 339) (by decide +kernel)) rfl, big_in (List.mem_of_getElem? (i := 342) (by decide +kernel)) rfl, nkX0_outside, ⟨_, _, _, ckX0_outside⟩, big_in (List.mem_of_getElem? (i := 358) (by decide +kernel)) rfl, nkX6_outside, ikRX6, ckX6_outside, ⟨dkX0_outside.1, dkX0_outside.2.1⟩, dkX0_outside.2.2, by decide⟩
theorem lX5_85_Foot : zLu RX5 85 yX0_outside RX3 mX0_outside 3 := ⟨big_in (List.mem_of_getElem? (i := 339) (by decide +kernel)) rfl, big_in (List.mem_of_getElem? (i := 342) (by decide +kernel)) rfl, nkX0_outside, ⟨_, _, _, ckX0_outside⟩, big_in (List.mem_of_getElem? (i := 351) (by decide +kernel)) rfl, nkX0_outside, ikRX0, ckX0_outside, ⟨dkX0_outside.1, dkX0_outside.2.1⟩, dkX0_outside.2.2, by decide⟩
theorem lX5_85_Second : zLu RX5 85 yX0_outside RX9 mX9_outside 3 := ⟨big_in (List.mem_of_getElem? (i := 339) (by decide +kernel)) rfl, big_in (List.mem_of_getElem? (i := 342) (by decide +kernel)) rfl, nkX0_outside, ⟨_, _, _, ckX0_outside⟩, big_in (List.mem_of_getElem? (i := 363) (by decide +kernel)) rfl, nkX9_outside, ikRX9, ckX9_outside, ⟨dkX0_outside.1, dkX0_outside.2.1⟩, dkX0_outside.2.2, by decide⟩
theorem lX5_85_Glued : zLu RX5 85 yX0_outside RX4 mX4_outside 3 := ⟨big_in (List.mem_of_getElem? (i := 339) (by decide +kernel)) rfl, big_in (List.mem_of_getElem? (i := 342) (by decide +kernel)) rfl, nkX0_outside, ⟨_, _, _, ckX0_outside⟩, big_in (List.mem_of_getElem? (i := 352) (by decide +kernel)) rfl, nkX4_outside, ikRX4, ckX4_outside, ⟨dkX0_outside.1, dkX0_outside.2.1⟩, dkX0_outside.2.2, by decide⟩
theorem lX5_85_Deep : zLu RX5 85 yX0_outside RX1 mX0_outside 3 := ⟨big_in (List.mem_of_getElem? (i := 339) (by decide +kernel)) rfl, big_in (List.mem_of_getElem? (i := 342) (by decide +kernel)) rfl, nkX0_outside, ⟨_, _, _, ckX0_outside⟩, big_in (List.mem_of_getElem? (i := 343) (by decide +kernel)) rfl, nkX0_outside, ikRX0, ckX0_outside, ⟨dkX0_outside.1, dkX0_outside.2.1⟩, dkX0_outside.2.2, by decide⟩
theorem lX5_85_Flat : zLu RX5 85 yX0_outside RX2 mX6_outside 3 := ⟨big_in (List.mem_of_getElem? (i := 339) (by decide +kernel)) rfl, big_in (List.mem_of_getElem? (i := 342) (by decide +kernel)) rfl, nkX0_outside, ⟨_, _, _, ckX0_outside⟩, big_in (List.mem_of_getElem? (i := 344) (by decide +kernel)) rfl, nkX6_outside, ikRX6, ckX6_outside, ⟨dkX0_outside.1, dkX0_outside.2.1⟩, dkX0_outside.2.2, by decide⟩
theorem lX5_85_Bowl : zLu RX5 85 yX0_outside RX0 mX0_outside 3 := ⟨big_in (List.mem_of_getElem? (i := 339) (by decide +kernel)) rfl, big_in (List.mem_of_getElem? (i := 342) (by decide +kernel)) rfl, nkX0_outside, ⟨_, _, _, ckX0_outside⟩, big_in (List.mem_of_getElem? (i := 341) (by decide +kernel)) rfl, nkX0_outside, ikRX0, ckX0_outside, ⟨dkX0_outside.1, dkX0_outside.2.1⟩, dkX0_outside.2.2, by decide⟩
theorem lX5_91_Oval : zLu RX5 91 yX0_inside RX8 mX8_inside 4 := ⟨big_in (List.mem_of_getElem? (i := 372) (by decide +kernel)) rfl, big_in (List.mem_of_getElem? (i := 375) (by decide +kernel)) rfl, nkX0_inside, ⟨_, _, _, ckX0_inside⟩, big_in (List.mem_of_getElem? (i := 389) (by decide +kernel)) rfl, nkX8_inside, ikRX8, ckX8_inside, ⟨dkX0_inside.1, dkX0_inside.2.1⟩, dkX0_inside.2.2, by decide⟩
theorem lX5_91_Lid : zLu RX5 91 yX0_inside RX6 mX6_inside 4 := ⟨big_in (List.mem_of_getElem? (i := 372) (by decide +kernel)) rfl, big_in (List.mem_of_getElem? (i := 375) (by decide +kernel)) rfl, nkX0_inside, ⟨_, _, _, ckX0_inside⟩, big_in (List.mem_of_getElem? (i := 388) (by decide +kernel)) rfl, nkX6_inside, ikRX6, ckX6_inside, ⟨dkX0_inside.1, dkX0_inside.2.1⟩, dkX0_inside.2.2, by decide⟩
theorem lX5_91_Foot : zLu RX5 91 yX0_inside RX3 mX3_inside 4 := ⟨big_in (List.mem_of_getElem? (i := 372) (by decide +kernel)) rfl, big_in (List.mem_of_getElem? (i := 375) (by decide +kernel)) rfl, nkX0_inside, ⟨_, _, _, ckX0_inside⟩, big_in (List.mem_of_getElem? (i := 383) (by decide +kernel)) rfl, nkX3_inside, ikRX3, ckX3_inside, ⟨dkX0_inside.1, dkX0_inside.2.1⟩, dkX0_inside.2.2, by decide⟩
theorem lX5_91_Second : zLu RX5 91 yX0_inside RX9 mX8_inside 4 := ⟨big_in (List.mem_of_getElem? (i := 372) (by decide +kernel)) rfl, big_in (List.mem_of_getElem? (i := 375) (by decide +kernel)) rfl, nkX0_inside, ⟨_, _, _, ckX0_inside⟩, big_in (List.mem_of_getElem? (i := 393) (by decide +kernel)) rfl, nkX8_inside, ikRX8, ckX8_inside, ⟨dkX0_inside.1, dkX0_inside.2.1⟩, dkX0_inside.2.2, by decide⟩
theorem lX5_91_Glued : zLu RX5 91 yX0_inside RX4 mX4_inside 4 := ⟨big_in (List.mem_of_getElem? (i := 372) (by decide +kernel)) rfl, big_in (List.mem_of_getElem? (i := 375) (by decide +kernel)) rfl, nkX0_inside, ⟨_, _, _, ckX0_inside⟩, big_in (List.mem_of_getElem? (i := 384) (by decide +kernel)) rfl, nkX4_inside, ikRX4, ckX4_inside, ⟨dkX0_inside.1, dkX0_inside.2.1⟩, dkX0_inside.2.2, by decide⟩
theorem lX5_91_Deep : zLu RX5 91 yX0_inside RX1 mX3_inside 4 := ⟨big_in (List.mem_of_getElem? (i := 372) (by decide +kernel)) rfl, big_in (List.mem_of_getElem? (i := 375) (by decide +kernel)) rfl, nkX0_inside, ⟨_, _, _, ckX0_inside⟩, big_in (List.mem_of_getElem? (i := 376) (by decide +kernel)) rfl, nkX3_inside, ikRX3, ckX3_inside, ⟨dkX0_inside.1, dkX0_inside.2.1⟩, dkX0_inside.2.2, by decide⟩
theorem lX5_91_Flat : zLu RX5 91 yX0_inside RX2 mX6_inside 4 := ⟨big_in (List.mem_of_getElem? (i := 372) (by decide +kernel)) rfl, big_in (List.mem_of_getElem? (i := 375) (by decide +kernel)) rfl, nkX0_inside, ⟨_, _, _, ckX0_inside⟩, big_in (List.mem_of_getElem? (i := 380) (by decide +kernel)) rfl, nkX6_inside, ikRX6, ckX6_inside, ⟨dkX0_inside.1, dkX0_inside.2.1⟩, dkX0_inside.2.2, by decide⟩
theorem lX5_91_Bowl : zLu RX5 91 yX0_inside RX0 mX0_inside 4 := ⟨big_in (List.mem_of_getElem? (i := 372) (by decide +kernel)) rfl, big_in (List.mem_of_getElem? (i := 375) (by decide +kernel)) rfl, nkX0_inside, ⟨_, _, _, ckX0_inside⟩, big_in (List.mem_of_getElem? (i := 374) (by decide +kernel)) rfl, nkX0_inside, ikRX0, ckX0_inside, ⟨dkX0_inside.1, dkX0_inside.2.1⟩, dkX0_inside.2.2, by decide⟩
theorem lX5_95_Oval : zLu RX5 95 yX0_rise RX8 mX0_rise 1 := ⟨big_in (List.mem_of_getElem? (i := 399) (by decide +kernel)) rfl, big_in (List.mem_of_getElem? (i := 402) (by decide +kernel)) rfl, nkX0_rise, ⟨_, _, _, ckX0_rise⟩, big_in (List.mem_of_getElem? (i := 420) (by decide +kernel)) rfl, nkX0_rise, ikRX0, ckX0_rise, ⟨dkX0_rise.1, dkX0_rise.2.1⟩, dkX0_rise.2.2, by decide⟩
theorem lX5_95_Lid : zLu RX5 95 yX0_rise RX6 mX6_rise 1 := ⟨big_in (List.mem_of_getElem? (i := 399) (by decide +kernel)) rfl, big_in (List.mem_of_getElem? (i := 402) (by decide +kernel)) rfl, nkX0_rise, ⟨_, _, _, ckX0_rise⟩, big_in (List.mem_of_getElem? (i := 419) (by decide +kernel)) rfl, nkX6_rise, ikRX6, ckX6_rise, ⟨dkX0_rise.1, dkX0_rise.2.1⟩, dkX0_rise.2.2, by decide⟩
theorem lX5_95_Foot : zLu RX5 95 yX0_rise RX3 mX3_rise 1 := ⟨big_in (List.mem_of_getElem? (i := 399) (by decide +kernel)) rfl, big_in (List.mem_of_getElem? (i := 402) (by decide +kernel)) rfl, nkX0_rise, ⟨_, _, _, ckX0_rise⟩, big_in (List.mem_of_getElem? (i := 417) (by decide +kernel)) rfl, nkX3_rise, ikRX3, ckX3_rise, ⟨dkX0_rise.1, dkX0_rise.2.1⟩, dkX0_rise.2.2, by decide⟩
theorem lX5_95_Second : zLu RX5 95 yX0_rise RX9 mX0_rise 1 := ⟨big_in (List.mem_of_getElem? (i := 399) (by decide +kernel)) rfl, big_in (List.mem_of_getElem? (i := 402) (by decide +kernel)) rfl, nkX0_rise, ⟨_, _, _, ckX0_rise⟩, big_in (List.mem_of_getElem? (i := 421) (by decide +kernel)) rfl, nkX0_rise, ikRX0, ckX0_rise, ⟨dkX0_rise.1, dkX0_rise.2.1⟩, dkX0_rise.2.2, by decide⟩
theorem lX5_95_Glued : zLu RX5 95 yX0_rise RX4 mX3_rise 1 := ⟨big_in (List.mem_of_getElem? (i := 399) (by decide +kernel)) rfl, big_in (List.mem_of_getElem? (i := 402) (by decide +kernel)) rfl, nkX0_rise, ⟨_, _, _, ckX0_rise⟩, big_in (List.mem_of_getElem? (i := 418) (by decide +kernel)) rfl, nkX3_rise, ikRX3, ckX3_rise, ⟨dkX0_rise.1, dkX0_rise.2.1⟩, dkX0_rise.2.2, by decide⟩
theorem lX5_95_Deep : zLu RX5 95 yX0_rise RX1 mX1_rise 1 := ⟨big_in (List.mem_of_getElem? (i := 399) (by decide +kernel)) rfl, big_in (List.mem_of_getElem? (i := 402) (by decide +kernel)) rfl, nkX0_rise, ⟨_, _, _, ckX0_rise⟩, big_in (List.mem_of_getElem? (i := 403) (by decide +kernel)) rfl, nkX1_rise, ikRX1, ckX1_rise, ⟨dkX0_rise.1, dkX0_rise.2.1⟩, dkX0_rise.2.2, by decide⟩
theorem lX5_95_Flat : zLu RX5 95 yX0_rise RX2 mX2_rise 1 := ⟨big_in (List.mem_of_getElem? (i := 399) (by decide +kernel)) rfl, big_in (List.mem_of_getElem? (i := 402) (by decide +kernel)) rfl, nkX0_rise, ⟨_, _, _, ckX0_rise⟩, big_in (List.mem_of_getElem? (i := 410) (by decide +kernel)) rfl, nkX2_rise, ikRX2, ckX2_rise, ⟨dkX0_rise.1, dkX0_rise.2.1⟩, dkX0_rise.2.2, by decide⟩
theorem lX5_95_Bowl : zLu RX5 95 yX0_rise RX0 mX0_rise 1 := ⟨big_in (List.mem_of_getElem? (i := 399) (by decide +kernel)) rfl, big_in (List.mem_of_getElem? (i := 402) (by decide +kernel)) rfl, nkX0_rise, ⟨_, _, _, ckX0_rise⟩, big_in (List.mem_of_getElem? (i := 401) (by decide +kernel)) rfl, nkX0_rise, ikRX0, ckX0_rise, ⟨dkX0_rise.1, dkX0_rise.2.1⟩, dkX0_rise.2.2, by decide⟩
theorem lX5_109_Oval : zLu RX5 109 yX0_minds RX8 mX8_minds 0 := ⟨big_in (List.mem_of_getElem? (i := 463) (by decide +kernel)) rfl, big_in (List.mem_of_getElem? (i := 466) (by decide +kernel)) rfl, nkX0_minds, ⟨_, _, _, ckX0_minds⟩, big_in (List.mem_of_getElem? (i := 472) (by decide +kernel)) rfl, nkX8_minds, ikRX8, ckX8_minds, ⟨dkX0_minds.1, dkX0_minds.2.1⟩, dkX0_minds.2.2, by decide⟩
theorem lX5_109_Lid : zLu RX5 109 yX0_minds RX6 mX0_minds 0 := ⟨big_in (List.mem_of_getElem? (i := 463) (by decide +kernel)) rfl, big_in (List.mem_of_getElem? (i := 466) (by decide +kernel)) rfl, nkX0_minds, ⟨_, _, _, ckX0_minds⟩, big_in (List.mem_of_getElem? (i := 471) (by decide +kernel)) rfl, nkX0_minds, ikRX0, ckX0_minds, ⟨dkX0_minds.1, dkX0_minds.2.1⟩, dkX0_minds.2.2, by decide⟩
theorem lX5_109_Foot : zLu RX5 109 yX0_minds RX3 mX0_minds 0 := ⟨big_in (List.mem_of_getElem? (i := 463) (by decide +kernel)) rfl, big_in (List.mem_of_getElem? (i := 466) (by decide +kernel)) rfl, nkX0_minds, ⟨_, _, _, ckX0_minds⟩, big_in (List.mem_of_getElem? (i := 469) (by decide +kernel)) rfl, nkX0_minds, ikRX0, ckX0_minds, ⟨dkX0_minds.1, dkX0_minds.2.1⟩, dkX0_minds.2.2, by decide⟩
theorem lX5_109_Second : zLu RX5 109 yX0_minds RX9 mX8_minds 0 := ⟨big_in (List.mem_of_getElem? (i := 463) (by decide +kernel)) rfl, big_in (List.mem_of_getElem? (i := 466) (by decide +kernel)) rfl, nkX0_minds, ⟨_, _, _, ckX0_minds⟩, big_in (List.mem_of_getElem? (i := 475) (by decide +kernel)) rfl, nkX8_minds, ikRX8, ckX8_minds, ⟨dkX0_minds.1, dkX0_minds.2.1⟩, dkX0_minds.2.2, by decide⟩
theorem lX5_109_Glued : zLu RX5 109 yX0_minds RX4 mX0_minds 0 := ⟨big_in (List.mem_of_getElem? (i := 463) (by decide +kernel)) rfl, big_in (List.mem_of_getElem? (i := 466) (by decide +kernel)) rfl, nkX0_minds, ⟨_, _, _, ckX0_minds⟩, big_in (List.mem_of_getElem? (i := 470) (by decide +kernel)) rfl, nkX0_minds, ikRX0, ckX0_minds, ⟨dkX0_minds.1, dkX0_minds.2.1⟩, dkX0_minds.2.2, by decide⟩
theorem lX5_109_Deep : zLu RX5 109 yX0_minds RX1 mX0_minds 0 := ⟨big_in (List.mem_of_getElem? (i := 463) (by decide +kernel)) rfl, big_in (List.mem_of_getElem? (i := 466) (by decide +kernel)) rfl, nkX0_minds, ⟨_, _, _, ckX0_minds⟩, big_in (List.mem_of_getElem? (i := 467) (by decide +kernel)) rfl, nkX0_minds, ikRX0, ckX0_minds, ⟨dkX0_minds.1, dkX0_minds.2.1⟩, dkX0_minds.2.2, by decide⟩
theorem lX5_109_Flat : zLu RX5 109 yX0_minds RX2 mX0_minds 0 := ⟨big_in (List.mem_of_getElem? (i := 463) (by decide +kernel)) rfl, big_in (List.mem_of_getElem? (i := 466) (by decide +kernel)) rfl, nkX0_minds, ⟨_, _, _, ckX0_minds⟩, big_in (List.mem_of_getElem? (i := 468) (by decide +kernel)) rfl, nkX0_minds, ikRX0, ckX0_minds, ⟨dkX0_minds.1, dkX0_minds.2.1⟩, dkX0_minds.2.2, by decide⟩
theorem lX5_109_Bowl : zLu RX5 109 yX0_minds RX0 mX0_minds 0 := ⟨big_in (List.mem_of_getElem? (i := 463) (by decide +kernel)) rfl, big_in (List.mem_of_getElem? (i := 466) (by decide +kernel)) rfl, nkX0_minds, ⟨_, _, _, ckX0_minds⟩, big_in (List.mem_of_getElem? (i := 465) (by decide +kernel)) rfl, nkX0_minds, ikRX0, ckX0_minds, ⟨dkX0_minds.1, dkX0_minds.2.1⟩, dkX0_minds.2.2, by decide⟩
theorem lX6_7 : zLp RX6 7 ⟨RX0, "outside", "(III)I"⟩ mX0_outside 3 := ⟨big_in (List.mem_of_getElem? (i := 347) (by decide +kernel)) rfl, big_in (List.mem_of_getElem? (i := 342) (by decide +kernel)) rfl, big_in (List.mem_of_getElem? (i := 52) (by decide +kernel)) rfl, Or.inl rfl, rfl, rfl, nkX0_outside, ikRX0, ckX0_outside, by decide, dkX0_outside.2.2, by decide⟩
theorem lX6_17 : zLp RX6 17 ⟨RX0, "rise", "(I)I"⟩ mX0_rise 1 := ⟨big_in (List.mem_of_getElem? (i := 416) (by decide +kernel)) rfl, big_in (List.mem_of_getElem? (i := 402) (by decide +kernel)) rfl, big_in (List.mem_of_getElem? (i := 52) (by decide +kernel)) rfl, Or.inl rfl, rfl, rfl, nkX0_rise, ikRX0, ckX0_rise, by decide, dkX0_rise.2.2, by decide⟩
theorem lX6_21 : zLp RX6 21 ⟨RX0, "cost", "(I)I"⟩ mX0_cost 1 := ⟨big_in (List.mem_of_getElem? (i := 750) (by decide +kernel)) rfl, big_in (List.mem_of_getElem? (i := 736) (by decide +kernel)) rfl, big_in (List.mem_of_getElem? (i := 52) (by decide +kernel)) rfl, Or.inl rfl, rfl, rfl, nkX0_cost, ikRX0, ckX0_cost, by decide, dkX0_cost.2.2, by decide⟩
theorem lX8_7 : zLp RX8 7 ⟨RX0, "outside", "(III)I"⟩ mX0_outside 3 := ⟨big_in (List.mem_of_getElem? (i := 362) (by decide +kernel)) rfl, big_in (List.mem_of_getElem? (i := 342) (by decide +kernel)) rfl, big_in (List.mem_of_getElem? (i := 45) (by decide +kernel)) rfl, Or.inl rfl, rfl, rfl, nkX0_outside, ikRX0, ckX0_outside, by decide, dkX0_outside.2.2, by decide⟩
theorem lX8_11 : zLp RX8 11 ⟨RX0, "inside", "(IIII)I"⟩ mX0_inside 4 := ⟨big_in (List.mem_of_getElem? (i := 392) (by decide +kernel)) rfl, big_in (List.mem_of_getElem? (i := 375) (by decide +kernel)) rfl, big_in (List.mem_of_getElem? (i := 45) (by decide +kernel)) rfl, Or.inl rfl, rfl, rfl, nkX0_inside, ikRX0, ckX0_inside, by decide, dkX0_inside.2.2, by decide⟩
theorem lX8_15 : zLp RX8 15 ⟨RX0, "cost", "(I)I"⟩ mX0_cost 1 := ⟨big_in (List.mem_of_getElem? (i := 760) (by decide +kernel)) rfl, big_in (List.mem_of_getElem? (i := 736) (by decide +kernel)) rfl, big_in (List.mem_of_getElem? (i := 45) (by decide +kernel)) rfl, Or.inl rfl, rfl, rfl, nkX0_cost, ikRX0, ckX0_cost, by decide, dkX0_cost.2.2, by decide⟩
theorem lX9_7 : zLp RX9 7 ⟨RX8, "outside", "(III)I"⟩ mX8_outside 3 := ⟨big_in (List.mem_of_getElem? (i := 366) (by decide +kernel)) rfl, big_in (List.mem_of_getElem? (i := 1289) (by decide +kernel)) rfl, big_in (List.mem_of_getElem? (i := 66) (by decide +kernel)) rfl, Or.inl rfl, rfl, rfl, nkX8_outside, ikRX8, ckX8_outside, by decide, dkX8_outside.2.2, by decide⟩
theorem lX9_11 : zLp RX9 11 ⟨RX8, "cost", "(I)I"⟩ mX8_cost 1 := ⟨big_in (List.mem_of_getElem? (i := 764) (by decide +kernel)) rfl, big_in (List.mem_of_getElem? (i := 1295) (by decide +kernel)) rfl, big_in (List.mem_of_getElem? (i := 66) (by decide +kernel)) rfl, Or.inl rfl, rfl, rfl, nkX8_cost, ikRX8, ckX8_cost, by decide, dkX8_cost.2.2, by decide⟩
theorem inX5 : ∀ w ∈ u_ws RX5 TX5 9, w ∈ big := by decide +kernel
theorem inX7 : ∀ w ∈ u_ws RX7 TX7 11, w ∈ big := by decide +kernel
theorem inX10 : ∀ w ∈ u_ws RX10 TX10 6, w ∈ big := by decide +kernel
theorem inX11 : ∀ w ∈ u_ws RX11 TX11 7, w ∈ big := by decide +kernel
theorem inX12 : ∀ w ∈ u_ws RX12 TX12 20, w ∈ big := by decide +kernel
theorem fX11_33 : zF RX11 33 11 0 := ⟨RX11, TX11, 7, tyX11, rfl, by decide, inX11, tyX11_ok, nmX11, Or.inl (big_in (List.mem_of_getElem? (i := 207) (by decide +kernel)) rfl)⟩
theorem fX11_42 : zF RX11 42 11 1 := ⟨RX11, TX11, 7, tyX11, rfl, by decide, inX11, tyX11_ok, nmX11, Or.inl (big_in (List.mem_of_getElem? (i := 208) (by decide +kernel)) rfl)⟩
theorem fX11_46 : zF RX11 46 11 2 := ⟨RX11, TX11, 7, tyX11, rfl, by decide, inX11, tyX11_ok, nmX11, Or.inl (big_in (List.mem_of_getElem? (i := 209) (by decide +kernel)) rfl)⟩
theorem fX11_49 : zF RX11 49 11 3 := ⟨RX11, TX11, 7, tyX11, rfl, by decide, inX11, tyX11_ok, nmX11, Or.inl (big_in (List.mem_of_getElem? (i := 210) (by decide +kernel)) rfl)⟩
theorem fX11_55 : zF RX11 55 11 4 := ⟨RX11, TX11, 7, tyX11, rfl, by decide, inX11, tyX11_ok, nmX11, Or.inl (big_in (List.mem_of_getElem? (i := 211) (by decide +kernel)) rfl)⟩
theorem fX11_61 : zF RX11 61 11 5 := ⟨RX11, TX11, 7, tyX11, rfl, by decide, inX11, tyX11_ok, nmX11, Or.inl (big_in (List.mem_of_getElem? (i := 212) (by decide +kernel)) rfl)⟩
theorem fX11_66 : zF RX11 66 11 6 := ⟨RX11, TX11, 7, tyX11, rfl, by decide, inX11, tyX11_ok, nmX11, Or.inl (big_in (List.mem_of_getElem? (i := 213) (by decide +kernel)) rfl)⟩
theorem gX11_66 : zFp RX11 66 11 6 .boolean := ⟨fX11_66, _, rfl, rfl, by decide +kernel⟩
theorem fX5_11 : zF RX5 11 5 1 := ⟨RX5, TX5, 9, tyX5, rfl, by decide, inX5, tyX5_ok, nmX5, Or.inl (big_in (List.mem_of_getElem? (i := 95) (by decide +kernel)) rfl)⟩
theorem fX5_15 : zF RX5 15 5 2 := ⟨RX5, TX5, 9, tyX5, rfl, by decide, inX5, tyX5_ok, nmX5, Or.inl (big_in (List.mem_of_getElem? (i := 97) (by decide +kernel)) rfl)⟩
theorem fX5_18 : zF RX5 18 5 3 := ⟨RX5, TX5, 9, tyX5, rfl, by decide, inX5, tyX5_ok, nmX5, Or.inl (big_in (List.mem_of_getElem? (i := 99) (by decide +kernel)) rfl)⟩
theorem fX5_21 : zF RX5 21 5 4 := ⟨RX5, TX5, 9, tyX5, rfl, by decide, inX5, tyX5_ok, nmX5, Or.inl (big_in (List.mem_of_getElem? (i := 101) (by decide +kernel)) rfl)⟩
theorem fX5_24 : zF RX5 24 5 5 := ⟨RX5, TX5, 9, tyX5, rfl, by decide, inX5, tyX5_ok, nmX5, Or.inl (big_in (List.mem_of_getElem? (i := 103) (by decide +kernel)) rfl)⟩
theorem fX5_27 : zF RX5 27 5 6 := ⟨RX5, TX5, 9, tyX5, rfl, by decide, inX5, tyX5_ok, nmX5, Or.inl (big_in (List.mem_of_getElem? (i := 106) (by decide +kernel)) rfl)⟩
theorem fX5_30 : zF RX5 30 5 0 := ⟨RX5, TX5, 9, tyX5, rfl, by decide, inX5, tyX5_ok, nmX5, Or.inl (big_in (List.mem_of_getElem? (i := 94) (by decide +kernel)) rfl)⟩
theorem fX5_34 : zF RX5 34 5 7 := ⟨RX5, TX5, 9, tyX5, rfl, by decide, inX5, tyX5_ok, nmX5, Or.inl (big_in (List.mem_of_getElem? (i := 109) (by decide +kernel)) rfl)⟩
theorem gX5_34 : zFp RX5 34 5 7 .int := ⟨fX5_34, _, rfl, rfl, by decide +kernel⟩
theorem fX5_38 : zF RX5 38 5 8 := ⟨RX5, TX5, 9, tyX5, rfl, by decide, inX5, tyX5_ok, nmX5, Or.inl (big_in (List.mem_of_getElem? (i := 112) (by decide +kernel)) rfl)⟩
theorem gX5_38 : zFp RX5 38 5 8 .int := ⟨fX5_38, _, rfl, rfl, by decide +kernel⟩
theorem fX7_9 : zF RX7 9 7 0 := ⟨RX7, TX7, 11, tyX7, rfl, by decide, inX7, tyX7_ok, nmX7, Or.inl (big_in (List.mem_of_getElem? (i := 141) (by decide +kernel)) rfl)⟩
theorem fX7_15 : zF RX7 15 7 1 := ⟨RX7, TX7, 11, tyX7, rfl, by decide, inX7, tyX7_ok, nmX7, Or.inl (big_in (List.mem_of_getElem? (i := 142) (by decide +kernel)) rfl)⟩
theorem fX7_18 : zF RX7 18 7 2 := ⟨RX7, TX7, 11, tyX7, rfl, by decide, inX7, tyX7_ok, nmX7, Or.inl (big_in (List.mem_of_getElem? (i := 143) (by decide +kernel)) rfl)⟩
theorem fX7_21 : zF RX7 21 7 3 := ⟨RX7, TX7, 11, tyX7, rfl, by decide, inX7, tyX7_ok, nmX7, Or.inl (big_in (List.mem_of_getElem? (i := 144) (by decide +kernel)) rfl)⟩
theorem fX7_24 : zF RX7 24 7 4 := ⟨RX7, TX7, 11, tyX7, rfl, by decide, inX7, tyX7_ok, nmX7, Or.inl (big_in (List.mem_of_getElem? (i := 145) (by decide +kernel)) rfl)⟩
theorem fX7_27 : zF RX7 27 7 5 := ⟨RX7, TX7, 11, tyX7, rfl, by decide, inX7, tyX7_ok, nmX7, Or.inl (big_in (List.mem_of_getElem? (i := 146) (by decide +kernel)) rfl)⟩
theorem fX7_30 : zF RX7 30 7 6 := ⟨RX7, TX7, 11, tyX7, rfl, by decide, inX7, tyX7_ok, nmX7, Or.inl (big_in (List.mem_of_getElem? (i := 147) (by decide +kernel)) rfl)⟩
theorem fX7_33 : zF RX7 33 7 7 := ⟨RX7, TX7, 11, tyX7, rfl, by decide, inX7, tyX7_ok, nmX7, Or.inl (big_in (List.mem_of_getElem? (i := 148) (by decide +kernel)) rfl)⟩
theorem fX7_48 : zF RX7 48 7 9 := ⟨RX7, TX7, 11, tyX7, rfl, by decide, inX7, tyX7_ok, nmX7, Or.inl (big_in (List.mem_of_getElem? (i := 150) (by decide +kernel)) rfl)⟩
theorem gX7_48 : zFp RX7 48 7 9 .int := ⟨fX7_48, _, rfl, rfl, by decide +kernel⟩
theorem fX7_51 : zF RX7 51 7 10 := ⟨RX7, TX7, 11, tyX7, rfl, by decide, inX7, tyX7_ok, nmX7, Or.inl (big_in (List.mem_of_getElem? (i := 151) (by decide +kernel)) rfl)⟩
theorem gX7_51 : zFp RX7 51 7 10 .int := ⟨fX7_51, _, rfl, rfl, by decide +kernel⟩
theorem fX7_54 : zF RX7 54 7 8 := ⟨RX7, TX7, 11, tyX7, rfl, by decide, inX7, tyX7_ok, nmX7, Or.inl (big_in (List.mem_of_getElem? (i := 149) (by decide +kernel)) rfl)⟩
theorem gX7_54 : zFp RX7 54 7 8 .int := ⟨fX7_54, _, rfl, rfl, by decide +kernel⟩
theorem fX10_9 : zF RX10 9 10 0 := ⟨RX10, TX10, 6, tyX10, rfl, by decide, inX10, tyX10_ok, nmX10, Or.inl (big_in (List.mem_of_getElem? (i := 182) (by decide +kernel)) rfl)⟩
theorem fX10_15 : zF RX10 15 10 1 := ⟨RX10, TX10, 6, tyX10, rfl, by decide, inX10, tyX10_ok, nmX10, Or.inl (big_in (List.mem_of_getElem? (i := 184) (by decide +kernel)) rfl)⟩
theorem gX10_15 : zFp RX10 15 10 1 .int := ⟨fX10_15, _, rfl, rfl, by decide +kernel⟩
theorem fX10_19 : zF RX10 19 10 2 := ⟨RX10, TX10, 6, tyX10, rfl, by decide, inX10, tyX10_ok, nmX10, Or.inl (big_in (List.mem_of_getElem? (i := 186) (by decide +kernel)) rfl)⟩
theorem gX10_19 : zFp RX10 19 10 2 .int := ⟨fX10_19, _, rfl, rfl, by decide +kernel⟩
theorem fX10_22 : zF RX10 22 10 3 := ⟨RX10, TX10, 6, tyX10, rfl, by decide, inX10, tyX10_ok, nmX10, Or.inl (big_in (List.mem_of_getElem? (i := 188) (by decide +kernel)) rfl)⟩
theorem gX10_22 : zFp RX10 22 10 3 .int := ⟨fX10_22, _, rfl, rfl, by decide +kernel⟩
theorem fX10_25 : zF RX10 25 10 4 := ⟨RX10, TX10, 6, tyX10, rfl, by decide, inX10, tyX10_ok, nmX10, Or.inl (big_in (List.mem_of_getElem? (i := 190) (by decide +kernel)) rfl)⟩
theorem gX10_25 : zFp RX10 25 10 4 .int := ⟨fX10_25, _, rfl, rfl, by decide +kernel⟩
theorem fX10_28 : zF RX10 28 10 5 := ⟨RX10, TX10, 6, tyX10, rfl, by decide, inX10, tyX10_ok, nmX10, Or.inl (big_in (List.mem_of_getElem? (i := 192) (by decide +kernel)) rfl)⟩
theorem gX10_28 : zFp RX10 28 10 5 .int := ⟨fX10_28, _, rfl, rfl, by decide +kernel⟩
theorem fX12_9 : zF RX12 9 12 0 := ⟨RX12, TX12, 20, tyX12, rfl, by decide, inX12, tyX12_ok, nmX12, Or.inl (big_in (List.mem_of_getElem? (i := 910) (by decide +kernel)) rfl)⟩
theorem fX12_13 : zF RX12 13 12 1 := ⟨RX12, TX12, 20, tyX12, rfl, by decide, inX12, tyX12_ok, nmX12, Or.inl (big_in (List.mem_of_getElem? (i := 911) (by decide +kernel)) rfl)⟩
theorem fX12_16 : zF RX12 16 12 2 := ⟨RX12, TX12, 20, tyX12, rfl, by decide, inX12, tyX12_ok, nmX12, Or.inl (big_in (List.mem_of_getElem? (i := 912) (by decide +kernel)) rfl)⟩
theorem fX12_19 : zF RX12 19 12 3 := ⟨RX12, TX12, 20, tyX12, rfl, by decide, inX12, tyX12_ok, nmX12, Or.inl (big_in (List.mem_of_getElem? (i := 913) (by decide +kernel)) rfl)⟩
theorem fX12_22 : zF RX12 22 12 4 := ⟨RX12, TX12, 20, tyX12, rfl, by decide, inX12, tyX12_ok, nmX12, Or.inl (big_in (List.mem_of_getElem? (i := 914) (by decide +kernel)) rfl)⟩
theorem fX12_25 : zF RX12 25 12 5 := ⟨RX12, TX12, 20, tyX12, rfl, by decide, inX12, tyX12_ok, nmX12, Or.inl (big_in (List.mem_of_getElem? (i := 915) (by decide +kernel)) rfl)⟩
theorem fX12_28 : zF RX12 28 12 6 := ⟨RX12, TX12, 20, tyX12, rfl, by decide, inX12, tyX12_ok, nmX12, Or.inl (big_in (List.mem_of_getElem? (i := 916) (by decide +kernel)) rfl)⟩
theorem fX12_31 : zF RX12 31 12 7 := ⟨RX12, TX12, 20, tyX12, rfl, by decide, inX12, tyX12_ok, nmX12, Or.inl (big_in (List.mem_of_getElem? (i := 917) (by decide +kernel)) rfl)⟩
theorem fX12_34 : zF RX12 34 12 8 := ⟨RX12, TX12, 20, tyX12, rfl, by decide, inX12, tyX12_ok, nmX12, Or.inl (big_in (List.mem_of_getElem? (i := 918) (by decide +kernel)) rfl)⟩
theorem fX12_37 : zF RX12 37 12 15 := ⟨RX12, TX12, 20, tyX12, rfl, by decide, inX12, tyX12_ok, nmX12, Or.inl (big_in (List.mem_of_getElem? (i := 925) (by decide +kernel)) rfl)⟩
theorem fX12_40 : zF RX12 40 12 16 := ⟨RX12, TX12, 20, tyX12, rfl, by decide, inX12, tyX12_ok, nmX12, Or.inl (big_in (List.mem_of_getElem? (i := 926) (by decide +kernel)) rfl)⟩
theorem fX12_43 : zF RX12 43 12 17 := ⟨RX12, TX12, 20, tyX12, rfl, by decide, inX12, tyX12_ok, nmX12, Or.inl (big_in (List.mem_of_getElem? (i := 927) (by decide +kernel)) rfl)⟩
theorem fX12_46 : zF RX12 46 12 18 := ⟨RX12, TX12, 20, tyX12, rfl, by decide, inX12, tyX12_ok, nmX12, Or.inl (big_in (List.mem_of_getElem? (i := 928) (by decide +kernel)) rfl)⟩
theorem fX12_49 : zF RX12 49 12 10 := ⟨RX12, TX12, 20, tyX12, rfl, by decide, inX12, tyX12_ok, nmX12, Or.inl (big_in (List.mem_of_getElem? (i := 920) (by decide +kernel)) rfl)⟩
theorem gX12_49 : zFp RX12 49 12 10 .int := ⟨fX12_49, _, rfl, rfl, by decide +kernel⟩
theorem fX12_93 : zF RX12 93 12 11 := ⟨RX12, TX12, 20, tyX12, rfl, by decide, inX12, tyX12_ok, nmX12, Or.inl (big_in (List.mem_of_getElem? (i := 921) (by decide +kernel)) rfl)⟩
theorem gX12_93 : zFp RX12 93 12 11 .int := ⟨fX12_93, _, rfl, rfl, by decide +kernel⟩
theorem fX12_96 : zF RX12 96 12 13 := ⟨RX12, TX12, 20, tyX12, rfl, by decide, inX12, tyX12_ok, nmX12, Or.inl (big_in (List.mem_of_getElem? (i := 923) (by decide +kernel)) rfl)⟩
theorem gX12_96 : zFp RX12 96 12 13 .int := ⟨fX12_96, _, rfl, rfl, by decide +kernel⟩
theorem fX12_99 : zF RX12 99 12 12 := ⟨RX12, TX12, 20, tyX12, rfl, by decide, inX12, tyX12_ok, nmX12, Or.inl (big_in (List.mem_of_getElem? (i := 922) (by decide +kernel)) rfl)⟩
theorem gX12_99 : zFp RX12 99 12 12 .int := ⟨fX12_99, _, rfl, rfl, by decide +kernel⟩
theorem fX12_113 : zF RX12 113 12 14 := ⟨RX12, TX12, 20, tyX12, rfl, by decide, inX12, tyX12_ok, nmX12, Or.inl (big_in (List.mem_of_getElem? (i := 924) (by decide +kernel)) rfl)⟩
theorem gX12_113 : zFp RX12 113 12 14 .int := ⟨fX12_113, _, rfl, rfl, by decide +kernel⟩
theorem fX12_218 : zF RX12 218 12 19 := ⟨RX12, TX12, 20, tyX12, rfl, by decide, inX12, tyX12_ok, nmX12, Or.inl (big_in (List.mem_of_getElem? (i := 929) (by decide +kernel)) rfl)⟩
theorem gX12_218 : zFp RX12 218 12 19 .int := ⟨fX12_218, _, rfl, rfl, by decide +kernel⟩
theorem fX12_229 : zF RX12 229 12 9 := ⟨RX12, TX12, 20, tyX12, rfl, by decide, inX12, tyX12_ok, nmX12, Or.inl (big_in (List.mem_of_getElem? (i := 919) (by decide +kernel)) rfl)⟩
theorem gX12_229 : zFp RX12 229 12 9 .boolean := ⟨fX12_229, _, rfl, rfl, by decide +kernel⟩
theorem fX11_86 : zF RX11 86 5 1 := ⟨RX5, TX5, 9, tyX5, rfl, by decide, inX5, tyX5_ok, nmX5, Or.inr ⟨"BowlsWithin", nests_in (List.mem_of_getElem? (i := 96) (by decide +kernel)) rfl⟩⟩
theorem fX11_90 : zF RX11 90 5 2 := ⟨RX5, TX5, 9, tyX5, rfl, by decide, inX5, tyX5_ok, nmX5, Or.inr ⟨"BowlsWithin", nests_in (List.mem_of_getElem? (i := 98) (by decide +kernel)) rfl⟩⟩
theorem fX11_93 : zF RX11 93 5 3 := ⟨RX5, TX5, 9, tyX5, rfl, by decide, inX5, tyX5_ok, nmX5, Or.inr ⟨"BowlsWithin", nests_in (List.mem_of_getElem? (i := 100) (by decide +kernel)) rfl⟩⟩
theorem fX11_96 : zF RX11 96 5 4 := ⟨RX5, TX5, 9, tyX5, rfl, by decide, inX5, tyX5_ok, nmX5, Or.inr ⟨"BowlsWithin", nests_in (List.mem_of_getElem? (i := 102) (by decide +kernel)) rfl⟩⟩
theorem fX11_99 : zF RX11 99 5 5 := ⟨RX5, TX5, 9, tyX5, rfl, by decide, inX5, tyX5_ok, nmX5, Or.inr ⟨"BowlsWithin", nests_in (List.mem_of_getElem? (i := 105) (by decide +kernel)) rfl⟩⟩
theorem fX11_106 : zF RX11 106 5 8 := ⟨RX5, TX5, 9, tyX5, rfl, by decide, inX5, tyX5_ok, nmX5, Or.inr ⟨"BowlsWithin", nests_in (List.mem_of_getElem? (i := 114) (by decide +kernel)) rfl⟩⟩
theorem gX11_106 : zFp RX11 106 5 8 .int := ⟨fX11_106, _, rfl, rfl, by decide +kernel⟩
theorem fX11_130 : zF RX11 130 10 2 := ⟨RX10, TX10, 6, tyX10, rfl, by decide, inX10, tyX10_ok, nmX10, Or.inr ⟨"BowlsWithin", nests_in (List.mem_of_getElem? (i := 187) (by decide +kernel)) rfl⟩⟩
theorem gX11_130 : zFp RX11 130 10 2 .int := ⟨fX11_130, _, rfl, rfl, by decide +kernel⟩
theorem fX11_132 : zF RX11 132 10 3 := ⟨RX10, TX10, 6, tyX10, rfl, by decide, inX10, tyX10_ok, nmX10, Or.inr ⟨"BowlsWithin", nests_in (List.mem_of_getElem? (i := 189) (by decide +kernel)) rfl⟩⟩
theorem gX11_132 : zFp RX11 132 10 3 .int := ⟨fX11_132, _, rfl, rfl, by decide +kernel⟩
theorem fX11_138 : zF RX11 138 5 7 := ⟨RX5, TX5, 9, tyX5, rfl, by decide, inX5, tyX5_ok, nmX5, Or.inr ⟨"BowlsWithin", nests_in (List.mem_of_getElem? (i := 111) (by decide +kernel)) rfl⟩⟩
theorem gX11_138 : zFp RX11 138 5 7 .int := ⟨fX11_138, _, rfl, rfl, by decide +kernel⟩
theorem fX11_198 : zF RX11 198 5 6 := ⟨RX5, TX5, 9, tyX5, rfl, by decide, inX5, tyX5_ok, nmX5, Or.inr ⟨"BowlsWithin", nests_in (List.mem_of_getElem? (i := 108) (by decide +kernel)) rfl⟩⟩
theorem fX11_211 : zF RX11 211 10 5 := ⟨RX10, TX10, 6, tyX10, rfl, by decide, inX10, tyX10_ok, nmX10, Or.inr ⟨"BowlsWithin", nests_in (List.mem_of_getElem? (i := 193) (by decide +kernel)) rfl⟩⟩
theorem gX11_211 : zFp RX11 211 10 5 .int := ⟨fX11_211, _, rfl, rfl, by decide +kernel⟩
theorem fX11_265 : zF RX11 265 10 1 := ⟨RX10, TX10, 6, tyX10, rfl, by decide, inX10, tyX10_ok, nmX10, Or.inr ⟨"BowlsWithin", nests_in (List.mem_of_getElem? (i := 185) (by decide +kernel)) rfl⟩⟩
theorem gX11_265 : zFp RX11 265 10 1 .int := ⟨fX11_265, _, rfl, rfl, by decide +kernel⟩
theorem fX11_273 : zF RX11 273 10 4 := ⟨RX10, TX10, 6, tyX10, rfl, by decide, inX10, tyX10_ok, nmX10, Or.inr ⟨"BowlsWithin", nests_in (List.mem_of_getElem? (i := 191) (by decide +kernel)) rfl⟩⟩
theorem gX11_273 : zFp RX11 273 10 4 .int := ⟨fX11_273, _, rfl, rfl, by decide +kernel⟩
theorem fX11_279 : zF RX11 279 10 0 := ⟨RX10, TX10, 6, tyX10, rfl, by decide, inX10, tyX10_ok, nmX10, Or.inr ⟨"BowlsWithin", nests_in (List.mem_of_getElem? (i := 183) (by decide +kernel)) rfl⟩⟩
theorem fX7_36 : zF RX7 36 5 7 := ⟨RX5, TX5, 9, tyX5, rfl, by decide, inX5, tyX5_ok, nmX5, Or.inr ⟨"BowlsWithin", nests_in (List.mem_of_getElem? (i := 110) (by decide +kernel)) rfl⟩⟩
theorem gX7_36 : zFp RX7 36 5 7 .int := ⟨fX7_36, _, rfl, rfl, by decide +kernel⟩
theorem fX7_60 : zF RX7 60 5 6 := ⟨RX5, TX5, 9, tyX5, rfl, by decide, inX5, tyX5_ok, nmX5, Or.inr ⟨"BowlsWithin", nests_in (List.mem_of_getElem? (i := 107) (by decide +kernel)) rfl⟩⟩
theorem fX7_63 : zF RX7 63 5 8 := ⟨RX5, TX5, 9, tyX5, rfl, by decide, inX5, tyX5_ok, nmX5, Or.inr ⟨"BowlsWithin", nests_in (List.mem_of_getElem? (i := 113) (by decide +kernel)) rfl⟩⟩
theorem gX7_63 : zFp RX7 63 5 8 .int := ⟨fX7_63, _, rfl, rfl, by decide +kernel⟩
theorem fX7_78 : zF RX7 78 5 5 := ⟨RX5, TX5, 9, tyX5, rfl, by decide, inX5, tyX5_ok, nmX5, Or.inr ⟨"BowlsWithin", nests_in (List.mem_of_getElem? (i := 104) (by decide +kernel)) rfl⟩⟩
theorem hX11_172 : Jvm.Cond.constant RX11 172 (1000000) ∈ big := big_in (List.mem_of_getElem? (i := 546) (by decide +kernel)) rfl
theorem hX11_306 : Jvm.Cond.constant RX11 306 (1103515245) ∈ big := big_in (List.mem_of_getElem? (i := 668) (by decide +kernel)) rfl
theorem hX11_307 : Jvm.Cond.constant RX11 307 (2147483647) ∈ big := big_in (List.mem_of_getElem? (i := 669) (by decide +kernel)) rfl
theorem hX11_308 : Jvm.Cond.constant RX11 308 (65536) ∈ big := big_in (List.mem_of_getElem? (i := 670) (by decide +kernel)) rfl
theorem hX7_98 : Jvm.Cond.constant RX7 98 (1000000) ∈ big := big_in (List.mem_of_getElem? (i := 551) (by decide +kernel)) rfl
theorem hX12_53 : Jvm.Cond.constantLong RX12 53 (7) ∈ big := big_in (List.mem_of_getElem? (i := 986) (by decide +kernel)) rfl
theorem hX12_105 : Jvm.Cond.constantLong RX12 105 (48) ∈ big := big_in (List.mem_of_getElem? (i := 1006) (by decide +kernel)) rfl
theorem hX12_107 : Jvm.Cond.constantLong RX12 107 (57) ∈ big := big_in (List.mem_of_getElem? (i := 1007) (by decide +kernel)) rfl
theorem hX12_151 : Jvm.Cond.constantLong RX12 151 (99) ∈ big := big_in (List.mem_of_getElem? (i := 1063) (by decide +kernel)) rfl
theorem hX12_160 : Jvm.Cond.constantLong RX12 160 (9) ∈ big := big_in (List.mem_of_getElem? (i := 1076) (by decide +kernel)) rfl
theorem hX12_183 : Jvm.Cond.constant RX12 183 (1000000) ∈ big := big_in (List.mem_of_getElem? (i := 1152) (by decide +kernel)) rfl
theorem hX12_221 : Jvm.Cond.constant RX12 221 (1103515245) ∈ big := big_in (List.mem_of_getElem? (i := 1241) (by decide +kernel)) rfl
theorem hX12_222 : Jvm.Cond.constant RX12 222 (2147483647) ∈ big := big_in (List.mem_of_getElem? (i := 1242) (by decide +kernel)) rfl
theorem hX12_223 : Jvm.Cond.constant RX12 223 (65536) ∈ big := big_in (List.mem_of_getElem? (i := 1243) (by decide +kernel)) rfl
theorem hX12_224 : Jvm.Cond.constantLong RX12 224 (40) ∈ big := big_in (List.mem_of_getElem? (i := 1236) (by decide +kernel)) rfl
theorem hX12_233 : Jvm.Cond.constantLong RX12 233 (2) ∈ big := big_in (List.mem_of_getElem? (i := 1264) (by decide +kernel)) rfl
theorem hJ6_265 : Jvm.Cond.constant RJ6 265 (1431655765) ∈ big := big_in (List.mem_of_getElem? (i := 538) (by decide +kernel)) rfl
theorem hJ6_266 : Jvm.Cond.constant RJ6 266 (858993459) ∈ big := big_in (List.mem_of_getElem? (i := 539) (by decide +kernel)) rfl
theorem hJ6_267 : Jvm.Cond.constant RJ6 267 (252645135) ∈ big := big_in (List.mem_of_getElem? (i := 540) (by decide +kernel)) rfl
end
section
/-! Decode rows. -/
theorem eX0_init_0 : zD cX0_init 0 (.aload_n 0) 1 1 := ⟨by decide +kernel, rfl⟩
theorem eX0_init_1 : zD cX0_init 1 (.invokespecial 1) 3 4 := ⟨by decide +kernel, rfl⟩
theorem eX0_init_4 : zD cX0_init 4 (.return_) 1 5 := ⟨by decide +kernel, rfl⟩
theorem eX0_outside_0 : zD cX0_outside 0 (.iload_n 1) 1 1 := ⟨by decide +kernel, rfl⟩
theorem eX0_outside_1 : zD cX0_outside 1 (.ireturn) 1 2 := ⟨by decide +kernel, rfl⟩
theorem eX0_inside_0 : zD cX0_inside 0 (.iload_n 1) 1 1 := ⟨by decide +kernel, rfl⟩
theorem eX0_inside_1 : zD cX0_inside 1 (.iconst 2) 1 2 := ⟨by decide +kernel, rfl⟩
theorem eX0_inside_2 : zD cX0_inside 2 (.isub) 1 3 := ⟨by decide +kernel, rfl⟩
theorem eX0_inside_3 : zD cX0_inside 3 (.iload 4) 2 5 := ⟨by decide +kernel, rfl⟩
theorem eX0_inside_5 : zD cX0_inside 5 (.isub) 1 6 := ⟨by decide +kernel, rfl⟩
theorem eX0_inside_6 : zD cX0_inside 6 (.ireturn) 1 7 := ⟨by decide +kernel, rfl⟩
theorem eX0_rise_0 : zD cX0_rise 0 (.iconst 1) 1 1 := ⟨by decide +kernel, rfl⟩
theorem eX0_rise_1 : zD cX0_rise 1 (.ireturn) 1 2 := ⟨by decide +kernel, rfl⟩
theorem eX0_cost_0 : zD cX0_cost 0 (.iconst 4) 1 1 := ⟨by decide +kernel, rfl⟩
theorem eX0_cost_1 : zD cX0_cost 1 (.ireturn) 1 2 := ⟨by decide +kernel, rfl⟩
theorem eX0_minds_0 : zD cX0_minds 0 (.iconst 0) 1 1 := ⟨by decide +kernel, rfl⟩
theorem eX0_minds_1 : zD cX0_minds 1 (.ireturn) 1 2 := ⟨by decide +kernel, rfl⟩
theorem eX0_fail_0 : zD cX0_fail 0 (.iload_n 1) 1 1 := ⟨by decide +kernel, rfl⟩
theorem eX0_fail_1 : zD cX0_fail 1 (.ifCond .eq 13) 3 4 := ⟨by decide +kernel, rfl⟩
theorem eX0_fail_4 : zD cX0_fail 4 (.new 9) 3 7 := ⟨by decide +kernel, rfl⟩
theorem eX0_fail_7 : zD cX0_fail 7 (.dup) 1 8 := ⟨by decide +kernel, rfl⟩
theorem eX0_fail_8 : zD cX0_fail 8 (.ldc 11) 2 10 := ⟨by decide +kernel, rfl⟩
theorem eX0_fail_10 : zD cX0_fail 10 (.invokespecial 13) 3 13 := ⟨by decide +kernel, rfl⟩
theorem eX0_fail_13 : zD cX0_fail 13 (.athrow) 1 14 := ⟨by decide +kernel, rfl⟩
theorem eX0_fail_14 : zD cX0_fail 14 (.return_) 1 15 := ⟨by decide +kernel, rfl⟩
theorem eX1_init_0 : zD cX1_init 0 (.aload_n 0) 1 1 := ⟨by decide +kernel, rfl⟩
theorem eX1_init_1 : zD cX1_init 1 (.invokespecial 1) 3 4 := ⟨by decide +kernel, rfl⟩
theorem eX1_init_4 : zD cX1_init 4 (.return_) 1 5 := ⟨by decide +kernel, rfl⟩
theorem eX1_rise_0 : zD cX1_rise 0 (.iconst 2) 1 1 := ⟨by decide +kernel, rfl⟩
theorem eX1_rise_1 : zD cX1_rise 1 (.aload_n 0) 1 2 := ⟨by decide +kernel, rfl⟩
theorem eX1_rise_2 : zD cX1_rise 2 (.iload_n 1) 1 3 := ⟨by decide +kernel, rfl⟩
theorem eX1_rise_3 : zD cX1_rise 3 (.invokespecial 7) 3 6 := ⟨by decide +kernel, rfl⟩
theorem eX1_rise_6 : zD cX1_rise 6 (.imul) 1 7 := ⟨by decide +kernel, rfl⟩
theorem eX1_rise_7 : zD cX1_rise 7 (.ireturn) 1 8 := ⟨by decide +kernel, rfl⟩
theorem eX1_cost_0 : zD cX1_cost 0 (.aload_n 0) 1 1 := ⟨by decide +kernel, rfl⟩
theorem eX1_cost_1 : zD cX1_cost 1 (.iload_n 1) 1 2 := ⟨by decide +kernel, rfl⟩
theorem eX1_cost_2 : zD cX1_cost 2 (.invokespecial 11) 3 5 := ⟨by decide +kernel, rfl⟩
theorem eX1_cost_5 : zD cX1_cost 5 (.iconst 5) 1 6 := ⟨by decide +kernel, rfl⟩
theorem eX1_cost_6 : zD cX1_cost 6 (.iadd) 1 7 := ⟨by decide +kernel, rfl⟩
theorem eX1_cost_7 : zD cX1_cost 7 (.ireturn) 1 8 := ⟨by decide +kernel, rfl⟩
theorem eX2_init_0 : zD cX2_init 0 (.aload_n 0) 1 1 := ⟨by decide +kernel, rfl⟩
theorem eX2_init_1 : zD cX2_init 1 (.invokespecial 1) 3 4 := ⟨by decide +kernel, rfl⟩
theorem eX2_init_4 : zD cX2_init 4 (.return_) 1 5 := ⟨by decide +kernel, rfl⟩
theorem eX2_rise_0 : zD cX2_rise 0 (.aload_n 0) 1 1 := ⟨by decide +kernel, rfl⟩
theorem eX2_rise_1 : zD cX2_rise 1 (.iload_n 1) 1 2 := ⟨by decide +kernel, rfl⟩
theorem eX2_rise_2 : zD cX2_rise 2 (.invokespecial 7) 3 5 := ⟨by decide +kernel, rfl⟩
theorem eX2_rise_5 : zD cX2_rise 5 (.iconst 2) 1 6 := ⟨by decide +kernel, rfl⟩
theorem eX2_rise_6 : zD cX2_rise 6 (.idiv) 1 7 := ⟨by decide +kernel, rfl⟩
theorem eX2_rise_7 : zD cX2_rise 7 (.ireturn) 1 8 := ⟨by decide +kernel, rfl⟩
theorem eX2_cost_0 : zD cX2_cost 0 (.aload_n 0) 1 1 := ⟨by decide +kernel, rfl⟩
theorem eX2_cost_1 : zD cX2_cost 1 (.iload_n 1) 1 2 := ⟨by decide +kernel, rfl⟩
theorem eX2_cost_2 : zD cX2_cost 2 (.invokespecial 11) 3 5 := ⟨by decide +kernel, rfl⟩
theorem eX2_cost_5 : zD cX2_cost 5 (.iload_n 1) 1 6 := ⟨by decide +kernel, rfl⟩
theorem eX2_cost_6 : zD cX2_cost 6 (.iconst 1) 1 7 := ⟨by decide +kernel, rfl⟩
theorem eX2_cost_7 : zD cX2_cost 7 (.iadd) 1 8 := ⟨by decide +kernel, rfl⟩
theorem eX2_cost_8 : zD cX2_cost 8 (.imul) 1 9 := ⟨by decide +kernel, rfl⟩
theorem eX2_cost_9 : zD cX2_cost 9 (.ireturn) 1 10 := ⟨by decide +kernel, rfl⟩
theorem eX2_fail_0 : zD cX2_fail 0 (.iload_n 1) 1 1 := ⟨by decide +kernel, rfl⟩
theorem eX2_fail_1 : zD cX2_fail 1 (.ifCond .eq 13) 3 4 := ⟨by decide +kernel, rfl⟩
theorem eX2_fail_4 : zD cX2_fail 4 (.new 14) 3 7 := ⟨by decide +kernel, rfl⟩
theorem eX2_fail_7 : zD cX2_fail 7 (.dup) 1 8 := ⟨by decide +kernel, rfl⟩
theorem eX2_fail_8 : zD cX2_fail 8 (.ldc 16) 2 10 := ⟨by decide +kernel, rfl⟩
theorem eX2_fail_10 : zD cX2_fail 10 (.invokespecial 18) 3 13 := ⟨by decide +kernel, rfl⟩
theorem eX2_fail_13 : zD cX2_fail 13 (.athrow) 1 14 := ⟨by decide +kernel, rfl⟩
theorem eX2_fail_14 : zD cX2_fail 14 (.return_) 1 15 := ⟨by decide +kernel, rfl⟩
theorem eX3_init_0 : zD cX3_init 0 (.aload_n 0) 1 1 := ⟨by decide +kernel, rfl⟩
theorem eX3_init_1 : zD cX3_init 1 (.invokespecial 1) 3 4 := ⟨by decide +kernel, rfl⟩
theorem eX3_init_4 : zD cX3_init 4 (.return_) 1 5 := ⟨by decide +kernel, rfl⟩
theorem eX3_inside_0 : zD cX3_inside 0 (.aload_n 0) 1 1 := ⟨by decide +kernel, rfl⟩
theorem eX3_inside_1 : zD cX3_inside 1 (.iload_n 1) 1 2 := ⟨by decide +kernel, rfl⟩
theorem eX3_inside_2 : zD cX3_inside 2 (.iload_n 2) 1 3 := ⟨by decide +kernel, rfl⟩
theorem eX3_inside_3 : zD cX3_inside 3 (.iload_n 3) 1 4 := ⟨by decide +kernel, rfl⟩
theorem eX3_inside_4 : zD cX3_inside 4 (.iload 4) 2 6 := ⟨by decide +kernel, rfl⟩
theorem eX3_inside_6 : zD cX3_inside 6 (.invokespecial 7) 3 9 := ⟨by decide +kernel, rfl⟩
theorem eX3_inside_9 : zD cX3_inside 9 (.iconst 1) 1 10 := ⟨by decide +kernel, rfl⟩
theorem eX3_inside_10 : zD cX3_inside 10 (.isub) 1 11 := ⟨by decide +kernel, rfl⟩
theorem eX3_inside_11 : zD cX3_inside 11 (.ireturn) 1 12 := ⟨by decide +kernel, rfl⟩
theorem eX3_rise_0 : zD cX3_rise 0 (.aload_n 0) 1 1 := ⟨by decide +kernel, rfl⟩
theorem eX3_rise_1 : zD cX3_rise 1 (.iload_n 1) 1 2 := ⟨by decide +kernel, rfl⟩
theorem eX3_rise_2 : zD cX3_rise 2 (.invokespecial 11) 3 5 := ⟨by decide +kernel, rfl⟩
theorem eX3_rise_5 : zD cX3_rise 5 (.iload_n 1) 1 6 := ⟨by decide +kernel, rfl⟩
theorem eX3_rise_6 : zD cX3_rise 6 (.iadd) 1 7 := ⟨by decide +kernel, rfl⟩
theorem eX3_rise_7 : zD cX3_rise 7 (.ireturn) 1 8 := ⟨by decide +kernel, rfl⟩
theorem eX3_cost_0 : zD cX3_cost 0 (.iconst 2) 1 1 := ⟨by decide +kernel, rfl⟩
theorem eX3_cost_1 : zD cX3_cost 1 (.aload_n 0) 1 2 := ⟨by decide +kernel, rfl⟩
theorem eX3_cost_2 : zD cX3_cost 2 (.iload_n 1) 1 3 := ⟨by decide +kernel, rfl⟩
theorem eX3_cost_3 : zD cX3_cost 3 (.invokespecial 15) 3 6 := ⟨by decide +kernel, rfl⟩
theorem eX3_cost_6 : zD cX3_cost 6 (.imul) 1 7 := ⟨by decide +kernel, rfl⟩
theorem eX3_cost_7 : zD cX3_cost 7 (.ireturn) 1 8 := ⟨by decide +kernel, rfl⟩
theorem eX4_init_0 : zD cX4_init 0 (.aload_n 0) 1 1 := ⟨by decide +kernel, rfl⟩
theorem eX4_init_1 : zD cX4_init 1 (.invokespecial 1) 3 4 := ⟨by decide +kernel, rfl⟩
theorem eX4_init_4 : zD cX4_init 4 (.return_) 1 5 := ⟨by decide +kernel, rfl⟩
theorem eX4_outside_0 : zD cX4_outside 0 (.aload_n 0) 1 1 := ⟨by decide +kernel, rfl⟩
theorem eX4_outside_1 : zD cX4_outside 1 (.iload_n 1) 1 2 := ⟨by decide +kernel, rfl⟩
theorem eX4_outside_2 : zD cX4_outside 2 (.iload_n 2) 1 3 := ⟨by decide +kernel, rfl⟩
theorem eX4_outside_3 : zD cX4_outside 3 (.iload_n 3) 1 4 := ⟨by decide +kernel, rfl⟩
theorem eX4_outside_4 : zD cX4_outside 4 (.invokespecial 7) 3 7 := ⟨by decide +kernel, rfl⟩
theorem eX4_outside_7 : zD cX4_outside 7 (.iconst 2) 1 8 := ⟨by decide +kernel, rfl⟩
theorem eX4_outside_8 : zD cX4_outside 8 (.iadd) 1 9 := ⟨by decide +kernel, rfl⟩
theorem eX4_outside_9 : zD cX4_outside 9 (.ireturn) 1 10 := ⟨by decide +kernel, rfl⟩
theorem eX4_inside_0 : zD cX4_inside 0 (.aload_n 0) 1 1 := ⟨by decide +kernel, rfl⟩
theorem eX4_inside_1 : zD cX4_inside 1 (.iload_n 1) 1 2 := ⟨by decide +kernel, rfl⟩
theorem eX4_inside_2 : zD cX4_inside 2 (.iload_n 2) 1 3 := ⟨by decide +kernel, rfl⟩
theorem eX4_inside_3 : zD cX4_inside 3 (.iload_n 3) 1 4 := ⟨by decide +kernel, rfl⟩
theorem eX4_inside_4 : zD cX4_inside 4 (.iload 4) 2 6 := ⟨by decide +kernel, rfl⟩
theorem eX4_inside_6 : zD cX4_inside 6 (.invokespecial 11) 3 9 := ⟨by decide +kernel, rfl⟩
theorem eX4_inside_9 : zD cX4_inside 9 (.iload_n 2) 1 10 := ⟨by decide +kernel, rfl⟩
theorem eX4_inside_10 : zD cX4_inside 10 (.isub) 1 11 := ⟨by decide +kernel, rfl⟩
theorem eX4_inside_11 : zD cX4_inside 11 (.ireturn) 1 12 := ⟨by decide +kernel, rfl⟩
theorem eX4_cost_0 : zD cX4_cost 0 (.aload_n 0) 1 1 := ⟨by decide +kernel, rfl⟩
theorem eX4_cost_1 : zD cX4_cost 1 (.iload_n 1) 1 2 := ⟨by decide +kernel, rfl⟩
theorem eX4_cost_2 : zD cX4_cost 2 (.invokespecial 15) 3 5 := ⟨by decide +kernel, rfl⟩
theorem eX4_cost_5 : zD cX4_cost 5 (.iload_n 1) 1 6 := ⟨by decide +kernel, rfl⟩
theorem eX4_cost_6 : zD cX4_cost 6 (.isub) 1 7 := ⟨by decide +kernel, rfl⟩
theorem eX4_cost_7 : zD cX4_cost 7 (.ireturn) 1 8 := ⟨by decide +kernel, rfl⟩
theorem eX4_fail_0 : zD cX4_fail 0 (.iload_n 1) 1 1 := ⟨by decide +kernel, rfl⟩
theorem eX4_fail_1 : zD cX4_fail 1 (.ifCond .eq 13) 3 4 := ⟨by decide +kernel, rfl⟩
theorem eX4_fail_4 : zD cX4_fail 4 (.new 19) 3 7 := ⟨by decide +kernel, rfl⟩
theorem eX4_fail_7 : zD cX4_fail 7 (.dup) 1 8 := ⟨by decide +kernel, rfl⟩
theorem eX4_fail_8 : zD cX4_fail 8 (.ldc 21) 2 10 := ⟨by decide +kernel, rfl⟩
theorem eX4_fail_10 : zD cX4_fail 10 (.invokespecial 23) 3 13 := ⟨by decide +kernel, rfl⟩
theorem eX4_fail_13 : zD cX4_fail 13 (.athrow) 1 14 := ⟨by decide +kernel, rfl⟩
theorem eX4_fail_14 : zD cX4_fail 14 (.return_) 1 15 := ⟨by decide +kernel, rfl⟩
theorem eX5_init_0 : zD cX5_init 0 (.aload_n 0) 1 1 := ⟨by decide +kernel, rfl⟩
theorem eX5_init_1 : zD cX5_init 1 (.invokespecial 3) 3 4 := ⟨by decide +kernel, rfl⟩
theorem eX5_init_4 : zD cX5_init 4 (.aload_n 0) 1 5 := ⟨by decide +kernel, rfl⟩
theorem eX5_init_5 : zD cX5_init 5 (.bipush 10) 2 7 := ⟨by decide +kernel, rfl⟩
theorem eX5_init_7 : zD cX5_init 7 (.newarray .int) 2 9 := ⟨by decide +kernel, rfl⟩
theorem eX5_init_9 : zD cX5_init 9 (.putfield 11) 3 12 := ⟨by decide +kernel, rfl⟩
theorem eX5_init_12 : zD cX5_init 12 (.aload_n 0) 1 13 := ⟨by decide +kernel, rfl⟩
theorem eX5_init_13 : zD cX5_init 13 (.bipush 10) 2 15 := ⟨by decide +kernel, rfl⟩
theorem eX5_init_15 : zD cX5_init 15 (.newarray .int) 2 17 := ⟨by decide +kernel, rfl⟩
theorem eX5_init_17 : zD cX5_init 17 (.putfield 15) 3 20 := ⟨by decide +kernel, rfl⟩
theorem eX5_init_20 : zD cX5_init 20 (.aload_n 0) 1 21 := ⟨by decide +kernel, rfl⟩
theorem eX5_init_21 : zD cX5_init 21 (.bipush 10) 2 23 := ⟨by decide +kernel, rfl⟩
theorem eX5_init_23 : zD cX5_init 23 (.newarray .int) 2 25 := ⟨by decide +kernel, rfl⟩
theorem eX5_init_25 : zD cX5_init 25 (.putfield 18) 3 28 := ⟨by decide +kernel, rfl⟩
theorem eX5_init_28 : zD cX5_init 28 (.aload_n 0) 1 29 := ⟨by decide +kernel, rfl⟩
theorem eX5_init_29 : zD cX5_init 29 (.bipush 10) 2 31 := ⟨by decide +kernel, rfl⟩
theorem eX5_init_31 : zD cX5_init 31 (.newarray .int) 2 33 := ⟨by decide +kernel, rfl⟩
theorem eX5_init_33 : zD cX5_init 33 (.putfield 21) 3 36 := ⟨by decide +kernel, rfl⟩
theorem eX5_init_36 : zD cX5_init 36 (.aload_n 0) 1 37 := ⟨by decide +kernel, rfl⟩
theorem eX5_init_37 : zD cX5_init 37 (.bipush 10) 2 39 := ⟨by decide +kernel, rfl⟩
theorem eX5_init_39 : zD cX5_init 39 (.newarray .int) 2 41 := ⟨by decide +kernel, rfl⟩
theorem eX5_init_41 : zD cX5_init 41 (.putfield 24) 3 44 := ⟨by decide +kernel, rfl⟩
theorem eX5_init_44 : zD cX5_init 44 (.aload_n 0) 1 45 := ⟨by decide +kernel, rfl⟩
theorem eX5_init_45 : zD cX5_init 45 (.bipush 10) 2 47 := ⟨by decide +kernel, rfl⟩
theorem eX5_init_47 : zD cX5_init 47 (.newarray .int) 2 49 := ⟨by decide +kernel, rfl⟩
theorem eX5_init_49 : zD cX5_init 49 (.putfield 27) 3 52 := ⟨by decide +kernel, rfl⟩
theorem eX5_init_52 : zD cX5_init 52 (.aload_n 0) 1 53 := ⟨by decide +kernel, rfl⟩
theorem eX5_init_53 : zD cX5_init 53 (.aload_n 1) 1 54 := ⟨by decide +kernel, rfl⟩
theorem eX5_init_54 : zD cX5_init 54 (.putfield 30) 3 57 := ⟨by decide +kernel, rfl⟩
theorem eX5_init_57 : zD cX5_init 57 (.return_) 1 58 := ⟨by decide +kernel, rfl⟩
theorem eX5_become_0 : zD cX5_become 0 (.aload_n 0) 1 1 := ⟨by decide +kernel, rfl⟩
theorem eX5_become_1 : zD cX5_become 1 (.aload_n 1) 1 2 := ⟨by decide +kernel, rfl⟩
theorem eX5_become_2 : zD cX5_become 2 (.getfield 34) 3 5 := ⟨by decide +kernel, rfl⟩
theorem eX5_become_5 : zD cX5_become 5 (.putfield 34) 3 8 := ⟨by decide +kernel, rfl⟩
theorem eX5_become_8 : zD cX5_become 8 (.aload_n 0) 1 9 := ⟨by decide +kernel, rfl⟩
theorem eX5_become_9 : zD cX5_become 9 (.aload_n 1) 1 10 := ⟨by decide +kernel, rfl⟩
theorem eX5_become_10 : zD cX5_become 10 (.getfield 38) 3 13 := ⟨by decide +kernel, rfl⟩
theorem eX5_become_13 : zD cX5_become 13 (.putfield 38) 3 16 := ⟨by decide +kernel, rfl⟩
theorem eX5_become_16 : zD cX5_become 16 (.aload_n 1) 1 17 := ⟨by decide +kernel, rfl⟩
theorem eX5_become_17 : zD cX5_become 17 (.getfield 11) 3 20 := ⟨by decide +kernel, rfl⟩
theorem eX5_become_20 : zD cX5_become 20 (.iconst 0) 1 21 := ⟨by decide +kernel, rfl⟩
theorem eX5_become_21 : zD cX5_become 21 (.aload_n 0) 1 22 := ⟨by decide +kernel, rfl⟩
theorem eX5_become_22 : zD cX5_become 22 (.getfield 11) 3 25 := ⟨by decide +kernel, rfl⟩
theorem eX5_become_25 : zD cX5_become 25 (.iconst 0) 1 26 := ⟨by decide +kernel, rfl⟩
theorem eX5_become_26 : zD cX5_become 26 (.bipush 10) 2 28 := ⟨by decide +kernel, rfl⟩
theorem eX5_become_28 : zD cX5_become 28 (.invokestatic 41) 3 31 := ⟨by decide +kernel, rfl⟩
theorem eX5_become_31 : zD cX5_become 31 (.aload_n 1) 1 32 := ⟨by decide +kernel, rfl⟩
theorem eX5_become_32 : zD cX5_become 32 (.getfield 15) 3 35 := ⟨by decide +kernel, rfl⟩
theorem eX5_become_35 : zD cX5_become 35 (.iconst 0) 1 36 := ⟨by decide +kernel, rfl⟩
theorem eX5_become_36 : zD cX5_become 36 (.aload_n 0) 1 37 := ⟨by decide +kernel, rfl⟩
theorem eX5_become_37 : zD cX5_become 37 (.getfield 15) 3 40 := ⟨by decide +kernel, rfl⟩
theorem eX5_become_40 : zD cX5_become 40 (.iconst 0) 1 41 := ⟨by decide +kernel, rfl⟩
theorem eX5_become_41 : zD cX5_become 41 (.bipush 10) 2 43 := ⟨by decide +kernel, rfl⟩
theorem eX5_become_43 : zD cX5_become 43 (.invokestatic 41) 3 46 := ⟨by decide +kernel, rfl⟩
theorem eX5_become_46 : zD cX5_become 46 (.aload_n 1) 1 47 := ⟨by decide +kernel, rfl⟩
theorem eX5_become_47 : zD cX5_become 47 (.getfield 18) 3 50 := ⟨by decide +kernel, rfl⟩
theorem eX5_become_50 : zD cX5_become 50 (.iconst 0) 1 51 := ⟨by decide +kernel, rfl⟩
theorem eX5_become_51 : zD cX5_become 51 (.aload_n 0) 1 52 := ⟨by decide +kernel, rfl⟩
theorem eX5_become_52 : zD cX5_become 52 (.getfield 18) 3 55 := ⟨by decide +kernel, rfl⟩
theorem eX5_become_55 : zD cX5_become 55 (.iconst 0) 1 56 := ⟨by decide +kernel, rfl⟩
theorem eX5_become_56 : zD cX5_become 56 (.bipush 10) 2 58 := ⟨by decide +kernel, rfl⟩
theorem eX5_become_58 : zD cX5_become 58 (.invokestatic 41) 3 61 := ⟨by decide +kernel, rfl⟩
theorem eX5_become_61 : zD cX5_become 61 (.aload_n 1) 1 62 := ⟨by decide +kernel, rfl⟩
theorem eX5_become_62 : zD cX5_become 62 (.getfield 21) 3 65 := ⟨by decide +kernel, rfl⟩
theorem eX5_become_65 : zD cX5_become 65 (.iconst 0) 1 66 := ⟨by decide +kernel, rfl⟩
theorem eX5_become_66 : zD cX5_become 66 (.aload_n 0) 1 67 := ⟨by decide +kernel, rfl⟩
theorem eX5_become_67 : zD cX5_become 67 (.getfield 21) 3 70 := ⟨by decide +kernel, rfl⟩
theorem eX5_become_70 : zD cX5_become 70 (.iconst 0) 1 71 := ⟨by decide +kernel, rfl⟩
theorem eX5_become_71 : zD cX5_become 71 (.bipush 10) 2 73 := ⟨by decide +kernel, rfl⟩
theorem eX5_become_73 : zD cX5_become 73 (.invokestatic 41) 3 76 := ⟨by decide +kernel, rfl⟩
theorem eX5_become_76 : zD cX5_become 76 (.aload_n 1) 1 77 := ⟨by decide +kernel, rfl⟩
theorem eX5_become_77 : zD cX5_become 77 (.getfield 24) 3 80 := ⟨by decide +kernel, rfl⟩
theorem eX5_become_80 : zD cX5_become 80 (.iconst 0) 1 81 := ⟨by decide +kernel, rfl⟩
theorem eX5_become_81 : zD cX5_become 81 (.aload_n 0) 1 82 := ⟨by decide +kernel, rfl⟩
theorem eX5_become_82 : zD cX5_become 82 (.getfield 24) 3 85 := ⟨by decide +kernel, rfl⟩
theorem eX5_become_85 : zD cX5_become 85 (.iconst 0) 1 86 := ⟨by decide +kernel, rfl⟩
theorem eX5_become_86 : zD cX5_become 86 (.bipush 10) 2 88 := ⟨by decide +kernel, rfl⟩
theorem eX5_become_88 : zD cX5_become 88 (.invokestatic 41) 3 91 := ⟨by decide +kernel, rfl⟩
theorem eX5_become_91 : zD cX5_become 91 (.return_) 1 92 := ⟨by decide +kernel, rfl⟩
theorem eX5_has_0 : zD cX5_has 0 (.iload_n 1) 1 1 := ⟨by decide +kernel, rfl⟩
theorem eX5_has_1 : zD cX5_has 1 (.ifCond .lt 15) 3 4 := ⟨by decide +kernel, rfl⟩
theorem eX5_has_4 : zD cX5_has 4 (.iload_n 1) 1 5 := ⟨by decide +kernel, rfl⟩
theorem eX5_has_5 : zD cX5_has 5 (.aload_n 0) 1 6 := ⟨by decide +kernel, rfl⟩
theorem eX5_has_6 : zD cX5_has 6 (.getfield 34) 3 9 := ⟨by decide +kernel, rfl⟩
theorem eX5_has_9 : zD cX5_has 9 (.if_icmp .ge 7) 3 12 := ⟨by decide +kernel, rfl⟩
theorem eX5_has_12 : zD cX5_has 12 (.iconst 1) 1 13 := ⟨by decide +kernel, rfl⟩
theorem eX5_has_13 : zD cX5_has 13 (.goto 4) 3 16 := ⟨by decide +kernel, rfl⟩
theorem eX5_has_16 : zD cX5_has 16 (.iconst 0) 1 17 := ⟨by decide +kernel, rfl⟩
theorem eX5_has_17 : zD cX5_has 17 (.ireturn) 1 18 := ⟨by decide +kernel, rfl⟩
theorem eX5_all_0 : zD cX5_all 0 (.iconst 1) 1 1 := ⟨by decide +kernel, rfl⟩
theorem eX5_all_1 : zD cX5_all 1 (.aload_n 0) 1 2 := ⟨by decide +kernel, rfl⟩
theorem eX5_all_2 : zD cX5_all 2 (.getfield 34) 3 5 := ⟨by decide +kernel, rfl⟩
theorem eX5_all_5 : zD cX5_all 5 (.ishl) 1 6 := ⟨by decide +kernel, rfl⟩
theorem eX5_all_6 : zD cX5_all 6 (.iconst 1) 1 7 := ⟨by decide +kernel, rfl⟩
theorem eX5_all_7 : zD cX5_all 7 (.isub) 1 8 := ⟨by decide +kernel, rfl⟩
theorem eX5_all_8 : zD cX5_all 8 (.ireturn) 1 9 := ⟨by decide +kernel, rfl⟩
theorem eX5_add_0 : zD cX5_add 0 (.aload_n 0) 1 1 := ⟨by decide +kernel, rfl⟩
theorem eX5_add_1 : zD cX5_add 1 (.getfield 34) 3 4 := ⟨by decide +kernel, rfl⟩
theorem eX5_add_4 : zD cX5_add 4 (.bipush 9) 2 6 := ⟨by decide +kernel, rfl⟩
theorem eX5_add_6 : zD cX5_add 6 (.if_icmp .lt 5) 3 9 := ⟨by decide +kernel, rfl⟩
theorem eX5_add_9 : zD cX5_add 9 (.iconst 0) 1 10 := ⟨by decide +kernel, rfl⟩
theorem eX5_add_10 : zD cX5_add 10 (.ireturn) 1 11 := ⟨by decide +kernel, rfl⟩
theorem eX5_add_11 : zD cX5_add 11 (.aload_n 0) 1 12 := ⟨by decide +kernel, rfl⟩
theorem eX5_add_12 : zD cX5_add 12 (.iload_n 1) 1 13 := ⟨by decide +kernel, rfl⟩
theorem eX5_add_13 : zD cX5_add 13 (.iload_n 2) 1 14 := ⟨by decide +kernel, rfl⟩
theorem eX5_add_14 : zD cX5_add 14 (.iload_n 3) 1 15 := ⟨by decide +kernel, rfl⟩
theorem eX5_add_15 : zD cX5_add 15 (.iload 4) 2 17 := ⟨by decide +kernel, rfl⟩
theorem eX5_add_17 : zD cX5_add 17 (.iload 5) 2 19 := ⟨by decide +kernel, rfl⟩
theorem eX5_add_19 : zD cX5_add 19 (.invokevirtual 47) 3 22 := ⟨by decide +kernel, rfl⟩
theorem eX5_add_22 : zD cX5_add 22 (.iconst 1) 1 23 := ⟨by decide +kernel, rfl⟩
theorem eX5_add_23 : zD cX5_add 23 (.ireturn) 1 24 := ⟨by decide +kernel, rfl⟩
theorem eX5_think_0 : zD cX5_think 0 (.aload_n 0) 1 1 := ⟨by decide +kernel, rfl⟩
theorem eX5_think_1 : zD cX5_think 1 (.getfield 34) 3 4 := ⟨by decide +kernel, rfl⟩
theorem eX5_think_4 : zD cX5_think 4 (.bipush 10) 2 6 := ⟨by decide +kernel, rfl⟩
theorem eX5_think_6 : zD cX5_think 6 (.if_icmp .ge 12) 3 9 := ⟨by decide +kernel, rfl⟩
theorem eX5_think_9 : zD cX5_think 9 (.aload_n 0) 1 10 := ⟨by decide +kernel, rfl⟩
theorem eX5_think_10 : zD cX5_think 10 (.iconst 0) 1 11 := ⟨by decide +kernel, rfl⟩
theorem eX5_think_11 : zD cX5_think 11 (.iconst 0) 1 12 := ⟨by decide +kernel, rfl⟩
theorem eX5_think_12 : zD cX5_think 12 (.iconst 0) 1 13 := ⟨by decide +kernel, rfl⟩
theorem eX5_think_13 : zD cX5_think 13 (.iload_n 1) 1 14 := ⟨by decide +kernel, rfl⟩
theorem eX5_think_14 : zD cX5_think 14 (.iload_n 2) 1 15 := ⟨by decide +kernel, rfl⟩
theorem eX5_think_15 : zD cX5_think 15 (.invokevirtual 47) 3 18 := ⟨by decide +kernel, rfl⟩
theorem eX5_think_18 : zD cX5_think 18 (.aload_n 0) 1 19 := ⟨by decide +kernel, rfl⟩
theorem eX5_think_19 : zD cX5_think 19 (.getfield 34) 3 22 := ⟨by decide +kernel, rfl⟩
theorem eX5_think_22 : zD cX5_think 22 (.iconst 1) 1 23 := ⟨by decide +kernel, rfl⟩
theorem eX5_think_23 : zD cX5_think 23 (.isub) 1 24 := ⟨by decide +kernel, rfl⟩
theorem eX5_think_24 : zD cX5_think 24 (.ireturn) 1 25 := ⟨by decide +kernel, rfl⟩
theorem eX5_place_0 : zD cX5_place 0 (.aload_n 0) 1 1 := ⟨by decide +kernel, rfl⟩
theorem eX5_place_1 : zD cX5_place 1 (.getfield 11) 3 4 := ⟨by decide +kernel, rfl⟩
theorem eX5_place_4 : zD cX5_place 4 (.aload_n 0) 1 5 := ⟨by decide +kernel, rfl⟩
theorem eX5_place_5 : zD cX5_place 5 (.getfield 34) 3 8 := ⟨by decide +kernel, rfl⟩
theorem eX5_place_8 : zD cX5_place 8 (.iload_n 1) 1 9 := ⟨by decide +kernel, rfl⟩
theorem eX5_place_9 : zD cX5_place 9 (.iastore) 1 10 := ⟨by decide +kernel, rfl⟩
theorem eX5_place_10 : zD cX5_place 10 (.aload_n 0) 1 11 := ⟨by decide +kernel, rfl⟩
theorem eX5_place_11 : zD cX5_place 11 (.getfield 15) 3 14 := ⟨by decide +kernel, rfl⟩
theorem eX5_place_14 : zD cX5_place 14 (.aload_n 0) 1 15 := ⟨by decide +kernel, rfl⟩
theorem eX5_place_15 : zD cX5_place 15 (.getfield 34) 3 18 := ⟨by decide +kernel, rfl⟩
theorem eX5_place_18 : zD cX5_place 18 (.iload_n 2) 1 19 := ⟨by decide +kernel, rfl⟩
theorem eX5_place_19 : zD cX5_place 19 (.iastore) 1 20 := ⟨by decide +kernel, rfl⟩
theorem eX5_place_20 : zD cX5_place 20 (.aload_n 0) 1 21 := ⟨by decide +kernel, rfl⟩
theorem eX5_place_21 : zD cX5_place 21 (.getfield 18) 3 24 := ⟨by decide +kernel, rfl⟩
theorem eX5_place_24 : zD cX5_place 24 (.aload_n 0) 1 25 := ⟨by decide +kernel, rfl⟩
theorem eX5_place_25 : zD cX5_place 25 (.getfield 34) 3 28 := ⟨by decide +kernel, rfl⟩
theorem eX5_place_28 : zD cX5_place 28 (.iload_n 3) 1 29 := ⟨by decide +kernel, rfl⟩
theorem eX5_place_29 : zD cX5_place 29 (.iastore) 1 30 := ⟨by decide +kernel, rfl⟩
theorem eX5_place_30 : zD cX5_place 30 (.aload_n 0) 1 31 := ⟨by decide +kernel, rfl⟩
theorem eX5_place_31 : zD cX5_place 31 (.getfield 21) 3 34 := ⟨by decide +kernel, rfl⟩
theorem eX5_place_34 : zD cX5_place 34 (.aload_n 0) 1 35 := ⟨by decide +kernel, rfl⟩
theorem eX5_place_35 : zD cX5_place 35 (.getfield 34) 3 38 := ⟨by decide +kernel, rfl⟩
theorem eX5_place_38 : zD cX5_place 38 (.iload 4) 2 40 := ⟨by decide +kernel, rfl⟩
theorem eX5_place_40 : zD cX5_place 40 (.iastore) 1 41 := ⟨by decide +kernel, rfl⟩
theorem eX5_place_41 : zD cX5_place 41 (.aload_n 0) 1 42 := ⟨by decide +kernel, rfl⟩
theorem eX5_place_42 : zD cX5_place 42 (.getfield 24) 3 45 := ⟨by decide +kernel, rfl⟩
theorem eX5_place_45 : zD cX5_place 45 (.aload_n 0) 1 46 := ⟨by decide +kernel, rfl⟩
theorem eX5_place_46 : zD cX5_place 46 (.getfield 34) 3 49 := ⟨by decide +kernel, rfl⟩
theorem eX5_place_49 : zD cX5_place 49 (.iload 5) 2 51 := ⟨by decide +kernel, rfl⟩
theorem eX5_place_51 : zD cX5_place 51 (.iastore) 1 52 := ⟨by decide +kernel, rfl⟩
theorem eX5_place_52 : zD cX5_place 52 (.aload_n 0) 1 53 := ⟨by decide +kernel, rfl⟩
theorem eX5_place_53 : zD cX5_place 53 (.dup) 1 54 := ⟨by decide +kernel, rfl⟩
theorem eX5_place_54 : zD cX5_place 54 (.getfield 34) 3 57 := ⟨by decide +kernel, rfl⟩
theorem eX5_place_57 : zD cX5_place 57 (.iconst 1) 1 58 := ⟨by decide +kernel, rfl⟩
theorem eX5_place_58 : zD cX5_place 58 (.iadd) 1 59 := ⟨by decide +kernel, rfl⟩
theorem eX5_place_59 : zD cX5_place 59 (.putfield 34) 3 62 := ⟨by decide +kernel, rfl⟩
theorem eX5_place_62 : zD cX5_place 62 (.return_) 1 63 := ⟨by decide +kernel, rfl⟩
theorem eX5_dropLatest_0 : zD cX5_dropLatest 0 (.aload_n 0) 1 1 := ⟨by decide +kernel, rfl⟩
theorem eX5_dropLatest_1 : zD cX5_dropLatest 1 (.getfield 34) 3 4 := ⟨by decide +kernel, rfl⟩
theorem eX5_dropLatest_4 : zD cX5_dropLatest 4 (.ifCond .ne 5) 3 7 := ⟨by decide +kernel, rfl⟩
theorem eX5_dropLatest_7 : zD cX5_dropLatest 7 (.iconst 0) 1 8 := ⟨by decide +kernel, rfl⟩
theorem eX5_dropLatest_8 : zD cX5_dropLatest 8 (.ireturn) 1 9 := ⟨by decide +kernel, rfl⟩
theorem eX5_dropLatest_9 : zD cX5_dropLatest 9 (.aload_n 0) 1 10 := ⟨by decide +kernel, rfl⟩
theorem eX5_dropLatest_10 : zD cX5_dropLatest 10 (.dup) 1 11 := ⟨by decide +kernel, rfl⟩
theorem eX5_dropLatest_11 : zD cX5_dropLatest 11 (.getfield 34) 3 14 := ⟨by decide +kernel, rfl⟩
theorem eX5_dropLatest_14 : zD cX5_dropLatest 14 (.iconst 1) 1 15 := ⟨by decide +kernel, rfl⟩
theorem eX5_dropLatest_15 : zD cX5_dropLatest 15 (.isub) 1 16 := ⟨by decide +kernel, rfl⟩
theorem eX5_dropLatest_16 : zD cX5_dropLatest 16 (.putfield 34) 3 19 := ⟨by decide +kernel, rfl⟩
theorem eX5_dropLatest_19 : zD cX5_dropLatest 19 (.iconst 1) 1 20 := ⟨by decide +kernel, rfl⟩
theorem eX5_dropLatest_20 : zD cX5_dropLatest 20 (.ireturn) 1 21 := ⟨by decide +kernel, rfl⟩
theorem eX5_flip_0 : zD cX5_flip 0 (.aload_n 0) 1 1 := ⟨by decide +kernel, rfl⟩
theorem eX5_flip_1 : zD cX5_flip 1 (.iload_n 1) 1 2 := ⟨by decide +kernel, rfl⟩
theorem eX5_flip_2 : zD cX5_flip 2 (.invokevirtual 51) 3 5 := ⟨by decide +kernel, rfl⟩
theorem eX5_flip_5 : zD cX5_flip 5 (.ifCond .ne 5) 3 8 := ⟨by decide +kernel, rfl⟩
theorem eX5_flip_8 : zD cX5_flip 8 (.iconst 0) 1 9 := ⟨by decide +kernel, rfl⟩
theorem eX5_flip_9 : zD cX5_flip 9 (.ireturn) 1 10 := ⟨by decide +kernel, rfl⟩
theorem eX5_flip_10 : zD cX5_flip 10 (.aload_n 0) 1 11 := ⟨by decide +kernel, rfl⟩
theorem eX5_flip_11 : zD cX5_flip 11 (.getfield 18) 3 14 := ⟨by decide +kernel, rfl⟩
theorem eX5_flip_14 : zD cX5_flip 14 (.iload_n 1) 1 15 := ⟨by decide +kernel, rfl⟩
theorem eX5_flip_15 : zD cX5_flip 15 (.iconst 1) 1 16 := ⟨by decide +kernel, rfl⟩
theorem eX5_flip_16 : zD cX5_flip 16 (.aload_n 0) 1 17 := ⟨by decide +kernel, rfl⟩
theorem eX5_flip_17 : zD cX5_flip 17 (.getfield 18) 3 20 := ⟨by decide +kernel, rfl⟩
theorem eX5_flip_20 : zD cX5_flip 20 (.iload_n 1) 1 21 := ⟨by decide +kernel, rfl⟩
theorem eX5_flip_21 : zD cX5_flip 21 (.iaload) 1 22 := ⟨by decide +kernel, rfl⟩
theorem eX5_flip_22 : zD cX5_flip 22 (.isub) 1 23 := ⟨by decide +kernel, rfl⟩
theorem eX5_flip_23 : zD cX5_flip 23 (.iastore) 1 24 := ⟨by decide +kernel, rfl⟩
theorem eX5_flip_24 : zD cX5_flip 24 (.iconst 1) 1 25 := ⟨by decide +kernel, rfl⟩
theorem eX5_flip_25 : zD cX5_flip 25 (.ireturn) 1 26 := ⟨by decide +kernel, rfl⟩
theorem eX5_tell_0 : zD cX5_tell 0 (.aload_n 1) 1 1 := ⟨by decide +kernel, rfl⟩
theorem eX5_tell_1 : zD cX5_tell 1 (.iload_n 2) 1 2 := ⟨by decide +kernel, rfl⟩
theorem eX5_tell_2 : zD cX5_tell 2 (.invokevirtual 55) 3 5 := ⟨by decide +kernel, rfl⟩
theorem eX5_tell_5 : zD cX5_tell 5 (.lookupswitch 67 #[(98, 35), (116, 55), (119, 42)]) 35 40 := ⟨by decide +kernel, rfl⟩
theorem eX5_tell_40 : zD cX5_tell 40 (.aload_n 0) 1 41 := ⟨by decide +kernel, rfl⟩
theorem eX5_tell_41 : zD cX5_tell 41 (.aload_n 1) 1 42 := ⟨by decide +kernel, rfl⟩
theorem eX5_tell_42 : zD cX5_tell 42 (.iload_n 2) 1 43 := ⟨by decide +kernel, rfl⟩
theorem eX5_tell_43 : zD cX5_tell 43 (.invokevirtual 61) 3 46 := ⟨by decide +kernel, rfl⟩
theorem eX5_tell_46 : zD cX5_tell 46 (.ireturn) 1 47 := ⟨by decide +kernel, rfl⟩
theorem eX5_tell_47 : zD cX5_tell 47 (.aload_n 0) 1 48 := ⟨by decide +kernel, rfl⟩
theorem eX5_tell_48 : zD cX5_tell 48 (.aload_n 1) 1 49 := ⟨by decide +kernel, rfl⟩
theorem eX5_tell_49 : zD cX5_tell 49 (.iload_n 2) 1 50 := ⟨by decide +kernel, rfl⟩
theorem eX5_tell_50 : zD cX5_tell 50 (.iconst 1) 1 51 := ⟨by decide +kernel, rfl⟩
theorem eX5_tell_51 : zD cX5_tell 51 (.iadd) 1 52 := ⟨by decide +kernel, rfl⟩
theorem eX5_tell_52 : zD cX5_tell 52 (.invokevirtual 65) 3 55 := ⟨by decide +kernel, rfl⟩
theorem eX5_tell_55 : zD cX5_tell 55 (.putfield 38) 3 58 := ⟨by decide +kernel, rfl⟩
theorem eX5_tell_58 : zD cX5_tell 58 (.iconst 1) 1 59 := ⟨by decide +kernel, rfl⟩
theorem eX5_tell_59 : zD cX5_tell 59 (.ireturn) 1 60 := ⟨by decide +kernel, rfl⟩
theorem eX5_tell_60 : zD cX5_tell 60 (.aload_n 0) 1 61 := ⟨by decide +kernel, rfl⟩
theorem eX5_tell_61 : zD cX5_tell 61 (.aload_n 1) 1 62 := ⟨by decide +kernel, rfl⟩
theorem eX5_tell_62 : zD cX5_tell 62 (.iload_n 2) 1 63 := ⟨by decide +kernel, rfl⟩
theorem eX5_tell_63 : zD cX5_tell 63 (.iconst 1) 1 64 := ⟨by decide +kernel, rfl⟩
theorem eX5_tell_64 : zD cX5_tell 64 (.iadd) 1 65 := ⟨by decide +kernel, rfl⟩
theorem eX5_tell_65 : zD cX5_tell 65 (.invokevirtual 65) 3 68 := ⟨by decide +kernel, rfl⟩
theorem eX5_tell_68 : zD cX5_tell 68 (.invokevirtual 68) 3 71 := ⟨by decide +kernel, rfl⟩
theorem eX5_tell_71 : zD cX5_tell 71 (.ireturn) 1 72 := ⟨by decide +kernel, rfl⟩
theorem eX5_tell_72 : zD cX5_tell 72 (.aload_n 0) 1 73 := ⟨by decide +kernel, rfl⟩
theorem eX5_tell_73 : zD cX5_tell 73 (.invokevirtual 71) 3 76 := ⟨by decide +kernel, rfl⟩
theorem eX5_tell_76 : zD cX5_tell 76 (.ireturn) 1 77 := ⟨by decide +kernel, rfl⟩
theorem eX5_tellBowl_0 : zD cX5_tellBowl 0 (.aload_n 1) 1 1 := ⟨by decide +kernel, rfl⟩
theorem eX5_tellBowl_1 : zD cX5_tellBowl 1 (.iload_n 2) 1 2 := ⟨by decide +kernel, rfl⟩
theorem eX5_tellBowl_2 : zD cX5_tellBowl 2 (.iconst 1) 1 3 := ⟨by decide +kernel, rfl⟩
theorem eX5_tellBowl_3 : zD cX5_tellBowl 3 (.iadd) 1 4 := ⟨by decide +kernel, rfl⟩
theorem eX5_tellBowl_4 : zD cX5_tellBowl 4 (.invokevirtual 65) 3 7 := ⟨by decide +kernel, rfl⟩
theorem eX5_tellBowl_7 : zD cX5_tellBowl 7 (.istore_n 3) 1 8 := ⟨by decide +kernel, rfl⟩
theorem eX5_tellBowl_8 : zD cX5_tellBowl 8 (.aload_n 1) 1 9 := ⟨by decide +kernel, rfl⟩
theorem eX5_tellBowl_9 : zD cX5_tellBowl 9 (.iload_n 2) 1 10 := ⟨by decide +kernel, rfl⟩
theorem eX5_tellBowl_10 : zD cX5_tellBowl 10 (.iconst 3) 1 11 := ⟨by decide +kernel, rfl⟩
theorem eX5_tellBowl_11 : zD cX5_tellBowl 11 (.iadd) 1 12 := ⟨by decide +kernel, rfl⟩
theorem eX5_tellBowl_12 : zD cX5_tellBowl 12 (.invokevirtual 65) 3 15 := ⟨by decide +kernel, rfl⟩
theorem eX5_tellBowl_15 : zD cX5_tellBowl 15 (.istore 4) 2 17 := ⟨by decide +kernel, rfl⟩
theorem eX5_tellBowl_17 : zD cX5_tellBowl 17 (.aload_n 1) 1 18 := ⟨by decide +kernel, rfl⟩
theorem eX5_tellBowl_18 : zD cX5_tellBowl 18 (.iload_n 2) 1 19 := ⟨by decide +kernel, rfl⟩
theorem eX5_tellBowl_19 : zD cX5_tellBowl 19 (.iconst 4) 1 20 := ⟨by decide +kernel, rfl⟩
theorem eX5_tellBowl_20 : zD cX5_tellBowl 20 (.iadd) 1 21 := ⟨by decide +kernel, rfl⟩
theorem eX5_tellBowl_21 : zD cX5_tellBowl 21 (.invokevirtual 75) 3 24 := ⟨by decide +kernel, rfl⟩
theorem eX5_tellBowl_24 : zD cX5_tellBowl 24 (.istore 5) 2 26 := ⟨by decide +kernel, rfl⟩
theorem eX5_tellBowl_26 : zD cX5_tellBowl 26 (.aload_n 1) 1 27 := ⟨by decide +kernel, rfl⟩
theorem eX5_tellBowl_27 : zD cX5_tellBowl 27 (.aload_n 1) 1 28 := ⟨by decide +kernel, rfl⟩
theorem eX5_tellBowl_28 : zD cX5_tellBowl 28 (.iload_n 2) 1 29 := ⟨by decide +kernel, rfl⟩
theorem eX5_tellBowl_29 : zD cX5_tellBowl 29 (.iconst 4) 1 30 := ⟨by decide +kernel, rfl⟩
theorem eX5_tellBowl_30 : zD cX5_tellBowl 30 (.iadd) 1 31 := ⟨by decide +kernel, rfl⟩
theorem eX5_tellBowl_31 : zD cX5_tellBowl 31 (.invokevirtual 78) 3 34 := ⟨by decide +kernel, rfl⟩
theorem eX5_tellBowl_34 : zD cX5_tellBowl 34 (.iconst 1) 1 35 := ⟨by decide +kernel, rfl⟩
theorem eX5_tellBowl_35 : zD cX5_tellBowl 35 (.iadd) 1 36 := ⟨by decide +kernel, rfl⟩
theorem eX5_tellBowl_36 : zD cX5_tellBowl 36 (.invokevirtual 75) 3 39 := ⟨by decide +kernel, rfl⟩
theorem eX5_tellBowl_39 : zD cX5_tellBowl 39 (.istore 6) 2 41 := ⟨by decide +kernel, rfl⟩
theorem eX5_tellBowl_41 : zD cX5_tellBowl 41 (.iload_n 3) 1 42 := ⟨by decide +kernel, rfl⟩
theorem eX5_tellBowl_42 : zD cX5_tellBowl 42 (.bipush 8) 2 44 := ⟨by decide +kernel, rfl⟩
theorem eX5_tellBowl_44 : zD cX5_tellBowl 44 (.if_icmp .ge 21) 3 47 := ⟨by decide +kernel, rfl⟩
theorem eX5_tellBowl_47 : zD cX5_tellBowl 47 (.iload 4) 2 49 := ⟨by decide +kernel, rfl⟩
theorem eX5_tellBowl_49 : zD cX5_tellBowl 49 (.iconst 1) 1 50 := ⟨by decide +kernel, rfl⟩
theorem eX5_tellBowl_50 : zD cX5_tellBowl 50 (.if_icmp .gt 15) 3 53 := ⟨by decide +kernel, rfl⟩
theorem eX5_tellBowl_53 : zD cX5_tellBowl 53 (.iload 5) 2 55 := ⟨by decide +kernel, rfl⟩
theorem eX5_tellBowl_55 : zD cX5_tellBowl 55 (.iconst 1) 1 56 := ⟨by decide +kernel, rfl⟩
theorem eX5_tellBowl_56 : zD cX5_tellBowl 56 (.if_icmp .lt 9) 3 59 := ⟨by decide +kernel, rfl⟩
theorem eX5_tellBowl_59 : zD cX5_tellBowl 59 (.iload 6) 2 61 := ⟨by decide +kernel, rfl⟩
theorem eX5_tellBowl_61 : zD cX5_tellBowl 61 (.iconst 1) 1 62 := ⟨by decide +kernel, rfl⟩
theorem eX5_tellBowl_62 : zD cX5_tellBowl 62 (.if_icmp .ge 5) 3 65 := ⟨by decide +kernel, rfl⟩
theorem eX5_tellBowl_65 : zD cX5_tellBowl 65 (.iconst 0) 1 66 := ⟨by decide +kernel, rfl⟩
theorem eX5_tellBowl_66 : zD cX5_tellBowl 66 (.ireturn) 1 67 := ⟨by decide +kernel, rfl⟩
theorem eX5_tellBowl_67 : zD cX5_tellBowl 67 (.aload_n 0) 1 68 := ⟨by decide +kernel, rfl⟩
theorem eX5_tellBowl_68 : zD cX5_tellBowl 68 (.iload_n 3) 1 69 := ⟨by decide +kernel, rfl⟩
theorem eX5_tellBowl_69 : zD cX5_tellBowl 69 (.aload_n 1) 1 70 := ⟨by decide +kernel, rfl⟩
theorem eX5_tellBowl_70 : zD cX5_tellBowl 70 (.iload_n 2) 1 71 := ⟨by decide +kernel, rfl⟩
theorem eX5_tellBowl_71 : zD cX5_tellBowl 71 (.iconst 2) 1 72 := ⟨by decide +kernel, rfl⟩
theorem eX5_tellBowl_72 : zD cX5_tellBowl 72 (.iadd) 1 73 := ⟨by decide +kernel, rfl⟩
theorem eX5_tellBowl_73 : zD cX5_tellBowl 73 (.invokevirtual 65) 3 76 := ⟨by decide +kernel, rfl⟩
theorem eX5_tellBowl_76 : zD cX5_tellBowl 76 (.iload 4) 2 78 := ⟨by decide +kernel, rfl⟩
theorem eX5_tellBowl_78 : zD cX5_tellBowl 78 (.iload 5) 2 80 := ⟨by decide +kernel, rfl⟩
theorem eX5_tellBowl_80 : zD cX5_tellBowl 80 (.iload 6) 2 82 := ⟨by decide +kernel, rfl⟩
theorem eX5_tellBowl_82 : zD cX5_tellBowl 82 (.invokevirtual 81) 3 85 := ⟨by decide +kernel, rfl⟩
theorem eX5_tellBowl_85 : zD cX5_tellBowl 85 (.ireturn) 1 86 := ⟨by decide +kernel, rfl⟩
theorem eX5_outsideAt_0 : zD cX5_outsideAt 0 (.aload_n 0) 1 1 := ⟨by decide +kernel, rfl⟩
theorem eX5_outsideAt_1 : zD cX5_outsideAt 1 (.getfield 30) 3 4 := ⟨by decide +kernel, rfl⟩
theorem eX5_outsideAt_4 : zD cX5_outsideAt 4 (.aload_n 0) 1 5 := ⟨by decide +kernel, rfl⟩
theorem eX5_outsideAt_5 : zD cX5_outsideAt 5 (.getfield 11) 3 8 := ⟨by decide +kernel, rfl⟩
theorem eX5_outsideAt_8 : zD cX5_outsideAt 8 (.iload_n 1) 1 9 := ⟨by decide +kernel, rfl⟩
theorem eX5_outsideAt_9 : zD cX5_outsideAt 9 (.iaload) 1 10 := ⟨by decide +kernel, rfl⟩
theorem eX5_outsideAt_10 : zD cX5_outsideAt 10 (.aaload) 1 11 := ⟨by decide +kernel, rfl⟩
theorem eX5_outsideAt_11 : zD cX5_outsideAt 11 (.iload_n 2) 1 12 := ⟨by decide +kernel, rfl⟩
theorem eX5_outsideAt_12 : zD cX5_outsideAt 12 (.aload_n 0) 1 13 := ⟨by decide +kernel, rfl⟩
theorem eX5_outsideAt_13 : zD cX5_outsideAt 13 (.getfield 15) 3 16 := ⟨by decide +kernel, rfl⟩
theorem eX5_outsideAt_16 : zD cX5_outsideAt 16 (.iload_n 1) 1 17 := ⟨by decide +kernel, rfl⟩
theorem eX5_outsideAt_17 : zD cX5_outsideAt 17 (.iaload) 1 18 := ⟨by decide +kernel, rfl⟩
theorem eX5_outsideAt_18 : zD cX5_outsideAt 18 (.aload_n 0) 1 19 := ⟨by decide +kernel, rfl⟩
theorem eX5_outsideAt_19 : zD cX5_outsideAt 19 (.getfield 18) 3 22 := ⟨by decide +kernel, rfl⟩
theorem eX5_outsideAt_22 : zD cX5_outsideAt 22 (.iload_n 1) 1 23 := ⟨by decide +kernel, rfl⟩
theorem eX5_outsideAt_23 : zD cX5_outsideAt 23 (.iaload) 1 24 := ⟨by decide +kernel, rfl⟩
theorem eX5_outsideAt_24 : zD cX5_outsideAt 24 (.invokevirtual 85) 3 27 := ⟨by decide +kernel, rfl⟩
theorem eX5_outsideAt_27 : zD cX5_outsideAt 27 (.ireturn) 1 28 := ⟨by decide +kernel, rfl⟩
theorem eX5_insideAt_0 : zD cX5_insideAt 0 (.aload_n 0) 1 1 := ⟨by decide +kernel, rfl⟩
theorem eX5_insideAt_1 : zD cX5_insideAt 1 (.getfield 30) 3 4 := ⟨by decide +kernel, rfl⟩
theorem eX5_insideAt_4 : zD cX5_insideAt 4 (.aload_n 0) 1 5 := ⟨by decide +kernel, rfl⟩
theorem eX5_insideAt_5 : zD cX5_insideAt 5 (.getfield 11) 3 8 := ⟨by decide +kernel, rfl⟩
theorem eX5_insideAt_8 : zD cX5_insideAt 8 (.iload_n 1) 1 9 := ⟨by decide +kernel, rfl⟩
theorem eX5_insideAt_9 : zD cX5_insideAt 9 (.iaload) 1 10 := ⟨by decide +kernel, rfl⟩
theorem eX5_insideAt_10 : zD cX5_insideAt 10 (.aaload) 1 11 := ⟨by decide +kernel, rfl⟩
theorem eX5_insideAt_11 : zD cX5_insideAt 11 (.iload_n 2) 1 12 := ⟨by decide +kernel, rfl⟩
theorem eX5_insideAt_12 : zD cX5_insideAt 12 (.aload_n 0) 1 13 := ⟨by decide +kernel, rfl⟩
theorem eX5_insideAt_13 : zD cX5_insideAt 13 (.getfield 15) 3 16 := ⟨by decide +kernel, rfl⟩
theorem eX5_insideAt_16 : zD cX5_insideAt 16 (.iload_n 1) 1 17 := ⟨by decide +kernel, rfl⟩
theorem eX5_insideAt_17 : zD cX5_insideAt 17 (.iaload) 1 18 := ⟨by decide +kernel, rfl⟩
theorem eX5_insideAt_18 : zD cX5_insideAt 18 (.aload_n 0) 1 19 := ⟨by decide +kernel, rfl⟩
theorem eX5_insideAt_19 : zD cX5_insideAt 19 (.getfield 18) 3 22 := ⟨by decide +kernel, rfl⟩
theorem eX5_insideAt_22 : zD cX5_insideAt 22 (.iload_n 1) 1 23 := ⟨by decide +kernel, rfl⟩
theorem eX5_insideAt_23 : zD cX5_insideAt 23 (.iaload) 1 24 := ⟨by decide +kernel, rfl⟩
theorem eX5_insideAt_24 : zD cX5_insideAt 24 (.iload_n 3) 1 25 := ⟨by decide +kernel, rfl⟩
theorem eX5_insideAt_25 : zD cX5_insideAt 25 (.invokevirtual 91) 3 28 := ⟨by decide +kernel, rfl⟩
theorem eX5_insideAt_28 : zD cX5_insideAt 28 (.ireturn) 1 29 := ⟨by decide +kernel, rfl⟩
theorem eX5_riseOf_0 : zD cX5_riseOf 0 (.aload_n 0) 1 1 := ⟨by decide +kernel, rfl⟩
theorem eX5_riseOf_1 : zD cX5_riseOf 1 (.getfield 30) 3 4 := ⟨by decide +kernel, rfl⟩
theorem eX5_riseOf_4 : zD cX5_riseOf 4 (.aload_n 0) 1 5 := ⟨by decide +kernel, rfl⟩
theorem eX5_riseOf_5 : zD cX5_riseOf 5 (.getfield 11) 3 8 := ⟨by decide +kernel, rfl⟩
theorem eX5_riseOf_8 : zD cX5_riseOf 8 (.iload_n 1) 1 9 := ⟨by decide +kernel, rfl⟩
theorem eX5_riseOf_9 : zD cX5_riseOf 9 (.iaload) 1 10 := ⟨by decide +kernel, rfl⟩
theorem eX5_riseOf_10 : zD cX5_riseOf 10 (.aaload) 1 11 := ⟨by decide +kernel, rfl⟩
theorem eX5_riseOf_11 : zD cX5_riseOf 11 (.aload_n 0) 1 12 := ⟨by decide +kernel, rfl⟩
theorem eX5_riseOf_12 : zD cX5_riseOf 12 (.getfield 15) 3 15 := ⟨by decide +kernel, rfl⟩
theorem eX5_riseOf_15 : zD cX5_riseOf 15 (.iload_n 1) 1 16 := ⟨by decide +kernel, rfl⟩
theorem eX5_riseOf_16 : zD cX5_riseOf 16 (.iaload) 1 17 := ⟨by decide +kernel, rfl⟩
theorem eX5_riseOf_17 : zD cX5_riseOf 17 (.invokevirtual 95) 3 20 := ⟨by decide +kernel, rfl⟩
theorem eX5_riseOf_20 : zD cX5_riseOf 20 (.ireturn) 1 21 := ⟨by decide +kernel, rfl⟩
theorem eX5_isIn_0 : zD cX5_isIn 0 (.aload_n 0) 1 1 := ⟨by decide +kernel, rfl⟩
theorem eX5_isIn_1 : zD cX5_isIn 1 (.iload_n 1) 1 2 := ⟨by decide +kernel, rfl⟩
theorem eX5_isIn_2 : zD cX5_isIn 2 (.iload_n 2) 1 3 := ⟨by decide +kernel, rfl⟩
theorem eX5_isIn_3 : zD cX5_isIn 3 (.invokevirtual 98) 3 6 := ⟨by decide +kernel, rfl⟩
theorem eX5_isIn_6 : zD cX5_isIn 6 (.ifCond .eq 33) 3 9 := ⟨by decide +kernel, rfl⟩
theorem eX5_isIn_9 : zD cX5_isIn 9 (.aload_n 0) 1 10 := ⟨by decide +kernel, rfl⟩
theorem eX5_isIn_10 : zD cX5_isIn 10 (.iload_n 1) 1 11 := ⟨by decide +kernel, rfl⟩
theorem eX5_isIn_11 : zD cX5_isIn 11 (.aload_n 0) 1 12 := ⟨by decide +kernel, rfl⟩
theorem eX5_isIn_12 : zD cX5_isIn 12 (.getfield 21) 3 15 := ⟨by decide +kernel, rfl⟩
theorem eX5_isIn_15 : zD cX5_isIn 15 (.iload_n 1) 1 16 := ⟨by decide +kernel, rfl⟩
theorem eX5_isIn_16 : zD cX5_isIn 16 (.iaload) 1 17 := ⟨by decide +kernel, rfl⟩
theorem eX5_isIn_17 : zD cX5_isIn 17 (.invokevirtual 102) 3 20 := ⟨by decide +kernel, rfl⟩
theorem eX5_isIn_20 : zD cX5_isIn 20 (.aload_n 0) 1 21 := ⟨by decide +kernel, rfl⟩
theorem eX5_isIn_21 : zD cX5_isIn 21 (.iload_n 2) 1 22 := ⟨by decide +kernel, rfl⟩
theorem eX5_isIn_22 : zD cX5_isIn 22 (.aload_n 0) 1 23 := ⟨by decide +kernel, rfl⟩
theorem eX5_isIn_23 : zD cX5_isIn 23 (.getfield 21) 3 26 := ⟨by decide +kernel, rfl⟩
theorem eX5_isIn_26 : zD cX5_isIn 26 (.iload_n 2) 1 27 := ⟨by decide +kernel, rfl⟩
theorem eX5_isIn_27 : zD cX5_isIn 27 (.iaload) 1 28 := ⟨by decide +kernel, rfl⟩
theorem eX5_isIn_28 : zD cX5_isIn 28 (.iload_n 3) 1 29 := ⟨by decide +kernel, rfl⟩
theorem eX5_isIn_29 : zD cX5_isIn 29 (.invokevirtual 106) 3 32 := ⟨by decide +kernel, rfl⟩
theorem eX5_isIn_32 : zD cX5_isIn 32 (.if_icmp .gt 7) 3 35 := ⟨by decide +kernel, rfl⟩
theorem eX5_isIn_35 : zD cX5_isIn 35 (.iconst 1) 1 36 := ⟨by decide +kernel, rfl⟩
theorem eX5_isIn_36 : zD cX5_isIn 36 (.goto 4) 3 39 := ⟨by decide +kernel, rfl⟩
theorem eX5_isIn_39 : zD cX5_isIn 39 (.iconst 0) 1 40 := ⟨by decide +kernel, rfl⟩
theorem eX5_isIn_40 : zD cX5_isIn 40 (.ireturn) 1 41 := ⟨by decide +kernel, rfl⟩
theorem eX5_agree_0 : zD cX5_agree 0 (.aload_n 0) 1 1 := ⟨by decide +kernel, rfl⟩
theorem eX5_agree_1 : zD cX5_agree 1 (.getfield 30) 3 4 := ⟨by decide +kernel, rfl⟩
theorem eX5_agree_4 : zD cX5_agree 4 (.aload_n 0) 1 5 := ⟨by decide +kernel, rfl⟩
theorem eX5_agree_5 : zD cX5_agree 5 (.getfield 11) 3 8 := ⟨by decide +kernel, rfl⟩
theorem eX5_agree_8 : zD cX5_agree 8 (.iload_n 1) 1 9 := ⟨by decide +kernel, rfl⟩
theorem eX5_agree_9 : zD cX5_agree 9 (.iaload) 1 10 := ⟨by decide +kernel, rfl⟩
theorem eX5_agree_10 : zD cX5_agree 10 (.aaload) 1 11 := ⟨by decide +kernel, rfl⟩
theorem eX5_agree_11 : zD cX5_agree 11 (.invokevirtual 109) 3 14 := ⟨by decide +kernel, rfl⟩
theorem eX5_agree_14 : zD cX5_agree 14 (.ifCond .eq 24) 3 17 := ⟨by decide +kernel, rfl⟩
theorem eX5_agree_17 : zD cX5_agree 17 (.aload_n 0) 1 18 := ⟨by decide +kernel, rfl⟩
theorem eX5_agree_18 : zD cX5_agree 18 (.getfield 30) 3 21 := ⟨by decide +kernel, rfl⟩
theorem eX5_agree_21 : zD cX5_agree 21 (.aload_n 0) 1 22 := ⟨by decide +kernel, rfl⟩
theorem eX5_agree_22 : zD cX5_agree 22 (.getfield 11) 3 25 := ⟨by decide +kernel, rfl⟩
theorem eX5_agree_25 : zD cX5_agree 25 (.iload_n 2) 1 26 := ⟨by decide +kernel, rfl⟩
theorem eX5_agree_26 : zD cX5_agree 26 (.iaload) 1 27 := ⟨by decide +kernel, rfl⟩
theorem eX5_agree_27 : zD cX5_agree 27 (.aaload) 1 28 := ⟨by decide +kernel, rfl⟩
theorem eX5_agree_28 : zD cX5_agree 28 (.invokevirtual 109) 3 31 := ⟨by decide +kernel, rfl⟩
theorem eX5_agree_31 : zD cX5_agree 31 (.ifCond .eq 7) 3 34 := ⟨by decide +kernel, rfl⟩
theorem eX5_agree_34 : zD cX5_agree 34 (.iconst 1) 1 35 := ⟨by decide +kernel, rfl⟩
theorem eX5_agree_35 : zD cX5_agree 35 (.goto 4) 3 38 := ⟨by decide +kernel, rfl⟩
theorem eX5_agree_38 : zD cX5_agree 38 (.iconst 0) 1 39 := ⟨by decide +kernel, rfl⟩
theorem eX5_agree_39 : zD cX5_agree 39 (.istore_n 3) 1 40 := ⟨by decide +kernel, rfl⟩
theorem eX5_agree_40 : zD cX5_agree 40 (.aload_n 0) 1 41 := ⟨by decide +kernel, rfl⟩
theorem eX5_agree_41 : zD cX5_agree 41 (.getfield 24) 3 44 := ⟨by decide +kernel, rfl⟩
theorem eX5_agree_44 : zD cX5_agree 44 (.iload_n 1) 1 45 := ⟨by decide +kernel, rfl⟩
theorem eX5_agree_45 : zD cX5_agree 45 (.iaload) 1 46 := ⟨by decide +kernel, rfl⟩
theorem eX5_agree_46 : zD cX5_agree 46 (.aload_n 0) 1 47 := ⟨by decide +kernel, rfl⟩
theorem eX5_agree_47 : zD cX5_agree 47 (.getfield 24) 3 50 := ⟨by decide +kernel, rfl⟩
theorem eX5_agree_50 : zD cX5_agree 50 (.iload_n 2) 1 51 := ⟨by decide +kernel, rfl⟩
theorem eX5_agree_51 : zD cX5_agree 51 (.iaload) 1 52 := ⟨by decide +kernel, rfl⟩
theorem eX5_agree_52 : zD cX5_agree 52 (.aload_n 0) 1 53 := ⟨by decide +kernel, rfl⟩
theorem eX5_agree_53 : zD cX5_agree 53 (.getfield 15) 3 56 := ⟨by decide +kernel, rfl⟩
theorem eX5_agree_56 : zD cX5_agree 56 (.iload_n 2) 1 57 := ⟨by decide +kernel, rfl⟩
theorem eX5_agree_57 : zD cX5_agree 57 (.iaload) 1 58 := ⟨by decide +kernel, rfl⟩
theorem eX5_agree_58 : zD cX5_agree 58 (.iadd) 1 59 := ⟨by decide +kernel, rfl⟩
theorem eX5_agree_59 : zD cX5_agree 59 (.if_icmp .gt 26) 3 62 := ⟨by decide +kernel, rfl⟩
theorem eX5_agree_62 : zD cX5_agree 62 (.iload_n 3) 1 63 := ⟨by decide +kernel, rfl⟩
theorem eX5_agree_63 : zD cX5_agree 63 (.ifCond .eq 18) 3 66 := ⟨by decide +kernel, rfl⟩
theorem eX5_agree_66 : zD cX5_agree 66 (.aload_n 0) 1 67 := ⟨by decide +kernel, rfl⟩
theorem eX5_agree_67 : zD cX5_agree 67 (.getfield 18) 3 70 := ⟨by decide +kernel, rfl⟩
theorem eX5_agree_70 : zD cX5_agree 70 (.iload_n 1) 1 71 := ⟨by decide +kernel, rfl⟩
theorem eX5_agree_71 : zD cX5_agree 71 (.iaload) 1 72 := ⟨by decide +kernel, rfl⟩
theorem eX5_agree_72 : zD cX5_agree 72 (.aload_n 0) 1 73 := ⟨by decide +kernel, rfl⟩
theorem eX5_agree_73 : zD cX5_agree 73 (.getfield 18) 3 76 := ⟨by decide +kernel, rfl⟩
theorem eX5_agree_76 : zD cX5_agree 76 (.iload_n 2) 1 77 := ⟨by decide +kernel, rfl⟩
theorem eX5_agree_77 : zD cX5_agree 77 (.iaload) 1 78 := ⟨by decide +kernel, rfl⟩
theorem eX5_agree_78 : zD cX5_agree 78 (.if_icmp .ne 7) 3 81 := ⟨by decide +kernel, rfl⟩
theorem eX5_agree_81 : zD cX5_agree 81 (.iconst 1) 1 82 := ⟨by decide +kernel, rfl⟩
theorem eX5_agree_82 : zD cX5_agree 82 (.goto 4) 3 85 := ⟨by decide +kernel, rfl⟩
theorem eX5_agree_85 : zD cX5_agree 85 (.iconst 0) 1 86 := ⟨by decide +kernel, rfl⟩
theorem eX5_agree_86 : zD cX5_agree 86 (.ireturn) 1 87 := ⟨by decide +kernel, rfl⟩
theorem eX5_spanned_0 : zD cX5_spanned 0 (.aload_n 0) 1 1 := ⟨by decide +kernel, rfl⟩
theorem eX5_spanned_1 : zD cX5_spanned 1 (.iload_n 1) 1 2 := ⟨by decide +kernel, rfl⟩
theorem eX5_spanned_2 : zD cX5_spanned 2 (.iload_n 3) 1 3 := ⟨by decide +kernel, rfl⟩
theorem eX5_spanned_3 : zD cX5_spanned 3 (.invokevirtual 98) 3 6 := ⟨by decide +kernel, rfl⟩
theorem eX5_spanned_6 : zD cX5_spanned 6 (.ifCond .ne 5) 3 9 := ⟨by decide +kernel, rfl⟩
theorem eX5_spanned_9 : zD cX5_spanned 9 (.iconst 0) 1 10 := ⟨by decide +kernel, rfl⟩
theorem eX5_spanned_10 : zD cX5_spanned 10 (.ireturn) 1 11 := ⟨by decide +kernel, rfl⟩
theorem eX5_spanned_11 : zD cX5_spanned 11 (.aload_n 0) 1 12 := ⟨by decide +kernel, rfl⟩
theorem eX5_spanned_12 : zD cX5_spanned 12 (.iload_n 1) 1 13 := ⟨by decide +kernel, rfl⟩
theorem eX5_spanned_13 : zD cX5_spanned 13 (.iconst 1) 1 14 := ⟨by decide +kernel, rfl⟩
theorem eX5_spanned_14 : zD cX5_spanned 14 (.aload_n 0) 1 15 := ⟨by decide +kernel, rfl⟩
theorem eX5_spanned_15 : zD cX5_spanned 15 (.getfield 21) 3 18 := ⟨by decide +kernel, rfl⟩
theorem eX5_spanned_18 : zD cX5_spanned 18 (.iload_n 1) 1 19 := ⟨by decide +kernel, rfl⟩
theorem eX5_spanned_19 : zD cX5_spanned 19 (.iaload) 1 20 := ⟨by decide +kernel, rfl⟩
theorem eX5_spanned_20 : zD cX5_spanned 20 (.iload_n 2) 1 21 := ⟨by decide +kernel, rfl⟩
theorem eX5_spanned_21 : zD cX5_spanned 21 (.isub) 1 22 := ⟨by decide +kernel, rfl⟩
theorem eX5_spanned_22 : zD cX5_spanned 22 (.invokestatic 112) 3 25 := ⟨by decide +kernel, rfl⟩
theorem eX5_spanned_25 : zD cX5_spanned 25 (.invokevirtual 102) 3 28 := ⟨by decide +kernel, rfl⟩
theorem eX5_spanned_28 : zD cX5_spanned 28 (.istore 5) 2 30 := ⟨by decide +kernel, rfl⟩
theorem eX5_spanned_30 : zD cX5_spanned 30 (.aload_n 0) 1 31 := ⟨by decide +kernel, rfl⟩
theorem eX5_spanned_31 : zD cX5_spanned 31 (.iload_n 1) 1 32 := ⟨by decide +kernel, rfl⟩
theorem eX5_spanned_32 : zD cX5_spanned 32 (.aload_n 0) 1 33 := ⟨by decide +kernel, rfl⟩
theorem eX5_spanned_33 : zD cX5_spanned 33 (.getfield 21) 3 36 := ⟨by decide +kernel, rfl⟩
theorem eX5_spanned_36 : zD cX5_spanned 36 (.iload_n 1) 1 37 := ⟨by decide +kernel, rfl⟩
theorem eX5_spanned_37 : zD cX5_spanned 37 (.iaload) 1 38 := ⟨by decide +kernel, rfl⟩
theorem eX5_spanned_38 : zD cX5_spanned 38 (.iload_n 2) 1 39 := ⟨by decide +kernel, rfl⟩
theorem eX5_spanned_39 : zD cX5_spanned 39 (.iadd) 1 40 := ⟨by decide +kernel, rfl⟩
theorem eX5_spanned_40 : zD cX5_spanned 40 (.invokevirtual 102) 3 43 := ⟨by decide +kernel, rfl⟩
theorem eX5_spanned_43 : zD cX5_spanned 43 (.istore 6) 2 45 := ⟨by decide +kernel, rfl⟩
theorem eX5_spanned_45 : zD cX5_spanned 45 (.aload_n 0) 1 46 := ⟨by decide +kernel, rfl⟩
theorem eX5_spanned_46 : zD cX5_spanned 46 (.iload_n 3) 1 47 := ⟨by decide +kernel, rfl⟩
theorem eX5_spanned_47 : zD cX5_spanned 47 (.iconst 1) 1 48 := ⟨by decide +kernel, rfl⟩
theorem eX5_spanned_48 : zD cX5_spanned 48 (.aload_n 0) 1 49 := ⟨by decide +kernel, rfl⟩
theorem eX5_spanned_49 : zD cX5_spanned 49 (.getfield 21) 3 52 := ⟨by decide +kernel, rfl⟩
theorem eX5_spanned_52 : zD cX5_spanned 52 (.iload_n 3) 1 53 := ⟨by decide +kernel, rfl⟩
theorem eX5_spanned_53 : zD cX5_spanned 53 (.iaload) 1 54 := ⟨by decide +kernel, rfl⟩
theorem eX5_spanned_54 : zD cX5_spanned 54 (.iload 4) 2 56 := ⟨by decide +kernel, rfl⟩
theorem eX5_spanned_56 : zD cX5_spanned 56 (.isub) 1 57 := ⟨by decide +kernel, rfl⟩
theorem eX5_spanned_57 : zD cX5_spanned 57 (.invokestatic 112) 3 60 := ⟨by decide +kernel, rfl⟩
theorem eX5_spanned_60 : zD cX5_spanned 60 (.aload_n 0) 1 61 := ⟨by decide +kernel, rfl⟩
theorem eX5_spanned_61 : zD cX5_spanned 61 (.getfield 38) 3 64 := ⟨by decide +kernel, rfl⟩
theorem eX5_spanned_64 : zD cX5_spanned 64 (.invokevirtual 106) 3 67 := ⟨by decide +kernel, rfl⟩
theorem eX5_spanned_67 : zD cX5_spanned 67 (.istore 7) 2 69 := ⟨by decide +kernel, rfl⟩
theorem eX5_spanned_69 : zD cX5_spanned 69 (.aload_n 0) 1 70 := ⟨by decide +kernel, rfl⟩
theorem eX5_spanned_70 : zD cX5_spanned 70 (.iload_n 3) 1 71 := ⟨by decide +kernel, rfl⟩
theorem eX5_spanned_71 : zD cX5_spanned 71 (.aload_n 0) 1 72 := ⟨by decide +kernel, rfl⟩
theorem eX5_spanned_72 : zD cX5_spanned 72 (.getfield 21) 3 75 := ⟨by decide +kernel, rfl⟩
theorem eX5_spanned_75 : zD cX5_spanned 75 (.iload_n 3) 1 76 := ⟨by decide +kernel, rfl⟩
theorem eX5_spanned_76 : zD cX5_spanned 76 (.iaload) 1 77 := ⟨by decide +kernel, rfl⟩
theorem eX5_spanned_77 : zD cX5_spanned 77 (.iload 4) 2 79 := ⟨by decide +kernel, rfl⟩
theorem eX5_spanned_79 : zD cX5_spanned 79 (.iadd) 1 80 := ⟨by decide +kernel, rfl⟩
theorem eX5_spanned_80 : zD cX5_spanned 80 (.aload_n 0) 1 81 := ⟨by decide +kernel, rfl⟩
theorem eX5_spanned_81 : zD cX5_spanned 81 (.getfield 38) 3 84 := ⟨by decide +kernel, rfl⟩
theorem eX5_spanned_84 : zD cX5_spanned 84 (.invokevirtual 106) 3 87 := ⟨by decide +kernel, rfl⟩
theorem eX5_spanned_87 : zD cX5_spanned 87 (.istore 8) 2 89 := ⟨by decide +kernel, rfl⟩
theorem eX5_spanned_89 : zD cX5_spanned 89 (.iload 6) 2 91 := ⟨by decide +kernel, rfl⟩
theorem eX5_spanned_91 : zD cX5_spanned 91 (.iload 7) 2 93 := ⟨by decide +kernel, rfl⟩
theorem eX5_spanned_93 : zD cX5_spanned 93 (.if_icmp .gt 5) 3 96 := ⟨by decide +kernel, rfl⟩
theorem eX5_spanned_96 : zD cX5_spanned 96 (.iconst 2) 1 97 := ⟨by decide +kernel, rfl⟩
theorem eX5_spanned_97 : zD cX5_spanned 97 (.ireturn) 1 98 := ⟨by decide +kernel, rfl⟩
theorem eX5_spanned_98 : zD cX5_spanned 98 (.iload 5) 2 100 := ⟨by decide +kernel, rfl⟩
theorem eX5_spanned_100 : zD cX5_spanned 100 (.iload 8) 2 102 := ⟨by decide +kernel, rfl⟩
theorem eX5_spanned_102 : zD cX5_spanned 102 (.if_icmp .gt 7) 3 105 := ⟨by decide +kernel, rfl⟩
theorem eX5_spanned_105 : zD cX5_spanned 105 (.iconst 1) 1 106 := ⟨by decide +kernel, rfl⟩
theorem eX5_spanned_106 : zD cX5_spanned 106 (.goto 4) 3 109 := ⟨by decide +kernel, rfl⟩
theorem eX5_spanned_109 : zD cX5_spanned 109 (.iconst 0) 1 110 := ⟨by decide +kernel, rfl⟩
theorem eX5_spanned_110 : zD cX5_spanned 110 (.ireturn) 1 111 := ⟨by decide +kernel, rfl⟩
theorem eX5_arrange_0 : zD cX5_arrange 0 (.iconst 0) 1 1 := ⟨by decide +kernel, rfl⟩
theorem eX5_arrange_1 : zD cX5_arrange 1 (.istore_n 1) 1 2 := ⟨by decide +kernel, rfl⟩
theorem eX5_arrange_2 : zD cX5_arrange 2 (.iload_n 1) 1 3 := ⟨by decide +kernel, rfl⟩
theorem eX5_arrange_3 : zD cX5_arrange 3 (.aload_n 0) 1 4 := ⟨by decide +kernel, rfl⟩
theorem eX5_arrange_4 : zD cX5_arrange 4 (.getfield 34) 3 7 := ⟨by decide +kernel, rfl⟩
theorem eX5_arrange_7 : zD cX5_arrange 7 (.if_icmp .ge 83) 3 10 := ⟨by decide +kernel, rfl⟩
theorem eX5_arrange_10 : zD cX5_arrange 10 (.aload_n 0) 1 11 := ⟨by decide +kernel, rfl⟩
theorem eX5_arrange_11 : zD cX5_arrange 11 (.iload_n 1) 1 12 := ⟨by decide +kernel, rfl⟩
theorem eX5_arrange_12 : zD cX5_arrange 12 (.aload_n 0) 1 13 := ⟨by decide +kernel, rfl⟩
theorem eX5_arrange_13 : zD cX5_arrange 13 (.getfield 21) 3 16 := ⟨by decide +kernel, rfl⟩
theorem eX5_arrange_16 : zD cX5_arrange 16 (.iload_n 1) 1 17 := ⟨by decide +kernel, rfl⟩
theorem eX5_arrange_17 : zD cX5_arrange 17 (.iaload) 1 18 := ⟨by decide +kernel, rfl⟩
theorem eX5_arrange_18 : zD cX5_arrange 18 (.invokevirtual 102) 3 21 := ⟨by decide +kernel, rfl⟩
theorem eX5_arrange_21 : zD cX5_arrange 21 (.istore_n 2) 1 22 := ⟨by decide +kernel, rfl⟩
theorem eX5_arrange_22 : zD cX5_arrange 22 (.iload_n 1) 1 23 := ⟨by decide +kernel, rfl⟩
theorem eX5_arrange_23 : zD cX5_arrange 23 (.istore_n 3) 1 24 := ⟨by decide +kernel, rfl⟩
theorem eX5_arrange_24 : zD cX5_arrange 24 (.iload_n 3) 1 25 := ⟨by decide +kernel, rfl⟩
theorem eX5_arrange_25 : zD cX5_arrange 25 (.ifCond .le 52) 3 28 := ⟨by decide +kernel, rfl⟩
theorem eX5_arrange_28 : zD cX5_arrange 28 (.aload_n 0) 1 29 := ⟨by decide +kernel, rfl⟩
theorem eX5_arrange_29 : zD cX5_arrange 29 (.aload_n 0) 1 30 := ⟨by decide +kernel, rfl⟩
theorem eX5_arrange_30 : zD cX5_arrange 30 (.getfield 27) 3 33 := ⟨by decide +kernel, rfl⟩
theorem eX5_arrange_33 : zD cX5_arrange 33 (.iload_n 3) 1 34 := ⟨by decide +kernel, rfl⟩
theorem eX5_arrange_34 : zD cX5_arrange 34 (.iconst 1) 1 35 := ⟨by decide +kernel, rfl⟩
theorem eX5_arrange_35 : zD cX5_arrange 35 (.isub) 1 36 := ⟨by decide +kernel, rfl⟩
theorem eX5_arrange_36 : zD cX5_arrange 36 (.iaload) 1 37 := ⟨by decide +kernel, rfl⟩
theorem eX5_arrange_37 : zD cX5_arrange 37 (.aload_n 0) 1 38 := ⟨by decide +kernel, rfl⟩
theorem eX5_arrange_38 : zD cX5_arrange 38 (.getfield 21) 3 41 := ⟨by decide +kernel, rfl⟩
theorem eX5_arrange_41 : zD cX5_arrange 41 (.aload_n 0) 1 42 := ⟨by decide +kernel, rfl⟩
theorem eX5_arrange_42 : zD cX5_arrange 42 (.getfield 27) 3 45 := ⟨by decide +kernel, rfl⟩
theorem eX5_arrange_45 : zD cX5_arrange 45 (.iload_n 3) 1 46 := ⟨by decide +kernel, rfl⟩
theorem eX5_arrange_46 : zD cX5_arrange 46 (.iconst 1) 1 47 := ⟨by decide +kernel, rfl⟩
theorem eX5_arrange_47 : zD cX5_arrange 47 (.isub) 1 48 := ⟨by decide +kernel, rfl⟩
theorem eX5_arrange_48 : zD cX5_arrange 48 (.iaload) 1 49 := ⟨by decide +kernel, rfl⟩
theorem eX5_arrange_49 : zD cX5_arrange 49 (.iaload) 1 50 := ⟨by decide +kernel, rfl⟩
theorem eX5_arrange_50 : zD cX5_arrange 50 (.invokevirtual 102) 3 53 := ⟨by decide +kernel, rfl⟩
theorem eX5_arrange_53 : zD cX5_arrange 53 (.iload_n 2) 1 54 := ⟨by decide +kernel, rfl⟩
theorem eX5_arrange_54 : zD cX5_arrange 54 (.if_icmp .le 23) 3 57 := ⟨by decide +kernel, rfl⟩
theorem eX5_arrange_57 : zD cX5_arrange 57 (.aload_n 0) 1 58 := ⟨by decide +kernel, rfl⟩
theorem eX5_arrange_58 : zD cX5_arrange 58 (.getfield 27) 3 61 := ⟨by decide +kernel, rfl⟩
theorem eX5_arrange_61 : zD cX5_arrange 61 (.iload_n 3) 1 62 := ⟨by decide +kernel, rfl⟩
theorem eX5_arrange_62 : zD cX5_arrange 62 (.aload_n 0) 1 63 := ⟨by decide +kernel, rfl⟩
theorem eX5_arrange_63 : zD cX5_arrange 63 (.getfield 27) 3 66 := ⟨by decide +kernel, rfl⟩
theorem eX5_arrange_66 : zD cX5_arrange 66 (.iload_n 3) 1 67 := ⟨by decide +kernel, rfl⟩
theorem eX5_arrange_67 : zD cX5_arrange 67 (.iconst 1) 1 68 := ⟨by decide +kernel, rfl⟩
theorem eX5_arrange_68 : zD cX5_arrange 68 (.isub) 1 69 := ⟨by decide +kernel, rfl⟩
theorem eX5_arrange_69 : zD cX5_arrange 69 (.iaload) 1 70 := ⟨by decide +kernel, rfl⟩
theorem eX5_arrange_70 : zD cX5_arrange 70 (.iastore) 1 71 := ⟨by decide +kernel, rfl⟩
theorem eX5_arrange_71 : zD cX5_arrange 71 (.iinc 3 (-1)) 3 74 := ⟨by decide +kernel, rfl⟩
theorem eX5_arrange_74 : zD cX5_arrange 74 (.goto (-50)) 3 77 := ⟨by decide +kernel, rfl⟩
theorem eX5_arrange_77 : zD cX5_arrange 77 (.aload_n 0) 1 78 := ⟨by decide +kernel, rfl⟩
theorem eX5_arrange_78 : zD cX5_arrange 78 (.getfield 27) 3 81 := ⟨by decide +kernel, rfl⟩
theorem eX5_arrange_81 : zD cX5_arrange 81 (.iload_n 3) 1 82 := ⟨by decide +kernel, rfl⟩
theorem eX5_arrange_82 : zD cX5_arrange 82 (.iload_n 1) 1 83 := ⟨by decide +kernel, rfl⟩
theorem eX5_arrange_83 : zD cX5_arrange 83 (.iastore) 1 84 := ⟨by decide +kernel, rfl⟩
theorem eX5_arrange_84 : zD cX5_arrange 84 (.iinc 1 1) 3 87 := ⟨by decide +kernel, rfl⟩
theorem eX5_arrange_87 : zD cX5_arrange 87 (.goto (-85)) 3 90 := ⟨by decide +kernel, rfl⟩
theorem eX5_arrange_90 : zD cX5_arrange 90 (.return_) 1 91 := ⟨by decide +kernel, rfl⟩
theorem eX5_heightOf_0 : zD cX5_heightOf 0 (.aload_n 0) 1 1 := ⟨by decide +kernel, rfl⟩
theorem eX5_heightOf_1 : zD cX5_heightOf 1 (.invokevirtual 117) 3 4 := ⟨by decide +kernel, rfl⟩
theorem eX5_heightOf_4 : zD cX5_heightOf 4 (.iconst (-1)) 1 5 := ⟨by decide +kernel, rfl⟩
theorem eX5_heightOf_5 : zD cX5_heightOf 5 (.istore_n 2) 1 6 := ⟨by decide +kernel, rfl⟩
theorem eX5_heightOf_6 : zD cX5_heightOf 6 (.iconst 0) 1 7 := ⟨by decide +kernel, rfl⟩
theorem eX5_heightOf_7 : zD cX5_heightOf 7 (.istore_n 3) 1 8 := ⟨by decide +kernel, rfl⟩
theorem eX5_heightOf_8 : zD cX5_heightOf 8 (.iconst 0) 1 9 := ⟨by decide +kernel, rfl⟩
theorem eX5_heightOf_9 : zD cX5_heightOf 9 (.istore 4) 2 11 := ⟨by decide +kernel, rfl⟩
theorem eX5_heightOf_11 : zD cX5_heightOf 11 (.iload 4) 2 13 := ⟨by decide +kernel, rfl⟩
theorem eX5_heightOf_13 : zD cX5_heightOf 13 (.aload_n 0) 1 14 := ⟨by decide +kernel, rfl⟩
theorem eX5_heightOf_14 : zD cX5_heightOf 14 (.getfield 34) 3 17 := ⟨by decide +kernel, rfl⟩
theorem eX5_heightOf_17 : zD cX5_heightOf 17 (.if_icmp .ge 67) 3 20 := ⟨by decide +kernel, rfl⟩
theorem eX5_heightOf_20 : zD cX5_heightOf 20 (.aload_n 0) 1 21 := ⟨by decide +kernel, rfl⟩
theorem eX5_heightOf_21 : zD cX5_heightOf 21 (.getfield 27) 3 24 := ⟨by decide +kernel, rfl⟩
theorem eX5_heightOf_24 : zD cX5_heightOf 24 (.iload 4) 2 26 := ⟨by decide +kernel, rfl⟩
theorem eX5_heightOf_26 : zD cX5_heightOf 26 (.iaload) 1 27 := ⟨by decide +kernel, rfl⟩
theorem eX5_heightOf_27 : zD cX5_heightOf 27 (.istore 5) 2 29 := ⟨by decide +kernel, rfl⟩
theorem eX5_heightOf_29 : zD cX5_heightOf 29 (.iload_n 1) 1 30 := ⟨by decide +kernel, rfl⟩
theorem eX5_heightOf_30 : zD cX5_heightOf 30 (.iload 5) 2 32 := ⟨by decide +kernel, rfl⟩
theorem eX5_heightOf_32 : zD cX5_heightOf 32 (.ishr) 1 33 := ⟨by decide +kernel, rfl⟩
theorem eX5_heightOf_33 : zD cX5_heightOf 33 (.iconst 1) 1 34 := ⟨by decide +kernel, rfl⟩
theorem eX5_heightOf_34 : zD cX5_heightOf 34 (.iand) 1 35 := ⟨by decide +kernel, rfl⟩
theorem eX5_heightOf_35 : zD cX5_heightOf 35 (.iconst 1) 1 36 := ⟨by decide +kernel, rfl⟩
theorem eX5_heightOf_36 : zD cX5_heightOf 36 (.if_icmp .ne 42) 3 39 := ⟨by decide +kernel, rfl⟩
theorem eX5_heightOf_39 : zD cX5_heightOf 39 (.iload_n 2) 1 40 := ⟨by decide +kernel, rfl⟩
theorem eX5_heightOf_40 : zD cX5_heightOf 40 (.ifCond .lt 19) 3 43 := ⟨by decide +kernel, rfl⟩
theorem eX5_heightOf_43 : zD cX5_heightOf 43 (.aload_n 0) 1 44 := ⟨by decide +kernel, rfl⟩
theorem eX5_heightOf_44 : zD cX5_heightOf 44 (.iload_n 2) 1 45 := ⟨by decide +kernel, rfl⟩
theorem eX5_heightOf_45 : zD cX5_heightOf 45 (.iload 5) 2 47 := ⟨by decide +kernel, rfl⟩
theorem eX5_heightOf_47 : zD cX5_heightOf 47 (.aload_n 0) 1 48 := ⟨by decide +kernel, rfl⟩
theorem eX5_heightOf_48 : zD cX5_heightOf 48 (.getfield 38) 3 51 := ⟨by decide +kernel, rfl⟩
theorem eX5_heightOf_51 : zD cX5_heightOf 51 (.invokevirtual 120) 3 54 := ⟨by decide +kernel, rfl⟩
theorem eX5_heightOf_54 : zD cX5_heightOf 54 (.ifCond .ne 5) 3 57 := ⟨by decide +kernel, rfl⟩
theorem eX5_heightOf_57 : zD cX5_heightOf 57 (.iconst 0) 1 58 := ⟨by decide +kernel, rfl⟩
theorem eX5_heightOf_58 : zD cX5_heightOf 58 (.ireturn) 1 59 := ⟨by decide +kernel, rfl⟩
theorem eX5_heightOf_59 : zD cX5_heightOf 59 (.iload_n 3) 1 60 := ⟨by decide +kernel, rfl⟩
theorem eX5_heightOf_60 : zD cX5_heightOf 60 (.iload_n 2) 1 61 := ⟨by decide +kernel, rfl⟩
theorem eX5_heightOf_61 : zD cX5_heightOf 61 (.ifCond .lt 11) 3 64 := ⟨by decide +kernel, rfl⟩
theorem eX5_heightOf_64 : zD cX5_heightOf 64 (.aload_n 0) 1 65 := ⟨by decide +kernel, rfl⟩
theorem eX5_heightOf_65 : zD cX5_heightOf 65 (.iload_n 2) 1 66 := ⟨by decide +kernel, rfl⟩
theorem eX5_heightOf_66 : zD cX5_heightOf 66 (.invokevirtual 124) 3 69 := ⟨by decide +kernel, rfl⟩
theorem eX5_heightOf_69 : zD cX5_heightOf 69 (.goto 4) 3 72 := ⟨by decide +kernel, rfl⟩
theorem eX5_heightOf_72 : zD cX5_heightOf 72 (.iconst 0) 1 73 := ⟨by decide +kernel, rfl⟩
theorem eX5_heightOf_73 : zD cX5_heightOf 73 (.iadd) 1 74 := ⟨by decide +kernel, rfl⟩
theorem eX5_heightOf_74 : zD cX5_heightOf 74 (.istore_n 3) 1 75 := ⟨by decide +kernel, rfl⟩
theorem eX5_heightOf_75 : zD cX5_heightOf 75 (.iload 5) 2 77 := ⟨by decide +kernel, rfl⟩
theorem eX5_heightOf_77 : zD cX5_heightOf 77 (.istore_n 2) 1 78 := ⟨by decide +kernel, rfl⟩
theorem eX5_heightOf_78 : zD cX5_heightOf 78 (.iinc 4 1) 3 81 := ⟨by decide +kernel, rfl⟩
theorem eX5_heightOf_81 : zD cX5_heightOf 81 (.goto (-70)) 3 84 := ⟨by decide +kernel, rfl⟩
theorem eX5_heightOf_84 : zD cX5_heightOf 84 (.iload_n 2) 1 85 := ⟨by decide +kernel, rfl⟩
theorem eX5_heightOf_85 : zD cX5_heightOf 85 (.ifCond .lt 14) 3 88 := ⟨by decide +kernel, rfl⟩
theorem eX5_heightOf_88 : zD cX5_heightOf 88 (.iload_n 3) 1 89 := ⟨by decide +kernel, rfl⟩
theorem eX5_heightOf_89 : zD cX5_heightOf 89 (.aload_n 0) 1 90 := ⟨by decide +kernel, rfl⟩
theorem eX5_heightOf_90 : zD cX5_heightOf 90 (.getfield 24) 3 93 := ⟨by decide +kernel, rfl⟩
theorem eX5_heightOf_93 : zD cX5_heightOf 93 (.iload_n 2) 1 94 := ⟨by decide +kernel, rfl⟩
theorem eX5_heightOf_94 : zD cX5_heightOf 94 (.iaload) 1 95 := ⟨by decide +kernel, rfl⟩
theorem eX5_heightOf_95 : zD cX5_heightOf 95 (.iadd) 1 96 := ⟨by decide +kernel, rfl⟩
theorem eX5_heightOf_96 : zD cX5_heightOf 96 (.goto 4) 3 99 := ⟨by decide +kernel, rfl⟩
theorem eX5_heightOf_99 : zD cX5_heightOf 99 (.iconst 0) 1 100 := ⟨by decide +kernel, rfl⟩
theorem eX5_heightOf_100 : zD cX5_heightOf 100 (.ireturn) 1 101 := ⟨by decide +kernel, rfl⟩
theorem eX5_pairsIn_0 : zD cX5_pairsIn 0 (.iconst 0) 1 1 := ⟨by decide +kernel, rfl⟩
theorem eX5_pairsIn_1 : zD cX5_pairsIn 1 (.istore_n 1) 1 2 := ⟨by decide +kernel, rfl⟩
theorem eX5_pairsIn_2 : zD cX5_pairsIn 2 (.iconst 0) 1 3 := ⟨by decide +kernel, rfl⟩
theorem eX5_pairsIn_3 : zD cX5_pairsIn 3 (.istore_n 2) 1 4 := ⟨by decide +kernel, rfl⟩
theorem eX5_pairsIn_4 : zD cX5_pairsIn 4 (.iload_n 2) 1 5 := ⟨by decide +kernel, rfl⟩
theorem eX5_pairsIn_5 : zD cX5_pairsIn 5 (.aload_n 0) 1 6 := ⟨by decide +kernel, rfl⟩
theorem eX5_pairsIn_6 : zD cX5_pairsIn 6 (.getfield 34) 3 9 := ⟨by decide +kernel, rfl⟩
theorem eX5_pairsIn_9 : zD cX5_pairsIn 9 (.if_icmp .ge 46) 3 12 := ⟨by decide +kernel, rfl⟩
theorem eX5_pairsIn_12 : zD cX5_pairsIn 12 (.iconst 0) 1 13 := ⟨by decide +kernel, rfl⟩
theorem eX5_pairsIn_13 : zD cX5_pairsIn 13 (.istore_n 3) 1 14 := ⟨by decide +kernel, rfl⟩
theorem eX5_pairsIn_14 : zD cX5_pairsIn 14 (.iload_n 3) 1 15 := ⟨by decide +kernel, rfl⟩
theorem eX5_pairsIn_15 : zD cX5_pairsIn 15 (.aload_n 0) 1 16 := ⟨by decide +kernel, rfl⟩
theorem eX5_pairsIn_16 : zD cX5_pairsIn 16 (.getfield 34) 3 19 := ⟨by decide +kernel, rfl⟩
theorem eX5_pairsIn_19 : zD cX5_pairsIn 19 (.if_icmp .ge 30) 3 22 := ⟨by decide +kernel, rfl⟩
theorem eX5_pairsIn_22 : zD cX5_pairsIn 22 (.iload_n 2) 1 23 := ⟨by decide +kernel, rfl⟩
theorem eX5_pairsIn_23 : zD cX5_pairsIn 23 (.iload_n 3) 1 24 := ⟨by decide +kernel, rfl⟩
theorem eX5_pairsIn_24 : zD cX5_pairsIn 24 (.if_icmp .eq 19) 3 27 := ⟨by decide +kernel, rfl⟩
theorem eX5_pairsIn_27 : zD cX5_pairsIn 27 (.aload_n 0) 1 28 := ⟨by decide +kernel, rfl⟩
theorem eX5_pairsIn_28 : zD cX5_pairsIn 28 (.iload_n 2) 1 29 := ⟨by decide +kernel, rfl⟩
theorem eX5_pairsIn_29 : zD cX5_pairsIn 29 (.iload_n 3) 1 30 := ⟨by decide +kernel, rfl⟩
theorem eX5_pairsIn_30 : zD cX5_pairsIn 30 (.aload_n 0) 1 31 := ⟨by decide +kernel, rfl⟩
theorem eX5_pairsIn_31 : zD cX5_pairsIn 31 (.getfield 38) 3 34 := ⟨by decide +kernel, rfl⟩
theorem eX5_pairsIn_34 : zD cX5_pairsIn 34 (.invokevirtual 120) 3 37 := ⟨by decide +kernel, rfl⟩
theorem eX5_pairsIn_37 : zD cX5_pairsIn 37 (.ifCond .eq 6) 3 40 := ⟨by decide +kernel, rfl⟩
theorem eX5_pairsIn_40 : zD cX5_pairsIn 40 (.iinc 1 1) 3 43 := ⟨by decide +kernel, rfl⟩
theorem eX5_pairsIn_43 : zD cX5_pairsIn 43 (.iinc 3 1) 3 46 := ⟨by decide +kernel, rfl⟩
theorem eX5_pairsIn_46 : zD cX5_pairsIn 46 (.goto (-32)) 3 49 := ⟨by decide +kernel, rfl⟩
theorem eX5_pairsIn_49 : zD cX5_pairsIn 49 (.iinc 2 1) 3 52 := ⟨by decide +kernel, rfl⟩
theorem eX5_pairsIn_52 : zD cX5_pairsIn 52 (.goto (-48)) 3 55 := ⟨by decide +kernel, rfl⟩
theorem eX5_pairsIn_55 : zD cX5_pairsIn 55 (.iload_n 1) 1 56 := ⟨by decide +kernel, rfl⟩
theorem eX5_pairsIn_56 : zD cX5_pairsIn 56 (.ireturn) 1 57 := ⟨by decide +kernel, rfl⟩
theorem eX5_allDepths_0 : zD cX5_allDepths 0 (.iconst 0) 1 1 := ⟨by decide +kernel, rfl⟩
theorem eX5_allDepths_1 : zD cX5_allDepths 1 (.istore_n 1) 1 2 := ⟨by decide +kernel, rfl⟩
theorem eX5_allDepths_2 : zD cX5_allDepths 2 (.iconst 0) 1 3 := ⟨by decide +kernel, rfl⟩
theorem eX5_allDepths_3 : zD cX5_allDepths 3 (.istore_n 2) 1 4 := ⟨by decide +kernel, rfl⟩
theorem eX5_allDepths_4 : zD cX5_allDepths 4 (.iload_n 2) 1 5 := ⟨by decide +kernel, rfl⟩
theorem eX5_allDepths_5 : zD cX5_allDepths 5 (.aload_n 0) 1 6 := ⟨by decide +kernel, rfl⟩
theorem eX5_allDepths_6 : zD cX5_allDepths 6 (.getfield 34) 3 9 := ⟨by decide +kernel, rfl⟩
theorem eX5_allDepths_9 : zD cX5_allDepths 9 (.if_icmp .ge 18) 3 12 := ⟨by decide +kernel, rfl⟩
theorem eX5_allDepths_12 : zD cX5_allDepths 12 (.iload_n 1) 1 13 := ⟨by decide +kernel, rfl⟩
theorem eX5_allDepths_13 : zD cX5_allDepths 13 (.aload_n 0) 1 14 := ⟨by decide +kernel, rfl⟩
theorem eX5_allDepths_14 : zD cX5_allDepths 14 (.getfield 24) 3 17 := ⟨by decide +kernel, rfl⟩
theorem eX5_allDepths_17 : zD cX5_allDepths 17 (.iload_n 2) 1 18 := ⟨by decide +kernel, rfl⟩
theorem eX5_allDepths_18 : zD cX5_allDepths 18 (.iaload) 1 19 := ⟨by decide +kernel, rfl⟩
theorem eX5_allDepths_19 : zD cX5_allDepths 19 (.iadd) 1 20 := ⟨by decide +kernel, rfl⟩
theorem eX5_allDepths_20 : zD cX5_allDepths 20 (.istore_n 1) 1 21 := ⟨by decide +kernel, rfl⟩
theorem eX5_allDepths_21 : zD cX5_allDepths 21 (.iinc 2 1) 3 24 := ⟨by decide +kernel, rfl⟩
theorem eX5_allDepths_24 : zD cX5_allDepths 24 (.goto (-20)) 3 27 := ⟨by decide +kernel, rfl⟩
theorem eX5_allDepths_27 : zD cX5_allDepths 27 (.iload_n 1) 1 28 := ⟨by decide +kernel, rfl⟩
theorem eX5_allDepths_28 : zD cX5_allDepths 28 (.ireturn) 1 29 := ⟨by decide +kernel, rfl⟩
theorem eX6_init_0 : zD cX6_init 0 (.aload_n 0) 1 1 := ⟨by decide +kernel, rfl⟩
theorem eX6_init_1 : zD cX6_init 1 (.invokespecial 1) 3 4 := ⟨by decide +kernel, rfl⟩
theorem eX6_init_4 : zD cX6_init 4 (.return_) 1 5 := ⟨by decide +kernel, rfl⟩
theorem eX6_outside_0 : zD cX6_outside 0 (.iconst 1) 1 1 := ⟨by decide +kernel, rfl⟩
theorem eX6_outside_1 : zD cX6_outside 1 (.aload_n 0) 1 2 := ⟨by decide +kernel, rfl⟩
theorem eX6_outside_2 : zD cX6_outside 2 (.iload_n 1) 1 3 := ⟨by decide +kernel, rfl⟩
theorem eX6_outside_3 : zD cX6_outside 3 (.iload_n 2) 1 4 := ⟨by decide +kernel, rfl⟩
theorem eX6_outside_4 : zD cX6_outside 4 (.iload_n 3) 1 5 := ⟨by decide +kernel, rfl⟩
theorem eX6_outside_5 : zD cX6_outside 5 (.invokespecial 7) 3 8 := ⟨by decide +kernel, rfl⟩
theorem eX6_outside_8 : zD cX6_outside 8 (.iload_n 2) 1 9 := ⟨by decide +kernel, rfl⟩
theorem eX6_outside_9 : zD cX6_outside 9 (.isub) 1 10 := ⟨by decide +kernel, rfl⟩
theorem eX6_outside_10 : zD cX6_outside 10 (.invokestatic 11) 3 13 := ⟨by decide +kernel, rfl⟩
theorem eX6_outside_13 : zD cX6_outside 13 (.ireturn) 1 14 := ⟨by decide +kernel, rfl⟩
theorem eX6_inside_0 : zD cX6_inside 0 (.iconst 0) 1 1 := ⟨by decide +kernel, rfl⟩
theorem eX6_inside_1 : zD cX6_inside 1 (.ireturn) 1 2 := ⟨by decide +kernel, rfl⟩
theorem eX6_rise_0 : zD cX6_rise 0 (.aload_n 0) 1 1 := ⟨by decide +kernel, rfl⟩
theorem eX6_rise_1 : zD cX6_rise 1 (.iload_n 1) 1 2 := ⟨by decide +kernel, rfl⟩
theorem eX6_rise_2 : zD cX6_rise 2 (.invokespecial 17) 3 5 := ⟨by decide +kernel, rfl⟩
theorem eX6_rise_5 : zD cX6_rise 5 (.iconst 1) 1 6 := ⟨by decide +kernel, rfl⟩
theorem eX6_rise_6 : zD cX6_rise 6 (.iadd) 1 7 := ⟨by decide +kernel, rfl⟩
theorem eX6_rise_7 : zD cX6_rise 7 (.ireturn) 1 8 := ⟨by decide +kernel, rfl⟩
theorem eX6_cost_0 : zD cX6_cost 0 (.aload_n 0) 1 1 := ⟨by decide +kernel, rfl⟩
theorem eX6_cost_1 : zD cX6_cost 1 (.iload_n 1) 1 2 := ⟨by decide +kernel, rfl⟩
theorem eX6_cost_2 : zD cX6_cost 2 (.invokespecial 21) 3 5 := ⟨by decide +kernel, rfl⟩
theorem eX6_cost_5 : zD cX6_cost 5 (.iconst 1) 1 6 := ⟨by decide +kernel, rfl⟩
theorem eX6_cost_6 : zD cX6_cost 6 (.isub) 1 7 := ⟨by decide +kernel, rfl⟩
theorem eX6_cost_7 : zD cX6_cost 7 (.ireturn) 1 8 := ⟨by decide +kernel, rfl⟩
theorem eX7_init_0 : zD cX7_init 0 (.aload_n 0) 1 1 := ⟨by decide +kernel, rfl⟩
theorem eX7_init_1 : zD cX7_init 1 (.invokespecial 3) 3 4 := ⟨by decide +kernel, rfl⟩
theorem eX7_init_4 : zD cX7_init 4 (.aload_n 0) 1 5 := ⟨by decide +kernel, rfl⟩
theorem eX7_init_5 : zD cX7_init 5 (.sipush 512) 3 8 := ⟨by decide +kernel, rfl⟩
theorem eX7_init_8 : zD cX7_init 8 (.newarray .int) 2 10 := ⟨by decide +kernel, rfl⟩
theorem eX7_init_10 : zD cX7_init 10 (.putfield 9) 3 13 := ⟨by decide +kernel, rfl⟩
theorem eX7_init_13 : zD cX7_init 13 (.aload_n 0) 1 14 := ⟨by decide +kernel, rfl⟩
theorem eX7_init_14 : zD cX7_init 14 (.sipush 512) 3 17 := ⟨by decide +kernel, rfl⟩
theorem eX7_init_17 : zD cX7_init 17 (.newarray .int) 2 19 := ⟨by decide +kernel, rfl⟩
theorem eX7_init_19 : zD cX7_init 19 (.putfield 15) 3 22 := ⟨by decide +kernel, rfl⟩
theorem eX7_init_22 : zD cX7_init 22 (.aload_n 0) 1 23 := ⟨by decide +kernel, rfl⟩
theorem eX7_init_23 : zD cX7_init 23 (.sipush 512) 3 26 := ⟨by decide +kernel, rfl⟩
theorem eX7_init_26 : zD cX7_init 26 (.newarray .int) 2 28 := ⟨by decide +kernel, rfl⟩
theorem eX7_init_28 : zD cX7_init 28 (.putfield 18) 3 31 := ⟨by decide +kernel, rfl⟩
theorem eX7_init_31 : zD cX7_init 31 (.aload_n 0) 1 32 := ⟨by decide +kernel, rfl⟩
theorem eX7_init_32 : zD cX7_init 32 (.sipush 512) 3 35 := ⟨by decide +kernel, rfl⟩
theorem eX7_init_35 : zD cX7_init 35 (.newarray .int) 2 37 := ⟨by decide +kernel, rfl⟩
theorem eX7_init_37 : zD cX7_init 37 (.putfield 21) 3 40 := ⟨by decide +kernel, rfl⟩
theorem eX7_init_40 : zD cX7_init 40 (.aload_n 0) 1 41 := ⟨by decide +kernel, rfl⟩
theorem eX7_init_41 : zD cX7_init 41 (.sipush 512) 3 44 := ⟨by decide +kernel, rfl⟩
theorem eX7_init_44 : zD cX7_init 44 (.newarray .int) 2 46 := ⟨by decide +kernel, rfl⟩
theorem eX7_init_46 : zD cX7_init 46 (.putfield 24) 3 49 := ⟨by decide +kernel, rfl⟩
theorem eX7_init_49 : zD cX7_init 49 (.aload_n 0) 1 50 := ⟨by decide +kernel, rfl⟩
theorem eX7_init_50 : zD cX7_init 50 (.bipush 9) 2 52 := ⟨by decide +kernel, rfl⟩
theorem eX7_init_52 : zD cX7_init 52 (.newarray .int) 2 54 := ⟨by decide +kernel, rfl⟩
theorem eX7_init_54 : zD cX7_init 54 (.putfield 27) 3 57 := ⟨by decide +kernel, rfl⟩
theorem eX7_init_57 : zD cX7_init 57 (.aload_n 0) 1 58 := ⟨by decide +kernel, rfl⟩
theorem eX7_init_58 : zD cX7_init 58 (.bipush 9) 2 60 := ⟨by decide +kernel, rfl⟩
theorem eX7_init_60 : zD cX7_init 60 (.newarray .int) 2 62 := ⟨by decide +kernel, rfl⟩
theorem eX7_init_62 : zD cX7_init 62 (.putfield 30) 3 65 := ⟨by decide +kernel, rfl⟩
theorem eX7_init_65 : zD cX7_init 65 (.aload_n 0) 1 66 := ⟨by decide +kernel, rfl⟩
theorem eX7_init_66 : zD cX7_init 66 (.bipush 9) 2 68 := ⟨by decide +kernel, rfl⟩
theorem eX7_init_68 : zD cX7_init 68 (.newarray .int) 2 70 := ⟨by decide +kernel, rfl⟩
theorem eX7_init_70 : zD cX7_init 70 (.putfield 33) 3 73 := ⟨by decide +kernel, rfl⟩
theorem eX7_init_73 : zD cX7_init 73 (.return_) 1 74 := ⟨by decide +kernel, rfl⟩
theorem eX7_findAll_0 : zD cX7_findAll 0 (.aload_n 0) 1 1 := ⟨by decide +kernel, rfl⟩
theorem eX7_findAll_1 : zD cX7_findAll 1 (.aload_n 1) 1 2 := ⟨by decide +kernel, rfl⟩
theorem eX7_findAll_2 : zD cX7_findAll 2 (.getfield 36) 3 5 := ⟨by decide +kernel, rfl⟩
theorem eX7_findAll_5 : zD cX7_findAll 5 (.bipush 9) 2 7 := ⟨by decide +kernel, rfl⟩
theorem eX7_findAll_7 : zD cX7_findAll 7 (.invokestatic 42) 3 10 := ⟨by decide +kernel, rfl⟩
theorem eX7_findAll_10 : zD cX7_findAll 10 (.putfield 48) 3 13 := ⟨by decide +kernel, rfl⟩
theorem eX7_findAll_13 : zD cX7_findAll 13 (.aload_n 0) 1 14 := ⟨by decide +kernel, rfl⟩
theorem eX7_findAll_14 : zD cX7_findAll 14 (.iconst 1) 1 15 := ⟨by decide +kernel, rfl⟩
theorem eX7_findAll_15 : zD cX7_findAll 15 (.aload_n 0) 1 16 := ⟨by decide +kernel, rfl⟩
theorem eX7_findAll_16 : zD cX7_findAll 16 (.getfield 48) 3 19 := ⟨by decide +kernel, rfl⟩
theorem eX7_findAll_19 : zD cX7_findAll 19 (.ishl) 1 20 := ⟨by decide +kernel, rfl⟩
theorem eX7_findAll_20 : zD cX7_findAll 20 (.iconst 1) 1 21 := ⟨by decide +kernel, rfl⟩
theorem eX7_findAll_21 : zD cX7_findAll 21 (.isub) 1 22 := ⟨by decide +kernel, rfl⟩
theorem eX7_findAll_22 : zD cX7_findAll 22 (.putfield 51) 3 25 := ⟨by decide +kernel, rfl⟩
theorem eX7_findAll_25 : zD cX7_findAll 25 (.aload_n 0) 1 26 := ⟨by decide +kernel, rfl⟩
theorem eX7_findAll_26 : zD cX7_findAll 26 (.iconst 0) 1 27 := ⟨by decide +kernel, rfl⟩
theorem eX7_findAll_27 : zD cX7_findAll 27 (.putfield 54) 3 30 := ⟨by decide +kernel, rfl⟩
theorem eX7_findAll_30 : zD cX7_findAll 30 (.iconst 0) 1 31 := ⟨by decide +kernel, rfl⟩
theorem eX7_findAll_31 : zD cX7_findAll 31 (.istore_n 2) 1 32 := ⟨by decide +kernel, rfl⟩
theorem eX7_findAll_32 : zD cX7_findAll 32 (.iload_n 2) 1 33 := ⟨by decide +kernel, rfl⟩
theorem eX7_findAll_33 : zD cX7_findAll 33 (.aload_n 0) 1 34 := ⟨by decide +kernel, rfl⟩
theorem eX7_findAll_34 : zD cX7_findAll 34 (.getfield 51) 3 37 := ⟨by decide +kernel, rfl⟩
theorem eX7_findAll_37 : zD cX7_findAll 37 (.if_icmp .gt 16) 3 40 := ⟨by decide +kernel, rfl⟩
theorem eX7_findAll_40 : zD cX7_findAll 40 (.aload_n 0) 1 41 := ⟨by decide +kernel, rfl⟩
theorem eX7_findAll_41 : zD cX7_findAll 41 (.getfield 9) 3 44 := ⟨by decide +kernel, rfl⟩
theorem eX7_findAll_44 : zD cX7_findAll 44 (.iload_n 2) 1 45 := ⟨by decide +kernel, rfl⟩
theorem eX7_findAll_45 : zD cX7_findAll 45 (.iconst 0) 1 46 := ⟨by decide +kernel, rfl⟩
theorem eX7_findAll_46 : zD cX7_findAll 46 (.iastore) 1 47 := ⟨by decide +kernel, rfl⟩
theorem eX7_findAll_47 : zD cX7_findAll 47 (.iinc 2 1) 3 50 := ⟨by decide +kernel, rfl⟩
theorem eX7_findAll_50 : zD cX7_findAll 50 (.goto (-18)) 3 53 := ⟨by decide +kernel, rfl⟩
theorem eX7_findAll_53 : zD cX7_findAll 53 (.aload_n 1) 1 54 := ⟨by decide +kernel, rfl⟩
theorem eX7_findAll_54 : zD cX7_findAll 54 (.invokevirtual 57) 3 57 := ⟨by decide +kernel, rfl⟩
theorem eX7_findAll_57 : zD cX7_findAll 57 (.aload_n 0) 1 58 := ⟨by decide +kernel, rfl⟩
theorem eX7_findAll_58 : zD cX7_findAll 58 (.getfield 48) 3 61 := ⟨by decide +kernel, rfl⟩
theorem eX7_findAll_61 : zD cX7_findAll 61 (.iconst 1) 1 62 := ⟨by decide +kernel, rfl⟩
theorem eX7_findAll_62 : zD cX7_findAll 62 (.isub) 1 63 := ⟨by decide +kernel, rfl⟩
theorem eX7_findAll_63 : zD cX7_findAll 63 (.istore_n 2) 1 64 := ⟨by decide +kernel, rfl⟩
theorem eX7_findAll_64 : zD cX7_findAll 64 (.iload_n 2) 1 65 := ⟨by decide +kernel, rfl⟩
theorem eX7_findAll_65 : zD cX7_findAll 65 (.ifCond .lt 80) 3 68 := ⟨by decide +kernel, rfl⟩
theorem eX7_findAll_68 : zD cX7_findAll 68 (.aload_n 1) 1 69 := ⟨by decide +kernel, rfl⟩
theorem eX7_findAll_69 : zD cX7_findAll 69 (.getfield 60) 3 72 := ⟨by decide +kernel, rfl⟩
theorem eX7_findAll_72 : zD cX7_findAll 72 (.iload_n 2) 1 73 := ⟨by decide +kernel, rfl⟩
theorem eX7_findAll_73 : zD cX7_findAll 73 (.iaload) 1 74 := ⟨by decide +kernel, rfl⟩
theorem eX7_findAll_74 : zD cX7_findAll 74 (.istore_n 3) 1 75 := ⟨by decide +kernel, rfl⟩
theorem eX7_findAll_75 : zD cX7_findAll 75 (.aload_n 0) 1 76 := ⟨by decide +kernel, rfl⟩
theorem eX7_findAll_76 : zD cX7_findAll 76 (.getfield 27) 3 79 := ⟨by decide +kernel, rfl⟩
theorem eX7_findAll_79 : zD cX7_findAll 79 (.iload_n 3) 1 80 := ⟨by decide +kernel, rfl⟩
theorem eX7_findAll_80 : zD cX7_findAll 80 (.iconst 0) 1 81 := ⟨by decide +kernel, rfl⟩
theorem eX7_findAll_81 : zD cX7_findAll 81 (.iastore) 1 82 := ⟨by decide +kernel, rfl⟩
theorem eX7_findAll_82 : zD cX7_findAll 82 (.iconst 0) 1 83 := ⟨by decide +kernel, rfl⟩
theorem eX7_findAll_83 : zD cX7_findAll 83 (.istore 4) 2 85 := ⟨by decide +kernel, rfl⟩
theorem eX7_findAll_85 : zD cX7_findAll 85 (.iload 4) 2 87 := ⟨by decide +kernel, rfl⟩
theorem eX7_findAll_87 : zD cX7_findAll 87 (.aload_n 0) 1 88 := ⟨by decide +kernel, rfl⟩
theorem eX7_findAll_88 : zD cX7_findAll 88 (.getfield 48) 3 91 := ⟨by decide +kernel, rfl⟩
theorem eX7_findAll_91 : zD cX7_findAll 91 (.if_icmp .ge 42) 3 94 := ⟨by decide +kernel, rfl⟩
theorem eX7_findAll_94 : zD cX7_findAll 94 (.iload 4) 2 96 := ⟨by decide +kernel, rfl⟩
theorem eX7_findAll_96 : zD cX7_findAll 96 (.iload_n 3) 1 97 := ⟨by decide +kernel, rfl⟩
theorem eX7_findAll_97 : zD cX7_findAll 97 (.if_icmp .eq 30) 3 100 := ⟨by decide +kernel, rfl⟩
theorem eX7_findAll_100 : zD cX7_findAll 100 (.aload_n 1) 1 101 := ⟨by decide +kernel, rfl⟩
theorem eX7_findAll_101 : zD cX7_findAll 101 (.iload_n 3) 1 102 := ⟨by decide +kernel, rfl⟩
theorem eX7_findAll_102 : zD cX7_findAll 102 (.iload 4) 2 104 := ⟨by decide +kernel, rfl⟩
theorem eX7_findAll_104 : zD cX7_findAll 104 (.aload_n 1) 1 105 := ⟨by decide +kernel, rfl⟩
theorem eX7_findAll_105 : zD cX7_findAll 105 (.getfield 63) 3 108 := ⟨by decide +kernel, rfl⟩
theorem eX7_findAll_108 : zD cX7_findAll 108 (.invokevirtual 66) 3 111 := ⟨by decide +kernel, rfl⟩
theorem eX7_findAll_111 : zD cX7_findAll 111 (.ifCond .eq 16) 3 114 := ⟨by decide +kernel, rfl⟩
theorem eX7_findAll_114 : zD cX7_findAll 114 (.aload_n 0) 1 115 := ⟨by decide +kernel, rfl⟩
theorem eX7_findAll_115 : zD cX7_findAll 115 (.getfield 27) 3 118 := ⟨by decide +kernel, rfl⟩
theorem eX7_findAll_118 : zD cX7_findAll 118 (.iload_n 3) 1 119 := ⟨by decide +kernel, rfl⟩
theorem eX7_findAll_119 : zD cX7_findAll 119 (.dup2) 1 120 := ⟨by decide +kernel, rfl⟩
theorem eX7_findAll_120 : zD cX7_findAll 120 (.iaload) 1 121 := ⟨by decide +kernel, rfl⟩
theorem eX7_findAll_121 : zD cX7_findAll 121 (.iconst 1) 1 122 := ⟨by decide +kernel, rfl⟩
theorem eX7_findAll_122 : zD cX7_findAll 122 (.iload 4) 2 124 := ⟨by decide +kernel, rfl⟩
theorem eX7_findAll_124 : zD cX7_findAll 124 (.ishl) 1 125 := ⟨by decide +kernel, rfl⟩
theorem eX7_findAll_125 : zD cX7_findAll 125 (.ior) 1 126 := ⟨by decide +kernel, rfl⟩
theorem eX7_findAll_126 : zD cX7_findAll 126 (.iastore) 1 127 := ⟨by decide +kernel, rfl⟩
theorem eX7_findAll_127 : zD cX7_findAll 127 (.iinc 4 1) 3 130 := ⟨by decide +kernel, rfl⟩
theorem eX7_findAll_130 : zD cX7_findAll 130 (.goto (-45)) 3 133 := ⟨by decide +kernel, rfl⟩
theorem eX7_findAll_133 : zD cX7_findAll 133 (.aload_n 0) 1 134 := ⟨by decide +kernel, rfl⟩
theorem eX7_findAll_134 : zD cX7_findAll 134 (.aload_n 1) 1 135 := ⟨by decide +kernel, rfl⟩
theorem eX7_findAll_135 : zD cX7_findAll 135 (.iload_n 3) 1 136 := ⟨by decide +kernel, rfl⟩
theorem eX7_findAll_136 : zD cX7_findAll 136 (.invokevirtual 70) 3 139 := ⟨by decide +kernel, rfl⟩
theorem eX7_findAll_139 : zD cX7_findAll 139 (.iinc 2 (-1)) 3 142 := ⟨by decide +kernel, rfl⟩
theorem eX7_findAll_142 : zD cX7_findAll 142 (.goto (-78)) 3 145 := ⟨by decide +kernel, rfl⟩
theorem eX7_findAll_145 : zD cX7_findAll 145 (.return_) 1 146 := ⟨by decide +kernel, rfl⟩
theorem eX7_growBy_0 : zD cX7_growBy 0 (.aload_n 0) 1 1 := ⟨by decide +kernel, rfl⟩
theorem eX7_growBy_1 : zD cX7_growBy 1 (.getfield 54) 3 4 := ⟨by decide +kernel, rfl⟩
theorem eX7_growBy_4 : zD cX7_growBy 4 (.istore_n 3) 1 5 := ⟨by decide +kernel, rfl⟩
theorem eX7_growBy_5 : zD cX7_growBy 5 (.aload_n 1) 1 6 := ⟨by decide +kernel, rfl⟩
theorem eX7_growBy_6 : zD cX7_growBy 6 (.iload_n 2) 1 7 := ⟨by decide +kernel, rfl⟩
theorem eX7_growBy_7 : zD cX7_growBy 7 (.invokevirtual 74) 3 10 := ⟨by decide +kernel, rfl⟩
theorem eX7_growBy_10 : zD cX7_growBy 10 (.istore 4) 2 12 := ⟨by decide +kernel, rfl⟩
theorem eX7_growBy_12 : zD cX7_growBy 12 (.aload_n 0) 1 13 := ⟨by decide +kernel, rfl⟩
theorem eX7_growBy_13 : zD cX7_growBy 13 (.iconst 1) 1 14 := ⟨by decide +kernel, rfl⟩
theorem eX7_growBy_14 : zD cX7_growBy 14 (.iload_n 2) 1 15 := ⟨by decide +kernel, rfl⟩
theorem eX7_growBy_15 : zD cX7_growBy 15 (.ishl) 1 16 := ⟨by decide +kernel, rfl⟩
theorem eX7_growBy_16 : zD cX7_growBy 16 (.iload_n 2) 1 17 := ⟨by decide +kernel, rfl⟩
theorem eX7_growBy_17 : zD cX7_growBy 17 (.aload_n 1) 1 18 := ⟨by decide +kernel, rfl⟩
theorem eX7_growBy_18 : zD cX7_growBy 18 (.getfield 78) 3 21 := ⟨by decide +kernel, rfl⟩
theorem eX7_growBy_21 : zD cX7_growBy 21 (.iload_n 2) 1 22 := ⟨by decide +kernel, rfl⟩
theorem eX7_growBy_22 : zD cX7_growBy 22 (.iaload) 1 23 := ⟨by decide +kernel, rfl⟩
theorem eX7_growBy_23 : zD cX7_growBy 23 (.invokevirtual 81) 3 26 := ⟨by decide +kernel, rfl⟩
theorem eX7_growBy_26 : zD cX7_growBy 26 (.iconst 0) 1 27 := ⟨by decide +kernel, rfl⟩
theorem eX7_growBy_27 : zD cX7_growBy 27 (.istore 5) 2 29 := ⟨by decide +kernel, rfl⟩
theorem eX7_growBy_29 : zD cX7_growBy 29 (.iload 5) 2 31 := ⟨by decide +kernel, rfl⟩
theorem eX7_growBy_31 : zD cX7_growBy 31 (.iload_n 3) 1 32 := ⟨by decide +kernel, rfl⟩
theorem eX7_growBy_32 : zD cX7_growBy 32 (.if_icmp .ge 59) 3 35 := ⟨by decide +kernel, rfl⟩
theorem eX7_growBy_35 : zD cX7_growBy 35 (.aload_n 0) 1 36 := ⟨by decide +kernel, rfl⟩
theorem eX7_growBy_36 : zD cX7_growBy 36 (.getfield 18) 3 39 := ⟨by decide +kernel, rfl⟩
theorem eX7_growBy_39 : zD cX7_growBy 39 (.iload 5) 2 41 := ⟨by decide +kernel, rfl⟩
theorem eX7_growBy_41 : zD cX7_growBy 41 (.iaload) 1 42 := ⟨by decide +kernel, rfl⟩
theorem eX7_growBy_42 : zD cX7_growBy 42 (.istore 6) 2 44 := ⟨by decide +kernel, rfl⟩
theorem eX7_growBy_44 : zD cX7_growBy 44 (.aload_n 0) 1 45 := ⟨by decide +kernel, rfl⟩
theorem eX7_growBy_45 : zD cX7_growBy 45 (.getfield 27) 3 48 := ⟨by decide +kernel, rfl⟩
theorem eX7_growBy_48 : zD cX7_growBy 48 (.iload_n 2) 1 49 := ⟨by decide +kernel, rfl⟩
theorem eX7_growBy_49 : zD cX7_growBy 49 (.iaload) 1 50 := ⟨by decide +kernel, rfl⟩
theorem eX7_growBy_50 : zD cX7_growBy 50 (.aload_n 0) 1 51 := ⟨by decide +kernel, rfl⟩
theorem eX7_growBy_51 : zD cX7_growBy 51 (.getfield 15) 3 54 := ⟨by decide +kernel, rfl⟩
theorem eX7_growBy_54 : zD cX7_growBy 54 (.iload 6) 2 56 := ⟨by decide +kernel, rfl⟩
theorem eX7_growBy_56 : zD cX7_growBy 56 (.iaload) 1 57 := ⟨by decide +kernel, rfl⟩
theorem eX7_growBy_57 : zD cX7_growBy 57 (.ishr) 1 58 := ⟨by decide +kernel, rfl⟩
theorem eX7_growBy_58 : zD cX7_growBy 58 (.iconst 1) 1 59 := ⟨by decide +kernel, rfl⟩
theorem eX7_growBy_59 : zD cX7_growBy 59 (.iand) 1 60 := ⟨by decide +kernel, rfl⟩
theorem eX7_growBy_60 : zD cX7_growBy 60 (.iconst 1) 1 61 := ⟨by decide +kernel, rfl⟩
theorem eX7_growBy_61 : zD cX7_growBy 61 (.if_icmp .ne 24) 3 64 := ⟨by decide +kernel, rfl⟩
theorem eX7_growBy_64 : zD cX7_growBy 64 (.aload_n 0) 1 65 := ⟨by decide +kernel, rfl⟩
theorem eX7_growBy_65 : zD cX7_growBy 65 (.iload 6) 2 67 := ⟨by decide +kernel, rfl⟩
theorem eX7_growBy_67 : zD cX7_growBy 67 (.iconst 1) 1 68 := ⟨by decide +kernel, rfl⟩
theorem eX7_growBy_68 : zD cX7_growBy 68 (.iload_n 2) 1 69 := ⟨by decide +kernel, rfl⟩
theorem eX7_growBy_69 : zD cX7_growBy 69 (.ishl) 1 70 := ⟨by decide +kernel, rfl⟩
theorem eX7_growBy_70 : zD cX7_growBy 70 (.ior) 1 71 := ⟨by decide +kernel, rfl⟩
theorem eX7_growBy_71 : zD cX7_growBy 71 (.iload_n 2) 1 72 := ⟨by decide +kernel, rfl⟩
theorem eX7_growBy_72 : zD cX7_growBy 72 (.aload_n 0) 1 73 := ⟨by decide +kernel, rfl⟩
theorem eX7_growBy_73 : zD cX7_growBy 73 (.getfield 9) 3 76 := ⟨by decide +kernel, rfl⟩
theorem eX7_growBy_76 : zD cX7_growBy 76 (.iload 6) 2 78 := ⟨by decide +kernel, rfl⟩
theorem eX7_growBy_78 : zD cX7_growBy 78 (.iaload) 1 79 := ⟨by decide +kernel, rfl⟩
theorem eX7_growBy_79 : zD cX7_growBy 79 (.iload 4) 2 81 := ⟨by decide +kernel, rfl⟩
theorem eX7_growBy_81 : zD cX7_growBy 81 (.iadd) 1 82 := ⟨by decide +kernel, rfl⟩
theorem eX7_growBy_82 : zD cX7_growBy 82 (.invokevirtual 81) 3 85 := ⟨by decide +kernel, rfl⟩
theorem eX7_growBy_85 : zD cX7_growBy 85 (.iinc 5 1) 3 88 := ⟨by decide +kernel, rfl⟩
theorem eX7_growBy_88 : zD cX7_growBy 88 (.goto (-59)) 3 91 := ⟨by decide +kernel, rfl⟩
theorem eX7_growBy_91 : zD cX7_growBy 91 (.return_) 1 92 := ⟨by decide +kernel, rfl⟩
theorem eX7_note_0 : zD cX7_note 0 (.aload_n 0) 1 1 := ⟨by decide +kernel, rfl⟩
theorem eX7_note_1 : zD cX7_note 1 (.getfield 9) 3 4 := ⟨by decide +kernel, rfl⟩
theorem eX7_note_4 : zD cX7_note 4 (.iload_n 1) 1 5 := ⟨by decide +kernel, rfl⟩
theorem eX7_note_5 : zD cX7_note 5 (.iload_n 3) 1 6 := ⟨by decide +kernel, rfl⟩
theorem eX7_note_6 : zD cX7_note 6 (.iastore) 1 7 := ⟨by decide +kernel, rfl⟩
theorem eX7_note_7 : zD cX7_note 7 (.aload_n 0) 1 8 := ⟨by decide +kernel, rfl⟩
theorem eX7_note_8 : zD cX7_note 8 (.getfield 15) 3 11 := ⟨by decide +kernel, rfl⟩
theorem eX7_note_11 : zD cX7_note 11 (.iload_n 1) 1 12 := ⟨by decide +kernel, rfl⟩
theorem eX7_note_12 : zD cX7_note 12 (.iload_n 2) 1 13 := ⟨by decide +kernel, rfl⟩
theorem eX7_note_13 : zD cX7_note 13 (.iastore) 1 14 := ⟨by decide +kernel, rfl⟩
theorem eX7_note_14 : zD cX7_note 14 (.aload_n 0) 1 15 := ⟨by decide +kernel, rfl⟩
theorem eX7_note_15 : zD cX7_note 15 (.getfield 18) 3 18 := ⟨by decide +kernel, rfl⟩
theorem eX7_note_18 : zD cX7_note 18 (.aload_n 0) 1 19 := ⟨by decide +kernel, rfl⟩
theorem eX7_note_19 : zD cX7_note 19 (.getfield 54) 3 22 := ⟨by decide +kernel, rfl⟩
theorem eX7_note_22 : zD cX7_note 22 (.iload_n 1) 1 23 := ⟨by decide +kernel, rfl⟩
theorem eX7_note_23 : zD cX7_note 23 (.iastore) 1 24 := ⟨by decide +kernel, rfl⟩
theorem eX7_note_24 : zD cX7_note 24 (.aload_n 0) 1 25 := ⟨by decide +kernel, rfl⟩
theorem eX7_note_25 : zD cX7_note 25 (.dup) 1 26 := ⟨by decide +kernel, rfl⟩
theorem eX7_note_26 : zD cX7_note 26 (.getfield 54) 3 29 := ⟨by decide +kernel, rfl⟩
theorem eX7_note_29 : zD cX7_note 29 (.iconst 1) 1 30 := ⟨by decide +kernel, rfl⟩
theorem eX7_note_30 : zD cX7_note 30 (.iadd) 1 31 := ⟨by decide +kernel, rfl⟩
theorem eX7_note_31 : zD cX7_note 31 (.putfield 54) 3 34 := ⟨by decide +kernel, rfl⟩
theorem eX7_note_34 : zD cX7_note 34 (.return_) 1 35 := ⟨by decide +kernel, rfl⟩
theorem eX7_longestOf_0 : zD cX7_longestOf 0 (.iconst 0) 1 1 := ⟨by decide +kernel, rfl⟩
theorem eX7_longestOf_1 : zD cX7_longestOf 1 (.istore_n 2) 1 2 := ⟨by decide +kernel, rfl⟩
theorem eX7_longestOf_2 : zD cX7_longestOf 2 (.iconst 0) 1 3 := ⟨by decide +kernel, rfl⟩
theorem eX7_longestOf_3 : zD cX7_longestOf 3 (.istore_n 3) 1 4 := ⟨by decide +kernel, rfl⟩
theorem eX7_longestOf_4 : zD cX7_longestOf 4 (.iload_n 3) 1 5 := ⟨by decide +kernel, rfl⟩
theorem eX7_longestOf_5 : zD cX7_longestOf 5 (.aload_n 0) 1 6 := ⟨by decide +kernel, rfl⟩
theorem eX7_longestOf_6 : zD cX7_longestOf 6 (.getfield 54) 3 9 := ⟨by decide +kernel, rfl⟩
theorem eX7_longestOf_9 : zD cX7_longestOf 9 (.if_icmp .ge 39) 3 12 := ⟨by decide +kernel, rfl⟩
theorem eX7_longestOf_12 : zD cX7_longestOf 12 (.aload_n 0) 1 13 := ⟨by decide +kernel, rfl⟩
theorem eX7_longestOf_13 : zD cX7_longestOf 13 (.getfield 18) 3 16 := ⟨by decide +kernel, rfl⟩
theorem eX7_longestOf_16 : zD cX7_longestOf 16 (.iload_n 3) 1 17 := ⟨by decide +kernel, rfl⟩
theorem eX7_longestOf_17 : zD cX7_longestOf 17 (.iaload) 1 18 := ⟨by decide +kernel, rfl⟩
theorem eX7_longestOf_18 : zD cX7_longestOf 18 (.istore 4) 2 20 := ⟨by decide +kernel, rfl⟩
theorem eX7_longestOf_20 : zD cX7_longestOf 20 (.iload 4) 2 22 := ⟨by decide +kernel, rfl⟩
theorem eX7_longestOf_22 : zD cX7_longestOf 22 (.iload_n 1) 1 23 := ⟨by decide +kernel, rfl⟩
theorem eX7_longestOf_23 : zD cX7_longestOf 23 (.iconst (-1)) 1 24 := ⟨by decide +kernel, rfl⟩
theorem eX7_longestOf_24 : zD cX7_longestOf 24 (.ixor) 1 25 := ⟨by decide +kernel, rfl⟩
theorem eX7_longestOf_25 : zD cX7_longestOf 25 (.iand) 1 26 := ⟨by decide +kernel, rfl⟩
theorem eX7_longestOf_26 : zD cX7_longestOf 26 (.ifCond .ne 16) 3 29 := ⟨by decide +kernel, rfl⟩
theorem eX7_longestOf_29 : zD cX7_longestOf 29 (.aload_n 0) 1 30 := ⟨by decide +kernel, rfl⟩
theorem eX7_longestOf_30 : zD cX7_longestOf 30 (.iload 4) 2 32 := ⟨by decide +kernel, rfl⟩
theorem eX7_longestOf_32 : zD cX7_longestOf 32 (.iload_n 2) 1 33 := ⟨by decide +kernel, rfl⟩
theorem eX7_longestOf_33 : zD cX7_longestOf 33 (.invokevirtual 85) 3 36 := ⟨by decide +kernel, rfl⟩
theorem eX7_longestOf_36 : zD cX7_longestOf 36 (.ifCond .eq 6) 3 39 := ⟨by decide +kernel, rfl⟩
theorem eX7_longestOf_39 : zD cX7_longestOf 39 (.iload 4) 2 41 := ⟨by decide +kernel, rfl⟩
theorem eX7_longestOf_41 : zD cX7_longestOf 41 (.istore_n 2) 1 42 := ⟨by decide +kernel, rfl⟩
theorem eX7_longestOf_42 : zD cX7_longestOf 42 (.iinc 3 1) 3 45 := ⟨by decide +kernel, rfl⟩
theorem eX7_longestOf_45 : zD cX7_longestOf 45 (.goto (-41)) 3 48 := ⟨by decide +kernel, rfl⟩
theorem eX7_longestOf_48 : zD cX7_longestOf 48 (.iload_n 2) 1 49 := ⟨by decide +kernel, rfl⟩
theorem eX7_longestOf_49 : zD cX7_longestOf 49 (.ireturn) 1 50 := ⟨by decide +kernel, rfl⟩
theorem eX7_isLonger_0 : zD cX7_isLonger 0 (.iload_n 1) 1 1 := ⟨by decide +kernel, rfl⟩
theorem eX7_isLonger_1 : zD cX7_isLonger 1 (.invokestatic 89) 3 4 := ⟨by decide +kernel, rfl⟩
theorem eX7_isLonger_4 : zD cX7_isLonger 4 (.iload_n 2) 1 5 := ⟨by decide +kernel, rfl⟩
theorem eX7_isLonger_5 : zD cX7_isLonger 5 (.invokestatic 89) 3 8 := ⟨by decide +kernel, rfl⟩
theorem eX7_isLonger_8 : zD cX7_isLonger 8 (.isub) 1 9 := ⟨by decide +kernel, rfl⟩
theorem eX7_isLonger_9 : zD cX7_isLonger 9 (.istore_n 3) 1 10 := ⟨by decide +kernel, rfl⟩
theorem eX7_isLonger_10 : zD cX7_isLonger 10 (.iload_n 3) 1 11 := ⟨by decide +kernel, rfl⟩
theorem eX7_isLonger_11 : zD cX7_isLonger 11 (.ifCond .eq 13) 3 14 := ⟨by decide +kernel, rfl⟩
theorem eX7_isLonger_14 : zD cX7_isLonger 14 (.iload_n 3) 1 15 := ⟨by decide +kernel, rfl⟩
theorem eX7_isLonger_15 : zD cX7_isLonger 15 (.ifCond .le 7) 3 18 := ⟨by decide +kernel, rfl⟩
theorem eX7_isLonger_18 : zD cX7_isLonger 18 (.iconst 1) 1 19 := ⟨by decide +kernel, rfl⟩
theorem eX7_isLonger_19 : zD cX7_isLonger 19 (.goto 4) 3 22 := ⟨by decide +kernel, rfl⟩
theorem eX7_isLonger_22 : zD cX7_isLonger 22 (.iconst 0) 1 23 := ⟨by decide +kernel, rfl⟩
theorem eX7_isLonger_23 : zD cX7_isLonger 23 (.ireturn) 1 24 := ⟨by decide +kernel, rfl⟩
theorem eX7_isLonger_24 : zD cX7_isLonger 24 (.aload_n 0) 1 25 := ⟨by decide +kernel, rfl⟩
theorem eX7_isLonger_25 : zD cX7_isLonger 25 (.getfield 9) 3 28 := ⟨by decide +kernel, rfl⟩
theorem eX7_isLonger_28 : zD cX7_isLonger 28 (.iload_n 1) 1 29 := ⟨by decide +kernel, rfl⟩
theorem eX7_isLonger_29 : zD cX7_isLonger 29 (.iaload) 1 30 := ⟨by decide +kernel, rfl⟩
theorem eX7_isLonger_30 : zD cX7_isLonger 30 (.aload_n 0) 1 31 := ⟨by decide +kernel, rfl⟩
theorem eX7_isLonger_31 : zD cX7_isLonger 31 (.getfield 9) 3 34 := ⟨by decide +kernel, rfl⟩
theorem eX7_isLonger_34 : zD cX7_isLonger 34 (.iload_n 2) 1 35 := ⟨by decide +kernel, rfl⟩
theorem eX7_isLonger_35 : zD cX7_isLonger 35 (.iaload) 1 36 := ⟨by decide +kernel, rfl⟩
theorem eX7_isLonger_36 : zD cX7_isLonger 36 (.if_icmp .eq 24) 3 39 := ⟨by decide +kernel, rfl⟩
theorem eX7_isLonger_39 : zD cX7_isLonger 39 (.aload_n 0) 1 40 := ⟨by decide +kernel, rfl⟩
theorem eX7_isLonger_40 : zD cX7_isLonger 40 (.getfield 9) 3 43 := ⟨by decide +kernel, rfl⟩
theorem eX7_isLonger_43 : zD cX7_isLonger 43 (.iload_n 1) 1 44 := ⟨by decide +kernel, rfl⟩
theorem eX7_isLonger_44 : zD cX7_isLonger 44 (.iaload) 1 45 := ⟨by decide +kernel, rfl⟩
theorem eX7_isLonger_45 : zD cX7_isLonger 45 (.aload_n 0) 1 46 := ⟨by decide +kernel, rfl⟩
theorem eX7_isLonger_46 : zD cX7_isLonger 46 (.getfield 9) 3 49 := ⟨by decide +kernel, rfl⟩
theorem eX7_isLonger_49 : zD cX7_isLonger 49 (.iload_n 2) 1 50 := ⟨by decide +kernel, rfl⟩
theorem eX7_isLonger_50 : zD cX7_isLonger 50 (.iaload) 1 51 := ⟨by decide +kernel, rfl⟩
theorem eX7_isLonger_51 : zD cX7_isLonger 51 (.if_icmp .ge 7) 3 54 := ⟨by decide +kernel, rfl⟩
theorem eX7_isLonger_54 : zD cX7_isLonger 54 (.iconst 1) 1 55 := ⟨by decide +kernel, rfl⟩
theorem eX7_isLonger_55 : zD cX7_isLonger 55 (.goto 4) 3 58 := ⟨by decide +kernel, rfl⟩
theorem eX7_isLonger_58 : zD cX7_isLonger 58 (.iconst 0) 1 59 := ⟨by decide +kernel, rfl⟩
theorem eX7_isLonger_59 : zD cX7_isLonger 59 (.ireturn) 1 60 := ⟨by decide +kernel, rfl⟩
theorem eX7_isLonger_60 : zD cX7_isLonger 60 (.iload_n 1) 1 61 := ⟨by decide +kernel, rfl⟩
theorem eX7_isLonger_61 : zD cX7_isLonger 61 (.iload_n 2) 1 62 := ⟨by decide +kernel, rfl⟩
theorem eX7_isLonger_62 : zD cX7_isLonger 62 (.if_icmp .ge 7) 3 65 := ⟨by decide +kernel, rfl⟩
theorem eX7_isLonger_65 : zD cX7_isLonger 65 (.iconst 1) 1 66 := ⟨by decide +kernel, rfl⟩
theorem eX7_isLonger_66 : zD cX7_isLonger 66 (.goto 4) 3 69 := ⟨by decide +kernel, rfl⟩
theorem eX7_isLonger_69 : zD cX7_isLonger 69 (.iconst 0) 1 70 := ⟨by decide +kernel, rfl⟩
theorem eX7_isLonger_70 : zD cX7_isLonger 70 (.ireturn) 1 71 := ⟨by decide +kernel, rfl⟩
theorem eX7_mostApart_0 : zD cX7_mostApart 0 (.iconst 0) 1 1 := ⟨by decide +kernel, rfl⟩
theorem eX7_mostApart_1 : zD cX7_mostApart 1 (.istore_n 1) 1 2 := ⟨by decide +kernel, rfl⟩
theorem eX7_mostApart_2 : zD cX7_mostApart 2 (.iconst 1) 1 3 := ⟨by decide +kernel, rfl⟩
theorem eX7_mostApart_3 : zD cX7_mostApart 3 (.istore_n 2) 1 4 := ⟨by decide +kernel, rfl⟩
theorem eX7_mostApart_4 : zD cX7_mostApart 4 (.iload_n 2) 1 5 := ⟨by decide +kernel, rfl⟩
theorem eX7_mostApart_5 : zD cX7_mostApart 5 (.aload_n 0) 1 6 := ⟨by decide +kernel, rfl⟩
theorem eX7_mostApart_6 : zD cX7_mostApart 6 (.getfield 51) 3 9 := ⟨by decide +kernel, rfl⟩
theorem eX7_mostApart_9 : zD cX7_mostApart 9 (.if_icmp .gt 30) 3 12 := ⟨by decide +kernel, rfl⟩
theorem eX7_mostApart_12 : zD cX7_mostApart 12 (.iload_n 2) 1 13 := ⟨by decide +kernel, rfl⟩
theorem eX7_mostApart_13 : zD cX7_mostApart 13 (.invokestatic 89) 3 16 := ⟨by decide +kernel, rfl⟩
theorem eX7_mostApart_16 : zD cX7_mostApart 16 (.iload_n 1) 1 17 := ⟨by decide +kernel, rfl⟩
theorem eX7_mostApart_17 : zD cX7_mostApart 17 (.invokestatic 89) 3 20 := ⟨by decide +kernel, rfl⟩
theorem eX7_mostApart_20 : zD cX7_mostApart 20 (.if_icmp .le 13) 3 23 := ⟨by decide +kernel, rfl⟩
theorem eX7_mostApart_23 : zD cX7_mostApart 23 (.aload_n 0) 1 24 := ⟨by decide +kernel, rfl⟩
theorem eX7_mostApart_24 : zD cX7_mostApart 24 (.iload_n 2) 1 25 := ⟨by decide +kernel, rfl⟩
theorem eX7_mostApart_25 : zD cX7_mostApart 25 (.invokevirtual 94) 3 28 := ⟨by decide +kernel, rfl⟩
theorem eX7_mostApart_28 : zD cX7_mostApart 28 (.ifCond .eq 5) 3 31 := ⟨by decide +kernel, rfl⟩
theorem eX7_mostApart_31 : zD cX7_mostApart 31 (.iload_n 2) 1 32 := ⟨by decide +kernel, rfl⟩
theorem eX7_mostApart_32 : zD cX7_mostApart 32 (.istore_n 1) 1 33 := ⟨by decide +kernel, rfl⟩
theorem eX7_mostApart_33 : zD cX7_mostApart 33 (.iinc 2 1) 3 36 := ⟨by decide +kernel, rfl⟩
theorem eX7_mostApart_36 : zD cX7_mostApart 36 (.goto (-32)) 3 39 := ⟨by decide +kernel, rfl⟩
theorem eX7_mostApart_39 : zD cX7_mostApart 39 (.iload_n 1) 1 40 := ⟨by decide +kernel, rfl⟩
theorem eX7_mostApart_40 : zD cX7_mostApart 40 (.ireturn) 1 41 := ⟨by decide +kernel, rfl⟩
theorem eX7_isApart_0 : zD cX7_isApart 0 (.iconst 0) 1 1 := ⟨by decide +kernel, rfl⟩
theorem eX7_isApart_1 : zD cX7_isApart 1 (.istore_n 2) 1 2 := ⟨by decide +kernel, rfl⟩
theorem eX7_isApart_2 : zD cX7_isApart 2 (.iload_n 2) 1 3 := ⟨by decide +kernel, rfl⟩
theorem eX7_isApart_3 : zD cX7_isApart 3 (.aload_n 0) 1 4 := ⟨by decide +kernel, rfl⟩
theorem eX7_isApart_4 : zD cX7_isApart 4 (.getfield 48) 3 7 := ⟨by decide +kernel, rfl⟩
theorem eX7_isApart_7 : zD cX7_isApart 7 (.if_icmp .ge 31) 3 10 := ⟨by decide +kernel, rfl⟩
theorem eX7_isApart_10 : zD cX7_isApart 10 (.iload_n 1) 1 11 := ⟨by decide +kernel, rfl⟩
theorem eX7_isApart_11 : zD cX7_isApart 11 (.iload_n 2) 1 12 := ⟨by decide +kernel, rfl⟩
theorem eX7_isApart_12 : zD cX7_isApart 12 (.ishr) 1 13 := ⟨by decide +kernel, rfl⟩
theorem eX7_isApart_13 : zD cX7_isApart 13 (.iconst 1) 1 14 := ⟨by decide +kernel, rfl⟩
theorem eX7_isApart_14 : zD cX7_isApart 14 (.iand) 1 15 := ⟨by decide +kernel, rfl⟩
theorem eX7_isApart_15 : zD cX7_isApart 15 (.iconst 1) 1 16 := ⟨by decide +kernel, rfl⟩
theorem eX7_isApart_16 : zD cX7_isApart 16 (.if_icmp .ne 16) 3 19 := ⟨by decide +kernel, rfl⟩
theorem eX7_isApart_19 : zD cX7_isApart 19 (.aload_n 0) 1 20 := ⟨by decide +kernel, rfl⟩
theorem eX7_isApart_20 : zD cX7_isApart 20 (.getfield 27) 3 23 := ⟨by decide +kernel, rfl⟩
theorem eX7_isApart_23 : zD cX7_isApart 23 (.iload_n 2) 1 24 := ⟨by decide +kernel, rfl⟩
theorem eX7_isApart_24 : zD cX7_isApart 24 (.iaload) 1 25 := ⟨by decide +kernel, rfl⟩
theorem eX7_isApart_25 : zD cX7_isApart 25 (.iload_n 1) 1 26 := ⟨by decide +kernel, rfl⟩
theorem eX7_isApart_26 : zD cX7_isApart 26 (.iand) 1 27 := ⟨by decide +kernel, rfl⟩
theorem eX7_isApart_27 : zD cX7_isApart 27 (.ifCond .eq 5) 3 30 := ⟨by decide +kernel, rfl⟩
theorem eX7_isApart_30 : zD cX7_isApart 30 (.iconst 0) 1 31 := ⟨by decide +kernel, rfl⟩
theorem eX7_isApart_31 : zD cX7_isApart 31 (.ireturn) 1 32 := ⟨by decide +kernel, rfl⟩
theorem eX7_isApart_32 : zD cX7_isApart 32 (.iinc 2 1) 3 35 := ⟨by decide +kernel, rfl⟩
theorem eX7_isApart_35 : zD cX7_isApart 35 (.goto (-33)) 3 38 := ⟨by decide +kernel, rfl⟩
theorem eX7_isApart_38 : zD cX7_isApart 38 (.iconst 1) 1 39 := ⟨by decide +kernel, rfl⟩
theorem eX7_isApart_39 : zD cX7_isApart 39 (.ireturn) 1 40 := ⟨by decide +kernel, rfl⟩
theorem eX7_costOneEach_0 : zD cX7_costOneEach 0 (.iconst 1) 1 1 := ⟨by decide +kernel, rfl⟩
theorem eX7_costOneEach_1 : zD cX7_costOneEach 1 (.istore_n 2) 1 2 := ⟨by decide +kernel, rfl⟩
theorem eX7_costOneEach_2 : zD cX7_costOneEach 2 (.iload_n 2) 1 3 := ⟨by decide +kernel, rfl⟩
theorem eX7_costOneEach_3 : zD cX7_costOneEach 3 (.aload_n 0) 1 4 := ⟨by decide +kernel, rfl⟩
theorem eX7_costOneEach_4 : zD cX7_costOneEach 4 (.getfield 51) 3 7 := ⟨by decide +kernel, rfl⟩
theorem eX7_costOneEach_7 : zD cX7_costOneEach 7 (.if_icmp .gt 40) 3 10 := ⟨by decide +kernel, rfl⟩
theorem eX7_costOneEach_10 : zD cX7_costOneEach 10 (.aload_n 0) 1 11 := ⟨by decide +kernel, rfl⟩
theorem eX7_costOneEach_11 : zD cX7_costOneEach 11 (.getfield 21) 3 14 := ⟨by decide +kernel, rfl⟩
theorem eX7_costOneEach_14 : zD cX7_costOneEach 14 (.iload_n 2) 1 15 := ⟨by decide +kernel, rfl⟩
theorem eX7_costOneEach_15 : zD cX7_costOneEach 15 (.aload_n 0) 1 16 := ⟨by decide +kernel, rfl⟩
theorem eX7_costOneEach_16 : zD cX7_costOneEach 16 (.getfield 9) 3 19 := ⟨by decide +kernel, rfl⟩
theorem eX7_costOneEach_19 : zD cX7_costOneEach 19 (.iload_n 2) 1 20 := ⟨by decide +kernel, rfl⟩
theorem eX7_costOneEach_20 : zD cX7_costOneEach 20 (.iaload) 1 21 := ⟨by decide +kernel, rfl⟩
theorem eX7_costOneEach_21 : zD cX7_costOneEach 21 (.ifCond .le 17) 3 24 := ⟨by decide +kernel, rfl⟩
theorem eX7_costOneEach_24 : zD cX7_costOneEach 24 (.aload_n 0) 1 25 := ⟨by decide +kernel, rfl⟩
theorem eX7_costOneEach_25 : zD cX7_costOneEach 25 (.getfield 9) 3 28 := ⟨by decide +kernel, rfl⟩
theorem eX7_costOneEach_28 : zD cX7_costOneEach 28 (.iload_n 2) 1 29 := ⟨by decide +kernel, rfl⟩
theorem eX7_costOneEach_29 : zD cX7_costOneEach 29 (.iaload) 1 30 := ⟨by decide +kernel, rfl⟩
theorem eX7_costOneEach_30 : zD cX7_costOneEach 30 (.iload_n 1) 1 31 := ⟨by decide +kernel, rfl⟩
theorem eX7_costOneEach_31 : zD cX7_costOneEach 31 (.if_icmp .gt 7) 3 34 := ⟨by decide +kernel, rfl⟩
theorem eX7_costOneEach_34 : zD cX7_costOneEach 34 (.iconst 1) 1 35 := ⟨by decide +kernel, rfl⟩
theorem eX7_costOneEach_35 : zD cX7_costOneEach 35 (.goto 5) 3 38 := ⟨by decide +kernel, rfl⟩
theorem eX7_costOneEach_38 : zD cX7_costOneEach 38 (.ldc 98) 2 40 := ⟨by decide +kernel, rfl⟩
theorem eX7_costOneEach_40 : zD cX7_costOneEach 40 (.iastore) 1 41 := ⟨by decide +kernel, rfl⟩
theorem eX7_costOneEach_41 : zD cX7_costOneEach 41 (.iinc 2 1) 3 44 := ⟨by decide +kernel, rfl⟩
theorem eX7_costOneEach_44 : zD cX7_costOneEach 44 (.goto (-42)) 3 47 := ⟨by decide +kernel, rfl⟩
theorem eX7_costOneEach_47 : zD cX7_costOneEach 47 (.return_) 1 48 := ⟨by decide +kernel, rfl⟩
theorem eX7_costHeights_0 : zD cX7_costHeights 0 (.iconst 1) 1 1 := ⟨by decide +kernel, rfl⟩
theorem eX7_costHeights_1 : zD cX7_costHeights 1 (.istore_n 1) 1 2 := ⟨by decide +kernel, rfl⟩
theorem eX7_costHeights_2 : zD cX7_costHeights 2 (.iload_n 1) 1 3 := ⟨by decide +kernel, rfl⟩
theorem eX7_costHeights_3 : zD cX7_costHeights 3 (.aload_n 0) 1 4 := ⟨by decide +kernel, rfl⟩
theorem eX7_costHeights_4 : zD cX7_costHeights 4 (.getfield 51) 3 7 := ⟨by decide +kernel, rfl⟩
theorem eX7_costHeights_7 : zD cX7_costHeights 7 (.if_icmp .gt 35) 3 10 := ⟨by decide +kernel, rfl⟩
theorem eX7_costHeights_10 : zD cX7_costHeights 10 (.aload_n 0) 1 11 := ⟨by decide +kernel, rfl⟩
theorem eX7_costHeights_11 : zD cX7_costHeights 11 (.getfield 21) 3 14 := ⟨by decide +kernel, rfl⟩
theorem eX7_costHeights_14 : zD cX7_costHeights 14 (.iload_n 1) 1 15 := ⟨by decide +kernel, rfl⟩
theorem eX7_costHeights_15 : zD cX7_costHeights 15 (.aload_n 0) 1 16 := ⟨by decide +kernel, rfl⟩
theorem eX7_costHeights_16 : zD cX7_costHeights 16 (.getfield 9) 3 19 := ⟨by decide +kernel, rfl⟩
theorem eX7_costHeights_19 : zD cX7_costHeights 19 (.iload_n 1) 1 20 := ⟨by decide +kernel, rfl⟩
theorem eX7_costHeights_20 : zD cX7_costHeights 20 (.iaload) 1 21 := ⟨by decide +kernel, rfl⟩
theorem eX7_costHeights_21 : zD cX7_costHeights 21 (.ifCond .le 12) 3 24 := ⟨by decide +kernel, rfl⟩
theorem eX7_costHeights_24 : zD cX7_costHeights 24 (.aload_n 0) 1 25 := ⟨by decide +kernel, rfl⟩
theorem eX7_costHeights_25 : zD cX7_costHeights 25 (.getfield 9) 3 28 := ⟨by decide +kernel, rfl⟩
theorem eX7_costHeights_28 : zD cX7_costHeights 28 (.iload_n 1) 1 29 := ⟨by decide +kernel, rfl⟩
theorem eX7_costHeights_29 : zD cX7_costHeights 29 (.iaload) 1 30 := ⟨by decide +kernel, rfl⟩
theorem eX7_costHeights_30 : zD cX7_costHeights 30 (.goto 5) 3 33 := ⟨by decide +kernel, rfl⟩
theorem eX7_costHeights_33 : zD cX7_costHeights 33 (.ldc 98) 2 35 := ⟨by decide +kernel, rfl⟩
theorem eX7_costHeights_35 : zD cX7_costHeights 35 (.iastore) 1 36 := ⟨by decide +kernel, rfl⟩
theorem eX7_costHeights_36 : zD cX7_costHeights 36 (.iinc 1 1) 3 39 := ⟨by decide +kernel, rfl⟩
theorem eX7_costHeights_39 : zD cX7_costHeights 39 (.goto (-37)) 3 42 := ⟨by decide +kernel, rfl⟩
theorem eX7_costHeights_42 : zD cX7_costHeights 42 (.return_) 1 43 := ⟨by decide +kernel, rfl⟩
theorem eX7_costLessForSetsOf_0 : zD cX7_costLessForSetsOf 0 (.iconst 1) 1 1 := ⟨by decide +kernel, rfl⟩
theorem eX7_costLessForSetsOf_1 : zD cX7_costLessForSetsOf 1 (.istore_n 2) 1 2 := ⟨by decide +kernel, rfl⟩
theorem eX7_costLessForSetsOf_2 : zD cX7_costLessForSetsOf 2 (.iload_n 2) 1 3 := ⟨by decide +kernel, rfl⟩
theorem eX7_costLessForSetsOf_3 : zD cX7_costLessForSetsOf 3 (.aload_n 0) 1 4 := ⟨by decide +kernel, rfl⟩
theorem eX7_costLessForSetsOf_4 : zD cX7_costLessForSetsOf 4 (.getfield 51) 3 7 := ⟨by decide +kernel, rfl⟩
theorem eX7_costLessForSetsOf_7 : zD cX7_costLessForSetsOf 7 (.if_icmp .gt 55) 3 10 := ⟨by decide +kernel, rfl⟩
theorem eX7_costLessForSetsOf_10 : zD cX7_costLessForSetsOf 10 (.iload_n 2) 1 11 := ⟨by decide +kernel, rfl⟩
theorem eX7_costLessForSetsOf_11 : zD cX7_costLessForSetsOf 11 (.invokestatic 89) 3 14 := ⟨by decide +kernel, rfl⟩
theorem eX7_costLessForSetsOf_14 : zD cX7_costLessForSetsOf 14 (.istore_n 3) 1 15 := ⟨by decide +kernel, rfl⟩
theorem eX7_costLessForSetsOf_15 : zD cX7_costLessForSetsOf 15 (.iload_n 3) 1 16 := ⟨by decide +kernel, rfl⟩
theorem eX7_costLessForSetsOf_16 : zD cX7_costLessForSetsOf 16 (.iload_n 1) 1 17 := ⟨by decide +kernel, rfl⟩
theorem eX7_costLessForSetsOf_17 : zD cX7_costLessForSetsOf 17 (.if_icmp .ne 22) 3 20 := ⟨by decide +kernel, rfl⟩
theorem eX7_costLessForSetsOf_20 : zD cX7_costLessForSetsOf 20 (.aload_n 0) 1 21 := ⟨by decide +kernel, rfl⟩
theorem eX7_costLessForSetsOf_21 : zD cX7_costLessForSetsOf 21 (.getfield 9) 3 24 := ⟨by decide +kernel, rfl⟩
theorem eX7_costLessForSetsOf_24 : zD cX7_costLessForSetsOf 24 (.iload_n 2) 1 25 := ⟨by decide +kernel, rfl⟩
theorem eX7_costLessForSetsOf_25 : zD cX7_costLessForSetsOf 25 (.iaload) 1 26 := ⟨by decide +kernel, rfl⟩
theorem eX7_costLessForSetsOf_26 : zD cX7_costLessForSetsOf 26 (.ifCond .le 13) 3 29 := ⟨by decide +kernel, rfl⟩
theorem eX7_costLessForSetsOf_29 : zD cX7_costLessForSetsOf 29 (.aload_n 0) 1 30 := ⟨by decide +kernel, rfl⟩
theorem eX7_costLessForSetsOf_30 : zD cX7_costLessForSetsOf 30 (.getfield 21) 3 33 := ⟨by decide +kernel, rfl⟩
theorem eX7_costLessForSetsOf_33 : zD cX7_costLessForSetsOf 33 (.iload_n 2) 1 34 := ⟨by decide +kernel, rfl⟩
theorem eX7_costLessForSetsOf_34 : zD cX7_costLessForSetsOf 34 (.iconst (-1)) 1 35 := ⟨by decide +kernel, rfl⟩
theorem eX7_costLessForSetsOf_35 : zD cX7_costLessForSetsOf 35 (.iastore) 1 36 := ⟨by decide +kernel, rfl⟩
theorem eX7_costLessForSetsOf_36 : zD cX7_costLessForSetsOf 36 (.goto 20) 3 39 := ⟨by decide +kernel, rfl⟩
theorem eX7_costLessForSetsOf_39 : zD cX7_costLessForSetsOf 39 (.aload_n 0) 1 40 := ⟨by decide +kernel, rfl⟩
theorem eX7_costLessForSetsOf_40 : zD cX7_costLessForSetsOf 40 (.getfield 21) 3 43 := ⟨by decide +kernel, rfl⟩
theorem eX7_costLessForSetsOf_43 : zD cX7_costLessForSetsOf 43 (.iload_n 2) 1 44 := ⟨by decide +kernel, rfl⟩
theorem eX7_costLessForSetsOf_44 : zD cX7_costLessForSetsOf 44 (.iload_n 3) 1 45 := ⟨by decide +kernel, rfl⟩
theorem eX7_costLessForSetsOf_45 : zD cX7_costLessForSetsOf 45 (.iconst 1) 1 46 := ⟨by decide +kernel, rfl⟩
theorem eX7_costLessForSetsOf_46 : zD cX7_costLessForSetsOf 46 (.if_icmp .ne 7) 3 49 := ⟨by decide +kernel, rfl⟩
theorem eX7_costLessForSetsOf_49 : zD cX7_costLessForSetsOf 49 (.iconst 0) 1 50 := ⟨by decide +kernel, rfl⟩
theorem eX7_costLessForSetsOf_50 : zD cX7_costLessForSetsOf 50 (.goto 5) 3 53 := ⟨by decide +kernel, rfl⟩
theorem eX7_costLessForSetsOf_53 : zD cX7_costLessForSetsOf 53 (.ldc 98) 2 55 := ⟨by decide +kernel, rfl⟩
theorem eX7_costLessForSetsOf_55 : zD cX7_costLessForSetsOf 55 (.iastore) 1 56 := ⟨by decide +kernel, rfl⟩
theorem eX7_costLessForSetsOf_56 : zD cX7_costLessForSetsOf 56 (.iinc 2 1) 3 59 := ⟨by decide +kernel, rfl⟩
theorem eX7_costLessForSetsOf_59 : zD cX7_costLessForSetsOf 59 (.goto (-57)) 3 62 := ⟨by decide +kernel, rfl⟩
theorem eX7_costLessForSetsOf_62 : zD cX7_costLessForSetsOf 62 (.return_) 1 63 := ⟨by decide +kernel, rfl⟩
theorem eX7_leastSum_0 : zD cX7_leastSum 0 (.aload_n 0) 1 1 := ⟨by decide +kernel, rfl⟩
theorem eX7_leastSum_1 : zD cX7_leastSum 1 (.getfield 24) 3 4 := ⟨by decide +kernel, rfl⟩
theorem eX7_leastSum_4 : zD cX7_leastSum 4 (.iconst 0) 1 5 := ⟨by decide +kernel, rfl⟩
theorem eX7_leastSum_5 : zD cX7_leastSum 5 (.iconst 0) 1 6 := ⟨by decide +kernel, rfl⟩
end
section
/-! Decode rows. -/
theorem eX7_leastSum_6 : zD cX7_leastSum 6 (.iastore) 1 7 := ⟨by decide +kernel, rfl⟩
theorem eX7_leastSum_7 : zD cX7_leastSum 7 (.iconst 1) 1 8 := ⟨by decide +kernel, rfl⟩
theorem eX7_leastSum_8 : zD cX7_leastSum 8 (.istore_n 1) 1 9 := ⟨by decide +kernel, rfl⟩
theorem eX7_leastSum_9 : zD cX7_leastSum 9 (.iload_n 1) 1 10 := ⟨by decide +kernel, rfl⟩
theorem eX7_leastSum_10 : zD cX7_leastSum 10 (.aload_n 0) 1 11 := ⟨by decide +kernel, rfl⟩
theorem eX7_leastSum_11 : zD cX7_leastSum 11 (.getfield 51) 3 14 := ⟨by decide +kernel, rfl⟩
theorem eX7_leastSum_14 : zD cX7_leastSum 14 (.if_icmp .gt 84) 3 17 := ⟨by decide +kernel, rfl⟩
theorem eX7_leastSum_17 : zD cX7_leastSum 17 (.iload_n 1) 1 18 := ⟨by decide +kernel, rfl⟩
theorem eX7_leastSum_18 : zD cX7_leastSum 18 (.iload_n 1) 1 19 := ⟨by decide +kernel, rfl⟩
theorem eX7_leastSum_19 : zD cX7_leastSum 19 (.ineg) 1 20 := ⟨by decide +kernel, rfl⟩
theorem eX7_leastSum_20 : zD cX7_leastSum 20 (.iand) 1 21 := ⟨by decide +kernel, rfl⟩
theorem eX7_leastSum_21 : zD cX7_leastSum 21 (.istore_n 2) 1 22 := ⟨by decide +kernel, rfl⟩
theorem eX7_leastSum_22 : zD cX7_leastSum 22 (.iload_n 1) 1 23 := ⟨by decide +kernel, rfl⟩
theorem eX7_leastSum_23 : zD cX7_leastSum 23 (.iload_n 2) 1 24 := ⟨by decide +kernel, rfl⟩
theorem eX7_leastSum_24 : zD cX7_leastSum 24 (.ixor) 1 25 := ⟨by decide +kernel, rfl⟩
theorem eX7_leastSum_25 : zD cX7_leastSum 25 (.istore_n 3) 1 26 := ⟨by decide +kernel, rfl⟩
theorem eX7_leastSum_26 : zD cX7_leastSum 26 (.ldc 98) 2 28 := ⟨by decide +kernel, rfl⟩
theorem eX7_leastSum_28 : zD cX7_leastSum 28 (.istore 4) 2 30 := ⟨by decide +kernel, rfl⟩
theorem eX7_leastSum_30 : zD cX7_leastSum 30 (.iload_n 3) 1 31 := ⟨by decide +kernel, rfl⟩
theorem eX7_leastSum_31 : zD cX7_leastSum 31 (.istore 5) 2 33 := ⟨by decide +kernel, rfl⟩
theorem eX7_leastSum_33 : zD cX7_leastSum 33 (.iload 5) 2 35 := ⟨by decide +kernel, rfl⟩
theorem eX7_leastSum_35 : zD cX7_leastSum 35 (.ifCond .lt 49) 3 38 := ⟨by decide +kernel, rfl⟩
theorem eX7_leastSum_38 : zD cX7_leastSum 38 (.iload 4) 2 40 := ⟨by decide +kernel, rfl⟩
theorem eX7_leastSum_40 : zD cX7_leastSum 40 (.aload_n 0) 1 41 := ⟨by decide +kernel, rfl⟩
theorem eX7_leastSum_41 : zD cX7_leastSum 41 (.getfield 21) 3 44 := ⟨by decide +kernel, rfl⟩
theorem eX7_leastSum_44 : zD cX7_leastSum 44 (.iload 5) 2 46 := ⟨by decide +kernel, rfl⟩
theorem eX7_leastSum_46 : zD cX7_leastSum 46 (.iload_n 2) 1 47 := ⟨by decide +kernel, rfl⟩
theorem eX7_leastSum_47 : zD cX7_leastSum 47 (.ior) 1 48 := ⟨by decide +kernel, rfl⟩
theorem eX7_leastSum_48 : zD cX7_leastSum 48 (.iaload) 1 49 := ⟨by decide +kernel, rfl⟩
theorem eX7_leastSum_49 : zD cX7_leastSum 49 (.aload_n 0) 1 50 := ⟨by decide +kernel, rfl⟩
theorem eX7_leastSum_50 : zD cX7_leastSum 50 (.getfield 24) 3 53 := ⟨by decide +kernel, rfl⟩
theorem eX7_leastSum_53 : zD cX7_leastSum 53 (.iload_n 3) 1 54 := ⟨by decide +kernel, rfl⟩
theorem eX7_leastSum_54 : zD cX7_leastSum 54 (.iload 5) 2 56 := ⟨by decide +kernel, rfl⟩
theorem eX7_leastSum_56 : zD cX7_leastSum 56 (.ixor) 1 57 := ⟨by decide +kernel, rfl⟩
theorem eX7_leastSum_57 : zD cX7_leastSum 57 (.iaload) 1 58 := ⟨by decide +kernel, rfl⟩
theorem eX7_leastSum_58 : zD cX7_leastSum 58 (.iadd) 1 59 := ⟨by decide +kernel, rfl⟩
theorem eX7_leastSum_59 : zD cX7_leastSum 59 (.invokestatic 42) 3 62 := ⟨by decide +kernel, rfl⟩
theorem eX7_leastSum_62 : zD cX7_leastSum 62 (.istore 4) 2 64 := ⟨by decide +kernel, rfl⟩
theorem eX7_leastSum_64 : zD cX7_leastSum 64 (.iload 5) 2 66 := ⟨by decide +kernel, rfl⟩
theorem eX7_leastSum_66 : zD cX7_leastSum 66 (.ifCond .ne 7) 3 69 := ⟨by decide +kernel, rfl⟩
theorem eX7_leastSum_69 : zD cX7_leastSum 69 (.iconst (-1)) 1 70 := ⟨by decide +kernel, rfl⟩
theorem eX7_leastSum_70 : zD cX7_leastSum 70 (.goto 9) 3 73 := ⟨by decide +kernel, rfl⟩
theorem eX7_leastSum_73 : zD cX7_leastSum 73 (.iload 5) 2 75 := ⟨by decide +kernel, rfl⟩
theorem eX7_leastSum_75 : zD cX7_leastSum 75 (.iconst 1) 1 76 := ⟨by decide +kernel, rfl⟩
theorem eX7_leastSum_76 : zD cX7_leastSum 76 (.isub) 1 77 := ⟨by decide +kernel, rfl⟩
theorem eX7_leastSum_77 : zD cX7_leastSum 77 (.iload_n 3) 1 78 := ⟨by decide +kernel, rfl⟩
theorem eX7_leastSum_78 : zD cX7_leastSum 78 (.iand) 1 79 := ⟨by decide +kernel, rfl⟩
theorem eX7_leastSum_79 : zD cX7_leastSum 79 (.istore 5) 2 81 := ⟨by decide +kernel, rfl⟩
theorem eX7_leastSum_81 : zD cX7_leastSum 81 (.goto (-48)) 3 84 := ⟨by decide +kernel, rfl⟩
theorem eX7_leastSum_84 : zD cX7_leastSum 84 (.aload_n 0) 1 85 := ⟨by decide +kernel, rfl⟩
theorem eX7_leastSum_85 : zD cX7_leastSum 85 (.getfield 24) 3 88 := ⟨by decide +kernel, rfl⟩
theorem eX7_leastSum_88 : zD cX7_leastSum 88 (.iload_n 1) 1 89 := ⟨by decide +kernel, rfl⟩
theorem eX7_leastSum_89 : zD cX7_leastSum 89 (.iload 4) 2 91 := ⟨by decide +kernel, rfl⟩
theorem eX7_leastSum_91 : zD cX7_leastSum 91 (.iastore) 1 92 := ⟨by decide +kernel, rfl⟩
theorem eX7_leastSum_92 : zD cX7_leastSum 92 (.iinc 1 1) 3 95 := ⟨by decide +kernel, rfl⟩
theorem eX7_leastSum_95 : zD cX7_leastSum 95 (.goto (-86)) 3 98 := ⟨by decide +kernel, rfl⟩
theorem eX7_leastSum_98 : zD cX7_leastSum 98 (.aload_n 0) 1 99 := ⟨by decide +kernel, rfl⟩
theorem eX7_leastSum_99 : zD cX7_leastSum 99 (.getfield 24) 3 102 := ⟨by decide +kernel, rfl⟩
theorem eX7_leastSum_102 : zD cX7_leastSum 102 (.aload_n 0) 1 103 := ⟨by decide +kernel, rfl⟩
theorem eX7_leastSum_103 : zD cX7_leastSum 103 (.getfield 51) 3 106 := ⟨by decide +kernel, rfl⟩
theorem eX7_leastSum_106 : zD cX7_leastSum 106 (.iaload) 1 107 := ⟨by decide +kernel, rfl⟩
theorem eX7_leastSum_107 : zD cX7_leastSum 107 (.ireturn) 1 108 := ⟨by decide +kernel, rfl⟩
theorem eX7_findChains_0 : zD cX7_findChains 0 (.iconst 0) 1 1 := ⟨by decide +kernel, rfl⟩
theorem eX7_findChains_1 : zD cX7_findChains 1 (.istore_n 2) 1 2 := ⟨by decide +kernel, rfl⟩
theorem eX7_findChains_2 : zD cX7_findChains 2 (.iload_n 2) 1 3 := ⟨by decide +kernel, rfl⟩
theorem eX7_findChains_3 : zD cX7_findChains 3 (.aload_n 0) 1 4 := ⟨by decide +kernel, rfl⟩
theorem eX7_findChains_4 : zD cX7_findChains 4 (.getfield 48) 3 7 := ⟨by decide +kernel, rfl⟩
theorem eX7_findChains_7 : zD cX7_findChains 7 (.if_icmp .ge 23) 3 10 := ⟨by decide +kernel, rfl⟩
theorem eX7_findChains_10 : zD cX7_findChains 10 (.aload_n 0) 1 11 := ⟨by decide +kernel, rfl⟩
theorem eX7_findChains_11 : zD cX7_findChains 11 (.getfield 30) 3 14 := ⟨by decide +kernel, rfl⟩
theorem eX7_findChains_14 : zD cX7_findChains 14 (.iload_n 2) 1 15 := ⟨by decide +kernel, rfl⟩
theorem eX7_findChains_15 : zD cX7_findChains 15 (.iconst 1) 1 16 := ⟨by decide +kernel, rfl⟩
theorem eX7_findChains_16 : zD cX7_findChains 16 (.iastore) 1 17 := ⟨by decide +kernel, rfl⟩
theorem eX7_findChains_17 : zD cX7_findChains 17 (.aload_n 0) 1 18 := ⟨by decide +kernel, rfl⟩
theorem eX7_findChains_18 : zD cX7_findChains 18 (.getfield 33) 3 21 := ⟨by decide +kernel, rfl⟩
theorem eX7_findChains_21 : zD cX7_findChains 21 (.iload_n 2) 1 22 := ⟨by decide +kernel, rfl⟩
theorem eX7_findChains_22 : zD cX7_findChains 22 (.iconst 1) 1 23 := ⟨by decide +kernel, rfl⟩
theorem eX7_findChains_23 : zD cX7_findChains 23 (.iastore) 1 24 := ⟨by decide +kernel, rfl⟩
theorem eX7_findChains_24 : zD cX7_findChains 24 (.iinc 2 1) 3 27 := ⟨by decide +kernel, rfl⟩
theorem eX7_findChains_27 : zD cX7_findChains 27 (.goto (-25)) 3 30 := ⟨by decide +kernel, rfl⟩
theorem eX7_findChains_30 : zD cX7_findChains 30 (.iconst 0) 1 31 := ⟨by decide +kernel, rfl⟩
theorem eX7_findChains_31 : zD cX7_findChains 31 (.istore_n 2) 1 32 := ⟨by decide +kernel, rfl⟩
theorem eX7_findChains_32 : zD cX7_findChains 32 (.iload_n 2) 1 33 := ⟨by decide +kernel, rfl⟩
theorem eX7_findChains_33 : zD cX7_findChains 33 (.aload_n 0) 1 34 := ⟨by decide +kernel, rfl⟩
theorem eX7_findChains_34 : zD cX7_findChains 34 (.getfield 48) 3 37 := ⟨by decide +kernel, rfl⟩
theorem eX7_findChains_37 : zD cX7_findChains 37 (.if_icmp .ge 19) 3 40 := ⟨by decide +kernel, rfl⟩
theorem eX7_findChains_40 : zD cX7_findChains 40 (.aload_n 0) 1 41 := ⟨by decide +kernel, rfl⟩
theorem eX7_findChains_41 : zD cX7_findChains 41 (.aload_n 1) 1 42 := ⟨by decide +kernel, rfl⟩
theorem eX7_findChains_42 : zD cX7_findChains 42 (.getfield 60) 3 45 := ⟨by decide +kernel, rfl⟩
theorem eX7_findChains_45 : zD cX7_findChains 45 (.iload_n 2) 1 46 := ⟨by decide +kernel, rfl⟩
theorem eX7_findChains_46 : zD cX7_findChains 46 (.iaload) 1 47 := ⟨by decide +kernel, rfl⟩
theorem eX7_findChains_47 : zD cX7_findChains 47 (.invokevirtual 99) 3 50 := ⟨by decide +kernel, rfl⟩
theorem eX7_findChains_50 : zD cX7_findChains 50 (.iinc 2 1) 3 53 := ⟨by decide +kernel, rfl⟩
theorem eX7_findChains_53 : zD cX7_findChains 53 (.goto (-21)) 3 56 := ⟨by decide +kernel, rfl⟩
theorem eX7_findChains_56 : zD cX7_findChains 56 (.aload_n 0) 1 57 := ⟨by decide +kernel, rfl⟩
theorem eX7_findChains_57 : zD cX7_findChains 57 (.getfield 48) 3 60 := ⟨by decide +kernel, rfl⟩
theorem eX7_findChains_60 : zD cX7_findChains 60 (.iconst 1) 1 61 := ⟨by decide +kernel, rfl⟩
theorem eX7_findChains_61 : zD cX7_findChains 61 (.isub) 1 62 := ⟨by decide +kernel, rfl⟩
theorem eX7_findChains_62 : zD cX7_findChains 62 (.istore_n 2) 1 63 := ⟨by decide +kernel, rfl⟩
theorem eX7_findChains_63 : zD cX7_findChains 63 (.iload_n 2) 1 64 := ⟨by decide +kernel, rfl⟩
theorem eX7_findChains_64 : zD cX7_findChains 64 (.ifCond .lt 19) 3 67 := ⟨by decide +kernel, rfl⟩
theorem eX7_findChains_67 : zD cX7_findChains 67 (.aload_n 0) 1 68 := ⟨by decide +kernel, rfl⟩
theorem eX7_findChains_68 : zD cX7_findChains 68 (.aload_n 1) 1 69 := ⟨by decide +kernel, rfl⟩
theorem eX7_findChains_69 : zD cX7_findChains 69 (.getfield 60) 3 72 := ⟨by decide +kernel, rfl⟩
theorem eX7_findChains_72 : zD cX7_findChains 72 (.iload_n 2) 1 73 := ⟨by decide +kernel, rfl⟩
theorem eX7_findChains_73 : zD cX7_findChains 73 (.iaload) 1 74 := ⟨by decide +kernel, rfl⟩
theorem eX7_findChains_74 : zD cX7_findChains 74 (.invokevirtual 103) 3 77 := ⟨by decide +kernel, rfl⟩
theorem eX7_findChains_77 : zD cX7_findChains 77 (.iinc 2 (-1)) 3 80 := ⟨by decide +kernel, rfl⟩
theorem eX7_findChains_80 : zD cX7_findChains 80 (.goto (-17)) 3 83 := ⟨by decide +kernel, rfl⟩
theorem eX7_findChains_83 : zD cX7_findChains 83 (.return_) 1 84 := ⟨by decide +kernel, rfl⟩
theorem eX7_lengthenInward_0 : zD cX7_lengthenInward 0 (.iconst 0) 1 1 := ⟨by decide +kernel, rfl⟩
theorem eX7_lengthenInward_1 : zD cX7_lengthenInward 1 (.istore_n 2) 1 2 := ⟨by decide +kernel, rfl⟩
theorem eX7_lengthenInward_2 : zD cX7_lengthenInward 2 (.iload_n 2) 1 3 := ⟨by decide +kernel, rfl⟩
theorem eX7_lengthenInward_3 : zD cX7_lengthenInward 3 (.aload_n 0) 1 4 := ⟨by decide +kernel, rfl⟩
theorem eX7_lengthenInward_4 : zD cX7_lengthenInward 4 (.getfield 48) 3 7 := ⟨by decide +kernel, rfl⟩
theorem eX7_lengthenInward_7 : zD cX7_lengthenInward 7 (.if_icmp .ge 46) 3 10 := ⟨by decide +kernel, rfl⟩
theorem eX7_lengthenInward_10 : zD cX7_lengthenInward 10 (.aload_n 0) 1 11 := ⟨by decide +kernel, rfl⟩
theorem eX7_lengthenInward_11 : zD cX7_lengthenInward 11 (.getfield 27) 3 14 := ⟨by decide +kernel, rfl⟩
theorem eX7_lengthenInward_14 : zD cX7_lengthenInward 14 (.iload_n 1) 1 15 := ⟨by decide +kernel, rfl⟩
theorem eX7_lengthenInward_15 : zD cX7_lengthenInward 15 (.iaload) 1 16 := ⟨by decide +kernel, rfl⟩
theorem eX7_lengthenInward_16 : zD cX7_lengthenInward 16 (.iload_n 2) 1 17 := ⟨by decide +kernel, rfl⟩
theorem eX7_lengthenInward_17 : zD cX7_lengthenInward 17 (.ishr) 1 18 := ⟨by decide +kernel, rfl⟩
theorem eX7_lengthenInward_18 : zD cX7_lengthenInward 18 (.iconst 1) 1 19 := ⟨by decide +kernel, rfl⟩
theorem eX7_lengthenInward_19 : zD cX7_lengthenInward 19 (.iand) 1 20 := ⟨by decide +kernel, rfl⟩
theorem eX7_lengthenInward_20 : zD cX7_lengthenInward 20 (.iconst 1) 1 21 := ⟨by decide +kernel, rfl⟩
theorem eX7_lengthenInward_21 : zD cX7_lengthenInward 21 (.if_icmp .ne 26) 3 24 := ⟨by decide +kernel, rfl⟩
theorem eX7_lengthenInward_24 : zD cX7_lengthenInward 24 (.aload_n 0) 1 25 := ⟨by decide +kernel, rfl⟩
theorem eX7_lengthenInward_25 : zD cX7_lengthenInward 25 (.getfield 30) 3 28 := ⟨by decide +kernel, rfl⟩
theorem eX7_lengthenInward_28 : zD cX7_lengthenInward 28 (.iload_n 2) 1 29 := ⟨by decide +kernel, rfl⟩
theorem eX7_lengthenInward_29 : zD cX7_lengthenInward 29 (.aload_n 0) 1 30 := ⟨by decide +kernel, rfl⟩
theorem eX7_lengthenInward_30 : zD cX7_lengthenInward 30 (.getfield 30) 3 33 := ⟨by decide +kernel, rfl⟩
theorem eX7_lengthenInward_33 : zD cX7_lengthenInward 33 (.iload_n 2) 1 34 := ⟨by decide +kernel, rfl⟩
theorem eX7_lengthenInward_34 : zD cX7_lengthenInward 34 (.iaload) 1 35 := ⟨by decide +kernel, rfl⟩
theorem eX7_lengthenInward_35 : zD cX7_lengthenInward 35 (.aload_n 0) 1 36 := ⟨by decide +kernel, rfl⟩
theorem eX7_lengthenInward_36 : zD cX7_lengthenInward 36 (.getfield 30) 3 39 := ⟨by decide +kernel, rfl⟩
theorem eX7_lengthenInward_39 : zD cX7_lengthenInward 39 (.iload_n 1) 1 40 := ⟨by decide +kernel, rfl⟩
theorem eX7_lengthenInward_40 : zD cX7_lengthenInward 40 (.iaload) 1 41 := ⟨by decide +kernel, rfl⟩
theorem eX7_lengthenInward_41 : zD cX7_lengthenInward 41 (.iconst 1) 1 42 := ⟨by decide +kernel, rfl⟩
theorem eX7_lengthenInward_42 : zD cX7_lengthenInward 42 (.iadd) 1 43 := ⟨by decide +kernel, rfl⟩
theorem eX7_lengthenInward_43 : zD cX7_lengthenInward 43 (.invokestatic 106) 3 46 := ⟨by decide +kernel, rfl⟩
theorem eX7_lengthenInward_46 : zD cX7_lengthenInward 46 (.iastore) 1 47 := ⟨by decide +kernel, rfl⟩
theorem eX7_lengthenInward_47 : zD cX7_lengthenInward 47 (.iinc 2 1) 3 50 := ⟨by decide +kernel, rfl⟩
theorem eX7_lengthenInward_50 : zD cX7_lengthenInward 50 (.goto (-48)) 3 53 := ⟨by decide +kernel, rfl⟩
theorem eX7_lengthenInward_53 : zD cX7_lengthenInward 53 (.return_) 1 54 := ⟨by decide +kernel, rfl⟩
theorem eX7_lengthenOutward_0 : zD cX7_lengthenOutward 0 (.iconst 0) 1 1 := ⟨by decide +kernel, rfl⟩
theorem eX7_lengthenOutward_1 : zD cX7_lengthenOutward 1 (.istore_n 2) 1 2 := ⟨by decide +kernel, rfl⟩
theorem eX7_lengthenOutward_2 : zD cX7_lengthenOutward 2 (.iload_n 2) 1 3 := ⟨by decide +kernel, rfl⟩
theorem eX7_lengthenOutward_3 : zD cX7_lengthenOutward 3 (.aload_n 0) 1 4 := ⟨by decide +kernel, rfl⟩
theorem eX7_lengthenOutward_4 : zD cX7_lengthenOutward 4 (.getfield 48) 3 7 := ⟨by decide +kernel, rfl⟩
theorem eX7_lengthenOutward_7 : zD cX7_lengthenOutward 7 (.if_icmp .ge 46) 3 10 := ⟨by decide +kernel, rfl⟩
theorem eX7_lengthenOutward_10 : zD cX7_lengthenOutward 10 (.aload_n 0) 1 11 := ⟨by decide +kernel, rfl⟩
theorem eX7_lengthenOutward_11 : zD cX7_lengthenOutward 11 (.getfield 27) 3 14 := ⟨by decide +kernel, rfl⟩
theorem eX7_lengthenOutward_14 : zD cX7_lengthenOutward 14 (.iload_n 1) 1 15 := ⟨by decide +kernel, rfl⟩
theorem eX7_lengthenOutward_15 : zD cX7_lengthenOutward 15 (.iaload) 1 16 := ⟨by decide +kernel, rfl⟩
theorem eX7_lengthenOutward_16 : zD cX7_lengthenOutward 16 (.iload_n 2) 1 17 := ⟨by decide +kernel, rfl⟩
theorem eX7_lengthenOutward_17 : zD cX7_lengthenOutward 17 (.ishr) 1 18 := ⟨by decide +kernel, rfl⟩
theorem eX7_lengthenOutward_18 : zD cX7_lengthenOutward 18 (.iconst 1) 1 19 := ⟨by decide +kernel, rfl⟩
theorem eX7_lengthenOutward_19 : zD cX7_lengthenOutward 19 (.iand) 1 20 := ⟨by decide +kernel, rfl⟩
theorem eX7_lengthenOutward_20 : zD cX7_lengthenOutward 20 (.iconst 1) 1 21 := ⟨by decide +kernel, rfl⟩
theorem eX7_lengthenOutward_21 : zD cX7_lengthenOutward 21 (.if_icmp .ne 26) 3 24 := ⟨by decide +kernel, rfl⟩
theorem eX7_lengthenOutward_24 : zD cX7_lengthenOutward 24 (.aload_n 0) 1 25 := ⟨by decide +kernel, rfl⟩
theorem eX7_lengthenOutward_25 : zD cX7_lengthenOutward 25 (.getfield 33) 3 28 := ⟨by decide +kernel, rfl⟩
theorem eX7_lengthenOutward_28 : zD cX7_lengthenOutward 28 (.iload_n 1) 1 29 := ⟨by decide +kernel, rfl⟩
theorem eX7_lengthenOutward_29 : zD cX7_lengthenOutward 29 (.aload_n 0) 1 30 := ⟨by decide +kernel, rfl⟩
theorem eX7_lengthenOutward_30 : zD cX7_lengthenOutward 30 (.getfield 33) 3 33 := ⟨by decide +kernel, rfl⟩
theorem eX7_lengthenOutward_33 : zD cX7_lengthenOutward 33 (.iload_n 1) 1 34 := ⟨by decide +kernel, rfl⟩
theorem eX7_lengthenOutward_34 : zD cX7_lengthenOutward 34 (.iaload) 1 35 := ⟨by decide +kernel, rfl⟩
theorem eX7_lengthenOutward_35 : zD cX7_lengthenOutward 35 (.aload_n 0) 1 36 := ⟨by decide +kernel, rfl⟩
theorem eX7_lengthenOutward_36 : zD cX7_lengthenOutward 36 (.getfield 33) 3 39 := ⟨by decide +kernel, rfl⟩
theorem eX7_lengthenOutward_39 : zD cX7_lengthenOutward 39 (.iload_n 2) 1 40 := ⟨by decide +kernel, rfl⟩
theorem eX7_lengthenOutward_40 : zD cX7_lengthenOutward 40 (.iaload) 1 41 := ⟨by decide +kernel, rfl⟩
theorem eX7_lengthenOutward_41 : zD cX7_lengthenOutward 41 (.iconst 1) 1 42 := ⟨by decide +kernel, rfl⟩
theorem eX7_lengthenOutward_42 : zD cX7_lengthenOutward 42 (.iadd) 1 43 := ⟨by decide +kernel, rfl⟩
theorem eX7_lengthenOutward_43 : zD cX7_lengthenOutward 43 (.invokestatic 106) 3 46 := ⟨by decide +kernel, rfl⟩
theorem eX7_lengthenOutward_46 : zD cX7_lengthenOutward 46 (.iastore) 1 47 := ⟨by decide +kernel, rfl⟩
theorem eX7_lengthenOutward_47 : zD cX7_lengthenOutward 47 (.iinc 2 1) 3 50 := ⟨by decide +kernel, rfl⟩
theorem eX7_lengthenOutward_50 : zD cX7_lengthenOutward 50 (.goto (-48)) 3 53 := ⟨by decide +kernel, rfl⟩
theorem eX7_lengthenOutward_53 : zD cX7_lengthenOutward 53 (.return_) 1 54 := ⟨by decide +kernel, rfl⟩
theorem eX7_longestWith_0 : zD cX7_longestWith 0 (.iconst 0) 1 1 := ⟨by decide +kernel, rfl⟩
theorem eX7_longestWith_1 : zD cX7_longestWith 1 (.istore_n 3) 1 2 := ⟨by decide +kernel, rfl⟩
theorem eX7_longestWith_2 : zD cX7_longestWith 2 (.iconst 0) 1 3 := ⟨by decide +kernel, rfl⟩
theorem eX7_longestWith_3 : zD cX7_longestWith 3 (.istore 4) 2 5 := ⟨by decide +kernel, rfl⟩
theorem eX7_longestWith_5 : zD cX7_longestWith 5 (.iconst 0) 1 6 := ⟨by decide +kernel, rfl⟩
theorem eX7_longestWith_6 : zD cX7_longestWith 6 (.istore 5) 2 8 := ⟨by decide +kernel, rfl⟩
theorem eX7_longestWith_8 : zD cX7_longestWith 8 (.iconst 0) 1 9 := ⟨by decide +kernel, rfl⟩
theorem eX7_longestWith_9 : zD cX7_longestWith 9 (.istore 6) 2 11 := ⟨by decide +kernel, rfl⟩
theorem eX7_longestWith_11 : zD cX7_longestWith 11 (.iload 6) 2 13 := ⟨by decide +kernel, rfl⟩
theorem eX7_longestWith_13 : zD cX7_longestWith 13 (.aload_n 0) 1 14 := ⟨by decide +kernel, rfl⟩
theorem eX7_longestWith_14 : zD cX7_longestWith 14 (.getfield 48) 3 17 := ⟨by decide +kernel, rfl⟩
theorem eX7_longestWith_17 : zD cX7_longestWith 17 (.if_icmp .ge 77) 3 20 := ⟨by decide +kernel, rfl⟩
theorem eX7_longestWith_20 : zD cX7_longestWith 20 (.iload_n 3) 1 21 := ⟨by decide +kernel, rfl⟩
theorem eX7_longestWith_21 : zD cX7_longestWith 21 (.aload_n 0) 1 22 := ⟨by decide +kernel, rfl⟩
theorem eX7_longestWith_22 : zD cX7_longestWith 22 (.getfield 30) 3 25 := ⟨by decide +kernel, rfl⟩
theorem eX7_longestWith_25 : zD cX7_longestWith 25 (.iload 6) 2 27 := ⟨by decide +kernel, rfl⟩
theorem eX7_longestWith_27 : zD cX7_longestWith 27 (.iaload) 1 28 := ⟨by decide +kernel, rfl⟩
theorem eX7_longestWith_28 : zD cX7_longestWith 28 (.invokestatic 106) 3 31 := ⟨by decide +kernel, rfl⟩
theorem eX7_longestWith_31 : zD cX7_longestWith 31 (.istore_n 3) 1 32 := ⟨by decide +kernel, rfl⟩
theorem eX7_longestWith_32 : zD cX7_longestWith 32 (.aload_n 1) 1 33 := ⟨by decide +kernel, rfl⟩
theorem eX7_longestWith_33 : zD cX7_longestWith 33 (.iload 6) 2 35 := ⟨by decide +kernel, rfl⟩
theorem eX7_longestWith_35 : zD cX7_longestWith 35 (.iload_n 2) 1 36 := ⟨by decide +kernel, rfl⟩
theorem eX7_longestWith_36 : zD cX7_longestWith 36 (.aload_n 1) 1 37 := ⟨by decide +kernel, rfl⟩
theorem eX7_longestWith_37 : zD cX7_longestWith 37 (.getfield 63) 3 40 := ⟨by decide +kernel, rfl⟩
theorem eX7_longestWith_40 : zD cX7_longestWith 40 (.invokevirtual 66) 3 43 := ⟨by decide +kernel, rfl⟩
theorem eX7_longestWith_43 : zD cX7_longestWith 43 (.ifCond .eq 17) 3 46 := ⟨by decide +kernel, rfl⟩
theorem eX7_longestWith_46 : zD cX7_longestWith 46 (.iload 4) 2 48 := ⟨by decide +kernel, rfl⟩
theorem eX7_longestWith_48 : zD cX7_longestWith 48 (.aload_n 0) 1 49 := ⟨by decide +kernel, rfl⟩
theorem eX7_longestWith_49 : zD cX7_longestWith 49 (.getfield 30) 3 52 := ⟨by decide +kernel, rfl⟩
theorem eX7_longestWith_52 : zD cX7_longestWith 52 (.iload 6) 2 54 := ⟨by decide +kernel, rfl⟩
theorem eX7_longestWith_54 : zD cX7_longestWith 54 (.iaload) 1 55 := ⟨by decide +kernel, rfl⟩
theorem eX7_longestWith_55 : zD cX7_longestWith 55 (.invokestatic 106) 3 58 := ⟨by decide +kernel, rfl⟩
theorem eX7_longestWith_58 : zD cX7_longestWith 58 (.istore 4) 2 60 := ⟨by decide +kernel, rfl⟩
theorem eX7_longestWith_60 : zD cX7_longestWith 60 (.aload_n 1) 1 61 := ⟨by decide +kernel, rfl⟩
theorem eX7_longestWith_61 : zD cX7_longestWith 61 (.iload_n 2) 1 62 := ⟨by decide +kernel, rfl⟩
theorem eX7_longestWith_62 : zD cX7_longestWith 62 (.iload 6) 2 64 := ⟨by decide +kernel, rfl⟩
theorem eX7_longestWith_64 : zD cX7_longestWith 64 (.aload_n 1) 1 65 := ⟨by decide +kernel, rfl⟩
theorem eX7_longestWith_65 : zD cX7_longestWith 65 (.getfield 63) 3 68 := ⟨by decide +kernel, rfl⟩
theorem eX7_longestWith_68 : zD cX7_longestWith 68 (.invokevirtual 66) 3 71 := ⟨by decide +kernel, rfl⟩
theorem eX7_longestWith_71 : zD cX7_longestWith 71 (.ifCond .eq 17) 3 74 := ⟨by decide +kernel, rfl⟩
theorem eX7_longestWith_74 : zD cX7_longestWith 74 (.iload 5) 2 76 := ⟨by decide +kernel, rfl⟩
theorem eX7_longestWith_76 : zD cX7_longestWith 76 (.aload_n 0) 1 77 := ⟨by decide +kernel, rfl⟩
theorem eX7_longestWith_77 : zD cX7_longestWith 77 (.getfield 33) 3 80 := ⟨by decide +kernel, rfl⟩
theorem eX7_longestWith_80 : zD cX7_longestWith 80 (.iload 6) 2 82 := ⟨by decide +kernel, rfl⟩
theorem eX7_longestWith_82 : zD cX7_longestWith 82 (.iaload) 1 83 := ⟨by decide +kernel, rfl⟩
theorem eX7_longestWith_83 : zD cX7_longestWith 83 (.invokestatic 106) 3 86 := ⟨by decide +kernel, rfl⟩
theorem eX7_longestWith_86 : zD cX7_longestWith 86 (.istore 5) 2 88 := ⟨by decide +kernel, rfl⟩
theorem eX7_longestWith_88 : zD cX7_longestWith 88 (.iinc 6 1) 3 91 := ⟨by decide +kernel, rfl⟩
theorem eX7_longestWith_91 : zD cX7_longestWith 91 (.goto (-80)) 3 94 := ⟨by decide +kernel, rfl⟩
theorem eX7_longestWith_94 : zD cX7_longestWith 94 (.iload_n 3) 1 95 := ⟨by decide +kernel, rfl⟩
theorem eX7_longestWith_95 : zD cX7_longestWith 95 (.iload 4) 2 97 := ⟨by decide +kernel, rfl⟩
theorem eX7_longestWith_97 : zD cX7_longestWith 97 (.iconst 1) 1 98 := ⟨by decide +kernel, rfl⟩
theorem eX7_longestWith_98 : zD cX7_longestWith 98 (.iadd) 1 99 := ⟨by decide +kernel, rfl⟩
theorem eX7_longestWith_99 : zD cX7_longestWith 99 (.iload 5) 2 101 := ⟨by decide +kernel, rfl⟩
theorem eX7_longestWith_101 : zD cX7_longestWith 101 (.iadd) 1 102 := ⟨by decide +kernel, rfl⟩
theorem eX7_longestWith_102 : zD cX7_longestWith 102 (.invokestatic 106) 3 105 := ⟨by decide +kernel, rfl⟩
theorem eX7_longestWith_105 : zD cX7_longestWith 105 (.ireturn) 1 106 := ⟨by decide +kernel, rfl⟩
theorem eX8_init_0 : zD cX8_init 0 (.aload_n 0) 1 1 := ⟨by decide +kernel, rfl⟩
theorem eX8_init_1 : zD cX8_init 1 (.invokespecial 1) 3 4 := ⟨by decide +kernel, rfl⟩
theorem eX8_init_4 : zD cX8_init 4 (.return_) 1 5 := ⟨by decide +kernel, rfl⟩
theorem eX8_outside_0 : zD cX8_outside 0 (.aload_n 0) 1 1 := ⟨by decide +kernel, rfl⟩
theorem eX8_outside_1 : zD cX8_outside 1 (.iload_n 1) 1 2 := ⟨by decide +kernel, rfl⟩
theorem eX8_outside_2 : zD cX8_outside 2 (.iload_n 2) 1 3 := ⟨by decide +kernel, rfl⟩
theorem eX8_outside_3 : zD cX8_outside 3 (.iload_n 3) 1 4 := ⟨by decide +kernel, rfl⟩
theorem eX8_outside_4 : zD cX8_outside 4 (.invokespecial 7) 3 7 := ⟨by decide +kernel, rfl⟩
theorem eX8_outside_7 : zD cX8_outside 7 (.iload_n 3) 1 8 := ⟨by decide +kernel, rfl⟩
theorem eX8_outside_8 : zD cX8_outside 8 (.iconst 1) 1 9 := ⟨by decide +kernel, rfl⟩
theorem eX8_outside_9 : zD cX8_outside 9 (.if_icmp .ne 7) 3 12 := ⟨by decide +kernel, rfl⟩
theorem eX8_outside_12 : zD cX8_outside 12 (.iload_n 2) 1 13 := ⟨by decide +kernel, rfl⟩
theorem eX8_outside_13 : zD cX8_outside 13 (.goto 4) 3 16 := ⟨by decide +kernel, rfl⟩
theorem eX8_outside_16 : zD cX8_outside 16 (.iconst 0) 1 17 := ⟨by decide +kernel, rfl⟩
theorem eX8_outside_17 : zD cX8_outside 17 (.iadd) 1 18 := ⟨by decide +kernel, rfl⟩
theorem eX8_outside_18 : zD cX8_outside 18 (.ireturn) 1 19 := ⟨by decide +kernel, rfl⟩
theorem eX8_inside_0 : zD cX8_inside 0 (.aload_n 0) 1 1 := ⟨by decide +kernel, rfl⟩
theorem eX8_inside_1 : zD cX8_inside 1 (.iload_n 1) 1 2 := ⟨by decide +kernel, rfl⟩
theorem eX8_inside_2 : zD cX8_inside 2 (.iload_n 2) 1 3 := ⟨by decide +kernel, rfl⟩
theorem eX8_inside_3 : zD cX8_inside 3 (.iload_n 3) 1 4 := ⟨by decide +kernel, rfl⟩
theorem eX8_inside_4 : zD cX8_inside 4 (.iload 4) 2 6 := ⟨by decide +kernel, rfl⟩
theorem eX8_inside_6 : zD cX8_inside 6 (.invokespecial 11) 3 9 := ⟨by decide +kernel, rfl⟩
theorem eX8_inside_9 : zD cX8_inside 9 (.iload_n 3) 1 10 := ⟨by decide +kernel, rfl⟩
theorem eX8_inside_10 : zD cX8_inside 10 (.iconst 1) 1 11 := ⟨by decide +kernel, rfl⟩
theorem eX8_inside_11 : zD cX8_inside 11 (.if_icmp .ne 7) 3 14 := ⟨by decide +kernel, rfl⟩
theorem eX8_inside_14 : zD cX8_inside 14 (.iload_n 2) 1 15 := ⟨by decide +kernel, rfl⟩
theorem eX8_inside_15 : zD cX8_inside 15 (.goto 4) 3 18 := ⟨by decide +kernel, rfl⟩
theorem eX8_inside_18 : zD cX8_inside 18 (.iconst 0) 1 19 := ⟨by decide +kernel, rfl⟩
theorem eX8_inside_19 : zD cX8_inside 19 (.iadd) 1 20 := ⟨by decide +kernel, rfl⟩
theorem eX8_inside_20 : zD cX8_inside 20 (.ireturn) 1 21 := ⟨by decide +kernel, rfl⟩
theorem eX8_cost_0 : zD cX8_cost 0 (.aload_n 0) 1 1 := ⟨by decide +kernel, rfl⟩
theorem eX8_cost_1 : zD cX8_cost 1 (.iload_n 1) 1 2 := ⟨by decide +kernel, rfl⟩
theorem eX8_cost_2 : zD cX8_cost 2 (.invokespecial 15) 3 5 := ⟨by decide +kernel, rfl⟩
theorem eX8_cost_5 : zD cX8_cost 5 (.iload_n 1) 1 6 := ⟨by decide +kernel, rfl⟩
theorem eX8_cost_6 : zD cX8_cost 6 (.iadd) 1 7 := ⟨by decide +kernel, rfl⟩
theorem eX8_cost_7 : zD cX8_cost 7 (.ireturn) 1 8 := ⟨by decide +kernel, rfl⟩
theorem eX8_minds_0 : zD cX8_minds 0 (.iconst 1) 1 1 := ⟨by decide +kernel, rfl⟩
theorem eX8_minds_1 : zD cX8_minds 1 (.ireturn) 1 2 := ⟨by decide +kernel, rfl⟩
theorem eX9_init_0 : zD cX9_init 0 (.aload_n 0) 1 1 := ⟨by decide +kernel, rfl⟩
theorem eX9_init_1 : zD cX9_init 1 (.invokespecial 1) 3 4 := ⟨by decide +kernel, rfl⟩
theorem eX9_init_4 : zD cX9_init 4 (.return_) 1 5 := ⟨by decide +kernel, rfl⟩
theorem eX9_outside_0 : zD cX9_outside 0 (.aload_n 0) 1 1 := ⟨by decide +kernel, rfl⟩
theorem eX9_outside_1 : zD cX9_outside 1 (.iload_n 1) 1 2 := ⟨by decide +kernel, rfl⟩
theorem eX9_outside_2 : zD cX9_outside 2 (.iload_n 2) 1 3 := ⟨by decide +kernel, rfl⟩
theorem eX9_outside_3 : zD cX9_outside 3 (.iload_n 3) 1 4 := ⟨by decide +kernel, rfl⟩
theorem eX9_outside_4 : zD cX9_outside 4 (.invokespecial 7) 3 7 := ⟨by decide +kernel, rfl⟩
theorem eX9_outside_7 : zD cX9_outside 7 (.iconst 1) 1 8 := ⟨by decide +kernel, rfl⟩
theorem eX9_outside_8 : zD cX9_outside 8 (.iadd) 1 9 := ⟨by decide +kernel, rfl⟩
theorem eX9_outside_9 : zD cX9_outside 9 (.ireturn) 1 10 := ⟨by decide +kernel, rfl⟩
theorem eX9_cost_0 : zD cX9_cost 0 (.aload_n 0) 1 1 := ⟨by decide +kernel, rfl⟩
theorem eX9_cost_1 : zD cX9_cost 1 (.iload_n 1) 1 2 := ⟨by decide +kernel, rfl⟩
theorem eX9_cost_2 : zD cX9_cost 2 (.invokespecial 11) 3 5 := ⟨by decide +kernel, rfl⟩
theorem eX9_cost_5 : zD cX9_cost 5 (.iconst 2) 1 6 := ⟨by decide +kernel, rfl⟩
theorem eX9_cost_6 : zD cX9_cost 6 (.idiv) 1 7 := ⟨by decide +kernel, rfl⟩
theorem eX9_cost_7 : zD cX9_cost 7 (.ireturn) 1 8 := ⟨by decide +kernel, rfl⟩
theorem eX9_fail_0 : zD cX9_fail 0 (.return_) 1 1 := ⟨by decide +kernel, rfl⟩
theorem eX10_init_0 : zD cX10_init 0 (.aload_n 0) 1 1 := ⟨by decide +kernel, rfl⟩
theorem eX10_init_1 : zD cX10_init 1 (.invokespecial 3) 3 4 := ⟨by decide +kernel, rfl⟩
theorem eX10_init_4 : zD cX10_init 4 (.aload_n 0) 1 5 := ⟨by decide +kernel, rfl⟩
theorem eX10_init_5 : zD cX10_init 5 (.bipush 100) 2 7 := ⟨by decide +kernel, rfl⟩
theorem eX10_init_7 : zD cX10_init 7 (.newarray .int) 2 9 := ⟨by decide +kernel, rfl⟩
theorem eX10_init_9 : zD cX10_init 9 (.putfield 9) 3 12 := ⟨by decide +kernel, rfl⟩
theorem eX10_init_12 : zD cX10_init 12 (.return_) 1 13 := ⟨by decide +kernel, rfl⟩
theorem eX10_clear_0 : zD cX10_clear 0 (.aload_n 0) 1 1 := ⟨by decide +kernel, rfl⟩
theorem eX10_clear_1 : zD cX10_clear 1 (.iconst 0) 1 2 := ⟨by decide +kernel, rfl⟩
theorem eX10_clear_2 : zD cX10_clear 2 (.putfield 15) 3 5 := ⟨by decide +kernel, rfl⟩
theorem eX10_clear_5 : zD cX10_clear 5 (.return_) 1 6 := ⟨by decide +kernel, rfl⟩
theorem eX10_holdBowl_0 : zD cX10_holdBowl 0 (.aload_n 0) 1 1 := ⟨by decide +kernel, rfl⟩
theorem eX10_holdBowl_1 : zD cX10_holdBowl 1 (.iconst 1) 1 2 := ⟨by decide +kernel, rfl⟩
theorem eX10_holdBowl_2 : zD cX10_holdBowl 2 (.putfield 15) 3 5 := ⟨by decide +kernel, rfl⟩
theorem eX10_holdBowl_5 : zD cX10_holdBowl 5 (.aload_n 0) 1 6 := ⟨by decide +kernel, rfl⟩
theorem eX10_holdBowl_6 : zD cX10_holdBowl 6 (.iload_n 1) 1 7 := ⟨by decide +kernel, rfl⟩
theorem eX10_holdBowl_7 : zD cX10_holdBowl 7 (.putfield 19) 3 10 := ⟨by decide +kernel, rfl⟩
theorem eX10_holdBowl_10 : zD cX10_holdBowl 10 (.aload_n 0) 1 11 := ⟨by decide +kernel, rfl⟩
theorem eX10_holdBowl_11 : zD cX10_holdBowl 11 (.iload_n 2) 1 12 := ⟨by decide +kernel, rfl⟩
theorem eX10_holdBowl_12 : zD cX10_holdBowl 12 (.putfield 22) 3 15 := ⟨by decide +kernel, rfl⟩
theorem eX10_holdBowl_15 : zD cX10_holdBowl 15 (.return_) 1 16 := ⟨by decide +kernel, rfl⟩
theorem eX10_holdRow_0 : zD cX10_holdRow 0 (.aload_n 0) 1 1 := ⟨by decide +kernel, rfl⟩
theorem eX10_holdRow_1 : zD cX10_holdRow 1 (.iconst 2) 1 2 := ⟨by decide +kernel, rfl⟩
theorem eX10_holdRow_2 : zD cX10_holdRow 2 (.putfield 15) 3 5 := ⟨by decide +kernel, rfl⟩
theorem eX10_holdRow_5 : zD cX10_holdRow 5 (.aload_n 0) 1 6 := ⟨by decide +kernel, rfl⟩
theorem eX10_holdRow_6 : zD cX10_holdRow 6 (.iload_n 1) 1 7 := ⟨by decide +kernel, rfl⟩
theorem eX10_holdRow_7 : zD cX10_holdRow 7 (.putfield 25) 3 10 := ⟨by decide +kernel, rfl⟩
theorem eX10_holdRow_10 : zD cX10_holdRow 10 (.aload_n 0) 1 11 := ⟨by decide +kernel, rfl⟩
theorem eX10_holdRow_11 : zD cX10_holdRow 11 (.iload_n 2) 1 12 := ⟨by decide +kernel, rfl⟩
theorem eX10_holdRow_12 : zD cX10_holdRow 12 (.putfield 28) 3 15 := ⟨by decide +kernel, rfl⟩
theorem eX10_holdRow_15 : zD cX10_holdRow 15 (.iconst 0) 1 16 := ⟨by decide +kernel, rfl⟩
theorem eX10_holdRow_16 : zD cX10_holdRow 16 (.istore_n 3) 1 17 := ⟨by decide +kernel, rfl⟩
theorem eX10_holdRow_17 : zD cX10_holdRow 17 (.iload_n 3) 1 18 := ⟨by decide +kernel, rfl⟩
theorem eX10_holdRow_18 : zD cX10_holdRow 18 (.bipush 100) 2 20 := ⟨by decide +kernel, rfl⟩
theorem eX10_holdRow_20 : zD cX10_holdRow 20 (.if_icmp .ge 16) 3 23 := ⟨by decide +kernel, rfl⟩
theorem eX10_holdRow_23 : zD cX10_holdRow 23 (.aload_n 0) 1 24 := ⟨by decide +kernel, rfl⟩
theorem eX10_holdRow_24 : zD cX10_holdRow 24 (.getfield 9) 3 27 := ⟨by decide +kernel, rfl⟩
theorem eX10_holdRow_27 : zD cX10_holdRow 27 (.iload_n 3) 1 28 := ⟨by decide +kernel, rfl⟩
theorem eX10_holdRow_28 : zD cX10_holdRow 28 (.iconst 0) 1 29 := ⟨by decide +kernel, rfl⟩
theorem eX10_holdRow_29 : zD cX10_holdRow 29 (.iastore) 1 30 := ⟨by decide +kernel, rfl⟩
theorem eX10_holdRow_30 : zD cX10_holdRow 30 (.iinc 3 1) 3 33 := ⟨by decide +kernel, rfl⟩
theorem eX10_holdRow_33 : zD cX10_holdRow 33 (.goto (-16)) 3 36 := ⟨by decide +kernel, rfl⟩
theorem eX10_holdRow_36 : zD cX10_holdRow 36 (.return_) 1 37 := ⟨by decide +kernel, rfl⟩
theorem eX10_hasPlace_0 : zD cX10_hasPlace 0 (.iload_n 1) 1 1 := ⟨by decide +kernel, rfl⟩
theorem eX10_hasPlace_1 : zD cX10_hasPlace 1 (.ifCond .lt 15) 3 4 := ⟨by decide +kernel, rfl⟩
theorem eX10_hasPlace_4 : zD cX10_hasPlace 4 (.iload_n 1) 1 5 := ⟨by decide +kernel, rfl⟩
theorem eX10_hasPlace_5 : zD cX10_hasPlace 5 (.aload_n 0) 1 6 := ⟨by decide +kernel, rfl⟩
theorem eX10_hasPlace_6 : zD cX10_hasPlace 6 (.getfield 28) 3 9 := ⟨by decide +kernel, rfl⟩
theorem eX10_hasPlace_9 : zD cX10_hasPlace 9 (.if_icmp .ge 7) 3 12 := ⟨by decide +kernel, rfl⟩
theorem eX10_hasPlace_12 : zD cX10_hasPlace 12 (.iconst 1) 1 13 := ⟨by decide +kernel, rfl⟩
theorem eX10_hasPlace_13 : zD cX10_hasPlace 13 (.goto 4) 3 16 := ⟨by decide +kernel, rfl⟩
theorem eX10_hasPlace_16 : zD cX10_hasPlace 16 (.iconst 0) 1 17 := ⟨by decide +kernel, rfl⟩
theorem eX10_hasPlace_17 : zD cX10_hasPlace 17 (.ireturn) 1 18 := ⟨by decide +kernel, rfl⟩
theorem eX10_hasStretch_0 : zD cX10_hasStretch 0 (.iload_n 2) 1 1 := ⟨by decide +kernel, rfl⟩
theorem eX10_hasStretch_1 : zD cX10_hasStretch 1 (.ifCond .lt 29) 3 4 := ⟨by decide +kernel, rfl⟩
theorem eX10_hasStretch_4 : zD cX10_hasStretch 4 (.iload_n 2) 1 5 := ⟨by decide +kernel, rfl⟩
theorem eX10_hasStretch_5 : zD cX10_hasStretch 5 (.aload_n 0) 1 6 := ⟨by decide +kernel, rfl⟩
theorem eX10_hasStretch_6 : zD cX10_hasStretch 6 (.getfield 28) 3 9 := ⟨by decide +kernel, rfl⟩
theorem eX10_hasStretch_9 : zD cX10_hasStretch 9 (.if_icmp .gt 21) 3 12 := ⟨by decide +kernel, rfl⟩
theorem eX10_hasStretch_12 : zD cX10_hasStretch 12 (.iload_n 1) 1 13 := ⟨by decide +kernel, rfl⟩
theorem eX10_hasStretch_13 : zD cX10_hasStretch 13 (.ifCond .lt 17) 3 16 := ⟨by decide +kernel, rfl⟩
theorem eX10_hasStretch_16 : zD cX10_hasStretch 16 (.iload_n 1) 1 17 := ⟨by decide +kernel, rfl⟩
theorem eX10_hasStretch_17 : zD cX10_hasStretch 17 (.aload_n 0) 1 18 := ⟨by decide +kernel, rfl⟩
theorem eX10_hasStretch_18 : zD cX10_hasStretch 18 (.getfield 28) 3 21 := ⟨by decide +kernel, rfl⟩
theorem eX10_hasStretch_21 : zD cX10_hasStretch 21 (.iload_n 2) 1 22 := ⟨by decide +kernel, rfl⟩
theorem eX10_hasStretch_22 : zD cX10_hasStretch 22 (.isub) 1 23 := ⟨by decide +kernel, rfl⟩
theorem eX10_hasStretch_23 : zD cX10_hasStretch 23 (.if_icmp .gt 7) 3 26 := ⟨by decide +kernel, rfl⟩
theorem eX10_hasStretch_26 : zD cX10_hasStretch 26 (.iconst 1) 1 27 := ⟨by decide +kernel, rfl⟩
theorem eX10_hasStretch_27 : zD cX10_hasStretch 27 (.goto 4) 3 30 := ⟨by decide +kernel, rfl⟩
theorem eX10_hasStretch_30 : zD cX10_hasStretch 30 (.iconst 0) 1 31 := ⟨by decide +kernel, rfl⟩
theorem eX10_hasStretch_31 : zD cX10_hasStretch 31 (.ireturn) 1 32 := ⟨by decide +kernel, rfl⟩
theorem eX10_set_0 : zD cX10_set 0 (.aload_n 0) 1 1 := ⟨by decide +kernel, rfl⟩
theorem eX10_set_1 : zD cX10_set 1 (.getfield 25) 3 4 := ⟨by decide +kernel, rfl⟩
theorem eX10_set_4 : zD cX10_set 4 (.ifCond .ne 14) 3 7 := ⟨by decide +kernel, rfl⟩
theorem eX10_set_7 : zD cX10_set 7 (.aload_n 0) 1 8 := ⟨by decide +kernel, rfl⟩
theorem eX10_set_8 : zD cX10_set 8 (.getfield 9) 3 11 := ⟨by decide +kernel, rfl⟩
theorem eX10_set_11 : zD cX10_set 11 (.iload_n 1) 1 12 := ⟨by decide +kernel, rfl⟩
theorem eX10_set_12 : zD cX10_set 12 (.iload_n 2) 1 13 := ⟨by decide +kernel, rfl⟩
theorem eX10_set_13 : zD cX10_set 13 (.i2b) 1 14 := ⟨by decide +kernel, rfl⟩
theorem eX10_set_14 : zD cX10_set 14 (.iastore) 1 15 := ⟨by decide +kernel, rfl⟩
theorem eX10_set_15 : zD cX10_set 15 (.goto 29) 3 18 := ⟨by decide +kernel, rfl⟩
theorem eX10_set_18 : zD cX10_set 18 (.aload_n 0) 1 19 := ⟨by decide +kernel, rfl⟩
theorem eX10_set_19 : zD cX10_set 19 (.getfield 25) 3 22 := ⟨by decide +kernel, rfl⟩
theorem eX10_set_22 : zD cX10_set 22 (.iconst 1) 1 23 := ⟨by decide +kernel, rfl⟩
theorem eX10_set_23 : zD cX10_set 23 (.if_icmp .ne 14) 3 26 := ⟨by decide +kernel, rfl⟩
theorem eX10_set_26 : zD cX10_set 26 (.aload_n 0) 1 27 := ⟨by decide +kernel, rfl⟩
theorem eX10_set_27 : zD cX10_set 27 (.getfield 9) 3 30 := ⟨by decide +kernel, rfl⟩
theorem eX10_set_30 : zD cX10_set 30 (.iload_n 1) 1 31 := ⟨by decide +kernel, rfl⟩
theorem eX10_set_31 : zD cX10_set 31 (.iload_n 2) 1 32 := ⟨by decide +kernel, rfl⟩
theorem eX10_set_32 : zD cX10_set 32 (.i2s) 1 33 := ⟨by decide +kernel, rfl⟩
theorem eX10_set_33 : zD cX10_set 33 (.iastore) 1 34 := ⟨by decide +kernel, rfl⟩
theorem eX10_set_34 : zD cX10_set 34 (.goto 10) 3 37 := ⟨by decide +kernel, rfl⟩
theorem eX10_set_37 : zD cX10_set 37 (.aload_n 0) 1 38 := ⟨by decide +kernel, rfl⟩
theorem eX10_set_38 : zD cX10_set 38 (.getfield 9) 3 41 := ⟨by decide +kernel, rfl⟩
theorem eX10_set_41 : zD cX10_set 41 (.iload_n 1) 1 42 := ⟨by decide +kernel, rfl⟩
theorem eX10_set_42 : zD cX10_set 42 (.iload_n 2) 1 43 := ⟨by decide +kernel, rfl⟩
theorem eX10_set_43 : zD cX10_set 43 (.iastore) 1 44 := ⟨by decide +kernel, rfl⟩
theorem eX10_set_44 : zD cX10_set 44 (.return_) 1 45 := ⟨by decide +kernel, rfl⟩
theorem eX10_at_0 : zD cX10_at 0 (.aload_n 0) 1 1 := ⟨by decide +kernel, rfl⟩
theorem eX10_at_1 : zD cX10_at 1 (.iload_n 1) 1 2 := ⟨by decide +kernel, rfl⟩
theorem eX10_at_2 : zD cX10_at 2 (.invokevirtual 31) 3 5 := ⟨by decide +kernel, rfl⟩
theorem eX10_at_5 : zD cX10_at 5 (.ifCond .eq 12) 3 8 := ⟨by decide +kernel, rfl⟩
theorem eX10_at_8 : zD cX10_at 8 (.aload_n 0) 1 9 := ⟨by decide +kernel, rfl⟩
theorem eX10_at_9 : zD cX10_at 9 (.getfield 9) 3 12 := ⟨by decide +kernel, rfl⟩
theorem eX10_at_12 : zD cX10_at 12 (.iload_n 1) 1 13 := ⟨by decide +kernel, rfl⟩
theorem eX10_at_13 : zD cX10_at 13 (.iaload) 1 14 := ⟨by decide +kernel, rfl⟩
theorem eX10_at_14 : zD cX10_at 14 (.goto 6) 3 17 := ⟨by decide +kernel, rfl⟩
theorem eX10_at_17 : zD cX10_at 17 (.sipush 1000) 3 20 := ⟨by decide +kernel, rfl⟩
theorem eX10_at_20 : zD cX10_at 20 (.ireturn) 1 21 := ⟨by decide +kernel, rfl⟩
theorem eX10_digitAt_0 : zD cX10_digitAt 0 (.aload_n 0) 1 1 := ⟨by decide +kernel, rfl⟩
theorem eX10_digitAt_1 : zD cX10_digitAt 1 (.iload_n 1) 1 2 := ⟨by decide +kernel, rfl⟩
theorem eX10_digitAt_2 : zD cX10_digitAt 2 (.invokevirtual 35) 3 5 := ⟨by decide +kernel, rfl⟩
theorem eX10_digitAt_5 : zD cX10_digitAt 5 (.bipush 48) 2 7 := ⟨by decide +kernel, rfl⟩
theorem eX10_digitAt_7 : zD cX10_digitAt 7 (.isub) 1 8 := ⟨by decide +kernel, rfl⟩
theorem eX10_digitAt_8 : zD cX10_digitAt 8 (.ireturn) 1 9 := ⟨by decide +kernel, rfl⟩
theorem eX10_isDigit_0 : zD cX10_isDigit 0 (.aload_n 0) 1 1 := ⟨by decide +kernel, rfl⟩
theorem eX10_isDigit_1 : zD cX10_isDigit 1 (.iload_n 1) 1 2 := ⟨by decide +kernel, rfl⟩
theorem eX10_isDigit_2 : zD cX10_isDigit 2 (.invokevirtual 35) 3 5 := ⟨by decide +kernel, rfl⟩
theorem eX10_isDigit_5 : zD cX10_isDigit 5 (.bipush 48) 2 7 := ⟨by decide +kernel, rfl⟩
theorem eX10_isDigit_7 : zD cX10_isDigit 7 (.if_icmp .lt 17) 3 10 := ⟨by decide +kernel, rfl⟩
theorem eX10_isDigit_10 : zD cX10_isDigit 10 (.aload_n 0) 1 11 := ⟨by decide +kernel, rfl⟩
theorem eX10_isDigit_11 : zD cX10_isDigit 11 (.iload_n 1) 1 12 := ⟨by decide +kernel, rfl⟩
theorem eX10_isDigit_12 : zD cX10_isDigit 12 (.invokevirtual 35) 3 15 := ⟨by decide +kernel, rfl⟩
theorem eX10_isDigit_15 : zD cX10_isDigit 15 (.bipush 57) 2 17 := ⟨by decide +kernel, rfl⟩
theorem eX10_isDigit_17 : zD cX10_isDigit 17 (.if_icmp .gt 7) 3 20 := ⟨by decide +kernel, rfl⟩
theorem eX10_isDigit_20 : zD cX10_isDigit 20 (.iconst 1) 1 21 := ⟨by decide +kernel, rfl⟩
theorem eX10_isDigit_21 : zD cX10_isDigit 21 (.goto 4) 3 24 := ⟨by decide +kernel, rfl⟩
theorem eX10_isDigit_24 : zD cX10_isDigit 24 (.iconst 0) 1 25 := ⟨by decide +kernel, rfl⟩
theorem eX10_isDigit_25 : zD cX10_isDigit 25 (.ireturn) 1 26 := ⟨by decide +kernel, rfl⟩
theorem eX10_faultOfForm_0 : zD cX10_faultOfForm 0 (.aload_n 0) 1 1 := ⟨by decide +kernel, rfl⟩
theorem eX10_faultOfForm_1 : zD cX10_faultOfForm 1 (.getfield 28) 3 4 := ⟨by decide +kernel, rfl⟩
theorem eX10_faultOfForm_4 : zD cX10_faultOfForm 4 (.ifCond .ne 5) 3 7 := ⟨by decide +kernel, rfl⟩
theorem eX10_faultOfForm_7 : zD cX10_faultOfForm 7 (.iconst 0) 1 8 := ⟨by decide +kernel, rfl⟩
theorem eX10_faultOfForm_8 : zD cX10_faultOfForm 8 (.ireturn) 1 9 := ⟨by decide +kernel, rfl⟩
theorem eX10_faultOfForm_9 : zD cX10_faultOfForm 9 (.iconst 0) 1 10 := ⟨by decide +kernel, rfl⟩
theorem eX10_faultOfForm_10 : zD cX10_faultOfForm 10 (.istore_n 1) 1 11 := ⟨by decide +kernel, rfl⟩
theorem eX10_faultOfForm_11 : zD cX10_faultOfForm 11 (.iconst 0) 1 12 := ⟨by decide +kernel, rfl⟩
theorem eX10_faultOfForm_12 : zD cX10_faultOfForm 12 (.istore_n 2) 1 13 := ⟨by decide +kernel, rfl⟩
theorem eX10_faultOfForm_13 : zD cX10_faultOfForm 13 (.iload_n 2) 1 14 := ⟨by decide +kernel, rfl⟩
theorem eX10_faultOfForm_14 : zD cX10_faultOfForm 14 (.aload_n 0) 1 15 := ⟨by decide +kernel, rfl⟩
theorem eX10_faultOfForm_15 : zD cX10_faultOfForm 15 (.getfield 28) 3 18 := ⟨by decide +kernel, rfl⟩
theorem eX10_faultOfForm_18 : zD cX10_faultOfForm 18 (.if_icmp .ge 33) 3 21 := ⟨by decide +kernel, rfl⟩
theorem eX10_faultOfForm_21 : zD cX10_faultOfForm 21 (.iload_n 1) 1 22 := ⟨by decide +kernel, rfl⟩
theorem eX10_faultOfForm_22 : zD cX10_faultOfForm 22 (.aload_n 0) 1 23 := ⟨by decide +kernel, rfl⟩
theorem eX10_faultOfForm_23 : zD cX10_faultOfForm 23 (.getfield 28) 3 26 := ⟨by decide +kernel, rfl⟩
theorem eX10_faultOfForm_26 : zD cX10_faultOfForm 26 (.if_icmp .ge 25) 3 29 := ⟨by decide +kernel, rfl⟩
theorem eX10_faultOfForm_29 : zD cX10_faultOfForm 29 (.aload_n 0) 1 30 := ⟨by decide +kernel, rfl⟩
theorem eX10_faultOfForm_30 : zD cX10_faultOfForm 30 (.iload_n 1) 1 31 := ⟨by decide +kernel, rfl⟩
theorem eX10_faultOfForm_31 : zD cX10_faultOfForm 31 (.invokevirtual 39) 3 34 := ⟨by decide +kernel, rfl⟩
theorem eX10_faultOfForm_34 : zD cX10_faultOfForm 34 (.istore_n 3) 1 35 := ⟨by decide +kernel, rfl⟩
theorem eX10_faultOfForm_35 : zD cX10_faultOfForm 35 (.iload_n 3) 1 36 := ⟨by decide +kernel, rfl⟩
theorem eX10_faultOfForm_36 : zD cX10_faultOfForm 36 (.ifCond .ge 7) 3 39 := ⟨by decide +kernel, rfl⟩
theorem eX10_faultOfForm_39 : zD cX10_faultOfForm 39 (.iload_n 3) 1 40 := ⟨by decide +kernel, rfl⟩
theorem eX10_faultOfForm_40 : zD cX10_faultOfForm 40 (.iconst (-1)) 1 41 := ⟨by decide +kernel, rfl⟩
theorem eX10_faultOfForm_41 : zD cX10_faultOfForm 41 (.ixor) 1 42 := ⟨by decide +kernel, rfl⟩
theorem eX10_faultOfForm_42 : zD cX10_faultOfForm 42 (.ireturn) 1 43 := ⟨by decide +kernel, rfl⟩
theorem eX10_faultOfForm_43 : zD cX10_faultOfForm 43 (.iload_n 3) 1 44 := ⟨by decide +kernel, rfl⟩
theorem eX10_faultOfForm_44 : zD cX10_faultOfForm 44 (.istore_n 1) 1 45 := ⟨by decide +kernel, rfl⟩
theorem eX10_faultOfForm_45 : zD cX10_faultOfForm 45 (.iinc 2 1) 3 48 := ⟨by decide +kernel, rfl⟩
theorem eX10_faultOfForm_48 : zD cX10_faultOfForm 48 (.goto (-35)) 3 51 := ⟨by decide +kernel, rfl⟩
theorem eX10_faultOfForm_51 : zD cX10_faultOfForm 51 (.iconst (-1)) 1 52 := ⟨by decide +kernel, rfl⟩
theorem eX10_faultOfForm_52 : zD cX10_faultOfForm 52 (.ireturn) 1 53 := ⟨by decide +kernel, rfl⟩
theorem eX10_statementEnd_0 : zD cX10_statementEnd 0 (.iload_n 1) 1 1 := ⟨by decide +kernel, rfl⟩
theorem eX10_statementEnd_1 : zD cX10_statementEnd 1 (.iconst 1) 1 2 := ⟨by decide +kernel, rfl⟩
theorem eX10_statementEnd_2 : zD cX10_statementEnd 2 (.iadd) 1 3 := ⟨by decide +kernel, rfl⟩
theorem eX10_statementEnd_3 : zD cX10_statementEnd 3 (.istore_n 2) 1 4 := ⟨by decide +kernel, rfl⟩
theorem eX10_statementEnd_4 : zD cX10_statementEnd 4 (.aload_n 0) 1 5 := ⟨by decide +kernel, rfl⟩
theorem eX10_statementEnd_5 : zD cX10_statementEnd 5 (.iload_n 1) 1 6 := ⟨by decide +kernel, rfl⟩
theorem eX10_statementEnd_6 : zD cX10_statementEnd 6 (.invokevirtual 35) 3 9 := ⟨by decide +kernel, rfl⟩
theorem eX10_statementEnd_9 : zD cX10_statementEnd 9 (.lookupswitch 106 #[(98, 43), (116, 80), (119, 80), (120, 95)]) 43 52 := ⟨by decide +kernel, rfl⟩
theorem eX10_statementEnd_52 : zD cX10_statementEnd 52 (.aload_n 0) 1 53 := ⟨by decide +kernel, rfl⟩
theorem eX10_statementEnd_53 : zD cX10_statementEnd 53 (.aload_n 0) 1 54 := ⟨by decide +kernel, rfl⟩
theorem eX10_statementEnd_54 : zD cX10_statementEnd 54 (.aload_n 0) 1 55 := ⟨by decide +kernel, rfl⟩
theorem eX10_statementEnd_55 : zD cX10_statementEnd 55 (.aload_n 0) 1 56 := ⟨by decide +kernel, rfl⟩
theorem eX10_statementEnd_56 : zD cX10_statementEnd 56 (.aload_n 0) 1 57 := ⟨by decide +kernel, rfl⟩
theorem eX10_statementEnd_57 : zD cX10_statementEnd 57 (.aload_n 0) 1 58 := ⟨by decide +kernel, rfl⟩
theorem eX10_statementEnd_58 : zD cX10_statementEnd 58 (.aload_n 0) 1 59 := ⟨by decide +kernel, rfl⟩
theorem eX10_statementEnd_59 : zD cX10_statementEnd 59 (.iload_n 2) 1 60 := ⟨by decide +kernel, rfl⟩
theorem eX10_statementEnd_60 : zD cX10_statementEnd 60 (.invokevirtual 42) 3 63 := ⟨by decide +kernel, rfl⟩
theorem eX10_statementEnd_63 : zD cX10_statementEnd 63 (.invokevirtual 42) 3 66 := ⟨by decide +kernel, rfl⟩
theorem eX10_statementEnd_66 : zD cX10_statementEnd 66 (.invokevirtual 42) 3 69 := ⟨by decide +kernel, rfl⟩
theorem eX10_statementEnd_69 : zD cX10_statementEnd 69 (.invokevirtual 45) 3 72 := ⟨by decide +kernel, rfl⟩
theorem eX10_statementEnd_72 : zD cX10_statementEnd 72 (.bipush 44) 2 74 := ⟨by decide +kernel, rfl⟩
theorem eX10_statementEnd_74 : zD cX10_statementEnd 74 (.invokevirtual 48) 3 77 := ⟨by decide +kernel, rfl⟩
theorem eX10_statementEnd_77 : zD cX10_statementEnd 77 (.invokevirtual 45) 3 80 := ⟨by decide +kernel, rfl⟩
theorem eX10_statementEnd_80 : zD cX10_statementEnd 80 (.bipush 59) 2 82 := ⟨by decide +kernel, rfl⟩
theorem eX10_statementEnd_82 : zD cX10_statementEnd 82 (.invokevirtual 48) 3 85 := ⟨by decide +kernel, rfl⟩
theorem eX10_statementEnd_85 : zD cX10_statementEnd 85 (.istore_n 2) 1 86 := ⟨by decide +kernel, rfl⟩
theorem eX10_statementEnd_86 : zD cX10_statementEnd 86 (.goto 33) 3 89 := ⟨by decide +kernel, rfl⟩
theorem eX10_statementEnd_89 : zD cX10_statementEnd 89 (.aload_n 0) 1 90 := ⟨by decide +kernel, rfl⟩
theorem eX10_statementEnd_90 : zD cX10_statementEnd 90 (.aload_n 0) 1 91 := ⟨by decide +kernel, rfl⟩
theorem eX10_statementEnd_91 : zD cX10_statementEnd 91 (.iload_n 2) 1 92 := ⟨by decide +kernel, rfl⟩
theorem eX10_statementEnd_92 : zD cX10_statementEnd 92 (.invokevirtual 42) 3 95 := ⟨by decide +kernel, rfl⟩
theorem eX10_statementEnd_95 : zD cX10_statementEnd 95 (.bipush 59) 2 97 := ⟨by decide +kernel, rfl⟩
theorem eX10_statementEnd_97 : zD cX10_statementEnd 97 (.invokevirtual 48) 3 100 := ⟨by decide +kernel, rfl⟩
theorem eX10_statementEnd_100 : zD cX10_statementEnd 100 (.istore_n 2) 1 101 := ⟨by decide +kernel, rfl⟩
theorem eX10_statementEnd_101 : zD cX10_statementEnd 101 (.goto 18) 3 104 := ⟨by decide +kernel, rfl⟩
theorem eX10_statementEnd_104 : zD cX10_statementEnd 104 (.aload_n 0) 1 105 := ⟨by decide +kernel, rfl⟩
theorem eX10_statementEnd_105 : zD cX10_statementEnd 105 (.iload_n 2) 1 106 := ⟨by decide +kernel, rfl⟩
theorem eX10_statementEnd_106 : zD cX10_statementEnd 106 (.bipush 59) 2 108 := ⟨by decide +kernel, rfl⟩
theorem eX10_statementEnd_108 : zD cX10_statementEnd 108 (.invokevirtual 48) 3 111 := ⟨by decide +kernel, rfl⟩
theorem eX10_statementEnd_111 : zD cX10_statementEnd 111 (.istore_n 2) 1 112 := ⟨by decide +kernel, rfl⟩
theorem eX10_statementEnd_112 : zD cX10_statementEnd 112 (.goto 7) 3 115 := ⟨by decide +kernel, rfl⟩
theorem eX10_statementEnd_115 : zD cX10_statementEnd 115 (.iload_n 1) 1 116 := ⟨by decide +kernel, rfl⟩
theorem eX10_statementEnd_116 : zD cX10_statementEnd 116 (.iconst (-1)) 1 117 := ⟨by decide +kernel, rfl⟩
theorem eX10_statementEnd_117 : zD cX10_statementEnd 117 (.ixor) 1 118 := ⟨by decide +kernel, rfl⟩
theorem eX10_statementEnd_118 : zD cX10_statementEnd 118 (.istore_n 2) 1 119 := ⟨by decide +kernel, rfl⟩
theorem eX10_statementEnd_119 : zD cX10_statementEnd 119 (.iload_n 2) 1 120 := ⟨by decide +kernel, rfl⟩
theorem eX10_statementEnd_120 : zD cX10_statementEnd 120 (.ireturn) 1 121 := ⟨by decide +kernel, rfl⟩
theorem eX10_signEnd_0 : zD cX10_signEnd 0 (.iload_n 1) 1 1 := ⟨by decide +kernel, rfl⟩
theorem eX10_signEnd_1 : zD cX10_signEnd 1 (.ifCond .ge 5) 3 4 := ⟨by decide +kernel, rfl⟩
theorem eX10_signEnd_4 : zD cX10_signEnd 4 (.iload_n 1) 1 5 := ⟨by decide +kernel, rfl⟩
theorem eX10_signEnd_5 : zD cX10_signEnd 5 (.ireturn) 1 6 := ⟨by decide +kernel, rfl⟩
theorem eX10_signEnd_6 : zD cX10_signEnd 6 (.aload_n 0) 1 7 := ⟨by decide +kernel, rfl⟩
theorem eX10_signEnd_7 : zD cX10_signEnd 7 (.iload_n 1) 1 8 := ⟨by decide +kernel, rfl⟩
theorem eX10_signEnd_8 : zD cX10_signEnd 8 (.invokevirtual 35) 3 11 := ⟨by decide +kernel, rfl⟩
theorem eX10_signEnd_11 : zD cX10_signEnd 11 (.iload_n 2) 1 12 := ⟨by decide +kernel, rfl⟩
theorem eX10_signEnd_12 : zD cX10_signEnd 12 (.if_icmp .ne 9) 3 15 := ⟨by decide +kernel, rfl⟩
theorem eX10_signEnd_15 : zD cX10_signEnd 15 (.iload_n 1) 1 16 := ⟨by decide +kernel, rfl⟩
theorem eX10_signEnd_16 : zD cX10_signEnd 16 (.iconst 1) 1 17 := ⟨by decide +kernel, rfl⟩
theorem eX10_signEnd_17 : zD cX10_signEnd 17 (.iadd) 1 18 := ⟨by decide +kernel, rfl⟩
theorem eX10_signEnd_18 : zD cX10_signEnd 18 (.goto 6) 3 21 := ⟨by decide +kernel, rfl⟩
theorem eX10_signEnd_21 : zD cX10_signEnd 21 (.iload_n 1) 1 22 := ⟨by decide +kernel, rfl⟩
theorem eX10_signEnd_22 : zD cX10_signEnd 22 (.iconst (-1)) 1 23 := ⟨by decide +kernel, rfl⟩
theorem eX10_signEnd_23 : zD cX10_signEnd 23 (.ixor) 1 24 := ⟨by decide +kernel, rfl⟩
theorem eX10_signEnd_24 : zD cX10_signEnd 24 (.ireturn) 1 25 := ⟨by decide +kernel, rfl⟩
theorem eX10_digitEnd_0 : zD cX10_digitEnd 0 (.iload_n 1) 1 1 := ⟨by decide +kernel, rfl⟩
theorem eX10_digitEnd_1 : zD cX10_digitEnd 1 (.ifCond .ge 5) 3 4 := ⟨by decide +kernel, rfl⟩
theorem eX10_digitEnd_4 : zD cX10_digitEnd 4 (.iload_n 1) 1 5 := ⟨by decide +kernel, rfl⟩
theorem eX10_digitEnd_5 : zD cX10_digitEnd 5 (.ireturn) 1 6 := ⟨by decide +kernel, rfl⟩
theorem eX10_digitEnd_6 : zD cX10_digitEnd 6 (.aload_n 0) 1 7 := ⟨by decide +kernel, rfl⟩
theorem eX10_digitEnd_7 : zD cX10_digitEnd 7 (.iload_n 1) 1 8 := ⟨by decide +kernel, rfl⟩
theorem eX10_digitEnd_8 : zD cX10_digitEnd 8 (.invokevirtual 52) 3 11 := ⟨by decide +kernel, rfl⟩
theorem eX10_digitEnd_11 : zD cX10_digitEnd 11 (.ifCond .eq 9) 3 14 := ⟨by decide +kernel, rfl⟩
theorem eX10_digitEnd_14 : zD cX10_digitEnd 14 (.iload_n 1) 1 15 := ⟨by decide +kernel, rfl⟩
theorem eX10_digitEnd_15 : zD cX10_digitEnd 15 (.iconst 1) 1 16 := ⟨by decide +kernel, rfl⟩
theorem eX10_digitEnd_16 : zD cX10_digitEnd 16 (.iadd) 1 17 := ⟨by decide +kernel, rfl⟩
theorem eX10_digitEnd_17 : zD cX10_digitEnd 17 (.goto 6) 3 20 := ⟨by decide +kernel, rfl⟩
theorem eX10_digitEnd_20 : zD cX10_digitEnd 20 (.iload_n 1) 1 21 := ⟨by decide +kernel, rfl⟩
theorem eX10_digitEnd_21 : zD cX10_digitEnd 21 (.iconst (-1)) 1 22 := ⟨by decide +kernel, rfl⟩
theorem eX10_digitEnd_22 : zD cX10_digitEnd 22 (.ixor) 1 23 := ⟨by decide +kernel, rfl⟩
theorem eX10_digitEnd_23 : zD cX10_digitEnd 23 (.ireturn) 1 24 := ⟨by decide +kernel, rfl⟩
theorem eX10_numberEnd_0 : zD cX10_numberEnd 0 (.aload_n 0) 1 1 := ⟨by decide +kernel, rfl⟩
theorem eX10_numberEnd_1 : zD cX10_numberEnd 1 (.iload_n 1) 1 2 := ⟨by decide +kernel, rfl⟩
theorem eX10_numberEnd_2 : zD cX10_numberEnd 2 (.invokevirtual 42) 3 5 := ⟨by decide +kernel, rfl⟩
theorem eX10_numberEnd_5 : zD cX10_numberEnd 5 (.istore_n 2) 1 6 := ⟨by decide +kernel, rfl⟩
theorem eX10_numberEnd_6 : zD cX10_numberEnd 6 (.iload_n 2) 1 7 := ⟨by decide +kernel, rfl⟩
theorem eX10_numberEnd_7 : zD cX10_numberEnd 7 (.ifCond .lt 13) 3 10 := ⟨by decide +kernel, rfl⟩
theorem eX10_numberEnd_10 : zD cX10_numberEnd 10 (.aload_n 0) 1 11 := ⟨by decide +kernel, rfl⟩
theorem eX10_numberEnd_11 : zD cX10_numberEnd 11 (.iload_n 1) 1 12 := ⟨by decide +kernel, rfl⟩
theorem eX10_numberEnd_12 : zD cX10_numberEnd 12 (.invokevirtual 35) 3 15 := ⟨by decide +kernel, rfl⟩
theorem eX10_numberEnd_15 : zD cX10_numberEnd 15 (.bipush 48) 2 17 := ⟨by decide +kernel, rfl⟩
theorem eX10_numberEnd_17 : zD cX10_numberEnd 17 (.if_icmp .ne 5) 3 20 := ⟨by decide +kernel, rfl⟩
theorem eX10_numberEnd_20 : zD cX10_numberEnd 20 (.iload_n 2) 1 21 := ⟨by decide +kernel, rfl⟩
theorem eX10_numberEnd_21 : zD cX10_numberEnd 21 (.ireturn) 1 22 := ⟨by decide +kernel, rfl⟩
theorem eX10_numberEnd_22 : zD cX10_numberEnd 22 (.aload_n 0) 1 23 := ⟨by decide +kernel, rfl⟩
theorem eX10_numberEnd_23 : zD cX10_numberEnd 23 (.iload_n 2) 1 24 := ⟨by decide +kernel, rfl⟩
theorem eX10_numberEnd_24 : zD cX10_numberEnd 24 (.invokevirtual 52) 3 27 := ⟨by decide +kernel, rfl⟩
theorem eX10_numberEnd_27 : zD cX10_numberEnd 27 (.ifCond .eq 9) 3 30 := ⟨by decide +kernel, rfl⟩
theorem eX10_numberEnd_30 : zD cX10_numberEnd 30 (.iload_n 2) 1 31 := ⟨by decide +kernel, rfl⟩
theorem eX10_numberEnd_31 : zD cX10_numberEnd 31 (.iconst 1) 1 32 := ⟨by decide +kernel, rfl⟩
theorem eX10_numberEnd_32 : zD cX10_numberEnd 32 (.iadd) 1 33 := ⟨by decide +kernel, rfl⟩
theorem eX10_numberEnd_33 : zD cX10_numberEnd 33 (.goto 4) 3 36 := ⟨by decide +kernel, rfl⟩
theorem eX10_numberEnd_36 : zD cX10_numberEnd 36 (.iload_n 2) 1 37 := ⟨by decide +kernel, rfl⟩
theorem eX10_numberEnd_37 : zD cX10_numberEnd 37 (.ireturn) 1 38 := ⟨by decide +kernel, rfl⟩
theorem eX10_numberAt_0 : zD cX10_numberAt 0 (.aload_n 0) 1 1 := ⟨by decide +kernel, rfl⟩
theorem eX10_numberAt_1 : zD cX10_numberAt 1 (.iload_n 1) 1 2 := ⟨by decide +kernel, rfl⟩
theorem eX10_numberAt_2 : zD cX10_numberAt 2 (.invokevirtual 45) 3 5 := ⟨by decide +kernel, rfl⟩
theorem eX10_numberAt_5 : zD cX10_numberAt 5 (.istore_n 2) 1 6 := ⟨by decide +kernel, rfl⟩
theorem eX10_numberAt_6 : zD cX10_numberAt 6 (.iload_n 2) 1 7 := ⟨by decide +kernel, rfl⟩
theorem eX10_numberAt_7 : zD cX10_numberAt 7 (.iload_n 1) 1 8 := ⟨by decide +kernel, rfl⟩
theorem eX10_numberAt_8 : zD cX10_numberAt 8 (.isub) 1 9 := ⟨by decide +kernel, rfl⟩
theorem eX10_numberAt_9 : zD cX10_numberAt 9 (.iconst 2) 1 10 := ⟨by decide +kernel, rfl⟩
theorem eX10_numberAt_10 : zD cX10_numberAt 10 (.if_icmp .ne 22) 3 13 := ⟨by decide +kernel, rfl⟩
theorem eX10_numberAt_13 : zD cX10_numberAt 13 (.aload_n 0) 1 14 := ⟨by decide +kernel, rfl⟩
theorem eX10_numberAt_14 : zD cX10_numberAt 14 (.iload_n 1) 1 15 := ⟨by decide +kernel, rfl⟩
theorem eX10_numberAt_15 : zD cX10_numberAt 15 (.invokevirtual 55) 3 18 := ⟨by decide +kernel, rfl⟩
theorem eX10_numberAt_18 : zD cX10_numberAt 18 (.bipush 10) 2 20 := ⟨by decide +kernel, rfl⟩
theorem eX10_numberAt_20 : zD cX10_numberAt 20 (.imul) 1 21 := ⟨by decide +kernel, rfl⟩
theorem eX10_numberAt_21 : zD cX10_numberAt 21 (.aload_n 0) 1 22 := ⟨by decide +kernel, rfl⟩
theorem eX10_numberAt_22 : zD cX10_numberAt 22 (.iload_n 1) 1 23 := ⟨by decide +kernel, rfl⟩
theorem eX10_numberAt_23 : zD cX10_numberAt 23 (.iconst 1) 1 24 := ⟨by decide +kernel, rfl⟩
theorem eX10_numberAt_24 : zD cX10_numberAt 24 (.iadd) 1 25 := ⟨by decide +kernel, rfl⟩
theorem eX10_numberAt_25 : zD cX10_numberAt 25 (.invokevirtual 55) 3 28 := ⟨by decide +kernel, rfl⟩
theorem eX10_numberAt_28 : zD cX10_numberAt 28 (.iadd) 1 29 := ⟨by decide +kernel, rfl⟩
theorem eX10_numberAt_29 : zD cX10_numberAt 29 (.goto 8) 3 32 := ⟨by decide +kernel, rfl⟩
theorem eX10_numberAt_32 : zD cX10_numberAt 32 (.aload_n 0) 1 33 := ⟨by decide +kernel, rfl⟩
theorem eX10_numberAt_33 : zD cX10_numberAt 33 (.iload_n 1) 1 34 := ⟨by decide +kernel, rfl⟩
theorem eX10_numberAt_34 : zD cX10_numberAt 34 (.invokevirtual 55) 3 37 := ⟨by decide +kernel, rfl⟩
theorem eX10_numberAt_37 : zD cX10_numberAt 37 (.ireturn) 1 38 := ⟨by decide +kernel, rfl⟩
theorem eX11_init_0 : zD cX11_init 0 (.aload_n 0) 1 1 := ⟨by decide +kernel, rfl⟩
theorem eX11_init_1 : zD cX11_init 1 (.invokespecial 3) 3 4 := ⟨by decide +kernel, rfl⟩
theorem eX11_init_4 : zD cX11_init 4 (.bipush 8) 2 6 := ⟨by decide +kernel, rfl⟩
theorem eX11_init_6 : zD cX11_init 6 (.anewarray 9) 3 9 := ⟨by decide +kernel, rfl⟩
theorem eX11_init_9 : zD cX11_init 9 (.dup) 1 10 := ⟨by decide +kernel, rfl⟩
theorem eX11_init_10 : zD cX11_init 10 (.iconst 0) 1 11 := ⟨by decide +kernel, rfl⟩
theorem eX11_init_11 : zD cX11_init 11 (.new 9) 3 14 := ⟨by decide +kernel, rfl⟩
theorem eX11_init_14 : zD cX11_init 14 (.dup) 1 15 := ⟨by decide +kernel, rfl⟩
theorem eX11_init_15 : zD cX11_init 15 (.invokespecial 11) 3 18 := ⟨by decide +kernel, rfl⟩
theorem eX11_init_18 : zD cX11_init 18 (.aastore) 1 19 := ⟨by decide +kernel, rfl⟩
theorem eX11_init_19 : zD cX11_init 19 (.dup) 1 20 := ⟨by decide +kernel, rfl⟩
theorem eX11_init_20 : zD cX11_init 20 (.iconst 1) 1 21 := ⟨by decide +kernel, rfl⟩
theorem eX11_init_21 : zD cX11_init 21 (.new 12) 3 24 := ⟨by decide +kernel, rfl⟩
theorem eX11_init_24 : zD cX11_init 24 (.dup) 1 25 := ⟨by decide +kernel, rfl⟩
theorem eX11_init_25 : zD cX11_init 25 (.invokespecial 14) 3 28 := ⟨by decide +kernel, rfl⟩
theorem eX11_init_28 : zD cX11_init 28 (.aastore) 1 29 := ⟨by decide +kernel, rfl⟩
theorem eX11_init_29 : zD cX11_init 29 (.dup) 1 30 := ⟨by decide +kernel, rfl⟩
theorem eX11_init_30 : zD cX11_init 30 (.iconst 2) 1 31 := ⟨by decide +kernel, rfl⟩
theorem eX11_init_31 : zD cX11_init 31 (.new 15) 3 34 := ⟨by decide +kernel, rfl⟩
theorem eX11_init_34 : zD cX11_init 34 (.dup) 1 35 := ⟨by decide +kernel, rfl⟩
theorem eX11_init_35 : zD cX11_init 35 (.invokespecial 17) 3 38 := ⟨by decide +kernel, rfl⟩
theorem eX11_init_38 : zD cX11_init 38 (.aastore) 1 39 := ⟨by decide +kernel, rfl⟩
theorem eX11_init_39 : zD cX11_init 39 (.dup) 1 40 := ⟨by decide +kernel, rfl⟩
theorem eX11_init_40 : zD cX11_init 40 (.iconst 3) 1 41 := ⟨by decide +kernel, rfl⟩
theorem eX11_init_41 : zD cX11_init 41 (.new 18) 3 44 := ⟨by decide +kernel, rfl⟩
theorem eX11_init_44 : zD cX11_init 44 (.dup) 1 45 := ⟨by decide +kernel, rfl⟩
theorem eX11_init_45 : zD cX11_init 45 (.invokespecial 20) 3 48 := ⟨by decide +kernel, rfl⟩
theorem eX11_init_48 : zD cX11_init 48 (.aastore) 1 49 := ⟨by decide +kernel, rfl⟩
theorem eX11_init_49 : zD cX11_init 49 (.dup) 1 50 := ⟨by decide +kernel, rfl⟩
theorem eX11_init_50 : zD cX11_init 50 (.iconst 4) 1 51 := ⟨by decide +kernel, rfl⟩
theorem eX11_init_51 : zD cX11_init 51 (.new 21) 3 54 := ⟨by decide +kernel, rfl⟩
theorem eX11_init_54 : zD cX11_init 54 (.dup) 1 55 := ⟨by decide +kernel, rfl⟩
theorem eX11_init_55 : zD cX11_init 55 (.invokespecial 23) 3 58 := ⟨by decide +kernel, rfl⟩
theorem eX11_init_58 : zD cX11_init 58 (.aastore) 1 59 := ⟨by decide +kernel, rfl⟩
theorem eX11_init_59 : zD cX11_init 59 (.dup) 1 60 := ⟨by decide +kernel, rfl⟩
theorem eX11_init_60 : zD cX11_init 60 (.iconst 5) 1 61 := ⟨by decide +kernel, rfl⟩
theorem eX11_init_61 : zD cX11_init 61 (.new 24) 3 64 := ⟨by decide +kernel, rfl⟩
theorem eX11_init_64 : zD cX11_init 64 (.dup) 1 65 := ⟨by decide +kernel, rfl⟩
theorem eX11_init_65 : zD cX11_init 65 (.invokespecial 26) 3 68 := ⟨by decide +kernel, rfl⟩
theorem eX11_init_68 : zD cX11_init 68 (.aastore) 1 69 := ⟨by decide +kernel, rfl⟩
theorem eX11_init_69 : zD cX11_init 69 (.dup) 1 70 := ⟨by decide +kernel, rfl⟩
theorem eX11_init_70 : zD cX11_init 70 (.bipush 6) 2 72 := ⟨by decide +kernel, rfl⟩
theorem eX11_init_72 : zD cX11_init 72 (.new 27) 3 75 := ⟨by decide +kernel, rfl⟩
theorem eX11_init_75 : zD cX11_init 75 (.dup) 1 76 := ⟨by decide +kernel, rfl⟩
theorem eX11_init_76 : zD cX11_init 76 (.invokespecial 29) 3 79 := ⟨by decide +kernel, rfl⟩
theorem eX11_init_79 : zD cX11_init 79 (.aastore) 1 80 := ⟨by decide +kernel, rfl⟩
theorem eX11_init_80 : zD cX11_init 80 (.dup) 1 81 := ⟨by decide +kernel, rfl⟩
theorem eX11_init_81 : zD cX11_init 81 (.bipush 7) 2 83 := ⟨by decide +kernel, rfl⟩
theorem eX11_init_83 : zD cX11_init 83 (.new 30) 3 86 := ⟨by decide +kernel, rfl⟩
theorem eX11_init_86 : zD cX11_init 86 (.dup) 1 87 := ⟨by decide +kernel, rfl⟩
theorem eX11_init_87 : zD cX11_init 87 (.invokespecial 32) 3 90 := ⟨by decide +kernel, rfl⟩
theorem eX11_init_90 : zD cX11_init 90 (.aastore) 1 91 := ⟨by decide +kernel, rfl⟩
theorem eX11_init_91 : zD cX11_init 91 (.astore_n 1) 1 92 := ⟨by decide +kernel, rfl⟩
theorem eX11_init_92 : zD cX11_init 92 (.aload_n 0) 1 93 := ⟨by decide +kernel, rfl⟩
theorem eX11_init_93 : zD cX11_init 93 (.aload_n 1) 1 94 := ⟨by decide +kernel, rfl⟩
theorem eX11_init_94 : zD cX11_init 94 (.putfield 33) 3 97 := ⟨by decide +kernel, rfl⟩
theorem eX11_init_97 : zD cX11_init 97 (.aload_n 0) 1 98 := ⟨by decide +kernel, rfl⟩
theorem eX11_init_98 : zD cX11_init 98 (.new 37) 3 101 := ⟨by decide +kernel, rfl⟩
theorem eX11_init_101 : zD cX11_init 101 (.dup) 1 102 := ⟨by decide +kernel, rfl⟩
theorem eX11_init_102 : zD cX11_init 102 (.aload_n 1) 1 103 := ⟨by decide +kernel, rfl⟩
theorem eX11_init_103 : zD cX11_init 103 (.invokespecial 39) 3 106 := ⟨by decide +kernel, rfl⟩
theorem eX11_init_106 : zD cX11_init 106 (.putfield 42) 3 109 := ⟨by decide +kernel, rfl⟩
theorem eX11_init_109 : zD cX11_init 109 (.aload_n 0) 1 110 := ⟨by decide +kernel, rfl⟩
theorem eX11_init_110 : zD cX11_init 110 (.new 37) 3 113 := ⟨by decide +kernel, rfl⟩
theorem eX11_init_113 : zD cX11_init 113 (.dup) 1 114 := ⟨by decide +kernel, rfl⟩
theorem eX11_init_114 : zD cX11_init 114 (.aload_n 1) 1 115 := ⟨by decide +kernel, rfl⟩
theorem eX11_init_115 : zD cX11_init 115 (.invokespecial 39) 3 118 := ⟨by decide +kernel, rfl⟩
theorem eX11_init_118 : zD cX11_init 118 (.putfield 46) 3 121 := ⟨by decide +kernel, rfl⟩
theorem eX11_init_121 : zD cX11_init 121 (.aload_n 0) 1 122 := ⟨by decide +kernel, rfl⟩
theorem eX11_init_122 : zD cX11_init 122 (.new 37) 3 125 := ⟨by decide +kernel, rfl⟩
theorem eX11_init_125 : zD cX11_init 125 (.dup) 1 126 := ⟨by decide +kernel, rfl⟩
theorem eX11_init_126 : zD cX11_init 126 (.aload_n 1) 1 127 := ⟨by decide +kernel, rfl⟩
theorem eX11_init_127 : zD cX11_init 127 (.invokespecial 39) 3 130 := ⟨by decide +kernel, rfl⟩
theorem eX11_init_130 : zD cX11_init 130 (.putfield 49) 3 133 := ⟨by decide +kernel, rfl⟩
theorem eX11_init_133 : zD cX11_init 133 (.aload_n 0) 1 134 := ⟨by decide +kernel, rfl⟩
theorem eX11_init_134 : zD cX11_init 134 (.new 52) 3 137 := ⟨by decide +kernel, rfl⟩
theorem eX11_init_137 : zD cX11_init 137 (.dup) 1 138 := ⟨by decide +kernel, rfl⟩
theorem eX11_init_138 : zD cX11_init 138 (.invokespecial 54) 3 141 := ⟨by decide +kernel, rfl⟩
theorem eX11_init_141 : zD cX11_init 141 (.putfield 55) 3 144 := ⟨by decide +kernel, rfl⟩
theorem eX11_init_144 : zD cX11_init 144 (.aload_n 0) 1 145 := ⟨by decide +kernel, rfl⟩
theorem eX11_init_145 : zD cX11_init 145 (.bipush 8) 2 147 := ⟨by decide +kernel, rfl⟩
theorem eX11_init_147 : zD cX11_init 147 (.anewarray 59) 3 150 := ⟨by decide +kernel, rfl⟩
theorem eX11_init_150 : zD cX11_init 150 (.putfield 61) 3 153 := ⟨by decide +kernel, rfl⟩
theorem eX11_init_153 : zD cX11_init 153 (.iconst 0) 1 154 := ⟨by decide +kernel, rfl⟩
theorem eX11_init_154 : zD cX11_init 154 (.istore_n 2) 1 155 := ⟨by decide +kernel, rfl⟩
theorem eX11_init_155 : zD cX11_init 155 (.iload_n 2) 1 156 := ⟨by decide +kernel, rfl⟩
theorem eX11_init_156 : zD cX11_init 156 (.bipush 8) 2 158 := ⟨by decide +kernel, rfl⟩
theorem eX11_init_158 : zD cX11_init 158 (.if_icmp .ge 22) 3 161 := ⟨by decide +kernel, rfl⟩
theorem eX11_init_161 : zD cX11_init 161 (.aload_n 0) 1 162 := ⟨by decide +kernel, rfl⟩
theorem eX11_init_162 : zD cX11_init 162 (.getfield 61) 3 165 := ⟨by decide +kernel, rfl⟩
theorem eX11_init_165 : zD cX11_init 165 (.iload_n 2) 1 166 := ⟨by decide +kernel, rfl⟩
theorem eX11_init_166 : zD cX11_init 166 (.new 59) 3 169 := ⟨by decide +kernel, rfl⟩
theorem eX11_init_169 : zD cX11_init 169 (.dup) 1 170 := ⟨by decide +kernel, rfl⟩
theorem eX11_init_170 : zD cX11_init 170 (.invokespecial 65) 3 173 := ⟨by decide +kernel, rfl⟩
theorem eX11_init_173 : zD cX11_init 173 (.aastore) 1 174 := ⟨by decide +kernel, rfl⟩
theorem eX11_init_174 : zD cX11_init 174 (.iinc 2 1) 3 177 := ⟨by decide +kernel, rfl⟩
theorem eX11_init_177 : zD cX11_init 177 (.goto (-22)) 3 180 := ⟨by decide +kernel, rfl⟩
theorem eX11_init_180 : zD cX11_init 180 (.aload_n 0) 1 181 := ⟨by decide +kernel, rfl⟩
theorem eX11_init_181 : zD cX11_init 181 (.iconst 0) 1 182 := ⟨by decide +kernel, rfl⟩
theorem eX11_init_182 : zD cX11_init 182 (.putfield 66) 3 185 := ⟨by decide +kernel, rfl⟩
theorem eX11_init_185 : zD cX11_init 185 (.return_) 1 186 := ⟨by decide +kernel, rfl⟩
theorem eX11_heap_0 : zD cX11_heap 0 (.aload_n 0) 1 1 := ⟨by decide +kernel, rfl⟩
theorem eX11_heap_1 : zD cX11_heap 1 (.iload_n 1) 1 2 := ⟨by decide +kernel, rfl⟩
theorem eX11_heap_2 : zD cX11_heap 2 (.invokevirtual 70) 3 5 := ⟨by decide +kernel, rfl⟩
theorem eX11_heap_5 : zD cX11_heap 5 (.istore_n 2) 1 6 := ⟨by decide +kernel, rfl⟩
theorem eX11_heap_6 : zD cX11_heap 6 (.iload_n 2) 1 7 := ⟨by decide +kernel, rfl⟩
theorem eX11_heap_7 : zD cX11_heap 7 (.ifCond .eq 5) 3 10 := ⟨by decide +kernel, rfl⟩
theorem eX11_heap_10 : zD cX11_heap 10 (.iload_n 2) 1 11 := ⟨by decide +kernel, rfl⟩
theorem eX11_heap_11 : zD cX11_heap 11 (.ireturn) 1 12 := ⟨by decide +kernel, rfl⟩
theorem eX11_heap_12 : zD cX11_heap 12 (.aload_n 0) 1 13 := ⟨by decide +kernel, rfl⟩
theorem eX11_heap_13 : zD cX11_heap 13 (.getfield 61) 3 16 := ⟨by decide +kernel, rfl⟩
theorem eX11_heap_16 : zD cX11_heap 16 (.iload_n 1) 1 17 := ⟨by decide +kernel, rfl⟩
theorem eX11_heap_17 : zD cX11_heap 17 (.aaload) 1 18 := ⟨by decide +kernel, rfl⟩
theorem eX11_heap_18 : zD cX11_heap 18 (.invokevirtual 74) 3 21 := ⟨by decide +kernel, rfl⟩
theorem eX11_heap_21 : zD cX11_heap 21 (.istore_n 3) 1 22 := ⟨by decide +kernel, rfl⟩
theorem eX11_heap_22 : zD cX11_heap 22 (.iload_n 3) 1 23 := ⟨by decide +kernel, rfl⟩
theorem eX11_heap_23 : zD cX11_heap 23 (.ifCond .lt 9) 3 26 := ⟨by decide +kernel, rfl⟩
theorem eX11_heap_26 : zD cX11_heap 26 (.sipush (-1000)) 3 29 := ⟨by decide +kernel, rfl⟩
theorem eX11_heap_29 : zD cX11_heap 29 (.iload_n 3) 1 30 := ⟨by decide +kernel, rfl⟩
theorem eX11_heap_30 : zD cX11_heap 30 (.isub) 1 31 := ⟨by decide +kernel, rfl⟩
theorem eX11_heap_31 : zD cX11_heap 31 (.ireturn) 1 32 := ⟨by decide +kernel, rfl⟩
theorem eX11_heap_32 : zD cX11_heap 32 (.aload_n 0) 1 33 := ⟨by decide +kernel, rfl⟩
theorem eX11_heap_33 : zD cX11_heap 33 (.aload_n 0) 1 34 := ⟨by decide +kernel, rfl⟩
theorem eX11_heap_34 : zD cX11_heap 34 (.getfield 61) 3 37 := ⟨by decide +kernel, rfl⟩
theorem eX11_heap_37 : zD cX11_heap 37 (.iload_n 1) 1 38 := ⟨by decide +kernel, rfl⟩
theorem eX11_heap_38 : zD cX11_heap 38 (.aaload) 1 39 := ⟨by decide +kernel, rfl⟩
theorem eX11_heap_39 : zD cX11_heap 39 (.invokevirtual 78) 3 42 := ⟨by decide +kernel, rfl⟩
theorem eX11_heap_42 : zD cX11_heap 42 (.ireturn) 1 43 := ⟨by decide +kernel, rfl⟩
theorem eX11_bowl_0 : zD cX11_bowl 0 (.aload_n 0) 1 1 := ⟨by decide +kernel, rfl⟩
theorem eX11_bowl_1 : zD cX11_bowl 1 (.getfield 42) 3 4 := ⟨by decide +kernel, rfl⟩
theorem eX11_bowl_4 : zD cX11_bowl 4 (.iload_n 1) 1 5 := ⟨by decide +kernel, rfl⟩
theorem eX11_bowl_5 : zD cX11_bowl 5 (.invokevirtual 82) 3 8 := ⟨by decide +kernel, rfl⟩
theorem eX11_bowl_8 : zD cX11_bowl 8 (.ifCond .ne 5) 3 11 := ⟨by decide +kernel, rfl⟩
theorem eX11_bowl_11 : zD cX11_bowl 11 (.iconst (-1)) 1 12 := ⟨by decide +kernel, rfl⟩
theorem eX11_bowl_12 : zD cX11_bowl 12 (.ireturn) 1 13 := ⟨by decide +kernel, rfl⟩
theorem eX11_bowl_13 : zD cX11_bowl 13 (.iload_n 2) 1 14 := ⟨by decide +kernel, rfl⟩
theorem eX11_bowl_14 : zD cX11_bowl 14 (.tableswitch 148 0 7 #[46, 56, 66, 76, 86, 96, 114, 139]) 46 60 := ⟨by decide +kernel, rfl⟩
theorem eX11_bowl_60 : zD cX11_bowl 60 (.aload_n 0) 1 61 := ⟨by decide +kernel, rfl⟩
theorem eX11_bowl_61 : zD cX11_bowl 61 (.getfield 42) 3 64 := ⟨by decide +kernel, rfl⟩
theorem eX11_bowl_64 : zD cX11_bowl 64 (.getfield 86) 3 67 := ⟨by decide +kernel, rfl⟩
theorem eX11_bowl_67 : zD cX11_bowl 67 (.iload_n 1) 1 68 := ⟨by decide +kernel, rfl⟩
theorem eX11_bowl_68 : zD cX11_bowl 68 (.iaload) 1 69 := ⟨by decide +kernel, rfl⟩
theorem eX11_bowl_69 : zD cX11_bowl 69 (.ireturn) 1 70 := ⟨by decide +kernel, rfl⟩
theorem eX11_bowl_70 : zD cX11_bowl 70 (.aload_n 0) 1 71 := ⟨by decide +kernel, rfl⟩
theorem eX11_bowl_71 : zD cX11_bowl 71 (.getfield 42) 3 74 := ⟨by decide +kernel, rfl⟩
theorem eX11_bowl_74 : zD cX11_bowl 74 (.getfield 90) 3 77 := ⟨by decide +kernel, rfl⟩
theorem eX11_bowl_77 : zD cX11_bowl 77 (.iload_n 1) 1 78 := ⟨by decide +kernel, rfl⟩
theorem eX11_bowl_78 : zD cX11_bowl 78 (.iaload) 1 79 := ⟨by decide +kernel, rfl⟩
theorem eX11_bowl_79 : zD cX11_bowl 79 (.ireturn) 1 80 := ⟨by decide +kernel, rfl⟩
theorem eX11_bowl_80 : zD cX11_bowl 80 (.aload_n 0) 1 81 := ⟨by decide +kernel, rfl⟩
theorem eX11_bowl_81 : zD cX11_bowl 81 (.getfield 42) 3 84 := ⟨by decide +kernel, rfl⟩
theorem eX11_bowl_84 : zD cX11_bowl 84 (.getfield 93) 3 87 := ⟨by decide +kernel, rfl⟩
theorem eX11_bowl_87 : zD cX11_bowl 87 (.iload_n 1) 1 88 := ⟨by decide +kernel, rfl⟩
theorem eX11_bowl_88 : zD cX11_bowl 88 (.iaload) 1 89 := ⟨by decide +kernel, rfl⟩
theorem eX11_bowl_89 : zD cX11_bowl 89 (.ireturn) 1 90 := ⟨by decide +kernel, rfl⟩
theorem eX11_bowl_90 : zD cX11_bowl 90 (.aload_n 0) 1 91 := ⟨by decide +kernel, rfl⟩
theorem eX11_bowl_91 : zD cX11_bowl 91 (.getfield 42) 3 94 := ⟨by decide +kernel, rfl⟩
theorem eX11_bowl_94 : zD cX11_bowl 94 (.getfield 96) 3 97 := ⟨by decide +kernel, rfl⟩
theorem eX11_bowl_97 : zD cX11_bowl 97 (.iload_n 1) 1 98 := ⟨by decide +kernel, rfl⟩
theorem eX11_bowl_98 : zD cX11_bowl 98 (.iaload) 1 99 := ⟨by decide +kernel, rfl⟩
theorem eX11_bowl_99 : zD cX11_bowl 99 (.ireturn) 1 100 := ⟨by decide +kernel, rfl⟩
theorem eX11_bowl_100 : zD cX11_bowl 100 (.aload_n 0) 1 101 := ⟨by decide +kernel, rfl⟩
theorem eX11_bowl_101 : zD cX11_bowl 101 (.getfield 42) 3 104 := ⟨by decide +kernel, rfl⟩
theorem eX11_bowl_104 : zD cX11_bowl 104 (.getfield 99) 3 107 := ⟨by decide +kernel, rfl⟩
theorem eX11_bowl_107 : zD cX11_bowl 107 (.iload_n 1) 1 108 := ⟨by decide +kernel, rfl⟩
theorem eX11_bowl_108 : zD cX11_bowl 108 (.iaload) 1 109 := ⟨by decide +kernel, rfl⟩
theorem eX11_bowl_109 : zD cX11_bowl 109 (.ireturn) 1 110 := ⟨by decide +kernel, rfl⟩
theorem eX11_bowl_110 : zD cX11_bowl 110 (.aload_n 0) 1 111 := ⟨by decide +kernel, rfl⟩
theorem eX11_bowl_111 : zD cX11_bowl 111 (.getfield 42) 3 114 := ⟨by decide +kernel, rfl⟩
theorem eX11_bowl_114 : zD cX11_bowl 114 (.iload_n 1) 1 115 := ⟨by decide +kernel, rfl⟩
theorem eX11_bowl_115 : zD cX11_bowl 115 (.aload_n 0) 1 116 := ⟨by decide +kernel, rfl⟩
theorem eX11_bowl_116 : zD cX11_bowl 116 (.getfield 42) 3 119 := ⟨by decide +kernel, rfl⟩
theorem eX11_bowl_119 : zD cX11_bowl 119 (.getfield 96) 3 122 := ⟨by decide +kernel, rfl⟩
theorem eX11_bowl_122 : zD cX11_bowl 122 (.iload_n 1) 1 123 := ⟨by decide +kernel, rfl⟩
theorem eX11_bowl_123 : zD cX11_bowl 123 (.iaload) 1 124 := ⟨by decide +kernel, rfl⟩
theorem eX11_bowl_124 : zD cX11_bowl 124 (.invokevirtual 102) 3 127 := ⟨by decide +kernel, rfl⟩
theorem eX11_bowl_127 : zD cX11_bowl 127 (.ireturn) 1 128 := ⟨by decide +kernel, rfl⟩
theorem eX11_bowl_128 : zD cX11_bowl 128 (.aload_n 0) 1 129 := ⟨by decide +kernel, rfl⟩
theorem eX11_bowl_129 : zD cX11_bowl 129 (.getfield 42) 3 132 := ⟨by decide +kernel, rfl⟩
theorem eX11_bowl_132 : zD cX11_bowl 132 (.iload_n 1) 1 133 := ⟨by decide +kernel, rfl⟩
theorem eX11_bowl_133 : zD cX11_bowl 133 (.aload_n 0) 1 134 := ⟨by decide +kernel, rfl⟩
theorem eX11_bowl_134 : zD cX11_bowl 134 (.getfield 42) 3 137 := ⟨by decide +kernel, rfl⟩
theorem eX11_bowl_137 : zD cX11_bowl 137 (.getfield 96) 3 140 := ⟨by decide +kernel, rfl⟩
theorem eX11_bowl_140 : zD cX11_bowl 140 (.iload_n 1) 1 141 := ⟨by decide +kernel, rfl⟩
theorem eX11_bowl_141 : zD cX11_bowl 141 (.iaload) 1 142 := ⟨by decide +kernel, rfl⟩
theorem eX11_bowl_142 : zD cX11_bowl 142 (.aload_n 0) 1 143 := ⟨by decide +kernel, rfl⟩
theorem eX11_bowl_143 : zD cX11_bowl 143 (.getfield 42) 3 146 := ⟨by decide +kernel, rfl⟩
theorem eX11_bowl_146 : zD cX11_bowl 146 (.getfield 106) 3 149 := ⟨by decide +kernel, rfl⟩
theorem eX11_bowl_149 : zD cX11_bowl 149 (.invokevirtual 110) 3 152 := ⟨by decide +kernel, rfl⟩
theorem eX11_bowl_152 : zD cX11_bowl 152 (.ireturn) 1 153 := ⟨by decide +kernel, rfl⟩
theorem eX11_bowl_153 : zD cX11_bowl 153 (.aload_n 0) 1 154 := ⟨by decide +kernel, rfl⟩
theorem eX11_bowl_154 : zD cX11_bowl 154 (.getfield 42) 3 157 := ⟨by decide +kernel, rfl⟩
theorem eX11_bowl_157 : zD cX11_bowl 157 (.iload_n 1) 1 158 := ⟨by decide +kernel, rfl⟩
theorem eX11_bowl_158 : zD cX11_bowl 158 (.invokevirtual 114) 3 161 := ⟨by decide +kernel, rfl⟩
theorem eX11_bowl_161 : zD cX11_bowl 161 (.ireturn) 1 162 := ⟨by decide +kernel, rfl⟩
theorem eX11_bowl_162 : zD cX11_bowl 162 (.iconst (-1)) 1 163 := ⟨by decide +kernel, rfl⟩
theorem eX11_bowl_163 : zD cX11_bowl 163 (.ireturn) 1 164 := ⟨by decide +kernel, rfl⟩
theorem eX11_comes_0 : zD cX11_comes 0 (.iload_n 1) 1 1 := ⟨by decide +kernel, rfl⟩
theorem eX11_comes_1 : zD cX11_comes 1 (.invokestatic 117) 3 4 := ⟨by decide +kernel, rfl⟩
theorem eX11_comes_4 : zD cX11_comes 4 (.ifCond .eq 27) 3 7 := ⟨by decide +kernel, rfl⟩
theorem eX11_comes_7 : zD cX11_comes 7 (.iload_n 2) 1 8 := ⟨by decide +kernel, rfl⟩
theorem eX11_comes_8 : zD cX11_comes 8 (.invokestatic 120) 3 11 := ⟨by decide +kernel, rfl⟩
theorem eX11_comes_11 : zD cX11_comes 11 (.ifCond .eq 20) 3 14 := ⟨by decide +kernel, rfl⟩
theorem eX11_comes_14 : zD cX11_comes 14 (.iload_n 3) 1 15 := ⟨by decide +kernel, rfl⟩
theorem eX11_comes_15 : zD cX11_comes 15 (.invokestatic 120) 3 18 := ⟨by decide +kernel, rfl⟩
theorem eX11_comes_18 : zD cX11_comes 18 (.ifCond .eq 13) 3 21 := ⟨by decide +kernel, rfl⟩
theorem eX11_comes_21 : zD cX11_comes 21 (.iload 4) 2 23 := ⟨by decide +kernel, rfl⟩
theorem eX11_comes_23 : zD cX11_comes 23 (.iconst 0) 1 24 := ⟨by decide +kernel, rfl⟩
theorem eX11_comes_24 : zD cX11_comes 24 (.iconst 1) 1 25 := ⟨by decide +kernel, rfl⟩
theorem eX11_comes_25 : zD cX11_comes 25 (.invokestatic 123) 3 28 := ⟨by decide +kernel, rfl⟩
theorem eX11_comes_28 : zD cX11_comes 28 (.ifCond .ne 5) 3 31 := ⟨by decide +kernel, rfl⟩
theorem eX11_comes_31 : zD cX11_comes 31 (.iconst (-1)) 1 32 := ⟨by decide +kernel, rfl⟩
theorem eX11_comes_32 : zD cX11_comes 32 (.ireturn) 1 33 := ⟨by decide +kernel, rfl⟩
theorem eX11_comes_33 : zD cX11_comes 33 (.aload_n 0) 1 34 := ⟨by decide +kernel, rfl⟩
theorem eX11_comes_34 : zD cX11_comes 34 (.iload_n 1) 1 35 := ⟨by decide +kernel, rfl⟩
theorem eX11_comes_35 : zD cX11_comes 35 (.invokevirtual 127) 3 38 := ⟨by decide +kernel, rfl⟩
theorem eX11_comes_38 : zD cX11_comes 38 (.istore 5) 2 40 := ⟨by decide +kernel, rfl⟩
theorem eX11_comes_40 : zD cX11_comes 40 (.iload 5) 2 42 := ⟨by decide +kernel, rfl⟩
theorem eX11_comes_42 : zD cX11_comes 42 (.ifCond .eq 6) 3 45 := ⟨by decide +kernel, rfl⟩
theorem eX11_comes_45 : zD cX11_comes 45 (.iload 5) 2 47 := ⟨by decide +kernel, rfl⟩
theorem eX11_comes_47 : zD cX11_comes 47 (.ireturn) 1 48 := ⟨by decide +kernel, rfl⟩
theorem eX11_comes_48 : zD cX11_comes 48 (.aload_n 0) 1 49 := ⟨by decide +kernel, rfl⟩
theorem eX11_comes_49 : zD cX11_comes 49 (.getfield 42) 3 52 := ⟨by decide +kernel, rfl⟩
theorem eX11_comes_52 : zD cX11_comes 52 (.aload_n 0) 1 53 := ⟨by decide +kernel, rfl⟩
theorem eX11_comes_53 : zD cX11_comes 53 (.getfield 61) 3 56 := ⟨by decide +kernel, rfl⟩
theorem eX11_comes_56 : zD cX11_comes 56 (.iload_n 1) 1 57 := ⟨by decide +kernel, rfl⟩
theorem eX11_comes_57 : zD cX11_comes 57 (.aaload) 1 58 := ⟨by decide +kernel, rfl⟩
theorem eX11_comes_58 : zD cX11_comes 58 (.getfield 130) 3 61 := ⟨by decide +kernel, rfl⟩
theorem eX11_comes_61 : zD cX11_comes 61 (.aload_n 0) 1 62 := ⟨by decide +kernel, rfl⟩
theorem eX11_comes_62 : zD cX11_comes 62 (.getfield 61) 3 65 := ⟨by decide +kernel, rfl⟩
theorem eX11_comes_65 : zD cX11_comes 65 (.iload_n 1) 1 66 := ⟨by decide +kernel, rfl⟩
theorem eX11_comes_66 : zD cX11_comes 66 (.aaload) 1 67 := ⟨by decide +kernel, rfl⟩
theorem eX11_comes_67 : zD cX11_comes 67 (.getfield 132) 3 70 := ⟨by decide +kernel, rfl⟩
theorem eX11_comes_70 : zD cX11_comes 70 (.iload 4) 2 72 := ⟨by decide +kernel, rfl⟩
theorem eX11_comes_72 : zD cX11_comes 72 (.iload_n 2) 1 73 := ⟨by decide +kernel, rfl⟩
theorem eX11_comes_73 : zD cX11_comes 73 (.iload_n 3) 1 74 := ⟨by decide +kernel, rfl⟩
theorem eX11_comes_74 : zD cX11_comes 74 (.invokevirtual 134) 3 77 := ⟨by decide +kernel, rfl⟩
theorem eX11_comes_77 : zD cX11_comes 77 (.ifCond .ne 6) 3 80 := ⟨by decide +kernel, rfl⟩
theorem eX11_comes_80 : zD cX11_comes 80 (.bipush (-2)) 2 82 := ⟨by decide +kernel, rfl⟩
theorem eX11_comes_82 : zD cX11_comes 82 (.ireturn) 1 83 := ⟨by decide +kernel, rfl⟩
theorem eX11_comes_83 : zD cX11_comes 83 (.aload_n 0) 1 84 := ⟨by decide +kernel, rfl⟩
theorem eX11_comes_84 : zD cX11_comes 84 (.getfield 42) 3 87 := ⟨by decide +kernel, rfl⟩
theorem eX11_comes_87 : zD cX11_comes 87 (.getfield 138) 3 90 := ⟨by decide +kernel, rfl⟩
theorem eX11_comes_90 : zD cX11_comes 90 (.iconst 1) 1 91 := ⟨by decide +kernel, rfl⟩
theorem eX11_comes_91 : zD cX11_comes 91 (.isub) 1 92 := ⟨by decide +kernel, rfl⟩
theorem eX11_comes_92 : zD cX11_comes 92 (.ireturn) 1 93 := ⟨by decide +kernel, rfl⟩
theorem eX11_warm_0 : zD cX11_warm 0 (.iload_n 1) 1 1 := ⟨by decide +kernel, rfl⟩
theorem eX11_warm_1 : zD cX11_warm 1 (.invokestatic 141) 3 4 := ⟨by decide +kernel, rfl⟩
theorem eX11_warm_4 : zD cX11_warm 4 (.ifCond .ne 5) 3 7 := ⟨by decide +kernel, rfl⟩
theorem eX11_warm_7 : zD cX11_warm 7 (.iconst (-1)) 1 8 := ⟨by decide +kernel, rfl⟩
theorem eX11_warm_8 : zD cX11_warm 8 (.ireturn) 1 9 := ⟨by decide +kernel, rfl⟩
theorem eX11_warm_9 : zD cX11_warm 9 (.aload_n 0) 1 10 := ⟨by decide +kernel, rfl⟩
theorem eX11_warm_10 : zD cX11_warm 10 (.getfield 42) 3 13 := ⟨by decide +kernel, rfl⟩
theorem eX11_warm_13 : zD cX11_warm 13 (.getfield 106) 3 16 := ⟨by decide +kernel, rfl⟩
theorem eX11_warm_16 : zD cX11_warm 16 (.istore_n 2) 1 17 := ⟨by decide +kernel, rfl⟩
theorem eX11_warm_17 : zD cX11_warm 17 (.aload_n 0) 1 18 := ⟨by decide +kernel, rfl⟩
theorem eX11_warm_18 : zD cX11_warm 18 (.getfield 42) 3 21 := ⟨by decide +kernel, rfl⟩
theorem eX11_warm_21 : zD cX11_warm 21 (.iload_n 1) 1 22 := ⟨by decide +kernel, rfl⟩
theorem eX11_warm_22 : zD cX11_warm 22 (.putfield 106) 3 25 := ⟨by decide +kernel, rfl⟩
theorem eX11_warm_25 : zD cX11_warm 25 (.iload_n 2) 1 26 := ⟨by decide +kernel, rfl⟩
theorem eX11_warm_26 : zD cX11_warm 26 (.ireturn) 1 27 := ⟨by decide +kernel, rfl⟩
theorem eX11_turn_0 : zD cX11_turn 0 (.aload_n 0) 1 1 := ⟨by decide +kernel, rfl⟩
theorem eX11_turn_1 : zD cX11_turn 1 (.getfield 42) 3 4 := ⟨by decide +kernel, rfl⟩
theorem eX11_turn_4 : zD cX11_turn 4 (.iload_n 1) 1 5 := ⟨by decide +kernel, rfl⟩
theorem eX11_turn_5 : zD cX11_turn 5 (.invokevirtual 144) 3 8 := ⟨by decide +kernel, rfl⟩
theorem eX11_turn_8 : zD cX11_turn 8 (.ifCond .ne 5) 3 11 := ⟨by decide +kernel, rfl⟩
theorem eX11_turn_11 : zD cX11_turn 11 (.iconst (-1)) 1 12 := ⟨by decide +kernel, rfl⟩
theorem eX11_turn_12 : zD cX11_turn 12 (.ireturn) 1 13 := ⟨by decide +kernel, rfl⟩
theorem eX11_turn_13 : zD cX11_turn 13 (.aload_n 0) 1 14 := ⟨by decide +kernel, rfl⟩
theorem eX11_turn_14 : zD cX11_turn 14 (.getfield 42) 3 17 := ⟨by decide +kernel, rfl⟩
theorem eX11_turn_17 : zD cX11_turn 17 (.getfield 93) 3 20 := ⟨by decide +kernel, rfl⟩
theorem eX11_turn_20 : zD cX11_turn 20 (.iload_n 1) 1 21 := ⟨by decide +kernel, rfl⟩
theorem eX11_turn_21 : zD cX11_turn 21 (.iaload) 1 22 := ⟨by decide +kernel, rfl⟩
theorem eX11_turn_22 : zD cX11_turn 22 (.ireturn) 1 23 := ⟨by decide +kernel, rfl⟩
theorem eX11_lies_0 : zD cX11_lies 0 (.aload_n 0) 1 1 := ⟨by decide +kernel, rfl⟩
theorem eX11_lies_1 : zD cX11_lies 1 (.iload_n 1) 1 2 := ⟨by decide +kernel, rfl⟩
theorem eX11_lies_2 : zD cX11_lies 2 (.iload_n 2) 1 3 := ⟨by decide +kernel, rfl⟩
theorem eX11_lies_3 : zD cX11_lies 3 (.invokevirtual 147) 3 6 := ⟨by decide +kernel, rfl⟩
theorem eX11_lies_6 : zD cX11_lies 6 (.ifCond .ne 5) 3 9 := ⟨by decide +kernel, rfl⟩
theorem eX11_lies_9 : zD cX11_lies 9 (.iconst (-1)) 1 10 := ⟨by decide +kernel, rfl⟩
theorem eX11_lies_10 : zD cX11_lies 10 (.ireturn) 1 11 := ⟨by decide +kernel, rfl⟩
theorem eX11_lies_11 : zD cX11_lies 11 (.aload_n 0) 1 12 := ⟨by decide +kernel, rfl⟩
theorem eX11_lies_12 : zD cX11_lies 12 (.getfield 42) 3 15 := ⟨by decide +kernel, rfl⟩
theorem eX11_lies_15 : zD cX11_lies 15 (.iload_n 1) 1 16 := ⟨by decide +kernel, rfl⟩
theorem eX11_lies_16 : zD cX11_lies 16 (.iload_n 2) 1 17 := ⟨by decide +kernel, rfl⟩
theorem eX11_lies_17 : zD cX11_lies 17 (.aload_n 0) 1 18 := ⟨by decide +kernel, rfl⟩
theorem eX11_lies_18 : zD cX11_lies 18 (.getfield 42) 3 21 := ⟨by decide +kernel, rfl⟩
theorem eX11_lies_21 : zD cX11_lies 21 (.getfield 106) 3 24 := ⟨by decide +kernel, rfl⟩
theorem eX11_lies_24 : zD cX11_lies 24 (.invokevirtual 151) 3 27 := ⟨by decide +kernel, rfl⟩
theorem eX11_lies_27 : zD cX11_lies 27 (.ifCond .eq 7) 3 30 := ⟨by decide +kernel, rfl⟩
theorem eX11_lies_30 : zD cX11_lies 30 (.iconst 1) 1 31 := ⟨by decide +kernel, rfl⟩
theorem eX11_lies_31 : zD cX11_lies 31 (.goto 4) 3 34 := ⟨by decide +kernel, rfl⟩
theorem eX11_lies_34 : zD cX11_lies 34 (.iconst 0) 1 35 := ⟨by decide +kernel, rfl⟩
theorem eX11_lies_35 : zD cX11_lies 35 (.ireturn) 1 36 := ⟨by decide +kernel, rfl⟩
theorem eX11_nest_0 : zD cX11_nest 0 (.aload_n 0) 1 1 := ⟨by decide +kernel, rfl⟩
theorem eX11_nest_1 : zD cX11_nest 1 (.iload_n 1) 1 2 := ⟨by decide +kernel, rfl⟩
theorem eX11_nest_2 : zD cX11_nest 2 (.invokevirtual 154) 3 5 := ⟨by decide +kernel, rfl⟩
theorem eX11_nest_5 : zD cX11_nest 5 (.ifCond .ne 5) 3 8 := ⟨by decide +kernel, rfl⟩
theorem eX11_nest_8 : zD cX11_nest 8 (.iconst (-1)) 1 9 := ⟨by decide +kernel, rfl⟩
theorem eX11_nest_9 : zD cX11_nest 9 (.ireturn) 1 10 := ⟨by decide +kernel, rfl⟩
theorem eX11_nest_10 : zD cX11_nest 10 (.aload_n 0) 1 11 := ⟨by decide +kernel, rfl⟩
theorem eX11_nest_11 : zD cX11_nest 11 (.getfield 42) 3 14 := ⟨by decide +kernel, rfl⟩
theorem eX11_nest_14 : zD cX11_nest 14 (.iload_n 1) 1 15 := ⟨by decide +kernel, rfl⟩
theorem eX11_nest_15 : zD cX11_nest 15 (.invokevirtual 157) 3 18 := ⟨by decide +kernel, rfl⟩
theorem eX11_nest_18 : zD cX11_nest 18 (.ifCond .le 7) 3 21 := ⟨by decide +kernel, rfl⟩
theorem eX11_nest_21 : zD cX11_nest 21 (.iconst 1) 1 22 := ⟨by decide +kernel, rfl⟩
theorem eX11_nest_22 : zD cX11_nest 22 (.goto 4) 3 25 := ⟨by decide +kernel, rfl⟩
theorem eX11_nest_25 : zD cX11_nest 25 (.iconst 0) 1 26 := ⟨by decide +kernel, rfl⟩
theorem eX11_nest_26 : zD cX11_nest 26 (.ireturn) 1 27 := ⟨by decide +kernel, rfl⟩
theorem eX11_height_0 : zD cX11_height 0 (.aload_n 0) 1 1 := ⟨by decide +kernel, rfl⟩
theorem eX11_height_1 : zD cX11_height 1 (.iload_n 1) 1 2 := ⟨by decide +kernel, rfl⟩
theorem eX11_height_2 : zD cX11_height 2 (.invokevirtual 154) 3 5 := ⟨by decide +kernel, rfl⟩
theorem eX11_height_5 : zD cX11_height 5 (.ifCond .ne 5) 3 8 := ⟨by decide +kernel, rfl⟩
theorem eX11_height_8 : zD cX11_height 8 (.iconst (-1)) 1 9 := ⟨by decide +kernel, rfl⟩
theorem eX11_height_9 : zD cX11_height 9 (.ireturn) 1 10 := ⟨by decide +kernel, rfl⟩
theorem eX11_height_10 : zD cX11_height 10 (.aload_n 0) 1 11 := ⟨by decide +kernel, rfl⟩
theorem eX11_height_11 : zD cX11_height 11 (.getfield 42) 3 14 := ⟨by decide +kernel, rfl⟩
theorem eX11_height_14 : zD cX11_height 14 (.iload_n 1) 1 15 := ⟨by decide +kernel, rfl⟩
theorem eX11_height_15 : zD cX11_height 15 (.invokevirtual 157) 3 18 := ⟨by decide +kernel, rfl⟩
theorem eX11_height_18 : zD cX11_height 18 (.istore_n 2) 1 19 := ⟨by decide +kernel, rfl⟩
theorem eX11_height_19 : zD cX11_height 19 (.iload_n 2) 1 20 := ⟨by decide +kernel, rfl⟩
theorem eX11_height_20 : zD cX11_height 20 (.ifCond .le 7) 3 23 := ⟨by decide +kernel, rfl⟩
theorem eX11_height_23 : zD cX11_height 23 (.iload_n 2) 1 24 := ⟨by decide +kernel, rfl⟩
theorem eX11_height_24 : zD cX11_height 24 (.goto 5) 3 27 := ⟨by decide +kernel, rfl⟩
theorem eX11_height_27 : zD cX11_height 27 (.bipush (-3)) 2 29 := ⟨by decide +kernel, rfl⟩
theorem eX11_height_29 : zD cX11_height 29 (.ireturn) 1 30 := ⟨by decide +kernel, rfl⟩
theorem eX11_longest_0 : zD cX11_longest 0 (.aload_n 0) 1 1 := ⟨by decide +kernel, rfl⟩
theorem eX11_longest_1 : zD cX11_longest 1 (.iload_n 1) 1 2 := ⟨by decide +kernel, rfl⟩
theorem eX11_longest_2 : zD cX11_longest 2 (.invokevirtual 154) 3 5 := ⟨by decide +kernel, rfl⟩
theorem eX11_longest_5 : zD cX11_longest 5 (.ifCond .eq 12) 3 8 := ⟨by decide +kernel, rfl⟩
theorem eX11_longest_8 : zD cX11_longest 8 (.iload_n 2) 1 9 := ⟨by decide +kernel, rfl⟩
theorem eX11_longest_9 : zD cX11_longest 9 (.iconst 0) 1 10 := ⟨by decide +kernel, rfl⟩
theorem eX11_longest_10 : zD cX11_longest 10 (.iconst 1) 1 11 := ⟨by decide +kernel, rfl⟩
theorem eX11_longest_11 : zD cX11_longest 11 (.invokestatic 123) 3 14 := ⟨by decide +kernel, rfl⟩
theorem eX11_longest_14 : zD cX11_longest 14 (.ifCond .ne 5) 3 17 := ⟨by decide +kernel, rfl⟩
theorem eX11_longest_17 : zD cX11_longest 17 (.iconst (-1)) 1 18 := ⟨by decide +kernel, rfl⟩
theorem eX11_longest_18 : zD cX11_longest 18 (.ireturn) 1 19 := ⟨by decide +kernel, rfl⟩
theorem eX11_longest_19 : zD cX11_longest 19 (.aload_n 0) 1 20 := ⟨by decide +kernel, rfl⟩
theorem eX11_longest_20 : zD cX11_longest 20 (.getfield 55) 3 23 := ⟨by decide +kernel, rfl⟩
theorem eX11_longest_23 : zD cX11_longest 23 (.aload_n 0) 1 24 := ⟨by decide +kernel, rfl⟩
theorem eX11_longest_24 : zD cX11_longest 24 (.getfield 42) 3 27 := ⟨by decide +kernel, rfl⟩
theorem eX11_longest_27 : zD cX11_longest 27 (.invokevirtual 160) 3 30 := ⟨by decide +kernel, rfl⟩
theorem eX11_longest_30 : zD cX11_longest 30 (.aload_n 0) 1 31 := ⟨by decide +kernel, rfl⟩
theorem eX11_longest_31 : zD cX11_longest 31 (.getfield 55) 3 34 := ⟨by decide +kernel, rfl⟩
theorem eX11_longest_34 : zD cX11_longest 34 (.iload_n 1) 1 35 := ⟨by decide +kernel, rfl⟩
theorem eX11_longest_35 : zD cX11_longest 35 (.invokevirtual 164) 3 38 := ⟨by decide +kernel, rfl⟩
theorem eX11_longest_38 : zD cX11_longest 38 (.istore_n 3) 1 39 := ⟨by decide +kernel, rfl⟩
theorem eX11_longest_39 : zD cX11_longest 39 (.iload_n 2) 1 40 := ⟨by decide +kernel, rfl⟩
theorem eX11_longest_40 : zD cX11_longest 40 (.ifCond .ne 7) 3 43 := ⟨by decide +kernel, rfl⟩
theorem eX11_longest_43 : zD cX11_longest 43 (.iload_n 3) 1 44 := ⟨by decide +kernel, rfl⟩
theorem eX11_longest_44 : zD cX11_longest 44 (.goto 7) 3 47 := ⟨by decide +kernel, rfl⟩
theorem eX11_longest_47 : zD cX11_longest 47 (.iload_n 3) 1 48 := ⟨by decide +kernel, rfl⟩
theorem eX11_longest_48 : zD cX11_longest 48 (.invokestatic 167) 3 51 := ⟨by decide +kernel, rfl⟩
theorem eX11_longest_51 : zD cX11_longest 51 (.ireturn) 1 52 := ⟨by decide +kernel, rfl⟩
theorem eX11_fewest_0 : zD cX11_fewest 0 (.aload_n 0) 1 1 := ⟨by decide +kernel, rfl⟩
theorem eX11_fewest_1 : zD cX11_fewest 1 (.getfield 55) 3 4 := ⟨by decide +kernel, rfl⟩
theorem eX11_fewest_4 : zD cX11_fewest 4 (.aload_n 0) 1 5 := ⟨by decide +kernel, rfl⟩
theorem eX11_fewest_5 : zD cX11_fewest 5 (.getfield 42) 3 8 := ⟨by decide +kernel, rfl⟩
theorem eX11_fewest_8 : zD cX11_fewest 8 (.invokevirtual 160) 3 11 := ⟨by decide +kernel, rfl⟩
theorem eX11_fewest_11 : zD cX11_fewest 11 (.aload_n 0) 1 12 := ⟨by decide +kernel, rfl⟩
theorem eX11_fewest_12 : zD cX11_fewest 12 (.getfield 55) 3 15 := ⟨by decide +kernel, rfl⟩
theorem eX11_fewest_15 : zD cX11_fewest 15 (.ldc 172) 2 17 := ⟨by decide +kernel, rfl⟩
theorem eX11_fewest_17 : zD cX11_fewest 17 (.invokevirtual 173) 3 20 := ⟨by decide +kernel, rfl⟩
theorem eX11_fewest_20 : zD cX11_fewest 20 (.aload_n 0) 1 21 := ⟨by decide +kernel, rfl⟩
theorem eX11_fewest_21 : zD cX11_fewest 21 (.getfield 55) 3 24 := ⟨by decide +kernel, rfl⟩
theorem eX11_fewest_24 : zD cX11_fewest 24 (.invokevirtual 177) 3 27 := ⟨by decide +kernel, rfl⟩
theorem eX11_fewest_27 : zD cX11_fewest 27 (.ireturn) 1 28 := ⟨by decide +kernel, rfl⟩
theorem eX11_apart_0 : zD cX11_apart 0 (.iload_n 1) 1 1 := ⟨by decide +kernel, rfl⟩
theorem eX11_apart_1 : zD cX11_apart 1 (.iconst 0) 1 2 := ⟨by decide +kernel, rfl⟩
theorem eX11_apart_2 : zD cX11_apart 2 (.iconst 1) 1 3 := ⟨by decide +kernel, rfl⟩
theorem eX11_apart_3 : zD cX11_apart 3 (.invokestatic 123) 3 6 := ⟨by decide +kernel, rfl⟩
theorem eX11_apart_6 : zD cX11_apart 6 (.ifCond .ne 5) 3 9 := ⟨by decide +kernel, rfl⟩
theorem eX11_apart_9 : zD cX11_apart 9 (.iconst (-1)) 1 10 := ⟨by decide +kernel, rfl⟩
theorem eX11_apart_10 : zD cX11_apart 10 (.ireturn) 1 11 := ⟨by decide +kernel, rfl⟩
theorem eX11_apart_11 : zD cX11_apart 11 (.aload_n 0) 1 12 := ⟨by decide +kernel, rfl⟩
theorem eX11_apart_12 : zD cX11_apart 12 (.getfield 55) 3 15 := ⟨by decide +kernel, rfl⟩
theorem eX11_apart_15 : zD cX11_apart 15 (.aload_n 0) 1 16 := ⟨by decide +kernel, rfl⟩
theorem eX11_apart_16 : zD cX11_apart 16 (.getfield 42) 3 19 := ⟨by decide +kernel, rfl⟩
theorem eX11_apart_19 : zD cX11_apart 19 (.invokevirtual 160) 3 22 := ⟨by decide +kernel, rfl⟩
theorem eX11_apart_22 : zD cX11_apart 22 (.aload_n 0) 1 23 := ⟨by decide +kernel, rfl⟩
theorem eX11_apart_23 : zD cX11_apart 23 (.getfield 55) 3 26 := ⟨by decide +kernel, rfl⟩
theorem eX11_apart_26 : zD cX11_apart 26 (.invokevirtual 180) 3 29 := ⟨by decide +kernel, rfl⟩
theorem eX11_apart_29 : zD cX11_apart 29 (.istore_n 2) 1 30 := ⟨by decide +kernel, rfl⟩
theorem eX11_apart_30 : zD cX11_apart 30 (.iload_n 1) 1 31 := ⟨by decide +kernel, rfl⟩
theorem eX11_apart_31 : zD cX11_apart 31 (.ifCond .ne 10) 3 34 := ⟨by decide +kernel, rfl⟩
theorem eX11_apart_34 : zD cX11_apart 34 (.iload_n 2) 1 35 := ⟨by decide +kernel, rfl⟩
theorem eX11_apart_35 : zD cX11_apart 35 (.invokestatic 167) 3 38 := ⟨by decide +kernel, rfl⟩
theorem eX11_apart_38 : zD cX11_apart 38 (.goto 4) 3 41 := ⟨by decide +kernel, rfl⟩
theorem eX11_apart_41 : zD cX11_apart 41 (.iload_n 2) 1 42 := ⟨by decide +kernel, rfl⟩
theorem eX11_apart_42 : zD cX11_apart 42 (.ireturn) 1 43 := ⟨by decide +kernel, rfl⟩
theorem eX11_carry_0 : zD cX11_carry 0 (.aload_n 0) 1 1 := ⟨by decide +kernel, rfl⟩
theorem eX11_carry_1 : zD cX11_carry 1 (.getfield 55) 3 4 := ⟨by decide +kernel, rfl⟩
theorem eX11_carry_4 : zD cX11_carry 4 (.aload_n 0) 1 5 := ⟨by decide +kernel, rfl⟩
theorem eX11_carry_5 : zD cX11_carry 5 (.getfield 42) 3 8 := ⟨by decide +kernel, rfl⟩
theorem eX11_carry_8 : zD cX11_carry 8 (.invokevirtual 160) 3 11 := ⟨by decide +kernel, rfl⟩
theorem eX11_carry_11 : zD cX11_carry 11 (.aload_n 0) 1 12 := ⟨by decide +kernel, rfl⟩
theorem eX11_carry_12 : zD cX11_carry 12 (.getfield 55) 3 15 := ⟨by decide +kernel, rfl⟩
theorem eX11_carry_15 : zD cX11_carry 15 (.invokevirtual 183) 3 18 := ⟨by decide +kernel, rfl⟩
theorem eX11_carry_18 : zD cX11_carry 18 (.aload_n 0) 1 19 := ⟨by decide +kernel, rfl⟩
theorem eX11_carry_19 : zD cX11_carry 19 (.getfield 55) 3 22 := ⟨by decide +kernel, rfl⟩
theorem eX11_carry_22 : zD cX11_carry 22 (.invokevirtual 177) 3 25 := ⟨by decide +kernel, rfl⟩
theorem eX11_carry_25 : zD cX11_carry 25 (.ireturn) 1 26 := ⟨by decide +kernel, rfl⟩
theorem eX11_load_0 : zD cX11_load 0 (.iload_n 1) 1 1 := ⟨by decide +kernel, rfl⟩
theorem eX11_load_1 : zD cX11_load 1 (.invokestatic 120) 3 4 := ⟨by decide +kernel, rfl⟩
theorem eX11_load_4 : zD cX11_load 4 (.ifCond .ne 5) 3 7 := ⟨by decide +kernel, rfl⟩
theorem eX11_load_7 : zD cX11_load 7 (.iconst (-1)) 1 8 := ⟨by decide +kernel, rfl⟩
theorem eX11_load_8 : zD cX11_load 8 (.ireturn) 1 9 := ⟨by decide +kernel, rfl⟩
theorem eX11_load_9 : zD cX11_load 9 (.aload_n 0) 1 10 := ⟨by decide +kernel, rfl⟩
theorem eX11_load_10 : zD cX11_load 10 (.getfield 55) 3 13 := ⟨by decide +kernel, rfl⟩
theorem eX11_load_13 : zD cX11_load 13 (.aload_n 0) 1 14 := ⟨by decide +kernel, rfl⟩
theorem eX11_load_14 : zD cX11_load 14 (.getfield 42) 3 17 := ⟨by decide +kernel, rfl⟩
theorem eX11_load_17 : zD cX11_load 17 (.invokevirtual 160) 3 20 := ⟨by decide +kernel, rfl⟩
theorem eX11_load_20 : zD cX11_load 20 (.aload_n 0) 1 21 := ⟨by decide +kernel, rfl⟩
theorem eX11_load_21 : zD cX11_load 21 (.getfield 55) 3 24 := ⟨by decide +kernel, rfl⟩
theorem eX11_load_24 : zD cX11_load 24 (.iload_n 1) 1 25 := ⟨by decide +kernel, rfl⟩
theorem eX11_load_25 : zD cX11_load 25 (.invokevirtual 173) 3 28 := ⟨by decide +kernel, rfl⟩
theorem eX11_load_28 : zD cX11_load 28 (.aload_n 0) 1 29 := ⟨by decide +kernel, rfl⟩
theorem eX11_load_29 : zD cX11_load 29 (.getfield 55) 3 32 := ⟨by decide +kernel, rfl⟩
theorem eX11_load_32 : zD cX11_load 32 (.invokevirtual 177) 3 35 := ⟨by decide +kernel, rfl⟩
theorem eX11_load_35 : zD cX11_load 35 (.istore_n 2) 1 36 := ⟨by decide +kernel, rfl⟩
theorem eX11_load_36 : zD cX11_load 36 (.iload_n 2) 1 37 := ⟨by decide +kernel, rfl⟩
theorem eX11_load_37 : zD cX11_load 37 (.ldc 172) 2 39 := ⟨by decide +kernel, rfl⟩
theorem eX11_load_39 : zD cX11_load 39 (.if_icmp .ge 7) 3 42 := ⟨by decide +kernel, rfl⟩
theorem eX11_load_42 : zD cX11_load 42 (.iload_n 2) 1 43 := ⟨by decide +kernel, rfl⟩
theorem eX11_load_43 : zD cX11_load 43 (.goto 5) 3 46 := ⟨by decide +kernel, rfl⟩
theorem eX11_load_46 : zD cX11_load 46 (.bipush (-4)) 2 48 := ⟨by decide +kernel, rfl⟩
theorem eX11_load_48 : zD cX11_load 48 (.ireturn) 1 49 := ⟨by decide +kernel, rfl⟩
theorem eX11_whole_0 : zD cX11_whole 0 (.iload_n 1) 1 1 := ⟨by decide +kernel, rfl⟩
theorem eX11_whole_1 : zD cX11_whole 1 (.iconst 1) 1 2 := ⟨by decide +kernel, rfl⟩
theorem eX11_whole_2 : zD cX11_whole 2 (.bipush 9) 2 4 := ⟨by decide +kernel, rfl⟩
theorem eX11_whole_4 : zD cX11_whole 4 (.invokestatic 123) 3 7 := ⟨by decide +kernel, rfl⟩
theorem eX11_whole_7 : zD cX11_whole 7 (.ifCond .ne 5) 3 10 := ⟨by decide +kernel, rfl⟩
theorem eX11_whole_10 : zD cX11_whole 10 (.iconst (-1)) 1 11 := ⟨by decide +kernel, rfl⟩
theorem eX11_whole_11 : zD cX11_whole 11 (.ireturn) 1 12 := ⟨by decide +kernel, rfl⟩
theorem eX11_whole_12 : zD cX11_whole 12 (.aload_n 0) 1 13 := ⟨by decide +kernel, rfl⟩
theorem eX11_whole_13 : zD cX11_whole 13 (.getfield 55) 3 16 := ⟨by decide +kernel, rfl⟩
theorem eX11_whole_16 : zD cX11_whole 16 (.aload_n 0) 1 17 := ⟨by decide +kernel, rfl⟩
theorem eX11_whole_17 : zD cX11_whole 17 (.getfield 42) 3 20 := ⟨by decide +kernel, rfl⟩
theorem eX11_whole_20 : zD cX11_whole 20 (.invokevirtual 160) 3 23 := ⟨by decide +kernel, rfl⟩
theorem eX11_whole_23 : zD cX11_whole 23 (.aload_n 0) 1 24 := ⟨by decide +kernel, rfl⟩
theorem eX11_whole_24 : zD cX11_whole 24 (.getfield 55) 3 27 := ⟨by decide +kernel, rfl⟩
theorem eX11_whole_27 : zD cX11_whole 27 (.iload_n 1) 1 28 := ⟨by decide +kernel, rfl⟩
theorem eX11_whole_28 : zD cX11_whole 28 (.invokevirtual 186) 3 31 := ⟨by decide +kernel, rfl⟩
theorem eX11_whole_31 : zD cX11_whole 31 (.aload_n 0) 1 32 := ⟨by decide +kernel, rfl⟩
theorem eX11_whole_32 : zD cX11_whole 32 (.getfield 55) 3 35 := ⟨by decide +kernel, rfl⟩
theorem eX11_whole_35 : zD cX11_whole 35 (.invokevirtual 177) 3 38 := ⟨by decide +kernel, rfl⟩
theorem eX11_whole_38 : zD cX11_whole 38 (.ineg) 1 39 := ⟨by decide +kernel, rfl⟩
theorem eX11_whole_39 : zD cX11_whole 39 (.ireturn) 1 40 := ⟨by decide +kernel, rfl⟩
theorem eX11_throwsNew_0 : zD cX11_throwsNew 0 (.aload_n 0) 1 1 := ⟨by decide +kernel, rfl⟩
theorem eX11_throwsNew_1 : zD cX11_throwsNew 1 (.getfield 42) 3 4 := ⟨by decide +kernel, rfl⟩
theorem eX11_throwsNew_4 : zD cX11_throwsNew 4 (.getfield 138) 3 7 := ⟨by decide +kernel, rfl⟩
theorem eX11_throwsNew_7 : zD cX11_throwsNew 7 (.ifCond .ne 6) 3 10 := ⟨by decide +kernel, rfl⟩
theorem eX11_throwsNew_10 : zD cX11_throwsNew 10 (.bipush (-4)) 2 12 := ⟨by decide +kernel, rfl⟩
theorem eX11_throwsNew_12 : zD cX11_throwsNew 12 (.ireturn) 1 13 := ⟨by decide +kernel, rfl⟩
theorem eX11_throwsNew_13 : zD cX11_throwsNew 13 (.aload_n 0) 1 14 := ⟨by decide +kernel, rfl⟩
theorem eX11_throwsNew_14 : zD cX11_throwsNew 14 (.getfield 42) 3 17 := ⟨by decide +kernel, rfl⟩
theorem eX11_throwsNew_17 : zD cX11_throwsNew 17 (.invokevirtual 189) 3 20 := ⟨by decide +kernel, rfl⟩
theorem eX11_throwsNew_20 : zD cX11_throwsNew 20 (.aload_n 0) 1 21 := ⟨by decide +kernel, rfl⟩
theorem eX11_throwsNew_21 : zD cX11_throwsNew 21 (.getfield 46) 3 24 := ⟨by decide +kernel, rfl⟩
theorem eX11_throwsNew_24 : zD cX11_throwsNew 24 (.aload_n 0) 1 25 := ⟨by decide +kernel, rfl⟩
theorem eX11_throwsNew_25 : zD cX11_throwsNew 25 (.getfield 42) 3 28 := ⟨by decide +kernel, rfl⟩
theorem eX11_throwsNew_28 : zD cX11_throwsNew 28 (.invokevirtual 192) 3 31 := ⟨by decide +kernel, rfl⟩
theorem eX11_throwsNew_31 : zD cX11_throwsNew 31 (.aload_n 0) 1 32 := ⟨by decide +kernel, rfl⟩
theorem eX11_throwsNew_32 : zD cX11_throwsNew 32 (.getfield 46) 3 35 := ⟨by decide +kernel, rfl⟩
theorem eX11_throwsNew_35 : zD cX11_throwsNew 35 (.iconst 1) 1 36 := ⟨by decide +kernel, rfl⟩
theorem eX11_throwsNew_36 : zD cX11_throwsNew 36 (.iconst 1) 1 37 := ⟨by decide +kernel, rfl⟩
theorem eX11_throwsNew_37 : zD cX11_throwsNew 37 (.invokevirtual 195) 3 40 := ⟨by decide +kernel, rfl⟩
theorem eX11_throwsNew_40 : zD cX11_throwsNew 40 (.istore_n 1) 1 41 := ⟨by decide +kernel, rfl⟩
theorem eX11_throwsNew_41 : zD cX11_throwsNew 41 (.iconst 0) 1 42 := ⟨by decide +kernel, rfl⟩
theorem eX11_throwsNew_42 : zD cX11_throwsNew 42 (.istore_n 2) 1 43 := ⟨by decide +kernel, rfl⟩
theorem eX11_throwsNew_43 : zD cX11_throwsNew 43 (.iconst 1) 1 44 := ⟨by decide +kernel, rfl⟩
theorem eX11_throwsNew_44 : zD cX11_throwsNew 44 (.istore_n 3) 1 45 := ⟨by decide +kernel, rfl⟩
theorem eX11_throwsNew_45 : zD cX11_throwsNew 45 (.iload_n 3) 1 46 := ⟨by decide +kernel, rfl⟩
theorem eX11_throwsNew_46 : zD cX11_throwsNew 46 (.aload_n 0) 1 47 := ⟨by decide +kernel, rfl⟩
theorem eX11_throwsNew_47 : zD cX11_throwsNew 47 (.getfield 42) 3 50 := ⟨by decide +kernel, rfl⟩
theorem eX11_throwsNew_50 : zD cX11_throwsNew 50 (.getfield 138) 3 53 := ⟨by decide +kernel, rfl⟩
theorem eX11_throwsNew_53 : zD cX11_throwsNew 53 (.if_icmp .ge 77) 3 56 := ⟨by decide +kernel, rfl⟩
theorem eX11_throwsNew_56 : zD cX11_throwsNew 56 (.aload_n 0) 1 57 := ⟨by decide +kernel, rfl⟩
theorem eX11_throwsNew_57 : zD cX11_throwsNew 57 (.getfield 42) 3 60 := ⟨by decide +kernel, rfl⟩
theorem eX11_throwsNew_60 : zD cX11_throwsNew 60 (.getfield 198) 3 63 := ⟨by decide +kernel, rfl⟩
theorem eX11_throwsNew_63 : zD cX11_throwsNew 63 (.iload_n 3) 1 64 := ⟨by decide +kernel, rfl⟩
theorem eX11_throwsNew_64 : zD cX11_throwsNew 64 (.iconst 1) 1 65 := ⟨by decide +kernel, rfl⟩
theorem eX11_throwsNew_65 : zD cX11_throwsNew 65 (.isub) 1 66 := ⟨by decide +kernel, rfl⟩
theorem eX11_throwsNew_66 : zD cX11_throwsNew 66 (.iaload) 1 67 := ⟨by decide +kernel, rfl⟩
theorem eX11_throwsNew_67 : zD cX11_throwsNew 67 (.istore 4) 2 69 := ⟨by decide +kernel, rfl⟩
theorem eX11_throwsNew_69 : zD cX11_throwsNew 69 (.aload_n 0) 1 70 := ⟨by decide +kernel, rfl⟩
theorem eX11_throwsNew_70 : zD cX11_throwsNew 70 (.getfield 42) 3 73 := ⟨by decide +kernel, rfl⟩
theorem eX11_throwsNew_73 : zD cX11_throwsNew 73 (.getfield 198) 3 76 := ⟨by decide +kernel, rfl⟩
theorem eX11_throwsNew_76 : zD cX11_throwsNew 76 (.iload_n 3) 1 77 := ⟨by decide +kernel, rfl⟩
theorem eX11_throwsNew_77 : zD cX11_throwsNew 77 (.iaload) 1 78 := ⟨by decide +kernel, rfl⟩
theorem eX11_throwsNew_78 : zD cX11_throwsNew 78 (.istore 5) 2 80 := ⟨by decide +kernel, rfl⟩
theorem eX11_throwsNew_80 : zD cX11_throwsNew 80 (.aload_n 0) 1 81 := ⟨by decide +kernel, rfl⟩
theorem eX11_throwsNew_81 : zD cX11_throwsNew 81 (.getfield 42) 3 84 := ⟨by decide +kernel, rfl⟩
theorem eX11_throwsNew_84 : zD cX11_throwsNew 84 (.iload 4) 2 86 := ⟨by decide +kernel, rfl⟩
theorem eX11_throwsNew_86 : zD cX11_throwsNew 86 (.iload 5) 2 88 := ⟨by decide +kernel, rfl⟩
theorem eX11_throwsNew_88 : zD cX11_throwsNew 88 (.aload_n 0) 1 89 := ⟨by decide +kernel, rfl⟩
theorem eX11_throwsNew_89 : zD cX11_throwsNew 89 (.getfield 42) 3 92 := ⟨by decide +kernel, rfl⟩
theorem eX11_throwsNew_92 : zD cX11_throwsNew 92 (.getfield 106) 3 95 := ⟨by decide +kernel, rfl⟩
theorem eX11_throwsNew_95 : zD cX11_throwsNew 95 (.invokevirtual 151) 3 98 := ⟨by decide +kernel, rfl⟩
theorem eX11_throwsNew_98 : zD cX11_throwsNew 98 (.ifCond .ne 26) 3 101 := ⟨by decide +kernel, rfl⟩
theorem eX11_throwsNew_101 : zD cX11_throwsNew 101 (.iinc 2 1) 3 104 := ⟨by decide +kernel, rfl⟩
theorem eX11_throwsNew_104 : zD cX11_throwsNew 104 (.iload_n 2) 1 105 := ⟨by decide +kernel, rfl⟩
theorem eX11_throwsNew_105 : zD cX11_throwsNew 105 (.iconst 2) 1 106 := ⟨by decide +kernel, rfl⟩
theorem eX11_throwsNew_106 : zD cX11_throwsNew 106 (.if_icmp .gt 15) 3 109 := ⟨by decide +kernel, rfl⟩
theorem eX11_throwsNew_109 : zD cX11_throwsNew 109 (.aload_n 0) 1 110 := ⟨by decide +kernel, rfl⟩
theorem eX11_throwsNew_110 : zD cX11_throwsNew 110 (.iload 4) 2 112 := ⟨by decide +kernel, rfl⟩
theorem eX11_throwsNew_112 : zD cX11_throwsNew 112 (.iload 5) 2 114 := ⟨by decide +kernel, rfl⟩
theorem eX11_throwsNew_114 : zD cX11_throwsNew 114 (.iload_n 1) 1 115 := ⟨by decide +kernel, rfl⟩
theorem eX11_throwsNew_115 : zD cX11_throwsNew 115 (.invokevirtual 201) 3 118 := ⟨by decide +kernel, rfl⟩
theorem eX11_throwsNew_118 : zD cX11_throwsNew 118 (.ifCond .ne 6) 3 121 := ⟨by decide +kernel, rfl⟩
theorem eX11_throwsNew_121 : zD cX11_throwsNew 121 (.bipush (-4)) 2 123 := ⟨by decide +kernel, rfl⟩
theorem eX11_throwsNew_123 : zD cX11_throwsNew 123 (.ireturn) 1 124 := ⟨by decide +kernel, rfl⟩
theorem eX11_throwsNew_124 : zD cX11_throwsNew 124 (.iinc 3 1) 3 127 := ⟨by decide +kernel, rfl⟩
theorem eX11_throwsNew_127 : zD cX11_throwsNew 127 (.goto (-82)) 3 130 := ⟨by decide +kernel, rfl⟩
theorem eX11_throwsNew_130 : zD cX11_throwsNew 130 (.iload_n 2) 1 131 := ⟨by decide +kernel, rfl⟩
theorem eX11_throwsNew_131 : zD cX11_throwsNew 131 (.ireturn) 1 132 := ⟨by decide +kernel, rfl⟩
theorem eX11_helps_0 : zD cX11_helps 0 (.iload_n 1) 1 1 := ⟨by decide +kernel, rfl⟩
theorem eX11_helps_1 : zD cX11_helps 1 (.invokestatic 120) 3 4 := ⟨by decide +kernel, rfl⟩
theorem eX11_helps_4 : zD cX11_helps 4 (.ifCond .eq 12) 3 7 := ⟨by decide +kernel, rfl⟩
theorem eX11_helps_7 : zD cX11_helps 7 (.iload_n 2) 1 8 := ⟨by decide +kernel, rfl⟩
theorem eX11_helps_8 : zD cX11_helps 8 (.iconst 0) 1 9 := ⟨by decide +kernel, rfl⟩
theorem eX11_helps_9 : zD cX11_helps 9 (.iconst 1) 1 10 := ⟨by decide +kernel, rfl⟩
theorem eX11_helps_10 : zD cX11_helps 10 (.invokestatic 123) 3 13 := ⟨by decide +kernel, rfl⟩
theorem eX11_helps_13 : zD cX11_helps 13 (.ifCond .ne 5) 3 16 := ⟨by decide +kernel, rfl⟩
theorem eX11_helps_16 : zD cX11_helps 16 (.iconst (-1)) 1 17 := ⟨by decide +kernel, rfl⟩
theorem eX11_helps_17 : zD cX11_helps 17 (.ireturn) 1 18 := ⟨by decide +kernel, rfl⟩
theorem eX11_helps_18 : zD cX11_helps 18 (.aload_n 0) 1 19 := ⟨by decide +kernel, rfl⟩
theorem eX11_helps_19 : zD cX11_helps 19 (.getfield 55) 3 22 := ⟨by decide +kernel, rfl⟩
theorem eX11_helps_22 : zD cX11_helps 22 (.aload_n 0) 1 23 := ⟨by decide +kernel, rfl⟩
theorem eX11_helps_23 : zD cX11_helps 23 (.getfield 42) 3 26 := ⟨by decide +kernel, rfl⟩
theorem eX11_helps_26 : zD cX11_helps 26 (.invokevirtual 160) 3 29 := ⟨by decide +kernel, rfl⟩
theorem eX11_helps_29 : zD cX11_helps 29 (.aload_n 0) 1 30 := ⟨by decide +kernel, rfl⟩
theorem eX11_helps_30 : zD cX11_helps 30 (.getfield 55) 3 33 := ⟨by decide +kernel, rfl⟩
theorem eX11_helps_33 : zD cX11_helps 33 (.aload_n 0) 1 34 := ⟨by decide +kernel, rfl⟩
theorem eX11_helps_34 : zD cX11_helps 34 (.getfield 42) 3 37 := ⟨by decide +kernel, rfl⟩
theorem eX11_helps_37 : zD cX11_helps 37 (.invokevirtual 204) 3 40 := ⟨by decide +kernel, rfl⟩
theorem eX11_helps_40 : zD cX11_helps 40 (.aload_n 0) 1 41 := ⟨by decide +kernel, rfl⟩
theorem eX11_helps_41 : zD cX11_helps 41 (.getfield 46) 3 44 := ⟨by decide +kernel, rfl⟩
theorem eX11_helps_44 : zD cX11_helps 44 (.aload_n 0) 1 45 := ⟨by decide +kernel, rfl⟩
theorem eX11_helps_45 : zD cX11_helps 45 (.getfield 42) 3 48 := ⟨by decide +kernel, rfl⟩
theorem eX11_helps_48 : zD cX11_helps 48 (.invokevirtual 192) 3 51 := ⟨by decide +kernel, rfl⟩
theorem eX11_helps_51 : zD cX11_helps 51 (.aload_n 0) 1 52 := ⟨by decide +kernel, rfl⟩
theorem eX11_helps_52 : zD cX11_helps 52 (.getfield 46) 3 55 := ⟨by decide +kernel, rfl⟩
theorem eX11_helps_55 : zD cX11_helps 55 (.iconst 1) 1 56 := ⟨by decide +kernel, rfl⟩
theorem eX11_helps_56 : zD cX11_helps 56 (.iload_n 1) 1 57 := ⟨by decide +kernel, rfl⟩
theorem eX11_helps_57 : zD cX11_helps 57 (.invokevirtual 195) 3 60 := ⟨by decide +kernel, rfl⟩
theorem eX11_helps_60 : zD cX11_helps 60 (.istore_n 3) 1 61 := ⟨by decide +kernel, rfl⟩
theorem eX11_helps_61 : zD cX11_helps 61 (.iconst 1) 1 62 := ⟨by decide +kernel, rfl⟩
theorem eX11_helps_62 : zD cX11_helps 62 (.istore 4) 2 64 := ⟨by decide +kernel, rfl⟩
theorem eX11_helps_64 : zD cX11_helps 64 (.iconst 0) 1 65 := ⟨by decide +kernel, rfl⟩
theorem eX11_helps_65 : zD cX11_helps 65 (.istore 5) 2 67 := ⟨by decide +kernel, rfl⟩
theorem eX11_helps_67 : zD cX11_helps 67 (.iconst 1) 1 68 := ⟨by decide +kernel, rfl⟩
theorem eX11_helps_68 : zD cX11_helps 68 (.istore 6) 2 70 := ⟨by decide +kernel, rfl⟩
theorem eX11_helps_70 : zD cX11_helps 70 (.iload 6) 2 72 := ⟨by decide +kernel, rfl⟩
theorem eX11_helps_72 : zD cX11_helps 72 (.bipush 99) 2 74 := ⟨by decide +kernel, rfl⟩
theorem eX11_helps_74 : zD cX11_helps 74 (.if_icmp .gt 49) 3 77 := ⟨by decide +kernel, rfl⟩
theorem eX11_helps_77 : zD cX11_helps 77 (.aload_n 0) 1 78 := ⟨by decide +kernel, rfl⟩
theorem eX11_helps_78 : zD cX11_helps 78 (.getfield 46) 3 81 := ⟨by decide +kernel, rfl⟩
theorem eX11_helps_81 : zD cX11_helps 81 (.getfield 96) 3 84 := ⟨by decide +kernel, rfl⟩
theorem eX11_helps_84 : zD cX11_helps 84 (.iload_n 3) 1 85 := ⟨by decide +kernel, rfl⟩
theorem eX11_helps_85 : zD cX11_helps 85 (.iload 6) 2 87 := ⟨by decide +kernel, rfl⟩
theorem eX11_helps_87 : zD cX11_helps 87 (.iastore) 1 88 := ⟨by decide +kernel, rfl⟩
theorem eX11_helps_88 : zD cX11_helps 88 (.aload_n 0) 1 89 := ⟨by decide +kernel, rfl⟩
theorem eX11_helps_89 : zD cX11_helps 89 (.getfield 55) 3 92 := ⟨by decide +kernel, rfl⟩
theorem eX11_helps_92 : zD cX11_helps 92 (.aload_n 0) 1 93 := ⟨by decide +kernel, rfl⟩
theorem eX11_helps_93 : zD cX11_helps 93 (.getfield 46) 3 96 := ⟨by decide +kernel, rfl⟩
theorem eX11_helps_96 : zD cX11_helps 96 (.iload_n 3) 1 97 := ⟨by decide +kernel, rfl⟩
theorem eX11_helps_97 : zD cX11_helps 97 (.invokevirtual 207) 3 100 := ⟨by decide +kernel, rfl⟩
theorem eX11_helps_100 : zD cX11_helps 100 (.istore 7) 2 102 := ⟨by decide +kernel, rfl⟩
theorem eX11_helps_102 : zD cX11_helps 102 (.iload 7) 2 104 := ⟨by decide +kernel, rfl⟩
theorem eX11_helps_104 : zD cX11_helps 104 (.iload 5) 2 106 := ⟨by decide +kernel, rfl⟩
theorem eX11_helps_106 : zD cX11_helps 106 (.if_icmp .le 11) 3 109 := ⟨by decide +kernel, rfl⟩
theorem eX11_helps_109 : zD cX11_helps 109 (.iload 7) 2 111 := ⟨by decide +kernel, rfl⟩
theorem eX11_helps_111 : zD cX11_helps 111 (.istore 5) 2 113 := ⟨by decide +kernel, rfl⟩
theorem eX11_helps_113 : zD cX11_helps 113 (.iload 6) 2 115 := ⟨by decide +kernel, rfl⟩
theorem eX11_helps_115 : zD cX11_helps 115 (.istore 4) 2 117 := ⟨by decide +kernel, rfl⟩
theorem eX11_helps_117 : zD cX11_helps 117 (.iinc 6 1) 3 120 := ⟨by decide +kernel, rfl⟩
theorem eX11_helps_120 : zD cX11_helps 120 (.goto (-50)) 3 123 := ⟨by decide +kernel, rfl⟩
theorem eX11_helps_123 : zD cX11_helps 123 (.iload_n 2) 1 124 := ⟨by decide +kernel, rfl⟩
theorem eX11_helps_124 : zD cX11_helps 124 (.ifCond .ne 8) 3 127 := ⟨by decide +kernel, rfl⟩
theorem eX11_helps_127 : zD cX11_helps 127 (.iload 4) 2 129 := ⟨by decide +kernel, rfl⟩
theorem eX11_helps_129 : zD cX11_helps 129 (.goto 5) 3 132 := ⟨by decide +kernel, rfl⟩
theorem eX11_helps_132 : zD cX11_helps 132 (.iload 5) 2 134 := ⟨by decide +kernel, rfl⟩
theorem eX11_helps_134 : zD cX11_helps 134 (.ireturn) 1 135 := ⟨by decide +kernel, rfl⟩
theorem eX11_out_0 : zD cX11_out 0 (.iload_n 1) 1 1 := ⟨by decide +kernel, rfl⟩
theorem eX11_out_1 : zD cX11_out 1 (.invokestatic 117) 3 4 := ⟨by decide +kernel, rfl⟩
theorem eX11_out_4 : zD cX11_out 4 (.ifCond .eq 10) 3 7 := ⟨by decide +kernel, rfl⟩
theorem eX11_out_7 : zD cX11_out 7 (.iload_n 2) 1 8 := ⟨by decide +kernel, rfl⟩
theorem eX11_out_8 : zD cX11_out 8 (.invokestatic 141) 3 11 := ⟨by decide +kernel, rfl⟩
theorem eX11_out_11 : zD cX11_out 11 (.ifCond .ne 5) 3 14 := ⟨by decide +kernel, rfl⟩
theorem eX11_out_14 : zD cX11_out 14 (.iconst (-1)) 1 15 := ⟨by decide +kernel, rfl⟩
theorem eX11_out_15 : zD cX11_out 15 (.ireturn) 1 16 := ⟨by decide +kernel, rfl⟩
theorem eX11_out_16 : zD cX11_out 16 (.aload_n 0) 1 17 := ⟨by decide +kernel, rfl⟩
theorem eX11_out_17 : zD cX11_out 17 (.iload_n 1) 1 18 := ⟨by decide +kernel, rfl⟩
theorem eX11_out_18 : zD cX11_out 18 (.invokevirtual 70) 3 21 := ⟨by decide +kernel, rfl⟩
theorem eX11_out_21 : zD cX11_out 21 (.istore_n 3) 1 22 := ⟨by decide +kernel, rfl⟩
theorem eX11_out_22 : zD cX11_out 22 (.iload_n 3) 1 23 := ⟨by decide +kernel, rfl⟩
theorem eX11_out_23 : zD cX11_out 23 (.ifCond .eq 5) 3 26 := ⟨by decide +kernel, rfl⟩
theorem eX11_out_26 : zD cX11_out 26 (.iload_n 3) 1 27 := ⟨by decide +kernel, rfl⟩
theorem eX11_out_27 : zD cX11_out 27 (.ireturn) 1 28 := ⟨by decide +kernel, rfl⟩
theorem eX11_out_28 : zD cX11_out 28 (.aload_n 0) 1 29 := ⟨by decide +kernel, rfl⟩
theorem eX11_out_29 : zD cX11_out 29 (.getfield 61) 3 32 := ⟨by decide +kernel, rfl⟩
theorem eX11_out_32 : zD cX11_out 32 (.iload_n 1) 1 33 := ⟨by decide +kernel, rfl⟩
theorem eX11_out_33 : zD cX11_out 33 (.aaload) 1 34 := ⟨by decide +kernel, rfl⟩
theorem eX11_out_34 : zD cX11_out 34 (.astore 4) 2 36 := ⟨by decide +kernel, rfl⟩
theorem eX11_out_36 : zD cX11_out 36 (.aload 4) 2 38 := ⟨by decide +kernel, rfl⟩
theorem eX11_out_38 : zD cX11_out 38 (.getfield 211) 3 41 := ⟨by decide +kernel, rfl⟩
theorem eX11_out_41 : zD cX11_out 41 (.ifCond .eq 12) 3 44 := ⟨by decide +kernel, rfl⟩
theorem eX11_out_44 : zD cX11_out 44 (.aload_n 0) 1 45 := ⟨by decide +kernel, rfl⟩
theorem eX11_out_45 : zD cX11_out 45 (.aload 4) 2 47 := ⟨by decide +kernel, rfl⟩
theorem eX11_out_47 : zD cX11_out 47 (.invokevirtual 214) 3 50 := ⟨by decide +kernel, rfl⟩
theorem eX11_out_50 : zD cX11_out 50 (.ifCond .lt 6) 3 53 := ⟨by decide +kernel, rfl⟩
theorem eX11_out_53 : zD cX11_out 53 (.bipush (-13)) 2 55 := ⟨by decide +kernel, rfl⟩
theorem eX11_out_55 : zD cX11_out 55 (.ireturn) 1 56 := ⟨by decide +kernel, rfl⟩
theorem eX11_out_56 : zD cX11_out 56 (.iconst 0) 1 57 := ⟨by decide +kernel, rfl⟩
theorem eX11_out_57 : zD cX11_out 57 (.istore 5) 2 59 := ⟨by decide +kernel, rfl⟩
theorem eX11_out_59 : zD cX11_out 59 (.aload 4) 2 61 := ⟨by decide +kernel, rfl⟩
theorem eX11_out_61 : zD cX11_out 61 (.getfield 211) 3 64 := ⟨by decide +kernel, rfl⟩
theorem eX11_out_64 : zD cX11_out 64 (.iconst 1) 1 65 := ⟨by decide +kernel, rfl⟩
end
section
/-! Decode rows. -/
theorem eX11_out_65 : zD cX11_out 65 (.isub) 1 66 := ⟨by decide +kernel, rfl⟩
theorem eX11_out_66 : zD cX11_out 66 (.istore 6) 2 68 := ⟨by decide +kernel, rfl⟩
theorem eX11_out_68 : zD cX11_out 68 (.iload 6) 2 70 := ⟨by decide +kernel, rfl⟩
theorem eX11_out_70 : zD cX11_out 70 (.ifCond .lt 47) 3 73 := ⟨by decide +kernel, rfl⟩
theorem eX11_out_73 : zD cX11_out 73 (.iload 6) 2 75 := ⟨by decide +kernel, rfl⟩
theorem eX11_out_75 : zD cX11_out 75 (.ifCond .le 33) 3 78 := ⟨by decide +kernel, rfl⟩
theorem eX11_out_78 : zD cX11_out 78 (.aload_n 0) 1 79 := ⟨by decide +kernel, rfl⟩
theorem eX11_out_79 : zD cX11_out 79 (.getfield 42) 3 82 := ⟨by decide +kernel, rfl⟩
theorem eX11_out_82 : zD cX11_out 82 (.aload 4) 2 84 := ⟨by decide +kernel, rfl⟩
theorem eX11_out_84 : zD cX11_out 84 (.iload 6) 2 86 := ⟨by decide +kernel, rfl⟩
theorem eX11_out_86 : zD cX11_out 86 (.invokevirtual 217) 3 89 := ⟨by decide +kernel, rfl⟩
theorem eX11_out_89 : zD cX11_out 89 (.aload 4) 2 91 := ⟨by decide +kernel, rfl⟩
theorem eX11_out_91 : zD cX11_out 91 (.iload 6) 2 93 := ⟨by decide +kernel, rfl⟩
theorem eX11_out_93 : zD cX11_out 93 (.iconst 1) 1 94 := ⟨by decide +kernel, rfl⟩
theorem eX11_out_94 : zD cX11_out 94 (.isub) 1 95 := ⟨by decide +kernel, rfl⟩
theorem eX11_out_95 : zD cX11_out 95 (.invokevirtual 217) 3 98 := ⟨by decide +kernel, rfl⟩
theorem eX11_out_98 : zD cX11_out 98 (.iload_n 2) 1 99 := ⟨by decide +kernel, rfl⟩
theorem eX11_out_99 : zD cX11_out 99 (.invokevirtual 151) 3 102 := ⟨by decide +kernel, rfl⟩
theorem eX11_out_102 : zD cX11_out 102 (.ifCond .ne 6) 3 105 := ⟨by decide +kernel, rfl⟩
theorem eX11_out_105 : zD cX11_out 105 (.iload 5) 2 107 := ⟨by decide +kernel, rfl⟩
theorem eX11_out_107 : zD cX11_out 107 (.ireturn) 1 108 := ⟨by decide +kernel, rfl⟩
theorem eX11_out_108 : zD cX11_out 108 (.iinc 5 1) 3 111 := ⟨by decide +kernel, rfl⟩
theorem eX11_out_111 : zD cX11_out 111 (.iinc 6 (-1)) 3 114 := ⟨by decide +kernel, rfl⟩
theorem eX11_out_114 : zD cX11_out 114 (.goto (-46)) 3 117 := ⟨by decide +kernel, rfl⟩
theorem eX11_out_117 : zD cX11_out 117 (.iload 5) 2 119 := ⟨by decide +kernel, rfl⟩
theorem eX11_out_119 : zD cX11_out 119 (.ireturn) 1 120 := ⟨by decide +kernel, rfl⟩
theorem eX11_judge_0 : zD cX11_judge 0 (.aload_n 0) 1 1 := ⟨by decide +kernel, rfl⟩
theorem eX11_judge_1 : zD cX11_judge 1 (.iload_n 1) 1 2 := ⟨by decide +kernel, rfl⟩
theorem eX11_judge_2 : zD cX11_judge 2 (.invokevirtual 220) 3 5 := ⟨by decide +kernel, rfl⟩
theorem eX11_judge_5 : zD cX11_judge 5 (.istore_n 2) 1 6 := ⟨by decide +kernel, rfl⟩
theorem eX11_judge_6 : zD cX11_judge 6 (.iload_n 2) 1 7 := ⟨by decide +kernel, rfl⟩
theorem eX11_judge_7 : zD cX11_judge 7 (.ifCond .eq 5) 3 10 := ⟨by decide +kernel, rfl⟩
theorem eX11_judge_10 : zD cX11_judge 10 (.iload_n 2) 1 11 := ⟨by decide +kernel, rfl⟩
theorem eX11_judge_11 : zD cX11_judge 11 (.ireturn) 1 12 := ⟨by decide +kernel, rfl⟩
theorem eX11_judge_12 : zD cX11_judge 12 (.aload_n 0) 1 13 := ⟨by decide +kernel, rfl⟩
theorem eX11_judge_13 : zD cX11_judge 13 (.aload_n 0) 1 14 := ⟨by decide +kernel, rfl⟩
theorem eX11_judge_14 : zD cX11_judge 14 (.getfield 61) 3 17 := ⟨by decide +kernel, rfl⟩
theorem eX11_judge_17 : zD cX11_judge 17 (.iload_n 1) 1 18 := ⟨by decide +kernel, rfl⟩
theorem eX11_judge_18 : zD cX11_judge 18 (.aaload) 1 19 := ⟨by decide +kernel, rfl⟩
theorem eX11_judge_19 : zD cX11_judge 19 (.invokevirtual 214) 3 22 := ⟨by decide +kernel, rfl⟩
theorem eX11_judge_22 : zD cX11_judge 22 (.istore_n 3) 1 23 := ⟨by decide +kernel, rfl⟩
theorem eX11_judge_23 : zD cX11_judge 23 (.iload_n 3) 1 24 := ⟨by decide +kernel, rfl⟩
theorem eX11_judge_24 : zD cX11_judge 24 (.ifCond .lt 7) 3 27 := ⟨by decide +kernel, rfl⟩
theorem eX11_judge_27 : zD cX11_judge 27 (.iload_n 3) 1 28 := ⟨by decide +kernel, rfl⟩
theorem eX11_judge_28 : zD cX11_judge 28 (.goto 5) 3 31 := ⟨by decide +kernel, rfl⟩
theorem eX11_judge_31 : zD cX11_judge 31 (.bipush (-4)) 2 33 := ⟨by decide +kernel, rfl⟩
theorem eX11_judge_33 : zD cX11_judge 33 (.ireturn) 1 34 := ⟨by decide +kernel, rfl⟩
theorem eX11_spans_0 : zD cX11_spans 0 (.aload_n 0) 1 1 := ⟨by decide +kernel, rfl⟩
theorem eX11_spans_1 : zD cX11_spans 1 (.iload_n 1) 1 2 := ⟨by decide +kernel, rfl⟩
theorem eX11_spans_2 : zD cX11_spans 2 (.iload_n 2) 1 3 := ⟨by decide +kernel, rfl⟩
theorem eX11_spans_3 : zD cX11_spans 3 (.invokevirtual 147) 3 6 := ⟨by decide +kernel, rfl⟩
theorem eX11_spans_6 : zD cX11_spans 6 (.ifCond .eq 13) 3 9 := ⟨by decide +kernel, rfl⟩
theorem eX11_spans_9 : zD cX11_spans 9 (.iload_n 3) 1 10 := ⟨by decide +kernel, rfl⟩
theorem eX11_spans_10 : zD cX11_spans 10 (.iconst 0) 1 11 := ⟨by decide +kernel, rfl⟩
theorem eX11_spans_11 : zD cX11_spans 11 (.bipush 9) 2 13 := ⟨by decide +kernel, rfl⟩
theorem eX11_spans_13 : zD cX11_spans 13 (.invokestatic 123) 3 16 := ⟨by decide +kernel, rfl⟩
theorem eX11_spans_16 : zD cX11_spans 16 (.ifCond .ne 5) 3 19 := ⟨by decide +kernel, rfl⟩
theorem eX11_spans_19 : zD cX11_spans 19 (.iconst (-1)) 1 20 := ⟨by decide +kernel, rfl⟩
theorem eX11_spans_20 : zD cX11_spans 20 (.ireturn) 1 21 := ⟨by decide +kernel, rfl⟩
theorem eX11_spans_21 : zD cX11_spans 21 (.aload_n 0) 1 22 := ⟨by decide +kernel, rfl⟩
theorem eX11_spans_22 : zD cX11_spans 22 (.getfield 42) 3 25 := ⟨by decide +kernel, rfl⟩
theorem eX11_spans_25 : zD cX11_spans 25 (.iload_n 1) 1 26 := ⟨by decide +kernel, rfl⟩
theorem eX11_spans_26 : zD cX11_spans 26 (.iload_n 3) 1 27 := ⟨by decide +kernel, rfl⟩
theorem eX11_spans_27 : zD cX11_spans 27 (.iload_n 2) 1 28 := ⟨by decide +kernel, rfl⟩
theorem eX11_spans_28 : zD cX11_spans 28 (.iload_n 3) 1 29 := ⟨by decide +kernel, rfl⟩
theorem eX11_spans_29 : zD cX11_spans 29 (.invokevirtual 223) 3 32 := ⟨by decide +kernel, rfl⟩
theorem eX11_spans_32 : zD cX11_spans 32 (.ireturn) 1 33 := ⟨by decide +kernel, rfl⟩
theorem eX11_next_0 : zD cX11_next 0 (.iload_n 1) 1 1 := ⟨by decide +kernel, rfl⟩
theorem eX11_next_1 : zD cX11_next 1 (.iconst 0) 1 2 := ⟨by decide +kernel, rfl⟩
theorem eX11_next_2 : zD cX11_next 2 (.bipush 9) 2 4 := ⟨by decide +kernel, rfl⟩
theorem eX11_next_4 : zD cX11_next 4 (.invokestatic 123) 3 7 := ⟨by decide +kernel, rfl⟩
theorem eX11_next_7 : zD cX11_next 7 (.ifCond .eq 12) 3 10 := ⟨by decide +kernel, rfl⟩
theorem eX11_next_10 : zD cX11_next 10 (.iload_n 2) 1 11 := ⟨by decide +kernel, rfl⟩
theorem eX11_next_11 : zD cX11_next 11 (.iconst 0) 1 12 := ⟨by decide +kernel, rfl⟩
theorem eX11_next_12 : zD cX11_next 12 (.iconst 1) 1 13 := ⟨by decide +kernel, rfl⟩
theorem eX11_next_13 : zD cX11_next 13 (.invokestatic 123) 3 16 := ⟨by decide +kernel, rfl⟩
theorem eX11_next_16 : zD cX11_next 16 (.ifCond .ne 5) 3 19 := ⟨by decide +kernel, rfl⟩
theorem eX11_next_19 : zD cX11_next 19 (.iconst (-1)) 1 20 := ⟨by decide +kernel, rfl⟩
theorem eX11_next_20 : zD cX11_next 20 (.ireturn) 1 21 := ⟨by decide +kernel, rfl⟩
theorem eX11_next_21 : zD cX11_next 21 (.bipush (-4)) 2 23 := ⟨by decide +kernel, rfl⟩
theorem eX11_next_23 : zD cX11_next 23 (.istore_n 3) 1 24 := ⟨by decide +kernel, rfl⟩
theorem eX11_next_24 : zD cX11_next 24 (.bipush (-4)) 2 26 := ⟨by decide +kernel, rfl⟩
theorem eX11_next_26 : zD cX11_next 26 (.istore 4) 2 28 := ⟨by decide +kernel, rfl⟩
theorem eX11_next_28 : zD cX11_next 28 (.iconst 0) 1 29 := ⟨by decide +kernel, rfl⟩
theorem eX11_next_29 : zD cX11_next 29 (.istore 5) 2 31 := ⟨by decide +kernel, rfl⟩
theorem eX11_next_31 : zD cX11_next 31 (.iload 5) 2 33 := ⟨by decide +kernel, rfl⟩
theorem eX11_next_33 : zD cX11_next 33 (.aload_n 0) 1 34 := ⟨by decide +kernel, rfl⟩
theorem eX11_next_34 : zD cX11_next 34 (.getfield 42) 3 37 := ⟨by decide +kernel, rfl⟩
theorem eX11_next_37 : zD cX11_next 37 (.getfield 138) 3 40 := ⟨by decide +kernel, rfl⟩
theorem eX11_next_40 : zD cX11_next 40 (.if_icmp .ge 38) 3 43 := ⟨by decide +kernel, rfl⟩
theorem eX11_next_43 : zD cX11_next 43 (.aload_n 0) 1 44 := ⟨by decide +kernel, rfl⟩
theorem eX11_next_44 : zD cX11_next 44 (.iload 5) 2 46 := ⟨by decide +kernel, rfl⟩
theorem eX11_next_46 : zD cX11_next 46 (.iload_n 1) 1 47 := ⟨by decide +kernel, rfl⟩
theorem eX11_next_47 : zD cX11_next 47 (.invokevirtual 227) 3 50 := ⟨by decide +kernel, rfl⟩
theorem eX11_next_50 : zD cX11_next 50 (.istore 6) 2 52 := ⟨by decide +kernel, rfl⟩
theorem eX11_next_52 : zD cX11_next 52 (.iload_n 3) 1 53 := ⟨by decide +kernel, rfl⟩
theorem eX11_next_53 : zD cX11_next 53 (.bipush (-4)) 2 55 := ⟨by decide +kernel, rfl⟩
theorem eX11_next_55 : zD cX11_next 55 (.if_icmp .eq 10) 3 58 := ⟨by decide +kernel, rfl⟩
theorem eX11_next_58 : zD cX11_next 58 (.iload 6) 2 60 := ⟨by decide +kernel, rfl⟩
theorem eX11_next_60 : zD cX11_next 60 (.iload 4) 2 62 := ⟨by decide +kernel, rfl⟩
theorem eX11_next_62 : zD cX11_next 62 (.if_icmp .ge 10) 3 65 := ⟨by decide +kernel, rfl⟩
theorem eX11_next_65 : zD cX11_next 65 (.iload 5) 2 67 := ⟨by decide +kernel, rfl⟩
theorem eX11_next_67 : zD cX11_next 67 (.istore_n 3) 1 68 := ⟨by decide +kernel, rfl⟩
theorem eX11_next_68 : zD cX11_next 68 (.iload 6) 2 70 := ⟨by decide +kernel, rfl⟩
theorem eX11_next_70 : zD cX11_next 70 (.istore 4) 2 72 := ⟨by decide +kernel, rfl⟩
theorem eX11_next_72 : zD cX11_next 72 (.iinc 5 1) 3 75 := ⟨by decide +kernel, rfl⟩
theorem eX11_next_75 : zD cX11_next 75 (.goto (-44)) 3 78 := ⟨by decide +kernel, rfl⟩
theorem eX11_next_78 : zD cX11_next 78 (.iload_n 2) 1 79 := ⟨by decide +kernel, rfl⟩
theorem eX11_next_79 : zD cX11_next 79 (.ifCond .ne 7) 3 82 := ⟨by decide +kernel, rfl⟩
theorem eX11_next_82 : zD cX11_next 82 (.iload_n 3) 1 83 := ⟨by decide +kernel, rfl⟩
theorem eX11_next_83 : zD cX11_next 83 (.goto 5) 3 86 := ⟨by decide +kernel, rfl⟩
theorem eX11_next_86 : zD cX11_next 86 (.iload 4) 2 88 := ⟨by decide +kernel, rfl⟩
theorem eX11_next_88 : zD cX11_next 88 (.ireturn) 1 89 := ⟨by decide +kernel, rfl⟩
theorem eX11_from_0 : zD cX11_from 0 (.aload_n 0) 1 1 := ⟨by decide +kernel, rfl⟩
theorem eX11_from_1 : zD cX11_from 1 (.iload_n 1) 1 2 := ⟨by decide +kernel, rfl⟩
theorem eX11_from_2 : zD cX11_from 2 (.invokevirtual 154) 3 5 := ⟨by decide +kernel, rfl⟩
theorem eX11_from_5 : zD cX11_from 5 (.ifCond .eq 32) 3 8 := ⟨by decide +kernel, rfl⟩
theorem eX11_from_8 : zD cX11_from 8 (.aload_n 0) 1 9 := ⟨by decide +kernel, rfl⟩
theorem eX11_from_9 : zD cX11_from 9 (.iload_n 2) 1 10 := ⟨by decide +kernel, rfl⟩
theorem eX11_from_10 : zD cX11_from 10 (.invokevirtual 154) 3 13 := ⟨by decide +kernel, rfl⟩
theorem eX11_from_13 : zD cX11_from 13 (.ifCond .eq 24) 3 16 := ⟨by decide +kernel, rfl⟩
theorem eX11_from_16 : zD cX11_from 16 (.iload_n 1) 1 17 := ⟨by decide +kernel, rfl⟩
theorem eX11_from_17 : zD cX11_from 17 (.iload_n 2) 1 18 := ⟨by decide +kernel, rfl⟩
theorem eX11_from_18 : zD cX11_from 18 (.iand) 1 19 := ⟨by decide +kernel, rfl⟩
theorem eX11_from_19 : zD cX11_from 19 (.ifCond .ne 18) 3 22 := ⟨by decide +kernel, rfl⟩
theorem eX11_from_22 : zD cX11_from 22 (.iload_n 3) 1 23 := ⟨by decide +kernel, rfl⟩
theorem eX11_from_23 : zD cX11_from 23 (.invokestatic 120) 3 26 := ⟨by decide +kernel, rfl⟩
theorem eX11_from_26 : zD cX11_from 26 (.ifCond .eq 11) 3 29 := ⟨by decide +kernel, rfl⟩
theorem eX11_from_29 : zD cX11_from 29 (.iload 4) 2 31 := ⟨by decide +kernel, rfl⟩
theorem eX11_from_31 : zD cX11_from 31 (.invokestatic 120) 3 34 := ⟨by decide +kernel, rfl⟩
theorem eX11_from_34 : zD cX11_from 34 (.ifCond .ne 5) 3 37 := ⟨by decide +kernel, rfl⟩
theorem eX11_from_37 : zD cX11_from 37 (.iconst (-1)) 1 38 := ⟨by decide +kernel, rfl⟩
theorem eX11_from_38 : zD cX11_from 38 (.ireturn) 1 39 := ⟨by decide +kernel, rfl⟩
theorem eX11_from_39 : zD cX11_from 39 (.aload_n 0) 1 40 := ⟨by decide +kernel, rfl⟩
theorem eX11_from_40 : zD cX11_from 40 (.getfield 46) 3 43 := ⟨by decide +kernel, rfl⟩
theorem eX11_from_43 : zD cX11_from 43 (.aload_n 0) 1 44 := ⟨by decide +kernel, rfl⟩
theorem eX11_from_44 : zD cX11_from 44 (.getfield 42) 3 47 := ⟨by decide +kernel, rfl⟩
theorem eX11_from_47 : zD cX11_from 47 (.invokevirtual 192) 3 50 := ⟨by decide +kernel, rfl⟩
theorem eX11_from_50 : zD cX11_from 50 (.iconst 1) 1 51 := ⟨by decide +kernel, rfl⟩
theorem eX11_from_51 : zD cX11_from 51 (.aload_n 0) 1 52 := ⟨by decide +kernel, rfl⟩
theorem eX11_from_52 : zD cX11_from 52 (.getfield 46) 3 55 := ⟨by decide +kernel, rfl⟩
theorem eX11_from_55 : zD cX11_from 55 (.iload_n 3) 1 56 := ⟨by decide +kernel, rfl⟩
theorem eX11_from_56 : zD cX11_from 56 (.iload 4) 2 58 := ⟨by decide +kernel, rfl⟩
theorem eX11_from_58 : zD cX11_from 58 (.invokevirtual 195) 3 61 := ⟨by decide +kernel, rfl⟩
theorem eX11_from_61 : zD cX11_from 61 (.ishl) 1 62 := ⟨by decide +kernel, rfl⟩
theorem eX11_from_62 : zD cX11_from 62 (.istore 5) 2 64 := ⟨by decide +kernel, rfl⟩
theorem eX11_from_64 : zD cX11_from 64 (.iconst 0) 1 65 := ⟨by decide +kernel, rfl⟩
theorem eX11_from_65 : zD cX11_from 65 (.istore 6) 2 67 := ⟨by decide +kernel, rfl⟩
theorem eX11_from_67 : zD cX11_from 67 (.aload_n 0) 1 68 := ⟨by decide +kernel, rfl⟩
theorem eX11_from_68 : zD cX11_from 68 (.getfield 46) 3 71 := ⟨by decide +kernel, rfl⟩
theorem eX11_from_71 : zD cX11_from 71 (.iload_n 1) 1 72 := ⟨by decide +kernel, rfl⟩
theorem eX11_from_72 : zD cX11_from 72 (.iload 5) 2 74 := ⟨by decide +kernel, rfl⟩
theorem eX11_from_74 : zD cX11_from 74 (.ior) 1 75 := ⟨by decide +kernel, rfl⟩
theorem eX11_from_75 : zD cX11_from 75 (.invokevirtual 157) 3 78 := ⟨by decide +kernel, rfl⟩
theorem eX11_from_78 : zD cX11_from 78 (.ifCond .le 6) 3 81 := ⟨by decide +kernel, rfl⟩
theorem eX11_from_81 : zD cX11_from 81 (.iinc 6 1) 3 84 := ⟨by decide +kernel, rfl⟩
theorem eX11_from_84 : zD cX11_from 84 (.aload_n 0) 1 85 := ⟨by decide +kernel, rfl⟩
theorem eX11_from_85 : zD cX11_from 85 (.getfield 46) 3 88 := ⟨by decide +kernel, rfl⟩
theorem eX11_from_88 : zD cX11_from 88 (.iload_n 2) 1 89 := ⟨by decide +kernel, rfl⟩
theorem eX11_from_89 : zD cX11_from 89 (.iload 5) 2 91 := ⟨by decide +kernel, rfl⟩
theorem eX11_from_91 : zD cX11_from 91 (.ior) 1 92 := ⟨by decide +kernel, rfl⟩
theorem eX11_from_92 : zD cX11_from 92 (.invokevirtual 157) 3 95 := ⟨by decide +kernel, rfl⟩
theorem eX11_from_95 : zD cX11_from 95 (.ifCond .le 6) 3 98 := ⟨by decide +kernel, rfl⟩
theorem eX11_from_98 : zD cX11_from 98 (.iinc 6 2) 3 101 := ⟨by decide +kernel, rfl⟩
theorem eX11_from_101 : zD cX11_from 101 (.iload 6) 2 103 := ⟨by decide +kernel, rfl⟩
theorem eX11_from_103 : zD cX11_from 103 (.ireturn) 1 104 := ⟨by decide +kernel, rfl⟩
theorem eX11_breaks_0 : zD cX11_breaks 0 (.iload_n 1) 1 1 := ⟨by decide +kernel, rfl⟩
theorem eX11_breaks_1 : zD cX11_breaks 1 (.iconst 1) 1 2 := ⟨by decide +kernel, rfl⟩
theorem eX11_breaks_2 : zD cX11_breaks 2 (.bipush 40) 2 4 := ⟨by decide +kernel, rfl⟩
theorem eX11_breaks_4 : zD cX11_breaks 4 (.invokestatic 123) 3 7 := ⟨by decide +kernel, rfl⟩
theorem eX11_breaks_7 : zD cX11_breaks 7 (.ifCond .eq 12) 3 10 := ⟨by decide +kernel, rfl⟩
theorem eX11_breaks_10 : zD cX11_breaks 10 (.iload_n 3) 1 11 := ⟨by decide +kernel, rfl⟩
theorem eX11_breaks_11 : zD cX11_breaks 11 (.iconst 0) 1 12 := ⟨by decide +kernel, rfl⟩
theorem eX11_breaks_12 : zD cX11_breaks 12 (.iconst 1) 1 13 := ⟨by decide +kernel, rfl⟩
theorem eX11_breaks_13 : zD cX11_breaks 13 (.invokestatic 123) 3 16 := ⟨by decide +kernel, rfl⟩
theorem eX11_breaks_16 : zD cX11_breaks 16 (.ifCond .ne 5) 3 19 := ⟨by decide +kernel, rfl⟩
theorem eX11_breaks_19 : zD cX11_breaks 19 (.iconst (-1)) 1 20 := ⟨by decide +kernel, rfl⟩
theorem eX11_breaks_20 : zD cX11_breaks 20 (.ireturn) 1 21 := ⟨by decide +kernel, rfl⟩
theorem eX11_breaks_21 : zD cX11_breaks 21 (.aload_n 0) 1 22 := ⟨by decide +kernel, rfl⟩
theorem eX11_breaks_22 : zD cX11_breaks 22 (.getfield 42) 3 25 := ⟨by decide +kernel, rfl⟩
theorem eX11_breaks_25 : zD cX11_breaks 25 (.getfield 138) 3 28 := ⟨by decide +kernel, rfl⟩
theorem eX11_breaks_28 : zD cX11_breaks 28 (.ifCond .ne 6) 3 31 := ⟨by decide +kernel, rfl⟩
theorem eX11_breaks_31 : zD cX11_breaks 31 (.bipush (-3)) 2 33 := ⟨by decide +kernel, rfl⟩
theorem eX11_breaks_33 : zD cX11_breaks 33 (.ireturn) 1 34 := ⟨by decide +kernel, rfl⟩
theorem eX11_breaks_34 : zD cX11_breaks 34 (.aload_n 0) 1 35 := ⟨by decide +kernel, rfl⟩
theorem eX11_breaks_35 : zD cX11_breaks 35 (.iload_n 1) 1 36 := ⟨by decide +kernel, rfl⟩
theorem eX11_breaks_36 : zD cX11_breaks 36 (.iload_n 2) 1 37 := ⟨by decide +kernel, rfl⟩
theorem eX11_breaks_37 : zD cX11_breaks 37 (.invokevirtual 230) 3 40 := ⟨by decide +kernel, rfl⟩
theorem eX11_breaks_40 : zD cX11_breaks 40 (.istore 4) 2 42 := ⟨by decide +kernel, rfl⟩
theorem eX11_breaks_42 : zD cX11_breaks 42 (.iload_n 3) 1 43 := ⟨by decide +kernel, rfl⟩
theorem eX11_breaks_43 : zD cX11_breaks 43 (.ifCond .ne 9) 3 46 := ⟨by decide +kernel, rfl⟩
theorem eX11_breaks_46 : zD cX11_breaks 46 (.iload 4) 2 48 := ⟨by decide +kernel, rfl⟩
theorem eX11_breaks_48 : zD cX11_breaks 48 (.invokestatic 167) 3 51 := ⟨by decide +kernel, rfl⟩
theorem eX11_breaks_51 : zD cX11_breaks 51 (.ireturn) 1 52 := ⟨by decide +kernel, rfl⟩
theorem eX11_breaks_52 : zD cX11_breaks 52 (.aload_n 0) 1 53 := ⟨by decide +kernel, rfl⟩
theorem eX11_breaks_53 : zD cX11_breaks 53 (.getfield 55) 3 56 := ⟨by decide +kernel, rfl⟩
theorem eX11_breaks_56 : zD cX11_breaks 56 (.aload_n 0) 1 57 := ⟨by decide +kernel, rfl⟩
theorem eX11_breaks_57 : zD cX11_breaks 57 (.getfield 42) 3 60 := ⟨by decide +kernel, rfl⟩
theorem eX11_breaks_60 : zD cX11_breaks 60 (.invokevirtual 160) 3 63 := ⟨by decide +kernel, rfl⟩
theorem eX11_breaks_63 : zD cX11_breaks 63 (.aload_n 0) 1 64 := ⟨by decide +kernel, rfl⟩
theorem eX11_breaks_64 : zD cX11_breaks 64 (.getfield 55) 3 67 := ⟨by decide +kernel, rfl⟩
theorem eX11_breaks_67 : zD cX11_breaks 67 (.aload_n 0) 1 68 := ⟨by decide +kernel, rfl⟩
theorem eX11_breaks_68 : zD cX11_breaks 68 (.getfield 42) 3 71 := ⟨by decide +kernel, rfl⟩
theorem eX11_breaks_71 : zD cX11_breaks 71 (.invokevirtual 233) 3 74 := ⟨by decide +kernel, rfl⟩
theorem eX11_breaks_74 : zD cX11_breaks 74 (.iload 4) 2 76 := ⟨by decide +kernel, rfl⟩
theorem eX11_breaks_76 : zD cX11_breaks 76 (.iconst (-1)) 1 77 := ⟨by decide +kernel, rfl⟩
theorem eX11_breaks_77 : zD cX11_breaks 77 (.ixor) 1 78 := ⟨by decide +kernel, rfl⟩
theorem eX11_breaks_78 : zD cX11_breaks 78 (.iand) 1 79 := ⟨by decide +kernel, rfl⟩
theorem eX11_breaks_79 : zD cX11_breaks 79 (.invokevirtual 164) 3 82 := ⟨by decide +kernel, rfl⟩
theorem eX11_breaks_82 : zD cX11_breaks 82 (.invokestatic 167) 3 85 := ⟨by decide +kernel, rfl⟩
theorem eX11_breaks_85 : zD cX11_breaks 85 (.ireturn) 1 86 := ⟨by decide +kernel, rfl⟩
theorem eX11_image_0 : zD cX11_image 0 (.aload_n 0) 1 1 := ⟨by decide +kernel, rfl⟩
theorem eX11_image_1 : zD cX11_image 1 (.getfield 49) 3 4 := ⟨by decide +kernel, rfl⟩
theorem eX11_image_4 : zD cX11_image 4 (.aload_n 0) 1 5 := ⟨by decide +kernel, rfl⟩
theorem eX11_image_5 : zD cX11_image 5 (.getfield 42) 3 8 := ⟨by decide +kernel, rfl⟩
theorem eX11_image_8 : zD cX11_image 8 (.invokevirtual 192) 3 11 := ⟨by decide +kernel, rfl⟩
theorem eX11_image_11 : zD cX11_image 11 (.aload_n 0) 1 12 := ⟨by decide +kernel, rfl⟩
theorem eX11_image_12 : zD cX11_image 12 (.iconst 1) 1 13 := ⟨by decide +kernel, rfl⟩
theorem eX11_image_13 : zD cX11_image 13 (.putfield 66) 3 16 := ⟨by decide +kernel, rfl⟩
theorem eX11_image_16 : zD cX11_image 16 (.aload_n 0) 1 17 := ⟨by decide +kernel, rfl⟩
theorem eX11_image_17 : zD cX11_image 17 (.getfield 42) 3 20 := ⟨by decide +kernel, rfl⟩
theorem eX11_image_20 : zD cX11_image 20 (.getfield 138) 3 23 := ⟨by decide +kernel, rfl⟩
theorem eX11_image_23 : zD cX11_image 23 (.ireturn) 1 24 := ⟨by decide +kernel, rfl⟩
theorem eX11_restore_0 : zD cX11_restore 0 (.aload_n 0) 1 1 := ⟨by decide +kernel, rfl⟩
theorem eX11_restore_1 : zD cX11_restore 1 (.getfield 66) 3 4 := ⟨by decide +kernel, rfl⟩
theorem eX11_restore_4 : zD cX11_restore 4 (.ifCond .ne 6) 3 7 := ⟨by decide +kernel, rfl⟩
theorem eX11_restore_7 : zD cX11_restore 7 (.bipush (-3)) 2 9 := ⟨by decide +kernel, rfl⟩
theorem eX11_restore_9 : zD cX11_restore 9 (.ireturn) 1 10 := ⟨by decide +kernel, rfl⟩
theorem eX11_restore_10 : zD cX11_restore 10 (.aload_n 0) 1 11 := ⟨by decide +kernel, rfl⟩
theorem eX11_restore_11 : zD cX11_restore 11 (.getfield 42) 3 14 := ⟨by decide +kernel, rfl⟩
theorem eX11_restore_14 : zD cX11_restore 14 (.aload_n 0) 1 15 := ⟨by decide +kernel, rfl⟩
theorem eX11_restore_15 : zD cX11_restore 15 (.getfield 49) 3 18 := ⟨by decide +kernel, rfl⟩
theorem eX11_restore_18 : zD cX11_restore 18 (.invokevirtual 192) 3 21 := ⟨by decide +kernel, rfl⟩
theorem eX11_restore_21 : zD cX11_restore 21 (.aload_n 0) 1 22 := ⟨by decide +kernel, rfl⟩
theorem eX11_restore_22 : zD cX11_restore 22 (.getfield 42) 3 25 := ⟨by decide +kernel, rfl⟩
theorem eX11_restore_25 : zD cX11_restore 25 (.getfield 138) 3 28 := ⟨by decide +kernel, rfl⟩
theorem eX11_restore_28 : zD cX11_restore 28 (.ireturn) 1 29 := ⟨by decide +kernel, rfl⟩
theorem eX11_count_0 : zD cX11_count 0 (.iload_n 1) 1 1 := ⟨by decide +kernel, rfl⟩
theorem eX11_count_1 : zD cX11_count 1 (.tableswitch 63 0 3 #[31, 39, 47, 55]) 31 32 := ⟨by decide +kernel, rfl⟩
theorem eX11_count_32 : zD cX11_count 32 (.aload_n 0) 1 33 := ⟨by decide +kernel, rfl⟩
theorem eX11_count_33 : zD cX11_count 33 (.getfield 42) 3 36 := ⟨by decide +kernel, rfl⟩
theorem eX11_count_36 : zD cX11_count 36 (.getfield 138) 3 39 := ⟨by decide +kernel, rfl⟩
theorem eX11_count_39 : zD cX11_count 39 (.ireturn) 1 40 := ⟨by decide +kernel, rfl⟩
theorem eX11_count_40 : zD cX11_count 40 (.aload_n 0) 1 41 := ⟨by decide +kernel, rfl⟩
theorem eX11_count_41 : zD cX11_count 41 (.getfield 42) 3 44 := ⟨by decide +kernel, rfl⟩
theorem eX11_count_44 : zD cX11_count 44 (.getfield 106) 3 47 := ⟨by decide +kernel, rfl⟩
theorem eX11_count_47 : zD cX11_count 47 (.ireturn) 1 48 := ⟨by decide +kernel, rfl⟩
theorem eX11_count_48 : zD cX11_count 48 (.aload_n 0) 1 49 := ⟨by decide +kernel, rfl⟩
theorem eX11_count_49 : zD cX11_count 49 (.getfield 42) 3 52 := ⟨by decide +kernel, rfl⟩
theorem eX11_count_52 : zD cX11_count 52 (.invokevirtual 236) 3 55 := ⟨by decide +kernel, rfl⟩
theorem eX11_count_55 : zD cX11_count 55 (.ireturn) 1 56 := ⟨by decide +kernel, rfl⟩
theorem eX11_count_56 : zD cX11_count 56 (.aload_n 0) 1 57 := ⟨by decide +kernel, rfl⟩
theorem eX11_count_57 : zD cX11_count 57 (.getfield 42) 3 60 := ⟨by decide +kernel, rfl⟩
theorem eX11_count_60 : zD cX11_count 60 (.invokevirtual 239) 3 63 := ⟨by decide +kernel, rfl⟩
theorem eX11_count_63 : zD cX11_count 63 (.ireturn) 1 64 := ⟨by decide +kernel, rfl⟩
theorem eX11_count_64 : zD cX11_count 64 (.iconst (-1)) 1 65 := ⟨by decide +kernel, rfl⟩
theorem eX11_count_65 : zD cX11_count 65 (.ireturn) 1 66 := ⟨by decide +kernel, rfl⟩
theorem eX11_keep_0 : zD cX11_keep 0 (.iload_n 1) 1 1 := ⟨by decide +kernel, rfl⟩
theorem eX11_keep_1 : zD cX11_keep 1 (.invokestatic 117) 3 4 := ⟨by decide +kernel, rfl⟩
theorem eX11_keep_4 : zD cX11_keep 4 (.ifCond .eq 12) 3 7 := ⟨by decide +kernel, rfl⟩
theorem eX11_keep_7 : zD cX11_keep 7 (.iload_n 2) 1 8 := ⟨by decide +kernel, rfl⟩
theorem eX11_keep_8 : zD cX11_keep 8 (.iconst 0) 1 9 := ⟨by decide +kernel, rfl⟩
theorem eX11_keep_9 : zD cX11_keep 9 (.iconst 1) 1 10 := ⟨by decide +kernel, rfl⟩
theorem eX11_keep_10 : zD cX11_keep 10 (.invokestatic 123) 3 13 := ⟨by decide +kernel, rfl⟩
theorem eX11_keep_13 : zD cX11_keep 13 (.ifCond .ne 5) 3 16 := ⟨by decide +kernel, rfl⟩
theorem eX11_keep_16 : zD cX11_keep 16 (.iconst (-1)) 1 17 := ⟨by decide +kernel, rfl⟩
theorem eX11_keep_17 : zD cX11_keep 17 (.ireturn) 1 18 := ⟨by decide +kernel, rfl⟩
theorem eX11_keep_18 : zD cX11_keep 18 (.iload_n 2) 1 19 := ⟨by decide +kernel, rfl⟩
theorem eX11_keep_19 : zD cX11_keep 19 (.ifCond .ne 14) 3 22 := ⟨by decide +kernel, rfl⟩
theorem eX11_keep_22 : zD cX11_keep 22 (.aload_n 0) 1 23 := ⟨by decide +kernel, rfl⟩
theorem eX11_keep_23 : zD cX11_keep 23 (.getfield 61) 3 26 := ⟨by decide +kernel, rfl⟩
theorem eX11_keep_26 : zD cX11_keep 26 (.iload_n 1) 1 27 := ⟨by decide +kernel, rfl⟩
theorem eX11_keep_27 : zD cX11_keep 27 (.aaload) 1 28 := ⟨by decide +kernel, rfl⟩
theorem eX11_keep_28 : zD cX11_keep 28 (.invokevirtual 242) 3 31 := ⟨by decide +kernel, rfl⟩
theorem eX11_keep_31 : zD cX11_keep 31 (.iconst 0) 1 32 := ⟨by decide +kernel, rfl⟩
theorem eX11_keep_32 : zD cX11_keep 32 (.ireturn) 1 33 := ⟨by decide +kernel, rfl⟩
theorem eX11_keep_33 : zD cX11_keep 33 (.iload_n 3) 1 34 := ⟨by decide +kernel, rfl⟩
theorem eX11_keep_34 : zD cX11_keep 34 (.iconst 0) 1 35 := ⟨by decide +kernel, rfl⟩
theorem eX11_keep_35 : zD cX11_keep 35 (.bipush 7) 2 37 := ⟨by decide +kernel, rfl⟩
theorem eX11_keep_37 : zD cX11_keep 37 (.invokestatic 123) 3 40 := ⟨by decide +kernel, rfl⟩
theorem eX11_keep_40 : zD cX11_keep 40 (.ifCond .eq 14) 3 43 := ⟨by decide +kernel, rfl⟩
theorem eX11_keep_43 : zD cX11_keep 43 (.iload 4) 2 45 := ⟨by decide +kernel, rfl⟩
theorem eX11_keep_45 : zD cX11_keep 45 (.iconst 0) 1 46 := ⟨by decide +kernel, rfl⟩
theorem eX11_keep_46 : zD cX11_keep 46 (.bipush 9) 2 48 := ⟨by decide +kernel, rfl⟩
theorem eX11_keep_48 : zD cX11_keep 48 (.invokestatic 123) 3 51 := ⟨by decide +kernel, rfl⟩
theorem eX11_keep_51 : zD cX11_keep 51 (.ifCond .ne 5) 3 54 := ⟨by decide +kernel, rfl⟩
theorem eX11_keep_54 : zD cX11_keep 54 (.iconst (-1)) 1 55 := ⟨by decide +kernel, rfl⟩
theorem eX11_keep_55 : zD cX11_keep 55 (.ireturn) 1 56 := ⟨by decide +kernel, rfl⟩
theorem eX11_keep_56 : zD cX11_keep 56 (.aload_n 0) 1 57 := ⟨by decide +kernel, rfl⟩
theorem eX11_keep_57 : zD cX11_keep 57 (.getfield 61) 3 60 := ⟨by decide +kernel, rfl⟩
theorem eX11_keep_60 : zD cX11_keep 60 (.iload_n 1) 1 61 := ⟨by decide +kernel, rfl⟩
theorem eX11_keep_61 : zD cX11_keep 61 (.aaload) 1 62 := ⟨by decide +kernel, rfl⟩
theorem eX11_keep_62 : zD cX11_keep 62 (.iload_n 3) 1 63 := ⟨by decide +kernel, rfl⟩
theorem eX11_keep_63 : zD cX11_keep 63 (.iload 4) 2 65 := ⟨by decide +kernel, rfl⟩
theorem eX11_keep_65 : zD cX11_keep 65 (.invokevirtual 245) 3 68 := ⟨by decide +kernel, rfl⟩
theorem eX11_keep_68 : zD cX11_keep 68 (.iconst 0) 1 69 := ⟨by decide +kernel, rfl⟩
theorem eX11_keep_69 : zD cX11_keep 69 (.ireturn) 1 70 := ⟨by decide +kernel, rfl⟩
theorem eX11_row_0 : zD cX11_row 0 (.iload_n 1) 1 1 := ⟨by decide +kernel, rfl⟩
theorem eX11_row_1 : zD cX11_row 1 (.invokestatic 117) 3 4 := ⟨by decide +kernel, rfl⟩
theorem eX11_row_4 : zD cX11_row 4 (.ifCond .eq 18) 3 7 := ⟨by decide +kernel, rfl⟩
theorem eX11_row_7 : zD cX11_row 7 (.iload_n 2) 1 8 := ⟨by decide +kernel, rfl⟩
theorem eX11_row_8 : zD cX11_row 8 (.iconst 0) 1 9 := ⟨by decide +kernel, rfl⟩
theorem eX11_row_9 : zD cX11_row 9 (.iconst 2) 1 10 := ⟨by decide +kernel, rfl⟩
theorem eX11_row_10 : zD cX11_row 10 (.invokestatic 123) 3 13 := ⟨by decide +kernel, rfl⟩
theorem eX11_row_13 : zD cX11_row 13 (.ifCond .eq 9) 3 16 := ⟨by decide +kernel, rfl⟩
theorem eX11_row_16 : zD cX11_row 16 (.iload_n 3) 1 17 := ⟨by decide +kernel, rfl⟩
theorem eX11_row_17 : zD cX11_row 17 (.bipush 100) 2 19 := ⟨by decide +kernel, rfl⟩
theorem eX11_row_19 : zD cX11_row 19 (.if_icmp .le 5) 3 22 := ⟨by decide +kernel, rfl⟩
theorem eX11_row_22 : zD cX11_row 22 (.iconst (-1)) 1 23 := ⟨by decide +kernel, rfl⟩
theorem eX11_row_23 : zD cX11_row 23 (.ireturn) 1 24 := ⟨by decide +kernel, rfl⟩
theorem eX11_row_24 : zD cX11_row 24 (.iload_n 3) 1 25 := ⟨by decide +kernel, rfl⟩
theorem eX11_row_25 : zD cX11_row 25 (.ifCond .ge 6) 3 28 := ⟨by decide +kernel, rfl⟩
theorem eX11_row_28 : zD cX11_row 28 (.bipush (-14)) 2 30 := ⟨by decide +kernel, rfl⟩
theorem eX11_row_30 : zD cX11_row 30 (.ireturn) 1 31 := ⟨by decide +kernel, rfl⟩
theorem eX11_row_31 : zD cX11_row 31 (.aload_n 0) 1 32 := ⟨by decide +kernel, rfl⟩
theorem eX11_row_32 : zD cX11_row 32 (.getfield 61) 3 35 := ⟨by decide +kernel, rfl⟩
theorem eX11_row_35 : zD cX11_row 35 (.iload_n 1) 1 36 := ⟨by decide +kernel, rfl⟩
theorem eX11_row_36 : zD cX11_row 36 (.aaload) 1 37 := ⟨by decide +kernel, rfl⟩
theorem eX11_row_37 : zD cX11_row 37 (.iload_n 2) 1 38 := ⟨by decide +kernel, rfl⟩
theorem eX11_row_38 : zD cX11_row 38 (.iload_n 3) 1 39 := ⟨by decide +kernel, rfl⟩
theorem eX11_row_39 : zD cX11_row 39 (.invokevirtual 249) 3 42 := ⟨by decide +kernel, rfl⟩
theorem eX11_row_42 : zD cX11_row 42 (.iconst 0) 1 43 := ⟨by decide +kernel, rfl⟩
theorem eX11_row_43 : zD cX11_row 43 (.ireturn) 1 44 := ⟨by decide +kernel, rfl⟩
theorem eX11_put_0 : zD cX11_put 0 (.aload_n 0) 1 1 := ⟨by decide +kernel, rfl⟩
theorem eX11_put_1 : zD cX11_put 1 (.iload_n 1) 1 2 := ⟨by decide +kernel, rfl⟩
theorem eX11_put_2 : zD cX11_put 2 (.invokevirtual 220) 3 5 := ⟨by decide +kernel, rfl⟩
theorem eX11_put_5 : zD cX11_put 5 (.istore 4) 2 7 := ⟨by decide +kernel, rfl⟩
theorem eX11_put_7 : zD cX11_put 7 (.iload 4) 2 9 := ⟨by decide +kernel, rfl⟩
theorem eX11_put_9 : zD cX11_put 9 (.ifCond .eq 6) 3 12 := ⟨by decide +kernel, rfl⟩
theorem eX11_put_12 : zD cX11_put 12 (.iload 4) 2 14 := ⟨by decide +kernel, rfl⟩
theorem eX11_put_14 : zD cX11_put 14 (.ireturn) 1 15 := ⟨by decide +kernel, rfl⟩
theorem eX11_put_15 : zD cX11_put 15 (.aload_n 0) 1 16 := ⟨by decide +kernel, rfl⟩
theorem eX11_put_16 : zD cX11_put 16 (.getfield 61) 3 19 := ⟨by decide +kernel, rfl⟩
theorem eX11_put_19 : zD cX11_put 19 (.iload_n 1) 1 20 := ⟨by decide +kernel, rfl⟩
theorem eX11_put_20 : zD cX11_put 20 (.aaload) 1 21 := ⟨by decide +kernel, rfl⟩
theorem eX11_put_21 : zD cX11_put 21 (.iload_n 2) 1 22 := ⟨by decide +kernel, rfl⟩
theorem eX11_put_22 : zD cX11_put 22 (.invokevirtual 252) 3 25 := ⟨by decide +kernel, rfl⟩
theorem eX11_put_25 : zD cX11_put 25 (.ifCond .ne 6) 3 28 := ⟨by decide +kernel, rfl⟩
theorem eX11_put_28 : zD cX11_put 28 (.bipush (-13)) 2 30 := ⟨by decide +kernel, rfl⟩
theorem eX11_put_30 : zD cX11_put 30 (.ireturn) 1 31 := ⟨by decide +kernel, rfl⟩
theorem eX11_put_31 : zD cX11_put 31 (.aload_n 0) 1 32 := ⟨by decide +kernel, rfl⟩
theorem eX11_put_32 : zD cX11_put 32 (.getfield 61) 3 35 := ⟨by decide +kernel, rfl⟩
theorem eX11_put_35 : zD cX11_put 35 (.iload_n 1) 1 36 := ⟨by decide +kernel, rfl⟩
theorem eX11_put_36 : zD cX11_put 36 (.aaload) 1 37 := ⟨by decide +kernel, rfl⟩
theorem eX11_put_37 : zD cX11_put 37 (.iload_n 2) 1 38 := ⟨by decide +kernel, rfl⟩
theorem eX11_put_38 : zD cX11_put 38 (.iload_n 3) 1 39 := ⟨by decide +kernel, rfl⟩
theorem eX11_put_39 : zD cX11_put 39 (.invokevirtual 255) 3 42 := ⟨by decide +kernel, rfl⟩
theorem eX11_put_42 : zD cX11_put 42 (.iconst 0) 1 43 := ⟨by decide +kernel, rfl⟩
theorem eX11_put_43 : zD cX11_put 43 (.ireturn) 1 44 := ⟨by decide +kernel, rfl⟩
theorem eX11_element_0 : zD cX11_element 0 (.iload_n 1) 1 1 := ⟨by decide +kernel, rfl⟩
theorem eX11_element_1 : zD cX11_element 1 (.invokestatic 117) 3 4 := ⟨by decide +kernel, rfl⟩
theorem eX11_element_4 : zD cX11_element 4 (.ifCond .ne 14) 3 7 := ⟨by decide +kernel, rfl⟩
theorem eX11_element_7 : zD cX11_element 7 (.new 258) 3 10 := ⟨by decide +kernel, rfl⟩
theorem eX11_element_10 : zD cX11_element 10 (.dup) 1 11 := ⟨by decide +kernel, rfl⟩
theorem eX11_element_11 : zD cX11_element 11 (.ldc_w 260) 3 14 := ⟨by decide +kernel, rfl⟩
theorem eX11_element_14 : zD cX11_element 14 (.invokespecial 262) 3 17 := ⟨by decide +kernel, rfl⟩
theorem eX11_element_17 : zD cX11_element 17 (.athrow) 1 18 := ⟨by decide +kernel, rfl⟩
theorem eX11_element_18 : zD cX11_element 18 (.aload_n 0) 1 19 := ⟨by decide +kernel, rfl⟩
theorem eX11_element_19 : zD cX11_element 19 (.getfield 61) 3 22 := ⟨by decide +kernel, rfl⟩
theorem eX11_element_22 : zD cX11_element 22 (.iload_n 1) 1 23 := ⟨by decide +kernel, rfl⟩
theorem eX11_element_23 : zD cX11_element 23 (.aaload) 1 24 := ⟨by decide +kernel, rfl⟩
theorem eX11_element_24 : zD cX11_element 24 (.getfield 265) 3 27 := ⟨by decide +kernel, rfl⟩
theorem eX11_element_27 : zD cX11_element 27 (.iconst 2) 1 28 := ⟨by decide +kernel, rfl⟩
theorem eX11_element_28 : zD cX11_element 28 (.if_icmp .ne 16) 3 31 := ⟨by decide +kernel, rfl⟩
theorem eX11_element_31 : zD cX11_element 31 (.aload_n 0) 1 32 := ⟨by decide +kernel, rfl⟩
theorem eX11_element_32 : zD cX11_element 32 (.getfield 61) 3 35 := ⟨by decide +kernel, rfl⟩
theorem eX11_element_35 : zD cX11_element 35 (.iload_n 1) 1 36 := ⟨by decide +kernel, rfl⟩
theorem eX11_element_36 : zD cX11_element 36 (.aaload) 1 37 := ⟨by decide +kernel, rfl⟩
theorem eX11_element_37 : zD cX11_element 37 (.iload_n 2) 1 38 := ⟨by decide +kernel, rfl⟩
theorem eX11_element_38 : zD cX11_element 38 (.invokevirtual 252) 3 41 := ⟨by decide +kernel, rfl⟩
theorem eX11_element_41 : zD cX11_element 41 (.ifCond .ne 14) 3 44 := ⟨by decide +kernel, rfl⟩
theorem eX11_element_44 : zD cX11_element 44 (.new 268) 3 47 := ⟨by decide +kernel, rfl⟩
theorem eX11_element_47 : zD cX11_element 47 (.dup) 1 48 := ⟨by decide +kernel, rfl⟩
theorem eX11_element_48 : zD cX11_element 48 (.ldc_w 270) 3 51 := ⟨by decide +kernel, rfl⟩
theorem eX11_element_51 : zD cX11_element 51 (.invokespecial 272) 3 54 := ⟨by decide +kernel, rfl⟩
theorem eX11_element_54 : zD cX11_element 54 (.athrow) 1 55 := ⟨by decide +kernel, rfl⟩
theorem eX11_element_55 : zD cX11_element 55 (.aload_n 0) 1 56 := ⟨by decide +kernel, rfl⟩
theorem eX11_element_56 : zD cX11_element 56 (.getfield 61) 3 59 := ⟨by decide +kernel, rfl⟩
theorem eX11_element_59 : zD cX11_element 59 (.iload_n 1) 1 60 := ⟨by decide +kernel, rfl⟩
theorem eX11_element_60 : zD cX11_element 60 (.aaload) 1 61 := ⟨by decide +kernel, rfl⟩
theorem eX11_element_61 : zD cX11_element 61 (.iload_n 2) 1 62 := ⟨by decide +kernel, rfl⟩
theorem eX11_element_62 : zD cX11_element 62 (.invokevirtual 217) 3 65 := ⟨by decide +kernel, rfl⟩
theorem eX11_element_65 : zD cX11_element 65 (.i2l) 1 66 := ⟨by decide +kernel, rfl⟩
theorem eX11_element_66 : zD cX11_element 66 (.lreturn) 1 67 := ⟨by decide +kernel, rfl⟩
theorem eX11_copy_0 : zD cX11_copy 0 (.iload_n 1) 1 1 := ⟨by decide +kernel, rfl⟩
theorem eX11_copy_1 : zD cX11_copy 1 (.invokestatic 117) 3 4 := ⟨by decide +kernel, rfl⟩
theorem eX11_copy_4 : zD cX11_copy 4 (.ifCond .eq 10) 3 7 := ⟨by decide +kernel, rfl⟩
theorem eX11_copy_7 : zD cX11_copy 7 (.iload_n 3) 1 8 := ⟨by decide +kernel, rfl⟩
theorem eX11_copy_8 : zD cX11_copy 8 (.invokestatic 117) 3 11 := ⟨by decide +kernel, rfl⟩
theorem eX11_copy_11 : zD cX11_copy 11 (.ifCond .ne 5) 3 14 := ⟨by decide +kernel, rfl⟩
theorem eX11_copy_14 : zD cX11_copy 14 (.iconst (-1)) 1 15 := ⟨by decide +kernel, rfl⟩
theorem eX11_copy_15 : zD cX11_copy 15 (.ireturn) 1 16 := ⟨by decide +kernel, rfl⟩
theorem eX11_copy_16 : zD cX11_copy 16 (.aload_n 0) 1 17 := ⟨by decide +kernel, rfl⟩
theorem eX11_copy_17 : zD cX11_copy 17 (.getfield 61) 3 20 := ⟨by decide +kernel, rfl⟩
theorem eX11_copy_20 : zD cX11_copy 20 (.iload_n 1) 1 21 := ⟨by decide +kernel, rfl⟩
theorem eX11_copy_21 : zD cX11_copy 21 (.aaload) 1 22 := ⟨by decide +kernel, rfl⟩
theorem eX11_copy_22 : zD cX11_copy 22 (.astore 6) 2 24 := ⟨by decide +kernel, rfl⟩
theorem eX11_copy_24 : zD cX11_copy 24 (.aload_n 0) 1 25 := ⟨by decide +kernel, rfl⟩
theorem eX11_copy_25 : zD cX11_copy 25 (.getfield 61) 3 28 := ⟨by decide +kernel, rfl⟩
theorem eX11_copy_28 : zD cX11_copy 28 (.iload_n 3) 1 29 := ⟨by decide +kernel, rfl⟩
theorem eX11_copy_29 : zD cX11_copy 29 (.aaload) 1 30 := ⟨by decide +kernel, rfl⟩
theorem eX11_copy_30 : zD cX11_copy 30 (.astore 7) 2 32 := ⟨by decide +kernel, rfl⟩
theorem eX11_copy_32 : zD cX11_copy 32 (.aload 6) 2 34 := ⟨by decide +kernel, rfl⟩
theorem eX11_copy_34 : zD cX11_copy 34 (.getfield 265) 3 37 := ⟨by decide +kernel, rfl⟩
theorem eX11_copy_37 : zD cX11_copy 37 (.ifCond .eq 11) 3 40 := ⟨by decide +kernel, rfl⟩
theorem eX11_copy_40 : zD cX11_copy 40 (.aload 7) 2 42 := ⟨by decide +kernel, rfl⟩
theorem eX11_copy_42 : zD cX11_copy 42 (.getfield 265) 3 45 := ⟨by decide +kernel, rfl⟩
theorem eX11_copy_45 : zD cX11_copy 45 (.ifCond .ne 6) 3 48 := ⟨by decide +kernel, rfl⟩
theorem eX11_copy_48 : zD cX11_copy 48 (.bipush (-11)) 2 50 := ⟨by decide +kernel, rfl⟩
theorem eX11_copy_50 : zD cX11_copy 50 (.ireturn) 1 51 := ⟨by decide +kernel, rfl⟩
theorem eX11_copy_51 : zD cX11_copy 51 (.aload 6) 2 53 := ⟨by decide +kernel, rfl⟩
theorem eX11_copy_53 : zD cX11_copy 53 (.getfield 265) 3 56 := ⟨by decide +kernel, rfl⟩
theorem eX11_copy_56 : zD cX11_copy 56 (.iconst 2) 1 57 := ⟨by decide +kernel, rfl⟩
theorem eX11_copy_57 : zD cX11_copy 57 (.if_icmp .ne 25) 3 60 := ⟨by decide +kernel, rfl⟩
theorem eX11_copy_60 : zD cX11_copy 60 (.aload 7) 2 62 := ⟨by decide +kernel, rfl⟩
theorem eX11_copy_62 : zD cX11_copy 62 (.getfield 265) 3 65 := ⟨by decide +kernel, rfl⟩
theorem eX11_copy_65 : zD cX11_copy 65 (.iconst 2) 1 66 := ⟨by decide +kernel, rfl⟩
theorem eX11_copy_66 : zD cX11_copy 66 (.if_icmp .ne 16) 3 69 := ⟨by decide +kernel, rfl⟩
theorem eX11_copy_69 : zD cX11_copy 69 (.aload 6) 2 71 := ⟨by decide +kernel, rfl⟩
theorem eX11_copy_71 : zD cX11_copy 71 (.getfield 273) 3 74 := ⟨by decide +kernel, rfl⟩
theorem eX11_copy_74 : zD cX11_copy 74 (.aload 7) 2 76 := ⟨by decide +kernel, rfl⟩
theorem eX11_copy_76 : zD cX11_copy 76 (.getfield 273) 3 79 := ⟨by decide +kernel, rfl⟩
theorem eX11_copy_79 : zD cX11_copy 79 (.if_icmp .eq 6) 3 82 := ⟨by decide +kernel, rfl⟩
theorem eX11_copy_82 : zD cX11_copy 82 (.bipush (-12)) 2 84 := ⟨by decide +kernel, rfl⟩
theorem eX11_copy_84 : zD cX11_copy 84 (.ireturn) 1 85 := ⟨by decide +kernel, rfl⟩
theorem eX11_copy_85 : zD cX11_copy 85 (.aload 6) 2 87 := ⟨by decide +kernel, rfl⟩
theorem eX11_copy_87 : zD cX11_copy 87 (.iload_n 2) 1 88 := ⟨by decide +kernel, rfl⟩
theorem eX11_copy_88 : zD cX11_copy 88 (.iload 5) 2 90 := ⟨by decide +kernel, rfl⟩
theorem eX11_copy_90 : zD cX11_copy 90 (.invokevirtual 276) 3 93 := ⟨by decide +kernel, rfl⟩
theorem eX11_copy_93 : zD cX11_copy 93 (.ifCond .eq 15) 3 96 := ⟨by decide +kernel, rfl⟩
theorem eX11_copy_96 : zD cX11_copy 96 (.aload 7) 2 98 := ⟨by decide +kernel, rfl⟩
theorem eX11_copy_98 : zD cX11_copy 98 (.iload 4) 2 100 := ⟨by decide +kernel, rfl⟩
theorem eX11_copy_100 : zD cX11_copy 100 (.iload 5) 2 102 := ⟨by decide +kernel, rfl⟩
theorem eX11_copy_102 : zD cX11_copy 102 (.invokevirtual 276) 3 105 := ⟨by decide +kernel, rfl⟩
theorem eX11_copy_105 : zD cX11_copy 105 (.ifCond .ne 6) 3 108 := ⟨by decide +kernel, rfl⟩
theorem eX11_copy_108 : zD cX11_copy 108 (.bipush (-13)) 2 110 := ⟨by decide +kernel, rfl⟩
theorem eX11_copy_110 : zD cX11_copy 110 (.ireturn) 1 111 := ⟨by decide +kernel, rfl⟩
theorem eX11_copy_111 : zD cX11_copy 111 (.aload 6) 2 113 := ⟨by decide +kernel, rfl⟩
theorem eX11_copy_113 : zD cX11_copy 113 (.getfield 279) 3 116 := ⟨by decide +kernel, rfl⟩
theorem eX11_copy_116 : zD cX11_copy 116 (.iload_n 2) 1 117 := ⟨by decide +kernel, rfl⟩
theorem eX11_copy_117 : zD cX11_copy 117 (.aload 7) 2 119 := ⟨by decide +kernel, rfl⟩
theorem eX11_copy_119 : zD cX11_copy 119 (.getfield 279) 3 122 := ⟨by decide +kernel, rfl⟩
theorem eX11_copy_122 : zD cX11_copy 122 (.iload 4) 2 124 := ⟨by decide +kernel, rfl⟩
theorem eX11_copy_124 : zD cX11_copy 124 (.iload 5) 2 126 := ⟨by decide +kernel, rfl⟩
theorem eX11_copy_126 : zD cX11_copy 126 (.invokestatic 282) 3 129 := ⟨by decide +kernel, rfl⟩
theorem eX11_copy_129 : zD cX11_copy 129 (.iload 5) 2 131 := ⟨by decide +kernel, rfl⟩
theorem eX11_copy_131 : zD cX11_copy 131 (.ireturn) 1 132 := ⟨by decide +kernel, rfl⟩
theorem eX11_price_0 : zD cX11_price 0 (.aload_n 0) 1 1 := ⟨by decide +kernel, rfl⟩
theorem eX11_price_1 : zD cX11_price 1 (.iload_n 1) 1 2 := ⟨by decide +kernel, rfl⟩
theorem eX11_price_2 : zD cX11_price 2 (.invokevirtual 127) 3 5 := ⟨by decide +kernel, rfl⟩
theorem eX11_price_5 : zD cX11_price 5 (.istore_n 2) 1 6 := ⟨by decide +kernel, rfl⟩
theorem eX11_price_6 : zD cX11_price 6 (.iload_n 2) 1 7 := ⟨by decide +kernel, rfl⟩
theorem eX11_price_7 : zD cX11_price 7 (.ifCond .eq 5) 3 10 := ⟨by decide +kernel, rfl⟩
theorem eX11_price_10 : zD cX11_price 10 (.iload_n 2) 1 11 := ⟨by decide +kernel, rfl⟩
theorem eX11_price_11 : zD cX11_price 11 (.ireturn) 1 12 := ⟨by decide +kernel, rfl⟩
theorem eX11_price_12 : zD cX11_price 12 (.aload_n 0) 1 13 := ⟨by decide +kernel, rfl⟩
theorem eX11_price_13 : zD cX11_price 13 (.getfield 33) 3 16 := ⟨by decide +kernel, rfl⟩
theorem eX11_price_16 : zD cX11_price 16 (.aload_n 0) 1 17 := ⟨by decide +kernel, rfl⟩
theorem eX11_price_17 : zD cX11_price 17 (.getfield 61) 3 20 := ⟨by decide +kernel, rfl⟩
theorem eX11_price_20 : zD cX11_price 20 (.iload_n 1) 1 21 := ⟨by decide +kernel, rfl⟩
theorem eX11_price_21 : zD cX11_price 21 (.aaload) 1 22 := ⟨by decide +kernel, rfl⟩
theorem eX11_price_22 : zD cX11_price 22 (.getfield 130) 3 25 := ⟨by decide +kernel, rfl⟩
theorem eX11_price_25 : zD cX11_price 25 (.aaload) 1 26 := ⟨by decide +kernel, rfl⟩
theorem eX11_price_26 : zD cX11_price 26 (.aload_n 0) 1 27 := ⟨by decide +kernel, rfl⟩
theorem eX11_price_27 : zD cX11_price 27 (.getfield 61) 3 30 := ⟨by decide +kernel, rfl⟩
theorem eX11_price_30 : zD cX11_price 30 (.iload_n 1) 1 31 := ⟨by decide +kernel, rfl⟩
theorem eX11_price_31 : zD cX11_price 31 (.aaload) 1 32 := ⟨by decide +kernel, rfl⟩
theorem eX11_price_32 : zD cX11_price 32 (.getfield 132) 3 35 := ⟨by decide +kernel, rfl⟩
theorem eX11_price_35 : zD cX11_price 35 (.invokevirtual 288) 3 38 := ⟨by decide +kernel, rfl⟩
theorem eX11_price_38 : zD cX11_price 38 (.ireturn) 1 39 := ⟨by decide +kernel, rfl⟩
theorem eX11_toss_0 : zD cX11_toss 0 (.aload_n 0) 1 1 := ⟨by decide +kernel, rfl⟩
theorem eX11_toss_1 : zD cX11_toss 1 (.iload_n 1) 1 2 := ⟨by decide +kernel, rfl⟩
theorem eX11_toss_2 : zD cX11_toss 2 (.invokevirtual 127) 3 5 := ⟨by decide +kernel, rfl⟩
theorem eX11_toss_5 : zD cX11_toss 5 (.istore_n 2) 1 6 := ⟨by decide +kernel, rfl⟩
theorem eX11_toss_6 : zD cX11_toss 6 (.iload_n 2) 1 7 := ⟨by decide +kernel, rfl⟩
theorem eX11_toss_7 : zD cX11_toss 7 (.ifCond .eq 5) 3 10 := ⟨by decide +kernel, rfl⟩
theorem eX11_toss_10 : zD cX11_toss 10 (.iload_n 2) 1 11 := ⟨by decide +kernel, rfl⟩
theorem eX11_toss_11 : zD cX11_toss 11 (.ireturn) 1 12 := ⟨by decide +kernel, rfl⟩
theorem eX11_toss_12 : zD cX11_toss 12 (.aload_n 0) 1 13 := ⟨by decide +kernel, rfl⟩
theorem eX11_toss_13 : zD cX11_toss 13 (.getfield 33) 3 16 := ⟨by decide +kernel, rfl⟩
theorem eX11_toss_16 : zD cX11_toss 16 (.aload_n 0) 1 17 := ⟨by decide +kernel, rfl⟩
theorem eX11_toss_17 : zD cX11_toss 17 (.getfield 61) 3 20 := ⟨by decide +kernel, rfl⟩
theorem eX11_toss_20 : zD cX11_toss 20 (.iload_n 1) 1 21 := ⟨by decide +kernel, rfl⟩
theorem eX11_toss_21 : zD cX11_toss 21 (.aaload) 1 22 := ⟨by decide +kernel, rfl⟩
theorem eX11_toss_22 : zD cX11_toss 22 (.getfield 130) 3 25 := ⟨by decide +kernel, rfl⟩
theorem eX11_toss_25 : zD cX11_toss 25 (.aaload) 1 26 := ⟨by decide +kernel, rfl⟩
theorem eX11_toss_26 : zD cX11_toss 26 (.astore_n 3) 1 27 := ⟨by decide +kernel, rfl⟩
theorem eX11_toss_27 : zD cX11_toss 27 (.aload_n 0) 1 28 := ⟨by decide +kernel, rfl⟩
theorem eX11_toss_28 : zD cX11_toss 28 (.getfield 61) 3 31 := ⟨by decide +kernel, rfl⟩
theorem eX11_toss_31 : zD cX11_toss 31 (.iload_n 1) 1 32 := ⟨by decide +kernel, rfl⟩
theorem eX11_toss_32 : zD cX11_toss 32 (.aaload) 1 33 := ⟨by decide +kernel, rfl⟩
theorem eX11_toss_33 : zD cX11_toss 33 (.getfield 132) 3 36 := ⟨by decide +kernel, rfl⟩
theorem eX11_toss_36 : zD cX11_toss 36 (.istore 4) 2 38 := ⟨by decide +kernel, rfl⟩
theorem eX11_toss_38 : zD cX11_toss 38 (.aload_n 3) 1 39 := ⟨by decide +kernel, rfl⟩
theorem eX11_toss_39 : zD cX11_toss 39 (.iload 4) 2 41 := ⟨by decide +kernel, rfl⟩
theorem eX11_toss_41 : zD cX11_toss 41 (.invokevirtual 291) 3 44 := ⟨by decide +kernel, rfl⟩
theorem eX11_toss_44 : zD cX11_toss 44 (.bipush (-15)) 2 46 := ⟨by decide +kernel, rfl⟩
theorem eX11_toss_46 : zD cX11_toss 46 (.ireturn) 1 47 := ⟨by decide +kernel, rfl⟩
theorem eX11_toss_47 : zD cX11_toss 47 (.astore 5) 2 49 := ⟨by decide +kernel, rfl⟩
theorem eX11_toss_49 : zD cX11_toss 49 (.sipush 200) 3 52 := ⟨by decide +kernel, rfl⟩
theorem eX11_toss_52 : zD cX11_toss 52 (.aload_n 3) 1 53 := ⟨by decide +kernel, rfl⟩
theorem eX11_toss_53 : zD cX11_toss 53 (.iload 4) 2 55 := ⟨by decide +kernel, rfl⟩
theorem eX11_toss_55 : zD cX11_toss 55 (.invokevirtual 288) 3 58 := ⟨by decide +kernel, rfl⟩
theorem eX11_toss_58 : zD cX11_toss 58 (.iadd) 1 59 := ⟨by decide +kernel, rfl⟩
theorem eX11_toss_59 : zD cX11_toss 59 (.ireturn) 1 60 := ⟨by decide +kernel, rfl⟩
theorem eX11_toss_60 : zD cX11_toss 60 (.astore 5) 2 62 := ⟨by decide +kernel, rfl⟩
theorem eX11_toss_62 : zD cX11_toss 62 (.bipush 100) 2 64 := ⟨by decide +kernel, rfl⟩
theorem eX11_toss_64 : zD cX11_toss 64 (.iload 4) 2 66 := ⟨by decide +kernel, rfl⟩
theorem eX11_toss_66 : zD cX11_toss 66 (.iadd) 1 67 := ⟨by decide +kernel, rfl⟩
theorem eX11_toss_67 : zD cX11_toss 67 (.ireturn) 1 68 := ⟨by decide +kernel, rfl⟩
theorem eX11_toss_68 : zD cX11_toss 68 (.astore 5) 2 70 := ⟨by decide +kernel, rfl⟩
theorem eX11_toss_70 : zD cX11_toss 70 (.iload 4) 2 72 := ⟨by decide +kernel, rfl⟩
theorem eX11_toss_72 : zD cX11_toss 72 (.ireturn) 1 73 := ⟨by decide +kernel, rfl⟩
theorem eX11_isWithin_0 : zD cX11_isWithin 0 (.iload_n 0) 1 1 := ⟨by decide +kernel, rfl⟩
theorem eX11_isWithin_1 : zD cX11_isWithin 1 (.iload_n 1) 1 2 := ⟨by decide +kernel, rfl⟩
theorem eX11_isWithin_2 : zD cX11_isWithin 2 (.if_icmp .lt 12) 3 5 := ⟨by decide +kernel, rfl⟩
theorem eX11_isWithin_5 : zD cX11_isWithin 5 (.iload_n 0) 1 6 := ⟨by decide +kernel, rfl⟩
theorem eX11_isWithin_6 : zD cX11_isWithin 6 (.iload_n 2) 1 7 := ⟨by decide +kernel, rfl⟩
theorem eX11_isWithin_7 : zD cX11_isWithin 7 (.if_icmp .gt 7) 3 10 := ⟨by decide +kernel, rfl⟩
theorem eX11_isWithin_10 : zD cX11_isWithin 10 (.iconst 1) 1 11 := ⟨by decide +kernel, rfl⟩
theorem eX11_isWithin_11 : zD cX11_isWithin 11 (.goto 4) 3 14 := ⟨by decide +kernel, rfl⟩
theorem eX11_isWithin_14 : zD cX11_isWithin 14 (.iconst 0) 1 15 := ⟨by decide +kernel, rfl⟩
theorem eX11_isWithin_15 : zD cX11_isWithin 15 (.ireturn) 1 16 := ⟨by decide +kernel, rfl⟩
theorem eX11_isShelf_0 : zD cX11_isShelf 0 (.iload_n 0) 1 1 := ⟨by decide +kernel, rfl⟩
theorem eX11_isShelf_1 : zD cX11_isShelf 1 (.iconst 0) 1 2 := ⟨by decide +kernel, rfl⟩
theorem eX11_isShelf_2 : zD cX11_isShelf 2 (.bipush 7) 2 4 := ⟨by decide +kernel, rfl⟩
theorem eX11_isShelf_4 : zD cX11_isShelf 4 (.invokestatic 123) 3 7 := ⟨by decide +kernel, rfl⟩
theorem eX11_isShelf_7 : zD cX11_isShelf 7 (.ireturn) 1 8 := ⟨by decide +kernel, rfl⟩
theorem eX11_areHairs_0 : zD cX11_areHairs 0 (.iload_n 0) 1 1 := ⟨by decide +kernel, rfl⟩
theorem eX11_areHairs_1 : zD cX11_areHairs 1 (.iconst 1) 1 2 := ⟨by decide +kernel, rfl⟩
theorem eX11_areHairs_2 : zD cX11_areHairs 2 (.bipush 99) 2 4 := ⟨by decide +kernel, rfl⟩
theorem eX11_areHairs_4 : zD cX11_areHairs 4 (.invokestatic 123) 3 7 := ⟨by decide +kernel, rfl⟩
theorem eX11_areHairs_7 : zD cX11_areHairs 7 (.ireturn) 1 8 := ⟨by decide +kernel, rfl⟩
theorem eX11_isWarmth_0 : zD cX11_isWarmth 0 (.iload_n 0) 1 1 := ⟨by decide +kernel, rfl⟩
theorem eX11_isWarmth_1 : zD cX11_isWarmth 1 (.iconst 0) 1 2 := ⟨by decide +kernel, rfl⟩
theorem eX11_isWarmth_2 : zD cX11_isWarmth 2 (.bipush 9) 2 4 := ⟨by decide +kernel, rfl⟩
theorem eX11_isWarmth_4 : zD cX11_isWarmth 4 (.invokestatic 123) 3 7 := ⟨by decide +kernel, rfl⟩
theorem eX11_isWarmth_7 : zD cX11_isWarmth 7 (.ireturn) 1 8 := ⟨by decide +kernel, rfl⟩
theorem eX11_areBowls_0 : zD cX11_areBowls 0 (.iload_n 1) 1 1 := ⟨by decide +kernel, rfl⟩
theorem eX11_areBowls_1 : zD cX11_areBowls 1 (.aload_n 0) 1 2 := ⟨by decide +kernel, rfl⟩
theorem eX11_areBowls_2 : zD cX11_areBowls 2 (.getfield 42) 3 5 := ⟨by decide +kernel, rfl⟩
theorem eX11_areBowls_5 : zD cX11_areBowls 5 (.invokevirtual 233) 3 8 := ⟨by decide +kernel, rfl⟩
theorem eX11_areBowls_8 : zD cX11_areBowls 8 (.iconst (-1)) 1 9 := ⟨by decide +kernel, rfl⟩
theorem eX11_areBowls_9 : zD cX11_areBowls 9 (.ixor) 1 10 := ⟨by decide +kernel, rfl⟩
theorem eX11_areBowls_10 : zD cX11_areBowls 10 (.iand) 1 11 := ⟨by decide +kernel, rfl⟩
theorem eX11_areBowls_11 : zD cX11_areBowls 11 (.ifCond .ne 7) 3 14 := ⟨by decide +kernel, rfl⟩
theorem eX11_areBowls_14 : zD cX11_areBowls 14 (.iconst 1) 1 15 := ⟨by decide +kernel, rfl⟩
theorem eX11_areBowls_15 : zD cX11_areBowls 15 (.goto 4) 3 18 := ⟨by decide +kernel, rfl⟩
theorem eX11_areBowls_18 : zD cX11_areBowls 18 (.iconst 0) 1 19 := ⟨by decide +kernel, rfl⟩
theorem eX11_areBowls_19 : zD cX11_areBowls 19 (.ireturn) 1 20 := ⟨by decide +kernel, rfl⟩
theorem eX11_arePair_0 : zD cX11_arePair 0 (.aload_n 0) 1 1 := ⟨by decide +kernel, rfl⟩
theorem eX11_arePair_1 : zD cX11_arePair 1 (.getfield 42) 3 4 := ⟨by decide +kernel, rfl⟩
theorem eX11_arePair_4 : zD cX11_arePair 4 (.iload_n 1) 1 5 := ⟨by decide +kernel, rfl⟩
theorem eX11_arePair_5 : zD cX11_arePair 5 (.invokevirtual 82) 3 8 := ⟨by decide +kernel, rfl⟩
theorem eX11_arePair_8 : zD cX11_arePair 8 (.ifCond .eq 23) 3 11 := ⟨by decide +kernel, rfl⟩
theorem eX11_arePair_11 : zD cX11_arePair 11 (.aload_n 0) 1 12 := ⟨by decide +kernel, rfl⟩
theorem eX11_arePair_12 : zD cX11_arePair 12 (.getfield 42) 3 15 := ⟨by decide +kernel, rfl⟩
theorem eX11_arePair_15 : zD cX11_arePair 15 (.iload_n 2) 1 16 := ⟨by decide +kernel, rfl⟩
theorem eX11_arePair_16 : zD cX11_arePair 16 (.invokevirtual 82) 3 19 := ⟨by decide +kernel, rfl⟩
theorem eX11_arePair_19 : zD cX11_arePair 19 (.ifCond .eq 12) 3 22 := ⟨by decide +kernel, rfl⟩
theorem eX11_arePair_22 : zD cX11_arePair 22 (.iload_n 1) 1 23 := ⟨by decide +kernel, rfl⟩
theorem eX11_arePair_23 : zD cX11_arePair 23 (.iload_n 2) 1 24 := ⟨by decide +kernel, rfl⟩
theorem eX11_arePair_24 : zD cX11_arePair 24 (.if_icmp .eq 7) 3 27 := ⟨by decide +kernel, rfl⟩
theorem eX11_arePair_27 : zD cX11_arePair 27 (.iconst 1) 1 28 := ⟨by decide +kernel, rfl⟩
theorem eX11_arePair_28 : zD cX11_arePair 28 (.goto 4) 3 31 := ⟨by decide +kernel, rfl⟩
theorem eX11_arePair_31 : zD cX11_arePair 31 (.iconst 0) 1 32 := ⟨by decide +kernel, rfl⟩
theorem eX11_arePair_32 : zD cX11_arePair 32 (.ireturn) 1 33 := ⟨by decide +kernel, rfl⟩
theorem eX11_rowRefusal_0 : zD cX11_rowRefusal 0 (.aload_n 0) 1 1 := ⟨by decide +kernel, rfl⟩
theorem eX11_rowRefusal_1 : zD cX11_rowRefusal 1 (.iload_n 1) 1 2 := ⟨by decide +kernel, rfl⟩
theorem eX11_rowRefusal_2 : zD cX11_rowRefusal 2 (.iconst 2) 1 3 := ⟨by decide +kernel, rfl⟩
theorem eX11_rowRefusal_3 : zD cX11_rowRefusal 3 (.invokevirtual 296) 3 6 := ⟨by decide +kernel, rfl⟩
theorem eX11_rowRefusal_6 : zD cX11_rowRefusal 6 (.ireturn) 1 7 := ⟨by decide +kernel, rfl⟩
theorem eX11_bytesRefusal_0 : zD cX11_bytesRefusal 0 (.aload_n 0) 1 1 := ⟨by decide +kernel, rfl⟩
theorem eX11_bytesRefusal_1 : zD cX11_bytesRefusal 1 (.iload_n 1) 1 2 := ⟨by decide +kernel, rfl⟩
theorem eX11_bytesRefusal_2 : zD cX11_bytesRefusal 2 (.iconst 2) 1 3 := ⟨by decide +kernel, rfl⟩
theorem eX11_bytesRefusal_3 : zD cX11_bytesRefusal 3 (.invokevirtual 296) 3 6 := ⟨by decide +kernel, rfl⟩
theorem eX11_bytesRefusal_6 : zD cX11_bytesRefusal 6 (.istore_n 2) 1 7 := ⟨by decide +kernel, rfl⟩
theorem eX11_bytesRefusal_7 : zD cX11_bytesRefusal 7 (.iload_n 2) 1 8 := ⟨by decide +kernel, rfl⟩
theorem eX11_bytesRefusal_8 : zD cX11_bytesRefusal 8 (.ifCond .ne 18) 3 11 := ⟨by decide +kernel, rfl⟩
theorem eX11_bytesRefusal_11 : zD cX11_bytesRefusal 11 (.aload_n 0) 1 12 := ⟨by decide +kernel, rfl⟩
theorem eX11_bytesRefusal_12 : zD cX11_bytesRefusal 12 (.getfield 61) 3 15 := ⟨by decide +kernel, rfl⟩
theorem eX11_bytesRefusal_15 : zD cX11_bytesRefusal 15 (.iload_n 1) 1 16 := ⟨by decide +kernel, rfl⟩
theorem eX11_bytesRefusal_16 : zD cX11_bytesRefusal 16 (.aaload) 1 17 := ⟨by decide +kernel, rfl⟩
theorem eX11_bytesRefusal_17 : zD cX11_bytesRefusal 17 (.getfield 273) 3 20 := ⟨by decide +kernel, rfl⟩
theorem eX11_bytesRefusal_20 : zD cX11_bytesRefusal 20 (.ifCond .eq 6) 3 23 := ⟨by decide +kernel, rfl⟩
theorem eX11_bytesRefusal_23 : zD cX11_bytesRefusal 23 (.bipush (-12)) 2 25 := ⟨by decide +kernel, rfl⟩
theorem eX11_bytesRefusal_25 : zD cX11_bytesRefusal 25 (.ireturn) 1 26 := ⟨by decide +kernel, rfl⟩
theorem eX11_bytesRefusal_26 : zD cX11_bytesRefusal 26 (.iload_n 2) 1 27 := ⟨by decide +kernel, rfl⟩
theorem eX11_bytesRefusal_27 : zD cX11_bytesRefusal 27 (.ireturn) 1 28 := ⟨by decide +kernel, rfl⟩
theorem eX11_bowlRefusal_0 : zD cX11_bowlRefusal 0 (.aload_n 0) 1 1 := ⟨by decide +kernel, rfl⟩
theorem eX11_bowlRefusal_1 : zD cX11_bowlRefusal 1 (.iload_n 1) 1 2 := ⟨by decide +kernel, rfl⟩
theorem eX11_bowlRefusal_2 : zD cX11_bowlRefusal 2 (.iconst 1) 1 3 := ⟨by decide +kernel, rfl⟩
theorem eX11_bowlRefusal_3 : zD cX11_bowlRefusal 3 (.invokevirtual 296) 3 6 := ⟨by decide +kernel, rfl⟩
theorem eX11_bowlRefusal_6 : zD cX11_bowlRefusal 6 (.ireturn) 1 7 := ⟨by decide +kernel, rfl⟩
theorem eX11_shelfRefusal_0 : zD cX11_shelfRefusal 0 (.iload_n 1) 1 1 := ⟨by decide +kernel, rfl⟩
theorem eX11_shelfRefusal_1 : zD cX11_shelfRefusal 1 (.invokestatic 117) 3 4 := ⟨by decide +kernel, rfl⟩
theorem eX11_shelfRefusal_4 : zD cX11_shelfRefusal 4 (.ifCond .ne 5) 3 7 := ⟨by decide +kernel, rfl⟩
theorem eX11_shelfRefusal_7 : zD cX11_shelfRefusal 7 (.iconst (-1)) 1 8 := ⟨by decide +kernel, rfl⟩
theorem eX11_shelfRefusal_8 : zD cX11_shelfRefusal 8 (.ireturn) 1 9 := ⟨by decide +kernel, rfl⟩
theorem eX11_shelfRefusal_9 : zD cX11_shelfRefusal 9 (.aload_n 0) 1 10 := ⟨by decide +kernel, rfl⟩
theorem eX11_shelfRefusal_10 : zD cX11_shelfRefusal 10 (.getfield 61) 3 13 := ⟨by decide +kernel, rfl⟩
theorem eX11_shelfRefusal_13 : zD cX11_shelfRefusal 13 (.iload_n 1) 1 14 := ⟨by decide +kernel, rfl⟩
theorem eX11_shelfRefusal_14 : zD cX11_shelfRefusal 14 (.aaload) 1 15 := ⟨by decide +kernel, rfl⟩
theorem eX11_shelfRefusal_15 : zD cX11_shelfRefusal 15 (.getfield 265) 3 18 := ⟨by decide +kernel, rfl⟩
theorem eX11_shelfRefusal_18 : zD cX11_shelfRefusal 18 (.ifCond .ne 6) 3 21 := ⟨by decide +kernel, rfl⟩
theorem eX11_shelfRefusal_21 : zD cX11_shelfRefusal 21 (.bipush (-11)) 2 23 := ⟨by decide +kernel, rfl⟩
theorem eX11_shelfRefusal_23 : zD cX11_shelfRefusal 23 (.ireturn) 1 24 := ⟨by decide +kernel, rfl⟩
theorem eX11_shelfRefusal_24 : zD cX11_shelfRefusal 24 (.aload_n 0) 1 25 := ⟨by decide +kernel, rfl⟩
theorem eX11_shelfRefusal_25 : zD cX11_shelfRefusal 25 (.getfield 61) 3 28 := ⟨by decide +kernel, rfl⟩
theorem eX11_shelfRefusal_28 : zD cX11_shelfRefusal 28 (.iload_n 1) 1 29 := ⟨by decide +kernel, rfl⟩
theorem eX11_shelfRefusal_29 : zD cX11_shelfRefusal 29 (.aaload) 1 30 := ⟨by decide +kernel, rfl⟩
theorem eX11_shelfRefusal_30 : zD cX11_shelfRefusal 30 (.getfield 265) 3 33 := ⟨by decide +kernel, rfl⟩
theorem eX11_shelfRefusal_33 : zD cX11_shelfRefusal 33 (.iload_n 2) 1 34 := ⟨by decide +kernel, rfl⟩
theorem eX11_shelfRefusal_34 : zD cX11_shelfRefusal 34 (.if_icmp .ne 7) 3 37 := ⟨by decide +kernel, rfl⟩
theorem eX11_shelfRefusal_37 : zD cX11_shelfRefusal 37 (.iconst 0) 1 38 := ⟨by decide +kernel, rfl⟩
theorem eX11_shelfRefusal_38 : zD cX11_shelfRefusal 38 (.goto 5) 3 41 := ⟨by decide +kernel, rfl⟩
theorem eX11_shelfRefusal_41 : zD cX11_shelfRefusal 41 (.bipush (-12)) 2 43 := ⟨by decide +kernel, rfl⟩
theorem eX11_shelfRefusal_43 : zD cX11_shelfRefusal 43 (.ireturn) 1 44 := ⟨by decide +kernel, rfl⟩
theorem eX11_tellAll_0 : zD cX11_tellAll 0 (.aload_n 0) 1 1 := ⟨by decide +kernel, rfl⟩
theorem eX11_tellAll_1 : zD cX11_tellAll 1 (.getfield 46) 3 4 := ⟨by decide +kernel, rfl⟩
theorem eX11_tellAll_4 : zD cX11_tellAll 4 (.aload_n 0) 1 5 := ⟨by decide +kernel, rfl⟩
theorem eX11_tellAll_5 : zD cX11_tellAll 5 (.getfield 42) 3 8 := ⟨by decide +kernel, rfl⟩
theorem eX11_tellAll_8 : zD cX11_tellAll 8 (.invokevirtual 192) 3 11 := ⟨by decide +kernel, rfl⟩
theorem eX11_tellAll_11 : zD cX11_tellAll 11 (.iconst 0) 1 12 := ⟨by decide +kernel, rfl⟩
theorem eX11_tellAll_12 : zD cX11_tellAll 12 (.istore_n 2) 1 13 := ⟨by decide +kernel, rfl⟩
theorem eX11_tellAll_13 : zD cX11_tellAll 13 (.iconst 0) 1 14 := ⟨by decide +kernel, rfl⟩
theorem eX11_tellAll_14 : zD cX11_tellAll 14 (.istore_n 3) 1 15 := ⟨by decide +kernel, rfl⟩
theorem eX11_tellAll_15 : zD cX11_tellAll 15 (.iload_n 3) 1 16 := ⟨by decide +kernel, rfl⟩
theorem eX11_tellAll_16 : zD cX11_tellAll 16 (.aload_n 1) 1 17 := ⟨by decide +kernel, rfl⟩
theorem eX11_tellAll_17 : zD cX11_tellAll 17 (.getfield 211) 3 20 := ⟨by decide +kernel, rfl⟩
theorem eX11_tellAll_20 : zD cX11_tellAll 20 (.if_icmp .ge 41) 3 23 := ⟨by decide +kernel, rfl⟩
theorem eX11_tellAll_23 : zD cX11_tellAll 23 (.iload_n 2) 1 24 := ⟨by decide +kernel, rfl⟩
theorem eX11_tellAll_24 : zD cX11_tellAll 24 (.aload_n 1) 1 25 := ⟨by decide +kernel, rfl⟩
theorem eX11_tellAll_25 : zD cX11_tellAll 25 (.getfield 211) 3 28 := ⟨by decide +kernel, rfl⟩
theorem eX11_tellAll_28 : zD cX11_tellAll 28 (.if_icmp .ge 33) 3 31 := ⟨by decide +kernel, rfl⟩
theorem eX11_tellAll_31 : zD cX11_tellAll 31 (.aload_n 0) 1 32 := ⟨by decide +kernel, rfl⟩
theorem eX11_tellAll_32 : zD cX11_tellAll 32 (.getfield 46) 3 35 := ⟨by decide +kernel, rfl⟩
theorem eX11_tellAll_35 : zD cX11_tellAll 35 (.aload_n 1) 1 36 := ⟨by decide +kernel, rfl⟩
theorem eX11_tellAll_36 : zD cX11_tellAll 36 (.iload_n 3) 1 37 := ⟨by decide +kernel, rfl⟩
theorem eX11_tellAll_37 : zD cX11_tellAll 37 (.invokevirtual 299) 3 40 := ⟨by decide +kernel, rfl⟩
theorem eX11_tellAll_40 : zD cX11_tellAll 40 (.ifCond .ne 9) 3 43 := ⟨by decide +kernel, rfl⟩
theorem eX11_tellAll_43 : zD cX11_tellAll 43 (.sipush (-2000)) 3 46 := ⟨by decide +kernel, rfl⟩
theorem eX11_tellAll_46 : zD cX11_tellAll 46 (.iload_n 3) 1 47 := ⟨by decide +kernel, rfl⟩
theorem eX11_tellAll_47 : zD cX11_tellAll 47 (.isub) 1 48 := ⟨by decide +kernel, rfl⟩
theorem eX11_tellAll_48 : zD cX11_tellAll 48 (.ireturn) 1 49 := ⟨by decide +kernel, rfl⟩
theorem eX11_tellAll_49 : zD cX11_tellAll 49 (.aload_n 1) 1 50 := ⟨by decide +kernel, rfl⟩
theorem eX11_tellAll_50 : zD cX11_tellAll 50 (.iload_n 3) 1 51 := ⟨by decide +kernel, rfl⟩
theorem eX11_tellAll_51 : zD cX11_tellAll 51 (.invokevirtual 303) 3 54 := ⟨by decide +kernel, rfl⟩
theorem eX11_tellAll_54 : zD cX11_tellAll 54 (.istore_n 3) 1 55 := ⟨by decide +kernel, rfl⟩
theorem eX11_tellAll_55 : zD cX11_tellAll 55 (.iinc 2 1) 3 58 := ⟨by decide +kernel, rfl⟩
theorem eX11_tellAll_58 : zD cX11_tellAll 58 (.goto (-43)) 3 61 := ⟨by decide +kernel, rfl⟩
theorem eX11_tellAll_61 : zD cX11_tellAll 61 (.aload_n 0) 1 62 := ⟨by decide +kernel, rfl⟩
theorem eX11_tellAll_62 : zD cX11_tellAll 62 (.getfield 42) 3 65 := ⟨by decide +kernel, rfl⟩
theorem eX11_tellAll_65 : zD cX11_tellAll 65 (.aload_n 0) 1 66 := ⟨by decide +kernel, rfl⟩
theorem eX11_tellAll_66 : zD cX11_tellAll 66 (.getfield 46) 3 69 := ⟨by decide +kernel, rfl⟩
theorem eX11_tellAll_69 : zD cX11_tellAll 69 (.invokevirtual 192) 3 72 := ⟨by decide +kernel, rfl⟩
theorem eX11_tellAll_72 : zD cX11_tellAll 72 (.iload_n 2) 1 73 := ⟨by decide +kernel, rfl⟩
theorem eX11_tellAll_73 : zD cX11_tellAll 73 (.ireturn) 1 74 := ⟨by decide +kernel, rfl⟩
theorem eX11_firstMisplaced_0 : zD cX11_firstMisplaced 0 (.iconst 0) 1 1 := ⟨by decide +kernel, rfl⟩
theorem eX11_firstMisplaced_1 : zD cX11_firstMisplaced 1 (.istore_n 2) 1 2 := ⟨by decide +kernel, rfl⟩
theorem eX11_firstMisplaced_2 : zD cX11_firstMisplaced 2 (.iconst 0) 1 3 := ⟨by decide +kernel, rfl⟩
theorem eX11_firstMisplaced_3 : zD cX11_firstMisplaced 3 (.istore_n 3) 1 4 := ⟨by decide +kernel, rfl⟩
theorem eX11_firstMisplaced_4 : zD cX11_firstMisplaced 4 (.iload_n 3) 1 5 := ⟨by decide +kernel, rfl⟩
theorem eX11_firstMisplaced_5 : zD cX11_firstMisplaced 5 (.aload_n 1) 1 6 := ⟨by decide +kernel, rfl⟩
theorem eX11_firstMisplaced_6 : zD cX11_firstMisplaced 6 (.getfield 211) 3 9 := ⟨by decide +kernel, rfl⟩
theorem eX11_firstMisplaced_9 : zD cX11_firstMisplaced 9 (.if_icmp .ge 79) 3 12 := ⟨by decide +kernel, rfl⟩
theorem eX11_firstMisplaced_12 : zD cX11_firstMisplaced 12 (.aload_n 1) 1 13 := ⟨by decide +kernel, rfl⟩
theorem eX11_firstMisplaced_13 : zD cX11_firstMisplaced 13 (.iload_n 3) 1 14 := ⟨by decide +kernel, rfl⟩
theorem eX11_firstMisplaced_14 : zD cX11_firstMisplaced 14 (.invokevirtual 217) 3 17 := ⟨by decide +kernel, rfl⟩
theorem eX11_firstMisplaced_17 : zD cX11_firstMisplaced 17 (.istore 4) 2 19 := ⟨by decide +kernel, rfl⟩
theorem eX11_firstMisplaced_19 : zD cX11_firstMisplaced 19 (.aload_n 0) 1 20 := ⟨by decide +kernel, rfl⟩
theorem eX11_firstMisplaced_20 : zD cX11_firstMisplaced 20 (.getfield 42) 3 23 := ⟨by decide +kernel, rfl⟩
theorem eX11_firstMisplaced_23 : zD cX11_firstMisplaced 23 (.iload 4) 2 25 := ⟨by decide +kernel, rfl⟩
theorem eX11_firstMisplaced_25 : zD cX11_firstMisplaced 25 (.invokevirtual 82) 3 28 := ⟨by decide +kernel, rfl⟩
theorem eX11_firstMisplaced_28 : zD cX11_firstMisplaced 28 (.ifCond .eq 13) 3 31 := ⟨by decide +kernel, rfl⟩
theorem eX11_firstMisplaced_31 : zD cX11_firstMisplaced 31 (.iload_n 2) 1 32 := ⟨by decide +kernel, rfl⟩
theorem eX11_firstMisplaced_32 : zD cX11_firstMisplaced 32 (.iload 4) 2 34 := ⟨by decide +kernel, rfl⟩
theorem eX11_firstMisplaced_34 : zD cX11_firstMisplaced 34 (.ishr) 1 35 := ⟨by decide +kernel, rfl⟩
theorem eX11_firstMisplaced_35 : zD cX11_firstMisplaced 35 (.iconst 1) 1 36 := ⟨by decide +kernel, rfl⟩
theorem eX11_firstMisplaced_36 : zD cX11_firstMisplaced 36 (.iand) 1 37 := ⟨by decide +kernel, rfl⟩
theorem eX11_firstMisplaced_37 : zD cX11_firstMisplaced 37 (.iconst 1) 1 38 := ⟨by decide +kernel, rfl⟩
theorem eX11_firstMisplaced_38 : zD cX11_firstMisplaced 38 (.if_icmp .ne 5) 3 41 := ⟨by decide +kernel, rfl⟩
theorem eX11_firstMisplaced_41 : zD cX11_firstMisplaced 41 (.iload_n 3) 1 42 := ⟨by decide +kernel, rfl⟩
theorem eX11_firstMisplaced_42 : zD cX11_firstMisplaced 42 (.ireturn) 1 43 := ⟨by decide +kernel, rfl⟩
theorem eX11_firstMisplaced_43 : zD cX11_firstMisplaced 43 (.iload_n 3) 1 44 := ⟨by decide +kernel, rfl⟩
theorem eX11_firstMisplaced_44 : zD cX11_firstMisplaced 44 (.ifCond .le 31) 3 47 := ⟨by decide +kernel, rfl⟩
theorem eX11_firstMisplaced_47 : zD cX11_firstMisplaced 47 (.aload_n 0) 1 48 := ⟨by decide +kernel, rfl⟩
theorem eX11_firstMisplaced_48 : zD cX11_firstMisplaced 48 (.getfield 42) 3 51 := ⟨by decide +kernel, rfl⟩
theorem eX11_firstMisplaced_51 : zD cX11_firstMisplaced 51 (.iload 4) 2 53 := ⟨by decide +kernel, rfl⟩
theorem eX11_firstMisplaced_53 : zD cX11_firstMisplaced 53 (.aload_n 1) 1 54 := ⟨by decide +kernel, rfl⟩
theorem eX11_firstMisplaced_54 : zD cX11_firstMisplaced 54 (.iload_n 3) 1 55 := ⟨by decide +kernel, rfl⟩
theorem eX11_firstMisplaced_55 : zD cX11_firstMisplaced 55 (.iconst 1) 1 56 := ⟨by decide +kernel, rfl⟩
theorem eX11_firstMisplaced_56 : zD cX11_firstMisplaced 56 (.isub) 1 57 := ⟨by decide +kernel, rfl⟩
theorem eX11_firstMisplaced_57 : zD cX11_firstMisplaced 57 (.invokevirtual 217) 3 60 := ⟨by decide +kernel, rfl⟩
theorem eX11_firstMisplaced_60 : zD cX11_firstMisplaced 60 (.aload_n 0) 1 61 := ⟨by decide +kernel, rfl⟩
theorem eX11_firstMisplaced_61 : zD cX11_firstMisplaced 61 (.getfield 42) 3 64 := ⟨by decide +kernel, rfl⟩
theorem eX11_firstMisplaced_64 : zD cX11_firstMisplaced 64 (.getfield 106) 3 67 := ⟨by decide +kernel, rfl⟩
theorem eX11_firstMisplaced_67 : zD cX11_firstMisplaced 67 (.invokevirtual 151) 3 70 := ⟨by decide +kernel, rfl⟩
theorem eX11_firstMisplaced_70 : zD cX11_firstMisplaced 70 (.ifCond .ne 5) 3 73 := ⟨by decide +kernel, rfl⟩
theorem eX11_firstMisplaced_73 : zD cX11_firstMisplaced 73 (.iload_n 3) 1 74 := ⟨by decide +kernel, rfl⟩
theorem eX11_firstMisplaced_74 : zD cX11_firstMisplaced 74 (.ireturn) 1 75 := ⟨by decide +kernel, rfl⟩
theorem eX11_firstMisplaced_75 : zD cX11_firstMisplaced 75 (.iload_n 2) 1 76 := ⟨by decide +kernel, rfl⟩
theorem eX11_firstMisplaced_76 : zD cX11_firstMisplaced 76 (.iconst 1) 1 77 := ⟨by decide +kernel, rfl⟩
theorem eX11_firstMisplaced_77 : zD cX11_firstMisplaced 77 (.iload 4) 2 79 := ⟨by decide +kernel, rfl⟩
theorem eX11_firstMisplaced_79 : zD cX11_firstMisplaced 79 (.ishl) 1 80 := ⟨by decide +kernel, rfl⟩
theorem eX11_firstMisplaced_80 : zD cX11_firstMisplaced 80 (.ior) 1 81 := ⟨by decide +kernel, rfl⟩
theorem eX11_firstMisplaced_81 : zD cX11_firstMisplaced 81 (.istore_n 2) 1 82 := ⟨by decide +kernel, rfl⟩
theorem eX11_firstMisplaced_82 : zD cX11_firstMisplaced 82 (.iinc 3 1) 3 85 := ⟨by decide +kernel, rfl⟩
theorem eX11_firstMisplaced_85 : zD cX11_firstMisplaced 85 (.goto (-81)) 3 88 := ⟨by decide +kernel, rfl⟩
theorem eX11_firstMisplaced_88 : zD cX11_firstMisplaced 88 (.iconst (-1)) 1 89 := ⟨by decide +kernel, rfl⟩
theorem eX11_firstMisplaced_89 : zD cX11_firstMisplaced 89 (.ireturn) 1 90 := ⟨by decide +kernel, rfl⟩
theorem eX11_isBridged_0 : zD cX11_isBridged 0 (.aload_n 0) 1 1 := ⟨by decide +kernel, rfl⟩
theorem eX11_isBridged_1 : zD cX11_isBridged 1 (.getfield 42) 3 4 := ⟨by decide +kernel, rfl⟩
theorem eX11_isBridged_4 : zD cX11_isBridged 4 (.iload_n 1) 1 5 := ⟨by decide +kernel, rfl⟩
theorem eX11_isBridged_5 : zD cX11_isBridged 5 (.aload_n 0) 1 6 := ⟨by decide +kernel, rfl⟩
theorem eX11_isBridged_6 : zD cX11_isBridged 6 (.getfield 42) 3 9 := ⟨by decide +kernel, rfl⟩
theorem eX11_isBridged_9 : zD cX11_isBridged 9 (.getfield 96) 3 12 := ⟨by decide +kernel, rfl⟩
theorem eX11_isBridged_12 : zD cX11_isBridged 12 (.iload_n 1) 1 13 := ⟨by decide +kernel, rfl⟩
theorem eX11_isBridged_13 : zD cX11_isBridged 13 (.iaload) 1 14 := ⟨by decide +kernel, rfl⟩
theorem eX11_isBridged_14 : zD cX11_isBridged 14 (.invokevirtual 102) 3 17 := ⟨by decide +kernel, rfl⟩
theorem eX11_isBridged_17 : zD cX11_isBridged 17 (.iconst 2) 1 18 := ⟨by decide +kernel, rfl⟩
theorem eX11_isBridged_18 : zD cX11_isBridged 18 (.iadd) 1 19 := ⟨by decide +kernel, rfl⟩
theorem eX11_isBridged_19 : zD cX11_isBridged 19 (.aload_n 0) 1 20 := ⟨by decide +kernel, rfl⟩
theorem eX11_isBridged_20 : zD cX11_isBridged 20 (.getfield 42) 3 23 := ⟨by decide +kernel, rfl⟩
theorem eX11_isBridged_23 : zD cX11_isBridged 23 (.getfield 106) 3 26 := ⟨by decide +kernel, rfl⟩
theorem eX11_isBridged_26 : zD cX11_isBridged 26 (.iadd) 1 27 := ⟨by decide +kernel, rfl⟩
theorem eX11_isBridged_27 : zD cX11_isBridged 27 (.istore 4) 2 29 := ⟨by decide +kernel, rfl⟩
theorem eX11_isBridged_29 : zD cX11_isBridged 29 (.iload 4) 2 31 := ⟨by decide +kernel, rfl⟩
theorem eX11_isBridged_31 : zD cX11_isBridged 31 (.bipush 99) 2 33 := ⟨by decide +kernel, rfl⟩
theorem eX11_isBridged_33 : zD cX11_isBridged 33 (.if_icmp .le 5) 3 36 := ⟨by decide +kernel, rfl⟩
theorem eX11_isBridged_36 : zD cX11_isBridged 36 (.iconst 0) 1 37 := ⟨by decide +kernel, rfl⟩
theorem eX11_isBridged_37 : zD cX11_isBridged 37 (.ireturn) 1 38 := ⟨by decide +kernel, rfl⟩
theorem eX11_isBridged_38 : zD cX11_isBridged 38 (.aload_n 0) 1 39 := ⟨by decide +kernel, rfl⟩
theorem eX11_isBridged_39 : zD cX11_isBridged 39 (.getfield 46) 3 42 := ⟨by decide +kernel, rfl⟩
theorem eX11_isBridged_42 : zD cX11_isBridged 42 (.getfield 96) 3 45 := ⟨by decide +kernel, rfl⟩
theorem eX11_isBridged_45 : zD cX11_isBridged 45 (.iload_n 3) 1 46 := ⟨by decide +kernel, rfl⟩
theorem eX11_isBridged_46 : zD cX11_isBridged 46 (.iload 4) 2 48 := ⟨by decide +kernel, rfl⟩
theorem eX11_isBridged_48 : zD cX11_isBridged 48 (.iastore) 1 49 := ⟨by decide +kernel, rfl⟩
theorem eX11_isBridged_49 : zD cX11_isBridged 49 (.aload_n 0) 1 50 := ⟨by decide +kernel, rfl⟩
theorem eX11_isBridged_50 : zD cX11_isBridged 50 (.getfield 46) 3 53 := ⟨by decide +kernel, rfl⟩
theorem eX11_isBridged_53 : zD cX11_isBridged 53 (.getfield 99) 3 56 := ⟨by decide +kernel, rfl⟩
theorem eX11_isBridged_56 : zD cX11_isBridged 56 (.iload_n 3) 1 57 := ⟨by decide +kernel, rfl⟩
theorem eX11_isBridged_57 : zD cX11_isBridged 57 (.aload_n 0) 1 58 := ⟨by decide +kernel, rfl⟩
theorem eX11_isBridged_58 : zD cX11_isBridged 58 (.getfield 42) 3 61 := ⟨by decide +kernel, rfl⟩
theorem eX11_isBridged_61 : zD cX11_isBridged 61 (.getfield 99) 3 64 := ⟨by decide +kernel, rfl⟩
theorem eX11_isBridged_64 : zD cX11_isBridged 64 (.iload_n 1) 1 65 := ⟨by decide +kernel, rfl⟩
theorem eX11_isBridged_65 : zD cX11_isBridged 65 (.iaload) 1 66 := ⟨by decide +kernel, rfl⟩
theorem eX11_isBridged_66 : zD cX11_isBridged 66 (.iastore) 1 67 := ⟨by decide +kernel, rfl⟩
theorem eX11_isBridged_67 : zD cX11_isBridged 67 (.aload_n 0) 1 68 := ⟨by decide +kernel, rfl⟩
theorem eX11_isBridged_68 : zD cX11_isBridged 68 (.getfield 46) 3 71 := ⟨by decide +kernel, rfl⟩
theorem eX11_isBridged_71 : zD cX11_isBridged 71 (.iload_n 1) 1 72 := ⟨by decide +kernel, rfl⟩
theorem eX11_isBridged_72 : zD cX11_isBridged 72 (.iload_n 3) 1 73 := ⟨by decide +kernel, rfl⟩
theorem eX11_isBridged_73 : zD cX11_isBridged 73 (.aload_n 0) 1 74 := ⟨by decide +kernel, rfl⟩
theorem eX11_isBridged_74 : zD cX11_isBridged 74 (.getfield 42) 3 77 := ⟨by decide +kernel, rfl⟩
theorem eX11_isBridged_77 : zD cX11_isBridged 77 (.getfield 106) 3 80 := ⟨by decide +kernel, rfl⟩
theorem eX11_isBridged_80 : zD cX11_isBridged 80 (.invokevirtual 151) 3 83 := ⟨by decide +kernel, rfl⟩
theorem eX11_isBridged_83 : zD cX11_isBridged 83 (.ifCond .eq 26) 3 86 := ⟨by decide +kernel, rfl⟩
theorem eX11_isBridged_86 : zD cX11_isBridged 86 (.aload_n 0) 1 87 := ⟨by decide +kernel, rfl⟩
theorem eX11_isBridged_87 : zD cX11_isBridged 87 (.getfield 46) 3 90 := ⟨by decide +kernel, rfl⟩
theorem eX11_isBridged_90 : zD cX11_isBridged 90 (.iload_n 3) 1 91 := ⟨by decide +kernel, rfl⟩
theorem eX11_isBridged_91 : zD cX11_isBridged 91 (.iload_n 2) 1 92 := ⟨by decide +kernel, rfl⟩
theorem eX11_isBridged_92 : zD cX11_isBridged 92 (.aload_n 0) 1 93 := ⟨by decide +kernel, rfl⟩
theorem eX11_isBridged_93 : zD cX11_isBridged 93 (.getfield 42) 3 96 := ⟨by decide +kernel, rfl⟩
theorem eX11_isBridged_96 : zD cX11_isBridged 96 (.getfield 106) 3 99 := ⟨by decide +kernel, rfl⟩
theorem eX11_isBridged_99 : zD cX11_isBridged 99 (.invokevirtual 151) 3 102 := ⟨by decide +kernel, rfl⟩
theorem eX11_isBridged_102 : zD cX11_isBridged 102 (.ifCond .eq 7) 3 105 := ⟨by decide +kernel, rfl⟩
theorem eX11_isBridged_105 : zD cX11_isBridged 105 (.iconst 1) 1 106 := ⟨by decide +kernel, rfl⟩
theorem eX11_isBridged_106 : zD cX11_isBridged 106 (.goto 4) 3 109 := ⟨by decide +kernel, rfl⟩
theorem eX11_isBridged_109 : zD cX11_isBridged 109 (.iconst 0) 1 110 := ⟨by decide +kernel, rfl⟩
theorem eX11_isBridged_110 : zD cX11_isBridged 110 (.ireturn) 1 111 := ⟨by decide +kernel, rfl⟩
theorem eX11_pairsPerhaps_0 : zD cX11_pairsPerhaps 0 (.iconst 0) 1 1 := ⟨by decide +kernel, rfl⟩
theorem eX11_pairsPerhaps_1 : zD cX11_pairsPerhaps 1 (.istore_n 3) 1 2 := ⟨by decide +kernel, rfl⟩
theorem eX11_pairsPerhaps_2 : zD cX11_pairsPerhaps 2 (.iconst 0) 1 3 := ⟨by decide +kernel, rfl⟩
theorem eX11_pairsPerhaps_3 : zD cX11_pairsPerhaps 3 (.istore 4) 2 5 := ⟨by decide +kernel, rfl⟩
theorem eX11_pairsPerhaps_5 : zD cX11_pairsPerhaps 5 (.iload 4) 2 7 := ⟨by decide +kernel, rfl⟩
theorem eX11_pairsPerhaps_7 : zD cX11_pairsPerhaps 7 (.aload_n 0) 1 8 := ⟨by decide +kernel, rfl⟩
theorem eX11_pairsPerhaps_8 : zD cX11_pairsPerhaps 8 (.getfield 42) 3 11 := ⟨by decide +kernel, rfl⟩
theorem eX11_pairsPerhaps_11 : zD cX11_pairsPerhaps 11 (.getfield 138) 3 14 := ⟨by decide +kernel, rfl⟩
theorem eX11_pairsPerhaps_14 : zD cX11_pairsPerhaps 14 (.if_icmp .ge 85) 3 17 := ⟨by decide +kernel, rfl⟩
theorem eX11_pairsPerhaps_17 : zD cX11_pairsPerhaps 17 (.iconst 0) 1 18 := ⟨by decide +kernel, rfl⟩
theorem eX11_pairsPerhaps_18 : zD cX11_pairsPerhaps 18 (.istore 5) 2 20 := ⟨by decide +kernel, rfl⟩
theorem eX11_pairsPerhaps_20 : zD cX11_pairsPerhaps 20 (.iload 5) 2 22 := ⟨by decide +kernel, rfl⟩
theorem eX11_pairsPerhaps_22 : zD cX11_pairsPerhaps 22 (.aload_n 0) 1 23 := ⟨by decide +kernel, rfl⟩
theorem eX11_pairsPerhaps_23 : zD cX11_pairsPerhaps 23 (.getfield 42) 3 26 := ⟨by decide +kernel, rfl⟩
theorem eX11_pairsPerhaps_26 : zD cX11_pairsPerhaps 26 (.getfield 138) 3 29 := ⟨by decide +kernel, rfl⟩
theorem eX11_pairsPerhaps_29 : zD cX11_pairsPerhaps 29 (.if_icmp .ge 64) 3 32 := ⟨by decide +kernel, rfl⟩
theorem eX11_pairsPerhaps_32 : zD cX11_pairsPerhaps 32 (.iload 4) 2 34 := ⟨by decide +kernel, rfl⟩
theorem eX11_pairsPerhaps_34 : zD cX11_pairsPerhaps 34 (.iload_n 1) 1 35 := ⟨by decide +kernel, rfl⟩
theorem eX11_pairsPerhaps_35 : zD cX11_pairsPerhaps 35 (.if_icmp .ne 7) 3 38 := ⟨by decide +kernel, rfl⟩
theorem eX11_pairsPerhaps_38 : zD cX11_pairsPerhaps 38 (.iconst 0) 1 39 := ⟨by decide +kernel, rfl⟩
theorem eX11_pairsPerhaps_39 : zD cX11_pairsPerhaps 39 (.goto 4) 3 42 := ⟨by decide +kernel, rfl⟩
theorem eX11_pairsPerhaps_42 : zD cX11_pairsPerhaps 42 (.iload_n 2) 1 43 := ⟨by decide +kernel, rfl⟩
theorem eX11_pairsPerhaps_43 : zD cX11_pairsPerhaps 43 (.istore 6) 2 45 := ⟨by decide +kernel, rfl⟩
theorem eX11_pairsPerhaps_45 : zD cX11_pairsPerhaps 45 (.iload 5) 2 47 := ⟨by decide +kernel, rfl⟩
theorem eX11_pairsPerhaps_47 : zD cX11_pairsPerhaps 47 (.iload_n 1) 1 48 := ⟨by decide +kernel, rfl⟩
theorem eX11_pairsPerhaps_48 : zD cX11_pairsPerhaps 48 (.if_icmp .ne 7) 3 51 := ⟨by decide +kernel, rfl⟩
theorem eX11_pairsPerhaps_51 : zD cX11_pairsPerhaps 51 (.iconst 0) 1 52 := ⟨by decide +kernel, rfl⟩
theorem eX11_pairsPerhaps_52 : zD cX11_pairsPerhaps 52 (.goto 4) 3 55 := ⟨by decide +kernel, rfl⟩
theorem eX11_pairsPerhaps_55 : zD cX11_pairsPerhaps 55 (.iload_n 2) 1 56 := ⟨by decide +kernel, rfl⟩
theorem eX11_pairsPerhaps_56 : zD cX11_pairsPerhaps 56 (.istore 7) 2 58 := ⟨by decide +kernel, rfl⟩
theorem eX11_pairsPerhaps_58 : zD cX11_pairsPerhaps 58 (.iload 4) 2 60 := ⟨by decide +kernel, rfl⟩
theorem eX11_pairsPerhaps_60 : zD cX11_pairsPerhaps 60 (.iload 5) 2 62 := ⟨by decide +kernel, rfl⟩
theorem eX11_pairsPerhaps_62 : zD cX11_pairsPerhaps 62 (.if_icmp .eq 25) 3 65 := ⟨by decide +kernel, rfl⟩
theorem eX11_pairsPerhaps_65 : zD cX11_pairsPerhaps 65 (.aload_n 0) 1 66 := ⟨by decide +kernel, rfl⟩
theorem eX11_pairsPerhaps_66 : zD cX11_pairsPerhaps 66 (.getfield 42) 3 69 := ⟨by decide +kernel, rfl⟩
theorem eX11_pairsPerhaps_69 : zD cX11_pairsPerhaps 69 (.iload 4) 2 71 := ⟨by decide +kernel, rfl⟩
theorem eX11_pairsPerhaps_71 : zD cX11_pairsPerhaps 71 (.iload 6) 2 73 := ⟨by decide +kernel, rfl⟩
theorem eX11_pairsPerhaps_73 : zD cX11_pairsPerhaps 73 (.iload 5) 2 75 := ⟨by decide +kernel, rfl⟩
theorem eX11_pairsPerhaps_75 : zD cX11_pairsPerhaps 75 (.iload 7) 2 77 := ⟨by decide +kernel, rfl⟩
theorem eX11_pairsPerhaps_77 : zD cX11_pairsPerhaps 77 (.invokevirtual 223) 3 80 := ⟨by decide +kernel, rfl⟩
theorem eX11_pairsPerhaps_80 : zD cX11_pairsPerhaps 80 (.iconst 1) 1 81 := ⟨by decide +kernel, rfl⟩
theorem eX11_pairsPerhaps_81 : zD cX11_pairsPerhaps 81 (.if_icmp .ne 6) 3 84 := ⟨by decide +kernel, rfl⟩
theorem eX11_pairsPerhaps_84 : zD cX11_pairsPerhaps 84 (.iinc 3 1) 3 87 := ⟨by decide +kernel, rfl⟩
theorem eX11_pairsPerhaps_87 : zD cX11_pairsPerhaps 87 (.iinc 5 1) 3 90 := ⟨by decide +kernel, rfl⟩
theorem eX11_pairsPerhaps_90 : zD cX11_pairsPerhaps 90 (.goto (-70)) 3 93 := ⟨by decide +kernel, rfl⟩
theorem eX11_pairsPerhaps_93 : zD cX11_pairsPerhaps 93 (.iinc 4 1) 3 96 := ⟨by decide +kernel, rfl⟩
theorem eX11_pairsPerhaps_96 : zD cX11_pairsPerhaps 96 (.goto (-91)) 3 99 := ⟨by decide +kernel, rfl⟩
theorem eX11_pairsPerhaps_99 : zD cX11_pairsPerhaps 99 (.iload_n 3) 1 100 := ⟨by decide +kernel, rfl⟩
theorem eX11_pairsPerhaps_100 : zD cX11_pairsPerhaps 100 (.ireturn) 1 101 := ⟨by decide +kernel, rfl⟩
theorem eX11_brokenBy_0 : zD cX11_brokenBy 0 (.iconst 0) 1 1 := ⟨by decide +kernel, rfl⟩
theorem eX11_brokenBy_1 : zD cX11_brokenBy 1 (.istore_n 3) 1 2 := ⟨by decide +kernel, rfl⟩
theorem eX11_brokenBy_2 : zD cX11_brokenBy 2 (.iload_n 2) 1 3 := ⟨by decide +kernel, rfl⟩
theorem eX11_brokenBy_3 : zD cX11_brokenBy 3 (.istore 4) 2 5 := ⟨by decide +kernel, rfl⟩
theorem eX11_brokenBy_5 : zD cX11_brokenBy 5 (.iconst 0) 1 6 := ⟨by decide +kernel, rfl⟩
theorem eX11_brokenBy_6 : zD cX11_brokenBy 6 (.istore 5) 2 8 := ⟨by decide +kernel, rfl⟩
theorem eX11_brokenBy_8 : zD cX11_brokenBy 8 (.iload 5) 2 10 := ⟨by decide +kernel, rfl⟩
theorem eX11_brokenBy_10 : zD cX11_brokenBy 10 (.iload_n 1) 1 11 := ⟨by decide +kernel, rfl⟩
theorem eX11_brokenBy_11 : zD cX11_brokenBy 11 (.if_icmp .ge 58) 3 14 := ⟨by decide +kernel, rfl⟩
theorem eX11_brokenBy_14 : zD cX11_brokenBy 14 (.aload_n 0) 1 15 := ⟨by decide +kernel, rfl⟩
theorem eX11_brokenBy_15 : zD cX11_brokenBy 15 (.getfield 42) 3 18 := ⟨by decide +kernel, rfl⟩
theorem eX11_brokenBy_18 : zD cX11_brokenBy 18 (.getfield 138) 3 21 := ⟨by decide +kernel, rfl⟩
theorem eX11_brokenBy_21 : zD cX11_brokenBy 21 (.ifCond .le 48) 3 24 := ⟨by decide +kernel, rfl⟩
theorem eX11_brokenBy_24 : zD cX11_brokenBy 24 (.iload 4) 2 26 := ⟨by decide +kernel, rfl⟩
theorem eX11_brokenBy_26 : zD cX11_brokenBy 26 (.ldc_w 306) 3 29 := ⟨by decide +kernel, rfl⟩
theorem eX11_brokenBy_29 : zD cX11_brokenBy 29 (.imul) 1 30 := ⟨by decide +kernel, rfl⟩
theorem eX11_brokenBy_30 : zD cX11_brokenBy 30 (.sipush 12345) 3 33 := ⟨by decide +kernel, rfl⟩
theorem eX11_brokenBy_33 : zD cX11_brokenBy 33 (.iadd) 1 34 := ⟨by decide +kernel, rfl⟩
theorem eX11_brokenBy_34 : zD cX11_brokenBy 34 (.istore 4) 2 36 := ⟨by decide +kernel, rfl⟩
theorem eX11_brokenBy_36 : zD cX11_brokenBy 36 (.iload 4) 2 38 := ⟨by decide +kernel, rfl⟩
theorem eX11_brokenBy_38 : zD cX11_brokenBy 38 (.ldc_w 307) 3 41 := ⟨by decide +kernel, rfl⟩
theorem eX11_brokenBy_41 : zD cX11_brokenBy 41 (.iand) 1 42 := ⟨by decide +kernel, rfl⟩
theorem eX11_brokenBy_42 : zD cX11_brokenBy 42 (.ldc_w 308) 3 45 := ⟨by decide +kernel, rfl⟩
theorem eX11_brokenBy_45 : zD cX11_brokenBy 45 (.idiv) 1 46 := ⟨by decide +kernel, rfl⟩
theorem eX11_brokenBy_46 : zD cX11_brokenBy 46 (.aload_n 0) 1 47 := ⟨by decide +kernel, rfl⟩
theorem eX11_brokenBy_47 : zD cX11_brokenBy 47 (.getfield 42) 3 50 := ⟨by decide +kernel, rfl⟩
theorem eX11_brokenBy_50 : zD cX11_brokenBy 50 (.getfield 138) 3 53 := ⟨by decide +kernel, rfl⟩
theorem eX11_brokenBy_53 : zD cX11_brokenBy 53 (.irem) 1 54 := ⟨by decide +kernel, rfl⟩
theorem eX11_brokenBy_54 : zD cX11_brokenBy 54 (.istore 6) 2 56 := ⟨by decide +kernel, rfl⟩
theorem eX11_brokenBy_56 : zD cX11_brokenBy 56 (.iload_n 3) 1 57 := ⟨by decide +kernel, rfl⟩
theorem eX11_brokenBy_57 : zD cX11_brokenBy 57 (.iconst 1) 1 58 := ⟨by decide +kernel, rfl⟩
theorem eX11_brokenBy_58 : zD cX11_brokenBy 58 (.iload 6) 2 60 := ⟨by decide +kernel, rfl⟩
theorem eX11_brokenBy_60 : zD cX11_brokenBy 60 (.ishl) 1 61 := ⟨by decide +kernel, rfl⟩
theorem eX11_brokenBy_61 : zD cX11_brokenBy 61 (.ior) 1 62 := ⟨by decide +kernel, rfl⟩
theorem eX11_brokenBy_62 : zD cX11_brokenBy 62 (.istore_n 3) 1 63 := ⟨by decide +kernel, rfl⟩
theorem eX11_brokenBy_63 : zD cX11_brokenBy 63 (.iinc 5 1) 3 66 := ⟨by decide +kernel, rfl⟩
theorem eX11_brokenBy_66 : zD cX11_brokenBy 66 (.goto (-58)) 3 69 := ⟨by decide +kernel, rfl⟩
theorem eX11_brokenBy_69 : zD cX11_brokenBy 69 (.iload_n 3) 1 70 := ⟨by decide +kernel, rfl⟩
theorem eX11_brokenBy_70 : zD cX11_brokenBy 70 (.ireturn) 1 71 := ⟨by decide +kernel, rfl⟩
theorem eX12_init_0 : zD cX12_init 0 (.aload_n 0) 1 1 := ⟨by decide +kernel, rfl⟩
theorem eX12_init_1 : zD cX12_init 1 (.invokespecial 1) 3 4 := ⟨by decide +kernel, rfl⟩
theorem eX12_init_4 : zD cX12_init 4 (.aload_n 0) 1 5 := ⟨by decide +kernel, rfl⟩
theorem eX12_init_5 : zD cX12_init 5 (.bipush 52) 2 7 := ⟨by decide +kernel, rfl⟩
theorem eX12_init_7 : zD cX12_init 7 (.newarray .int) 2 9 := ⟨by decide +kernel, rfl⟩
theorem eX12_init_9 : zD cX12_init 9 (.putfield 9) 3 12 := ⟨by decide +kernel, rfl⟩
theorem eX12_init_12 : zD cX12_init 12 (.aload_n 0) 1 13 := ⟨by decide +kernel, rfl⟩
theorem eX12_init_13 : zD cX12_init 13 (.bipush 52) 2 15 := ⟨by decide +kernel, rfl⟩
theorem eX12_init_15 : zD cX12_init 15 (.newarray .int) 2 17 := ⟨by decide +kernel, rfl⟩
theorem eX12_init_17 : zD cX12_init 17 (.putfield 13) 3 20 := ⟨by decide +kernel, rfl⟩
theorem eX12_init_20 : zD cX12_init 20 (.aload_n 0) 1 21 := ⟨by decide +kernel, rfl⟩
theorem eX12_init_21 : zD cX12_init 21 (.bipush 52) 2 23 := ⟨by decide +kernel, rfl⟩
theorem eX12_init_23 : zD cX12_init 23 (.newarray .int) 2 25 := ⟨by decide +kernel, rfl⟩
theorem eX12_init_25 : zD cX12_init 25 (.putfield 16) 3 28 := ⟨by decide +kernel, rfl⟩
theorem eX12_init_28 : zD cX12_init 28 (.aload_n 0) 1 29 := ⟨by decide +kernel, rfl⟩
theorem eX12_init_29 : zD cX12_init 29 (.bipush 8) 2 31 := ⟨by decide +kernel, rfl⟩
theorem eX12_init_31 : zD cX12_init 31 (.newarray .int) 2 33 := ⟨by decide +kernel, rfl⟩
theorem eX12_init_33 : zD cX12_init 33 (.putfield 19) 3 36 := ⟨by decide +kernel, rfl⟩
theorem eX12_init_36 : zD cX12_init 36 (.aload_n 0) 1 37 := ⟨by decide +kernel, rfl⟩
theorem eX12_init_37 : zD cX12_init 37 (.bipush 8) 2 39 := ⟨by decide +kernel, rfl⟩
theorem eX12_init_39 : zD cX12_init 39 (.newarray .int) 2 41 := ⟨by decide +kernel, rfl⟩
theorem eX12_init_41 : zD cX12_init 41 (.putfield 22) 3 44 := ⟨by decide +kernel, rfl⟩
theorem eX12_init_44 : zD cX12_init 44 (.aload_n 0) 1 45 := ⟨by decide +kernel, rfl⟩
theorem eX12_init_45 : zD cX12_init 45 (.bipush 8) 2 47 := ⟨by decide +kernel, rfl⟩
theorem eX12_init_47 : zD cX12_init 47 (.newarray .int) 2 49 := ⟨by decide +kernel, rfl⟩
theorem eX12_init_49 : zD cX12_init 49 (.putfield 25) 3 52 := ⟨by decide +kernel, rfl⟩
theorem eX12_init_52 : zD cX12_init 52 (.aload_n 0) 1 53 := ⟨by decide +kernel, rfl⟩
theorem eX12_init_53 : zD cX12_init 53 (.sipush 800) 3 56 := ⟨by decide +kernel, rfl⟩
theorem eX12_init_56 : zD cX12_init 56 (.newarray .int) 2 58 := ⟨by decide +kernel, rfl⟩
theorem eX12_init_58 : zD cX12_init 58 (.putfield 28) 3 61 := ⟨by decide +kernel, rfl⟩
theorem eX12_init_61 : zD cX12_init 61 (.aload_n 0) 1 62 := ⟨by decide +kernel, rfl⟩
theorem eX12_init_62 : zD cX12_init 62 (.bipush 8) 2 64 := ⟨by decide +kernel, rfl⟩
theorem eX12_init_64 : zD cX12_init 64 (.newarray .int) 2 66 := ⟨by decide +kernel, rfl⟩
theorem eX12_init_66 : zD cX12_init 66 (.putfield 31) 3 69 := ⟨by decide +kernel, rfl⟩
theorem eX12_init_69 : zD cX12_init 69 (.aload_n 0) 1 70 := ⟨by decide +kernel, rfl⟩
theorem eX12_init_70 : zD cX12_init 70 (.bipush 8) 2 72 := ⟨by decide +kernel, rfl⟩
theorem eX12_init_72 : zD cX12_init 72 (.newarray .int) 2 74 := ⟨by decide +kernel, rfl⟩
theorem eX12_init_74 : zD cX12_init 74 (.putfield 34) 3 77 := ⟨by decide +kernel, rfl⟩
theorem eX12_init_77 : zD cX12_init 77 (.aload_n 0) 1 78 := ⟨by decide +kernel, rfl⟩
theorem eX12_init_78 : zD cX12_init 78 (.iconst 5) 1 79 := ⟨by decide +kernel, rfl⟩
theorem eX12_init_79 : zD cX12_init 79 (.newarray .int) 2 81 := ⟨by decide +kernel, rfl⟩
theorem eX12_init_81 : zD cX12_init 81 (.putfield 37) 3 84 := ⟨by decide +kernel, rfl⟩
theorem eX12_init_84 : zD cX12_init 84 (.aload_n 0) 1 85 := ⟨by decide +kernel, rfl⟩
theorem eX12_init_85 : zD cX12_init 85 (.sipush 512) 3 88 := ⟨by decide +kernel, rfl⟩
theorem eX12_init_88 : zD cX12_init 88 (.newarray .int) 2 90 := ⟨by decide +kernel, rfl⟩
theorem eX12_init_90 : zD cX12_init 90 (.putfield 40) 3 93 := ⟨by decide +kernel, rfl⟩
theorem eX12_init_93 : zD cX12_init 93 (.aload_n 0) 1 94 := ⟨by decide +kernel, rfl⟩
theorem eX12_init_94 : zD cX12_init 94 (.sipush 512) 3 97 := ⟨by decide +kernel, rfl⟩
theorem eX12_init_97 : zD cX12_init 97 (.newarray .int) 2 99 := ⟨by decide +kernel, rfl⟩
theorem eX12_init_99 : zD cX12_init 99 (.putfield 43) 3 102 := ⟨by decide +kernel, rfl⟩
theorem eX12_init_102 : zD cX12_init 102 (.aload_n 0) 1 103 := ⟨by decide +kernel, rfl⟩
theorem eX12_init_103 : zD cX12_init 103 (.bipush 10) 2 105 := ⟨by decide +kernel, rfl⟩
theorem eX12_init_105 : zD cX12_init 105 (.newarray .int) 2 107 := ⟨by decide +kernel, rfl⟩
theorem eX12_init_107 : zD cX12_init 107 (.putfield 46) 3 110 := ⟨by decide +kernel, rfl⟩
theorem eX12_init_110 : zD cX12_init 110 (.return_) 1 111 := ⟨by decide +kernel, rfl⟩
theorem eX12_thrown_0 : zD cX12_thrown 0 (.aload_n 0) 1 1 := ⟨by decide +kernel, rfl⟩
theorem eX12_thrown_1 : zD cX12_thrown 1 (.getfield 49) 3 4 := ⟨by decide +kernel, rfl⟩
theorem eX12_thrown_4 : zD cX12_thrown 4 (.ireturn) 1 5 := ⟨by decide +kernel, rfl⟩
theorem eX12_isIn_0 : zD cX12_isIn 0 (.lload_n 0) 1 1 := ⟨by decide +kernel, rfl⟩
theorem eX12_isIn_1 : zD cX12_isIn 1 (.lload_n 2) 1 2 := ⟨by decide +kernel, rfl⟩
theorem eX12_isIn_2 : zD cX12_isIn 2 (.lcmp) 1 3 := ⟨by decide +kernel, rfl⟩
theorem eX12_isIn_3 : zD cX12_isIn 3 (.ifCond .lt 14) 3 6 := ⟨by decide +kernel, rfl⟩
theorem eX12_isIn_6 : zD cX12_isIn 6 (.lload_n 0) 1 7 := ⟨by decide +kernel, rfl⟩
theorem eX12_isIn_7 : zD cX12_isIn 7 (.lload 4) 2 9 := ⟨by decide +kernel, rfl⟩
theorem eX12_isIn_9 : zD cX12_isIn 9 (.lcmp) 1 10 := ⟨by decide +kernel, rfl⟩
theorem eX12_isIn_10 : zD cX12_isIn 10 (.ifCond .gt 7) 3 13 := ⟨by decide +kernel, rfl⟩
theorem eX12_isIn_13 : zD cX12_isIn 13 (.iconst 1) 1 14 := ⟨by decide +kernel, rfl⟩
theorem eX12_isIn_14 : zD cX12_isIn 14 (.goto 4) 3 17 := ⟨by decide +kernel, rfl⟩
theorem eX12_isIn_17 : zD cX12_isIn 17 (.iconst 0) 1 18 := ⟨by decide +kernel, rfl⟩
theorem eX12_isIn_18 : zD cX12_isIn 18 (.ireturn) 1 19 := ⟨by decide +kernel, rfl⟩
theorem eX12_isShelf_0 : zD cX12_isShelf 0 (.iload_n 0) 1 1 := ⟨by decide +kernel, rfl⟩
theorem eX12_isShelf_1 : zD cX12_isShelf 1 (.i2l) 1 2 := ⟨by decide +kernel, rfl⟩
theorem eX12_isShelf_2 : zD cX12_isShelf 2 (.lconst 0) 1 3 := ⟨by decide +kernel, rfl⟩
theorem eX12_isShelf_3 : zD cX12_isShelf 3 (.ldc2_w 53) 3 6 := ⟨by decide +kernel, rfl⟩
theorem eX12_isShelf_6 : zD cX12_isShelf 6 (.invokestatic 55) 3 9 := ⟨by decide +kernel, rfl⟩
theorem eX12_isShelf_9 : zD cX12_isShelf 9 (.ireturn) 1 10 := ⟨by decide +kernel, rfl⟩
theorem eX12_isBowl_0 : zD cX12_isBowl 0 (.iload_n 1) 1 1 := ⟨by decide +kernel, rfl⟩
theorem eX12_isBowl_1 : zD cX12_isBowl 1 (.i2l) 1 2 := ⟨by decide +kernel, rfl⟩
theorem eX12_isBowl_2 : zD cX12_isBowl 2 (.lconst 0) 1 3 := ⟨by decide +kernel, rfl⟩
theorem eX12_isBowl_3 : zD cX12_isBowl 3 (.aload_n 0) 1 4 := ⟨by decide +kernel, rfl⟩
theorem eX12_isBowl_4 : zD cX12_isBowl 4 (.getfield 9) 3 7 := ⟨by decide +kernel, rfl⟩
theorem eX12_isBowl_7 : zD cX12_isBowl 7 (.iconst 0) 1 8 := ⟨by decide +kernel, rfl⟩
theorem eX12_isBowl_8 : zD cX12_isBowl 8 (.iaload) 1 9 := ⟨by decide +kernel, rfl⟩
theorem eX12_isBowl_9 : zD cX12_isBowl 9 (.iconst 1) 1 10 := ⟨by decide +kernel, rfl⟩
theorem eX12_isBowl_10 : zD cX12_isBowl 10 (.isub) 1 11 := ⟨by decide +kernel, rfl⟩
theorem eX12_isBowl_11 : zD cX12_isBowl 11 (.i2l) 1 12 := ⟨by decide +kernel, rfl⟩
theorem eX12_isBowl_12 : zD cX12_isBowl 12 (.invokestatic 55) 3 15 := ⟨by decide +kernel, rfl⟩
theorem eX12_isBowl_15 : zD cX12_isBowl 15 (.ireturn) 1 16 := ⟨by decide +kernel, rfl⟩
theorem eX12_get_0 : zD cX12_get 0 (.aload_n 0) 1 1 := ⟨by decide +kernel, rfl⟩
theorem eX12_get_1 : zD cX12_get 1 (.getfield 9) 3 4 := ⟨by decide +kernel, rfl⟩
theorem eX12_get_4 : zD cX12_get 4 (.iconst 2) 1 5 := ⟨by decide +kernel, rfl⟩
theorem eX12_get_5 : zD cX12_get 5 (.iconst 5) 1 6 := ⟨by decide +kernel, rfl⟩
theorem eX12_get_6 : zD cX12_get 6 (.iload_n 1) 1 7 := ⟨by decide +kernel, rfl⟩
theorem eX12_get_7 : zD cX12_get 7 (.imul) 1 8 := ⟨by decide +kernel, rfl⟩
theorem eX12_get_8 : zD cX12_get 8 (.iadd) 1 9 := ⟨by decide +kernel, rfl⟩
theorem eX12_get_9 : zD cX12_get 9 (.iload_n 2) 1 10 := ⟨by decide +kernel, rfl⟩
theorem eX12_get_10 : zD cX12_get 10 (.iadd) 1 11 := ⟨by decide +kernel, rfl⟩
theorem eX12_get_11 : zD cX12_get 11 (.iaload) 1 12 := ⟨by decide +kernel, rfl⟩
theorem eX12_get_12 : zD cX12_get 12 (.ireturn) 1 13 := ⟨by decide +kernel, rfl⟩
theorem eX12_puts_0 : zD cX12_puts 0 (.aload_n 0) 1 1 := ⟨by decide +kernel, rfl⟩
theorem eX12_puts_1 : zD cX12_puts 1 (.getfield 9) 3 4 := ⟨by decide +kernel, rfl⟩
theorem eX12_puts_4 : zD cX12_puts 4 (.iconst 2) 1 5 := ⟨by decide +kernel, rfl⟩
theorem eX12_puts_5 : zD cX12_puts 5 (.iconst 5) 1 6 := ⟨by decide +kernel, rfl⟩
theorem eX12_puts_6 : zD cX12_puts 6 (.iload_n 1) 1 7 := ⟨by decide +kernel, rfl⟩
theorem eX12_puts_7 : zD cX12_puts 7 (.imul) 1 8 := ⟨by decide +kernel, rfl⟩
theorem eX12_puts_8 : zD cX12_puts 8 (.iadd) 1 9 := ⟨by decide +kernel, rfl⟩
theorem eX12_puts_9 : zD cX12_puts 9 (.iload_n 2) 1 10 := ⟨by decide +kernel, rfl⟩
theorem eX12_puts_10 : zD cX12_puts 10 (.iadd) 1 11 := ⟨by decide +kernel, rfl⟩
theorem eX12_puts_11 : zD cX12_puts 11 (.iload_n 3) 1 12 := ⟨by decide +kernel, rfl⟩
theorem eX12_puts_12 : zD cX12_puts 12 (.iastore) 1 13 := ⟨by decide +kernel, rfl⟩
theorem eX12_puts_13 : zD cX12_puts 13 (.return_) 1 14 := ⟨by decide +kernel, rfl⟩
theorem eX12_lays_0 : zD cX12_lays 0 (.iconst 0) 1 1 := ⟨by decide +kernel, rfl⟩
theorem eX12_lays_1 : zD cX12_lays 1 (.istore_n 2) 1 2 := ⟨by decide +kernel, rfl⟩
theorem eX12_lays_2 : zD cX12_lays 2 (.iload_n 2) 1 3 := ⟨by decide +kernel, rfl⟩
theorem eX12_lays_3 : zD cX12_lays 3 (.bipush 52) 2 5 := ⟨by decide +kernel, rfl⟩
theorem eX12_lays_5 : zD cX12_lays 5 (.if_icmp .ge 15) 3 8 := ⟨by decide +kernel, rfl⟩
theorem eX12_lays_8 : zD cX12_lays 8 (.aload_n 1) 1 9 := ⟨by decide +kernel, rfl⟩
theorem eX12_lays_9 : zD cX12_lays 9 (.iload_n 2) 1 10 := ⟨by decide +kernel, rfl⟩
theorem eX12_lays_10 : zD cX12_lays 10 (.aload_n 0) 1 11 := ⟨by decide +kernel, rfl⟩
theorem eX12_lays_11 : zD cX12_lays 11 (.iload_n 2) 1 12 := ⟨by decide +kernel, rfl⟩
theorem eX12_lays_12 : zD cX12_lays 12 (.iaload) 1 13 := ⟨by decide +kernel, rfl⟩
theorem eX12_lays_13 : zD cX12_lays 13 (.iastore) 1 14 := ⟨by decide +kernel, rfl⟩
theorem eX12_lays_14 : zD cX12_lays 14 (.iinc 2 1) 3 17 := ⟨by decide +kernel, rfl⟩
theorem eX12_lays_17 : zD cX12_lays 17 (.goto (-15)) 3 20 := ⟨by decide +kernel, rfl⟩
theorem eX12_lays_20 : zD cX12_lays 20 (.return_) 1 21 := ⟨by decide +kernel, rfl⟩
theorem eX12_bits_0 : zD cX12_bits 0 (.iconst 0) 1 1 := ⟨by decide +kernel, rfl⟩
theorem eX12_bits_1 : zD cX12_bits 1 (.istore_n 1) 1 2 := ⟨by decide +kernel, rfl⟩
theorem eX12_bits_2 : zD cX12_bits 2 (.iload_n 0) 1 3 := ⟨by decide +kernel, rfl⟩
theorem eX12_bits_3 : zD cX12_bits 3 (.istore_n 2) 1 4 := ⟨by decide +kernel, rfl⟩
theorem eX12_bits_4 : zD cX12_bits 4 (.iload_n 2) 1 5 := ⟨by decide +kernel, rfl⟩
theorem eX12_bits_5 : zD cX12_bits 5 (.ifCond .le 16) 3 8 := ⟨by decide +kernel, rfl⟩
theorem eX12_bits_8 : zD cX12_bits 8 (.iload_n 1) 1 9 := ⟨by decide +kernel, rfl⟩
theorem eX12_bits_9 : zD cX12_bits 9 (.iload_n 2) 1 10 := ⟨by decide +kernel, rfl⟩
theorem eX12_bits_10 : zD cX12_bits 10 (.iconst 1) 1 11 := ⟨by decide +kernel, rfl⟩
theorem eX12_bits_11 : zD cX12_bits 11 (.iand) 1 12 := ⟨by decide +kernel, rfl⟩
theorem eX12_bits_12 : zD cX12_bits 12 (.iadd) 1 13 := ⟨by decide +kernel, rfl⟩
theorem eX12_bits_13 : zD cX12_bits 13 (.istore_n 1) 1 14 := ⟨by decide +kernel, rfl⟩
theorem eX12_bits_14 : zD cX12_bits 14 (.iload_n 2) 1 15 := ⟨by decide +kernel, rfl⟩
theorem eX12_bits_15 : zD cX12_bits 15 (.iconst 1) 1 16 := ⟨by decide +kernel, rfl⟩
theorem eX12_bits_16 : zD cX12_bits 16 (.ishr) 1 17 := ⟨by decide +kernel, rfl⟩
theorem eX12_bits_17 : zD cX12_bits 17 (.istore_n 2) 1 18 := ⟨by decide +kernel, rfl⟩
theorem eX12_bits_18 : zD cX12_bits 18 (.goto (-14)) 3 21 := ⟨by decide +kernel, rfl⟩
theorem eX12_bits_21 : zD cX12_bits 21 (.iload_n 1) 1 22 := ⟨by decide +kernel, rfl⟩
theorem eX12_bits_22 : zD cX12_bits 22 (.ireturn) 1 23 := ⟨by decide +kernel, rfl⟩
theorem eX12_everything_0 : zD cX12_everything 0 (.iconst 1) 1 1 := ⟨by decide +kernel, rfl⟩
theorem eX12_everything_1 : zD cX12_everything 1 (.aload_n 0) 1 2 := ⟨by decide +kernel, rfl⟩
theorem eX12_everything_2 : zD cX12_everything 2 (.getfield 9) 3 5 := ⟨by decide +kernel, rfl⟩
theorem eX12_everything_5 : zD cX12_everything 5 (.iconst 0) 1 6 := ⟨by decide +kernel, rfl⟩
theorem eX12_everything_6 : zD cX12_everything 6 (.iaload) 1 7 := ⟨by decide +kernel, rfl⟩
theorem eX12_everything_7 : zD cX12_everything 7 (.ishl) 1 8 := ⟨by decide +kernel, rfl⟩
theorem eX12_everything_8 : zD cX12_everything 8 (.iconst 1) 1 9 := ⟨by decide +kernel, rfl⟩
theorem eX12_everything_9 : zD cX12_everything 9 (.isub) 1 10 := ⟨by decide +kernel, rfl⟩
theorem eX12_everything_10 : zD cX12_everything 10 (.ireturn) 1 11 := ⟨by decide +kernel, rfl⟩
theorem eX12_areBowls_0 : zD cX12_areBowls 0 (.iload_n 1) 1 1 := ⟨by decide +kernel, rfl⟩
theorem eX12_areBowls_1 : zD cX12_areBowls 1 (.ifCond .lt 15) 3 4 := ⟨by decide +kernel, rfl⟩
theorem eX12_areBowls_4 : zD cX12_areBowls 4 (.iload_n 1) 1 5 := ⟨by decide +kernel, rfl⟩
theorem eX12_areBowls_5 : zD cX12_areBowls 5 (.aload_n 0) 1 6 := ⟨by decide +kernel, rfl⟩
theorem eX12_areBowls_6 : zD cX12_areBowls 6 (.invokevirtual 59) 3 9 := ⟨by decide +kernel, rfl⟩
theorem eX12_areBowls_9 : zD cX12_areBowls 9 (.if_icmp .gt 7) 3 12 := ⟨by decide +kernel, rfl⟩
theorem eX12_areBowls_12 : zD cX12_areBowls 12 (.iconst 1) 1 13 := ⟨by decide +kernel, rfl⟩
theorem eX12_areBowls_13 : zD cX12_areBowls 13 (.goto 4) 3 16 := ⟨by decide +kernel, rfl⟩
theorem eX12_areBowls_16 : zD cX12_areBowls 16 (.iconst 0) 1 17 := ⟨by decide +kernel, rfl⟩
theorem eX12_areBowls_17 : zD cX12_areBowls 17 (.ireturn) 1 18 := ⟨by decide +kernel, rfl⟩
theorem eX12_turned_0 : zD cX12_turned 0 (.aload_n 0) 1 1 := ⟨by decide +kernel, rfl⟩
theorem eX12_turned_1 : zD cX12_turned 1 (.iload_n 1) 1 2 := ⟨by decide +kernel, rfl⟩
theorem eX12_turned_2 : zD cX12_turned 2 (.iconst 2) 1 3 := ⟨by decide +kernel, rfl⟩
theorem eX12_turned_3 : zD cX12_turned 3 (.invokevirtual 63) 3 6 := ⟨by decide +kernel, rfl⟩
theorem eX12_turned_6 : zD cX12_turned 6 (.iconst 1) 1 7 := ⟨by decide +kernel, rfl⟩
theorem eX12_turned_7 : zD cX12_turned 7 (.if_icmp .ne 12) 3 10 := ⟨by decide +kernel, rfl⟩
theorem eX12_turned_10 : zD cX12_turned 10 (.aload_n 0) 1 11 := ⟨by decide +kernel, rfl⟩
theorem eX12_turned_11 : zD cX12_turned 11 (.iload_n 1) 1 12 := ⟨by decide +kernel, rfl⟩
theorem eX12_turned_12 : zD cX12_turned 12 (.iconst 1) 1 13 := ⟨by decide +kernel, rfl⟩
theorem eX12_turned_13 : zD cX12_turned 13 (.invokevirtual 63) 3 16 := ⟨by decide +kernel, rfl⟩
theorem eX12_turned_16 : zD cX12_turned 16 (.goto 4) 3 19 := ⟨by decide +kernel, rfl⟩
theorem eX12_turned_19 : zD cX12_turned 19 (.iconst 0) 1 20 := ⟨by decide +kernel, rfl⟩
theorem eX12_turned_20 : zD cX12_turned 20 (.ireturn) 1 21 := ⟨by decide +kernel, rfl⟩
theorem eX12_outsideBy_0 : zD cX12_outsideBy 0 (.aload_n 0) 1 1 := ⟨by decide +kernel, rfl⟩
theorem eX12_outsideBy_1 : zD cX12_outsideBy 1 (.iload_n 1) 1 2 := ⟨by decide +kernel, rfl⟩
theorem eX12_outsideBy_2 : zD cX12_outsideBy 2 (.iconst 1) 1 3 := ⟨by decide +kernel, rfl⟩
theorem eX12_outsideBy_3 : zD cX12_outsideBy 3 (.invokevirtual 63) 3 6 := ⟨by decide +kernel, rfl⟩
theorem eX12_outsideBy_6 : zD cX12_outsideBy 6 (.istore_n 3) 1 7 := ⟨by decide +kernel, rfl⟩
theorem eX12_outsideBy_7 : zD cX12_outsideBy 7 (.aload_n 0) 1 8 := ⟨by decide +kernel, rfl⟩
theorem eX12_outsideBy_8 : zD cX12_outsideBy 8 (.iload_n 1) 1 9 := ⟨by decide +kernel, rfl⟩
theorem eX12_outsideBy_9 : zD cX12_outsideBy 9 (.iconst 0) 1 10 := ⟨by decide +kernel, rfl⟩
theorem eX12_outsideBy_10 : zD cX12_outsideBy 10 (.invokevirtual 63) 3 13 := ⟨by decide +kernel, rfl⟩
theorem eX12_outsideBy_13 : zD cX12_outsideBy 13 (.tableswitch 80 1 7 #[43, 51, 80, 66, 76, 80, 51]) 43 56 := ⟨by decide +kernel, rfl⟩
theorem eX12_outsideBy_56 : zD cX12_outsideBy 56 (.iload_n 2) 1 57 := ⟨by decide +kernel, rfl⟩
theorem eX12_outsideBy_57 : zD cX12_outsideBy 57 (.aload_n 0) 1 58 := ⟨by decide +kernel, rfl⟩
theorem eX12_outsideBy_58 : zD cX12_outsideBy 58 (.iload_n 1) 1 59 := ⟨by decide +kernel, rfl⟩
theorem eX12_outsideBy_59 : zD cX12_outsideBy 59 (.invokevirtual 67) 3 62 := ⟨by decide +kernel, rfl⟩
theorem eX12_outsideBy_62 : zD cX12_outsideBy 62 (.iadd) 1 63 := ⟨by decide +kernel, rfl⟩
theorem eX12_outsideBy_63 : zD cX12_outsideBy 63 (.ireturn) 1 64 := ⟨by decide +kernel, rfl⟩
theorem eX12_outsideBy_64 : zD cX12_outsideBy 64 (.iload_n 2) 1 65 := ⟨by decide +kernel, rfl⟩
theorem eX12_outsideBy_65 : zD cX12_outsideBy 65 (.iload_n 3) 1 66 := ⟨by decide +kernel, rfl⟩
theorem eX12_outsideBy_66 : zD cX12_outsideBy 66 (.isub) 1 67 := ⟨by decide +kernel, rfl⟩
theorem eX12_outsideBy_67 : zD cX12_outsideBy 67 (.iconst 1) 1 68 := ⟨by decide +kernel, rfl⟩
theorem eX12_outsideBy_68 : zD cX12_outsideBy 68 (.if_icmp .ge 7) 3 71 := ⟨by decide +kernel, rfl⟩
theorem eX12_outsideBy_71 : zD cX12_outsideBy 71 (.iconst 1) 1 72 := ⟨by decide +kernel, rfl⟩
theorem eX12_outsideBy_72 : zD cX12_outsideBy 72 (.goto 6) 3 75 := ⟨by decide +kernel, rfl⟩
theorem eX12_outsideBy_75 : zD cX12_outsideBy 75 (.iload_n 2) 1 76 := ⟨by decide +kernel, rfl⟩
theorem eX12_outsideBy_76 : zD cX12_outsideBy 76 (.iload_n 3) 1 77 := ⟨by decide +kernel, rfl⟩
theorem eX12_outsideBy_77 : zD cX12_outsideBy 77 (.isub) 1 78 := ⟨by decide +kernel, rfl⟩
theorem eX12_outsideBy_78 : zD cX12_outsideBy 78 (.ireturn) 1 79 := ⟨by decide +kernel, rfl⟩
theorem eX12_outsideBy_79 : zD cX12_outsideBy 79 (.iload_n 2) 1 80 := ⟨by decide +kernel, rfl⟩
theorem eX12_outsideBy_80 : zD cX12_outsideBy 80 (.aload_n 0) 1 81 := ⟨by decide +kernel, rfl⟩
theorem eX12_outsideBy_81 : zD cX12_outsideBy 81 (.iload_n 1) 1 82 := ⟨by decide +kernel, rfl⟩
theorem eX12_outsideBy_82 : zD cX12_outsideBy 82 (.invokevirtual 67) 3 85 := ⟨by decide +kernel, rfl⟩
theorem eX12_outsideBy_85 : zD cX12_outsideBy 85 (.iadd) 1 86 := ⟨by decide +kernel, rfl⟩
theorem eX12_outsideBy_86 : zD cX12_outsideBy 86 (.iconst 1) 1 87 := ⟨by decide +kernel, rfl⟩
theorem eX12_outsideBy_87 : zD cX12_outsideBy 87 (.iadd) 1 88 := ⟨by decide +kernel, rfl⟩
theorem eX12_outsideBy_88 : zD cX12_outsideBy 88 (.ireturn) 1 89 := ⟨by decide +kernel, rfl⟩
theorem eX12_outsideBy_89 : zD cX12_outsideBy 89 (.iload_n 2) 1 90 := ⟨by decide +kernel, rfl⟩
theorem eX12_outsideBy_90 : zD cX12_outsideBy 90 (.iconst 2) 1 91 := ⟨by decide +kernel, rfl⟩
theorem eX12_outsideBy_91 : zD cX12_outsideBy 91 (.iadd) 1 92 := ⟨by decide +kernel, rfl⟩
theorem eX12_outsideBy_92 : zD cX12_outsideBy 92 (.ireturn) 1 93 := ⟨by decide +kernel, rfl⟩
theorem eX12_outsideBy_93 : zD cX12_outsideBy 93 (.iload_n 2) 1 94 := ⟨by decide +kernel, rfl⟩
theorem eX12_outsideBy_94 : zD cX12_outsideBy 94 (.ireturn) 1 95 := ⟨by decide +kernel, rfl⟩
theorem eX12_insideBy_0 : zD cX12_insideBy 0 (.iload_n 2) 1 1 := ⟨by decide +kernel, rfl⟩
theorem eX12_insideBy_1 : zD cX12_insideBy 1 (.iconst 2) 1 2 := ⟨by decide +kernel, rfl⟩
theorem eX12_insideBy_2 : zD cX12_insideBy 2 (.isub) 1 3 := ⟨by decide +kernel, rfl⟩
theorem eX12_insideBy_3 : zD cX12_insideBy 3 (.iload_n 3) 1 4 := ⟨by decide +kernel, rfl⟩
theorem eX12_insideBy_4 : zD cX12_insideBy 4 (.isub) 1 5 := ⟨by decide +kernel, rfl⟩
theorem eX12_insideBy_5 : zD cX12_insideBy 5 (.istore 4) 2 7 := ⟨by decide +kernel, rfl⟩
theorem eX12_insideBy_7 : zD cX12_insideBy 7 (.aload_n 0) 1 8 := ⟨by decide +kernel, rfl⟩
theorem eX12_insideBy_8 : zD cX12_insideBy 8 (.iload_n 1) 1 9 := ⟨by decide +kernel, rfl⟩
theorem eX12_insideBy_9 : zD cX12_insideBy 9 (.iconst 0) 1 10 := ⟨by decide +kernel, rfl⟩
theorem eX12_insideBy_10 : zD cX12_insideBy 10 (.invokevirtual 63) 3 13 := ⟨by decide +kernel, rfl⟩
theorem eX12_insideBy_13 : zD cX12_insideBy 13 (.tableswitch 71 1 7 #[43, 52, 54, 43, 59, 54, 52]) 43 56 := ⟨by decide +kernel, rfl⟩
theorem eX12_insideBy_56 : zD cX12_insideBy 56 (.iload 4) 2 58 := ⟨by decide +kernel, rfl⟩
theorem eX12_insideBy_58 : zD cX12_insideBy 58 (.aload_n 0) 1 59 := ⟨by decide +kernel, rfl⟩
theorem eX12_insideBy_59 : zD cX12_insideBy 59 (.iload_n 1) 1 60 := ⟨by decide +kernel, rfl⟩
theorem eX12_insideBy_60 : zD cX12_insideBy 60 (.invokevirtual 67) 3 63 := ⟨by decide +kernel, rfl⟩
theorem eX12_insideBy_63 : zD cX12_insideBy 63 (.iadd) 1 64 := ⟨by decide +kernel, rfl⟩
theorem eX12_insideBy_64 : zD cX12_insideBy 64 (.ireturn) 1 65 := ⟨by decide +kernel, rfl⟩
theorem eX12_insideBy_65 : zD cX12_insideBy 65 (.iconst 0) 1 66 := ⟨by decide +kernel, rfl⟩
theorem eX12_insideBy_66 : zD cX12_insideBy 66 (.ireturn) 1 67 := ⟨by decide +kernel, rfl⟩
theorem eX12_insideBy_67 : zD cX12_insideBy 67 (.iload 4) 2 69 := ⟨by decide +kernel, rfl⟩
theorem eX12_insideBy_69 : zD cX12_insideBy 69 (.iconst 1) 1 70 := ⟨by decide +kernel, rfl⟩
theorem eX12_insideBy_70 : zD cX12_insideBy 70 (.isub) 1 71 := ⟨by decide +kernel, rfl⟩
theorem eX12_insideBy_71 : zD cX12_insideBy 71 (.ireturn) 1 72 := ⟨by decide +kernel, rfl⟩
theorem eX12_insideBy_72 : zD cX12_insideBy 72 (.iload 4) 2 74 := ⟨by decide +kernel, rfl⟩
theorem eX12_insideBy_74 : zD cX12_insideBy 74 (.iconst 1) 1 75 := ⟨by decide +kernel, rfl⟩
theorem eX12_insideBy_75 : zD cX12_insideBy 75 (.isub) 1 76 := ⟨by decide +kernel, rfl⟩
theorem eX12_insideBy_76 : zD cX12_insideBy 76 (.aload_n 0) 1 77 := ⟨by decide +kernel, rfl⟩
theorem eX12_insideBy_77 : zD cX12_insideBy 77 (.iload_n 1) 1 78 := ⟨by decide +kernel, rfl⟩
theorem eX12_insideBy_78 : zD cX12_insideBy 78 (.iconst 1) 1 79 := ⟨by decide +kernel, rfl⟩
theorem eX12_insideBy_79 : zD cX12_insideBy 79 (.invokevirtual 63) 3 82 := ⟨by decide +kernel, rfl⟩
theorem eX12_insideBy_82 : zD cX12_insideBy 82 (.isub) 1 83 := ⟨by decide +kernel, rfl⟩
theorem eX12_insideBy_83 : zD cX12_insideBy 83 (.ireturn) 1 84 := ⟨by decide +kernel, rfl⟩
theorem eX12_insideBy_84 : zD cX12_insideBy 84 (.iload 4) 2 86 := ⟨by decide +kernel, rfl⟩
theorem eX12_insideBy_86 : zD cX12_insideBy 86 (.ireturn) 1 87 := ⟨by decide +kernel, rfl⟩
theorem eX12_outside_0 : zD cX12_outside 0 (.aload_n 0) 1 1 := ⟨by decide +kernel, rfl⟩
theorem eX12_outside_1 : zD cX12_outside 1 (.iload_n 1) 1 2 := ⟨by decide +kernel, rfl⟩
theorem eX12_outside_2 : zD cX12_outside 2 (.aload_n 0) 1 3 := ⟨by decide +kernel, rfl⟩
theorem eX12_outside_3 : zD cX12_outside 3 (.iload_n 1) 1 4 := ⟨by decide +kernel, rfl⟩
theorem eX12_outside_4 : zD cX12_outside 4 (.iconst 3) 1 5 := ⟨by decide +kernel, rfl⟩
theorem eX12_outside_5 : zD cX12_outside 5 (.invokevirtual 63) 3 8 := ⟨by decide +kernel, rfl⟩
theorem eX12_outside_8 : zD cX12_outside 8 (.invokevirtual 71) 3 11 := ⟨by decide +kernel, rfl⟩
theorem eX12_outside_11 : zD cX12_outside 11 (.ireturn) 1 12 := ⟨by decide +kernel, rfl⟩
theorem eX12_inside_0 : zD cX12_inside 0 (.aload_n 0) 1 1 := ⟨by decide +kernel, rfl⟩
theorem eX12_inside_1 : zD cX12_inside 1 (.iload_n 1) 1 2 := ⟨by decide +kernel, rfl⟩
theorem eX12_inside_2 : zD cX12_inside 2 (.aload_n 0) 1 3 := ⟨by decide +kernel, rfl⟩
theorem eX12_inside_3 : zD cX12_inside 3 (.iload_n 1) 1 4 := ⟨by decide +kernel, rfl⟩
theorem eX12_inside_4 : zD cX12_inside 4 (.iconst 3) 1 5 := ⟨by decide +kernel, rfl⟩
theorem eX12_inside_5 : zD cX12_inside 5 (.invokevirtual 63) 3 8 := ⟨by decide +kernel, rfl⟩
theorem eX12_inside_8 : zD cX12_inside 8 (.aload_n 0) 1 9 := ⟨by decide +kernel, rfl⟩
theorem eX12_inside_9 : zD cX12_inside 9 (.getfield 9) 3 12 := ⟨by decide +kernel, rfl⟩
theorem eX12_inside_12 : zD cX12_inside 12 (.iconst 1) 1 13 := ⟨by decide +kernel, rfl⟩
theorem eX12_inside_13 : zD cX12_inside 13 (.iaload) 1 14 := ⟨by decide +kernel, rfl⟩
theorem eX12_inside_14 : zD cX12_inside 14 (.invokevirtual 74) 3 17 := ⟨by decide +kernel, rfl⟩
theorem eX12_inside_17 : zD cX12_inside 17 (.ireturn) 1 18 := ⟨by decide +kernel, rfl⟩
theorem eX12_rise_0 : zD cX12_rise 0 (.aload_n 0) 1 1 := ⟨by decide +kernel, rfl⟩
theorem eX12_rise_1 : zD cX12_rise 1 (.iload_n 1) 1 2 := ⟨by decide +kernel, rfl⟩
theorem eX12_rise_2 : zD cX12_rise 2 (.iconst 0) 1 3 := ⟨by decide +kernel, rfl⟩
theorem eX12_rise_3 : zD cX12_rise 3 (.invokevirtual 63) 3 6 := ⟨by decide +kernel, rfl⟩
theorem eX12_rise_6 : zD cX12_rise 6 (.tableswitch 56 2 6 #[34, 36, 56, 36, 45]) 34 40 := ⟨by decide +kernel, rfl⟩
theorem eX12_rise_40 : zD cX12_rise 40 (.iconst 2) 1 41 := ⟨by decide +kernel, rfl⟩
theorem eX12_rise_41 : zD cX12_rise 41 (.ireturn) 1 42 := ⟨by decide +kernel, rfl⟩
theorem eX12_rise_42 : zD cX12_rise 42 (.iconst 1) 1 43 := ⟨by decide +kernel, rfl⟩
theorem eX12_rise_43 : zD cX12_rise 43 (.aload_n 0) 1 44 := ⟨by decide +kernel, rfl⟩
theorem eX12_rise_44 : zD cX12_rise 44 (.iload_n 1) 1 45 := ⟨by decide +kernel, rfl⟩
theorem eX12_rise_45 : zD cX12_rise 45 (.iconst 1) 1 46 := ⟨by decide +kernel, rfl⟩
theorem eX12_rise_46 : zD cX12_rise 46 (.invokevirtual 63) 3 49 := ⟨by decide +kernel, rfl⟩
theorem eX12_rise_49 : zD cX12_rise 49 (.iadd) 1 50 := ⟨by decide +kernel, rfl⟩
theorem eX12_rise_50 : zD cX12_rise 50 (.ireturn) 1 51 := ⟨by decide +kernel, rfl⟩
theorem eX12_rise_51 : zD cX12_rise 51 (.iconst 2) 1 52 := ⟨by decide +kernel, rfl⟩
theorem eX12_rise_52 : zD cX12_rise 52 (.iconst 2) 1 53 := ⟨by decide +kernel, rfl⟩
theorem eX12_rise_53 : zD cX12_rise 53 (.aload_n 0) 1 54 := ⟨by decide +kernel, rfl⟩
theorem eX12_rise_54 : zD cX12_rise 54 (.iload_n 1) 1 55 := ⟨by decide +kernel, rfl⟩
theorem eX12_rise_55 : zD cX12_rise 55 (.iconst 1) 1 56 := ⟨by decide +kernel, rfl⟩
theorem eX12_rise_56 : zD cX12_rise 56 (.invokevirtual 63) 3 59 := ⟨by decide +kernel, rfl⟩
theorem eX12_rise_59 : zD cX12_rise 59 (.imul) 1 60 := ⟨by decide +kernel, rfl⟩
theorem eX12_rise_60 : zD cX12_rise 60 (.iadd) 1 61 := ⟨by decide +kernel, rfl⟩
theorem eX12_rise_61 : zD cX12_rise 61 (.ireturn) 1 62 := ⟨by decide +kernel, rfl⟩
theorem eX12_rise_62 : zD cX12_rise 62 (.iconst 1) 1 63 := ⟨by decide +kernel, rfl⟩
theorem eX12_rise_63 : zD cX12_rise 63 (.ireturn) 1 64 := ⟨by decide +kernel, rfl⟩
theorem eX12_isOval_0 : zD cX12_isOval 0 (.aload_n 0) 1 1 := ⟨by decide +kernel, rfl⟩
theorem eX12_isOval_1 : zD cX12_isOval 1 (.iload_n 1) 1 2 := ⟨by decide +kernel, rfl⟩
theorem eX12_isOval_2 : zD cX12_isOval 2 (.iconst 0) 1 3 := ⟨by decide +kernel, rfl⟩
theorem eX12_isOval_3 : zD cX12_isOval 3 (.invokevirtual 63) 3 6 := ⟨by decide +kernel, rfl⟩
theorem eX12_isOval_6 : zD cX12_isOval 6 (.iconst 1) 1 7 := ⟨by decide +kernel, rfl⟩
theorem eX12_isOval_7 : zD cX12_isOval 7 (.if_icmp .eq 13) 3 10 := ⟨by decide +kernel, rfl⟩
theorem eX12_isOval_10 : zD cX12_isOval 10 (.aload_n 0) 1 11 := ⟨by decide +kernel, rfl⟩
theorem eX12_isOval_11 : zD cX12_isOval 11 (.iload_n 1) 1 12 := ⟨by decide +kernel, rfl⟩
theorem eX12_isOval_12 : zD cX12_isOval 12 (.iconst 0) 1 13 := ⟨by decide +kernel, rfl⟩
theorem eX12_isOval_13 : zD cX12_isOval 13 (.invokevirtual 63) 3 16 := ⟨by decide +kernel, rfl⟩
theorem eX12_isOval_16 : zD cX12_isOval 16 (.iconst 4) 1 17 := ⟨by decide +kernel, rfl⟩
theorem eX12_isOval_17 : zD cX12_isOval 17 (.if_icmp .ne 7) 3 20 := ⟨by decide +kernel, rfl⟩
theorem eX12_isOval_20 : zD cX12_isOval 20 (.iconst 1) 1 21 := ⟨by decide +kernel, rfl⟩
theorem eX12_isOval_21 : zD cX12_isOval 21 (.goto 4) 3 24 := ⟨by decide +kernel, rfl⟩
theorem eX12_isOval_24 : zD cX12_isOval 24 (.iconst 0) 1 25 := ⟨by decide +kernel, rfl⟩
theorem eX12_isOval_25 : zD cX12_isOval 25 (.ireturn) 1 26 := ⟨by decide +kernel, rfl⟩
theorem eX12_fitsBut_0 : zD cX12_fitsBut 0 (.aload_n 0) 1 1 := ⟨by decide +kernel, rfl⟩
theorem eX12_fitsBut_1 : zD cX12_fitsBut 1 (.iload_n 1) 1 2 := ⟨by decide +kernel, rfl⟩
theorem eX12_fitsBut_2 : zD cX12_fitsBut 2 (.iconst 4) 1 3 := ⟨by decide +kernel, rfl⟩
theorem eX12_fitsBut_3 : zD cX12_fitsBut 3 (.invokevirtual 63) 3 6 := ⟨by decide +kernel, rfl⟩
theorem eX12_fitsBut_6 : zD cX12_fitsBut 6 (.aload_n 0) 1 7 := ⟨by decide +kernel, rfl⟩
theorem eX12_fitsBut_7 : zD cX12_fitsBut 7 (.iload_n 2) 1 8 := ⟨by decide +kernel, rfl⟩
theorem eX12_fitsBut_8 : zD cX12_fitsBut 8 (.iconst 4) 1 9 := ⟨by decide +kernel, rfl⟩
theorem eX12_fitsBut_9 : zD cX12_fitsBut 9 (.invokevirtual 63) 3 12 := ⟨by decide +kernel, rfl⟩
theorem eX12_fitsBut_12 : zD cX12_fitsBut 12 (.aload_n 0) 1 13 := ⟨by decide +kernel, rfl⟩
theorem eX12_fitsBut_13 : zD cX12_fitsBut 13 (.iload_n 2) 1 14 := ⟨by decide +kernel, rfl⟩
theorem eX12_fitsBut_14 : zD cX12_fitsBut 14 (.iconst 1) 1 15 := ⟨by decide +kernel, rfl⟩
theorem eX12_fitsBut_15 : zD cX12_fitsBut 15 (.invokevirtual 63) 3 18 := ⟨by decide +kernel, rfl⟩
theorem eX12_fitsBut_18 : zD cX12_fitsBut 18 (.iadd) 1 19 := ⟨by decide +kernel, rfl⟩
theorem eX12_fitsBut_19 : zD cX12_fitsBut 19 (.if_icmp .gt 38) 3 22 := ⟨by decide +kernel, rfl⟩
theorem eX12_fitsBut_22 : zD cX12_fitsBut 22 (.aload_n 0) 1 23 := ⟨by decide +kernel, rfl⟩
theorem eX12_fitsBut_23 : zD cX12_fitsBut 23 (.iload_n 1) 1 24 := ⟨by decide +kernel, rfl⟩
theorem eX12_fitsBut_24 : zD cX12_fitsBut 24 (.invokevirtual 78) 3 27 := ⟨by decide +kernel, rfl⟩
theorem eX12_fitsBut_27 : zD cX12_fitsBut 27 (.ifCond .eq 26) 3 30 := ⟨by decide +kernel, rfl⟩
theorem eX12_fitsBut_30 : zD cX12_fitsBut 30 (.aload_n 0) 1 31 := ⟨by decide +kernel, rfl⟩
theorem eX12_fitsBut_31 : zD cX12_fitsBut 31 (.iload_n 2) 1 32 := ⟨by decide +kernel, rfl⟩
theorem eX12_fitsBut_32 : zD cX12_fitsBut 32 (.invokevirtual 78) 3 35 := ⟨by decide +kernel, rfl⟩
theorem eX12_fitsBut_35 : zD cX12_fitsBut 35 (.ifCond .eq 18) 3 38 := ⟨by decide +kernel, rfl⟩
theorem eX12_fitsBut_38 : zD cX12_fitsBut 38 (.aload_n 0) 1 39 := ⟨by decide +kernel, rfl⟩
theorem eX12_fitsBut_39 : zD cX12_fitsBut 39 (.iload_n 1) 1 40 := ⟨by decide +kernel, rfl⟩
theorem eX12_fitsBut_40 : zD cX12_fitsBut 40 (.iconst 2) 1 41 := ⟨by decide +kernel, rfl⟩
theorem eX12_fitsBut_41 : zD cX12_fitsBut 41 (.invokevirtual 63) 3 44 := ⟨by decide +kernel, rfl⟩
theorem eX12_fitsBut_44 : zD cX12_fitsBut 44 (.aload_n 0) 1 45 := ⟨by decide +kernel, rfl⟩
theorem eX12_fitsBut_45 : zD cX12_fitsBut 45 (.iload_n 2) 1 46 := ⟨by decide +kernel, rfl⟩
theorem eX12_fitsBut_46 : zD cX12_fitsBut 46 (.iconst 2) 1 47 := ⟨by decide +kernel, rfl⟩
theorem eX12_fitsBut_47 : zD cX12_fitsBut 47 (.invokevirtual 63) 3 50 := ⟨by decide +kernel, rfl⟩
end
section
/-! Decode rows. -/
theorem eX12_fitsBut_50 : zD cX12_fitsBut 50 (.if_icmp .ne 7) 3 53 := ⟨by decide +kernel, rfl⟩
theorem eX12_fitsBut_53 : zD cX12_fitsBut 53 (.iconst 1) 1 54 := ⟨by decide +kernel, rfl⟩
theorem eX12_fitsBut_54 : zD cX12_fitsBut 54 (.goto 4) 3 57 := ⟨by decide +kernel, rfl⟩
theorem eX12_fitsBut_57 : zD cX12_fitsBut 57 (.iconst 0) 1 58 := ⟨by decide +kernel, rfl⟩
theorem eX12_fitsBut_58 : zD cX12_fitsBut 58 (.ireturn) 1 59 := ⟨by decide +kernel, rfl⟩
theorem eX12_liesAt_0 : zD cX12_liesAt 0 (.aload_n 0) 1 1 := ⟨by decide +kernel, rfl⟩
theorem eX12_liesAt_1 : zD cX12_liesAt 1 (.iload_n 1) 1 2 := ⟨by decide +kernel, rfl⟩
theorem eX12_liesAt_2 : zD cX12_liesAt 2 (.invokevirtual 82) 3 5 := ⟨by decide +kernel, rfl⟩
theorem eX12_liesAt_5 : zD cX12_liesAt 5 (.aload_n 0) 1 6 := ⟨by decide +kernel, rfl⟩
theorem eX12_liesAt_6 : zD cX12_liesAt 6 (.iload_n 2) 1 7 := ⟨by decide +kernel, rfl⟩
theorem eX12_liesAt_7 : zD cX12_liesAt 7 (.aload_n 0) 1 8 := ⟨by decide +kernel, rfl⟩
theorem eX12_liesAt_8 : zD cX12_liesAt 8 (.iload_n 2) 1 9 := ⟨by decide +kernel, rfl⟩
theorem eX12_liesAt_9 : zD cX12_liesAt 9 (.iconst 3) 1 10 := ⟨by decide +kernel, rfl⟩
theorem eX12_liesAt_10 : zD cX12_liesAt 10 (.invokevirtual 63) 3 13 := ⟨by decide +kernel, rfl⟩
theorem eX12_liesAt_13 : zD cX12_liesAt 13 (.iload_n 3) 1 14 := ⟨by decide +kernel, rfl⟩
theorem eX12_liesAt_14 : zD cX12_liesAt 14 (.invokevirtual 74) 3 17 := ⟨by decide +kernel, rfl⟩
theorem eX12_liesAt_17 : zD cX12_liesAt 17 (.if_icmp .gt 16) 3 20 := ⟨by decide +kernel, rfl⟩
theorem eX12_liesAt_20 : zD cX12_liesAt 20 (.aload_n 0) 1 21 := ⟨by decide +kernel, rfl⟩
theorem eX12_liesAt_21 : zD cX12_liesAt 21 (.iload_n 1) 1 22 := ⟨by decide +kernel, rfl⟩
theorem eX12_liesAt_22 : zD cX12_liesAt 22 (.iload_n 2) 1 23 := ⟨by decide +kernel, rfl⟩
theorem eX12_liesAt_23 : zD cX12_liesAt 23 (.invokevirtual 85) 3 26 := ⟨by decide +kernel, rfl⟩
theorem eX12_liesAt_26 : zD cX12_liesAt 26 (.ifCond .eq 7) 3 29 := ⟨by decide +kernel, rfl⟩
theorem eX12_liesAt_29 : zD cX12_liesAt 29 (.iconst 1) 1 30 := ⟨by decide +kernel, rfl⟩
theorem eX12_liesAt_30 : zD cX12_liesAt 30 (.goto 4) 3 33 := ⟨by decide +kernel, rfl⟩
theorem eX12_liesAt_33 : zD cX12_liesAt 33 (.iconst 0) 1 34 := ⟨by decide +kernel, rfl⟩
theorem eX12_liesAt_34 : zD cX12_liesAt 34 (.ireturn) 1 35 := ⟨by decide +kernel, rfl⟩
theorem eX12_liesNow_0 : zD cX12_liesNow 0 (.aload_n 0) 1 1 := ⟨by decide +kernel, rfl⟩
theorem eX12_liesNow_1 : zD cX12_liesNow 1 (.iload_n 1) 1 2 := ⟨by decide +kernel, rfl⟩
theorem eX12_liesNow_2 : zD cX12_liesNow 2 (.iload_n 2) 1 3 := ⟨by decide +kernel, rfl⟩
theorem eX12_liesNow_3 : zD cX12_liesNow 3 (.aload_n 0) 1 4 := ⟨by decide +kernel, rfl⟩
theorem eX12_liesNow_4 : zD cX12_liesNow 4 (.getfield 9) 3 7 := ⟨by decide +kernel, rfl⟩
theorem eX12_liesNow_7 : zD cX12_liesNow 7 (.iconst 1) 1 8 := ⟨by decide +kernel, rfl⟩
theorem eX12_liesNow_8 : zD cX12_liesNow 8 (.iaload) 1 9 := ⟨by decide +kernel, rfl⟩
theorem eX12_liesNow_9 : zD cX12_liesNow 9 (.invokevirtual 89) 3 12 := ⟨by decide +kernel, rfl⟩
theorem eX12_liesNow_12 : zD cX12_liesNow 12 (.ireturn) 1 13 := ⟨by decide +kernel, rfl⟩
theorem eX12_here_0 : zD cX12_here 0 (.aload_n 0) 1 1 := ⟨by decide +kernel, rfl⟩
theorem eX12_here_1 : zD cX12_here 1 (.getfield 93) 3 4 := ⟨by decide +kernel, rfl⟩
theorem eX12_here_4 : zD cX12_here 4 (.aload_n 0) 1 5 := ⟨by decide +kernel, rfl⟩
theorem eX12_here_5 : zD cX12_here 5 (.getfield 96) 3 8 := ⟨by decide +kernel, rfl⟩
theorem eX12_here_8 : zD cX12_here 8 (.if_icmp .ge 20) 3 11 := ⟨by decide +kernel, rfl⟩
theorem eX12_here_11 : zD cX12_here 11 (.aload_n 0) 1 12 := ⟨by decide +kernel, rfl⟩
theorem eX12_here_12 : zD cX12_here 12 (.getfield 28) 3 15 := ⟨by decide +kernel, rfl⟩
theorem eX12_here_15 : zD cX12_here 15 (.aload_n 0) 1 16 := ⟨by decide +kernel, rfl⟩
theorem eX12_here_16 : zD cX12_here 16 (.getfield 99) 3 19 := ⟨by decide +kernel, rfl⟩
theorem eX12_here_19 : zD cX12_here 19 (.aload_n 0) 1 20 := ⟨by decide +kernel, rfl⟩
theorem eX12_here_20 : zD cX12_here 20 (.getfield 93) 3 23 := ⟨by decide +kernel, rfl⟩
theorem eX12_here_23 : zD cX12_here 23 (.iadd) 1 24 := ⟨by decide +kernel, rfl⟩
theorem eX12_here_24 : zD cX12_here 24 (.iaload) 1 25 := ⟨by decide +kernel, rfl⟩
theorem eX12_here_25 : zD cX12_here 25 (.goto 6) 3 28 := ⟨by decide +kernel, rfl⟩
theorem eX12_here_28 : zD cX12_here 28 (.sipush (-1000)) 3 31 := ⟨by decide +kernel, rfl⟩
theorem eX12_here_31 : zD cX12_here 31 (.ireturn) 1 32 := ⟨by decide +kernel, rfl⟩
theorem eX12_isDigit_0 : zD cX12_isDigit 0 (.aload_n 0) 1 1 := ⟨by decide +kernel, rfl⟩
theorem eX12_isDigit_1 : zD cX12_isDigit 1 (.invokevirtual 102) 3 4 := ⟨by decide +kernel, rfl⟩
theorem eX12_isDigit_4 : zD cX12_isDigit 4 (.i2l) 1 5 := ⟨by decide +kernel, rfl⟩
theorem eX12_isDigit_5 : zD cX12_isDigit 5 (.ldc2_w 105) 3 8 := ⟨by decide +kernel, rfl⟩
theorem eX12_isDigit_8 : zD cX12_isDigit 8 (.ldc2_w 107) 3 11 := ⟨by decide +kernel, rfl⟩
theorem eX12_isDigit_11 : zD cX12_isDigit 11 (.invokestatic 55) 3 14 := ⟨by decide +kernel, rfl⟩
theorem eX12_isDigit_14 : zD cX12_isDigit 14 (.ireturn) 1 15 := ⟨by decide +kernel, rfl⟩
theorem eX12_takes_0 : zD cX12_takes 0 (.aload_n 0) 1 1 := ⟨by decide +kernel, rfl⟩
theorem eX12_takes_1 : zD cX12_takes 1 (.invokevirtual 102) 3 4 := ⟨by decide +kernel, rfl⟩
theorem eX12_takes_4 : zD cX12_takes 4 (.iload_n 1) 1 5 := ⟨by decide +kernel, rfl⟩
theorem eX12_takes_5 : zD cX12_takes 5 (.if_icmp .eq 5) 3 8 := ⟨by decide +kernel, rfl⟩
theorem eX12_takes_8 : zD cX12_takes 8 (.iconst 0) 1 9 := ⟨by decide +kernel, rfl⟩
theorem eX12_takes_9 : zD cX12_takes 9 (.ireturn) 1 10 := ⟨by decide +kernel, rfl⟩
theorem eX12_takes_10 : zD cX12_takes 10 (.aload_n 0) 1 11 := ⟨by decide +kernel, rfl⟩
theorem eX12_takes_11 : zD cX12_takes 11 (.dup) 1 12 := ⟨by decide +kernel, rfl⟩
theorem eX12_takes_12 : zD cX12_takes 12 (.getfield 93) 3 15 := ⟨by decide +kernel, rfl⟩
theorem eX12_takes_15 : zD cX12_takes 15 (.iconst 1) 1 16 := ⟨by decide +kernel, rfl⟩
theorem eX12_takes_16 : zD cX12_takes 16 (.iadd) 1 17 := ⟨by decide +kernel, rfl⟩
theorem eX12_takes_17 : zD cX12_takes 17 (.putfield 93) 3 20 := ⟨by decide +kernel, rfl⟩
theorem eX12_takes_20 : zD cX12_takes 20 (.iconst 1) 1 21 := ⟨by decide +kernel, rfl⟩
theorem eX12_takes_21 : zD cX12_takes 21 (.ireturn) 1 22 := ⟨by decide +kernel, rfl⟩
theorem eX12_readsNumber_0 : zD cX12_readsNumber 0 (.aload_n 0) 1 1 := ⟨by decide +kernel, rfl⟩
theorem eX12_readsNumber_1 : zD cX12_readsNumber 1 (.invokevirtual 109) 3 4 := ⟨by decide +kernel, rfl⟩
theorem eX12_readsNumber_4 : zD cX12_readsNumber 4 (.ifCond .ne 5) 3 7 := ⟨by decide +kernel, rfl⟩
theorem eX12_readsNumber_7 : zD cX12_readsNumber 7 (.iconst 0) 1 8 := ⟨by decide +kernel, rfl⟩
theorem eX12_readsNumber_8 : zD cX12_readsNumber 8 (.ireturn) 1 9 := ⟨by decide +kernel, rfl⟩
theorem eX12_readsNumber_9 : zD cX12_readsNumber 9 (.aload_n 0) 1 10 := ⟨by decide +kernel, rfl⟩
theorem eX12_readsNumber_10 : zD cX12_readsNumber 10 (.invokevirtual 102) 3 13 := ⟨by decide +kernel, rfl⟩
theorem eX12_readsNumber_13 : zD cX12_readsNumber 13 (.bipush 48) 2 15 := ⟨by decide +kernel, rfl⟩
theorem eX12_readsNumber_15 : zD cX12_readsNumber 15 (.isub) 1 16 := ⟨by decide +kernel, rfl⟩
theorem eX12_readsNumber_16 : zD cX12_readsNumber 16 (.istore_n 2) 1 17 := ⟨by decide +kernel, rfl⟩
theorem eX12_readsNumber_17 : zD cX12_readsNumber 17 (.aload_n 0) 1 18 := ⟨by decide +kernel, rfl⟩
theorem eX12_readsNumber_18 : zD cX12_readsNumber 18 (.dup) 1 19 := ⟨by decide +kernel, rfl⟩
theorem eX12_readsNumber_19 : zD cX12_readsNumber 19 (.getfield 93) 3 22 := ⟨by decide +kernel, rfl⟩
theorem eX12_readsNumber_22 : zD cX12_readsNumber 22 (.iconst 1) 1 23 := ⟨by decide +kernel, rfl⟩
theorem eX12_readsNumber_23 : zD cX12_readsNumber 23 (.iadd) 1 24 := ⟨by decide +kernel, rfl⟩
theorem eX12_readsNumber_24 : zD cX12_readsNumber 24 (.putfield 93) 3 27 := ⟨by decide +kernel, rfl⟩
theorem eX12_readsNumber_27 : zD cX12_readsNumber 27 (.iload_n 1) 1 28 := ⟨by decide +kernel, rfl⟩
theorem eX12_readsNumber_28 : zD cX12_readsNumber 28 (.iconst 1) 1 29 := ⟨by decide +kernel, rfl⟩
theorem eX12_readsNumber_29 : zD cX12_readsNumber 29 (.if_icmp .le 37) 3 32 := ⟨by decide +kernel, rfl⟩
theorem eX12_readsNumber_32 : zD cX12_readsNumber 32 (.iload_n 2) 1 33 := ⟨by decide +kernel, rfl⟩
theorem eX12_readsNumber_33 : zD cX12_readsNumber 33 (.ifCond .le 33) 3 36 := ⟨by decide +kernel, rfl⟩
theorem eX12_readsNumber_36 : zD cX12_readsNumber 36 (.aload_n 0) 1 37 := ⟨by decide +kernel, rfl⟩
theorem eX12_readsNumber_37 : zD cX12_readsNumber 37 (.invokevirtual 109) 3 40 := ⟨by decide +kernel, rfl⟩
theorem eX12_readsNumber_40 : zD cX12_readsNumber 40 (.ifCond .eq 26) 3 43 := ⟨by decide +kernel, rfl⟩
theorem eX12_readsNumber_43 : zD cX12_readsNumber 43 (.bipush 10) 2 45 := ⟨by decide +kernel, rfl⟩
theorem eX12_readsNumber_45 : zD cX12_readsNumber 45 (.iload_n 2) 1 46 := ⟨by decide +kernel, rfl⟩
theorem eX12_readsNumber_46 : zD cX12_readsNumber 46 (.imul) 1 47 := ⟨by decide +kernel, rfl⟩
theorem eX12_readsNumber_47 : zD cX12_readsNumber 47 (.aload_n 0) 1 48 := ⟨by decide +kernel, rfl⟩
theorem eX12_readsNumber_48 : zD cX12_readsNumber 48 (.invokevirtual 102) 3 51 := ⟨by decide +kernel, rfl⟩
theorem eX12_readsNumber_51 : zD cX12_readsNumber 51 (.iadd) 1 52 := ⟨by decide +kernel, rfl⟩
theorem eX12_readsNumber_52 : zD cX12_readsNumber 52 (.bipush 48) 2 54 := ⟨by decide +kernel, rfl⟩
theorem eX12_readsNumber_54 : zD cX12_readsNumber 54 (.isub) 1 55 := ⟨by decide +kernel, rfl⟩
theorem eX12_readsNumber_55 : zD cX12_readsNumber 55 (.istore_n 2) 1 56 := ⟨by decide +kernel, rfl⟩
theorem eX12_readsNumber_56 : zD cX12_readsNumber 56 (.aload_n 0) 1 57 := ⟨by decide +kernel, rfl⟩
theorem eX12_readsNumber_57 : zD cX12_readsNumber 57 (.dup) 1 58 := ⟨by decide +kernel, rfl⟩
theorem eX12_readsNumber_58 : zD cX12_readsNumber 58 (.getfield 93) 3 61 := ⟨by decide +kernel, rfl⟩
theorem eX12_readsNumber_61 : zD cX12_readsNumber 61 (.iconst 1) 1 62 := ⟨by decide +kernel, rfl⟩
theorem eX12_readsNumber_62 : zD cX12_readsNumber 62 (.iadd) 1 63 := ⟨by decide +kernel, rfl⟩
theorem eX12_readsNumber_63 : zD cX12_readsNumber 63 (.putfield 93) 3 66 := ⟨by decide +kernel, rfl⟩
theorem eX12_readsNumber_66 : zD cX12_readsNumber 66 (.aload_n 0) 1 67 := ⟨by decide +kernel, rfl⟩
theorem eX12_readsNumber_67 : zD cX12_readsNumber 67 (.getfield 37) 3 70 := ⟨by decide +kernel, rfl⟩
theorem eX12_readsNumber_70 : zD cX12_readsNumber 70 (.aload_n 0) 1 71 := ⟨by decide +kernel, rfl⟩
theorem eX12_readsNumber_71 : zD cX12_readsNumber 71 (.getfield 113) 3 74 := ⟨by decide +kernel, rfl⟩
theorem eX12_readsNumber_74 : zD cX12_readsNumber 74 (.iload_n 2) 1 75 := ⟨by decide +kernel, rfl⟩
theorem eX12_readsNumber_75 : zD cX12_readsNumber 75 (.iastore) 1 76 := ⟨by decide +kernel, rfl⟩
theorem eX12_readsNumber_76 : zD cX12_readsNumber 76 (.aload_n 0) 1 77 := ⟨by decide +kernel, rfl⟩
theorem eX12_readsNumber_77 : zD cX12_readsNumber 77 (.dup) 1 78 := ⟨by decide +kernel, rfl⟩
theorem eX12_readsNumber_78 : zD cX12_readsNumber 78 (.getfield 113) 3 81 := ⟨by decide +kernel, rfl⟩
theorem eX12_readsNumber_81 : zD cX12_readsNumber 81 (.iconst 1) 1 82 := ⟨by decide +kernel, rfl⟩
theorem eX12_readsNumber_82 : zD cX12_readsNumber 82 (.iadd) 1 83 := ⟨by decide +kernel, rfl⟩
theorem eX12_readsNumber_83 : zD cX12_readsNumber 83 (.putfield 113) 3 86 := ⟨by decide +kernel, rfl⟩
theorem eX12_readsNumber_86 : zD cX12_readsNumber 86 (.iconst 1) 1 87 := ⟨by decide +kernel, rfl⟩
theorem eX12_readsNumber_87 : zD cX12_readsNumber 87 (.ireturn) 1 88 := ⟨by decide +kernel, rfl⟩
theorem eX12_readsStatement_0 : zD cX12_readsStatement 0 (.aload_n 0) 1 1 := ⟨by decide +kernel, rfl⟩
theorem eX12_readsStatement_1 : zD cX12_readsStatement 1 (.invokevirtual 102) 3 4 := ⟨by decide +kernel, rfl⟩
theorem eX12_readsStatement_4 : zD cX12_readsStatement 4 (.istore_n 1) 1 5 := ⟨by decide +kernel, rfl⟩
theorem eX12_readsStatement_5 : zD cX12_readsStatement 5 (.aload_n 0) 1 6 := ⟨by decide +kernel, rfl⟩
theorem eX12_readsStatement_6 : zD cX12_readsStatement 6 (.iconst 0) 1 7 := ⟨by decide +kernel, rfl⟩
theorem eX12_readsStatement_7 : zD cX12_readsStatement 7 (.putfield 113) 3 10 := ⟨by decide +kernel, rfl⟩
theorem eX12_readsStatement_10 : zD cX12_readsStatement 10 (.iconst 0) 1 11 := ⟨by decide +kernel, rfl⟩
theorem eX12_readsStatement_11 : zD cX12_readsStatement 11 (.istore_n 2) 1 12 := ⟨by decide +kernel, rfl⟩
theorem eX12_readsStatement_12 : zD cX12_readsStatement 12 (.aload_n 0) 1 13 := ⟨by decide +kernel, rfl⟩
theorem eX12_readsStatement_13 : zD cX12_readsStatement 13 (.dup) 1 14 := ⟨by decide +kernel, rfl⟩
theorem eX12_readsStatement_14 : zD cX12_readsStatement 14 (.getfield 93) 3 17 := ⟨by decide +kernel, rfl⟩
theorem eX12_readsStatement_17 : zD cX12_readsStatement 17 (.iconst 1) 1 18 := ⟨by decide +kernel, rfl⟩
theorem eX12_readsStatement_18 : zD cX12_readsStatement 18 (.iadd) 1 19 := ⟨by decide +kernel, rfl⟩
theorem eX12_readsStatement_19 : zD cX12_readsStatement 19 (.putfield 93) 3 22 := ⟨by decide +kernel, rfl⟩
theorem eX12_readsStatement_22 : zD cX12_readsStatement 22 (.iload_n 1) 1 23 := ⟨by decide +kernel, rfl⟩
theorem eX12_readsStatement_23 : zD cX12_readsStatement 23 (.lookupswitch 113 #[(98, 41), (116, 99), (119, 99), (120, 108)]) 41 64 := ⟨by decide +kernel, rfl⟩
theorem eX12_readsStatement_64 : zD cX12_readsStatement 64 (.aload_n 0) 1 65 := ⟨by decide +kernel, rfl⟩
theorem eX12_readsStatement_65 : zD cX12_readsStatement 65 (.iconst 1) 1 66 := ⟨by decide +kernel, rfl⟩
theorem eX12_readsStatement_66 : zD cX12_readsStatement 66 (.invokevirtual 116) 3 69 := ⟨by decide +kernel, rfl⟩
theorem eX12_readsStatement_69 : zD cX12_readsStatement 69 (.ifCond .eq 48) 3 72 := ⟨by decide +kernel, rfl⟩
theorem eX12_readsStatement_72 : zD cX12_readsStatement 72 (.aload_n 0) 1 73 := ⟨by decide +kernel, rfl⟩
theorem eX12_readsStatement_73 : zD cX12_readsStatement 73 (.iconst 1) 1 74 := ⟨by decide +kernel, rfl⟩
theorem eX12_readsStatement_74 : zD cX12_readsStatement 74 (.invokevirtual 116) 3 77 := ⟨by decide +kernel, rfl⟩
theorem eX12_readsStatement_77 : zD cX12_readsStatement 77 (.ifCond .eq 40) 3 80 := ⟨by decide +kernel, rfl⟩
theorem eX12_readsStatement_80 : zD cX12_readsStatement 80 (.aload_n 0) 1 81 := ⟨by decide +kernel, rfl⟩
theorem eX12_readsStatement_81 : zD cX12_readsStatement 81 (.iconst 1) 1 82 := ⟨by decide +kernel, rfl⟩
theorem eX12_readsStatement_82 : zD cX12_readsStatement 82 (.invokevirtual 116) 3 85 := ⟨by decide +kernel, rfl⟩
theorem eX12_readsStatement_85 : zD cX12_readsStatement 85 (.ifCond .eq 32) 3 88 := ⟨by decide +kernel, rfl⟩
theorem eX12_readsStatement_88 : zD cX12_readsStatement 88 (.aload_n 0) 1 89 := ⟨by decide +kernel, rfl⟩
theorem eX12_readsStatement_89 : zD cX12_readsStatement 89 (.iconst 2) 1 90 := ⟨by decide +kernel, rfl⟩
theorem eX12_readsStatement_90 : zD cX12_readsStatement 90 (.invokevirtual 116) 3 93 := ⟨by decide +kernel, rfl⟩
theorem eX12_readsStatement_93 : zD cX12_readsStatement 93 (.ifCond .eq 24) 3 96 := ⟨by decide +kernel, rfl⟩
theorem eX12_readsStatement_96 : zD cX12_readsStatement 96 (.aload_n 0) 1 97 := ⟨by decide +kernel, rfl⟩
theorem eX12_readsStatement_97 : zD cX12_readsStatement 97 (.bipush 44) 2 99 := ⟨by decide +kernel, rfl⟩
theorem eX12_readsStatement_99 : zD cX12_readsStatement 99 (.invokevirtual 119) 3 102 := ⟨by decide +kernel, rfl⟩
theorem eX12_readsStatement_102 : zD cX12_readsStatement 102 (.ifCond .eq 15) 3 105 := ⟨by decide +kernel, rfl⟩
theorem eX12_readsStatement_105 : zD cX12_readsStatement 105 (.aload_n 0) 1 106 := ⟨by decide +kernel, rfl⟩
theorem eX12_readsStatement_106 : zD cX12_readsStatement 106 (.iconst 2) 1 107 := ⟨by decide +kernel, rfl⟩
theorem eX12_readsStatement_107 : zD cX12_readsStatement 107 (.invokevirtual 116) 3 110 := ⟨by decide +kernel, rfl⟩
theorem eX12_readsStatement_110 : zD cX12_readsStatement 110 (.ifCond .eq 7) 3 113 := ⟨by decide +kernel, rfl⟩
theorem eX12_readsStatement_113 : zD cX12_readsStatement 113 (.iconst 1) 1 114 := ⟨by decide +kernel, rfl⟩
theorem eX12_readsStatement_114 : zD cX12_readsStatement 114 (.goto 4) 3 117 := ⟨by decide +kernel, rfl⟩
theorem eX12_readsStatement_117 : zD cX12_readsStatement 117 (.iconst 0) 1 118 := ⟨by decide +kernel, rfl⟩
theorem eX12_readsStatement_118 : zD cX12_readsStatement 118 (.istore_n 2) 1 119 := ⟨by decide +kernel, rfl⟩
theorem eX12_readsStatement_119 : zD cX12_readsStatement 119 (.goto 29) 3 122 := ⟨by decide +kernel, rfl⟩
theorem eX12_readsStatement_122 : zD cX12_readsStatement 122 (.aload_n 0) 1 123 := ⟨by decide +kernel, rfl⟩
theorem eX12_readsStatement_123 : zD cX12_readsStatement 123 (.iconst 1) 1 124 := ⟨by decide +kernel, rfl⟩
theorem eX12_readsStatement_124 : zD cX12_readsStatement 124 (.invokevirtual 116) 3 127 := ⟨by decide +kernel, rfl⟩
theorem eX12_readsStatement_127 : zD cX12_readsStatement 127 (.istore_n 2) 1 128 := ⟨by decide +kernel, rfl⟩
theorem eX12_readsStatement_128 : zD cX12_readsStatement 128 (.goto 20) 3 131 := ⟨by decide +kernel, rfl⟩
theorem eX12_readsStatement_131 : zD cX12_readsStatement 131 (.iconst 1) 1 132 := ⟨by decide +kernel, rfl⟩
theorem eX12_readsStatement_132 : zD cX12_readsStatement 132 (.istore_n 2) 1 133 := ⟨by decide +kernel, rfl⟩
theorem eX12_readsStatement_133 : zD cX12_readsStatement 133 (.goto 15) 3 136 := ⟨by decide +kernel, rfl⟩
theorem eX12_readsStatement_136 : zD cX12_readsStatement 136 (.aload_n 0) 1 137 := ⟨by decide +kernel, rfl⟩
theorem eX12_readsStatement_137 : zD cX12_readsStatement 137 (.dup) 1 138 := ⟨by decide +kernel, rfl⟩
theorem eX12_readsStatement_138 : zD cX12_readsStatement 138 (.getfield 93) 3 141 := ⟨by decide +kernel, rfl⟩
theorem eX12_readsStatement_141 : zD cX12_readsStatement 141 (.iconst 1) 1 142 := ⟨by decide +kernel, rfl⟩
theorem eX12_readsStatement_142 : zD cX12_readsStatement 142 (.isub) 1 143 := ⟨by decide +kernel, rfl⟩
theorem eX12_readsStatement_143 : zD cX12_readsStatement 143 (.putfield 93) 3 146 := ⟨by decide +kernel, rfl⟩
theorem eX12_readsStatement_146 : zD cX12_readsStatement 146 (.iconst 0) 1 147 := ⟨by decide +kernel, rfl⟩
theorem eX12_readsStatement_147 : zD cX12_readsStatement 147 (.ireturn) 1 148 := ⟨by decide +kernel, rfl⟩
theorem eX12_readsStatement_148 : zD cX12_readsStatement 148 (.iload_n 2) 1 149 := ⟨by decide +kernel, rfl⟩
theorem eX12_readsStatement_149 : zD cX12_readsStatement 149 (.ifCond .eq 16) 3 152 := ⟨by decide +kernel, rfl⟩
theorem eX12_readsStatement_152 : zD cX12_readsStatement 152 (.aload_n 0) 1 153 := ⟨by decide +kernel, rfl⟩
theorem eX12_readsStatement_153 : zD cX12_readsStatement 153 (.bipush 59) 2 155 := ⟨by decide +kernel, rfl⟩
theorem eX12_readsStatement_155 : zD cX12_readsStatement 155 (.invokevirtual 119) 3 158 := ⟨by decide +kernel, rfl⟩
theorem eX12_readsStatement_158 : zD cX12_readsStatement 158 (.ifCond .eq 7) 3 161 := ⟨by decide +kernel, rfl⟩
theorem eX12_readsStatement_161 : zD cX12_readsStatement 161 (.iconst 1) 1 162 := ⟨by decide +kernel, rfl⟩
theorem eX12_readsStatement_162 : zD cX12_readsStatement 162 (.goto 4) 3 165 := ⟨by decide +kernel, rfl⟩
theorem eX12_readsStatement_165 : zD cX12_readsStatement 165 (.iconst 0) 1 166 := ⟨by decide +kernel, rfl⟩
theorem eX12_readsStatement_166 : zD cX12_readsStatement 166 (.ireturn) 1 167 := ⟨by decide +kernel, rfl⟩
theorem eX12_comesTold_0 : zD cX12_comesTold 0 (.aload_n 0) 1 1 := ⟨by decide +kernel, rfl⟩
theorem eX12_comesTold_1 : zD cX12_comesTold 1 (.getfield 37) 3 4 := ⟨by decide +kernel, rfl⟩
theorem eX12_comesTold_4 : zD cX12_comesTold 4 (.iconst 0) 1 5 := ⟨by decide +kernel, rfl⟩
theorem eX12_comesTold_5 : zD cX12_comesTold 5 (.iaload) 1 6 := ⟨by decide +kernel, rfl⟩
theorem eX12_comesTold_6 : zD cX12_comesTold 6 (.istore_n 2) 1 7 := ⟨by decide +kernel, rfl⟩
theorem eX12_comesTold_7 : zD cX12_comesTold 7 (.iload_n 1) 1 8 := ⟨by decide +kernel, rfl⟩
theorem eX12_comesTold_8 : zD cX12_comesTold 8 (.lookupswitch 174 #[(98, 36), (116, 148), (119, 139)]) 36 44 := ⟨by decide +kernel, rfl⟩
theorem eX12_comesTold_44 : zD cX12_comesTold 44 (.iload_n 2) 1 45 := ⟨by decide +kernel, rfl⟩
theorem eX12_comesTold_45 : zD cX12_comesTold 45 (.bipush 8) 2 47 := ⟨by decide +kernel, rfl⟩
theorem eX12_comesTold_47 : zD cX12_comesTold 47 (.if_icmp .ge 46) 3 50 := ⟨by decide +kernel, rfl⟩
theorem eX12_comesTold_50 : zD cX12_comesTold 50 (.aload_n 0) 1 51 := ⟨by decide +kernel, rfl⟩
theorem eX12_comesTold_51 : zD cX12_comesTold 51 (.getfield 37) 3 54 := ⟨by decide +kernel, rfl⟩
theorem eX12_comesTold_54 : zD cX12_comesTold 54 (.iconst 2) 1 55 := ⟨by decide +kernel, rfl⟩
theorem eX12_comesTold_55 : zD cX12_comesTold 55 (.iaload) 1 56 := ⟨by decide +kernel, rfl⟩
theorem eX12_comesTold_56 : zD cX12_comesTold 56 (.iconst 2) 1 57 := ⟨by decide +kernel, rfl⟩
theorem eX12_comesTold_57 : zD cX12_comesTold 57 (.if_icmp .ge 36) 3 60 := ⟨by decide +kernel, rfl⟩
theorem eX12_comesTold_60 : zD cX12_comesTold 60 (.aload_n 0) 1 61 := ⟨by decide +kernel, rfl⟩
theorem eX12_comesTold_61 : zD cX12_comesTold 61 (.getfield 37) 3 64 := ⟨by decide +kernel, rfl⟩
theorem eX12_comesTold_64 : zD cX12_comesTold 64 (.iconst 3) 1 65 := ⟨by decide +kernel, rfl⟩
theorem eX12_comesTold_65 : zD cX12_comesTold 65 (.iaload) 1 66 := ⟨by decide +kernel, rfl⟩
theorem eX12_comesTold_66 : zD cX12_comesTold 66 (.ifCond .le 27) 3 69 := ⟨by decide +kernel, rfl⟩
theorem eX12_comesTold_69 : zD cX12_comesTold 69 (.aload_n 0) 1 70 := ⟨by decide +kernel, rfl⟩
theorem eX12_comesTold_70 : zD cX12_comesTold 70 (.getfield 37) 3 73 := ⟨by decide +kernel, rfl⟩
theorem eX12_comesTold_73 : zD cX12_comesTold 73 (.iconst 4) 1 74 := ⟨by decide +kernel, rfl⟩
theorem eX12_comesTold_74 : zD cX12_comesTold 74 (.iaload) 1 75 := ⟨by decide +kernel, rfl⟩
theorem eX12_comesTold_75 : zD cX12_comesTold 75 (.ifCond .le 18) 3 78 := ⟨by decide +kernel, rfl⟩
theorem eX12_comesTold_78 : zD cX12_comesTold 78 (.aload_n 0) 1 79 := ⟨by decide +kernel, rfl⟩
theorem eX12_comesTold_79 : zD cX12_comesTold 79 (.getfield 9) 3 82 := ⟨by decide +kernel, rfl⟩
theorem eX12_comesTold_82 : zD cX12_comesTold 82 (.iconst 0) 1 83 := ⟨by decide +kernel, rfl⟩
theorem eX12_comesTold_83 : zD cX12_comesTold 83 (.iaload) 1 84 := ⟨by decide +kernel, rfl⟩
theorem eX12_comesTold_84 : zD cX12_comesTold 84 (.bipush 9) 2 86 := ⟨by decide +kernel, rfl⟩
theorem eX12_comesTold_86 : zD cX12_comesTold 86 (.if_icmp .ge 7) 3 89 := ⟨by decide +kernel, rfl⟩
theorem eX12_comesTold_89 : zD cX12_comesTold 89 (.iconst 1) 1 90 := ⟨by decide +kernel, rfl⟩
theorem eX12_comesTold_90 : zD cX12_comesTold 90 (.goto 4) 3 93 := ⟨by decide +kernel, rfl⟩
theorem eX12_comesTold_93 : zD cX12_comesTold 93 (.iconst 0) 1 94 := ⟨by decide +kernel, rfl⟩
theorem eX12_comesTold_94 : zD cX12_comesTold 94 (.istore_n 3) 1 95 := ⟨by decide +kernel, rfl⟩
theorem eX12_comesTold_95 : zD cX12_comesTold 95 (.iload_n 3) 1 96 := ⟨by decide +kernel, rfl⟩
theorem eX12_comesTold_96 : zD cX12_comesTold 96 (.ifCond .ne 5) 3 99 := ⟨by decide +kernel, rfl⟩
theorem eX12_comesTold_99 : zD cX12_comesTold 99 (.iconst 0) 1 100 := ⟨by decide +kernel, rfl⟩
theorem eX12_comesTold_100 : zD cX12_comesTold 100 (.ireturn) 1 101 := ⟨by decide +kernel, rfl⟩
theorem eX12_comesTold_101 : zD cX12_comesTold 101 (.iconst 0) 1 102 := ⟨by decide +kernel, rfl⟩
theorem eX12_comesTold_102 : zD cX12_comesTold 102 (.istore 4) 2 104 := ⟨by decide +kernel, rfl⟩
theorem eX12_comesTold_104 : zD cX12_comesTold 104 (.iload 4) 2 106 := ⟨by decide +kernel, rfl⟩
theorem eX12_comesTold_106 : zD cX12_comesTold 106 (.iconst 5) 1 107 := ⟨by decide +kernel, rfl⟩
theorem eX12_comesTold_107 : zD cX12_comesTold 107 (.if_icmp .ge 28) 3 110 := ⟨by decide +kernel, rfl⟩
theorem eX12_comesTold_110 : zD cX12_comesTold 110 (.aload_n 0) 1 111 := ⟨by decide +kernel, rfl⟩
theorem eX12_comesTold_111 : zD cX12_comesTold 111 (.aload_n 0) 1 112 := ⟨by decide +kernel, rfl⟩
theorem eX12_comesTold_112 : zD cX12_comesTold 112 (.getfield 9) 3 115 := ⟨by decide +kernel, rfl⟩
theorem eX12_comesTold_115 : zD cX12_comesTold 115 (.iconst 0) 1 116 := ⟨by decide +kernel, rfl⟩
theorem eX12_comesTold_116 : zD cX12_comesTold 116 (.iaload) 1 117 := ⟨by decide +kernel, rfl⟩
theorem eX12_comesTold_117 : zD cX12_comesTold 117 (.iload 4) 2 119 := ⟨by decide +kernel, rfl⟩
theorem eX12_comesTold_119 : zD cX12_comesTold 119 (.aload_n 0) 1 120 := ⟨by decide +kernel, rfl⟩
theorem eX12_comesTold_120 : zD cX12_comesTold 120 (.getfield 37) 3 123 := ⟨by decide +kernel, rfl⟩
theorem eX12_comesTold_123 : zD cX12_comesTold 123 (.iload 4) 2 125 := ⟨by decide +kernel, rfl⟩
theorem eX12_comesTold_125 : zD cX12_comesTold 125 (.iaload) 1 126 := ⟨by decide +kernel, rfl⟩
theorem eX12_comesTold_126 : zD cX12_comesTold 126 (.invokevirtual 122) 3 129 := ⟨by decide +kernel, rfl⟩
theorem eX12_comesTold_129 : zD cX12_comesTold 129 (.iinc 4 1) 3 132 := ⟨by decide +kernel, rfl⟩
theorem eX12_comesTold_132 : zD cX12_comesTold 132 (.goto (-28)) 3 135 := ⟨by decide +kernel, rfl⟩
theorem eX12_comesTold_135 : zD cX12_comesTold 135 (.aload_n 0) 1 136 := ⟨by decide +kernel, rfl⟩
theorem eX12_comesTold_136 : zD cX12_comesTold 136 (.getfield 9) 3 139 := ⟨by decide +kernel, rfl⟩
theorem eX12_comesTold_139 : zD cX12_comesTold 139 (.iconst 0) 1 140 := ⟨by decide +kernel, rfl⟩
theorem eX12_comesTold_140 : zD cX12_comesTold 140 (.dup2) 1 141 := ⟨by decide +kernel, rfl⟩
theorem eX12_comesTold_141 : zD cX12_comesTold 141 (.iaload) 1 142 := ⟨by decide +kernel, rfl⟩
theorem eX12_comesTold_142 : zD cX12_comesTold 142 (.iconst 1) 1 143 := ⟨by decide +kernel, rfl⟩
theorem eX12_comesTold_143 : zD cX12_comesTold 143 (.iadd) 1 144 := ⟨by decide +kernel, rfl⟩
theorem eX12_comesTold_144 : zD cX12_comesTold 144 (.iastore) 1 145 := ⟨by decide +kernel, rfl⟩
theorem eX12_comesTold_145 : zD cX12_comesTold 145 (.iconst 1) 1 146 := ⟨by decide +kernel, rfl⟩
theorem eX12_comesTold_146 : zD cX12_comesTold 146 (.ireturn) 1 147 := ⟨by decide +kernel, rfl⟩
theorem eX12_comesTold_147 : zD cX12_comesTold 147 (.aload_n 0) 1 148 := ⟨by decide +kernel, rfl⟩
theorem eX12_comesTold_148 : zD cX12_comesTold 148 (.getfield 9) 3 151 := ⟨by decide +kernel, rfl⟩
theorem eX12_comesTold_151 : zD cX12_comesTold 151 (.iconst 1) 1 152 := ⟨by decide +kernel, rfl⟩
theorem eX12_comesTold_152 : zD cX12_comesTold 152 (.iload_n 2) 1 153 := ⟨by decide +kernel, rfl⟩
theorem eX12_comesTold_153 : zD cX12_comesTold 153 (.iastore) 1 154 := ⟨by decide +kernel, rfl⟩
theorem eX12_comesTold_154 : zD cX12_comesTold 154 (.iconst 1) 1 155 := ⟨by decide +kernel, rfl⟩
theorem eX12_comesTold_155 : zD cX12_comesTold 155 (.ireturn) 1 156 := ⟨by decide +kernel, rfl⟩
theorem eX12_comesTold_156 : zD cX12_comesTold 156 (.aload_n 0) 1 157 := ⟨by decide +kernel, rfl⟩
theorem eX12_comesTold_157 : zD cX12_comesTold 157 (.iload_n 2) 1 158 := ⟨by decide +kernel, rfl⟩
theorem eX12_comesTold_158 : zD cX12_comesTold 158 (.invokevirtual 126) 3 161 := ⟨by decide +kernel, rfl⟩
theorem eX12_comesTold_161 : zD cX12_comesTold 161 (.ifCond .ne 5) 3 164 := ⟨by decide +kernel, rfl⟩
theorem eX12_comesTold_164 : zD cX12_comesTold 164 (.iconst 0) 1 165 := ⟨by decide +kernel, rfl⟩
theorem eX12_comesTold_165 : zD cX12_comesTold 165 (.ireturn) 1 166 := ⟨by decide +kernel, rfl⟩
theorem eX12_comesTold_166 : zD cX12_comesTold 166 (.aload_n 0) 1 167 := ⟨by decide +kernel, rfl⟩
theorem eX12_comesTold_167 : zD cX12_comesTold 167 (.iload_n 2) 1 168 := ⟨by decide +kernel, rfl⟩
theorem eX12_comesTold_168 : zD cX12_comesTold 168 (.iconst 2) 1 169 := ⟨by decide +kernel, rfl⟩
theorem eX12_comesTold_169 : zD cX12_comesTold 169 (.iconst 1) 1 170 := ⟨by decide +kernel, rfl⟩
theorem eX12_comesTold_170 : zD cX12_comesTold 170 (.aload_n 0) 1 171 := ⟨by decide +kernel, rfl⟩
theorem eX12_comesTold_171 : zD cX12_comesTold 171 (.iload_n 2) 1 172 := ⟨by decide +kernel, rfl⟩
theorem eX12_comesTold_172 : zD cX12_comesTold 172 (.iconst 2) 1 173 := ⟨by decide +kernel, rfl⟩
theorem eX12_comesTold_173 : zD cX12_comesTold 173 (.invokevirtual 63) 3 176 := ⟨by decide +kernel, rfl⟩
theorem eX12_comesTold_176 : zD cX12_comesTold 176 (.isub) 1 177 := ⟨by decide +kernel, rfl⟩
theorem eX12_comesTold_177 : zD cX12_comesTold 177 (.invokevirtual 122) 3 180 := ⟨by decide +kernel, rfl⟩
theorem eX12_comesTold_180 : zD cX12_comesTold 180 (.iconst 1) 1 181 := ⟨by decide +kernel, rfl⟩
theorem eX12_comesTold_181 : zD cX12_comesTold 181 (.ireturn) 1 182 := ⟨by decide +kernel, rfl⟩
theorem eX12_comesTold_182 : zD cX12_comesTold 182 (.aload_n 0) 1 183 := ⟨by decide +kernel, rfl⟩
theorem eX12_comesTold_183 : zD cX12_comesTold 183 (.getfield 9) 3 186 := ⟨by decide +kernel, rfl⟩
theorem eX12_comesTold_186 : zD cX12_comesTold 186 (.iconst 0) 1 187 := ⟨by decide +kernel, rfl⟩
theorem eX12_comesTold_187 : zD cX12_comesTold 187 (.iaload) 1 188 := ⟨by decide +kernel, rfl⟩
theorem eX12_comesTold_188 : zD cX12_comesTold 188 (.ifCond .ne 5) 3 191 := ⟨by decide +kernel, rfl⟩
theorem eX12_comesTold_191 : zD cX12_comesTold 191 (.iconst 0) 1 192 := ⟨by decide +kernel, rfl⟩
theorem eX12_comesTold_192 : zD cX12_comesTold 192 (.ireturn) 1 193 := ⟨by decide +kernel, rfl⟩
theorem eX12_comesTold_193 : zD cX12_comesTold 193 (.aload_n 0) 1 194 := ⟨by decide +kernel, rfl⟩
theorem eX12_comesTold_194 : zD cX12_comesTold 194 (.getfield 9) 3 197 := ⟨by decide +kernel, rfl⟩
theorem eX12_comesTold_197 : zD cX12_comesTold 197 (.iconst 0) 1 198 := ⟨by decide +kernel, rfl⟩
theorem eX12_comesTold_198 : zD cX12_comesTold 198 (.dup2) 1 199 := ⟨by decide +kernel, rfl⟩
theorem eX12_comesTold_199 : zD cX12_comesTold 199 (.iaload) 1 200 := ⟨by decide +kernel, rfl⟩
theorem eX12_comesTold_200 : zD cX12_comesTold 200 (.iconst 1) 1 201 := ⟨by decide +kernel, rfl⟩
theorem eX12_comesTold_201 : zD cX12_comesTold 201 (.isub) 1 202 := ⟨by decide +kernel, rfl⟩
theorem eX12_comesTold_202 : zD cX12_comesTold 202 (.iastore) 1 203 := ⟨by decide +kernel, rfl⟩
theorem eX12_comesTold_203 : zD cX12_comesTold 203 (.iconst 1) 1 204 := ⟨by decide +kernel, rfl⟩
theorem eX12_comesTold_204 : zD cX12_comesTold 204 (.ireturn) 1 205 := ⟨by decide +kernel, rfl⟩
theorem eX12_wrongRow_0 : zD cX12_wrongRow 0 (.iload_n 1) 1 1 := ⟨by decide +kernel, rfl⟩
theorem eX12_wrongRow_1 : zD cX12_wrongRow 1 (.invokestatic 129) 3 4 := ⟨by decide +kernel, rfl⟩
theorem eX12_wrongRow_4 : zD cX12_wrongRow 4 (.ifCond .ne 7) 3 7 := ⟨by decide +kernel, rfl⟩
theorem eX12_wrongRow_7 : zD cX12_wrongRow 7 (.iconst (-1)) 1 8 := ⟨by decide +kernel, rfl⟩
theorem eX12_wrongRow_8 : zD cX12_wrongRow 8 (.goto 47) 3 11 := ⟨by decide +kernel, rfl⟩
theorem eX12_wrongRow_11 : zD cX12_wrongRow 11 (.aload_n 0) 1 12 := ⟨by decide +kernel, rfl⟩
theorem eX12_wrongRow_12 : zD cX12_wrongRow 12 (.getfield 19) 3 15 := ⟨by decide +kernel, rfl⟩
theorem eX12_wrongRow_15 : zD cX12_wrongRow 15 (.iload_n 1) 1 16 := ⟨by decide +kernel, rfl⟩
theorem eX12_wrongRow_16 : zD cX12_wrongRow 16 (.iaload) 1 17 := ⟨by decide +kernel, rfl⟩
theorem eX12_wrongRow_17 : zD cX12_wrongRow 17 (.ifCond .ne 8) 3 20 := ⟨by decide +kernel, rfl⟩
theorem eX12_wrongRow_20 : zD cX12_wrongRow 20 (.bipush (-11)) 2 22 := ⟨by decide +kernel, rfl⟩
theorem eX12_wrongRow_22 : zD cX12_wrongRow 22 (.goto 33) 3 25 := ⟨by decide +kernel, rfl⟩
theorem eX12_wrongRow_25 : zD cX12_wrongRow 25 (.aload_n 0) 1 26 := ⟨by decide +kernel, rfl⟩
theorem eX12_wrongRow_26 : zD cX12_wrongRow 26 (.getfield 19) 3 29 := ⟨by decide +kernel, rfl⟩
theorem eX12_wrongRow_29 : zD cX12_wrongRow 29 (.iload_n 1) 1 30 := ⟨by decide +kernel, rfl⟩
theorem eX12_wrongRow_30 : zD cX12_wrongRow 30 (.iaload) 1 31 := ⟨by decide +kernel, rfl⟩
theorem eX12_wrongRow_31 : zD cX12_wrongRow 31 (.iconst 2) 1 32 := ⟨by decide +kernel, rfl⟩
theorem eX12_wrongRow_32 : zD cX12_wrongRow 32 (.if_icmp .ne 17) 3 35 := ⟨by decide +kernel, rfl⟩
theorem eX12_wrongRow_35 : zD cX12_wrongRow 35 (.iload_n 2) 1 36 := ⟨by decide +kernel, rfl⟩
theorem eX12_wrongRow_36 : zD cX12_wrongRow 36 (.ifCond .lt 18) 3 39 := ⟨by decide +kernel, rfl⟩
theorem eX12_wrongRow_39 : zD cX12_wrongRow 39 (.aload_n 0) 1 40 := ⟨by decide +kernel, rfl⟩
theorem eX12_wrongRow_40 : zD cX12_wrongRow 40 (.getfield 22) 3 43 := ⟨by decide +kernel, rfl⟩
theorem eX12_wrongRow_43 : zD cX12_wrongRow 43 (.iload_n 1) 1 44 := ⟨by decide +kernel, rfl⟩
theorem eX12_wrongRow_44 : zD cX12_wrongRow 44 (.iaload) 1 45 := ⟨by decide +kernel, rfl⟩
theorem eX12_wrongRow_45 : zD cX12_wrongRow 45 (.iload_n 2) 1 46 := ⟨by decide +kernel, rfl⟩
theorem eX12_wrongRow_46 : zD cX12_wrongRow 46 (.if_icmp .eq 8) 3 49 := ⟨by decide +kernel, rfl⟩
theorem eX12_wrongRow_49 : zD cX12_wrongRow 49 (.bipush (-12)) 2 51 := ⟨by decide +kernel, rfl⟩
theorem eX12_wrongRow_51 : zD cX12_wrongRow 51 (.goto 4) 3 54 := ⟨by decide +kernel, rfl⟩
theorem eX12_wrongRow_54 : zD cX12_wrongRow 54 (.iconst 0) 1 55 := ⟨by decide +kernel, rfl⟩
theorem eX12_wrongRow_55 : zD cX12_wrongRow 55 (.ireturn) 1 56 := ⟨by decide +kernel, rfl⟩
theorem eX12_heap_0 : zD cX12_heap 0 (.aload_n 0) 1 1 := ⟨by decide +kernel, rfl⟩
theorem eX12_heap_1 : zD cX12_heap 1 (.iload_n 1) 1 2 := ⟨by decide +kernel, rfl⟩
theorem eX12_heap_2 : zD cX12_heap 2 (.iconst 0) 1 3 := ⟨by decide +kernel, rfl⟩
theorem eX12_heap_3 : zD cX12_heap 3 (.invokevirtual 132) 3 6 := ⟨by decide +kernel, rfl⟩
theorem eX12_heap_6 : zD cX12_heap 6 (.istore_n 2) 1 7 := ⟨by decide +kernel, rfl⟩
theorem eX12_heap_7 : zD cX12_heap 7 (.iload_n 2) 1 8 := ⟨by decide +kernel, rfl⟩
theorem eX12_heap_8 : zD cX12_heap 8 (.ifCond .eq 5) 3 11 := ⟨by decide +kernel, rfl⟩
theorem eX12_heap_11 : zD cX12_heap 11 (.iload_n 2) 1 12 := ⟨by decide +kernel, rfl⟩
theorem eX12_heap_12 : zD cX12_heap 12 (.ireturn) 1 13 := ⟨by decide +kernel, rfl⟩
theorem eX12_heap_13 : zD cX12_heap 13 (.aload_n 0) 1 14 := ⟨by decide +kernel, rfl⟩
theorem eX12_heap_14 : zD cX12_heap 14 (.bipush 100) 2 16 := ⟨by decide +kernel, rfl⟩
theorem eX12_heap_16 : zD cX12_heap 16 (.iload_n 1) 1 17 := ⟨by decide +kernel, rfl⟩
theorem eX12_heap_17 : zD cX12_heap 17 (.imul) 1 18 := ⟨by decide +kernel, rfl⟩
theorem eX12_heap_18 : zD cX12_heap 18 (.putfield 99) 3 21 := ⟨by decide +kernel, rfl⟩
theorem eX12_heap_21 : zD cX12_heap 21 (.aload_n 0) 1 22 := ⟨by decide +kernel, rfl⟩
theorem eX12_heap_22 : zD cX12_heap 22 (.aload_n 0) 1 23 := ⟨by decide +kernel, rfl⟩
theorem eX12_heap_23 : zD cX12_heap 23 (.getfield 25) 3 26 := ⟨by decide +kernel, rfl⟩
theorem eX12_heap_26 : zD cX12_heap 26 (.iload_n 1) 1 27 := ⟨by decide +kernel, rfl⟩
theorem eX12_heap_27 : zD cX12_heap 27 (.iaload) 1 28 := ⟨by decide +kernel, rfl⟩
theorem eX12_heap_28 : zD cX12_heap 28 (.putfield 96) 3 31 := ⟨by decide +kernel, rfl⟩
theorem eX12_heap_31 : zD cX12_heap 31 (.aload_n 0) 1 32 := ⟨by decide +kernel, rfl⟩
theorem eX12_heap_32 : zD cX12_heap 32 (.iconst 0) 1 33 := ⟨by decide +kernel, rfl⟩
theorem eX12_heap_33 : zD cX12_heap 33 (.putfield 93) 3 36 := ⟨by decide +kernel, rfl⟩
theorem eX12_heap_36 : zD cX12_heap 36 (.iconst 0) 1 37 := ⟨by decide +kernel, rfl⟩
theorem eX12_heap_37 : zD cX12_heap 37 (.istore_n 3) 1 38 := ⟨by decide +kernel, rfl⟩
theorem eX12_heap_38 : zD cX12_heap 38 (.aload_n 0) 1 39 := ⟨by decide +kernel, rfl⟩
theorem eX12_heap_39 : zD cX12_heap 39 (.invokevirtual 135) 3 42 := ⟨by decide +kernel, rfl⟩
theorem eX12_heap_42 : zD cX12_heap 42 (.ifCond .ne 12) 3 45 := ⟨by decide +kernel, rfl⟩
theorem eX12_heap_45 : zD cX12_heap 45 (.sipush (-1000)) 3 48 := ⟨by decide +kernel, rfl⟩
theorem eX12_heap_48 : zD cX12_heap 48 (.aload_n 0) 1 49 := ⟨by decide +kernel, rfl⟩
theorem eX12_heap_49 : zD cX12_heap 49 (.getfield 93) 3 52 := ⟨by decide +kernel, rfl⟩
theorem eX12_heap_52 : zD cX12_heap 52 (.isub) 1 53 := ⟨by decide +kernel, rfl⟩
theorem eX12_heap_53 : zD cX12_heap 53 (.ireturn) 1 54 := ⟨by decide +kernel, rfl⟩
theorem eX12_heap_54 : zD cX12_heap 54 (.iinc 3 1) 3 57 := ⟨by decide +kernel, rfl⟩
theorem eX12_heap_57 : zD cX12_heap 57 (.aload_n 0) 1 58 := ⟨by decide +kernel, rfl⟩
theorem eX12_heap_58 : zD cX12_heap 58 (.getfield 93) 3 61 := ⟨by decide +kernel, rfl⟩
theorem eX12_heap_61 : zD cX12_heap 61 (.aload_n 0) 1 62 := ⟨by decide +kernel, rfl⟩
theorem eX12_heap_62 : zD cX12_heap 62 (.getfield 96) 3 65 := ⟨by decide +kernel, rfl⟩
theorem eX12_heap_65 : zD cX12_heap 65 (.if_icmp .lt (-27)) 3 68 := ⟨by decide +kernel, rfl⟩
theorem eX12_heap_68 : zD cX12_heap 68 (.aload_n 0) 1 69 := ⟨by decide +kernel, rfl⟩
theorem eX12_heap_69 : zD cX12_heap 69 (.getfield 9) 3 72 := ⟨by decide +kernel, rfl⟩
theorem eX12_heap_72 : zD cX12_heap 72 (.aload_n 0) 1 73 := ⟨by decide +kernel, rfl⟩
theorem eX12_heap_73 : zD cX12_heap 73 (.getfield 16) 3 76 := ⟨by decide +kernel, rfl⟩
theorem eX12_heap_76 : zD cX12_heap 76 (.invokestatic 138) 3 79 := ⟨by decide +kernel, rfl⟩
theorem eX12_heap_79 : zD cX12_heap 79 (.aload_n 0) 1 80 := ⟨by decide +kernel, rfl⟩
theorem eX12_heap_80 : zD cX12_heap 80 (.iconst 0) 1 81 := ⟨by decide +kernel, rfl⟩
theorem eX12_heap_81 : zD cX12_heap 81 (.putfield 93) 3 84 := ⟨by decide +kernel, rfl⟩
theorem eX12_heap_84 : zD cX12_heap 84 (.aload_n 0) 1 85 := ⟨by decide +kernel, rfl⟩
theorem eX12_heap_85 : zD cX12_heap 85 (.getfield 93) 3 88 := ⟨by decide +kernel, rfl⟩
theorem eX12_heap_88 : zD cX12_heap 88 (.aload_n 0) 1 89 := ⟨by decide +kernel, rfl⟩
theorem eX12_heap_89 : zD cX12_heap 89 (.getfield 96) 3 92 := ⟨by decide +kernel, rfl⟩
theorem eX12_heap_92 : zD cX12_heap 92 (.if_icmp .ge 51) 3 95 := ⟨by decide +kernel, rfl⟩
theorem eX12_heap_95 : zD cX12_heap 95 (.aload_n 0) 1 96 := ⟨by decide +kernel, rfl⟩
theorem eX12_heap_96 : zD cX12_heap 96 (.getfield 93) 3 99 := ⟨by decide +kernel, rfl⟩
theorem eX12_heap_99 : zD cX12_heap 99 (.istore 4) 2 101 := ⟨by decide +kernel, rfl⟩
theorem eX12_heap_101 : zD cX12_heap 101 (.aload_n 0) 1 102 := ⟨by decide +kernel, rfl⟩
theorem eX12_heap_102 : zD cX12_heap 102 (.invokevirtual 102) 3 105 := ⟨by decide +kernel, rfl⟩
theorem eX12_heap_105 : zD cX12_heap 105 (.istore 5) 2 107 := ⟨by decide +kernel, rfl⟩
theorem eX12_heap_107 : zD cX12_heap 107 (.aload_n 0) 1 108 := ⟨by decide +kernel, rfl⟩
theorem eX12_heap_108 : zD cX12_heap 108 (.invokevirtual 135) 3 111 := ⟨by decide +kernel, rfl⟩
theorem eX12_heap_111 : zD cX12_heap 111 (.istore 6) 2 113 := ⟨by decide +kernel, rfl⟩
theorem eX12_heap_113 : zD cX12_heap 113 (.aload_n 0) 1 114 := ⟨by decide +kernel, rfl⟩
theorem eX12_heap_114 : zD cX12_heap 114 (.iload 5) 2 116 := ⟨by decide +kernel, rfl⟩
theorem eX12_heap_116 : zD cX12_heap 116 (.invokevirtual 142) 3 119 := ⟨by decide +kernel, rfl⟩
theorem eX12_heap_119 : zD cX12_heap 119 (.ifCond .ne 21) 3 122 := ⟨by decide +kernel, rfl⟩
theorem eX12_heap_122 : zD cX12_heap 122 (.aload_n 0) 1 123 := ⟨by decide +kernel, rfl⟩
theorem eX12_heap_123 : zD cX12_heap 123 (.getfield 16) 3 126 := ⟨by decide +kernel, rfl⟩
theorem eX12_heap_126 : zD cX12_heap 126 (.aload_n 0) 1 127 := ⟨by decide +kernel, rfl⟩
theorem eX12_heap_127 : zD cX12_heap 127 (.getfield 9) 3 130 := ⟨by decide +kernel, rfl⟩
theorem eX12_heap_130 : zD cX12_heap 130 (.invokestatic 138) 3 133 := ⟨by decide +kernel, rfl⟩
theorem eX12_heap_133 : zD cX12_heap 133 (.sipush (-2000)) 3 136 := ⟨by decide +kernel, rfl⟩
theorem eX12_heap_136 : zD cX12_heap 136 (.iload 4) 2 138 := ⟨by decide +kernel, rfl⟩
theorem eX12_heap_138 : zD cX12_heap 138 (.isub) 1 139 := ⟨by decide +kernel, rfl⟩
theorem eX12_heap_139 : zD cX12_heap 139 (.ireturn) 1 140 := ⟨by decide +kernel, rfl⟩
theorem eX12_heap_140 : zD cX12_heap 140 (.goto (-56)) 3 143 := ⟨by decide +kernel, rfl⟩
theorem eX12_heap_143 : zD cX12_heap 143 (.iload_n 3) 1 144 := ⟨by decide +kernel, rfl⟩
theorem eX12_heap_144 : zD cX12_heap 144 (.ireturn) 1 145 := ⟨by decide +kernel, rfl⟩
theorem eX12_bowl_0 : zD cX12_bowl 0 (.aload_n 0) 1 1 := ⟨by decide +kernel, rfl⟩
theorem eX12_bowl_1 : zD cX12_bowl 1 (.iload_n 1) 1 2 := ⟨by decide +kernel, rfl⟩
theorem eX12_bowl_2 : zD cX12_bowl 2 (.invokevirtual 126) 3 5 := ⟨by decide +kernel, rfl⟩
theorem eX12_bowl_5 : zD cX12_bowl 5 (.ifCond .ne 5) 3 8 := ⟨by decide +kernel, rfl⟩
theorem eX12_bowl_8 : zD cX12_bowl 8 (.iconst (-1)) 1 9 := ⟨by decide +kernel, rfl⟩
theorem eX12_bowl_9 : zD cX12_bowl 9 (.ireturn) 1 10 := ⟨by decide +kernel, rfl⟩
theorem eX12_bowl_10 : zD cX12_bowl 10 (.iload_n 2) 1 11 := ⟨by decide +kernel, rfl⟩
theorem eX12_bowl_11 : zD cX12_bowl 11 (.tableswitch 70 0 7 #[45, 45, 45, 45, 45, 52, 58, 64]) 45 56 := ⟨by decide +kernel, rfl⟩
theorem eX12_bowl_56 : zD cX12_bowl 56 (.aload_n 0) 1 57 := ⟨by decide +kernel, rfl⟩
theorem eX12_bowl_57 : zD cX12_bowl 57 (.iload_n 1) 1 58 := ⟨by decide +kernel, rfl⟩
theorem eX12_bowl_58 : zD cX12_bowl 58 (.iload_n 2) 1 59 := ⟨by decide +kernel, rfl⟩
theorem eX12_bowl_59 : zD cX12_bowl 59 (.invokevirtual 63) 3 62 := ⟨by decide +kernel, rfl⟩
theorem eX12_bowl_62 : zD cX12_bowl 62 (.ireturn) 1 63 := ⟨by decide +kernel, rfl⟩
theorem eX12_bowl_63 : zD cX12_bowl 63 (.aload_n 0) 1 64 := ⟨by decide +kernel, rfl⟩
theorem eX12_bowl_64 : zD cX12_bowl 64 (.iload_n 1) 1 65 := ⟨by decide +kernel, rfl⟩
theorem eX12_bowl_65 : zD cX12_bowl 65 (.invokevirtual 82) 3 68 := ⟨by decide +kernel, rfl⟩
theorem eX12_bowl_68 : zD cX12_bowl 68 (.ireturn) 1 69 := ⟨by decide +kernel, rfl⟩
theorem eX12_bowl_69 : zD cX12_bowl 69 (.aload_n 0) 1 70 := ⟨by decide +kernel, rfl⟩
theorem eX12_bowl_70 : zD cX12_bowl 70 (.iload_n 1) 1 71 := ⟨by decide +kernel, rfl⟩
theorem eX12_bowl_71 : zD cX12_bowl 71 (.invokevirtual 145) 3 74 := ⟨by decide +kernel, rfl⟩
theorem eX12_bowl_74 : zD cX12_bowl 74 (.ireturn) 1 75 := ⟨by decide +kernel, rfl⟩
theorem eX12_bowl_75 : zD cX12_bowl 75 (.aload_n 0) 1 76 := ⟨by decide +kernel, rfl⟩
theorem eX12_bowl_76 : zD cX12_bowl 76 (.iload_n 1) 1 77 := ⟨by decide +kernel, rfl⟩
theorem eX12_bowl_77 : zD cX12_bowl 77 (.invokevirtual 148) 3 80 := ⟨by decide +kernel, rfl⟩
theorem eX12_bowl_80 : zD cX12_bowl 80 (.ireturn) 1 81 := ⟨by decide +kernel, rfl⟩
theorem eX12_bowl_81 : zD cX12_bowl 81 (.iconst (-1)) 1 82 := ⟨by decide +kernel, rfl⟩
theorem eX12_bowl_82 : zD cX12_bowl 82 (.ireturn) 1 83 := ⟨by decide +kernel, rfl⟩
theorem eX12_wrongKept_0 : zD cX12_wrongKept 0 (.iload_n 1) 1 1 := ⟨by decide +kernel, rfl⟩
theorem eX12_wrongKept_1 : zD cX12_wrongKept 1 (.invokestatic 129) 3 4 := ⟨by decide +kernel, rfl⟩
theorem eX12_wrongKept_4 : zD cX12_wrongKept 4 (.ifCond .ne 7) 3 7 := ⟨by decide +kernel, rfl⟩
theorem eX12_wrongKept_7 : zD cX12_wrongKept 7 (.iconst (-1)) 1 8 := ⟨by decide +kernel, rfl⟩
theorem eX12_wrongKept_8 : zD cX12_wrongKept 8 (.goto 33) 3 11 := ⟨by decide +kernel, rfl⟩
theorem eX12_wrongKept_11 : zD cX12_wrongKept 11 (.aload_n 0) 1 12 := ⟨by decide +kernel, rfl⟩
theorem eX12_wrongKept_12 : zD cX12_wrongKept 12 (.getfield 19) 3 15 := ⟨by decide +kernel, rfl⟩
theorem eX12_wrongKept_15 : zD cX12_wrongKept 15 (.iload_n 1) 1 16 := ⟨by decide +kernel, rfl⟩
theorem eX12_wrongKept_16 : zD cX12_wrongKept 16 (.iaload) 1 17 := ⟨by decide +kernel, rfl⟩
theorem eX12_wrongKept_17 : zD cX12_wrongKept 17 (.ifCond .ne 8) 3 20 := ⟨by decide +kernel, rfl⟩
theorem eX12_wrongKept_20 : zD cX12_wrongKept 20 (.bipush (-11)) 2 22 := ⟨by decide +kernel, rfl⟩
theorem eX12_wrongKept_22 : zD cX12_wrongKept 22 (.goto 19) 3 25 := ⟨by decide +kernel, rfl⟩
theorem eX12_wrongKept_25 : zD cX12_wrongKept 25 (.aload_n 0) 1 26 := ⟨by decide +kernel, rfl⟩
theorem eX12_wrongKept_26 : zD cX12_wrongKept 26 (.getfield 19) 3 29 := ⟨by decide +kernel, rfl⟩
theorem eX12_wrongKept_29 : zD cX12_wrongKept 29 (.iload_n 1) 1 30 := ⟨by decide +kernel, rfl⟩
theorem eX12_wrongKept_30 : zD cX12_wrongKept 30 (.iaload) 1 31 := ⟨by decide +kernel, rfl⟩
theorem eX12_wrongKept_31 : zD cX12_wrongKept 31 (.iconst 1) 1 32 := ⟨by decide +kernel, rfl⟩
theorem eX12_wrongKept_32 : zD cX12_wrongKept 32 (.if_icmp .ne 7) 3 35 := ⟨by decide +kernel, rfl⟩
theorem eX12_wrongKept_35 : zD cX12_wrongKept 35 (.iconst 0) 1 36 := ⟨by decide +kernel, rfl⟩
theorem eX12_wrongKept_36 : zD cX12_wrongKept 36 (.goto 5) 3 39 := ⟨by decide +kernel, rfl⟩
theorem eX12_wrongKept_39 : zD cX12_wrongKept 39 (.bipush (-12)) 2 41 := ⟨by decide +kernel, rfl⟩
theorem eX12_wrongKept_41 : zD cX12_wrongKept 41 (.ireturn) 1 42 := ⟨by decide +kernel, rfl⟩
theorem eX12_adds_0 : zD cX12_adds 0 (.aload_n 0) 1 1 := ⟨by decide +kernel, rfl⟩
theorem eX12_adds_1 : zD cX12_adds 1 (.aload_n 0) 1 2 := ⟨by decide +kernel, rfl⟩
theorem eX12_adds_2 : zD cX12_adds 2 (.getfield 9) 3 5 := ⟨by decide +kernel, rfl⟩
theorem eX12_adds_5 : zD cX12_adds 5 (.iconst 0) 1 6 := ⟨by decide +kernel, rfl⟩
theorem eX12_adds_6 : zD cX12_adds 6 (.iaload) 1 7 := ⟨by decide +kernel, rfl⟩
theorem eX12_adds_7 : zD cX12_adds 7 (.iconst 0) 1 8 := ⟨by decide +kernel, rfl⟩
theorem eX12_adds_8 : zD cX12_adds 8 (.iload_n 1) 1 9 := ⟨by decide +kernel, rfl⟩
theorem eX12_adds_9 : zD cX12_adds 9 (.invokevirtual 122) 3 12 := ⟨by decide +kernel, rfl⟩
theorem eX12_adds_12 : zD cX12_adds 12 (.aload_n 0) 1 13 := ⟨by decide +kernel, rfl⟩
theorem eX12_adds_13 : zD cX12_adds 13 (.aload_n 0) 1 14 := ⟨by decide +kernel, rfl⟩
theorem eX12_adds_14 : zD cX12_adds 14 (.getfield 9) 3 17 := ⟨by decide +kernel, rfl⟩
theorem eX12_adds_17 : zD cX12_adds 17 (.iconst 0) 1 18 := ⟨by decide +kernel, rfl⟩
theorem eX12_adds_18 : zD cX12_adds 18 (.iaload) 1 19 := ⟨by decide +kernel, rfl⟩
theorem eX12_adds_19 : zD cX12_adds 19 (.iconst 1) 1 20 := ⟨by decide +kernel, rfl⟩
theorem eX12_adds_20 : zD cX12_adds 20 (.iload_n 2) 1 21 := ⟨by decide +kernel, rfl⟩
theorem eX12_adds_21 : zD cX12_adds 21 (.invokevirtual 122) 3 24 := ⟨by decide +kernel, rfl⟩
theorem eX12_adds_24 : zD cX12_adds 24 (.aload_n 0) 1 25 := ⟨by decide +kernel, rfl⟩
theorem eX12_adds_25 : zD cX12_adds 25 (.aload_n 0) 1 26 := ⟨by decide +kernel, rfl⟩
theorem eX12_adds_26 : zD cX12_adds 26 (.getfield 9) 3 29 := ⟨by decide +kernel, rfl⟩
theorem eX12_adds_29 : zD cX12_adds 29 (.iconst 0) 1 30 := ⟨by decide +kernel, rfl⟩
theorem eX12_adds_30 : zD cX12_adds 30 (.iaload) 1 31 := ⟨by decide +kernel, rfl⟩
theorem eX12_adds_31 : zD cX12_adds 31 (.iconst 2) 1 32 := ⟨by decide +kernel, rfl⟩
theorem eX12_adds_32 : zD cX12_adds 32 (.iload_n 3) 1 33 := ⟨by decide +kernel, rfl⟩
theorem eX12_adds_33 : zD cX12_adds 33 (.invokevirtual 122) 3 36 := ⟨by decide +kernel, rfl⟩
theorem eX12_adds_36 : zD cX12_adds 36 (.aload_n 0) 1 37 := ⟨by decide +kernel, rfl⟩
theorem eX12_adds_37 : zD cX12_adds 37 (.aload_n 0) 1 38 := ⟨by decide +kernel, rfl⟩
theorem eX12_adds_38 : zD cX12_adds 38 (.getfield 9) 3 41 := ⟨by decide +kernel, rfl⟩
theorem eX12_adds_41 : zD cX12_adds 41 (.iconst 0) 1 42 := ⟨by decide +kernel, rfl⟩
theorem eX12_adds_42 : zD cX12_adds 42 (.iaload) 1 43 := ⟨by decide +kernel, rfl⟩
theorem eX12_adds_43 : zD cX12_adds 43 (.iconst 3) 1 44 := ⟨by decide +kernel, rfl⟩
theorem eX12_adds_44 : zD cX12_adds 44 (.iload 4) 2 46 := ⟨by decide +kernel, rfl⟩
theorem eX12_adds_46 : zD cX12_adds 46 (.invokevirtual 122) 3 49 := ⟨by decide +kernel, rfl⟩
theorem eX12_adds_49 : zD cX12_adds 49 (.aload_n 0) 1 50 := ⟨by decide +kernel, rfl⟩
theorem eX12_adds_50 : zD cX12_adds 50 (.aload_n 0) 1 51 := ⟨by decide +kernel, rfl⟩
theorem eX12_adds_51 : zD cX12_adds 51 (.getfield 9) 3 54 := ⟨by decide +kernel, rfl⟩
theorem eX12_adds_54 : zD cX12_adds 54 (.iconst 0) 1 55 := ⟨by decide +kernel, rfl⟩
theorem eX12_adds_55 : zD cX12_adds 55 (.iaload) 1 56 := ⟨by decide +kernel, rfl⟩
theorem eX12_adds_56 : zD cX12_adds 56 (.iconst 4) 1 57 := ⟨by decide +kernel, rfl⟩
theorem eX12_adds_57 : zD cX12_adds 57 (.iload 5) 2 59 := ⟨by decide +kernel, rfl⟩
theorem eX12_adds_59 : zD cX12_adds 59 (.invokevirtual 122) 3 62 := ⟨by decide +kernel, rfl⟩
theorem eX12_adds_62 : zD cX12_adds 62 (.return_) 1 63 := ⟨by decide +kernel, rfl⟩
theorem eX12_comes_0 : zD cX12_comes 0 (.iload_n 2) 1 1 := ⟨by decide +kernel, rfl⟩
theorem eX12_comes_1 : zD cX12_comes 1 (.i2l) 1 2 := ⟨by decide +kernel, rfl⟩
theorem eX12_comes_2 : zD cX12_comes 2 (.lconst 1) 1 3 := ⟨by decide +kernel, rfl⟩
theorem eX12_comes_3 : zD cX12_comes 3 (.ldc2_w 151) 3 6 := ⟨by decide +kernel, rfl⟩
theorem eX12_comes_6 : zD cX12_comes 6 (.invokestatic 55) 3 9 := ⟨by decide +kernel, rfl⟩
theorem eX12_comes_9 : zD cX12_comes 9 (.ifCond .eq 26) 3 12 := ⟨by decide +kernel, rfl⟩
theorem eX12_comes_12 : zD cX12_comes 12 (.iload_n 3) 1 13 := ⟨by decide +kernel, rfl⟩
theorem eX12_comes_13 : zD cX12_comes 13 (.i2l) 1 14 := ⟨by decide +kernel, rfl⟩
theorem eX12_comes_14 : zD cX12_comes 14 (.lconst 1) 1 15 := ⟨by decide +kernel, rfl⟩
theorem eX12_comes_15 : zD cX12_comes 15 (.ldc2_w 151) 3 18 := ⟨by decide +kernel, rfl⟩
theorem eX12_comes_18 : zD cX12_comes 18 (.invokestatic 55) 3 21 := ⟨by decide +kernel, rfl⟩
theorem eX12_comes_21 : zD cX12_comes 21 (.ifCond .eq 14) 3 24 := ⟨by decide +kernel, rfl⟩
theorem eX12_comes_24 : zD cX12_comes 24 (.iload 4) 2 26 := ⟨by decide +kernel, rfl⟩
theorem eX12_comes_26 : zD cX12_comes 26 (.i2l) 1 27 := ⟨by decide +kernel, rfl⟩
theorem eX12_comes_27 : zD cX12_comes 27 (.lconst 0) 1 28 := ⟨by decide +kernel, rfl⟩
theorem eX12_comes_28 : zD cX12_comes 28 (.lconst 1) 1 29 := ⟨by decide +kernel, rfl⟩
theorem eX12_comes_29 : zD cX12_comes 29 (.invokestatic 55) 3 32 := ⟨by decide +kernel, rfl⟩
theorem eX12_comes_32 : zD cX12_comes 32 (.ifCond .ne 7) 3 35 := ⟨by decide +kernel, rfl⟩
theorem eX12_comes_35 : zD cX12_comes 35 (.iconst (-1)) 1 36 := ⟨by decide +kernel, rfl⟩
theorem eX12_comes_36 : zD cX12_comes 36 (.goto 8) 3 39 := ⟨by decide +kernel, rfl⟩
theorem eX12_comes_39 : zD cX12_comes 39 (.aload_n 0) 1 40 := ⟨by decide +kernel, rfl⟩
theorem eX12_comes_40 : zD cX12_comes 40 (.iload_n 1) 1 41 := ⟨by decide +kernel, rfl⟩
theorem eX12_comes_41 : zD cX12_comes 41 (.invokevirtual 153) 3 44 := ⟨by decide +kernel, rfl⟩
theorem eX12_comes_44 : zD cX12_comes 44 (.istore 5) 2 46 := ⟨by decide +kernel, rfl⟩
theorem eX12_comes_46 : zD cX12_comes 46 (.iload 5) 2 48 := ⟨by decide +kernel, rfl⟩
theorem eX12_comes_48 : zD cX12_comes 48 (.ifCond .ne 18) 3 51 := ⟨by decide +kernel, rfl⟩
theorem eX12_comes_51 : zD cX12_comes 51 (.aload_n 0) 1 52 := ⟨by decide +kernel, rfl⟩
theorem eX12_comes_52 : zD cX12_comes 52 (.getfield 9) 3 55 := ⟨by decide +kernel, rfl⟩
theorem eX12_comes_55 : zD cX12_comes 55 (.iconst 0) 1 56 := ⟨by decide +kernel, rfl⟩
theorem eX12_comes_56 : zD cX12_comes 56 (.iaload) 1 57 := ⟨by decide +kernel, rfl⟩
theorem eX12_comes_57 : zD cX12_comes 57 (.bipush 9) 2 59 := ⟨by decide +kernel, rfl⟩
theorem eX12_comes_59 : zD cX12_comes 59 (.if_icmp .ne 7) 3 62 := ⟨by decide +kernel, rfl⟩
theorem eX12_comes_62 : zD cX12_comes 62 (.bipush (-2)) 2 64 := ⟨by decide +kernel, rfl⟩
theorem eX12_comes_64 : zD cX12_comes 64 (.istore 5) 2 66 := ⟨by decide +kernel, rfl⟩
theorem eX12_comes_66 : zD cX12_comes 66 (.iload 5) 2 68 := ⟨by decide +kernel, rfl⟩
theorem eX12_comes_68 : zD cX12_comes 68 (.ifCond .eq 6) 3 71 := ⟨by decide +kernel, rfl⟩
theorem eX12_comes_71 : zD cX12_comes 71 (.iload 5) 2 73 := ⟨by decide +kernel, rfl⟩
theorem eX12_comes_73 : zD cX12_comes 73 (.ireturn) 1 74 := ⟨by decide +kernel, rfl⟩
theorem eX12_comes_74 : zD cX12_comes 74 (.aload_n 0) 1 75 := ⟨by decide +kernel, rfl⟩
theorem eX12_comes_75 : zD cX12_comes 75 (.aload_n 0) 1 76 := ⟨by decide +kernel, rfl⟩
theorem eX12_comes_76 : zD cX12_comes 76 (.getfield 31) 3 79 := ⟨by decide +kernel, rfl⟩
theorem eX12_comes_79 : zD cX12_comes 79 (.iload_n 1) 1 80 := ⟨by decide +kernel, rfl⟩
theorem eX12_comes_80 : zD cX12_comes 80 (.iaload) 1 81 := ⟨by decide +kernel, rfl⟩
theorem eX12_comes_81 : zD cX12_comes 81 (.aload_n 0) 1 82 := ⟨by decide +kernel, rfl⟩
theorem eX12_comes_82 : zD cX12_comes 82 (.getfield 34) 3 85 := ⟨by decide +kernel, rfl⟩
theorem eX12_comes_85 : zD cX12_comes 85 (.iload_n 1) 1 86 := ⟨by decide +kernel, rfl⟩
theorem eX12_comes_86 : zD cX12_comes 86 (.iaload) 1 87 := ⟨by decide +kernel, rfl⟩
theorem eX12_comes_87 : zD cX12_comes 87 (.iload 4) 2 89 := ⟨by decide +kernel, rfl⟩
theorem eX12_comes_89 : zD cX12_comes 89 (.iload_n 2) 1 90 := ⟨by decide +kernel, rfl⟩
theorem eX12_comes_90 : zD cX12_comes 90 (.iload_n 3) 1 91 := ⟨by decide +kernel, rfl⟩
theorem eX12_comes_91 : zD cX12_comes 91 (.invokevirtual 156) 3 94 := ⟨by decide +kernel, rfl⟩
theorem eX12_comes_94 : zD cX12_comes 94 (.aload_n 0) 1 95 := ⟨by decide +kernel, rfl⟩
theorem eX12_comes_95 : zD cX12_comes 95 (.getfield 9) 3 98 := ⟨by decide +kernel, rfl⟩
theorem eX12_comes_98 : zD cX12_comes 98 (.iconst 0) 1 99 := ⟨by decide +kernel, rfl⟩
theorem eX12_comes_99 : zD cX12_comes 99 (.dup2) 1 100 := ⟨by decide +kernel, rfl⟩
theorem eX12_comes_100 : zD cX12_comes 100 (.iaload) 1 101 := ⟨by decide +kernel, rfl⟩
theorem eX12_comes_101 : zD cX12_comes 101 (.iconst 1) 1 102 := ⟨by decide +kernel, rfl⟩
theorem eX12_comes_102 : zD cX12_comes 102 (.iadd) 1 103 := ⟨by decide +kernel, rfl⟩
theorem eX12_comes_103 : zD cX12_comes 103 (.iastore) 1 104 := ⟨by decide +kernel, rfl⟩
theorem eX12_comes_104 : zD cX12_comes 104 (.aload_n 0) 1 105 := ⟨by decide +kernel, rfl⟩
theorem eX12_comes_105 : zD cX12_comes 105 (.getfield 9) 3 108 := ⟨by decide +kernel, rfl⟩
theorem eX12_comes_108 : zD cX12_comes 108 (.iconst 0) 1 109 := ⟨by decide +kernel, rfl⟩
theorem eX12_comes_109 : zD cX12_comes 109 (.iaload) 1 110 := ⟨by decide +kernel, rfl⟩
theorem eX12_comes_110 : zD cX12_comes 110 (.iconst 1) 1 111 := ⟨by decide +kernel, rfl⟩
theorem eX12_comes_111 : zD cX12_comes 111 (.isub) 1 112 := ⟨by decide +kernel, rfl⟩
theorem eX12_comes_112 : zD cX12_comes 112 (.ireturn) 1 113 := ⟨by decide +kernel, rfl⟩
theorem eX12_warm_0 : zD cX12_warm 0 (.iload_n 1) 1 1 := ⟨by decide +kernel, rfl⟩
theorem eX12_warm_1 : zD cX12_warm 1 (.i2l) 1 2 := ⟨by decide +kernel, rfl⟩
theorem eX12_warm_2 : zD cX12_warm 2 (.lconst 0) 1 3 := ⟨by decide +kernel, rfl⟩
theorem eX12_warm_3 : zD cX12_warm 3 (.ldc2_w 160) 3 6 := ⟨by decide +kernel, rfl⟩
theorem eX12_warm_6 : zD cX12_warm 6 (.invokestatic 55) 3 9 := ⟨by decide +kernel, rfl⟩
theorem eX12_warm_9 : zD cX12_warm 9 (.ifCond .ne 5) 3 12 := ⟨by decide +kernel, rfl⟩
theorem eX12_warm_12 : zD cX12_warm 12 (.iconst (-1)) 1 13 := ⟨by decide +kernel, rfl⟩
theorem eX12_warm_13 : zD cX12_warm 13 (.ireturn) 1 14 := ⟨by decide +kernel, rfl⟩
theorem eX12_warm_14 : zD cX12_warm 14 (.aload_n 0) 1 15 := ⟨by decide +kernel, rfl⟩
theorem eX12_warm_15 : zD cX12_warm 15 (.getfield 9) 3 18 := ⟨by decide +kernel, rfl⟩
theorem eX12_warm_18 : zD cX12_warm 18 (.iconst 1) 1 19 := ⟨by decide +kernel, rfl⟩
theorem eX12_warm_19 : zD cX12_warm 19 (.iaload) 1 20 := ⟨by decide +kernel, rfl⟩
theorem eX12_warm_20 : zD cX12_warm 20 (.istore_n 2) 1 21 := ⟨by decide +kernel, rfl⟩
theorem eX12_warm_21 : zD cX12_warm 21 (.aload_n 0) 1 22 := ⟨by decide +kernel, rfl⟩
theorem eX12_warm_22 : zD cX12_warm 22 (.getfield 9) 3 25 := ⟨by decide +kernel, rfl⟩
theorem eX12_warm_25 : zD cX12_warm 25 (.iconst 1) 1 26 := ⟨by decide +kernel, rfl⟩
theorem eX12_warm_26 : zD cX12_warm 26 (.iload_n 1) 1 27 := ⟨by decide +kernel, rfl⟩
theorem eX12_warm_27 : zD cX12_warm 27 (.iastore) 1 28 := ⟨by decide +kernel, rfl⟩
theorem eX12_warm_28 : zD cX12_warm 28 (.iload_n 2) 1 29 := ⟨by decide +kernel, rfl⟩
theorem eX12_warm_29 : zD cX12_warm 29 (.ireturn) 1 30 := ⟨by decide +kernel, rfl⟩
theorem eX12_turn_0 : zD cX12_turn 0 (.aload_n 0) 1 1 := ⟨by decide +kernel, rfl⟩
theorem eX12_turn_1 : zD cX12_turn 1 (.iload_n 1) 1 2 := ⟨by decide +kernel, rfl⟩
theorem eX12_turn_2 : zD cX12_turn 2 (.invokevirtual 126) 3 5 := ⟨by decide +kernel, rfl⟩
theorem eX12_turn_5 : zD cX12_turn 5 (.ifCond .ne 5) 3 8 := ⟨by decide +kernel, rfl⟩
theorem eX12_turn_8 : zD cX12_turn 8 (.iconst (-1)) 1 9 := ⟨by decide +kernel, rfl⟩
theorem eX12_turn_9 : zD cX12_turn 9 (.ireturn) 1 10 := ⟨by decide +kernel, rfl⟩
theorem eX12_turn_10 : zD cX12_turn 10 (.aload_n 0) 1 11 := ⟨by decide +kernel, rfl⟩
theorem eX12_turn_11 : zD cX12_turn 11 (.iload_n 1) 1 12 := ⟨by decide +kernel, rfl⟩
theorem eX12_turn_12 : zD cX12_turn 12 (.iconst 2) 1 13 := ⟨by decide +kernel, rfl⟩
theorem eX12_turn_13 : zD cX12_turn 13 (.iconst 1) 1 14 := ⟨by decide +kernel, rfl⟩
theorem eX12_turn_14 : zD cX12_turn 14 (.aload_n 0) 1 15 := ⟨by decide +kernel, rfl⟩
theorem eX12_turn_15 : zD cX12_turn 15 (.iload_n 1) 1 16 := ⟨by decide +kernel, rfl⟩
theorem eX12_turn_16 : zD cX12_turn 16 (.iconst 2) 1 17 := ⟨by decide +kernel, rfl⟩
theorem eX12_turn_17 : zD cX12_turn 17 (.invokevirtual 63) 3 20 := ⟨by decide +kernel, rfl⟩
theorem eX12_turn_20 : zD cX12_turn 20 (.isub) 1 21 := ⟨by decide +kernel, rfl⟩
theorem eX12_turn_21 : zD cX12_turn 21 (.invokevirtual 122) 3 24 := ⟨by decide +kernel, rfl⟩
theorem eX12_turn_24 : zD cX12_turn 24 (.aload_n 0) 1 25 := ⟨by decide +kernel, rfl⟩
theorem eX12_turn_25 : zD cX12_turn 25 (.iload_n 1) 1 26 := ⟨by decide +kernel, rfl⟩
theorem eX12_turn_26 : zD cX12_turn 26 (.iconst 2) 1 27 := ⟨by decide +kernel, rfl⟩
theorem eX12_turn_27 : zD cX12_turn 27 (.invokevirtual 63) 3 30 := ⟨by decide +kernel, rfl⟩
theorem eX12_turn_30 : zD cX12_turn 30 (.ireturn) 1 31 := ⟨by decide +kernel, rfl⟩
theorem eX12_lies_0 : zD cX12_lies 0 (.aload_n 0) 1 1 := ⟨by decide +kernel, rfl⟩
theorem eX12_lies_1 : zD cX12_lies 1 (.iload_n 1) 1 2 := ⟨by decide +kernel, rfl⟩
theorem eX12_lies_2 : zD cX12_lies 2 (.invokevirtual 126) 3 5 := ⟨by decide +kernel, rfl⟩
theorem eX12_lies_5 : zD cX12_lies 5 (.ifCond .eq 16) 3 8 := ⟨by decide +kernel, rfl⟩
theorem eX12_lies_8 : zD cX12_lies 8 (.aload_n 0) 1 9 := ⟨by decide +kernel, rfl⟩
theorem eX12_lies_9 : zD cX12_lies 9 (.iload_n 2) 1 10 := ⟨by decide +kernel, rfl⟩
theorem eX12_lies_10 : zD cX12_lies 10 (.invokevirtual 126) 3 13 := ⟨by decide +kernel, rfl⟩
theorem eX12_lies_13 : zD cX12_lies 13 (.ifCond .eq 8) 3 16 := ⟨by decide +kernel, rfl⟩
theorem eX12_lies_16 : zD cX12_lies 16 (.iload_n 1) 1 17 := ⟨by decide +kernel, rfl⟩
theorem eX12_lies_17 : zD cX12_lies 17 (.iload_n 2) 1 18 := ⟨by decide +kernel, rfl⟩
theorem eX12_lies_18 : zD cX12_lies 18 (.if_icmp .ne 7) 3 21 := ⟨by decide +kernel, rfl⟩
theorem eX12_lies_21 : zD cX12_lies 21 (.iconst (-1)) 1 22 := ⟨by decide +kernel, rfl⟩
theorem eX12_lies_22 : zD cX12_lies 22 (.goto 17) 3 25 := ⟨by decide +kernel, rfl⟩
theorem eX12_lies_25 : zD cX12_lies 25 (.aload_n 0) 1 26 := ⟨by decide +kernel, rfl⟩
theorem eX12_lies_26 : zD cX12_lies 26 (.iload_n 1) 1 27 := ⟨by decide +kernel, rfl⟩
theorem eX12_lies_27 : zD cX12_lies 27 (.iload_n 2) 1 28 := ⟨by decide +kernel, rfl⟩
theorem eX12_lies_28 : zD cX12_lies 28 (.invokevirtual 162) 3 31 := ⟨by decide +kernel, rfl⟩
theorem eX12_lies_31 : zD cX12_lies 31 (.ifCond .eq 7) 3 34 := ⟨by decide +kernel, rfl⟩
theorem eX12_lies_34 : zD cX12_lies 34 (.iconst 1) 1 35 := ⟨by decide +kernel, rfl⟩
theorem eX12_lies_35 : zD cX12_lies 35 (.goto 4) 3 38 := ⟨by decide +kernel, rfl⟩
theorem eX12_lies_38 : zD cX12_lies 38 (.iconst 0) 1 39 := ⟨by decide +kernel, rfl⟩
theorem eX12_lies_39 : zD cX12_lies 39 (.ireturn) 1 40 := ⟨by decide +kernel, rfl⟩
theorem eX12_outermost_0 : zD cX12_outermost 0 (.bipush (-4)) 2 2 := ⟨by decide +kernel, rfl⟩
theorem eX12_outermost_2 : zD cX12_outermost 2 (.istore_n 2) 1 3 := ⟨by decide +kernel, rfl⟩
theorem eX12_outermost_3 : zD cX12_outermost 3 (.iconst 0) 1 4 := ⟨by decide +kernel, rfl⟩
theorem eX12_outermost_4 : zD cX12_outermost 4 (.istore_n 3) 1 5 := ⟨by decide +kernel, rfl⟩
theorem eX12_outermost_5 : zD cX12_outermost 5 (.iload_n 3) 1 6 := ⟨by decide +kernel, rfl⟩
theorem eX12_outermost_6 : zD cX12_outermost 6 (.bipush 10) 2 8 := ⟨by decide +kernel, rfl⟩
theorem eX12_outermost_8 : zD cX12_outermost 8 (.if_icmp .ge 37) 3 11 := ⟨by decide +kernel, rfl⟩
theorem eX12_outermost_11 : zD cX12_outermost 11 (.iload_n 1) 1 12 := ⟨by decide +kernel, rfl⟩
theorem eX12_outermost_12 : zD cX12_outermost 12 (.iload_n 3) 1 13 := ⟨by decide +kernel, rfl⟩
theorem eX12_outermost_13 : zD cX12_outermost 13 (.ishr) 1 14 := ⟨by decide +kernel, rfl⟩
theorem eX12_outermost_14 : zD cX12_outermost 14 (.iconst 1) 1 15 := ⟨by decide +kernel, rfl⟩
theorem eX12_outermost_15 : zD cX12_outermost 15 (.iand) 1 16 := ⟨by decide +kernel, rfl⟩
theorem eX12_outermost_16 : zD cX12_outermost 16 (.iconst 1) 1 17 := ⟨by decide +kernel, rfl⟩
theorem eX12_outermost_17 : zD cX12_outermost 17 (.if_icmp .ne 22) 3 20 := ⟨by decide +kernel, rfl⟩
theorem eX12_outermost_20 : zD cX12_outermost 20 (.iload_n 2) 1 21 := ⟨by decide +kernel, rfl⟩
theorem eX12_outermost_21 : zD cX12_outermost 21 (.ifCond .lt 16) 3 24 := ⟨by decide +kernel, rfl⟩
theorem eX12_outermost_24 : zD cX12_outermost 24 (.aload_n 0) 1 25 := ⟨by decide +kernel, rfl⟩
theorem eX12_outermost_25 : zD cX12_outermost 25 (.iload_n 3) 1 26 := ⟨by decide +kernel, rfl⟩
theorem eX12_outermost_26 : zD cX12_outermost 26 (.invokevirtual 82) 3 29 := ⟨by decide +kernel, rfl⟩
theorem eX12_outermost_29 : zD cX12_outermost 29 (.aload_n 0) 1 30 := ⟨by decide +kernel, rfl⟩
theorem eX12_outermost_30 : zD cX12_outermost 30 (.iload_n 2) 1 31 := ⟨by decide +kernel, rfl⟩
theorem eX12_outermost_31 : zD cX12_outermost 31 (.invokevirtual 82) 3 34 := ⟨by decide +kernel, rfl⟩
theorem eX12_outermost_34 : zD cX12_outermost 34 (.if_icmp .le 5) 3 37 := ⟨by decide +kernel, rfl⟩
theorem eX12_outermost_37 : zD cX12_outermost 37 (.iload_n 3) 1 38 := ⟨by decide +kernel, rfl⟩
theorem eX12_outermost_38 : zD cX12_outermost 38 (.istore_n 2) 1 39 := ⟨by decide +kernel, rfl⟩
theorem eX12_outermost_39 : zD cX12_outermost 39 (.iinc 3 1) 3 42 := ⟨by decide +kernel, rfl⟩
theorem eX12_outermost_42 : zD cX12_outermost 42 (.goto (-37)) 3 45 := ⟨by decide +kernel, rfl⟩
theorem eX12_outermost_45 : zD cX12_outermost 45 (.iload_n 2) 1 46 := ⟨by decide +kernel, rfl⟩
theorem eX12_outermost_46 : zD cX12_outermost 46 (.ireturn) 1 47 := ⟨by decide +kernel, rfl⟩
theorem eX12_isNest_0 : zD cX12_isNest 0 (.iload_n 1) 1 1 := ⟨by decide +kernel, rfl⟩
theorem eX12_isNest_1 : zD cX12_isNest 1 (.istore_n 2) 1 2 := ⟨by decide +kernel, rfl⟩
theorem eX12_isNest_2 : zD cX12_isNest 2 (.bipush (-4)) 2 4 := ⟨by decide +kernel, rfl⟩
theorem eX12_isNest_4 : zD cX12_isNest 4 (.istore_n 3) 1 5 := ⟨by decide +kernel, rfl⟩
theorem eX12_isNest_5 : zD cX12_isNest 5 (.iload_n 2) 1 6 := ⟨by decide +kernel, rfl⟩
theorem eX12_isNest_6 : zD cX12_isNest 6 (.ifCond .eq 41) 3 9 := ⟨by decide +kernel, rfl⟩
theorem eX12_isNest_9 : zD cX12_isNest 9 (.aload_n 0) 1 10 := ⟨by decide +kernel, rfl⟩
theorem eX12_isNest_10 : zD cX12_isNest 10 (.iload_n 2) 1 11 := ⟨by decide +kernel, rfl⟩
theorem eX12_isNest_11 : zD cX12_isNest 11 (.invokevirtual 165) 3 14 := ⟨by decide +kernel, rfl⟩
theorem eX12_isNest_14 : zD cX12_isNest 14 (.istore 4) 2 16 := ⟨by decide +kernel, rfl⟩
theorem eX12_isNest_16 : zD cX12_isNest 16 (.iload_n 3) 1 17 := ⟨by decide +kernel, rfl⟩
theorem eX12_isNest_17 : zD cX12_isNest 17 (.ifCond .lt 15) 3 20 := ⟨by decide +kernel, rfl⟩
theorem eX12_isNest_20 : zD cX12_isNest 20 (.aload_n 0) 1 21 := ⟨by decide +kernel, rfl⟩
theorem eX12_isNest_21 : zD cX12_isNest 21 (.iload 4) 2 23 := ⟨by decide +kernel, rfl⟩
theorem eX12_isNest_23 : zD cX12_isNest 23 (.iload_n 3) 1 24 := ⟨by decide +kernel, rfl⟩
theorem eX12_isNest_24 : zD cX12_isNest 24 (.invokevirtual 162) 3 27 := ⟨by decide +kernel, rfl⟩
theorem eX12_isNest_27 : zD cX12_isNest 27 (.ifCond .ne 5) 3 30 := ⟨by decide +kernel, rfl⟩
theorem eX12_isNest_30 : zD cX12_isNest 30 (.iconst 0) 1 31 := ⟨by decide +kernel, rfl⟩
theorem eX12_isNest_31 : zD cX12_isNest 31 (.ireturn) 1 32 := ⟨by decide +kernel, rfl⟩
theorem eX12_isNest_32 : zD cX12_isNest 32 (.iload 4) 2 34 := ⟨by decide +kernel, rfl⟩
theorem eX12_isNest_34 : zD cX12_isNest 34 (.istore_n 3) 1 35 := ⟨by decide +kernel, rfl⟩
theorem eX12_isNest_35 : zD cX12_isNest 35 (.iload_n 2) 1 36 := ⟨by decide +kernel, rfl⟩
theorem eX12_isNest_36 : zD cX12_isNest 36 (.iconst 1) 1 37 := ⟨by decide +kernel, rfl⟩
theorem eX12_isNest_37 : zD cX12_isNest 37 (.iload 4) 2 39 := ⟨by decide +kernel, rfl⟩
theorem eX12_isNest_39 : zD cX12_isNest 39 (.ishl) 1 40 := ⟨by decide +kernel, rfl⟩
theorem eX12_isNest_40 : zD cX12_isNest 40 (.iconst (-1)) 1 41 := ⟨by decide +kernel, rfl⟩
theorem eX12_isNest_41 : zD cX12_isNest 41 (.ixor) 1 42 := ⟨by decide +kernel, rfl⟩
theorem eX12_isNest_42 : zD cX12_isNest 42 (.iand) 1 43 := ⟨by decide +kernel, rfl⟩
theorem eX12_isNest_43 : zD cX12_isNest 43 (.istore_n 2) 1 44 := ⟨by decide +kernel, rfl⟩
theorem eX12_isNest_44 : zD cX12_isNest 44 (.goto (-39)) 3 47 := ⟨by decide +kernel, rfl⟩
theorem eX12_isNest_47 : zD cX12_isNest 47 (.iload_n 1) 1 48 := ⟨by decide +kernel, rfl⟩
theorem eX12_isNest_48 : zD cX12_isNest 48 (.ifCond .eq 7) 3 51 := ⟨by decide +kernel, rfl⟩
theorem eX12_isNest_51 : zD cX12_isNest 51 (.iconst 1) 1 52 := ⟨by decide +kernel, rfl⟩
theorem eX12_isNest_52 : zD cX12_isNest 52 (.goto 4) 3 55 := ⟨by decide +kernel, rfl⟩
theorem eX12_isNest_55 : zD cX12_isNest 55 (.iconst 0) 1 56 := ⟨by decide +kernel, rfl⟩
theorem eX12_isNest_56 : zD cX12_isNest 56 (.ireturn) 1 57 := ⟨by decide +kernel, rfl⟩
theorem eX12_nest_0 : zD cX12_nest 0 (.aload_n 0) 1 1 := ⟨by decide +kernel, rfl⟩
theorem eX12_nest_1 : zD cX12_nest 1 (.iload_n 1) 1 2 := ⟨by decide +kernel, rfl⟩
theorem eX12_nest_2 : zD cX12_nest 2 (.invokevirtual 168) 3 5 := ⟨by decide +kernel, rfl⟩
theorem eX12_nest_5 : zD cX12_nest 5 (.ifCond .ne 7) 3 8 := ⟨by decide +kernel, rfl⟩
theorem eX12_nest_8 : zD cX12_nest 8 (.iconst (-1)) 1 9 := ⟨by decide +kernel, rfl⟩
theorem eX12_nest_9 : zD cX12_nest 9 (.goto 16) 3 12 := ⟨by decide +kernel, rfl⟩
theorem eX12_nest_12 : zD cX12_nest 12 (.aload_n 0) 1 13 := ⟨by decide +kernel, rfl⟩
theorem eX12_nest_13 : zD cX12_nest 13 (.iload_n 1) 1 14 := ⟨by decide +kernel, rfl⟩
theorem eX12_nest_14 : zD cX12_nest 14 (.invokevirtual 171) 3 17 := ⟨by decide +kernel, rfl⟩
theorem eX12_nest_17 : zD cX12_nest 17 (.ifCond .eq 7) 3 20 := ⟨by decide +kernel, rfl⟩
theorem eX12_nest_20 : zD cX12_nest 20 (.iconst 1) 1 21 := ⟨by decide +kernel, rfl⟩
theorem eX12_nest_21 : zD cX12_nest 21 (.goto 4) 3 24 := ⟨by decide +kernel, rfl⟩
theorem eX12_nest_24 : zD cX12_nest 24 (.iconst 0) 1 25 := ⟨by decide +kernel, rfl⟩
theorem eX12_nest_25 : zD cX12_nest 25 (.ireturn) 1 26 := ⟨by decide +kernel, rfl⟩
theorem eX12_heightOf_0 : zD cX12_heightOf 0 (.aload_n 0) 1 1 := ⟨by decide +kernel, rfl⟩
theorem eX12_heightOf_1 : zD cX12_heightOf 1 (.iload_n 1) 1 2 := ⟨by decide +kernel, rfl⟩
theorem eX12_heightOf_2 : zD cX12_heightOf 2 (.invokevirtual 165) 3 5 := ⟨by decide +kernel, rfl⟩
theorem eX12_heightOf_5 : zD cX12_heightOf 5 (.istore_n 2) 1 6 := ⟨by decide +kernel, rfl⟩
theorem eX12_heightOf_6 : zD cX12_heightOf 6 (.aload_n 0) 1 7 := ⟨by decide +kernel, rfl⟩
theorem eX12_heightOf_7 : zD cX12_heightOf 7 (.iload_n 2) 1 8 := ⟨by decide +kernel, rfl⟩
theorem eX12_heightOf_8 : zD cX12_heightOf 8 (.iconst 4) 1 9 := ⟨by decide +kernel, rfl⟩
theorem eX12_heightOf_9 : zD cX12_heightOf 9 (.invokevirtual 63) 3 12 := ⟨by decide +kernel, rfl⟩
theorem eX12_heightOf_12 : zD cX12_heightOf 12 (.istore_n 3) 1 13 := ⟨by decide +kernel, rfl⟩
theorem eX12_heightOf_13 : zD cX12_heightOf 13 (.iconst 0) 1 14 := ⟨by decide +kernel, rfl⟩
theorem eX12_heightOf_14 : zD cX12_heightOf 14 (.istore 4) 2 16 := ⟨by decide +kernel, rfl⟩
theorem eX12_heightOf_16 : zD cX12_heightOf 16 (.iload 4) 2 18 := ⟨by decide +kernel, rfl⟩
theorem eX12_heightOf_18 : zD cX12_heightOf 18 (.bipush 10) 2 20 := ⟨by decide +kernel, rfl⟩
theorem eX12_heightOf_20 : zD cX12_heightOf 20 (.if_icmp .ge 34) 3 23 := ⟨by decide +kernel, rfl⟩
theorem eX12_heightOf_23 : zD cX12_heightOf 23 (.iload_n 1) 1 24 := ⟨by decide +kernel, rfl⟩
theorem eX12_heightOf_24 : zD cX12_heightOf 24 (.iload 4) 2 26 := ⟨by decide +kernel, rfl⟩
theorem eX12_heightOf_26 : zD cX12_heightOf 26 (.ishr) 1 27 := ⟨by decide +kernel, rfl⟩
theorem eX12_heightOf_27 : zD cX12_heightOf 27 (.iconst 1) 1 28 := ⟨by decide +kernel, rfl⟩
theorem eX12_heightOf_28 : zD cX12_heightOf 28 (.iand) 1 29 := ⟨by decide +kernel, rfl⟩
theorem eX12_heightOf_29 : zD cX12_heightOf 29 (.iconst 1) 1 30 := ⟨by decide +kernel, rfl⟩
theorem eX12_heightOf_30 : zD cX12_heightOf 30 (.if_icmp .ne 18) 3 33 := ⟨by decide +kernel, rfl⟩
theorem eX12_heightOf_33 : zD cX12_heightOf 33 (.iload 4) 2 35 := ⟨by decide +kernel, rfl⟩
theorem eX12_heightOf_35 : zD cX12_heightOf 35 (.iload_n 2) 1 36 := ⟨by decide +kernel, rfl⟩
theorem eX12_heightOf_36 : zD cX12_heightOf 36 (.if_icmp .eq 12) 3 39 := ⟨by decide +kernel, rfl⟩
theorem eX12_heightOf_39 : zD cX12_heightOf 39 (.iload_n 3) 1 40 := ⟨by decide +kernel, rfl⟩
theorem eX12_heightOf_40 : zD cX12_heightOf 40 (.aload_n 0) 1 41 := ⟨by decide +kernel, rfl⟩
theorem eX12_heightOf_41 : zD cX12_heightOf 41 (.iload 4) 2 43 := ⟨by decide +kernel, rfl⟩
theorem eX12_heightOf_43 : zD cX12_heightOf 43 (.invokevirtual 148) 3 46 := ⟨by decide +kernel, rfl⟩
theorem eX12_heightOf_46 : zD cX12_heightOf 46 (.iadd) 1 47 := ⟨by decide +kernel, rfl⟩
theorem eX12_heightOf_47 : zD cX12_heightOf 47 (.istore_n 3) 1 48 := ⟨by decide +kernel, rfl⟩
theorem eX12_heightOf_48 : zD cX12_heightOf 48 (.iinc 4 1) 3 51 := ⟨by decide +kernel, rfl⟩
theorem eX12_heightOf_51 : zD cX12_heightOf 51 (.goto (-35)) 3 54 := ⟨by decide +kernel, rfl⟩
theorem eX12_heightOf_54 : zD cX12_heightOf 54 (.iload_n 3) 1 55 := ⟨by decide +kernel, rfl⟩
theorem eX12_heightOf_55 : zD cX12_heightOf 55 (.ireturn) 1 56 := ⟨by decide +kernel, rfl⟩
theorem eX12_height_0 : zD cX12_height 0 (.aload_n 0) 1 1 := ⟨by decide +kernel, rfl⟩
theorem eX12_height_1 : zD cX12_height 1 (.iload_n 1) 1 2 := ⟨by decide +kernel, rfl⟩
theorem eX12_height_2 : zD cX12_height 2 (.invokevirtual 168) 3 5 := ⟨by decide +kernel, rfl⟩
theorem eX12_height_5 : zD cX12_height 5 (.ifCond .ne 7) 3 8 := ⟨by decide +kernel, rfl⟩
theorem eX12_height_8 : zD cX12_height 8 (.iconst (-1)) 1 9 := ⟨by decide +kernel, rfl⟩
theorem eX12_height_9 : zD cX12_height 9 (.goto 21) 3 12 := ⟨by decide +kernel, rfl⟩
theorem eX12_height_12 : zD cX12_height 12 (.aload_n 0) 1 13 := ⟨by decide +kernel, rfl⟩
theorem eX12_height_13 : zD cX12_height 13 (.iload_n 1) 1 14 := ⟨by decide +kernel, rfl⟩
theorem eX12_height_14 : zD cX12_height 14 (.invokevirtual 171) 3 17 := ⟨by decide +kernel, rfl⟩
theorem eX12_height_17 : zD cX12_height 17 (.ifCond .eq 11) 3 20 := ⟨by decide +kernel, rfl⟩
theorem eX12_height_20 : zD cX12_height 20 (.aload_n 0) 1 21 := ⟨by decide +kernel, rfl⟩
theorem eX12_height_21 : zD cX12_height 21 (.iload_n 1) 1 22 := ⟨by decide +kernel, rfl⟩
theorem eX12_height_22 : zD cX12_height 22 (.invokevirtual 174) 3 25 := ⟨by decide +kernel, rfl⟩
theorem eX12_height_25 : zD cX12_height 25 (.goto 5) 3 28 := ⟨by decide +kernel, rfl⟩
theorem eX12_height_28 : zD cX12_height 28 (.bipush (-3)) 2 30 := ⟨by decide +kernel, rfl⟩
theorem eX12_height_30 : zD cX12_height 30 (.ireturn) 1 31 := ⟨by decide +kernel, rfl⟩
theorem eX12_longestOf_0 : zD cX12_longestOf 0 (.iconst 0) 1 1 := ⟨by decide +kernel, rfl⟩
theorem eX12_longestOf_1 : zD cX12_longestOf 1 (.istore_n 2) 1 2 := ⟨by decide +kernel, rfl⟩
theorem eX12_longestOf_2 : zD cX12_longestOf 2 (.iconst 1) 1 3 := ⟨by decide +kernel, rfl⟩
theorem eX12_longestOf_3 : zD cX12_longestOf 3 (.istore_n 3) 1 4 := ⟨by decide +kernel, rfl⟩
theorem eX12_longestOf_4 : zD cX12_longestOf 4 (.iload_n 3) 1 5 := ⟨by decide +kernel, rfl⟩
theorem eX12_longestOf_5 : zD cX12_longestOf 5 (.iload_n 1) 1 6 := ⟨by decide +kernel, rfl⟩
theorem eX12_longestOf_6 : zD cX12_longestOf 6 (.if_icmp .gt 65) 3 9 := ⟨by decide +kernel, rfl⟩
theorem eX12_longestOf_9 : zD cX12_longestOf 9 (.iload_n 3) 1 10 := ⟨by decide +kernel, rfl⟩
theorem eX12_longestOf_10 : zD cX12_longestOf 10 (.iload_n 1) 1 11 := ⟨by decide +kernel, rfl⟩
theorem eX12_longestOf_11 : zD cX12_longestOf 11 (.iconst (-1)) 1 12 := ⟨by decide +kernel, rfl⟩
theorem eX12_longestOf_12 : zD cX12_longestOf 12 (.ixor) 1 13 := ⟨by decide +kernel, rfl⟩
theorem eX12_longestOf_13 : zD cX12_longestOf 13 (.iand) 1 14 := ⟨by decide +kernel, rfl⟩
theorem eX12_longestOf_14 : zD cX12_longestOf 14 (.ifCond .ne 51) 3 17 := ⟨by decide +kernel, rfl⟩
theorem eX12_longestOf_17 : zD cX12_longestOf 17 (.iload_n 3) 1 18 := ⟨by decide +kernel, rfl⟩
theorem eX12_longestOf_18 : zD cX12_longestOf 18 (.invokestatic 177) 3 21 := ⟨by decide +kernel, rfl⟩
theorem eX12_longestOf_21 : zD cX12_longestOf 21 (.iload_n 2) 1 22 := ⟨by decide +kernel, rfl⟩
theorem eX12_longestOf_22 : zD cX12_longestOf 22 (.invokestatic 177) 3 25 := ⟨by decide +kernel, rfl⟩
theorem eX12_longestOf_25 : zD cX12_longestOf 25 (.if_icmp .lt 40) 3 28 := ⟨by decide +kernel, rfl⟩
theorem eX12_longestOf_28 : zD cX12_longestOf 28 (.aload_n 0) 1 29 := ⟨by decide +kernel, rfl⟩
theorem eX12_longestOf_29 : zD cX12_longestOf 29 (.iload_n 3) 1 30 := ⟨by decide +kernel, rfl⟩
theorem eX12_longestOf_30 : zD cX12_longestOf 30 (.invokevirtual 171) 3 33 := ⟨by decide +kernel, rfl⟩
theorem eX12_longestOf_33 : zD cX12_longestOf 33 (.ifCond .ne 6) 3 36 := ⟨by decide +kernel, rfl⟩
theorem eX12_longestOf_36 : zD cX12_longestOf 36 (.goto 29) 3 39 := ⟨by decide +kernel, rfl⟩
theorem eX12_longestOf_39 : zD cX12_longestOf 39 (.iload_n 3) 1 40 := ⟨by decide +kernel, rfl⟩
theorem eX12_longestOf_40 : zD cX12_longestOf 40 (.invokestatic 177) 3 43 := ⟨by decide +kernel, rfl⟩
theorem eX12_longestOf_43 : zD cX12_longestOf 43 (.iload_n 2) 1 44 := ⟨by decide +kernel, rfl⟩
theorem eX12_longestOf_44 : zD cX12_longestOf 44 (.invokestatic 177) 3 47 := ⟨by decide +kernel, rfl⟩
theorem eX12_longestOf_47 : zD cX12_longestOf 47 (.if_icmp .gt 16) 3 50 := ⟨by decide +kernel, rfl⟩
theorem eX12_longestOf_50 : zD cX12_longestOf 50 (.aload_n 0) 1 51 := ⟨by decide +kernel, rfl⟩
theorem eX12_longestOf_51 : zD cX12_longestOf 51 (.iload_n 3) 1 52 := ⟨by decide +kernel, rfl⟩
theorem eX12_longestOf_52 : zD cX12_longestOf 52 (.invokevirtual 174) 3 55 := ⟨by decide +kernel, rfl⟩
theorem eX12_longestOf_55 : zD cX12_longestOf 55 (.aload_n 0) 1 56 := ⟨by decide +kernel, rfl⟩
theorem eX12_longestOf_56 : zD cX12_longestOf 56 (.iload_n 2) 1 57 := ⟨by decide +kernel, rfl⟩
theorem eX12_longestOf_57 : zD cX12_longestOf 57 (.invokevirtual 174) 3 60 := ⟨by decide +kernel, rfl⟩
theorem eX12_longestOf_60 : zD cX12_longestOf 60 (.if_icmp .ge 5) 3 63 := ⟨by decide +kernel, rfl⟩
theorem eX12_longestOf_63 : zD cX12_longestOf 63 (.iload_n 3) 1 64 := ⟨by decide +kernel, rfl⟩
theorem eX12_longestOf_64 : zD cX12_longestOf 64 (.istore_n 2) 1 65 := ⟨by decide +kernel, rfl⟩
theorem eX12_longestOf_65 : zD cX12_longestOf 65 (.iinc 3 1) 3 68 := ⟨by decide +kernel, rfl⟩
theorem eX12_longestOf_68 : zD cX12_longestOf 68 (.goto (-64)) 3 71 := ⟨by decide +kernel, rfl⟩
theorem eX12_longestOf_71 : zD cX12_longestOf 71 (.iload_n 2) 1 72 := ⟨by decide +kernel, rfl⟩
theorem eX12_longestOf_72 : zD cX12_longestOf 72 (.ireturn) 1 73 := ⟨by decide +kernel, rfl⟩
theorem eX12_longest_0 : zD cX12_longest 0 (.aload_n 0) 1 1 := ⟨by decide +kernel, rfl⟩
theorem eX12_longest_1 : zD cX12_longest 1 (.iload_n 1) 1 2 := ⟨by decide +kernel, rfl⟩
theorem eX12_longest_2 : zD cX12_longest 2 (.invokevirtual 168) 3 5 := ⟨by decide +kernel, rfl⟩
theorem eX12_longest_5 : zD cX12_longest 5 (.ifCond .eq 13) 3 8 := ⟨by decide +kernel, rfl⟩
theorem eX12_longest_8 : zD cX12_longest 8 (.iload_n 2) 1 9 := ⟨by decide +kernel, rfl⟩
theorem eX12_longest_9 : zD cX12_longest 9 (.i2l) 1 10 := ⟨by decide +kernel, rfl⟩
theorem eX12_longest_10 : zD cX12_longest 10 (.lconst 0) 1 11 := ⟨by decide +kernel, rfl⟩
theorem eX12_longest_11 : zD cX12_longest 11 (.lconst 1) 1 12 := ⟨by decide +kernel, rfl⟩
theorem eX12_longest_12 : zD cX12_longest 12 (.invokestatic 55) 3 15 := ⟨by decide +kernel, rfl⟩
theorem eX12_longest_15 : zD cX12_longest 15 (.ifCond .ne 5) 3 18 := ⟨by decide +kernel, rfl⟩
theorem eX12_longest_18 : zD cX12_longest 18 (.iconst (-1)) 1 19 := ⟨by decide +kernel, rfl⟩
theorem eX12_longest_19 : zD cX12_longest 19 (.ireturn) 1 20 := ⟨by decide +kernel, rfl⟩
theorem eX12_longest_20 : zD cX12_longest 20 (.aload_n 0) 1 21 := ⟨by decide +kernel, rfl⟩
theorem eX12_longest_21 : zD cX12_longest 21 (.iload_n 1) 1 22 := ⟨by decide +kernel, rfl⟩
theorem eX12_longest_22 : zD cX12_longest 22 (.invokevirtual 180) 3 25 := ⟨by decide +kernel, rfl⟩
theorem eX12_longest_25 : zD cX12_longest 25 (.istore_n 3) 1 26 := ⟨by decide +kernel, rfl⟩
theorem eX12_longest_26 : zD cX12_longest 26 (.iload_n 2) 1 27 := ⟨by decide +kernel, rfl⟩
theorem eX12_longest_27 : zD cX12_longest 27 (.ifCond .ne 7) 3 30 := ⟨by decide +kernel, rfl⟩
theorem eX12_longest_30 : zD cX12_longest 30 (.iload_n 3) 1 31 := ⟨by decide +kernel, rfl⟩
theorem eX12_longest_31 : zD cX12_longest 31 (.goto 7) 3 34 := ⟨by decide +kernel, rfl⟩
theorem eX12_longest_34 : zD cX12_longest 34 (.iload_n 3) 1 35 := ⟨by decide +kernel, rfl⟩
theorem eX12_longest_35 : zD cX12_longest 35 (.invokestatic 177) 3 38 := ⟨by decide +kernel, rfl⟩
theorem eX12_longest_38 : zD cX12_longest 38 (.ireturn) 1 39 := ⟨by decide +kernel, rfl⟩
theorem eX12_counted_0 : zD cX12_counted 0 (.aload_n 0) 1 1 := ⟨by decide +kernel, rfl⟩
theorem eX12_counted_1 : zD cX12_counted 1 (.iload_n 1) 1 2 := ⟨by decide +kernel, rfl⟩
theorem eX12_counted_2 : zD cX12_counted 2 (.invokevirtual 171) 3 5 := ⟨by decide +kernel, rfl⟩
theorem eX12_counted_5 : zD cX12_counted 5 (.ifCond .ne 6) 3 8 := ⟨by decide +kernel, rfl⟩
theorem eX12_counted_8 : zD cX12_counted 8 (.ldc 183) 2 10 := ⟨by decide +kernel, rfl⟩
theorem eX12_counted_10 : zD cX12_counted 10 (.ireturn) 1 11 := ⟨by decide +kernel, rfl⟩
theorem eX12_counted_11 : zD cX12_counted 11 (.aload_n 0) 1 12 := ⟨by decide +kernel, rfl⟩
theorem eX12_counted_12 : zD cX12_counted 12 (.iload_n 1) 1 13 := ⟨by decide +kernel, rfl⟩
theorem eX12_counted_13 : zD cX12_counted 13 (.invokevirtual 174) 3 16 := ⟨by decide +kernel, rfl⟩
theorem eX12_counted_16 : zD cX12_counted 16 (.istore 4) 2 18 := ⟨by decide +kernel, rfl⟩
theorem eX12_counted_18 : zD cX12_counted 18 (.iload_n 2) 1 19 := ⟨by decide +kernel, rfl⟩
theorem eX12_counted_19 : zD cX12_counted 19 (.iconst 1) 1 20 := ⟨by decide +kernel, rfl⟩
theorem eX12_counted_20 : zD cX12_counted 20 (.if_icmp .ne 8) 3 23 := ⟨by decide +kernel, rfl⟩
theorem eX12_counted_23 : zD cX12_counted 23 (.iload 4) 2 25 := ⟨by decide +kernel, rfl⟩
theorem eX12_counted_25 : zD cX12_counted 25 (.goto 20) 3 28 := ⟨by decide +kernel, rfl⟩
theorem eX12_counted_28 : zD cX12_counted 28 (.iload_n 2) 1 29 := ⟨by decide +kernel, rfl⟩
theorem eX12_counted_29 : zD cX12_counted 29 (.iconst 2) 1 30 := ⟨by decide +kernel, rfl⟩
theorem eX12_counted_30 : zD cX12_counted 30 (.if_icmp .ne 14) 3 33 := ⟨by decide +kernel, rfl⟩
theorem eX12_counted_33 : zD cX12_counted 33 (.iload 4) 2 35 := ⟨by decide +kernel, rfl⟩
theorem eX12_counted_35 : zD cX12_counted 35 (.iload_n 3) 1 36 := ⟨by decide +kernel, rfl⟩
theorem eX12_counted_36 : zD cX12_counted 36 (.if_icmp .le 8) 3 39 := ⟨by decide +kernel, rfl⟩
theorem eX12_counted_39 : zD cX12_counted 39 (.ldc 183) 2 41 := ⟨by decide +kernel, rfl⟩
theorem eX12_counted_41 : zD cX12_counted 41 (.goto 4) 3 44 := ⟨by decide +kernel, rfl⟩
theorem eX12_counted_44 : zD cX12_counted 44 (.iconst 1) 1 45 := ⟨by decide +kernel, rfl⟩
theorem eX12_counted_45 : zD cX12_counted 45 (.ireturn) 1 46 := ⟨by decide +kernel, rfl⟩
theorem eX12_leastOf_0 : zD cX12_leastOf 0 (.iconst 1) 1 1 := ⟨by decide +kernel, rfl⟩
theorem eX12_leastOf_1 : zD cX12_leastOf 1 (.istore_n 3) 1 2 := ⟨by decide +kernel, rfl⟩
theorem eX12_leastOf_2 : zD cX12_leastOf 2 (.iload_n 3) 1 3 := ⟨by decide +kernel, rfl⟩
theorem eX12_leastOf_3 : zD cX12_leastOf 3 (.aload_n 0) 1 4 := ⟨by decide +kernel, rfl⟩
theorem eX12_leastOf_4 : zD cX12_leastOf 4 (.invokevirtual 59) 3 7 := ⟨by decide +kernel, rfl⟩
theorem eX12_leastOf_7 : zD cX12_leastOf 7 (.if_icmp .gt 22) 3 10 := ⟨by decide +kernel, rfl⟩
theorem eX12_leastOf_10 : zD cX12_leastOf 10 (.aload_n 0) 1 11 := ⟨by decide +kernel, rfl⟩
theorem eX12_leastOf_11 : zD cX12_leastOf 11 (.getfield 43) 3 14 := ⟨by decide +kernel, rfl⟩
theorem eX12_leastOf_14 : zD cX12_leastOf 14 (.iload_n 3) 1 15 := ⟨by decide +kernel, rfl⟩
theorem eX12_leastOf_15 : zD cX12_leastOf 15 (.aload_n 0) 1 16 := ⟨by decide +kernel, rfl⟩
theorem eX12_leastOf_16 : zD cX12_leastOf 16 (.iload_n 3) 1 17 := ⟨by decide +kernel, rfl⟩
theorem eX12_leastOf_17 : zD cX12_leastOf 17 (.iload_n 1) 1 18 := ⟨by decide +kernel, rfl⟩
theorem eX12_leastOf_18 : zD cX12_leastOf 18 (.iload_n 2) 1 19 := ⟨by decide +kernel, rfl⟩
theorem eX12_leastOf_19 : zD cX12_leastOf 19 (.invokevirtual 184) 3 22 := ⟨by decide +kernel, rfl⟩
theorem eX12_leastOf_22 : zD cX12_leastOf 22 (.iastore) 1 23 := ⟨by decide +kernel, rfl⟩
theorem eX12_leastOf_23 : zD cX12_leastOf 23 (.iinc 3 1) 3 26 := ⟨by decide +kernel, rfl⟩
theorem eX12_leastOf_26 : zD cX12_leastOf 26 (.goto (-24)) 3 29 := ⟨by decide +kernel, rfl⟩
theorem eX12_leastOf_29 : zD cX12_leastOf 29 (.aload_n 0) 1 30 := ⟨by decide +kernel, rfl⟩
theorem eX12_leastOf_30 : zD cX12_leastOf 30 (.getfield 40) 3 33 := ⟨by decide +kernel, rfl⟩
theorem eX12_leastOf_33 : zD cX12_leastOf 33 (.iconst 0) 1 34 := ⟨by decide +kernel, rfl⟩
theorem eX12_leastOf_34 : zD cX12_leastOf 34 (.iconst 0) 1 35 := ⟨by decide +kernel, rfl⟩
theorem eX12_leastOf_35 : zD cX12_leastOf 35 (.iastore) 1 36 := ⟨by decide +kernel, rfl⟩
theorem eX12_leastOf_36 : zD cX12_leastOf 36 (.iconst 1) 1 37 := ⟨by decide +kernel, rfl⟩
theorem eX12_leastOf_37 : zD cX12_leastOf 37 (.istore_n 3) 1 38 := ⟨by decide +kernel, rfl⟩
theorem eX12_leastOf_38 : zD cX12_leastOf 38 (.iload_n 3) 1 39 := ⟨by decide +kernel, rfl⟩
theorem eX12_leastOf_39 : zD cX12_leastOf 39 (.aload_n 0) 1 40 := ⟨by decide +kernel, rfl⟩
theorem eX12_leastOf_40 : zD cX12_leastOf 40 (.invokevirtual 59) 3 43 := ⟨by decide +kernel, rfl⟩
theorem eX12_leastOf_43 : zD cX12_leastOf 43 (.if_icmp .gt 102) 3 46 := ⟨by decide +kernel, rfl⟩
theorem eX12_leastOf_46 : zD cX12_leastOf 46 (.iload_n 3) 1 47 := ⟨by decide +kernel, rfl⟩
theorem eX12_leastOf_47 : zD cX12_leastOf 47 (.iload_n 3) 1 48 := ⟨by decide +kernel, rfl⟩
theorem eX12_leastOf_48 : zD cX12_leastOf 48 (.ineg) 1 49 := ⟨by decide +kernel, rfl⟩
theorem eX12_leastOf_49 : zD cX12_leastOf 49 (.iand) 1 50 := ⟨by decide +kernel, rfl⟩
theorem eX12_leastOf_50 : zD cX12_leastOf 50 (.istore 4) 2 52 := ⟨by decide +kernel, rfl⟩
theorem eX12_leastOf_52 : zD cX12_leastOf 52 (.aload_n 0) 1 53 := ⟨by decide +kernel, rfl⟩
theorem eX12_leastOf_53 : zD cX12_leastOf 53 (.getfield 40) 3 56 := ⟨by decide +kernel, rfl⟩
theorem eX12_leastOf_56 : zD cX12_leastOf 56 (.iload_n 3) 1 57 := ⟨by decide +kernel, rfl⟩
theorem eX12_leastOf_57 : zD cX12_leastOf 57 (.ldc 183) 2 59 := ⟨by decide +kernel, rfl⟩
theorem eX12_leastOf_59 : zD cX12_leastOf 59 (.iastore) 1 60 := ⟨by decide +kernel, rfl⟩
theorem eX12_leastOf_60 : zD cX12_leastOf 60 (.iload_n 3) 1 61 := ⟨by decide +kernel, rfl⟩
theorem eX12_leastOf_61 : zD cX12_leastOf 61 (.istore 5) 2 63 := ⟨by decide +kernel, rfl⟩
theorem eX12_leastOf_63 : zD cX12_leastOf 63 (.iload 5) 2 65 := ⟨by decide +kernel, rfl⟩
theorem eX12_leastOf_65 : zD cX12_leastOf 65 (.ifCond .le 74) 3 68 := ⟨by decide +kernel, rfl⟩
theorem eX12_leastOf_68 : zD cX12_leastOf 68 (.iload 5) 2 70 := ⟨by decide +kernel, rfl⟩
theorem eX12_leastOf_70 : zD cX12_leastOf 70 (.iload 4) 2 72 := ⟨by decide +kernel, rfl⟩
theorem eX12_leastOf_72 : zD cX12_leastOf 72 (.iand) 1 73 := ⟨by decide +kernel, rfl⟩
theorem eX12_leastOf_73 : zD cX12_leastOf 73 (.ifCond .ne 6) 3 76 := ⟨by decide +kernel, rfl⟩
theorem eX12_leastOf_76 : zD cX12_leastOf 76 (.goto 52) 3 79 := ⟨by decide +kernel, rfl⟩
theorem eX12_leastOf_79 : zD cX12_leastOf 79 (.aload_n 0) 1 80 := ⟨by decide +kernel, rfl⟩
theorem eX12_leastOf_80 : zD cX12_leastOf 80 (.getfield 43) 3 83 := ⟨by decide +kernel, rfl⟩
theorem eX12_leastOf_83 : zD cX12_leastOf 83 (.iload 5) 2 85 := ⟨by decide +kernel, rfl⟩
theorem eX12_leastOf_85 : zD cX12_leastOf 85 (.iaload) 1 86 := ⟨by decide +kernel, rfl⟩
theorem eX12_leastOf_86 : zD cX12_leastOf 86 (.aload_n 0) 1 87 := ⟨by decide +kernel, rfl⟩
theorem eX12_leastOf_87 : zD cX12_leastOf 87 (.getfield 40) 3 90 := ⟨by decide +kernel, rfl⟩
theorem eX12_leastOf_90 : zD cX12_leastOf 90 (.iload_n 3) 1 91 := ⟨by decide +kernel, rfl⟩
theorem eX12_leastOf_91 : zD cX12_leastOf 91 (.iload 5) 2 93 := ⟨by decide +kernel, rfl⟩
theorem eX12_leastOf_93 : zD cX12_leastOf 93 (.iconst (-1)) 1 94 := ⟨by decide +kernel, rfl⟩
theorem eX12_leastOf_94 : zD cX12_leastOf 94 (.ixor) 1 95 := ⟨by decide +kernel, rfl⟩
theorem eX12_leastOf_95 : zD cX12_leastOf 95 (.iand) 1 96 := ⟨by decide +kernel, rfl⟩
theorem eX12_leastOf_96 : zD cX12_leastOf 96 (.iaload) 1 97 := ⟨by decide +kernel, rfl⟩
theorem eX12_leastOf_97 : zD cX12_leastOf 97 (.iadd) 1 98 := ⟨by decide +kernel, rfl⟩
theorem eX12_leastOf_98 : zD cX12_leastOf 98 (.istore 6) 2 100 := ⟨by decide +kernel, rfl⟩
theorem eX12_leastOf_100 : zD cX12_leastOf 100 (.aload_n 0) 1 101 := ⟨by decide +kernel, rfl⟩
theorem eX12_leastOf_101 : zD cX12_leastOf 101 (.getfield 40) 3 104 := ⟨by decide +kernel, rfl⟩
theorem eX12_leastOf_104 : zD cX12_leastOf 104 (.iload_n 3) 1 105 := ⟨by decide +kernel, rfl⟩
theorem eX12_leastOf_105 : zD cX12_leastOf 105 (.iload 6) 2 107 := ⟨by decide +kernel, rfl⟩
theorem eX12_leastOf_107 : zD cX12_leastOf 107 (.aload_n 0) 1 108 := ⟨by decide +kernel, rfl⟩
theorem eX12_leastOf_108 : zD cX12_leastOf 108 (.getfield 40) 3 111 := ⟨by decide +kernel, rfl⟩
theorem eX12_leastOf_111 : zD cX12_leastOf 111 (.iload_n 3) 1 112 := ⟨by decide +kernel, rfl⟩
theorem eX12_leastOf_112 : zD cX12_leastOf 112 (.iaload) 1 113 := ⟨by decide +kernel, rfl⟩
theorem eX12_leastOf_113 : zD cX12_leastOf 113 (.if_icmp .ge 8) 3 116 := ⟨by decide +kernel, rfl⟩
theorem eX12_leastOf_116 : zD cX12_leastOf 116 (.iload 6) 2 118 := ⟨by decide +kernel, rfl⟩
theorem eX12_leastOf_118 : zD cX12_leastOf 118 (.goto 9) 3 121 := ⟨by decide +kernel, rfl⟩
theorem eX12_leastOf_121 : zD cX12_leastOf 121 (.aload_n 0) 1 122 := ⟨by decide +kernel, rfl⟩
theorem eX12_leastOf_122 : zD cX12_leastOf 122 (.getfield 40) 3 125 := ⟨by decide +kernel, rfl⟩
theorem eX12_leastOf_125 : zD cX12_leastOf 125 (.iload_n 3) 1 126 := ⟨by decide +kernel, rfl⟩
theorem eX12_leastOf_126 : zD cX12_leastOf 126 (.iaload) 1 127 := ⟨by decide +kernel, rfl⟩
theorem eX12_leastOf_127 : zD cX12_leastOf 127 (.iastore) 1 128 := ⟨by decide +kernel, rfl⟩
theorem eX12_leastOf_128 : zD cX12_leastOf 128 (.iload 5) 2 130 := ⟨by decide +kernel, rfl⟩
theorem eX12_leastOf_130 : zD cX12_leastOf 130 (.iconst 1) 1 131 := ⟨by decide +kernel, rfl⟩
theorem eX12_leastOf_131 : zD cX12_leastOf 131 (.isub) 1 132 := ⟨by decide +kernel, rfl⟩
theorem eX12_leastOf_132 : zD cX12_leastOf 132 (.iload_n 3) 1 133 := ⟨by decide +kernel, rfl⟩
theorem eX12_leastOf_133 : zD cX12_leastOf 133 (.iand) 1 134 := ⟨by decide +kernel, rfl⟩
theorem eX12_leastOf_134 : zD cX12_leastOf 134 (.istore 5) 2 136 := ⟨by decide +kernel, rfl⟩
theorem eX12_leastOf_136 : zD cX12_leastOf 136 (.goto (-73)) 3 139 := ⟨by decide +kernel, rfl⟩
theorem eX12_leastOf_139 : zD cX12_leastOf 139 (.iinc 3 1) 3 142 := ⟨by decide +kernel, rfl⟩
theorem eX12_leastOf_142 : zD cX12_leastOf 142 (.goto (-104)) 3 145 := ⟨by decide +kernel, rfl⟩
theorem eX12_leastOf_145 : zD cX12_leastOf 145 (.aload_n 0) 1 146 := ⟨by decide +kernel, rfl⟩
theorem eX12_leastOf_146 : zD cX12_leastOf 146 (.getfield 40) 3 149 := ⟨by decide +kernel, rfl⟩
theorem eX12_leastOf_149 : zD cX12_leastOf 149 (.aload_n 0) 1 150 := ⟨by decide +kernel, rfl⟩
theorem eX12_leastOf_150 : zD cX12_leastOf 150 (.invokevirtual 59) 3 153 := ⟨by decide +kernel, rfl⟩
theorem eX12_leastOf_153 : zD cX12_leastOf 153 (.iaload) 1 154 := ⟨by decide +kernel, rfl⟩
theorem eX12_leastOf_154 : zD cX12_leastOf 154 (.ireturn) 1 155 := ⟨by decide +kernel, rfl⟩
theorem eX12_fewest_0 : zD cX12_fewest 0 (.aload_n 0) 1 1 := ⟨by decide +kernel, rfl⟩
theorem eX12_fewest_1 : zD cX12_fewest 1 (.iconst 0) 1 2 := ⟨by decide +kernel, rfl⟩
theorem eX12_fewest_2 : zD cX12_fewest 2 (.iconst 0) 1 3 := ⟨by decide +kernel, rfl⟩
theorem eX12_fewest_3 : zD cX12_fewest 3 (.invokevirtual 187) 3 6 := ⟨by decide +kernel, rfl⟩
theorem eX12_fewest_6 : zD cX12_fewest 6 (.ireturn) 1 7 := ⟨by decide +kernel, rfl⟩
theorem eX12_carry_0 : zD cX12_carry 0 (.aload_n 0) 1 1 := ⟨by decide +kernel, rfl⟩
theorem eX12_carry_1 : zD cX12_carry 1 (.iconst 1) 1 2 := ⟨by decide +kernel, rfl⟩
theorem eX12_carry_2 : zD cX12_carry 2 (.iconst 0) 1 3 := ⟨by decide +kernel, rfl⟩
theorem eX12_carry_3 : zD cX12_carry 3 (.invokevirtual 187) 3 6 := ⟨by decide +kernel, rfl⟩
theorem eX12_carry_6 : zD cX12_carry 6 (.ireturn) 1 7 := ⟨by decide +kernel, rfl⟩
theorem eX12_load_0 : zD cX12_load 0 (.iload_n 1) 1 1 := ⟨by decide +kernel, rfl⟩
theorem eX12_load_1 : zD cX12_load 1 (.i2l) 1 2 := ⟨by decide +kernel, rfl⟩
theorem eX12_load_2 : zD cX12_load 2 (.lconst 1) 1 3 := ⟨by decide +kernel, rfl⟩
theorem eX12_load_3 : zD cX12_load 3 (.ldc2_w 151) 3 6 := ⟨by decide +kernel, rfl⟩
theorem eX12_load_6 : zD cX12_load 6 (.invokestatic 55) 3 9 := ⟨by decide +kernel, rfl⟩
theorem eX12_load_9 : zD cX12_load 9 (.ifCond .ne 5) 3 12 := ⟨by decide +kernel, rfl⟩
theorem eX12_load_12 : zD cX12_load 12 (.iconst (-1)) 1 13 := ⟨by decide +kernel, rfl⟩
theorem eX12_load_13 : zD cX12_load 13 (.ireturn) 1 14 := ⟨by decide +kernel, rfl⟩
theorem eX12_load_14 : zD cX12_load 14 (.aload_n 0) 1 15 := ⟨by decide +kernel, rfl⟩
theorem eX12_load_15 : zD cX12_load 15 (.iconst 2) 1 16 := ⟨by decide +kernel, rfl⟩
theorem eX12_load_16 : zD cX12_load 16 (.iload_n 1) 1 17 := ⟨by decide +kernel, rfl⟩
theorem eX12_load_17 : zD cX12_load 17 (.invokevirtual 187) 3 20 := ⟨by decide +kernel, rfl⟩
theorem eX12_load_20 : zD cX12_load 20 (.istore_n 2) 1 21 := ⟨by decide +kernel, rfl⟩
theorem eX12_load_21 : zD cX12_load 21 (.iload_n 2) 1 22 := ⟨by decide +kernel, rfl⟩
theorem eX12_load_22 : zD cX12_load 22 (.ldc 183) 2 24 := ⟨by decide +kernel, rfl⟩
theorem eX12_load_24 : zD cX12_load 24 (.if_icmp .lt 8) 3 27 := ⟨by decide +kernel, rfl⟩
theorem eX12_load_27 : zD cX12_load 27 (.bipush (-4)) 2 29 := ⟨by decide +kernel, rfl⟩
theorem eX12_load_29 : zD cX12_load 29 (.goto 4) 3 32 := ⟨by decide +kernel, rfl⟩
theorem eX12_load_32 : zD cX12_load 32 (.iload_n 2) 1 33 := ⟨by decide +kernel, rfl⟩
theorem eX12_load_33 : zD cX12_load 33 (.ireturn) 1 34 := ⟨by decide +kernel, rfl⟩
theorem eX12_areApart_0 : zD cX12_areApart 0 (.iconst 0) 1 1 := ⟨by decide +kernel, rfl⟩
theorem eX12_areApart_1 : zD cX12_areApart 1 (.istore_n 2) 1 2 := ⟨by decide +kernel, rfl⟩
theorem eX12_areApart_2 : zD cX12_areApart 2 (.iload_n 2) 1 3 := ⟨by decide +kernel, rfl⟩
theorem eX12_areApart_3 : zD cX12_areApart 3 (.aload_n 0) 1 4 := ⟨by decide +kernel, rfl⟩
theorem eX12_areApart_4 : zD cX12_areApart 4 (.getfield 9) 3 7 := ⟨by decide +kernel, rfl⟩
theorem eX12_areApart_7 : zD cX12_areApart 7 (.iconst 0) 1 8 := ⟨by decide +kernel, rfl⟩
theorem eX12_areApart_8 : zD cX12_areApart 8 (.iaload) 1 9 := ⟨by decide +kernel, rfl⟩
theorem eX12_areApart_9 : zD cX12_areApart 9 (.if_icmp .ge 61) 3 12 := ⟨by decide +kernel, rfl⟩
theorem eX12_areApart_12 : zD cX12_areApart 12 (.iconst 0) 1 13 := ⟨by decide +kernel, rfl⟩
theorem eX12_areApart_13 : zD cX12_areApart 13 (.istore_n 3) 1 14 := ⟨by decide +kernel, rfl⟩
theorem eX12_areApart_14 : zD cX12_areApart 14 (.iload_n 3) 1 15 := ⟨by decide +kernel, rfl⟩
theorem eX12_areApart_15 : zD cX12_areApart 15 (.aload_n 0) 1 16 := ⟨by decide +kernel, rfl⟩
theorem eX12_areApart_16 : zD cX12_areApart 16 (.getfield 9) 3 19 := ⟨by decide +kernel, rfl⟩
theorem eX12_areApart_19 : zD cX12_areApart 19 (.iconst 0) 1 20 := ⟨by decide +kernel, rfl⟩
theorem eX12_areApart_20 : zD cX12_areApart 20 (.iaload) 1 21 := ⟨by decide +kernel, rfl⟩
theorem eX12_areApart_21 : zD cX12_areApart 21 (.if_icmp .ge 43) 3 24 := ⟨by decide +kernel, rfl⟩
theorem eX12_areApart_24 : zD cX12_areApart 24 (.iload_n 2) 1 25 := ⟨by decide +kernel, rfl⟩
theorem eX12_areApart_25 : zD cX12_areApart 25 (.iload_n 3) 1 26 := ⟨by decide +kernel, rfl⟩
theorem eX12_areApart_26 : zD cX12_areApart 26 (.if_icmp .eq 32) 3 29 := ⟨by decide +kernel, rfl⟩
theorem eX12_areApart_29 : zD cX12_areApart 29 (.iload_n 1) 1 30 := ⟨by decide +kernel, rfl⟩
theorem eX12_areApart_30 : zD cX12_areApart 30 (.iload_n 2) 1 31 := ⟨by decide +kernel, rfl⟩
theorem eX12_areApart_31 : zD cX12_areApart 31 (.ishr) 1 32 := ⟨by decide +kernel, rfl⟩
theorem eX12_areApart_32 : zD cX12_areApart 32 (.iconst 1) 1 33 := ⟨by decide +kernel, rfl⟩
theorem eX12_areApart_33 : zD cX12_areApart 33 (.iand) 1 34 := ⟨by decide +kernel, rfl⟩
theorem eX12_areApart_34 : zD cX12_areApart 34 (.iconst 1) 1 35 := ⟨by decide +kernel, rfl⟩
theorem eX12_areApart_35 : zD cX12_areApart 35 (.if_icmp .ne 23) 3 38 := ⟨by decide +kernel, rfl⟩
theorem eX12_areApart_38 : zD cX12_areApart 38 (.iload_n 1) 1 39 := ⟨by decide +kernel, rfl⟩
theorem eX12_areApart_39 : zD cX12_areApart 39 (.iload_n 3) 1 40 := ⟨by decide +kernel, rfl⟩
theorem eX12_areApart_40 : zD cX12_areApart 40 (.ishr) 1 41 := ⟨by decide +kernel, rfl⟩
theorem eX12_areApart_41 : zD cX12_areApart 41 (.iconst 1) 1 42 := ⟨by decide +kernel, rfl⟩
theorem eX12_areApart_42 : zD cX12_areApart 42 (.iand) 1 43 := ⟨by decide +kernel, rfl⟩
theorem eX12_areApart_43 : zD cX12_areApart 43 (.iconst 1) 1 44 := ⟨by decide +kernel, rfl⟩
theorem eX12_areApart_44 : zD cX12_areApart 44 (.if_icmp .ne 14) 3 47 := ⟨by decide +kernel, rfl⟩
theorem eX12_areApart_47 : zD cX12_areApart 47 (.aload_n 0) 1 48 := ⟨by decide +kernel, rfl⟩
theorem eX12_areApart_48 : zD cX12_areApart 48 (.iload_n 2) 1 49 := ⟨by decide +kernel, rfl⟩
theorem eX12_areApart_49 : zD cX12_areApart 49 (.iload_n 3) 1 50 := ⟨by decide +kernel, rfl⟩
theorem eX12_areApart_50 : zD cX12_areApart 50 (.invokevirtual 162) 3 53 := ⟨by decide +kernel, rfl⟩
theorem eX12_areApart_53 : zD cX12_areApart 53 (.ifCond .eq 5) 3 56 := ⟨by decide +kernel, rfl⟩
theorem eX12_areApart_56 : zD cX12_areApart 56 (.iconst 0) 1 57 := ⟨by decide +kernel, rfl⟩
theorem eX12_areApart_57 : zD cX12_areApart 57 (.ireturn) 1 58 := ⟨by decide +kernel, rfl⟩
theorem eX12_areApart_58 : zD cX12_areApart 58 (.iinc 3 1) 3 61 := ⟨by decide +kernel, rfl⟩
theorem eX12_areApart_61 : zD cX12_areApart 61 (.goto (-47)) 3 64 := ⟨by decide +kernel, rfl⟩
theorem eX12_areApart_64 : zD cX12_areApart 64 (.iinc 2 1) 3 67 := ⟨by decide +kernel, rfl⟩
theorem eX12_areApart_67 : zD cX12_areApart 67 (.goto (-65)) 3 70 := ⟨by decide +kernel, rfl⟩
theorem eX12_areApart_70 : zD cX12_areApart 70 (.iconst 1) 1 71 := ⟨by decide +kernel, rfl⟩
theorem eX12_areApart_71 : zD cX12_areApart 71 (.ireturn) 1 72 := ⟨by decide +kernel, rfl⟩
theorem eX12_apart_0 : zD cX12_apart 0 (.iload_n 1) 1 1 := ⟨by decide +kernel, rfl⟩
theorem eX12_apart_1 : zD cX12_apart 1 (.i2l) 1 2 := ⟨by decide +kernel, rfl⟩
theorem eX12_apart_2 : zD cX12_apart 2 (.lconst 0) 1 3 := ⟨by decide +kernel, rfl⟩
theorem eX12_apart_3 : zD cX12_apart 3 (.lconst 1) 1 4 := ⟨by decide +kernel, rfl⟩
theorem eX12_apart_4 : zD cX12_apart 4 (.invokestatic 55) 3 7 := ⟨by decide +kernel, rfl⟩
theorem eX12_apart_7 : zD cX12_apart 7 (.ifCond .ne 5) 3 10 := ⟨by decide +kernel, rfl⟩
theorem eX12_apart_10 : zD cX12_apart 10 (.iconst (-1)) 1 11 := ⟨by decide +kernel, rfl⟩
theorem eX12_apart_11 : zD cX12_apart 11 (.ireturn) 1 12 := ⟨by decide +kernel, rfl⟩
theorem eX12_apart_12 : zD cX12_apart 12 (.iconst 0) 1 13 := ⟨by decide +kernel, rfl⟩
theorem eX12_apart_13 : zD cX12_apart 13 (.istore_n 2) 1 14 := ⟨by decide +kernel, rfl⟩
theorem eX12_apart_14 : zD cX12_apart 14 (.iconst 1) 1 15 := ⟨by decide +kernel, rfl⟩
theorem eX12_apart_15 : zD cX12_apart 15 (.istore_n 3) 1 16 := ⟨by decide +kernel, rfl⟩
theorem eX12_apart_16 : zD cX12_apart 16 (.iload_n 3) 1 17 := ⟨by decide +kernel, rfl⟩
theorem eX12_apart_17 : zD cX12_apart 17 (.aload_n 0) 1 18 := ⟨by decide +kernel, rfl⟩
theorem eX12_apart_18 : zD cX12_apart 18 (.invokevirtual 59) 3 21 := ⟨by decide +kernel, rfl⟩
theorem eX12_apart_21 : zD cX12_apart 21 (.if_icmp .gt 30) 3 24 := ⟨by decide +kernel, rfl⟩
theorem eX12_apart_24 : zD cX12_apart 24 (.iload_n 3) 1 25 := ⟨by decide +kernel, rfl⟩
theorem eX12_apart_25 : zD cX12_apart 25 (.invokestatic 177) 3 28 := ⟨by decide +kernel, rfl⟩
theorem eX12_apart_28 : zD cX12_apart 28 (.iload_n 2) 1 29 := ⟨by decide +kernel, rfl⟩
theorem eX12_apart_29 : zD cX12_apart 29 (.invokestatic 177) 3 32 := ⟨by decide +kernel, rfl⟩
theorem eX12_apart_32 : zD cX12_apart 32 (.if_icmp .le 13) 3 35 := ⟨by decide +kernel, rfl⟩
theorem eX12_apart_35 : zD cX12_apart 35 (.aload_n 0) 1 36 := ⟨by decide +kernel, rfl⟩
theorem eX12_apart_36 : zD cX12_apart 36 (.iload_n 3) 1 37 := ⟨by decide +kernel, rfl⟩
theorem eX12_apart_37 : zD cX12_apart 37 (.invokevirtual 190) 3 40 := ⟨by decide +kernel, rfl⟩
theorem eX12_apart_40 : zD cX12_apart 40 (.ifCond .eq 5) 3 43 := ⟨by decide +kernel, rfl⟩
theorem eX12_apart_43 : zD cX12_apart 43 (.iload_n 3) 1 44 := ⟨by decide +kernel, rfl⟩
theorem eX12_apart_44 : zD cX12_apart 44 (.istore_n 2) 1 45 := ⟨by decide +kernel, rfl⟩
theorem eX12_apart_45 : zD cX12_apart 45 (.iinc 3 1) 3 48 := ⟨by decide +kernel, rfl⟩
theorem eX12_apart_48 : zD cX12_apart 48 (.goto (-32)) 3 51 := ⟨by decide +kernel, rfl⟩
theorem eX12_apart_51 : zD cX12_apart 51 (.iload_n 1) 1 52 := ⟨by decide +kernel, rfl⟩
theorem eX12_apart_52 : zD cX12_apart 52 (.ifCond .ne 10) 3 55 := ⟨by decide +kernel, rfl⟩
theorem eX12_apart_55 : zD cX12_apart 55 (.iload_n 2) 1 56 := ⟨by decide +kernel, rfl⟩
theorem eX12_apart_56 : zD cX12_apart 56 (.invokestatic 177) 3 59 := ⟨by decide +kernel, rfl⟩
theorem eX12_apart_59 : zD cX12_apart 59 (.goto 4) 3 62 := ⟨by decide +kernel, rfl⟩
theorem eX12_apart_62 : zD cX12_apart 62 (.iload_n 2) 1 63 := ⟨by decide +kernel, rfl⟩
theorem eX12_apart_63 : zD cX12_apart 63 (.ireturn) 1 64 := ⟨by decide +kernel, rfl⟩
theorem eX12_wholeOf_0 : zD cX12_wholeOf 0 (.iconst 0) 1 1 := ⟨by decide +kernel, rfl⟩
theorem eX12_wholeOf_1 : zD cX12_wholeOf 1 (.istore_n 3) 1 2 := ⟨by decide +kernel, rfl⟩
theorem eX12_wholeOf_2 : zD cX12_wholeOf 2 (.iload_n 1) 1 3 := ⟨by decide +kernel, rfl⟩
theorem eX12_wholeOf_3 : zD cX12_wholeOf 3 (.istore 4) 2 5 := ⟨by decide +kernel, rfl⟩
theorem eX12_wholeOf_5 : zD cX12_wholeOf 5 (.iload 4) 2 7 := ⟨by decide +kernel, rfl⟩
theorem eX12_wholeOf_7 : zD cX12_wholeOf 7 (.ifCond .le 89) 3 10 := ⟨by decide +kernel, rfl⟩
theorem eX12_wholeOf_10 : zD cX12_wholeOf 10 (.iload 4) 2 12 := ⟨by decide +kernel, rfl⟩
theorem eX12_wholeOf_12 : zD cX12_wholeOf 12 (.invokestatic 177) 3 15 := ⟨by decide +kernel, rfl⟩
theorem eX12_wholeOf_15 : zD cX12_wholeOf 15 (.iload_n 2) 1 16 := ⟨by decide +kernel, rfl⟩
theorem eX12_wholeOf_16 : zD cX12_wholeOf 16 (.if_icmp .ne 69) 3 19 := ⟨by decide +kernel, rfl⟩
theorem eX12_wholeOf_19 : zD cX12_wholeOf 19 (.aload_n 0) 1 20 := ⟨by decide +kernel, rfl⟩
theorem eX12_wholeOf_20 : zD cX12_wholeOf 20 (.iload 4) 2 22 := ⟨by decide +kernel, rfl⟩
theorem eX12_wholeOf_22 : zD cX12_wholeOf 22 (.invokevirtual 171) 3 25 := ⟨by decide +kernel, rfl⟩
theorem eX12_wholeOf_25 : zD cX12_wholeOf 25 (.ifCond .ne 6) 3 28 := ⟨by decide +kernel, rfl⟩
theorem eX12_wholeOf_28 : zD cX12_wholeOf 28 (.goto 57) 3 31 := ⟨by decide +kernel, rfl⟩
theorem eX12_wholeOf_31 : zD cX12_wholeOf 31 (.iconst 1) 1 32 := ⟨by decide +kernel, rfl⟩
theorem eX12_wholeOf_32 : zD cX12_wholeOf 32 (.istore 5) 2 34 := ⟨by decide +kernel, rfl⟩
theorem eX12_wholeOf_34 : zD cX12_wholeOf 34 (.iload 5) 2 36 := ⟨by decide +kernel, rfl⟩
theorem eX12_wholeOf_36 : zD cX12_wholeOf 36 (.iload 4) 2 38 := ⟨by decide +kernel, rfl⟩
theorem eX12_wholeOf_38 : zD cX12_wholeOf 38 (.if_icmp .gt 12) 3 41 := ⟨by decide +kernel, rfl⟩
theorem eX12_wholeOf_41 : zD cX12_wholeOf 41 (.iload 5) 2 43 := ⟨by decide +kernel, rfl⟩
theorem eX12_wholeOf_43 : zD cX12_wholeOf 43 (.iconst 2) 1 44 := ⟨by decide +kernel, rfl⟩
theorem eX12_wholeOf_44 : zD cX12_wholeOf 44 (.imul) 1 45 := ⟨by decide +kernel, rfl⟩
theorem eX12_wholeOf_45 : zD cX12_wholeOf 45 (.istore 5) 2 47 := ⟨by decide +kernel, rfl⟩
theorem eX12_wholeOf_47 : zD cX12_wholeOf 47 (.goto (-13)) 3 50 := ⟨by decide +kernel, rfl⟩
theorem eX12_wholeOf_50 : zD cX12_wholeOf 50 (.iconst 1) 1 51 := ⟨by decide +kernel, rfl⟩
theorem eX12_wholeOf_51 : zD cX12_wholeOf 51 (.aload_n 0) 1 52 := ⟨by decide +kernel, rfl⟩
theorem eX12_wholeOf_52 : zD cX12_wholeOf 52 (.iload_n 1) 1 53 := ⟨by decide +kernel, rfl⟩
theorem eX12_wholeOf_53 : zD cX12_wholeOf 53 (.iload 4) 2 55 := ⟨by decide +kernel, rfl⟩
theorem eX12_wholeOf_55 : zD cX12_wholeOf 55 (.iconst (-1)) 1 56 := ⟨by decide +kernel, rfl⟩
theorem eX12_wholeOf_56 : zD cX12_wholeOf 56 (.ixor) 1 57 := ⟨by decide +kernel, rfl⟩
theorem eX12_wholeOf_57 : zD cX12_wholeOf 57 (.iand) 1 58 := ⟨by decide +kernel, rfl⟩
theorem eX12_wholeOf_58 : zD cX12_wholeOf 58 (.iload 5) 2 60 := ⟨by decide +kernel, rfl⟩
theorem eX12_wholeOf_60 : zD cX12_wholeOf 60 (.iconst 2) 1 61 := ⟨by decide +kernel, rfl⟩
theorem eX12_wholeOf_61 : zD cX12_wholeOf 61 (.idiv) 1 62 := ⟨by decide +kernel, rfl⟩
theorem eX12_wholeOf_62 : zD cX12_wholeOf 62 (.iconst 1) 1 63 := ⟨by decide +kernel, rfl⟩
theorem eX12_wholeOf_63 : zD cX12_wholeOf 63 (.isub) 1 64 := ⟨by decide +kernel, rfl⟩
theorem eX12_wholeOf_64 : zD cX12_wholeOf 64 (.iand) 1 65 := ⟨by decide +kernel, rfl⟩
theorem eX12_wholeOf_65 : zD cX12_wholeOf 65 (.iload_n 2) 1 66 := ⟨by decide +kernel, rfl⟩
theorem eX12_wholeOf_66 : zD cX12_wholeOf 66 (.invokevirtual 193) 3 69 := ⟨by decide +kernel, rfl⟩
theorem eX12_wholeOf_69 : zD cX12_wholeOf 69 (.iadd) 1 70 := ⟨by decide +kernel, rfl⟩
theorem eX12_wholeOf_70 : zD cX12_wholeOf 70 (.istore 6) 2 72 := ⟨by decide +kernel, rfl⟩
theorem eX12_wholeOf_72 : zD cX12_wholeOf 72 (.iload 6) 2 74 := ⟨by decide +kernel, rfl⟩
theorem eX12_wholeOf_74 : zD cX12_wholeOf 74 (.iload_n 3) 1 75 := ⟨by decide +kernel, rfl⟩
theorem eX12_wholeOf_75 : zD cX12_wholeOf 75 (.if_icmp .le 8) 3 78 := ⟨by decide +kernel, rfl⟩
theorem eX12_wholeOf_78 : zD cX12_wholeOf 78 (.iload 6) 2 80 := ⟨by decide +kernel, rfl⟩
theorem eX12_wholeOf_80 : zD cX12_wholeOf 80 (.goto 4) 3 83 := ⟨by decide +kernel, rfl⟩
theorem eX12_wholeOf_83 : zD cX12_wholeOf 83 (.iload_n 3) 1 84 := ⟨by decide +kernel, rfl⟩
theorem eX12_wholeOf_84 : zD cX12_wholeOf 84 (.istore_n 3) 1 85 := ⟨by decide +kernel, rfl⟩
theorem eX12_wholeOf_85 : zD cX12_wholeOf 85 (.iload 4) 2 87 := ⟨by decide +kernel, rfl⟩
theorem eX12_wholeOf_87 : zD cX12_wholeOf 87 (.iconst 1) 1 88 := ⟨by decide +kernel, rfl⟩
theorem eX12_wholeOf_88 : zD cX12_wholeOf 88 (.isub) 1 89 := ⟨by decide +kernel, rfl⟩
theorem eX12_wholeOf_89 : zD cX12_wholeOf 89 (.iload_n 1) 1 90 := ⟨by decide +kernel, rfl⟩
theorem eX12_wholeOf_90 : zD cX12_wholeOf 90 (.iand) 1 91 := ⟨by decide +kernel, rfl⟩
theorem eX12_wholeOf_91 : zD cX12_wholeOf 91 (.istore 4) 2 93 := ⟨by decide +kernel, rfl⟩
theorem eX12_wholeOf_93 : zD cX12_wholeOf 93 (.goto (-88)) 3 96 := ⟨by decide +kernel, rfl⟩
theorem eX12_wholeOf_96 : zD cX12_wholeOf 96 (.iload_n 3) 1 97 := ⟨by decide +kernel, rfl⟩
theorem eX12_wholeOf_97 : zD cX12_wholeOf 97 (.ireturn) 1 98 := ⟨by decide +kernel, rfl⟩
theorem eX12_whole_0 : zD cX12_whole 0 (.iload_n 1) 1 1 := ⟨by decide +kernel, rfl⟩
theorem eX12_whole_1 : zD cX12_whole 1 (.i2l) 1 2 := ⟨by decide +kernel, rfl⟩
theorem eX12_whole_2 : zD cX12_whole 2 (.lconst 1) 1 3 := ⟨by decide +kernel, rfl⟩
theorem eX12_whole_3 : zD cX12_whole 3 (.ldc2_w 160) 3 6 := ⟨by decide +kernel, rfl⟩
theorem eX12_whole_6 : zD cX12_whole 6 (.invokestatic 55) 3 9 := ⟨by decide +kernel, rfl⟩
theorem eX12_whole_9 : zD cX12_whole 9 (.ifCond .eq 15) 3 12 := ⟨by decide +kernel, rfl⟩
theorem eX12_whole_12 : zD cX12_whole 12 (.aload_n 0) 1 13 := ⟨by decide +kernel, rfl⟩
theorem eX12_whole_13 : zD cX12_whole 13 (.aload_n 0) 1 14 := ⟨by decide +kernel, rfl⟩
theorem eX12_whole_14 : zD cX12_whole 14 (.invokevirtual 59) 3 17 := ⟨by decide +kernel, rfl⟩
theorem eX12_whole_17 : zD cX12_whole 17 (.iload_n 1) 1 18 := ⟨by decide +kernel, rfl⟩
theorem eX12_whole_18 : zD cX12_whole 18 (.invokevirtual 193) 3 21 := ⟨by decide +kernel, rfl⟩
theorem eX12_whole_21 : zD cX12_whole 21 (.goto 4) 3 24 := ⟨by decide +kernel, rfl⟩
theorem eX12_whole_24 : zD cX12_whole 24 (.iconst (-1)) 1 25 := ⟨by decide +kernel, rfl⟩
theorem eX12_whole_25 : zD cX12_whole 25 (.ireturn) 1 26 := ⟨by decide +kernel, rfl⟩
theorem eX12_canBeBetween_0 : zD cX12_canBeBetween 0 (.aload_n 0) 1 1 := ⟨by decide +kernel, rfl⟩
theorem eX12_canBeBetween_1 : zD cX12_canBeBetween 1 (.iload_n 2) 1 2 := ⟨by decide +kernel, rfl⟩
theorem eX12_canBeBetween_2 : zD cX12_canBeBetween 2 (.invokevirtual 145) 3 5 := ⟨by decide +kernel, rfl⟩
theorem eX12_canBeBetween_5 : zD cX12_canBeBetween 5 (.bipush 99) 2 7 := ⟨by decide +kernel, rfl⟩
theorem eX12_canBeBetween_7 : zD cX12_canBeBetween 7 (.if_icmp .ge 11) 3 10 := ⟨by decide +kernel, rfl⟩
theorem eX12_canBeBetween_10 : zD cX12_canBeBetween 10 (.aload_n 0) 1 11 := ⟨by decide +kernel, rfl⟩
theorem eX12_canBeBetween_11 : zD cX12_canBeBetween 11 (.iload_n 2) 1 12 := ⟨by decide +kernel, rfl⟩
theorem eX12_canBeBetween_12 : zD cX12_canBeBetween 12 (.invokevirtual 145) 3 15 := ⟨by decide +kernel, rfl⟩
theorem eX12_canBeBetween_15 : zD cX12_canBeBetween 15 (.goto 5) 3 18 := ⟨by decide +kernel, rfl⟩
theorem eX12_canBeBetween_18 : zD cX12_canBeBetween 18 (.bipush 99) 2 20 := ⟨by decide +kernel, rfl⟩
theorem eX12_canBeBetween_20 : zD cX12_canBeBetween 20 (.istore_n 3) 1 21 := ⟨by decide +kernel, rfl⟩
theorem eX12_canBeBetween_21 : zD cX12_canBeBetween 21 (.aload_n 0) 1 22 := ⟨by decide +kernel, rfl⟩
theorem eX12_canBeBetween_22 : zD cX12_canBeBetween 22 (.iload_n 1) 1 23 := ⟨by decide +kernel, rfl⟩
theorem eX12_canBeBetween_23 : zD cX12_canBeBetween 23 (.invokevirtual 82) 3 26 := ⟨by decide +kernel, rfl⟩
theorem eX12_canBeBetween_26 : zD cX12_canBeBetween 26 (.iconst 2) 1 27 := ⟨by decide +kernel, rfl⟩
theorem eX12_canBeBetween_27 : zD cX12_canBeBetween 27 (.iadd) 1 28 := ⟨by decide +kernel, rfl⟩
theorem eX12_canBeBetween_28 : zD cX12_canBeBetween 28 (.aload_n 0) 1 29 := ⟨by decide +kernel, rfl⟩
theorem eX12_canBeBetween_29 : zD cX12_canBeBetween 29 (.getfield 9) 3 32 := ⟨by decide +kernel, rfl⟩
theorem eX12_canBeBetween_32 : zD cX12_canBeBetween 32 (.iconst 1) 1 33 := ⟨by decide +kernel, rfl⟩
theorem eX12_canBeBetween_33 : zD cX12_canBeBetween 33 (.iaload) 1 34 := ⟨by decide +kernel, rfl⟩
theorem eX12_canBeBetween_34 : zD cX12_canBeBetween 34 (.iadd) 1 35 := ⟨by decide +kernel, rfl⟩
theorem eX12_canBeBetween_35 : zD cX12_canBeBetween 35 (.istore 4) 2 37 := ⟨by decide +kernel, rfl⟩
theorem eX12_canBeBetween_37 : zD cX12_canBeBetween 37 (.aload_n 0) 1 38 := ⟨by decide +kernel, rfl⟩
theorem eX12_canBeBetween_38 : zD cX12_canBeBetween 38 (.iload_n 2) 1 39 := ⟨by decide +kernel, rfl⟩
theorem eX12_canBeBetween_39 : zD cX12_canBeBetween 39 (.iconst 4) 1 40 := ⟨by decide +kernel, rfl⟩
theorem eX12_canBeBetween_40 : zD cX12_canBeBetween 40 (.invokevirtual 63) 3 43 := ⟨by decide +kernel, rfl⟩
theorem eX12_canBeBetween_43 : zD cX12_canBeBetween 43 (.aload_n 0) 1 44 := ⟨by decide +kernel, rfl⟩
theorem eX12_canBeBetween_44 : zD cX12_canBeBetween 44 (.iload_n 2) 1 45 := ⟨by decide +kernel, rfl⟩
theorem eX12_canBeBetween_45 : zD cX12_canBeBetween 45 (.iconst 1) 1 46 := ⟨by decide +kernel, rfl⟩
theorem eX12_canBeBetween_46 : zD cX12_canBeBetween 46 (.invokevirtual 63) 3 49 := ⟨by decide +kernel, rfl⟩
theorem eX12_canBeBetween_49 : zD cX12_canBeBetween 49 (.iadd) 1 50 := ⟨by decide +kernel, rfl⟩
theorem eX12_canBeBetween_50 : zD cX12_canBeBetween 50 (.istore 5) 2 52 := ⟨by decide +kernel, rfl⟩
theorem eX12_canBeBetween_52 : zD cX12_canBeBetween 52 (.iload 4) 2 54 := ⟨by decide +kernel, rfl⟩
theorem eX12_canBeBetween_54 : zD cX12_canBeBetween 54 (.iload_n 3) 1 55 := ⟨by decide +kernel, rfl⟩
theorem eX12_canBeBetween_55 : zD cX12_canBeBetween 55 (.if_icmp .gt 30) 3 58 := ⟨by decide +kernel, rfl⟩
theorem eX12_canBeBetween_58 : zD cX12_canBeBetween 58 (.aload_n 0) 1 59 := ⟨by decide +kernel, rfl⟩
theorem eX12_canBeBetween_59 : zD cX12_canBeBetween 59 (.iload_n 1) 1 60 := ⟨by decide +kernel, rfl⟩
theorem eX12_canBeBetween_60 : zD cX12_canBeBetween 60 (.iconst 4) 1 61 := ⟨by decide +kernel, rfl⟩
theorem eX12_canBeBetween_61 : zD cX12_canBeBetween 61 (.invokevirtual 63) 3 64 := ⟨by decide +kernel, rfl⟩
theorem eX12_canBeBetween_64 : zD cX12_canBeBetween 64 (.iload 5) 2 66 := ⟨by decide +kernel, rfl⟩
theorem eX12_canBeBetween_66 : zD cX12_canBeBetween 66 (.bipush 99) 2 68 := ⟨by decide +kernel, rfl⟩
theorem eX12_canBeBetween_68 : zD cX12_canBeBetween 68 (.if_icmp .ge 8) 3 71 := ⟨by decide +kernel, rfl⟩
theorem eX12_canBeBetween_71 : zD cX12_canBeBetween 71 (.iload 5) 2 73 := ⟨by decide +kernel, rfl⟩
theorem eX12_canBeBetween_73 : zD cX12_canBeBetween 73 (.goto 5) 3 76 := ⟨by decide +kernel, rfl⟩
theorem eX12_canBeBetween_76 : zD cX12_canBeBetween 76 (.bipush 99) 2 78 := ⟨by decide +kernel, rfl⟩
theorem eX12_canBeBetween_78 : zD cX12_canBeBetween 78 (.if_icmp .gt 7) 3 81 := ⟨by decide +kernel, rfl⟩
theorem eX12_canBeBetween_81 : zD cX12_canBeBetween 81 (.iconst 1) 1 82 := ⟨by decide +kernel, rfl⟩
theorem eX12_canBeBetween_82 : zD cX12_canBeBetween 82 (.goto 4) 3 85 := ⟨by decide +kernel, rfl⟩
theorem eX12_canBeBetween_85 : zD cX12_canBeBetween 85 (.iconst 0) 1 86 := ⟨by decide +kernel, rfl⟩
theorem eX12_canBeBetween_86 : zD cX12_canBeBetween 86 (.ireturn) 1 87 := ⟨by decide +kernel, rfl⟩
theorem eX12_throwsNew_0 : zD cX12_throwsNew 0 (.aload_n 0) 1 1 := ⟨by decide +kernel, rfl⟩
theorem eX12_throwsNew_1 : zD cX12_throwsNew 1 (.getfield 9) 3 4 := ⟨by decide +kernel, rfl⟩
theorem eX12_throwsNew_4 : zD cX12_throwsNew 4 (.iconst 0) 1 5 := ⟨by decide +kernel, rfl⟩
theorem eX12_throwsNew_5 : zD cX12_throwsNew 5 (.iaload) 1 6 := ⟨by decide +kernel, rfl⟩
theorem eX12_throwsNew_6 : zD cX12_throwsNew 6 (.ifCond .ne 6) 3 9 := ⟨by decide +kernel, rfl⟩
theorem eX12_throwsNew_9 : zD cX12_throwsNew 9 (.bipush (-4)) 2 11 := ⟨by decide +kernel, rfl⟩
theorem eX12_throwsNew_11 : zD cX12_throwsNew 11 (.ireturn) 1 12 := ⟨by decide +kernel, rfl⟩
theorem eX12_throwsNew_12 : zD cX12_throwsNew 12 (.iconst 0) 1 13 := ⟨by decide +kernel, rfl⟩
theorem eX12_throwsNew_13 : zD cX12_throwsNew 13 (.istore_n 1) 1 14 := ⟨by decide +kernel, rfl⟩
theorem eX12_throwsNew_14 : zD cX12_throwsNew 14 (.aload_n 0) 1 15 := ⟨by decide +kernel, rfl⟩
theorem eX12_throwsNew_15 : zD cX12_throwsNew 15 (.invokevirtual 59) 3 18 := ⟨by decide +kernel, rfl⟩
theorem eX12_throwsNew_18 : zD cX12_throwsNew 18 (.istore_n 2) 1 19 := ⟨by decide +kernel, rfl⟩
theorem eX12_throwsNew_19 : zD cX12_throwsNew 19 (.bipush (-4)) 2 21 := ⟨by decide +kernel, rfl⟩
theorem eX12_throwsNew_21 : zD cX12_throwsNew 21 (.istore_n 3) 1 22 := ⟨by decide +kernel, rfl⟩
theorem eX12_throwsNew_22 : zD cX12_throwsNew 22 (.iload_n 2) 1 23 := ⟨by decide +kernel, rfl⟩
theorem eX12_throwsNew_23 : zD cX12_throwsNew 23 (.ifCond .eq 55) 3 26 := ⟨by decide +kernel, rfl⟩
theorem eX12_throwsNew_26 : zD cX12_throwsNew 26 (.aload_n 0) 1 27 := ⟨by decide +kernel, rfl⟩
theorem eX12_throwsNew_27 : zD cX12_throwsNew 27 (.iload_n 2) 1 28 := ⟨by decide +kernel, rfl⟩
theorem eX12_throwsNew_28 : zD cX12_throwsNew 28 (.invokevirtual 165) 3 31 := ⟨by decide +kernel, rfl⟩
theorem eX12_throwsNew_31 : zD cX12_throwsNew 31 (.istore 4) 2 33 := ⟨by decide +kernel, rfl⟩
theorem eX12_throwsNew_33 : zD cX12_throwsNew 33 (.iload_n 3) 1 34 := ⟨by decide +kernel, rfl⟩
theorem eX12_throwsNew_34 : zD cX12_throwsNew 34 (.ifCond .lt 29) 3 37 := ⟨by decide +kernel, rfl⟩
theorem eX12_throwsNew_37 : zD cX12_throwsNew 37 (.aload_n 0) 1 38 := ⟨by decide +kernel, rfl⟩
theorem eX12_throwsNew_38 : zD cX12_throwsNew 38 (.iload 4) 2 40 := ⟨by decide +kernel, rfl⟩
end
section
/-! Decode rows. -/
theorem eX12_throwsNew_40 : zD cX12_throwsNew 40 (.iload_n 3) 1 41 := ⟨by decide +kernel, rfl⟩
theorem eX12_throwsNew_41 : zD cX12_throwsNew 41 (.invokevirtual 162) 3 44 := ⟨by decide +kernel, rfl⟩
theorem eX12_throwsNew_44 : zD cX12_throwsNew 44 (.ifCond .ne 19) 3 47 := ⟨by decide +kernel, rfl⟩
theorem eX12_throwsNew_47 : zD cX12_throwsNew 47 (.aload_n 0) 1 48 := ⟨by decide +kernel, rfl⟩
theorem eX12_throwsNew_48 : zD cX12_throwsNew 48 (.iload 4) 2 50 := ⟨by decide +kernel, rfl⟩
theorem eX12_throwsNew_50 : zD cX12_throwsNew 50 (.iload_n 3) 1 51 := ⟨by decide +kernel, rfl⟩
theorem eX12_throwsNew_51 : zD cX12_throwsNew 51 (.invokevirtual 196) 3 54 := ⟨by decide +kernel, rfl⟩
theorem eX12_throwsNew_54 : zD cX12_throwsNew 54 (.ifCond .ne 6) 3 57 := ⟨by decide +kernel, rfl⟩
theorem eX12_throwsNew_57 : zD cX12_throwsNew 57 (.bipush (-4)) 2 59 := ⟨by decide +kernel, rfl⟩
theorem eX12_throwsNew_59 : zD cX12_throwsNew 59 (.ireturn) 1 60 := ⟨by decide +kernel, rfl⟩
theorem eX12_throwsNew_60 : zD cX12_throwsNew 60 (.iinc 1 1) 3 63 := ⟨by decide +kernel, rfl⟩
theorem eX12_throwsNew_63 : zD cX12_throwsNew 63 (.iload 4) 2 65 := ⟨by decide +kernel, rfl⟩
theorem eX12_throwsNew_65 : zD cX12_throwsNew 65 (.istore_n 3) 1 66 := ⟨by decide +kernel, rfl⟩
theorem eX12_throwsNew_66 : zD cX12_throwsNew 66 (.iload_n 2) 1 67 := ⟨by decide +kernel, rfl⟩
theorem eX12_throwsNew_67 : zD cX12_throwsNew 67 (.iconst 1) 1 68 := ⟨by decide +kernel, rfl⟩
theorem eX12_throwsNew_68 : zD cX12_throwsNew 68 (.iload 4) 2 70 := ⟨by decide +kernel, rfl⟩
theorem eX12_throwsNew_70 : zD cX12_throwsNew 70 (.ishl) 1 71 := ⟨by decide +kernel, rfl⟩
theorem eX12_throwsNew_71 : zD cX12_throwsNew 71 (.iconst (-1)) 1 72 := ⟨by decide +kernel, rfl⟩
theorem eX12_throwsNew_72 : zD cX12_throwsNew 72 (.ixor) 1 73 := ⟨by decide +kernel, rfl⟩
theorem eX12_throwsNew_73 : zD cX12_throwsNew 73 (.iand) 1 74 := ⟨by decide +kernel, rfl⟩
theorem eX12_throwsNew_74 : zD cX12_throwsNew 74 (.istore_n 2) 1 75 := ⟨by decide +kernel, rfl⟩
theorem eX12_throwsNew_75 : zD cX12_throwsNew 75 (.goto (-53)) 3 78 := ⟨by decide +kernel, rfl⟩
theorem eX12_throwsNew_78 : zD cX12_throwsNew 78 (.iload_n 1) 1 79 := ⟨by decide +kernel, rfl⟩
theorem eX12_throwsNew_79 : zD cX12_throwsNew 79 (.iconst 2) 1 80 := ⟨by decide +kernel, rfl⟩
theorem eX12_throwsNew_80 : zD cX12_throwsNew 80 (.if_icmp .le 8) 3 83 := ⟨by decide +kernel, rfl⟩
theorem eX12_throwsNew_83 : zD cX12_throwsNew 83 (.bipush (-4)) 2 85 := ⟨by decide +kernel, rfl⟩
theorem eX12_throwsNew_85 : zD cX12_throwsNew 85 (.goto 4) 3 88 := ⟨by decide +kernel, rfl⟩
theorem eX12_throwsNew_88 : zD cX12_throwsNew 88 (.iload_n 1) 1 89 := ⟨by decide +kernel, rfl⟩
theorem eX12_throwsNew_89 : zD cX12_throwsNew 89 (.ireturn) 1 90 := ⟨by decide +kernel, rfl⟩
theorem eX12_longestRow_0 : zD cX12_longestRow 0 (.iconst 0) 1 1 := ⟨by decide +kernel, rfl⟩
theorem eX12_longestRow_1 : zD cX12_longestRow 1 (.istore_n 2) 1 2 := ⟨by decide +kernel, rfl⟩
theorem eX12_longestRow_2 : zD cX12_longestRow 2 (.iconst 0) 1 3 := ⟨by decide +kernel, rfl⟩
theorem eX12_longestRow_3 : zD cX12_longestRow 3 (.istore_n 3) 1 4 := ⟨by decide +kernel, rfl⟩
theorem eX12_longestRow_4 : zD cX12_longestRow 4 (.iload_n 3) 1 5 := ⟨by decide +kernel, rfl⟩
theorem eX12_longestRow_5 : zD cX12_longestRow 5 (.iload_n 1) 1 6 := ⟨by decide +kernel, rfl⟩
theorem eX12_longestRow_6 : zD cX12_longestRow 6 (.if_icmp .ge 16) 3 9 := ⟨by decide +kernel, rfl⟩
theorem eX12_longestRow_9 : zD cX12_longestRow 9 (.aload_n 0) 1 10 := ⟨by decide +kernel, rfl⟩
theorem eX12_longestRow_10 : zD cX12_longestRow 10 (.getfield 46) 3 13 := ⟨by decide +kernel, rfl⟩
theorem eX12_longestRow_13 : zD cX12_longestRow 13 (.iload_n 3) 1 14 := ⟨by decide +kernel, rfl⟩
theorem eX12_longestRow_14 : zD cX12_longestRow 14 (.iconst 1) 1 15 := ⟨by decide +kernel, rfl⟩
theorem eX12_longestRow_15 : zD cX12_longestRow 15 (.iastore) 1 16 := ⟨by decide +kernel, rfl⟩
theorem eX12_longestRow_16 : zD cX12_longestRow 16 (.iinc 3 1) 3 19 := ⟨by decide +kernel, rfl⟩
theorem eX12_longestRow_19 : zD cX12_longestRow 19 (.goto (-15)) 3 22 := ⟨by decide +kernel, rfl⟩
theorem eX12_longestRow_22 : zD cX12_longestRow 22 (.iconst 0) 1 23 := ⟨by decide +kernel, rfl⟩
theorem eX12_longestRow_23 : zD cX12_longestRow 23 (.istore_n 3) 1 24 := ⟨by decide +kernel, rfl⟩
theorem eX12_longestRow_24 : zD cX12_longestRow 24 (.iload_n 3) 1 25 := ⟨by decide +kernel, rfl⟩
theorem eX12_longestRow_25 : zD cX12_longestRow 25 (.iload_n 1) 1 26 := ⟨by decide +kernel, rfl⟩
theorem eX12_longestRow_26 : zD cX12_longestRow 26 (.if_icmp .ge 90) 3 29 := ⟨by decide +kernel, rfl⟩
theorem eX12_longestRow_29 : zD cX12_longestRow 29 (.iconst 0) 1 30 := ⟨by decide +kernel, rfl⟩
theorem eX12_longestRow_30 : zD cX12_longestRow 30 (.istore 4) 2 32 := ⟨by decide +kernel, rfl⟩
theorem eX12_longestRow_32 : zD cX12_longestRow 32 (.iload 4) 2 34 := ⟨by decide +kernel, rfl⟩
theorem eX12_longestRow_34 : zD cX12_longestRow 34 (.iload_n 1) 1 35 := ⟨by decide +kernel, rfl⟩
theorem eX12_longestRow_35 : zD cX12_longestRow 35 (.if_icmp .ge 75) 3 38 := ⟨by decide +kernel, rfl⟩
theorem eX12_longestRow_38 : zD cX12_longestRow 38 (.iconst 0) 1 39 := ⟨by decide +kernel, rfl⟩
theorem eX12_longestRow_39 : zD cX12_longestRow 39 (.istore 5) 2 41 := ⟨by decide +kernel, rfl⟩
theorem eX12_longestRow_41 : zD cX12_longestRow 41 (.iload 5) 2 43 := ⟨by decide +kernel, rfl⟩
theorem eX12_longestRow_43 : zD cX12_longestRow 43 (.iload_n 1) 1 44 := ⟨by decide +kernel, rfl⟩
theorem eX12_longestRow_44 : zD cX12_longestRow 44 (.if_icmp .ge 60) 3 47 := ⟨by decide +kernel, rfl⟩
theorem eX12_longestRow_47 : zD cX12_longestRow 47 (.iload 4) 2 49 := ⟨by decide +kernel, rfl⟩
theorem eX12_longestRow_49 : zD cX12_longestRow 49 (.iload 5) 2 51 := ⟨by decide +kernel, rfl⟩
theorem eX12_longestRow_51 : zD cX12_longestRow 51 (.if_icmp .eq 47) 3 54 := ⟨by decide +kernel, rfl⟩
theorem eX12_longestRow_54 : zD cX12_longestRow 54 (.aload_n 0) 1 55 := ⟨by decide +kernel, rfl⟩
theorem eX12_longestRow_55 : zD cX12_longestRow 55 (.getfield 46) 3 58 := ⟨by decide +kernel, rfl⟩
theorem eX12_longestRow_58 : zD cX12_longestRow 58 (.iload 4) 2 60 := ⟨by decide +kernel, rfl⟩
theorem eX12_longestRow_60 : zD cX12_longestRow 60 (.iaload) 1 61 := ⟨by decide +kernel, rfl⟩
theorem eX12_longestRow_61 : zD cX12_longestRow 61 (.aload_n 0) 1 62 := ⟨by decide +kernel, rfl⟩
theorem eX12_longestRow_62 : zD cX12_longestRow 62 (.getfield 46) 3 65 := ⟨by decide +kernel, rfl⟩
theorem eX12_longestRow_65 : zD cX12_longestRow 65 (.iload 5) 2 67 := ⟨by decide +kernel, rfl⟩
theorem eX12_longestRow_67 : zD cX12_longestRow 67 (.iaload) 1 68 := ⟨by decide +kernel, rfl⟩
theorem eX12_longestRow_68 : zD cX12_longestRow 68 (.if_icmp .lt 30) 3 71 := ⟨by decide +kernel, rfl⟩
theorem eX12_longestRow_71 : zD cX12_longestRow 71 (.aload_n 0) 1 72 := ⟨by decide +kernel, rfl⟩
theorem eX12_longestRow_72 : zD cX12_longestRow 72 (.iload 4) 2 74 := ⟨by decide +kernel, rfl⟩
theorem eX12_longestRow_74 : zD cX12_longestRow 74 (.iload 5) 2 76 := ⟨by decide +kernel, rfl⟩
theorem eX12_longestRow_76 : zD cX12_longestRow 76 (.invokevirtual 162) 3 79 := ⟨by decide +kernel, rfl⟩
theorem eX12_longestRow_79 : zD cX12_longestRow 79 (.ifCond .eq 19) 3 82 := ⟨by decide +kernel, rfl⟩
theorem eX12_longestRow_82 : zD cX12_longestRow 82 (.aload_n 0) 1 83 := ⟨by decide +kernel, rfl⟩
theorem eX12_longestRow_83 : zD cX12_longestRow 83 (.getfield 46) 3 86 := ⟨by decide +kernel, rfl⟩
theorem eX12_longestRow_86 : zD cX12_longestRow 86 (.iload 5) 2 88 := ⟨by decide +kernel, rfl⟩
theorem eX12_longestRow_88 : zD cX12_longestRow 88 (.aload_n 0) 1 89 := ⟨by decide +kernel, rfl⟩
theorem eX12_longestRow_89 : zD cX12_longestRow 89 (.getfield 46) 3 92 := ⟨by decide +kernel, rfl⟩
theorem eX12_longestRow_92 : zD cX12_longestRow 92 (.iload 4) 2 94 := ⟨by decide +kernel, rfl⟩
theorem eX12_longestRow_94 : zD cX12_longestRow 94 (.iaload) 1 95 := ⟨by decide +kernel, rfl⟩
theorem eX12_longestRow_95 : zD cX12_longestRow 95 (.iconst 1) 1 96 := ⟨by decide +kernel, rfl⟩
theorem eX12_longestRow_96 : zD cX12_longestRow 96 (.iadd) 1 97 := ⟨by decide +kernel, rfl⟩
theorem eX12_longestRow_97 : zD cX12_longestRow 97 (.iastore) 1 98 := ⟨by decide +kernel, rfl⟩
theorem eX12_longestRow_98 : zD cX12_longestRow 98 (.iinc 5 1) 3 101 := ⟨by decide +kernel, rfl⟩
theorem eX12_longestRow_101 : zD cX12_longestRow 101 (.goto (-60)) 3 104 := ⟨by decide +kernel, rfl⟩
theorem eX12_longestRow_104 : zD cX12_longestRow 104 (.iinc 4 1) 3 107 := ⟨by decide +kernel, rfl⟩
theorem eX12_longestRow_107 : zD cX12_longestRow 107 (.goto (-75)) 3 110 := ⟨by decide +kernel, rfl⟩
theorem eX12_longestRow_110 : zD cX12_longestRow 110 (.iinc 3 1) 3 113 := ⟨by decide +kernel, rfl⟩
theorem eX12_longestRow_113 : zD cX12_longestRow 113 (.goto (-89)) 3 116 := ⟨by decide +kernel, rfl⟩
theorem eX12_longestRow_116 : zD cX12_longestRow 116 (.iconst 0) 1 117 := ⟨by decide +kernel, rfl⟩
theorem eX12_longestRow_117 : zD cX12_longestRow 117 (.istore_n 3) 1 118 := ⟨by decide +kernel, rfl⟩
theorem eX12_longestRow_118 : zD cX12_longestRow 118 (.iload_n 3) 1 119 := ⟨by decide +kernel, rfl⟩
theorem eX12_longestRow_119 : zD cX12_longestRow 119 (.iload_n 1) 1 120 := ⟨by decide +kernel, rfl⟩
theorem eX12_longestRow_120 : zD cX12_longestRow 120 (.if_icmp .ge 30) 3 123 := ⟨by decide +kernel, rfl⟩
theorem eX12_longestRow_123 : zD cX12_longestRow 123 (.aload_n 0) 1 124 := ⟨by decide +kernel, rfl⟩
theorem eX12_longestRow_124 : zD cX12_longestRow 124 (.getfield 46) 3 127 := ⟨by decide +kernel, rfl⟩
theorem eX12_longestRow_127 : zD cX12_longestRow 127 (.iload_n 3) 1 128 := ⟨by decide +kernel, rfl⟩
theorem eX12_longestRow_128 : zD cX12_longestRow 128 (.iaload) 1 129 := ⟨by decide +kernel, rfl⟩
theorem eX12_longestRow_129 : zD cX12_longestRow 129 (.iload_n 2) 1 130 := ⟨by decide +kernel, rfl⟩
theorem eX12_longestRow_130 : zD cX12_longestRow 130 (.if_icmp .le 12) 3 133 := ⟨by decide +kernel, rfl⟩
theorem eX12_longestRow_133 : zD cX12_longestRow 133 (.aload_n 0) 1 134 := ⟨by decide +kernel, rfl⟩
theorem eX12_longestRow_134 : zD cX12_longestRow 134 (.getfield 46) 3 137 := ⟨by decide +kernel, rfl⟩
theorem eX12_longestRow_137 : zD cX12_longestRow 137 (.iload_n 3) 1 138 := ⟨by decide +kernel, rfl⟩
theorem eX12_longestRow_138 : zD cX12_longestRow 138 (.iaload) 1 139 := ⟨by decide +kernel, rfl⟩
theorem eX12_longestRow_139 : zD cX12_longestRow 139 (.goto 4) 3 142 := ⟨by decide +kernel, rfl⟩
theorem eX12_longestRow_142 : zD cX12_longestRow 142 (.iload_n 2) 1 143 := ⟨by decide +kernel, rfl⟩
theorem eX12_longestRow_143 : zD cX12_longestRow 143 (.istore_n 2) 1 144 := ⟨by decide +kernel, rfl⟩
theorem eX12_longestRow_144 : zD cX12_longestRow 144 (.iinc 3 1) 3 147 := ⟨by decide +kernel, rfl⟩
theorem eX12_longestRow_147 : zD cX12_longestRow 147 (.goto (-29)) 3 150 := ⟨by decide +kernel, rfl⟩
theorem eX12_longestRow_150 : zD cX12_longestRow 150 (.iload_n 2) 1 151 := ⟨by decide +kernel, rfl⟩
theorem eX12_longestRow_151 : zD cX12_longestRow 151 (.ireturn) 1 152 := ⟨by decide +kernel, rfl⟩
theorem eX12_helps_0 : zD cX12_helps 0 (.iload_n 1) 1 1 := ⟨by decide +kernel, rfl⟩
theorem eX12_helps_1 : zD cX12_helps 1 (.i2l) 1 2 := ⟨by decide +kernel, rfl⟩
theorem eX12_helps_2 : zD cX12_helps 2 (.lconst 1) 1 3 := ⟨by decide +kernel, rfl⟩
theorem eX12_helps_3 : zD cX12_helps 3 (.ldc2_w 151) 3 6 := ⟨by decide +kernel, rfl⟩
theorem eX12_helps_6 : zD cX12_helps 6 (.invokestatic 55) 3 9 := ⟨by decide +kernel, rfl⟩
theorem eX12_helps_9 : zD cX12_helps 9 (.ifCond .eq 13) 3 12 := ⟨by decide +kernel, rfl⟩
theorem eX12_helps_12 : zD cX12_helps 12 (.iload_n 2) 1 13 := ⟨by decide +kernel, rfl⟩
theorem eX12_helps_13 : zD cX12_helps 13 (.i2l) 1 14 := ⟨by decide +kernel, rfl⟩
theorem eX12_helps_14 : zD cX12_helps 14 (.lconst 0) 1 15 := ⟨by decide +kernel, rfl⟩
theorem eX12_helps_15 : zD cX12_helps 15 (.lconst 1) 1 16 := ⟨by decide +kernel, rfl⟩
theorem eX12_helps_16 : zD cX12_helps 16 (.invokestatic 55) 3 19 := ⟨by decide +kernel, rfl⟩
theorem eX12_helps_19 : zD cX12_helps 19 (.ifCond .ne 5) 3 22 := ⟨by decide +kernel, rfl⟩
theorem eX12_helps_22 : zD cX12_helps 22 (.iconst (-1)) 1 23 := ⟨by decide +kernel, rfl⟩
theorem eX12_helps_23 : zD cX12_helps 23 (.ireturn) 1 24 := ⟨by decide +kernel, rfl⟩
theorem eX12_helps_24 : zD cX12_helps 24 (.iconst 0) 1 25 := ⟨by decide +kernel, rfl⟩
theorem eX12_helps_25 : zD cX12_helps 25 (.istore_n 3) 1 26 := ⟨by decide +kernel, rfl⟩
theorem eX12_helps_26 : zD cX12_helps 26 (.iconst 0) 1 27 := ⟨by decide +kernel, rfl⟩
theorem eX12_helps_27 : zD cX12_helps 27 (.istore 4) 2 29 := ⟨by decide +kernel, rfl⟩
theorem eX12_helps_29 : zD cX12_helps 29 (.iconst 1) 1 30 := ⟨by decide +kernel, rfl⟩
theorem eX12_helps_30 : zD cX12_helps 30 (.istore 5) 2 32 := ⟨by decide +kernel, rfl⟩
theorem eX12_helps_32 : zD cX12_helps 32 (.iload 5) 2 34 := ⟨by decide +kernel, rfl⟩
theorem eX12_helps_34 : zD cX12_helps 34 (.bipush 99) 2 36 := ⟨by decide +kernel, rfl⟩
theorem eX12_helps_36 : zD cX12_helps 36 (.if_icmp .gt 50) 3 39 := ⟨by decide +kernel, rfl⟩
theorem eX12_helps_39 : zD cX12_helps 39 (.aload_n 0) 1 40 := ⟨by decide +kernel, rfl⟩
theorem eX12_helps_40 : zD cX12_helps 40 (.iconst 0) 1 41 := ⟨by decide +kernel, rfl⟩
theorem eX12_helps_41 : zD cX12_helps 41 (.iconst 0) 1 42 := ⟨by decide +kernel, rfl⟩
theorem eX12_helps_42 : zD cX12_helps 42 (.iconst 0) 1 43 := ⟨by decide +kernel, rfl⟩
theorem eX12_helps_43 : zD cX12_helps 43 (.iload 5) 2 45 := ⟨by decide +kernel, rfl⟩
theorem eX12_helps_45 : zD cX12_helps 45 (.iload_n 1) 1 46 := ⟨by decide +kernel, rfl⟩
theorem eX12_helps_46 : zD cX12_helps 46 (.invokevirtual 156) 3 49 := ⟨by decide +kernel, rfl⟩
theorem eX12_helps_49 : zD cX12_helps 49 (.aload_n 0) 1 50 := ⟨by decide +kernel, rfl⟩
theorem eX12_helps_50 : zD cX12_helps 50 (.aload_n 0) 1 51 := ⟨by decide +kernel, rfl⟩
theorem eX12_helps_51 : zD cX12_helps 51 (.getfield 9) 3 54 := ⟨by decide +kernel, rfl⟩
theorem eX12_helps_54 : zD cX12_helps 54 (.iconst 0) 1 55 := ⟨by decide +kernel, rfl⟩
theorem eX12_helps_55 : zD cX12_helps 55 (.iaload) 1 56 := ⟨by decide +kernel, rfl⟩
theorem eX12_helps_56 : zD cX12_helps 56 (.iconst 1) 1 57 := ⟨by decide +kernel, rfl⟩
theorem eX12_helps_57 : zD cX12_helps 57 (.iadd) 1 58 := ⟨by decide +kernel, rfl⟩
theorem eX12_helps_58 : zD cX12_helps 58 (.invokevirtual 199) 3 61 := ⟨by decide +kernel, rfl⟩
theorem eX12_helps_61 : zD cX12_helps 61 (.istore 6) 2 63 := ⟨by decide +kernel, rfl⟩
theorem eX12_helps_63 : zD cX12_helps 63 (.iload 6) 2 65 := ⟨by decide +kernel, rfl⟩
theorem eX12_helps_65 : zD cX12_helps 65 (.iload 4) 2 67 := ⟨by decide +kernel, rfl⟩
theorem eX12_helps_67 : zD cX12_helps 67 (.if_icmp .gt 6) 3 70 := ⟨by decide +kernel, rfl⟩
theorem eX12_helps_70 : zD cX12_helps 70 (.goto 10) 3 73 := ⟨by decide +kernel, rfl⟩
theorem eX12_helps_73 : zD cX12_helps 73 (.iload 5) 2 75 := ⟨by decide +kernel, rfl⟩
theorem eX12_helps_75 : zD cX12_helps 75 (.istore_n 3) 1 76 := ⟨by decide +kernel, rfl⟩
theorem eX12_helps_76 : zD cX12_helps 76 (.iload 6) 2 78 := ⟨by decide +kernel, rfl⟩
theorem eX12_helps_78 : zD cX12_helps 78 (.istore 4) 2 80 := ⟨by decide +kernel, rfl⟩
theorem eX12_helps_80 : zD cX12_helps 80 (.iinc 5 1) 3 83 := ⟨by decide +kernel, rfl⟩
theorem eX12_helps_83 : zD cX12_helps 83 (.goto (-51)) 3 86 := ⟨by decide +kernel, rfl⟩
theorem eX12_helps_86 : zD cX12_helps 86 (.iload_n 2) 1 87 := ⟨by decide +kernel, rfl⟩
theorem eX12_helps_87 : zD cX12_helps 87 (.ifCond .ne 7) 3 90 := ⟨by decide +kernel, rfl⟩
theorem eX12_helps_90 : zD cX12_helps 90 (.iload_n 3) 1 91 := ⟨by decide +kernel, rfl⟩
theorem eX12_helps_91 : zD cX12_helps 91 (.goto 5) 3 94 := ⟨by decide +kernel, rfl⟩
theorem eX12_helps_94 : zD cX12_helps 94 (.iload 4) 2 96 := ⟨by decide +kernel, rfl⟩
theorem eX12_helps_96 : zD cX12_helps 96 (.ireturn) 1 97 := ⟨by decide +kernel, rfl⟩
theorem eX12_wrongOut_0 : zD cX12_wrongOut 0 (.aload_n 0) 1 1 := ⟨by decide +kernel, rfl⟩
theorem eX12_wrongOut_1 : zD cX12_wrongOut 1 (.iload_n 1) 1 2 := ⟨by decide +kernel, rfl⟩
theorem eX12_wrongOut_2 : zD cX12_wrongOut 2 (.iconst 0) 1 3 := ⟨by decide +kernel, rfl⟩
theorem eX12_wrongOut_3 : zD cX12_wrongOut 3 (.invokevirtual 132) 3 6 := ⟨by decide +kernel, rfl⟩
theorem eX12_wrongOut_6 : zD cX12_wrongOut 6 (.istore_n 2) 1 7 := ⟨by decide +kernel, rfl⟩
theorem eX12_wrongOut_7 : zD cX12_wrongOut 7 (.iload_n 2) 1 8 := ⟨by decide +kernel, rfl⟩
theorem eX12_wrongOut_8 : zD cX12_wrongOut 8 (.ifCond .eq 5) 3 11 := ⟨by decide +kernel, rfl⟩
theorem eX12_wrongOut_11 : zD cX12_wrongOut 11 (.iload_n 2) 1 12 := ⟨by decide +kernel, rfl⟩
theorem eX12_wrongOut_12 : zD cX12_wrongOut 12 (.ireturn) 1 13 := ⟨by decide +kernel, rfl⟩
theorem eX12_wrongOut_13 : zD cX12_wrongOut 13 (.aload_n 0) 1 14 := ⟨by decide +kernel, rfl⟩
theorem eX12_wrongOut_14 : zD cX12_wrongOut 14 (.getfield 25) 3 17 := ⟨by decide +kernel, rfl⟩
theorem eX12_wrongOut_17 : zD cX12_wrongOut 17 (.iload_n 1) 1 18 := ⟨by decide +kernel, rfl⟩
theorem eX12_wrongOut_18 : zD cX12_wrongOut 18 (.iaload) 1 19 := ⟨by decide +kernel, rfl⟩
theorem eX12_wrongOut_19 : zD cX12_wrongOut 19 (.ifCond .eq 11) 3 22 := ⟨by decide +kernel, rfl⟩
theorem eX12_wrongOut_22 : zD cX12_wrongOut 22 (.aload_n 0) 1 23 := ⟨by decide +kernel, rfl⟩
theorem eX12_wrongOut_23 : zD cX12_wrongOut 23 (.iload_n 1) 1 24 := ⟨by decide +kernel, rfl⟩
theorem eX12_wrongOut_24 : zD cX12_wrongOut 24 (.invokevirtual 202) 3 27 := ⟨by decide +kernel, rfl⟩
theorem eX12_wrongOut_27 : zD cX12_wrongOut 27 (.ifCond .lt 8) 3 30 := ⟨by decide +kernel, rfl⟩
theorem eX12_wrongOut_30 : zD cX12_wrongOut 30 (.bipush (-13)) 2 32 := ⟨by decide +kernel, rfl⟩
theorem eX12_wrongOut_32 : zD cX12_wrongOut 32 (.goto 4) 3 35 := ⟨by decide +kernel, rfl⟩
theorem eX12_wrongOut_35 : zD cX12_wrongOut 35 (.iconst 0) 1 36 := ⟨by decide +kernel, rfl⟩
theorem eX12_wrongOut_36 : zD cX12_wrongOut 36 (.ireturn) 1 37 := ⟨by decide +kernel, rfl⟩
theorem eX12_wrongAt_0 : zD cX12_wrongAt 0 (.iconst 0) 1 1 := ⟨by decide +kernel, rfl⟩
theorem eX12_wrongAt_1 : zD cX12_wrongAt 1 (.istore_n 2) 1 2 := ⟨by decide +kernel, rfl⟩
theorem eX12_wrongAt_2 : zD cX12_wrongAt 2 (.iconst 0) 1 3 := ⟨by decide +kernel, rfl⟩
theorem eX12_wrongAt_3 : zD cX12_wrongAt 3 (.istore_n 3) 1 4 := ⟨by decide +kernel, rfl⟩
theorem eX12_wrongAt_4 : zD cX12_wrongAt 4 (.iload_n 3) 1 5 := ⟨by decide +kernel, rfl⟩
theorem eX12_wrongAt_5 : zD cX12_wrongAt 5 (.aload_n 0) 1 6 := ⟨by decide +kernel, rfl⟩
theorem eX12_wrongAt_6 : zD cX12_wrongAt 6 (.getfield 25) 3 9 := ⟨by decide +kernel, rfl⟩
theorem eX12_wrongAt_9 : zD cX12_wrongAt 9 (.iload_n 1) 1 10 := ⟨by decide +kernel, rfl⟩
theorem eX12_wrongAt_10 : zD cX12_wrongAt 10 (.iaload) 1 11 := ⟨by decide +kernel, rfl⟩
theorem eX12_wrongAt_11 : zD cX12_wrongAt 11 (.if_icmp .ge 76) 3 14 := ⟨by decide +kernel, rfl⟩
theorem eX12_wrongAt_14 : zD cX12_wrongAt 14 (.aload_n 0) 1 15 := ⟨by decide +kernel, rfl⟩
theorem eX12_wrongAt_15 : zD cX12_wrongAt 15 (.getfield 28) 3 18 := ⟨by decide +kernel, rfl⟩
theorem eX12_wrongAt_18 : zD cX12_wrongAt 18 (.bipush 100) 2 20 := ⟨by decide +kernel, rfl⟩
theorem eX12_wrongAt_20 : zD cX12_wrongAt 20 (.iload_n 1) 1 21 := ⟨by decide +kernel, rfl⟩
theorem eX12_wrongAt_21 : zD cX12_wrongAt 21 (.imul) 1 22 := ⟨by decide +kernel, rfl⟩
theorem eX12_wrongAt_22 : zD cX12_wrongAt 22 (.iload_n 3) 1 23 := ⟨by decide +kernel, rfl⟩
theorem eX12_wrongAt_23 : zD cX12_wrongAt 23 (.iadd) 1 24 := ⟨by decide +kernel, rfl⟩
theorem eX12_wrongAt_24 : zD cX12_wrongAt 24 (.iaload) 1 25 := ⟨by decide +kernel, rfl⟩
theorem eX12_wrongAt_25 : zD cX12_wrongAt 25 (.istore 4) 2 27 := ⟨by decide +kernel, rfl⟩
theorem eX12_wrongAt_27 : zD cX12_wrongAt 27 (.aload_n 0) 1 28 := ⟨by decide +kernel, rfl⟩
theorem eX12_wrongAt_28 : zD cX12_wrongAt 28 (.iload 4) 2 30 := ⟨by decide +kernel, rfl⟩
theorem eX12_wrongAt_30 : zD cX12_wrongAt 30 (.invokevirtual 126) 3 33 := ⟨by decide +kernel, rfl⟩
theorem eX12_wrongAt_33 : zD cX12_wrongAt 33 (.ifCond .eq 39) 3 36 := ⟨by decide +kernel, rfl⟩
theorem eX12_wrongAt_36 : zD cX12_wrongAt 36 (.iload_n 2) 1 37 := ⟨by decide +kernel, rfl⟩
theorem eX12_wrongAt_37 : zD cX12_wrongAt 37 (.iload 4) 2 39 := ⟨by decide +kernel, rfl⟩
theorem eX12_wrongAt_39 : zD cX12_wrongAt 39 (.ishr) 1 40 := ⟨by decide +kernel, rfl⟩
theorem eX12_wrongAt_40 : zD cX12_wrongAt 40 (.iconst 1) 1 41 := ⟨by decide +kernel, rfl⟩
theorem eX12_wrongAt_41 : zD cX12_wrongAt 41 (.iand) 1 42 := ⟨by decide +kernel, rfl⟩
theorem eX12_wrongAt_42 : zD cX12_wrongAt 42 (.iconst 1) 1 43 := ⟨by decide +kernel, rfl⟩
theorem eX12_wrongAt_43 : zD cX12_wrongAt 43 (.if_icmp .eq 29) 3 46 := ⟨by decide +kernel, rfl⟩
theorem eX12_wrongAt_46 : zD cX12_wrongAt 46 (.iload_n 3) 1 47 := ⟨by decide +kernel, rfl⟩
theorem eX12_wrongAt_47 : zD cX12_wrongAt 47 (.ifCond .le 27) 3 50 := ⟨by decide +kernel, rfl⟩
theorem eX12_wrongAt_50 : zD cX12_wrongAt 50 (.aload_n 0) 1 51 := ⟨by decide +kernel, rfl⟩
theorem eX12_wrongAt_51 : zD cX12_wrongAt 51 (.iload 4) 2 53 := ⟨by decide +kernel, rfl⟩
theorem eX12_wrongAt_53 : zD cX12_wrongAt 53 (.aload_n 0) 1 54 := ⟨by decide +kernel, rfl⟩
theorem eX12_wrongAt_54 : zD cX12_wrongAt 54 (.getfield 28) 3 57 := ⟨by decide +kernel, rfl⟩
theorem eX12_wrongAt_57 : zD cX12_wrongAt 57 (.bipush 100) 2 59 := ⟨by decide +kernel, rfl⟩
theorem eX12_wrongAt_59 : zD cX12_wrongAt 59 (.iload_n 1) 1 60 := ⟨by decide +kernel, rfl⟩
theorem eX12_wrongAt_60 : zD cX12_wrongAt 60 (.imul) 1 61 := ⟨by decide +kernel, rfl⟩
theorem eX12_wrongAt_61 : zD cX12_wrongAt 61 (.iload_n 3) 1 62 := ⟨by decide +kernel, rfl⟩
theorem eX12_wrongAt_62 : zD cX12_wrongAt 62 (.iadd) 1 63 := ⟨by decide +kernel, rfl⟩
theorem eX12_wrongAt_63 : zD cX12_wrongAt 63 (.iconst 1) 1 64 := ⟨by decide +kernel, rfl⟩
theorem eX12_wrongAt_64 : zD cX12_wrongAt 64 (.isub) 1 65 := ⟨by decide +kernel, rfl⟩
theorem eX12_wrongAt_65 : zD cX12_wrongAt 65 (.iaload) 1 66 := ⟨by decide +kernel, rfl⟩
theorem eX12_wrongAt_66 : zD cX12_wrongAt 66 (.invokevirtual 162) 3 69 := ⟨by decide +kernel, rfl⟩
theorem eX12_wrongAt_69 : zD cX12_wrongAt 69 (.ifCond .ne 5) 3 72 := ⟨by decide +kernel, rfl⟩
theorem eX12_wrongAt_72 : zD cX12_wrongAt 72 (.iload_n 3) 1 73 := ⟨by decide +kernel, rfl⟩
theorem eX12_wrongAt_73 : zD cX12_wrongAt 73 (.ireturn) 1 74 := ⟨by decide +kernel, rfl⟩
theorem eX12_wrongAt_74 : zD cX12_wrongAt 74 (.iload_n 2) 1 75 := ⟨by decide +kernel, rfl⟩
theorem eX12_wrongAt_75 : zD cX12_wrongAt 75 (.iconst 1) 1 76 := ⟨by decide +kernel, rfl⟩
theorem eX12_wrongAt_76 : zD cX12_wrongAt 76 (.iload 4) 2 78 := ⟨by decide +kernel, rfl⟩
theorem eX12_wrongAt_78 : zD cX12_wrongAt 78 (.ishl) 1 79 := ⟨by decide +kernel, rfl⟩
theorem eX12_wrongAt_79 : zD cX12_wrongAt 79 (.ior) 1 80 := ⟨by decide +kernel, rfl⟩
theorem eX12_wrongAt_80 : zD cX12_wrongAt 80 (.istore_n 2) 1 81 := ⟨by decide +kernel, rfl⟩
theorem eX12_wrongAt_81 : zD cX12_wrongAt 81 (.iinc 3 1) 3 84 := ⟨by decide +kernel, rfl⟩
theorem eX12_wrongAt_84 : zD cX12_wrongAt 84 (.goto (-80)) 3 87 := ⟨by decide +kernel, rfl⟩
theorem eX12_wrongAt_87 : zD cX12_wrongAt 87 (.bipush (-4)) 2 89 := ⟨by decide +kernel, rfl⟩
theorem eX12_wrongAt_89 : zD cX12_wrongAt 89 (.ireturn) 1 90 := ⟨by decide +kernel, rfl⟩
theorem eX12_out_0 : zD cX12_out 0 (.iload_n 1) 1 1 := ⟨by decide +kernel, rfl⟩
theorem eX12_out_1 : zD cX12_out 1 (.invokestatic 129) 3 4 := ⟨by decide +kernel, rfl⟩
theorem eX12_out_4 : zD cX12_out 4 (.ifCond .eq 15) 3 7 := ⟨by decide +kernel, rfl⟩
theorem eX12_out_7 : zD cX12_out 7 (.iload_n 2) 1 8 := ⟨by decide +kernel, rfl⟩
theorem eX12_out_8 : zD cX12_out 8 (.i2l) 1 9 := ⟨by decide +kernel, rfl⟩
theorem eX12_out_9 : zD cX12_out 9 (.lconst 0) 1 10 := ⟨by decide +kernel, rfl⟩
theorem eX12_out_10 : zD cX12_out 10 (.ldc2_w 160) 3 13 := ⟨by decide +kernel, rfl⟩
theorem eX12_out_13 : zD cX12_out 13 (.invokestatic 55) 3 16 := ⟨by decide +kernel, rfl⟩
theorem eX12_out_16 : zD cX12_out 16 (.ifCond .ne 5) 3 19 := ⟨by decide +kernel, rfl⟩
theorem eX12_out_19 : zD cX12_out 19 (.iconst (-1)) 1 20 := ⟨by decide +kernel, rfl⟩
theorem eX12_out_20 : zD cX12_out 20 (.ireturn) 1 21 := ⟨by decide +kernel, rfl⟩
theorem eX12_out_21 : zD cX12_out 21 (.aload_n 0) 1 22 := ⟨by decide +kernel, rfl⟩
theorem eX12_out_22 : zD cX12_out 22 (.iload_n 1) 1 23 := ⟨by decide +kernel, rfl⟩
theorem eX12_out_23 : zD cX12_out 23 (.invokevirtual 205) 3 26 := ⟨by decide +kernel, rfl⟩
theorem eX12_out_26 : zD cX12_out 26 (.istore_n 3) 1 27 := ⟨by decide +kernel, rfl⟩
theorem eX12_out_27 : zD cX12_out 27 (.iload_n 3) 1 28 := ⟨by decide +kernel, rfl⟩
theorem eX12_out_28 : zD cX12_out 28 (.ifCond .eq 5) 3 31 := ⟨by decide +kernel, rfl⟩
theorem eX12_out_31 : zD cX12_out 31 (.iload_n 3) 1 32 := ⟨by decide +kernel, rfl⟩
theorem eX12_out_32 : zD cX12_out 32 (.ireturn) 1 33 := ⟨by decide +kernel, rfl⟩
theorem eX12_out_33 : zD cX12_out 33 (.iconst 0) 1 34 := ⟨by decide +kernel, rfl⟩
theorem eX12_out_34 : zD cX12_out 34 (.istore 4) 2 36 := ⟨by decide +kernel, rfl⟩
theorem eX12_out_36 : zD cX12_out 36 (.aload_n 0) 1 37 := ⟨by decide +kernel, rfl⟩
theorem eX12_out_37 : zD cX12_out 37 (.getfield 25) 3 40 := ⟨by decide +kernel, rfl⟩
theorem eX12_out_40 : zD cX12_out 40 (.iload_n 1) 1 41 := ⟨by decide +kernel, rfl⟩
theorem eX12_out_41 : zD cX12_out 41 (.iaload) 1 42 := ⟨by decide +kernel, rfl⟩
theorem eX12_out_42 : zD cX12_out 42 (.iconst 1) 1 43 := ⟨by decide +kernel, rfl⟩
theorem eX12_out_43 : zD cX12_out 43 (.isub) 1 44 := ⟨by decide +kernel, rfl⟩
theorem eX12_out_44 : zD cX12_out 44 (.istore 5) 2 46 := ⟨by decide +kernel, rfl⟩
theorem eX12_out_46 : zD cX12_out 46 (.iload 5) 2 48 := ⟨by decide +kernel, rfl⟩
theorem eX12_out_48 : zD cX12_out 48 (.ifCond .le 49) 3 51 := ⟨by decide +kernel, rfl⟩
theorem eX12_out_51 : zD cX12_out 51 (.aload_n 0) 1 52 := ⟨by decide +kernel, rfl⟩
theorem eX12_out_52 : zD cX12_out 52 (.aload_n 0) 1 53 := ⟨by decide +kernel, rfl⟩
theorem eX12_out_53 : zD cX12_out 53 (.getfield 28) 3 56 := ⟨by decide +kernel, rfl⟩
theorem eX12_out_56 : zD cX12_out 56 (.bipush 100) 2 58 := ⟨by decide +kernel, rfl⟩
theorem eX12_out_58 : zD cX12_out 58 (.iload_n 1) 1 59 := ⟨by decide +kernel, rfl⟩
theorem eX12_out_59 : zD cX12_out 59 (.imul) 1 60 := ⟨by decide +kernel, rfl⟩
theorem eX12_out_60 : zD cX12_out 60 (.iload 5) 2 62 := ⟨by decide +kernel, rfl⟩
theorem eX12_out_62 : zD cX12_out 62 (.iadd) 1 63 := ⟨by decide +kernel, rfl⟩
theorem eX12_out_63 : zD cX12_out 63 (.iaload) 1 64 := ⟨by decide +kernel, rfl⟩
theorem eX12_out_64 : zD cX12_out 64 (.aload_n 0) 1 65 := ⟨by decide +kernel, rfl⟩
theorem eX12_out_65 : zD cX12_out 65 (.getfield 28) 3 68 := ⟨by decide +kernel, rfl⟩
theorem eX12_out_68 : zD cX12_out 68 (.bipush 100) 2 70 := ⟨by decide +kernel, rfl⟩
theorem eX12_out_70 : zD cX12_out 70 (.iload_n 1) 1 71 := ⟨by decide +kernel, rfl⟩
theorem eX12_out_71 : zD cX12_out 71 (.imul) 1 72 := ⟨by decide +kernel, rfl⟩
theorem eX12_out_72 : zD cX12_out 72 (.iload 5) 2 74 := ⟨by decide +kernel, rfl⟩
theorem eX12_out_74 : zD cX12_out 74 (.iadd) 1 75 := ⟨by decide +kernel, rfl⟩
theorem eX12_out_75 : zD cX12_out 75 (.iconst 1) 1 76 := ⟨by decide +kernel, rfl⟩
theorem eX12_out_76 : zD cX12_out 76 (.isub) 1 77 := ⟨by decide +kernel, rfl⟩
theorem eX12_out_77 : zD cX12_out 77 (.iaload) 1 78 := ⟨by decide +kernel, rfl⟩
theorem eX12_out_78 : zD cX12_out 78 (.iload_n 2) 1 79 := ⟨by decide +kernel, rfl⟩
theorem eX12_out_79 : zD cX12_out 79 (.invokevirtual 89) 3 82 := ⟨by decide +kernel, rfl⟩
theorem eX12_out_82 : zD cX12_out 82 (.ifCond .ne 6) 3 85 := ⟨by decide +kernel, rfl⟩
theorem eX12_out_85 : zD cX12_out 85 (.iload 4) 2 87 := ⟨by decide +kernel, rfl⟩
theorem eX12_out_87 : zD cX12_out 87 (.ireturn) 1 88 := ⟨by decide +kernel, rfl⟩
theorem eX12_out_88 : zD cX12_out 88 (.iinc 4 1) 3 91 := ⟨by decide +kernel, rfl⟩
theorem eX12_out_91 : zD cX12_out 91 (.iinc 5 (-1)) 3 94 := ⟨by decide +kernel, rfl⟩
theorem eX12_out_94 : zD cX12_out 94 (.goto (-48)) 3 97 := ⟨by decide +kernel, rfl⟩
theorem eX12_out_97 : zD cX12_out 97 (.iload 4) 2 99 := ⟨by decide +kernel, rfl⟩
theorem eX12_out_99 : zD cX12_out 99 (.iconst 1) 1 100 := ⟨by decide +kernel, rfl⟩
theorem eX12_out_100 : zD cX12_out 100 (.iadd) 1 101 := ⟨by decide +kernel, rfl⟩
theorem eX12_out_101 : zD cX12_out 101 (.ireturn) 1 102 := ⟨by decide +kernel, rfl⟩
theorem eX12_judge_0 : zD cX12_judge 0 (.aload_n 0) 1 1 := ⟨by decide +kernel, rfl⟩
theorem eX12_judge_1 : zD cX12_judge 1 (.iload_n 1) 1 2 := ⟨by decide +kernel, rfl⟩
theorem eX12_judge_2 : zD cX12_judge 2 (.iconst (-1)) 1 3 := ⟨by decide +kernel, rfl⟩
theorem eX12_judge_3 : zD cX12_judge 3 (.invokevirtual 132) 3 6 := ⟨by decide +kernel, rfl⟩
theorem eX12_judge_6 : zD cX12_judge 6 (.istore_n 2) 1 7 := ⟨by decide +kernel, rfl⟩
theorem eX12_judge_7 : zD cX12_judge 7 (.iload_n 2) 1 8 := ⟨by decide +kernel, rfl⟩
theorem eX12_judge_8 : zD cX12_judge 8 (.ifCond .eq 7) 3 11 := ⟨by decide +kernel, rfl⟩
theorem eX12_judge_11 : zD cX12_judge 11 (.iload_n 2) 1 12 := ⟨by decide +kernel, rfl⟩
theorem eX12_judge_12 : zD cX12_judge 12 (.goto 8) 3 15 := ⟨by decide +kernel, rfl⟩
theorem eX12_judge_15 : zD cX12_judge 15 (.aload_n 0) 1 16 := ⟨by decide +kernel, rfl⟩
theorem eX12_judge_16 : zD cX12_judge 16 (.iload_n 1) 1 17 := ⟨by decide +kernel, rfl⟩
theorem eX12_judge_17 : zD cX12_judge 17 (.invokevirtual 202) 3 20 := ⟨by decide +kernel, rfl⟩
theorem eX12_judge_20 : zD cX12_judge 20 (.ireturn) 1 21 := ⟨by decide +kernel, rfl⟩
theorem eX12_narrow_0 : zD cX12_narrow 0 (.iload_n 0) 1 1 := ⟨by decide +kernel, rfl⟩
theorem eX12_narrow_1 : zD cX12_narrow 1 (.iload_n 1) 1 2 := ⟨by decide +kernel, rfl⟩
theorem eX12_narrow_2 : zD cX12_narrow 2 (.isub) 1 3 := ⟨by decide +kernel, rfl⟩
theorem eX12_narrow_3 : zD cX12_narrow 3 (.iconst 1) 1 4 := ⟨by decide +kernel, rfl⟩
theorem eX12_narrow_4 : zD cX12_narrow 4 (.if_icmp .ge 7) 3 7 := ⟨by decide +kernel, rfl⟩
theorem eX12_narrow_7 : zD cX12_narrow 7 (.iconst 1) 1 8 := ⟨by decide +kernel, rfl⟩
theorem eX12_narrow_8 : zD cX12_narrow 8 (.goto 6) 3 11 := ⟨by decide +kernel, rfl⟩
theorem eX12_narrow_11 : zD cX12_narrow 11 (.iload_n 0) 1 12 := ⟨by decide +kernel, rfl⟩
theorem eX12_narrow_12 : zD cX12_narrow 12 (.iload_n 1) 1 13 := ⟨by decide +kernel, rfl⟩
theorem eX12_narrow_13 : zD cX12_narrow 13 (.isub) 1 14 := ⟨by decide +kernel, rfl⟩
theorem eX12_narrow_14 : zD cX12_narrow 14 (.ireturn) 1 15 := ⟨by decide +kernel, rfl⟩
theorem eX12_spanOf_0 : zD cX12_spanOf 0 (.aload_n 0) 1 1 := ⟨by decide +kernel, rfl⟩
theorem eX12_spanOf_1 : zD cX12_spanOf 1 (.iload_n 1) 1 2 := ⟨by decide +kernel, rfl⟩
theorem eX12_spanOf_2 : zD cX12_spanOf 2 (.iconst 3) 1 3 := ⟨by decide +kernel, rfl⟩
theorem eX12_spanOf_3 : zD cX12_spanOf 3 (.invokevirtual 63) 3 6 := ⟨by decide +kernel, rfl⟩
theorem eX12_spanOf_6 : zD cX12_spanOf 6 (.istore 5) 2 8 := ⟨by decide +kernel, rfl⟩
theorem eX12_spanOf_8 : zD cX12_spanOf 8 (.aload_n 0) 1 9 := ⟨by decide +kernel, rfl⟩
theorem eX12_spanOf_9 : zD cX12_spanOf 9 (.iload_n 2) 1 10 := ⟨by decide +kernel, rfl⟩
theorem eX12_spanOf_10 : zD cX12_spanOf 10 (.iconst 3) 1 11 := ⟨by decide +kernel, rfl⟩
theorem eX12_spanOf_11 : zD cX12_spanOf 11 (.invokevirtual 63) 3 14 := ⟨by decide +kernel, rfl⟩
theorem eX12_spanOf_14 : zD cX12_spanOf 14 (.istore 6) 2 16 := ⟨by decide +kernel, rfl⟩
theorem eX12_spanOf_16 : zD cX12_spanOf 16 (.aload_n 0) 1 17 := ⟨by decide +kernel, rfl⟩
theorem eX12_spanOf_17 : zD cX12_spanOf 17 (.iload_n 1) 1 18 := ⟨by decide +kernel, rfl⟩
theorem eX12_spanOf_18 : zD cX12_spanOf 18 (.iload_n 2) 1 19 := ⟨by decide +kernel, rfl⟩
theorem eX12_spanOf_19 : zD cX12_spanOf 19 (.invokevirtual 85) 3 22 := ⟨by decide +kernel, rfl⟩
theorem eX12_spanOf_22 : zD cX12_spanOf 22 (.ifCond .ne 5) 3 25 := ⟨by decide +kernel, rfl⟩
theorem eX12_spanOf_25 : zD cX12_spanOf 25 (.iconst 0) 1 26 := ⟨by decide +kernel, rfl⟩
theorem eX12_spanOf_26 : zD cX12_spanOf 26 (.ireturn) 1 27 := ⟨by decide +kernel, rfl⟩
theorem eX12_spanOf_27 : zD cX12_spanOf 27 (.aload_n 0) 1 28 := ⟨by decide +kernel, rfl⟩
theorem eX12_spanOf_28 : zD cX12_spanOf 28 (.iload_n 1) 1 29 := ⟨by decide +kernel, rfl⟩
theorem eX12_spanOf_29 : zD cX12_spanOf 29 (.iload 5) 2 31 := ⟨by decide +kernel, rfl⟩
theorem eX12_spanOf_31 : zD cX12_spanOf 31 (.iload_n 3) 1 32 := ⟨by decide +kernel, rfl⟩
theorem eX12_spanOf_32 : zD cX12_spanOf 32 (.iadd) 1 33 := ⟨by decide +kernel, rfl⟩
theorem eX12_spanOf_33 : zD cX12_spanOf 33 (.invokevirtual 71) 3 36 := ⟨by decide +kernel, rfl⟩
theorem eX12_spanOf_36 : zD cX12_spanOf 36 (.aload_n 0) 1 37 := ⟨by decide +kernel, rfl⟩
theorem eX12_spanOf_37 : zD cX12_spanOf 37 (.iload_n 2) 1 38 := ⟨by decide +kernel, rfl⟩
theorem eX12_spanOf_38 : zD cX12_spanOf 38 (.iload 6) 2 40 := ⟨by decide +kernel, rfl⟩
theorem eX12_spanOf_40 : zD cX12_spanOf 40 (.iload 4) 2 42 := ⟨by decide +kernel, rfl⟩
theorem eX12_spanOf_42 : zD cX12_spanOf 42 (.invokestatic 208) 3 45 := ⟨by decide +kernel, rfl⟩
theorem eX12_spanOf_45 : zD cX12_spanOf 45 (.aload_n 0) 1 46 := ⟨by decide +kernel, rfl⟩
theorem eX12_spanOf_46 : zD cX12_spanOf 46 (.getfield 9) 3 49 := ⟨by decide +kernel, rfl⟩
theorem eX12_spanOf_49 : zD cX12_spanOf 49 (.iconst 1) 1 50 := ⟨by decide +kernel, rfl⟩
theorem eX12_spanOf_50 : zD cX12_spanOf 50 (.iaload) 1 51 := ⟨by decide +kernel, rfl⟩
theorem eX12_spanOf_51 : zD cX12_spanOf 51 (.invokevirtual 74) 3 54 := ⟨by decide +kernel, rfl⟩
theorem eX12_spanOf_54 : zD cX12_spanOf 54 (.if_icmp .gt 5) 3 57 := ⟨by decide +kernel, rfl⟩
theorem eX12_spanOf_57 : zD cX12_spanOf 57 (.iconst 2) 1 58 := ⟨by decide +kernel, rfl⟩
theorem eX12_spanOf_58 : zD cX12_spanOf 58 (.ireturn) 1 59 := ⟨by decide +kernel, rfl⟩
theorem eX12_spanOf_59 : zD cX12_spanOf 59 (.aload_n 0) 1 60 := ⟨by decide +kernel, rfl⟩
theorem eX12_spanOf_60 : zD cX12_spanOf 60 (.iload_n 1) 1 61 := ⟨by decide +kernel, rfl⟩
theorem eX12_spanOf_61 : zD cX12_spanOf 61 (.iload 5) 2 63 := ⟨by decide +kernel, rfl⟩
theorem eX12_spanOf_63 : zD cX12_spanOf 63 (.iload_n 3) 1 64 := ⟨by decide +kernel, rfl⟩
theorem eX12_spanOf_64 : zD cX12_spanOf 64 (.invokestatic 208) 3 67 := ⟨by decide +kernel, rfl⟩
theorem eX12_spanOf_67 : zD cX12_spanOf 67 (.invokevirtual 71) 3 70 := ⟨by decide +kernel, rfl⟩
theorem eX12_spanOf_70 : zD cX12_spanOf 70 (.aload_n 0) 1 71 := ⟨by decide +kernel, rfl⟩
theorem eX12_spanOf_71 : zD cX12_spanOf 71 (.iload_n 2) 1 72 := ⟨by decide +kernel, rfl⟩
theorem eX12_spanOf_72 : zD cX12_spanOf 72 (.iload 6) 2 74 := ⟨by decide +kernel, rfl⟩
theorem eX12_spanOf_74 : zD cX12_spanOf 74 (.iload 4) 2 76 := ⟨by decide +kernel, rfl⟩
theorem eX12_spanOf_76 : zD cX12_spanOf 76 (.iadd) 1 77 := ⟨by decide +kernel, rfl⟩
theorem eX12_spanOf_77 : zD cX12_spanOf 77 (.aload_n 0) 1 78 := ⟨by decide +kernel, rfl⟩
theorem eX12_spanOf_78 : zD cX12_spanOf 78 (.getfield 9) 3 81 := ⟨by decide +kernel, rfl⟩
theorem eX12_spanOf_81 : zD cX12_spanOf 81 (.iconst 1) 1 82 := ⟨by decide +kernel, rfl⟩
theorem eX12_spanOf_82 : zD cX12_spanOf 82 (.iaload) 1 83 := ⟨by decide +kernel, rfl⟩
theorem eX12_spanOf_83 : zD cX12_spanOf 83 (.invokevirtual 74) 3 86 := ⟨by decide +kernel, rfl⟩
theorem eX12_spanOf_86 : zD cX12_spanOf 86 (.if_icmp .gt 7) 3 89 := ⟨by decide +kernel, rfl⟩
theorem eX12_spanOf_89 : zD cX12_spanOf 89 (.iconst 1) 1 90 := ⟨by decide +kernel, rfl⟩
theorem eX12_spanOf_90 : zD cX12_spanOf 90 (.goto 4) 3 93 := ⟨by decide +kernel, rfl⟩
theorem eX12_spanOf_93 : zD cX12_spanOf 93 (.iconst 0) 1 94 := ⟨by decide +kernel, rfl⟩
theorem eX12_spanOf_94 : zD cX12_spanOf 94 (.ireturn) 1 95 := ⟨by decide +kernel, rfl⟩
theorem eX12_spans_0 : zD cX12_spans 0 (.aload_n 0) 1 1 := ⟨by decide +kernel, rfl⟩
theorem eX12_spans_1 : zD cX12_spans 1 (.iload_n 1) 1 2 := ⟨by decide +kernel, rfl⟩
theorem eX12_spans_2 : zD cX12_spans 2 (.invokevirtual 126) 3 5 := ⟨by decide +kernel, rfl⟩
theorem eX12_spans_5 : zD cX12_spans 5 (.ifCond .eq 28) 3 8 := ⟨by decide +kernel, rfl⟩
theorem eX12_spans_8 : zD cX12_spans 8 (.aload_n 0) 1 9 := ⟨by decide +kernel, rfl⟩
theorem eX12_spans_9 : zD cX12_spans 9 (.iload_n 2) 1 10 := ⟨by decide +kernel, rfl⟩
theorem eX12_spans_10 : zD cX12_spans 10 (.invokevirtual 126) 3 13 := ⟨by decide +kernel, rfl⟩
theorem eX12_spans_13 : zD cX12_spans 13 (.ifCond .eq 20) 3 16 := ⟨by decide +kernel, rfl⟩
theorem eX12_spans_16 : zD cX12_spans 16 (.iload_n 1) 1 17 := ⟨by decide +kernel, rfl⟩
theorem eX12_spans_17 : zD cX12_spans 17 (.iload_n 2) 1 18 := ⟨by decide +kernel, rfl⟩
theorem eX12_spans_18 : zD cX12_spans 18 (.if_icmp .eq 15) 3 21 := ⟨by decide +kernel, rfl⟩
theorem eX12_spans_21 : zD cX12_spans 21 (.iload_n 3) 1 22 := ⟨by decide +kernel, rfl⟩
theorem eX12_spans_22 : zD cX12_spans 22 (.i2l) 1 23 := ⟨by decide +kernel, rfl⟩
theorem eX12_spans_23 : zD cX12_spans 23 (.lconst 0) 1 24 := ⟨by decide +kernel, rfl⟩
theorem eX12_spans_24 : zD cX12_spans 24 (.ldc2_w 160) 3 27 := ⟨by decide +kernel, rfl⟩
theorem eX12_spans_27 : zD cX12_spans 27 (.invokestatic 55) 3 30 := ⟨by decide +kernel, rfl⟩
theorem eX12_spans_30 : zD cX12_spans 30 (.ifCond .ne 7) 3 33 := ⟨by decide +kernel, rfl⟩
theorem eX12_spans_33 : zD cX12_spans 33 (.iconst (-1)) 1 34 := ⟨by decide +kernel, rfl⟩
theorem eX12_spans_34 : zD cX12_spans 34 (.goto 11) 3 37 := ⟨by decide +kernel, rfl⟩
theorem eX12_spans_37 : zD cX12_spans 37 (.aload_n 0) 1 38 := ⟨by decide +kernel, rfl⟩
theorem eX12_spans_38 : zD cX12_spans 38 (.iload_n 1) 1 39 := ⟨by decide +kernel, rfl⟩
theorem eX12_spans_39 : zD cX12_spans 39 (.iload_n 2) 1 40 := ⟨by decide +kernel, rfl⟩
theorem eX12_spans_40 : zD cX12_spans 40 (.iload_n 3) 1 41 := ⟨by decide +kernel, rfl⟩
theorem eX12_spans_41 : zD cX12_spans 41 (.iload_n 3) 1 42 := ⟨by decide +kernel, rfl⟩
theorem eX12_spans_42 : zD cX12_spans 42 (.invokevirtual 211) 3 45 := ⟨by decide +kernel, rfl⟩
theorem eX12_spans_45 : zD cX12_spans 45 (.ireturn) 1 46 := ⟨by decide +kernel, rfl⟩
theorem eX12_perhaps_0 : zD cX12_perhaps 0 (.iconst 0) 1 1 := ⟨by decide +kernel, rfl⟩
theorem eX12_perhaps_1 : zD cX12_perhaps 1 (.istore_n 3) 1 2 := ⟨by decide +kernel, rfl⟩
theorem eX12_perhaps_2 : zD cX12_perhaps 2 (.iconst 0) 1 3 := ⟨by decide +kernel, rfl⟩
theorem eX12_perhaps_3 : zD cX12_perhaps 3 (.istore 4) 2 5 := ⟨by decide +kernel, rfl⟩
theorem eX12_perhaps_5 : zD cX12_perhaps 5 (.iload 4) 2 7 := ⟨by decide +kernel, rfl⟩
theorem eX12_perhaps_7 : zD cX12_perhaps 7 (.aload_n 0) 1 8 := ⟨by decide +kernel, rfl⟩
theorem eX12_perhaps_8 : zD cX12_perhaps 8 (.getfield 9) 3 11 := ⟨by decide +kernel, rfl⟩
theorem eX12_perhaps_11 : zD cX12_perhaps 11 (.iconst 0) 1 12 := ⟨by decide +kernel, rfl⟩
theorem eX12_perhaps_12 : zD cX12_perhaps 12 (.iaload) 1 13 := ⟨by decide +kernel, rfl⟩
theorem eX12_perhaps_13 : zD cX12_perhaps 13 (.if_icmp .ge 78) 3 16 := ⟨by decide +kernel, rfl⟩
theorem eX12_perhaps_16 : zD cX12_perhaps 16 (.iconst 0) 1 17 := ⟨by decide +kernel, rfl⟩
theorem eX12_perhaps_17 : zD cX12_perhaps 17 (.istore 5) 2 19 := ⟨by decide +kernel, rfl⟩
theorem eX12_perhaps_19 : zD cX12_perhaps 19 (.iload 5) 2 21 := ⟨by decide +kernel, rfl⟩
theorem eX12_perhaps_21 : zD cX12_perhaps 21 (.aload_n 0) 1 22 := ⟨by decide +kernel, rfl⟩
theorem eX12_perhaps_22 : zD cX12_perhaps 22 (.getfield 9) 3 25 := ⟨by decide +kernel, rfl⟩
theorem eX12_perhaps_25 : zD cX12_perhaps 25 (.iconst 0) 1 26 := ⟨by decide +kernel, rfl⟩
theorem eX12_perhaps_26 : zD cX12_perhaps 26 (.iaload) 1 27 := ⟨by decide +kernel, rfl⟩
theorem eX12_perhaps_27 : zD cX12_perhaps 27 (.if_icmp .ge 58) 3 30 := ⟨by decide +kernel, rfl⟩
theorem eX12_perhaps_30 : zD cX12_perhaps 30 (.iload_n 3) 1 31 := ⟨by decide +kernel, rfl⟩
theorem eX12_perhaps_31 : zD cX12_perhaps 31 (.iload 4) 2 33 := ⟨by decide +kernel, rfl⟩
theorem eX12_perhaps_33 : zD cX12_perhaps 33 (.iload 5) 2 35 := ⟨by decide +kernel, rfl⟩
theorem eX12_perhaps_35 : zD cX12_perhaps 35 (.if_icmp .eq 41) 3 38 := ⟨by decide +kernel, rfl⟩
theorem eX12_perhaps_38 : zD cX12_perhaps 38 (.aload_n 0) 1 39 := ⟨by decide +kernel, rfl⟩
theorem eX12_perhaps_39 : zD cX12_perhaps 39 (.iload 4) 2 41 := ⟨by decide +kernel, rfl⟩
theorem eX12_perhaps_41 : zD cX12_perhaps 41 (.iload 5) 2 43 := ⟨by decide +kernel, rfl⟩
theorem eX12_perhaps_43 : zD cX12_perhaps 43 (.iload 4) 2 45 := ⟨by decide +kernel, rfl⟩
theorem eX12_perhaps_45 : zD cX12_perhaps 45 (.iload_n 2) 1 46 := ⟨by decide +kernel, rfl⟩
theorem eX12_perhaps_46 : zD cX12_perhaps 46 (.if_icmp .ne 7) 3 49 := ⟨by decide +kernel, rfl⟩
theorem eX12_perhaps_49 : zD cX12_perhaps 49 (.iconst 0) 1 50 := ⟨by decide +kernel, rfl⟩
theorem eX12_perhaps_50 : zD cX12_perhaps 50 (.goto 4) 3 53 := ⟨by decide +kernel, rfl⟩
theorem eX12_perhaps_53 : zD cX12_perhaps 53 (.iload_n 1) 1 54 := ⟨by decide +kernel, rfl⟩
theorem eX12_perhaps_54 : zD cX12_perhaps 54 (.iload 5) 2 56 := ⟨by decide +kernel, rfl⟩
theorem eX12_perhaps_56 : zD cX12_perhaps 56 (.iload_n 2) 1 57 := ⟨by decide +kernel, rfl⟩
theorem eX12_perhaps_57 : zD cX12_perhaps 57 (.if_icmp .ne 7) 3 60 := ⟨by decide +kernel, rfl⟩
theorem eX12_perhaps_60 : zD cX12_perhaps 60 (.iconst 0) 1 61 := ⟨by decide +kernel, rfl⟩
theorem eX12_perhaps_61 : zD cX12_perhaps 61 (.goto 4) 3 64 := ⟨by decide +kernel, rfl⟩
theorem eX12_perhaps_64 : zD cX12_perhaps 64 (.iload_n 1) 1 65 := ⟨by decide +kernel, rfl⟩
theorem eX12_perhaps_65 : zD cX12_perhaps 65 (.invokevirtual 211) 3 68 := ⟨by decide +kernel, rfl⟩
theorem eX12_perhaps_68 : zD cX12_perhaps 68 (.iconst 1) 1 69 := ⟨by decide +kernel, rfl⟩
theorem eX12_perhaps_69 : zD cX12_perhaps 69 (.if_icmp .ne 7) 3 72 := ⟨by decide +kernel, rfl⟩
theorem eX12_perhaps_72 : zD cX12_perhaps 72 (.iconst 1) 1 73 := ⟨by decide +kernel, rfl⟩
theorem eX12_perhaps_73 : zD cX12_perhaps 73 (.goto 4) 3 76 := ⟨by decide +kernel, rfl⟩
theorem eX12_perhaps_76 : zD cX12_perhaps 76 (.iconst 0) 1 77 := ⟨by decide +kernel, rfl⟩
theorem eX12_perhaps_77 : zD cX12_perhaps 77 (.iadd) 1 78 := ⟨by decide +kernel, rfl⟩
theorem eX12_perhaps_78 : zD cX12_perhaps 78 (.istore_n 3) 1 79 := ⟨by decide +kernel, rfl⟩
theorem eX12_perhaps_79 : zD cX12_perhaps 79 (.iinc 5 1) 3 82 := ⟨by decide +kernel, rfl⟩
theorem eX12_perhaps_82 : zD cX12_perhaps 82 (.goto (-63)) 3 85 := ⟨by decide +kernel, rfl⟩
theorem eX12_perhaps_85 : zD cX12_perhaps 85 (.iinc 4 1) 3 88 := ⟨by decide +kernel, rfl⟩
theorem eX12_perhaps_88 : zD cX12_perhaps 88 (.goto (-83)) 3 91 := ⟨by decide +kernel, rfl⟩
theorem eX12_perhaps_91 : zD cX12_perhaps 91 (.iload_n 3) 1 92 := ⟨by decide +kernel, rfl⟩
theorem eX12_perhaps_92 : zD cX12_perhaps 92 (.ireturn) 1 93 := ⟨by decide +kernel, rfl⟩
theorem eX12_next_0 : zD cX12_next 0 (.iload_n 1) 1 1 := ⟨by decide +kernel, rfl⟩
theorem eX12_next_1 : zD cX12_next 1 (.i2l) 1 2 := ⟨by decide +kernel, rfl⟩
theorem eX12_next_2 : zD cX12_next 2 (.lconst 0) 1 3 := ⟨by decide +kernel, rfl⟩
theorem eX12_next_3 : zD cX12_next 3 (.ldc2_w 160) 3 6 := ⟨by decide +kernel, rfl⟩
theorem eX12_next_6 : zD cX12_next 6 (.invokestatic 55) 3 9 := ⟨by decide +kernel, rfl⟩
theorem eX12_next_9 : zD cX12_next 9 (.ifCond .eq 13) 3 12 := ⟨by decide +kernel, rfl⟩
theorem eX12_next_12 : zD cX12_next 12 (.iload_n 2) 1 13 := ⟨by decide +kernel, rfl⟩
theorem eX12_next_13 : zD cX12_next 13 (.i2l) 1 14 := ⟨by decide +kernel, rfl⟩
theorem eX12_next_14 : zD cX12_next 14 (.lconst 0) 1 15 := ⟨by decide +kernel, rfl⟩
theorem eX12_next_15 : zD cX12_next 15 (.lconst 1) 1 16 := ⟨by decide +kernel, rfl⟩
theorem eX12_next_16 : zD cX12_next 16 (.invokestatic 55) 3 19 := ⟨by decide +kernel, rfl⟩
theorem eX12_next_19 : zD cX12_next 19 (.ifCond .ne 5) 3 22 := ⟨by decide +kernel, rfl⟩
theorem eX12_next_22 : zD cX12_next 22 (.iconst (-1)) 1 23 := ⟨by decide +kernel, rfl⟩
theorem eX12_next_23 : zD cX12_next 23 (.ireturn) 1 24 := ⟨by decide +kernel, rfl⟩
theorem eX12_next_24 : zD cX12_next 24 (.bipush (-4)) 2 26 := ⟨by decide +kernel, rfl⟩
theorem eX12_next_26 : zD cX12_next 26 (.istore_n 3) 1 27 := ⟨by decide +kernel, rfl⟩
theorem eX12_next_27 : zD cX12_next 27 (.bipush (-4)) 2 29 := ⟨by decide +kernel, rfl⟩
theorem eX12_next_29 : zD cX12_next 29 (.istore 4) 2 31 := ⟨by decide +kernel, rfl⟩
theorem eX12_next_31 : zD cX12_next 31 (.iconst 0) 1 32 := ⟨by decide +kernel, rfl⟩
theorem eX12_next_32 : zD cX12_next 32 (.istore 5) 2 34 := ⟨by decide +kernel, rfl⟩
theorem eX12_next_34 : zD cX12_next 34 (.iload 5) 2 36 := ⟨by decide +kernel, rfl⟩
theorem eX12_next_36 : zD cX12_next 36 (.aload_n 0) 1 37 := ⟨by decide +kernel, rfl⟩
theorem eX12_next_37 : zD cX12_next 37 (.getfield 9) 3 40 := ⟨by decide +kernel, rfl⟩
theorem eX12_next_40 : zD cX12_next 40 (.iconst 0) 1 41 := ⟨by decide +kernel, rfl⟩
theorem eX12_next_41 : zD cX12_next 41 (.iaload) 1 42 := ⟨by decide +kernel, rfl⟩
theorem eX12_next_42 : zD cX12_next 42 (.if_icmp .ge 39) 3 45 := ⟨by decide +kernel, rfl⟩
theorem eX12_next_45 : zD cX12_next 45 (.aload_n 0) 1 46 := ⟨by decide +kernel, rfl⟩
theorem eX12_next_46 : zD cX12_next 46 (.iload_n 1) 1 47 := ⟨by decide +kernel, rfl⟩
theorem eX12_next_47 : zD cX12_next 47 (.iload 5) 2 49 := ⟨by decide +kernel, rfl⟩
theorem eX12_next_49 : zD cX12_next 49 (.invokevirtual 215) 3 52 := ⟨by decide +kernel, rfl⟩
theorem eX12_next_52 : zD cX12_next 52 (.istore 6) 2 54 := ⟨by decide +kernel, rfl⟩
theorem eX12_next_54 : zD cX12_next 54 (.iload_n 3) 1 55 := ⟨by decide +kernel, rfl⟩
theorem eX12_next_55 : zD cX12_next 55 (.ifCond .lt 13) 3 58 := ⟨by decide +kernel, rfl⟩
theorem eX12_next_58 : zD cX12_next 58 (.iload 6) 2 60 := ⟨by decide +kernel, rfl⟩
theorem eX12_next_60 : zD cX12_next 60 (.iload 4) 2 62 := ⟨by decide +kernel, rfl⟩
theorem eX12_next_62 : zD cX12_next 62 (.if_icmp .lt 6) 3 65 := ⟨by decide +kernel, rfl⟩
theorem eX12_next_65 : zD cX12_next 65 (.goto 10) 3 68 := ⟨by decide +kernel, rfl⟩
theorem eX12_next_68 : zD cX12_next 68 (.iload 5) 2 70 := ⟨by decide +kernel, rfl⟩
theorem eX12_next_70 : zD cX12_next 70 (.istore_n 3) 1 71 := ⟨by decide +kernel, rfl⟩
theorem eX12_next_71 : zD cX12_next 71 (.iload 6) 2 73 := ⟨by decide +kernel, rfl⟩
theorem eX12_next_73 : zD cX12_next 73 (.istore 4) 2 75 := ⟨by decide +kernel, rfl⟩
theorem eX12_next_75 : zD cX12_next 75 (.iinc 5 1) 3 78 := ⟨by decide +kernel, rfl⟩
theorem eX12_next_78 : zD cX12_next 78 (.goto (-44)) 3 81 := ⟨by decide +kernel, rfl⟩
theorem eX12_next_81 : zD cX12_next 81 (.iload_n 2) 1 82 := ⟨by decide +kernel, rfl⟩
theorem eX12_next_82 : zD cX12_next 82 (.ifCond .ne 7) 3 85 := ⟨by decide +kernel, rfl⟩
theorem eX12_next_85 : zD cX12_next 85 (.iload_n 3) 1 86 := ⟨by decide +kernel, rfl⟩
theorem eX12_next_86 : zD cX12_next 86 (.goto 5) 3 89 := ⟨by decide +kernel, rfl⟩
theorem eX12_next_89 : zD cX12_next 89 (.iload 4) 2 91 := ⟨by decide +kernel, rfl⟩
theorem eX12_next_91 : zD cX12_next 91 (.ireturn) 1 92 := ⟨by decide +kernel, rfl⟩
theorem eX12_from_0 : zD cX12_from 0 (.aload_n 0) 1 1 := ⟨by decide +kernel, rfl⟩
theorem eX12_from_1 : zD cX12_from 1 (.iload_n 1) 1 2 := ⟨by decide +kernel, rfl⟩
theorem eX12_from_2 : zD cX12_from 2 (.invokevirtual 168) 3 5 := ⟨by decide +kernel, rfl⟩
theorem eX12_from_5 : zD cX12_from 5 (.ifCond .eq 42) 3 8 := ⟨by decide +kernel, rfl⟩
theorem eX12_from_8 : zD cX12_from 8 (.aload_n 0) 1 9 := ⟨by decide +kernel, rfl⟩
theorem eX12_from_9 : zD cX12_from 9 (.iload_n 2) 1 10 := ⟨by decide +kernel, rfl⟩
theorem eX12_from_10 : zD cX12_from 10 (.invokevirtual 168) 3 13 := ⟨by decide +kernel, rfl⟩
theorem eX12_from_13 : zD cX12_from 13 (.ifCond .eq 34) 3 16 := ⟨by decide +kernel, rfl⟩
theorem eX12_from_16 : zD cX12_from 16 (.iload_n 1) 1 17 := ⟨by decide +kernel, rfl⟩
theorem eX12_from_17 : zD cX12_from 17 (.iload_n 2) 1 18 := ⟨by decide +kernel, rfl⟩
theorem eX12_from_18 : zD cX12_from 18 (.iand) 1 19 := ⟨by decide +kernel, rfl⟩
theorem eX12_from_19 : zD cX12_from 19 (.ifCond .ne 28) 3 22 := ⟨by decide +kernel, rfl⟩
theorem eX12_from_22 : zD cX12_from 22 (.iload_n 3) 1 23 := ⟨by decide +kernel, rfl⟩
theorem eX12_from_23 : zD cX12_from 23 (.i2l) 1 24 := ⟨by decide +kernel, rfl⟩
theorem eX12_from_24 : zD cX12_from 24 (.lconst 1) 1 25 := ⟨by decide +kernel, rfl⟩
theorem eX12_from_25 : zD cX12_from 25 (.ldc2_w 151) 3 28 := ⟨by decide +kernel, rfl⟩
theorem eX12_from_28 : zD cX12_from 28 (.invokestatic 55) 3 31 := ⟨by decide +kernel, rfl⟩
theorem eX12_from_31 : zD cX12_from 31 (.ifCond .eq 16) 3 34 := ⟨by decide +kernel, rfl⟩
theorem eX12_from_34 : zD cX12_from 34 (.iload 4) 2 36 := ⟨by decide +kernel, rfl⟩
theorem eX12_from_36 : zD cX12_from 36 (.i2l) 1 37 := ⟨by decide +kernel, rfl⟩
theorem eX12_from_37 : zD cX12_from 37 (.lconst 1) 1 38 := ⟨by decide +kernel, rfl⟩
theorem eX12_from_38 : zD cX12_from 38 (.ldc2_w 151) 3 41 := ⟨by decide +kernel, rfl⟩
theorem eX12_from_41 : zD cX12_from 41 (.invokestatic 55) 3 44 := ⟨by decide +kernel, rfl⟩
theorem eX12_from_44 : zD cX12_from 44 (.ifCond .ne 5) 3 47 := ⟨by decide +kernel, rfl⟩
theorem eX12_from_47 : zD cX12_from 47 (.iconst (-1)) 1 48 := ⟨by decide +kernel, rfl⟩
theorem eX12_from_48 : zD cX12_from 48 (.ireturn) 1 49 := ⟨by decide +kernel, rfl⟩
theorem eX12_from_49 : zD cX12_from 49 (.aload_n 0) 1 50 := ⟨by decide +kernel, rfl⟩
theorem eX12_from_50 : zD cX12_from 50 (.iconst 0) 1 51 := ⟨by decide +kernel, rfl⟩
theorem eX12_from_51 : zD cX12_from 51 (.iconst 0) 1 52 := ⟨by decide +kernel, rfl⟩
theorem eX12_from_52 : zD cX12_from 52 (.iconst 0) 1 53 := ⟨by decide +kernel, rfl⟩
theorem eX12_from_53 : zD cX12_from 53 (.iload_n 3) 1 54 := ⟨by decide +kernel, rfl⟩
theorem eX12_from_54 : zD cX12_from 54 (.iload 4) 2 56 := ⟨by decide +kernel, rfl⟩
theorem eX12_from_56 : zD cX12_from 56 (.invokevirtual 156) 3 59 := ⟨by decide +kernel, rfl⟩
theorem eX12_from_59 : zD cX12_from 59 (.iconst 1) 1 60 := ⟨by decide +kernel, rfl⟩
theorem eX12_from_60 : zD cX12_from 60 (.aload_n 0) 1 61 := ⟨by decide +kernel, rfl⟩
theorem eX12_from_61 : zD cX12_from 61 (.getfield 9) 3 64 := ⟨by decide +kernel, rfl⟩
theorem eX12_from_64 : zD cX12_from 64 (.iconst 0) 1 65 := ⟨by decide +kernel, rfl⟩
theorem eX12_from_65 : zD cX12_from 65 (.iaload) 1 66 := ⟨by decide +kernel, rfl⟩
theorem eX12_from_66 : zD cX12_from 66 (.ishl) 1 67 := ⟨by decide +kernel, rfl⟩
theorem eX12_from_67 : zD cX12_from 67 (.istore 5) 2 69 := ⟨by decide +kernel, rfl⟩
theorem eX12_from_69 : zD cX12_from 69 (.aload_n 0) 1 70 := ⟨by decide +kernel, rfl⟩
theorem eX12_from_70 : zD cX12_from 70 (.iload_n 1) 1 71 := ⟨by decide +kernel, rfl⟩
theorem eX12_from_71 : zD cX12_from 71 (.iload 5) 2 73 := ⟨by decide +kernel, rfl⟩
theorem eX12_from_73 : zD cX12_from 73 (.ior) 1 74 := ⟨by decide +kernel, rfl⟩
theorem eX12_from_74 : zD cX12_from 74 (.invokevirtual 171) 3 77 := ⟨by decide +kernel, rfl⟩
theorem eX12_from_77 : zD cX12_from 77 (.ifCond .eq 7) 3 80 := ⟨by decide +kernel, rfl⟩
theorem eX12_from_80 : zD cX12_from 80 (.iconst 1) 1 81 := ⟨by decide +kernel, rfl⟩
theorem eX12_from_81 : zD cX12_from 81 (.goto 4) 3 84 := ⟨by decide +kernel, rfl⟩
theorem eX12_from_84 : zD cX12_from 84 (.iconst 0) 1 85 := ⟨by decide +kernel, rfl⟩
theorem eX12_from_85 : zD cX12_from 85 (.aload_n 0) 1 86 := ⟨by decide +kernel, rfl⟩
theorem eX12_from_86 : zD cX12_from 86 (.iload_n 2) 1 87 := ⟨by decide +kernel, rfl⟩
theorem eX12_from_87 : zD cX12_from 87 (.iload 5) 2 89 := ⟨by decide +kernel, rfl⟩
theorem eX12_from_89 : zD cX12_from 89 (.ior) 1 90 := ⟨by decide +kernel, rfl⟩
theorem eX12_from_90 : zD cX12_from 90 (.invokevirtual 171) 3 93 := ⟨by decide +kernel, rfl⟩
theorem eX12_from_93 : zD cX12_from 93 (.ifCond .eq 7) 3 96 := ⟨by decide +kernel, rfl⟩
theorem eX12_from_96 : zD cX12_from 96 (.iconst 2) 1 97 := ⟨by decide +kernel, rfl⟩
theorem eX12_from_97 : zD cX12_from 97 (.goto 4) 3 100 := ⟨by decide +kernel, rfl⟩
theorem eX12_from_100 : zD cX12_from 100 (.iconst 0) 1 101 := ⟨by decide +kernel, rfl⟩
theorem eX12_from_101 : zD cX12_from 101 (.iadd) 1 102 := ⟨by decide +kernel, rfl⟩
theorem eX12_from_102 : zD cX12_from 102 (.ireturn) 1 103 := ⟨by decide +kernel, rfl⟩
theorem eX12_drawn_0 : zD cX12_drawn 0 (.aload_n 0) 1 1 := ⟨by decide +kernel, rfl⟩
theorem eX12_drawn_1 : zD cX12_drawn 1 (.aload_n 0) 1 2 := ⟨by decide +kernel, rfl⟩
theorem eX12_drawn_2 : zD cX12_drawn 2 (.getfield 218) 3 5 := ⟨by decide +kernel, rfl⟩
theorem eX12_drawn_5 : zD cX12_drawn 5 (.ldc 221) 2 7 := ⟨by decide +kernel, rfl⟩
theorem eX12_drawn_7 : zD cX12_drawn 7 (.imul) 1 8 := ⟨by decide +kernel, rfl⟩
theorem eX12_drawn_8 : zD cX12_drawn 8 (.sipush 12345) 3 11 := ⟨by decide +kernel, rfl⟩
theorem eX12_drawn_11 : zD cX12_drawn 11 (.iadd) 1 12 := ⟨by decide +kernel, rfl⟩
theorem eX12_drawn_12 : zD cX12_drawn 12 (.putfield 218) 3 15 := ⟨by decide +kernel, rfl⟩
theorem eX12_drawn_15 : zD cX12_drawn 15 (.aload_n 0) 1 16 := ⟨by decide +kernel, rfl⟩
theorem eX12_drawn_16 : zD cX12_drawn 16 (.getfield 218) 3 19 := ⟨by decide +kernel, rfl⟩
theorem eX12_drawn_19 : zD cX12_drawn 19 (.ldc 222) 2 21 := ⟨by decide +kernel, rfl⟩
theorem eX12_drawn_21 : zD cX12_drawn 21 (.iand) 1 22 := ⟨by decide +kernel, rfl⟩
theorem eX12_drawn_22 : zD cX12_drawn 22 (.ldc 223) 2 24 := ⟨by decide +kernel, rfl⟩
theorem eX12_drawn_24 : zD cX12_drawn 24 (.idiv) 1 25 := ⟨by decide +kernel, rfl⟩
theorem eX12_drawn_25 : zD cX12_drawn 25 (.iload_n 1) 1 26 := ⟨by decide +kernel, rfl⟩
theorem eX12_drawn_26 : zD cX12_drawn 26 (.irem) 1 27 := ⟨by decide +kernel, rfl⟩
theorem eX12_drawn_27 : zD cX12_drawn 27 (.ireturn) 1 28 := ⟨by decide +kernel, rfl⟩
theorem eX12_breaks_0 : zD cX12_breaks 0 (.iload_n 1) 1 1 := ⟨by decide +kernel, rfl⟩
theorem eX12_breaks_1 : zD cX12_breaks 1 (.i2l) 1 2 := ⟨by decide +kernel, rfl⟩
theorem eX12_breaks_2 : zD cX12_breaks 2 (.lconst 1) 1 3 := ⟨by decide +kernel, rfl⟩
theorem eX12_breaks_3 : zD cX12_breaks 3 (.ldc2_w 224) 3 6 := ⟨by decide +kernel, rfl⟩
theorem eX12_breaks_6 : zD cX12_breaks 6 (.invokestatic 55) 3 9 := ⟨by decide +kernel, rfl⟩
theorem eX12_breaks_9 : zD cX12_breaks 9 (.ifCond .eq 13) 3 12 := ⟨by decide +kernel, rfl⟩
theorem eX12_breaks_12 : zD cX12_breaks 12 (.iload_n 3) 1 13 := ⟨by decide +kernel, rfl⟩
theorem eX12_breaks_13 : zD cX12_breaks 13 (.i2l) 1 14 := ⟨by decide +kernel, rfl⟩
theorem eX12_breaks_14 : zD cX12_breaks 14 (.lconst 0) 1 15 := ⟨by decide +kernel, rfl⟩
theorem eX12_breaks_15 : zD cX12_breaks 15 (.lconst 1) 1 16 := ⟨by decide +kernel, rfl⟩
theorem eX12_breaks_16 : zD cX12_breaks 16 (.invokestatic 55) 3 19 := ⟨by decide +kernel, rfl⟩
theorem eX12_breaks_19 : zD cX12_breaks 19 (.ifCond .ne 5) 3 22 := ⟨by decide +kernel, rfl⟩
theorem eX12_breaks_22 : zD cX12_breaks 22 (.iconst (-1)) 1 23 := ⟨by decide +kernel, rfl⟩
theorem eX12_breaks_23 : zD cX12_breaks 23 (.ireturn) 1 24 := ⟨by decide +kernel, rfl⟩
theorem eX12_breaks_24 : zD cX12_breaks 24 (.aload_n 0) 1 25 := ⟨by decide +kernel, rfl⟩
theorem eX12_breaks_25 : zD cX12_breaks 25 (.getfield 9) 3 28 := ⟨by decide +kernel, rfl⟩
theorem eX12_breaks_28 : zD cX12_breaks 28 (.iconst 0) 1 29 := ⟨by decide +kernel, rfl⟩
theorem eX12_breaks_29 : zD cX12_breaks 29 (.iaload) 1 30 := ⟨by decide +kernel, rfl⟩
theorem eX12_breaks_30 : zD cX12_breaks 30 (.ifCond .ne 6) 3 33 := ⟨by decide +kernel, rfl⟩
theorem eX12_breaks_33 : zD cX12_breaks 33 (.bipush (-3)) 2 35 := ⟨by decide +kernel, rfl⟩
theorem eX12_breaks_35 : zD cX12_breaks 35 (.ireturn) 1 36 := ⟨by decide +kernel, rfl⟩
theorem eX12_breaks_36 : zD cX12_breaks 36 (.aload_n 0) 1 37 := ⟨by decide +kernel, rfl⟩
theorem eX12_breaks_37 : zD cX12_breaks 37 (.iload_n 2) 1 38 := ⟨by decide +kernel, rfl⟩
theorem eX12_breaks_38 : zD cX12_breaks 38 (.putfield 218) 3 41 := ⟨by decide +kernel, rfl⟩
theorem eX12_breaks_41 : zD cX12_breaks 41 (.iconst 0) 1 42 := ⟨by decide +kernel, rfl⟩
theorem eX12_breaks_42 : zD cX12_breaks 42 (.istore 4) 2 44 := ⟨by decide +kernel, rfl⟩
theorem eX12_breaks_44 : zD cX12_breaks 44 (.iconst 0) 1 45 := ⟨by decide +kernel, rfl⟩
theorem eX12_breaks_45 : zD cX12_breaks 45 (.istore 5) 2 47 := ⟨by decide +kernel, rfl⟩
theorem eX12_breaks_47 : zD cX12_breaks 47 (.iload 5) 2 49 := ⟨by decide +kernel, rfl⟩
theorem eX12_breaks_49 : zD cX12_breaks 49 (.iload_n 1) 1 50 := ⟨by decide +kernel, rfl⟩
theorem eX12_breaks_50 : zD cX12_breaks 50 (.if_icmp .ge 26) 3 53 := ⟨by decide +kernel, rfl⟩
theorem eX12_breaks_53 : zD cX12_breaks 53 (.iload 4) 2 55 := ⟨by decide +kernel, rfl⟩
theorem eX12_breaks_55 : zD cX12_breaks 55 (.iconst 1) 1 56 := ⟨by decide +kernel, rfl⟩
theorem eX12_breaks_56 : zD cX12_breaks 56 (.aload_n 0) 1 57 := ⟨by decide +kernel, rfl⟩
theorem eX12_breaks_57 : zD cX12_breaks 57 (.aload_n 0) 1 58 := ⟨by decide +kernel, rfl⟩
theorem eX12_breaks_58 : zD cX12_breaks 58 (.getfield 9) 3 61 := ⟨by decide +kernel, rfl⟩
theorem eX12_breaks_61 : zD cX12_breaks 61 (.iconst 0) 1 62 := ⟨by decide +kernel, rfl⟩
theorem eX12_breaks_62 : zD cX12_breaks 62 (.iaload) 1 63 := ⟨by decide +kernel, rfl⟩
theorem eX12_breaks_63 : zD cX12_breaks 63 (.invokevirtual 226) 3 66 := ⟨by decide +kernel, rfl⟩
theorem eX12_breaks_66 : zD cX12_breaks 66 (.ishl) 1 67 := ⟨by decide +kernel, rfl⟩
theorem eX12_breaks_67 : zD cX12_breaks 67 (.ior) 1 68 := ⟨by decide +kernel, rfl⟩
theorem eX12_breaks_68 : zD cX12_breaks 68 (.istore 4) 2 70 := ⟨by decide +kernel, rfl⟩
theorem eX12_breaks_70 : zD cX12_breaks 70 (.iinc 5 1) 3 73 := ⟨by decide +kernel, rfl⟩
theorem eX12_breaks_73 : zD cX12_breaks 73 (.goto (-26)) 3 76 := ⟨by decide +kernel, rfl⟩
theorem eX12_breaks_76 : zD cX12_breaks 76 (.iload_n 3) 1 77 := ⟨by decide +kernel, rfl⟩
theorem eX12_breaks_77 : zD cX12_breaks 77 (.ifCond .ne 11) 3 80 := ⟨by decide +kernel, rfl⟩
theorem eX12_breaks_80 : zD cX12_breaks 80 (.iload 4) 2 82 := ⟨by decide +kernel, rfl⟩
theorem eX12_breaks_82 : zD cX12_breaks 82 (.invokestatic 177) 3 85 := ⟨by decide +kernel, rfl⟩
theorem eX12_breaks_85 : zD cX12_breaks 85 (.goto 19) 3 88 := ⟨by decide +kernel, rfl⟩
theorem eX12_breaks_88 : zD cX12_breaks 88 (.aload_n 0) 1 89 := ⟨by decide +kernel, rfl⟩
theorem eX12_breaks_89 : zD cX12_breaks 89 (.aload_n 0) 1 90 := ⟨by decide +kernel, rfl⟩
theorem eX12_breaks_90 : zD cX12_breaks 90 (.invokevirtual 59) 3 93 := ⟨by decide +kernel, rfl⟩
theorem eX12_breaks_93 : zD cX12_breaks 93 (.iload 4) 2 95 := ⟨by decide +kernel, rfl⟩
theorem eX12_breaks_95 : zD cX12_breaks 95 (.iconst (-1)) 1 96 := ⟨by decide +kernel, rfl⟩
theorem eX12_breaks_96 : zD cX12_breaks 96 (.ixor) 1 97 := ⟨by decide +kernel, rfl⟩
theorem eX12_breaks_97 : zD cX12_breaks 97 (.iand) 1 98 := ⟨by decide +kernel, rfl⟩
theorem eX12_breaks_98 : zD cX12_breaks 98 (.invokevirtual 180) 3 101 := ⟨by decide +kernel, rfl⟩
theorem eX12_breaks_101 : zD cX12_breaks 101 (.invokestatic 177) 3 104 := ⟨by decide +kernel, rfl⟩
theorem eX12_breaks_104 : zD cX12_breaks 104 (.ireturn) 1 105 := ⟨by decide +kernel, rfl⟩
theorem eX12_image_0 : zD cX12_image 0 (.aload_n 0) 1 1 := ⟨by decide +kernel, rfl⟩
theorem eX12_image_1 : zD cX12_image 1 (.getfield 9) 3 4 := ⟨by decide +kernel, rfl⟩
theorem eX12_image_4 : zD cX12_image 4 (.aload_n 0) 1 5 := ⟨by decide +kernel, rfl⟩
theorem eX12_image_5 : zD cX12_image 5 (.getfield 13) 3 8 := ⟨by decide +kernel, rfl⟩
theorem eX12_image_8 : zD cX12_image 8 (.invokestatic 138) 3 11 := ⟨by decide +kernel, rfl⟩
theorem eX12_image_11 : zD cX12_image 11 (.aload_n 0) 1 12 := ⟨by decide +kernel, rfl⟩
theorem eX12_image_12 : zD cX12_image 12 (.iconst 1) 1 13 := ⟨by decide +kernel, rfl⟩
theorem eX12_image_13 : zD cX12_image 13 (.putfield 229) 3 16 := ⟨by decide +kernel, rfl⟩
theorem eX12_image_16 : zD cX12_image 16 (.aload_n 0) 1 17 := ⟨by decide +kernel, rfl⟩
theorem eX12_image_17 : zD cX12_image 17 (.getfield 9) 3 20 := ⟨by decide +kernel, rfl⟩
theorem eX12_image_20 : zD cX12_image 20 (.iconst 0) 1 21 := ⟨by decide +kernel, rfl⟩
theorem eX12_image_21 : zD cX12_image 21 (.iaload) 1 22 := ⟨by decide +kernel, rfl⟩
theorem eX12_image_22 : zD cX12_image 22 (.ireturn) 1 23 := ⟨by decide +kernel, rfl⟩
theorem eX12_restore_0 : zD cX12_restore 0 (.aload_n 0) 1 1 := ⟨by decide +kernel, rfl⟩
theorem eX12_restore_1 : zD cX12_restore 1 (.getfield 229) 3 4 := ⟨by decide +kernel, rfl⟩
theorem eX12_restore_4 : zD cX12_restore 4 (.ifCond .ne 6) 3 7 := ⟨by decide +kernel, rfl⟩
theorem eX12_restore_7 : zD cX12_restore 7 (.bipush (-3)) 2 9 := ⟨by decide +kernel, rfl⟩
theorem eX12_restore_9 : zD cX12_restore 9 (.ireturn) 1 10 := ⟨by decide +kernel, rfl⟩
theorem eX12_restore_10 : zD cX12_restore 10 (.aload_n 0) 1 11 := ⟨by decide +kernel, rfl⟩
theorem eX12_restore_11 : zD cX12_restore 11 (.getfield 13) 3 14 := ⟨by decide +kernel, rfl⟩
theorem eX12_restore_14 : zD cX12_restore 14 (.aload_n 0) 1 15 := ⟨by decide +kernel, rfl⟩
theorem eX12_restore_15 : zD cX12_restore 15 (.getfield 9) 3 18 := ⟨by decide +kernel, rfl⟩
theorem eX12_restore_18 : zD cX12_restore 18 (.invokestatic 138) 3 21 := ⟨by decide +kernel, rfl⟩
theorem eX12_restore_21 : zD cX12_restore 21 (.aload_n 0) 1 22 := ⟨by decide +kernel, rfl⟩
theorem eX12_restore_22 : zD cX12_restore 22 (.getfield 9) 3 25 := ⟨by decide +kernel, rfl⟩
theorem eX12_restore_25 : zD cX12_restore 25 (.iconst 0) 1 26 := ⟨by decide +kernel, rfl⟩
theorem eX12_restore_26 : zD cX12_restore 26 (.iaload) 1 27 := ⟨by decide +kernel, rfl⟩
theorem eX12_restore_27 : zD cX12_restore 27 (.ireturn) 1 28 := ⟨by decide +kernel, rfl⟩
theorem eX12_count_0 : zD cX12_count 0 (.iconst 0) 1 1 := ⟨by decide +kernel, rfl⟩
theorem eX12_count_1 : zD cX12_count 1 (.istore_n 2) 1 2 := ⟨by decide +kernel, rfl⟩
theorem eX12_count_2 : zD cX12_count 2 (.iload_n 1) 1 3 := ⟨by decide +kernel, rfl⟩
theorem eX12_count_3 : zD cX12_count 3 (.tableswitch 135 0 3 #[29, 29, 36, 106]) 29 32 := ⟨by decide +kernel, rfl⟩
theorem eX12_count_32 : zD cX12_count 32 (.aload_n 0) 1 33 := ⟨by decide +kernel, rfl⟩
theorem eX12_count_33 : zD cX12_count 33 (.getfield 9) 3 36 := ⟨by decide +kernel, rfl⟩
theorem eX12_count_36 : zD cX12_count 36 (.iload_n 1) 1 37 := ⟨by decide +kernel, rfl⟩
theorem eX12_count_37 : zD cX12_count 37 (.iaload) 1 38 := ⟨by decide +kernel, rfl⟩
theorem eX12_count_38 : zD cX12_count 38 (.ireturn) 1 39 := ⟨by decide +kernel, rfl⟩
theorem eX12_count_39 : zD cX12_count 39 (.iconst 0) 1 40 := ⟨by decide +kernel, rfl⟩
theorem eX12_count_40 : zD cX12_count 40 (.istore_n 3) 1 41 := ⟨by decide +kernel, rfl⟩
theorem eX12_count_41 : zD cX12_count 41 (.iload_n 3) 1 42 := ⟨by decide +kernel, rfl⟩
theorem eX12_count_42 : zD cX12_count 42 (.aload_n 0) 1 43 := ⟨by decide +kernel, rfl⟩
theorem eX12_count_43 : zD cX12_count 43 (.getfield 9) 3 46 := ⟨by decide +kernel, rfl⟩
theorem eX12_count_46 : zD cX12_count 46 (.iconst 0) 1 47 := ⟨by decide +kernel, rfl⟩
theorem eX12_count_47 : zD cX12_count 47 (.iaload) 1 48 := ⟨by decide +kernel, rfl⟩
theorem eX12_count_48 : zD cX12_count 48 (.if_icmp .ge 59) 3 51 := ⟨by decide +kernel, rfl⟩
theorem eX12_count_51 : zD cX12_count 51 (.iload_n 3) 1 52 := ⟨by decide +kernel, rfl⟩
theorem eX12_count_52 : zD cX12_count 52 (.iconst 1) 1 53 := ⟨by decide +kernel, rfl⟩
theorem eX12_count_53 : zD cX12_count 53 (.iadd) 1 54 := ⟨by decide +kernel, rfl⟩
theorem eX12_count_54 : zD cX12_count 54 (.istore 4) 2 56 := ⟨by decide +kernel, rfl⟩
theorem eX12_count_56 : zD cX12_count 56 (.iload 4) 2 58 := ⟨by decide +kernel, rfl⟩
theorem eX12_count_58 : zD cX12_count 58 (.aload_n 0) 1 59 := ⟨by decide +kernel, rfl⟩
theorem eX12_count_59 : zD cX12_count 59 (.getfield 9) 3 62 := ⟨by decide +kernel, rfl⟩
theorem eX12_count_62 : zD cX12_count 62 (.iconst 0) 1 63 := ⟨by decide +kernel, rfl⟩
theorem eX12_count_63 : zD cX12_count 63 (.iaload) 1 64 := ⟨by decide +kernel, rfl⟩
theorem eX12_count_64 : zD cX12_count 64 (.if_icmp .ge 37) 3 67 := ⟨by decide +kernel, rfl⟩
theorem eX12_count_67 : zD cX12_count 67 (.iload_n 2) 1 68 := ⟨by decide +kernel, rfl⟩
theorem eX12_count_68 : zD cX12_count 68 (.aload_n 0) 1 69 := ⟨by decide +kernel, rfl⟩
theorem eX12_count_69 : zD cX12_count 69 (.iload_n 3) 1 70 := ⟨by decide +kernel, rfl⟩
theorem eX12_count_70 : zD cX12_count 70 (.iload 4) 2 72 := ⟨by decide +kernel, rfl⟩
theorem eX12_count_72 : zD cX12_count 72 (.invokevirtual 162) 3 75 := ⟨by decide +kernel, rfl⟩
theorem eX12_count_75 : zD cX12_count 75 (.ifCond .ne 13) 3 78 := ⟨by decide +kernel, rfl⟩
theorem eX12_count_78 : zD cX12_count 78 (.aload_n 0) 1 79 := ⟨by decide +kernel, rfl⟩
theorem eX12_count_79 : zD cX12_count 79 (.iload 4) 2 81 := ⟨by decide +kernel, rfl⟩
theorem eX12_count_81 : zD cX12_count 81 (.iload_n 3) 1 82 := ⟨by decide +kernel, rfl⟩
theorem eX12_count_82 : zD cX12_count 82 (.invokevirtual 162) 3 85 := ⟨by decide +kernel, rfl⟩
theorem eX12_count_85 : zD cX12_count 85 (.ifCond .eq 7) 3 88 := ⟨by decide +kernel, rfl⟩
theorem eX12_count_88 : zD cX12_count 88 (.iconst 1) 1 89 := ⟨by decide +kernel, rfl⟩
theorem eX12_count_89 : zD cX12_count 89 (.goto 4) 3 92 := ⟨by decide +kernel, rfl⟩
theorem eX12_count_92 : zD cX12_count 92 (.iconst 0) 1 93 := ⟨by decide +kernel, rfl⟩
theorem eX12_count_93 : zD cX12_count 93 (.iadd) 1 94 := ⟨by decide +kernel, rfl⟩
theorem eX12_count_94 : zD cX12_count 94 (.istore_n 2) 1 95 := ⟨by decide +kernel, rfl⟩
theorem eX12_count_95 : zD cX12_count 95 (.iinc 4 1) 3 98 := ⟨by decide +kernel, rfl⟩
theorem eX12_count_98 : zD cX12_count 98 (.goto (-42)) 3 101 := ⟨by decide +kernel, rfl⟩
theorem eX12_count_101 : zD cX12_count 101 (.iinc 3 1) 3 104 := ⟨by decide +kernel, rfl⟩
theorem eX12_count_104 : zD cX12_count 104 (.goto (-63)) 3 107 := ⟨by decide +kernel, rfl⟩
theorem eX12_count_107 : zD cX12_count 107 (.iload_n 2) 1 108 := ⟨by decide +kernel, rfl⟩
theorem eX12_count_108 : zD cX12_count 108 (.ireturn) 1 109 := ⟨by decide +kernel, rfl⟩
theorem eX12_count_109 : zD cX12_count 109 (.iconst 0) 1 110 := ⟨by decide +kernel, rfl⟩
theorem eX12_count_110 : zD cX12_count 110 (.istore_n 3) 1 111 := ⟨by decide +kernel, rfl⟩
theorem eX12_count_111 : zD cX12_count 111 (.iload_n 3) 1 112 := ⟨by decide +kernel, rfl⟩
theorem eX12_count_112 : zD cX12_count 112 (.aload_n 0) 1 113 := ⟨by decide +kernel, rfl⟩
theorem eX12_count_113 : zD cX12_count 113 (.getfield 9) 3 116 := ⟨by decide +kernel, rfl⟩
theorem eX12_count_116 : zD cX12_count 116 (.iconst 0) 1 117 := ⟨by decide +kernel, rfl⟩
theorem eX12_count_117 : zD cX12_count 117 (.iaload) 1 118 := ⟨by decide +kernel, rfl⟩
theorem eX12_count_118 : zD cX12_count 118 (.if_icmp .ge 18) 3 121 := ⟨by decide +kernel, rfl⟩
theorem eX12_count_121 : zD cX12_count 121 (.iload_n 2) 1 122 := ⟨by decide +kernel, rfl⟩
theorem eX12_count_122 : zD cX12_count 122 (.aload_n 0) 1 123 := ⟨by decide +kernel, rfl⟩
theorem eX12_count_123 : zD cX12_count 123 (.iload_n 3) 1 124 := ⟨by decide +kernel, rfl⟩
theorem eX12_count_124 : zD cX12_count 124 (.iconst 4) 1 125 := ⟨by decide +kernel, rfl⟩
theorem eX12_count_125 : zD cX12_count 125 (.invokevirtual 63) 3 128 := ⟨by decide +kernel, rfl⟩
theorem eX12_count_128 : zD cX12_count 128 (.iadd) 1 129 := ⟨by decide +kernel, rfl⟩
theorem eX12_count_129 : zD cX12_count 129 (.istore_n 2) 1 130 := ⟨by decide +kernel, rfl⟩
theorem eX12_count_130 : zD cX12_count 130 (.iinc 3 1) 3 133 := ⟨by decide +kernel, rfl⟩
theorem eX12_count_133 : zD cX12_count 133 (.goto (-22)) 3 136 := ⟨by decide +kernel, rfl⟩
theorem eX12_count_136 : zD cX12_count 136 (.iload_n 2) 1 137 := ⟨by decide +kernel, rfl⟩
theorem eX12_count_137 : zD cX12_count 137 (.ireturn) 1 138 := ⟨by decide +kernel, rfl⟩
theorem eX12_count_138 : zD cX12_count 138 (.iconst (-1)) 1 139 := ⟨by decide +kernel, rfl⟩
theorem eX12_count_139 : zD cX12_count 139 (.ireturn) 1 140 := ⟨by decide +kernel, rfl⟩
theorem eX12_priceBy_0 : zD cX12_priceBy 0 (.iload_n 0) 1 1 := ⟨by decide +kernel, rfl⟩
theorem eX12_priceBy_1 : zD cX12_priceBy 1 (.tableswitch 72 1 7 #[43, 47, 49, 52, 58, 63, 66]) 43 44 := ⟨by decide +kernel, rfl⟩
theorem eX12_priceBy_44 : zD cX12_priceBy 44 (.iconst 4) 1 45 := ⟨by decide +kernel, rfl⟩
theorem eX12_priceBy_45 : zD cX12_priceBy 45 (.iload_n 1) 1 46 := ⟨by decide +kernel, rfl⟩
theorem eX12_priceBy_46 : zD cX12_priceBy 46 (.iadd) 1 47 := ⟨by decide +kernel, rfl⟩
theorem eX12_priceBy_47 : zD cX12_priceBy 47 (.ireturn) 1 48 := ⟨by decide +kernel, rfl⟩
theorem eX12_priceBy_48 : zD cX12_priceBy 48 (.iconst 3) 1 49 := ⟨by decide +kernel, rfl⟩
theorem eX12_priceBy_49 : zD cX12_priceBy 49 (.ireturn) 1 50 := ⟨by decide +kernel, rfl⟩
theorem eX12_priceBy_50 : zD cX12_priceBy 50 (.bipush 8) 2 52 := ⟨by decide +kernel, rfl⟩
theorem eX12_priceBy_52 : zD cX12_priceBy 52 (.ireturn) 1 53 := ⟨by decide +kernel, rfl⟩
theorem eX12_priceBy_53 : zD cX12_priceBy 53 (.iconst 4) 1 54 := ⟨by decide +kernel, rfl⟩
theorem eX12_priceBy_54 : zD cX12_priceBy 54 (.iload_n 1) 1 55 := ⟨by decide +kernel, rfl⟩
theorem eX12_priceBy_55 : zD cX12_priceBy 55 (.iadd) 1 56 := ⟨by decide +kernel, rfl⟩
theorem eX12_priceBy_56 : zD cX12_priceBy 56 (.iconst 2) 1 57 := ⟨by decide +kernel, rfl⟩
theorem eX12_priceBy_57 : zD cX12_priceBy 57 (.idiv) 1 58 := ⟨by decide +kernel, rfl⟩
theorem eX12_priceBy_58 : zD cX12_priceBy 58 (.ireturn) 1 59 := ⟨by decide +kernel, rfl⟩
theorem eX12_priceBy_59 : zD cX12_priceBy 59 (.bipush 8) 2 61 := ⟨by decide +kernel, rfl⟩
theorem eX12_priceBy_61 : zD cX12_priceBy 61 (.iload_n 1) 1 62 := ⟨by decide +kernel, rfl⟩
theorem eX12_priceBy_62 : zD cX12_priceBy 62 (.isub) 1 63 := ⟨by decide +kernel, rfl⟩
theorem eX12_priceBy_63 : zD cX12_priceBy 63 (.ireturn) 1 64 := ⟨by decide +kernel, rfl⟩
theorem eX12_priceBy_64 : zD cX12_priceBy 64 (.bipush 13) 2 66 := ⟨by decide +kernel, rfl⟩
theorem eX12_priceBy_66 : zD cX12_priceBy 66 (.ireturn) 1 67 := ⟨by decide +kernel, rfl⟩
theorem eX12_priceBy_67 : zD cX12_priceBy 67 (.iconst 3) 1 68 := ⟨by decide +kernel, rfl⟩
theorem eX12_priceBy_68 : zD cX12_priceBy 68 (.iload_n 1) 1 69 := ⟨by decide +kernel, rfl⟩
theorem eX12_priceBy_69 : zD cX12_priceBy 69 (.iconst 1) 1 70 := ⟨by decide +kernel, rfl⟩
theorem eX12_priceBy_70 : zD cX12_priceBy 70 (.iadd) 1 71 := ⟨by decide +kernel, rfl⟩
theorem eX12_priceBy_71 : zD cX12_priceBy 71 (.imul) 1 72 := ⟨by decide +kernel, rfl⟩
theorem eX12_priceBy_72 : zD cX12_priceBy 72 (.ireturn) 1 73 := ⟨by decide +kernel, rfl⟩
theorem eX12_priceBy_73 : zD cX12_priceBy 73 (.iconst 4) 1 74 := ⟨by decide +kernel, rfl⟩
theorem eX12_priceBy_74 : zD cX12_priceBy 74 (.ireturn) 1 75 := ⟨by decide +kernel, rfl⟩
theorem eX12_keep_0 : zD cX12_keep 0 (.iload_n 1) 1 1 := ⟨by decide +kernel, rfl⟩
theorem eX12_keep_1 : zD cX12_keep 1 (.invokestatic 129) 3 4 := ⟨by decide +kernel, rfl⟩
theorem eX12_keep_4 : zD cX12_keep 4 (.ifCond .eq 43) 3 7 := ⟨by decide +kernel, rfl⟩
theorem eX12_keep_7 : zD cX12_keep 7 (.iload_n 2) 1 8 := ⟨by decide +kernel, rfl⟩
theorem eX12_keep_8 : zD cX12_keep 8 (.i2l) 1 9 := ⟨by decide +kernel, rfl⟩
theorem eX12_keep_9 : zD cX12_keep 9 (.lconst 0) 1 10 := ⟨by decide +kernel, rfl⟩
theorem eX12_keep_10 : zD cX12_keep 10 (.lconst 1) 1 11 := ⟨by decide +kernel, rfl⟩
theorem eX12_keep_11 : zD cX12_keep 11 (.invokestatic 55) 3 14 := ⟨by decide +kernel, rfl⟩
theorem eX12_keep_14 : zD cX12_keep 14 (.ifCond .eq 33) 3 17 := ⟨by decide +kernel, rfl⟩
theorem eX12_keep_17 : zD cX12_keep 17 (.iload_n 2) 1 18 := ⟨by decide +kernel, rfl⟩
theorem eX12_keep_18 : zD cX12_keep 18 (.iconst 1) 1 19 := ⟨by decide +kernel, rfl⟩
theorem eX12_keep_19 : zD cX12_keep 19 (.if_icmp .ne 30) 3 22 := ⟨by decide +kernel, rfl⟩
theorem eX12_keep_22 : zD cX12_keep 22 (.iload_n 3) 1 23 := ⟨by decide +kernel, rfl⟩
theorem eX12_keep_23 : zD cX12_keep 23 (.i2l) 1 24 := ⟨by decide +kernel, rfl⟩
theorem eX12_keep_24 : zD cX12_keep 24 (.lconst 0) 1 25 := ⟨by decide +kernel, rfl⟩
theorem eX12_keep_25 : zD cX12_keep 25 (.ldc2_w 53) 3 28 := ⟨by decide +kernel, rfl⟩
theorem eX12_keep_28 : zD cX12_keep 28 (.invokestatic 55) 3 31 := ⟨by decide +kernel, rfl⟩
theorem eX12_keep_31 : zD cX12_keep 31 (.ifCond .eq 16) 3 34 := ⟨by decide +kernel, rfl⟩
theorem eX12_keep_34 : zD cX12_keep 34 (.iload 4) 2 36 := ⟨by decide +kernel, rfl⟩
theorem eX12_keep_36 : zD cX12_keep 36 (.i2l) 1 37 := ⟨by decide +kernel, rfl⟩
theorem eX12_keep_37 : zD cX12_keep 37 (.lconst 0) 1 38 := ⟨by decide +kernel, rfl⟩
theorem eX12_keep_38 : zD cX12_keep 38 (.ldc2_w 160) 3 41 := ⟨by decide +kernel, rfl⟩
theorem eX12_keep_41 : zD cX12_keep 41 (.invokestatic 55) 3 44 := ⟨by decide +kernel, rfl⟩
theorem eX12_keep_44 : zD cX12_keep 44 (.ifCond .ne 5) 3 47 := ⟨by decide +kernel, rfl⟩
theorem eX12_keep_47 : zD cX12_keep 47 (.iconst (-1)) 1 48 := ⟨by decide +kernel, rfl⟩
theorem eX12_keep_48 : zD cX12_keep 48 (.ireturn) 1 49 := ⟨by decide +kernel, rfl⟩
theorem eX12_keep_49 : zD cX12_keep 49 (.aload_n 0) 1 50 := ⟨by decide +kernel, rfl⟩
theorem eX12_keep_50 : zD cX12_keep 50 (.getfield 19) 3 53 := ⟨by decide +kernel, rfl⟩
theorem eX12_keep_53 : zD cX12_keep 53 (.iload_n 1) 1 54 := ⟨by decide +kernel, rfl⟩
theorem eX12_keep_54 : zD cX12_keep 54 (.iload_n 2) 1 55 := ⟨by decide +kernel, rfl⟩
theorem eX12_keep_55 : zD cX12_keep 55 (.iastore) 1 56 := ⟨by decide +kernel, rfl⟩
theorem eX12_keep_56 : zD cX12_keep 56 (.aload_n 0) 1 57 := ⟨by decide +kernel, rfl⟩
theorem eX12_keep_57 : zD cX12_keep 57 (.getfield 31) 3 60 := ⟨by decide +kernel, rfl⟩
theorem eX12_keep_60 : zD cX12_keep 60 (.iload_n 1) 1 61 := ⟨by decide +kernel, rfl⟩
theorem eX12_keep_61 : zD cX12_keep 61 (.iload_n 3) 1 62 := ⟨by decide +kernel, rfl⟩
theorem eX12_keep_62 : zD cX12_keep 62 (.iastore) 1 63 := ⟨by decide +kernel, rfl⟩
theorem eX12_keep_63 : zD cX12_keep 63 (.aload_n 0) 1 64 := ⟨by decide +kernel, rfl⟩
theorem eX12_keep_64 : zD cX12_keep 64 (.getfield 34) 3 67 := ⟨by decide +kernel, rfl⟩
theorem eX12_keep_67 : zD cX12_keep 67 (.iload_n 1) 1 68 := ⟨by decide +kernel, rfl⟩
theorem eX12_keep_68 : zD cX12_keep 68 (.iload 4) 2 70 := ⟨by decide +kernel, rfl⟩
theorem eX12_keep_70 : zD cX12_keep 70 (.iastore) 1 71 := ⟨by decide +kernel, rfl⟩
theorem eX12_keep_71 : zD cX12_keep 71 (.iconst 0) 1 72 := ⟨by decide +kernel, rfl⟩
theorem eX12_keep_72 : zD cX12_keep 72 (.ireturn) 1 73 := ⟨by decide +kernel, rfl⟩
theorem eX12_row_0 : zD cX12_row 0 (.iload_n 1) 1 1 := ⟨by decide +kernel, rfl⟩
theorem eX12_row_1 : zD cX12_row 1 (.invokestatic 129) 3 4 := ⟨by decide +kernel, rfl⟩
theorem eX12_row_4 : zD cX12_row 4 (.ifCond .eq 21) 3 7 := ⟨by decide +kernel, rfl⟩
theorem eX12_row_7 : zD cX12_row 7 (.iload_n 2) 1 8 := ⟨by decide +kernel, rfl⟩
theorem eX12_row_8 : zD cX12_row 8 (.i2l) 1 9 := ⟨by decide +kernel, rfl⟩
theorem eX12_row_9 : zD cX12_row 9 (.lconst 0) 1 10 := ⟨by decide +kernel, rfl⟩
theorem eX12_row_10 : zD cX12_row 10 (.ldc2_w 233) 3 13 := ⟨by decide +kernel, rfl⟩
theorem eX12_row_13 : zD cX12_row 13 (.invokestatic 55) 3 16 := ⟨by decide +kernel, rfl⟩
theorem eX12_row_16 : zD cX12_row 16 (.ifCond .eq 9) 3 19 := ⟨by decide +kernel, rfl⟩
theorem eX12_row_19 : zD cX12_row 19 (.iload_n 3) 1 20 := ⟨by decide +kernel, rfl⟩
theorem eX12_row_20 : zD cX12_row 20 (.bipush 100) 2 22 := ⟨by decide +kernel, rfl⟩
theorem eX12_row_22 : zD cX12_row 22 (.if_icmp .le 5) 3 25 := ⟨by decide +kernel, rfl⟩
theorem eX12_row_25 : zD cX12_row 25 (.iconst (-1)) 1 26 := ⟨by decide +kernel, rfl⟩
theorem eX12_row_26 : zD cX12_row 26 (.ireturn) 1 27 := ⟨by decide +kernel, rfl⟩
theorem eX12_row_27 : zD cX12_row 27 (.iload_n 3) 1 28 := ⟨by decide +kernel, rfl⟩
theorem eX12_row_28 : zD cX12_row 28 (.ifCond .ge 6) 3 31 := ⟨by decide +kernel, rfl⟩
theorem eX12_row_31 : zD cX12_row 31 (.bipush (-14)) 2 33 := ⟨by decide +kernel, rfl⟩
theorem eX12_row_33 : zD cX12_row 33 (.ireturn) 1 34 := ⟨by decide +kernel, rfl⟩
theorem eX12_row_34 : zD cX12_row 34 (.aload_n 0) 1 35 := ⟨by decide +kernel, rfl⟩
theorem eX12_row_35 : zD cX12_row 35 (.getfield 19) 3 38 := ⟨by decide +kernel, rfl⟩
theorem eX12_row_38 : zD cX12_row 38 (.iload_n 1) 1 39 := ⟨by decide +kernel, rfl⟩
theorem eX12_row_39 : zD cX12_row 39 (.iconst 2) 1 40 := ⟨by decide +kernel, rfl⟩
theorem eX12_row_40 : zD cX12_row 40 (.iastore) 1 41 := ⟨by decide +kernel, rfl⟩
theorem eX12_row_41 : zD cX12_row 41 (.aload_n 0) 1 42 := ⟨by decide +kernel, rfl⟩
theorem eX12_row_42 : zD cX12_row 42 (.getfield 22) 3 45 := ⟨by decide +kernel, rfl⟩
theorem eX12_row_45 : zD cX12_row 45 (.iload_n 1) 1 46 := ⟨by decide +kernel, rfl⟩
theorem eX12_row_46 : zD cX12_row 46 (.iload_n 2) 1 47 := ⟨by decide +kernel, rfl⟩
theorem eX12_row_47 : zD cX12_row 47 (.iastore) 1 48 := ⟨by decide +kernel, rfl⟩
theorem eX12_row_48 : zD cX12_row 48 (.aload_n 0) 1 49 := ⟨by decide +kernel, rfl⟩
theorem eX12_row_49 : zD cX12_row 49 (.getfield 25) 3 52 := ⟨by decide +kernel, rfl⟩
theorem eX12_row_52 : zD cX12_row 52 (.iload_n 1) 1 53 := ⟨by decide +kernel, rfl⟩
theorem eX12_row_53 : zD cX12_row 53 (.iload_n 3) 1 54 := ⟨by decide +kernel, rfl⟩
theorem eX12_row_54 : zD cX12_row 54 (.iastore) 1 55 := ⟨by decide +kernel, rfl⟩
theorem eX12_row_55 : zD cX12_row 55 (.iconst 0) 1 56 := ⟨by decide +kernel, rfl⟩
theorem eX12_row_56 : zD cX12_row 56 (.istore 4) 2 58 := ⟨by decide +kernel, rfl⟩
theorem eX12_row_58 : zD cX12_row 58 (.iload 4) 2 60 := ⟨by decide +kernel, rfl⟩
theorem eX12_row_60 : zD cX12_row 60 (.bipush 100) 2 62 := ⟨by decide +kernel, rfl⟩
theorem eX12_row_62 : zD cX12_row 62 (.if_icmp .ge 22) 3 65 := ⟨by decide +kernel, rfl⟩
theorem eX12_row_65 : zD cX12_row 65 (.aload_n 0) 1 66 := ⟨by decide +kernel, rfl⟩
theorem eX12_row_66 : zD cX12_row 66 (.getfield 28) 3 69 := ⟨by decide +kernel, rfl⟩
theorem eX12_row_69 : zD cX12_row 69 (.bipush 100) 2 71 := ⟨by decide +kernel, rfl⟩
theorem eX12_row_71 : zD cX12_row 71 (.iload_n 1) 1 72 := ⟨by decide +kernel, rfl⟩
theorem eX12_row_72 : zD cX12_row 72 (.imul) 1 73 := ⟨by decide +kernel, rfl⟩
theorem eX12_row_73 : zD cX12_row 73 (.iload 4) 2 75 := ⟨by decide +kernel, rfl⟩
theorem eX12_row_75 : zD cX12_row 75 (.iadd) 1 76 := ⟨by decide +kernel, rfl⟩
theorem eX12_row_76 : zD cX12_row 76 (.iconst 0) 1 77 := ⟨by decide +kernel, rfl⟩
theorem eX12_row_77 : zD cX12_row 77 (.iastore) 1 78 := ⟨by decide +kernel, rfl⟩
theorem eX12_row_78 : zD cX12_row 78 (.iinc 4 1) 3 81 := ⟨by decide +kernel, rfl⟩
theorem eX12_row_81 : zD cX12_row 81 (.goto (-23)) 3 84 := ⟨by decide +kernel, rfl⟩
theorem eX12_row_84 : zD cX12_row 84 (.iconst 0) 1 85 := ⟨by decide +kernel, rfl⟩
theorem eX12_row_85 : zD cX12_row 85 (.ireturn) 1 86 := ⟨by decide +kernel, rfl⟩
theorem eX12_put_0 : zD cX12_put 0 (.aload_n 0) 1 1 := ⟨by decide +kernel, rfl⟩
theorem eX12_put_1 : zD cX12_put 1 (.iload_n 1) 1 2 := ⟨by decide +kernel, rfl⟩
theorem eX12_put_2 : zD cX12_put 2 (.iconst (-1)) 1 3 := ⟨by decide +kernel, rfl⟩
theorem eX12_put_3 : zD cX12_put 3 (.invokevirtual 132) 3 6 := ⟨by decide +kernel, rfl⟩
theorem eX12_put_6 : zD cX12_put 6 (.istore 4) 2 8 := ⟨by decide +kernel, rfl⟩
theorem eX12_put_8 : zD cX12_put 8 (.iload 4) 2 10 := ⟨by decide +kernel, rfl⟩
theorem eX12_put_10 : zD cX12_put 10 (.ifCond .eq 6) 3 13 := ⟨by decide +kernel, rfl⟩
theorem eX12_put_13 : zD cX12_put 13 (.iload 4) 2 15 := ⟨by decide +kernel, rfl⟩
theorem eX12_put_15 : zD cX12_put 15 (.ireturn) 1 16 := ⟨by decide +kernel, rfl⟩
theorem eX12_put_16 : zD cX12_put 16 (.iload_n 2) 1 17 := ⟨by decide +kernel, rfl⟩
theorem eX12_put_17 : zD cX12_put 17 (.i2l) 1 18 := ⟨by decide +kernel, rfl⟩
theorem eX12_put_18 : zD cX12_put 18 (.lconst 0) 1 19 := ⟨by decide +kernel, rfl⟩
theorem eX12_put_19 : zD cX12_put 19 (.aload_n 0) 1 20 := ⟨by decide +kernel, rfl⟩
theorem eX12_put_20 : zD cX12_put 20 (.getfield 25) 3 23 := ⟨by decide +kernel, rfl⟩
theorem eX12_put_23 : zD cX12_put 23 (.iload_n 1) 1 24 := ⟨by decide +kernel, rfl⟩
theorem eX12_put_24 : zD cX12_put 24 (.iaload) 1 25 := ⟨by decide +kernel, rfl⟩
theorem eX12_put_25 : zD cX12_put 25 (.iconst 1) 1 26 := ⟨by decide +kernel, rfl⟩
theorem eX12_put_26 : zD cX12_put 26 (.isub) 1 27 := ⟨by decide +kernel, rfl⟩
theorem eX12_put_27 : zD cX12_put 27 (.i2l) 1 28 := ⟨by decide +kernel, rfl⟩
theorem eX12_put_28 : zD cX12_put 28 (.invokestatic 55) 3 31 := ⟨by decide +kernel, rfl⟩
theorem eX12_put_31 : zD cX12_put 31 (.ifCond .ne 6) 3 34 := ⟨by decide +kernel, rfl⟩
theorem eX12_put_34 : zD cX12_put 34 (.bipush (-13)) 2 36 := ⟨by decide +kernel, rfl⟩
theorem eX12_put_36 : zD cX12_put 36 (.ireturn) 1 37 := ⟨by decide +kernel, rfl⟩
theorem eX12_put_37 : zD cX12_put 37 (.aload_n 0) 1 38 := ⟨by decide +kernel, rfl⟩
theorem eX12_put_38 : zD cX12_put 38 (.getfield 28) 3 41 := ⟨by decide +kernel, rfl⟩
theorem eX12_put_41 : zD cX12_put 41 (.bipush 100) 2 43 := ⟨by decide +kernel, rfl⟩
theorem eX12_put_43 : zD cX12_put 43 (.iload_n 1) 1 44 := ⟨by decide +kernel, rfl⟩
theorem eX12_put_44 : zD cX12_put 44 (.imul) 1 45 := ⟨by decide +kernel, rfl⟩
theorem eX12_put_45 : zD cX12_put 45 (.iload_n 2) 1 46 := ⟨by decide +kernel, rfl⟩
theorem eX12_put_46 : zD cX12_put 46 (.iadd) 1 47 := ⟨by decide +kernel, rfl⟩
theorem eX12_put_47 : zD cX12_put 47 (.aload_n 0) 1 48 := ⟨by decide +kernel, rfl⟩
theorem eX12_put_48 : zD cX12_put 48 (.getfield 22) 3 51 := ⟨by decide +kernel, rfl⟩
theorem eX12_put_51 : zD cX12_put 51 (.iload_n 1) 1 52 := ⟨by decide +kernel, rfl⟩
theorem eX12_put_52 : zD cX12_put 52 (.iaload) 1 53 := ⟨by decide +kernel, rfl⟩
theorem eX12_put_53 : zD cX12_put 53 (.ifCond .ne 8) 3 56 := ⟨by decide +kernel, rfl⟩
theorem eX12_put_56 : zD cX12_put 56 (.iload_n 3) 1 57 := ⟨by decide +kernel, rfl⟩
theorem eX12_put_57 : zD cX12_put 57 (.i2b) 1 58 := ⟨by decide +kernel, rfl⟩
theorem eX12_put_58 : zD cX12_put 58 (.goto 19) 3 61 := ⟨by decide +kernel, rfl⟩
theorem eX12_put_61 : zD cX12_put 61 (.aload_n 0) 1 62 := ⟨by decide +kernel, rfl⟩
theorem eX12_put_62 : zD cX12_put 62 (.getfield 22) 3 65 := ⟨by decide +kernel, rfl⟩
theorem eX12_put_65 : zD cX12_put 65 (.iload_n 1) 1 66 := ⟨by decide +kernel, rfl⟩
theorem eX12_put_66 : zD cX12_put 66 (.iaload) 1 67 := ⟨by decide +kernel, rfl⟩
theorem eX12_put_67 : zD cX12_put 67 (.iconst 1) 1 68 := ⟨by decide +kernel, rfl⟩
theorem eX12_put_68 : zD cX12_put 68 (.if_icmp .ne 8) 3 71 := ⟨by decide +kernel, rfl⟩
theorem eX12_put_71 : zD cX12_put 71 (.iload_n 3) 1 72 := ⟨by decide +kernel, rfl⟩
theorem eX12_put_72 : zD cX12_put 72 (.i2s) 1 73 := ⟨by decide +kernel, rfl⟩
theorem eX12_put_73 : zD cX12_put 73 (.goto 4) 3 76 := ⟨by decide +kernel, rfl⟩
theorem eX12_put_76 : zD cX12_put 76 (.iload_n 3) 1 77 := ⟨by decide +kernel, rfl⟩
theorem eX12_put_77 : zD cX12_put 77 (.iastore) 1 78 := ⟨by decide +kernel, rfl⟩
theorem eX12_put_78 : zD cX12_put 78 (.iconst 0) 1 79 := ⟨by decide +kernel, rfl⟩
theorem eX12_put_79 : zD cX12_put 79 (.ireturn) 1 80 := ⟨by decide +kernel, rfl⟩
theorem eX12_element_0 : zD cX12_element 0 (.aload_n 0) 1 1 := ⟨by decide +kernel, rfl⟩
theorem eX12_element_1 : zD cX12_element 1 (.iload_n 1) 1 2 := ⟨by decide +kernel, rfl⟩
theorem eX12_element_2 : zD cX12_element 2 (.invokestatic 129) 3 5 := ⟨by decide +kernel, rfl⟩
theorem eX12_element_5 : zD cX12_element 5 (.ifCond .ne 7) 3 8 := ⟨by decide +kernel, rfl⟩
theorem eX12_element_8 : zD cX12_element 8 (.iconst 1) 1 9 := ⟨by decide +kernel, rfl⟩
theorem eX12_element_9 : zD cX12_element 9 (.goto 36) 3 12 := ⟨by decide +kernel, rfl⟩
theorem eX12_element_12 : zD cX12_element 12 (.aload_n 0) 1 13 := ⟨by decide +kernel, rfl⟩
theorem eX12_element_13 : zD cX12_element 13 (.getfield 19) 3 16 := ⟨by decide +kernel, rfl⟩
theorem eX12_element_16 : zD cX12_element 16 (.iload_n 1) 1 17 := ⟨by decide +kernel, rfl⟩
theorem eX12_element_17 : zD cX12_element 17 (.iaload) 1 18 := ⟨by decide +kernel, rfl⟩
theorem eX12_element_18 : zD cX12_element 18 (.iconst 2) 1 19 := ⟨by decide +kernel, rfl⟩
theorem eX12_element_19 : zD cX12_element 19 (.if_icmp .ne 21) 3 22 := ⟨by decide +kernel, rfl⟩
theorem eX12_element_22 : zD cX12_element 22 (.iload_n 2) 1 23 := ⟨by decide +kernel, rfl⟩
theorem eX12_element_23 : zD cX12_element 23 (.i2l) 1 24 := ⟨by decide +kernel, rfl⟩
theorem eX12_element_24 : zD cX12_element 24 (.lconst 0) 1 25 := ⟨by decide +kernel, rfl⟩
theorem eX12_element_25 : zD cX12_element 25 (.aload_n 0) 1 26 := ⟨by decide +kernel, rfl⟩
theorem eX12_element_26 : zD cX12_element 26 (.getfield 25) 3 29 := ⟨by decide +kernel, rfl⟩
theorem eX12_element_29 : zD cX12_element 29 (.iload_n 1) 1 30 := ⟨by decide +kernel, rfl⟩
theorem eX12_element_30 : zD cX12_element 30 (.iaload) 1 31 := ⟨by decide +kernel, rfl⟩
theorem eX12_element_31 : zD cX12_element 31 (.iconst 1) 1 32 := ⟨by decide +kernel, rfl⟩
theorem eX12_element_32 : zD cX12_element 32 (.isub) 1 33 := ⟨by decide +kernel, rfl⟩
theorem eX12_element_33 : zD cX12_element 33 (.i2l) 1 34 := ⟨by decide +kernel, rfl⟩
theorem eX12_element_34 : zD cX12_element 34 (.invokestatic 55) 3 37 := ⟨by decide +kernel, rfl⟩
theorem eX12_element_37 : zD cX12_element 37 (.ifCond .ne 7) 3 40 := ⟨by decide +kernel, rfl⟩
theorem eX12_element_40 : zD cX12_element 40 (.iconst 2) 1 41 := ⟨by decide +kernel, rfl⟩
theorem eX12_element_41 : zD cX12_element 41 (.goto 4) 3 44 := ⟨by decide +kernel, rfl⟩
theorem eX12_element_44 : zD cX12_element 44 (.iconst 0) 1 45 := ⟨by decide +kernel, rfl⟩
theorem eX12_element_45 : zD cX12_element 45 (.putfield 49) 3 48 := ⟨by decide +kernel, rfl⟩
theorem eX12_element_48 : zD cX12_element 48 (.aload_n 0) 1 49 := ⟨by decide +kernel, rfl⟩
theorem eX12_element_49 : zD cX12_element 49 (.getfield 49) 3 52 := ⟨by decide +kernel, rfl⟩
theorem eX12_element_52 : zD cX12_element 52 (.ifCond .ne 18) 3 55 := ⟨by decide +kernel, rfl⟩
theorem eX12_element_55 : zD cX12_element 55 (.aload_n 0) 1 56 := ⟨by decide +kernel, rfl⟩
theorem eX12_element_56 : zD cX12_element 56 (.getfield 28) 3 59 := ⟨by decide +kernel, rfl⟩
theorem eX12_element_59 : zD cX12_element 59 (.bipush 100) 2 61 := ⟨by decide +kernel, rfl⟩
theorem eX12_element_61 : zD cX12_element 61 (.iload_n 1) 1 62 := ⟨by decide +kernel, rfl⟩
theorem eX12_element_62 : zD cX12_element 62 (.imul) 1 63 := ⟨by decide +kernel, rfl⟩
theorem eX12_element_63 : zD cX12_element 63 (.iload_n 2) 1 64 := ⟨by decide +kernel, rfl⟩
theorem eX12_element_64 : zD cX12_element 64 (.iadd) 1 65 := ⟨by decide +kernel, rfl⟩
theorem eX12_element_65 : zD cX12_element 65 (.iaload) 1 66 := ⟨by decide +kernel, rfl⟩
theorem eX12_element_66 : zD cX12_element 66 (.i2l) 1 67 := ⟨by decide +kernel, rfl⟩
theorem eX12_element_67 : zD cX12_element 67 (.goto 4) 3 70 := ⟨by decide +kernel, rfl⟩
theorem eX12_element_70 : zD cX12_element 70 (.lconst 0) 1 71 := ⟨by decide +kernel, rfl⟩
theorem eX12_element_71 : zD cX12_element 71 (.lreturn) 1 72 := ⟨by decide +kernel, rfl⟩
theorem eX12_copy_0 : zD cX12_copy 0 (.iload_n 1) 1 1 := ⟨by decide +kernel, rfl⟩
theorem eX12_copy_1 : zD cX12_copy 1 (.invokestatic 129) 3 4 := ⟨by decide +kernel, rfl⟩
theorem eX12_copy_4 : zD cX12_copy 4 (.ifCond .eq 10) 3 7 := ⟨by decide +kernel, rfl⟩
theorem eX12_copy_7 : zD cX12_copy 7 (.iload_n 3) 1 8 := ⟨by decide +kernel, rfl⟩
theorem eX12_copy_8 : zD cX12_copy 8 (.invokestatic 129) 3 11 := ⟨by decide +kernel, rfl⟩
theorem eX12_copy_11 : zD cX12_copy 11 (.ifCond .ne 5) 3 14 := ⟨by decide +kernel, rfl⟩
theorem eX12_copy_14 : zD cX12_copy 14 (.iconst (-1)) 1 15 := ⟨by decide +kernel, rfl⟩
theorem eX12_copy_15 : zD cX12_copy 15 (.ireturn) 1 16 := ⟨by decide +kernel, rfl⟩
theorem eX12_copy_16 : zD cX12_copy 16 (.aload_n 0) 1 17 := ⟨by decide +kernel, rfl⟩
theorem eX12_copy_17 : zD cX12_copy 17 (.getfield 19) 3 20 := ⟨by decide +kernel, rfl⟩
theorem eX12_copy_20 : zD cX12_copy 20 (.iload_n 1) 1 21 := ⟨by decide +kernel, rfl⟩
theorem eX12_copy_21 : zD cX12_copy 21 (.iaload) 1 22 := ⟨by decide +kernel, rfl⟩
theorem eX12_copy_22 : zD cX12_copy 22 (.ifCond .eq 12) 3 25 := ⟨by decide +kernel, rfl⟩
theorem eX12_copy_25 : zD cX12_copy 25 (.aload_n 0) 1 26 := ⟨by decide +kernel, rfl⟩
theorem eX12_copy_26 : zD cX12_copy 26 (.getfield 19) 3 29 := ⟨by decide +kernel, rfl⟩
theorem eX12_copy_29 : zD cX12_copy 29 (.iload_n 3) 1 30 := ⟨by decide +kernel, rfl⟩
theorem eX12_copy_30 : zD cX12_copy 30 (.iaload) 1 31 := ⟨by decide +kernel, rfl⟩
theorem eX12_copy_31 : zD cX12_copy 31 (.ifCond .ne 6) 3 34 := ⟨by decide +kernel, rfl⟩
theorem eX12_copy_34 : zD cX12_copy 34 (.bipush (-11)) 2 36 := ⟨by decide +kernel, rfl⟩
theorem eX12_copy_36 : zD cX12_copy 36 (.ireturn) 1 37 := ⟨by decide +kernel, rfl⟩
theorem eX12_copy_37 : zD cX12_copy 37 (.aload_n 0) 1 38 := ⟨by decide +kernel, rfl⟩
theorem eX12_copy_38 : zD cX12_copy 38 (.getfield 19) 3 41 := ⟨by decide +kernel, rfl⟩
theorem eX12_copy_41 : zD cX12_copy 41 (.iload_n 1) 1 42 := ⟨by decide +kernel, rfl⟩
theorem eX12_copy_42 : zD cX12_copy 42 (.iaload) 1 43 := ⟨by decide +kernel, rfl⟩
theorem eX12_copy_43 : zD cX12_copy 43 (.iconst 2) 1 44 := ⟨by decide +kernel, rfl⟩
theorem eX12_copy_44 : zD cX12_copy 44 (.if_icmp .ne 28) 3 47 := ⟨by decide +kernel, rfl⟩
theorem eX12_copy_47 : zD cX12_copy 47 (.aload_n 0) 1 48 := ⟨by decide +kernel, rfl⟩
theorem eX12_copy_48 : zD cX12_copy 48 (.getfield 19) 3 51 := ⟨by decide +kernel, rfl⟩
theorem eX12_copy_51 : zD cX12_copy 51 (.iload_n 3) 1 52 := ⟨by decide +kernel, rfl⟩
theorem eX12_copy_52 : zD cX12_copy 52 (.iaload) 1 53 := ⟨by decide +kernel, rfl⟩
theorem eX12_copy_53 : zD cX12_copy 53 (.iconst 2) 1 54 := ⟨by decide +kernel, rfl⟩
theorem eX12_copy_54 : zD cX12_copy 54 (.if_icmp .ne 18) 3 57 := ⟨by decide +kernel, rfl⟩
theorem eX12_copy_57 : zD cX12_copy 57 (.aload_n 0) 1 58 := ⟨by decide +kernel, rfl⟩
theorem eX12_copy_58 : zD cX12_copy 58 (.getfield 22) 3 61 := ⟨by decide +kernel, rfl⟩
theorem eX12_copy_61 : zD cX12_copy 61 (.iload_n 1) 1 62 := ⟨by decide +kernel, rfl⟩
theorem eX12_copy_62 : zD cX12_copy 62 (.iaload) 1 63 := ⟨by decide +kernel, rfl⟩
theorem eX12_copy_63 : zD cX12_copy 63 (.aload_n 0) 1 64 := ⟨by decide +kernel, rfl⟩
theorem eX12_copy_64 : zD cX12_copy 64 (.getfield 22) 3 67 := ⟨by decide +kernel, rfl⟩
theorem eX12_copy_67 : zD cX12_copy 67 (.iload_n 3) 1 68 := ⟨by decide +kernel, rfl⟩
theorem eX12_copy_68 : zD cX12_copy 68 (.iaload) 1 69 := ⟨by decide +kernel, rfl⟩
theorem eX12_copy_69 : zD cX12_copy 69 (.if_icmp .eq 6) 3 72 := ⟨by decide +kernel, rfl⟩
theorem eX12_copy_72 : zD cX12_copy 72 (.bipush (-12)) 2 74 := ⟨by decide +kernel, rfl⟩
theorem eX12_copy_74 : zD cX12_copy 74 (.ireturn) 1 75 := ⟨by decide +kernel, rfl⟩
theorem eX12_copy_75 : zD cX12_copy 75 (.iload 5) 2 77 := ⟨by decide +kernel, rfl⟩
theorem eX12_copy_77 : zD cX12_copy 77 (.ifCond .lt 39) 3 80 := ⟨by decide +kernel, rfl⟩
theorem eX12_copy_80 : zD cX12_copy 80 (.iload_n 2) 1 81 := ⟨by decide +kernel, rfl⟩
theorem eX12_copy_81 : zD cX12_copy 81 (.ifCond .lt 35) 3 84 := ⟨by decide +kernel, rfl⟩
theorem eX12_copy_84 : zD cX12_copy 84 (.iload 4) 2 86 := ⟨by decide +kernel, rfl⟩
theorem eX12_copy_86 : zD cX12_copy 86 (.ifCond .lt 30) 3 89 := ⟨by decide +kernel, rfl⟩
theorem eX12_copy_89 : zD cX12_copy 89 (.iload 5) 2 91 := ⟨by decide +kernel, rfl⟩
theorem eX12_copy_91 : zD cX12_copy 91 (.aload_n 0) 1 92 := ⟨by decide +kernel, rfl⟩
theorem eX12_copy_92 : zD cX12_copy 92 (.getfield 25) 3 95 := ⟨by decide +kernel, rfl⟩
theorem eX12_copy_95 : zD cX12_copy 95 (.iload_n 1) 1 96 := ⟨by decide +kernel, rfl⟩
theorem eX12_copy_96 : zD cX12_copy 96 (.iaload) 1 97 := ⟨by decide +kernel, rfl⟩
theorem eX12_copy_97 : zD cX12_copy 97 (.iload_n 2) 1 98 := ⟨by decide +kernel, rfl⟩
theorem eX12_copy_98 : zD cX12_copy 98 (.isub) 1 99 := ⟨by decide +kernel, rfl⟩
theorem eX12_copy_99 : zD cX12_copy 99 (.if_icmp .gt 17) 3 102 := ⟨by decide +kernel, rfl⟩
theorem eX12_copy_102 : zD cX12_copy 102 (.iload 5) 2 104 := ⟨by decide +kernel, rfl⟩
theorem eX12_copy_104 : zD cX12_copy 104 (.aload_n 0) 1 105 := ⟨by decide +kernel, rfl⟩
theorem eX12_copy_105 : zD cX12_copy 105 (.getfield 25) 3 108 := ⟨by decide +kernel, rfl⟩
theorem eX12_copy_108 : zD cX12_copy 108 (.iload_n 3) 1 109 := ⟨by decide +kernel, rfl⟩
theorem eX12_copy_109 : zD cX12_copy 109 (.iaload) 1 110 := ⟨by decide +kernel, rfl⟩
theorem eX12_copy_110 : zD cX12_copy 110 (.iload 4) 2 112 := ⟨by decide +kernel, rfl⟩
theorem eX12_copy_112 : zD cX12_copy 112 (.isub) 1 113 := ⟨by decide +kernel, rfl⟩
theorem eX12_copy_113 : zD cX12_copy 113 (.if_icmp .le 6) 3 116 := ⟨by decide +kernel, rfl⟩
theorem eX12_copy_116 : zD cX12_copy 116 (.bipush (-13)) 2 118 := ⟨by decide +kernel, rfl⟩
theorem eX12_copy_118 : zD cX12_copy 118 (.ireturn) 1 119 := ⟨by decide +kernel, rfl⟩
theorem eX12_copy_119 : zD cX12_copy 119 (.iconst 0) 1 120 := ⟨by decide +kernel, rfl⟩
theorem eX12_copy_120 : zD cX12_copy 120 (.istore 6) 2 122 := ⟨by decide +kernel, rfl⟩
theorem eX12_copy_122 : zD cX12_copy 122 (.iload 6) 2 124 := ⟨by decide +kernel, rfl⟩
theorem eX12_copy_124 : zD cX12_copy 124 (.iload 5) 2 126 := ⟨by decide +kernel, rfl⟩
theorem eX12_copy_126 : zD cX12_copy 126 (.if_icmp .ge 58) 3 129 := ⟨by decide +kernel, rfl⟩
theorem eX12_copy_129 : zD cX12_copy 129 (.iload_n 2) 1 130 := ⟨by decide +kernel, rfl⟩
theorem eX12_copy_130 : zD cX12_copy 130 (.iload 4) 2 132 := ⟨by decide +kernel, rfl⟩
theorem eX12_copy_132 : zD cX12_copy 132 (.if_icmp .le 8) 3 135 := ⟨by decide +kernel, rfl⟩
theorem eX12_copy_135 : zD cX12_copy 135 (.iload 6) 2 137 := ⟨by decide +kernel, rfl⟩
theorem eX12_copy_137 : zD cX12_copy 137 (.goto 10) 3 140 := ⟨by decide +kernel, rfl⟩
theorem eX12_copy_140 : zD cX12_copy 140 (.iload 5) 2 142 := ⟨by decide +kernel, rfl⟩
theorem eX12_copy_142 : zD cX12_copy 142 (.iconst 1) 1 143 := ⟨by decide +kernel, rfl⟩
theorem eX12_copy_143 : zD cX12_copy 143 (.isub) 1 144 := ⟨by decide +kernel, rfl⟩
theorem eX12_copy_144 : zD cX12_copy 144 (.iload 6) 2 146 := ⟨by decide +kernel, rfl⟩
theorem eX12_copy_146 : zD cX12_copy 146 (.isub) 1 147 := ⟨by decide +kernel, rfl⟩
theorem eX12_copy_147 : zD cX12_copy 147 (.istore 7) 2 149 := ⟨by decide +kernel, rfl⟩
theorem eX12_copy_149 : zD cX12_copy 149 (.aload_n 0) 1 150 := ⟨by decide +kernel, rfl⟩
theorem eX12_copy_150 : zD cX12_copy 150 (.getfield 28) 3 153 := ⟨by decide +kernel, rfl⟩
theorem eX12_copy_153 : zD cX12_copy 153 (.bipush 100) 2 155 := ⟨by decide +kernel, rfl⟩
theorem eX12_copy_155 : zD cX12_copy 155 (.iload_n 3) 1 156 := ⟨by decide +kernel, rfl⟩
theorem eX12_copy_156 : zD cX12_copy 156 (.imul) 1 157 := ⟨by decide +kernel, rfl⟩
theorem eX12_copy_157 : zD cX12_copy 157 (.iload 4) 2 159 := ⟨by decide +kernel, rfl⟩
theorem eX12_copy_159 : zD cX12_copy 159 (.iadd) 1 160 := ⟨by decide +kernel, rfl⟩
theorem eX12_copy_160 : zD cX12_copy 160 (.iload 7) 2 162 := ⟨by decide +kernel, rfl⟩
theorem eX12_copy_162 : zD cX12_copy 162 (.iadd) 1 163 := ⟨by decide +kernel, rfl⟩
theorem eX12_copy_163 : zD cX12_copy 163 (.aload_n 0) 1 164 := ⟨by decide +kernel, rfl⟩
theorem eX12_copy_164 : zD cX12_copy 164 (.getfield 28) 3 167 := ⟨by decide +kernel, rfl⟩
theorem eX12_copy_167 : zD cX12_copy 167 (.bipush 100) 2 169 := ⟨by decide +kernel, rfl⟩
theorem eX12_copy_169 : zD cX12_copy 169 (.iload_n 1) 1 170 := ⟨by decide +kernel, rfl⟩
theorem eX12_copy_170 : zD cX12_copy 170 (.imul) 1 171 := ⟨by decide +kernel, rfl⟩
theorem eX12_copy_171 : zD cX12_copy 171 (.iload_n 2) 1 172 := ⟨by decide +kernel, rfl⟩
theorem eX12_copy_172 : zD cX12_copy 172 (.iadd) 1 173 := ⟨by decide +kernel, rfl⟩
theorem eX12_copy_173 : zD cX12_copy 173 (.iload 7) 2 175 := ⟨by decide +kernel, rfl⟩
theorem eX12_copy_175 : zD cX12_copy 175 (.iadd) 1 176 := ⟨by decide +kernel, rfl⟩
theorem eX12_copy_176 : zD cX12_copy 176 (.iaload) 1 177 := ⟨by decide +kernel, rfl⟩
theorem eX12_copy_177 : zD cX12_copy 177 (.iastore) 1 178 := ⟨by decide +kernel, rfl⟩
theorem eX12_copy_178 : zD cX12_copy 178 (.iinc 6 1) 3 181 := ⟨by decide +kernel, rfl⟩
theorem eX12_copy_181 : zD cX12_copy 181 (.goto (-59)) 3 184 := ⟨by decide +kernel, rfl⟩
theorem eX12_copy_184 : zD cX12_copy 184 (.iload 5) 2 186 := ⟨by decide +kernel, rfl⟩
theorem eX12_copy_186 : zD cX12_copy 186 (.ireturn) 1 187 := ⟨by decide +kernel, rfl⟩
theorem eX12_price_0 : zD cX12_price 0 (.aload_n 0) 1 1 := ⟨by decide +kernel, rfl⟩
theorem eX12_price_1 : zD cX12_price 1 (.iload_n 1) 1 2 := ⟨by decide +kernel, rfl⟩
theorem eX12_price_2 : zD cX12_price 2 (.invokevirtual 153) 3 5 := ⟨by decide +kernel, rfl⟩
theorem eX12_price_5 : zD cX12_price 5 (.istore_n 2) 1 6 := ⟨by decide +kernel, rfl⟩
theorem eX12_price_6 : zD cX12_price 6 (.iload_n 2) 1 7 := ⟨by decide +kernel, rfl⟩
theorem eX12_price_7 : zD cX12_price 7 (.ifCond .eq 7) 3 10 := ⟨by decide +kernel, rfl⟩
theorem eX12_price_10 : zD cX12_price 10 (.iload_n 2) 1 11 := ⟨by decide +kernel, rfl⟩
theorem eX12_price_11 : zD cX12_price 11 (.goto 18) 3 14 := ⟨by decide +kernel, rfl⟩
theorem eX12_price_14 : zD cX12_price 14 (.aload_n 0) 1 15 := ⟨by decide +kernel, rfl⟩
theorem eX12_price_15 : zD cX12_price 15 (.getfield 31) 3 18 := ⟨by decide +kernel, rfl⟩
theorem eX12_price_18 : zD cX12_price 18 (.iload_n 1) 1 19 := ⟨by decide +kernel, rfl⟩
theorem eX12_price_19 : zD cX12_price 19 (.iaload) 1 20 := ⟨by decide +kernel, rfl⟩
theorem eX12_price_20 : zD cX12_price 20 (.aload_n 0) 1 21 := ⟨by decide +kernel, rfl⟩
theorem eX12_price_21 : zD cX12_price 21 (.getfield 34) 3 24 := ⟨by decide +kernel, rfl⟩
theorem eX12_price_24 : zD cX12_price 24 (.iload_n 1) 1 25 := ⟨by decide +kernel, rfl⟩
theorem eX12_price_25 : zD cX12_price 25 (.iaload) 1 26 := ⟨by decide +kernel, rfl⟩
theorem eX12_price_26 : zD cX12_price 26 (.invokestatic 235) 3 29 := ⟨by decide +kernel, rfl⟩
theorem eX12_price_29 : zD cX12_price 29 (.ireturn) 1 30 := ⟨by decide +kernel, rfl⟩
theorem eX12_toss_0 : zD cX12_toss 0 (.aload_n 0) 1 1 := ⟨by decide +kernel, rfl⟩
theorem eX12_toss_1 : zD cX12_toss 1 (.iload_n 1) 1 2 := ⟨by decide +kernel, rfl⟩
theorem eX12_toss_2 : zD cX12_toss 2 (.invokevirtual 153) 3 5 := ⟨by decide +kernel, rfl⟩
theorem eX12_toss_5 : zD cX12_toss 5 (.istore_n 2) 1 6 := ⟨by decide +kernel, rfl⟩
theorem eX12_toss_6 : zD cX12_toss 6 (.iload_n 2) 1 7 := ⟨by decide +kernel, rfl⟩
theorem eX12_toss_7 : zD cX12_toss 7 (.ifCond .eq 5) 3 10 := ⟨by decide +kernel, rfl⟩
theorem eX12_toss_10 : zD cX12_toss 10 (.iload_n 2) 1 11 := ⟨by decide +kernel, rfl⟩
theorem eX12_toss_11 : zD cX12_toss 11 (.ireturn) 1 12 := ⟨by decide +kernel, rfl⟩
theorem eX12_toss_12 : zD cX12_toss 12 (.aload_n 0) 1 13 := ⟨by decide +kernel, rfl⟩
theorem eX12_toss_13 : zD cX12_toss 13 (.getfield 31) 3 16 := ⟨by decide +kernel, rfl⟩
theorem eX12_toss_16 : zD cX12_toss 16 (.iload_n 1) 1 17 := ⟨by decide +kernel, rfl⟩
theorem eX12_toss_17 : zD cX12_toss 17 (.iaload) 1 18 := ⟨by decide +kernel, rfl⟩
theorem eX12_toss_18 : zD cX12_toss 18 (.istore_n 3) 1 19 := ⟨by decide +kernel, rfl⟩
theorem eX12_toss_19 : zD cX12_toss 19 (.aload_n 0) 1 20 := ⟨by decide +kernel, rfl⟩
theorem eX12_toss_20 : zD cX12_toss 20 (.getfield 34) 3 23 := ⟨by decide +kernel, rfl⟩
theorem eX12_toss_23 : zD cX12_toss 23 (.iload_n 1) 1 24 := ⟨by decide +kernel, rfl⟩
theorem eX12_toss_24 : zD cX12_toss 24 (.iaload) 1 25 := ⟨by decide +kernel, rfl⟩
theorem eX12_toss_25 : zD cX12_toss 25 (.istore 4) 2 27 := ⟨by decide +kernel, rfl⟩
theorem eX12_toss_27 : zD cX12_toss 27 (.iload_n 3) 1 28 := ⟨by decide +kernel, rfl⟩
theorem eX12_toss_28 : zD cX12_toss 28 (.iconst 4) 1 29 := ⟨by decide +kernel, rfl⟩
theorem eX12_toss_29 : zD cX12_toss 29 (.if_icmp .eq 8) 3 32 := ⟨by decide +kernel, rfl⟩
theorem eX12_toss_32 : zD cX12_toss 32 (.iload 4) 2 34 := ⟨by decide +kernel, rfl⟩
theorem eX12_toss_34 : zD cX12_toss 34 (.ifCond .ne 8) 3 37 := ⟨by decide +kernel, rfl⟩
theorem eX12_toss_37 : zD cX12_toss 37 (.bipush (-15)) 2 39 := ⟨by decide +kernel, rfl⟩
theorem eX12_toss_39 : zD cX12_toss 39 (.goto 37) 3 42 := ⟨by decide +kernel, rfl⟩
theorem eX12_toss_42 : zD cX12_toss 42 (.iload_n 3) 1 43 := ⟨by decide +kernel, rfl⟩
theorem eX12_toss_43 : zD cX12_toss 43 (.iconst 5) 1 44 := ⟨by decide +kernel, rfl⟩
theorem eX12_toss_44 : zD cX12_toss 44 (.if_icmp .ne 11) 3 47 := ⟨by decide +kernel, rfl⟩
theorem eX12_toss_47 : zD cX12_toss 47 (.bipush 100) 2 49 := ⟨by decide +kernel, rfl⟩
theorem eX12_toss_49 : zD cX12_toss 49 (.iload 4) 2 51 := ⟨by decide +kernel, rfl⟩
theorem eX12_toss_51 : zD cX12_toss 51 (.iadd) 1 52 := ⟨by decide +kernel, rfl⟩
theorem eX12_toss_52 : zD cX12_toss 52 (.goto 24) 3 55 := ⟨by decide +kernel, rfl⟩
theorem eX12_toss_55 : zD cX12_toss 55 (.iload_n 3) 1 56 := ⟨by decide +kernel, rfl⟩
theorem eX12_toss_56 : zD cX12_toss 56 (.bipush 7) 2 58 := ⟨by decide +kernel, rfl⟩
theorem eX12_toss_58 : zD cX12_toss 58 (.if_icmp .ne 16) 3 61 := ⟨by decide +kernel, rfl⟩
theorem eX12_toss_61 : zD cX12_toss 61 (.sipush 200) 3 64 := ⟨by decide +kernel, rfl⟩
theorem eX12_toss_64 : zD cX12_toss 64 (.iload_n 3) 1 65 := ⟨by decide +kernel, rfl⟩
theorem eX12_toss_65 : zD cX12_toss 65 (.iload 4) 2 67 := ⟨by decide +kernel, rfl⟩
theorem eX12_toss_67 : zD cX12_toss 67 (.invokestatic 235) 3 70 := ⟨by decide +kernel, rfl⟩
theorem eX12_toss_70 : zD cX12_toss 70 (.iadd) 1 71 := ⟨by decide +kernel, rfl⟩
theorem eX12_toss_71 : zD cX12_toss 71 (.goto 5) 3 74 := ⟨by decide +kernel, rfl⟩
theorem eX12_toss_74 : zD cX12_toss 74 (.iload 4) 2 76 := ⟨by decide +kernel, rfl⟩
theorem eX12_toss_76 : zD cX12_toss 76 (.ireturn) 1 77 := ⟨by decide +kernel, rfl⟩
theorem eJ6_bitCount_0f7a4_0 : zD cJ6_bitCount_0f7a4 0 (.iload_n 0) 1 1 := ⟨by decide +kernel, rfl⟩
theorem eJ6_bitCount_0f7a4_1 : zD cJ6_bitCount_0f7a4 1 (.iload_n 0) 1 2 := ⟨by decide +kernel, rfl⟩
theorem eJ6_bitCount_0f7a4_2 : zD cJ6_bitCount_0f7a4 2 (.iconst 1) 1 3 := ⟨by decide +kernel, rfl⟩
theorem eJ6_bitCount_0f7a4_3 : zD cJ6_bitCount_0f7a4 3 (.iushr) 1 4 := ⟨by decide +kernel, rfl⟩
theorem eJ6_bitCount_0f7a4_4 : zD cJ6_bitCount_0f7a4 4 (.ldc_w 265) 3 7 := ⟨by decide +kernel, rfl⟩
theorem eJ6_bitCount_0f7a4_7 : zD cJ6_bitCount_0f7a4 7 (.iand) 1 8 := ⟨by decide +kernel, rfl⟩
theorem eJ6_bitCount_0f7a4_8 : zD cJ6_bitCount_0f7a4 8 (.isub) 1 9 := ⟨by decide +kernel, rfl⟩
theorem eJ6_bitCount_0f7a4_9 : zD cJ6_bitCount_0f7a4 9 (.istore_n 0) 1 10 := ⟨by decide +kernel, rfl⟩
theorem eJ6_bitCount_0f7a4_10 : zD cJ6_bitCount_0f7a4 10 (.iload_n 0) 1 11 := ⟨by decide +kernel, rfl⟩
theorem eJ6_bitCount_0f7a4_11 : zD cJ6_bitCount_0f7a4 11 (.ldc_w 266) 3 14 := ⟨by decide +kernel, rfl⟩
theorem eJ6_bitCount_0f7a4_14 : zD cJ6_bitCount_0f7a4 14 (.iand) 1 15 := ⟨by decide +kernel, rfl⟩
theorem eJ6_bitCount_0f7a4_15 : zD cJ6_bitCount_0f7a4 15 (.iload_n 0) 1 16 := ⟨by decide +kernel, rfl⟩
theorem eJ6_bitCount_0f7a4_16 : zD cJ6_bitCount_0f7a4 16 (.iconst 2) 1 17 := ⟨by decide +kernel, rfl⟩
theorem eJ6_bitCount_0f7a4_17 : zD cJ6_bitCount_0f7a4 17 (.iushr) 1 18 := ⟨by decide +kernel, rfl⟩
theorem eJ6_bitCount_0f7a4_18 : zD cJ6_bitCount_0f7a4 18 (.ldc_w 266) 3 21 := ⟨by decide +kernel, rfl⟩
theorem eJ6_bitCount_0f7a4_21 : zD cJ6_bitCount_0f7a4 21 (.iand) 1 22 := ⟨by decide +kernel, rfl⟩
theorem eJ6_bitCount_0f7a4_22 : zD cJ6_bitCount_0f7a4 22 (.iadd) 1 23 := ⟨by decide +kernel, rfl⟩
theorem eJ6_bitCount_0f7a4_23 : zD cJ6_bitCount_0f7a4 23 (.istore_n 0) 1 24 := ⟨by decide +kernel, rfl⟩
theorem eJ6_bitCount_0f7a4_24 : zD cJ6_bitCount_0f7a4 24 (.iload_n 0) 1 25 := ⟨by decide +kernel, rfl⟩
theorem eJ6_bitCount_0f7a4_25 : zD cJ6_bitCount_0f7a4 25 (.iload_n 0) 1 26 := ⟨by decide +kernel, rfl⟩
theorem eJ6_bitCount_0f7a4_26 : zD cJ6_bitCount_0f7a4 26 (.iconst 4) 1 27 := ⟨by decide +kernel, rfl⟩
theorem eJ6_bitCount_0f7a4_27 : zD cJ6_bitCount_0f7a4 27 (.iushr) 1 28 := ⟨by decide +kernel, rfl⟩
theorem eJ6_bitCount_0f7a4_28 : zD cJ6_bitCount_0f7a4 28 (.iadd) 1 29 := ⟨by decide +kernel, rfl⟩
theorem eJ6_bitCount_0f7a4_29 : zD cJ6_bitCount_0f7a4 29 (.ldc_w 267) 3 32 := ⟨by decide +kernel, rfl⟩
theorem eJ6_bitCount_0f7a4_32 : zD cJ6_bitCount_0f7a4 32 (.iand) 1 33 := ⟨by decide +kernel, rfl⟩
theorem eJ6_bitCount_0f7a4_33 : zD cJ6_bitCount_0f7a4 33 (.istore_n 0) 1 34 := ⟨by decide +kernel, rfl⟩
theorem eJ6_bitCount_0f7a4_34 : zD cJ6_bitCount_0f7a4 34 (.iload_n 0) 1 35 := ⟨by decide +kernel, rfl⟩
theorem eJ6_bitCount_0f7a4_35 : zD cJ6_bitCount_0f7a4 35 (.iload_n 0) 1 36 := ⟨by decide +kernel, rfl⟩
theorem eJ6_bitCount_0f7a4_36 : zD cJ6_bitCount_0f7a4 36 (.bipush 8) 2 38 := ⟨by decide +kernel, rfl⟩
theorem eJ6_bitCount_0f7a4_38 : zD cJ6_bitCount_0f7a4 38 (.iushr) 1 39 := ⟨by decide +kernel, rfl⟩
theorem eJ6_bitCount_0f7a4_39 : zD cJ6_bitCount_0f7a4 39 (.iadd) 1 40 := ⟨by decide +kernel, rfl⟩
theorem eJ6_bitCount_0f7a4_40 : zD cJ6_bitCount_0f7a4 40 (.istore_n 0) 1 41 := ⟨by decide +kernel, rfl⟩
theorem eJ6_bitCount_0f7a4_41 : zD cJ6_bitCount_0f7a4 41 (.iload_n 0) 1 42 := ⟨by decide +kernel, rfl⟩
theorem eJ6_bitCount_0f7a4_42 : zD cJ6_bitCount_0f7a4 42 (.iload_n 0) 1 43 := ⟨by decide +kernel, rfl⟩
theorem eJ6_bitCount_0f7a4_43 : zD cJ6_bitCount_0f7a4 43 (.bipush 16) 2 45 := ⟨by decide +kernel, rfl⟩
theorem eJ6_bitCount_0f7a4_45 : zD cJ6_bitCount_0f7a4 45 (.iushr) 1 46 := ⟨by decide +kernel, rfl⟩
theorem eJ6_bitCount_0f7a4_46 : zD cJ6_bitCount_0f7a4 46 (.iadd) 1 47 := ⟨by decide +kernel, rfl⟩
theorem eJ6_bitCount_0f7a4_47 : zD cJ6_bitCount_0f7a4 47 (.istore_n 0) 1 48 := ⟨by decide +kernel, rfl⟩
theorem eJ6_bitCount_0f7a4_48 : zD cJ6_bitCount_0f7a4 48 (.iload_n 0) 1 49 := ⟨by decide +kernel, rfl⟩
theorem eJ6_bitCount_0f7a4_49 : zD cJ6_bitCount_0f7a4 49 (.bipush 63) 2 51 := ⟨by decide +kernel, rfl⟩
theorem eJ6_bitCount_0f7a4_51 : zD cJ6_bitCount_0f7a4 51 (.iand) 1 52 := ⟨by decide +kernel, rfl⟩
theorem eJ6_bitCount_0f7a4_52 : zD cJ6_bitCount_0f7a4 52 (.ireturn) 1 53 := ⟨by decide +kernel, rfl⟩
theorem eJ9_max_7cf53_0 : zD cJ9_max_7cf53 0 (.iload_n 0) 1 1 := ⟨by decide +kernel, rfl⟩
theorem eJ9_max_7cf53_1 : zD cJ9_max_7cf53 1 (.iload_n 1) 1 2 := ⟨by decide +kernel, rfl⟩
theorem eJ9_max_7cf53_2 : zD cJ9_max_7cf53 2 (.if_icmp .lt 7) 3 5 := ⟨by decide +kernel, rfl⟩
theorem eJ9_max_7cf53_5 : zD cJ9_max_7cf53 5 (.iload_n 0) 1 6 := ⟨by decide +kernel, rfl⟩
theorem eJ9_max_7cf53_6 : zD cJ9_max_7cf53 6 (.goto 4) 3 9 := ⟨by decide +kernel, rfl⟩
theorem eJ9_max_7cf53_9 : zD cJ9_max_7cf53 9 (.iload_n 1) 1 10 := ⟨by decide +kernel, rfl⟩
theorem eJ9_max_7cf53_10 : zD cJ9_max_7cf53 10 (.ireturn) 1 11 := ⟨by decide +kernel, rfl⟩
theorem eJ9_min_7cf53_0 : zD cJ9_min_7cf53 0 (.iload_n 0) 1 1 := ⟨by decide +kernel, rfl⟩
theorem eJ9_min_7cf53_1 : zD cJ9_min_7cf53 1 (.iload_n 1) 1 2 := ⟨by decide +kernel, rfl⟩
theorem eJ9_min_7cf53_2 : zD cJ9_min_7cf53 2 (.if_icmp .gt 7) 3 5 := ⟨by decide +kernel, rfl⟩
theorem eJ9_min_7cf53_5 : zD cJ9_min_7cf53 5 (.iload_n 0) 1 6 := ⟨by decide +kernel, rfl⟩
theorem eJ9_min_7cf53_6 : zD cJ9_min_7cf53 6 (.goto 4) 3 9 := ⟨by decide +kernel, rfl⟩
theorem eJ9_min_7cf53_9 : zD cJ9_min_7cf53 9 (.iload_n 1) 1 10 := ⟨by decide +kernel, rfl⟩
theorem eJ9_min_7cf53_10 : zD cJ9_min_7cf53 10 (.ireturn) 1 11 := ⟨by decide +kernel, rfl⟩
theorem eL_element_0 : zD cL_element 0 (.aload_n 3) 1 1 := ⟨by decide +kernel, rfl⟩
theorem eL_element_1 : zD cL_element 1 (.iconst 0) 1 2 := ⟨by decide +kernel, rfl⟩
theorem eL_element_2 : zD cL_element 2 (.aload_n 0) 1 3 := ⟨by decide +kernel, rfl⟩
theorem eL_element_3 : zD cL_element 3 (.iload_n 1) 1 4 := ⟨by decide +kernel, rfl⟩
theorem eL_element_4 : zD cL_element 4 (.iload_n 2) 1 5 := ⟨by decide +kernel, rfl⟩
theorem eL_element_5 : zD cL_element 5 (.invokevirtual 7) 3 8 := ⟨by decide +kernel, rfl⟩
theorem eL_element_8 : zD cL_element 8 (.lastore) 1 9 := ⟨by decide +kernel, rfl⟩
theorem eL_element_9 : zD cL_element 9 (.goto 11) 3 12 := ⟨by decide +kernel, rfl⟩
end
section
/-! Decode rows. -/
theorem eL_element_12 : zD cL_element 12 (.astore 4) 2 14 := ⟨by decide +kernel, rfl⟩
theorem eL_element_14 : zD cL_element 14 (.iconst 1) 1 15 := ⟨by decide +kernel, rfl⟩
theorem eL_element_15 : zD cL_element 15 (.ireturn) 1 16 := ⟨by decide +kernel, rfl⟩
theorem eL_element_16 : zD cL_element 16 (.astore 4) 2 18 := ⟨by decide +kernel, rfl⟩
theorem eL_element_18 : zD cL_element 18 (.iconst 2) 1 19 := ⟨by decide +kernel, rfl⟩
theorem eL_element_19 : zD cL_element 19 (.ireturn) 1 20 := ⟨by decide +kernel, rfl⟩
theorem eL_element_20 : zD cL_element 20 (.iconst 0) 1 21 := ⟨by decide +kernel, rfl⟩
theorem eL_element_21 : zD cL_element 21 (.ireturn) 1 22 := ⟨by decide +kernel, rfl⟩
theorem eL_law_0 : zD cL_law 0 (.new 8) 3 3 := ⟨by decide +kernel, rfl⟩
theorem eL_law_3 : zD cL_law 3 (.dup) 1 4 := ⟨by decide +kernel, rfl⟩
theorem eL_law_4 : zD cL_law 4 (.invokespecial 17) 3 7 := ⟨by decide +kernel, rfl⟩
theorem eL_law_7 : zD cL_law 7 (.astore_n 1) 1 8 := ⟨by decide +kernel, rfl⟩
theorem eL_law_8 : zD cL_law 8 (.new 18) 3 11 := ⟨by decide +kernel, rfl⟩
theorem eL_law_11 : zD cL_law 11 (.dup) 1 12 := ⟨by decide +kernel, rfl⟩
theorem eL_law_12 : zD cL_law 12 (.invokespecial 20) 3 15 := ⟨by decide +kernel, rfl⟩
theorem eL_law_15 : zD cL_law 15 (.astore_n 2) 1 16 := ⟨by decide +kernel, rfl⟩
theorem eL_law_16 : zD cL_law 16 (.iconst 1) 1 17 := ⟨by decide +kernel, rfl⟩
theorem eL_law_17 : zD cL_law 17 (.newarray .long) 2 19 := ⟨by decide +kernel, rfl⟩
theorem eL_law_19 : zD cL_law 19 (.astore_n 3) 1 20 := ⟨by decide +kernel, rfl⟩
theorem eL_law_20 : zD cL_law 20 (.iconst 0) 1 21 := ⟨by decide +kernel, rfl⟩
theorem eL_law_21 : zD cL_law 21 (.istore 4) 2 23 := ⟨by decide +kernel, rfl⟩
theorem eL_law_23 : zD cL_law 23 (.iload 4) 2 25 := ⟨by decide +kernel, rfl⟩
theorem eL_law_25 : zD cL_law 25 (.aload_n 0) 1 26 := ⟨by decide +kernel, rfl⟩
theorem eL_law_26 : zD cL_law 26 (.arraylength) 1 27 := ⟨by decide +kernel, rfl⟩
theorem eL_law_27 : zD cL_law 27 (.bipush 6) 2 29 := ⟨by decide +kernel, rfl⟩
theorem eL_law_29 : zD cL_law 29 (.isub) 1 30 := ⟨by decide +kernel, rfl⟩
theorem eL_law_30 : zD cL_law 30 (.if_icmp .gt 1266) 3 33 := ⟨by decide +kernel, rfl⟩
theorem eL_law_33 : zD cL_law 33 (.aload_n 0) 1 34 := ⟨by decide +kernel, rfl⟩
theorem eL_law_34 : zD cL_law 34 (.iload 4) 2 36 := ⟨by decide +kernel, rfl⟩
theorem eL_law_36 : zD cL_law 36 (.iaload) 1 37 := ⟨by decide +kernel, rfl⟩
theorem eL_law_37 : zD cL_law 37 (.bipush 31) 2 39 := ⟨by decide +kernel, rfl⟩
theorem eL_law_39 : zD cL_law 39 (.iand) 1 40 := ⟨by decide +kernel, rfl⟩
theorem eL_law_40 : zD cL_law 40 (.tableswitch 1250 0 31 #[144, 169, 206, 267, 292, 317, 354, 379, 404, 441, 454, 479, 492, 517, 542, 555, 592, 629, 654, 703, 740, 801, 850, 863, 876, 901, 962, 1011, 1060, 1127, 1200, 1225]) 144 184 := ⟨by decide +kernel, rfl⟩
theorem eL_law_184 : zD cL_law 184 (.aload_n 1) 1 185 := ⟨by decide +kernel, rfl⟩
theorem eL_law_185 : zD cL_law 185 (.aload_n 0) 1 186 := ⟨by decide +kernel, rfl⟩
theorem eL_law_186 : zD cL_law 186 (.iload 4) 2 188 := ⟨by decide +kernel, rfl⟩
theorem eL_law_188 : zD cL_law 188 (.iconst 1) 1 189 := ⟨by decide +kernel, rfl⟩
theorem eL_law_189 : zD cL_law 189 (.iadd) 1 190 := ⟨by decide +kernel, rfl⟩
theorem eL_law_190 : zD cL_law 190 (.iaload) 1 191 := ⟨by decide +kernel, rfl⟩
theorem eL_law_191 : zD cL_law 191 (.invokevirtual 21) 3 194 := ⟨by decide +kernel, rfl⟩
theorem eL_law_194 : zD cL_law 194 (.aload_n 2) 1 195 := ⟨by decide +kernel, rfl⟩
theorem eL_law_195 : zD cL_law 195 (.aload_n 0) 1 196 := ⟨by decide +kernel, rfl⟩
theorem eL_law_196 : zD cL_law 196 (.iload 4) 2 198 := ⟨by decide +kernel, rfl⟩
theorem eL_law_198 : zD cL_law 198 (.iconst 1) 1 199 := ⟨by decide +kernel, rfl⟩
theorem eL_law_199 : zD cL_law 199 (.iadd) 1 200 := ⟨by decide +kernel, rfl⟩
theorem eL_law_200 : zD cL_law 200 (.iaload) 1 201 := ⟨by decide +kernel, rfl⟩
theorem eL_law_201 : zD cL_law 201 (.invokevirtual 25) 3 204 := ⟨by decide +kernel, rfl⟩
theorem eL_law_204 : zD cL_law 204 (.if_icmp .eq 1086) 3 207 := ⟨by decide +kernel, rfl⟩
theorem eL_law_207 : zD cL_law 207 (.iconst 0) 1 208 := ⟨by decide +kernel, rfl⟩
theorem eL_law_208 : zD cL_law 208 (.ireturn) 1 209 := ⟨by decide +kernel, rfl⟩
theorem eL_law_209 : zD cL_law 209 (.aload_n 1) 1 210 := ⟨by decide +kernel, rfl⟩
theorem eL_law_210 : zD cL_law 210 (.aload_n 0) 1 211 := ⟨by decide +kernel, rfl⟩
theorem eL_law_211 : zD cL_law 211 (.iload 4) 2 213 := ⟨by decide +kernel, rfl⟩
theorem eL_law_213 : zD cL_law 213 (.iconst 1) 1 214 := ⟨by decide +kernel, rfl⟩
theorem eL_law_214 : zD cL_law 214 (.iadd) 1 215 := ⟨by decide +kernel, rfl⟩
theorem eL_law_215 : zD cL_law 215 (.iaload) 1 216 := ⟨by decide +kernel, rfl⟩
theorem eL_law_216 : zD cL_law 216 (.aload_n 0) 1 217 := ⟨by decide +kernel, rfl⟩
theorem eL_law_217 : zD cL_law 217 (.iload 4) 2 219 := ⟨by decide +kernel, rfl⟩
theorem eL_law_219 : zD cL_law 219 (.iconst 2) 1 220 := ⟨by decide +kernel, rfl⟩
theorem eL_law_220 : zD cL_law 220 (.iadd) 1 221 := ⟨by decide +kernel, rfl⟩
theorem eL_law_221 : zD cL_law 221 (.iaload) 1 222 := ⟨by decide +kernel, rfl⟩
theorem eL_law_222 : zD cL_law 222 (.invokevirtual 26) 3 225 := ⟨by decide +kernel, rfl⟩
theorem eL_law_225 : zD cL_law 225 (.aload_n 2) 1 226 := ⟨by decide +kernel, rfl⟩
theorem eL_law_226 : zD cL_law 226 (.aload_n 0) 1 227 := ⟨by decide +kernel, rfl⟩
theorem eL_law_227 : zD cL_law 227 (.iload 4) 2 229 := ⟨by decide +kernel, rfl⟩
theorem eL_law_229 : zD cL_law 229 (.iconst 1) 1 230 := ⟨by decide +kernel, rfl⟩
theorem eL_law_230 : zD cL_law 230 (.iadd) 1 231 := ⟨by decide +kernel, rfl⟩
theorem eL_law_231 : zD cL_law 231 (.iaload) 1 232 := ⟨by decide +kernel, rfl⟩
theorem eL_law_232 : zD cL_law 232 (.aload_n 0) 1 233 := ⟨by decide +kernel, rfl⟩
theorem eL_law_233 : zD cL_law 233 (.iload 4) 2 235 := ⟨by decide +kernel, rfl⟩
theorem eL_law_235 : zD cL_law 235 (.iconst 2) 1 236 := ⟨by decide +kernel, rfl⟩
theorem eL_law_236 : zD cL_law 236 (.iadd) 1 237 := ⟨by decide +kernel, rfl⟩
theorem eL_law_237 : zD cL_law 237 (.iaload) 1 238 := ⟨by decide +kernel, rfl⟩
theorem eL_law_238 : zD cL_law 238 (.invokevirtual 30) 3 241 := ⟨by decide +kernel, rfl⟩
theorem eL_law_241 : zD cL_law 241 (.if_icmp .eq 1049) 3 244 := ⟨by decide +kernel, rfl⟩
theorem eL_law_244 : zD cL_law 244 (.iconst 0) 1 245 := ⟨by decide +kernel, rfl⟩
theorem eL_law_245 : zD cL_law 245 (.ireturn) 1 246 := ⟨by decide +kernel, rfl⟩
theorem eL_law_246 : zD cL_law 246 (.aload_n 1) 1 247 := ⟨by decide +kernel, rfl⟩
theorem eL_law_247 : zD cL_law 247 (.aload_n 0) 1 248 := ⟨by decide +kernel, rfl⟩
theorem eL_law_248 : zD cL_law 248 (.iload 4) 2 250 := ⟨by decide +kernel, rfl⟩
theorem eL_law_250 : zD cL_law 250 (.iconst 1) 1 251 := ⟨by decide +kernel, rfl⟩
theorem eL_law_251 : zD cL_law 251 (.iadd) 1 252 := ⟨by decide +kernel, rfl⟩
theorem eL_law_252 : zD cL_law 252 (.iaload) 1 253 := ⟨by decide +kernel, rfl⟩
theorem eL_law_253 : zD cL_law 253 (.aload_n 0) 1 254 := ⟨by decide +kernel, rfl⟩
theorem eL_law_254 : zD cL_law 254 (.iload 4) 2 256 := ⟨by decide +kernel, rfl⟩
theorem eL_law_256 : zD cL_law 256 (.iconst 2) 1 257 := ⟨by decide +kernel, rfl⟩
theorem eL_law_257 : zD cL_law 257 (.iadd) 1 258 := ⟨by decide +kernel, rfl⟩
theorem eL_law_258 : zD cL_law 258 (.iaload) 1 259 := ⟨by decide +kernel, rfl⟩
theorem eL_law_259 : zD cL_law 259 (.aload_n 0) 1 260 := ⟨by decide +kernel, rfl⟩
theorem eL_law_260 : zD cL_law 260 (.iload 4) 2 262 := ⟨by decide +kernel, rfl⟩
theorem eL_law_262 : zD cL_law 262 (.iconst 3) 1 263 := ⟨by decide +kernel, rfl⟩
theorem eL_law_263 : zD cL_law 263 (.iadd) 1 264 := ⟨by decide +kernel, rfl⟩
theorem eL_law_264 : zD cL_law 264 (.iaload) 1 265 := ⟨by decide +kernel, rfl⟩
theorem eL_law_265 : zD cL_law 265 (.aload_n 0) 1 266 := ⟨by decide +kernel, rfl⟩
theorem eL_law_266 : zD cL_law 266 (.iload 4) 2 268 := ⟨by decide +kernel, rfl⟩
theorem eL_law_268 : zD cL_law 268 (.iconst 4) 1 269 := ⟨by decide +kernel, rfl⟩
theorem eL_law_269 : zD cL_law 269 (.iadd) 1 270 := ⟨by decide +kernel, rfl⟩
theorem eL_law_270 : zD cL_law 270 (.iaload) 1 271 := ⟨by decide +kernel, rfl⟩
theorem eL_law_271 : zD cL_law 271 (.invokevirtual 31) 3 274 := ⟨by decide +kernel, rfl⟩
theorem eL_law_274 : zD cL_law 274 (.aload_n 2) 1 275 := ⟨by decide +kernel, rfl⟩
theorem eL_law_275 : zD cL_law 275 (.aload_n 0) 1 276 := ⟨by decide +kernel, rfl⟩
theorem eL_law_276 : zD cL_law 276 (.iload 4) 2 278 := ⟨by decide +kernel, rfl⟩
theorem eL_law_278 : zD cL_law 278 (.iconst 1) 1 279 := ⟨by decide +kernel, rfl⟩
theorem eL_law_279 : zD cL_law 279 (.iadd) 1 280 := ⟨by decide +kernel, rfl⟩
theorem eL_law_280 : zD cL_law 280 (.iaload) 1 281 := ⟨by decide +kernel, rfl⟩
theorem eL_law_281 : zD cL_law 281 (.aload_n 0) 1 282 := ⟨by decide +kernel, rfl⟩
theorem eL_law_282 : zD cL_law 282 (.iload 4) 2 284 := ⟨by decide +kernel, rfl⟩
theorem eL_law_284 : zD cL_law 284 (.iconst 2) 1 285 := ⟨by decide +kernel, rfl⟩
theorem eL_law_285 : zD cL_law 285 (.iadd) 1 286 := ⟨by decide +kernel, rfl⟩
theorem eL_law_286 : zD cL_law 286 (.iaload) 1 287 := ⟨by decide +kernel, rfl⟩
theorem eL_law_287 : zD cL_law 287 (.aload_n 0) 1 288 := ⟨by decide +kernel, rfl⟩
theorem eL_law_288 : zD cL_law 288 (.iload 4) 2 290 := ⟨by decide +kernel, rfl⟩
theorem eL_law_290 : zD cL_law 290 (.iconst 3) 1 291 := ⟨by decide +kernel, rfl⟩
theorem eL_law_291 : zD cL_law 291 (.iadd) 1 292 := ⟨by decide +kernel, rfl⟩
theorem eL_law_292 : zD cL_law 292 (.iaload) 1 293 := ⟨by decide +kernel, rfl⟩
theorem eL_law_293 : zD cL_law 293 (.aload_n 0) 1 294 := ⟨by decide +kernel, rfl⟩
theorem eL_law_294 : zD cL_law 294 (.iload 4) 2 296 := ⟨by decide +kernel, rfl⟩
theorem eL_law_296 : zD cL_law 296 (.iconst 4) 1 297 := ⟨by decide +kernel, rfl⟩
theorem eL_law_297 : zD cL_law 297 (.iadd) 1 298 := ⟨by decide +kernel, rfl⟩
theorem eL_law_298 : zD cL_law 298 (.iaload) 1 299 := ⟨by decide +kernel, rfl⟩
theorem eL_law_299 : zD cL_law 299 (.invokevirtual 35) 3 302 := ⟨by decide +kernel, rfl⟩
theorem eL_law_302 : zD cL_law 302 (.if_icmp .eq 988) 3 305 := ⟨by decide +kernel, rfl⟩
theorem eL_law_305 : zD cL_law 305 (.iconst 0) 1 306 := ⟨by decide +kernel, rfl⟩
theorem eL_law_306 : zD cL_law 306 (.ireturn) 1 307 := ⟨by decide +kernel, rfl⟩
theorem eL_law_307 : zD cL_law 307 (.aload_n 1) 1 308 := ⟨by decide +kernel, rfl⟩
theorem eL_law_308 : zD cL_law 308 (.aload_n 0) 1 309 := ⟨by decide +kernel, rfl⟩
theorem eL_law_309 : zD cL_law 309 (.iload 4) 2 311 := ⟨by decide +kernel, rfl⟩
theorem eL_law_311 : zD cL_law 311 (.iconst 1) 1 312 := ⟨by decide +kernel, rfl⟩
theorem eL_law_312 : zD cL_law 312 (.iadd) 1 313 := ⟨by decide +kernel, rfl⟩
theorem eL_law_313 : zD cL_law 313 (.iaload) 1 314 := ⟨by decide +kernel, rfl⟩
theorem eL_law_314 : zD cL_law 314 (.invokevirtual 36) 3 317 := ⟨by decide +kernel, rfl⟩
theorem eL_law_317 : zD cL_law 317 (.aload_n 2) 1 318 := ⟨by decide +kernel, rfl⟩
theorem eL_law_318 : zD cL_law 318 (.aload_n 0) 1 319 := ⟨by decide +kernel, rfl⟩
theorem eL_law_319 : zD cL_law 319 (.iload 4) 2 321 := ⟨by decide +kernel, rfl⟩
theorem eL_law_321 : zD cL_law 321 (.iconst 1) 1 322 := ⟨by decide +kernel, rfl⟩
theorem eL_law_322 : zD cL_law 322 (.iadd) 1 323 := ⟨by decide +kernel, rfl⟩
theorem eL_law_323 : zD cL_law 323 (.iaload) 1 324 := ⟨by decide +kernel, rfl⟩
theorem eL_law_324 : zD cL_law 324 (.invokevirtual 39) 3 327 := ⟨by decide +kernel, rfl⟩
theorem eL_law_327 : zD cL_law 327 (.if_icmp .eq 963) 3 330 := ⟨by decide +kernel, rfl⟩
theorem eL_law_330 : zD cL_law 330 (.iconst 0) 1 331 := ⟨by decide +kernel, rfl⟩
theorem eL_law_331 : zD cL_law 331 (.ireturn) 1 332 := ⟨by decide +kernel, rfl⟩
theorem eL_law_332 : zD cL_law 332 (.aload_n 1) 1 333 := ⟨by decide +kernel, rfl⟩
theorem eL_law_333 : zD cL_law 333 (.aload_n 0) 1 334 := ⟨by decide +kernel, rfl⟩
theorem eL_law_334 : zD cL_law 334 (.iload 4) 2 336 := ⟨by decide +kernel, rfl⟩
theorem eL_law_336 : zD cL_law 336 (.iconst 1) 1 337 := ⟨by decide +kernel, rfl⟩
theorem eL_law_337 : zD cL_law 337 (.iadd) 1 338 := ⟨by decide +kernel, rfl⟩
theorem eL_law_338 : zD cL_law 338 (.iaload) 1 339 := ⟨by decide +kernel, rfl⟩
theorem eL_law_339 : zD cL_law 339 (.invokevirtual 40) 3 342 := ⟨by decide +kernel, rfl⟩
theorem eL_law_342 : zD cL_law 342 (.aload_n 2) 1 343 := ⟨by decide +kernel, rfl⟩
theorem eL_law_343 : zD cL_law 343 (.aload_n 0) 1 344 := ⟨by decide +kernel, rfl⟩
theorem eL_law_344 : zD cL_law 344 (.iload 4) 2 346 := ⟨by decide +kernel, rfl⟩
theorem eL_law_346 : zD cL_law 346 (.iconst 1) 1 347 := ⟨by decide +kernel, rfl⟩
theorem eL_law_347 : zD cL_law 347 (.iadd) 1 348 := ⟨by decide +kernel, rfl⟩
theorem eL_law_348 : zD cL_law 348 (.iaload) 1 349 := ⟨by decide +kernel, rfl⟩
theorem eL_law_349 : zD cL_law 349 (.invokevirtual 43) 3 352 := ⟨by decide +kernel, rfl⟩
theorem eL_law_352 : zD cL_law 352 (.if_icmp .eq 938) 3 355 := ⟨by decide +kernel, rfl⟩
theorem eL_law_355 : zD cL_law 355 (.iconst 0) 1 356 := ⟨by decide +kernel, rfl⟩
theorem eL_law_356 : zD cL_law 356 (.ireturn) 1 357 := ⟨by decide +kernel, rfl⟩
theorem eL_law_357 : zD cL_law 357 (.aload_n 1) 1 358 := ⟨by decide +kernel, rfl⟩
theorem eL_law_358 : zD cL_law 358 (.aload_n 0) 1 359 := ⟨by decide +kernel, rfl⟩
theorem eL_law_359 : zD cL_law 359 (.iload 4) 2 361 := ⟨by decide +kernel, rfl⟩
theorem eL_law_361 : zD cL_law 361 (.iconst 1) 1 362 := ⟨by decide +kernel, rfl⟩
theorem eL_law_362 : zD cL_law 362 (.iadd) 1 363 := ⟨by decide +kernel, rfl⟩
theorem eL_law_363 : zD cL_law 363 (.iaload) 1 364 := ⟨by decide +kernel, rfl⟩
theorem eL_law_364 : zD cL_law 364 (.aload_n 0) 1 365 := ⟨by decide +kernel, rfl⟩
theorem eL_law_365 : zD cL_law 365 (.iload 4) 2 367 := ⟨by decide +kernel, rfl⟩
theorem eL_law_367 : zD cL_law 367 (.iconst 2) 1 368 := ⟨by decide +kernel, rfl⟩
theorem eL_law_368 : zD cL_law 368 (.iadd) 1 369 := ⟨by decide +kernel, rfl⟩
theorem eL_law_369 : zD cL_law 369 (.iaload) 1 370 := ⟨by decide +kernel, rfl⟩
theorem eL_law_370 : zD cL_law 370 (.invokevirtual 44) 3 373 := ⟨by decide +kernel, rfl⟩
theorem eL_law_373 : zD cL_law 373 (.aload_n 2) 1 374 := ⟨by decide +kernel, rfl⟩
theorem eL_law_374 : zD cL_law 374 (.aload_n 0) 1 375 := ⟨by decide +kernel, rfl⟩
theorem eL_law_375 : zD cL_law 375 (.iload 4) 2 377 := ⟨by decide +kernel, rfl⟩
theorem eL_law_377 : zD cL_law 377 (.iconst 1) 1 378 := ⟨by decide +kernel, rfl⟩
theorem eL_law_378 : zD cL_law 378 (.iadd) 1 379 := ⟨by decide +kernel, rfl⟩
theorem eL_law_379 : zD cL_law 379 (.iaload) 1 380 := ⟨by decide +kernel, rfl⟩
theorem eL_law_380 : zD cL_law 380 (.aload_n 0) 1 381 := ⟨by decide +kernel, rfl⟩
theorem eL_law_381 : zD cL_law 381 (.iload 4) 2 383 := ⟨by decide +kernel, rfl⟩
theorem eL_law_383 : zD cL_law 383 (.iconst 2) 1 384 := ⟨by decide +kernel, rfl⟩
theorem eL_law_384 : zD cL_law 384 (.iadd) 1 385 := ⟨by decide +kernel, rfl⟩
theorem eL_law_385 : zD cL_law 385 (.iaload) 1 386 := ⟨by decide +kernel, rfl⟩
theorem eL_law_386 : zD cL_law 386 (.invokevirtual 47) 3 389 := ⟨by decide +kernel, rfl⟩
theorem eL_law_389 : zD cL_law 389 (.if_icmp .eq 901) 3 392 := ⟨by decide +kernel, rfl⟩
theorem eL_law_392 : zD cL_law 392 (.iconst 0) 1 393 := ⟨by decide +kernel, rfl⟩
theorem eL_law_393 : zD cL_law 393 (.ireturn) 1 394 := ⟨by decide +kernel, rfl⟩
theorem eL_law_394 : zD cL_law 394 (.aload_n 1) 1 395 := ⟨by decide +kernel, rfl⟩
theorem eL_law_395 : zD cL_law 395 (.aload_n 0) 1 396 := ⟨by decide +kernel, rfl⟩
theorem eL_law_396 : zD cL_law 396 (.iload 4) 2 398 := ⟨by decide +kernel, rfl⟩
theorem eL_law_398 : zD cL_law 398 (.iconst 1) 1 399 := ⟨by decide +kernel, rfl⟩
theorem eL_law_399 : zD cL_law 399 (.iadd) 1 400 := ⟨by decide +kernel, rfl⟩
theorem eL_law_400 : zD cL_law 400 (.iaload) 1 401 := ⟨by decide +kernel, rfl⟩
theorem eL_law_401 : zD cL_law 401 (.invokevirtual 48) 3 404 := ⟨by decide +kernel, rfl⟩
theorem eL_law_404 : zD cL_law 404 (.aload_n 2) 1 405 := ⟨by decide +kernel, rfl⟩
theorem eL_law_405 : zD cL_law 405 (.aload_n 0) 1 406 := ⟨by decide +kernel, rfl⟩
theorem eL_law_406 : zD cL_law 406 (.iload 4) 2 408 := ⟨by decide +kernel, rfl⟩
theorem eL_law_408 : zD cL_law 408 (.iconst 1) 1 409 := ⟨by decide +kernel, rfl⟩
theorem eL_law_409 : zD cL_law 409 (.iadd) 1 410 := ⟨by decide +kernel, rfl⟩
theorem eL_law_410 : zD cL_law 410 (.iaload) 1 411 := ⟨by decide +kernel, rfl⟩
theorem eL_law_411 : zD cL_law 411 (.invokevirtual 51) 3 414 := ⟨by decide +kernel, rfl⟩
theorem eL_law_414 : zD cL_law 414 (.if_icmp .eq 876) 3 417 := ⟨by decide +kernel, rfl⟩
theorem eL_law_417 : zD cL_law 417 (.iconst 0) 1 418 := ⟨by decide +kernel, rfl⟩
theorem eL_law_418 : zD cL_law 418 (.ireturn) 1 419 := ⟨by decide +kernel, rfl⟩
theorem eL_law_419 : zD cL_law 419 (.aload_n 1) 1 420 := ⟨by decide +kernel, rfl⟩
theorem eL_law_420 : zD cL_law 420 (.aload_n 0) 1 421 := ⟨by decide +kernel, rfl⟩
theorem eL_law_421 : zD cL_law 421 (.iload 4) 2 423 := ⟨by decide +kernel, rfl⟩
theorem eL_law_423 : zD cL_law 423 (.iconst 1) 1 424 := ⟨by decide +kernel, rfl⟩
theorem eL_law_424 : zD cL_law 424 (.iadd) 1 425 := ⟨by decide +kernel, rfl⟩
theorem eL_law_425 : zD cL_law 425 (.iaload) 1 426 := ⟨by decide +kernel, rfl⟩
theorem eL_law_426 : zD cL_law 426 (.invokevirtual 52) 3 429 := ⟨by decide +kernel, rfl⟩
theorem eL_law_429 : zD cL_law 429 (.aload_n 2) 1 430 := ⟨by decide +kernel, rfl⟩
theorem eL_law_430 : zD cL_law 430 (.aload_n 0) 1 431 := ⟨by decide +kernel, rfl⟩
theorem eL_law_431 : zD cL_law 431 (.iload 4) 2 433 := ⟨by decide +kernel, rfl⟩
theorem eL_law_433 : zD cL_law 433 (.iconst 1) 1 434 := ⟨by decide +kernel, rfl⟩
theorem eL_law_434 : zD cL_law 434 (.iadd) 1 435 := ⟨by decide +kernel, rfl⟩
theorem eL_law_435 : zD cL_law 435 (.iaload) 1 436 := ⟨by decide +kernel, rfl⟩
theorem eL_law_436 : zD cL_law 436 (.invokevirtual 55) 3 439 := ⟨by decide +kernel, rfl⟩
theorem eL_law_439 : zD cL_law 439 (.if_icmp .eq 851) 3 442 := ⟨by decide +kernel, rfl⟩
theorem eL_law_442 : zD cL_law 442 (.iconst 0) 1 443 := ⟨by decide +kernel, rfl⟩
theorem eL_law_443 : zD cL_law 443 (.ireturn) 1 444 := ⟨by decide +kernel, rfl⟩
theorem eL_law_444 : zD cL_law 444 (.aload_n 1) 1 445 := ⟨by decide +kernel, rfl⟩
theorem eL_law_445 : zD cL_law 445 (.aload_n 0) 1 446 := ⟨by decide +kernel, rfl⟩
theorem eL_law_446 : zD cL_law 446 (.iload 4) 2 448 := ⟨by decide +kernel, rfl⟩
theorem eL_law_448 : zD cL_law 448 (.iconst 1) 1 449 := ⟨by decide +kernel, rfl⟩
theorem eL_law_449 : zD cL_law 449 (.iadd) 1 450 := ⟨by decide +kernel, rfl⟩
theorem eL_law_450 : zD cL_law 450 (.iaload) 1 451 := ⟨by decide +kernel, rfl⟩
theorem eL_law_451 : zD cL_law 451 (.aload_n 0) 1 452 := ⟨by decide +kernel, rfl⟩
theorem eL_law_452 : zD cL_law 452 (.iload 4) 2 454 := ⟨by decide +kernel, rfl⟩
theorem eL_law_454 : zD cL_law 454 (.iconst 2) 1 455 := ⟨by decide +kernel, rfl⟩
theorem eL_law_455 : zD cL_law 455 (.iadd) 1 456 := ⟨by decide +kernel, rfl⟩
theorem eL_law_456 : zD cL_law 456 (.iaload) 1 457 := ⟨by decide +kernel, rfl⟩
theorem eL_law_457 : zD cL_law 457 (.invokevirtual 56) 3 460 := ⟨by decide +kernel, rfl⟩
theorem eL_law_460 : zD cL_law 460 (.aload_n 2) 1 461 := ⟨by decide +kernel, rfl⟩
theorem eL_law_461 : zD cL_law 461 (.aload_n 0) 1 462 := ⟨by decide +kernel, rfl⟩
theorem eL_law_462 : zD cL_law 462 (.iload 4) 2 464 := ⟨by decide +kernel, rfl⟩
theorem eL_law_464 : zD cL_law 464 (.iconst 1) 1 465 := ⟨by decide +kernel, rfl⟩
theorem eL_law_465 : zD cL_law 465 (.iadd) 1 466 := ⟨by decide +kernel, rfl⟩
theorem eL_law_466 : zD cL_law 466 (.iaload) 1 467 := ⟨by decide +kernel, rfl⟩
theorem eL_law_467 : zD cL_law 467 (.aload_n 0) 1 468 := ⟨by decide +kernel, rfl⟩
theorem eL_law_468 : zD cL_law 468 (.iload 4) 2 470 := ⟨by decide +kernel, rfl⟩
theorem eL_law_470 : zD cL_law 470 (.iconst 2) 1 471 := ⟨by decide +kernel, rfl⟩
theorem eL_law_471 : zD cL_law 471 (.iadd) 1 472 := ⟨by decide +kernel, rfl⟩
theorem eL_law_472 : zD cL_law 472 (.iaload) 1 473 := ⟨by decide +kernel, rfl⟩
theorem eL_law_473 : zD cL_law 473 (.invokevirtual 59) 3 476 := ⟨by decide +kernel, rfl⟩
theorem eL_law_476 : zD cL_law 476 (.if_icmp .eq 814) 3 479 := ⟨by decide +kernel, rfl⟩
theorem eL_law_479 : zD cL_law 479 (.iconst 0) 1 480 := ⟨by decide +kernel, rfl⟩
theorem eL_law_480 : zD cL_law 480 (.ireturn) 1 481 := ⟨by decide +kernel, rfl⟩
theorem eL_law_481 : zD cL_law 481 (.aload_n 1) 1 482 := ⟨by decide +kernel, rfl⟩
theorem eL_law_482 : zD cL_law 482 (.invokevirtual 60) 3 485 := ⟨by decide +kernel, rfl⟩
theorem eL_law_485 : zD cL_law 485 (.aload_n 2) 1 486 := ⟨by decide +kernel, rfl⟩
theorem eL_law_486 : zD cL_law 486 (.invokevirtual 64) 3 489 := ⟨by decide +kernel, rfl⟩
theorem eL_law_489 : zD cL_law 489 (.if_icmp .eq 801) 3 492 := ⟨by decide +kernel, rfl⟩
theorem eL_law_492 : zD cL_law 492 (.iconst 0) 1 493 := ⟨by decide +kernel, rfl⟩
theorem eL_law_493 : zD cL_law 493 (.ireturn) 1 494 := ⟨by decide +kernel, rfl⟩
theorem eL_law_494 : zD cL_law 494 (.aload_n 1) 1 495 := ⟨by decide +kernel, rfl⟩
theorem eL_law_495 : zD cL_law 495 (.aload_n 0) 1 496 := ⟨by decide +kernel, rfl⟩
theorem eL_law_496 : zD cL_law 496 (.iload 4) 2 498 := ⟨by decide +kernel, rfl⟩
theorem eL_law_498 : zD cL_law 498 (.iconst 1) 1 499 := ⟨by decide +kernel, rfl⟩
theorem eL_law_499 : zD cL_law 499 (.iadd) 1 500 := ⟨by decide +kernel, rfl⟩
theorem eL_law_500 : zD cL_law 500 (.iaload) 1 501 := ⟨by decide +kernel, rfl⟩
theorem eL_law_501 : zD cL_law 501 (.invokevirtual 65) 3 504 := ⟨by decide +kernel, rfl⟩
theorem eL_law_504 : zD cL_law 504 (.aload_n 2) 1 505 := ⟨by decide +kernel, rfl⟩
theorem eL_law_505 : zD cL_law 505 (.aload_n 0) 1 506 := ⟨by decide +kernel, rfl⟩
theorem eL_law_506 : zD cL_law 506 (.iload 4) 2 508 := ⟨by decide +kernel, rfl⟩
theorem eL_law_508 : zD cL_law 508 (.iconst 1) 1 509 := ⟨by decide +kernel, rfl⟩
theorem eL_law_509 : zD cL_law 509 (.iadd) 1 510 := ⟨by decide +kernel, rfl⟩
theorem eL_law_510 : zD cL_law 510 (.iaload) 1 511 := ⟨by decide +kernel, rfl⟩
theorem eL_law_511 : zD cL_law 511 (.invokevirtual 68) 3 514 := ⟨by decide +kernel, rfl⟩
theorem eL_law_514 : zD cL_law 514 (.if_icmp .eq 776) 3 517 := ⟨by decide +kernel, rfl⟩
theorem eL_law_517 : zD cL_law 517 (.iconst 0) 1 518 := ⟨by decide +kernel, rfl⟩
theorem eL_law_518 : zD cL_law 518 (.ireturn) 1 519 := ⟨by decide +kernel, rfl⟩
theorem eL_law_519 : zD cL_law 519 (.aload_n 1) 1 520 := ⟨by decide +kernel, rfl⟩
theorem eL_law_520 : zD cL_law 520 (.invokevirtual 69) 3 523 := ⟨by decide +kernel, rfl⟩
theorem eL_law_523 : zD cL_law 523 (.aload_n 2) 1 524 := ⟨by decide +kernel, rfl⟩
theorem eL_law_524 : zD cL_law 524 (.invokevirtual 72) 3 527 := ⟨by decide +kernel, rfl⟩
theorem eL_law_527 : zD cL_law 527 (.if_icmp .eq 763) 3 530 := ⟨by decide +kernel, rfl⟩
theorem eL_law_530 : zD cL_law 530 (.iconst 0) 1 531 := ⟨by decide +kernel, rfl⟩
theorem eL_law_531 : zD cL_law 531 (.ireturn) 1 532 := ⟨by decide +kernel, rfl⟩
theorem eL_law_532 : zD cL_law 532 (.aload_n 1) 1 533 := ⟨by decide +kernel, rfl⟩
theorem eL_law_533 : zD cL_law 533 (.aload_n 0) 1 534 := ⟨by decide +kernel, rfl⟩
theorem eL_law_534 : zD cL_law 534 (.iload 4) 2 536 := ⟨by decide +kernel, rfl⟩
theorem eL_law_536 : zD cL_law 536 (.iconst 1) 1 537 := ⟨by decide +kernel, rfl⟩
theorem eL_law_537 : zD cL_law 537 (.iadd) 1 538 := ⟨by decide +kernel, rfl⟩
theorem eL_law_538 : zD cL_law 538 (.iaload) 1 539 := ⟨by decide +kernel, rfl⟩
theorem eL_law_539 : zD cL_law 539 (.invokevirtual 73) 3 542 := ⟨by decide +kernel, rfl⟩
theorem eL_law_542 : zD cL_law 542 (.aload_n 2) 1 543 := ⟨by decide +kernel, rfl⟩
theorem eL_law_543 : zD cL_law 543 (.aload_n 0) 1 544 := ⟨by decide +kernel, rfl⟩
theorem eL_law_544 : zD cL_law 544 (.iload 4) 2 546 := ⟨by decide +kernel, rfl⟩
theorem eL_law_546 : zD cL_law 546 (.iconst 1) 1 547 := ⟨by decide +kernel, rfl⟩
theorem eL_law_547 : zD cL_law 547 (.iadd) 1 548 := ⟨by decide +kernel, rfl⟩
theorem eL_law_548 : zD cL_law 548 (.iaload) 1 549 := ⟨by decide +kernel, rfl⟩
theorem eL_law_549 : zD cL_law 549 (.invokevirtual 76) 3 552 := ⟨by decide +kernel, rfl⟩
theorem eL_law_552 : zD cL_law 552 (.if_icmp .eq 738) 3 555 := ⟨by decide +kernel, rfl⟩
theorem eL_law_555 : zD cL_law 555 (.iconst 0) 1 556 := ⟨by decide +kernel, rfl⟩
theorem eL_law_556 : zD cL_law 556 (.ireturn) 1 557 := ⟨by decide +kernel, rfl⟩
theorem eL_law_557 : zD cL_law 557 (.aload_n 1) 1 558 := ⟨by decide +kernel, rfl⟩
theorem eL_law_558 : zD cL_law 558 (.aload_n 0) 1 559 := ⟨by decide +kernel, rfl⟩
theorem eL_law_559 : zD cL_law 559 (.iload 4) 2 561 := ⟨by decide +kernel, rfl⟩
theorem eL_law_561 : zD cL_law 561 (.iconst 1) 1 562 := ⟨by decide +kernel, rfl⟩
theorem eL_law_562 : zD cL_law 562 (.iadd) 1 563 := ⟨by decide +kernel, rfl⟩
theorem eL_law_563 : zD cL_law 563 (.iaload) 1 564 := ⟨by decide +kernel, rfl⟩
theorem eL_law_564 : zD cL_law 564 (.invokevirtual 77) 3 567 := ⟨by decide +kernel, rfl⟩
theorem eL_law_567 : zD cL_law 567 (.aload_n 2) 1 568 := ⟨by decide +kernel, rfl⟩
theorem eL_law_568 : zD cL_law 568 (.aload_n 0) 1 569 := ⟨by decide +kernel, rfl⟩
theorem eL_law_569 : zD cL_law 569 (.iload 4) 2 571 := ⟨by decide +kernel, rfl⟩
theorem eL_law_571 : zD cL_law 571 (.iconst 1) 1 572 := ⟨by decide +kernel, rfl⟩
theorem eL_law_572 : zD cL_law 572 (.iadd) 1 573 := ⟨by decide +kernel, rfl⟩
theorem eL_law_573 : zD cL_law 573 (.iaload) 1 574 := ⟨by decide +kernel, rfl⟩
theorem eL_law_574 : zD cL_law 574 (.invokevirtual 80) 3 577 := ⟨by decide +kernel, rfl⟩
theorem eL_law_577 : zD cL_law 577 (.if_icmp .eq 713) 3 580 := ⟨by decide +kernel, rfl⟩
theorem eL_law_580 : zD cL_law 580 (.iconst 0) 1 581 := ⟨by decide +kernel, rfl⟩
theorem eL_law_581 : zD cL_law 581 (.ireturn) 1 582 := ⟨by decide +kernel, rfl⟩
theorem eL_law_582 : zD cL_law 582 (.aload_n 1) 1 583 := ⟨by decide +kernel, rfl⟩
theorem eL_law_583 : zD cL_law 583 (.invokevirtual 81) 3 586 := ⟨by decide +kernel, rfl⟩
theorem eL_law_586 : zD cL_law 586 (.aload_n 2) 1 587 := ⟨by decide +kernel, rfl⟩
theorem eL_law_587 : zD cL_law 587 (.invokevirtual 84) 3 590 := ⟨by decide +kernel, rfl⟩
theorem eL_law_590 : zD cL_law 590 (.if_icmp .eq 700) 3 593 := ⟨by decide +kernel, rfl⟩
theorem eL_law_593 : zD cL_law 593 (.iconst 0) 1 594 := ⟨by decide +kernel, rfl⟩
theorem eL_law_594 : zD cL_law 594 (.ireturn) 1 595 := ⟨by decide +kernel, rfl⟩
theorem eL_law_595 : zD cL_law 595 (.aload_n 1) 1 596 := ⟨by decide +kernel, rfl⟩
theorem eL_law_596 : zD cL_law 596 (.aload_n 0) 1 597 := ⟨by decide +kernel, rfl⟩
theorem eL_law_597 : zD cL_law 597 (.iload 4) 2 599 := ⟨by decide +kernel, rfl⟩
theorem eL_law_599 : zD cL_law 599 (.iconst 1) 1 600 := ⟨by decide +kernel, rfl⟩
theorem eL_law_600 : zD cL_law 600 (.iadd) 1 601 := ⟨by decide +kernel, rfl⟩
theorem eL_law_601 : zD cL_law 601 (.iaload) 1 602 := ⟨by decide +kernel, rfl⟩
theorem eL_law_602 : zD cL_law 602 (.aload_n 0) 1 603 := ⟨by decide +kernel, rfl⟩
theorem eL_law_603 : zD cL_law 603 (.iload 4) 2 605 := ⟨by decide +kernel, rfl⟩
theorem eL_law_605 : zD cL_law 605 (.iconst 2) 1 606 := ⟨by decide +kernel, rfl⟩
theorem eL_law_606 : zD cL_law 606 (.iadd) 1 607 := ⟨by decide +kernel, rfl⟩
theorem eL_law_607 : zD cL_law 607 (.iaload) 1 608 := ⟨by decide +kernel, rfl⟩
theorem eL_law_608 : zD cL_law 608 (.invokevirtual 85) 3 611 := ⟨by decide +kernel, rfl⟩
theorem eL_law_611 : zD cL_law 611 (.aload_n 2) 1 612 := ⟨by decide +kernel, rfl⟩
theorem eL_law_612 : zD cL_law 612 (.aload_n 0) 1 613 := ⟨by decide +kernel, rfl⟩
theorem eL_law_613 : zD cL_law 613 (.iload 4) 2 615 := ⟨by decide +kernel, rfl⟩
theorem eL_law_615 : zD cL_law 615 (.iconst 1) 1 616 := ⟨by decide +kernel, rfl⟩
theorem eL_law_616 : zD cL_law 616 (.iadd) 1 617 := ⟨by decide +kernel, rfl⟩
theorem eL_law_617 : zD cL_law 617 (.iaload) 1 618 := ⟨by decide +kernel, rfl⟩
theorem eL_law_618 : zD cL_law 618 (.aload_n 0) 1 619 := ⟨by decide +kernel, rfl⟩
theorem eL_law_619 : zD cL_law 619 (.iload 4) 2 621 := ⟨by decide +kernel, rfl⟩
theorem eL_law_621 : zD cL_law 621 (.iconst 2) 1 622 := ⟨by decide +kernel, rfl⟩
theorem eL_law_622 : zD cL_law 622 (.iadd) 1 623 := ⟨by decide +kernel, rfl⟩
theorem eL_law_623 : zD cL_law 623 (.iaload) 1 624 := ⟨by decide +kernel, rfl⟩
theorem eL_law_624 : zD cL_law 624 (.invokevirtual 88) 3 627 := ⟨by decide +kernel, rfl⟩
theorem eL_law_627 : zD cL_law 627 (.if_icmp .eq 663) 3 630 := ⟨by decide +kernel, rfl⟩
theorem eL_law_630 : zD cL_law 630 (.iconst 0) 1 631 := ⟨by decide +kernel, rfl⟩
theorem eL_law_631 : zD cL_law 631 (.ireturn) 1 632 := ⟨by decide +kernel, rfl⟩
theorem eL_law_632 : zD cL_law 632 (.aload_n 1) 1 633 := ⟨by decide +kernel, rfl⟩
theorem eL_law_633 : zD cL_law 633 (.aload_n 0) 1 634 := ⟨by decide +kernel, rfl⟩
theorem eL_law_634 : zD cL_law 634 (.iload 4) 2 636 := ⟨by decide +kernel, rfl⟩
theorem eL_law_636 : zD cL_law 636 (.iconst 1) 1 637 := ⟨by decide +kernel, rfl⟩
theorem eL_law_637 : zD cL_law 637 (.iadd) 1 638 := ⟨by decide +kernel, rfl⟩
theorem eL_law_638 : zD cL_law 638 (.iaload) 1 639 := ⟨by decide +kernel, rfl⟩
theorem eL_law_639 : zD cL_law 639 (.aload_n 0) 1 640 := ⟨by decide +kernel, rfl⟩
theorem eL_law_640 : zD cL_law 640 (.iload 4) 2 642 := ⟨by decide +kernel, rfl⟩
theorem eL_law_642 : zD cL_law 642 (.iconst 2) 1 643 := ⟨by decide +kernel, rfl⟩
theorem eL_law_643 : zD cL_law 643 (.iadd) 1 644 := ⟨by decide +kernel, rfl⟩
theorem eL_law_644 : zD cL_law 644 (.iaload) 1 645 := ⟨by decide +kernel, rfl⟩
theorem eL_law_645 : zD cL_law 645 (.invokevirtual 89) 3 648 := ⟨by decide +kernel, rfl⟩
theorem eL_law_648 : zD cL_law 648 (.aload_n 2) 1 649 := ⟨by decide +kernel, rfl⟩
theorem eL_law_649 : zD cL_law 649 (.aload_n 0) 1 650 := ⟨by decide +kernel, rfl⟩
theorem eL_law_650 : zD cL_law 650 (.iload 4) 2 652 := ⟨by decide +kernel, rfl⟩
theorem eL_law_652 : zD cL_law 652 (.iconst 1) 1 653 := ⟨by decide +kernel, rfl⟩
theorem eL_law_653 : zD cL_law 653 (.iadd) 1 654 := ⟨by decide +kernel, rfl⟩
theorem eL_law_654 : zD cL_law 654 (.iaload) 1 655 := ⟨by decide +kernel, rfl⟩
theorem eL_law_655 : zD cL_law 655 (.aload_n 0) 1 656 := ⟨by decide +kernel, rfl⟩
theorem eL_law_656 : zD cL_law 656 (.iload 4) 2 658 := ⟨by decide +kernel, rfl⟩
theorem eL_law_658 : zD cL_law 658 (.iconst 2) 1 659 := ⟨by decide +kernel, rfl⟩
theorem eL_law_659 : zD cL_law 659 (.iadd) 1 660 := ⟨by decide +kernel, rfl⟩
theorem eL_law_660 : zD cL_law 660 (.iaload) 1 661 := ⟨by decide +kernel, rfl⟩
theorem eL_law_661 : zD cL_law 661 (.invokevirtual 92) 3 664 := ⟨by decide +kernel, rfl⟩
theorem eL_law_664 : zD cL_law 664 (.if_icmp .eq 626) 3 667 := ⟨by decide +kernel, rfl⟩
theorem eL_law_667 : zD cL_law 667 (.iconst 0) 1 668 := ⟨by decide +kernel, rfl⟩
theorem eL_law_668 : zD cL_law 668 (.ireturn) 1 669 := ⟨by decide +kernel, rfl⟩
theorem eL_law_669 : zD cL_law 669 (.aload_n 1) 1 670 := ⟨by decide +kernel, rfl⟩
theorem eL_law_670 : zD cL_law 670 (.aload_n 0) 1 671 := ⟨by decide +kernel, rfl⟩
theorem eL_law_671 : zD cL_law 671 (.iload 4) 2 673 := ⟨by decide +kernel, rfl⟩
theorem eL_law_673 : zD cL_law 673 (.iconst 1) 1 674 := ⟨by decide +kernel, rfl⟩
theorem eL_law_674 : zD cL_law 674 (.iadd) 1 675 := ⟨by decide +kernel, rfl⟩
theorem eL_law_675 : zD cL_law 675 (.iaload) 1 676 := ⟨by decide +kernel, rfl⟩
theorem eL_law_676 : zD cL_law 676 (.invokevirtual 93) 3 679 := ⟨by decide +kernel, rfl⟩
theorem eL_law_679 : zD cL_law 679 (.aload_n 2) 1 680 := ⟨by decide +kernel, rfl⟩
theorem eL_law_680 : zD cL_law 680 (.aload_n 0) 1 681 := ⟨by decide +kernel, rfl⟩
theorem eL_law_681 : zD cL_law 681 (.iload 4) 2 683 := ⟨by decide +kernel, rfl⟩
theorem eL_law_683 : zD cL_law 683 (.iconst 1) 1 684 := ⟨by decide +kernel, rfl⟩
theorem eL_law_684 : zD cL_law 684 (.iadd) 1 685 := ⟨by decide +kernel, rfl⟩
theorem eL_law_685 : zD cL_law 685 (.iaload) 1 686 := ⟨by decide +kernel, rfl⟩
theorem eL_law_686 : zD cL_law 686 (.invokevirtual 96) 3 689 := ⟨by decide +kernel, rfl⟩
theorem eL_law_689 : zD cL_law 689 (.if_icmp .eq 601) 3 692 := ⟨by decide +kernel, rfl⟩
theorem eL_law_692 : zD cL_law 692 (.iconst 0) 1 693 := ⟨by decide +kernel, rfl⟩
theorem eL_law_693 : zD cL_law 693 (.ireturn) 1 694 := ⟨by decide +kernel, rfl⟩
theorem eL_law_694 : zD cL_law 694 (.aload_n 1) 1 695 := ⟨by decide +kernel, rfl⟩
theorem eL_law_695 : zD cL_law 695 (.aload_n 0) 1 696 := ⟨by decide +kernel, rfl⟩
theorem eL_law_696 : zD cL_law 696 (.iload 4) 2 698 := ⟨by decide +kernel, rfl⟩
theorem eL_law_698 : zD cL_law 698 (.iconst 1) 1 699 := ⟨by decide +kernel, rfl⟩
theorem eL_law_699 : zD cL_law 699 (.iadd) 1 700 := ⟨by decide +kernel, rfl⟩
theorem eL_law_700 : zD cL_law 700 (.iaload) 1 701 := ⟨by decide +kernel, rfl⟩
theorem eL_law_701 : zD cL_law 701 (.aload_n 0) 1 702 := ⟨by decide +kernel, rfl⟩
theorem eL_law_702 : zD cL_law 702 (.iload 4) 2 704 := ⟨by decide +kernel, rfl⟩
theorem eL_law_704 : zD cL_law 704 (.iconst 2) 1 705 := ⟨by decide +kernel, rfl⟩
theorem eL_law_705 : zD cL_law 705 (.iadd) 1 706 := ⟨by decide +kernel, rfl⟩
theorem eL_law_706 : zD cL_law 706 (.iaload) 1 707 := ⟨by decide +kernel, rfl⟩
theorem eL_law_707 : zD cL_law 707 (.aload_n 0) 1 708 := ⟨by decide +kernel, rfl⟩
theorem eL_law_708 : zD cL_law 708 (.iload 4) 2 710 := ⟨by decide +kernel, rfl⟩
theorem eL_law_710 : zD cL_law 710 (.iconst 3) 1 711 := ⟨by decide +kernel, rfl⟩
theorem eL_law_711 : zD cL_law 711 (.iadd) 1 712 := ⟨by decide +kernel, rfl⟩
theorem eL_law_712 : zD cL_law 712 (.iaload) 1 713 := ⟨by decide +kernel, rfl⟩
theorem eL_law_713 : zD cL_law 713 (.invokevirtual 97) 3 716 := ⟨by decide +kernel, rfl⟩
theorem eL_law_716 : zD cL_law 716 (.aload_n 2) 1 717 := ⟨by decide +kernel, rfl⟩
theorem eL_law_717 : zD cL_law 717 (.aload_n 0) 1 718 := ⟨by decide +kernel, rfl⟩
theorem eL_law_718 : zD cL_law 718 (.iload 4) 2 720 := ⟨by decide +kernel, rfl⟩
theorem eL_law_720 : zD cL_law 720 (.iconst 1) 1 721 := ⟨by decide +kernel, rfl⟩
theorem eL_law_721 : zD cL_law 721 (.iadd) 1 722 := ⟨by decide +kernel, rfl⟩
theorem eL_law_722 : zD cL_law 722 (.iaload) 1 723 := ⟨by decide +kernel, rfl⟩
theorem eL_law_723 : zD cL_law 723 (.aload_n 0) 1 724 := ⟨by decide +kernel, rfl⟩
theorem eL_law_724 : zD cL_law 724 (.iload 4) 2 726 := ⟨by decide +kernel, rfl⟩
theorem eL_law_726 : zD cL_law 726 (.iconst 2) 1 727 := ⟨by decide +kernel, rfl⟩
theorem eL_law_727 : zD cL_law 727 (.iadd) 1 728 := ⟨by decide +kernel, rfl⟩
theorem eL_law_728 : zD cL_law 728 (.iaload) 1 729 := ⟨by decide +kernel, rfl⟩
theorem eL_law_729 : zD cL_law 729 (.aload_n 0) 1 730 := ⟨by decide +kernel, rfl⟩
theorem eL_law_730 : zD cL_law 730 (.iload 4) 2 732 := ⟨by decide +kernel, rfl⟩
theorem eL_law_732 : zD cL_law 732 (.iconst 3) 1 733 := ⟨by decide +kernel, rfl⟩
theorem eL_law_733 : zD cL_law 733 (.iadd) 1 734 := ⟨by decide +kernel, rfl⟩
theorem eL_law_734 : zD cL_law 734 (.iaload) 1 735 := ⟨by decide +kernel, rfl⟩
theorem eL_law_735 : zD cL_law 735 (.invokevirtual 101) 3 738 := ⟨by decide +kernel, rfl⟩
theorem eL_law_738 : zD cL_law 738 (.if_icmp .eq 552) 3 741 := ⟨by decide +kernel, rfl⟩
theorem eL_law_741 : zD cL_law 741 (.iconst 0) 1 742 := ⟨by decide +kernel, rfl⟩
theorem eL_law_742 : zD cL_law 742 (.ireturn) 1 743 := ⟨by decide +kernel, rfl⟩
theorem eL_law_743 : zD cL_law 743 (.aload_n 1) 1 744 := ⟨by decide +kernel, rfl⟩
theorem eL_law_744 : zD cL_law 744 (.aload_n 0) 1 745 := ⟨by decide +kernel, rfl⟩
theorem eL_law_745 : zD cL_law 745 (.iload 4) 2 747 := ⟨by decide +kernel, rfl⟩
theorem eL_law_747 : zD cL_law 747 (.iconst 1) 1 748 := ⟨by decide +kernel, rfl⟩
theorem eL_law_748 : zD cL_law 748 (.iadd) 1 749 := ⟨by decide +kernel, rfl⟩
theorem eL_law_749 : zD cL_law 749 (.iaload) 1 750 := ⟨by decide +kernel, rfl⟩
theorem eL_law_750 : zD cL_law 750 (.aload_n 0) 1 751 := ⟨by decide +kernel, rfl⟩
theorem eL_law_751 : zD cL_law 751 (.iload 4) 2 753 := ⟨by decide +kernel, rfl⟩
theorem eL_law_753 : zD cL_law 753 (.iconst 2) 1 754 := ⟨by decide +kernel, rfl⟩
theorem eL_law_754 : zD cL_law 754 (.iadd) 1 755 := ⟨by decide +kernel, rfl⟩
theorem eL_law_755 : zD cL_law 755 (.iaload) 1 756 := ⟨by decide +kernel, rfl⟩
theorem eL_law_756 : zD cL_law 756 (.invokevirtual 102) 3 759 := ⟨by decide +kernel, rfl⟩
theorem eL_law_759 : zD cL_law 759 (.aload_n 2) 1 760 := ⟨by decide +kernel, rfl⟩
theorem eL_law_760 : zD cL_law 760 (.aload_n 0) 1 761 := ⟨by decide +kernel, rfl⟩
theorem eL_law_761 : zD cL_law 761 (.iload 4) 2 763 := ⟨by decide +kernel, rfl⟩
theorem eL_law_763 : zD cL_law 763 (.iconst 1) 1 764 := ⟨by decide +kernel, rfl⟩
theorem eL_law_764 : zD cL_law 764 (.iadd) 1 765 := ⟨by decide +kernel, rfl⟩
theorem eL_law_765 : zD cL_law 765 (.iaload) 1 766 := ⟨by decide +kernel, rfl⟩
theorem eL_law_766 : zD cL_law 766 (.aload_n 0) 1 767 := ⟨by decide +kernel, rfl⟩
theorem eL_law_767 : zD cL_law 767 (.iload 4) 2 769 := ⟨by decide +kernel, rfl⟩
theorem eL_law_769 : zD cL_law 769 (.iconst 2) 1 770 := ⟨by decide +kernel, rfl⟩
theorem eL_law_770 : zD cL_law 770 (.iadd) 1 771 := ⟨by decide +kernel, rfl⟩
theorem eL_law_771 : zD cL_law 771 (.iaload) 1 772 := ⟨by decide +kernel, rfl⟩
theorem eL_law_772 : zD cL_law 772 (.invokevirtual 105) 3 775 := ⟨by decide +kernel, rfl⟩
theorem eL_law_775 : zD cL_law 775 (.if_icmp .eq 515) 3 778 := ⟨by decide +kernel, rfl⟩
theorem eL_law_778 : zD cL_law 778 (.iconst 0) 1 779 := ⟨by decide +kernel, rfl⟩
theorem eL_law_779 : zD cL_law 779 (.ireturn) 1 780 := ⟨by decide +kernel, rfl⟩
theorem eL_law_780 : zD cL_law 780 (.aload_n 1) 1 781 := ⟨by decide +kernel, rfl⟩
theorem eL_law_781 : zD cL_law 781 (.aload_n 0) 1 782 := ⟨by decide +kernel, rfl⟩
theorem eL_law_782 : zD cL_law 782 (.iload 4) 2 784 := ⟨by decide +kernel, rfl⟩
theorem eL_law_784 : zD cL_law 784 (.iconst 1) 1 785 := ⟨by decide +kernel, rfl⟩
theorem eL_law_785 : zD cL_law 785 (.iadd) 1 786 := ⟨by decide +kernel, rfl⟩
theorem eL_law_786 : zD cL_law 786 (.iaload) 1 787 := ⟨by decide +kernel, rfl⟩
theorem eL_law_787 : zD cL_law 787 (.aload_n 0) 1 788 := ⟨by decide +kernel, rfl⟩
theorem eL_law_788 : zD cL_law 788 (.iload 4) 2 790 := ⟨by decide +kernel, rfl⟩
theorem eL_law_790 : zD cL_law 790 (.iconst 2) 1 791 := ⟨by decide +kernel, rfl⟩
theorem eL_law_791 : zD cL_law 791 (.iadd) 1 792 := ⟨by decide +kernel, rfl⟩
theorem eL_law_792 : zD cL_law 792 (.iaload) 1 793 := ⟨by decide +kernel, rfl⟩
theorem eL_law_793 : zD cL_law 793 (.aload_n 0) 1 794 := ⟨by decide +kernel, rfl⟩
theorem eL_law_794 : zD cL_law 794 (.iload 4) 2 796 := ⟨by decide +kernel, rfl⟩
theorem eL_law_796 : zD cL_law 796 (.iconst 3) 1 797 := ⟨by decide +kernel, rfl⟩
theorem eL_law_797 : zD cL_law 797 (.iadd) 1 798 := ⟨by decide +kernel, rfl⟩
theorem eL_law_798 : zD cL_law 798 (.iaload) 1 799 := ⟨by decide +kernel, rfl⟩
theorem eL_law_799 : zD cL_law 799 (.aload_n 0) 1 800 := ⟨by decide +kernel, rfl⟩
theorem eL_law_800 : zD cL_law 800 (.iload 4) 2 802 := ⟨by decide +kernel, rfl⟩
theorem eL_law_802 : zD cL_law 802 (.iconst 4) 1 803 := ⟨by decide +kernel, rfl⟩
theorem eL_law_803 : zD cL_law 803 (.iadd) 1 804 := ⟨by decide +kernel, rfl⟩
theorem eL_law_804 : zD cL_law 804 (.iaload) 1 805 := ⟨by decide +kernel, rfl⟩
theorem eL_law_805 : zD cL_law 805 (.invokevirtual 106) 3 808 := ⟨by decide +kernel, rfl⟩
theorem eL_law_808 : zD cL_law 808 (.aload_n 2) 1 809 := ⟨by decide +kernel, rfl⟩
theorem eL_law_809 : zD cL_law 809 (.aload_n 0) 1 810 := ⟨by decide +kernel, rfl⟩
theorem eL_law_810 : zD cL_law 810 (.iload 4) 2 812 := ⟨by decide +kernel, rfl⟩
theorem eL_law_812 : zD cL_law 812 (.iconst 1) 1 813 := ⟨by decide +kernel, rfl⟩
theorem eL_law_813 : zD cL_law 813 (.iadd) 1 814 := ⟨by decide +kernel, rfl⟩
theorem eL_law_814 : zD cL_law 814 (.iaload) 1 815 := ⟨by decide +kernel, rfl⟩
theorem eL_law_815 : zD cL_law 815 (.aload_n 0) 1 816 := ⟨by decide +kernel, rfl⟩
theorem eL_law_816 : zD cL_law 816 (.iload 4) 2 818 := ⟨by decide +kernel, rfl⟩
theorem eL_law_818 : zD cL_law 818 (.iconst 2) 1 819 := ⟨by decide +kernel, rfl⟩
theorem eL_law_819 : zD cL_law 819 (.iadd) 1 820 := ⟨by decide +kernel, rfl⟩
theorem eL_law_820 : zD cL_law 820 (.iaload) 1 821 := ⟨by decide +kernel, rfl⟩
theorem eL_law_821 : zD cL_law 821 (.aload_n 0) 1 822 := ⟨by decide +kernel, rfl⟩
theorem eL_law_822 : zD cL_law 822 (.iload 4) 2 824 := ⟨by decide +kernel, rfl⟩
theorem eL_law_824 : zD cL_law 824 (.iconst 3) 1 825 := ⟨by decide +kernel, rfl⟩
theorem eL_law_825 : zD cL_law 825 (.iadd) 1 826 := ⟨by decide +kernel, rfl⟩
theorem eL_law_826 : zD cL_law 826 (.iaload) 1 827 := ⟨by decide +kernel, rfl⟩
theorem eL_law_827 : zD cL_law 827 (.aload_n 0) 1 828 := ⟨by decide +kernel, rfl⟩
theorem eL_law_828 : zD cL_law 828 (.iload 4) 2 830 := ⟨by decide +kernel, rfl⟩
theorem eL_law_830 : zD cL_law 830 (.iconst 4) 1 831 := ⟨by decide +kernel, rfl⟩
theorem eL_law_831 : zD cL_law 831 (.iadd) 1 832 := ⟨by decide +kernel, rfl⟩
theorem eL_law_832 : zD cL_law 832 (.iaload) 1 833 := ⟨by decide +kernel, rfl⟩
theorem eL_law_833 : zD cL_law 833 (.invokevirtual 109) 3 836 := ⟨by decide +kernel, rfl⟩
theorem eL_law_836 : zD cL_law 836 (.if_icmp .eq 454) 3 839 := ⟨by decide +kernel, rfl⟩
theorem eL_law_839 : zD cL_law 839 (.iconst 0) 1 840 := ⟨by decide +kernel, rfl⟩
theorem eL_law_840 : zD cL_law 840 (.ireturn) 1 841 := ⟨by decide +kernel, rfl⟩
theorem eL_law_841 : zD cL_law 841 (.aload_n 1) 1 842 := ⟨by decide +kernel, rfl⟩
theorem eL_law_842 : zD cL_law 842 (.aload_n 0) 1 843 := ⟨by decide +kernel, rfl⟩
theorem eL_law_843 : zD cL_law 843 (.iload 4) 2 845 := ⟨by decide +kernel, rfl⟩
theorem eL_law_845 : zD cL_law 845 (.iconst 1) 1 846 := ⟨by decide +kernel, rfl⟩
theorem eL_law_846 : zD cL_law 846 (.iadd) 1 847 := ⟨by decide +kernel, rfl⟩
theorem eL_law_847 : zD cL_law 847 (.iaload) 1 848 := ⟨by decide +kernel, rfl⟩
theorem eL_law_848 : zD cL_law 848 (.aload_n 0) 1 849 := ⟨by decide +kernel, rfl⟩
theorem eL_law_849 : zD cL_law 849 (.iload 4) 2 851 := ⟨by decide +kernel, rfl⟩
theorem eL_law_851 : zD cL_law 851 (.iconst 2) 1 852 := ⟨by decide +kernel, rfl⟩
theorem eL_law_852 : zD cL_law 852 (.iadd) 1 853 := ⟨by decide +kernel, rfl⟩
theorem eL_law_853 : zD cL_law 853 (.iaload) 1 854 := ⟨by decide +kernel, rfl⟩
theorem eL_law_854 : zD cL_law 854 (.aload_n 0) 1 855 := ⟨by decide +kernel, rfl⟩
theorem eL_law_855 : zD cL_law 855 (.iload 4) 2 857 := ⟨by decide +kernel, rfl⟩
theorem eL_law_857 : zD cL_law 857 (.iconst 3) 1 858 := ⟨by decide +kernel, rfl⟩
theorem eL_law_858 : zD cL_law 858 (.iadd) 1 859 := ⟨by decide +kernel, rfl⟩
theorem eL_law_859 : zD cL_law 859 (.iaload) 1 860 := ⟨by decide +kernel, rfl⟩
theorem eL_law_860 : zD cL_law 860 (.invokevirtual 110) 3 863 := ⟨by decide +kernel, rfl⟩
theorem eL_law_863 : zD cL_law 863 (.aload_n 2) 1 864 := ⟨by decide +kernel, rfl⟩
theorem eL_law_864 : zD cL_law 864 (.aload_n 0) 1 865 := ⟨by decide +kernel, rfl⟩
theorem eL_law_865 : zD cL_law 865 (.iload 4) 2 867 := ⟨by decide +kernel, rfl⟩
theorem eL_law_867 : zD cL_law 867 (.iconst 1) 1 868 := ⟨by decide +kernel, rfl⟩
theorem eL_law_868 : zD cL_law 868 (.iadd) 1 869 := ⟨by decide +kernel, rfl⟩
theorem eL_law_869 : zD cL_law 869 (.iaload) 1 870 := ⟨by decide +kernel, rfl⟩
theorem eL_law_870 : zD cL_law 870 (.aload_n 0) 1 871 := ⟨by decide +kernel, rfl⟩
theorem eL_law_871 : zD cL_law 871 (.iload 4) 2 873 := ⟨by decide +kernel, rfl⟩
theorem eL_law_873 : zD cL_law 873 (.iconst 2) 1 874 := ⟨by decide +kernel, rfl⟩
theorem eL_law_874 : zD cL_law 874 (.iadd) 1 875 := ⟨by decide +kernel, rfl⟩
theorem eL_law_875 : zD cL_law 875 (.iaload) 1 876 := ⟨by decide +kernel, rfl⟩
theorem eL_law_876 : zD cL_law 876 (.aload_n 0) 1 877 := ⟨by decide +kernel, rfl⟩
theorem eL_law_877 : zD cL_law 877 (.iload 4) 2 879 := ⟨by decide +kernel, rfl⟩
theorem eL_law_879 : zD cL_law 879 (.iconst 3) 1 880 := ⟨by decide +kernel, rfl⟩
theorem eL_law_880 : zD cL_law 880 (.iadd) 1 881 := ⟨by decide +kernel, rfl⟩
theorem eL_law_881 : zD cL_law 881 (.iaload) 1 882 := ⟨by decide +kernel, rfl⟩
theorem eL_law_882 : zD cL_law 882 (.invokevirtual 113) 3 885 := ⟨by decide +kernel, rfl⟩
theorem eL_law_885 : zD cL_law 885 (.if_icmp .eq 405) 3 888 := ⟨by decide +kernel, rfl⟩
theorem eL_law_888 : zD cL_law 888 (.iconst 0) 1 889 := ⟨by decide +kernel, rfl⟩
theorem eL_law_889 : zD cL_law 889 (.ireturn) 1 890 := ⟨by decide +kernel, rfl⟩
theorem eL_law_890 : zD cL_law 890 (.aload_n 1) 1 891 := ⟨by decide +kernel, rfl⟩
theorem eL_law_891 : zD cL_law 891 (.invokevirtual 114) 3 894 := ⟨by decide +kernel, rfl⟩
theorem eL_law_894 : zD cL_law 894 (.aload_n 2) 1 895 := ⟨by decide +kernel, rfl⟩
theorem eL_law_895 : zD cL_law 895 (.invokevirtual 117) 3 898 := ⟨by decide +kernel, rfl⟩
theorem eL_law_898 : zD cL_law 898 (.if_icmp .eq 392) 3 901 := ⟨by decide +kernel, rfl⟩
theorem eL_law_901 : zD cL_law 901 (.iconst 0) 1 902 := ⟨by decide +kernel, rfl⟩
theorem eL_law_902 : zD cL_law 902 (.ireturn) 1 903 := ⟨by decide +kernel, rfl⟩
theorem eL_law_903 : zD cL_law 903 (.aload_n 1) 1 904 := ⟨by decide +kernel, rfl⟩
theorem eL_law_904 : zD cL_law 904 (.invokevirtual 118) 3 907 := ⟨by decide +kernel, rfl⟩
theorem eL_law_907 : zD cL_law 907 (.aload_n 2) 1 908 := ⟨by decide +kernel, rfl⟩
theorem eL_law_908 : zD cL_law 908 (.invokevirtual 121) 3 911 := ⟨by decide +kernel, rfl⟩
theorem eL_law_911 : zD cL_law 911 (.if_icmp .eq 379) 3 914 := ⟨by decide +kernel, rfl⟩
theorem eL_law_914 : zD cL_law 914 (.iconst 0) 1 915 := ⟨by decide +kernel, rfl⟩
theorem eL_law_915 : zD cL_law 915 (.ireturn) 1 916 := ⟨by decide +kernel, rfl⟩
theorem eL_law_916 : zD cL_law 916 (.aload_n 1) 1 917 := ⟨by decide +kernel, rfl⟩
theorem eL_law_917 : zD cL_law 917 (.aload_n 0) 1 918 := ⟨by decide +kernel, rfl⟩
theorem eL_law_918 : zD cL_law 918 (.iload 4) 2 920 := ⟨by decide +kernel, rfl⟩
theorem eL_law_920 : zD cL_law 920 (.iconst 1) 1 921 := ⟨by decide +kernel, rfl⟩
theorem eL_law_921 : zD cL_law 921 (.iadd) 1 922 := ⟨by decide +kernel, rfl⟩
theorem eL_law_922 : zD cL_law 922 (.iaload) 1 923 := ⟨by decide +kernel, rfl⟩
theorem eL_law_923 : zD cL_law 923 (.invokevirtual 122) 3 926 := ⟨by decide +kernel, rfl⟩
theorem eL_law_926 : zD cL_law 926 (.aload_n 2) 1 927 := ⟨by decide +kernel, rfl⟩
theorem eL_law_927 : zD cL_law 927 (.aload_n 0) 1 928 := ⟨by decide +kernel, rfl⟩
theorem eL_law_928 : zD cL_law 928 (.iload 4) 2 930 := ⟨by decide +kernel, rfl⟩
theorem eL_law_930 : zD cL_law 930 (.iconst 1) 1 931 := ⟨by decide +kernel, rfl⟩
theorem eL_law_931 : zD cL_law 931 (.iadd) 1 932 := ⟨by decide +kernel, rfl⟩
theorem eL_law_932 : zD cL_law 932 (.iaload) 1 933 := ⟨by decide +kernel, rfl⟩
theorem eL_law_933 : zD cL_law 933 (.invokevirtual 125) 3 936 := ⟨by decide +kernel, rfl⟩
theorem eL_law_936 : zD cL_law 936 (.if_icmp .eq 354) 3 939 := ⟨by decide +kernel, rfl⟩
theorem eL_law_939 : zD cL_law 939 (.iconst 0) 1 940 := ⟨by decide +kernel, rfl⟩
theorem eL_law_940 : zD cL_law 940 (.ireturn) 1 941 := ⟨by decide +kernel, rfl⟩
theorem eL_law_941 : zD cL_law 941 (.aload_n 1) 1 942 := ⟨by decide +kernel, rfl⟩
theorem eL_law_942 : zD cL_law 942 (.aload_n 0) 1 943 := ⟨by decide +kernel, rfl⟩
theorem eL_law_943 : zD cL_law 943 (.iload 4) 2 945 := ⟨by decide +kernel, rfl⟩
theorem eL_law_945 : zD cL_law 945 (.iconst 1) 1 946 := ⟨by decide +kernel, rfl⟩
theorem eL_law_946 : zD cL_law 946 (.iadd) 1 947 := ⟨by decide +kernel, rfl⟩
theorem eL_law_947 : zD cL_law 947 (.iaload) 1 948 := ⟨by decide +kernel, rfl⟩
theorem eL_law_948 : zD cL_law 948 (.aload_n 0) 1 949 := ⟨by decide +kernel, rfl⟩
theorem eL_law_949 : zD cL_law 949 (.iload 4) 2 951 := ⟨by decide +kernel, rfl⟩
theorem eL_law_951 : zD cL_law 951 (.iconst 2) 1 952 := ⟨by decide +kernel, rfl⟩
theorem eL_law_952 : zD cL_law 952 (.iadd) 1 953 := ⟨by decide +kernel, rfl⟩
theorem eL_law_953 : zD cL_law 953 (.iaload) 1 954 := ⟨by decide +kernel, rfl⟩
theorem eL_law_954 : zD cL_law 954 (.aload_n 0) 1 955 := ⟨by decide +kernel, rfl⟩
theorem eL_law_955 : zD cL_law 955 (.iload 4) 2 957 := ⟨by decide +kernel, rfl⟩
theorem eL_law_957 : zD cL_law 957 (.iconst 3) 1 958 := ⟨by decide +kernel, rfl⟩
theorem eL_law_958 : zD cL_law 958 (.iadd) 1 959 := ⟨by decide +kernel, rfl⟩
theorem eL_law_959 : zD cL_law 959 (.iaload) 1 960 := ⟨by decide +kernel, rfl⟩
theorem eL_law_960 : zD cL_law 960 (.aload_n 0) 1 961 := ⟨by decide +kernel, rfl⟩
theorem eL_law_961 : zD cL_law 961 (.iload 4) 2 963 := ⟨by decide +kernel, rfl⟩
theorem eL_law_963 : zD cL_law 963 (.iconst 4) 1 964 := ⟨by decide +kernel, rfl⟩
theorem eL_law_964 : zD cL_law 964 (.iadd) 1 965 := ⟨by decide +kernel, rfl⟩
theorem eL_law_965 : zD cL_law 965 (.iaload) 1 966 := ⟨by decide +kernel, rfl⟩
theorem eL_law_966 : zD cL_law 966 (.invokevirtual 126) 3 969 := ⟨by decide +kernel, rfl⟩
theorem eL_law_969 : zD cL_law 969 (.aload_n 2) 1 970 := ⟨by decide +kernel, rfl⟩
theorem eL_law_970 : zD cL_law 970 (.aload_n 0) 1 971 := ⟨by decide +kernel, rfl⟩
theorem eL_law_971 : zD cL_law 971 (.iload 4) 2 973 := ⟨by decide +kernel, rfl⟩
theorem eL_law_973 : zD cL_law 973 (.iconst 1) 1 974 := ⟨by decide +kernel, rfl⟩
theorem eL_law_974 : zD cL_law 974 (.iadd) 1 975 := ⟨by decide +kernel, rfl⟩
theorem eL_law_975 : zD cL_law 975 (.iaload) 1 976 := ⟨by decide +kernel, rfl⟩
theorem eL_law_976 : zD cL_law 976 (.aload_n 0) 1 977 := ⟨by decide +kernel, rfl⟩
theorem eL_law_977 : zD cL_law 977 (.iload 4) 2 979 := ⟨by decide +kernel, rfl⟩
theorem eL_law_979 : zD cL_law 979 (.iconst 2) 1 980 := ⟨by decide +kernel, rfl⟩
theorem eL_law_980 : zD cL_law 980 (.iadd) 1 981 := ⟨by decide +kernel, rfl⟩
theorem eL_law_981 : zD cL_law 981 (.iaload) 1 982 := ⟨by decide +kernel, rfl⟩
theorem eL_law_982 : zD cL_law 982 (.aload_n 0) 1 983 := ⟨by decide +kernel, rfl⟩
theorem eL_law_983 : zD cL_law 983 (.iload 4) 2 985 := ⟨by decide +kernel, rfl⟩
theorem eL_law_985 : zD cL_law 985 (.iconst 3) 1 986 := ⟨by decide +kernel, rfl⟩
theorem eL_law_986 : zD cL_law 986 (.iadd) 1 987 := ⟨by decide +kernel, rfl⟩
theorem eL_law_987 : zD cL_law 987 (.iaload) 1 988 := ⟨by decide +kernel, rfl⟩
theorem eL_law_988 : zD cL_law 988 (.aload_n 0) 1 989 := ⟨by decide +kernel, rfl⟩
theorem eL_law_989 : zD cL_law 989 (.iload 4) 2 991 := ⟨by decide +kernel, rfl⟩
theorem eL_law_991 : zD cL_law 991 (.iconst 4) 1 992 := ⟨by decide +kernel, rfl⟩
theorem eL_law_992 : zD cL_law 992 (.iadd) 1 993 := ⟨by decide +kernel, rfl⟩
theorem eL_law_993 : zD cL_law 993 (.iaload) 1 994 := ⟨by decide +kernel, rfl⟩
theorem eL_law_994 : zD cL_law 994 (.invokevirtual 129) 3 997 := ⟨by decide +kernel, rfl⟩
theorem eL_law_997 : zD cL_law 997 (.if_icmp .eq 293) 3 1000 := ⟨by decide +kernel, rfl⟩
theorem eL_law_1000 : zD cL_law 1000 (.iconst 0) 1 1001 := ⟨by decide +kernel, rfl⟩
theorem eL_law_1001 : zD cL_law 1001 (.ireturn) 1 1002 := ⟨by decide +kernel, rfl⟩
theorem eL_law_1002 : zD cL_law 1002 (.aload_n 1) 1 1003 := ⟨by decide +kernel, rfl⟩
theorem eL_law_1003 : zD cL_law 1003 (.aload_n 0) 1 1004 := ⟨by decide +kernel, rfl⟩
theorem eL_law_1004 : zD cL_law 1004 (.iload 4) 2 1006 := ⟨by decide +kernel, rfl⟩
theorem eL_law_1006 : zD cL_law 1006 (.iconst 1) 1 1007 := ⟨by decide +kernel, rfl⟩
theorem eL_law_1007 : zD cL_law 1007 (.iadd) 1 1008 := ⟨by decide +kernel, rfl⟩
theorem eL_law_1008 : zD cL_law 1008 (.iaload) 1 1009 := ⟨by decide +kernel, rfl⟩
theorem eL_law_1009 : zD cL_law 1009 (.aload_n 0) 1 1010 := ⟨by decide +kernel, rfl⟩
theorem eL_law_1010 : zD cL_law 1010 (.iload 4) 2 1012 := ⟨by decide +kernel, rfl⟩
theorem eL_law_1012 : zD cL_law 1012 (.iconst 2) 1 1013 := ⟨by decide +kernel, rfl⟩
theorem eL_law_1013 : zD cL_law 1013 (.iadd) 1 1014 := ⟨by decide +kernel, rfl⟩
theorem eL_law_1014 : zD cL_law 1014 (.iaload) 1 1015 := ⟨by decide +kernel, rfl⟩
theorem eL_law_1015 : zD cL_law 1015 (.aload_n 0) 1 1016 := ⟨by decide +kernel, rfl⟩
theorem eL_law_1016 : zD cL_law 1016 (.iload 4) 2 1018 := ⟨by decide +kernel, rfl⟩
theorem eL_law_1018 : zD cL_law 1018 (.iconst 3) 1 1019 := ⟨by decide +kernel, rfl⟩
theorem eL_law_1019 : zD cL_law 1019 (.iadd) 1 1020 := ⟨by decide +kernel, rfl⟩
theorem eL_law_1020 : zD cL_law 1020 (.iaload) 1 1021 := ⟨by decide +kernel, rfl⟩
theorem eL_law_1021 : zD cL_law 1021 (.invokevirtual 130) 3 1024 := ⟨by decide +kernel, rfl⟩
theorem eL_law_1024 : zD cL_law 1024 (.aload_n 2) 1 1025 := ⟨by decide +kernel, rfl⟩
theorem eL_law_1025 : zD cL_law 1025 (.aload_n 0) 1 1026 := ⟨by decide +kernel, rfl⟩
theorem eL_law_1026 : zD cL_law 1026 (.iload 4) 2 1028 := ⟨by decide +kernel, rfl⟩
theorem eL_law_1028 : zD cL_law 1028 (.iconst 1) 1 1029 := ⟨by decide +kernel, rfl⟩
theorem eL_law_1029 : zD cL_law 1029 (.iadd) 1 1030 := ⟨by decide +kernel, rfl⟩
theorem eL_law_1030 : zD cL_law 1030 (.iaload) 1 1031 := ⟨by decide +kernel, rfl⟩
theorem eL_law_1031 : zD cL_law 1031 (.aload_n 0) 1 1032 := ⟨by decide +kernel, rfl⟩
theorem eL_law_1032 : zD cL_law 1032 (.iload 4) 2 1034 := ⟨by decide +kernel, rfl⟩
theorem eL_law_1034 : zD cL_law 1034 (.iconst 2) 1 1035 := ⟨by decide +kernel, rfl⟩
theorem eL_law_1035 : zD cL_law 1035 (.iadd) 1 1036 := ⟨by decide +kernel, rfl⟩
theorem eL_law_1036 : zD cL_law 1036 (.iaload) 1 1037 := ⟨by decide +kernel, rfl⟩
theorem eL_law_1037 : zD cL_law 1037 (.aload_n 0) 1 1038 := ⟨by decide +kernel, rfl⟩
theorem eL_law_1038 : zD cL_law 1038 (.iload 4) 2 1040 := ⟨by decide +kernel, rfl⟩
theorem eL_law_1040 : zD cL_law 1040 (.iconst 3) 1 1041 := ⟨by decide +kernel, rfl⟩
theorem eL_law_1041 : zD cL_law 1041 (.iadd) 1 1042 := ⟨by decide +kernel, rfl⟩
theorem eL_law_1042 : zD cL_law 1042 (.iaload) 1 1043 := ⟨by decide +kernel, rfl⟩
theorem eL_law_1043 : zD cL_law 1043 (.invokevirtual 133) 3 1046 := ⟨by decide +kernel, rfl⟩
theorem eL_law_1046 : zD cL_law 1046 (.if_icmp .eq 244) 3 1049 := ⟨by decide +kernel, rfl⟩
theorem eL_law_1049 : zD cL_law 1049 (.iconst 0) 1 1050 := ⟨by decide +kernel, rfl⟩
theorem eL_law_1050 : zD cL_law 1050 (.ireturn) 1 1051 := ⟨by decide +kernel, rfl⟩
theorem eL_law_1051 : zD cL_law 1051 (.aload_n 1) 1 1052 := ⟨by decide +kernel, rfl⟩
theorem eL_law_1052 : zD cL_law 1052 (.aload_n 0) 1 1053 := ⟨by decide +kernel, rfl⟩
theorem eL_law_1053 : zD cL_law 1053 (.iload 4) 2 1055 := ⟨by decide +kernel, rfl⟩
theorem eL_law_1055 : zD cL_law 1055 (.iconst 1) 1 1056 := ⟨by decide +kernel, rfl⟩
theorem eL_law_1056 : zD cL_law 1056 (.iadd) 1 1057 := ⟨by decide +kernel, rfl⟩
theorem eL_law_1057 : zD cL_law 1057 (.iaload) 1 1058 := ⟨by decide +kernel, rfl⟩
theorem eL_law_1058 : zD cL_law 1058 (.aload_n 0) 1 1059 := ⟨by decide +kernel, rfl⟩
theorem eL_law_1059 : zD cL_law 1059 (.iload 4) 2 1061 := ⟨by decide +kernel, rfl⟩
theorem eL_law_1061 : zD cL_law 1061 (.iconst 2) 1 1062 := ⟨by decide +kernel, rfl⟩
theorem eL_law_1062 : zD cL_law 1062 (.iadd) 1 1063 := ⟨by decide +kernel, rfl⟩
theorem eL_law_1063 : zD cL_law 1063 (.iaload) 1 1064 := ⟨by decide +kernel, rfl⟩
theorem eL_law_1064 : zD cL_law 1064 (.aload_n 0) 1 1065 := ⟨by decide +kernel, rfl⟩
theorem eL_law_1065 : zD cL_law 1065 (.iload 4) 2 1067 := ⟨by decide +kernel, rfl⟩
theorem eL_law_1067 : zD cL_law 1067 (.iconst 3) 1 1068 := ⟨by decide +kernel, rfl⟩
theorem eL_law_1068 : zD cL_law 1068 (.iadd) 1 1069 := ⟨by decide +kernel, rfl⟩
theorem eL_law_1069 : zD cL_law 1069 (.iaload) 1 1070 := ⟨by decide +kernel, rfl⟩
theorem eL_law_1070 : zD cL_law 1070 (.invokevirtual 134) 3 1073 := ⟨by decide +kernel, rfl⟩
theorem eL_law_1073 : zD cL_law 1073 (.aload_n 2) 1 1074 := ⟨by decide +kernel, rfl⟩
theorem eL_law_1074 : zD cL_law 1074 (.aload_n 0) 1 1075 := ⟨by decide +kernel, rfl⟩
theorem eL_law_1075 : zD cL_law 1075 (.iload 4) 2 1077 := ⟨by decide +kernel, rfl⟩
theorem eL_law_1077 : zD cL_law 1077 (.iconst 1) 1 1078 := ⟨by decide +kernel, rfl⟩
theorem eL_law_1078 : zD cL_law 1078 (.iadd) 1 1079 := ⟨by decide +kernel, rfl⟩
theorem eL_law_1079 : zD cL_law 1079 (.iaload) 1 1080 := ⟨by decide +kernel, rfl⟩
theorem eL_law_1080 : zD cL_law 1080 (.aload_n 0) 1 1081 := ⟨by decide +kernel, rfl⟩
theorem eL_law_1081 : zD cL_law 1081 (.iload 4) 2 1083 := ⟨by decide +kernel, rfl⟩
theorem eL_law_1083 : zD cL_law 1083 (.iconst 2) 1 1084 := ⟨by decide +kernel, rfl⟩
theorem eL_law_1084 : zD cL_law 1084 (.iadd) 1 1085 := ⟨by decide +kernel, rfl⟩
theorem eL_law_1085 : zD cL_law 1085 (.iaload) 1 1086 := ⟨by decide +kernel, rfl⟩
theorem eL_law_1086 : zD cL_law 1086 (.aload_n 0) 1 1087 := ⟨by decide +kernel, rfl⟩
theorem eL_law_1087 : zD cL_law 1087 (.iload 4) 2 1089 := ⟨by decide +kernel, rfl⟩
theorem eL_law_1089 : zD cL_law 1089 (.iconst 3) 1 1090 := ⟨by decide +kernel, rfl⟩
theorem eL_law_1090 : zD cL_law 1090 (.iadd) 1 1091 := ⟨by decide +kernel, rfl⟩
theorem eL_law_1091 : zD cL_law 1091 (.iaload) 1 1092 := ⟨by decide +kernel, rfl⟩
theorem eL_law_1092 : zD cL_law 1092 (.invokevirtual 137) 3 1095 := ⟨by decide +kernel, rfl⟩
theorem eL_law_1095 : zD cL_law 1095 (.if_icmp .eq 195) 3 1098 := ⟨by decide +kernel, rfl⟩
theorem eL_law_1098 : zD cL_law 1098 (.iconst 0) 1 1099 := ⟨by decide +kernel, rfl⟩
theorem eL_law_1099 : zD cL_law 1099 (.ireturn) 1 1100 := ⟨by decide +kernel, rfl⟩
theorem eL_law_1100 : zD cL_law 1100 (.aload_n 1) 1 1101 := ⟨by decide +kernel, rfl⟩
theorem eL_law_1101 : zD cL_law 1101 (.aload_n 0) 1 1102 := ⟨by decide +kernel, rfl⟩
theorem eL_law_1102 : zD cL_law 1102 (.iload 4) 2 1104 := ⟨by decide +kernel, rfl⟩
theorem eL_law_1104 : zD cL_law 1104 (.iconst 1) 1 1105 := ⟨by decide +kernel, rfl⟩
theorem eL_law_1105 : zD cL_law 1105 (.iadd) 1 1106 := ⟨by decide +kernel, rfl⟩
theorem eL_law_1106 : zD cL_law 1106 (.iaload) 1 1107 := ⟨by decide +kernel, rfl⟩
theorem eL_law_1107 : zD cL_law 1107 (.aload_n 0) 1 1108 := ⟨by decide +kernel, rfl⟩
theorem eL_law_1108 : zD cL_law 1108 (.iload 4) 2 1110 := ⟨by decide +kernel, rfl⟩
theorem eL_law_1110 : zD cL_law 1110 (.iconst 2) 1 1111 := ⟨by decide +kernel, rfl⟩
theorem eL_law_1111 : zD cL_law 1111 (.iadd) 1 1112 := ⟨by decide +kernel, rfl⟩
theorem eL_law_1112 : zD cL_law 1112 (.iaload) 1 1113 := ⟨by decide +kernel, rfl⟩
theorem eL_law_1113 : zD cL_law 1113 (.aload_n 3) 1 1114 := ⟨by decide +kernel, rfl⟩
theorem eL_law_1114 : zD cL_law 1114 (.invokestatic 138) 3 1117 := ⟨by decide +kernel, rfl⟩
theorem eL_law_1117 : zD cL_law 1117 (.istore 5) 2 1119 := ⟨by decide +kernel, rfl⟩
theorem eL_law_1119 : zD cL_law 1119 (.aload_n 2) 1 1120 := ⟨by decide +kernel, rfl⟩
theorem eL_law_1120 : zD cL_law 1120 (.aload_n 0) 1 1121 := ⟨by decide +kernel, rfl⟩
theorem eL_law_1121 : zD cL_law 1121 (.iload 4) 2 1123 := ⟨by decide +kernel, rfl⟩
theorem eL_law_1123 : zD cL_law 1123 (.iconst 1) 1 1124 := ⟨by decide +kernel, rfl⟩
theorem eL_law_1124 : zD cL_law 1124 (.iadd) 1 1125 := ⟨by decide +kernel, rfl⟩
theorem eL_law_1125 : zD cL_law 1125 (.iaload) 1 1126 := ⟨by decide +kernel, rfl⟩
theorem eL_law_1126 : zD cL_law 1126 (.aload_n 0) 1 1127 := ⟨by decide +kernel, rfl⟩
theorem eL_law_1127 : zD cL_law 1127 (.iload 4) 2 1129 := ⟨by decide +kernel, rfl⟩
theorem eL_law_1129 : zD cL_law 1129 (.iconst 2) 1 1130 := ⟨by decide +kernel, rfl⟩
theorem eL_law_1130 : zD cL_law 1130 (.iadd) 1 1131 := ⟨by decide +kernel, rfl⟩
theorem eL_law_1131 : zD cL_law 1131 (.iaload) 1 1132 := ⟨by decide +kernel, rfl⟩
theorem eL_law_1132 : zD cL_law 1132 (.invokevirtual 143) 3 1135 := ⟨by decide +kernel, rfl⟩
theorem eL_law_1135 : zD cL_law 1135 (.lstore 6) 2 1137 := ⟨by decide +kernel, rfl⟩
theorem eL_law_1137 : zD cL_law 1137 (.aload_n 2) 1 1138 := ⟨by decide +kernel, rfl⟩
theorem eL_law_1138 : zD cL_law 1138 (.invokevirtual 144) 3 1141 := ⟨by decide +kernel, rfl⟩
theorem eL_law_1141 : zD cL_law 1141 (.iload 5) 2 1143 := ⟨by decide +kernel, rfl⟩
theorem eL_law_1143 : zD cL_law 1143 (.if_icmp .eq 5) 3 1146 := ⟨by decide +kernel, rfl⟩
theorem eL_law_1146 : zD cL_law 1146 (.iconst 0) 1 1147 := ⟨by decide +kernel, rfl⟩
theorem eL_law_1147 : zD cL_law 1147 (.ireturn) 1 1148 := ⟨by decide +kernel, rfl⟩
theorem eL_law_1148 : zD cL_law 1148 (.iload 5) 2 1150 := ⟨by decide +kernel, rfl⟩
theorem eL_law_1150 : zD cL_law 1150 (.ifCond .ne 14) 3 1153 := ⟨by decide +kernel, rfl⟩
theorem eL_law_1153 : zD cL_law 1153 (.aload_n 3) 1 1154 := ⟨by decide +kernel, rfl⟩
theorem eL_law_1154 : zD cL_law 1154 (.iconst 0) 1 1155 := ⟨by decide +kernel, rfl⟩
theorem eL_law_1155 : zD cL_law 1155 (.laload) 1 1156 := ⟨by decide +kernel, rfl⟩
theorem eL_law_1156 : zD cL_law 1156 (.lload 6) 2 1158 := ⟨by decide +kernel, rfl⟩
theorem eL_law_1158 : zD cL_law 1158 (.lcmp) 1 1159 := ⟨by decide +kernel, rfl⟩
theorem eL_law_1159 : zD cL_law 1159 (.ifCond .eq 5) 3 1162 := ⟨by decide +kernel, rfl⟩
theorem eL_law_1162 : zD cL_law 1162 (.iconst 0) 1 1163 := ⟨by decide +kernel, rfl⟩
theorem eL_law_1163 : zD cL_law 1163 (.ireturn) 1 1164 := ⟨by decide +kernel, rfl⟩
theorem eL_law_1164 : zD cL_law 1164 (.goto 126) 3 1167 := ⟨by decide +kernel, rfl⟩
theorem eL_law_1167 : zD cL_law 1167 (.aload_n 1) 1 1168 := ⟨by decide +kernel, rfl⟩
theorem eL_law_1168 : zD cL_law 1168 (.aload_n 0) 1 1169 := ⟨by decide +kernel, rfl⟩
theorem eL_law_1169 : zD cL_law 1169 (.iload 4) 2 1171 := ⟨by decide +kernel, rfl⟩
theorem eL_law_1171 : zD cL_law 1171 (.iconst 1) 1 1172 := ⟨by decide +kernel, rfl⟩
theorem eL_law_1172 : zD cL_law 1172 (.iadd) 1 1173 := ⟨by decide +kernel, rfl⟩
theorem eL_law_1173 : zD cL_law 1173 (.iaload) 1 1174 := ⟨by decide +kernel, rfl⟩
theorem eL_law_1174 : zD cL_law 1174 (.aload_n 0) 1 1175 := ⟨by decide +kernel, rfl⟩
theorem eL_law_1175 : zD cL_law 1175 (.iload 4) 2 1177 := ⟨by decide +kernel, rfl⟩
theorem eL_law_1177 : zD cL_law 1177 (.iconst 2) 1 1178 := ⟨by decide +kernel, rfl⟩
theorem eL_law_1178 : zD cL_law 1178 (.iadd) 1 1179 := ⟨by decide +kernel, rfl⟩
theorem eL_law_1179 : zD cL_law 1179 (.iaload) 1 1180 := ⟨by decide +kernel, rfl⟩
theorem eL_law_1180 : zD cL_law 1180 (.aload_n 0) 1 1181 := ⟨by decide +kernel, rfl⟩
theorem eL_law_1181 : zD cL_law 1181 (.iload 4) 2 1183 := ⟨by decide +kernel, rfl⟩
theorem eL_law_1183 : zD cL_law 1183 (.iconst 3) 1 1184 := ⟨by decide +kernel, rfl⟩
theorem eL_law_1184 : zD cL_law 1184 (.iadd) 1 1185 := ⟨by decide +kernel, rfl⟩
theorem eL_law_1185 : zD cL_law 1185 (.iaload) 1 1186 := ⟨by decide +kernel, rfl⟩
theorem eL_law_1186 : zD cL_law 1186 (.aload_n 0) 1 1187 := ⟨by decide +kernel, rfl⟩
theorem eL_law_1187 : zD cL_law 1187 (.iload 4) 2 1189 := ⟨by decide +kernel, rfl⟩
theorem eL_law_1189 : zD cL_law 1189 (.iconst 4) 1 1190 := ⟨by decide +kernel, rfl⟩
theorem eL_law_1190 : zD cL_law 1190 (.iadd) 1 1191 := ⟨by decide +kernel, rfl⟩
theorem eL_law_1191 : zD cL_law 1191 (.iaload) 1 1192 := ⟨by decide +kernel, rfl⟩
theorem eL_law_1192 : zD cL_law 1192 (.aload_n 0) 1 1193 := ⟨by decide +kernel, rfl⟩
theorem eL_law_1193 : zD cL_law 1193 (.iload 4) 2 1195 := ⟨by decide +kernel, rfl⟩
theorem eL_law_1195 : zD cL_law 1195 (.iconst 5) 1 1196 := ⟨by decide +kernel, rfl⟩
theorem eL_law_1196 : zD cL_law 1196 (.iadd) 1 1197 := ⟨by decide +kernel, rfl⟩
theorem eL_law_1197 : zD cL_law 1197 (.iaload) 1 1198 := ⟨by decide +kernel, rfl⟩
theorem eL_law_1198 : zD cL_law 1198 (.invokevirtual 147) 3 1201 := ⟨by decide +kernel, rfl⟩
theorem eL_law_1201 : zD cL_law 1201 (.aload_n 2) 1 1202 := ⟨by decide +kernel, rfl⟩
theorem eL_law_1202 : zD cL_law 1202 (.aload_n 0) 1 1203 := ⟨by decide +kernel, rfl⟩
theorem eL_law_1203 : zD cL_law 1203 (.iload 4) 2 1205 := ⟨by decide +kernel, rfl⟩
theorem eL_law_1205 : zD cL_law 1205 (.iconst 1) 1 1206 := ⟨by decide +kernel, rfl⟩
theorem eL_law_1206 : zD cL_law 1206 (.iadd) 1 1207 := ⟨by decide +kernel, rfl⟩
theorem eL_law_1207 : zD cL_law 1207 (.iaload) 1 1208 := ⟨by decide +kernel, rfl⟩
theorem eL_law_1208 : zD cL_law 1208 (.aload_n 0) 1 1209 := ⟨by decide +kernel, rfl⟩
theorem eL_law_1209 : zD cL_law 1209 (.iload 4) 2 1211 := ⟨by decide +kernel, rfl⟩
theorem eL_law_1211 : zD cL_law 1211 (.iconst 2) 1 1212 := ⟨by decide +kernel, rfl⟩
theorem eL_law_1212 : zD cL_law 1212 (.iadd) 1 1213 := ⟨by decide +kernel, rfl⟩
theorem eL_law_1213 : zD cL_law 1213 (.iaload) 1 1214 := ⟨by decide +kernel, rfl⟩
theorem eL_law_1214 : zD cL_law 1214 (.aload_n 0) 1 1215 := ⟨by decide +kernel, rfl⟩
theorem eL_law_1215 : zD cL_law 1215 (.iload 4) 2 1217 := ⟨by decide +kernel, rfl⟩
theorem eL_law_1217 : zD cL_law 1217 (.iconst 3) 1 1218 := ⟨by decide +kernel, rfl⟩
theorem eL_law_1218 : zD cL_law 1218 (.iadd) 1 1219 := ⟨by decide +kernel, rfl⟩
theorem eL_law_1219 : zD cL_law 1219 (.iaload) 1 1220 := ⟨by decide +kernel, rfl⟩
theorem eL_law_1220 : zD cL_law 1220 (.aload_n 0) 1 1221 := ⟨by decide +kernel, rfl⟩
theorem eL_law_1221 : zD cL_law 1221 (.iload 4) 2 1223 := ⟨by decide +kernel, rfl⟩
theorem eL_law_1223 : zD cL_law 1223 (.iconst 4) 1 1224 := ⟨by decide +kernel, rfl⟩
theorem eL_law_1224 : zD cL_law 1224 (.iadd) 1 1225 := ⟨by decide +kernel, rfl⟩
theorem eL_law_1225 : zD cL_law 1225 (.iaload) 1 1226 := ⟨by decide +kernel, rfl⟩
theorem eL_law_1226 : zD cL_law 1226 (.aload_n 0) 1 1227 := ⟨by decide +kernel, rfl⟩
theorem eL_law_1227 : zD cL_law 1227 (.iload 4) 2 1229 := ⟨by decide +kernel, rfl⟩
theorem eL_law_1229 : zD cL_law 1229 (.iconst 5) 1 1230 := ⟨by decide +kernel, rfl⟩
theorem eL_law_1230 : zD cL_law 1230 (.iadd) 1 1231 := ⟨by decide +kernel, rfl⟩
theorem eL_law_1231 : zD cL_law 1231 (.iaload) 1 1232 := ⟨by decide +kernel, rfl⟩
theorem eL_law_1232 : zD cL_law 1232 (.invokevirtual 151) 3 1235 := ⟨by decide +kernel, rfl⟩
theorem eL_law_1235 : zD cL_law 1235 (.if_icmp .eq 55) 3 1238 := ⟨by decide +kernel, rfl⟩
theorem eL_law_1238 : zD cL_law 1238 (.iconst 0) 1 1239 := ⟨by decide +kernel, rfl⟩
theorem eL_law_1239 : zD cL_law 1239 (.ireturn) 1 1240 := ⟨by decide +kernel, rfl⟩
theorem eL_law_1240 : zD cL_law 1240 (.aload_n 1) 1 1241 := ⟨by decide +kernel, rfl⟩
theorem eL_law_1241 : zD cL_law 1241 (.aload_n 0) 1 1242 := ⟨by decide +kernel, rfl⟩
theorem eL_law_1242 : zD cL_law 1242 (.iload 4) 2 1244 := ⟨by decide +kernel, rfl⟩
theorem eL_law_1244 : zD cL_law 1244 (.iconst 1) 1 1245 := ⟨by decide +kernel, rfl⟩
theorem eL_law_1245 : zD cL_law 1245 (.iadd) 1 1246 := ⟨by decide +kernel, rfl⟩
theorem eL_law_1246 : zD cL_law 1246 (.iaload) 1 1247 := ⟨by decide +kernel, rfl⟩
theorem eL_law_1247 : zD cL_law 1247 (.invokevirtual 152) 3 1250 := ⟨by decide +kernel, rfl⟩
theorem eL_law_1250 : zD cL_law 1250 (.aload_n 2) 1 1251 := ⟨by decide +kernel, rfl⟩
theorem eL_law_1251 : zD cL_law 1251 (.aload_n 0) 1 1252 := ⟨by decide +kernel, rfl⟩
theorem eL_law_1252 : zD cL_law 1252 (.iload 4) 2 1254 := ⟨by decide +kernel, rfl⟩
theorem eL_law_1254 : zD cL_law 1254 (.iconst 1) 1 1255 := ⟨by decide +kernel, rfl⟩
theorem eL_law_1255 : zD cL_law 1255 (.iadd) 1 1256 := ⟨by decide +kernel, rfl⟩
theorem eL_law_1256 : zD cL_law 1256 (.iaload) 1 1257 := ⟨by decide +kernel, rfl⟩
theorem eL_law_1257 : zD cL_law 1257 (.invokevirtual 155) 3 1260 := ⟨by decide +kernel, rfl⟩
theorem eL_law_1260 : zD cL_law 1260 (.if_icmp .eq 30) 3 1263 := ⟨by decide +kernel, rfl⟩
theorem eL_law_1263 : zD cL_law 1263 (.iconst 0) 1 1264 := ⟨by decide +kernel, rfl⟩
theorem eL_law_1264 : zD cL_law 1264 (.ireturn) 1 1265 := ⟨by decide +kernel, rfl⟩
theorem eL_law_1265 : zD cL_law 1265 (.aload_n 1) 1 1266 := ⟨by decide +kernel, rfl⟩
theorem eL_law_1266 : zD cL_law 1266 (.aload_n 0) 1 1267 := ⟨by decide +kernel, rfl⟩
theorem eL_law_1267 : zD cL_law 1267 (.iload 4) 2 1269 := ⟨by decide +kernel, rfl⟩
theorem eL_law_1269 : zD cL_law 1269 (.iconst 1) 1 1270 := ⟨by decide +kernel, rfl⟩
theorem eL_law_1270 : zD cL_law 1270 (.iadd) 1 1271 := ⟨by decide +kernel, rfl⟩
theorem eL_law_1271 : zD cL_law 1271 (.iaload) 1 1272 := ⟨by decide +kernel, rfl⟩
theorem eL_law_1272 : zD cL_law 1272 (.invokevirtual 156) 3 1275 := ⟨by decide +kernel, rfl⟩
theorem eL_law_1275 : zD cL_law 1275 (.aload_n 2) 1 1276 := ⟨by decide +kernel, rfl⟩
theorem eL_law_1276 : zD cL_law 1276 (.aload_n 0) 1 1277 := ⟨by decide +kernel, rfl⟩
theorem eL_law_1277 : zD cL_law 1277 (.iload 4) 2 1279 := ⟨by decide +kernel, rfl⟩
theorem eL_law_1279 : zD cL_law 1279 (.iconst 1) 1 1280 := ⟨by decide +kernel, rfl⟩
theorem eL_law_1280 : zD cL_law 1280 (.iadd) 1 1281 := ⟨by decide +kernel, rfl⟩
theorem eL_law_1281 : zD cL_law 1281 (.iaload) 1 1282 := ⟨by decide +kernel, rfl⟩
theorem eL_law_1282 : zD cL_law 1282 (.invokevirtual 159) 3 1285 := ⟨by decide +kernel, rfl⟩
theorem eL_law_1285 : zD cL_law 1285 (.if_icmp .eq 5) 3 1288 := ⟨by decide +kernel, rfl⟩
theorem eL_law_1288 : zD cL_law 1288 (.iconst 0) 1 1289 := ⟨by decide +kernel, rfl⟩
theorem eL_law_1289 : zD cL_law 1289 (.ireturn) 1 1290 := ⟨by decide +kernel, rfl⟩
theorem eL_law_1290 : zD cL_law 1290 (.iinc 4 6) 3 1293 := ⟨by decide +kernel, rfl⟩
theorem eL_law_1293 : zD cL_law 1293 (.goto (-1270)) 3 1296 := ⟨by decide +kernel, rfl⟩
theorem eL_law_1296 : zD cL_law 1296 (.iconst 1) 1 1297 := ⟨by decide +kernel, rfl⟩
theorem eL_law_1297 : zD cL_law 1297 (.ireturn) 1 1298 := ⟨by decide +kernel, rfl⟩
end
