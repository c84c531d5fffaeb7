section
-- ===== PART A: goes FIRST, ahead of the names: the tables' words, and 'selects' of the private methods out of them =====
/-- a private method of a class that the tables say can be made, by its rows of tables_1 -/
def lw_okq (q : MethodName × Nat) : Prop := (q.1.cls ≠ "java/lang/invoke/MethodHandle" ∧ q.1.cls ≠ "java/lang/invoke/VarHandle") ∧ Cond.instantiable q.1.cls q.2 ∈ tables_1 ∧ Cond.privateMethod q.1 ∈ tables_1 ∧ Cond.instanceMethod q.1 ∈ tables_1
theorem lw_p0 : lw_okq (⟨"Threeboxes$Register", "joinAt", "(I)V"⟩, 5) := ⟨⟨by decide +kernel, by decide +kernel⟩, List.mem_of_getElem? (i := 68) (by decide +kernel), List.mem_of_getElem? (i := 74) (by decide +kernel), List.mem_of_getElem? (i := 75) (by decide +kernel)⟩
theorem lw_p1 : lw_okq (⟨"Threeboxes$Register", "nodeAt", "(I)I"⟩, 5) := ⟨⟨by decide +kernel, by decide +kernel⟩, List.mem_of_getElem? (i := 68) (by decide +kernel), List.mem_of_getElem? (i := 78) (by decide +kernel), List.mem_of_getElem? (i := 79) (by decide +kernel)⟩
theorem lw_p2 : lw_okq (⟨"Threeboxes$Register", "putAt", "(II)V"⟩, 5) := ⟨⟨by decide +kernel, by decide +kernel⟩, List.mem_of_getElem? (i := 68) (by decide +kernel), List.mem_of_getElem? (i := 85) (by decide +kernel), List.mem_of_getElem? (i := 86) (by decide +kernel)⟩
theorem lw_p3 : lw_okq (⟨"Threeboxes", "isSecretSound", "(LThreeboxes$Secret;)Z"⟩, 10) := ⟨⟨by decide +kernel, by decide +kernel⟩, List.mem_of_getElem? (i := 34) (by decide +kernel), List.mem_of_getElem? (i := 211) (by decide +kernel), List.mem_of_getElem? (i := 212) (by decide +kernel)⟩
theorem lw_p4 : lw_okq (⟨"Threeboxes$Group", "agreeingWith", "(I)I"⟩, 6) := ⟨⟨by decide +kernel, by decide +kernel⟩, List.mem_of_getElem? (i := 120) (by decide +kernel), List.mem_of_getElem? (i := 260) (by decide +kernel), List.mem_of_getElem? (i := 261) (by decide +kernel)⟩
theorem lw_p5 : lw_okq (⟨"Threeboxes$Group", "through", "(II)I"⟩, 6) := ⟨⟨by decide +kernel, by decide +kernel⟩, List.mem_of_getElem? (i := 120) (by decide +kernel), List.mem_of_getElem? (i := 264) (by decide +kernel), List.mem_of_getElem? (i := 265) (by decide +kernel)⟩
theorem lw_p6 : lw_okq (⟨"Threeboxes", "tellOfBank", "(I)I"⟩, 10) := ⟨⟨by decide +kernel, by decide +kernel⟩, List.mem_of_getElem? (i := 34) (by decide +kernel), List.mem_of_getElem? (i := 295) (by decide +kernel), List.mem_of_getElem? (i := 296) (by decide +kernel)⟩
theorem lw_p7 : lw_okq (⟨"Threeboxes", "notedKeepers", "()I"⟩, 10) := ⟨⟨by decide +kernel, by decide +kernel⟩, List.mem_of_getElem? (i := 34) (by decide +kernel), List.mem_of_getElem? (i := 304) (by decide +kernel), List.mem_of_getElem? (i := 305) (by decide +kernel)⟩
theorem lw_p8 : lw_okq (⟨"Threeboxes", "currentShares", "()I"⟩, 10) := ⟨⟨by decide +kernel, by decide +kernel⟩, List.mem_of_getElem? (i := 34) (by decide +kernel), List.mem_of_getElem? (i := 308) (by decide +kernel), List.mem_of_getElem? (i := 309) (by decide +kernel)⟩
theorem lw_p9 : lw_okq (⟨"Threeboxes", "staleShares", "()I"⟩, 10) := ⟨⟨by decide +kernel, by decide +kernel⟩, List.mem_of_getElem? (i := 34) (by decide +kernel), List.mem_of_getElem? (i := 318) (by decide +kernel), List.mem_of_getElem? (i := 319) (by decide +kernel)⟩
theorem lw_p10 : lw_okq (⟨"Threeboxes", "tellOfKeeper", "(LThreeboxes$Keeper;I)I"⟩, 10) := ⟨⟨by decide +kernel, by decide +kernel⟩, List.mem_of_getElem? (i := 34) (by decide +kernel), List.mem_of_getElem? (i := 330) (by decide +kernel), List.mem_of_getElem? (i := 331) (by decide +kernel)⟩
theorem lw_p11 : lw_okq (⟨"Threeboxes", "sharesOf", "(I)I"⟩, 10) := ⟨⟨by decide +kernel, by decide +kernel⟩, List.mem_of_getElem? (i := 34) (by decide +kernel), List.mem_of_getElem? (i := 334) (by decide +kernel), List.mem_of_getElem? (i := 335) (by decide +kernel)⟩
theorem lw_p12 : lw_okq (⟨"Threeboxes", "staleSharesOf", "(I)I"⟩, 10) := ⟨⟨by decide +kernel, by decide +kernel⟩, List.mem_of_getElem? (i := 34) (by decide +kernel), List.mem_of_getElem? (i := 338) (by decide +kernel), List.mem_of_getElem? (i := 339) (by decide +kernel)⟩
theorem lw_p13 : lw_okq (⟨"Threeboxes", "digestSecret", "(JLThreeboxes$Secret;)J"⟩, 10) := ⟨⟨by decide +kernel, by decide +kernel⟩, List.mem_of_getElem? (i := 34) (by decide +kernel), List.mem_of_getElem? (i := 343) (by decide +kernel), List.mem_of_getElem? (i := 344) (by decide +kernel)⟩
theorem lw_p14 : lw_okq (⟨"Threeboxes", "tellOfSecret", "(LThreeboxes$Secret;I)I"⟩, 10) := ⟨⟨by decide +kernel, by decide +kernel⟩, List.mem_of_getElem? (i := 34) (by decide +kernel), List.mem_of_getElem? (i := 347) (by decide +kernel), List.mem_of_getElem? (i := 348) (by decide +kernel)⟩
theorem lw_p15 : lw_okq (⟨"Threeboxes", "boughtFor", "(LThreeboxes$Secret;)I"⟩, 10) := ⟨⟨by decide +kernel, by decide +kernel⟩, List.mem_of_getElem? (i := 34) (by decide +kernel), List.mem_of_getElem? (i := 351) (by decide +kernel), List.mem_of_getElem? (i := 352) (by decide +kernel)⟩
def lw_privs_1 : List (MethodName × Nat) := [(⟨"Threeboxes$Register", "joinAt", "(I)V"⟩, 5), (⟨"Threeboxes$Register", "nodeAt", "(I)I"⟩, 5), (⟨"Threeboxes$Register", "putAt", "(II)V"⟩, 5), (⟨"Threeboxes", "isSecretSound", "(LThreeboxes$Secret;)Z"⟩, 10), (⟨"Threeboxes$Group", "agreeingWith", "(I)I"⟩, 6), (⟨"Threeboxes$Group", "through", "(II)I"⟩, 6), (⟨"Threeboxes", "tellOfBank", "(I)I"⟩, 10), (⟨"Threeboxes", "notedKeepers", "()I"⟩, 10), (⟨"Threeboxes", "currentShares", "()I"⟩, 10), (⟨"Threeboxes", "staleShares", "()I"⟩, 10), (⟨"Threeboxes", "tellOfKeeper", "(LThreeboxes$Keeper;I)I"⟩, 10), (⟨"Threeboxes", "sharesOf", "(I)I"⟩, 10), (⟨"Threeboxes", "staleSharesOf", "(I)I"⟩, 10), (⟨"Threeboxes", "digestSecret", "(JLThreeboxes$Secret;)J"⟩, 10), (⟨"Threeboxes", "tellOfSecret", "(LThreeboxes$Secret;I)I"⟩, 10), (⟨"Threeboxes", "boughtFor", "(LThreeboxes$Secret;)I"⟩, 10)]
theorem lw_r1 : ∀ q ∈ lw_privs_1, lw_okq q := List.forall_mem_cons.mpr ⟨lw_p0, List.forall_mem_cons.mpr ⟨lw_p1, List.forall_mem_cons.mpr ⟨lw_p2, List.forall_mem_cons.mpr ⟨lw_p3, List.forall_mem_cons.mpr ⟨lw_p4, List.forall_mem_cons.mpr ⟨lw_p5, List.forall_mem_cons.mpr ⟨lw_p6, List.forall_mem_cons.mpr ⟨lw_p7, List.forall_mem_cons.mpr ⟨lw_p8, List.forall_mem_cons.mpr ⟨lw_p9, List.forall_mem_cons.mpr ⟨lw_p10, List.forall_mem_cons.mpr ⟨lw_p11, List.forall_mem_cons.mpr ⟨lw_p12, List.forall_mem_cons.mpr ⟨lw_p13, List.forall_mem_cons.mpr ⟨lw_p14, List.forall_mem_cons.mpr ⟨lw_p15, fun _ h => absurd h List.not_mem_nil⟩⟩⟩⟩⟩⟩⟩⟩⟩⟩⟩⟩⟩⟩⟩⟩
theorem lw_p16 : lw_okq (⟨"Threeboxes", "boughtOf", "(LThreeboxes$Secret;)I"⟩, 10) := ⟨⟨by decide +kernel, by decide +kernel⟩, List.mem_of_getElem? (i := 34) (by decide +kernel), List.mem_of_getElem? (i := 355) (by decide +kernel), List.mem_of_getElem? (i := 356) (by decide +kernel)⟩
theorem lw_p17 : lw_okq (⟨"Threeboxes", "cheapestOf", "(I)I"⟩, 10) := ⟨⟨by decide +kernel, by decide +kernel⟩, List.mem_of_getElem? (i := 34) (by decide +kernel), List.mem_of_getElem? (i := 359) (by decide +kernel), List.mem_of_getElem? (i := 360) (by decide +kernel)⟩
theorem lw_p18 : lw_okq (⟨"Threeboxes", "priceOf", "(I)I"⟩, 10) := ⟨⟨by decide +kernel, by decide +kernel⟩, List.mem_of_getElem? (i := 34) (by decide +kernel), List.mem_of_getElem? (i := 364) (by decide +kernel), List.mem_of_getElem? (i := 365) (by decide +kernel)⟩
theorem lw_p19 : lw_okq (⟨"Threeboxes", "tellOfShare", "(LThreeboxes$Secret;LThreeboxes$Keeper;I)I"⟩, 10) := ⟨⟨by decide +kernel, by decide +kernel⟩, List.mem_of_getElem? (i := 34) (by decide +kernel), List.mem_of_getElem? (i := 368) (by decide +kernel), List.mem_of_getElem? (i := 369) (by decide +kernel)⟩
theorem lw_p20 : lw_okq (⟨"Threeboxes", "allKeepers", "()I"⟩, 10) := ⟨⟨by decide +kernel, by decide +kernel⟩, List.mem_of_getElem? (i := 34) (by decide +kernel), List.mem_of_getElem? (i := 372) (by decide +kernel), List.mem_of_getElem? (i := 373) (by decide +kernel)⟩
theorem lw_p21 : lw_okq (⟨"Threeboxes", "gatherGroup", "(LThreeboxes$Secret;I)V"⟩, 10) := ⟨⟨by decide +kernel, by decide +kernel⟩, List.mem_of_getElem? (i := 34) (by decide +kernel), List.mem_of_getElem? (i := 376) (by decide +kernel), List.mem_of_getElem? (i := 377) (by decide +kernel)⟩
theorem lw_p22 : lw_okq (⟨"Threeboxes", "tellOfGroup", "(LThreeboxes$Secret;I)I"⟩, 10) := ⟨⟨by decide +kernel, by decide +kernel⟩, List.mem_of_getElem? (i := 34) (by decide +kernel), List.mem_of_getElem? (i := 388) (by decide +kernel), List.mem_of_getElem? (i := 389) (by decide +kernel)⟩
theorem lw_p23 : lw_okq (⟨"Threeboxes", "isLawful", "(LThreeboxes$Secret;I)Z"⟩, 10) := ⟨⟨by decide +kernel, by decide +kernel⟩, List.mem_of_getElem? (i := 34) (by decide +kernel), List.mem_of_getElem? (i := 400) (by decide +kernel), List.mem_of_getElem? (i := 401) (by decide +kernel)⟩
theorem lw_p24 : lw_okq (⟨"Threeboxes", "zonesOf", "(I)I"⟩, 10) := ⟨⟨by decide +kernel, by decide +kernel⟩, List.mem_of_getElem? (i := 34) (by decide +kernel), List.mem_of_getElem? (i := 404) (by decide +kernel), List.mem_of_getElem? (i := 405) (by decide +kernel)⟩
theorem lw_p25 : lw_okq (⟨"Threeboxes", "fewestOf", "(LThreeboxes$Secret;)I"⟩, 10) := ⟨⟨by decide +kernel, by decide +kernel⟩, List.mem_of_getElem? (i := 34) (by decide +kernel), List.mem_of_getElem? (i := 422) (by decide +kernel), List.mem_of_getElem? (i := 423) (by decide +kernel)⟩
theorem lw_p26 : lw_okq (⟨"Threeboxes", "isLess", "(II)Z"⟩, 10) := ⟨⟨by decide +kernel, by decide +kernel⟩, List.mem_of_getElem? (i := 34) (by decide +kernel), List.mem_of_getElem? (i := 426) (by decide +kernel), List.mem_of_getElem? (i := 427) (by decide +kernel)⟩
theorem lw_p27 : lw_okq (⟨"Threeboxes", "chanceLost", "(LThreeboxes$Secret;)D"⟩, 10) := ⟨⟨by decide +kernel, by decide +kernel⟩, List.mem_of_getElem? (i := 34) (by decide +kernel), List.mem_of_getElem? (i := 431) (by decide +kernel), List.mem_of_getElem? (i := 432) (by decide +kernel)⟩
theorem lw_p28 : lw_okq (⟨"Threeboxes", "riskOne", "(I)V"⟩, 10) := ⟨⟨by decide +kernel, by decide +kernel⟩, List.mem_of_getElem? (i := 34) (by decide +kernel), List.mem_of_getElem? (i := 435) (by decide +kernel), List.mem_of_getElem? (i := 436) (by decide +kernel)⟩
theorem lw_p29 : lw_okq (⟨"java/lang/Throwable", "fillInStackTrace", "(I)Ljava/lang/Throwable;"⟩, 6) := ⟨⟨by decide +kernel, by decide +kernel⟩, List.mem_of_getElem? (i := 505) (by decide +kernel), List.mem_of_getElem? (i := 503) (by decide +kernel), List.mem_of_getElem? (i := 504) (by decide +kernel)⟩
theorem lw_p30 : lw_okq (⟨"java/util/ArrayList", "add", "(Ljava/lang/Object;[Ljava/lang/Object;I)V"⟩, 3) := ⟨⟨by decide +kernel, by decide +kernel⟩, List.mem_of_getElem? (i := 42) (by decide +kernel), List.mem_of_getElem? (i := 585) (by decide +kernel), List.mem_of_getElem? (i := 586) (by decide +kernel)⟩
theorem lw_p31 : lw_okq (⟨"java/util/ArrayList", "grow", "()[Ljava/lang/Object;"⟩, 3) := ⟨⟨by decide +kernel, by decide +kernel⟩, List.mem_of_getElem? (i := 42) (by decide +kernel), List.mem_of_getElem? (i := 589) (by decide +kernel), List.mem_of_getElem? (i := 590) (by decide +kernel)⟩
def lw_privs_2 : List (MethodName × Nat) := [(⟨"Threeboxes", "boughtOf", "(LThreeboxes$Secret;)I"⟩, 10), (⟨"Threeboxes", "cheapestOf", "(I)I"⟩, 10), (⟨"Threeboxes", "priceOf", "(I)I"⟩, 10), (⟨"Threeboxes", "tellOfShare", "(LThreeboxes$Secret;LThreeboxes$Keeper;I)I"⟩, 10), (⟨"Threeboxes", "allKeepers", "()I"⟩, 10), (⟨"Threeboxes", "gatherGroup", "(LThreeboxes$Secret;I)V"⟩, 10), (⟨"Threeboxes", "tellOfGroup", "(LThreeboxes$Secret;I)I"⟩, 10), (⟨"Threeboxes", "isLawful", "(LThreeboxes$Secret;I)Z"⟩, 10), (⟨"Threeboxes", "zonesOf", "(I)I"⟩, 10), (⟨"Threeboxes", "fewestOf", "(LThreeboxes$Secret;)I"⟩, 10), (⟨"Threeboxes", "isLess", "(II)Z"⟩, 10), (⟨"Threeboxes", "chanceLost", "(LThreeboxes$Secret;)D"⟩, 10), (⟨"Threeboxes", "riskOne", "(I)V"⟩, 10), (⟨"java/lang/Throwable", "fillInStackTrace", "(I)Ljava/lang/Throwable;"⟩, 6), (⟨"java/util/ArrayList", "add", "(Ljava/lang/Object;[Ljava/lang/Object;I)V"⟩, 3), (⟨"java/util/ArrayList", "grow", "()[Ljava/lang/Object;"⟩, 3)]
theorem lw_r2 : ∀ q ∈ lw_privs_2, lw_okq q := List.forall_mem_cons.mpr ⟨lw_p16, List.forall_mem_cons.mpr ⟨lw_p17, List.forall_mem_cons.mpr ⟨lw_p18, List.forall_mem_cons.mpr ⟨lw_p19, List.forall_mem_cons.mpr ⟨lw_p20, List.forall_mem_cons.mpr ⟨lw_p21, List.forall_mem_cons.mpr ⟨lw_p22, List.forall_mem_cons.mpr ⟨lw_p23, List.forall_mem_cons.mpr ⟨lw_p24, List.forall_mem_cons.mpr ⟨lw_p25, List.forall_mem_cons.mpr ⟨lw_p26, List.forall_mem_cons.mpr ⟨lw_p27, List.forall_mem_cons.mpr ⟨lw_p28, List.forall_mem_cons.mpr ⟨lw_p29, List.forall_mem_cons.mpr ⟨lw_p30, List.forall_mem_cons.mpr ⟨lw_p31, fun _ h => absurd h List.not_mem_nil⟩⟩⟩⟩⟩⟩⟩⟩⟩⟩⟩⟩⟩⟩⟩⟩
theorem lw_p32 : lw_okq (⟨"java/util/ArrayList", "grow", "(I)[Ljava/lang/Object;"⟩, 3) := ⟨⟨by decide +kernel, by decide +kernel⟩, List.mem_of_getElem? (i := 42) (by decide +kernel), List.mem_of_getElem? (i := 593) (by decide +kernel), List.mem_of_getElem? (i := 594) (by decide +kernel)⟩
theorem lw_p33 : lw_okq (⟨"Threeboxes", "keeperAt", "(I)LThreeboxes$Keeper;"⟩, 10) := ⟨⟨by decide +kernel, by decide +kernel⟩, List.mem_of_getElem? (i := 34) (by decide +kernel), List.mem_of_getElem? (i := 652) (by decide +kernel), List.mem_of_getElem? (i := 653) (by decide +kernel)⟩
theorem lw_p34 : lw_okq (⟨"Threeboxes", "needSet", "(I)V"⟩, 10) := ⟨⟨by decide +kernel, by decide +kernel⟩, List.mem_of_getElem? (i := 34) (by decide +kernel), List.mem_of_getElem? (i := 681) (by decide +kernel), List.mem_of_getElem? (i := 682) (by decide +kernel)⟩
theorem lw_p35 : lw_okq (⟨"Threeboxes$Curve", "nextNumber", "()I"⟩, 2) := ⟨⟨by decide +kernel, by decide +kernel⟩, List.mem_of_getElem? (i := 106) (by decide +kernel), List.mem_of_getElem? (i := 728) (by decide +kernel), List.mem_of_getElem? (i := 729) (by decide +kernel)⟩
theorem lw_p36 : lw_okq (⟨"Threeboxes$Secret", "put", "(III)V"⟩, 8) := ⟨⟨by decide +kernel, by decide +kernel⟩, List.mem_of_getElem? (i := 687) (by decide +kernel), List.mem_of_getElem? (i := 740) (by decide +kernel), List.mem_of_getElem? (i := 741) (by decide +kernel)⟩
theorem lw_p37 : lw_okq (⟨"Threeboxes", "secretAt", "(I)LThreeboxes$Secret;"⟩, 10) := ⟨⟨by decide +kernel, by decide +kernel⟩, List.mem_of_getElem? (i := 34) (by decide +kernel), List.mem_of_getElem? (i := 755) (by decide +kernel), List.mem_of_getElem? (i := 756) (by decide +kernel)⟩
theorem lw_p38 : lw_okq (⟨"Threeboxes", "loseShares", "(I)V"⟩, 10) := ⟨⟨by decide +kernel, by decide +kernel⟩, List.mem_of_getElem? (i := 34) (by decide +kernel), List.mem_of_getElem? (i := 769) (by decide +kernel), List.mem_of_getElem? (i := 770) (by decide +kernel)⟩
theorem lw_p39 : lw_okq (⟨"Threeboxes", "isAnyLying", "(I)Z"⟩, 10) := ⟨⟨by decide +kernel, by decide +kernel⟩, List.mem_of_getElem? (i := 34) (by decide +kernel), List.mem_of_getElem? (i := 786) (by decide +kernel), List.mem_of_getElem? (i := 787) (by decide +kernel)⟩
theorem lw_p40 : lw_okq (⟨"Threeboxes", "noteAll", "(I)V"⟩, 10) := ⟨⟨by decide +kernel, by decide +kernel⟩, List.mem_of_getElem? (i := 34) (by decide +kernel), List.mem_of_getElem? (i := 814) (by decide +kernel), List.mem_of_getElem? (i := 815) (by decide +kernel)⟩
theorem lw_p41 : lw_okq (⟨"Threeboxes", "needEntry", "(I)V"⟩, 10) := ⟨⟨by decide +kernel, by decide +kernel⟩, List.mem_of_getElem? (i := 34) (by decide +kernel), List.mem_of_getElem? (i := 857) (by decide +kernel), List.mem_of_getElem? (i := 858) (by decide +kernel)⟩
theorem lw_p42 : lw_okq (⟨"ThreeboxesModel", "no", "(I)I"⟩, 12) := ⟨⟨by decide +kernel, by decide +kernel⟩, List.mem_of_getElem? (i := 1169) (by decide +kernel), List.mem_of_getElem? (i := 1225) (by decide +kernel), List.mem_of_getElem? (i := 1226) (by decide +kernel)⟩
theorem lw_p43 : lw_okq (⟨"ThreeboxesModel", "isKeeper", "(I)Z"⟩, 12) := ⟨⟨by decide +kernel, by decide +kernel⟩, List.mem_of_getElem? (i := 1169) (by decide +kernel), List.mem_of_getElem? (i := 1273) (by decide +kernel), List.mem_of_getElem? (i := 1274) (by decide +kernel)⟩
theorem lw_p44 : lw_okq (⟨"ThreeboxesModel", "isSet", "(I)Z"⟩, 12) := ⟨⟨by decide +kernel, by decide +kernel⟩, List.mem_of_getElem? (i := 1169) (by decide +kernel), List.mem_of_getElem? (i := 1288) (by decide +kernel), List.mem_of_getElem? (i := 1289) (by decide +kernel)⟩
theorem lw_p45 : lw_okq (⟨"ThreeboxesModel", "draw", "()I"⟩, 12) := ⟨⟨by decide +kernel, by decide +kernel⟩, List.mem_of_getElem? (i := 1169) (by decide +kernel), List.mem_of_getElem? (i := 1332) (by decide +kernel), List.mem_of_getElem? (i := 1333) (by decide +kernel)⟩
theorem lw_p46 : lw_okq (⟨"ThreeboxesModel", "write", "(II)V"⟩, 12) := ⟨⟨by decide +kernel, by decide +kernel⟩, List.mem_of_getElem? (i := 1169) (by decide +kernel), List.mem_of_getElem? (i := 1342) (by decide +kernel), List.mem_of_getElem? (i := 1343) (by decide +kernel)⟩
theorem lw_p47 : lw_okq (⟨"ThreeboxesModel", "isSecret", "(I)Z"⟩, 12) := ⟨⟨by decide +kernel, by decide +kernel⟩, List.mem_of_getElem? (i := 1169) (by decide +kernel), List.mem_of_getElem? (i := 1350) (by decide +kernel), List.mem_of_getElem? (i := 1351) (by decide +kernel)⟩
def lw_privs_3 : List (MethodName × Nat) := [(⟨"java/util/ArrayList", "grow", "(I)[Ljava/lang/Object;"⟩, 3), (⟨"Threeboxes", "keeperAt", "(I)LThreeboxes$Keeper;"⟩, 10), (⟨"Threeboxes", "needSet", "(I)V"⟩, 10), (⟨"Threeboxes$Curve", "nextNumber", "()I"⟩, 2), (⟨"Threeboxes$Secret", "put", "(III)V"⟩, 8), (⟨"Threeboxes", "secretAt", "(I)LThreeboxes$Secret;"⟩, 10), (⟨"Threeboxes", "loseShares", "(I)V"⟩, 10), (⟨"Threeboxes", "isAnyLying", "(I)Z"⟩, 10), (⟨"Threeboxes", "noteAll", "(I)V"⟩, 10), (⟨"Threeboxes", "needEntry", "(I)V"⟩, 10), (⟨"ThreeboxesModel", "no", "(I)I"⟩, 12), (⟨"ThreeboxesModel", "isKeeper", "(I)Z"⟩, 12), (⟨"ThreeboxesModel", "isSet", "(I)Z"⟩, 12), (⟨"ThreeboxesModel", "draw", "()I"⟩, 12), (⟨"ThreeboxesModel", "write", "(II)V"⟩, 12), (⟨"ThreeboxesModel", "isSecret", "(I)Z"⟩, 12)]
theorem lw_r3 : ∀ q ∈ lw_privs_3, lw_okq q := List.forall_mem_cons.mpr ⟨lw_p32, List.forall_mem_cons.mpr ⟨lw_p33, List.forall_mem_cons.mpr ⟨lw_p34, List.forall_mem_cons.mpr ⟨lw_p35, List.forall_mem_cons.mpr ⟨lw_p36, List.forall_mem_cons.mpr ⟨lw_p37, List.forall_mem_cons.mpr ⟨lw_p38, List.forall_mem_cons.mpr ⟨lw_p39, List.forall_mem_cons.mpr ⟨lw_p40, List.forall_mem_cons.mpr ⟨lw_p41, List.forall_mem_cons.mpr ⟨lw_p42, List.forall_mem_cons.mpr ⟨lw_p43, List.forall_mem_cons.mpr ⟨lw_p44, List.forall_mem_cons.mpr ⟨lw_p45, List.forall_mem_cons.mpr ⟨lw_p46, List.forall_mem_cons.mpr ⟨lw_p47, fun _ h => absurd h List.not_mem_nil⟩⟩⟩⟩⟩⟩⟩⟩⟩⟩⟩⟩⟩⟩⟩⟩
theorem lw_p48 : lw_okq (⟨"ThreeboxesModel", "group", "(LThreeboxesModel$Secret;I)I"⟩, 12) := ⟨⟨by decide +kernel, by decide +kernel⟩, List.mem_of_getElem? (i := 1169) (by decide +kernel), List.mem_of_getElem? (i := 1354) (by decide +kernel), List.mem_of_getElem? (i := 1355) (by decide +kernel)⟩
theorem lw_p49 : lw_okq (⟨"ThreeboxesModel", "isGood", "(LThreeboxesModel$Secret;I)Z"⟩, 12) := ⟨⟨by decide +kernel, by decide +kernel⟩, List.mem_of_getElem? (i := 1169) (by decide +kernel), List.mem_of_getElem? (i := 1383) (by decide +kernel), List.mem_of_getElem? (i := 1384) (by decide +kernel)⟩
theorem lw_p50 : lw_okq (⟨"ThreeboxesModel", "best", "(LThreeboxesModel$Secret;I)I"⟩, 12) := ⟨⟨by decide +kernel, by decide +kernel⟩, List.mem_of_getElem? (i := 1169) (by decide +kernel), List.mem_of_getElem? (i := 1387) (by decide +kernel), List.mem_of_getElem? (i := 1388) (by decide +kernel)⟩
theorem lw_p51 : lw_okq (⟨"ThreeboxesModel", "agreeing", "(LThreeboxesModel$Secret;II)I"⟩, 12) := ⟨⟨by decide +kernel, by decide +kernel⟩, List.mem_of_getElem? (i := 1169) (by decide +kernel), List.mem_of_getElem? (i := 1391) (by decide +kernel), List.mem_of_getElem? (i := 1392) (by decide +kernel)⟩
theorem lw_p52 : lw_okq (⟨"ThreeboxesModel", "along", "(LThreeboxesModel$Secret;II)I"⟩, 12) := ⟨⟨by decide +kernel, by decide +kernel⟩, List.mem_of_getElem? (i := 1169) (by decide +kernel), List.mem_of_getElem? (i := 1395) (by decide +kernel), List.mem_of_getElem? (i := 1396) (by decide +kernel)⟩
theorem lw_p53 : lw_okq (⟨"ThreeboxesModel", "gives", "(LThreeboxesModel$Secret;I)I"⟩, 12) := ⟨⟨by decide +kernel, by decide +kernel⟩, List.mem_of_getElem? (i := 1169) (by decide +kernel), List.mem_of_getElem? (i := 1399) (by decide +kernel), List.mem_of_getElem? (i := 1400) (by decide +kernel)⟩
theorem lw_p54 : lw_okq (⟨"ThreeboxesModel", "through", "([I[III)I"⟩, 12) := ⟨⟨by decide +kernel, by decide +kernel⟩, List.mem_of_getElem? (i := 1169) (by decide +kernel), List.mem_of_getElem? (i := 1403) (by decide +kernel), List.mem_of_getElem? (i := 1404) (by decide +kernel)⟩
theorem lw_p55 : lw_okq (⟨"ThreeboxesModel", "over", "(I)I"⟩, 12) := ⟨⟨by decide +kernel, by decide +kernel⟩, List.mem_of_getElem? (i := 1169) (by decide +kernel), List.mem_of_getElem? (i := 1410) (by decide +kernel), List.mem_of_getElem? (i := 1411) (by decide +kernel)⟩
theorem lw_p56 : lw_okq (⟨"ThreeboxesModel", "isLawful", "(LThreeboxesModel$Secret;I)Z"⟩, 12) := ⟨⟨by decide +kernel, by decide +kernel⟩, List.mem_of_getElem? (i := 1169) (by decide +kernel), List.mem_of_getElem? (i := 1426) (by decide +kernel), List.mem_of_getElem? (i := 1427) (by decide +kernel)⟩
theorem lw_p57 : lw_okq (⟨"ThreeboxesModel", "liars", "(LThreeboxesModel$Secret;I)I"⟩, 12) := ⟨⟨by decide +kernel, by decide +kernel⟩, List.mem_of_getElem? (i := 1169) (by decide +kernel), List.mem_of_getElem? (i := 1430) (by decide +kernel), List.mem_of_getElem? (i := 1431) (by decide +kernel)⟩
theorem lw_p58 : lw_okq (⟨"ThreeboxesModel", "found", "(LThreeboxesModel$Secret;I)I"⟩, 12) := ⟨⟨by decide +kernel, by decide +kernel⟩, List.mem_of_getElem? (i := 1169) (by decide +kernel), List.mem_of_getElem? (i := 1434) (by decide +kernel), List.mem_of_getElem? (i := 1435) (by decide +kernel)⟩
theorem lw_p59 : lw_okq (⟨"ThreeboxesModel", "keeperNow", "(II)I"⟩, 12) := ⟨⟨by decide +kernel, by decide +kernel⟩, List.mem_of_getElem? (i := 1169) (by decide +kernel), List.mem_of_getElem? (i := 1446) (by decide +kernel), List.mem_of_getElem? (i := 1447) (by decide +kernel)⟩
theorem lw_p60 : lw_okq (⟨"ThreeboxesModel", "secretNow", "(II)I"⟩, 12) := ⟨⟨by decide +kernel, by decide +kernel⟩, List.mem_of_getElem? (i := 1169) (by decide +kernel), List.mem_of_getElem? (i := 1455) (by decide +kernel), List.mem_of_getElem? (i := 1456) (by decide +kernel)⟩
theorem lw_p61 : lw_okq (⟨"ThreeboxesModel", "bought", "(LThreeboxesModel$Secret;)I"⟩, 12) := ⟨⟨by decide +kernel, by decide +kernel⟩, List.mem_of_getElem? (i := 1169) (by decide +kernel), List.mem_of_getElem? (i := 1459) (by decide +kernel), List.mem_of_getElem? (i := 1460) (by decide +kernel)⟩
theorem lw_p62 : lw_okq (⟨"ThreeboxesModel", "priceOf", "(I)I"⟩, 12) := ⟨⟨by decide +kernel, by decide +kernel⟩, List.mem_of_getElem? (i := 1169) (by decide +kernel), List.mem_of_getElem? (i := 1463) (by decide +kernel), List.mem_of_getElem? (i := 1464) (by decide +kernel)⟩
theorem lw_p63 : lw_okq (⟨"ThreeboxesModel", "shareNow", "(III)I"⟩, 12) := ⟨⟨by decide +kernel, by decide +kernel⟩, List.mem_of_getElem? (i := 1169) (by decide +kernel), List.mem_of_getElem? (i := 1471) (by decide +kernel), List.mem_of_getElem? (i := 1472) (by decide +kernel)⟩
def lw_privs_4 : List (MethodName × Nat) := [(⟨"ThreeboxesModel", "group", "(LThreeboxesModel$Secret;I)I"⟩, 12), (⟨"ThreeboxesModel", "isGood", "(LThreeboxesModel$Secret;I)Z"⟩, 12), (⟨"ThreeboxesModel", "best", "(LThreeboxesModel$Secret;I)I"⟩, 12), (⟨"ThreeboxesModel", "agreeing", "(LThreeboxesModel$Secret;II)I"⟩, 12), (⟨"ThreeboxesModel", "along", "(LThreeboxesModel$Secret;II)I"⟩, 12), (⟨"ThreeboxesModel", "gives", "(LThreeboxesModel$Secret;I)I"⟩, 12), (⟨"ThreeboxesModel", "through", "([I[III)I"⟩, 12), (⟨"ThreeboxesModel", "over", "(I)I"⟩, 12), (⟨"ThreeboxesModel", "isLawful", "(LThreeboxesModel$Secret;I)Z"⟩, 12), (⟨"ThreeboxesModel", "liars", "(LThreeboxesModel$Secret;I)I"⟩, 12), (⟨"ThreeboxesModel", "found", "(LThreeboxesModel$Secret;I)I"⟩, 12), (⟨"ThreeboxesModel", "keeperNow", "(II)I"⟩, 12), (⟨"ThreeboxesModel", "secretNow", "(II)I"⟩, 12), (⟨"ThreeboxesModel", "bought", "(LThreeboxesModel$Secret;)I"⟩, 12), (⟨"ThreeboxesModel", "priceOf", "(I)I"⟩, 12), (⟨"ThreeboxesModel", "shareNow", "(III)I"⟩, 12)]
theorem lw_r4 : ∀ q ∈ lw_privs_4, lw_okq q := List.forall_mem_cons.mpr ⟨lw_p48, List.forall_mem_cons.mpr ⟨lw_p49, List.forall_mem_cons.mpr ⟨lw_p50, List.forall_mem_cons.mpr ⟨lw_p51, List.forall_mem_cons.mpr ⟨lw_p52, List.forall_mem_cons.mpr ⟨lw_p53, List.forall_mem_cons.mpr ⟨lw_p54, List.forall_mem_cons.mpr ⟨lw_p55, List.forall_mem_cons.mpr ⟨lw_p56, List.forall_mem_cons.mpr ⟨lw_p57, List.forall_mem_cons.mpr ⟨lw_p58, List.forall_mem_cons.mpr ⟨lw_p59, List.forall_mem_cons.mpr ⟨lw_p60, List.forall_mem_cons.mpr ⟨lw_p61, List.forall_mem_cons.mpr ⟨lw_p62, List.forall_mem_cons.mpr ⟨lw_p63, fun _ h => absurd h List.not_mem_nil⟩⟩⟩⟩⟩⟩⟩⟩⟩⟩⟩⟩⟩⟩⟩⟩
theorem lw_p64 : lw_okq (⟨"ThreeboxesModel", "bankNow", "(I)I"⟩, 12) := ⟨⟨by decide +kernel, by decide +kernel⟩, List.mem_of_getElem? (i := 1169) (by decide +kernel), List.mem_of_getElem? (i := 1479) (by decide +kernel), List.mem_of_getElem? (i := 1480) (by decide +kernel)⟩
theorem lw_p65 : lw_okq (⟨"ThreeboxesModel", "root", "()I"⟩, 12) := ⟨⟨by decide +kernel, by decide +kernel⟩, List.mem_of_getElem? (i := 1169) (by decide +kernel), List.mem_of_getElem? (i := 1483) (by decide +kernel), List.mem_of_getElem? (i := 1484) (by decide +kernel)⟩
theorem lw_p66 : lw_okq (⟨"ThreeboxesModel", "node", "(IIII)I"⟩, 12) := ⟨⟨by decide +kernel, by decide +kernel⟩, List.mem_of_getElem? (i := 1169) (by decide +kernel), List.mem_of_getElem? (i := 1487) (by decide +kernel), List.mem_of_getElem? (i := 1488) (by decide +kernel)⟩
theorem lw_p67 : lw_okq (⟨"ThreeboxesModel", "isEntry", "(I)Z"⟩, 12) := ⟨⟨by decide +kernel, by decide +kernel⟩, List.mem_of_getElem? (i := 1169) (by decide +kernel), List.mem_of_getElem? (i := 1496) (by decide +kernel), List.mem_of_getElem? (i := 1497) (by decide +kernel)⟩
theorem lw_p68 : lw_okq (⟨"ThreeboxesModel", "proofNow", "(II)I"⟩, 12) := ⟨⟨by decide +kernel, by decide +kernel⟩, List.mem_of_getElem? (i := 1169) (by decide +kernel), List.mem_of_getElem? (i := 1504) (by decide +kernel), List.mem_of_getElem? (i := 1505) (by decide +kernel)⟩
theorem lw_p69 : lw_okq (⟨"ThreeboxesModel", "wouldNow", "(III)I"⟩, 12) := ⟨⟨by decide +kernel, by decide +kernel⟩, List.mem_of_getElem? (i := 1169) (by decide +kernel), List.mem_of_getElem? (i := 1521) (by decide +kernel), List.mem_of_getElem? (i := 1522) (by decide +kernel)⟩
theorem lw_p70 : lw_okq (⟨"ThreeboxesModel", "lostNow", "(I)D"⟩, 12) := ⟨⟨by decide +kernel, by decide +kernel⟩, List.mem_of_getElem? (i := 1169) (by decide +kernel), List.mem_of_getElem? (i := 1533) (by decide +kernel), List.mem_of_getElem? (i := 1534) (by decide +kernel)⟩
theorem lw_p71 : lw_okq (⟨"ThreeboxesModel", "fewestNow", "(I)I"⟩, 12) := ⟨⟨by decide +kernel, by decide +kernel⟩, List.mem_of_getElem? (i := 1169) (by decide +kernel), List.mem_of_getElem? (i := 1542) (by decide +kernel), List.mem_of_getElem? (i := 1543) (by decide +kernel)⟩
theorem lw_p72 : lw_okq (⟨"ThreeboxesModel", "isSoundNow", "()Z"⟩, 12) := ⟨⟨by decide +kernel, by decide +kernel⟩, List.mem_of_getElem? (i := 1169) (by decide +kernel), List.mem_of_getElem? (i := 1554) (by decide +kernel), List.mem_of_getElem? (i := 1555) (by decide +kernel)⟩
theorem lw_p73 : lw_okq (⟨"ThreeboxesModel", "isOneCurve", "(LThreeboxesModel$Secret;)Z"⟩, 12) := ⟨⟨by decide +kernel, by decide +kernel⟩, List.mem_of_getElem? (i := 1169) (by decide +kernel), List.mem_of_getElem? (i := 1558) (by decide +kernel), List.mem_of_getElem? (i := 1559) (by decide +kernel)⟩
def lw_privs_5 : List (MethodName × Nat) := [(⟨"ThreeboxesModel", "bankNow", "(I)I"⟩, 12), (⟨"ThreeboxesModel", "root", "()I"⟩, 12), (⟨"ThreeboxesModel", "node", "(IIII)I"⟩, 12), (⟨"ThreeboxesModel", "isEntry", "(I)Z"⟩, 12), (⟨"ThreeboxesModel", "proofNow", "(II)I"⟩, 12), (⟨"ThreeboxesModel", "wouldNow", "(III)I"⟩, 12), (⟨"ThreeboxesModel", "lostNow", "(I)D"⟩, 12), (⟨"ThreeboxesModel", "fewestNow", "(I)I"⟩, 12), (⟨"ThreeboxesModel", "isSoundNow", "()Z"⟩, 12), (⟨"ThreeboxesModel", "isOneCurve", "(LThreeboxesModel$Secret;)Z"⟩, 12)]
theorem lw_r5 : ∀ q ∈ lw_privs_5, lw_okq q := List.forall_mem_cons.mpr ⟨lw_p64, List.forall_mem_cons.mpr ⟨lw_p65, List.forall_mem_cons.mpr ⟨lw_p66, List.forall_mem_cons.mpr ⟨lw_p67, List.forall_mem_cons.mpr ⟨lw_p68, List.forall_mem_cons.mpr ⟨lw_p69, List.forall_mem_cons.mpr ⟨lw_p70, List.forall_mem_cons.mpr ⟨lw_p71, List.forall_mem_cons.mpr ⟨lw_p72, List.forall_mem_cons.mpr ⟨lw_p73, fun _ h => absurd h List.not_mem_nil⟩⟩⟩⟩⟩⟩⟩⟩⟩⟩
def lw_privs : List (MethodName × Nat) := lw_privs_1 ++ (lw_privs_2 ++ (lw_privs_3 ++ (lw_privs_4 ++ (lw_privs_5))))
def lw_tbl : List Cond := k2_sels lw_privs ++ tables_1
theorem lw_privs_ok : ∀ q ∈ lw_privs, lw_okq q := by
  show ∀ q ∈ lw_privs_1 ++ (lw_privs_2 ++ (lw_privs_3 ++ (lw_privs_4 ++ (lw_privs_5)))), lw_okq q
  exact List.forall_mem_append.mpr ⟨lw_r1, List.forall_mem_append.mpr ⟨lw_r2, List.forall_mem_append.mpr ⟨lw_r3, List.forall_mem_append.mpr ⟨lw_r4, lw_r5⟩⟩⟩⟩
/-- the streams that the claim lets the run draw from -/
abbrev lw_cs : List Choice := [Jvm.Choice.named "NaN.bits"]
theorem lw_bits : nanBits ∈ lw_cs := by first | decide | exact List.mem_cons_self | simp [lw_cs, nanBits]
-- ===== end of PART A; then your names; then what follows =====
end
section
/-! ===== BEGIN words of one list among another's, by their places ===== -/
theorem goodIn_r {big : List Cond} (ws : List Cond) (ps : List Nat) (hp : ws = ps.filterMap (fun i => big[i]?)) (h : ws.all goodWord = true) : GoodIn big ws := by
  intro w hw
  have h1 := List.all_eq_true.mp h w hw
  rw [hp] at hw
  obtain ⟨i, -, hi⟩ := List.mem_filterMap.mp hw
  have hm : w ∈ big := by first | exact List.mem_of_getElem? hi | exact List.getElem?_mem hi
  exact ⟨hm, good_of_word h1⟩
theorem goodIn_app {big a b : List Cond} (ha : GoodIn big a) (hb : GoodIn big b) : GoodIn big (a ++ b) := fun w h => (List.mem_append.mp h).elim (ha w) (hb w)
theorem goodIn_ca {big a b : List Cond} {c : Cond} (ha : GoodIn big (c :: a)) (hb : GoodIn big b) : GoodIn big (c :: (a ++ b)) := fun w h => (List.mem_cons.mp h).elim (fun e => ha w (List.mem_cons.mpr (Or.inl e))) (fun h => (List.mem_append.mp h).elim (fun h => ha w (List.mem_cons.mpr (Or.inr h))) (hb w))
theorem goodIn_sub {big ws : List Cond} (hm : ∀ w ∈ ws, w ∈ big) (h : ws.all goodWord = true) : GoodIn big ws := fun w hw => ⟨hm w hw, good_of_word (List.all_eq_true.mp h w hw)⟩
/-! ===== END ===== -/
/-! ===== BEGIN exceptions that leave a method, and their catching by the caller (launches without stack traces) ===== -/
section VXA
/-! The laws vx_back, vx_callV, vx_callS, vx_callSW, vx_throw0, vx_throwS follow proofs of the library, with one case more: JvmDerived/Free/Laws.lean (Back.of_free), Shelf42/LK1.lean (callV, callS), Shelf/KitTraced.lean (throwNew0V, throwNewS). -/
/-- where a method has thrown q: the class by its name, the cell, what was written, the world -/
def vx_T (XC : String → State → State → Prop) (st : State) (q : Addr) (t : State) (mc ms : Nat) (free : Addr → Prop) : Prop :=
  ∃ (E : String) (ce : Cell) (L : List Loc), XC E st t ∧ t.heap[q]? = some ce ∧ ce.vm = .none ∧ st.vm.findClass E = some ce.cls ∧ st.WarmedH t.vm ∧ st.sameButNew ({ t with vm := st.vm } : State) L mc ms ∧ ∀ z ∈ L, free z.base
def vx_Q (Qc : Array Value → State → Outcome → State → Prop) (XC : String → State → State → Prop) (mc ms : Nat) (free : Addr → Prop) : Array Value → State → Outcome → State → Prop := fun a st o t =>
  (Qc a st o t ∧ ∃ L, FrameEnd st o t L mc ms ∧ ∀ q ∈ L, free q.base) ∨ ∃ q, o = .threw q ∧ vx_T XC st q t mc ms free
/-- a callee that returns or throws -/
def vx_Met (l : Launch) (y : MethodName) (ws : List Cond) (rm : Room) (Pc : Array Value → State → Prop) (Qc : Array Value → State → Outcome → State → Prop) (XC : String → State → State → Prop) (mc ms : Nat) (free : Addr → Prop) : Prop :=
  MetFree l y (headSpec ws rm) Pc (fun _ _ _ _ _ => True) (vx_Q Qc XC mc ms free)
def vx_Post (XC : String → State → State → Prop) (mc ms : Nat) (free : Addr → Prop) : Pt → Array Value → Addr → Pt → Prop := fun A a q B =>
  ∃ (g : JFrame) (mk : MethodId) (t : State) (L : List Loc) (E : String) (ce : Cell), B.U.heap = t.heap ∧ B.U.vm = t.vm ∧ XC E (A.U.calling g mk a) t ∧ t.heap[q]? = some ce ∧ ce.vm = .none ∧ A.U.vm.findClass E = some ce.cls ∧ B.locs = A.locs ++ L ∧ (∀ z ∈ L, free z.base) ∧ B.cells = A.cells + mc ∧ B.slots = A.slots + ms
def vx_Back (l : Launch) (R : Room) (p : Program) (e : Env) (below : List Frame) (s : State) (sargs : Array Value) (y : MethodName) (len W9 : Nat)
    (Pre : Pt → Array Value → Prop) (Post : Pt → Array Value → Option Value → Pt → Prop) (PostX : Pt → Array Value → Addr → Pt → Prop) : Prop :=
  ∀ (m : MethodId) (meth : Method) (c : Code) (A : Pt) (g : JFrame) (ig : Instr) (mk : MethodId) (a : Array Value),
    Stand p l e R s m sargs below meth c A.U A.locs A.cells A.slots → g.method = m → g.locals.size = c.maxLocals → decode c.code g.pc = .ok (ig, len) →
    2 * g.monitorRoom + (g.stack.map fun v => v.category).sum ≤ W9 → A.U.methodNamed? y = some mk → Pre A a →
    (∃ (v : Option Value) (B : Pt), Stand p l e R s m sargs below meth c B.U B.locs B.cells B.slots ∧ Post A a v B ∧
      Steps p.tables e below (doInvoke e (A.U.setTop g) [] mk a).1 (B.U.setTop { g with pc := g.pc + len, stack := v.toList ++ g.stack })) ∨
    (∃ (q : Addr) (B : Pt), Stand p l e R s m sargs below meth c B.U B.locs B.cells B.slots ∧ PostX A a q B ∧
      Steps p.tables e below (doInvoke e (A.U.setTop g) [] mk a).1 ((B.U.setTop g).pushFrame (.throwing q)))
section Payer
variable {l : Launch} {R : Room} {p : Program} {e : Env} {below : List Frame} {s : State} {sargs : Array Value} {y : MethodName} {len W9 : Nat}
theorem vx_back {ws : List Cond} {rm : Room} {Pc : Array Value → State → Prop} {Qc : Array Value → State → Outcome → State → Prop} {XC : String → State → State → Prop} {mc ms : Nat} {free : Addr → Prop} {bytes : ByteArray} {maxL : Nat} {ret : Option FieldType}
    (hM : vx_Met l y ws rm Pc Qc XC mc ms free) (hblind : FrameBlind Pc) (hrc : rm.cells = mc) (hrs : rm.slots = ms)
    (hframes : rm.frames + 1 ≤ R.frames) (hlocals : W9 + (maxL + 11) + rm.locals ≤ R.locals)
    (hws : ∀ w ∈ ws, ∀ a' U, s.WarmedH U.vm → w.before a' U = true) (hcode : Cond.code y bytes maxL ret ∈ ws) (hinit : ∀ a' U, s.WarmedH U.vm → (Cond.initialized y.cls).before a' U = true) :
    vx_Back l R p e below s sargs y len W9 (PreOf R mc ms Pc) (PostOf Qc mc ms free) (vx_Post XC mc ms free) := by
  intro m meth c A g ig mk a X hg hsize hdg hW hn hp
  have h1 : (headSpec ws rm).pre.before a A.U = true := atoms_intro fun w hw => hws w hw _ _ X.warmed
  have h2 : (Cond.code y bytes maxL ret).before a A.U = true := hws _ hcode _ _ X.warmed
  have h3 : (Cond.initialized y.cls).before a A.U = true := hinit _ _ X.warmed
  have h4 : A.cells + (headSpec ws rm).room.cells ≤ R.cells := by rw [show (headSpec ws rm).room.cells = mc from hrc]; exact hp.1
  have h5 : A.slots + (headSpec ws rm).room.slots ≤ R.slots := by rw [show (headSpec ws rm).room.slots = ms from hrs]; exact hp.2.1
  have hPc : Pc a (A.U.calling g mk a) := hblind _ _ _ _ hp.2.2
  obtain ⟨U, Ls, c0, s0⟩ := A
  dsimp only [Pt.U, Pt.locs, Pt.cells, Pt.slots] at h1 h2 h3 h4 h5 X hn hPc ⊢
  obtain ⟨methY, cY, hmY, hcY, -, hlY, -, -, -, -⟩ := Cond.code_spec hn h2
  obtain ⟨kY, hkY, -⟩ := className_of_methodNamed hn
  have hinitY : kY.init = .initialized := Cond.initialized_spec (findClass_of_methodNamed hn) hkY h3
  have h : At U g.method c below := by rw [hg]; exact X.here
  have hlocals9 : W9 + (maxL + 11) + (headSpec ws rm).room.locals ≤ R.locals := hlocals
  have happ : (headSpec ws rm).appliesLoose y e.platform (U.calling g mk a) = true :=
    Spec.appliesLoose_calling (g := g) h hdg hn hkY hinitY
      (X.room_calling (g := g) (R' := (headSpec ws rm).room) hsize hmY hcY hframes (by rw [hlY]; omega) h4 h5) h1
  obtain ⟨mid, hmid⟩ := h.above
  have hfr : (U.setTop g).frames = (.java g :: mid) ++ below := by rw [State.frames_setTop' g h.top, hmid]; rfl
  obtain ⟨o, s₂, hsteps, -, hend, hq⟩ := Steps.callFree hM p X.admits X.cas X.clock (acts := []) hfr happ hPc trivial
  have hq' : vx_Q Qc XC mc ms free a (U.calling g mk a) o s₂ := hq
  rw [State.frames_setTop' g h.top] at hend
  obtain ⟨g₀, hg0⟩ := Option.isSome_iff_exists.mp h.top
  obtain ⟨r, hr⟩ := State.topJava?_eq_some.mp hg0
  have hr' : (({ U with heap := s₂.heap, slotsUsed := s₂.slotsUsed } : State).setVm s₂.vm).frames = .java g₀ :: r := hr
  rcases hq' with ⟨hqc, L, hfe, hL⟩ | ⟨q, rfl, E, ce, L, hx, hce, hcv, hcl, hW₂, hsm, hL⟩
  · obtain ⟨⟨v, rfl⟩, hW₂, e2, q2, q3, q4, q5, q6⟩ := id hfe
    have e3 : s₂ = ({ (U.calling g mk a).setFrames s₂.frames with heap := s₂.heap, slotsUsed := s₂.slotsUsed } : State).setVm s₂.vm := by
      have : s₂ = ({ s₂ with vm := (U.calling g mk a).vm } : State).setVm s₂.vm := rfl
      rw [e2] at this
      exact this
    obtain ⟨c₂, i₂, len₂, hc₂, hd₂, hf₂⟩ := hend
    have hW' : U.WarmedH s₂.vm := hW₂
    have hcc : c₂ = c := by
      have h1 : s₂.code? g.method = U.code? g.method := by
        rw [State.code?_eq, State.code?_eq, hW'.alike.method?]
      exact Option.some.inj (hc₂.symm.trans (h1.trans h.code))
    subst hcc
    have hlen : len₂ = len := by rw [hdg] at hd₂; cases hd₂; rfl
    subst hlen
    have hs₂ : s₂ = (({ U with heap := s₂.heap, slotsUsed := s₂.slotsUsed } : State).setVm s₂.vm).setTop { g with pc := g.pc + len₂, stack := v.toList ++ g.stack } := by
      refine e3.trans ?_
      rw [hf₂, State.calling_eq h.top, State.setFrames_setFrames, State.setTop_of_frames _ hr', hr]
      rfl
    have hsame : U.sameButNew ({ U with heap := s₂.heap, slotsUsed := s₂.slotsUsed } : State) L mc ms := by
      refine ⟨?_, q2, q3, q4, q5, q6⟩
      obtain ⟨t, ht, -⟩ := State.frames_cons hr
      show ({ U with heap := s₂.heap, slotsUsed := s₂.slotsUsed } : State) = { U.setFrames U.frames with heap := s₂.heap, slotsUsed := s₂.slotsUsed }
      rw [State.setFrames_self ht]
    subst hg
    refine Or.inl ⟨v, ⟨(({ U with heap := s₂.heap, slotsUsed := s₂.slotsUsed } : State).setVm s₂.vm), Ls ++ L, c0 + mc, s0 + ms⟩,
      ⟨X.admits, X.cas, X.clock, X.frames, X.room, X.hears, X.method, X.code, (X.here.setHeapUsed s₂.heap s₂.slotsUsed).setVm hW'.alike, X.tail, State.WarmedH.trans X.warmed hW', X.limits, X.bytes, X.same.trans (hsame.setVm s.vm)⟩,
      ⟨g, mk, s₂, L, rfl, rfl, hqc, rfl, hL, rfl, rfl⟩, ?_⟩
    show Steps p.tables e below _ ((({ U with heap := s₂.heap, slotsUsed := s₂.slotsUsed } : State).setVm s₂.vm).setTop { g with pc := g.pc + len₂, stack := v.toList ++ g.stack })
    rw [← hs₂]
    exact hsteps
  · obtain ⟨e2, q2, q3, q4, q5, q6⟩ := id hsm
    have e3 : s₂ = ({ (U.calling g mk a).setFrames s₂.frames with heap := s₂.heap, slotsUsed := s₂.slotsUsed } : State).setVm s₂.vm := by
      have : s₂ = ({ s₂ with vm := (U.calling g mk a).vm } : State).setVm s₂.vm := rfl
      rw [e2] at this
      exact this
    have hf₂ : s₂.frames = .throwing q :: .java g :: U.frames.tail := hend
    have hW' : U.WarmedH s₂.vm := hW₂
    have hs₂ : s₂ = ((({ U with heap := s₂.heap, slotsUsed := s₂.slotsUsed } : State).setVm s₂.vm).setTop g).pushFrame (.throwing q) := by
      refine e3.trans ?_
      rw [hf₂, State.calling_eq h.top, State.setFrames_setFrames, State.pushFrame, State.frames_setTop _ hr', State.setTop_of_frames _ hr', State.setFrames_setFrames, hr]
      rfl
    have hsame : U.sameButNew ({ U with heap := s₂.heap, slotsUsed := s₂.slotsUsed } : State) L mc ms := by
      refine ⟨?_, q2, q3, q4, q5, q6⟩
      obtain ⟨t, ht, -⟩ := State.frames_cons hr
      show ({ U with heap := s₂.heap, slotsUsed := s₂.slotsUsed } : State) = { U.setFrames U.frames with heap := s₂.heap, slotsUsed := s₂.slotsUsed }
      rw [State.setFrames_self ht]
    subst hg
    refine Or.inr ⟨q, ⟨(({ U with heap := s₂.heap, slotsUsed := s₂.slotsUsed } : State).setVm s₂.vm), Ls ++ L, c0 + mc, s0 + ms⟩,
      ⟨X.admits, X.cas, X.clock, X.frames, X.room, X.hears, X.method, X.code, (X.here.setHeapUsed s₂.heap s₂.slotsUsed).setVm hW'.alike, X.tail, State.WarmedH.trans X.warmed hW', X.limits, X.bytes, X.same.trans (hsame.setVm s.vm)⟩,
      ⟨g, mk, s₂, L, E, ce, rfl, rfl, hx, hce, hcv, hcl, rfl, hL, rfl, rfl⟩, ?_⟩
    show Steps p.tables e below _ (((({ U with heap := s₂.heap, slotsUsed := s₂.slotsUsed } : State).setVm s₂.vm).setTop g).pushFrame (.throwing q))
    rw [← hs₂]
    exact hsteps
end Payer
section Calls
variable {p : Program} {l : Launch} {e : Env} {R : Room} {s : State} {m : MethodId} {args : Array Value} {below : List Frame} {meth : Method} {c : Code} {T : State} {locs : List Loc} {cells slots : Nat}
theorem vx_callV (X : Stand p l e R s m args below meth c T locs cells slots) (hexec : p.tables.exec = Jvm.exec) {own C : String} {index : Nat} {y : MethodName} {bytes : ByteArray} {maxL : Nat} {ret : Option FieldType}
    (hown : s.vm.findClass own = some m.cls) (hlink : (Cond.methodLink own index y).before args s = true) (hinst : (Cond.instanceMethod y).before args s = true) (hsel : (Cond.selects C y y).before args s = true)
    (hcode : (Cond.code y bytes maxL ret).before args s = true) (hy : y.cls ≠ "java/lang/invoke/MethodHandle" ∧ y.cls ≠ "java/lang/invoke/VarHandle")
    {W9 : Nat} {Pre : Pt → Array Value → Prop} {Post : Pt → Array Value → Option Value → Pt → Prop} {PostX : Pt → Array Value → Addr → Pt → Prop} (hK : vx_Back l R p e below s args y 3 W9 Pre Post PostX)
    {b : Addr} {cellB : Cell} (hcell : T.heap[b]? = some cellB) (hobj : cellB.vm.isStatics = false) (hcls : s.vm.findClass C = some cellB.cls)
    {g : JFrame} (hg : g.method = m) (hsize : g.locals.size = c.maxLocals) {argsL rest : List Value} (hlen : ∀ sig, parseMethodDescriptor y.desc = some sig → argsL.length = sig.parameters.length)
    (hstack : g.stack = argsL.reverse ++ .ref b :: rest) (hW : 2 * g.monitorRoom + (rest.map fun v => v.category).sum ≤ W9) (hdg : decode c.code g.pc = .ok (.invokevirtual index, 3))
    (hpre : ∀ vm₁, s.WarmedH vm₁ → Pre ⟨T.setVm vm₁, locs, cells, slots⟩ (Value.ref b :: argsL).toArray) :
    (∃ (v : Option Value) (vm₁ : Vm) (B : Pt), s.WarmedH vm₁ ∧ Stand p l e R s m args below meth c B.U B.locs B.cells B.slots ∧ Post ⟨T.setVm vm₁, locs, cells, slots⟩ (Value.ref b :: argsL).toArray v B ∧
      ∀ target, Steps p.tables e below (B.U.setTop { g with pc := g.pc + 3, stack := v.toList ++ rest }) target → Steps p.tables e below (T.setTop g) target) ∨
    (∃ (q : Addr) (vm₁ : Vm) (B : Pt), s.WarmedH vm₁ ∧ Stand p l e R s m args below meth c B.U B.locs B.cells B.slots ∧ PostX ⟨T.setVm vm₁, locs, cells, slots⟩ (Value.ref b :: argsL).toArray q B ∧
      Steps p.tables e below (T.setTop g) ((B.U.setTop { g with stack := rest }).pushFrame (.throwing q))) := by
  obtain ⟨mk, methM, hnamed, hmethM, hstM, habM⟩ := Cond.instanceMethod_spec hinst
  obtain ⟨methM', cM, hmethM', -, -, -, -, -, -, hsigM⟩ := Cond.code_spec hnamed hcode
  cases hmethM.symm.trans hmethM'
  obtain ⟨c2, r2, m2, q1, q2, q3, q4, kP, hkP, hkPi⟩ := Cond.selects_spec hsel
  cases hcls.symm.trans q1
  cases (State.methodFound?_of_named hnamed hy).symm.trans q2
  cases hnamed.symm.trans q3
  have hselP : selectMethod e.platform s.vm cellB.cls mk = .method mk := by rw [Launch.admits_selectMethod X.admits]; exact q4
  obtain ⟨vm₁, X₁, hstep₁⟩ := X.invokevirtual hexec hown hlink hnamed hmethM hstM hkP hkPi hy (a := b) (cell := cellB) hcell
    (fun z h => by rw [h] at hobj; cases hobj) hselP hmethM habM hkP hkPi (g := g) hg (argsL := argsL) (rest := rest) (hlen _ hsigM) hstack hdg
  rcases hK m meth c ⟨T.setVm vm₁, locs, cells, slots⟩ { g with stack := rest } (.invokevirtual index) mk (Value.ref b :: argsL).toArray X₁ hg hsize hdg hW (X₁.named hnamed) (hpre vm₁ X₁.warmed) with ⟨v, B, X', hpost, hsteps⟩ | ⟨q, B, X', hpost, hsteps⟩
  · exact Or.inl ⟨v, vm₁, B, X₁.warmed, X', hpost, fun target h => hstep₁ _ fun acts => by rw [doInvoke_state]; exact hsteps.trans h⟩
  · exact Or.inr ⟨q, vm₁, B, X₁.warmed, X', hpost, hstep₁ _ fun acts => by rw [doInvoke_state]; exact hsteps⟩
theorem vx_callS (X : Stand p l e R s m args below meth c T locs cells slots) (hexec : p.tables.exec = Jvm.exec) {own : String} {index : Nat} {y : MethodName} {bytes : ByteArray} {maxL : Nat} {ret : Option FieldType}
    (hown : s.vm.findClass own = some m.cls) (hlink : (Cond.methodLink own index y).before args s = true) (hstat : (Cond.static y).before args s = true) (hinit : (Cond.initialized y.cls).before args s = true)
    (hcode : (Cond.code y bytes maxL ret).before args s = true) (hy : y.cls ≠ "java/lang/invoke/MethodHandle" ∧ y.cls ≠ "java/lang/invoke/VarHandle")
    {W9 : Nat} {Pre : Pt → Array Value → Prop} {Post : Pt → Array Value → Option Value → Pt → Prop} {PostX : Pt → Array Value → Addr → Pt → Prop} (hK : vx_Back l R p e below s args y 3 W9 Pre Post PostX)
    {g : JFrame} (hg : g.method = m) (hsize : g.locals.size = c.maxLocals) {argsL rest : List Value} (hlen : ∀ sig, parseMethodDescriptor y.desc = some sig → argsL.length = sig.parameters.length)
    (hstack : g.stack = argsL.reverse ++ rest) (hW : 2 * g.monitorRoom + (rest.map fun v => v.category).sum ≤ W9) (hdg : decode c.code g.pc = .ok (.invokestatic index, 3))
    (hpre : ∀ vm₁, s.WarmedH vm₁ → Pre ⟨T.setVm vm₁, locs, cells, slots⟩ argsL.toArray) :
    (∃ (v : Option Value) (vm₁ : Vm) (B : Pt), s.WarmedH vm₁ ∧ Stand p l e R s m args below meth c B.U B.locs B.cells B.slots ∧ Post ⟨T.setVm vm₁, locs, cells, slots⟩ argsL.toArray v B ∧
      ∀ target, Steps p.tables e below (B.U.setTop { g with pc := g.pc + 3, stack := v.toList ++ rest }) target → Steps p.tables e below (T.setTop g) target) ∨
    (∃ (q : Addr) (vm₁ : Vm) (B : Pt), s.WarmedH vm₁ ∧ Stand p l e R s m args below meth c B.U B.locs B.cells B.slots ∧ PostX ⟨T.setVm vm₁, locs, cells, slots⟩ argsL.toArray q B ∧
      Steps p.tables e below (T.setTop g) ((B.U.setTop { g with stack := rest }).pushFrame (.throwing q))) := by
  obtain ⟨mk, hnamed⟩ := Cond.code_named hcode
  obtain ⟨methM, cM, hmethM, -, -, -, -, -, -, hsigM⟩ := Cond.code_spec hnamed hcode
  have hstatic : methM.isStatic = true := Cond.static_spec hnamed hmethM hstat
  obtain ⟨kP, hkP, -⟩ := className_of_methodNamed hnamed
  have hinitP : kP.init = .initialized := Cond.initialized_spec (findClass_of_methodNamed hnamed) hkP hinit
  obtain ⟨vm₁, X₁, hstep₁⟩ := X.invokestatic hexec hown hlink hnamed hmethM hstatic hkP hinitP hy (g := g) hg (argsL := argsL) (rest := rest) (hlen _ hsigM) hstack hdg
  rcases hK m meth c ⟨T.setVm vm₁, locs, cells, slots⟩ { g with stack := rest } (.invokestatic index) mk argsL.toArray X₁ hg hsize hdg hW (X₁.named hnamed) (hpre vm₁ X₁.warmed) with ⟨v, B, X', hpost, hsteps⟩ | ⟨q, B, X', hpost, hsteps⟩
  · exact Or.inl ⟨v, vm₁, B, X₁.warmed, X', hpost, fun target h => hstep₁ _ fun acts => by rw [doInvoke_state]; exact hsteps.trans h⟩
  · exact Or.inr ⟨q, vm₁, B, X₁.warmed, X', hpost, hstep₁ _ fun acts => by rw [doInvoke_state]; exact hsteps⟩
end Calls
theorem vx_cls {s : State} {T : State} {vm₁ : Vm} {E : String} {k : ClassId} (hW : s.WarmedH vm₁) (h : (T.setVm vm₁).vm.findClass E = some k) : s.vm.findClass E = some k := by
  have h1 : vm₁.findClass E = some k := h
  rw [hW.alike.findClass] at h1
  exact h1
/-- the method's frame g, with q thrown over it -/
def vx_W (p : Program) (l : Launch) (e : Env) (R : Room) (s : State) (m : MethodId) (args : Array Value) (below : List Frame) (meth : Method) (c : Code) (H : Heap) (locs : List Loc) (cells slots : Nat) (Q : State → Prop) (g : JFrame) (q : Addr) : Prop :=
  ∀ T : State, T.heap = H → Stand p l e R s m args below meth c T locs cells slots → ∃ t, Steps p.tables e below ((T.setTop g).pushFrame (.throwing q)) t ∧ Q t
def vx_Run (p : Program) (l : Launch) (e : Env) (R : Room) (s : State) (m : MethodId) (args : Array Value) (below : List Frame) (meth : Method) (c : Code) (H : Heap) (locs : List Loc) (cells slots mc ms : Nat) (g : JFrame) (rest : List Value) (Qa : State → Outcome → State → Prop) (XC : String → State → State → Prop) (free : Addr → Prop) : Prop :=
  ∀ T : State, T.heap = H → Stand p l e R s m args below meth c T locs cells slots →
    (∃ (v : Option Value) (st₀ t T' : State) (L : List Loc), st₀.heap = H ∧ Stand p l e R s m args below meth c T' (locs ++ L) (cells + mc) (slots + ms) ∧ (∀ q ∈ L, free q.base) ∧ T'.heap = t.heap ∧ T'.vm = t.vm ∧ Qa st₀ (.returned v) t ∧
      Goes p e below T g T' { g with pc := g.pc + 3, stack := v.toList ++ rest }) ∨
    (∃ (q : Addr) (st₀ t T' : State) (L : List Loc) (E : String) (ce : Cell), st₀.heap = H ∧ Stand p l e R s m args below meth c T' (locs ++ L) (cells + mc) (slots + ms) ∧ (∀ z ∈ L, free z.base) ∧ T'.heap = t.heap ∧ T'.vm = t.vm ∧ XC E st₀ t ∧ t.heap[q]? = some ce ∧ ce.vm = .none ∧ s.vm.findClass E = some ce.cls ∧
      Steps p.tables e below (T.setTop g) ((T'.setTop { g with stack := rest }).pushFrame (.throwing q)))
def vx_X {S : Type} (px : S → Prop) (B : String → S → State → Prop) (A : Nat → Prop) : String → State → State → Prop := fun E st t => ∃ u : S, px u ∧ B E u t ∧ va_F A st t
section Runs
variable {p : Program} {l : Launch} {e : Env} {R : Room} {s : State} {m : MethodId} {args : Array Value} {below : List Frame} {meth : Method} {c : Code} {H : Heap} {locs : List Loc} {cells slots : Nat}
variable {y : MethodName} {bytes cc : ByteArray} {maxL nL mc ms n index : Nat} {ret : Option FieldType} {ws : List Cond} {rm : Room} {Pc : Array Value → State → Prop} {Qc : Array Value → State → Outcome → State → Prop} {XC : String → State → State → Prop} {free : Addr → Prop} {Ts : List Cond} {own C : String} {b : Addr} {As rest : List Value} {g : JFrame}
theorem vx_callBack (cb : CallB R s args own index y bytes maxL ret ws rm mc ms n) (hM : vx_Met l y ws rm Pc Qc XC mc ms free) (hbl : FrameBlind Pc) : vx_Back l R p e below s args y 3 8 (PreOf R mc ms Pc) (PostOf Qc mc ms free) (vx_Post XC mc ms free) := by
  obtain ⟨hrc, hrs, hfr, hlo, hws, hcw, -, hini, -⟩ := cb
  exact vx_back (bytes := bytes) (maxL := maxL) (ret := ret) hM hbl hrc hrs hfr hlo hws hcw (fun a' U hW => word_at hW (Or.inl (by first | rfl | simp [Cond.onTables, Cond.keeps, Cond.steady])) hini)
theorem vx_runV (S : CallFix p m c cc nL s args Ts own) (hM : vx_Met l y ws rm Pc Qc XC mc ms free) (cw : CallW R s args own C index y bytes maxL ret ws rm mc ms n) (hp : PreV s H C b Pc As)
    (hg : g.method = m) (hn : As.length = n) (hsize : g.locals.size = nL) (hstack : g.stack = As.reverse ++ .ref b :: rest) (hW : 2 * g.monitorRoom + (rest.map fun v => v.category).sum ≤ 8) (hdg : decode cc g.pc = .ok (.invokevirtual index, 3)) (hf : cells + mc ≤ R.cells ∧ slots + ms ≤ R.slots) :
    vx_Run p l e R s m args below meth c H locs cells slots mc ms g rest (Qc (Value.ref b :: As).toArray) XC free := by
  have hK : vx_Back l R p e below s args y 3 8 (PreOf R mc ms Pc) (PostOf Qc mc ms free) (vx_Post XC mc ms free) := vx_callBack cw.1 hM hp.1
  obtain ⟨⟨-, -, -, -, -, -, hcode, -, hy, hlen, hl⟩, hin, hse⟩ := cw
  obtain ⟨hx, hb, hml, ho, -⟩ := S
  obtain ⟨-, ⟨cellB, hcB, hoB, hclB⟩, hPc⟩ := hp
  intro T hT X
  rcases vx_callV X hx (C := C) (bytes := bytes) (maxL := maxL) (ret := ret) ho hl hin hse hcode hy hK (by rw [hT]; exact hcB) hoB hclB hg (hsize.trans hml.symm) (argsL := As) (rest := rest) (fun sig h => hn.trans (hlen sig h)) hstack hW (by rw [hb]; exact hdg)
    (fun vm₁ hW₁ => ⟨hf.1, hf.2, hPc (T.setVm vm₁) hT hW₁⟩) with ⟨v, vm₁, ⟨U', l2, c2, s2⟩, hW₁, X', ⟨g', mk, t, L, e1, e2, hq, h1, hL, h2, h3⟩, st⟩ | ⟨q, vm₁, ⟨U', l2, c2, s2⟩, hW₁, X', ⟨g', mk, t, L, E, ce, e1, e2, hq, hce, hcv, hcl, h1, hL, h2, h3⟩, st⟩
  · dsimp only [Pt.U, Pt.locs, Pt.cells, Pt.slots] at X' e1 e2 h1 h2 h3 st
    subst h1; subst h2; subst h3
    exact Or.inl ⟨v, (T.setVm vm₁).calling g' mk (Value.ref b :: As).toArray, t, U', L, hT, X', hL, e1, e2, hq, st⟩
  · dsimp only [Pt.U, Pt.locs, Pt.cells, Pt.slots] at X' e1 e2 h1 h2 h3 st hcl
    subst h1; subst h2; subst h3
    exact Or.inr ⟨q, (T.setVm vm₁).calling g' mk (Value.ref b :: As).toArray, t, U', L, E, ce, hT, X', hL, e1, e2, hq, hce, hcv, vx_cls hW₁ hcl, st⟩
theorem vx_runS (S : CallFix p m c cc nL s args Ts own) (hM : vx_Met l y ws rm Pc Qc XC mc ms free) (cw : CallB R s args own index y bytes maxL ret ws rm mc ms n ∧ (Cond.static y).before args s = true) (hp : PreS s H Pc As)
    (hg : g.method = m) (hn : As.length = n) (hsize : g.locals.size = nL) (hstack : g.stack = As.reverse ++ rest) (hW : 2 * g.monitorRoom + (rest.map fun v => v.category).sum ≤ 8) (hdg : decode cc g.pc = .ok (.invokestatic index, 3)) (hf : cells + mc ≤ R.cells ∧ slots + ms ≤ R.slots) :
    vx_Run p l e R s m args below meth c H locs cells slots mc ms g rest (Qc As.toArray) XC free := by
  have hK : vx_Back l R p e below s args y 3 8 (PreOf R mc ms Pc) (PostOf Qc mc ms free) (vx_Post XC mc ms free) := vx_callBack cw.1 hM hp.1
  obtain ⟨⟨-, -, -, -, -, -, hcode, hini, hy, hlen, hl⟩, hstt⟩ := cw
  obtain ⟨hx, hb, hml, ho, -⟩ := S
  intro T hT X
  rcases vx_callS X hx (bytes := bytes) (maxL := maxL) (ret := ret) ho hl hstt hini hcode hy hK hg (hsize.trans hml.symm) (argsL := As) (rest := rest) (fun sig h => hn.trans (hlen sig h)) hstack hW (by rw [hb]; exact hdg)
    (fun vm₁ hW₁ => ⟨hf.1, hf.2, hp.2 (T.setVm vm₁) hT hW₁⟩) with ⟨v, vm₁, ⟨U', l2, c2, s2⟩, hW₁, X', ⟨g', mk, t, L, e1, e2, hq, h1, hL, h2, h3⟩, st⟩ | ⟨q, vm₁, ⟨U', l2, c2, s2⟩, hW₁, X', ⟨g', mk, t, L, E, ce, e1, e2, hq, hce, hcv, hcl, h1, hL, h2, h3⟩, st⟩
  · dsimp only [Pt.U, Pt.locs, Pt.cells, Pt.slots] at X' e1 e2 h1 h2 h3 st
    subst h1; subst h2; subst h3
    exact Or.inl ⟨v, (T.setVm vm₁).calling g' mk As.toArray, t, U', L, hT, X', hL, e1, e2, hq, st⟩
  · dsimp only [Pt.U, Pt.locs, Pt.cells, Pt.slots] at X' e1 e2 h1 h2 h3 st hcl
    subst h1; subst h2; subst h3
    exact Or.inr ⟨q, (T.setVm vm₁).calling g' mk As.toArray, t, U', L, E, ce, hT, X', hL, e1, e2, hq, hce, hcv, vx_cls hW₁ hcl, st⟩
end Runs
section Rows
variable {p : Program} {l : Launch} {e : Env} {R : Room} {s : State} {m : MethodId} {args : Array Value} {below : List Frame} {meth : Method} {c : Code} {H : Heap} {locs : List Loc} {cells slots : Nat} {Q : State → Prop}
variable {mc ms : Nat} {free : Addr → Prop} {A0 A1 : Nat → Prop} {H0 : Heap} {a : Array Value} {pc : Nat} {ls : Array Slot} {st0 rest : List Value}
theorem vx_keep {st₀ t T' : State} {L : List Loc} (h0 : st₀.heap = H) (e1 : T'.heap = t.heap) (hS : va_S A0 H0 H locs) (hA : ∀ q, q < H.size → A1 q → A0 q) (hf : ∀ q, free q → A0 q) (hL : ∀ q ∈ L, free q.base) (hF : va_F A1 st₀ t) :
    H.size ≤ T'.heap.size ∧ (∀ q : Nat, q < H.size → ¬ A1 q → T'.heap[q]? = H[q]?) ∧ va_S A0 H0 T'.heap (locs ++ L) := by
  obtain ⟨hz, hk⟩ := hF
  rw [h0] at hz hk
  exact ⟨by rw [e1]; exact hz, fun q h1 h2 => by rw [e1]; exact hk q h1 h2,
    ⟨Nat.le_trans hS.1 (by rw [e1]; exact hz), fun q h1 h2 => by rw [e1, hk q (Nat.lt_of_lt_of_le h1 hS.1) (fun z => h2 (hA q (Nat.lt_of_lt_of_le h1 hS.1) z))]; exact hS.2.1 q h1 h2, fun q hq => by
      rcases List.mem_append.mp hq with h | h
      · exact hS.2.2 q h
      · exact hf _ (hL q h)⟩⟩
theorem vx_calli {S SX : Type} {post : Int32 → S → Prop} {px : SX → Prop} {B : S → State → Prop} {BX : String → SX → State → Prop} {AX : Nat → Prop} (hr : vx_Run p l e R s m args below meth c H locs cells slots mc ms (F0 m pc ls st0) rest (va_Qi post B A1 a) (vx_X px BX AX) free) (hS : va_S A0 H0 H locs) (hA : ∀ q, q < H.size → A1 q → A0 q) (hf : ∀ q, free q → A0 q) (hAX : ∀ q, q < H.size → AX q → A0 q)
    (kx : ∀ (E : String) (ce : Cell) (q9 : Addr) (u : SX) (t : State) (H1 : Heap) (locs1 : List Loc), t.heap = H1 → s.vm.Alike t.vm → px u → BX E u t → H.size ≤ H1.size → (∀ q : Nat, q < H.size → ¬ AX q → H1[q]? = H[q]?) → va_S A0 H0 H1 locs1 → H1[q9]? = some ce → ce.vm = .none → s.vm.findClass E = some ce.cls → vx_W p l e R s m args below meth c H1 locs1 (cells + mc) (slots + ms) Q (F0 m pc ls rest) q9)
    (kk : ∀ (r : Int32) (u : S) (t : State) (H1 : Heap) (locs1 : List Loc), t.heap = H1 → s.vm.Alike t.vm → post r u → B u t → H.size ≤ H1.size → (∀ q : Nat, q < H.size → ¬ A1 q → H1[q]? = H[q]?) → va_S A0 H0 H1 locs1 → W p l e R s m args below meth c H1 locs1 (cells + mc) (slots + ms) Q (F0 m (pc + 3) ls (.int r :: rest))) : W p l e R s m args below meth c H locs cells slots Q (F0 m pc ls st0) := by
  intro T hT X
  rcases hr T hT X with ⟨v, st₀, t, T', L, h0, X', hL, e1, e2, ⟨⟨r, u, hv, hp, hb⟩, hF⟩, st⟩ | ⟨q, st₀, t, T', L, E, ce, h0, X', hL, e1, e2, ⟨u, hp, hb, hF⟩, hce, hcv, hcl, st⟩
  · cases hv
    obtain ⟨k1, k2, k3⟩ := vx_keep h0 e1 hS hA hf hL hF
    obtain ⟨t2, a1, b1⟩ := kk r u t T'.heap (locs ++ L) e1.symm (by rw [← e2]; exact X'.warmed.alike) hp hb k1 k2 k3 T' rfl X'
    exact ⟨t2, st t2 a1, b1⟩
  · obtain ⟨k1, k2, k3⟩ := vx_keep h0 e1 hS hAX hf hL hF
    obtain ⟨t2, a1, b1⟩ := kx E ce q u t T'.heap (locs ++ L) e1.symm (by rw [← e2]; exact X'.warmed.alike) hp hb k1 k2 k3 (by rw [e1]; exact hce) hcv hcl T' rfl X'
    exact ⟨t2, st.trans a1, b1⟩
theorem vx_calll {S SX : Type} {post : Int64 → S → Prop} {px : SX → Prop} {B : S → State → Prop} {BX : String → SX → State → Prop} {AX : Nat → Prop} (hr : vx_Run p l e R s m args below meth c H locs cells slots mc ms (F0 m pc ls st0) rest (va_Ql post B A1 a) (vx_X px BX AX) free) (hS : va_S A0 H0 H locs) (hA : ∀ q, q < H.size → A1 q → A0 q) (hf : ∀ q, free q → A0 q) (hAX : ∀ q, q < H.size → AX q → A0 q)
    (kx : ∀ (E : String) (ce : Cell) (q9 : Addr) (u : SX) (t : State) (H1 : Heap) (locs1 : List Loc), t.heap = H1 → s.vm.Alike t.vm → px u → BX E u t → H.size ≤ H1.size → (∀ q : Nat, q < H.size → ¬ AX q → H1[q]? = H[q]?) → va_S A0 H0 H1 locs1 → H1[q9]? = some ce → ce.vm = .none → s.vm.findClass E = some ce.cls → vx_W p l e R s m args below meth c H1 locs1 (cells + mc) (slots + ms) Q (F0 m pc ls rest) q9)
    (kk : ∀ (r : Int64) (u : S) (t : State) (H1 : Heap) (locs1 : List Loc), t.heap = H1 → s.vm.Alike t.vm → post r u → B u t → H.size ≤ H1.size → (∀ q : Nat, q < H.size → ¬ A1 q → H1[q]? = H[q]?) → va_S A0 H0 H1 locs1 → W p l e R s m args below meth c H1 locs1 (cells + mc) (slots + ms) Q (F0 m (pc + 3) ls (.long r :: rest))) : W p l e R s m args below meth c H locs cells slots Q (F0 m pc ls st0) := by
  intro T hT X
  rcases hr T hT X with ⟨v, st₀, t, T', L, h0, X', hL, e1, e2, ⟨⟨r, u, hv, hp, hb⟩, hF⟩, st⟩ | ⟨q, st₀, t, T', L, E, ce, h0, X', hL, e1, e2, ⟨u, hp, hb, hF⟩, hce, hcv, hcl, st⟩
  · cases hv
    obtain ⟨k1, k2, k3⟩ := vx_keep h0 e1 hS hA hf hL hF
    obtain ⟨t2, a1, b1⟩ := kk r u t T'.heap (locs ++ L) e1.symm (by rw [← e2]; exact X'.warmed.alike) hp hb k1 k2 k3 T' rfl X'
    exact ⟨t2, st t2 a1, b1⟩
  · obtain ⟨k1, k2, k3⟩ := vx_keep h0 e1 hS hAX hf hL hF
    obtain ⟨t2, a1, b1⟩ := kx E ce q u t T'.heap (locs ++ L) e1.symm (by rw [← e2]; exact X'.warmed.alike) hp hb k1 k2 k3 (by rw [e1]; exact hce) hcv hcl T' rfl X'
    exact ⟨t2, st.trans a1, b1⟩
theorem vx_callf {S SX : Type} {post : UInt32 → S → Prop} {px : SX → Prop} {B : S → State → Prop} {BX : String → SX → State → Prop} {AX : Nat → Prop} (hr : vx_Run p l e R s m args below meth c H locs cells slots mc ms (F0 m pc ls st0) rest (va_Qf post B A1 a) (vx_X px BX AX) free) (hS : va_S A0 H0 H locs) (hA : ∀ q, q < H.size → A1 q → A0 q) (hf : ∀ q, free q → A0 q) (hAX : ∀ q, q < H.size → AX q → A0 q)
    (kx : ∀ (E : String) (ce : Cell) (q9 : Addr) (u : SX) (t : State) (H1 : Heap) (locs1 : List Loc), t.heap = H1 → s.vm.Alike t.vm → px u → BX E u t → H.size ≤ H1.size → (∀ q : Nat, q < H.size → ¬ AX q → H1[q]? = H[q]?) → va_S A0 H0 H1 locs1 → H1[q9]? = some ce → ce.vm = .none → s.vm.findClass E = some ce.cls → vx_W p l e R s m args below meth c H1 locs1 (cells + mc) (slots + ms) Q (F0 m pc ls rest) q9)
    (kk : ∀ (r : UInt32) (u : S) (t : State) (H1 : Heap) (locs1 : List Loc), t.heap = H1 → s.vm.Alike t.vm → post r u → B u t → H.size ≤ H1.size → (∀ q : Nat, q < H.size → ¬ A1 q → H1[q]? = H[q]?) → va_S A0 H0 H1 locs1 → W p l e R s m args below meth c H1 locs1 (cells + mc) (slots + ms) Q (F0 m (pc + 3) ls (.float r :: rest))) : W p l e R s m args below meth c H locs cells slots Q (F0 m pc ls st0) := by
  intro T hT X
  rcases hr T hT X with ⟨v, st₀, t, T', L, h0, X', hL, e1, e2, ⟨⟨r, u, hv, hp, hb⟩, hF⟩, st⟩ | ⟨q, st₀, t, T', L, E, ce, h0, X', hL, e1, e2, ⟨u, hp, hb, hF⟩, hce, hcv, hcl, st⟩
  · cases hv
    obtain ⟨k1, k2, k3⟩ := vx_keep h0 e1 hS hA hf hL hF
    obtain ⟨t2, a1, b1⟩ := kk r u t T'.heap (locs ++ L) e1.symm (by rw [← e2]; exact X'.warmed.alike) hp hb k1 k2 k3 T' rfl X'
    exact ⟨t2, st t2 a1, b1⟩
  · obtain ⟨k1, k2, k3⟩ := vx_keep h0 e1 hS hAX hf hL hF
    obtain ⟨t2, a1, b1⟩ := kx E ce q u t T'.heap (locs ++ L) e1.symm (by rw [← e2]; exact X'.warmed.alike) hp hb k1 k2 k3 (by rw [e1]; exact hce) hcv hcl T' rfl X'
    exact ⟨t2, st.trans a1, b1⟩
theorem vx_calld {S SX : Type} {post : UInt64 → S → Prop} {px : SX → Prop} {B : S → State → Prop} {BX : String → SX → State → Prop} {AX : Nat → Prop} (hr : vx_Run p l e R s m args below meth c H locs cells slots mc ms (F0 m pc ls st0) rest (va_Qd post B A1 a) (vx_X px BX AX) free) (hS : va_S A0 H0 H locs) (hA : ∀ q, q < H.size → A1 q → A0 q) (hf : ∀ q, free q → A0 q) (hAX : ∀ q, q < H.size → AX q → A0 q)
    (kx : ∀ (E : String) (ce : Cell) (q9 : Addr) (u : SX) (t : State) (H1 : Heap) (locs1 : List Loc), t.heap = H1 → s.vm.Alike t.vm → px u → BX E u t → H.size ≤ H1.size → (∀ q : Nat, q < H.size → ¬ AX q → H1[q]? = H[q]?) → va_S A0 H0 H1 locs1 → H1[q9]? = some ce → ce.vm = .none → s.vm.findClass E = some ce.cls → vx_W p l e R s m args below meth c H1 locs1 (cells + mc) (slots + ms) Q (F0 m pc ls rest) q9)
    (kk : ∀ (r : UInt64) (u : S) (t : State) (H1 : Heap) (locs1 : List Loc), t.heap = H1 → s.vm.Alike t.vm → post r u → B u t → H.size ≤ H1.size → (∀ q : Nat, q < H.size → ¬ A1 q → H1[q]? = H[q]?) → va_S A0 H0 H1 locs1 → W p l e R s m args below meth c H1 locs1 (cells + mc) (slots + ms) Q (F0 m (pc + 3) ls (.double r :: rest))) : W p l e R s m args below meth c H locs cells slots Q (F0 m pc ls st0) := by
  intro T hT X
  rcases hr T hT X with ⟨v, st₀, t, T', L, h0, X', hL, e1, e2, ⟨⟨r, u, hv, hp, hb⟩, hF⟩, st⟩ | ⟨q, st₀, t, T', L, E, ce, h0, X', hL, e1, e2, ⟨u, hp, hb, hF⟩, hce, hcv, hcl, st⟩
  · cases hv
    obtain ⟨k1, k2, k3⟩ := vx_keep h0 e1 hS hA hf hL hF
    obtain ⟨t2, a1, b1⟩ := kk r u t T'.heap (locs ++ L) e1.symm (by rw [← e2]; exact X'.warmed.alike) hp hb k1 k2 k3 T' rfl X'
    exact ⟨t2, st t2 a1, b1⟩
  · obtain ⟨k1, k2, k3⟩ := vx_keep h0 e1 hS hAX hf hL hF
    obtain ⟨t2, a1, b1⟩ := kx E ce q u t T'.heap (locs ++ L) e1.symm (by rw [← e2]; exact X'.warmed.alike) hp hb k1 k2 k3 (by rw [e1]; exact hce) hcv hcl T' rfl X'
    exact ⟨t2, st.trans a1, b1⟩
theorem vx_callv {S SX : Type} {post : S → Prop} {px : SX → Prop} {B : S → State → Prop} {BX : String → SX → State → Prop} {AX : Nat → Prop} (hr : vx_Run p l e R s m args below meth c H locs cells slots mc ms (F0 m pc ls st0) rest (va_Qv post B A1 a) (vx_X px BX AX) free) (hS : va_S A0 H0 H locs) (hA : ∀ q, q < H.size → A1 q → A0 q) (hf : ∀ q, free q → A0 q) (hAX : ∀ q, q < H.size → AX q → A0 q)
    (kx : ∀ (E : String) (ce : Cell) (q9 : Addr) (u : SX) (t : State) (H1 : Heap) (locs1 : List Loc), t.heap = H1 → s.vm.Alike t.vm → px u → BX E u t → H.size ≤ H1.size → (∀ q : Nat, q < H.size → ¬ AX q → H1[q]? = H[q]?) → va_S A0 H0 H1 locs1 → H1[q9]? = some ce → ce.vm = .none → s.vm.findClass E = some ce.cls → vx_W p l e R s m args below meth c H1 locs1 (cells + mc) (slots + ms) Q (F0 m pc ls rest) q9)
    (kk : ∀ (u : S) (t : State) (H1 : Heap) (locs1 : List Loc), t.heap = H1 → s.vm.Alike t.vm → post u → B u t → H.size ≤ H1.size → (∀ q : Nat, q < H.size → ¬ A1 q → H1[q]? = H[q]?) → va_S A0 H0 H1 locs1 → W p l e R s m args below meth c H1 locs1 (cells + mc) (slots + ms) Q (F0 m (pc + 3) ls (rest))) : W p l e R s m args below meth c H locs cells slots Q (F0 m pc ls st0) := by
  intro T hT X
  rcases hr T hT X with ⟨v, st₀, t, T', L, h0, X', hL, e1, e2, ⟨⟨u, hv, hp, hb⟩, hF⟩, st⟩ | ⟨q, st₀, t, T', L, E, ce, h0, X', hL, e1, e2, ⟨u, hp, hb, hF⟩, hce, hcv, hcl, st⟩
  · cases hv
    obtain ⟨k1, k2, k3⟩ := vx_keep h0 e1 hS hA hf hL hF
    obtain ⟨t2, a1, b1⟩ := kk u t T'.heap (locs ++ L) e1.symm (by rw [← e2]; exact X'.warmed.alike) hp hb k1 k2 k3 T' rfl X'
    exact ⟨t2, st t2 a1, b1⟩
  · obtain ⟨k1, k2, k3⟩ := vx_keep h0 e1 hS hAX hf hL hF
    obtain ⟨t2, a1, b1⟩ := kx E ce q u t T'.heap (locs ++ L) e1.symm (by rw [← e2]; exact X'.warmed.alike) hp hb k1 k2 k3 (by rw [e1]; exact hce) hcv hcl T' rfl X'
    exact ⟨t2, st.trans a1, b1⟩
/-- caught by the row x of this method's table; the rows ahead don't take it -/
theorem vx_catch {own name : String} {E : String} {ce : Cell} {q : Addr} (hown : s.vm.findClass own = some m.cls) (pre : List ExceptionTableEntry) (x : ExceptionTableEntry) (suf : List ExceptionTableEntry) (hsplit : c.exceptionTable.toList = pre ++ x :: suf)
    (hpass : ∀ z ∈ pre, covers z pc = false ∨ (z.catchType ≠ 0 ∧ ∃ nm : String, (Cond.classLink own z.catchType nm).before args s = true ∧ va_Nc E nm s)) (hx : covers x pc = true) (h0 : x.catchType ≠ 0)
    (hlink : (Cond.classLink own x.catchType name).before args s = true) (hcast : (Cond.castable E name).before args s = true) (hcell : H[q]? = some ce) (hv : ce.vm = .none) (hcl : s.vm.findClass E = some ce.cls)
    (kk : W p l e R s m args below meth c H locs cells slots Q (F0 m x.handlerPc ls [.ref q])) : vx_W p l e R s m args below meth c H locs cells slots Q (F0 m pc ls rest) q := by
  intro T hT X
  have hpl : e.platform.magicAccessors = ({} : Platform).magicAccessors := by rw [X.admits.platform]
  obtain ⟨c3, c4, hc3, hc4, hasg⟩ := Cond.castable_spec hcast
  cases Option.some.inj (hc3.symm.trans hcl)
  obtain ⟨c5, hc5, hcl5⟩ := Cond.classLink_spec hown hlink e.platform hpl
  cases Option.some.inj (hc4.symm.trans hc5)
  obtain ⟨vm', X', st⟩ := X.thenCaughtThrough q (g := F0 m pc ls rest) rfl (Steps.refl _) (by rw [hT]; exact hcell) (by rw [hv]; rfl) (by obtain ⟨k9, h9, -⟩ := Vm.findClass_spec hcl; exact ⟨k9, h9⟩) pre x suf hsplit
    (fun z hz => by
      rcases hpass z hz with h | ⟨hz0, nm, hl1, hn1⟩
      · exact Or.inl h
      · obtain ⟨c6, hc6, hcl6⟩ := Cond.classLink_spec hown hl1 e.platform hpl
        obtain ⟨a8, b8, h1, h2, h3⟩ := hn1
        cases Option.some.inj (h1.symm.trans hcl)
        cases Option.some.inj (h2.symm.trans hc6)
        exact Or.inr ⟨hz0, _, hcl6, h3⟩) hx (Or.inr ⟨h0, c4, hcl5, hasg⟩)
  obtain ⟨t, a1, b1⟩ := kk (T.setVm vm') hT X'
  exact ⟨t, st.trans a1, b1⟩
end Rows
section Ends
variable {p : Program} {l : Launch} {e : Env} {R : Room} {s : State} {m : MethodId} {args : Array Value} {below : List Frame} {meth : Method} {c : Code} {H : Heap} {locs : List Loc} {cells slots : Nat} {Q : State → Prop}
variable {mc ms : Nat} {free : Addr → Prop} {A0 A1 : Nat → Prop} {H0 : Heap} {a : Array Value} {ls : Array Slot} {st0 rest : List Value}
variable {Qc : Array Value → State → Outcome → State → Prop} {XC : String → State → State → Prop}
/-- what a body that may throw owes at its end -/
def vx_MQ (below : List Frame) (Qc : Array Value → State → Outcome → State → Prop) (XC : String → State → State → Prop) (a : Array Value) (s : State) (mc ms : Nat) (free : Addr → Prop) : State → Prop := fun t =>
  ∃ o, t.status = .running ∧ Ended t below o ∧ vx_Q Qc XC mc ms free a s o t
theorem vx_ret {g : JFrame} {mc ms : Nat} (k : W p l e R s m args below meth c H locs cells slots (MQ below Qc args s mc ms free) g) : W p l e R s m args below meth c H locs cells slots (vx_MQ below Qc XC args s mc ms free) g := by
  intro T hT X
  obtain ⟨t, a1, o, b1, b2, b3, b4⟩ := k T hT X
  exact ⟨t, a1, o, b1, b2, Or.inl ⟨b3, b4⟩⟩
/-- not caught here: it goes on to the caller -/
theorem vx_widen {g : JFrame} {q : Addr} {k n : Nat} (h1 : cells ≤ k) (h2 : slots ≤ n) (kk : vx_W p l e R s m args below meth c H locs k n Q g q) : vx_W p l e R s m args below meth c H locs cells slots Q g q := fun T hT X => kk T hT (stand_widen X h1 h2)
theorem vx_out {pc : Nat} {E : String} {ce : Cell} {q : Addr} {mc ms : Nat} (hout : ∀ x ∈ c.exceptionTable.toList, covers x pc = false) (hlocks : meth.locks = false) (hcell : H[q]? = some ce) (hv : ce.vm = .none) (hcl : s.vm.findClass E = some ce.cls)
    (hx : ∀ t : State, t.heap = H → s.vm.Alike t.vm → XC E s t) (hf : ∀ z ∈ locs, free z.base) (hc : cells ≤ mc) (hs : slots ≤ ms) :
    vx_W p l e R s m args below meth c H locs cells slots (vx_MQ below Qc XC args s mc ms free) (F0 m pc ls rest) q := by
  intro T hT X
  obtain ⟨st1, hrun, hend, hW, hsm⟩ := X.leaveThrown q (g := F0 m pc ls rest) rfl rfl rfl hout hlocks
  have hcell9 : (T.setFrames (.throwing q :: below)).heap[q]? = some ce := by
    show T.heap[q]? = some ce
    rw [hT]; exact hcell
  exact ⟨_, st1, .threw q, hrun, hend, Or.inr ⟨q, rfl, E, ce, locs, hx _ hT hW.alike, hcell9, hv, hcl, hW, hsm.mono hc hs, hf⟩⟩
theorem vx_frame {U : State} {k n : Nat} (h : s.sameButNew ({ U with vm := s.vm } : State) locs k n) : s.heap.size ≤ U.heap.size ∧ ∀ q : Nat, q < s.heap.size → (∀ z ∈ locs, z.base ≠ q) → U.heap[q]? = s.heap[q]? := by
  obtain ⟨-, h2, -, -, -, h6⟩ := h
  refine ⟨h2, fun q hq hz => ?_⟩
  obtain ⟨c9, e1, e2, e3, e4⟩ := h6 q _ (Array.getElem?_eq_getElem hq)
  have hs : c9.slots = (s.heap[q]).slots := Array.ext_getElem? fun i => e4 i fun hm => hz _ hm rfl
  have h9 : c9 = s.heap[q] := by
    rw [hs] at e2
    exact e2
  have e5 : U.heap[q]? = some c9 := e1
  rw [e5, h9, Array.getElem?_eq_getElem hq]
/-- the words of a throw but the four that speak of the heap -/
def vx_no (w : Cond) : Bool := decide (w ≠ .isRef (.static Bundle.tN "UNASSIGNED_STACK" Bundle.steD)) && decide (w ≠ .isRef (.static Bundle.tN "SUPPRESSED_SENTINEL" Bundle.listD)) && decide (w ≠ .laysStatic Bundle.tN "UNASSIGNED_STACK" Bundle.steD) && decide (w ≠ .laysStatic Bundle.tN "SUPPRESSED_SENTINEL" Bundle.listD)
def vx_at0 (own : String) (ic : Nat) (X : String) (names : List String) : List Cond := (Bundle.ownAtoms0 own ic X names).filter vx_no
def vx_atS (own : String) (ic : Nat) (X : String) (names : List String) : List Cond := (Bundle.ownAtoms own ic X names).filter vx_no
/-- a word that the tables alone decide, or a good one -/
def vx_ot (w : Cond) : Bool := w.onTables || goodWord w
theorem vx_ot_at {args a' : Array Value} {s U : State} {w : Cond} (hW : s.WarmedH U.vm) (hvm : s.vm = U.vm) (hg : vx_ot w = true) (h : w.before args s = true) : w.before a' U = true := by
  simp only [vx_ot, Bool.or_eq_true] at hg
  rcases hg with hg | hg
  · exact va_tabs hg hvm h
  · exact word_at hW (good_of_word hg) h
/-- a list's words: the good ones out of the method's own list, the others by premises of their own -/
theorem vx_hat {args : Array Value} {s : State} {L B : List Cond} (h1 : ∀ w ∈ L.filter goodWord, w.before args s = true) (h2 : ∀ w ∈ L.filter (fun w => !goodWord w), w ∈ B) (h3 : ∀ w ∈ B, w.before args s = true) : ∀ w ∈ L, w.before args s = true := by
  intro w hw
  by_cases g : goodWord w = true
  · exact h1 w (List.mem_filter.mpr ⟨hw, g⟩)
  · refine h3 w (h2 w (List.mem_filter.mpr ⟨hw, ?_⟩))
    show (!goodWord w) = true
    cases hgw : goodWord w
    · rfl
    · exact absurd hgw g
theorem vx_c {args : Array Value} {s : State} {w : Cond} {B : List Cond} (h : w.before args s = true) (t : ∀ w ∈ B, w.before args s = true) : ∀ w' ∈ w :: B, w'.before args s = true := fun w' h' => (List.mem_cons.mp h').elim (fun e => by rw [e]; exact h) (t w')
theorem vx_n {args : Array Value} {s : State} : ∀ w ∈ ([] : List Cond), w.before args s = true := fun _ h => nomatch h
theorem vx_own {args : Array Value} {s : State} {L : List Cond} (h1 : ∀ w ∈ L.filter vx_no, w.before args s = true)
    (hU : (Cond.isRef (.static Bundle.tN "UNASSIGNED_STACK" Bundle.steD)).before args s = true) (hN : (Cond.isRef (.static Bundle.tN "SUPPRESSED_SENTINEL" Bundle.listD)).before args s = true)
    (lU : (Cond.laysStatic Bundle.tN "UNASSIGNED_STACK" Bundle.steD).before args s = true) (lN : (Cond.laysStatic Bundle.tN "SUPPRESSED_SENTINEL" Bundle.listD).before args s = true) : ∀ w ∈ L, w.before args s = true := by
  intro w hw
  by_cases e1 : w = .isRef (.static Bundle.tN "UNASSIGNED_STACK" Bundle.steD)
  · rw [e1]; exact hU
  · by_cases e2 : w = .isRef (.static Bundle.tN "SUPPRESSED_SENTINEL" Bundle.listD)
    · rw [e2]; exact hN
    · by_cases e3 : w = .laysStatic Bundle.tN "UNASSIGNED_STACK" Bundle.steD
      · rw [e3]; exact lU
      · by_cases e4 : w = .laysStatic Bundle.tN "SUPPRESSED_SENTINEL" Bundle.listD
        · rw [e4]; exact lN
        · exact h1 w (List.mem_filter.mpr ⟨hw, by unfold vx_no; rw [decide_eq_true e1, decide_eq_true e2, decide_eq_true e3, decide_eq_true e4]; rfl⟩)
/-- where a static field lies, its class's statics cell in H -/
def vx_L (C n d : String) (A : Nat → Prop) (U : State) (H : Heap) : Prop := ∃ (c : ClassId) (k : Class) (i : Nat) (f : Field) (a : Nat) (cell : Cell), U.vm.findClass C = some c ∧ U.fieldFound? C n d = some (c, k, i, f) ∧ f.isStatic = true ∧ k.statics = some a ∧ H[a]? = some cell ∧ cell.vm.isStatics = true ∧ cell.cls = c ∧ f.slot < cell.slots.size ∧ k.staticTypes[f.slot]? = some f.type ∧ ¬ A a
theorem vx_L.moved {C n d : String} {A : Nat → Prop} {u U : State} {H : Heap} (hvm : u.vm.Alike U.vm) (h : vx_L C n d A u H) : vx_L C n d A U H := by
  obtain ⟨c, k, i, f, a, cell, h1, h2, h3, h4, h5, h6, h7, h8, h9, h10⟩ := h
  obtain ⟨k', hi', he⟩ := State.fieldFound?_setVm hvm h2
  exact ⟨c, k', i, f, a, cell, by rw [hvm.findClass]; exact h1, hi', h3, by rw [he]; exact h4, h5, h6, h7, h8, by rw [he]; exact h9, h10⟩
theorem vx_L.kept {C n d : String} {A : Nat → Prop} {U : State} {H H1 : Heap} (h : vx_L C n d A U H) (hq : ∀ a : Nat, a < H.size → ¬ A a → H1[a]? = H[a]?) : vx_L C n d A U H1 := by
  obtain ⟨c, k, i, f, a, cell, h1, h2, h3, h4, h5, h6, h7, h8, h9, h10⟩ := h
  exact ⟨c, k, i, f, a, cell, h1, h2, h3, h4, by rw [hq a (Array.getElem?_eq_some_iff.mp h5).1 h10]; exact h5, h6, h7, h8, h9, h10⟩
theorem vx_L.narrow {C n d : String} {A B : Nat → Prop} {U : State} {H : Heap} (h : vx_L C n d A U H) (hAB : ∀ q, B q → A q) : vx_L C n d B U H := by
  obtain ⟨c, k, i, f, a, cell, h1, h2, h3, h4, h5, h6, h7, h8, h9, h10⟩ := h
  exact ⟨c, k, i, f, a, cell, h1, h2, h3, h4, h5, h6, h7, h8, h9, fun z => h10 (hAB _ z)⟩
theorem vx_L.word {C n d : String} {A : Nat → Prop} {s : State} {args : Array Value} (h : vx_L C n d A s s.heap) : (Cond.laysStatic C n d).before args s = true := by
  obtain ⟨c, k, i, f, a, cell, h1, h2, h3, h4, h5, h6, h7, h8, h9, -⟩ := h
  show (Cond.laysStatic C n d).holds args s none s [] = true
  exact Cond.laysStatic_of h1 h2 h3 h4 h5 h6 h7 h8 h9
/-- .. and what it holds: null or some reference -/
def vx_Zq (C n d : String) (A : Nat → Prop) (U : State) (H : Heap) : Prop := va_Zq C n d A U H ∧ vx_L C n d A U H
theorem vx_Zq.moved {C n d : String} {A : Nat → Prop} {u U : State} {H : Heap} (hvm : u.vm.Alike U.vm) (h : vx_Zq C n d A u H) : vx_Zq C n d A U H := ⟨va_Zq.moved hvm h.1, vx_L.moved hvm h.2⟩
theorem vx_Zq.kept {C n d : String} {A : Nat → Prop} {U : State} {H H1 : Heap} (h : vx_Zq C n d A U H) (hq : ∀ a : Nat, a < H.size → ¬ A a → H1[a]? = H[a]?) : vx_Zq C n d A U H1 := ⟨va_Zq.kept h.1 hq, vx_L.kept h.2 hq⟩
theorem vx_Zq.narrow {C n d : String} {A B : Nat → Prop} {U : State} {H : Heap} (h : vx_Zq C n d A U H) (hAB : ∀ q, B q → A q) : vx_Zq C n d B U H := ⟨va_Zq.narrow h.1 hAB, vx_L.narrow h.2 hAB⟩
theorem vx_Zqof {args : Array Value} {s : State} {C n d : String} {A : Nat → Prop} (hl : (Cond.laysStatic C n d).before args s = true) (hini : (Cond.initialized C).before args s = true) (h : (Cond.isRef (.static C n d)).before args s = true) (hA : ∀ a : Nat, a < s.heap.size → ¬ A a) : vx_Zq C n d A s s.heap := by
  refine ⟨va_Zqof hl hini h hA, ?_⟩
  obtain ⟨c, k, i, f, a, cell, h1, h2, h3, h4, h5, h6, h7, h8, h9⟩ := Cond.laysStatic_spec hl
  exact ⟨c, k, i, f, a, cell, h1, h2, h3, h4, h5, h6, h7, h8, h9, hA a (Array.getElem?_eq_some_iff.mp h5).1⟩
theorem vx_isRef {C n d : String} {v : Value} {A : Nat → Prop} {s : State} {args : Array Value} (h : va_Z C n d v A s s.heap) (hv : v.isRef = true) : (Cond.isRef (.static C n d)).before args s = true := by
  obtain ⟨cf, kf, fi, f, a, cell, h1, h2, h3, h4, h5, h6, h7, -⟩ := h
  have he : (Term.static C n d).eval args s none [] s = some v := by
    simp [Term.eval, State.fieldNamed?, h1, h2, h4, h5, h6, h7]
  simp only [Cond.before, Cond.holds, Cond.value, he]
  cases v <;> simp_all [Value.isRef]
theorem vx_isRefq {C n d : String} {A : Nat → Prop} {s : State} {args : Array Value} (h : va_Zq C n d A s s.heap) : (Cond.isRef (.static C n d)).before args s = true := by
  rcases h with h | ⟨t, h⟩
  · exact vx_isRef h rfl
  · exact vx_isRef h rfl
/-- the same frame, seen from here: as if the method were called anew in this heap -/
theorem vx_rebase {T : State} (X : Stand p l e R s m args below meth c T locs cells slots) {R' : Room} (hf : R'.frames ≤ R.frames) (hl : R'.locals ≤ R.locals) (hc : cells + R'.cells ≤ R.cells) (hs : slots + R'.slots ≤ R.slots) :
    Stand p l e R' ((T.setVm s.vm).setFrames (.invoking m args :: below)) m args below meth c T [] 0 0 := by
  have htop : (T.setVm s.vm).topJava?.isSome := X.here.top
  have hF : ((T.setVm s.vm).setFrames (.invoking m args :: below)).frames = .invoking m args :: below := State.frames_setFrames _ (State.cur_lt_of_top htop)
  obtain ⟨g₀, hg0⟩ := Option.isSome_iff_exists.mp htop
  obtain ⟨r, hr⟩ := State.topJava?_eq_some.mp hg0
  have hl9 : e.platform.stackLimits (T.setVm s.vm).me = e.platform.stackLimits s.me := X.limits
  have hb9 : (T.setVm s.vm).me.stackBytes = s.me.stackBytes := X.bytes
  refine ⟨X.admits, X.cas, X.clock, hF, ?_, X.hears, X.method, X.code, X.here, X.tail, X.warmed, ?_, ?_, ?_⟩
  · have h := X.room
    have hU : ((T.setVm s.vm).setFrames (.invoking m args :: below)).localsInUse = s.localsInUse := by
      rw [State.localsInUse_invoking hF (meth := meth) (c := c) X.method X.code, State.localsInUse_invoking X.frames X.method X.code]
    simp only [State.hasRoom, Bool.and_eq_true, decide_eq_true_eq] at h ⊢
    obtain ⟨⟨⟨⟨h1, h2, h3, h4, h5, h6⟩, h7⟩, h8⟩, h9⟩ := h
    rw [X.frames, List.length_cons] at h2 h3
    have q1 := X.heapSize
    have q2 := X.used
    simp only [hF, hU, List.length_cons, State.stackLimits_setFrames, State.stackBytes_setFrames, hl9, hb9]
    refine ⟨⟨⟨⟨by omega, by omega, by omega, by omega, by omega, h6⟩, ?_⟩, ?_⟩, X.book⟩
    · show T.heap.size + R'.cells ≤ e.platform.maxCells
      omega
    · show T.slotsUsed + R'.slots ≤ e.platform.maxSlots
      omega
  · rw [State.stackLimits_setFrames]; rfl
  · rw [State.stackBytes_setFrames]; rfl
  · refine ⟨?_, Nat.le_refl _, Nat.le_refl _, ?_, ?_, fun a c9 h9 => ⟨c9, h9, rfl, rfl, fun _ _ => rfl⟩⟩
    · obtain ⟨t, ht, -⟩ := State.frames_cons hr
      show T.setVm s.vm = { ((T.setVm s.vm).setFrames (.invoking m args :: below)).setFrames (T.setVm s.vm).frames with heap := T.heap, slotsUsed := T.slotsUsed }
      rw [State.setFrames_setFrames, State.setFrames_self ht]
      rfl
    · show T.slotsUsed = T.slotsUsed + ((T.heap.toList.drop T.heap.size).map (·.slots.size)).sum
      rw [List.drop_eq_nil_of_le (Nat.le_of_eq Array.length_toList)]
      rfl
    · show ((T.heap.toList.drop T.heap.size).map (·.slots.size)).sum ≤ 0
      rw [List.drop_eq_nil_of_le (Nat.le_of_eq Array.length_toList)]
      exact Nat.le_refl _
/-- 'throw new E()': new; dup; invokespecial; athrow -/
theorem vx_throw0 {cc : ByteArray} {pc : Nat} (hexec : p.tables.exec = Jvm.exec) (hb : c.code = cc) (hl : l.stackTraces = false) {own cls : String} {names : List String} {ik ic mc ms : Nat} {A : Nat → Prop}
    (hown : s.vm.findClass own = some m.cls) (hcls : Bundle.fit cls = true) (hnames : ∀ n ∈ names, Bundle.fit n = true)
    (hk : (Cond.classLink own ik cls).before args s = true) (hini : (Cond.initialized cls).before args s = true) (hat : ∀ w ∈ vx_at0 own ic cls names, w.before args s = true)
    (hgood : ∀ w ∈ Cond.classLink own ik cls :: Cond.initialized cls :: vx_at0 own ic cls names, vx_ot w = true)
    (hU : vx_Zq Bundle.tN "UNASSIGNED_STACK" Bundle.steD A s s.heap) (hN : vx_Zq Bundle.tN "SUPPRESSED_SENTINEL" Bundle.listD A s s.heap) (hS : va_S A s.heap H locs) (hsize : ls.size = c.maxLocals)
    (d0 : decode cc pc = .ok (.new ik, 3)) (d3 : decode cc (pc + 3) = .ok (.dup, 1)) (d4 : decode cc (pc + 4) = .ok (.invokespecial ic, 3)) (d7 : decode cc (pc + 7) = .ok (.athrow, 1))
    (hout : ∀ x ∈ c.exceptionTable.toList, covers x (pc + 7) = false)
    (hRframes : names.length + 3 < R.frames) (hRlocals : (rest.map fun v => v.category).sum + (13 * (names.length + 1) + 42) ≤ R.locals) (hRcells : cells + 1 ≤ R.cells) (hRslots : slots + 6 ≤ R.slots) (hlocks : meth.locks = false)
    (hx : ∀ t : State, s.vm.Alike t.vm → H.size ≤ t.heap.size → (∀ q : Nat, q < H.size → t.heap[q]? = H[q]?) → XC cls s t)
    (hf : ∀ z ∈ locs, free z.base) (hc : cells + 1 ≤ mc) (hs : slots + 6 ≤ ms) :
    W p l e R s m args below meth c H locs cells slots (vx_MQ below Qc XC args s mc ms free) (F0 m pc ls rest) := by
  intro T hT X
  have htr : e.platform.stackTraces = false := (show e.platform.stackTraces = l.stackTraces by rw [X.admits.platform]).trans hl
  have Y := vx_rebase X (R' := { frames := R.frames, locals := R.locals, cells := 1, slots := 6 }) (Nat.le_refl _) (Nat.le_refl _) hRcells hRslots
  obtain ⟨s', hA⟩ : ∃ z, z = (T.setVm s.vm).setFrames (.invoking m args :: below) := ⟨_, rfl⟩
  rw [← hA] at Y
  have hvm : s'.vm = s.vm := by rw [hA]; rfl
  have hhp : s'.heap = H := by rw [hA]; exact hT
  have hW0 : s.WarmedH s'.vm := by rw [hvm]; exact State.WarmedH.refl s
  have hat' : ∀ w ∈ vx_at0 own ic cls names, w.before args s' = true := fun w hw => vx_ot_at hW0 hvm.symm (hgood w (List.mem_cons_of_mem _ (List.mem_cons_of_mem _ hw))) (hat w hw)
  have hk' : (Cond.classLink own ik cls).before args s' = true := vx_ot_at hW0 hvm.symm (hgood _ List.mem_cons_self) hk
  have hini' : (Cond.initialized cls).before args s' = true := vx_ot_at hW0 hvm.symm (hgood _ (List.mem_cons_of_mem _ List.mem_cons_self)) hini
  have hU' : vx_Zq Bundle.tN "UNASSIGNED_STACK" Bundle.steD A s' s'.heap := by rw [hhp]; exact vx_Zq.moved hW0.alike (hU.kept hS.2.1)
  have hN' : vx_Zq Bundle.tN "SUPPRESSED_SENTINEL" Bundle.listD A s' s'.heap := by rw [hhp]; exact vx_Zq.moved hW0.alike (hN.kept hS.2.1)
  have h : ∀ w ∈ Bundle.ownAtoms0 own ic cls names, w.before args s' = true := vx_own hat' (vx_isRefq hU'.1) (vx_isRefq hN'.1) hU'.2.word hN'.2.word
  have hown' : s'.vm.findClass own = some m.cls := by rw [hvm]; exact hown
  have hins : (Cond.instantiable cls 6).before args s' = true := h _ (by simp [Bundle.ownAtoms0])
  obtain ⟨vm₁, cX, kX, hfX, hkX, -, -, X₁, st1⟩ := Y.newCold hexec (own := own) (C := cls) (index := ik) (n := 6) hown' hk' hins hini'
    (g := F0 m pc ls rest) rfl (by rw [hb]; exact d0) (Nat.le_refl _) (Nat.le_refl _)
  generalize hT1 : (T.setVm vm₁).pushCell { cls := cX, slots := kX.instanceTypes.map defaultValue, vm := .none } = T1 at X₁ st1
  have hcat : (Value.ref T.heap.size).category = 1 := rfl
  have hcellA : T1.heap[T.heap.size]? = some (freshCell cX kX) := by rw [← hT1]; exact State.heap_pushCell_size _ _
  have d3' : decode c.code (pc + 3) = .ok (.dup, 1) := by rw [hb]; exact d3
  obtain ⟨U, hsteps, hrun, hend, hW, hsame, ce, hce, hO⟩ := X₁.ctorThrow0 hexec htr (own := own) (cls := cls) (names := names) (ic := ic) hown' hcls hnames h (fun x hx => nomatch hx) hfX hkX hcellA (by rw [hhp, hT]; exact Nat.le_refl _)
    (g := { method := m, pc := pc + 4, locals := ls, stack := .ref T.heap.size :: .ref T.heap.size :: rest, locked := none }) rfl hsize rfl rfl (rest := rest) rfl
    (by rw [hb]; exact d4) (by rw [hb]; exact d7) hout hRframes (by simp only [List.map_cons, List.sum_cons, hcat]; omega) hlocks
  obtain ⟨f1, f2⟩ := vx_frame hsame
  rw [hhp] at f1 f2
  have hWs : s.WarmedH U.vm := State.WarmedH.trans hW0 hW
  have hcl : s.vm.findClass cls = some ce.cls := by
    have h9 := hO.cls
    rw [hvm] at h9
    exact h9
  have hall : s.sameButNew ({ U with vm := s.vm } : State) locs mc ms := by
    subst hA
    obtain ⟨e1, e2⟩ := hsame
    rw [State.setFrames_setFrames] at e1
    have h2 : (T.setVm s.vm).sameButNew ({ U with vm := s.vm } : State) [] (0 + 1) (0 + 6) := ⟨e1, e2⟩
    have h3 := X.same.trans h2
    rw [List.append_nil] at h3
    exact h3.mono hc hs
  refine ⟨U, ?_, .threw T.heap.size, hrun, hend, Or.inr ⟨T.heap.size, rfl, cls, ce, locs, hx U hWs.alike f1 (fun q hq => f2 q hq (fun z hz => nomatch hz)), hce, hO.vm, hcl, hWs, hall, hf⟩⟩
  refine st1 _ ?_
  show Steps p.tables e below (T1.setTop { method := m, pc := pc + 3, locals := ls, stack := .ref T.heap.size :: rest, locked := none }) _
  jvm_step X₁.here [X₁.here.top, hexec, d3', Value.category]
  exact hsteps
/-- 'throw new E("text")': new; dup; ldc; invokespecial; athrow -/
theorem vx_throwS {cc : ByteArray} {pc : Nat} (hexec : p.tables.exec = Jvm.exec) (hb : c.code = cc) (hl : l.stackTraces = false) {own cls text : String} {names : List String} {ik is ic mc ms sa : Nat} {A : Nat → Prop}
    (hown : s.vm.findClass own = some m.cls) (hcls : Bundle.fit cls = true) (hnames : ∀ n ∈ names, Bundle.fit n = true)
    (hk : (Cond.classLink own ik cls).before args s = true) (hini : (Cond.initialized cls).before args s = true) (hstr : vk_R own is text sa s) (hat : ∀ w ∈ vx_atS own ic cls names, w.before args s = true)
    (hgood : ∀ w ∈ Cond.classLink own ik cls :: Cond.initialized cls :: vx_atS own ic cls names, vx_ot w = true)
    (hU : vx_Zq Bundle.tN "UNASSIGNED_STACK" Bundle.steD A s s.heap) (hN : vx_Zq Bundle.tN "SUPPRESSED_SENTINEL" Bundle.listD A s s.heap) (hS : va_S A s.heap H locs) (hsize : ls.size = c.maxLocals)
    (d0 : decode cc pc = .ok (.new ik, 3)) (d3 : decode cc (pc + 3) = .ok (.dup, 1)) (d4 : decode cc (pc + 4) = .ok (.ldc is, 2)) (d6 : decode cc (pc + 6) = .ok (.invokespecial ic, 3)) (d9 : decode cc (pc + 9) = .ok (.athrow, 1))
    (hout : ∀ x ∈ c.exceptionTable.toList, covers x (pc + 9) = false)
    (hRframes : names.length + 3 < R.frames) (hRlocals : (rest.map fun v => v.category).sum + (13 * (names.length + 1) + 43) ≤ R.locals) (hRcells : cells + 1 ≤ R.cells) (hRslots : slots + 6 ≤ R.slots) (hlocks : meth.locks = false)
    (hx : ∀ t : State, s.vm.Alike t.vm → H.size ≤ t.heap.size → (∀ q : Nat, q < H.size → t.heap[q]? = H[q]?) → XC cls s t)
    (hf : ∀ z ∈ locs, free z.base) (hc : cells + 1 ≤ mc) (hs : slots + 6 ≤ ms) :
    W p l e R s m args below meth c H locs cells slots (vx_MQ below Qc XC args s mc ms free) (F0 m pc ls rest) := by
  intro T hT X
  have htr : e.platform.stackTraces = false := (show e.platform.stackTraces = l.stackTraces by rw [X.admits.platform]).trans hl
  have Y := vx_rebase X (R' := { frames := R.frames, locals := R.locals, cells := 1, slots := 6 }) (Nat.le_refl _) (Nat.le_refl _) hRcells hRslots
  obtain ⟨s', hA⟩ : ∃ z, z = (T.setVm s.vm).setFrames (.invoking m args :: below) := ⟨_, rfl⟩
  rw [← hA] at Y
  have hvm : s'.vm = s.vm := by rw [hA]; rfl
  have hhp : s'.heap = H := by rw [hA]; exact hT
  have hW0 : s.WarmedH s'.vm := by rw [hvm]; exact State.WarmedH.refl s
  have hat' : ∀ w ∈ vx_atS own ic cls names, w.before args s' = true := fun w hw => vx_ot_at hW0 hvm.symm (hgood w (List.mem_cons_of_mem _ (List.mem_cons_of_mem _ hw))) (hat w hw)
  have hk' : (Cond.classLink own ik cls).before args s' = true := vx_ot_at hW0 hvm.symm (hgood _ List.mem_cons_self) hk
  have hini' : (Cond.initialized cls).before args s' = true := vx_ot_at hW0 hvm.symm (hgood _ (List.mem_cons_of_mem _ List.mem_cons_self)) hini
  have hU' : vx_Zq Bundle.tN "UNASSIGNED_STACK" Bundle.steD A s' s'.heap := by rw [hhp]; exact vx_Zq.moved hW0.alike (hU.kept hS.2.1)
  have hN' : vx_Zq Bundle.tN "SUPPRESSED_SENTINEL" Bundle.listD A s' s'.heap := by rw [hhp]; exact vx_Zq.moved hW0.alike (hN.kept hS.2.1)
  have h : ∀ w ∈ Bundle.ownAtoms own ic cls names, w.before args s' = true := vx_own hat' (vx_isRefq hU'.1) (vx_isRefq hN'.1) hU'.2.word hN'.2.word
  have hown' : s'.vm.findClass own = some m.cls := by rw [hvm]; exact hown
  have hins : (Cond.instantiable cls 6).before args s' = true := h _ (by simp [Bundle.ownAtoms])
  obtain ⟨vm₁, cX, kX, hfX, hkX, -, -, X₁, st1⟩ := Y.newCold hexec (own := own) (C := cls) (index := ik) (n := 6) hown' hk' hins hini'
    (g := F0 m pc ls rest) rfl (by rw [hb]; exact d0) (Nat.le_refl _) (Nat.le_refl _)
  generalize hT1 : (T.setVm vm₁).pushCell { cls := cX, slots := kX.instanceTypes.map defaultValue, vm := .none } = T1 at X₁ st1
  have hcat : (Value.ref T.heap.size).category = 1 := rfl
  have hcellA : T1.heap[T.heap.size]? = some (freshCell cX kX) := by rw [← hT1]; exact State.heap_pushCell_size _ _
  have d3' : decode c.code (pc + 3) = .ok (.dup, 1) := by rw [hb]; exact d3
  have d4' : decode c.code (pc + 4) = .ok (.ldc is, 2) := by rw [hb]; exact d4
  have hstr' : vk_R own is text sa s' := vk_R.warm hW0 hstr
  obtain ⟨U, hsteps, hrun, hend, hW, hsame, ce, hce, hO⟩ := X₁.ctorThrowS hexec htr (own := own) (cls := cls) (names := names) (ic := ic) hown' hcls hnames h (fun x hx => nomatch hx) hfX hkX hcellA (by rw [hhp, hT]; exact Nat.le_refl _) (msg := .ref sa) rfl
    (g := { method := m, pc := pc + 6, locals := ls, stack := .ref sa :: .ref T.heap.size :: .ref T.heap.size :: rest, locked := none }) rfl hsize rfl rfl (rest := rest) rfl
    (by rw [hb]; exact d6) (by rw [hb]; exact d9) hout hRframes (by simp only [List.map_cons, List.sum_cons, hcat]; omega) hlocks
  obtain ⟨f1, f2⟩ := vx_frame hsame
  rw [hhp] at f1 f2
  have hWs : s.WarmedH U.vm := State.WarmedH.trans hW0 hW
  have hcl : s.vm.findClass cls = some ce.cls := by
    have h9 := hO.cls
    rw [hvm] at h9
    exact h9
  have hall : s.sameButNew ({ U with vm := s.vm } : State) locs mc ms := by
    subst hA
    obtain ⟨e1, e2⟩ := hsame
    rw [State.setFrames_setFrames] at e1
    have h2 : (T.setVm s.vm).sameButNew ({ U with vm := s.vm } : State) [] (0 + 1) (0 + 6) := ⟨e1, e2⟩
    have h3 := X.same.trans h2
    rw [List.append_nil] at h3
    exact h3.mono hc hs
  refine ⟨U, ?_, .threw T.heap.size, hrun, hend, Or.inr ⟨T.heap.size, rfl, cls, ce, locs, hx U hWs.alike f1 (fun q hq => f2 q hq (fun z hz => nomatch hz)), hce, hO.vm, hcl, hWs, hall, hf⟩⟩
  refine st1 _ ?_
  show Steps p.tables e below (T1.setTop { method := m, pc := pc + 3, locals := ls, stack := .ref T.heap.size :: rest, locked := none }) _
  jvm_step X₁.here [X₁.here.top, hexec, d3', Value.category]
  exact X₁.ldcString hexec (own := own) (text := text) (index := is) (a := sa) hown' hstr'.1 hstr'.2
    (g := { method := m, pc := pc + 4, locals := ls, stack := .ref T.heap.size :: .ref T.heap.size :: rest, locked := none }) rfl d4' _ hsteps
/-- 'throw new E("text")', the text by a wide index -/
theorem vx_throwSW {cc : ByteArray} {pc : Nat} (hexec : p.tables.exec = Jvm.exec) (hb : c.code = cc) (hl : l.stackTraces = false) {own cls text : String} {names : List String} {ik is ic mc ms sa : Nat} {A : Nat → Prop}
    (hown : s.vm.findClass own = some m.cls) (hcls : Bundle.fit cls = true) (hnames : ∀ n ∈ names, Bundle.fit n = true)
    (hk : (Cond.classLink own ik cls).before args s = true) (hini : (Cond.initialized cls).before args s = true) (hstr : vk_R own is text sa s) (hat : ∀ w ∈ vx_atS own ic cls names, w.before args s = true)
    (hgood : ∀ w ∈ Cond.classLink own ik cls :: Cond.initialized cls :: vx_atS own ic cls names, vx_ot w = true)
    (hU : vx_Zq Bundle.tN "UNASSIGNED_STACK" Bundle.steD A s s.heap) (hN : vx_Zq Bundle.tN "SUPPRESSED_SENTINEL" Bundle.listD A s s.heap) (hS : va_S A s.heap H locs) (hsize : ls.size = c.maxLocals)
    (d0 : decode cc pc = .ok (.new ik, 3)) (d3 : decode cc (pc + 3) = .ok (.dup, 1)) (d4 : decode cc (pc + 4) = .ok (.ldc_w is, 3)) (d7 : decode cc (pc + 7) = .ok (.invokespecial ic, 3)) (d10 : decode cc (pc + 10) = .ok (.athrow, 1))
    (hout : ∀ x ∈ c.exceptionTable.toList, covers x (pc + 10) = false)
    (hRframes : names.length + 3 < R.frames) (hRlocals : (rest.map fun v => v.category).sum + (13 * (names.length + 1) + 43) ≤ R.locals) (hRcells : cells + 1 ≤ R.cells) (hRslots : slots + 6 ≤ R.slots) (hlocks : meth.locks = false)
    (hx : ∀ t : State, s.vm.Alike t.vm → H.size ≤ t.heap.size → (∀ q : Nat, q < H.size → t.heap[q]? = H[q]?) → XC cls s t)
    (hf : ∀ z ∈ locs, free z.base) (hc : cells + 1 ≤ mc) (hs : slots + 6 ≤ ms) :
    W p l e R s m args below meth c H locs cells slots (vx_MQ below Qc XC args s mc ms free) (F0 m pc ls rest) := by
  intro T hT X
  have htr : e.platform.stackTraces = false := (show e.platform.stackTraces = l.stackTraces by rw [X.admits.platform]).trans hl
  have Y := vx_rebase X (R' := { frames := R.frames, locals := R.locals, cells := 1, slots := 6 }) (Nat.le_refl _) (Nat.le_refl _) hRcells hRslots
  obtain ⟨s', hA⟩ : ∃ z, z = (T.setVm s.vm).setFrames (.invoking m args :: below) := ⟨_, rfl⟩
  rw [← hA] at Y
  have hvm : s'.vm = s.vm := by rw [hA]; rfl
  have hhp : s'.heap = H := by rw [hA]; exact hT
  have hW0 : s.WarmedH s'.vm := by rw [hvm]; exact State.WarmedH.refl s
  have hat' : ∀ w ∈ vx_atS own ic cls names, w.before args s' = true := fun w hw => vx_ot_at hW0 hvm.symm (hgood w (List.mem_cons_of_mem _ (List.mem_cons_of_mem _ hw))) (hat w hw)
  have hk' : (Cond.classLink own ik cls).before args s' = true := vx_ot_at hW0 hvm.symm (hgood _ List.mem_cons_self) hk
  have hini' : (Cond.initialized cls).before args s' = true := vx_ot_at hW0 hvm.symm (hgood _ (List.mem_cons_of_mem _ List.mem_cons_self)) hini
  have hU' : vx_Zq Bundle.tN "UNASSIGNED_STACK" Bundle.steD A s' s'.heap := by rw [hhp]; exact vx_Zq.moved hW0.alike (hU.kept hS.2.1)
  have hN' : vx_Zq Bundle.tN "SUPPRESSED_SENTINEL" Bundle.listD A s' s'.heap := by rw [hhp]; exact vx_Zq.moved hW0.alike (hN.kept hS.2.1)
  have h : ∀ w ∈ Bundle.ownAtoms own ic cls names, w.before args s' = true := vx_own hat' (vx_isRefq hU'.1) (vx_isRefq hN'.1) hU'.2.word hN'.2.word
  have hown' : s'.vm.findClass own = some m.cls := by rw [hvm]; exact hown
  have hins : (Cond.instantiable cls 6).before args s' = true := h _ (by simp [Bundle.ownAtoms])
  obtain ⟨vm₁, cX, kX, hfX, hkX, -, -, X₁, st1⟩ := Y.newCold hexec (own := own) (C := cls) (index := ik) (n := 6) hown' hk' hins hini'
    (g := F0 m pc ls rest) rfl (by rw [hb]; exact d0) (Nat.le_refl _) (Nat.le_refl _)
  generalize hT1 : (T.setVm vm₁).pushCell { cls := cX, slots := kX.instanceTypes.map defaultValue, vm := .none } = T1 at X₁ st1
  have hcat : (Value.ref T.heap.size).category = 1 := rfl
  have hcellA : T1.heap[T.heap.size]? = some (freshCell cX kX) := by rw [← hT1]; exact State.heap_pushCell_size _ _
  have d3' : decode c.code (pc + 3) = .ok (.dup, 1) := by rw [hb]; exact d3
  have d4' : decode c.code (pc + 4) = .ok (.ldc_w is, 3) := by rw [hb]; exact d4
  have hstr' : vk_R own is text sa s' := vk_R.warm hW0 hstr
  obtain ⟨U, hsteps, hrun, hend, hW, hsame, ce, hce, hO⟩ := X₁.ctorThrowS hexec htr (own := own) (cls := cls) (names := names) (ic := ic) hown' hcls hnames h (fun x hx => nomatch hx) hfX hkX hcellA (by rw [hhp, hT]; exact Nat.le_refl _) (msg := .ref sa) rfl
    (g := { method := m, pc := pc + 7, locals := ls, stack := .ref sa :: .ref T.heap.size :: .ref T.heap.size :: rest, locked := none }) rfl hsize rfl rfl (rest := rest) rfl
    (by rw [hb]; exact d7) (by rw [hb]; exact d10) hout hRframes (by simp only [List.map_cons, List.sum_cons, hcat]; omega) hlocks
  obtain ⟨f1, f2⟩ := vx_frame hsame
  rw [hhp] at f1 f2
  have hWs : s.WarmedH U.vm := State.WarmedH.trans hW0 hW
  have hcl : s.vm.findClass cls = some ce.cls := by
    have h9 := hO.cls
    rw [hvm] at h9
    exact h9
  have hall : s.sameButNew ({ U with vm := s.vm } : State) locs mc ms := by
    subst hA
    obtain ⟨e1, e2⟩ := hsame
    rw [State.setFrames_setFrames] at e1
    have h2 : (T.setVm s.vm).sameButNew ({ U with vm := s.vm } : State) [] (0 + 1) (0 + 6) := ⟨e1, e2⟩
    have h3 := X.same.trans h2
    rw [List.append_nil] at h3
    exact h3.mono hc hs
  refine ⟨U, ?_, .threw T.heap.size, hrun, hend, Or.inr ⟨T.heap.size, rfl, cls, ce, locs, hx U hWs.alike f1 (fun q hq => f2 q hq (fun z hz => nomatch hz)), hce, hO.vm, hcl, hWs, hall, hf⟩⟩
  refine st1 _ ?_
  show Steps p.tables e below (T1.setTop { method := m, pc := pc + 3, locals := ls, stack := .ref T.heap.size :: rest, locked := none }) _
  jvm_step X₁.here [X₁.here.top, hexec, d3', Value.category]
  exact X₁.ldcStringW hexec (own := own) (text := text) (index := is) (a := sa) hown' hstr'.1 hstr'.2
    (g := { method := m, pc := pc + 4, locals := ls, stack := .ref T.heap.size :: .ref T.heap.size :: rest, locked := none }) rfl d4' _ hsteps
end Ends
section Bodies
variable {l : Launch}
theorem vx_ofW {y : MethodName} {ws ws' : List Cond} {rm : Room} {Pc : Array Value → State → Prop} {Qc : Array Value → State → Outcome → State → Prop} {XC : String → State → State → Prop} {mc ms : Nat} {free : Addr → Prop} {cc : ByteArray} {maxL : Nat} {ret : Option FieldType}
    (hy : plainName y.cls = true) (hw : ws = Cond.code y cc maxL ret :: ws')
    (body : ∀ p e s m args below meth c s₁, BodyLoose p l y (headSpec ws rm) cc maxL ret e s m args below meth c s₁ → c.maxLocals = maxL → (∀ x ∈ c.exceptionTable.toList, False) → Pc args s →
      W p l e (headSpec ws rm).room s m args below meth c s.heap [] 0 0 (vx_MQ below Qc XC args s mc ms free) (entryFrame m args maxL)) : vx_Met l y ws rm Pc Qc XC mc ms free := by
  refine MetFree.of_bodyS (code := cc) (maxLocals := maxL) (ret := ret) hy ?_ ?_
  · intro args s m h hn
    obtain ⟨meth, c, h1, h2, h3, h4, h5, h6, -, -⟩ := Cond.code_spec hn (atoms_spec (ws := ws) h _ (by rw [hw]; exact List.mem_cons_self))
    exact ⟨meth, c, h1, h2, h3, h4, h5, h6⟩
  · intro p e s m args below meth c s₁ B hml hP _
    have hh0 : s₁.heap = s.heap := by rw [B.state]; rfl
    have ht : ∀ x ∈ c.exceptionTable.toList, False := by
      obtain ⟨meth9, c9, h1, h2, -, -, -, -, h7, -⟩ := Cond.code_spec B.named (atoms_spec (ws := ws) B.pre _ (by rw [hw]; exact List.mem_cons_self))
      cases Option.some.inj (h1.symm.trans B.method)
      cases Option.some.inj (h2.symm.trans (Stand.of_body B).code)
      intro x hx
      rw [Array.isEmpty_iff.mp h7] at hx
      cases hx
    obtain ⟨t, a1, o, b1, b2, b3⟩ := body p e s m args below meth c s₁ B hml ht hP s₁ hh0 (Stand.of_body B)
    exact ⟨t, o, a1, b1, b2, b3⟩
/-- the table of a body with handlers -/
theorem vx_table {p : Program} {x y : MethodName} {S : Spec} {cc bytes : ByteArray} {maxL maxL' : Nat} {ret ret' : Option FieldType} {e : Env} {s s₁ : State} {m : MethodId} {args : Array Value} {below : List Frame} {meth : Method} {c : Code} {hh : List (Nat × Nat × Nat × Nat)}
    (B : BodyLoose p l y S cc maxL ret e s m args below meth c s₁) (h : (Cond.codeWith y bytes maxL' ret' hh).before args s = true) : c.exceptionTable.toList = tableOf hh := by
  obtain ⟨m9, meth9, c9, hn9, h1, h2, -, -, h6, -⟩ := Cond.codeWith_spec h
  cases Option.some.inj (hn9.symm.trans B.named)
  cases Option.some.inj (h1.symm.trans B.method)
  cases Option.some.inj (h2.symm.trans (Stand.of_body B).code)
  rw [← h6, table_eq]
end Bodies
end VXA
/-! ===== END ===== -/
/-! ===== BEGIN a static call of a method with an exception table ===== -/
section VXS
variable {p : Program} {l : Launch} {e : Env} {R : Room} {s : State} {m : MethodId} {args : Array Value} {below : List Frame} {meth : Method} {c : Code} {T : State} {H : Heap} {locs : List Loc} {cells slots : Nat}
abbrev vx_CSW (R : Room) (s : State) (args : Array Value) (own : String) (index : Nat) (y : MethodName) (bytes : ByteArray) (maxL : Nat) (ret : Option FieldType) (hh : List (Nat × Nat × Nat × Nat)) (ws : List Cond) (rm : Room) (mc ms n : Nat) : Prop :=
  (rm.cells = mc ∧ rm.slots = ms ∧ rm.frames + 1 ≤ R.frames ∧ 8 + (maxL + 11) + rm.locals ≤ R.locals ∧ (∀ w ∈ ws, ∀ (a' : Array Value) (U : State), s.WarmedH U.vm → w.before a' U = true) ∧ Cond.codeWith y bytes maxL ret hh ∈ ws) ∧
  (Cond.codeWith y bytes maxL ret hh).before args s = true ∧ (Cond.initialized y.cls).before args s = true ∧ (y.cls ≠ "java/lang/invoke/MethodHandle" ∧ y.cls ≠ "java/lang/invoke/VarHandle") ∧
  (∀ sig, parseMethodDescriptor y.desc = some sig → n = sig.parameters.length) ∧ (Cond.methodLink own index y).before args s = true ∧ (Cond.static y).before args s = true
theorem vx_cwSW {own : String} {index maxL mc ms : Nat} {y : MethodName} {bytes : ByteArray} {ret : Option FieldType} {hh : List (Nat × Nat × Nat × Nat)} {Ts ws ws' : List Cond} {rm : Room} (n : Nat) (ht : ∀ w ∈ Ts, w.before args s = true) (hT : GoodIn Ts (va_wsS own index y ws)) (hw : ws = Cond.codeWith y bytes maxL ret hh :: ws') (hrc : rm.cells = mc) (hrs : rm.slots = ms)
    (hd : y.cls ≠ "java/lang/invoke/MethodHandle" ∧ y.cls ≠ "java/lang/invoke/VarHandle" ∧ (parseMethodDescriptor y.desc).map (fun d => d.parameters.length) = some n) (hR : rm.frames + 1 ≤ R.frames ∧ 8 + (maxL + 11) + rm.locals ≤ R.locals) :
    vx_CSW R s args own index y bytes maxL ret hh ws rm mc ms n := by
  have ok : ∀ w ∈ va_wsS own index y ws, w.before args s = true := fun w h => ht w (hT w h).1
  have hG : GoodIn Ts ws := fun w h => hT w (by unfold va_wsS; exact List.mem_append_right _ h)
  have hc : Cond.codeWith y bytes maxL ret hh ∈ ws := by rw [hw]; exact List.mem_cons_self
  refine ⟨⟨hrc, hrs, hR.1, hR.2, pay_in ht hG, hc⟩, ht _ (hG _ hc).1, ok _ (by simp [va_wsS]), ⟨hd.1, hd.2.1⟩, fun sig h => ?_, ok _ (by simp [va_wsS]), ok _ (by simp [va_wsS])⟩
  have h2 := hd.2.2
  rw [h] at h2
  exact (Option.some.inj h2).symm
theorem vx_callSW (X : Stand p l e R s m args below meth c T locs cells slots) (hexec : p.tables.exec = Jvm.exec) {own : String} {index : Nat} {y : MethodName} {bytes : ByteArray} {maxL : Nat} {ret : Option FieldType} {hh : List (Nat × Nat × Nat × Nat)}
    (hown : s.vm.findClass own = some m.cls) (hlink : (Cond.methodLink own index y).before args s = true) (hstat : (Cond.static y).before args s = true) (hinit : (Cond.initialized y.cls).before args s = true)
    (hcode : (Cond.codeWith y bytes maxL ret hh).before args s = true) (hy : y.cls ≠ "java/lang/invoke/MethodHandle" ∧ y.cls ≠ "java/lang/invoke/VarHandle")
    {W9 : Nat} {Pre : Pt → Array Value → Prop} {Post : Pt → Array Value → Option Value → Pt → Prop} (hK : Back l R p e below s args y 3 W9 Pre Post)
    {g : JFrame} (hg : g.method = m) (hsize : g.locals.size = c.maxLocals) {argsL rest : List Value} (hlen : ∀ sig, parseMethodDescriptor y.desc = some sig → argsL.length = sig.parameters.length)
    (hstack : g.stack = argsL.reverse ++ rest) (hW : 2 * g.monitorRoom + (rest.map fun v => v.category).sum ≤ W9) (hdg : decode c.code g.pc = .ok (.invokestatic index, 3))
    (hpre : ∀ vm₁, s.WarmedH vm₁ → Pre ⟨T.setVm vm₁, locs, cells, slots⟩ argsL.toArray) :
    ∃ (v : Option Value) (vm₁ : Vm) (B : Pt), s.WarmedH vm₁ ∧ Stand p l e R s m args below meth c B.U B.locs B.cells B.slots ∧ Post ⟨T.setVm vm₁, locs, cells, slots⟩ argsL.toArray v B ∧
      ∀ target, Steps p.tables e below (B.U.setTop { g with pc := g.pc + 3, stack := v.toList ++ rest }) target → Steps p.tables e below (T.setTop g) target := by
  obtain ⟨mk, methM, cM, hnamed, hmethM, -, -, -, -, -, -, hsigM⟩ := Cond.codeWith_spec hcode
  have hstatic : methM.isStatic = true := Cond.static_spec hnamed hmethM hstat
  obtain ⟨kP, hkP, -⟩ := className_of_methodNamed hnamed
  have hinitP : kP.init = .initialized := Cond.initialized_spec (findClass_of_methodNamed hnamed) hkP hinit
  obtain ⟨vm₁, X₁, hstep₁⟩ := X.invokestatic hexec hown hlink hnamed hmethM hstatic hkP hinitP hy (g := g) hg (argsL := argsL) (rest := rest) (hlen _ hsigM) hstack hdg
  obtain ⟨v, B, X', hpost, hsteps⟩ := hK m meth c ⟨T.setVm vm₁, locs, cells, slots⟩ { g with stack := rest } (.invokestatic index) mk argsL.toArray X₁ hg hsize hdg hW (X₁.named hnamed) (hpre vm₁ X₁.warmed)
  exact ⟨v, vm₁, B, X₁.warmed, X', hpost, fun target h => hstep₁ _ fun acts => by rw [doInvoke_state]; exact hsteps.trans h⟩
theorem vx_runSW {y : MethodName} {bytes cc : ByteArray} {maxL nL mc ms n index : Nat} {ret : Option FieldType} {hh : List (Nat × Nat × Nat × Nat)} {ws : List Cond} {rm : Room} {Pc : Array Value → State → Prop} {Qc : Array Value → State → Outcome → State → Prop} {free : Addr → Prop} {Ts : List Cond} {own : String} {As rest : List Value} {g : JFrame}
    (S : CallFix p m c cc nL s args Ts own) (hM : Met l y ws rm Pc Qc mc ms free) (cw : vx_CSW R s args own index y bytes maxL ret hh ws rm mc ms n) (hp : PreS s H Pc As)
    (hg : g.method = m) (hn : As.length = n) (hsize : g.locals.size = nL) (hstack : g.stack = As.reverse ++ rest) (hW : 2 * g.monitorRoom + (rest.map fun v => v.category).sum ≤ 8) (hdg : decode cc g.pc = .ok (.invokestatic index, 3)) (hf : cells + mc ≤ R.cells ∧ slots + ms ≤ R.slots) :
    va_Run p l e R s m args below meth c H locs cells slots mc ms g rest (Qc As.toArray) (free) := by
  obtain ⟨⟨hrc, hrs, hfr, hlo, hws, hcw⟩, hcode, hini, hy, hlen, hl, hstt⟩ := cw
  have hK : Back l R p e below s args y 3 8 (PreOf R mc ms Pc) (PostOf Qc mc ms free) := va_backW (hh := hh) (bytes := bytes) (maxL := maxL) (ret := ret) hM hp.1 hrc hrs hfr hlo hws hcw (fun a' U hW => word_at hW (Or.inl (by first | rfl | simp [Cond.onTables, Cond.keeps, Cond.steady])) hini)
  obtain ⟨hx, hb, hml, ho, -⟩ := S
  intro T hT X
  obtain ⟨v, vm₁, ⟨U', l2, c2, s2⟩, hW₁, X', ⟨g', mk, t, L, e1, e2, hq, h1, hL, h2, h3⟩, st⟩ := vx_callSW X hx (hh := hh) (bytes := bytes) (maxL := maxL) (ret := ret) ho hl hstt hini hcode hy hK hg (hsize.trans hml.symm) (argsL := As) (rest := rest) (fun sig h => hn.trans (hlen sig h)) hstack hW (by rw [hb]; exact hdg)
    (fun vm₁ hW₁ => ⟨hf.1, hf.2, hp.2 (T.setVm vm₁) hT hW₁⟩)
  dsimp only [Pt.U, Pt.locs, Pt.cells, Pt.slots] at X' e1 e2 h1 h2 h3 st
  subst h1; subst h2; subst h3
  exact ⟨v, (T.setVm vm₁).calling g' mk As.toArray, t, U', L, hT, X', hL, e1, e2, hq, st⟩
/-- not caught here, past rows that name other classes: it goes on to the caller -/
theorem vx_outP {p : Program} {l : Launch} {e : Env} {R : Room} {s : State} {m : MethodId} {args : Array Value} {below : List Frame} {meth : Method} {c : Code} {H : Heap} {locs : List Loc} {cells slots : Nat} {free : Addr → Prop} {ls : Array Slot} {rest : List Value} {Qc : Array Value → State → Outcome → State → Prop} {XC : String → State → State → Prop}
    {pc : Nat} {own E : String} {ce : Cell} {q : Addr} {mc ms : Nat} (hown : s.vm.findClass own = some m.cls) (hlocks : meth.locks = false)
    (hpass : ∀ z ∈ c.exceptionTable.toList, covers z pc = false ∨ (z.catchType ≠ 0 ∧ ∃ nm : String, (Cond.classLink own z.catchType nm).before args s = true ∧ va_Nc E nm s)) (hcell : H[q]? = some ce) (hv : ce.vm = .none) (hcl : s.vm.findClass E = some ce.cls)
    (hx : ∀ t : State, t.heap = H → s.vm.Alike t.vm → XC E s t) (hf : ∀ z ∈ locs, free z.base) (hc : cells ≤ mc) (hs : slots ≤ ms) :
    vx_W p l e R s m args below meth c H locs cells slots (vx_MQ below Qc XC args s mc ms free) (F0 m pc ls rest) q := by
  intro T hT X
  have hpl : e.platform.magicAccessors = ({} : Platform).magicAccessors := by rw [X.admits.platform]
  obtain ⟨vm', hW', X', st⟩ := X.outThrough hlocks q (g := F0 m pc ls rest) rfl rfl rfl (cell := ce) (by rw [hT]; exact hcell) (by rw [hv]; rfl)
    (by obtain ⟨k9, h9, -⟩ := Vm.findClass_spec hcl; exact ⟨k9, h9⟩) (fun z hz => by
      rcases hpass z hz with h | ⟨hz0, nm, hl1, hn1⟩
      · exact Or.inl h
      · obtain ⟨c6, hc6, hcl6⟩ := Cond.classLink_spec hown hl1 e.platform hpl
        obtain ⟨a8, b8, h1, h2, h3⟩ := hn1
        cases Option.some.inj (h1.symm.trans hcl)
        cases Option.some.inj (h2.symm.trans hc6)
        exact Or.inr ⟨hz0, _, hcl6, h3⟩)
  obtain ⟨g₀, hfr⟩ := X'.frames_eq
  have hcell9 : ((T.setVm vm').setFrames (.throwing q :: below)).heap[q]? = some ce := by
    show T.heap[q]? = some ce
    rw [hT]; exact hcell
  have hend : Ended ((T.setVm vm').setFrames (.throwing q :: below)) below (.threw q) := State.frames_setFrames _ (State.cur_lt_of_frames hfr)
  refine ⟨(T.setVm vm').setFrames (.throwing q :: below), ?_, .threw q, X'.here.running, hend, Or.inr ⟨q, rfl, E, ce, locs, hx _ hT (X'.ends _).1.alike, hcell9, hv, hcl, (X'.ends _).1, (X'.ends _).2.mono hc hs, hf⟩⟩
  rw [X.pushThrowing_eq]
  exact st
/-- a thing of a world lies in the heap -/
theorem vx_lt {D : va_G} {cl : List vw_C} {ws : va_W} {H1 : Heap} (h : va_P D cl ws H1) {k : Nat} {q : Nat × va_E} (hk : ws[k]? = some q) : q.1 < H1.size := (h k q hk).lt
end VXS
/-! ===== END ===== -/
/-! ===== BEGIN methods with a table of their own: called by a name, returning or throwing ===== -/
section VXH
/-! vx_backW, vx_callVX, vx_callSX, vx_callVW, vx_runVW, vx_runVX, vx_runSX, vx_ofWH follow the same proofs as their sisters above (Free/Laws.lean, Shelf42/LK1.lean); vx_outP calls Shelf42/NT130.lean (outThrough). -/
section
variable {l : Launch} {R : Room} {p : Program} {e : Env} {below : List Frame} {s : State} {sargs : Array Value} {y : MethodName} {len W9 : Nat}
theorem vx_backW {ws : List Cond} {rm : Room} {Pc : Array Value → State → Prop} {Qc : Array Value → State → Outcome → State → Prop} {XC : String → State → State → Prop} {mc ms : Nat} {free : Addr → Prop} {bytes : ByteArray} {maxL : Nat} {ret : Option FieldType} {hh : List (Nat × Nat × Nat × Nat)}
    (hM : vx_Met l y ws rm Pc Qc XC mc ms free) (hblind : FrameBlind Pc) (hrc : rm.cells = mc) (hrs : rm.slots = ms)
    (hframes : rm.frames + 1 ≤ R.frames) (hlocals : W9 + (maxL + 11) + rm.locals ≤ R.locals)
    (hws : ∀ w ∈ ws, ∀ a' U, s.WarmedH U.vm → w.before a' U = true) (hcode : Cond.codeWith y bytes maxL ret hh ∈ ws) (hinit : ∀ a' U, s.WarmedH U.vm → (Cond.initialized y.cls).before a' U = true) :
    vx_Back l R p e below s sargs y len W9 (PreOf R mc ms Pc) (PostOf Qc mc ms free) (vx_Post XC mc ms free) := by
  intro m meth c A g ig mk a X hg hsize hdg hW hn hp
  have h1 : (headSpec ws rm).pre.before a A.U = true := atoms_intro fun w hw => hws w hw _ _ X.warmed
  have h2 : (Cond.codeWith y bytes maxL ret hh).before a A.U = true := hws _ hcode _ _ X.warmed
  have h3 : (Cond.initialized y.cls).before a A.U = true := hinit _ _ X.warmed
  have h4 : A.cells + (headSpec ws rm).room.cells ≤ R.cells := by rw [show (headSpec ws rm).room.cells = mc from hrc]; exact hp.1
  have h5 : A.slots + (headSpec ws rm).room.slots ≤ R.slots := by rw [show (headSpec ws rm).room.slots = ms from hrs]; exact hp.2.1
  have hPc : Pc a (A.U.calling g mk a) := hblind _ _ _ _ hp.2.2
  obtain ⟨U, Ls, c0, s0⟩ := A
  dsimp only [Pt.U, Pt.locs, Pt.cells, Pt.slots] at h1 h2 h3 h4 h5 X hn hPc ⊢
  obtain ⟨m9, methY, cY, hn9, hmY, hcY, -, hlY, -⟩ := Cond.codeWith_spec h2
  cases Option.some.inj (hn9.symm.trans hn)
  obtain ⟨kY, hkY, -⟩ := className_of_methodNamed hn
  have hinitY : kY.init = .initialized := Cond.initialized_spec (findClass_of_methodNamed hn) hkY h3
  have h : At U g.method c below := by rw [hg]; exact X.here
  have hlocals9 : W9 + (maxL + 11) + (headSpec ws rm).room.locals ≤ R.locals := hlocals
  have happ : (headSpec ws rm).appliesLoose y e.platform (U.calling g mk a) = true :=
    Spec.appliesLoose_calling (g := g) h hdg hn hkY hinitY
      (X.room_calling (g := g) (R' := (headSpec ws rm).room) hsize hmY hcY hframes (by rw [hlY]; omega) h4 h5) h1
  obtain ⟨mid, hmid⟩ := h.above
  have hfr : (U.setTop g).frames = (.java g :: mid) ++ below := by rw [State.frames_setTop' g h.top, hmid]; rfl
  obtain ⟨o, s₂, hsteps, -, hend, hq⟩ := Steps.callFree hM p X.admits X.cas X.clock (acts := []) hfr happ hPc trivial
  have hq' : vx_Q Qc XC mc ms free a (U.calling g mk a) o s₂ := hq
  rw [State.frames_setTop' g h.top] at hend
  obtain ⟨g₀, hg0⟩ := Option.isSome_iff_exists.mp h.top
  obtain ⟨r, hr⟩ := State.topJava?_eq_some.mp hg0
  have hr' : (({ U with heap := s₂.heap, slotsUsed := s₂.slotsUsed } : State).setVm s₂.vm).frames = .java g₀ :: r := hr
  rcases hq' with ⟨hqc, L, hfe, hL⟩ | ⟨q, rfl, E, ce, L, hx, hce, hcv, hcl, hW₂, hsm, hL⟩
  · obtain ⟨⟨v, rfl⟩, hW₂, e2, q2, q3, q4, q5, q6⟩ := id hfe
    have e3 : s₂ = ({ (U.calling g mk a).setFrames s₂.frames with heap := s₂.heap, slotsUsed := s₂.slotsUsed } : State).setVm s₂.vm := by
      have : s₂ = ({ s₂ with vm := (U.calling g mk a).vm } : State).setVm s₂.vm := rfl
      rw [e2] at this
      exact this
    obtain ⟨c₂, i₂, len₂, hc₂, hd₂, hf₂⟩ := hend
    have hW' : U.WarmedH s₂.vm := hW₂
    have hcc : c₂ = c := by
      have h1 : s₂.code? g.method = U.code? g.method := by
        rw [State.code?_eq, State.code?_eq, hW'.alike.method?]
      exact Option.some.inj (hc₂.symm.trans (h1.trans h.code))
    subst hcc
    have hlen : len₂ = len := by rw [hdg] at hd₂; cases hd₂; rfl
    subst hlen
    have hs₂ : s₂ = (({ U with heap := s₂.heap, slotsUsed := s₂.slotsUsed } : State).setVm s₂.vm).setTop { g with pc := g.pc + len₂, stack := v.toList ++ g.stack } := by
      refine e3.trans ?_
      rw [hf₂, State.calling_eq h.top, State.setFrames_setFrames, State.setTop_of_frames _ hr', hr]
      rfl
    have hsame : U.sameButNew ({ U with heap := s₂.heap, slotsUsed := s₂.slotsUsed } : State) L mc ms := by
      refine ⟨?_, q2, q3, q4, q5, q6⟩
      obtain ⟨t, ht, -⟩ := State.frames_cons hr
      show ({ U with heap := s₂.heap, slotsUsed := s₂.slotsUsed } : State) = { U.setFrames U.frames with heap := s₂.heap, slotsUsed := s₂.slotsUsed }
      rw [State.setFrames_self ht]
    subst hg
    refine Or.inl ⟨v, ⟨(({ U with heap := s₂.heap, slotsUsed := s₂.slotsUsed } : State).setVm s₂.vm), Ls ++ L, c0 + mc, s0 + ms⟩,
      ⟨X.admits, X.cas, X.clock, X.frames, X.room, X.hears, X.method, X.code, (X.here.setHeapUsed s₂.heap s₂.slotsUsed).setVm hW'.alike, X.tail, State.WarmedH.trans X.warmed hW', X.limits, X.bytes, X.same.trans (hsame.setVm s.vm)⟩,
      ⟨g, mk, s₂, L, rfl, rfl, hqc, rfl, hL, rfl, rfl⟩, ?_⟩
    show Steps p.tables e below _ ((({ U with heap := s₂.heap, slotsUsed := s₂.slotsUsed } : State).setVm s₂.vm).setTop { g with pc := g.pc + len₂, stack := v.toList ++ g.stack })
    rw [← hs₂]
    exact hsteps
  · obtain ⟨e2, q2, q3, q4, q5, q6⟩ := id hsm
    have e3 : s₂ = ({ (U.calling g mk a).setFrames s₂.frames with heap := s₂.heap, slotsUsed := s₂.slotsUsed } : State).setVm s₂.vm := by
      have : s₂ = ({ s₂ with vm := (U.calling g mk a).vm } : State).setVm s₂.vm := rfl
      rw [e2] at this
      exact this
    have hf₂ : s₂.frames = .throwing q :: .java g :: U.frames.tail := hend
    have hW' : U.WarmedH s₂.vm := hW₂
    have hs₂ : s₂ = ((({ U with heap := s₂.heap, slotsUsed := s₂.slotsUsed } : State).setVm s₂.vm).setTop g).pushFrame (.throwing q) := by
      refine e3.trans ?_
      rw [hf₂, State.calling_eq h.top, State.setFrames_setFrames, State.pushFrame, State.frames_setTop _ hr', State.setTop_of_frames _ hr', State.setFrames_setFrames, hr]
      rfl
    have hsame : U.sameButNew ({ U with heap := s₂.heap, slotsUsed := s₂.slotsUsed } : State) L mc ms := by
      refine ⟨?_, q2, q3, q4, q5, q6⟩
      obtain ⟨t, ht, -⟩ := State.frames_cons hr
      show ({ U with heap := s₂.heap, slotsUsed := s₂.slotsUsed } : State) = { U.setFrames U.frames with heap := s₂.heap, slotsUsed := s₂.slotsUsed }
      rw [State.setFrames_self ht]
    subst hg
    refine Or.inr ⟨q, ⟨(({ U with heap := s₂.heap, slotsUsed := s₂.slotsUsed } : State).setVm s₂.vm), Ls ++ L, c0 + mc, s0 + ms⟩,
      ⟨X.admits, X.cas, X.clock, X.frames, X.room, X.hears, X.method, X.code, (X.here.setHeapUsed s₂.heap s₂.slotsUsed).setVm hW'.alike, X.tail, State.WarmedH.trans X.warmed hW', X.limits, X.bytes, X.same.trans (hsame.setVm s.vm)⟩,
      ⟨g, mk, s₂, L, E, ce, rfl, rfl, hx, hce, hcv, hcl, rfl, hL, rfl, rfl⟩, ?_⟩
    show Steps p.tables e below _ (((({ U with heap := s₂.heap, slotsUsed := s₂.slotsUsed } : State).setVm s₂.vm).setTop g).pushFrame (.throwing q))
    rw [← hs₂]
    exact hsteps
end
variable {p : Program} {l : Launch} {e : Env} {R : Room} {s : State} {m : MethodId} {args : Array Value} {below : List Frame} {meth : Method} {c : Code} {T : State} {H : Heap} {locs : List Loc} {cells slots : Nat}
theorem vx_callVX (X : Stand p l e R s m args below meth c T locs cells slots) (hexec : p.tables.exec = Jvm.exec) {own C : String} {index : Nat} {y : MethodName} {bytes : ByteArray} {maxL : Nat} {ret : Option FieldType} {hh : List (Nat × Nat × Nat × Nat)}
    (hown : s.vm.findClass own = some m.cls) (hlink : (Cond.methodLink own index y).before args s = true) (hinst : (Cond.instanceMethod y).before args s = true) (hsel : (Cond.selects C y y).before args s = true)
    (hcode : (Cond.codeWith y bytes maxL ret hh).before args s = true) (hy : y.cls ≠ "java/lang/invoke/MethodHandle" ∧ y.cls ≠ "java/lang/invoke/VarHandle")
    {W9 : Nat} {Pre : Pt → Array Value → Prop} {Post : Pt → Array Value → Option Value → Pt → Prop} {PostX : Pt → Array Value → Addr → Pt → Prop} (hK : vx_Back l R p e below s args y 3 W9 Pre Post PostX)
    {b : Addr} {cellB : Cell} (hcell : T.heap[b]? = some cellB) (hobj : cellB.vm.isStatics = false) (hcls : s.vm.findClass C = some cellB.cls)
    {g : JFrame} (hg : g.method = m) (hsize : g.locals.size = c.maxLocals) {argsL rest : List Value} (hlen : ∀ sig, parseMethodDescriptor y.desc = some sig → argsL.length = sig.parameters.length)
    (hstack : g.stack = argsL.reverse ++ .ref b :: rest) (hW : 2 * g.monitorRoom + (rest.map fun v => v.category).sum ≤ W9) (hdg : decode c.code g.pc = .ok (.invokevirtual index, 3))
    (hpre : ∀ vm₁, s.WarmedH vm₁ → Pre ⟨T.setVm vm₁, locs, cells, slots⟩ (Value.ref b :: argsL).toArray) :
    (∃ (v : Option Value) (vm₁ : Vm) (B : Pt), s.WarmedH vm₁ ∧ Stand p l e R s m args below meth c B.U B.locs B.cells B.slots ∧ Post ⟨T.setVm vm₁, locs, cells, slots⟩ (Value.ref b :: argsL).toArray v B ∧
      ∀ target, Steps p.tables e below (B.U.setTop { g with pc := g.pc + 3, stack := v.toList ++ rest }) target → Steps p.tables e below (T.setTop g) target) ∨
    (∃ (q : Addr) (vm₁ : Vm) (B : Pt), s.WarmedH vm₁ ∧ Stand p l e R s m args below meth c B.U B.locs B.cells B.slots ∧ PostX ⟨T.setVm vm₁, locs, cells, slots⟩ (Value.ref b :: argsL).toArray q B ∧
      Steps p.tables e below (T.setTop g) ((B.U.setTop { g with stack := rest }).pushFrame (.throwing q))) := by
  obtain ⟨mk, methM, hnamed, hmethM, hstM, habM⟩ := Cond.instanceMethod_spec hinst
  obtain ⟨m8, methM', cM, hn8, hmethM', -, -, -, -, -, -, hsigM⟩ := Cond.codeWith_spec hcode
  cases Option.some.inj (hn8.symm.trans hnamed)
  cases hmethM.symm.trans hmethM'
  obtain ⟨c2, r2, m2, q1, q2, q3, q4, kP, hkP, hkPi⟩ := Cond.selects_spec hsel
  cases hcls.symm.trans q1
  cases (State.methodFound?_of_named hnamed hy).symm.trans q2
  cases hnamed.symm.trans q3
  have hselP : selectMethod e.platform s.vm cellB.cls mk = .method mk := by rw [Launch.admits_selectMethod X.admits]; exact q4
  obtain ⟨vm₁, X₁, hstep₁⟩ := X.invokevirtual hexec hown hlink hnamed hmethM hstM hkP hkPi hy (a := b) (cell := cellB) hcell
    (fun z h => by rw [h] at hobj; cases hobj) hselP hmethM habM hkP hkPi (g := g) hg (argsL := argsL) (rest := rest) (hlen _ hsigM) hstack hdg
  rcases hK m meth c ⟨T.setVm vm₁, locs, cells, slots⟩ { g with stack := rest } (.invokevirtual index) mk (Value.ref b :: argsL).toArray X₁ hg hsize hdg hW (X₁.named hnamed) (hpre vm₁ X₁.warmed) with ⟨v, B, X', hpost, hsteps⟩ | ⟨q, B, X', hpost, hsteps⟩
  · exact Or.inl ⟨v, vm₁, B, X₁.warmed, X', hpost, fun target h => hstep₁ _ fun acts => by rw [doInvoke_state]; exact hsteps.trans h⟩
  · exact Or.inr ⟨q, vm₁, B, X₁.warmed, X', hpost, hstep₁ _ fun acts => by rw [doInvoke_state]; exact hsteps⟩
theorem vx_callSX (X : Stand p l e R s m args below meth c T locs cells slots) (hexec : p.tables.exec = Jvm.exec) {own : String} {index : Nat} {y : MethodName} {bytes : ByteArray} {maxL : Nat} {ret : Option FieldType} {hh : List (Nat × Nat × Nat × Nat)}
    (hown : s.vm.findClass own = some m.cls) (hlink : (Cond.methodLink own index y).before args s = true) (hstat : (Cond.static y).before args s = true) (hinit : (Cond.initialized y.cls).before args s = true)
    (hcode : (Cond.codeWith y bytes maxL ret hh).before args s = true) (hy : y.cls ≠ "java/lang/invoke/MethodHandle" ∧ y.cls ≠ "java/lang/invoke/VarHandle")
    {W9 : Nat} {Pre : Pt → Array Value → Prop} {Post : Pt → Array Value → Option Value → Pt → Prop} {PostX : Pt → Array Value → Addr → Pt → Prop} (hK : vx_Back l R p e below s args y 3 W9 Pre Post PostX)
    {g : JFrame} (hg : g.method = m) (hsize : g.locals.size = c.maxLocals) {argsL rest : List Value} (hlen : ∀ sig, parseMethodDescriptor y.desc = some sig → argsL.length = sig.parameters.length)
    (hstack : g.stack = argsL.reverse ++ rest) (hW : 2 * g.monitorRoom + (rest.map fun v => v.category).sum ≤ W9) (hdg : decode c.code g.pc = .ok (.invokestatic index, 3))
    (hpre : ∀ vm₁, s.WarmedH vm₁ → Pre ⟨T.setVm vm₁, locs, cells, slots⟩ argsL.toArray) :
    (∃ (v : Option Value) (vm₁ : Vm) (B : Pt), s.WarmedH vm₁ ∧ Stand p l e R s m args below meth c B.U B.locs B.cells B.slots ∧ Post ⟨T.setVm vm₁, locs, cells, slots⟩ argsL.toArray v B ∧
      ∀ target, Steps p.tables e below (B.U.setTop { g with pc := g.pc + 3, stack := v.toList ++ rest }) target → Steps p.tables e below (T.setTop g) target) ∨
    (∃ (q : Addr) (vm₁ : Vm) (B : Pt), s.WarmedH vm₁ ∧ Stand p l e R s m args below meth c B.U B.locs B.cells B.slots ∧ PostX ⟨T.setVm vm₁, locs, cells, slots⟩ argsL.toArray q B ∧
      Steps p.tables e below (T.setTop g) ((B.U.setTop { g with stack := rest }).pushFrame (.throwing q))) := by
  obtain ⟨mk, methM, cM, hnamed, hmethM, -, -, -, -, -, -, hsigM⟩ := Cond.codeWith_spec hcode
  have hstatic : methM.isStatic = true := Cond.static_spec hnamed hmethM hstat
  obtain ⟨kP, hkP, -⟩ := className_of_methodNamed hnamed
  have hinitP : kP.init = .initialized := Cond.initialized_spec (findClass_of_methodNamed hnamed) hkP hinit
  obtain ⟨vm₁, X₁, hstep₁⟩ := X.invokestatic hexec hown hlink hnamed hmethM hstatic hkP hinitP hy (g := g) hg (argsL := argsL) (rest := rest) (hlen _ hsigM) hstack hdg
  rcases hK m meth c ⟨T.setVm vm₁, locs, cells, slots⟩ { g with stack := rest } (.invokestatic index) mk argsL.toArray X₁ hg hsize hdg hW (X₁.named hnamed) (hpre vm₁ X₁.warmed) with ⟨v, B, X', hpost, hsteps⟩ | ⟨q, B, X', hpost, hsteps⟩
  · exact Or.inl ⟨v, vm₁, B, X₁.warmed, X', hpost, fun target h => hstep₁ _ fun acts => by rw [doInvoke_state]; exact hsteps.trans h⟩
  · exact Or.inr ⟨q, vm₁, B, X₁.warmed, X', hpost, hstep₁ _ fun acts => by rw [doInvoke_state]; exact hsteps⟩
theorem vx_callVW (X : Stand p l e R s m args below meth c T locs cells slots) (hexec : p.tables.exec = Jvm.exec) {own C : String} {index : Nat} {y : MethodName} {bytes : ByteArray} {maxL : Nat} {ret : Option FieldType} {hh : List (Nat × Nat × Nat × Nat)}
    (hown : s.vm.findClass own = some m.cls) (hlink : (Cond.methodLink own index y).before args s = true) (hinst : (Cond.instanceMethod y).before args s = true) (hsel : (Cond.selects C y y).before args s = true)
    (hcode : (Cond.codeWith y bytes maxL ret hh).before args s = true) (hy : y.cls ≠ "java/lang/invoke/MethodHandle" ∧ y.cls ≠ "java/lang/invoke/VarHandle")
    {W9 : Nat} {Pre : Pt → Array Value → Prop} {Post : Pt → Array Value → Option Value → Pt → Prop} (hK : Back l R p e below s args y 3 W9 Pre Post)
    {b : Addr} {cellB : Cell} (hcell : T.heap[b]? = some cellB) (hobj : cellB.vm.isStatics = false) (hcls : s.vm.findClass C = some cellB.cls)
    {g : JFrame} (hg : g.method = m) (hsize : g.locals.size = c.maxLocals) {argsL rest : List Value} (hlen : ∀ sig, parseMethodDescriptor y.desc = some sig → argsL.length = sig.parameters.length)
    (hstack : g.stack = argsL.reverse ++ .ref b :: rest) (hW : 2 * g.monitorRoom + (rest.map fun v => v.category).sum ≤ W9) (hdg : decode c.code g.pc = .ok (.invokevirtual index, 3))
    (hpre : ∀ vm₁, s.WarmedH vm₁ → Pre ⟨T.setVm vm₁, locs, cells, slots⟩ (Value.ref b :: argsL).toArray) :
    ∃ (v : Option Value) (vm₁ : Vm) (B : Pt), s.WarmedH vm₁ ∧ Stand p l e R s m args below meth c B.U B.locs B.cells B.slots ∧ Post ⟨T.setVm vm₁, locs, cells, slots⟩ (Value.ref b :: argsL).toArray v B ∧
      ∀ target, Steps p.tables e below (B.U.setTop { g with pc := g.pc + 3, stack := v.toList ++ rest }) target → Steps p.tables e below (T.setTop g) target := by
  obtain ⟨mk, methM, hnamed, hmethM, hstM, habM⟩ := Cond.instanceMethod_spec hinst
  obtain ⟨m8, methM', cM, hn8, hmethM', -, -, -, -, -, -, hsigM⟩ := Cond.codeWith_spec hcode
  cases Option.some.inj (hn8.symm.trans hnamed)
  cases hmethM.symm.trans hmethM'
  obtain ⟨c2, r2, m2, q1, q2, q3, q4, kP, hkP, hkPi⟩ := Cond.selects_spec hsel
  cases hcls.symm.trans q1
  cases (State.methodFound?_of_named hnamed hy).symm.trans q2
  cases hnamed.symm.trans q3
  have hselP : selectMethod e.platform s.vm cellB.cls mk = .method mk := by rw [Launch.admits_selectMethod X.admits]; exact q4
  obtain ⟨vm₁, X₁, hstep₁⟩ := X.invokevirtual hexec hown hlink hnamed hmethM hstM hkP hkPi hy (a := b) (cell := cellB) hcell
    (fun z h => by rw [h] at hobj; cases hobj) hselP hmethM habM hkP hkPi (g := g) hg (argsL := argsL) (rest := rest) (hlen _ hsigM) hstack hdg
  obtain ⟨v, B, X', hpost, hsteps⟩ := hK m meth c ⟨T.setVm vm₁, locs, cells, slots⟩ { g with stack := rest } (.invokevirtual index) mk (Value.ref b :: argsL).toArray X₁ hg hsize hdg hW (X₁.named hnamed) (hpre vm₁ X₁.warmed)
  exact ⟨v, vm₁, B, X₁.warmed, X', hpost, fun target h => hstep₁ _ fun acts => by rw [doInvoke_state]; exact hsteps.trans h⟩
abbrev vx_CVW (R : Room) (s : State) (args : Array Value) (own C : String) (index : Nat) (y : MethodName) (bytes : ByteArray) (maxL : Nat) (ret : Option FieldType) (hh : List (Nat × Nat × Nat × Nat)) (ws : List Cond) (rm : Room) (mc ms n : Nat) : Prop :=
  (rm.cells = mc ∧ rm.slots = ms ∧ rm.frames + 1 ≤ R.frames ∧ 8 + (maxL + 11) + rm.locals ≤ R.locals ∧ (∀ w ∈ ws, ∀ (a' : Array Value) (U : State), s.WarmedH U.vm → w.before a' U = true) ∧ Cond.codeWith y bytes maxL ret hh ∈ ws) ∧
  (Cond.codeWith y bytes maxL ret hh).before args s = true ∧ (Cond.initialized y.cls).before args s = true ∧ (y.cls ≠ "java/lang/invoke/MethodHandle" ∧ y.cls ≠ "java/lang/invoke/VarHandle") ∧
  (∀ sig, parseMethodDescriptor y.desc = some sig → n = sig.parameters.length) ∧ (Cond.methodLink own index y).before args s = true ∧ (Cond.instanceMethod y).before args s = true ∧ (Cond.selects C y y).before args s = true
theorem vx_cwVW {own C : String} {index maxL mc ms : Nat} {y : MethodName} {bytes : ByteArray} {ret : Option FieldType} {hh : List (Nat × Nat × Nat × Nat)} {Ts ws ws' : List Cond} {rm : Room} (n : Nat) (ht : ∀ w ∈ Ts, w.before args s = true) (hT : GoodIn Ts (wsV own index C y ws)) (hw : ws = Cond.codeWith y bytes maxL ret hh :: ws') (hrc : rm.cells = mc) (hrs : rm.slots = ms)
    (hd : y.cls = C ∧ y.cls ≠ "java/lang/invoke/MethodHandle" ∧ y.cls ≠ "java/lang/invoke/VarHandle" ∧ (parseMethodDescriptor y.desc).map (fun d => d.parameters.length) = some n) (hR : rm.frames + 1 ≤ R.frames ∧ 8 + (maxL + 11) + rm.locals ≤ R.locals) :
    vx_CVW R s args own C index y bytes maxL ret hh ws rm mc ms n := by
  obtain ⟨hC, hd⟩ := hd
  subst hC
  have ok : ∀ w ∈ wsV own index y.cls y ws, w.before args s = true := fun w h => ht w (hT w h).1
  have hG : GoodIn Ts ws := fun w h => hT w (by unfold wsV; exact List.mem_append_right _ h)
  have hc : Cond.codeWith y bytes maxL ret hh ∈ ws := by rw [hw]; exact List.mem_cons_self
  refine ⟨⟨hrc, hrs, hR.1, hR.2, pay_in ht hG, hc⟩, ht _ (hG _ hc).1, ok _ (by simp [wsV]), ⟨hd.1, hd.2.1⟩, fun sig h => ?_, ok _ (by simp [wsV]), ok _ (by simp [wsV]), ok _ (by simp [wsV])⟩
  have h2 := hd.2.2
  rw [h] at h2
  exact (Option.some.inj h2).symm
theorem vx_runVW {y : MethodName} {bytes cc : ByteArray} {maxL nL mc ms n index : Nat} {ret : Option FieldType} {hh : List (Nat × Nat × Nat × Nat)} {ws : List Cond} {rm : Room} {Pc : Array Value → State → Prop} {Qc : Array Value → State → Outcome → State → Prop} {free : Addr → Prop} {Ts : List Cond} {own C : String} {b : Addr} {As rest : List Value} {g : JFrame}
    (S : CallFix p m c cc nL s args Ts own) (hM : Met l y ws rm Pc Qc mc ms free) (cw : vx_CVW R s args own C index y bytes maxL ret hh ws rm mc ms n) (hp : PreV s H C b Pc As)
    (hg : g.method = m) (hn : As.length = n) (hsize : g.locals.size = nL) (hstack : g.stack = As.reverse ++ .ref b :: rest) (hW : 2 * g.monitorRoom + (rest.map fun v => v.category).sum ≤ 8) (hdg : decode cc g.pc = .ok (.invokevirtual index, 3)) (hf : cells + mc ≤ R.cells ∧ slots + ms ≤ R.slots) :
    va_Run p l e R s m args below meth c H locs cells slots mc ms g rest (Qc (Value.ref b :: As).toArray) free := by
  obtain ⟨⟨hrc, hrs, hfr, hlo, hws, hcw⟩, hcode, hini, hy, hlen, hl, hin, hse⟩ := cw
  have hK : Back l R p e below s args y 3 8 (PreOf R mc ms Pc) (PostOf Qc mc ms free) := va_backW (hh := hh) (bytes := bytes) (maxL := maxL) (ret := ret) hM hp.1 hrc hrs hfr hlo hws hcw (fun a' U hW => word_at hW (Or.inl (by first | rfl | simp [Cond.onTables, Cond.keeps, Cond.steady])) hini)
  obtain ⟨hx, hb, hml, ho, -⟩ := S
  obtain ⟨-, ⟨cellB, hcB, hoB, hclB⟩, hPc⟩ := hp
  intro T hT X
  obtain ⟨v, vm₁, ⟨U', l2, c2, s2⟩, hW₁, X', ⟨g', mk, t, L, e1, e2, hq, h1, hL, h2, h3⟩, st⟩ := vx_callVW X hx (C := C) (hh := hh) (bytes := bytes) (maxL := maxL) (ret := ret) ho hl hin hse hcode hy hK (by rw [hT]; exact hcB) hoB hclB hg (hsize.trans hml.symm) (argsL := As) (rest := rest) (fun sig h => hn.trans (hlen sig h)) hstack hW (by rw [hb]; exact hdg)
    (fun vm₁ hW₁ => ⟨hf.1, hf.2, hPc (T.setVm vm₁) hT hW₁⟩)
  dsimp only [Pt.U, Pt.locs, Pt.cells, Pt.slots] at X' e1 e2 h1 h2 h3 st
  subst h1; subst h2; subst h3
  exact ⟨v, (T.setVm vm₁).calling g' mk (Value.ref b :: As).toArray, t, U', L, hT, X', hL, e1, e2, hq, st⟩
section
variable {y : MethodName} {bytes cc : ByteArray} {maxL nL mc ms n index : Nat} {ret : Option FieldType} {ws : List Cond} {rm : Room} {Pc : Array Value → State → Prop} {Qc : Array Value → State → Outcome → State → Prop} {XC : String → State → State → Prop} {free : Addr → Prop} {Ts : List Cond} {own C : String} {b : Addr} {As rest : List Value} {g : JFrame}
theorem vx_runVX {hh : List (Nat × Nat × Nat × Nat)} (S : CallFix p m c cc nL s args Ts own) (hM : vx_Met l y ws rm Pc Qc XC mc ms free) (cw : vx_CVW R s args own C index y bytes maxL ret hh ws rm mc ms n) (hp : PreV s H C b Pc As)
    (hg : g.method = m) (hn : As.length = n) (hsize : g.locals.size = nL) (hstack : g.stack = As.reverse ++ .ref b :: rest) (hW : 2 * g.monitorRoom + (rest.map fun v => v.category).sum ≤ 8) (hdg : decode cc g.pc = .ok (.invokevirtual index, 3)) (hf : cells + mc ≤ R.cells ∧ slots + ms ≤ R.slots) :
    vx_Run p l e R s m args below meth c H locs cells slots mc ms g rest (Qc (Value.ref b :: As).toArray) XC free := by
  obtain ⟨⟨hrc, hrs, hfr, hlo, hws, hcw⟩, hcode, hini, hy, hlen, hl, hin, hse⟩ := cw
  have hK : vx_Back l R p e below s args y 3 8 (PreOf R mc ms Pc) (PostOf Qc mc ms free) (vx_Post XC mc ms free) := vx_backW (hh := hh) (bytes := bytes) (maxL := maxL) (ret := ret) hM hp.1 hrc hrs hfr hlo hws hcw (fun a' U hW => word_at hW (Or.inl (by first | rfl | simp [Cond.onTables, Cond.keeps, Cond.steady])) hini)
  obtain ⟨hx, hb, hml, ho, -⟩ := S
  obtain ⟨-, ⟨cellB, hcB, hoB, hclB⟩, hPc⟩ := hp
  intro T hT X
  rcases vx_callVX X hx (C := C) (hh := hh) (bytes := bytes) (maxL := maxL) (ret := ret) ho hl hin hse hcode hy hK (by rw [hT]; exact hcB) hoB hclB hg (hsize.trans hml.symm) (argsL := As) (rest := rest) (fun sig h => hn.trans (hlen sig h)) hstack hW (by rw [hb]; exact hdg)
    (fun vm₁ hW₁ => ⟨hf.1, hf.2, hPc (T.setVm vm₁) hT hW₁⟩) with ⟨v, vm₁, ⟨U', l2, c2, s2⟩, hW₁, X', ⟨g', mk, t, L, e1, e2, hq, h1, hL, h2, h3⟩, st⟩ | ⟨q, vm₁, ⟨U', l2, c2, s2⟩, hW₁, X', ⟨g', mk, t, L, E, ce, e1, e2, hq, hce, hcv, hcl, h1, hL, h2, h3⟩, st⟩
  · dsimp only [Pt.U, Pt.locs, Pt.cells, Pt.slots] at X' e1 e2 h1 h2 h3 st
    subst h1; subst h2; subst h3
    exact Or.inl ⟨v, (T.setVm vm₁).calling g' mk (Value.ref b :: As).toArray, t, U', L, hT, X', hL, e1, e2, hq, st⟩
  · dsimp only [Pt.U, Pt.locs, Pt.cells, Pt.slots] at X' e1 e2 h1 h2 h3 st hcl
    subst h1; subst h2; subst h3
    exact Or.inr ⟨q, (T.setVm vm₁).calling g' mk (Value.ref b :: As).toArray, t, U', L, E, ce, hT, X', hL, e1, e2, hq, hce, hcv, vx_cls hW₁ hcl, st⟩
theorem vx_runSX {hh : List (Nat × Nat × Nat × Nat)} (S : CallFix p m c cc nL s args Ts own) (hM : vx_Met l y ws rm Pc Qc XC mc ms free) (cw : vx_CSW R s args own index y bytes maxL ret hh ws rm mc ms n) (hp : PreS s H Pc As)
    (hg : g.method = m) (hn : As.length = n) (hsize : g.locals.size = nL) (hstack : g.stack = As.reverse ++ rest) (hW : 2 * g.monitorRoom + (rest.map fun v => v.category).sum ≤ 8) (hdg : decode cc g.pc = .ok (.invokestatic index, 3)) (hf : cells + mc ≤ R.cells ∧ slots + ms ≤ R.slots) :
    vx_Run p l e R s m args below meth c H locs cells slots mc ms g rest (Qc As.toArray) XC free := by
  obtain ⟨⟨hrc, hrs, hfr, hlo, hws, hcw⟩, hcode, hini, hy, hlen, hl, hstt⟩ := cw
  have hK : vx_Back l R p e below s args y 3 8 (PreOf R mc ms Pc) (PostOf Qc mc ms free) (vx_Post XC mc ms free) := vx_backW (hh := hh) (bytes := bytes) (maxL := maxL) (ret := ret) hM hp.1 hrc hrs hfr hlo hws hcw (fun a' U hW => word_at hW (Or.inl (by first | rfl | simp [Cond.onTables, Cond.keeps, Cond.steady])) hini)
  obtain ⟨hx, hb, hml, ho, -⟩ := S
  intro T hT X
  rcases vx_callSX X hx (hh := hh) (bytes := bytes) (maxL := maxL) (ret := ret) ho hl hstt hini hcode hy hK hg (hsize.trans hml.symm) (argsL := As) (rest := rest) (fun sig h => hn.trans (hlen sig h)) hstack hW (by rw [hb]; exact hdg)
    (fun vm₁ hW₁ => ⟨hf.1, hf.2, hp.2 (T.setVm vm₁) hT hW₁⟩) with ⟨v, vm₁, ⟨U', l2, c2, s2⟩, hW₁, X', ⟨g', mk, t, L, e1, e2, hq, h1, hL, h2, h3⟩, st⟩ | ⟨q, vm₁, ⟨U', l2, c2, s2⟩, hW₁, X', ⟨g', mk, t, L, E, ce, e1, e2, hq, hce, hcv, hcl, h1, hL, h2, h3⟩, st⟩
  · dsimp only [Pt.U, Pt.locs, Pt.cells, Pt.slots] at X' e1 e2 h1 h2 h3 st
    subst h1; subst h2; subst h3
    exact Or.inl ⟨v, (T.setVm vm₁).calling g' mk As.toArray, t, U', L, hT, X', hL, e1, e2, hq, st⟩
  · dsimp only [Pt.U, Pt.locs, Pt.cells, Pt.slots] at X' e1 e2 h1 h2 h3 st hcl
    subst h1; subst h2; subst h3
    exact Or.inr ⟨q, (T.setVm vm₁).calling g' mk As.toArray, t, U', L, E, ce, hT, X', hL, e1, e2, hq, hce, hcv, vx_cls hW₁ hcl, st⟩
end
end VXH
theorem vx_ofWH {l : Launch} {y : MethodName} {ws ws' : List Cond} {rm : Room} {Pc : Array Value → State → Prop} {Qc : Array Value → State → Outcome → State → Prop} {XC : String → State → State → Prop} {mc ms : Nat} {free : Addr → Prop} {cc : ByteArray} {maxL : Nat} {ret : Option FieldType} {hh : List (Nat × Nat × Nat × Nat)}
    (hy : plainName y.cls = true) (hw : ws = Cond.codeWith y cc maxL ret hh :: ws')
    (body : ∀ p e s m args below meth c s₁, BodyLoose p l y (headSpec ws rm) cc maxL ret e s m args below meth c s₁ → c.maxLocals = maxL → Pc args s →
      W p l e (headSpec ws rm).room s m args below meth c s.heap [] 0 0 (vx_MQ below Qc XC args s mc ms free) (entryFrame m args maxL)) : vx_Met l y ws rm Pc Qc XC mc ms free := by
  refine MetFree.of_bodyS (code := cc) (maxLocals := maxL) (ret := ret) hy ?_ ?_
  · intro args s m h hn
    obtain ⟨m9, meth, c, hn9, h1, h2, h3, h4, -, h5, h6, -⟩ := Cond.codeWith_spec (atoms_spec (ws := ws) h _ (by rw [hw]; exact List.mem_cons_self))
    cases hn.symm.trans hn9
    exact ⟨meth, c, h1, h2, h3, h4, h5, h6⟩
  · intro p e s m args below meth c s₁ B hml hP _
    have hh0 : s₁.heap = s.heap := by rw [B.state]; rfl
    obtain ⟨t, a1, o, b1, b2, b3⟩ := body p e s m args below meth c s₁ B hml hP s₁ hh0 (Stand.of_body B)
    exact ⟨t, o, a1, b1, b2, b3⟩
/-! ===== END ===== -/
/-! ===== BEGIN what the machine throws by itself, no traces kept ===== -/
section VXM
set_option maxHeartbeats 1000000 in
/-- the machine throws cls with the message text, no traces kept: from its note over the frame g to 'throwing' over the same frame (follows the proofs of Stand.vmThrowsMessage, Shelf/KitTracedVmS.lean, and Stand.throwsMessageColdBareV, StandMessageColdV.lean, without the step out of the frame) -/
theorem vx_vmAt {p : Program} {l : Launch} {e : Env} {R : Room} {s : State} {m₀ : MethodId} {args : Array Value} {below : List Frame} {meth : Method} {c : Code} {W : State} {locs : List Loc} {cells slots : Nat}
    (X : Stand p l e R s m₀ args below meth c W locs cells slots) (hexec : p.tables.exec = Jvm.exec) (htr : e.platform.stackTraces = false) {cls : String} {names : List String} {text : String}
    (hcls : Bundle.fit cls = true) (hnames : ∀ n ∈ names, Bundle.fit n = true) (hsoe : (cls == "java/lang/StackOverflowError") = false) (hoom : (cls == "java/lang/OutOfMemoryError") = false)
    (h : ∀ a ∈ Bundle.messageArmAtoms cls names, a.before args s = true)
    (hlocs : ∀ x ∈ locs, ∀ cell, s.heap[x.base]? = some cell → cell.vm.isStatics = false)
    (htext : (text == notModelled) = false) (hlimit : ¬ (stringBytes (stringToUtf16 text)).size > e.platform.arrayLengthLimit) (hheap : ¬ (stringBytes (stringToUtf16 text)).size * componentBytes .byte > e.platform.maxHeapBytes)
    {g : JFrame} (hg : g.method = m₀) (hsize : g.locals.size = c.maxLocals)
    (hRframes : names.length + 4 < R.frames) (hRlocals : 2 * g.monitorRoom + (g.stack.map fun v => v.category).sum + 10240 ≤ R.locals) (hshort : 13 * names.length + 55 ≤ 10240)
    (hRcells : cells + 3 ≤ R.cells) (hRslots : slots + ((stringBytes (stringToUtf16 text)).size + 4 + 6) ≤ R.slots) (hlocks : meth.locks = false) :
    ∃ (S : State) (q : Addr) (ce : Cell), (∀ target, Steps p.tables e below ((S.setTop g).pushFrame (.throwing q)) target → Steps p.tables e below ((W.setTop g).pushFrame (.throwNew cls (some text) none)) target) ∧
      Stand p l e R s m₀ args below meth c S locs (cells + 3) (slots + ((stringBytes (stringToUtf16 text)).size + 4 + 6)) ∧ S.heap[q]? = some ce ∧ s.vm.findClass cls = some ce.cls ∧ ce.vm = .none := by
  have howns : e.platform.frameOwnsMonitors = true := by rw [X.admits.platform]
  have hfin : e.platform.finalization = false := by rw [X.admits.platform]
  have hpl : e.platform.magicAccessors = ({} : Platform).magicAccessors := by rw [X.admits.platform]
  have a : ∀ x, x ∈ Bundle.messageArmAtoms cls names → x.holds args s none s [] = true := fun x hx => h x hx
  obtain ⟨T, Z0, L, -, Y⟩ := ThrowableC.of_atoms (args := args) howns hfin hpl (fun x hx => h x (by simp [Bundle.messageArmAtoms, hx]))
  obtain ⟨Z, M, LZ, LM, hnZ⟩ := Init0T.ofS_atoms (args := args) hpl L Y (fun x hx => h x (by simp [Bundle.messageArmAtoms, hx]))
  obtain ⟨P1, Ps, hlen, L1, hL, hP1m, hlink1, hlink⟩ := Bundle.chainS (args := args) hpl hnZ names cls hcls hnames (fun x hx => h x (by simp [Bundle.messageArmAtoms, hx]))
  obtain ⟨Zs, LZs, hn4, hfitv, hfitc⟩ := StringT.of_atoms (args := args) (fun x hx => h x (by simp [Bundle.messageArmAtoms, hx]))
  have hfound : s.vm.findClass cls = some P1.m.cls := findClass_of_methodNamed hP1m
  obtain ⟨c1, kX, hc1, hk, hord, -, -, hn6⟩ := Cond.instantiable_spec (a (.instantiable cls 6) (by simp [Bundle.messageArmAtoms]))
  cases Option.some.inj (hc1.symm.trans hfound)
  have hinit := Cond.initialized_spec hfound hk (a (.initialized cls) (by simp [Bundle.messageArmAtoms]))
  have hctor : kX.findMethod "<init>" "(Ljava/lang/String;)V" = some P1.m.idx := findMethod_of_methodNamed hP1m hk
  have hsel0 : selectMethod e.platform s.vm P1.m.cls T.fill0 = .method T.fill0 := by
    obtain ⟨c2, r2, m2, q1, q2, q3, q4, -⟩ := Cond.selects_spec (a (.selects cls Bundle.tFill0 Bundle.tFill0) (by simp [Bundle.messageArmAtoms]))
    cases Option.some.inj (q1.symm.trans hfound)
    cases Option.some.inj (q2.symm.trans (State.methodFound?_of_named Y.fill0 (by decide)))
    cases Option.some.inj (q3.symm.trans Y.fill0)
    rw [Launch.admits_selectMethod X.admits]; exact q4
  have hselF : selectMethod e.platform s.vm P1.m.cls T.fill = .method T.fill := by
    obtain ⟨c2, r2, m2, q1, q2, q3, q4, -⟩ := Cond.selects_spec (a (.selects cls Bundle.tFill Bundle.tFill) (by simp [Bundle.messageArmAtoms]))
    cases Option.some.inj (q1.symm.trans hfound)
    cases Option.some.inj (q2.symm.trans (State.methodFound?_of_named Y.fill (by decide)))
    cases Option.some.inj (q3.symm.trans Y.fill)
    rw [Launch.admits_selectMethod X.admits]; exact q4
  obtain ⟨cellS0, hcS0, hiss⟩ := Y.statics
  obtain ⟨u0, hu0⟩ := Cond.staticRefV Y.unassigned L.unassignedStatic L.statics hcS0 hiss (a (.isRef (.static Bundle.tN "UNASSIGNED_STACK" Bundle.steD)) (by simp [Bundle.messageArmAtoms]))
  obtain ⟨sen, hsen⟩ := Cond.staticRefV Y.sentinel L.sentinelStatic L.statics hcS0 hiss (a (.isRef (.static Bundle.tN "SUPPRESSED_SENTINEL" Bundle.listD)) (by simp [Bundle.messageArmAtoms]))
  obtain ⟨ci198, i198, fB, hk198, hg198, ha198, hsB, -, hnB, htB, hffB⟩ := Cond.ownField (t := .object "java/lang/Object") Y.found L.cls (by decide +kernel) (a (.fieldLink Bundle.tN 198 Bundle.tN "backtrace" "Ljava/lang/Object;") (by simp [Bundle.messageArmAtoms])) (a (.lays Bundle.tN Bundle.tN "backtrace" "Ljava/lang/Object;") (by simp [Bundle.messageArmAtoms])) e.platform hpl
  obtain ⟨cellS, hcS', heS, -, hkeep⟩ := X.same.2.2.2.2.2 T.aS cellS0 hcS0
  have hcellS : W.heap[T.aS]? = some cellS := hcS'
  have hout' : ∀ i, (⟨T.aS, i⟩ : Loc) ∉ locs := fun i hmem => by
    have := hlocs _ hmem cellS0 hcS0
    rw [hiss] at this; cases this
  have hknownS : cellS.vm ≠ .unknown := by
    rw [heS]; intro hu
    rw [show cellS0.vm = .unknown from hu] at hiss
    cases hiss
  have hvU : cellS.slots[T.fUnassigned.slot]? = some u0.v := by rw [hkeep _ (hout' _)]; exact hu0
  have hvSen : cellS.slots[T.fSentinel.slot]? = some sen.v := by rw [hkeep _ (hout' _)]; exact hsen
  obtain ⟨iM, hffM⟩ := Y.msg
  obtain ⟨tyC, dC, hdC, hdnC⟩ := Cond.laysAt hfound hk Y.cause (a (.lays cls Bundle.tN "cause" "Ljava/lang/Throwable;") (by simp [Bundle.messageArmAtoms]))
  obtain ⟨tyS, dS, hdS, hdnS⟩ := Cond.laysAt hfound hk Y.stack (a (.lays cls Bundle.tN "stackTrace" Bundle.steD) (by simp [Bundle.messageArmAtoms]))
  obtain ⟨tyP, dP, hdP, hdnP⟩ := Cond.laysAt hfound hk Y.supp (a (.lays cls Bundle.tN "suppressedExceptions" Bundle.listD) (by simp [Bundle.messageArmAtoms]))
  obtain ⟨tyM, dM, hdM, hdnM⟩ := Cond.laysAt hfound hk hffM (a (.lays cls Bundle.tN "detailMessage" "Ljava/lang/String;") (by simp [Bundle.messageArmAtoms]))
  obtain ⟨tyB, dB, hdB, hdnB⟩ := Cond.laysAt hfound hk hffB (a (.lays cls Bundle.tN "backtrace" "Ljava/lang/Object;") (by simp [Bundle.messageArmAtoms]))
  have bC := Cond.laysApart hdB hdC hdnB hdnC (by rw [hnB, Y.causeName]; decide)
  have bS := Cond.laysApart hdB hdS hdnB hdnS (by rw [hnB, Y.stackName]; decide)
  have bP := Cond.laysApart hdB hdP hdnB hdnP (by rw [hnB, Y.suppName]; decide)
  have hbk : ((preparedCellV T.toThrowableT (freshCell P1.m.cls kX) (W.heap.size + 2) u0 sen).withEntry W.cur).slots[fB.slot]? = some .null := by
    have := fresh_default (c := P1.m.cls) tyB
    rw [htB] at this
    simpa [preparedCellV, Cell.setSlot, Cell.withEntry, Array.getElem?_setIfInBounds, bC, bS, bP, bC.symm, bS.symm, bP.symm, defaultValue] using this
  have tkC := Takes.of_laid (v := .ref (W.heap.size + 2)) hk hord tyC (by rw [Y.causeType]; rfl)
  have tkS := Takes.of_laid (v := u0.v) hk hord tyS (by rw [Y.stackType]; exact fits_refV_array _ u0)
  have tkP := Takes.of_laid (v := sen.v) hk hord tyP (by rw [Y.suppType]; exact fits_refV_object _ sen)
  have tkM := Takes.of_laid (v := .ref (W.heap.size + 1)) hk hord tyM (by rw [Y.msgType]; rfl)
  have hskip : SkipFacts T e.platform s (fun u => u) u0 ((preparedCellV T.toThrowableT (freshCell P1.m.cls kX) (W.heap.size + 2) u0 sen).withEntry W.cur) := ⟨{ ci198 := ci198, i198 := i198, fBack := fB }, ⟨hk198, hg198, ha198, hsB⟩, hbk, fun _ _ => rfl⟩
  have h0 : At W g.method c below := by rw [hg]; exact X.here
  obtain ⟨hbeyond, hfreeW⟩ := X.vmMayThrow hsize (.throwNew cls (some text) none) (fun f hf => by cases hf) rfl hRlocals
  have hfr' : W.frames.length + Ps.length + 4 < (e.platform.stackLimits W.me).1 := by have := X.framesAbove hRframes; omega
  have hwd' : (stackUse (.java g :: W.frames.tail)).2 + 13 * Ps.length + 55 ≤ (e.platform.stackLimits W.me).2 := by have := X.stackAbove hsize (K := 13 * Ps.length + 55) (by omega); omega
  have hslots : W.slotsUsed + (stringBytes (stringToUtf16 text)).size + Zs.kS.instanceTypes.size + kX.instanceTypes.size ≤ e.platform.maxSlots := by
    have := X.slotsAbove hRslots
    rw [hn4, hn6]
    omega
  obtain ⟨vm', hW', st⟩ := Steps.vmThrowsMessageColdByV p (s₀ := s) (S := W) (g := g) h0 hexec T L Z LZ M LM X.warmed (t := W.cur) rfl Zs LZs P1 L1 Ps hL hlink1 hlink hsoe hoom hfound hk hinit hord hctor
    (Launch.admits_hotImplicitExceptions X.admits) hbeyond hfreeW htext hlimit hheap (X.cellsAbove hRcells) hslots (hfitv _) (hfitc _)
    (Nn := fun u => u) heapOnly_id (fun _ _ => rfl) (fun _ => rfl) (fun u x y => setCell_twice _ _ _ _) (fun _ => Nat.le_refl _) (cN := ((preparedCellV T.toThrowableT (freshCell P1.m.cls kX) (W.heap.size + 2) u0 sen).withEntry W.cur))
    hsel0 hcellS hknownS hvU tkS (fun _ hu => hu) (fun _ hu => hu) rfl rfl rfl (by simp [preparedCellV, Cell.setSlot, Cell.withEntry]) hskip (fun _ _ hA hW _ hroom _ hrest => L.nativeOff p htr hA hW hroom hrest) hselF hvSen tkC tkP tkM Y.objLocals rfl hfr' hwd'
  rw [plainBareV_eq T.toThrowableT (W.heap.size + 2) u0 sen (.ref (W.heap.size + 1)) W.cur rfl rfl] at st
  obtain ⟨-, -, w3, w4, -, -, -⟩ := withThrown_facts e.platform W Zs text P1.m.cls kX
  have X3 := ((X.pushed (bytesOf Zs.cB (stringToUtf16 text))).pushed (stringAt Zs.cS Zs.kS Zs.fv Zs.fc (stringToUtf16 text) W.heap.size)).pushed (freshCell P1.m.cls kX)
  rw [← withString_eq] at X3
  have X4 := X3.noted hW'
  have ha : (W.heap.size + 2) < ((withThrown W Zs text P1.m.cls kX).setVm vm').heap.size := by show _ < (withThrown W Zs text P1.m.cls kX).heap.size; rw [w3]; omega
  have hcell : ((withThrown W Zs text P1.m.cls kX).setVm vm').heap[(W.heap.size + 2)]? = some (freshCell P1.m.cls kX) := w4
  have X5 := ((((X4.stored hcell T.fCause.slot (.ref (W.heap.size + 2))).storedAgain ha T.fStack.slot u0.v).storedAgain ha T.fSupp.slot sen.v).storedAgain ha T.fStack.slot u0.v).storedAgain ha T.fMsg.slot (.ref (W.heap.size + 1))
  obtain ⟨g₁, hfrM⟩ := X5.frames_eq
  have hU : ((((withThrown W Zs text P1.m.cls kX).setVm vm').setCell (W.heap.size + 2) (plainBareV T.toThrowableT (freshCell P1.m.cls kX) (W.heap.size + 2) u0 sen (.ref (W.heap.size + 1)))).setTop g).pushFrame (.throwing (W.heap.size + 2)) = (((withThrown W Zs text P1.m.cls kX).setVm vm').setCell (W.heap.size + 2) (plainBareV T.toThrowableT (freshCell P1.m.cls kX) (W.heap.size + 2) u0 sen (.ref (W.heap.size + 1)))).setFrames (.throwing (W.heap.size + 2) :: .java g :: below) := by
    rw [State.pushFrame, State.frames_setTop _ hfrM, State.setTop_of_frames _ hfrM, State.setFrames_setFrames]
  have b1 : (bytesOf Zs.cB (stringToUtf16 text)).slots.size = (stringBytes (stringToUtf16 text)).size := by
    rw [(Cell.writeAll_facts _ _).2.2]; simp [bytes0]
  have b2 : (stringAt Zs.cS Zs.kS Zs.fv Zs.fc (stringToUtf16 text) W.heap.size).slots.size = 4 := by simp [string0, Cell.setSlot, hn4]
  have b3 : (freshCell P1.m.cls kX).slots.size = 6 := by simp [hn6]
  rw [b1, b2, b3] at X5
  have e9 : slots + (stringBytes (stringToUtf16 text)).size + 4 + 6 = slots + ((stringBytes (stringToUtf16 text)).size + 4 + 6) := by omega
  rw [e9] at X5
  simp only [List.append_assoc, List.cons_append, List.nil_append] at X5
  refine ⟨((withThrown W Zs text P1.m.cls kX).setVm vm').setCell (W.heap.size + 2) (plainBareV T.toThrowableT (freshCell P1.m.cls kX) (W.heap.size + 2) u0 sen (.ref (W.heap.size + 1))), W.heap.size + 2, _, fun target ht => st _ (by rw [X.tail, ← hU]; exact ht),
    X5.forget (fun y hy => ?_), heapAt_setCell_self _ ha, hfound, rfl⟩
  simp only [List.mem_cons, List.not_mem_nil, or_false] at hy
  have hge : s.heap.size ≤ W.heap.size := X.same.2.1
  rcases hy with rfl | rfl | rfl | rfl | rfl <;> exact Nat.le_trans hge (Nat.le_add_right _ 2)
set_option maxHeartbeats 1000000 in
/-- the machine throws NullPointerException, no traces kept: from its note over the frame g to 'throwing' over the same frame (follows the proof of Stand.vmThrowsNpe, Shelf42/KT2.lean; throwsNpeColdBareVAt, Shelf42/NT91.lean, called) -/
theorem vx_npeAt {p : Program} {l : Launch} {e : Env} {R : Room} {s : State} {m₀ : MethodId} {args : Array Value} {below : List Frame} {meth : Method} {c : Code} {W : State} {locs : List Loc} {cells slots : Nat}
    (X : Stand p l e R s m₀ args below meth c W locs cells slots) (hexec : p.tables.exec = Jvm.exec) (htr : e.platform.stackTraces = false) {n : Nat}
    (h : ∀ a ∈ Bundle.npeArmAtoms n, a.before args s = true)
    (hlocs : ∀ x ∈ locs, ∀ cell, s.heap[x.base]? = some cell → cell.vm.isStatics = false)
    {g : JFrame} (hg : g.method = m₀) (hsize : g.locals.size = c.maxLocals)
    (hRframes : 7 < R.frames) (hRlocals : 2 * g.monitorRoom + (g.stack.map fun v => v.category).sum + 10240 ≤ R.locals)
    (hRcells : cells + 1 ≤ R.cells) (hRslots : slots + n ≤ R.slots) (hlocks : meth.locks = false) :
    ∃ (S : State) (q : Addr) (ce : Cell), (∀ target, Steps p.tables e below ((S.setTop g).pushFrame (.throwing q)) target → Steps p.tables e below ((W.setTop g).pushFrame (.throwNew "java/lang/NullPointerException" none none)) target) ∧
      Stand p l e R s m₀ args below meth c S locs (cells + 1) (slots + n) ∧ S.heap[q]? = some ce ∧ s.vm.findClass "java/lang/NullPointerException" = some ce.cls ∧ ce.vm = .none := by
  have howns : e.platform.frameOwnsMonitors = true := by rw [X.admits.platform]
  have hfin : e.platform.finalization = false := by rw [X.admits.platform]
  have hpl : e.platform.magicAccessors = ({} : Platform).magicAccessors := by rw [X.admits.platform]
  have hpl2 : e.platform.arrayCloneIsPublic = true := by rw [X.admits.platform]
  have a' : ∀ x, x ∈ Bundle.npeArmAtoms n → x.holds args s none s [] = true := fun x hx => h x hx
  obtain ⟨T, Z, L, LZ, Y⟩ := ThrowableC.of_atoms (args := args) howns hfin hpl (fun x hx => h x (by simp [Bundle.npeArmAtoms, hx]))
  obtain ⟨N, LN, hcN, hnNF, hordN, hffS⟩ := NpeC.of_atoms (args := args) hpl hpl2 L Y (fun x hx => h x (by simp [Bundle.npeArmAtoms, hx]))
  obtain ⟨P1, L1, hP1m, hP1s⟩ := PassC.of_atoms (args := args) (s := s) hpl (X := Bundle.nN) (Y := Bundle.rN) (by decide) (by decide) LibCode.NullPointerException.Init0.at_0 LibCode.NullPointerException.Init0.at_1 LibCode.NullPointerException.Init0.at_4 (fun x hx => h x (by simp [Bundle.npeArmAtoms, hx]))
  obtain ⟨PR, LR, hPRm, hPRs⟩ := PassC.of_atoms (args := args) (s := s) hpl (X := Bundle.rN) (Y := Bundle.eN) (by decide) (by decide) LibCode.RuntimeException.Init0.at_0 LibCode.RuntimeException.Init0.at_1 LibCode.RuntimeException.Init0.at_4 (fun x hx => h x (by simp [Bundle.npeArmAtoms, hx]))
  obtain ⟨PE, LEx, hPEm, hPEs⟩ := PassC.of_atoms (args := args) (s := s) hpl (X := Bundle.eN) (Y := Bundle.tN) (by decide) (by decide) LibCode.Exception.Init0.at_0 LibCode.Exception.Init0.at_1 LibCode.Exception.Init0.at_4 (fun x hx => h x (by simp [Bundle.npeArmAtoms, hx]))
  have hfound : s.vm.findClass Bundle.nN = some P1.m.cls := findClass_of_methodNamed hP1m
  have ecls : N.cN = P1.m.cls := Option.some.inj (hcN.symm.trans hfound)
  have hk : s.vm.classes[P1.m.cls]? = some N.kN := by rw [← ecls]; exact LN.cls
  have hinit := Cond.initialized_spec hfound hk (a' (.initialized Bundle.nN) (by simp [Bundle.npeArmAtoms]))
  have hctor : N.kN.findMethod "<init>" "()V" = some P1.m.idx := findMethod_of_methodNamed hP1m hk
  obtain ⟨c1, k1, hc1, hk1, -, -, -, hn⟩ := Cond.instantiable_spec (a' (.instantiable Bundle.nN n) (by simp [Bundle.npeArmAtoms]))
  cases Option.some.inj (hc1.symm.trans hfound)
  cases Option.some.inj (hk1.symm.trans hk)
  have hfsz : (freshCell P1.m.cls N.kN).slots.size = n := by simp [hn]
  have hlink1 : P1.sup = PR.m := Option.some.inj (hP1s.symm.trans hPRm)
  have hlinkR : PR.sup = PE.m := Option.some.inj (hPRs.symm.trans hPEm)
  have hlinkE : PE.sup = Z.m T.toThrowableT := Option.some.inj (hPEs.symm.trans Y.init0)
  have hLs : ∀ P, P ∈ [PR, PE] → P.Links0 e.platform s := fun P hP => by
    simp only [List.mem_cons, List.not_mem_nil, or_false] at hP
    rcases hP with rfl | rfl
    · exact LR
    · exact LEx
  have hsel0 : selectMethod e.platform s.vm P1.m.cls T.fill0 = .method T.fill0 := by
    obtain ⟨c2, r2, m2, q1, q2, q3, q4, -⟩ := Cond.selects_spec (a' (.selects Bundle.nN Bundle.tFill0 Bundle.tFill0) (by simp [Bundle.npeArmAtoms]))
    cases Option.some.inj (q1.symm.trans hfound)
    cases Option.some.inj (q2.symm.trans (State.methodFound?_of_named Y.fill0 (by decide)))
    cases Option.some.inj (q3.symm.trans Y.fill0)
    rw [Launch.admits_selectMethod X.admits]; exact q4
  have hselF : selectMethod e.platform s.vm P1.m.cls T.fill = .method N.fill := by
    obtain ⟨c2, r2, m2, q1, q2, q3, q4, -⟩ := Cond.selects_spec (a' (.selects Bundle.nN Bundle.tFill Bundle.nFill) (by simp [Bundle.npeArmAtoms]))
    cases Option.some.inj (q1.symm.trans hfound)
    cases Option.some.inj (q2.symm.trans (State.methodFound?_of_named Y.fill (by decide)))
    cases Option.some.inj (q3.symm.trans hnNF)
    rw [Launch.admits_selectMethod X.admits]; exact q4
  obtain ⟨cellS0, hcS0, hiss⟩ := Y.statics
  obtain ⟨u0, hu0⟩ := Cond.staticRefV Y.unassigned L.unassignedStatic L.statics hcS0 hiss (a' (.isRef (.static Bundle.tN "UNASSIGNED_STACK" Bundle.steD)) (by simp [Bundle.npeArmAtoms]))
  obtain ⟨sen, hsen⟩ := Cond.staticRefV Y.sentinel L.sentinelStatic L.statics hcS0 hiss (a' (.isRef (.static Bundle.tN "SUPPRESSED_SENTINEL" Bundle.listD)) (by simp [Bundle.npeArmAtoms]))
  obtain ⟨ci198, i198, fB, hk198, hg198, ha198, hsB, -, hnB, htB, hffB⟩ := Cond.ownField (t := .object "java/lang/Object") Y.found L.cls (by decide +kernel) (a' (.fieldLink Bundle.tN 198 Bundle.tN "backtrace" Bundle.objD) (by simp [Bundle.npeArmAtoms])) (a' (.lays Bundle.tN Bundle.tN "backtrace" Bundle.objD) (by simp [Bundle.npeArmAtoms])) e.platform hpl
  obtain ⟨cellS, hcS', heS, -, hkeep⟩ := X.same.2.2.2.2.2 T.aS cellS0 hcS0
  have hcellS : W.heap[T.aS]? = some cellS := hcS'
  have hout' : ∀ i, (⟨T.aS, i⟩ : Loc) ∉ locs := fun i hmem => by
    have := hlocs _ hmem cellS0 hcS0
    rw [hiss] at this; cases this
  have hknownS : cellS.vm ≠ .unknown := by
    rw [heS]; intro hu
    rw [show cellS0.vm = .unknown from hu] at hiss
    cases hiss
  have hvU : cellS.slots[T.fUnassigned.slot]? = some u0.v := by rw [hkeep _ (hout' _)]; exact hu0
  have hvSen : cellS.slots[T.fSentinel.slot]? = some sen.v := by rw [hkeep _ (hout' _)]; exact hsen
  obtain ⟨tyC, dC, hdC, hdnC⟩ := Cond.laysAt hfound hk Y.cause (a' (.lays Bundle.nN Bundle.tN "cause" "Ljava/lang/Throwable;") (by simp [Bundle.npeArmAtoms]))
  obtain ⟨tyS, dS, hdS, hdnS⟩ := Cond.laysAt hfound hk Y.stack (a' (.lays Bundle.nN Bundle.tN "stackTrace" Bundle.steD) (by simp [Bundle.npeArmAtoms]))
  obtain ⟨tyP, dP, hdP, hdnP⟩ := Cond.laysAt hfound hk Y.supp (a' (.lays Bundle.nN Bundle.tN "suppressedExceptions" Bundle.listD) (by simp [Bundle.npeArmAtoms]))
  obtain ⟨tyX, dX, hdX, hdnX⟩ := Cond.laysAt hfound hk hffS (a' (.lays Bundle.nN Bundle.nN "extendedMessageState" "I") (by simp [Bundle.npeArmAtoms, Bundle.npeAtoms]))
  obtain ⟨hnX, htX⟩ := State.fieldFound?_type hffS (t := .int) (by decide +kernel)
  have xC := Cond.laysApart hdC hdX hdnC hdnX (by rw [hnX, Y.causeName]; decide)
  have xS := Cond.laysApart hdS hdX hdnS hdnX (by rw [hnX, Y.stackName]; decide)
  have xP := Cond.laysApart hdP hdX hdnP hdnX (by rw [hnX, Y.suppName]; decide)
  have hv0 : (freshCell P1.m.cls N.kN).slots[N.fState.slot]? = some (.int 0) := by
    have := fresh_default (c := P1.m.cls) tyX
    rw [htX] at this; exact this
  obtain ⟨tyB, dB, hdB, hdnB⟩ := Cond.laysAt hfound hk hffB (a' (.lays Bundle.nN Bundle.tN "backtrace" Bundle.objD) (by simp [Bundle.npeArmAtoms]))
  have bC := Cond.laysApart hdB hdC hdnB hdnC (by rw [hnB, Y.causeName]; decide)
  have bS := Cond.laysApart hdB hdS hdnB hdnS (by rw [hnB, Y.stackName]; decide)
  have bP := Cond.laysApart hdB hdP hdnB hdnP (by rw [hnB, Y.suppName]; decide)
  have bX := Cond.laysApart hdB hdX hdnB hdnX (by rw [hnB, hnX]; decide)
  have hbk : ((npeCell N.toNpeT (preparedCellV T.toThrowableT (freshCell P1.m.cls N.kN) W.heap.size u0 sen) W.cur).withEntry W.cur).slots[fB.slot]? = some .null := by
    have := fresh_default (c := P1.m.cls) tyB
    rw [htB] at this
    simpa [npeCell, preparedCellV, Cell.setSlot, Cell.withEntry, Array.getElem?_setIfInBounds, bC, bS, bP, bX, bC.symm, bS.symm, bP.symm, bX.symm, defaultValue] using this
  have tkC := Takes.of_laid (v := .ref W.heap.size) hk hordN tyC (by rw [Y.causeType]; rfl)
  have tkS := Takes.of_laid (v := u0.v) hk hordN tyS (by rw [Y.stackType]; exact fits_refV_array _ u0)
  have tkP := Takes.of_laid (v := sen.v) hk hordN tyP (by rw [Y.suppType]; exact fits_refV_object _ sen)
  have tkX := Takes.of_laid (v := .int 1) hk hordN tyX (by rw [htX]; rfl)
  have hskip : SkipFacts T e.platform s (fun u => u) u0 ((npeCell N.toNpeT (preparedCellV T.toThrowableT (freshCell P1.m.cls N.kN) W.heap.size u0 sen) W.cur).withEntry W.cur) := ⟨{ ci198 := ci198, i198 := i198, fBack := fB }, ⟨hk198, hg198, ha198, hsB⟩, hbk, fun _ _ => rfl⟩
  obtain ⟨vm', X3, st, -⟩ := X.throwsNpeColdBareVAt hexec hg hsize T L Z LZ N LN P1 L1 [PR, PE] hLs hlink1 ⟨hlinkR, hlinkE, trivial⟩ hfound hk hinit hordN hctor hsel0 hselF hcellS hknownS hvU hvSen
    hv0 xC xS xP tkC tkS tkP tkX Y.objLocals hskip (fun _ _ hA hW _ hroom _ hrest => L.nativeOff p htr hA hW hroom hrest) (by simpa using hRframes) hRlocals (by simp) hRcells (by rw [hn]; exact hRslots)
  have hlt : W.heap.size < ((W.pushCell (freshCell P1.m.cls N.kN)).setVm vm').heap.size := by
    show W.heap.size < (W.pushCell (freshCell P1.m.cls N.kN)).heap.size
    rw [State.heap_size_pushCell]; omega
  rw [hfsz] at X3
  obtain ⟨g₁, hfrM⟩ := X3.frames_eq
  have hU : ((((W.pushCell (freshCell P1.m.cls N.kN)).setVm vm').setCell W.heap.size (npeBareV T.toThrowableT N.toNpeT (freshCell P1.m.cls N.kN) W.heap.size u0 sen)).setTop g).pushFrame (.throwing W.heap.size) = (((W.pushCell (freshCell P1.m.cls N.kN)).setVm vm').setCell W.heap.size (npeBareV T.toThrowableT N.toNpeT (freshCell P1.m.cls N.kN) W.heap.size u0 sen)).setFrames (.throwing W.heap.size :: .java g :: below) := by
    rw [State.pushFrame, State.frames_setTop _ hfrM, State.setTop_of_frames _ hfrM, State.setFrames_setFrames]
  refine ⟨_, W.heap.size, _, fun target ht => st.trans (by rw [← hU]; exact ht), X3.forget (fun y hy => ?_), heapAt_setCell_self _ hlt, hfound, rfl⟩
  simp only [List.mem_cons, List.not_mem_nil, or_false] at hy
  have hge : s.heap.size ≤ W.heap.size := X.same.2.1
  rcases hy with rfl | rfl | rfl | rfl | rfl <;> exact hge
/-- the words of a machine's NullPointerException, but the four that speak of the heap -/
def vx_atN (n : Nat) : List Cond := (Bundle.npeArmAtoms n).filter vx_no
/-- the words of a machine's throw with a message, but the four that speak of the heap -/
def vx_atM (X : String) (names : List String) : List Cond := (Bundle.messageArmAtoms X names).filter vx_no
section
variable {p : Program} {l : Launch} {e : Env} {R : Room} {s : State} {m : MethodId} {args : Array Value} {below : List Frame} {meth : Method} {c : Code} {H : Heap} {locs : List Loc} {cells slots : Nat}
/-- a frame seen from a rebased start, seen from the first start again -/
theorem vx_back9 {T S : State} {R' : Room} {k n : Nat} (X : Stand p l e R s m args below meth c T locs cells slots) (Y : Stand p l e R' ((T.setVm s.vm).setFrames (.invoking m args :: below)) m args below meth c T [] 0 0) (Z : Stand p l e R' ((T.setVm s.vm).setFrames (.invoking m args :: below)) m args below meth c S [] k n) :
    Stand p l e R s m args below meth c S locs (cells + k) (slots + n) := by
  have hW0 : s.WarmedH ((T.setVm s.vm).setFrames (.invoking m args :: below)).vm := State.WarmedH.refl s
  refine { admits := X.admits, cas := X.cas, clock := X.clock, frames := X.frames, room := X.room, hears := X.hears, method := X.method, code := X.code, here := Z.here, tail := Z.tail, warmed := State.WarmedH.trans hW0 Z.warmed, limits := Z.limits.trans (Y.limits.symm.trans X.limits), bytes := Z.bytes.trans (Y.bytes.symm.trans X.bytes), same := ?_ }
  obtain ⟨e1, e2⟩ := Z.same
  rw [State.setFrames_setFrames] at e1
  have h2 : (T.setVm s.vm).sameButNew (S.setVm s.vm) [] k n := ⟨e1, e2⟩
  have h3 := X.same.trans h2
  rw [List.append_nil] at h3
  exact h3
/-- from the machine's note that E is thrown here with this text -/
def vx_Note (p : Program) (l : Launch) (e : Env) (R : Room) (s : State) (m : MethodId) (args : Array Value) (below : List Frame) (meth : Method) (c : Code) (H : Heap) (locs : List Loc) (cells slots : Nat) (Q : State → Prop) (g : JFrame) (E text : String) : Prop :=
  ∀ T : State, T.heap = H → Stand p l e R s m args below meth c T locs cells slots → ∃ t, Steps p.tables e below ((T.setTop g).pushFrame (.throwNew E (some text) none)) t ∧ Q t
theorem vx_vm {pc : Nat} {ls : Array Slot} {rest : List Value} {Q : State → Prop} (hexec : p.tables.exec = Jvm.exec) (hl : l.stackTraces = false) {cls text : String} {names : List String} {nb : Nat} {A : Nat → Prop}
    (hcls : Bundle.fit cls = true) (hnames : ∀ n ∈ names, Bundle.fit n = true) (hsoe : (cls == "java/lang/StackOverflowError") = false) (hoom : (cls == "java/lang/OutOfMemoryError") = false)
    (hat : ∀ w ∈ vx_atM cls names, w.before args s = true) (hgood : ∀ w ∈ vx_atM cls names, vx_ot w = true)
    (hU : vx_Zq Bundle.tN "UNASSIGNED_STACK" Bundle.steD A s s.heap) (hN : vx_Zq Bundle.tN "SUPPRESSED_SENTINEL" Bundle.listD A s s.heap) (hS : va_S A s.heap H locs) (hsize : ls.size = c.maxLocals)
    (htext : (text == notModelled) = false) (hnb : (stringBytes (stringToUtf16 text)).size ≤ nb) (hnb1 : nb ≤ 1000)
    (hRframes : names.length + 4 < R.frames) (hRlocals : (rest.map fun v => v.category).sum + 10240 ≤ R.locals) (hshort : 13 * names.length + 55 ≤ 10240) (hRcells : cells + 3 ≤ R.cells) (hRslots : slots + (nb + 10) ≤ R.slots) (hlocks : meth.locks = false)
    (k : ∀ (H1 : Heap) (q9 : Addr) (ce : Cell), H.size ≤ H1.size → (∀ q : Nat, q < H.size → H1[q]? = H[q]?) → va_S A s.heap H1 locs → H1[q9]? = some ce → ce.vm = .none → s.vm.findClass cls = some ce.cls → vx_W p l e R s m args below meth c H1 locs (cells + 3) (slots + (nb + 10)) Q (F0 m pc ls rest) q9) :
    vx_Note p l e R s m args below meth c H locs cells slots Q (F0 m pc ls rest) cls text := by
  intro T hT X
  have htr : e.platform.stackTraces = false := (show e.platform.stackTraces = l.stackTraces by rw [X.admits.platform]).trans hl
  have Y := vx_rebase X (R' := { frames := R.frames, locals := R.locals, cells := 3, slots := nb + 10 }) (Nat.le_refl _) (Nat.le_refl _) hRcells hRslots
  have hhp : ((T.setVm s.vm).setFrames (.invoking m args :: below)).heap = H := hT
  have hW0 : s.WarmedH ((T.setVm s.vm).setFrames (.invoking m args :: below)).vm := State.WarmedH.refl s
  have hat' : ∀ w ∈ vx_atM cls names, w.before args ((T.setVm s.vm).setFrames (.invoking m args :: below)) = true := fun w hw => vx_ot_at hW0 rfl (hgood w hw) (hat w hw)
  have hU' : vx_Zq Bundle.tN "UNASSIGNED_STACK" Bundle.steD A ((T.setVm s.vm).setFrames (.invoking m args :: below)) ((T.setVm s.vm).setFrames (.invoking m args :: below)).heap := by rw [hhp]; exact vx_Zq.moved hW0.alike (hU.kept hS.2.1)
  have hN' : vx_Zq Bundle.tN "SUPPRESSED_SENTINEL" Bundle.listD A ((T.setVm s.vm).setFrames (.invoking m args :: below)) ((T.setVm s.vm).setFrames (.invoking m args :: below)).heap := by rw [hhp]; exact vx_Zq.moved hW0.alike (hN.kept hS.2.1)
  obtain ⟨S, q, ce, st, Z, hce, hcl', hv⟩ := vx_vmAt Y hexec htr (cls := cls) (names := names) (text := text) hcls hnames hsoe hoom (vx_own hat' (vx_isRefq hU'.1) (vx_isRefq hN'.1) hU'.2.word hN'.2.word) (fun x hx => nomatch hx) htext
    (by rw [Launch.admits_arrayLengthLimit X.admits]; omega) (by rw [Launch.admits_maxHeapBytes X.admits]; simp only [componentBytes]; omega)
    (g := F0 m pc ls rest) rfl hsize hRframes (by show 2 * 0 + (rest.map fun v => v.category).sum + 10240 ≤ R.locals; omega) hshort (by show 0 + 3 ≤ 3; omega) (by show 0 + (_ + 4 + 6) ≤ nb + 10; omega) hlocks
  obtain ⟨f1, f2⟩ := vx_frame Z.same
  have f1' : H.size ≤ S.heap.size := by rw [← hT]; exact f1
  have f2' : ∀ q : Nat, q < H.size → S.heap[q]? = H[q]? := fun q hq => by
    rw [← hT]
    exact f2 q (by rw [← hT] at hq; exact hq) (fun z hz => nomatch hz)
  have X5 := vx_back9 X Y Z
  have X6 : Stand p l e R s m args below meth c S locs (cells + 3) (slots + (nb + 10)) := { X5 with same := X5.same.mono (by omega) (by omega) }
  obtain ⟨t, a1, b1⟩ := k S.heap q ce f1' f2' ⟨Nat.le_trans hS.1 f1', fun q h1 h2 => (f2' q (Nat.lt_of_lt_of_le h1 hS.1)).trans (hS.2.1 q h1 h2), hS.2.2⟩ hce hv hcl' S rfl X6
  exact ⟨t, st t a1, b1⟩
/-- from the machine's note that NullPointerException is thrown here -/
def vx_NoteN (p : Program) (l : Launch) (e : Env) (R : Room) (s : State) (m : MethodId) (args : Array Value) (below : List Frame) (meth : Method) (c : Code) (H : Heap) (locs : List Loc) (cells slots : Nat) (Q : State → Prop) (g : JFrame) : Prop :=
  ∀ T : State, T.heap = H → Stand p l e R s m args below meth c T locs cells slots → ∃ t, Steps p.tables e below ((T.setTop g).pushFrame (.throwNew "java/lang/NullPointerException" none none)) t ∧ Q t
theorem vx_npe {pc : Nat} {ls : Array Slot} {rest : List Value} {Q : State → Prop} (hexec : p.tables.exec = Jvm.exec) (hl : l.stackTraces = false) {nb : Nat} {A : Nat → Prop}
    (hat : ∀ w ∈ vx_atN nb, w.before args s = true) (hgood : ∀ w ∈ vx_atN nb, vx_ot w = true)
    (hU : vx_Zq Bundle.tN "UNASSIGNED_STACK" Bundle.steD A s s.heap) (hN : vx_Zq Bundle.tN "SUPPRESSED_SENTINEL" Bundle.listD A s s.heap) (hS : va_S A s.heap H locs) (hsize : ls.size = c.maxLocals)
    (hRframes : 7 < R.frames) (hRlocals : (rest.map fun v => v.category).sum + 10240 ≤ R.locals) (hRcells : cells + 1 ≤ R.cells) (hRslots : slots + nb ≤ R.slots) (hlocks : meth.locks = false)
    (k : ∀ (H1 : Heap) (q9 : Addr) (ce : Cell), H.size ≤ H1.size → (∀ q : Nat, q < H.size → H1[q]? = H[q]?) → va_S A s.heap H1 locs → H1[q9]? = some ce → ce.vm = .none → s.vm.findClass "java/lang/NullPointerException" = some ce.cls → vx_W p l e R s m args below meth c H1 locs (cells + 1) (slots + nb) Q (F0 m pc ls rest) q9) :
    vx_NoteN p l e R s m args below meth c H locs cells slots Q (F0 m pc ls rest) := by
  intro T hT X
  have htr : e.platform.stackTraces = false := (show e.platform.stackTraces = l.stackTraces by rw [X.admits.platform]).trans hl
  have Y := vx_rebase X (R' := { frames := R.frames, locals := R.locals, cells := 1, slots := nb }) (Nat.le_refl _) (Nat.le_refl _) hRcells hRslots
  have hhp : ((T.setVm s.vm).setFrames (.invoking m args :: below)).heap = H := hT
  have hW0 : s.WarmedH ((T.setVm s.vm).setFrames (.invoking m args :: below)).vm := State.WarmedH.refl s
  have hat' : ∀ w ∈ vx_atN nb, w.before args ((T.setVm s.vm).setFrames (.invoking m args :: below)) = true := fun w hw => vx_ot_at hW0 rfl (hgood w hw) (hat w hw)
  have hU' : vx_Zq Bundle.tN "UNASSIGNED_STACK" Bundle.steD A ((T.setVm s.vm).setFrames (.invoking m args :: below)) ((T.setVm s.vm).setFrames (.invoking m args :: below)).heap := by rw [hhp]; exact vx_Zq.moved hW0.alike (hU.kept hS.2.1)
  have hN' : vx_Zq Bundle.tN "SUPPRESSED_SENTINEL" Bundle.listD A ((T.setVm s.vm).setFrames (.invoking m args :: below)) ((T.setVm s.vm).setFrames (.invoking m args :: below)).heap := by rw [hhp]; exact vx_Zq.moved hW0.alike (hN.kept hS.2.1)
  obtain ⟨S, q, ce, st, Z, hce, hcl', hv⟩ := vx_npeAt Y hexec htr (n := nb) (vx_own hat' (vx_isRefq hU'.1) (vx_isRefq hN'.1) hU'.2.word hN'.2.word) (fun x hx => nomatch hx)
    (g := F0 m pc ls rest) rfl hsize hRframes (by show 2 * 0 + (rest.map fun v => v.category).sum + 10240 ≤ R.locals; omega) (by show 0 + 1 ≤ 1; omega) (by show 0 + nb ≤ nb; omega) hlocks
  obtain ⟨f1, f2⟩ := vx_frame Z.same
  have f1' : H.size ≤ S.heap.size := by rw [← hT]; exact f1
  have f2' : ∀ q : Nat, q < H.size → S.heap[q]? = H[q]? := fun q hq => by
    rw [← hT]
    exact f2 q (by rw [← hT] at hq; exact hq) (fun z hz => nomatch hz)
  have X5 := vx_back9 X Y Z
  have X6 : Stand p l e R s m args below meth c S locs (cells + 1) (slots + nb) := { X5 with same := X5.same.mono (by omega) (by omega) }
  obtain ⟨t, a1, b1⟩ := k S.heap q ce f1' f2' ⟨Nat.le_trans hS.1 f1', fun q h1 h2 => (f2' q (Nat.lt_of_lt_of_le h1 hS.1)).trans (hS.2.1 q h1 h2), hS.2.2⟩ hce hv hcl' S rfl X6
  exact ⟨t, st t a1, b1⟩
variable {Q : State → Prop} {cc : ByteArray} {pc : Nat} {ls : Array Slot} {rest : List Value}
theorem vx_idivZ (hexec : p.tables.exec = Jvm.exec) (hb : c.code = cc) {a b : Int32} (h0 : b = 0) (d : decode cc pc = .ok (.idiv, 1)) (k : vx_Note p l e R s m args below meth c H locs cells slots Q (F0 m pc ls rest) "java/lang/ArithmeticException" "/ by zero") :
    W p l e R s m args below meth c H locs cells slots Q (F0 m pc ls (.int b :: .int a :: rest)) := by
  intro T hT X
  obtain ⟨t, st, q⟩ := k T hT X
  exact ⟨t, X.idivZero hexec (g := F0 m pc ls (.int b :: .int a :: rest)) rfl (a := a) (rest := rest) (by rw [h0]) (by rw [hb]; exact d) t st, q⟩
theorem vx_iremZ (hexec : p.tables.exec = Jvm.exec) (hb : c.code = cc) {a b : Int32} (h0 : b = 0) (d : decode cc pc = .ok (.irem, 1)) (k : vx_Note p l e R s m args below meth c H locs cells slots Q (F0 m pc ls rest) "java/lang/ArithmeticException" "/ by zero") :
    W p l e R s m args below meth c H locs cells slots Q (F0 m pc ls (.int b :: .int a :: rest)) := by
  intro T hT X
  obtain ⟨t, st, q⟩ := k T hT X
  exact ⟨t, X.iremZero hexec (g := F0 m pc ls (.int b :: .int a :: rest)) rfl (a := a) (rest := rest) (by rw [h0]) (by rw [hb]; exact d) t st, q⟩
theorem vx_ldivZ (hexec : p.tables.exec = Jvm.exec) (hb : c.code = cc) {a b : Int64} (h0 : b = 0) (d : decode cc pc = .ok (.ldiv, 1)) (k : vx_Note p l e R s m args below meth c H locs cells slots Q (F0 m pc ls rest) "java/lang/ArithmeticException" "/ by zero") :
    W p l e R s m args below meth c H locs cells slots Q (F0 m pc ls (.long b :: .long a :: rest)) := by
  intro T hT X
  obtain ⟨t, st, q⟩ := k T hT X
  exact ⟨t, X.ldivZero hexec (g := F0 m pc ls (.long b :: .long a :: rest)) rfl (a := a) (rest := rest) (by rw [h0]) (by rw [hb]; exact d) t st, q⟩
theorem vx_lremZ (hexec : p.tables.exec = Jvm.exec) (hb : c.code = cc) {a b : Int64} (h0 : b = 0) (d : decode cc pc = .ok (.lrem, 1)) (k : vx_Note p l e R s m args below meth c H locs cells slots Q (F0 m pc ls rest) "java/lang/ArithmeticException" "/ by zero") :
    W p l e R s m args below meth c H locs cells slots Q (F0 m pc ls (.long b :: .long a :: rest)) := by
  intro T hT X
  obtain ⟨t, st, q⟩ := k T hT X
  exact ⟨t, X.lremZero hexec (g := F0 m pc ls (.long b :: .long a :: rest)) rfl (a := a) (rest := rest) (by rw [h0]) (by rw [hb]; exact d) t st, q⟩
theorem vx_ialdZ {D : va_G} {cl : List vw_C} {ws : va_W} {tys : List (ClassId × FieldType)} {a : Nat} (hexec : p.tables.exec = Jvm.exec) (hb : c.code = cc) (hK : va_K D cl tys s) (hP : va_P D cl ws H) (q0 t0 : Nat) {cA : ClassId} {n : Nat} {f : Nat → Int32} (ha : ws[q0]? = some (a, .inl (cA, n, .inl f))) (ht : tys[t0]? = some (cA, .int)) {i : Int32} (hout : ¬ vp_in i n) (hdg : decode cc pc = .ok (.iaload, 1))
    (k : ∀ tx : String, tx = (toString "Index " ++ toString i ++ toString " out of bounds for length " ++ toString n : String) → vx_Note p l e R s m args below meth c H locs cells slots Q (F0 m pc ls rest) "java/lang/ArrayIndexOutOfBoundsException" tx) : W p l e R s m args below meth c H locs cells slots Q (F0 m pc ls (.int i :: .ref a :: rest)) := by
  intro T hT X
  obtain ⟨t, st, q⟩ := k _ rfl T hT X
  refine ⟨t, ?_, q⟩
  have h1 := X.ialoadOut hexec (by rw [hT]; exact hP q0 _ ha) ((hK.2 t0 _ ht).1 n (fun j => .int (f j))) (j := i) (by show (i < 0 ∨ (arrV _ _ _).slots.size ≤ _); rw [arrV_size]; exact Classical.byContradiction hout) (g := F0 m pc ls (.int i :: .ref a :: rest)) rfl (rest := rest) rfl (by rw [hb]; exact hdg) t
  simp only [arrV_size] at h1
  exact h1 st
theorem vx_iastZ {D : va_G} {cl : List vw_C} {ws : va_W} {tys : List (ClassId × FieldType)} {a : Nat} (hexec : p.tables.exec = Jvm.exec) (hb : c.code = cc) (hK : va_K D cl tys s) (hP : va_P D cl ws H) (q0 t0 : Nat) {cA : ClassId} {n : Nat} {f : Nat → Int32} (ha : ws[q0]? = some (a, .inl (cA, n, .inl f))) (ht : tys[t0]? = some (cA, .int)) {i : Int32} {x : Int32} (hout : ¬ vp_in i n) (hdg : decode cc pc = .ok (.iastore, 1))
    (k : ∀ tx : String, tx = (toString "Index " ++ toString i ++ toString " out of bounds for length " ++ toString n : String) → vx_Note p l e R s m args below meth c H locs cells slots Q (F0 m pc ls rest) "java/lang/ArrayIndexOutOfBoundsException" tx) : W p l e R s m args below meth c H locs cells slots Q (F0 m pc ls (.int x :: .int i :: .ref a :: rest)) := by
  intro T hT X
  obtain ⟨t, st, q⟩ := k _ rfl T hT X
  refine ⟨t, ?_, q⟩
  have h1 := X.iastoreOut hexec (by rw [hT]; exact hP q0 _ ha) ((hK.2 t0 _ ht).1 n (fun j => .int (f j))) (j := i) (by show (i < 0 ∨ (arrV _ _ _).slots.size ≤ _); rw [arrV_size]; exact Classical.byContradiction hout) (g := F0 m pc ls (.int x :: .int i :: .ref a :: rest)) rfl (rest := rest) rfl (by rw [hb]; exact hdg) t
  simp only [arrV_size] at h1
  exact h1 st
theorem vx_baldZ {D : va_G} {cl : List vw_C} {ws : va_W} {tys : List (ClassId × FieldType)} {a : Nat} (hexec : p.tables.exec = Jvm.exec) (hb : c.code = cc) (hK : va_K D cl tys s) (hP : va_P D cl ws H) (q0 t0 : Nat) {cA : ClassId} {n : Nat} {f : Nat → Int32} (ha : ws[q0]? = some (a, .inl (cA, n, .inl f))) (ht : tys[t0]? = some (cA, .byte)) {i : Int32} (hout : ¬ vp_in i n) (hdg : decode cc pc = .ok (.baload, 1))
    (k : ∀ tx : String, tx = (toString "Index " ++ toString i ++ toString " out of bounds for length " ++ toString n : String) → vx_Note p l e R s m args below meth c H locs cells slots Q (F0 m pc ls rest) "java/lang/ArrayIndexOutOfBoundsException" tx) : W p l e R s m args below meth c H locs cells slots Q (F0 m pc ls (.int i :: .ref a :: rest)) := by
  intro T hT X
  obtain ⟨t, st, q⟩ := k _ rfl T hT X
  refine ⟨t, ?_, q⟩
  have h1 := X.baloadOut hexec (by rw [hT]; exact hP q0 _ ha) ((hK.2 t0 _ ht).1 n (fun j => .int (f j))) (j := i) (by show (i < 0 ∨ (arrV _ _ _).slots.size ≤ _); rw [arrV_size]; exact Classical.byContradiction hout) (g := F0 m pc ls (.int i :: .ref a :: rest)) rfl (rest := rest) rfl (by rw [hb]; exact hdg) t
  simp only [arrV_size] at h1
  exact h1 st
theorem vx_bastZ {D : va_G} {cl : List vw_C} {ws : va_W} {tys : List (ClassId × FieldType)} {a : Nat} (hexec : p.tables.exec = Jvm.exec) (hb : c.code = cc) (hK : va_K D cl tys s) (hP : va_P D cl ws H) (q0 t0 : Nat) {cA : ClassId} {n : Nat} {f : Nat → Int32} (ha : ws[q0]? = some (a, .inl (cA, n, .inl f))) (ht : tys[t0]? = some (cA, .byte)) {i : Int32} {x : Int32} (hout : ¬ vp_in i n) (hdg : decode cc pc = .ok (.bastore, 1))
    (k : ∀ tx : String, tx = (toString "Index " ++ toString i ++ toString " out of bounds for length " ++ toString n : String) → vx_Note p l e R s m args below meth c H locs cells slots Q (F0 m pc ls rest) "java/lang/ArrayIndexOutOfBoundsException" tx) : W p l e R s m args below meth c H locs cells slots Q (F0 m pc ls (.int x :: .int i :: .ref a :: rest)) := by
  intro T hT X
  obtain ⟨t, st, q⟩ := k _ rfl T hT X
  refine ⟨t, ?_, q⟩
  have h1 := X.bastoreOut hexec (by rw [hT]; exact hP q0 _ ha) ((hK.2 t0 _ ht).1 n (fun j => .int (f j))) (j := i) (by show (i < 0 ∨ (arrV _ _ _).slots.size ≤ _); rw [arrV_size]; exact Classical.byContradiction hout) (g := F0 m pc ls (.int x :: .int i :: .ref a :: rest)) rfl (rest := rest) rfl (by rw [hb]; exact hdg) t
  simp only [arrV_size] at h1
  exact h1 st
theorem vx_zaldZ {D : va_G} {cl : List vw_C} {ws : va_W} {tys : List (ClassId × FieldType)} {a : Nat} (hexec : p.tables.exec = Jvm.exec) (hb : c.code = cc) (hK : va_K D cl tys s) (hP : va_P D cl ws H) (q0 t0 : Nat) {cA : ClassId} {n : Nat} {f : Nat → Int32} (ha : ws[q0]? = some (a, .inl (cA, n, .inl f))) (ht : tys[t0]? = some (cA, .boolean)) {i : Int32} (hout : ¬ vp_in i n) (hdg : decode cc pc = .ok (.baload, 1))
    (k : ∀ tx : String, tx = (toString "Index " ++ toString i ++ toString " out of bounds for length " ++ toString n : String) → vx_Note p l e R s m args below meth c H locs cells slots Q (F0 m pc ls rest) "java/lang/ArrayIndexOutOfBoundsException" tx) : W p l e R s m args below meth c H locs cells slots Q (F0 m pc ls (.int i :: .ref a :: rest)) := by
  intro T hT X
  obtain ⟨t, st, q⟩ := k _ rfl T hT X
  refine ⟨t, ?_, q⟩
  have h1 := X.baloadOut hexec (by rw [hT]; exact hP q0 _ ha) ((hK.2 t0 _ ht).1 n (fun j => .int (f j))) (j := i) (by show (i < 0 ∨ (arrV _ _ _).slots.size ≤ _); rw [arrV_size]; exact Classical.byContradiction hout) (g := F0 m pc ls (.int i :: .ref a :: rest)) rfl (rest := rest) rfl (by rw [hb]; exact hdg) t
  simp only [arrV_size] at h1
  exact h1 st
theorem vx_zastZ {D : va_G} {cl : List vw_C} {ws : va_W} {tys : List (ClassId × FieldType)} {a : Nat} (hexec : p.tables.exec = Jvm.exec) (hb : c.code = cc) (hK : va_K D cl tys s) (hP : va_P D cl ws H) (q0 t0 : Nat) {cA : ClassId} {n : Nat} {f : Nat → Int32} (ha : ws[q0]? = some (a, .inl (cA, n, .inl f))) (ht : tys[t0]? = some (cA, .boolean)) {i : Int32} {x : Int32} (hout : ¬ vp_in i n) (hdg : decode cc pc = .ok (.bastore, 1))
    (k : ∀ tx : String, tx = (toString "Index " ++ toString i ++ toString " out of bounds for length " ++ toString n : String) → vx_Note p l e R s m args below meth c H locs cells slots Q (F0 m pc ls rest) "java/lang/ArrayIndexOutOfBoundsException" tx) : W p l e R s m args below meth c H locs cells slots Q (F0 m pc ls (.int x :: .int i :: .ref a :: rest)) := by
  intro T hT X
  obtain ⟨t, st, q⟩ := k _ rfl T hT X
  refine ⟨t, ?_, q⟩
  have h1 := X.bastoreOut hexec (by rw [hT]; exact hP q0 _ ha) ((hK.2 t0 _ ht).1 n (fun j => .int (f j))) (j := i) (by show (i < 0 ∨ (arrV _ _ _).slots.size ≤ _); rw [arrV_size]; exact Classical.byContradiction hout) (g := F0 m pc ls (.int x :: .int i :: .ref a :: rest)) rfl (rest := rest) rfl (by rw [hb]; exact hdg) t
  simp only [arrV_size] at h1
  exact h1 st
theorem vx_caldZ {D : va_G} {cl : List vw_C} {ws : va_W} {tys : List (ClassId × FieldType)} {a : Nat} (hexec : p.tables.exec = Jvm.exec) (hb : c.code = cc) (hK : va_K D cl tys s) (hP : va_P D cl ws H) (q0 t0 : Nat) {cA : ClassId} {n : Nat} {f : Nat → Int32} (ha : ws[q0]? = some (a, .inl (cA, n, .inl f))) (ht : tys[t0]? = some (cA, .char)) {i : Int32} (hout : ¬ vp_in i n) (hdg : decode cc pc = .ok (.caload, 1))
    (k : ∀ tx : String, tx = (toString "Index " ++ toString i ++ toString " out of bounds for length " ++ toString n : String) → vx_Note p l e R s m args below meth c H locs cells slots Q (F0 m pc ls rest) "java/lang/ArrayIndexOutOfBoundsException" tx) : W p l e R s m args below meth c H locs cells slots Q (F0 m pc ls (.int i :: .ref a :: rest)) := by
  intro T hT X
  obtain ⟨t, st, q⟩ := k _ rfl T hT X
  refine ⟨t, ?_, q⟩
  have h1 := X.caloadOut hexec (by rw [hT]; exact hP q0 _ ha) ((hK.2 t0 _ ht).1 n (fun j => .int (f j))) (j := i) (by show (i < 0 ∨ (arrV _ _ _).slots.size ≤ _); rw [arrV_size]; exact Classical.byContradiction hout) (g := F0 m pc ls (.int i :: .ref a :: rest)) rfl (rest := rest) rfl (by rw [hb]; exact hdg) t
  simp only [arrV_size] at h1
  exact h1 st
theorem vx_castZ {D : va_G} {cl : List vw_C} {ws : va_W} {tys : List (ClassId × FieldType)} {a : Nat} (hexec : p.tables.exec = Jvm.exec) (hb : c.code = cc) (hK : va_K D cl tys s) (hP : va_P D cl ws H) (q0 t0 : Nat) {cA : ClassId} {n : Nat} {f : Nat → Int32} (ha : ws[q0]? = some (a, .inl (cA, n, .inl f))) (ht : tys[t0]? = some (cA, .char)) {i : Int32} {x : Int32} (hout : ¬ vp_in i n) (hdg : decode cc pc = .ok (.castore, 1))
    (k : ∀ tx : String, tx = (toString "Index " ++ toString i ++ toString " out of bounds for length " ++ toString n : String) → vx_Note p l e R s m args below meth c H locs cells slots Q (F0 m pc ls rest) "java/lang/ArrayIndexOutOfBoundsException" tx) : W p l e R s m args below meth c H locs cells slots Q (F0 m pc ls (.int x :: .int i :: .ref a :: rest)) := by
  intro T hT X
  obtain ⟨t, st, q⟩ := k _ rfl T hT X
  refine ⟨t, ?_, q⟩
  have h1 := X.castoreOut hexec (by rw [hT]; exact hP q0 _ ha) ((hK.2 t0 _ ht).1 n (fun j => .int (f j))) (j := i) (by show (i < 0 ∨ (arrV _ _ _).slots.size ≤ _); rw [arrV_size]; exact Classical.byContradiction hout) (g := F0 m pc ls (.int x :: .int i :: .ref a :: rest)) rfl (rest := rest) rfl (by rw [hb]; exact hdg) t
  simp only [arrV_size] at h1
  exact h1 st
theorem vx_saldZ {D : va_G} {cl : List vw_C} {ws : va_W} {tys : List (ClassId × FieldType)} {a : Nat} (hexec : p.tables.exec = Jvm.exec) (hb : c.code = cc) (hK : va_K D cl tys s) (hP : va_P D cl ws H) (q0 t0 : Nat) {cA : ClassId} {n : Nat} {f : Nat → Int32} (ha : ws[q0]? = some (a, .inl (cA, n, .inl f))) (ht : tys[t0]? = some (cA, .short)) {i : Int32} (hout : ¬ vp_in i n) (hdg : decode cc pc = .ok (.saload, 1))
    (k : ∀ tx : String, tx = (toString "Index " ++ toString i ++ toString " out of bounds for length " ++ toString n : String) → vx_Note p l e R s m args below meth c H locs cells slots Q (F0 m pc ls rest) "java/lang/ArrayIndexOutOfBoundsException" tx) : W p l e R s m args below meth c H locs cells slots Q (F0 m pc ls (.int i :: .ref a :: rest)) := by
  intro T hT X
  obtain ⟨t, st, q⟩ := k _ rfl T hT X
  refine ⟨t, ?_, q⟩
  have h1 := X.saloadOut hexec (by rw [hT]; exact hP q0 _ ha) ((hK.2 t0 _ ht).1 n (fun j => .int (f j))) (j := i) (by show (i < 0 ∨ (arrV _ _ _).slots.size ≤ _); rw [arrV_size]; exact Classical.byContradiction hout) (g := F0 m pc ls (.int i :: .ref a :: rest)) rfl (rest := rest) rfl (by rw [hb]; exact hdg) t
  simp only [arrV_size] at h1
  exact h1 st
theorem vx_sastZ {D : va_G} {cl : List vw_C} {ws : va_W} {tys : List (ClassId × FieldType)} {a : Nat} (hexec : p.tables.exec = Jvm.exec) (hb : c.code = cc) (hK : va_K D cl tys s) (hP : va_P D cl ws H) (q0 t0 : Nat) {cA : ClassId} {n : Nat} {f : Nat → Int32} (ha : ws[q0]? = some (a, .inl (cA, n, .inl f))) (ht : tys[t0]? = some (cA, .short)) {i : Int32} {x : Int32} (hout : ¬ vp_in i n) (hdg : decode cc pc = .ok (.sastore, 1))
    (k : ∀ tx : String, tx = (toString "Index " ++ toString i ++ toString " out of bounds for length " ++ toString n : String) → vx_Note p l e R s m args below meth c H locs cells slots Q (F0 m pc ls rest) "java/lang/ArrayIndexOutOfBoundsException" tx) : W p l e R s m args below meth c H locs cells slots Q (F0 m pc ls (.int x :: .int i :: .ref a :: rest)) := by
  intro T hT X
  obtain ⟨t, st, q⟩ := k _ rfl T hT X
  refine ⟨t, ?_, q⟩
  have h1 := X.sastoreOut hexec (by rw [hT]; exact hP q0 _ ha) ((hK.2 t0 _ ht).1 n (fun j => .int (f j))) (j := i) (by show (i < 0 ∨ (arrV _ _ _).slots.size ≤ _); rw [arrV_size]; exact Classical.byContradiction hout) (g := F0 m pc ls (.int x :: .int i :: .ref a :: rest)) rfl (rest := rest) rfl (by rw [hb]; exact hdg) t
  simp only [arrV_size] at h1
  exact h1 st
theorem vx_laldZ {D : va_G} {cl : List vw_C} {ws : va_W} {tys : List (ClassId × FieldType)} {a : Nat} (hexec : p.tables.exec = Jvm.exec) (hb : c.code = cc) (hK : va_K D cl tys s) (hP : va_P D cl ws H) (q0 t0 : Nat) {cA : ClassId} {n : Nat} {f : Nat → Int64} (ha : ws[q0]? = some (a, .inl (cA, n, .inr (.inl f)))) (ht : tys[t0]? = some (cA, .long)) {i : Int32} (hout : ¬ vp_in i n) (hdg : decode cc pc = .ok (.laload, 1))
    (k : ∀ tx : String, tx = (toString "Index " ++ toString i ++ toString " out of bounds for length " ++ toString n : String) → vx_Note p l e R s m args below meth c H locs cells slots Q (F0 m pc ls rest) "java/lang/ArrayIndexOutOfBoundsException" tx) : W p l e R s m args below meth c H locs cells slots Q (F0 m pc ls (.int i :: .ref a :: rest)) := by
  intro T hT X
  obtain ⟨t, st, q⟩ := k _ rfl T hT X
  refine ⟨t, ?_, q⟩
  have h1 := X.laloadOut hexec (by rw [hT]; exact hP q0 _ ha) ((hK.2 t0 _ ht).1 n (fun j => .long (f j))) (j := i) (by show (i < 0 ∨ (arrV _ _ _).slots.size ≤ _); rw [arrV_size]; exact Classical.byContradiction hout) (g := F0 m pc ls (.int i :: .ref a :: rest)) rfl (rest := rest) rfl (by rw [hb]; exact hdg) t
  simp only [arrV_size] at h1
  exact h1 st
theorem vx_lastZ {D : va_G} {cl : List vw_C} {ws : va_W} {tys : List (ClassId × FieldType)} {a : Nat} (hexec : p.tables.exec = Jvm.exec) (hb : c.code = cc) (hK : va_K D cl tys s) (hP : va_P D cl ws H) (q0 t0 : Nat) {cA : ClassId} {n : Nat} {f : Nat → Int64} (ha : ws[q0]? = some (a, .inl (cA, n, .inr (.inl f)))) (ht : tys[t0]? = some (cA, .long)) {i : Int32} {x : Int64} (hout : ¬ vp_in i n) (hdg : decode cc pc = .ok (.lastore, 1))
    (k : ∀ tx : String, tx = (toString "Index " ++ toString i ++ toString " out of bounds for length " ++ toString n : String) → vx_Note p l e R s m args below meth c H locs cells slots Q (F0 m pc ls rest) "java/lang/ArrayIndexOutOfBoundsException" tx) : W p l e R s m args below meth c H locs cells slots Q (F0 m pc ls (.long x :: .int i :: .ref a :: rest)) := by
  intro T hT X
  obtain ⟨t, st, q⟩ := k _ rfl T hT X
  refine ⟨t, ?_, q⟩
  have h1 := X.lastoreOut hexec (by rw [hT]; exact hP q0 _ ha) ((hK.2 t0 _ ht).1 n (fun j => .long (f j))) (j := i) (by show (i < 0 ∨ (arrV _ _ _).slots.size ≤ _); rw [arrV_size]; exact Classical.byContradiction hout) (g := F0 m pc ls (.long x :: .int i :: .ref a :: rest)) rfl (rest := rest) rfl (by rw [hb]; exact hdg) t
  simp only [arrV_size] at h1
  exact h1 st
theorem vx_faldZ {D : va_G} {cl : List vw_C} {ws : va_W} {tys : List (ClassId × FieldType)} {a : Nat} (hexec : p.tables.exec = Jvm.exec) (hb : c.code = cc) (hK : va_K D cl tys s) (hP : va_P D cl ws H) (q0 t0 : Nat) {cA : ClassId} {n : Nat} {f : Nat → UInt32} (ha : ws[q0]? = some (a, .inl (cA, n, .inr (.inr (.inl f))))) (ht : tys[t0]? = some (cA, .float)) {i : Int32} (hout : ¬ vp_in i n) (hdg : decode cc pc = .ok (.faload, 1))
    (k : ∀ tx : String, tx = (toString "Index " ++ toString i ++ toString " out of bounds for length " ++ toString n : String) → vx_Note p l e R s m args below meth c H locs cells slots Q (F0 m pc ls rest) "java/lang/ArrayIndexOutOfBoundsException" tx) : W p l e R s m args below meth c H locs cells slots Q (F0 m pc ls (.int i :: .ref a :: rest)) := by
  intro T hT X
  obtain ⟨t, st, q⟩ := k _ rfl T hT X
  refine ⟨t, ?_, q⟩
  have h1 := X.faloadOut hexec (by rw [hT]; exact hP q0 _ ha) ((hK.2 t0 _ ht).1 n (fun j => .float (f j))) (j := i) (by show (i < 0 ∨ (arrV _ _ _).slots.size ≤ _); rw [arrV_size]; exact Classical.byContradiction hout) (g := F0 m pc ls (.int i :: .ref a :: rest)) rfl (rest := rest) rfl (by rw [hb]; exact hdg) t
  simp only [arrV_size] at h1
  exact h1 st
theorem vx_fastZ {D : va_G} {cl : List vw_C} {ws : va_W} {tys : List (ClassId × FieldType)} {a : Nat} (hexec : p.tables.exec = Jvm.exec) (hb : c.code = cc) (hK : va_K D cl tys s) (hP : va_P D cl ws H) (q0 t0 : Nat) {cA : ClassId} {n : Nat} {f : Nat → UInt32} (ha : ws[q0]? = some (a, .inl (cA, n, .inr (.inr (.inl f))))) (ht : tys[t0]? = some (cA, .float)) {i : Int32} {x : UInt32} (hout : ¬ vp_in i n) (hdg : decode cc pc = .ok (.fastore, 1))
    (k : ∀ tx : String, tx = (toString "Index " ++ toString i ++ toString " out of bounds for length " ++ toString n : String) → vx_Note p l e R s m args below meth c H locs cells slots Q (F0 m pc ls rest) "java/lang/ArrayIndexOutOfBoundsException" tx) : W p l e R s m args below meth c H locs cells slots Q (F0 m pc ls (.float x :: .int i :: .ref a :: rest)) := by
  intro T hT X
  obtain ⟨t, st, q⟩ := k _ rfl T hT X
  refine ⟨t, ?_, q⟩
  have h1 := X.fastoreOut hexec (by rw [hT]; exact hP q0 _ ha) ((hK.2 t0 _ ht).1 n (fun j => .float (f j))) (j := i) (by show (i < 0 ∨ (arrV _ _ _).slots.size ≤ _); rw [arrV_size]; exact Classical.byContradiction hout) (g := F0 m pc ls (.float x :: .int i :: .ref a :: rest)) rfl (rest := rest) rfl (by rw [hb]; exact hdg) t
  simp only [arrV_size] at h1
  exact h1 st
theorem vx_daldZ {D : va_G} {cl : List vw_C} {ws : va_W} {tys : List (ClassId × FieldType)} {a : Nat} (hexec : p.tables.exec = Jvm.exec) (hb : c.code = cc) (hK : va_K D cl tys s) (hP : va_P D cl ws H) (q0 t0 : Nat) {cA : ClassId} {n : Nat} {f : Nat → UInt64} (ha : ws[q0]? = some (a, .inl (cA, n, .inr (.inr (.inr (.inl f)))))) (ht : tys[t0]? = some (cA, .double)) {i : Int32} (hout : ¬ vp_in i n) (hdg : decode cc pc = .ok (.daload, 1))
    (k : ∀ tx : String, tx = (toString "Index " ++ toString i ++ toString " out of bounds for length " ++ toString n : String) → vx_Note p l e R s m args below meth c H locs cells slots Q (F0 m pc ls rest) "java/lang/ArrayIndexOutOfBoundsException" tx) : W p l e R s m args below meth c H locs cells slots Q (F0 m pc ls (.int i :: .ref a :: rest)) := by
  intro T hT X
  obtain ⟨t, st, q⟩ := k _ rfl T hT X
  refine ⟨t, ?_, q⟩
  have h1 := X.daloadOut hexec (by rw [hT]; exact hP q0 _ ha) ((hK.2 t0 _ ht).1 n (fun j => .double (f j))) (j := i) (by show (i < 0 ∨ (arrV _ _ _).slots.size ≤ _); rw [arrV_size]; exact Classical.byContradiction hout) (g := F0 m pc ls (.int i :: .ref a :: rest)) rfl (rest := rest) rfl (by rw [hb]; exact hdg) t
  simp only [arrV_size] at h1
  exact h1 st
theorem vx_dastZ {D : va_G} {cl : List vw_C} {ws : va_W} {tys : List (ClassId × FieldType)} {a : Nat} (hexec : p.tables.exec = Jvm.exec) (hb : c.code = cc) (hK : va_K D cl tys s) (hP : va_P D cl ws H) (q0 t0 : Nat) {cA : ClassId} {n : Nat} {f : Nat → UInt64} (ha : ws[q0]? = some (a, .inl (cA, n, .inr (.inr (.inr (.inl f)))))) (ht : tys[t0]? = some (cA, .double)) {i : Int32} {x : UInt64} (hout : ¬ vp_in i n) (hdg : decode cc pc = .ok (.dastore, 1))
    (k : ∀ tx : String, tx = (toString "Index " ++ toString i ++ toString " out of bounds for length " ++ toString n : String) → vx_Note p l e R s m args below meth c H locs cells slots Q (F0 m pc ls rest) "java/lang/ArrayIndexOutOfBoundsException" tx) : W p l e R s m args below meth c H locs cells slots Q (F0 m pc ls (.double x :: .int i :: .ref a :: rest)) := by
  intro T hT X
  obtain ⟨t, st, q⟩ := k _ rfl T hT X
  refine ⟨t, ?_, q⟩
  have h1 := X.dastoreOut hexec (by rw [hT]; exact hP q0 _ ha) ((hK.2 t0 _ ht).1 n (fun j => .double (f j))) (j := i) (by show (i < 0 ∨ (arrV _ _ _).slots.size ≤ _); rw [arrV_size]; exact Classical.byContradiction hout) (g := F0 m pc ls (.double x :: .int i :: .ref a :: rest)) rfl (rest := rest) rfl (by rw [hb]; exact hdg) t
  simp only [arrV_size] at h1
  exact h1 st
theorem vx_arraylengthN (hexec : p.tables.exec = Jvm.exec) (hb : c.code = cc) (hdg : decode cc pc = .ok (.arraylength, 1)) (k : vx_NoteN p l e R s m args below meth c H locs cells slots Q (F0 m pc ls rest)) : W p l e R s m args below meth c H locs cells slots Q (F0 m pc ls (.null :: rest)) := by
  intro T hT X
  obtain ⟨t, st, q⟩ := k T hT X
  exact ⟨t, X.arraylengthNull hexec (g := F0 m pc ls (.null :: rest)) rfl (rest := rest) rfl (by rw [hb]; exact hdg) t st, q⟩
theorem vx_ialoadN (hexec : p.tables.exec = Jvm.exec) (hb : c.code = cc) {i : Int32} (hdg : decode cc pc = .ok (.iaload, 1)) (k : vx_NoteN p l e R s m args below meth c H locs cells slots Q (F0 m pc ls rest)) : W p l e R s m args below meth c H locs cells slots Q (F0 m pc ls (.int i :: .null :: rest)) := by
  intro T hT X
  obtain ⟨t, st, q⟩ := k T hT X
  exact ⟨t, X.ialoadNull hexec (g := F0 m pc ls (.int i :: .null :: rest)) rfl (rest := rest) rfl (by rw [hb]; exact hdg) t st, q⟩
theorem vx_laloadN (hexec : p.tables.exec = Jvm.exec) (hb : c.code = cc) {i : Int32} (hdg : decode cc pc = .ok (.laload, 1)) (k : vx_NoteN p l e R s m args below meth c H locs cells slots Q (F0 m pc ls rest)) : W p l e R s m args below meth c H locs cells slots Q (F0 m pc ls (.int i :: .null :: rest)) := by
  intro T hT X
  obtain ⟨t, st, q⟩ := k T hT X
  exact ⟨t, X.laloadNull hexec (g := F0 m pc ls (.int i :: .null :: rest)) rfl (rest := rest) rfl (by rw [hb]; exact hdg) t st, q⟩
theorem vx_faloadN (hexec : p.tables.exec = Jvm.exec) (hb : c.code = cc) {i : Int32} (hdg : decode cc pc = .ok (.faload, 1)) (k : vx_NoteN p l e R s m args below meth c H locs cells slots Q (F0 m pc ls rest)) : W p l e R s m args below meth c H locs cells slots Q (F0 m pc ls (.int i :: .null :: rest)) := by
  intro T hT X
  obtain ⟨t, st, q⟩ := k T hT X
  exact ⟨t, X.faloadNull hexec (g := F0 m pc ls (.int i :: .null :: rest)) rfl (rest := rest) rfl (by rw [hb]; exact hdg) t st, q⟩
theorem vx_daloadN (hexec : p.tables.exec = Jvm.exec) (hb : c.code = cc) {i : Int32} (hdg : decode cc pc = .ok (.daload, 1)) (k : vx_NoteN p l e R s m args below meth c H locs cells slots Q (F0 m pc ls rest)) : W p l e R s m args below meth c H locs cells slots Q (F0 m pc ls (.int i :: .null :: rest)) := by
  intro T hT X
  obtain ⟨t, st, q⟩ := k T hT X
  exact ⟨t, X.daloadNull hexec (g := F0 m pc ls (.int i :: .null :: rest)) rfl (rest := rest) rfl (by rw [hb]; exact hdg) t st, q⟩
theorem vx_aaloadN (hexec : p.tables.exec = Jvm.exec) (hb : c.code = cc) {i : Int32} (hdg : decode cc pc = .ok (.aaload, 1)) (k : vx_NoteN p l e R s m args below meth c H locs cells slots Q (F0 m pc ls rest)) : W p l e R s m args below meth c H locs cells slots Q (F0 m pc ls (.int i :: .null :: rest)) := by
  intro T hT X
  obtain ⟨t, st, q⟩ := k T hT X
  exact ⟨t, X.aaloadNull hexec (g := F0 m pc ls (.int i :: .null :: rest)) rfl (rest := rest) rfl (by rw [hb]; exact hdg) t st, q⟩
theorem vx_baloadN (hexec : p.tables.exec = Jvm.exec) (hb : c.code = cc) {i : Int32} (hdg : decode cc pc = .ok (.baload, 1)) (k : vx_NoteN p l e R s m args below meth c H locs cells slots Q (F0 m pc ls rest)) : W p l e R s m args below meth c H locs cells slots Q (F0 m pc ls (.int i :: .null :: rest)) := by
  intro T hT X
  obtain ⟨t, st, q⟩ := k T hT X
  exact ⟨t, X.baloadNull hexec (g := F0 m pc ls (.int i :: .null :: rest)) rfl (rest := rest) rfl (by rw [hb]; exact hdg) t st, q⟩
theorem vx_caloadN (hexec : p.tables.exec = Jvm.exec) (hb : c.code = cc) {i : Int32} (hdg : decode cc pc = .ok (.caload, 1)) (k : vx_NoteN p l e R s m args below meth c H locs cells slots Q (F0 m pc ls rest)) : W p l e R s m args below meth c H locs cells slots Q (F0 m pc ls (.int i :: .null :: rest)) := by
  intro T hT X
  obtain ⟨t, st, q⟩ := k T hT X
  exact ⟨t, X.caloadNull hexec (g := F0 m pc ls (.int i :: .null :: rest)) rfl (rest := rest) rfl (by rw [hb]; exact hdg) t st, q⟩
theorem vx_saloadN (hexec : p.tables.exec = Jvm.exec) (hb : c.code = cc) {i : Int32} (hdg : decode cc pc = .ok (.saload, 1)) (k : vx_NoteN p l e R s m args below meth c H locs cells slots Q (F0 m pc ls rest)) : W p l e R s m args below meth c H locs cells slots Q (F0 m pc ls (.int i :: .null :: rest)) := by
  intro T hT X
  obtain ⟨t, st, q⟩ := k T hT X
  exact ⟨t, X.saloadNull hexec (g := F0 m pc ls (.int i :: .null :: rest)) rfl (rest := rest) rfl (by rw [hb]; exact hdg) t st, q⟩
theorem vx_iastoreN (hexec : p.tables.exec = Jvm.exec) (hb : c.code = cc) {x : Int32} {i : Int32} (hdg : decode cc pc = .ok (.iastore, 1)) (k : vx_NoteN p l e R s m args below meth c H locs cells slots Q (F0 m pc ls rest)) : W p l e R s m args below meth c H locs cells slots Q (F0 m pc ls (.int x :: .int i :: .null :: rest)) := by
  intro T hT X
  obtain ⟨t, st, q⟩ := k T hT X
  exact ⟨t, X.iastoreNull hexec (g := F0 m pc ls (.int x :: .int i :: .null :: rest)) rfl (rest := rest) rfl (by rw [hb]; exact hdg) t st, q⟩
theorem vx_lastoreN (hexec : p.tables.exec = Jvm.exec) (hb : c.code = cc) {x : Int64} {i : Int32} (hdg : decode cc pc = .ok (.lastore, 1)) (k : vx_NoteN p l e R s m args below meth c H locs cells slots Q (F0 m pc ls rest)) : W p l e R s m args below meth c H locs cells slots Q (F0 m pc ls (.long x :: .int i :: .null :: rest)) := by
  intro T hT X
  obtain ⟨t, st, q⟩ := k T hT X
  exact ⟨t, X.lastoreNull hexec (g := F0 m pc ls (.long x :: .int i :: .null :: rest)) rfl (rest := rest) rfl (by rw [hb]; exact hdg) t st, q⟩
theorem vx_fastoreN (hexec : p.tables.exec = Jvm.exec) (hb : c.code = cc) {x : UInt32} {i : Int32} (hdg : decode cc pc = .ok (.fastore, 1)) (k : vx_NoteN p l e R s m args below meth c H locs cells slots Q (F0 m pc ls rest)) : W p l e R s m args below meth c H locs cells slots Q (F0 m pc ls (.float x :: .int i :: .null :: rest)) := by
  intro T hT X
  obtain ⟨t, st, q⟩ := k T hT X
  exact ⟨t, X.fastoreNull hexec (g := F0 m pc ls (.float x :: .int i :: .null :: rest)) rfl (rest := rest) rfl (by rw [hb]; exact hdg) t st, q⟩
theorem vx_dastoreN (hexec : p.tables.exec = Jvm.exec) (hb : c.code = cc) {x : UInt64} {i : Int32} (hdg : decode cc pc = .ok (.dastore, 1)) (k : vx_NoteN p l e R s m args below meth c H locs cells slots Q (F0 m pc ls rest)) : W p l e R s m args below meth c H locs cells slots Q (F0 m pc ls (.double x :: .int i :: .null :: rest)) := by
  intro T hT X
  obtain ⟨t, st, q⟩ := k T hT X
  exact ⟨t, X.dastoreNull hexec (g := F0 m pc ls (.double x :: .int i :: .null :: rest)) rfl (rest := rest) rfl (by rw [hb]; exact hdg) t st, q⟩
theorem vx_bastoreN (hexec : p.tables.exec = Jvm.exec) (hb : c.code = cc) {x : Int32} {i : Int32} (hdg : decode cc pc = .ok (.bastore, 1)) (k : vx_NoteN p l e R s m args below meth c H locs cells slots Q (F0 m pc ls rest)) : W p l e R s m args below meth c H locs cells slots Q (F0 m pc ls (.int x :: .int i :: .null :: rest)) := by
  intro T hT X
  obtain ⟨t, st, q⟩ := k T hT X
  exact ⟨t, X.bastoreNull hexec (g := F0 m pc ls (.int x :: .int i :: .null :: rest)) rfl (rest := rest) rfl (by rw [hb]; exact hdg) t st, q⟩
theorem vx_castoreN (hexec : p.tables.exec = Jvm.exec) (hb : c.code = cc) {x : Int32} {i : Int32} (hdg : decode cc pc = .ok (.castore, 1)) (k : vx_NoteN p l e R s m args below meth c H locs cells slots Q (F0 m pc ls rest)) : W p l e R s m args below meth c H locs cells slots Q (F0 m pc ls (.int x :: .int i :: .null :: rest)) := by
  intro T hT X
  obtain ⟨t, st, q⟩ := k T hT X
  exact ⟨t, X.castoreNull hexec (g := F0 m pc ls (.int x :: .int i :: .null :: rest)) rfl (rest := rest) rfl (by rw [hb]; exact hdg) t st, q⟩
theorem vx_sastoreN (hexec : p.tables.exec = Jvm.exec) (hb : c.code = cc) {x : Int32} {i : Int32} (hdg : decode cc pc = .ok (.sastore, 1)) (k : vx_NoteN p l e R s m args below meth c H locs cells slots Q (F0 m pc ls rest)) : W p l e R s m args below meth c H locs cells slots Q (F0 m pc ls (.int x :: .int i :: .null :: rest)) := by
  intro T hT X
  obtain ⟨t, st, q⟩ := k T hT X
  exact ⟨t, X.sastoreNull hexec (g := F0 m pc ls (.int x :: .int i :: .null :: rest)) rfl (rest := rest) rfl (by rw [hb]; exact hdg) t st, q⟩
theorem vx_invokeN {own C : String} {index maxL : Nat} {y : MethodName} {bytes : ByteArray} {ret : Option FieldType} (hexec : p.tables.exec = Jvm.exec) (hb : c.code = cc) (hown : s.vm.findClass own = some m.cls) (hlink : (Cond.methodLink own index y).before args s = true) (hinst : (Cond.instanceMethod y).before args s = true) (hcode : (Cond.code y bytes maxL ret).before args s = true) (hsel : (Cond.selects C y y).before args s = true)
    (hx : y.cls ≠ "java/lang/invoke/MethodHandle" ∧ y.cls ≠ "java/lang/invoke/VarHandle") {As : List Value} (hlen : (parseMethodDescriptor y.desc).map (fun d => d.parameters.length) = some As.length) (hdg : decode cc pc = .ok (.invokevirtual index, 3))
    (k : vx_NoteN p l e R s m args below meth c H locs cells slots Q (F0 m pc ls rest)) {st0 : List Value} (hst : st0 = As.reverse ++ .null :: rest) : W p l e R s m args below meth c H locs cells slots Q (F0 m pc ls st0) := by
  intro T hT X
  obtain ⟨r0, r, hn, hrm, hstR, hsigR⟩ := va_Decl.of hinst hcode
  obtain ⟨c2, r2, m2, q1, q2, q3, q4, kP, hkP, hkPi⟩ := Cond.selects_spec hsel
  cases hn.symm.trans q3
  have hl9 : As.length = r.sig.parameters.length := by
    rw [hsigR] at hlen
    exact (Option.some.inj hlen).symm
  obtain ⟨vm', X1, st1⟩ := X.invokevirtualNull hexec hown hlink hn hrm hstR hkP hkPi hx (g := F0 m pc ls st0) rfl (argsL := As) (rest := rest) hl9 hst (by rw [hb]; exact hdg)
  obtain ⟨t, st, q⟩ := k (T.setVm vm') hT X1
  exact ⟨t, st1 t st, q⟩
theorem vx_newarrayZ {atype : ArrayType} (hexec : p.tables.exec = Jvm.exec) (hb : c.code = cc) {n : Int32} (h0 : n < 0) (hdg : decode cc pc = .ok (.newarray atype, 2)) (k : ∀ tx : String, tx = toString n → vx_Note p l e R s m args below meth c H locs cells slots Q (F0 m pc ls rest) "java/lang/NegativeArraySizeException" tx) : W p l e R s m args below meth c H locs cells slots Q (F0 m pc ls (.int n :: rest)) := by
  intro T hT X
  obtain ⟨t, st, q⟩ := k _ rfl T hT X
  exact ⟨t, X.newarrayNegative hexec (g := F0 m pc ls (.int n :: rest)) rfl h0 (rest := rest) rfl (by rw [hb]; exact hdg) t st, q⟩
end
end VXM
/-! ===== END ===== -/
/-! ===== BEGIN an exception as an object: made, kept, thrown later (no traces kept) ===== -/
section VXK
variable {p : Program} {l : Launch} {e : Env} {R : Room} {s : State} {m₀ : MethodId} {args : Array Value} {below : List Frame} {meth : Method} {c : Code} {W : State} {locs : List Loc} {cells slots : Nat}
set_option maxHeartbeats 1000000 in
theorem vx_ctorMadeS (X : Stand p l e R s m₀ args below meth c W locs cells slots) (hexec : p.tables.exec = Jvm.exec) (htr : e.platform.stackTraces = false) {own cls : String} {names : List String} {ic : Nat}
    (hown : s.vm.findClass own = some m₀.cls) (hcls : Bundle.fit cls = true) (hnames : ∀ n ∈ names, Bundle.fit n = true)
    (h : ∀ a ∈ Bundle.ownAtoms own ic cls names, a.before args s = true)
    (hlocs : ∀ x ∈ locs, ∀ cell, s.heap[x.base]? = some cell → cell.vm.isStatics = false)
    {a : Addr} {cX : ClassId} {kX : Class} (hfoundX : s.vm.findClass cls = some cX) (hkX : s.vm.classes[cX]? = some kX) (hcell : W.heap[a]? = some (freshCell cX kX)) (hnew : s.heap.size ≤ a)
    {msg : Value} (hmsg : msg.isRef = true)
    {g : JFrame} (hg : g.method = m₀) (hsize : g.locals.size = c.maxLocals) {rest : List Value} (hstack : g.stack = msg :: .ref a :: .ref a :: rest)
    (hd6 : decode c.code g.pc = .ok (.invokespecial ic, 3))
    (hRframes : names.length + 3 < R.frames) (hRlocals : 2 * g.monitorRoom + ((Value.ref a :: rest).map fun v => v.category).sum + (13 * (names.length + 1) + 42) ≤ R.locals) :
    ∃ (V : State) (ce : Cell) (L : List Loc), Stand p l e R s m₀ args below meth c (V.setCell a ce) (locs ++ L) cells slots ∧ (∀ y ∈ L, y.base = a) ∧ a < V.heap.size ∧ ce.cls = cX ∧ ce.vm = .none ∧
      ∀ target, Steps p.tables e below ((V.setCell a ce).setTop { g with stack := .ref a :: rest, pc := g.pc + 3 }) target → Steps p.tables e below (W.setTop g) target := by
  have howns : e.platform.frameOwnsMonitors = true := by rw [X.admits.platform]
  have hfin : e.platform.finalization = false := by rw [X.admits.platform]
  have hpl : e.platform.magicAccessors = ({} : Platform).magicAccessors := by rw [X.admits.platform]
  have a' : ∀ x, x ∈ Bundle.ownAtoms own ic cls names → x.holds args s none s [] = true := fun x hx => h x hx
  obtain ⟨T, Z0, L, -, Y⟩ := ThrowableC.of_atoms (args := args) howns hfin hpl (fun x hx => h x (by simp [Bundle.ownAtoms, hx]))
  obtain ⟨Z, M, LZ, LM, hnZ⟩ := Init0T.ofS_atoms (args := args) hpl L Y (fun x hx => h x (by simp [Bundle.ownAtoms, hx]))
  obtain ⟨P1, Ps, hlen, L1, hL, hP1m, hlink1, hlink⟩ := Bundle.chainS (args := args) hpl hnZ names cls hcls hnames (fun x hx => h x (by simp [Bundle.ownAtoms, hx]))
  have hfound : s.vm.findClass cls = some P1.m.cls := findClass_of_methodNamed hP1m
  cases Option.some.inj (hfoundX.symm.trans hfound)
  obtain ⟨c1, kX', hc1, hk, hord, -, -, hn6⟩ := Cond.instantiable_spec (a' (.instantiable cls 6) (by simp [Bundle.ownAtoms]))
  cases Option.some.inj (hc1.symm.trans hfound)
  cases Option.some.inj (hkX.symm.trans hk)
  have hsel0 : selectMethod e.platform s.vm P1.m.cls T.fill0 = .method T.fill0 := by
    obtain ⟨c2, r2, m2, q1, q2, q3, q4, -⟩ := Cond.selects_spec (a' (.selects cls Bundle.tFill0 Bundle.tFill0) (by simp [Bundle.ownAtoms]))
    cases Option.some.inj (q1.symm.trans hfound)
    cases Option.some.inj (q2.symm.trans (State.methodFound?_of_named Y.fill0 (by decide)))
    cases Option.some.inj (q3.symm.trans Y.fill0)
    rw [Launch.admits_selectMethod X.admits]; exact q4
  have hselF : selectMethod e.platform s.vm P1.m.cls T.fill = .method T.fill := by
    obtain ⟨c2, r2, m2, q1, q2, q3, q4, -⟩ := Cond.selects_spec (a' (.selects cls Bundle.tFill Bundle.tFill) (by simp [Bundle.ownAtoms]))
    cases Option.some.inj (q1.symm.trans hfound)
    cases Option.some.inj (q2.symm.trans (State.methodFound?_of_named Y.fill (by decide)))
    cases Option.some.inj (q3.symm.trans Y.fill)
    rw [Launch.admits_selectMethod X.admits]; exact q4
  obtain ⟨cellS0, hcS0, hiss⟩ := Y.statics
  obtain ⟨u0, hu0⟩ := Cond.staticRefV Y.unassigned L.unassignedStatic L.statics hcS0 hiss (a' (.isRef (.static Bundle.tN "UNASSIGNED_STACK" Bundle.steD)) (by simp [Bundle.ownAtoms]))
  obtain ⟨sen, hsen⟩ := Cond.staticRefV Y.sentinel L.sentinelStatic L.statics hcS0 hiss (a' (.isRef (.static Bundle.tN "SUPPRESSED_SENTINEL" Bundle.listD)) (by simp [Bundle.ownAtoms]))
  obtain ⟨ci198, i198, fB, hk198, hg198, ha198, hsB, -, hnB, htB, hffB⟩ := Cond.ownField (t := .object "java/lang/Object") Y.found L.cls (by decide +kernel) (a' (.fieldLink Bundle.tN 198 Bundle.tN "backtrace" "Ljava/lang/Object;") (by simp [Bundle.ownAtoms])) (a' (.lays Bundle.tN Bundle.tN "backtrace" "Ljava/lang/Object;") (by simp [Bundle.ownAtoms])) e.platform hpl
  obtain ⟨cellS, hcS', heS, -, hkeep⟩ := X.same.2.2.2.2.2 T.aS cellS0 hcS0
  have hcellS : W.heap[T.aS]? = some cellS := hcS'
  have hout' : ∀ i, (⟨T.aS, i⟩ : Loc) ∉ locs := fun i hmem => by
    have := hlocs _ hmem cellS0 hcS0
    rw [hiss] at this; cases this
  have hknownS : cellS.vm ≠ .unknown := by
    rw [heS]; intro hu
    rw [show cellS0.vm = .unknown from hu] at hiss
    cases hiss
  have hneS : T.aS ≠ a := Nat.ne_of_lt (Nat.lt_of_lt_of_le (Array.getElem?_eq_some_iff.mp hcS0).1 hnew)
  obtain ⟨iM, hffM⟩ := Y.msg
  obtain ⟨tyC, dC, hdC, hdnC⟩ := Cond.laysAt hfound hk Y.cause (a' (.lays cls Bundle.tN "cause" "Ljava/lang/Throwable;") (by simp [Bundle.ownAtoms]))
  obtain ⟨tyS, dS, hdS, hdnS⟩ := Cond.laysAt hfound hk Y.stack (a' (.lays cls Bundle.tN "stackTrace" Bundle.steD) (by simp [Bundle.ownAtoms]))
  obtain ⟨tyP, dP, hdP, hdnP⟩ := Cond.laysAt hfound hk Y.supp (a' (.lays cls Bundle.tN "suppressedExceptions" Bundle.listD) (by simp [Bundle.ownAtoms]))
  obtain ⟨tyM, dM, hdM, hdnM⟩ := Cond.laysAt hfound hk hffM (a' (.lays cls Bundle.tN "detailMessage" "Ljava/lang/String;") (by simp [Bundle.ownAtoms]))
  obtain ⟨tyB, dB, hdB, hdnB⟩ := Cond.laysAt hfound hk hffB (a' (.lays cls Bundle.tN "backtrace" "Ljava/lang/Object;") (by simp [Bundle.ownAtoms]))
  have bC := Cond.laysApart hdB hdC hdnB hdnC (by rw [hnB, Y.causeName]; decide)
  have bS := Cond.laysApart hdB hdS hdnB hdnS (by rw [hnB, Y.stackName]; decide)
  have bP := Cond.laysApart hdB hdP hdnB hdnP (by rw [hnB, Y.suppName]; decide)
  have hskip : SkipFacts T e.platform s (fun u => u) u0 ((preparedCellV T.toThrowableT (freshCell P1.m.cls kX) a u0 sen).withEntry W.cur) :=
    ⟨{ ci198 := ci198, i198 := i198, fBack := fB }, ⟨hk198, hg198, ha198, hsB⟩, by
      have := fresh_default (c := P1.m.cls) tyB
      rw [htB] at this
      simpa [preparedCellV, Cell.setSlot, Cell.withEntry, Array.getElem?_setIfInBounds, bC, bS, bP, bC.symm, bS.symm, bP.symm, defaultValue] using this, fun _ _ => rfl⟩
  obtain ⟨tm, methC, cdC, kC, vm₁, hnC, -, -, -, -, -, -, -, hW₁, st1⟩ := Steps.initColdS (tb := p.tables) (e := e) (below := below) (s := s) (U := W) X.here hexec X.warmed hpl hown (t := Bundle.initS cls) rfl rfl (Bundle.fit_spec hcls).2
    (a' (.methodLink own ic (Bundle.initS cls)) (by simp [Bundle.ownAtoms])) (h (.instanceMethod (Bundle.initS cls)) (by cases names <;> simp [Bundle.ownAtoms, Bundle.chainSAtoms, Bundle.passSAtoms])) (bytes := Bundle.six) (maxL := 2) (h (.code (Bundle.initS cls) Bundle.six 2 none) (by cases names <;> simp [Bundle.ownAtoms, Bundle.chainSAtoms, Bundle.passSAtoms]))
    (f := g) hg (a := a) (msg := msg) (rest := .ref a :: rest) hstack hd6
  cases Option.some.inj (hnC.symm.trans hP1m)
  have X₁ := X.noted hW₁
  obtain ⟨vm₂, X₂, st2⟩ := X₁.ctorMessageOffV hexec (g := { g with stack := .ref a :: rest }) hg hsize T L Z LZ M LM (P1 :: Ps)
    (fun P hP => by rcases List.mem_cons.mp hP with rfl | hP; exact L1; exact hL P hP) ⟨hlink1, hlink⟩ (u0 := u0) (sen := sen) (self := a) hmsg (cell := freshCell P1.m.cls kX) (cellS := cellS)
    hcell (fun _ => by simp) (by simp) rfl rfl hsel0 hselF hcellS hneS hknownS (by rw [hkeep _ (hout' _)]; exact hu0) (by rw [hkeep _ (hout' _)]; exact hsen)
    (Takes.of_laid hk hord tyC (by rw [Y.causeType]; rfl)) (Takes.of_laid hk hord tyS (by rw [Y.stackType]; exact fits_refV_array _ u0)) (Takes.of_laid hk hord tyP (by rw [Y.suppType]; exact fits_refV_object _ sen))
    (Takes.of_laid hk hord tyM (by rw [Y.msgType]; exact fits_refV_object _ ⟨msg, hmsg⟩)) Y.objLocals hskip htr [] hd6
    (by simp only [List.length_cons, hlen]; omega) (by simp only [List.length_cons, hlen]; exact hRlocals)
  have hlt : a < ((W.setVm vm₁).setVm vm₂).heap.size := (Array.getElem?_eq_some_iff.mp hcell).1
  refine ⟨(W.setVm vm₁).setVm vm₂, _, _, X₂, fun y hy => ?_, hlt, rfl, rfl, fun target hwalk => st1 _ (fun acts => ?_)⟩
  · simp only [List.mem_cons, List.not_mem_nil, or_false] at hy
    rcases hy with rfl | rfl | rfl | rfl | rfl <;> rfl
  · rw [doInvoke_state]
    exact st2 _ hwalk
set_option maxHeartbeats 1000000 in
theorem vx_ctorMade0 (X : Stand p l e R s m₀ args below meth c W locs cells slots) (hexec : p.tables.exec = Jvm.exec) (htr : e.platform.stackTraces = false) {own cls : String} {names : List String} {ic : Nat}
    (hown : s.vm.findClass own = some m₀.cls) (hcls : Bundle.fit cls = true) (hnames : ∀ n ∈ names, Bundle.fit n = true)
    (h : ∀ a ∈ Bundle.ownAtoms0 own ic cls names, a.before args s = true)
    (hlocs : ∀ x ∈ locs, ∀ cell, s.heap[x.base]? = some cell → cell.vm.isStatics = false)
    {a : Addr} {cX : ClassId} {kX : Class} (hfoundX : s.vm.findClass cls = some cX) (hkX : s.vm.classes[cX]? = some kX) (hcell : W.heap[a]? = some (freshCell cX kX)) (hnew : s.heap.size ≤ a)
    {g : JFrame} (hg : g.method = m₀) (hsize : g.locals.size = c.maxLocals) {rest : List Value} (hstack : g.stack = .ref a :: .ref a :: rest)
    (hd6 : decode c.code g.pc = .ok (.invokespecial ic, 3))
    (hRframes : names.length + 3 < R.frames) (hRlocals : 2 * g.monitorRoom + ((Value.ref a :: rest).map fun v => v.category).sum + (13 * (names.length + 1) + 41) ≤ R.locals) :
    ∃ (V : State) (ce : Cell) (L : List Loc), Stand p l e R s m₀ args below meth c (V.setCell a ce) (locs ++ L) cells slots ∧ (∀ y ∈ L, y.base = a) ∧ a < V.heap.size ∧ ce.cls = cX ∧ ce.vm = .none ∧
      ∀ target, Steps p.tables e below ((V.setCell a ce).setTop { g with stack := .ref a :: rest, pc := g.pc + 3 }) target → Steps p.tables e below (W.setTop g) target := by
  have howns : e.platform.frameOwnsMonitors = true := by rw [X.admits.platform]
  have hfin : e.platform.finalization = false := by rw [X.admits.platform]
  have hpl : e.platform.magicAccessors = ({} : Platform).magicAccessors := by rw [X.admits.platform]
  have a' : ∀ x, x ∈ Bundle.ownAtoms0 own ic cls names → x.holds args s none s [] = true := fun x hx => h x hx
  obtain ⟨T, Z, L, LZ, Y⟩ := ThrowableC.of_atoms (args := args) howns hfin hpl (fun x hx => h x (by simp [Bundle.ownAtoms0, hx]))
  obtain ⟨P1, Ps, hlen, L1, hL, hP1m, hlink1, hlink⟩ := Bundle.chain0 (args := args) hpl Y.init0 names cls hcls hnames (fun x hx => h x (by simp [Bundle.ownAtoms0, hx]))
  have hfound : s.vm.findClass cls = some P1.m.cls := findClass_of_methodNamed hP1m
  cases Option.some.inj (hfoundX.symm.trans hfound)
  obtain ⟨c1, kX', hc1, hk, hord, -, -, hn6⟩ := Cond.instantiable_spec (a' (.instantiable cls 6) (by simp [Bundle.ownAtoms0]))
  cases Option.some.inj (hc1.symm.trans hfound)
  cases Option.some.inj (hkX.symm.trans hk)
  have hsel0 : selectMethod e.platform s.vm P1.m.cls T.fill0 = .method T.fill0 := by
    obtain ⟨c2, r2, m2, q1, q2, q3, q4, -⟩ := Cond.selects_spec (a' (.selects cls Bundle.tFill0 Bundle.tFill0) (by simp [Bundle.ownAtoms0]))
    cases Option.some.inj (q1.symm.trans hfound)
    cases Option.some.inj (q2.symm.trans (State.methodFound?_of_named Y.fill0 (by decide)))
    cases Option.some.inj (q3.symm.trans Y.fill0)
    rw [Launch.admits_selectMethod X.admits]; exact q4
  have hselF : selectMethod e.platform s.vm P1.m.cls T.fill = .method T.fill := by
    obtain ⟨c2, r2, m2, q1, q2, q3, q4, -⟩ := Cond.selects_spec (a' (.selects cls Bundle.tFill Bundle.tFill) (by simp [Bundle.ownAtoms0]))
    cases Option.some.inj (q1.symm.trans hfound)
    cases Option.some.inj (q2.symm.trans (State.methodFound?_of_named Y.fill (by decide)))
    cases Option.some.inj (q3.symm.trans Y.fill)
    rw [Launch.admits_selectMethod X.admits]; exact q4
  obtain ⟨cellS0, hcS0, hiss⟩ := Y.statics
  obtain ⟨u0, hu0⟩ := Cond.staticRefV Y.unassigned L.unassignedStatic L.statics hcS0 hiss (a' (.isRef (.static Bundle.tN "UNASSIGNED_STACK" Bundle.steD)) (by simp [Bundle.ownAtoms0]))
  obtain ⟨sen, hsen⟩ := Cond.staticRefV Y.sentinel L.sentinelStatic L.statics hcS0 hiss (a' (.isRef (.static Bundle.tN "SUPPRESSED_SENTINEL" Bundle.listD)) (by simp [Bundle.ownAtoms0]))
  obtain ⟨ci198, i198, fB, hk198, hg198, ha198, hsB, -, hnB, htB, hffB⟩ := Cond.ownField (t := .object "java/lang/Object") Y.found L.cls (by decide +kernel) (a' (.fieldLink Bundle.tN 198 Bundle.tN "backtrace" "Ljava/lang/Object;") (by simp [Bundle.ownAtoms0])) (a' (.lays Bundle.tN Bundle.tN "backtrace" "Ljava/lang/Object;") (by simp [Bundle.ownAtoms0])) e.platform hpl
  obtain ⟨cellS, hcS', heS, -, hkeep⟩ := X.same.2.2.2.2.2 T.aS cellS0 hcS0
  have hcellS : W.heap[T.aS]? = some cellS := hcS'
  have hout' : ∀ i, (⟨T.aS, i⟩ : Loc) ∉ locs := fun i hmem => by
    have := hlocs _ hmem cellS0 hcS0
    rw [hiss] at this; cases this
  have hknownS : cellS.vm ≠ .unknown := by
    rw [heS]; intro hu
    rw [show cellS0.vm = .unknown from hu] at hiss
    cases hiss
  have hneS : T.aS ≠ a := Nat.ne_of_lt (Nat.lt_of_lt_of_le (Array.getElem?_eq_some_iff.mp hcS0).1 hnew)
  obtain ⟨iM, hffM⟩ := Y.msg
  obtain ⟨tyC, dC, hdC, hdnC⟩ := Cond.laysAt hfound hk Y.cause (a' (.lays cls Bundle.tN "cause" "Ljava/lang/Throwable;") (by simp [Bundle.ownAtoms0]))
  obtain ⟨tyS, dS, hdS, hdnS⟩ := Cond.laysAt hfound hk Y.stack (a' (.lays cls Bundle.tN "stackTrace" Bundle.steD) (by simp [Bundle.ownAtoms0]))
  obtain ⟨tyP, dP, hdP, hdnP⟩ := Cond.laysAt hfound hk Y.supp (a' (.lays cls Bundle.tN "suppressedExceptions" Bundle.listD) (by simp [Bundle.ownAtoms0]))
  obtain ⟨tyM, dM, hdM, hdnM⟩ := Cond.laysAt hfound hk hffM (a' (.lays cls Bundle.tN "detailMessage" "Ljava/lang/String;") (by simp [Bundle.ownAtoms0]))
  obtain ⟨tyB, dB, hdB, hdnB⟩ := Cond.laysAt hfound hk hffB (a' (.lays cls Bundle.tN "backtrace" "Ljava/lang/Object;") (by simp [Bundle.ownAtoms0]))
  have bC := Cond.laysApart hdB hdC hdnB hdnC (by rw [hnB, Y.causeName]; decide)
  have bS := Cond.laysApart hdB hdS hdnB hdnS (by rw [hnB, Y.stackName]; decide)
  have bP := Cond.laysApart hdB hdP hdnB hdnP (by rw [hnB, Y.suppName]; decide)
  have hskip : SkipFacts T e.platform s (fun u => u) u0 ((preparedCellV T.toThrowableT (freshCell P1.m.cls kX) a u0 sen).withEntry W.cur) :=
    ⟨{ ci198 := ci198, i198 := i198, fBack := fB }, ⟨hk198, hg198, ha198, hsB⟩, by
      have := fresh_default (c := P1.m.cls) tyB
      rw [htB] at this
      simpa [preparedCellV, Cell.setSlot, Cell.withEntry, Array.getElem?_setIfInBounds, bC, bS, bP, bC.symm, bS.symm, bP.symm, defaultValue] using this, fun _ _ => rfl⟩
  obtain ⟨tm, methC, cdC, kC, vm₁, hnC, -, -, -, -, -, -, -, hW₁, st1⟩ := Steps.initCold (tb := p.tables) (e := e) (below := below) (s := s) (U := W) X.here hexec X.warmed hpl hown (t := Bundle.init0 cls) rfl rfl (Bundle.fit_spec hcls).2
    (a' (.methodLink own ic (Bundle.init0 cls)) (by simp [Bundle.ownAtoms0])) (h (.instanceMethod (Bundle.init0 cls)) (by cases names <;> simp [Bundle.ownAtoms0, Bundle.chain0Atoms, Bundle.passAtoms])) (bytes := Bundle.five) (maxL := 1) (h (.code (Bundle.init0 cls) Bundle.five 1 none) (by cases names <;> simp [Bundle.ownAtoms0, Bundle.chain0Atoms, Bundle.passAtoms]))
    (f := g) hg (a := a) (rest := .ref a :: rest) hstack hd6
  cases Option.some.inj (hnC.symm.trans hP1m)
  have X₁ := X.noted hW₁
  obtain ⟨vm₂, X₂, st2⟩ := X₁.ctorPlainOffV hexec (g := { g with stack := .ref a :: rest }) hg hsize T L Z LZ (P1 :: Ps)
    (fun P hP => by rcases List.mem_cons.mp hP with rfl | hP; exact L1; exact hL P hP) ⟨hlink1, hlink⟩ (u0 := u0) (sen := sen) (self := a) (cell := freshCell P1.m.cls kX) (cellS := cellS)
    hcell (fun _ => by simp) (by simp) rfl rfl hsel0 hselF hcellS hneS hknownS (by rw [hkeep _ (hout' _)]; exact hu0) (by rw [hkeep _ (hout' _)]; exact hsen)
    (Takes.of_laid hk hord tyC (by rw [Y.causeType]; rfl)) (Takes.of_laid hk hord tyS (by rw [Y.stackType]; exact fits_refV_array _ u0)) (Takes.of_laid hk hord tyP (by rw [Y.suppType]; exact fits_refV_object _ sen)) Y.objLocals hskip htr [] hd6
    (by simp only [List.length_cons, hlen]; omega) (by simp only [List.length_cons, hlen]; exact hRlocals)
  have hlt : a < ((W.setVm vm₁).setVm vm₂).heap.size := (Array.getElem?_eq_some_iff.mp hcell).1
  refine ⟨(W.setVm vm₁).setVm vm₂, _, _, X₂, fun y hy => ?_, hlt, rfl, rfl, fun target hwalk => st1 _ (fun acts => ?_)⟩
  · simp only [List.mem_cons, List.not_mem_nil, or_false] at hy
    rcases hy with rfl | rfl | rfl | rfl <;> rfl
  · rw [doInvoke_state]
    exact st2 _ hwalk
end VXK
section VXK2
variable {p : Program} {l : Launch} {e : Env} {R : Room} {s : State} {m : MethodId} {args : Array Value} {below : List Frame} {meth : Method} {c : Code} {H : Heap} {locs : List Loc} {cells slots : Nat} {Q : State → Prop}
variable {ls : Array Slot} {rest : List Value} {D : va_G} {cl : List vw_C} {tys : List (ClassId × FieldType)} {ws : va_W}
/-- 'new E("text")' that isn't thrown at once: the object goes on the stack -/
theorem vx_makeS {cc : ByteArray} {pc : Nat} (hexec : p.tables.exec = Jvm.exec) (hb : c.code = cc) (hl : l.stackTraces = false) {own cls text : String} {names : List String} {ik is ic sa ci : Nat} {A : Nat → Prop} {T0 : u_T}
    (hown : s.vm.findClass own = some m.cls) (hcls : Bundle.fit cls = true) (hnames : ∀ n ∈ names, Bundle.fit n = true)
    (hk : (Cond.classLink own ik cls).before args s = true) (hini : (Cond.initialized cls).before args s = true) (hstr : vk_R own is text sa s) (hat : ∀ w ∈ vx_atS own ic cls names, w.before args s = true)
    (hgood : ∀ w ∈ Cond.classLink own ik cls :: Cond.initialized cls :: vx_atS own ic cls names, vx_ot w = true)
    (hU : vx_Zq Bundle.tN "UNASSIGNED_STACK" Bundle.steD A s s.heap) (hN : vx_Zq Bundle.tN "SUPPRESSED_SENTINEL" Bundle.listD A s s.heap) (hS : va_S A s.heap H locs) (hsize : ls.size = c.maxLocals)
    (d0 : decode cc pc = .ok (.new ik, 3)) (d3 : decode cc (pc + 3) = .ok (.dup, 1)) (d4 : decode cc (pc + 4) = .ok (.ldc is, 2)) (d6 : decode cc (pc + 6) = .ok (.invokespecial ic, 3))
    (hK : va_K D cl tys s) (hP : va_P D cl ws H) (hD : va_D A ws) (hA : ∀ q, s.heap.size ≤ q → A q) (hc : cl[ci]? = some (cls, T0, 0))
    (hRframes : names.length + 3 < R.frames) (hRlocals : (rest.map fun v => v.category).sum + (13 * (names.length + 1) + 43) ≤ R.locals) (hRcells : cells + 1 ≤ R.cells) (hRslots : slots + 6 ≤ R.slots)
    (kk : ∀ (q : Nat) (H1 : Heap), va_P D cl (ws ++ [(q, .inr (ci, []))]) H1 → va_D A (ws ++ [(q, .inr (ci, []))]) → va_S A s.heap H1 locs → W p l e R s m args below meth c H1 locs (cells + 1) (slots + 6) Q (F0 m (pc + 9) ls (.ref q :: rest))) :
    W p l e R s m args below meth c H locs cells slots Q (F0 m pc ls rest) := by
  intro T hT X
  subst hT
  have htr : e.platform.stackTraces = false := (show e.platform.stackTraces = l.stackTraces by rw [X.admits.platform]).trans hl
  have Y := vx_rebase X (R' := { frames := R.frames, locals := R.locals, cells := 1, slots := 6 }) (Nat.le_refl _) (Nat.le_refl _) hRcells hRslots
  obtain ⟨s', hA'⟩ : ∃ z, z = (T.setVm s.vm).setFrames (.invoking m args :: below) := ⟨_, rfl⟩
  rw [← hA'] at Y
  have hvm : s'.vm = s.vm := by rw [hA']; rfl
  have hhp : s'.heap = T.heap := by rw [hA']; rfl
  have hW0 : s.WarmedH s'.vm := by rw [hvm]; exact State.WarmedH.refl s
  have hat' : ∀ w ∈ vx_atS own ic cls names, w.before args s' = true := fun w hw => vx_ot_at hW0 hvm.symm (hgood w (List.mem_cons_of_mem _ (List.mem_cons_of_mem _ hw))) (hat w hw)
  have hk' : (Cond.classLink own ik cls).before args s' = true := vx_ot_at hW0 hvm.symm (hgood _ List.mem_cons_self) hk
  have hini' : (Cond.initialized cls).before args s' = true := vx_ot_at hW0 hvm.symm (hgood _ (List.mem_cons_of_mem _ List.mem_cons_self)) hini
  have hU' : vx_Zq Bundle.tN "UNASSIGNED_STACK" Bundle.steD A s' s'.heap := by rw [hhp]; exact vx_Zq.moved hW0.alike (hU.kept hS.2.1)
  have hN' : vx_Zq Bundle.tN "SUPPRESSED_SENTINEL" Bundle.listD A s' s'.heap := by rw [hhp]; exact vx_Zq.moved hW0.alike (hN.kept hS.2.1)
  have h : ∀ w ∈ Bundle.ownAtoms own ic cls names, w.before args s' = true := vx_own hat' (vx_isRefq hU'.1) (vx_isRefq hN'.1) hU'.2.word hN'.2.word
  have hown' : s'.vm.findClass own = some m.cls := by rw [hvm]; exact hown
  have hins : (Cond.instantiable cls 6).before args s' = true := h _ (by simp [Bundle.ownAtoms])
  obtain ⟨vm₁, cX, kX, hfX, hkX, -, -, X₁, st1⟩ := Y.newCold hexec (own := own) (C := cls) (index := ik) (n := 6) hown' hk' hins hini'
    (g := F0 m pc ls rest) rfl (by rw [hb]; exact d0) (Nat.le_refl _) (Nat.le_refl _)
  generalize hT1 : (T.setVm vm₁).pushCell { cls := cX, slots := kX.instanceTypes.map defaultValue, vm := .none } = T1 at X₁ st1
  have hcat : (Value.ref T.heap.size).category = 1 := rfl
  have hcellA : T1.heap[T.heap.size]? = some (freshCell cX kX) := by rw [← hT1]; exact State.heap_pushCell_size _ _
  have d3' : decode c.code (pc + 3) = .ok (.dup, 1) := by rw [hb]; exact d3
  have d4' : decode c.code (pc + 4) = .ok (.ldc is, 2) := by rw [hb]; exact d4
  have hstr' : vk_R own is text sa s' := vk_R.warm hW0 hstr
  obtain ⟨V, ce, L, Z, hL, hlt, hcl9, hvm9, st⟩ := vx_ctorMadeS X₁ hexec htr (own := own) (cls := cls) (names := names) (ic := ic) hown' hcls hnames h (fun x hx => nomatch hx) hfX hkX hcellA (by rw [hhp]; exact Nat.le_refl _) (msg := .ref sa) rfl
    (g := { method := m, pc := pc + 6, locals := ls, stack := .ref sa :: .ref T.heap.size :: .ref T.heap.size :: rest, locked := none }) rfl hsize (rest := rest) rfl
    (by rw [hb]; exact d6) hRframes (by simp only [List.map_cons, List.sum_cons, hcat]; omega)
  have Z0 := Stand.forget (locs := []) Z (fun y hy => by rw [hL y hy, hhp]; exact Nat.le_refl _)
  obtain ⟨f1, f2⟩ := vx_frame Z0.same
  rw [hhp] at f1 f2
  have hcid : ce.cls = D.1 ci := by
    rw [hcl9]
    have h1 := (hK.1 ci _ hc).2.1
    rw [hvm] at hfX
    exact Option.some.inj (hfX.symm.trans h1)
  have hh : (V.setCell T.heap.size ce).heap[T.heap.size]? = some ce := heapAt_setCell_self (s := V) ce hlt
  subst hA'
  have X5 := vx_back9 X Y Z0
  have X6 : Stand p l e R s m args below meth c (V.setCell T.heap.size ce) locs (cells + 1) (slots + 6) := { X5 with same := X5.same.mono (by omega) (by omega) }
  have hk9 : ∀ (k : Nat) (x : Nat × va_E), ws[k]? = some x → (V.setCell T.heap.size ce).heap[x.1]? = T.heap[x.1]? := fun k x hx => f2 x.1 ((hP k x hx).lt) (fun z hz => nomatch hz)
  obtain ⟨t, a1, b1⟩ := kk T.heap.size (V.setCell T.heap.size ce).heap ((hP.kept hk9).app (fun k x hx => by
      have hz : k < 1 := (List.getElem?_eq_some_iff.mp hx).1
      rw [show k = 0 by omega] at hx
      cases hx
      exact ⟨_, hc, ce, hh, hcid, hvm9, fun k hk => absurd hk (Nat.not_lt_zero k)⟩)) (hD.push hP rfl (hA _ hS.1)) ⟨Nat.le_trans hS.1 f1, fun q h1 h2 => (f2 q (Nat.lt_of_lt_of_le h1 hS.1) (fun z hz => nomatch hz)).trans (hS.2.1 q h1 h2), hS.2.2⟩ _ rfl X6
  refine ⟨t, st1 _ ?_, b1⟩
  show Steps p.tables e below (T1.setTop { method := m, pc := pc + 3, locals := ls, stack := .ref T.heap.size :: rest, locked := none }) _
  jvm_step X₁.here [X₁.here.top, hexec, d3', Value.category]
  exact X₁.ldcString hexec (own := own) (text := text) (index := is) (a := sa) hown' hstr'.1 hstr'.2
    (g := { method := m, pc := pc + 4, locals := ls, stack := .ref T.heap.size :: .ref T.heap.size :: rest, locked := none }) rfl d4' _ (st _ a1)
/-- 'new E()' that isn't thrown at once: the object goes on the stack -/
theorem vx_make0 {cc : ByteArray} {pc : Nat} (hexec : p.tables.exec = Jvm.exec) (hb : c.code = cc) (hl : l.stackTraces = false) {own cls : String} {names : List String} {ik ic ci : Nat} {A : Nat → Prop} {T0 : u_T}
    (hown : s.vm.findClass own = some m.cls) (hcls : Bundle.fit cls = true) (hnames : ∀ n ∈ names, Bundle.fit n = true)
    (hk : (Cond.classLink own ik cls).before args s = true) (hini : (Cond.initialized cls).before args s = true) (hat : ∀ w ∈ vx_at0 own ic cls names, w.before args s = true)
    (hgood : ∀ w ∈ Cond.classLink own ik cls :: Cond.initialized cls :: vx_at0 own ic cls names, vx_ot w = true)
    (hU : vx_Zq Bundle.tN "UNASSIGNED_STACK" Bundle.steD A s s.heap) (hN : vx_Zq Bundle.tN "SUPPRESSED_SENTINEL" Bundle.listD A s s.heap) (hS : va_S A s.heap H locs) (hsize : ls.size = c.maxLocals)
    (d0 : decode cc pc = .ok (.new ik, 3)) (d3 : decode cc (pc + 3) = .ok (.dup, 1)) (d4 : decode cc (pc + 4) = .ok (.invokespecial ic, 3))
    (hK : va_K D cl tys s) (hP : va_P D cl ws H) (hD : va_D A ws) (hA : ∀ q, s.heap.size ≤ q → A q) (hc : cl[ci]? = some (cls, T0, 0))
    (hRframes : names.length + 3 < R.frames) (hRlocals : (rest.map fun v => v.category).sum + (13 * (names.length + 1) + 42) ≤ R.locals) (hRcells : cells + 1 ≤ R.cells) (hRslots : slots + 6 ≤ R.slots)
    (kk : ∀ (q : Nat) (H1 : Heap), va_P D cl (ws ++ [(q, .inr (ci, []))]) H1 → va_D A (ws ++ [(q, .inr (ci, []))]) → va_S A s.heap H1 locs → W p l e R s m args below meth c H1 locs (cells + 1) (slots + 6) Q (F0 m (pc + 7) ls (.ref q :: rest))) :
    W p l e R s m args below meth c H locs cells slots Q (F0 m pc ls rest) := by
  intro T hT X
  subst hT
  have htr : e.platform.stackTraces = false := (show e.platform.stackTraces = l.stackTraces by rw [X.admits.platform]).trans hl
  have Y := vx_rebase X (R' := { frames := R.frames, locals := R.locals, cells := 1, slots := 6 }) (Nat.le_refl _) (Nat.le_refl _) hRcells hRslots
  obtain ⟨s', hA'⟩ : ∃ z, z = (T.setVm s.vm).setFrames (.invoking m args :: below) := ⟨_, rfl⟩
  rw [← hA'] at Y
  have hvm : s'.vm = s.vm := by rw [hA']; rfl
  have hhp : s'.heap = T.heap := by rw [hA']; rfl
  have hW0 : s.WarmedH s'.vm := by rw [hvm]; exact State.WarmedH.refl s
  have hat' : ∀ w ∈ vx_at0 own ic cls names, w.before args s' = true := fun w hw => vx_ot_at hW0 hvm.symm (hgood w (List.mem_cons_of_mem _ (List.mem_cons_of_mem _ hw))) (hat w hw)
  have hk' : (Cond.classLink own ik cls).before args s' = true := vx_ot_at hW0 hvm.symm (hgood _ List.mem_cons_self) hk
  have hini' : (Cond.initialized cls).before args s' = true := vx_ot_at hW0 hvm.symm (hgood _ (List.mem_cons_of_mem _ List.mem_cons_self)) hini
  have hU' : vx_Zq Bundle.tN "UNASSIGNED_STACK" Bundle.steD A s' s'.heap := by rw [hhp]; exact vx_Zq.moved hW0.alike (hU.kept hS.2.1)
  have hN' : vx_Zq Bundle.tN "SUPPRESSED_SENTINEL" Bundle.listD A s' s'.heap := by rw [hhp]; exact vx_Zq.moved hW0.alike (hN.kept hS.2.1)
  have h : ∀ w ∈ Bundle.ownAtoms0 own ic cls names, w.before args s' = true := vx_own hat' (vx_isRefq hU'.1) (vx_isRefq hN'.1) hU'.2.word hN'.2.word
  have hown' : s'.vm.findClass own = some m.cls := by rw [hvm]; exact hown
  have hins : (Cond.instantiable cls 6).before args s' = true := h _ (by simp [Bundle.ownAtoms0])
  obtain ⟨vm₁, cX, kX, hfX, hkX, -, -, X₁, st1⟩ := Y.newCold hexec (own := own) (C := cls) (index := ik) (n := 6) hown' hk' hins hini'
    (g := F0 m pc ls rest) rfl (by rw [hb]; exact d0) (Nat.le_refl _) (Nat.le_refl _)
  generalize hT1 : (T.setVm vm₁).pushCell { cls := cX, slots := kX.instanceTypes.map defaultValue, vm := .none } = T1 at X₁ st1
  have hcat : (Value.ref T.heap.size).category = 1 := rfl
  have hcellA : T1.heap[T.heap.size]? = some (freshCell cX kX) := by rw [← hT1]; exact State.heap_pushCell_size _ _
  have d3' : decode c.code (pc + 3) = .ok (.dup, 1) := by rw [hb]; exact d3
  obtain ⟨V, ce, L, Z, hL, hlt, hcl9, hvm9, st⟩ := vx_ctorMade0 X₁ hexec htr (own := own) (cls := cls) (names := names) (ic := ic) hown' hcls hnames h (fun x hx => nomatch hx) hfX hkX hcellA (by rw [hhp]; exact Nat.le_refl _)
    (g := { method := m, pc := pc + 4, locals := ls, stack := .ref T.heap.size :: .ref T.heap.size :: rest, locked := none }) rfl hsize (rest := rest) rfl
    (by rw [hb]; exact d4) hRframes (by simp only [List.map_cons, List.sum_cons, hcat]; omega)
  have Z0 := Stand.forget (locs := []) Z (fun y hy => by rw [hL y hy, hhp]; exact Nat.le_refl _)
  obtain ⟨f1, f2⟩ := vx_frame Z0.same
  rw [hhp] at f1 f2
  have hcid : ce.cls = D.1 ci := by
    rw [hcl9]
    have h1 := (hK.1 ci _ hc).2.1
    rw [hvm] at hfX
    exact Option.some.inj (hfX.symm.trans h1)
  have hh : (V.setCell T.heap.size ce).heap[T.heap.size]? = some ce := heapAt_setCell_self (s := V) ce hlt
  subst hA'
  have X5 := vx_back9 X Y Z0
  have X6 : Stand p l e R s m args below meth c (V.setCell T.heap.size ce) locs (cells + 1) (slots + 6) := { X5 with same := X5.same.mono (by omega) (by omega) }
  have hk9 : ∀ (k : Nat) (x : Nat × va_E), ws[k]? = some x → (V.setCell T.heap.size ce).heap[x.1]? = T.heap[x.1]? := fun k x hx => f2 x.1 ((hP k x hx).lt) (fun z hz => nomatch hz)
  obtain ⟨t, a1, b1⟩ := kk T.heap.size (V.setCell T.heap.size ce).heap ((hP.kept hk9).app (fun k x hx => by
      have hz : k < 1 := (List.getElem?_eq_some_iff.mp hx).1
      rw [show k = 0 by omega] at hx
      cases hx
      exact ⟨_, hc, ce, hh, hcid, hvm9, fun k hk => absurd hk (Nat.not_lt_zero k)⟩)) (hD.push hP rfl (hA _ hS.1)) ⟨Nat.le_trans hS.1 f1, fun q h1 h2 => (f2 q (Nat.lt_of_lt_of_le h1 hS.1) (fun z hz => nomatch hz)).trans (hS.2.1 q h1 h2), hS.2.2⟩ _ rfl X6
  refine ⟨t, st1 _ ?_, b1⟩
  show Steps p.tables e below (T1.setTop { method := m, pc := pc + 3, locals := ls, stack := .ref T.heap.size :: rest, locked := none }) _
  jvm_step X₁.here [X₁.here.top, hexec, d3', Value.category]
  exact st _ a1
/-- 'throw x' of an object that was made before -/
theorem vx_athrow {cc : ByteArray} {pc : Nat} (hexec : p.tables.exec = Jvm.exec) (hb : c.code = cc) {q : Addr} (hdg : decode cc pc = .ok (.athrow, 1)) (k : vx_W p l e R s m args below meth c H locs cells slots Q (F0 m pc ls rest) q) : W p l e R s m args below meth c H locs cells slots Q (F0 m pc ls (.ref q :: rest)) := by
  intro T hT X
  obtain ⟨t, st, hq⟩ := k T hT X
  refine ⟨t, ?_, hq⟩
  have hdg' : decode c.code pc = .ok (.athrow, 1) := by rw [hb]; exact hdg
  jvm_step X.here [X.here.top, hexec, hdg', athrow.wp_sem]
  exact st
end VXK2
/-! ===== END ===== -/
/-! ===== BEGIN a constructor that throws (launches without stack traces) ===== -/
section VXIA
variable {p : Program} {l : Launch} {e : Env} {R : Room} {s : State} {m : MethodId} {args : Array Value} {below : List Frame} {meth : Method} {c : Code} {T : State} {locs : List Loc} {cells slots : Nat}
theorem vx_callI (X : Stand p l e R s m args below meth c T locs cells slots) (hexec : p.tables.exec = Jvm.exec) {own : String} {index : Nat} {y : MethodName} {bytes : ByteArray} {maxL : Nat}
    (hown : s.vm.findClass own = some m.cls) (hy1 : y.name = "<init>") (hlink : (Cond.methodLink own index y).before args s = true) (hinst : (Cond.instanceMethod y).before args s = true)
    (hcode : (Cond.code y bytes maxL none).before args s = true) (hy : y.cls ≠ "java/lang/invoke/MethodHandle" ∧ y.cls ≠ "java/lang/invoke/VarHandle")
    {W9 : Nat} {Pre : Pt → Array Value → Prop} {Post : Pt → Array Value → Option Value → Pt → Prop} {PostX : Pt → Array Value → Addr → Pt → Prop} (hK : vx_Back l R p e below s args y 3 W9 Pre Post PostX)
    {g : JFrame} (hg : g.method = m) (hsize : g.locals.size = c.maxLocals) {a : Addr} {argsL rest : List Value} (hlen : ∀ sig, parseMethodDescriptor y.desc = some sig → argsL.length = sig.parameters.length)
    (hstack : g.stack = argsL.reverse ++ .ref a :: rest) (hW : 2 * g.monitorRoom + (rest.map fun v => v.category).sum ≤ W9) (hdg : decode c.code g.pc = .ok (.invokespecial index, 3))
    (hpre : ∀ vm₁, s.WarmedH vm₁ → Pre ⟨T.setVm vm₁, locs, cells, slots⟩ (Value.ref a :: argsL).toArray) :
    (∃ (v : Option Value) (vm₁ : Vm) (B : Pt), s.WarmedH vm₁ ∧ Stand p l e R s m args below meth c B.U B.locs B.cells B.slots ∧ Post ⟨T.setVm vm₁, locs, cells, slots⟩ (Value.ref a :: argsL).toArray v B ∧
      ∀ target, Steps p.tables e below (B.U.setTop { g with pc := g.pc + 3, stack := v.toList ++ rest }) target → Steps p.tables e below (T.setTop g) target) ∨
    (∃ (q : Addr) (vm₁ : Vm) (B : Pt), s.WarmedH vm₁ ∧ Stand p l e R s m args below meth c B.U B.locs B.cells B.slots ∧ PostX ⟨T.setVm vm₁, locs, cells, slots⟩ (Value.ref a :: argsL).toArray q B ∧
      Steps p.tables e below (T.setTop g) ((B.U.setTop { g with stack := rest }).pushFrame (.throwing q))) := by
  subst hg
  have hpl : e.platform.magicAccessors = ({} : Platform).magicAccessors := by rw [X.admits.platform]
  obtain ⟨mk, methM, cM, kP, vm₁, hnamed, hmethM, hcodeM, -, hlocalsM, -, hkP, -, hW₁, hstep₁⟩ := Steps.initColdArgs (e := e) X.here hexec X.warmed hpl hown hy1 hy hlink hinst hcode (f := g) rfl hlen hstack hdg
  have X₁ := X.noted hW₁
  rcases hK g.method meth c ⟨T.setVm vm₁, locs, cells, slots⟩ { g with stack := rest } (.invokespecial index) mk (Value.ref a :: argsL).toArray X₁ rfl hsize hdg hW (X₁.named hnamed) (hpre vm₁ X₁.warmed) with ⟨v, B, X', hpost, hsteps⟩ | ⟨q, B, X', hpost, hsteps⟩
  · exact Or.inl ⟨v, vm₁, B, X₁.warmed, X', hpost, fun target h => hstep₁ _ fun acts => by rw [doInvoke_state]; exact hsteps.trans h⟩
  · exact Or.inr ⟨q, vm₁, B, X₁.warmed, X', hpost, hstep₁ _ fun acts => by rw [doInvoke_state]; exact hsteps⟩
end VXIA
section VXIB
variable {p : Program} {l : Launch} {e : Env} {R : Room} {s : State} {m : MethodId} {args : Array Value} {below : List Frame} {meth : Method} {c : Code} {H : Heap} {locs : List Loc} {cells slots : Nat}
variable {y : MethodName} {bytes cc : ByteArray} {maxL nL mc ms n index : Nat} {ret : Option FieldType} {ws : List Cond} {rm : Room} {Pc : Array Value → State → Prop} {Qc : Array Value → State → Outcome → State → Prop} {XC : String → State → State → Prop} {free : Addr → Prop} {Ts : List Cond} {own C : String} {b : Addr} {As rest : List Value} {g : JFrame}
theorem vx_runI (S : CallFix p m c cc nL s args Ts own) (hM : vx_Met l y ws rm Pc Qc XC mc ms free) (cw : CallB R s args own index y bytes maxL none ws rm mc ms n ∧ y.name = "<init>" ∧ (Cond.instanceMethod y).before args s = true) (hp : PreS s H Pc (.ref b :: As))
    (hg : g.method = m) (hn : As.length = n) (hsize : g.locals.size = nL) (hstack : g.stack = As.reverse ++ .ref b :: rest) (hW : 2 * g.monitorRoom + (rest.map fun v => v.category).sum ≤ 8) (hdg : decode cc g.pc = .ok (.invokespecial index, 3)) (hf : cells + mc ≤ R.cells ∧ slots + ms ≤ R.slots) :
    vx_Run p l e R s m args below meth c H locs cells slots mc ms g rest (Qc (Value.ref b :: As).toArray) XC free := by
  have hK : vx_Back l R p e below s args y 3 8 (PreOf R mc ms Pc) (PostOf Qc mc ms free) (vx_Post XC mc ms free) := vx_callBack cw.1 hM hp.1
  obtain ⟨⟨-, -, -, -, -, -, hcode, -, hy, hlen, hl⟩, hy1, hin⟩ := cw
  obtain ⟨hx, hb, hml, ho, -⟩ := S
  have hPc := hp.2
  intro T hT X
  rcases vx_callI X hx (bytes := bytes) (maxL := maxL) ho hy1 hl hin hcode hy hK hg (hsize.trans hml.symm) (a := b) (argsL := As) (rest := rest) (fun sig h => hn.trans (hlen sig h)) hstack hW (by rw [hb]; exact hdg)
    (fun vm₁ hW₁ => ⟨hf.1, hf.2, hPc (T.setVm vm₁) hT hW₁⟩) with ⟨v, vm₁, ⟨U', l2, c2, s2⟩, hW₁, X', ⟨g', mk, t, L, e1, e2, hq, h1, hL, h2, h3⟩, st⟩ | ⟨q, vm₁, ⟨U', l2, c2, s2⟩, hW₁, X', ⟨g', mk, t, L, E, ce, e1, e2, hq, hce, hcv, hcl, h1, hL, h2, h3⟩, st⟩
  · dsimp only [Pt.U, Pt.locs, Pt.cells, Pt.slots] at X' e1 e2 h1 h2 h3 st
    subst h1; subst h2; subst h3
    exact Or.inl ⟨v, (T.setVm vm₁).calling g' mk (Value.ref b :: As).toArray, t, U', L, hT, X', hL, e1, e2, hq, st⟩
  · dsimp only [Pt.U, Pt.locs, Pt.cells, Pt.slots] at X' e1 e2 h1 h2 h3 st hcl
    subst h1; subst h2; subst h3
    exact Or.inr ⟨q, (T.setVm vm₁).calling g' mk (Value.ref b :: As).toArray, t, U', L, E, ce, hT, X', hL, e1, e2, hq, hce, hcv, vx_cls hW₁ hcl, st⟩
end VXIB
/-! ===== END ===== -/
/-! ===== BEGIN a private constructor of a nest mate that throws ===== -/
section VXIC
variable {p : Program} {l : Launch} {e : Env} {R : Room} {s : State} {m : MethodId} {args : Array Value} {below : List Frame} {meth : Method} {c : Code} {T : State} {locs : List Loc} {cells slots : Nat}
theorem vx_callIN (X : Stand p l e R s m args below meth c T locs cells slots) (hexec : p.tables.exec = Jvm.exec) {own : String} {index : Nat} {host : String} {y : MethodName} {bytes : ByteArray} {maxL : Nat}
    (hown : s.vm.findClass own = some m.cls) (hy1 : y.name = "<init>") (hlink : (Cond.methodLinkNest own index y host).before args s = true) (hinst : (Cond.instanceMethod y).before args s = true)
    (hcode : (Cond.code y bytes maxL none).before args s = true) (hy : y.cls ≠ "java/lang/invoke/MethodHandle" ∧ y.cls ≠ "java/lang/invoke/VarHandle")
    {W9 : Nat} {Pre : Pt → Array Value → Prop} {Post : Pt → Array Value → Option Value → Pt → Prop} {PostX : Pt → Array Value → Addr → Pt → Prop} (hK : vx_Back l R p e below s args y 3 W9 Pre Post PostX)
    {g : JFrame} (hg : g.method = m) (hsize : g.locals.size = c.maxLocals) {a : Addr} {argsL rest : List Value} (hlen : ∀ sig, parseMethodDescriptor y.desc = some sig → argsL.length = sig.parameters.length)
    (hstack : g.stack = argsL.reverse ++ .ref a :: rest) (hW : 2 * g.monitorRoom + (rest.map fun v => v.category).sum ≤ W9) (hdg : decode c.code g.pc = .ok (.invokespecial index, 3))
    (hpre : ∀ vm₁, s.WarmedH vm₁ → Pre ⟨T.setVm vm₁, locs, cells, slots⟩ (Value.ref a :: argsL).toArray) :
    (∃ (v : Option Value) (vm₁ : Vm) (B : Pt), s.WarmedH vm₁ ∧ Stand p l e R s m args below meth c B.U B.locs B.cells B.slots ∧ Post ⟨T.setVm vm₁, locs, cells, slots⟩ (Value.ref a :: argsL).toArray v B ∧
      ∀ target, Steps p.tables e below (B.U.setTop { g with pc := g.pc + 3, stack := v.toList ++ rest }) target → Steps p.tables e below (T.setTop g) target) ∨
    (∃ (q : Addr) (vm₁ : Vm) (B : Pt), s.WarmedH vm₁ ∧ Stand p l e R s m args below meth c B.U B.locs B.cells B.slots ∧ PostX ⟨T.setVm vm₁, locs, cells, slots⟩ (Value.ref a :: argsL).toArray q B ∧
      Steps p.tables e below (T.setTop g) ((B.U.setTop { g with stack := rest }).pushFrame (.throwing q))) := by
  subst hg
  have hpl : e.platform.magicAccessors = ({} : Platform).magicAccessors := by rw [X.admits.platform]
  obtain ⟨mk, methM, cM, kP, vm₁, hnamed, hmethM, hcodeM, -, hlocalsM, -, hkP, -, hW₁, hstep₁⟩ := Steps.initColdArgsNest (e := e) X.here hexec X.warmed hpl hown hy1 hy hlink hinst hcode (f := g) rfl hlen hstack hdg
  have X₁ := X.noted hW₁
  rcases hK g.method meth c ⟨T.setVm vm₁, locs, cells, slots⟩ { g with stack := rest } (.invokespecial index) mk (Value.ref a :: argsL).toArray X₁ rfl hsize hdg hW (X₁.named hnamed) (hpre vm₁ X₁.warmed) with ⟨v, B, X', hpost, hsteps⟩ | ⟨q, B, X', hpost, hsteps⟩
  · exact Or.inl ⟨v, vm₁, B, X₁.warmed, X', hpost, fun target h => hstep₁ _ fun acts => by rw [doInvoke_state]; exact hsteps.trans h⟩
  · exact Or.inr ⟨q, vm₁, B, X₁.warmed, X', hpost, hstep₁ _ fun acts => by rw [doInvoke_state]; exact hsteps⟩
end VXIC
section VXID
variable {p : Program} {l : Launch} {e : Env} {R : Room} {s : State} {m : MethodId} {args : Array Value} {below : List Frame} {meth : Method} {c : Code} {H : Heap} {locs : List Loc} {cells slots : Nat}
theorem vx_runIN {y : MethodName} {bytes cc : ByteArray} {maxL nL mc ms n index : Nat} {ws : List Cond} {rm : Room} {Pc : Array Value → State → Prop} {Qc : Array Value → State → Outcome → State → Prop} {XC : String → State → State → Prop} {free : Addr → Prop} {Ts : List Cond} {own host : String} {b : Addr} {As rest : List Value} {g : JFrame}
    (S : CallFix p m c cc nL s args Ts own) (hM : vx_Met l y ws rm Pc Qc XC mc ms free) (cw : va_CN R s args own index y host bytes maxL none ws rm mc ms n ∧ y.name = "<init>" ∧ (Cond.instanceMethod y).before args s = true) (hp : PreS s H Pc (.ref b :: As))
    (hg : g.method = m) (hn : As.length = n) (hsize : g.locals.size = nL) (hstack : g.stack = As.reverse ++ .ref b :: rest) (hW : 2 * g.monitorRoom + (rest.map fun v => v.category).sum ≤ 8) (hdg : decode cc g.pc = .ok (.invokespecial index, 3)) (hf : cells + mc ≤ R.cells ∧ slots + ms ≤ R.slots) :
    vx_Run p l e R s m args below meth c H locs cells slots mc ms g rest (Qc (Value.ref b :: As).toArray) XC free := by
  obtain ⟨⟨⟨hrc, hrs, hfr, hlo, hws, hcw⟩, hcode, hini, hy, hlen, hl⟩, hx1, hx2⟩ := cw
  have hK : vx_Back l R p e below s args y 3 8 (PreOf R mc ms Pc) (PostOf Qc mc ms free) (vx_Post XC mc ms free) := vx_back (bytes := bytes) (maxL := maxL) (ret := none) hM hp.1 hrc hrs hfr hlo hws hcw (fun a' U hW => word_at hW (Or.inl (by first | rfl | simp [Cond.onTables, Cond.keeps, Cond.steady])) hini)
  obtain ⟨hx, hb, hml, ho, -⟩ := S
  have hPc := hp.2
  intro T hT X
  rcases vx_callIN X hx (bytes := bytes) (maxL := maxL) ho hx1 hl hx2 hcode hy hK hg (hsize.trans hml.symm) (a := b) (argsL := As) (rest := rest) (fun sig h => hn.trans (hlen sig h)) hstack hW (by rw [hb]; exact hdg)
    (fun vm₁ hW₁ => ⟨hf.1, hf.2, hPc (T.setVm vm₁) hT hW₁⟩) with ⟨v, vm₁, ⟨U', l2, c2, s2⟩, hW₁, X', ⟨g', mk, t, L, e1, e2, hq, h1, hL, h2, h3⟩, st⟩ | ⟨q, vm₁, ⟨U', l2, c2, s2⟩, hW₁, X', ⟨g', mk, t, L, E, ce, e1, e2, hq, hce, hcv, hcl, h1, hL, h2, h3⟩, st⟩
  · dsimp only [Pt.U, Pt.locs, Pt.cells, Pt.slots] at X' e1 e2 h1 h2 h3 st
    subst h1; subst h2; subst h3
    exact Or.inl ⟨v, (T.setVm vm₁).calling g' mk (Value.ref b :: As).toArray, t, U', L, hT, X', hL, e1, e2, hq, st⟩
  · dsimp only [Pt.U, Pt.locs, Pt.cells, Pt.slots] at X' e1 e2 h1 h2 h3 st hcl
    subst h1; subst h2; subst h3
    exact Or.inr ⟨q, (T.setVm vm₁).calling g' mk (Value.ref b :: As).toArray, t, U', L, E, ce, hT, X', hL, e1, e2, hq, hce, hcv, vx_cls hW₁ hcl, st⟩
end VXID
/-! ===== END ===== -/
/-! ===== BEGIN a method of a class above, found by the receiver, that may throw (follows va_callVU, va_runU of this kit) ===== -/
section
variable {p : Program} {l : Launch} {e : Env} {R : Room} {s : State} {m : MethodId} {args : Array Value} {below : List Frame} {meth : Method} {c : Code} {H : Heap} {locs : List Loc} {cells slots : Nat}
theorem vx_callVU {T : State} {locs : List Loc} {cells slots : Nat} (X : Stand p l e R s m args below meth c T locs cells slots) (hexec : p.tables.exec = Jvm.exec) {own C owner : String} {index : Nat} {x y : MethodName} {bytes : ByteArray} {maxL : Nat} {ret : Option FieldType}
    (hown : s.vm.findClass own = some m.cls) (hlink : (Cond.methodLink own index x).before args s = true) (hsame : (Cond.sameMethod x.cls owner x.name x.desc).before args s = true)
    (hd0 : va_Decl s ⟨owner, x.name, x.desc⟩) (howner : owner ≠ "java/lang/invoke/MethodHandle" ∧ owner ≠ "java/lang/invoke/VarHandle")
    (hsel : (Cond.selects C x y).before args s = true) (hinst : (Cond.instanceMethod y).before args s = true) (hcode : (Cond.code y bytes maxL ret).before args s = true)
    {W : Nat} {Pre : Pt → Array Value → Prop} {Post : Pt → Array Value → Option Value → Pt → Prop} {PostX : Pt → Array Value → Addr → Pt → Prop} (hK : vx_Back l R p e below s args y 3 W Pre Post PostX)
    {b : Addr} {cellB : Cell} (hcell : T.heap[b]? = some cellB) (hobj : cellB.vm.isStatics = false) (hcls : s.vm.findClass C = some cellB.cls)
    {g : JFrame} (hg : g.method = m) (hsize : g.locals.size = c.maxLocals) {argsL rest : List Value} (hlen : ∀ sig, parseMethodDescriptor x.desc = some sig → argsL.length = sig.parameters.length)
    (hstack : g.stack = argsL.reverse ++ .ref b :: rest) (hW : 2 * g.monitorRoom + (rest.map fun v => v.category).sum ≤ W) (hdg : decode c.code g.pc = .ok (.invokevirtual index, 3))
    (hpre : ∀ vm₁, s.WarmedH vm₁ → Pre ⟨T.setVm vm₁, locs, cells, slots⟩ (Value.ref b :: argsL).toArray) :
    (∃ (v : Option Value) (vm₁ : Vm) (B : Pt), s.WarmedH vm₁ ∧ Stand p l e R s m args below meth c B.U B.locs B.cells B.slots ∧ Post ⟨T.setVm vm₁, locs, cells, slots⟩ (Value.ref b :: argsL).toArray v B ∧
      ∀ target, Steps p.tables e below (B.U.setTop { g with pc := g.pc + 3, stack := v.toList ++ rest }) target → Steps p.tables e below (T.setTop g) target) ∨
    (∃ (q : Addr) (vm₁ : Vm) (B : Pt), s.WarmedH vm₁ ∧ Stand p l e R s m args below meth c B.U B.locs B.cells B.slots ∧ PostX ⟨T.setVm vm₁, locs, cells, slots⟩ (Value.ref b :: argsL).toArray q B ∧
      Steps p.tables e below (T.setTop g) ((B.U.setTop { g with stack := rest }).pushFrame (.throwing q))) := by
  obtain ⟨r0, r, hn, hrm, hstR, hsigR⟩ := hd0
  obtain ⟨cn, ck, r1, hcn, hck, hni, hf, hn1⟩ := Cond.sameMethod_found hsame
  cases hn.symm.trans hn1
  obtain ⟨mk, methM, hnamed, hmethM, -, habM⟩ := Cond.instanceMethod_spec hinst
  obtain ⟨c2, r2, m2, q1, q2, q3, q4, kP, hkP, hkPi⟩ := Cond.selects_spec hsel
  cases hcls.symm.trans q1
  cases hf.symm.trans q2
  cases hnamed.symm.trans q3
  have hselP : selectMethod e.platform s.vm cellB.cls r0 = .method mk := by rw [Launch.admits_selectMethod X.admits]; exact q4
  obtain ⟨vm₁, X₁, hstep₁⟩ := X.invokevirtualUp hexec hown hlink hsame howner hn hrm hstR (a := b) (cell := cellB) hcell
    (fun z h => by rw [h] at hobj; cases hobj) hselP hmethM habM hkP hkPi (g := g) hg (argsL := argsL) (rest := rest) (hlen _ hsigR) hstack hdg
  rcases hK m meth c ⟨T.setVm vm₁, locs, cells, slots⟩ { g with stack := rest } (.invokevirtual index) mk (Value.ref b :: argsL).toArray X₁ hg hsize hdg hW (X₁.named hnamed) (hpre vm₁ X₁.warmed) with ⟨v, B, X', hpost, hsteps⟩ | ⟨q, B, X', hpost, hsteps⟩
  · exact Or.inl ⟨v, vm₁, B, X₁.warmed, X', hpost, fun target h => hstep₁ _ fun acts => by rw [doInvoke_state]; exact hsteps.trans h⟩
  · exact Or.inr ⟨q, vm₁, B, X₁.warmed, X', hpost, hstep₁ _ fun acts => by rw [doInvoke_state]; exact hsteps⟩
theorem vx_runU {x y : MethodName} {bytes cc : ByteArray} {maxL nL mc ms n index : Nat} {ret : Option FieldType} {ws : List Cond} {rm : Room} {Pc : Array Value → State → Prop} {Qc : Array Value → State → Outcome → State → Prop} {XC : String → State → State → Prop} {free : Addr → Prop} {Ts : List Cond} {own C owner : String} {b : Addr} {As rest : List Value} {g : JFrame}
    (S : CallFix p m c cc nL s args Ts own) (hM : vx_Met l y ws rm Pc Qc XC mc ms free) (cw : va_CU R s args own C owner index x y bytes maxL ret ws rm mc ms n) (hp : PreV s H C b Pc As)
    (hg : g.method = m) (hn : As.length = n) (hsize : g.locals.size = nL) (hstack : g.stack = As.reverse ++ .ref b :: rest) (hW : 2 * g.monitorRoom + (rest.map fun v => v.category).sum ≤ 8) (hdg : decode cc g.pc = .ok (.invokevirtual index, 3)) (hf : cells + mc ≤ R.cells ∧ slots + ms ≤ R.slots) :
    vx_Run p l e R s m args below meth c H locs cells slots mc ms g rest (Qc (Value.ref b :: As).toArray) XC free := by
  obtain ⟨hrc, hrs, hfr, hlo, hws, hcw⟩ := cw.back
  have hini := cw.init
  have hK : vx_Back l R p e below s args y 3 8 (PreOf R mc ms Pc) (PostOf Qc mc ms free) (vx_Post XC mc ms free) := vx_back (bytes := bytes) (maxL := maxL) (ret := ret) hM hp.1 hrc hrs hfr hlo hws hcw (fun a' U hW => word_at hW (Or.inl (by first | rfl | simp [Cond.onTables, Cond.keeps, Cond.steady])) hini)
  obtain ⟨hx, hb, hml, ho, -⟩ := S
  obtain ⟨-, ⟨cellB, hcB, hoB, hclB⟩, hPc⟩ := hp
  intro T hT X
  rcases vx_callVU X hx (C := C) (owner := owner) (bytes := bytes) (maxL := maxL) (ret := ret) ho cw.link cw.same cw.decl cw.notMH cw.sel cw.inst cw.code hK (by rw [hT]; exact hcB) hoB hclB hg (hsize.trans hml.symm) (argsL := As) (rest := rest) (fun sig h => hn.trans (cw.len sig h)) hstack hW (by rw [hb]; exact hdg)
    (fun vm₁ hW₁ => ⟨hf.1, hf.2, hPc (T.setVm vm₁) hT hW₁⟩) with ⟨v, vm₁, ⟨U', l2, c2, s2⟩, hW₁, X', ⟨g', mk, t, L, e1, e2, hq, h1, hL, h2, h3⟩, st⟩ | ⟨q, vm₁, ⟨U', l2, c2, s2⟩, hW₁, X', ⟨g', mk, t, L, E, ce, e1, e2, hq, hce, hcv, hcl, h1, hL, h2, h3⟩, st⟩
  · dsimp only [Pt.U, Pt.locs, Pt.cells, Pt.slots] at X' e1 e2 h1 h2 h3 st
    subst h1; subst h2; subst h3
    exact Or.inl ⟨v, (T.setVm vm₁).calling g' mk (Value.ref b :: As).toArray, t, U', L, hT, X', hL, e1, e2, hq, st⟩
  · dsimp only [Pt.U, Pt.locs, Pt.cells, Pt.slots] at X' e1 e2 h1 h2 h3 st hcl
    subst h1; subst h2; subst h3
    exact Or.inr ⟨q, (T.setVm vm₁).calling g' mk (Value.ref b :: As).toArray, t, U', L, E, ce, hT, X', hL, e1, e2, hq, hce, hcv, vx_cls hW₁ hcl, st⟩
end
/-! ===== END ===== -/
/-! ===== BEGIN super.m(..) that may throw (follows va_callSU, va_runSU) ===== -/
section
variable {p : Program} {l : Launch} {e : Env} {R : Room} {s : State} {m : MethodId} {args : Array Value} {below : List Frame} {meth : Method} {c : Code} {H : Heap} {locs : List Loc} {cells slots : Nat}
theorem vx_callSU {T : State} {locs : List Loc} {cells slots : Nat} (X : Stand p l e R s m args below meth c T locs cells slots) (hexec : p.tables.exec = Jvm.exec) {own : String} {index : Nat} {y : MethodName} {bytes : ByteArray} {maxL : Nat} {ret : Option FieldType}
    (hown : s.vm.findClass own = some m.cls) (hlink : (Cond.methodLink own index y).before args s = true) (hsame : (Cond.sameMethod y.cls y.cls y.name y.desc).before args s = true) (hsup : (Cond.superclass own y.cls).before args s = true)
    (hinst : (Cond.instanceMethod y).before args s = true) (hcode : (Cond.code y bytes maxL ret).before args s = true) (hno : y.name ≠ "<init>")
    {W : Nat} {Pre : Pt → Array Value → Prop} {Post : Pt → Array Value → Option Value → Pt → Prop} {PostX : Pt → Array Value → Addr → Pt → Prop} (hK : vx_Back l R p e below s args y 3 W Pre Post PostX)
    {b : Addr} {cellB : Cell} {kB : Class} (hcell : T.heap[b]? = some cellB) (hobj : cellB.vm.isStatics = false) (hkB : s.vm.classes[cellB.cls]? = some kB)
    {g : JFrame} (hg : g.method = m) (hsize : g.locals.size = c.maxLocals) {argsL rest : List Value} (hlen : ∀ sig, parseMethodDescriptor y.desc = some sig → argsL.length = sig.parameters.length)
    (hstack : g.stack = argsL.reverse ++ .ref b :: rest) (hW : 2 * g.monitorRoom + (rest.map fun v => v.category).sum ≤ W) (hdg : decode c.code g.pc = .ok (.invokespecial index, 3))
    (hpre : ∀ vm₁, s.WarmedH vm₁ → Pre ⟨T.setVm vm₁, locs, cells, slots⟩ (Value.ref b :: argsL).toArray) :
    (∃ (v : Option Value) (vm₁ : Vm) (B : Pt), s.WarmedH vm₁ ∧ Stand p l e R s m args below meth c B.U B.locs B.cells B.slots ∧ Post ⟨T.setVm vm₁, locs, cells, slots⟩ (Value.ref b :: argsL).toArray v B ∧
      ∀ target, Steps p.tables e below (B.U.setTop { g with pc := g.pc + 3, stack := v.toList ++ rest }) target → Steps p.tables e below (T.setTop g) target) ∨
    (∃ (q : Addr) (vm₁ : Vm) (B : Pt), s.WarmedH vm₁ ∧ Stand p l e R s m args below meth c B.U B.locs B.cells B.slots ∧ PostX ⟨T.setVm vm₁, locs, cells, slots⟩ (Value.ref b :: argsL).toArray q B ∧
      Steps p.tables e below (T.setTop g) ((B.U.setTop { g with stack := rest }).pushFrame (.throwing q))) := by
  obtain ⟨mk, methM, hnamed, hmethM, hstM, habM⟩ := Cond.instanceMethod_spec hinst
  obtain ⟨methM', cM, hmethM', -, -, -, -, -, -, hsigM⟩ := Cond.code_spec hnamed hcode
  cases hmethM.symm.trans hmethM'
  obtain ⟨ps, dk, kp, hps, hdk, hkp, hsuper, -, -, hnid⟩ := Cond.superclass_spec hown hsup
  have hn : s.methodNamed? ⟨y.cls, y.name, y.desc⟩ = some mk := hnamed
  have hpm : ps = mk.cls := Option.some.inj (hps.symm.trans (findClass_of_methodNamed hnamed))
  have hsub : s.vm.isSubclass ps mk.cls = true := by rw [hpm]; simp [Vm.isSubclass, Vm.isSubclassAux]
  obtain ⟨vm₁, X₁, hstep₁⟩ := X.invokespecialUp hexec hown hlink hsame hn hmethM hstM habM hno hdk hnid hps hsuper hsub (a := b) (cell := cellB) hcell
    (fun z h => by rw [h] at hobj; cases hobj) hkB (g := g) hg (argsL := argsL) (rest := rest) (hlen _ hsigM) hstack hdg
  rcases hK m meth c ⟨T.setVm vm₁, locs, cells, slots⟩ { g with stack := rest } (.invokespecial index) mk (Value.ref b :: argsL).toArray X₁ hg hsize hdg hW (X₁.named hnamed) (hpre vm₁ X₁.warmed) with ⟨v, B, X', hpost, hsteps⟩ | ⟨q, B, X', hpost, hsteps⟩
  · exact Or.inl ⟨v, vm₁, B, X₁.warmed, X', hpost, fun target h => hstep₁ _ (by rw [doInvoke_state]; exact hsteps.trans h)⟩
  · exact Or.inr ⟨q, vm₁, B, X₁.warmed, X', hpost, hstep₁ _ (by rw [doInvoke_state]; exact hsteps)⟩
theorem vx_runSU {y : MethodName} {bytes cc : ByteArray} {maxL nL mc ms n index : Nat} {ret : Option FieldType} {ws : List Cond} {rm : Room} {Pc : Array Value → State → Prop} {Qc : Array Value → State → Outcome → State → Prop} {XC : String → State → State → Prop} {free : Addr → Prop} {Ts : List Cond} {own C : String} {cC : ClassId} {b : Addr} {As rest : List Value} {g : JFrame}
    (hat : ClassAt s C cC) (S : CallFix p m c cc nL s args Ts own) (hM : vx_Met l y ws rm Pc Qc XC mc ms free) (cw : va_CS R s args own index y bytes maxL ret ws rm mc ms n) (hp : PreV s H C b Pc As)
    (hg : g.method = m) (hn : As.length = n) (hsize : g.locals.size = nL) (hstack : g.stack = As.reverse ++ .ref b :: rest) (hW : 2 * g.monitorRoom + (rest.map fun v => v.category).sum ≤ 8) (hdg : decode cc g.pc = .ok (.invokespecial index, 3)) (hf : cells + mc ≤ R.cells ∧ slots + ms ≤ R.slots) :
    vx_Run p l e R s m args below meth c H locs cells slots mc ms g rest (Qc (Value.ref b :: As).toArray) XC free := by
  obtain ⟨⟨hrc, hrs, hfr, hlo, hws, hcw⟩, hl1, hl2, hl3, hl4, hini, hcode, hno, hlen⟩ := cw
  have hK : vx_Back l R p e below s args y 3 8 (PreOf R mc ms Pc) (PostOf Qc mc ms free) (vx_Post XC mc ms free) := vx_back (bytes := bytes) (maxL := maxL) (ret := ret) hM hp.1 hrc hrs hfr hlo hws hcw (fun a' U hW => word_at hW (Or.inl (by first | rfl | simp [Cond.onTables, Cond.keeps, Cond.steady])) hini)
  obtain ⟨hx, hb, hml, ho, -⟩ := S
  obtain ⟨-, ⟨cellB, hcB, hoB, hclB⟩, hPc⟩ := hp
  obtain ⟨hfc, kB, hkB, -⟩ := hat
  cases hfc.symm.trans hclB
  intro T hT X
  rcases vx_callSU X hx (bytes := bytes) (maxL := maxL) (ret := ret) ho hl1 hl2 hl3 hl4 hcode hno hK (by rw [hT]; exact hcB) hoB hkB hg (hsize.trans hml.symm) (argsL := As) (rest := rest) (fun sig h => hn.trans (hlen sig h)) hstack hW (by rw [hb]; exact hdg)
    (fun vm₁ hW₁ => ⟨hf.1, hf.2, hPc (T.setVm vm₁) hT hW₁⟩) with ⟨v, vm₁, ⟨U', l2, c2, s2⟩, hW₁, X', ⟨g', mk, t, L, e1, e2, hq, h1, hL, h2, h3⟩, st⟩ | ⟨q, vm₁, ⟨U', l2, c2, s2⟩, hW₁, X', ⟨g', mk, t, L, E, ce, e1, e2, hq, hce, hcv, hcl, h1, hL, h2, h3⟩, st⟩
  · dsimp only [Pt.U, Pt.locs, Pt.cells, Pt.slots] at X' e1 e2 h1 h2 h3 st
    subst h1; subst h2; subst h3
    exact Or.inl ⟨v, (T.setVm vm₁).calling g' mk (Value.ref b :: As).toArray, t, U', L, hT, X', hL, e1, e2, hq, st⟩
  · dsimp only [Pt.U, Pt.locs, Pt.cells, Pt.slots] at X' e1 e2 h1 h2 h3 st hcl
    subst h1; subst h2; subst h3
    exact Or.inr ⟨q, (T.setVm vm₁).calling g' mk (Value.ref b :: As).toArray, t, U', L, E, ce, hT, X', hL, e1, e2, hq, hce, hcv, vx_cls hW₁ hcl, st⟩
end
/-! ===== END ===== -/
/-! ===== BEGIN a private method of a nest mate that may throw (follows va_callVN, va_callSN, va_runVN, va_runSN) ===== -/
section
variable {p : Program} {l : Launch} {e : Env} {R : Room} {s : State} {m : MethodId} {args : Array Value} {below : List Frame} {meth : Method} {c : Code} {H : Heap} {locs : List Loc} {cells slots : Nat}
variable {T : State}
theorem vx_callVN (X : Stand p l e R s m args below meth c T locs cells slots) (hexec : p.tables.exec = Jvm.exec) {own C : String} {index : Nat} {host : String} {y : MethodName} {bytes : ByteArray} {maxL : Nat} {ret : Option FieldType}
    (hown : s.vm.findClass own = some m.cls) (hlink : (Cond.methodLinkNest own index y host).before args s = true) (hinst : (Cond.instanceMethod y).before args s = true) (hsel : (Cond.selects C y y).before args s = true)
    (hcode : (Cond.code y bytes maxL ret).before args s = true) (hy : y.cls ≠ "java/lang/invoke/MethodHandle" ∧ y.cls ≠ "java/lang/invoke/VarHandle")
    {W : Nat} {Pre : Pt → Array Value → Prop} {Post : Pt → Array Value → Option Value → Pt → Prop} {PostX : Pt → Array Value → Addr → Pt → Prop} (hK : vx_Back l R p e below s args y 3 W Pre Post PostX)
    {b : Addr} {cellB : Cell} (hcell : T.heap[b]? = some cellB) (hobj : cellB.vm.isStatics = false) (hcls : s.vm.findClass C = some cellB.cls)
    {g : JFrame} (hg : g.method = m) (hsize : g.locals.size = c.maxLocals) {argsL rest : List Value} (hlen : ∀ sig, parseMethodDescriptor y.desc = some sig → argsL.length = sig.parameters.length)
    (hstack : g.stack = argsL.reverse ++ .ref b :: rest) (hW : 2 * g.monitorRoom + (rest.map fun v => v.category).sum ≤ W) (hdg : decode c.code g.pc = .ok (.invokevirtual index, 3))
    (hpre : ∀ vm₁, s.WarmedH vm₁ → Pre ⟨T.setVm vm₁, locs, cells, slots⟩ (Value.ref b :: argsL).toArray) :
    (∃ (v : Option Value) (vm₁ : Vm) (B : Pt), s.WarmedH vm₁ ∧ Stand p l e R s m args below meth c B.U B.locs B.cells B.slots ∧ Post ⟨T.setVm vm₁, locs, cells, slots⟩ (Value.ref b :: argsL).toArray v B ∧
      ∀ target, Steps p.tables e below (B.U.setTop { g with pc := g.pc + 3, stack := v.toList ++ rest }) target → Steps p.tables e below (T.setTop g) target) ∨
    (∃ (q : Addr) (vm₁ : Vm) (B : Pt), s.WarmedH vm₁ ∧ Stand p l e R s m args below meth c B.U B.locs B.cells B.slots ∧ PostX ⟨T.setVm vm₁, locs, cells, slots⟩ (Value.ref b :: argsL).toArray q B ∧
      Steps p.tables e below (T.setTop g) ((B.U.setTop { g with stack := rest }).pushFrame (.throwing q))) := by
  obtain ⟨mk, methM, hnamed, hmethM, hstM, habM⟩ := Cond.instanceMethod_spec hinst
  obtain ⟨methM', cM, hmethM', -, -, -, -, -, -, hsigM⟩ := Cond.code_spec hnamed hcode
  cases hmethM.symm.trans hmethM'
  obtain ⟨c2, r2, m2, q1, q2, q3, q4, kP, hkP, hkPi⟩ := Cond.selects_spec hsel
  cases hcls.symm.trans q1
  cases (State.methodFound?_of_named hnamed hy).symm.trans q2
  cases hnamed.symm.trans q3
  have hselP : selectMethod e.platform s.vm cellB.cls mk = .method mk := by rw [Launch.admits_selectMethod X.admits]; exact q4
  obtain ⟨vm₁, X₁, hstep₁⟩ := X.invokevirtualNest hexec hown hlink hnamed hmethM hstM hkP hkPi hy (a := b) (cell := cellB) hcell
    (fun z h => by rw [h] at hobj; cases hobj) hselP hmethM habM hkP hkPi (g := g) hg (argsL := argsL) (rest := rest) (hlen _ hsigM) hstack hdg
  rcases hK m meth c ⟨T.setVm vm₁, locs, cells, slots⟩ { g with stack := rest } (.invokevirtual index) mk (Value.ref b :: argsL).toArray X₁ hg hsize hdg hW (X₁.named hnamed) (hpre vm₁ X₁.warmed) with ⟨v, B, X', hpost, hsteps⟩ | ⟨q, B, X', hpost, hsteps⟩
  · exact Or.inl ⟨v, vm₁, B, X₁.warmed, X', hpost, fun target h => hstep₁ _ fun acts => by rw [doInvoke_state]; exact hsteps.trans h⟩
  · exact Or.inr ⟨q, vm₁, B, X₁.warmed, X', hpost, hstep₁ _ fun acts => by rw [doInvoke_state]; exact hsteps⟩
theorem vx_callSN (X : Stand p l e R s m args below meth c T locs cells slots) (hexec : p.tables.exec = Jvm.exec) {own : String} {index : Nat} {host : String} {y : MethodName} {bytes : ByteArray} {maxL : Nat} {ret : Option FieldType}
    (hown : s.vm.findClass own = some m.cls) (hlink : (Cond.methodLinkNest own index y host).before args s = true) (hstat : (Cond.static y).before args s = true) (hinit : (Cond.initialized y.cls).before args s = true)
    (hcode : (Cond.code y bytes maxL ret).before args s = true) (hy : y.cls ≠ "java/lang/invoke/MethodHandle" ∧ y.cls ≠ "java/lang/invoke/VarHandle")
    {W : Nat} {Pre : Pt → Array Value → Prop} {Post : Pt → Array Value → Option Value → Pt → Prop} {PostX : Pt → Array Value → Addr → Pt → Prop} (hK : vx_Back l R p e below s args y 3 W Pre Post PostX)
    {g : JFrame} (hg : g.method = m) (hsize : g.locals.size = c.maxLocals) {argsL rest : List Value} (hlen : ∀ sig, parseMethodDescriptor y.desc = some sig → argsL.length = sig.parameters.length)
    (hstack : g.stack = argsL.reverse ++ rest) (hW : 2 * g.monitorRoom + (rest.map fun v => v.category).sum ≤ W) (hdg : decode c.code g.pc = .ok (.invokestatic index, 3))
    (hpre : ∀ vm₁, s.WarmedH vm₁ → Pre ⟨T.setVm vm₁, locs, cells, slots⟩ argsL.toArray) :
    (∃ (v : Option Value) (vm₁ : Vm) (B : Pt), s.WarmedH vm₁ ∧ Stand p l e R s m args below meth c B.U B.locs B.cells B.slots ∧ Post ⟨T.setVm vm₁, locs, cells, slots⟩ argsL.toArray v B ∧
      ∀ target, Steps p.tables e below (B.U.setTop { g with pc := g.pc + 3, stack := v.toList ++ rest }) target → Steps p.tables e below (T.setTop g) target) ∨
    (∃ (q : Addr) (vm₁ : Vm) (B : Pt), s.WarmedH vm₁ ∧ Stand p l e R s m args below meth c B.U B.locs B.cells B.slots ∧ PostX ⟨T.setVm vm₁, locs, cells, slots⟩ argsL.toArray q B ∧
      Steps p.tables e below (T.setTop g) ((B.U.setTop { g with stack := rest }).pushFrame (.throwing q))) := by
  obtain ⟨mk, hnamed⟩ := Cond.code_named hcode
  obtain ⟨methM, cM, hmethM, -, -, -, -, -, -, hsigM⟩ := Cond.code_spec hnamed hcode
  have hstatic : methM.isStatic = true := Cond.static_spec hnamed hmethM hstat
  obtain ⟨kP, hkP, -⟩ := className_of_methodNamed hnamed
  have hinitP : kP.init = .initialized := Cond.initialized_spec (findClass_of_methodNamed hnamed) hkP hinit
  obtain ⟨vm₁, X₁, hstep₁⟩ := X.invokestaticNest hexec hown hlink hnamed hmethM hstatic hkP hinitP hy (g := g) hg (argsL := argsL) (rest := rest) (hlen _ hsigM) hstack hdg
  rcases hK m meth c ⟨T.setVm vm₁, locs, cells, slots⟩ { g with stack := rest } (.invokestatic index) mk argsL.toArray X₁ hg hsize hdg hW (X₁.named hnamed) (hpre vm₁ X₁.warmed) with ⟨v, B, X', hpost, hsteps⟩ | ⟨q, B, X', hpost, hsteps⟩
  · exact Or.inl ⟨v, vm₁, B, X₁.warmed, X', hpost, fun target h => hstep₁ _ fun acts => by rw [doInvoke_state]; exact hsteps.trans h⟩
  · exact Or.inr ⟨q, vm₁, B, X₁.warmed, X', hpost, hstep₁ _ fun acts => by rw [doInvoke_state]; exact hsteps⟩
theorem vx_runVN {y : MethodName} {bytes cc : ByteArray} {maxL nL mc ms n index : Nat} {ret : Option FieldType} {ws : List Cond} {rm : Room} {Pc : Array Value → State → Prop} {Qc : Array Value → State → Outcome → State → Prop} {XC : String → State → State → Prop} {free : Addr → Prop} {Ts : List Cond} {own C host : String} {b : Addr} {As rest : List Value} {g : JFrame}
    (S : CallFix p m c cc nL s args Ts own) (hM : vx_Met l y ws rm Pc Qc XC mc ms free) (cw : va_CN R s args own index y host bytes maxL ret ws rm mc ms n ∧ (Cond.instanceMethod y).before args s = true ∧ (Cond.selects C y y).before args s = true) (hp : PreV s H C b Pc As)
    (hg : g.method = m) (hn : As.length = n) (hsize : g.locals.size = nL) (hstack : g.stack = As.reverse ++ .ref b :: rest) (hW : 2 * g.monitorRoom + (rest.map fun v => v.category).sum ≤ 8) (hdg : decode cc g.pc = .ok (.invokevirtual index, 3)) (hf : cells + mc ≤ R.cells ∧ slots + ms ≤ R.slots) :
    vx_Run p l e R s m args below meth c H locs cells slots mc ms g rest (Qc (Value.ref b :: As).toArray) XC free := by
  obtain ⟨⟨⟨hrc, hrs, hfr, hlo, hws, hcw⟩, hcode, hini, hy, hlen, hl⟩, hx1, hx2⟩ := cw
  have hK : vx_Back l R p e below s args y 3 8 (PreOf R mc ms Pc) (PostOf Qc mc ms free) (vx_Post XC mc ms free) := vx_back (bytes := bytes) (maxL := maxL) (ret := ret) hM hp.1 hrc hrs hfr hlo hws hcw (fun a' U hW => word_at hW (Or.inl (by first | rfl | simp [Cond.onTables, Cond.keeps, Cond.steady])) hini)
  obtain ⟨hx, hb, hml, ho, -⟩ := S
  obtain ⟨-, ⟨cellB, hcB, hoB, hclB⟩, hPc⟩ := hp
  intro T hT X
  rcases vx_callVN X hx (C := C) (bytes := bytes) (maxL := maxL) (ret := ret) ho hl hx1 hx2 hcode hy hK (by rw [hT]; exact hcB) hoB hclB hg (hsize.trans hml.symm) (argsL := As) (rest := rest) (fun sig h => hn.trans (hlen sig h)) hstack hW (by rw [hb]; exact hdg)
    (fun vm₁ hW₁ => ⟨hf.1, hf.2, hPc (T.setVm vm₁) hT hW₁⟩) with ⟨v, vm₁, ⟨U', l2, c2, s2⟩, hW₁, X', ⟨g', mk, t, L, e1, e2, hq, h1, hL, h2, h3⟩, st⟩ | ⟨q, vm₁, ⟨U', l2, c2, s2⟩, hW₁, X', ⟨g', mk, t, L, E, ce, e1, e2, hq, hce, hcv, hcl, h1, hL, h2, h3⟩, st⟩
  · dsimp only [Pt.U, Pt.locs, Pt.cells, Pt.slots] at X' e1 e2 h1 h2 h3 st
    subst h1; subst h2; subst h3
    exact Or.inl ⟨v, (T.setVm vm₁).calling g' mk (Value.ref b :: As).toArray, t, U', L, hT, X', hL, e1, e2, hq, st⟩
  · dsimp only [Pt.U, Pt.locs, Pt.cells, Pt.slots] at X' e1 e2 h1 h2 h3 st hcl
    subst h1; subst h2; subst h3
    exact Or.inr ⟨q, (T.setVm vm₁).calling g' mk (Value.ref b :: As).toArray, t, U', L, E, ce, hT, X', hL, e1, e2, hq, hce, hcv, vx_cls hW₁ hcl, st⟩
theorem vx_runSN {y : MethodName} {bytes cc : ByteArray} {maxL nL mc ms n index : Nat} {ret : Option FieldType} {ws : List Cond} {rm : Room} {Pc : Array Value → State → Prop} {Qc : Array Value → State → Outcome → State → Prop} {XC : String → State → State → Prop} {free : Addr → Prop} {Ts : List Cond} {own host : String} {As rest : List Value} {g : JFrame}
    (S : CallFix p m c cc nL s args Ts own) (hM : vx_Met l y ws rm Pc Qc XC mc ms free) (cw : va_CN R s args own index y host bytes maxL ret ws rm mc ms n ∧ (Cond.static y).before args s = true ∧ True) (hp : PreS s H Pc As)
    (hg : g.method = m) (hn : As.length = n) (hsize : g.locals.size = nL) (hstack : g.stack = As.reverse ++ rest) (hW : 2 * g.monitorRoom + (rest.map fun v => v.category).sum ≤ 8) (hdg : decode cc g.pc = .ok (.invokestatic index, 3)) (hf : cells + mc ≤ R.cells ∧ slots + ms ≤ R.slots) :
    vx_Run p l e R s m args below meth c H locs cells slots mc ms g rest (Qc As.toArray) XC free := by
  obtain ⟨⟨⟨hrc, hrs, hfr, hlo, hws, hcw⟩, hcode, hini, hy, hlen, hl⟩, hx1, hx2⟩ := cw
  have hK : vx_Back l R p e below s args y 3 8 (PreOf R mc ms Pc) (PostOf Qc mc ms free) (vx_Post XC mc ms free) := vx_back (bytes := bytes) (maxL := maxL) (ret := ret) hM hp.1 hrc hrs hfr hlo hws hcw (fun a' U hW => word_at hW (Or.inl (by first | rfl | simp [Cond.onTables, Cond.keeps, Cond.steady])) hini)
  obtain ⟨hx, hb, hml, ho, -⟩ := S
  have hPc := hp.2
  intro T hT X
  rcases vx_callSN X hx (bytes := bytes) (maxL := maxL) (ret := ret) ho hl hx1 hini hcode hy hK hg (hsize.trans hml.symm) (argsL := As) (rest := rest) (fun sig h => hn.trans (hlen sig h)) hstack hW (by rw [hb]; exact hdg)
    (fun vm₁ hW₁ => ⟨hf.1, hf.2, hPc (T.setVm vm₁) hT hW₁⟩) with ⟨v, vm₁, ⟨U', l2, c2, s2⟩, hW₁, X', ⟨g', mk, t, L, e1, e2, hq, h1, hL, h2, h3⟩, st⟩ | ⟨q, vm₁, ⟨U', l2, c2, s2⟩, hW₁, X', ⟨g', mk, t, L, E, ce, e1, e2, hq, hce, hcv, hcl, h1, hL, h2, h3⟩, st⟩
  · dsimp only [Pt.U, Pt.locs, Pt.cells, Pt.slots] at X' e1 e2 h1 h2 h3 st
    subst h1; subst h2; subst h3
    exact Or.inl ⟨v, (T.setVm vm₁).calling g' mk As.toArray, t, U', L, hT, X', hL, e1, e2, hq, st⟩
  · dsimp only [Pt.U, Pt.locs, Pt.cells, Pt.slots] at X' e1 e2 h1 h2 h3 st hcl
    subst h1; subst h2; subst h3
    exact Or.inr ⟨q, (T.setVm vm₁).calling g' mk As.toArray, t, U', L, E, ce, hT, X', hL, e1, e2, hq, hce, hcv, vx_cls hW₁ hcl, st⟩
end
/-! ===== END ===== -/
/-! ===== BEGIN calls by an interface of methods that may throw (vx_callIF, vx_runF follow va_callIF, va_runF of this kit) ===== -/
section
variable {p : Program} {l : Launch} {e : Env} {R : Room} {s : State} {m : MethodId} {args : Array Value} {below : List Frame} {meth : Method} {c : Code} {H : Heap} {locs : List Loc} {cells slots : Nat} {Q : State → Prop}
variable {mc ms : Nat} {free : Addr → Prop} {A0 A1 : Nat → Prop} {H0 : Heap} {a : Array Value} {pc : Nat} {ls : Array Slot} {st0 rest : List Value}
def vx_Run5 (p : Program) (l : Launch) (e : Env) (R : Room) (s : State) (m : MethodId) (args : Array Value) (below : List Frame) (meth : Method) (c : Code) (H : Heap) (locs : List Loc) (cells slots mc ms : Nat) (g : JFrame) (rest : List Value) (Qa : State → Outcome → State → Prop) (XC : String → State → State → Prop) (free : Addr → Prop) : Prop :=
  ∀ T : State, T.heap = H → Stand p l e R s m args below meth c T locs cells slots →
    (∃ (v : Option Value) (st₀ t T' : State) (L : List Loc), st₀.heap = H ∧ Stand p l e R s m args below meth c T' (locs ++ L) (cells + mc) (slots + ms) ∧ (∀ q ∈ L, free q.base) ∧ T'.heap = t.heap ∧ T'.vm = t.vm ∧ Qa st₀ (.returned v) t ∧
      Goes p e below T g T' { g with pc := g.pc + 5, stack := v.toList ++ rest }) ∨
    (∃ (q : Addr) (st₀ t T' : State) (L : List Loc) (E : String) (ce : Cell), st₀.heap = H ∧ Stand p l e R s m args below meth c T' (locs ++ L) (cells + mc) (slots + ms) ∧ (∀ z ∈ L, free z.base) ∧ T'.heap = t.heap ∧ T'.vm = t.vm ∧ XC E st₀ t ∧ t.heap[q]? = some ce ∧ ce.vm = .none ∧ s.vm.findClass E = some ce.cls ∧
      Steps p.tables e below (T.setTop g) ((T'.setTop { g with stack := rest }).pushFrame (.throwing q)))
theorem vx_callIF {T : State} (X : Stand p l e R s m args below meth c T locs cells slots) (hexec : p.tables.exec = Jvm.exec) {own C : String} {index count : Nat} {x y : MethodName} {bytes : ByteArray} {maxL : Nat} {ret : Option FieldType}
    (hown : s.vm.findClass own = some m.cls) (hlink : (Cond.methodLink own index x).before args s = true) (hdecl : (Cond.declares x).before args s = true) (hface : (Cond.interfaceMethod x.cls x.cls x.name x.desc).before args s = true)
    (hsel : (Cond.selects C x y).before args s = true) (hinst : (Cond.instanceMethod y).before args s = true) (hpub : (Cond.publicMethod y).before args s = true) (hunh : (Cond.unhidden C x.name x.desc).before args s = true)
    (hcast : (Cond.castable C x.cls).before args s = true) (hcode : (Cond.code y bytes maxL ret).before args s = true) (hx : x.cls ≠ "java/lang/invoke/MethodHandle" ∧ x.cls ≠ "java/lang/invoke/VarHandle")
    {W9 : Nat} {Pre : Pt → Array Value → Prop} {Post : Pt → Array Value → Option Value → Pt → Prop} {PostX : Pt → Array Value → Addr → Pt → Prop} (hK : vx_Back l R p e below s args y 5 W9 Pre Post PostX)
    {b : Addr} {cellB : Cell} {kB : Class} (hcell : T.heap[b]? = some cellB) (hobj : cellB.vm.isStatics = false) (hcls : s.vm.findClass C = some cellB.cls) (hkB : s.vm.classes[cellB.cls]? = some kB)
    {g : JFrame} (hg : g.method = m) (hsize : g.locals.size = c.maxLocals) {argsL rest : List Value} (hlen : ∀ sig, parseMethodDescriptor x.desc = some sig → argsL.length = sig.parameters.length)
    (hstack : g.stack = argsL.reverse ++ .ref b :: rest) (hW : 2 * g.monitorRoom + (rest.map fun v => v.category).sum ≤ W9) (hdg : decode c.code g.pc = .ok (.invokeinterface index count, 5))
    (hpre : ∀ vm₁, s.WarmedH vm₁ → Pre ⟨T.setVm vm₁, locs, cells, slots⟩ (Value.ref b :: argsL).toArray) :
    (∃ (v : Option Value) (vm₁ : Vm) (B : Pt), s.WarmedH vm₁ ∧ Stand p l e R s m args below meth c B.U B.locs B.cells B.slots ∧ Post ⟨T.setVm vm₁, locs, cells, slots⟩ (Value.ref b :: argsL).toArray v B ∧
      ∀ target, Steps p.tables e below (B.U.setTop { g with pc := g.pc + 5, stack := v.toList ++ rest }) target → Steps p.tables e below (T.setTop g) target) ∨
    (∃ (q : Addr) (vm₁ : Vm) (B : Pt), s.WarmedH vm₁ ∧ Stand p l e R s m args below meth c B.U B.locs B.cells B.slots ∧ PostX ⟨T.setVm vm₁, locs, cells, slots⟩ (Value.ref b :: argsL).toArray q B ∧
      Steps p.tables e below (T.setTop g) ((B.U.setTop { g with stack := rest }).pushFrame (.throwing q))) := by
  obtain ⟨r0, r, hn, hrm, hstR, hsigR⟩ := Cond.declares_spec hdecl
  obtain ⟨cL, kL, r1, hcL, hkL, hiL, hfoundL, hn1⟩ := Cond.interfaceMethod_spec hface
  cases hn.symm.trans hn1
  have hr0cls : r0.cls = cL := Option.some.inj ((findClass_of_methodNamed hn).symm.trans hcL)
  obtain ⟨hnameR, hdescR⟩ := name_of_methodNamed hn hrm
  obtain ⟨mk, methM, hnamed, hmethM, -, habM⟩ := Cond.instanceMethod_spec hinst
  obtain ⟨c2, r2, m2, q1, q2, q3, q4, -⟩ := Cond.selects_spec hsel
  cases hcls.symm.trans q1
  cases hfoundL.symm.trans q2
  cases hnamed.symm.trans q3
  have hselP : selectMethod e.platform s.vm cellB.cls r0 = .method mk := by rw [Launch.admits_selectMethod X.admits]; exact q4
  have hpubM : hasFlag methM.accessFlags Acc.public_ = true := Cond.publicMethod_spec hnamed hmethM hpub
  have hway : ((cellB.cls :: s.vm.superclasses cellB.cls).any fun k => (declaredIn s.vm r.name r.desc k).any fun (_, z) => z.isPrivate || z.isStatic) = false := by
    rw [hnameR, hdescR]; exact Cond.unhidden_spec hcls hunh
  obtain ⟨c3, t3, w1, w2, w3⟩ := Cond.castable_spec hcast
  cases hcls.symm.trans w1
  cases hcL.symm.trans w2
  obtain ⟨vm₁, X₁, hstep₁⟩ := X.invokeinterface hexec hown hlink hn hrm hstR (by rw [hr0cls]; exact hkL) hiL hx (a := b) (cell := cellB) (kcell := kB) hcell
    (fun z h => by rw [h] at hobj; cases hobj) hkB (by rw [hr0cls]; exact w3) hselP hmethM hway hpubM habM (g := g) hg (argsL := argsL) (rest := rest) (hlen _ hsigR) hstack hdg
  rcases hK m meth c ⟨T.setVm vm₁, locs, cells, slots⟩ { g with stack := rest } (.invokeinterface index count) mk (Value.ref b :: argsL).toArray X₁ hg hsize hdg hW (X₁.named hnamed) (hpre vm₁ X₁.warmed) with ⟨v, B, X', hpost, hsteps⟩ | ⟨q, B, X', hpost, hsteps⟩
  · exact Or.inl ⟨v, vm₁, B, X₁.warmed, X', hpost, fun target h => hstep₁ _ fun acts => by rw [doInvoke_state]; exact hsteps.trans h⟩
  · exact Or.inr ⟨q, vm₁, B, X₁.warmed, X', hpost, hstep₁ _ fun acts => by rw [doInvoke_state]; exact hsteps⟩
theorem vx_runF {x y : MethodName} {bytes cc : ByteArray} {maxL nL mc ms n index count : Nat} {ret : Option FieldType} {ws : List Cond} {rm : Room} {Pc : Array Value → State → Prop} {Qc : Array Value → State → Outcome → State → Prop} {XC : String → State → State → Prop} {free : Addr → Prop} {Ts : List Cond} {own C : String} {cC : ClassId} {b : Addr} {As rest : List Value} {g : JFrame}
    (hat : ClassAt s C cC) (S : CallFix p m c cc nL s args Ts own) (hM : vx_Met l y ws rm Pc Qc XC mc ms free) (cw : va_CI R s args own C index x y bytes maxL ret ws rm mc ms n) (hp : PreV s H C b Pc As)
    (hg : g.method = m) (hn : As.length = n) (hsize : g.locals.size = nL) (hstack : g.stack = As.reverse ++ .ref b :: rest) (hW : 2 * g.monitorRoom + (rest.map fun v => v.category).sum ≤ 8) (hdg : decode cc g.pc = .ok (.invokeinterface index count, 5)) (hf : cells + mc ≤ R.cells ∧ slots + ms ≤ R.slots) :
    vx_Run5 p l e R s m args below meth c H locs cells slots mc ms g rest (Qc (Value.ref b :: As).toArray) XC free := by
  obtain ⟨hrc, hrs, hfr, hlo, hws, hcw⟩ := cw.back
  have hini := cw.init
  have hK : vx_Back l R p e below s args y 5 8 (PreOf R mc ms Pc) (PostOf Qc mc ms free) (vx_Post XC mc ms free) := vx_back (bytes := bytes) (maxL := maxL) (ret := ret) hM hp.1 hrc hrs hfr hlo hws hcw (fun a' U hW => word_at hW (Or.inl (by first | rfl | simp [Cond.onTables, Cond.keeps, Cond.steady])) hini)
  obtain ⟨hx, hb, hml, ho, -⟩ := S
  obtain ⟨-, ⟨cellB, hcB, hoB, hclB⟩, hPc⟩ := hp
  obtain ⟨hfc, kB, hkB, -⟩ := hat
  cases hfc.symm.trans hclB
  intro T hT X
  rcases vx_callIF X hx (C := C) (bytes := bytes) (maxL := maxL) (ret := ret) ho cw.link cw.decl cw.face cw.sel cw.inst cw.pub cw.unh cw.cast cw.code cw.notMH hK (by rw [hT]; exact hcB) hoB hclB hkB hg (hsize.trans hml.symm) (argsL := As) (rest := rest) (fun sig h => hn.trans (cw.len sig h)) hstack hW (by rw [hb]; exact hdg)
    (fun vm₁ hW₁ => ⟨hf.1, hf.2, hPc (T.setVm vm₁) hT hW₁⟩) with ⟨v, vm₁, ⟨U', l2, c2, s2⟩, hW₁, X', ⟨g', mk, t, L, e1, e2, hq, h1, hL, h2, h3⟩, st⟩ | ⟨q, vm₁, ⟨U', l2, c2, s2⟩, hW₁, X', ⟨g', mk, t, L, E, ce, e1, e2, hq, hce, hcv, hcl, h1, hL, h2, h3⟩, st⟩
  · dsimp only [Pt.U, Pt.locs, Pt.cells, Pt.slots] at X' e1 e2 h1 h2 h3 st
    subst h1; subst h2; subst h3
    exact Or.inl ⟨v, (T.setVm vm₁).calling g' mk (Value.ref b :: As).toArray, t, U', L, hT, X', hL, e1, e2, hq, st⟩
  · dsimp only [Pt.U, Pt.locs, Pt.cells, Pt.slots] at X' e1 e2 h1 h2 h3 st hcl
    subst h1; subst h2; subst h3
    exact Or.inr ⟨q, (T.setVm vm₁).calling g' mk (Value.ref b :: As).toArray, t, U', L, E, ce, hT, X', hL, e1, e2, hq, hce, hcv, vx_cls hW₁ hcl, st⟩
theorem vx_callFv {S SX : Type} {post : S → Prop} {px : SX → Prop} {B : S → State → Prop} {BX : String → SX → State → Prop} {AX : Nat → Prop} (hr : vx_Run5 p l e R s m args below meth c H locs cells slots mc ms (F0 m pc ls st0) rest (va_Qv post B A1 a) (vx_X px BX AX) free) (hS : va_S A0 H0 H locs) (hA : ∀ q, q < H.size → A1 q → A0 q) (hf : ∀ q, free q → A0 q) (hAX : ∀ q, q < H.size → AX q → A0 q)
    (kx : ∀ (E : String) (ce : Cell) (q9 : Addr) (u : SX) (t : State) (H1 : Heap) (locs1 : List Loc), t.heap = H1 → s.vm.Alike t.vm → px u → BX E u t → H.size ≤ H1.size → (∀ q : Nat, q < H.size → ¬ AX q → H1[q]? = H[q]?) → va_S A0 H0 H1 locs1 → H1[q9]? = some ce → ce.vm = .none → s.vm.findClass E = some ce.cls → vx_W p l e R s m args below meth c H1 locs1 (cells + mc) (slots + ms) Q (F0 m pc ls rest) q9)
    (kk : ∀ (u : S) (t : State) (H1 : Heap) (locs1 : List Loc), t.heap = H1 → s.vm.Alike t.vm → post u → B u t → H.size ≤ H1.size → (∀ q : Nat, q < H.size → ¬ A1 q → H1[q]? = H[q]?) → va_S A0 H0 H1 locs1 → W p l e R s m args below meth c H1 locs1 (cells + mc) (slots + ms) Q (F0 m (pc + 5) ls (rest))) : W p l e R s m args below meth c H locs cells slots Q (F0 m pc ls st0) := by
  intro T hT X
  rcases hr T hT X with ⟨v, st₀, t, T', L, h0, X', hL, e1, e2, ⟨⟨u, hv, hp, hb⟩, hF⟩, st⟩ | ⟨q, st₀, t, T', L, E, ce, h0, X', hL, e1, e2, ⟨u, hp, hb, hF⟩, hce, hcv, hcl, st⟩
  · cases hv
    obtain ⟨k1, k2, k3⟩ := vx_keep h0 e1 hS hA hf hL hF
    obtain ⟨t2, a1, b1⟩ := kk u t T'.heap (locs ++ L) e1.symm (by rw [← e2]; exact X'.warmed.alike) hp hb k1 k2 k3 T' rfl X'
    exact ⟨t2, st t2 a1, b1⟩
  · obtain ⟨k1, k2, k3⟩ := vx_keep h0 e1 hS hAX hf hL hF
    obtain ⟨t2, a1, b1⟩ := kx E ce q u t T'.heap (locs ++ L) e1.symm (by rw [← e2]; exact X'.warmed.alike) hp hb k1 k2 k3 (by rw [e1]; exact hce) hcv hcl T' rfl X'
    exact ⟨t2, st.trans a1, b1⟩
theorem vx_callFi {S SX : Type} {post : Int32 → S → Prop} {px : SX → Prop} {B : S → State → Prop} {BX : String → SX → State → Prop} {AX : Nat → Prop} (hr : vx_Run5 p l e R s m args below meth c H locs cells slots mc ms (F0 m pc ls st0) rest (va_Qi post B A1 a) (vx_X px BX AX) free) (hS : va_S A0 H0 H locs) (hA : ∀ q, q < H.size → A1 q → A0 q) (hf : ∀ q, free q → A0 q) (hAX : ∀ q, q < H.size → AX q → A0 q)
    (kx : ∀ (E : String) (ce : Cell) (q9 : Addr) (u : SX) (t : State) (H1 : Heap) (locs1 : List Loc), t.heap = H1 → s.vm.Alike t.vm → px u → BX E u t → H.size ≤ H1.size → (∀ q : Nat, q < H.size → ¬ AX q → H1[q]? = H[q]?) → va_S A0 H0 H1 locs1 → H1[q9]? = some ce → ce.vm = .none → s.vm.findClass E = some ce.cls → vx_W p l e R s m args below meth c H1 locs1 (cells + mc) (slots + ms) Q (F0 m pc ls rest) q9)
    (kk : ∀ (r : Int32) (u : S) (t : State) (H1 : Heap) (locs1 : List Loc), t.heap = H1 → s.vm.Alike t.vm → post r u → B u t → H.size ≤ H1.size → (∀ q : Nat, q < H.size → ¬ A1 q → H1[q]? = H[q]?) → va_S A0 H0 H1 locs1 → W p l e R s m args below meth c H1 locs1 (cells + mc) (slots + ms) Q (F0 m (pc + 5) ls (.int r :: rest))) : W p l e R s m args below meth c H locs cells slots Q (F0 m pc ls st0) := by
  intro T hT X
  rcases hr T hT X with ⟨v, st₀, t, T', L, h0, X', hL, e1, e2, ⟨⟨r, u, hv, hp, hb⟩, hF⟩, st⟩ | ⟨q, st₀, t, T', L, E, ce, h0, X', hL, e1, e2, ⟨u, hp, hb, hF⟩, hce, hcv, hcl, st⟩
  · cases hv
    obtain ⟨k1, k2, k3⟩ := vx_keep h0 e1 hS hA hf hL hF
    obtain ⟨t2, a1, b1⟩ := kk r u t T'.heap (locs ++ L) e1.symm (by rw [← e2]; exact X'.warmed.alike) hp hb k1 k2 k3 T' rfl X'
    exact ⟨t2, st t2 a1, b1⟩
  · obtain ⟨k1, k2, k3⟩ := vx_keep h0 e1 hS hAX hf hL hF
    obtain ⟨t2, a1, b1⟩ := kx E ce q u t T'.heap (locs ++ L) e1.symm (by rw [← e2]; exact X'.warmed.alike) hp hb k1 k2 k3 (by rw [e1]; exact hce) hcv hcl T' rfl X'
    exact ⟨t2, st.trans a1, b1⟩
theorem vx_callFl {S SX : Type} {post : Int64 → S → Prop} {px : SX → Prop} {B : S → State → Prop} {BX : String → SX → State → Prop} {AX : Nat → Prop} (hr : vx_Run5 p l e R s m args below meth c H locs cells slots mc ms (F0 m pc ls st0) rest (va_Ql post B A1 a) (vx_X px BX AX) free) (hS : va_S A0 H0 H locs) (hA : ∀ q, q < H.size → A1 q → A0 q) (hf : ∀ q, free q → A0 q) (hAX : ∀ q, q < H.size → AX q → A0 q)
    (kx : ∀ (E : String) (ce : Cell) (q9 : Addr) (u : SX) (t : State) (H1 : Heap) (locs1 : List Loc), t.heap = H1 → s.vm.Alike t.vm → px u → BX E u t → H.size ≤ H1.size → (∀ q : Nat, q < H.size → ¬ AX q → H1[q]? = H[q]?) → va_S A0 H0 H1 locs1 → H1[q9]? = some ce → ce.vm = .none → s.vm.findClass E = some ce.cls → vx_W p l e R s m args below meth c H1 locs1 (cells + mc) (slots + ms) Q (F0 m pc ls rest) q9)
    (kk : ∀ (r : Int64) (u : S) (t : State) (H1 : Heap) (locs1 : List Loc), t.heap = H1 → s.vm.Alike t.vm → post r u → B u t → H.size ≤ H1.size → (∀ q : Nat, q < H.size → ¬ A1 q → H1[q]? = H[q]?) → va_S A0 H0 H1 locs1 → W p l e R s m args below meth c H1 locs1 (cells + mc) (slots + ms) Q (F0 m (pc + 5) ls (.long r :: rest))) : W p l e R s m args below meth c H locs cells slots Q (F0 m pc ls st0) := by
  intro T hT X
  rcases hr T hT X with ⟨v, st₀, t, T', L, h0, X', hL, e1, e2, ⟨⟨r, u, hv, hp, hb⟩, hF⟩, st⟩ | ⟨q, st₀, t, T', L, E, ce, h0, X', hL, e1, e2, ⟨u, hp, hb, hF⟩, hce, hcv, hcl, st⟩
  · cases hv
    obtain ⟨k1, k2, k3⟩ := vx_keep h0 e1 hS hA hf hL hF
    obtain ⟨t2, a1, b1⟩ := kk r u t T'.heap (locs ++ L) e1.symm (by rw [← e2]; exact X'.warmed.alike) hp hb k1 k2 k3 T' rfl X'
    exact ⟨t2, st t2 a1, b1⟩
  · obtain ⟨k1, k2, k3⟩ := vx_keep h0 e1 hS hAX hf hL hF
    obtain ⟨t2, a1, b1⟩ := kx E ce q u t T'.heap (locs ++ L) e1.symm (by rw [← e2]; exact X'.warmed.alike) hp hb k1 k2 k3 (by rw [e1]; exact hce) hcv hcl T' rfl X'
    exact ⟨t2, st.trans a1, b1⟩
theorem vx_callFf {S SX : Type} {post : UInt32 → S → Prop} {px : SX → Prop} {B : S → State → Prop} {BX : String → SX → State → Prop} {AX : Nat → Prop} (hr : vx_Run5 p l e R s m args below meth c H locs cells slots mc ms (F0 m pc ls st0) rest (va_Qf post B A1 a) (vx_X px BX AX) free) (hS : va_S A0 H0 H locs) (hA : ∀ q, q < H.size → A1 q → A0 q) (hf : ∀ q, free q → A0 q) (hAX : ∀ q, q < H.size → AX q → A0 q)
    (kx : ∀ (E : String) (ce : Cell) (q9 : Addr) (u : SX) (t : State) (H1 : Heap) (locs1 : List Loc), t.heap = H1 → s.vm.Alike t.vm → px u → BX E u t → H.size ≤ H1.size → (∀ q : Nat, q < H.size → ¬ AX q → H1[q]? = H[q]?) → va_S A0 H0 H1 locs1 → H1[q9]? = some ce → ce.vm = .none → s.vm.findClass E = some ce.cls → vx_W p l e R s m args below meth c H1 locs1 (cells + mc) (slots + ms) Q (F0 m pc ls rest) q9)
    (kk : ∀ (r : UInt32) (u : S) (t : State) (H1 : Heap) (locs1 : List Loc), t.heap = H1 → s.vm.Alike t.vm → post r u → B u t → H.size ≤ H1.size → (∀ q : Nat, q < H.size → ¬ A1 q → H1[q]? = H[q]?) → va_S A0 H0 H1 locs1 → W p l e R s m args below meth c H1 locs1 (cells + mc) (slots + ms) Q (F0 m (pc + 5) ls (.float r :: rest))) : W p l e R s m args below meth c H locs cells slots Q (F0 m pc ls st0) := by
  intro T hT X
  rcases hr T hT X with ⟨v, st₀, t, T', L, h0, X', hL, e1, e2, ⟨⟨r, u, hv, hp, hb⟩, hF⟩, st⟩ | ⟨q, st₀, t, T', L, E, ce, h0, X', hL, e1, e2, ⟨u, hp, hb, hF⟩, hce, hcv, hcl, st⟩
  · cases hv
    obtain ⟨k1, k2, k3⟩ := vx_keep h0 e1 hS hA hf hL hF
    obtain ⟨t2, a1, b1⟩ := kk r u t T'.heap (locs ++ L) e1.symm (by rw [← e2]; exact X'.warmed.alike) hp hb k1 k2 k3 T' rfl X'
    exact ⟨t2, st t2 a1, b1⟩
  · obtain ⟨k1, k2, k3⟩ := vx_keep h0 e1 hS hAX hf hL hF
    obtain ⟨t2, a1, b1⟩ := kx E ce q u t T'.heap (locs ++ L) e1.symm (by rw [← e2]; exact X'.warmed.alike) hp hb k1 k2 k3 (by rw [e1]; exact hce) hcv hcl T' rfl X'
    exact ⟨t2, st.trans a1, b1⟩
theorem vx_callFd {S SX : Type} {post : UInt64 → S → Prop} {px : SX → Prop} {B : S → State → Prop} {BX : String → SX → State → Prop} {AX : Nat → Prop} (hr : vx_Run5 p l e R s m args below meth c H locs cells slots mc ms (F0 m pc ls st0) rest (va_Qd post B A1 a) (vx_X px BX AX) free) (hS : va_S A0 H0 H locs) (hA : ∀ q, q < H.size → A1 q → A0 q) (hf : ∀ q, free q → A0 q) (hAX : ∀ q, q < H.size → AX q → A0 q)
    (kx : ∀ (E : String) (ce : Cell) (q9 : Addr) (u : SX) (t : State) (H1 : Heap) (locs1 : List Loc), t.heap = H1 → s.vm.Alike t.vm → px u → BX E u t → H.size ≤ H1.size → (∀ q : Nat, q < H.size → ¬ AX q → H1[q]? = H[q]?) → va_S A0 H0 H1 locs1 → H1[q9]? = some ce → ce.vm = .none → s.vm.findClass E = some ce.cls → vx_W p l e R s m args below meth c H1 locs1 (cells + mc) (slots + ms) Q (F0 m pc ls rest) q9)
    (kk : ∀ (r : UInt64) (u : S) (t : State) (H1 : Heap) (locs1 : List Loc), t.heap = H1 → s.vm.Alike t.vm → post r u → B u t → H.size ≤ H1.size → (∀ q : Nat, q < H.size → ¬ A1 q → H1[q]? = H[q]?) → va_S A0 H0 H1 locs1 → W p l e R s m args below meth c H1 locs1 (cells + mc) (slots + ms) Q (F0 m (pc + 5) ls (.double r :: rest))) : W p l e R s m args below meth c H locs cells slots Q (F0 m pc ls st0) := by
  intro T hT X
  rcases hr T hT X with ⟨v, st₀, t, T', L, h0, X', hL, e1, e2, ⟨⟨r, u, hv, hp, hb⟩, hF⟩, st⟩ | ⟨q, st₀, t, T', L, E, ce, h0, X', hL, e1, e2, ⟨u, hp, hb, hF⟩, hce, hcv, hcl, st⟩
  · cases hv
    obtain ⟨k1, k2, k3⟩ := vx_keep h0 e1 hS hA hf hL hF
    obtain ⟨t2, a1, b1⟩ := kk r u t T'.heap (locs ++ L) e1.symm (by rw [← e2]; exact X'.warmed.alike) hp hb k1 k2 k3 T' rfl X'
    exact ⟨t2, st t2 a1, b1⟩
  · obtain ⟨k1, k2, k3⟩ := vx_keep h0 e1 hS hAX hf hL hF
    obtain ⟨t2, a1, b1⟩ := kx E ce q u t T'.heap (locs ++ L) e1.symm (by rw [← e2]; exact X'.warmed.alike) hp hb k1 k2 k3 (by rw [e1]; exact hce) hcv hcl T' rfl X'
    exact ⟨t2, st.trans a1, b1⟩
end
/-! ===== END ===== -/
/-! ===== BEGIN by an interface, a method with a table of its own that may throw (follows va_callIFW, va_runFW) ===== -/
section
variable {p : Program} {l : Launch} {e : Env} {R : Room} {s : State} {m : MethodId} {args : Array Value} {below : List Frame} {meth : Method} {c : Code} {H : Heap} {locs : List Loc} {cells slots : Nat}
theorem vx_callIFW {T : State} (X : Stand p l e R s m args below meth c T locs cells slots) (hexec : p.tables.exec = Jvm.exec) {own C : String} {index count : Nat} {x y : MethodName} {bytes : ByteArray} {maxL : Nat} {ret : Option FieldType} {hh : List (Nat × Nat × Nat × Nat)}
    (hown : s.vm.findClass own = some m.cls) (hlink : (Cond.methodLink own index x).before args s = true) (hdecl : (Cond.declares x).before args s = true) (hface : (Cond.interfaceMethod x.cls x.cls x.name x.desc).before args s = true)
    (hsel : (Cond.selects C x y).before args s = true) (hinst : (Cond.instanceMethod y).before args s = true) (hpub : (Cond.publicMethod y).before args s = true) (hunh : (Cond.unhidden C x.name x.desc).before args s = true)
    (hcast : (Cond.castable C x.cls).before args s = true) (hcode : (Cond.codeWith y bytes maxL ret hh).before args s = true) (hx : x.cls ≠ "java/lang/invoke/MethodHandle" ∧ x.cls ≠ "java/lang/invoke/VarHandle")
    {W : Nat} {Pre : Pt → Array Value → Prop} {Post : Pt → Array Value → Option Value → Pt → Prop} {PostX : Pt → Array Value → Addr → Pt → Prop} (hK : vx_Back l R p e below s args y 5 W Pre Post PostX)
    {b : Addr} {cellB : Cell} {kB : Class} (hcell : T.heap[b]? = some cellB) (hobj : cellB.vm.isStatics = false) (hcls : s.vm.findClass C = some cellB.cls) (hkB : s.vm.classes[cellB.cls]? = some kB)
    {g : JFrame} (hg : g.method = m) (hsize : g.locals.size = c.maxLocals) {argsL rest : List Value} (hlen : ∀ sig, parseMethodDescriptor x.desc = some sig → argsL.length = sig.parameters.length)
    (hstack : g.stack = argsL.reverse ++ .ref b :: rest) (hW : 2 * g.monitorRoom + (rest.map fun v => v.category).sum ≤ W) (hdg : decode c.code g.pc = .ok (.invokeinterface index count, 5))
    (hpre : ∀ vm₁, s.WarmedH vm₁ → Pre ⟨T.setVm vm₁, locs, cells, slots⟩ (Value.ref b :: argsL).toArray) :
    (∃ (v : Option Value) (vm₁ : Vm) (B : Pt), s.WarmedH vm₁ ∧ Stand p l e R s m args below meth c B.U B.locs B.cells B.slots ∧ Post ⟨T.setVm vm₁, locs, cells, slots⟩ (Value.ref b :: argsL).toArray v B ∧
      ∀ target, Steps p.tables e below (B.U.setTop { g with pc := g.pc + 5, stack := v.toList ++ rest }) target → Steps p.tables e below (T.setTop g) target) ∨
    (∃ (q : Addr) (vm₁ : Vm) (B : Pt), s.WarmedH vm₁ ∧ Stand p l e R s m args below meth c B.U B.locs B.cells B.slots ∧ PostX ⟨T.setVm vm₁, locs, cells, slots⟩ (Value.ref b :: argsL).toArray q B ∧
      Steps p.tables e below (T.setTop g) ((B.U.setTop { g with stack := rest }).pushFrame (.throwing q))) := by
  obtain ⟨r0, r, hn, hrm, hstR, hsigR⟩ := Cond.declares_spec hdecl
  obtain ⟨cL, kL, r1, hcL, hkL, hiL, hfoundL, hn1⟩ := Cond.interfaceMethod_spec hface
  cases hn.symm.trans hn1
  have hr0cls : r0.cls = cL := Option.some.inj ((findClass_of_methodNamed hn).symm.trans hcL)
  obtain ⟨hnameR, hdescR⟩ := name_of_methodNamed hn hrm
  obtain ⟨mk, methM, hnamed, hmethM, -, habM⟩ := Cond.instanceMethod_spec hinst
  obtain ⟨c2, r2, m2, q1, q2, q3, q4, -⟩ := Cond.selects_spec hsel
  cases hcls.symm.trans q1
  cases hfoundL.symm.trans q2
  cases hnamed.symm.trans q3
  have hselP : selectMethod e.platform s.vm cellB.cls r0 = .method mk := by rw [Launch.admits_selectMethod X.admits]; exact q4
  have hpubM : hasFlag methM.accessFlags Acc.public_ = true := Cond.publicMethod_spec hnamed hmethM hpub
  have hway : ((cellB.cls :: s.vm.superclasses cellB.cls).any fun k => (declaredIn s.vm r.name r.desc k).any fun (_, z) => z.isPrivate || z.isStatic) = false := by
    rw [hnameR, hdescR]; exact Cond.unhidden_spec hcls hunh
  obtain ⟨c3, t3, w1, w2, w3⟩ := Cond.castable_spec hcast
  cases hcls.symm.trans w1
  cases hcL.symm.trans w2
  obtain ⟨vm₁, X₁, hstep₁⟩ := X.invokeinterface hexec hown hlink hn hrm hstR (by rw [hr0cls]; exact hkL) hiL hx (a := b) (cell := cellB) (kcell := kB) hcell
    (fun z h => by rw [h] at hobj; cases hobj) hkB (by rw [hr0cls]; exact w3) hselP hmethM hway hpubM habM (g := g) hg (argsL := argsL) (rest := rest) (hlen _ hsigR) hstack hdg
  rcases hK m meth c ⟨T.setVm vm₁, locs, cells, slots⟩ { g with stack := rest } (.invokeinterface index count) mk (Value.ref b :: argsL).toArray X₁ hg hsize hdg hW (X₁.named hnamed) (hpre vm₁ X₁.warmed) with ⟨v, B, X', hpost, hsteps⟩ | ⟨q, B, X', hpost, hsteps⟩
  · exact Or.inl ⟨v, vm₁, B, X₁.warmed, X', hpost, fun target h => hstep₁ _ fun acts => by rw [doInvoke_state]; exact hsteps.trans h⟩
  · exact Or.inr ⟨q, vm₁, B, X₁.warmed, X', hpost, hstep₁ _ fun acts => by rw [doInvoke_state]; exact hsteps⟩
theorem vx_runFW {x y : MethodName} {bytes cc : ByteArray} {maxL nL mc ms n index count : Nat} {ret : Option FieldType} {hh : List (Nat × Nat × Nat × Nat)} {ws : List Cond} {rm : Room} {Pc : Array Value → State → Prop} {Qc : Array Value → State → Outcome → State → Prop} {XC : String → State → State → Prop} {free : Addr → Prop} {Ts : List Cond} {own C : String} {cC : ClassId} {b : Addr} {As rest : List Value} {g : JFrame}
    (hat : ClassAt s C cC) (S : CallFix p m c cc nL s args Ts own) (hM : vx_Met l y ws rm Pc Qc XC mc ms free) (cw : va_CIW R s args own C index x y bytes maxL ret hh ws rm mc ms n) (hp : PreV s H C b Pc As)
    (hg : g.method = m) (hn : As.length = n) (hsize : g.locals.size = nL) (hstack : g.stack = As.reverse ++ .ref b :: rest) (hW : 2 * g.monitorRoom + (rest.map fun v => v.category).sum ≤ 8) (hdg : decode cc g.pc = .ok (.invokeinterface index count, 5)) (hf : cells + mc ≤ R.cells ∧ slots + ms ≤ R.slots) :
    vx_Run5 p l e R s m args below meth c H locs cells slots mc ms g rest (Qc (Value.ref b :: As).toArray) XC free := by
  obtain ⟨hrc, hrs, hfr, hlo, hws, hcw⟩ := cw.back
  have hini := cw.init
  have hK : vx_Back l R p e below s args y 5 8 (PreOf R mc ms Pc) (PostOf Qc mc ms free) (vx_Post XC mc ms free) := vx_backW (hh := hh) (bytes := bytes) (maxL := maxL) (ret := ret) hM hp.1 hrc hrs hfr hlo hws hcw (fun a' U hW => word_at hW (Or.inl (by first | rfl | simp [Cond.onTables, Cond.keeps, Cond.steady])) hini)
  obtain ⟨hx, hb, hml, ho, -⟩ := S
  obtain ⟨-, ⟨cellB, hcB, hoB, hclB⟩, hPc⟩ := hp
  obtain ⟨hfc, kB, hkB, -⟩ := hat
  cases hfc.symm.trans hclB
  intro T hT X
  rcases vx_callIFW X hx (C := C) (hh := hh) (bytes := bytes) (maxL := maxL) (ret := ret) ho cw.link cw.decl cw.face cw.sel cw.inst cw.pub cw.unh cw.cast cw.code cw.notMH hK (by rw [hT]; exact hcB) hoB hclB hkB hg (hsize.trans hml.symm) (argsL := As) (rest := rest) (fun sig h => hn.trans (cw.len sig h)) hstack hW (by rw [hb]; exact hdg)
    (fun vm₁ hW₁ => ⟨hf.1, hf.2, hPc (T.setVm vm₁) hT hW₁⟩) with ⟨v, vm₁, ⟨U', l2, c2, s2⟩, hW₁, X', ⟨g', mk, t, L, e1, e2, hq, h1, hL, h2, h3⟩, st⟩ | ⟨q, vm₁, ⟨U', l2, c2, s2⟩, hW₁, X', ⟨g', mk, t, L, E, ce, e1, e2, hq, hce, hcv, hcl, h1, hL, h2, h3⟩, st⟩
  · dsimp only [Pt.U, Pt.locs, Pt.cells, Pt.slots] at X' e1 e2 h1 h2 h3 st
    subst h1; subst h2; subst h3
    exact Or.inl ⟨v, (T.setVm vm₁).calling g' mk (Value.ref b :: As).toArray, t, U', L, hT, X', hL, e1, e2, hq, st⟩
  · dsimp only [Pt.U, Pt.locs, Pt.cells, Pt.slots] at X' e1 e2 h1 h2 h3 st hcl
    subst h1; subst h2; subst h3
    exact Or.inr ⟨q, (T.setVm vm₁).calling g' mk (Value.ref b :: As).toArray, t, U', L, E, ce, hT, X', hL, e1, e2, hq, hce, hcv, vx_cls hW₁ hcl, st⟩
end
/-! ===== END ===== -/
/-! ===== BEGIN .. of methods that hand back an object of the pool ===== -/
section
variable {p : Program} {l : Launch} {e : Env} {R : Room} {s : State} {m : MethodId} {args : Array Value} {below : List Frame} {meth : Method} {c : Code} {H : Heap} {locs : List Loc} {cells slots : Nat} {Q : State → Prop}
variable {mc ms : Nat} {free : Addr → Prop} {A0 A1 : Nat → Prop} {H0 : Heap} {a : Array Value} {pc : Nat} {ls : Array Slot} {st0 rest : List Value}
theorem vx_callq {S SX : Type} {post : Option Nat → S → Prop} {px : SX → Prop} {B : S → State → Prop} {BX : String → SX → State → Prop} {AX : Nat → Prop} (hr : vx_Run p l e R s m args below meth c H locs cells slots mc ms (F0 m pc ls st0) rest (va_Qq post B A1 a) (vx_X px BX AX) free) (hS : va_S A0 H0 H locs) (hA : ∀ q, q < H.size → A1 q → A0 q) (hf : ∀ q, free q → A0 q) (hAX : ∀ q, q < H.size → AX q → A0 q)
    (kx : ∀ (E : String) (ce : Cell) (q9 : Addr) (u : SX) (t : State) (H1 : Heap) (locs1 : List Loc), t.heap = H1 → s.vm.Alike t.vm → px u → BX E u t → H.size ≤ H1.size → (∀ q : Nat, q < H.size → ¬ AX q → H1[q]? = H[q]?) → va_S A0 H0 H1 locs1 → H1[q9]? = some ce → ce.vm = .none → s.vm.findClass E = some ce.cls → vx_W p l e R s m args below meth c H1 locs1 (cells + mc) (slots + ms) Q (F0 m pc ls rest) q9)
    (kk : ∀ (r : Option Nat) (u : S) (t : State) (H1 : Heap) (locs1 : List Loc), t.heap = H1 → s.vm.Alike t.vm → post r u → B u t → H.size ≤ H1.size → (∀ q : Nat, q < H.size → ¬ A1 q → H1[q]? = H[q]?) → va_S A0 H0 H1 locs1 → W p l e R s m args below meth c H1 locs1 (cells + mc) (slots + ms) Q (F0 m (pc + 3) ls (va_rf r :: rest))) : W p l e R s m args below meth c H locs cells slots Q (F0 m pc ls st0) := by
  intro T hT X
  rcases hr T hT X with ⟨v, st₀, t, T', L, h0, X', hL, e1, e2, ⟨⟨r, u, hv, hp, hb⟩, hF⟩, st⟩ | ⟨q, st₀, t, T', L, E, ce, h0, X', hL, e1, e2, ⟨u, hp, hb, hF⟩, hce, hcv, hcl, st⟩
  · cases hv
    obtain ⟨k1, k2, k3⟩ := vx_keep h0 e1 hS hA hf hL hF
    obtain ⟨t2, a1, b1⟩ := kk r u t T'.heap (locs ++ L) e1.symm (by rw [← e2]; exact X'.warmed.alike) hp hb k1 k2 k3 T' rfl X'
    exact ⟨t2, st t2 a1, b1⟩
  · obtain ⟨k1, k2, k3⟩ := vx_keep h0 e1 hS hAX hf hL hF
    obtain ⟨t2, a1, b1⟩ := kx E ce q u t T'.heap (locs ++ L) e1.symm (by rw [← e2]; exact X'.warmed.alike) hp hb k1 k2 k3 (by rw [e1]; exact hce) hcv hcl T' rfl X'
    exact ⟨t2, st.trans a1, b1⟩
end
/-! ===== END ===== -/
/-! ===== BEGIN .. a constant ===== -/
section
variable {p : Program} {l : Launch} {e : Env} {R : Room} {s : State} {m : MethodId} {args : Array Value} {below : List Frame} {meth : Method} {c : Code} {H : Heap} {locs : List Loc} {cells slots : Nat} {Q : State → Prop}
variable {mc ms : Nat} {free : Addr → Prop} {A0 A1 : Nat → Prop} {H0 : Heap} {a : Array Value} {pc : Nat} {ls : Array Slot} {st0 rest : List Value}
theorem vx_calle {ad : Nat → Nat} {S SX : Type} {post : Option Nat → S → Prop} {px : SX → Prop} {B : S → State → Prop} {BX : String → SX → State → Prop} {AX : Nat → Prop} (hr : vx_Run p l e R s m args below meth c H locs cells slots mc ms (F0 m pc ls st0) rest (va_Qe ad post B A1 a) (vx_X px BX AX) free) (hS : va_S A0 H0 H locs) (hA : ∀ q, q < H.size → A1 q → A0 q) (hf : ∀ q, free q → A0 q) (hAX : ∀ q, q < H.size → AX q → A0 q)
    (kx : ∀ (E : String) (ce : Cell) (q9 : Addr) (u : SX) (t : State) (H1 : Heap) (locs1 : List Loc), t.heap = H1 → s.vm.Alike t.vm → px u → BX E u t → H.size ≤ H1.size → (∀ q : Nat, q < H.size → ¬ AX q → H1[q]? = H[q]?) → va_S A0 H0 H1 locs1 → H1[q9]? = some ce → ce.vm = .none → s.vm.findClass E = some ce.cls → vx_W p l e R s m args below meth c H1 locs1 (cells + mc) (slots + ms) Q (F0 m pc ls rest) q9)
    (kk : ∀ (r : Option Nat) (u : S) (t : State) (H1 : Heap) (locs1 : List Loc), t.heap = H1 → s.vm.Alike t.vm → post r u → B u t → H.size ≤ H1.size → (∀ q : Nat, q < H.size → ¬ A1 q → H1[q]? = H[q]?) → va_S A0 H0 H1 locs1 → W p l e R s m args below meth c H1 locs1 (cells + mc) (slots + ms) Q (F0 m (pc + 3) ls (va_re ad r :: rest))) : W p l e R s m args below meth c H locs cells slots Q (F0 m pc ls st0) := by
  intro T hT X
  rcases hr T hT X with ⟨v, st₀, t, T', L, h0, X', hL, e1, e2, ⟨⟨r, u, hv, hp, hb⟩, hF⟩, st⟩ | ⟨q, st₀, t, T', L, E, ce, h0, X', hL, e1, e2, ⟨u, hp, hb, hF⟩, hce, hcv, hcl, st⟩
  · cases hv
    obtain ⟨k1, k2, k3⟩ := vx_keep h0 e1 hS hA hf hL hF
    obtain ⟨t2, a1, b1⟩ := kk r u t T'.heap (locs ++ L) e1.symm (by rw [← e2]; exact X'.warmed.alike) hp hb k1 k2 k3 T' rfl X'
    exact ⟨t2, st t2 a1, b1⟩
  · obtain ⟨k1, k2, k3⟩ := vx_keep h0 e1 hS hAX hf hL hF
    obtain ⟨t2, a1, b1⟩ := kx E ce q u t T'.heap (locs ++ L) e1.symm (by rw [← e2]; exact X'.warmed.alike) hp hb k1 k2 k3 (by rw [e1]; exact hce) hcv hcl T' rfl X'
    exact ⟨t2, st.trans a1, b1⟩
end
/-! ===== END ===== -/
/-! ===== BEGIN .. by an interface, an object ===== -/
section
variable {p : Program} {l : Launch} {e : Env} {R : Room} {s : State} {m : MethodId} {args : Array Value} {below : List Frame} {meth : Method} {c : Code} {H : Heap} {locs : List Loc} {cells slots : Nat} {Q : State → Prop}
variable {mc ms : Nat} {free : Addr → Prop} {A0 A1 : Nat → Prop} {H0 : Heap} {a : Array Value} {pc : Nat} {ls : Array Slot} {st0 rest : List Value}
theorem vx_callFq {S SX : Type} {post : Option Nat → S → Prop} {px : SX → Prop} {B : S → State → Prop} {BX : String → SX → State → Prop} {AX : Nat → Prop} (hr : vx_Run5 p l e R s m args below meth c H locs cells slots mc ms (F0 m pc ls st0) rest (va_Qq post B A1 a) (vx_X px BX AX) free) (hS : va_S A0 H0 H locs) (hA : ∀ q, q < H.size → A1 q → A0 q) (hf : ∀ q, free q → A0 q) (hAX : ∀ q, q < H.size → AX q → A0 q)
    (kx : ∀ (E : String) (ce : Cell) (q9 : Addr) (u : SX) (t : State) (H1 : Heap) (locs1 : List Loc), t.heap = H1 → s.vm.Alike t.vm → px u → BX E u t → H.size ≤ H1.size → (∀ q : Nat, q < H.size → ¬ AX q → H1[q]? = H[q]?) → va_S A0 H0 H1 locs1 → H1[q9]? = some ce → ce.vm = .none → s.vm.findClass E = some ce.cls → vx_W p l e R s m args below meth c H1 locs1 (cells + mc) (slots + ms) Q (F0 m pc ls rest) q9)
    (kk : ∀ (r : Option Nat) (u : S) (t : State) (H1 : Heap) (locs1 : List Loc), t.heap = H1 → s.vm.Alike t.vm → post r u → B u t → H.size ≤ H1.size → (∀ q : Nat, q < H.size → ¬ A1 q → H1[q]? = H[q]?) → va_S A0 H0 H1 locs1 → W p l e R s m args below meth c H1 locs1 (cells + mc) (slots + ms) Q (F0 m (pc + 5) ls (va_rf r :: rest))) : W p l e R s m args below meth c H locs cells slots Q (F0 m pc ls st0) := by
  intro T hT X
  rcases hr T hT X with ⟨v, st₀, t, T', L, h0, X', hL, e1, e2, ⟨⟨r, u, hv, hp, hb⟩, hF⟩, st⟩ | ⟨q, st₀, t, T', L, E, ce, h0, X', hL, e1, e2, ⟨u, hp, hb, hF⟩, hce, hcv, hcl, st⟩
  · cases hv
    obtain ⟨k1, k2, k3⟩ := vx_keep h0 e1 hS hA hf hL hF
    obtain ⟨t2, a1, b1⟩ := kk r u t T'.heap (locs ++ L) e1.symm (by rw [← e2]; exact X'.warmed.alike) hp hb k1 k2 k3 T' rfl X'
    exact ⟨t2, st t2 a1, b1⟩
  · obtain ⟨k1, k2, k3⟩ := vx_keep h0 e1 hS hAX hf hL hF
    obtain ⟨t2, a1, b1⟩ := kx E ce q u t T'.heap (locs ++ L) e1.symm (by rw [← e2]; exact X'.warmed.alike) hp hb k1 k2 k3 (by rw [e1]; exact hce) hcv hcl T' rfl X'
    exact ⟨t2, st.trans a1, b1⟩
end
/-! ===== END ===== -/
/-! ===== BEGIN .. by an interface, a constant ===== -/
section
variable {p : Program} {l : Launch} {e : Env} {R : Room} {s : State} {m : MethodId} {args : Array Value} {below : List Frame} {meth : Method} {c : Code} {H : Heap} {locs : List Loc} {cells slots : Nat} {Q : State → Prop}
variable {mc ms : Nat} {free : Addr → Prop} {A0 A1 : Nat → Prop} {H0 : Heap} {a : Array Value} {pc : Nat} {ls : Array Slot} {st0 rest : List Value}
theorem vx_callFe {ad : Nat → Nat} {S SX : Type} {post : Option Nat → S → Prop} {px : SX → Prop} {B : S → State → Prop} {BX : String → SX → State → Prop} {AX : Nat → Prop} (hr : vx_Run5 p l e R s m args below meth c H locs cells slots mc ms (F0 m pc ls st0) rest (va_Qe ad post B A1 a) (vx_X px BX AX) free) (hS : va_S A0 H0 H locs) (hA : ∀ q, q < H.size → A1 q → A0 q) (hf : ∀ q, free q → A0 q) (hAX : ∀ q, q < H.size → AX q → A0 q)
    (kx : ∀ (E : String) (ce : Cell) (q9 : Addr) (u : SX) (t : State) (H1 : Heap) (locs1 : List Loc), t.heap = H1 → s.vm.Alike t.vm → px u → BX E u t → H.size ≤ H1.size → (∀ q : Nat, q < H.size → ¬ AX q → H1[q]? = H[q]?) → va_S A0 H0 H1 locs1 → H1[q9]? = some ce → ce.vm = .none → s.vm.findClass E = some ce.cls → vx_W p l e R s m args below meth c H1 locs1 (cells + mc) (slots + ms) Q (F0 m pc ls rest) q9)
    (kk : ∀ (r : Option Nat) (u : S) (t : State) (H1 : Heap) (locs1 : List Loc), t.heap = H1 → s.vm.Alike t.vm → post r u → B u t → H.size ≤ H1.size → (∀ q : Nat, q < H.size → ¬ A1 q → H1[q]? = H[q]?) → va_S A0 H0 H1 locs1 → W p l e R s m args below meth c H1 locs1 (cells + mc) (slots + ms) Q (F0 m (pc + 5) ls (va_re ad r :: rest))) : W p l e R s m args below meth c H locs cells slots Q (F0 m pc ls st0) := by
  intro T hT X
  rcases hr T hT X with ⟨v, st₀, t, T', L, h0, X', hL, e1, e2, ⟨⟨r, u, hv, hp, hb⟩, hF⟩, st⟩ | ⟨q, st₀, t, T', L, E, ce, h0, X', hL, e1, e2, ⟨u, hp, hb, hF⟩, hce, hcv, hcl, st⟩
  · cases hv
    obtain ⟨k1, k2, k3⟩ := vx_keep h0 e1 hS hA hf hL hF
    obtain ⟨t2, a1, b1⟩ := kk r u t T'.heap (locs ++ L) e1.symm (by rw [← e2]; exact X'.warmed.alike) hp hb k1 k2 k3 T' rfl X'
    exact ⟨t2, st t2 a1, b1⟩
  · obtain ⟨k1, k2, k3⟩ := vx_keep h0 e1 hS hAX hf hL hF
    obtain ⟨t2, a1, b1⟩ := kx E ce q u t T'.heap (locs ++ L) e1.symm (by rw [← e2]; exact X'.warmed.alike) hp hb k1 k2 k3 (by rw [e1]; exact hce) hcv hcl T' rfl X'
    exact ⟨t2, st.trans a1, b1⟩
end
/-! ===== END ===== -/
/-! ===== BEGIN what the machine throws by itself: null at a field, at athrow ===== -/
section VXM2
variable {p : Program} {l : Launch} {e : Env} {R : Room} {s : State} {m : MethodId} {args : Array Value} {below : List Frame} {meth : Method} {c : Code} {H : Heap} {locs : List Loc} {cells slots : Nat}
variable {Q : State → Prop} {cc : ByteArray} {pc : Nat} {ls : Array Slot} {rest : List Value}
theorem vx_getfN {D cl tys} {own ref C : String} {T : u_T} {N ci index : Nat} {Ts : List Cond} (hexec : p.tables.exec = Jvm.exec) (hb : c.code = cc) (hts : ∀ w ∈ Ts, w.before args s = true) (hin : ∀ w ∈ u_ws C T N, w ∈ Ts) (hown : s.vm.findClass own = some m.cls) (hK : va_K D cl tys s) (hc : cl[ci]? = some (C, T, N)) (k : Nat) (hk : k < N) (hlink : (Cond.fieldLink own index ref (T k).2.1 (T k).2.2.1).before args s = true) (hsame : ∀ x, s.fieldFound? (T k).1 (T k).2.1 (T k).2.2.1 = some x → s.fieldFound? ref (T k).2.1 (T k).2.2.1 = some x) (hdg : decode cc pc = .ok (.getfield index, 3)) (kk : vx_NoteN p l e R s m args below meth c H locs cells slots Q (F0 m pc ls rest)) : W p l e R s m args below meth c H locs cells slots Q (F0 m pc ls (.null :: rest)) := by
  obtain ⟨hS, hfc, kC, hkC, -⟩ := hK.1 ci _ hc
  obtain ⟨cf, kf, fi, f, hi, -⟩ := hS k hk
  intro U hU X
  obtain ⟨vm', X1, st1⟩ := X.getfieldNull hexec hown hlink (hsame _ hi) (u_facts hfc hkC (u_lays hts hin hk) hi).1 (g := F0 m pc ls (.null :: rest)) rfl (rest := rest) rfl (by rw [hb]; exact hdg)
  obtain ⟨t, st, q⟩ := kk (U.setVm vm') hU X1
  exact ⟨t, st1 t st, q⟩
theorem vx_getfNN {D cl tys} {own ref C host : String} {T : u_T} {N ci index : Nat} {Ts : List Cond} (hexec : p.tables.exec = Jvm.exec) (hb : c.code = cc) (hts : ∀ w ∈ Ts, w.before args s = true) (hin : ∀ w ∈ u_ws C T N, w ∈ Ts) (hown : s.vm.findClass own = some m.cls) (hK : va_K D cl tys s) (hc : cl[ci]? = some (C, T, N)) (k : Nat) (hk : k < N) (hlink : (Cond.fieldLinkNest own index ref (T k).2.1 (T k).2.2.1 host).before args s = true) (hsame : ∀ x, s.fieldFound? (T k).1 (T k).2.1 (T k).2.2.1 = some x → s.fieldFound? ref (T k).2.1 (T k).2.2.1 = some x) (hdg : decode cc pc = .ok (.getfield index, 3)) (kk : vx_NoteN p l e R s m args below meth c H locs cells slots Q (F0 m pc ls rest)) : W p l e R s m args below meth c H locs cells slots Q (F0 m pc ls (.null :: rest)) := by
  obtain ⟨hS, hfc, kC, hkC, -⟩ := hK.1 ci _ hc
  obtain ⟨cf, kf, fi, f, hi, -⟩ := hS k hk
  intro U hU X
  obtain ⟨vm', X1, st1⟩ := X.getfieldNullNest hexec hown hlink (hsame _ hi) (u_facts hfc hkC (u_lays hts hin hk) hi).1 (g := F0 m pc ls (.null :: rest)) rfl (rest := rest) rfl (by rw [hb]; exact hdg)
  obtain ⟨t, st, q⟩ := kk (U.setVm vm') hU X1
  exact ⟨t, st1 t st, q⟩
theorem vx_putfN {D cl tys} {own ref C : String} {T : u_T} {N ci index : Nat} {Ts : List Cond} (hexec : p.tables.exec = Jvm.exec) (hb : c.code = cc) (hts : ∀ w ∈ Ts, w.before args s = true) (hin : ∀ w ∈ u_ws C T N, w ∈ Ts) (hown : s.vm.findClass own = some m.cls) (hK : va_K D cl tys s) (hc : cl[ci]? = some (C, T, N)) (k : Nat) (hk : k < N) (hlink : (Cond.fieldLink own index ref (T k).2.1 (T k).2.2.1).before args s = true) (hsame : ∀ x, s.fieldFound? (T k).1 (T k).2.1 (T k).2.2.1 = some x → s.fieldFound? ref (T k).2.1 (T k).2.2.1 = some x) (hfin : (T k).2.2.2 = false) {v : Value} (hdg : decode cc pc = .ok (.putfield index, 3)) (kk : vx_NoteN p l e R s m args below meth c H locs cells slots Q (F0 m pc ls rest)) : W p l e R s m args below meth c H locs cells slots Q (F0 m pc ls (v :: .null :: rest)) := by
  obtain ⟨hS, hfc, kC, hkC, -⟩ := hK.1 ci _ hc
  obtain ⟨cf, kf, fi, f, hi, -⟩ := hS k hk
  have hlay := hts _ (hin _ (u_in_lay hk))
  unfold u_lay at hlay
  rw [if_neg (by rw [hfin]; decide)] at hlay
  obtain ⟨c9, k9, cf9, kf9, fi9, f9, -, -, hi9, hst9, hnf9, -⟩ := Cond.lays_spec hlay
  cases hi.symm.trans hi9
  intro U hU X
  obtain ⟨vm', X1, st1⟩ := X.putfieldNull hexec hown hlink (hsame _ hi) hst9 hnf9 (g := F0 m pc ls (v :: .null :: rest)) rfl (v := v) (rest := rest) rfl (by rw [hb]; exact hdg)
  obtain ⟨t, st, q⟩ := kk (U.setVm vm') hU X1
  exact ⟨t, st1 t st, q⟩
theorem vx_putfNN {D cl tys} {own ref C host : String} {T : u_T} {N ci index : Nat} {Ts : List Cond} (hexec : p.tables.exec = Jvm.exec) (hb : c.code = cc) (hts : ∀ w ∈ Ts, w.before args s = true) (hin : ∀ w ∈ u_ws C T N, w ∈ Ts) (hown : s.vm.findClass own = some m.cls) (hK : va_K D cl tys s) (hc : cl[ci]? = some (C, T, N)) (k : Nat) (hk : k < N) (hlink : (Cond.fieldLinkNest own index ref (T k).2.1 (T k).2.2.1 host).before args s = true) (hsame : ∀ x, s.fieldFound? (T k).1 (T k).2.1 (T k).2.2.1 = some x → s.fieldFound? ref (T k).2.1 (T k).2.2.1 = some x) (hfin : (T k).2.2.2 = false) {v : Value} (hdg : decode cc pc = .ok (.putfield index, 3)) (kk : vx_NoteN p l e R s m args below meth c H locs cells slots Q (F0 m pc ls rest)) : W p l e R s m args below meth c H locs cells slots Q (F0 m pc ls (v :: .null :: rest)) := by
  obtain ⟨hS, hfc, kC, hkC, -⟩ := hK.1 ci _ hc
  obtain ⟨cf, kf, fi, f, hi, -⟩ := hS k hk
  have hlay := hts _ (hin _ (u_in_lay hk))
  unfold u_lay at hlay
  rw [if_neg (by rw [hfin]; decide)] at hlay
  obtain ⟨c9, k9, cf9, kf9, fi9, f9, -, -, hi9, hst9, hnf9, -⟩ := Cond.lays_spec hlay
  cases hi.symm.trans hi9
  intro U hU X
  obtain ⟨vm', X1, st1⟩ := X.putfieldNullNest hexec hown hlink (hsame _ hi) hst9 hnf9 (g := F0 m pc ls (v :: .null :: rest)) rfl (v := v) (rest := rest) rfl (by rw [hb]; exact hdg)
  obtain ⟨t, st, q⟩ := kk (U.setVm vm') hU X1
  exact ⟨t, st1 t st, q⟩
theorem vx_athrowN (hexec : p.tables.exec = Jvm.exec) (hb : c.code = cc) (hdg : decode cc pc = .ok (.athrow, 1)) (k : vx_NoteN p l e R s m args below meth c H locs cells slots Q (F0 m pc ls rest)) : W p l e R s m args below meth c H locs cells slots Q (F0 m pc ls (.null :: rest)) := by
  intro T hT X
  obtain ⟨t, st, q⟩ := k T hT X
  exact ⟨t, X.athrowNull hexec (g := F0 m pc ls (.null :: rest)) rfl (rest := rest) rfl (by rw [hb]; exact hdg) t st, q⟩
end VXM2
/-! ===== END ===== -/
end
section
def T_St : u_T := fun k => match k with
  | 0 => ("java/lang/String", "value", "[B", true)
  | 1 => ("java/lang/String", "coder", "B", true)
  | 2 => ("java/lang/String", "hash", "I", false)
  | _ => ("java/lang/String", "hashIsZero", "Z", false)
def ty_St : Nat → FieldType := fun k => match k with
  | 0 => .array .byte
  | 1 => .byte
  | 2 => .int
  | _ => .boolean
def T_SB : u_T := fun k => match k with
  | 0 => ("java/lang/AbstractStringBuilder", "value", "[B", false)
  | 1 => ("java/lang/AbstractStringBuilder", "coder", "B", false)
  | 2 => ("java/lang/AbstractStringBuilder", "maybeLatin1", "Z", false)
  | _ => ("java/lang/AbstractStringBuilder", "count", "I", false)
def ty_SB : Nat → FieldType := fun k => match k with
  | 0 => .array .byte
  | 1 => .byte
  | 2 => .boolean
  | _ => .int
def T_AL : u_T := fun k => match k with
  | 0 => ("java/util/AbstractList", "modCount", "I", false)
  | 1 => ("java/util/ArrayList", "elementData", "[Ljava/lang/Object;", false)
  | _ => ("java/util/ArrayList", "size", "I", false)
def ty_AL : Nat → FieldType := fun k => match k with
  | 0 => .int
  | 1 => .array (.object "java/lang/Object")
  | _ => .int
def T_Cu : u_T := fun k => match k with
  | 0 => ("Threeboxes$Curve", "numbers", "[I", true)
  | _ => ("Threeboxes$Curve", "luck", "I", false)
def ty_Cu : Nat → FieldType := fun k => match k with
  | 0 => .array .int
  | _ => .int
def T_Gr : u_T := fun k => match k with
  | 0 => ("Threeboxes$Group", "inverses", "[I", true)
  | 1 => ("Threeboxes$Group", "given", "[I", true)
  | 2 => ("Threeboxes$Group", "order", "I", false)
  | 3 => ("Threeboxes$Group", "points", "I", false)
  | 4 => ("Threeboxes$Group", "base", "I", false)
  | _ => ("Threeboxes$Group", "agreeing", "I", false)
def ty_Gr : Nat → FieldType := fun k => match k with
  | 0 => .array .int
  | 1 => .array .int
  | 2 => .int
  | 3 => .int
  | 4 => .int
  | _ => .int
def T_Ke : u_T := fun k => match k with
  | 0 => ("Threeboxes$Keeper", "number", "I", true)
  | 1 => ("Threeboxes$Keeper", "zone", "I", true)
  | 2 => ("Threeboxes$Keeper", "price", "I", true)
  | 3 => ("Threeboxes$Keeper", "risk", "I", true)
  | 4 => ("Threeboxes$Keeper", "lie", "I", false)
  | _ => ("Threeboxes$Keeper", "isNoted", "Z", false)
def ty_Ke : Nat → FieldType := fun k => match k with
  | 0 => .int
  | 1 => .int
  | 2 => .int
  | 3 => .int
  | 4 => .int
  | _ => .boolean
def T_Re : u_T := fun k => match k with
  | 0 => ("Threeboxes$Register", "kinds", "[I", true)
  | 1 => ("Threeboxes$Register", "subjects", "[I", true)
  | 2 => ("Threeboxes$Register", "days", "[I", true)
  | 3 => ("Threeboxes$Register", "tree", "[I", true)
  | _ => ("Threeboxes$Register", "count", "I", false)
def ty_Re : Nat → FieldType := fun k => match k with
  | 0 => .array .int
  | 1 => .array .int
  | 2 => .array .int
  | 3 => .array .int
  | _ => .int
def T_Se : u_T := fun k => match k with
  | 0 => ("Threeboxes$Secret", "threshold", "I", true)
  | 1 => ("Threeboxes$Secret", "zones", "I", true)
  | 2 => ("Threeboxes$Secret", "date", "I", true)
  | 3 => ("Threeboxes$Secret", "shares", "[I", true)
  | 4 => ("Threeboxes$Secret", "epochs", "[I", true)
  | 5 => ("Threeboxes$Secret", "epoch", "I", false)
  | 6 => ("Threeboxes$Secret", "frozenBy", "I", false)
  | _ => ("Threeboxes$Secret", "isByLiars", "Z", false)
def ty_Se : Nat → FieldType := fun k => match k with
  | 0 => .int
  | 1 => .int
  | 2 => .int
  | 3 => .array .int
  | 4 => .array .int
  | 5 => .int
  | 6 => .int
  | _ => .boolean
def T_Tb : u_T := fun k => match k with
  | 0 => ("Threeboxes", "keeperList", "Ljava/util/ArrayList;", true)
  | 1 => ("Threeboxes", "secretList", "Ljava/util/ArrayList;", true)
  | 2 => ("Threeboxes", "register", "LThreeboxes$Register;", true)
  | 3 => ("Threeboxes", "drawn", "LThreeboxes$Curve;", true)
  | 4 => ("Threeboxes", "group", "LThreeboxes$Group;", true)
  | 5 => ("Threeboxes", "chances", "[D", true)
  | 6 => ("Threeboxes", "day", "I", false)
  | 7 => ("Threeboxes", "refusals", "I", false)
  | 8 => ("Threeboxes", "failures", "I", false)
  | _ => ("Threeboxes", "messages", "I", false)
def ty_Tb : Nat → FieldType := fun k => match k with
  | 0 => .object "java/util/ArrayList"
  | 1 => .object "java/util/ArrayList"
  | 2 => .object "Threeboxes$Register"
  | 3 => .object "Threeboxes$Curve"
  | 4 => .object "Threeboxes$Group"
  | 5 => .array .double
  | 6 => .int
  | 7 => .int
  | 8 => .int
  | _ => .int
def T_Ou : u_T := fun k => match k with
  | 0 => ("ThreeboxesLaw$Out", "n", "J", false)
  | 1 => ("ThreeboxesLaw$Out", "d", "D", false)
  | _ => ("ThreeboxesLaw$Out", "s", "Ljava/lang/String;", false)
def ty_Ou : Nat → FieldType := fun k => match k with
  | 0 => .long
  | 1 => .double
  | _ => .object "java/lang/String"
def T_MK : u_T := fun k => match k with
  | 0 => ("ThreeboxesModel$Keeper", "zone", "I", true)
  | 1 => ("ThreeboxesModel$Keeper", "price", "I", true)
  | 2 => ("ThreeboxesModel$Keeper", "risk", "I", true)
  | 3 => ("ThreeboxesModel$Keeper", "lie", "I", false)
  | _ => ("ThreeboxesModel$Keeper", "isNoted", "Z", false)
def ty_MK : Nat → FieldType := fun k => match k with
  | 0 => .int
  | 1 => .int
  | 2 => .int
  | 3 => .int
  | _ => .boolean
def T_MS : u_T := fun k => match k with
  | 0 => ("ThreeboxesModel$Secret", "threshold", "I", true)
  | 1 => ("ThreeboxesModel$Secret", "zones", "I", true)
  | 2 => ("ThreeboxesModel$Secret", "date", "I", true)
  | 3 => ("ThreeboxesModel$Secret", "epoch", "I", false)
  | 4 => ("ThreeboxesModel$Secret", "frozen", "I", false)
  | 5 => ("ThreeboxesModel$Secret", "isTainted", "Z", false)
  | 6 => ("ThreeboxesModel$Secret", "shares", "[I", true)
  | _ => ("ThreeboxesModel$Secret", "epochs", "[I", true)
def ty_MS : Nat → FieldType := fun k => match k with
  | 0 => .int
  | 1 => .int
  | 2 => .int
  | 3 => .int
  | 4 => .int
  | 5 => .boolean
  | 6 => .array .int
  | _ => .array .int
def T_Mo : u_T := fun k => match k with
  | 0 => ("ThreeboxesModel", "thrown", "I", false)
  | 1 => ("ThreeboxesModel", "luck", "I", false)
  | 2 => ("ThreeboxesModel", "day", "I", false)
  | 3 => ("ThreeboxesModel", "refused", "I", false)
  | 4 => ("ThreeboxesModel", "failed", "I", false)
  | 5 => ("ThreeboxesModel", "messages", "I", false)
  | 6 => ("ThreeboxesModel", "keepers", "Ljava/util/List;", true)
  | 7 => ("ThreeboxesModel", "secrets", "Ljava/util/List;", true)
  | 8 => ("ThreeboxesModel", "entries", "Ljava/util/List;", true)
  | 9 => ("ThreeboxesModel", "inverses", "[I", true)
  | 10 => ("ThreeboxesModel", "points", "[I", true)
  | _ => ("ThreeboxesModel", "numbers", "[I", true)
def ty_Mo : Nat → FieldType := fun k => match k with
  | 0 => .int
  | 1 => .int
  | 2 => .int
  | 3 => .int
  | 4 => .int
  | 5 => .int
  | 6 => .object "java/util/List"
  | 7 => .object "java/util/List"
  | 8 => .object "java/util/List"
  | 9 => .array .int
  | 10 => .array .int
  | _ => .array .int
abbrev zCls : List vw_C := [("java/lang/String", T_St, 4), ("java/lang/StringBuilder", T_SB, 4), ("java/util/ArrayList", T_AL, 3), ("Threeboxes$Curve", T_Cu, 2), ("Threeboxes$Group", T_Gr, 6), ("Threeboxes$Keeper", T_Ke, 6), ("Threeboxes$Register", T_Re, 5), ("Threeboxes$Secret", T_Se, 8), ("Threeboxes", T_Tb, 10), ("ThreeboxesLaw$Out", T_Ou, 3), ("ThreeboxesModel$Keeper", T_MK, 5), ("ThreeboxesModel$Secret", T_MS, 8), ("ThreeboxesModel", T_Mo, 12)]
/-- a class of the worlds: its place, name, fields, their types; its layout is among the words -/
def zCl (ci : Nat) (C : String) (T : u_T) (N : Nat) (ty : Nat → FieldType) : Prop := zCls[ci]? = some (C, T, N) ∧ (∀ w ∈ u_ws C T N, w ∈ lw_tbl) ∧ (∀ k, k < N → parseFieldDescriptor (T k).2.2.1 = some (ty k)) ∧ ∀ a, a < N → ∀ b, b < N → a ≠ b → (T a).2.1 ≠ (T b).2.1
theorem zc_St : zCl 0 "java/lang/String" T_St 4 ty_St := ⟨rfl, by decide +kernel, by decide +kernel, by decide +kernel⟩
theorem zc_SB : zCl 1 "java/lang/StringBuilder" T_SB 4 ty_SB := ⟨rfl, by decide +kernel, by decide +kernel, by decide +kernel⟩
theorem zc_AL : zCl 2 "java/util/ArrayList" T_AL 3 ty_AL := ⟨rfl, by decide +kernel, by decide +kernel, by decide +kernel⟩
theorem zc_Cu : zCl 3 "Threeboxes$Curve" T_Cu 2 ty_Cu := ⟨rfl, by decide +kernel, by decide +kernel, by decide +kernel⟩
theorem zc_Gr : zCl 4 "Threeboxes$Group" T_Gr 6 ty_Gr := ⟨rfl, by decide +kernel, by decide +kernel, by decide +kernel⟩
theorem zc_Ke : zCl 5 "Threeboxes$Keeper" T_Ke 6 ty_Ke := ⟨rfl, by decide +kernel, by decide +kernel, by decide +kernel⟩
theorem zc_Re : zCl 6 "Threeboxes$Register" T_Re 5 ty_Re := ⟨rfl, by decide +kernel, by decide +kernel, by decide +kernel⟩
theorem zc_Se : zCl 7 "Threeboxes$Secret" T_Se 8 ty_Se := ⟨rfl, by decide +kernel, by decide +kernel, by decide +kernel⟩
theorem zc_Tb : zCl 8 "Threeboxes" T_Tb 10 ty_Tb := ⟨rfl, by decide +kernel, by decide +kernel, by decide +kernel⟩
theorem zc_Ou : zCl 9 "ThreeboxesLaw$Out" T_Ou 3 ty_Ou := ⟨rfl, by decide +kernel, by decide +kernel, by decide +kernel⟩
theorem zc_MK : zCl 10 "ThreeboxesModel$Keeper" T_MK 5 ty_MK := ⟨rfl, by decide +kernel, by decide +kernel, by decide +kernel⟩
theorem zc_MS : zCl 11 "ThreeboxesModel$Secret" T_MS 8 ty_MS := ⟨rfl, by decide +kernel, by decide +kernel, by decide +kernel⟩
theorem zc_Mo : zCl 12 "ThreeboxesModel" T_Mo 12 ty_Mo := ⟨rfl, by decide +kernel, by decide +kernel, by decide +kernel⟩
abbrev c_Cu_init : ByteArray := prog_2_method_1_code
abbrev y_Cu_init : MethodName := ⟨"Threeboxes$Curve", "<init>", "()V"⟩
abbrev c_Cu_draw : ByteArray := prog_2_method_2_code
abbrev y_Cu_draw : MethodName := ⟨"Threeboxes$Curve", "draw", "(II)V"⟩
abbrev c_Cu_nextNumber : ByteArray := prog_2_method_3_code
abbrev y_Cu_nextNumber : MethodName := ⟨"Threeboxes$Curve", "nextNumber", "()I"⟩
abbrev c_Cu_at : ByteArray := prog_2_method_4_code
abbrev y_Cu_at : MethodName := ⟨"Threeboxes$Curve", "at", "(I)I"⟩
abbrev c_Gr_init : ByteArray := prog_3_method_1_code
abbrev y_Gr_init : MethodName := ⟨"Threeboxes$Group", "<init>", "()V"⟩
abbrev c_Gr_begin : ByteArray := prog_3_method_2_code
abbrev y_Gr_begin : MethodName := ⟨"Threeboxes$Group", "begin", "(I)V"⟩
abbrev c_Gr_give : ByteArray := prog_3_method_3_code
abbrev y_Gr_give : MethodName := ⟨"Threeboxes$Group", "give", "(II)V"⟩
abbrev c_Gr_decode : ByteArray := prog_3_method_4_code
abbrev y_Gr_decode : MethodName := ⟨"Threeboxes$Group", "decode", "()V"⟩
abbrev c_Gr_isOnOneCurve : ByteArray := prog_3_method_5_code
abbrev y_Gr_isOnOneCurve : MethodName := ⟨"Threeboxes$Group", "isOnOneCurve", "()Z"⟩
abbrev c_Gr_isGood : ByteArray := prog_3_method_6_code
abbrev y_Gr_isGood : MethodName := ⟨"Threeboxes$Group", "isGood", "()Z"⟩
abbrev c_Gr_size : ByteArray := prog_3_method_7_code
abbrev y_Gr_size : MethodName := ⟨"Threeboxes$Group", "size", "()I"⟩
abbrev c_Gr_agreed : ByteArray := prog_3_method_8_code
abbrev y_Gr_agreed : MethodName := ⟨"Threeboxes$Group", "agreed", "()I"⟩
abbrev c_Gr_members : ByteArray := prog_3_method_9_code
abbrev y_Gr_members : MethodName := ⟨"Threeboxes$Group", "members", "()I"⟩
abbrev c_Gr_liars : ByteArray := prog_3_method_10_code
abbrev y_Gr_liars : MethodName := ⟨"Threeboxes$Group", "liars", "()I"⟩
abbrev c_Gr_curveAt : ByteArray := prog_3_method_11_code
abbrev y_Gr_curveAt : MethodName := ⟨"Threeboxes$Group", "curveAt", "(I)I"⟩
abbrev c_Gr_agreeingWith : ByteArray := prog_3_method_12_code
abbrev y_Gr_agreeingWith : MethodName := ⟨"Threeboxes$Group", "agreeingWith", "(I)I"⟩
abbrev c_Gr_through : ByteArray := prog_3_method_13_code
abbrev y_Gr_through : MethodName := ⟨"Threeboxes$Group", "through", "(II)I"⟩
abbrev c_Ke_init : ByteArray := prog_4_method_1_code
abbrev y_Ke_init : MethodName := ⟨"Threeboxes$Keeper", "<init>", "(IIII)V"⟩
abbrev c_Re_init : ByteArray := prog_5_method_1_code
abbrev y_Re_init : MethodName := ⟨"Threeboxes$Register", "<init>", "()V"⟩
abbrev c_Re_join : ByteArray := prog_5_method_2_code
abbrev y_Re_join : MethodName := ⟨"Threeboxes$Register", "join", "(II)I"⟩
abbrev c_Re_size : ByteArray := prog_5_method_3_code
abbrev y_Re_size : MethodName := ⟨"Threeboxes$Register", "size", "()I"⟩
abbrev c_Re_enter : ByteArray := prog_5_method_4_code
abbrev y_Re_enter : MethodName := ⟨"Threeboxes$Register", "enter", "(III)V"⟩
abbrev c_Re_joinAt : ByteArray := prog_5_method_5_code
abbrev y_Re_joinAt : MethodName := ⟨"Threeboxes$Register", "joinAt", "(I)V"⟩
abbrev c_Re_putAt : ByteArray := prog_5_method_6_code
abbrev y_Re_putAt : MethodName := ⟨"Threeboxes$Register", "putAt", "(II)V"⟩
abbrev c_Re_nodeAt : ByteArray := prog_5_method_7_code
abbrev y_Re_nodeAt : MethodName := ⟨"Threeboxes$Register", "nodeAt", "(I)I"⟩
abbrev c_Re_root : ByteArray := prog_5_method_8_code
abbrev y_Re_root : MethodName := ⟨"Threeboxes$Register", "root", "()I"⟩
abbrev c_Re_leafOf : ByteArray := prog_5_method_9_code
abbrev y_Re_leafOf : MethodName := ⟨"Threeboxes$Register", "leafOf", "(I)I"⟩
abbrev c_Re_tell : ByteArray := prog_5_method_10_code
abbrev y_Re_tell : MethodName := ⟨"Threeboxes$Register", "tell", "(II)I"⟩
abbrev c_Re_beside : ByteArray := prog_5_method_11_code
abbrev y_Re_beside : MethodName := ⟨"Threeboxes$Register", "beside", "(II)I"⟩
abbrev c_Re_comesToRoot : ByteArray := prog_5_method_12_code
abbrev y_Re_comesToRoot : MethodName := ⟨"Threeboxes$Register", "comesToRoot", "(II)Z"⟩
abbrev c_Re_isWhole : ByteArray := prog_5_method_13_code
abbrev y_Re_isWhole : MethodName := ⟨"Threeboxes$Register", "isWhole", "()Z"⟩
abbrev c_Se_init : ByteArray := prog_6_method_1_code
abbrev y_Se_init : MethodName := ⟨"Threeboxes$Secret", "<init>", "(III)V"⟩
abbrev c_Se_shareOf : ByteArray := prog_6_method_2_code
abbrev y_Se_shareOf : MethodName := ⟨"Threeboxes$Secret", "shareOf", "(I)I"⟩
abbrev c_Se_epochOf : ByteArray := prog_6_method_3_code
abbrev y_Se_epochOf : MethodName := ⟨"Threeboxes$Secret", "epochOf", "(I)I"⟩
abbrev c_Se_has : ByteArray := prog_6_method_4_code
abbrev y_Se_has : MethodName := ⟨"Threeboxes$Secret", "has", "(I)Z"⟩
abbrev c_Se_isCurrent : ByteArray := prog_6_method_5_code
abbrev y_Se_isCurrent : MethodName := ⟨"Threeboxes$Secret", "isCurrent", "(I)Z"⟩
abbrev c_Se_isStale : ByteArray := prog_6_method_6_code
abbrev y_Se_isStale : MethodName := ⟨"Threeboxes$Secret", "isStale", "(I)Z"⟩
abbrev c_Se_hold : ByteArray := prog_6_method_7_code
abbrev y_Se_hold : MethodName := ⟨"Threeboxes$Secret", "hold", "(II)V"⟩
abbrev c_Se_lose : ByteArray := prog_6_method_8_code
abbrev y_Se_lose : MethodName := ⟨"Threeboxes$Secret", "lose", "(I)V"⟩
abbrev c_Se_put : ByteArray := prog_6_method_9_code
abbrev y_Se_put : MethodName := ⟨"Threeboxes$Secret", "put", "(III)V"⟩
abbrev c_Se_currentSet : ByteArray := prog_6_method_10_code
abbrev y_Se_currentSet : MethodName := ⟨"Threeboxes$Secret", "currentSet", "()I"⟩
abbrev c_Se_staleSet : ByteArray := prog_6_method_11_code
abbrev y_Se_staleSet : MethodName := ⟨"Threeboxes$Secret", "staleSet", "()I"⟩
abbrev c_Tb_init : ByteArray := prog_1_method_1_code
abbrev y_Tb_init : MethodName := ⟨"Threeboxes", "<init>", "()V"⟩
abbrev c_Tb_keeper : ByteArray := prog_1_method_2_code
abbrev y_Tb_keeper : MethodName := ⟨"Threeboxes", "keeper", "(III)I"⟩
abbrev c_Tb_lie : ByteArray := prog_1_method_3_code
abbrev y_Tb_lie : MethodName := ⟨"Threeboxes", "lie", "(II)I"⟩
abbrev c_Tb_deal : ByteArray := prog_1_method_4_code
abbrev y_Tb_deal : MethodName := ⟨"Threeboxes", "deal", "(IIIII)I"⟩
abbrev c_Tb_fresh : ByteArray := prog_1_method_5_code
abbrev y_Tb_fresh : MethodName := ⟨"Threeboxes", "fresh", "(II)I"⟩
abbrev c_Tb_flood : ByteArray := prog_1_method_6_code
abbrev y_Tb_flood : MethodName := ⟨"Threeboxes", "flood", "(I)I"⟩
abbrev c_Tb_rebuild : ByteArray := prog_1_method_7_code
abbrev y_Tb_rebuild : MethodName := ⟨"Threeboxes", "rebuild", "(III)I"⟩
abbrev c_Tb_freeze : ByteArray := prog_1_method_8_code
abbrev y_Tb_freeze : MethodName := ⟨"Threeboxes", "freeze", "(IIZ)I"⟩
abbrev c_Tb_pass : ByteArray := prog_1_method_9_code
abbrev y_Tb_pass : MethodName := ⟨"Threeboxes", "pass", "(I)I"⟩
abbrev c_Tb_open : ByteArray := prog_1_method_10_code
abbrev y_Tb_open : MethodName := ⟨"Threeboxes", "open", "(II)I"⟩
abbrev c_Tb_knock : ByteArray := prog_1_method_11_code
abbrev y_Tb_knock : MethodName := ⟨"Threeboxes", "knock", "()I"⟩
abbrev c_Tb_ofKeeper : ByteArray := prog_1_method_12_code
abbrev y_Tb_ofKeeper : MethodName := ⟨"Threeboxes", "ofKeeper", "(II)I"⟩
abbrev c_Tb_ofSecret : ByteArray := prog_1_method_13_code
abbrev y_Tb_ofSecret : MethodName := ⟨"Threeboxes", "ofSecret", "(II)I"⟩
abbrev c_Tb_share : ByteArray := prog_1_method_14_code
abbrev y_Tb_share : MethodName := ⟨"Threeboxes", "share", "(III)I"⟩
abbrev c_Tb_bank : ByteArray := prog_1_method_15_code
abbrev y_Tb_bank : MethodName := ⟨"Threeboxes", "bank", "(I)I"⟩
abbrev c_Tb_ofEntry : ByteArray := prog_1_method_16_code
abbrev y_Tb_ofEntry : MethodName := ⟨"Threeboxes", "ofEntry", "(II)I"⟩
abbrev c_Tb_proof : ByteArray := prog_1_method_17_code
abbrev y_Tb_proof : MethodName := ⟨"Threeboxes", "proof", "(II)I"⟩
abbrev c_Tb_row : ByteArray := prog_1_method_18_code
abbrev y_Tb_row : MethodName := ⟨"Threeboxes", "row", "(I)Ljava/lang/String;"⟩
abbrev c_Tb_would : ByteArray := prog_1_method_19_code
abbrev y_Tb_would : MethodName := ⟨"Threeboxes", "would", "(III)I"⟩
abbrev c_Tb_may : ByteArray := prog_1_method_20_code
abbrev y_Tb_may : MethodName := ⟨"Threeboxes", "may", "(III)Z"⟩
abbrev c_Tb_lost : ByteArray := prog_1_method_21_code
abbrev y_Tb_lost : MethodName := ⟨"Threeboxes", "lost", "(I)D"⟩
abbrev c_Tb_fewest : ByteArray := prog_1_method_22_code
abbrev y_Tb_fewest : MethodName := ⟨"Threeboxes", "fewest", "(I)I"⟩
abbrev c_Tb_proves : ByteArray := prog_1_method_23_code
abbrev y_Tb_proves : MethodName := ⟨"Threeboxes", "proves", "(II)Z"⟩
abbrev c_Tb_isSound : ByteArray := prog_1_method_24_code
abbrev y_Tb_isSound : MethodName := ⟨"Threeboxes", "isSound", "()Z"⟩
abbrev c_Tb_digest : ByteArray := prog_1_method_25_code
abbrev y_Tb_digest : MethodName := ⟨"Threeboxes", "digest", "()J"⟩
abbrev c_Tb_digestSecret : ByteArray := prog_1_method_26_code
abbrev y_Tb_digestSecret : MethodName := ⟨"Threeboxes", "digestSecret", "(JLThreeboxes$Secret;)J"⟩
abbrev c_Tb_isFrom : ByteArray := prog_1_method_27_code
abbrev y_Tb_isFrom : MethodName := ⟨"Threeboxes", "isFrom", "(III)Z"⟩
abbrev c_Tb_isNumber : ByteArray := prog_1_method_28_code
abbrev y_Tb_isNumber : MethodName := ⟨"Threeboxes", "isNumber", "(I)Z"⟩
abbrev c_Tb_isIn : ByteArray := prog_1_method_29_code
abbrev y_Tb_isIn : MethodName := ⟨"Threeboxes", "isIn", "(II)Z"⟩
abbrev c_Tb_pointOf : ByteArray := prog_1_method_30_code
abbrev y_Tb_pointOf : MethodName := ⟨"Threeboxes", "pointOf", "(I)I"⟩
abbrev c_Tb_allKeepers : ByteArray := prog_1_method_31_code
abbrev y_Tb_allKeepers : MethodName := ⟨"Threeboxes", "allKeepers", "()I"⟩
abbrev c_Tb_needSet : ByteArray := prog_1_method_32_code
abbrev y_Tb_needSet : MethodName := ⟨"Threeboxes", "needSet", "(I)V"⟩
abbrev c_Tb_needEntry : ByteArray := prog_1_method_33_code
abbrev y_Tb_needEntry : MethodName := ⟨"Threeboxes", "needEntry", "(I)V"⟩
abbrev c_Tb_keeperAt : ByteArray := prog_1_method_34_code
abbrev y_Tb_keeperAt : MethodName := ⟨"Threeboxes", "keeperAt", "(I)LThreeboxes$Keeper;"⟩
abbrev c_Tb_secretAt : ByteArray := prog_1_method_35_code
abbrev y_Tb_secretAt : MethodName := ⟨"Threeboxes", "secretAt", "(I)LThreeboxes$Secret;"⟩
abbrev c_Tb_sharesOf : ByteArray := prog_1_method_36_code
abbrev y_Tb_sharesOf : MethodName := ⟨"Threeboxes", "sharesOf", "(I)I"⟩
abbrev c_Tb_staleSharesOf : ByteArray := prog_1_method_37_code
abbrev y_Tb_staleSharesOf : MethodName := ⟨"Threeboxes", "staleSharesOf", "(I)I"⟩
abbrev c_Tb_loseShares : ByteArray := prog_1_method_38_code
abbrev y_Tb_loseShares : MethodName := ⟨"Threeboxes", "loseShares", "(I)V"⟩
abbrev c_Tb_currentShares : ByteArray := prog_1_method_39_code
abbrev y_Tb_currentShares : MethodName := ⟨"Threeboxes", "currentShares", "()I"⟩
abbrev c_Tb_staleShares : ByteArray := prog_1_method_40_code
abbrev y_Tb_staleShares : MethodName := ⟨"Threeboxes", "staleShares", "()I"⟩
abbrev c_Tb_noteAll : ByteArray := prog_1_method_41_code
abbrev y_Tb_noteAll : MethodName := ⟨"Threeboxes", "noteAll", "(I)V"⟩
abbrev c_Tb_notedKeepers : ByteArray := prog_1_method_42_code
abbrev y_Tb_notedKeepers : MethodName := ⟨"Threeboxes", "notedKeepers", "()I"⟩
abbrev c_Tb_isAnyLying : ByteArray := prog_1_method_43_code
abbrev y_Tb_isAnyLying : MethodName := ⟨"Threeboxes", "isAnyLying", "(I)Z"⟩
abbrev c_Tb_gatherGroup : ByteArray := prog_1_method_44_code
abbrev y_Tb_gatherGroup : MethodName := ⟨"Threeboxes", "gatherGroup", "(LThreeboxes$Secret;I)V"⟩
abbrev c_Tb_zonesOf : ByteArray := prog_1_method_45_code
abbrev y_Tb_zonesOf : MethodName := ⟨"Threeboxes", "zonesOf", "(I)I"⟩
abbrev c_Tb_isLawful : ByteArray := prog_1_method_46_code
abbrev y_Tb_isLawful : MethodName := ⟨"Threeboxes", "isLawful", "(LThreeboxes$Secret;I)Z"⟩
abbrev c_Tb_priceOf : ByteArray := prog_1_method_47_code
abbrev y_Tb_priceOf : MethodName := ⟨"Threeboxes", "priceOf", "(I)I"⟩
abbrev c_Tb_cheapestOf : ByteArray := prog_1_method_48_code
abbrev y_Tb_cheapestOf : MethodName := ⟨"Threeboxes", "cheapestOf", "(I)I"⟩
abbrev c_Tb_boughtOf : ByteArray := prog_1_method_49_code
abbrev y_Tb_boughtOf : MethodName := ⟨"Threeboxes", "boughtOf", "(LThreeboxes$Secret;)I"⟩
abbrev c_Tb_fewestOf : ByteArray := prog_1_method_50_code
abbrev y_Tb_fewestOf : MethodName := ⟨"Threeboxes", "fewestOf", "(LThreeboxes$Secret;)I"⟩
abbrev c_Tb_isLess : ByteArray := prog_1_method_51_code
abbrev y_Tb_isLess : MethodName := ⟨"Threeboxes", "isLess", "(II)Z"⟩
abbrev c_Tb_chanceLost : ByteArray := prog_1_method_52_code
abbrev y_Tb_chanceLost : MethodName := ⟨"Threeboxes", "chanceLost", "(LThreeboxes$Secret;)D"⟩
abbrev c_Tb_riskOne : ByteArray := prog_1_method_53_code
abbrev y_Tb_riskOne : MethodName := ⟨"Threeboxes", "riskOne", "(I)V"⟩
abbrev c_Tb_tellOfKeeper : ByteArray := prog_1_method_54_code
abbrev y_Tb_tellOfKeeper : MethodName := ⟨"Threeboxes", "tellOfKeeper", "(LThreeboxes$Keeper;I)I"⟩
abbrev c_Tb_tellOfSecret : ByteArray := prog_1_method_55_code
abbrev y_Tb_tellOfSecret : MethodName := ⟨"Threeboxes", "tellOfSecret", "(LThreeboxes$Secret;I)I"⟩
abbrev c_Tb_boughtFor : ByteArray := prog_1_method_56_code
abbrev y_Tb_boughtFor : MethodName := ⟨"Threeboxes", "boughtFor", "(LThreeboxes$Secret;)I"⟩
abbrev c_Tb_tellOfShare : ByteArray := prog_1_method_57_code
abbrev y_Tb_tellOfShare : MethodName := ⟨"Threeboxes", "tellOfShare", "(LThreeboxes$Secret;LThreeboxes$Keeper;I)I"⟩
abbrev c_Tb_tellOfBank : ByteArray := prog_1_method_58_code
abbrev y_Tb_tellOfBank : MethodName := ⟨"Threeboxes", "tellOfBank", "(I)I"⟩
abbrev c_Tb_tellOfGroup : ByteArray := prog_1_method_59_code
abbrev y_Tb_tellOfGroup : MethodName := ⟨"Threeboxes", "tellOfGroup", "(LThreeboxes$Secret;I)I"⟩
abbrev c_Tb_isSecretSound : ByteArray := prog_1_method_60_code
abbrev y_Tb_isSecretSound : MethodName := ⟨"Threeboxes", "isSecretSound", "(LThreeboxes$Secret;)Z"⟩
abbrev c_Ou_init : ByteArray := prog_8_method_1_code
abbrev y_Ou_init : MethodName := ⟨"ThreeboxesLaw$Out", "<init>", "()V"⟩
abbrev c_MK_init : ByteArray := prog_10_method_1_code
abbrev y_MK_init : MethodName := ⟨"ThreeboxesModel$Keeper", "<init>", "(III)V"⟩
abbrev c_MS_init : ByteArray := prog_11_method_1_code
abbrev y_MS_init : MethodName := ⟨"ThreeboxesModel$Secret", "<init>", "(III)V"⟩
abbrev c_MS_isGood : ByteArray := prog_11_method_2_code
abbrev y_MS_isGood : MethodName := ⟨"ThreeboxesModel$Secret", "isGood", "(I)Z"⟩
abbrev c_MS_isStale : ByteArray := prog_11_method_3_code
abbrev y_MS_isStale : MethodName := ⟨"ThreeboxesModel$Secret", "isStale", "(I)Z"⟩
abbrev c_MS_good : ByteArray := prog_11_method_4_code
abbrev y_MS_good : MethodName := ⟨"ThreeboxesModel$Secret", "good", "()I"⟩
abbrev c_MS_stale : ByteArray := prog_11_method_5_code
abbrev y_MS_stale : MethodName := ⟨"ThreeboxesModel$Secret", "stale", "()I"⟩
abbrev c_Mo_init : ByteArray := prog_9_method_1_code
abbrev y_Mo_init : MethodName := ⟨"ThreeboxesModel", "<init>", "()V"⟩
abbrev c_Mo_thrown : ByteArray := prog_9_method_2_code
abbrev y_Mo_thrown : MethodName := ⟨"ThreeboxesModel", "thrown", "()I"⟩
abbrev c_Mo_no : ByteArray := prog_9_method_3_code
abbrev y_Mo_no : MethodName := ⟨"ThreeboxesModel", "no", "(I)I"⟩
abbrev c_Mo_in : ByteArray := prog_9_method_4_code
abbrev y_Mo_in : MethodName := ⟨"ThreeboxesModel", "in", "(III)Z"⟩
abbrev c_Mo_has : ByteArray := prog_9_method_5_code
abbrev y_Mo_has : MethodName := ⟨"ThreeboxesModel", "has", "(II)Z"⟩
abbrev c_Mo_size : ByteArray := prog_9_method_6_code
abbrev y_Mo_size : MethodName := ⟨"ThreeboxesModel", "size", "(I)I"⟩
abbrev c_Mo_mod : ByteArray := prog_9_method_7_code
abbrev y_Mo_mod : MethodName := ⟨"ThreeboxesModel", "mod", "(I)I"⟩
abbrev c_Mo_over : ByteArray := prog_9_method_8_code
abbrev y_Mo_over : MethodName := ⟨"ThreeboxesModel", "over", "(I)I"⟩
abbrev c_Mo_draw : ByteArray := prog_9_method_9_code
abbrev y_Mo_draw : MethodName := ⟨"ThreeboxesModel", "draw", "()I"⟩
abbrev c_Mo_at : ByteArray := prog_9_method_10_code
abbrev y_Mo_at : MethodName := ⟨"ThreeboxesModel", "at", "([II)I"⟩
abbrev c_Mo_through : ByteArray := prog_9_method_11_code
abbrev y_Mo_through : MethodName := ⟨"ThreeboxesModel", "through", "([I[III)I"⟩
abbrev c_Mo_gives : ByteArray := prog_9_method_12_code
abbrev y_Mo_gives : MethodName := ⟨"ThreeboxesModel", "gives", "(LThreeboxesModel$Secret;I)I"⟩
abbrev c_Mo_group : ByteArray := prog_9_method_13_code
abbrev y_Mo_group : MethodName := ⟨"ThreeboxesModel", "group", "(LThreeboxesModel$Secret;I)I"⟩
abbrev c_Mo_best : ByteArray := prog_9_method_14_code
abbrev y_Mo_best : MethodName := ⟨"ThreeboxesModel", "best", "(LThreeboxesModel$Secret;I)I"⟩
abbrev c_Mo_along : ByteArray := prog_9_method_15_code
abbrev y_Mo_along : MethodName := ⟨"ThreeboxesModel", "along", "(LThreeboxesModel$Secret;II)I"⟩
abbrev c_Mo_agreeing : ByteArray := prog_9_method_16_code
abbrev y_Mo_agreeing : MethodName := ⟨"ThreeboxesModel", "agreeing", "(LThreeboxesModel$Secret;II)I"⟩
abbrev c_Mo_isGood : ByteArray := prog_9_method_17_code
abbrev y_Mo_isGood : MethodName := ⟨"ThreeboxesModel", "isGood", "(LThreeboxesModel$Secret;I)Z"⟩
abbrev c_Mo_found : ByteArray := prog_9_method_18_code
abbrev y_Mo_found : MethodName := ⟨"ThreeboxesModel", "found", "(LThreeboxesModel$Secret;I)I"⟩
abbrev c_Mo_liars : ByteArray := prog_9_method_19_code
abbrev y_Mo_liars : MethodName := ⟨"ThreeboxesModel", "liars", "(LThreeboxesModel$Secret;I)I"⟩
abbrev c_Mo_isLawful : ByteArray := prog_9_method_20_code
abbrev y_Mo_isLawful : MethodName := ⟨"ThreeboxesModel", "isLawful", "(LThreeboxesModel$Secret;I)Z"⟩
abbrev c_Mo_write : ByteArray := prog_9_method_21_code
abbrev y_Mo_write : MethodName := ⟨"ThreeboxesModel", "write", "(II)V"⟩
abbrev c_Mo_isKeeper : ByteArray := prog_9_method_22_code
abbrev y_Mo_isKeeper : MethodName := ⟨"ThreeboxesModel", "isKeeper", "(I)Z"⟩
abbrev c_Mo_isSecret : ByteArray := prog_9_method_23_code
abbrev y_Mo_isSecret : MethodName := ⟨"ThreeboxesModel", "isSecret", "(I)Z"⟩
abbrev c_Mo_isSet : ByteArray := prog_9_method_24_code
abbrev y_Mo_isSet : MethodName := ⟨"ThreeboxesModel", "isSet", "(I)Z"⟩
abbrev c_Mo_keeper : ByteArray := prog_9_method_25_code
abbrev y_Mo_keeper : MethodName := ⟨"ThreeboxesModel", "keeper", "(III)I"⟩
abbrev c_Mo_lie : ByteArray := prog_9_method_26_code
abbrev y_Mo_lie : MethodName := ⟨"ThreeboxesModel", "lie", "(II)I"⟩
abbrev c_Mo_deal : ByteArray := prog_9_method_27_code
abbrev y_Mo_deal : MethodName := ⟨"ThreeboxesModel", "deal", "(IIIII)I"⟩
abbrev c_Mo_fresh : ByteArray := prog_9_method_28_code
abbrev y_Mo_fresh : MethodName := ⟨"ThreeboxesModel", "fresh", "(II)I"⟩
abbrev c_Mo_flood : ByteArray := prog_9_method_29_code
abbrev y_Mo_flood : MethodName := ⟨"ThreeboxesModel", "flood", "(I)I"⟩
abbrev c_Mo_rebuild : ByteArray := prog_9_method_30_code
abbrev y_Mo_rebuild : MethodName := ⟨"ThreeboxesModel", "rebuild", "(III)I"⟩
abbrev c_Mo_freeze : ByteArray := prog_9_method_31_code
abbrev y_Mo_freeze : MethodName := ⟨"ThreeboxesModel", "freeze", "(IIZ)I"⟩
abbrev c_Mo_pass : ByteArray := prog_9_method_32_code
abbrev y_Mo_pass : MethodName := ⟨"ThreeboxesModel", "pass", "(I)I"⟩
abbrev c_Mo_open : ByteArray := prog_9_method_33_code
abbrev y_Mo_open : MethodName := ⟨"ThreeboxesModel", "open", "(II)I"⟩
abbrev c_Mo_knock : ByteArray := prog_9_method_34_code
abbrev y_Mo_knock : MethodName := ⟨"ThreeboxesModel", "knock", "()I"⟩
abbrev c_Mo_keeperNow : ByteArray := prog_9_method_35_code
abbrev y_Mo_keeperNow : MethodName := ⟨"ThreeboxesModel", "keeperNow", "(II)I"⟩
abbrev c_Mo_ofKeeper : ByteArray := prog_9_method_36_code
abbrev y_Mo_ofKeeper : MethodName := ⟨"ThreeboxesModel", "ofKeeper", "(II)I"⟩
abbrev c_Mo_priceOf : ByteArray := prog_9_method_37_code
abbrev y_Mo_priceOf : MethodName := ⟨"ThreeboxesModel", "priceOf", "(I)I"⟩
abbrev c_Mo_bought : ByteArray := prog_9_method_38_code
abbrev y_Mo_bought : MethodName := ⟨"ThreeboxesModel", "bought", "(LThreeboxesModel$Secret;)I"⟩
abbrev c_Mo_secretNow : ByteArray := prog_9_method_39_code
abbrev y_Mo_secretNow : MethodName := ⟨"ThreeboxesModel", "secretNow", "(II)I"⟩
abbrev c_Mo_ofSecret : ByteArray := prog_9_method_40_code
abbrev y_Mo_ofSecret : MethodName := ⟨"ThreeboxesModel", "ofSecret", "(II)I"⟩
abbrev c_Mo_shareNow : ByteArray := prog_9_method_41_code
abbrev y_Mo_shareNow : MethodName := ⟨"ThreeboxesModel", "shareNow", "(III)I"⟩
abbrev c_Mo_share : ByteArray := prog_9_method_42_code
abbrev y_Mo_share : MethodName := ⟨"ThreeboxesModel", "share", "(III)I"⟩
abbrev c_Mo_node : ByteArray := prog_9_method_43_code
abbrev y_Mo_node : MethodName := ⟨"ThreeboxesModel", "node", "(IIII)I"⟩
abbrev c_Mo_root : ByteArray := prog_9_method_44_code
abbrev y_Mo_root : MethodName := ⟨"ThreeboxesModel", "root", "()I"⟩
abbrev c_Mo_bankNow : ByteArray := prog_9_method_45_code
abbrev y_Mo_bankNow : MethodName := ⟨"ThreeboxesModel", "bankNow", "(I)I"⟩
abbrev c_Mo_bank : ByteArray := prog_9_method_46_code
abbrev y_Mo_bank : MethodName := ⟨"ThreeboxesModel", "bank", "(I)I"⟩
abbrev c_Mo_isEntry : ByteArray := prog_9_method_47_code
abbrev y_Mo_isEntry : MethodName := ⟨"ThreeboxesModel", "isEntry", "(I)Z"⟩
abbrev c_Mo_ofEntry : ByteArray := prog_9_method_48_code
abbrev y_Mo_ofEntry : MethodName := ⟨"ThreeboxesModel", "ofEntry", "(II)I"⟩
abbrev c_Mo_proofNow : ByteArray := prog_9_method_49_code
abbrev y_Mo_proofNow : MethodName := ⟨"ThreeboxesModel", "proofNow", "(II)I"⟩
abbrev c_Mo_proof : ByteArray := prog_9_method_50_code
abbrev y_Mo_proof : MethodName := ⟨"ThreeboxesModel", "proof", "(II)I"⟩
abbrev c_Mo_row : ByteArray := prog_9_method_51_code
abbrev y_Mo_row : MethodName := ⟨"ThreeboxesModel", "row", "(I)Ljava/lang/String;"⟩
abbrev c_Mo_wouldNow : ByteArray := prog_9_method_52_code
abbrev y_Mo_wouldNow : MethodName := ⟨"ThreeboxesModel", "wouldNow", "(III)I"⟩
abbrev c_Mo_would : ByteArray := prog_9_method_53_code
abbrev y_Mo_would : MethodName := ⟨"ThreeboxesModel", "would", "(III)I"⟩
abbrev c_Mo_may : ByteArray := prog_9_method_54_code
abbrev y_Mo_may : MethodName := ⟨"ThreeboxesModel", "may", "(III)Z"⟩
abbrev c_Mo_lostNow : ByteArray := prog_9_method_55_code
abbrev y_Mo_lostNow : MethodName := ⟨"ThreeboxesModel", "lostNow", "(I)D"⟩
abbrev c_Mo_lost : ByteArray := prog_9_method_56_code
abbrev y_Mo_lost : MethodName := ⟨"ThreeboxesModel", "lost", "(I)D"⟩
abbrev c_Mo_fewestNow : ByteArray := prog_9_method_57_code
abbrev y_Mo_fewestNow : MethodName := ⟨"ThreeboxesModel", "fewestNow", "(I)I"⟩
abbrev c_Mo_fewest : ByteArray := prog_9_method_58_code
abbrev y_Mo_fewest : MethodName := ⟨"ThreeboxesModel", "fewest", "(I)I"⟩
abbrev c_Mo_proves : ByteArray := prog_9_method_59_code
abbrev y_Mo_proves : MethodName := ⟨"ThreeboxesModel", "proves", "(II)Z"⟩
abbrev c_Mo_isOneCurve : ByteArray := prog_9_method_60_code
abbrev y_Mo_isOneCurve : MethodName := ⟨"ThreeboxesModel", "isOneCurve", "(LThreeboxesModel$Secret;)Z"⟩
abbrev c_Mo_isSoundNow : ByteArray := prog_9_method_61_code
abbrev y_Mo_isSoundNow : MethodName := ⟨"ThreeboxesModel", "isSoundNow", "()Z"⟩
abbrev c_Mo_isSound : ByteArray := prog_9_method_62_code
abbrev y_Mo_isSound : MethodName := ⟨"ThreeboxesModel", "isSound", "()Z"⟩
abbrev c_Mo_digest : ByteArray := prog_9_method_63_code
abbrev y_Mo_digest : MethodName := ⟨"ThreeboxesModel", "digest", "()J"⟩
abbrev c_AB_init : ByteArray := prog_13_method_2_code
abbrev y_AB_init : MethodName := ⟨"java/lang/AbstractStringBuilder", "<init>", "(I)V"⟩
abbrev c_AB_length : ByteArray := prog_13_method_6_code
abbrev y_AB_length : MethodName := ⟨"java/lang/AbstractStringBuilder", "length", "()I"⟩
abbrev c_AB_ensureCapacityInternal : ByteArray := prog_13_method_9_code
abbrev y_AB_ensureCapacityInternal : MethodName := ⟨"java/lang/AbstractStringBuilder", "ensureCapacityInternal", "(I)V"⟩
abbrev c_AB_newCapacity : ByteArray := prog_13_method_10_code
abbrev y_AB_newCapacity : MethodName := ⟨"java/lang/AbstractStringBuilder", "newCapacity", "(I)I"⟩
abbrev c_AB_inflate : ByteArray := prog_13_method_11_code
abbrev y_AB_inflate : MethodName := ⟨"java/lang/AbstractStringBuilder", "inflate", "()V"⟩
abbrev c_AB_append_3 : ByteArray := prog_13_method_22_code
abbrev y_AB_append_3 : MethodName := ⟨"java/lang/AbstractStringBuilder", "append", "(Ljava/lang/String;)Ljava/lang/AbstractStringBuilder;"⟩
abbrev c_AB_appendNull : ByteArray := prog_13_method_26_code
abbrev y_AB_appendNull : MethodName := ⟨"java/lang/AbstractStringBuilder", "appendNull", "()Ljava/lang/AbstractStringBuilder;"⟩
abbrev c_AB_append_1 : ByteArray := prog_13_method_31_code
abbrev y_AB_append_1 : MethodName := ⟨"java/lang/AbstractStringBuilder", "append", "(C)Ljava/lang/AbstractStringBuilder;"⟩
abbrev c_AB_append_2 : ByteArray := prog_13_method_32_code
abbrev y_AB_append_2 : MethodName := ⟨"java/lang/AbstractStringBuilder", "append", "(I)Ljava/lang/AbstractStringBuilder;"⟩
abbrev c_AB_getValue : ByteArray := prog_13_method_64_code
abbrev y_AB_getValue : MethodName := ⟨"java/lang/AbstractStringBuilder", "getValue", "()[B"⟩
abbrev c_AB_isLatin1 : ByteArray := prog_13_method_68_code
abbrev y_AB_isLatin1 : MethodName := ⟨"java/lang/AbstractStringBuilder", "isLatin1", "()Z"⟩
abbrev c_AB_inflateIfNeededFor : ByteArray := prog_13_method_71_code
abbrev y_AB_inflateIfNeededFor : MethodName := ⟨"java/lang/AbstractStringBuilder", "inflateIfNeededFor", "(Ljava/lang/String;)V"⟩
abbrev c_AB_putStringAt : ByteArray := prog_13_method_73_code
abbrev y_AB_putStringAt : MethodName := ⟨"java/lang/AbstractStringBuilder", "putStringAt", "(ILjava/lang/String;)V"⟩
abbrev c_In_getChars : ByteArray := prog_22_method_12_code
abbrev y_In_getChars : MethodName := ⟨"java/lang/Integer", "getChars", "(II[B)I"⟩
abbrev c_In_stringSize : ByteArray := prog_22_method_13_code
abbrev y_In_stringSize : MethodName := ⟨"java/lang/Integer", "stringSize", "(I)I"⟩
abbrev c_In_bitCount : ByteArray := prog_22_method_49_code
abbrev y_In_bitCount : MethodName := ⟨"java/lang/Integer", "bitCount", "(I)I"⟩
abbrev c_Ma_floorMod : ByteArray := prog_24_method_50_code
abbrev y_Ma_floorMod : MethodName := ⟨"java/lang/Math", "floorMod", "(II)I"⟩
abbrev c_Ma_max : ByteArray := prog_24_method_65_code
abbrev y_Ma_max : MethodName := ⟨"java/lang/Math", "max", "(II)I"⟩
abbrev c_Ma_min : ByteArray := prog_24_method_69_code
abbrev y_Ma_min : MethodName := ⟨"java/lang/Math", "min", "(II)I"⟩
abbrev c_St_init_2 : ByteArray := prog_27_method_53_code
abbrev y_St_init_2 : MethodName := ⟨"java/lang/String", "<init>", "(Ljava/lang/StringBuilder;)V"⟩
abbrev c_St_length : ByteArray := prog_27_method_54_code
abbrev y_St_length : MethodName := ⟨"java/lang/String", "length", "()I"⟩
abbrev c_St_getBytes : ByteArray := prog_27_method_147_code
abbrev y_St_getBytes : MethodName := ⟨"java/lang/String", "getBytes", "([BIB)V"⟩
abbrev c_St_init_1 : ByteArray := prog_27_method_150_code
abbrev y_St_init_1 : MethodName := ⟨"java/lang/String", "<init>", "(Ljava/lang/AbstractStringBuilder;Ljava/lang/Void;)V"⟩
abbrev c_St_coder : ByteArray := prog_27_method_152_code
abbrev y_St_coder : MethodName := ⟨"java/lang/String", "coder", "()B"⟩
abbrev c_St_checkIndex : ByteArray := prog_27_method_155_code
abbrev y_St_checkIndex : MethodName := ⟨"java/lang/String", "checkIndex", "(II)V"⟩
abbrev c_St_checkBoundsOffCount : ByteArray := prog_27_method_157_code
abbrev y_St_checkBoundsOffCount : MethodName := ⟨"java/lang/String", "checkBoundsOffCount", "(III)I"⟩
abbrev c_St_checkBoundsBeginEnd : ByteArray := prog_27_method_158_code
abbrev y_St_checkBoundsBeginEnd : MethodName := ⟨"java/lang/String", "checkBoundsBeginEnd", "(III)V"⟩
abbrev c_SB_init : ByteArray := prog_28_method_1_code
abbrev y_SB_init : MethodName := ⟨"java/lang/StringBuilder", "<init>", "()V"⟩
abbrev c_SB_append_3 : ByteArray := prog_28_method_7_code
abbrev y_SB_append_3 : MethodName := ⟨"java/lang/StringBuilder", "append", "(Ljava/lang/String;)Ljava/lang/StringBuilder;"⟩
abbrev c_SB_append_1 : ByteArray := prog_28_method_14_code
abbrev y_SB_append_1 : MethodName := ⟨"java/lang/StringBuilder", "append", "(C)Ljava/lang/StringBuilder;"⟩
abbrev c_SB_append_2 : ByteArray := prog_28_method_15_code
abbrev y_SB_append_2 : MethodName := ⟨"java/lang/StringBuilder", "append", "(I)Ljava/lang/StringBuilder;"⟩
abbrev c_SB_toString : ByteArray := prog_28_method_42_code
abbrev y_SB_toString : MethodName := ⟨"java/lang/StringBuilder", "toString", "()Ljava/lang/String;"⟩
abbrev c_SB_length : ByteArray := prog_28_method_93_code
abbrev y_SB_length : MethodName := ⟨"java/lang/StringBuilder", "length", "()I"⟩
abbrev c_SL_canEncode : ByteArray := prog_29_method_3_code
abbrev y_SL_canEncode : MethodName := ⟨"java/lang/StringLatin1", "canEncode", "(C)Z"⟩
abbrev c_SL_inflate : ByteArray := prog_29_method_50_code
abbrev y_SL_inflate : MethodName := ⟨"java/lang/StringLatin1", "inflate", "([BI[BII)V"⟩
abbrev c_SU_newBytesFor : ByteArray := prog_30_method_2_code
abbrev y_SU_newBytesFor : MethodName := ⟨"java/lang/StringUTF16", "newBytesFor", "(I)[B"⟩
abbrev c_SU_newBytesLength : ByteArray := prog_30_method_3_code
abbrev y_SU_newBytesLength : MethodName := ⟨"java/lang/StringUTF16", "newBytesLength", "(I)I"⟩
abbrev c_SU_putChar : ByteArray := prog_30_method_4_code
abbrev y_SU_putChar : MethodName := ⟨"java/lang/StringUTF16", "putChar", "([BII)V"⟩
abbrev c_SU_getChar : ByteArray := prog_30_method_5_code
abbrev y_SU_getChar : MethodName := ⟨"java/lang/StringUTF16", "getChar", "([BI)C"⟩
abbrev c_SU_length : ByteArray := prog_30_method_6_code
abbrev y_SU_length : MethodName := ⟨"java/lang/StringUTF16", "length", "([B)I"⟩
abbrev c_SU_coderFromArrayLen : ByteArray := prog_30_method_15_code
abbrev y_SU_coderFromArrayLen : MethodName := ⟨"java/lang/StringUTF16", "coderFromArrayLen", "([BI)B"⟩
abbrev c_SU_compress_1 : ByteArray := prog_30_method_17_code
abbrev y_SU_compress_1 : MethodName := ⟨"java/lang/StringUTF16", "compress", "([BII)[B"⟩
abbrev c_SU_compress_2 : ByteArray := prog_30_method_22_code
abbrev y_SU_compress_2 : MethodName := ⟨"java/lang/StringUTF16", "compress", "([BI[BII)I"⟩
abbrev c_SU_putCharSB : ByteArray := prog_30_method_71_code
abbrev y_SU_putCharSB : MethodName := ⟨"java/lang/StringUTF16", "putCharSB", "([BII)V"⟩
abbrev c_SU_getChars_1 : ByteArray := prog_30_method_77_code
abbrev y_SU_getChars_1 : MethodName := ⟨"java/lang/StringUTF16", "getChars", "(III[B)I"⟩
abbrev c_SU_putCharsAt : ByteArray := prog_30_method_81_code
abbrev y_SU_putCharsAt : MethodName := ⟨"java/lang/StringUTF16", "putCharsAt", "([BICCCC)I"⟩
abbrev c_SU_inflate : ByteArray := prog_30_method_86_code
abbrev y_SU_inflate : MethodName := ⟨"java/lang/StringUTF16", "inflate", "([BI[BII)V"⟩
abbrev c_SU_getChars_2 : ByteArray := prog_30_method_89_code
abbrev y_SU_getChars_2 : MethodName := ⟨"java/lang/StringUTF16", "getChars", "(II[B)I"⟩
abbrev c_SU_checkIndex : ByteArray := prog_30_method_91_code
abbrev y_SU_checkIndex : MethodName := ⟨"java/lang/StringUTF16", "checkIndex", "(I[B)V"⟩
abbrev c_SU_checkBoundsBeginEnd : ByteArray := prog_30_method_93_code
abbrev y_SU_checkBoundsBeginEnd : MethodName := ⟨"java/lang/StringUTF16", "checkBoundsBeginEnd", "(II[B)V"⟩
abbrev c_SU_checkBoundsOffCount : ByteArray := prog_30_method_94_code
abbrev y_SU_checkBoundsOffCount : MethodName := ⟨"java/lang/StringUTF16", "checkBoundsOffCount", "(II[B)V"⟩
abbrev c_AbC_init : ByteArray := prog_35_method_1_code
abbrev y_AbC_init : MethodName := ⟨"java/util/AbstractCollection", "<init>", "()V"⟩
abbrev c_AbL_init : ByteArray := prog_36_method_1_code
abbrev y_AbL_init : MethodName := ⟨"java/util/AbstractList", "<init>", "()V"⟩
abbrev c_AL_init : ByteArray := prog_37_method_2_code
abbrev y_AL_init : MethodName := ⟨"java/util/ArrayList", "<init>", "()V"⟩
abbrev c_AL_grow_2 : ByteArray := prog_37_method_6_code
abbrev y_AL_grow_2 : MethodName := ⟨"java/util/ArrayList", "grow", "(I)[Ljava/lang/Object;"⟩
abbrev c_AL_grow_1 : ByteArray := prog_37_method_7_code
abbrev y_AL_grow_1 : MethodName := ⟨"java/util/ArrayList", "grow", "()[Ljava/lang/Object;"⟩
abbrev c_AL_size : ByteArray := prog_37_method_8_code
abbrev y_AL_size : MethodName := ⟨"java/util/ArrayList", "size", "()I"⟩
abbrev c_AL_elementData : ByteArray := prog_37_method_18_code
abbrev y_AL_elementData : MethodName := ⟨"java/util/ArrayList", "elementData", "(I)Ljava/lang/Object;"⟩
abbrev c_AL_get : ByteArray := prog_37_method_20_code
abbrev y_AL_get : MethodName := ⟨"java/util/ArrayList", "get", "(I)Ljava/lang/Object;"⟩
abbrev c_AL_add_2 : ByteArray := prog_37_method_24_code
abbrev y_AL_add_2 : MethodName := ⟨"java/util/ArrayList", "add", "(Ljava/lang/Object;[Ljava/lang/Object;I)V"⟩
abbrev c_AL_add_1 : ByteArray := prog_37_method_25_code
abbrev y_AL_add_1 : MethodName := ⟨"java/util/ArrayList", "add", "(Ljava/lang/Object;)Z"⟩
abbrev c_Ar_copyOf_2 : ByteArray := prog_38_method_119_code
abbrev y_Ar_copyOf_2 : MethodName := ⟨"java/util/Arrays", "copyOf", "([Ljava/lang/Object;I)[Ljava/lang/Object;"⟩
abbrev c_Ar_copyOf_3 : ByteArray := prog_38_method_120_code
abbrev y_Ar_copyOf_3 : MethodName := ⟨"java/util/Arrays", "copyOf", "([Ljava/lang/Object;ILjava/lang/Class;)[Ljava/lang/Object;"⟩
abbrev c_Ar_copyOf_1 : ByteArray := prog_38_method_121_code
abbrev y_Ar_copyOf_1 : MethodName := ⟨"java/util/Arrays", "copyOf", "([BI)[B"⟩
abbrev c_Ar_checkLength : ByteArray := prog_38_method_131_code
abbrev y_Ar_checkLength : MethodName := ⟨"java/util/Arrays", "checkLength", "(II)V"⟩
abbrev c_Ar_copyOfRange : ByteArray := prog_38_method_132_code
abbrev y_Ar_copyOfRange : MethodName := ⟨"java/util/Arrays", "copyOfRange", "([BII)[B"⟩
abbrev c_Ar_copyOfRangeByte : ByteArray := prog_38_method_133_code
abbrev y_Ar_copyOfRangeByte : MethodName := ⟨"java/util/Arrays", "copyOfRangeByte", "([BII)[B"⟩
abbrev c_Ob_checkIndex : ByteArray := prog_41_method_17_code
abbrev y_Ob_checkIndex : MethodName := ⟨"java/util/Objects", "checkIndex", "(II)I"⟩
abbrev c_AS_newLength : ByteArray := prog_44_method_27_code
abbrev y_AS_newLength : MethodName := ⟨"jdk/internal/util/ArraysSupport", "newLength", "(III)I"⟩
abbrev c_AS_hugeLength : ByteArray := prog_44_method_28_code
abbrev y_AS_hugeLength : MethodName := ⟨"jdk/internal/util/ArraysSupport", "hugeLength", "(II)I"⟩
abbrev c_Pr_checkIndex : ByteArray := prog_45_method_11_code
abbrev y_Pr_checkIndex : MethodName := ⟨"jdk/internal/util/Preconditions", "checkIndex", "(IILjava/util/function/BiFunction;)I"⟩
abbrev c_Pr_checkFromToIndex : ByteArray := prog_45_method_12_code
abbrev y_Pr_checkFromToIndex : MethodName := ⟨"jdk/internal/util/Preconditions", "checkFromToIndex", "(IIILjava/util/function/BiFunction;)I"⟩
abbrev c_Pr_checkFromIndexSize : ByteArray := prog_45_method_13_code
abbrev y_Pr_checkFromIndexSize : MethodName := ⟨"jdk/internal/util/Preconditions", "checkFromIndexSize", "(IIILjava/util/function/BiFunction;)I"⟩
abbrev c_La_keeper : ByteArray := method_2_code
abbrev y_La_keeper : MethodName := ⟨"ThreeboxesLaw", "keeper", "(LThreeboxes;IIILThreeboxesLaw$Out;)I"⟩
abbrev c_La_lie : ByteArray := method_3_code
abbrev y_La_lie : MethodName := ⟨"ThreeboxesLaw", "lie", "(LThreeboxes;IILThreeboxesLaw$Out;)I"⟩
abbrev c_La_deal : ByteArray := method_4_code
abbrev y_La_deal : MethodName := ⟨"ThreeboxesLaw", "deal", "(LThreeboxes;IIIIILThreeboxesLaw$Out;)I"⟩
abbrev c_La_fresh : ByteArray := method_5_code
abbrev y_La_fresh : MethodName := ⟨"ThreeboxesLaw", "fresh", "(LThreeboxes;IILThreeboxesLaw$Out;)I"⟩
abbrev c_La_flood : ByteArray := method_6_code
abbrev y_La_flood : MethodName := ⟨"ThreeboxesLaw", "flood", "(LThreeboxes;ILThreeboxesLaw$Out;)I"⟩
abbrev c_La_rebuild : ByteArray := method_7_code
abbrev y_La_rebuild : MethodName := ⟨"ThreeboxesLaw", "rebuild", "(LThreeboxes;IIILThreeboxesLaw$Out;)I"⟩
abbrev c_La_freeze : ByteArray := method_8_code
abbrev y_La_freeze : MethodName := ⟨"ThreeboxesLaw", "freeze", "(LThreeboxes;IIZLThreeboxesLaw$Out;)I"⟩
abbrev c_La_pass : ByteArray := method_9_code
abbrev y_La_pass : MethodName := ⟨"ThreeboxesLaw", "pass", "(LThreeboxes;ILThreeboxesLaw$Out;)I"⟩
abbrev c_La_open : ByteArray := method_10_code
abbrev y_La_open : MethodName := ⟨"ThreeboxesLaw", "open", "(LThreeboxes;IILThreeboxesLaw$Out;)I"⟩
abbrev c_La_ofKeeper : ByteArray := method_11_code
abbrev y_La_ofKeeper : MethodName := ⟨"ThreeboxesLaw", "ofKeeper", "(LThreeboxes;IILThreeboxesLaw$Out;)I"⟩
abbrev c_La_ofSecret : ByteArray := method_12_code
abbrev y_La_ofSecret : MethodName := ⟨"ThreeboxesLaw", "ofSecret", "(LThreeboxes;IILThreeboxesLaw$Out;)I"⟩
abbrev c_La_share : ByteArray := method_13_code
abbrev y_La_share : MethodName := ⟨"ThreeboxesLaw", "share", "(LThreeboxes;IIILThreeboxesLaw$Out;)I"⟩
abbrev c_La_bank : ByteArray := method_14_code
abbrev y_La_bank : MethodName := ⟨"ThreeboxesLaw", "bank", "(LThreeboxes;ILThreeboxesLaw$Out;)I"⟩
abbrev c_La_ofEntry : ByteArray := method_15_code
abbrev y_La_ofEntry : MethodName := ⟨"ThreeboxesLaw", "ofEntry", "(LThreeboxes;IILThreeboxesLaw$Out;)I"⟩
abbrev c_La_proof : ByteArray := method_16_code
abbrev y_La_proof : MethodName := ⟨"ThreeboxesLaw", "proof", "(LThreeboxes;IILThreeboxesLaw$Out;)I"⟩
abbrev c_La_row : ByteArray := method_17_code
abbrev y_La_row : MethodName := ⟨"ThreeboxesLaw", "row", "(LThreeboxes;ILThreeboxesLaw$Out;)I"⟩
abbrev c_La_would : ByteArray := method_18_code
abbrev y_La_would : MethodName := ⟨"ThreeboxesLaw", "would", "(LThreeboxes;IIILThreeboxesLaw$Out;)I"⟩
abbrev c_La_may : ByteArray := method_19_code
abbrev y_La_may : MethodName := ⟨"ThreeboxesLaw", "may", "(LThreeboxes;IIILThreeboxesLaw$Out;)I"⟩
abbrev c_La_lost : ByteArray := method_20_code
abbrev y_La_lost : MethodName := ⟨"ThreeboxesLaw", "lost", "(LThreeboxes;ILThreeboxesLaw$Out;)I"⟩
abbrev c_La_fewest : ByteArray := method_21_code
abbrev y_La_fewest : MethodName := ⟨"ThreeboxesLaw", "fewest", "(LThreeboxes;ILThreeboxesLaw$Out;)I"⟩
abbrev c_La_proves : ByteArray := method_22_code
abbrev y_La_proves : MethodName := ⟨"ThreeboxesLaw", "proves", "(LThreeboxes;IILThreeboxesLaw$Out;)I"⟩
abbrev c_La_law : ByteArray := code
abbrev y_La_law : MethodName := ⟨"ThreeboxesLaw", "law", "([I)Z"⟩
end
section
set_option maxRecDepth 20000 in
theorem qV_Re_Re_joinAt : (Cond.selects "Threeboxes$Register" ⟨"Threeboxes$Register", "joinAt", "(I)V"⟩ ⟨"Threeboxes$Register", "joinAt", "(I)V"⟩) ∈ lw_tbl := List.mem_of_getElem? (i := 0) (by decide +kernel)
set_option maxRecDepth 20000 in
theorem qV_Re_Re_nodeAt : (Cond.selects "Threeboxes$Register" ⟨"Threeboxes$Register", "nodeAt", "(I)I"⟩ ⟨"Threeboxes$Register", "nodeAt", "(I)I"⟩) ∈ lw_tbl := List.mem_of_getElem? (i := 1) (by decide +kernel)
set_option maxRecDepth 20000 in
theorem qV_Re_Re_putAt : (Cond.selects "Threeboxes$Register" ⟨"Threeboxes$Register", "putAt", "(II)V"⟩ ⟨"Threeboxes$Register", "putAt", "(II)V"⟩) ∈ lw_tbl := List.mem_of_getElem? (i := 2) (by decide +kernel)
set_option maxRecDepth 20000 in
theorem qV_Tb_Tb_isSecretSound : (Cond.selects "Threeboxes" ⟨"Threeboxes", "isSecretSound", "(LThreeboxes$Secret;)Z"⟩ ⟨"Threeboxes", "isSecretSound", "(LThreeboxes$Secret;)Z"⟩) ∈ lw_tbl := List.mem_of_getElem? (i := 3) (by decide +kernel)
set_option maxRecDepth 20000 in
theorem qV_Gr_Gr_agreeingWith : (Cond.selects "Threeboxes$Group" ⟨"Threeboxes$Group", "agreeingWith", "(I)I"⟩ ⟨"Threeboxes$Group", "agreeingWith", "(I)I"⟩) ∈ lw_tbl := List.mem_of_getElem? (i := 4) (by decide +kernel)
set_option maxRecDepth 20000 in
theorem qV_Gr_Gr_through : (Cond.selects "Threeboxes$Group" ⟨"Threeboxes$Group", "through", "(II)I"⟩ ⟨"Threeboxes$Group", "through", "(II)I"⟩) ∈ lw_tbl := List.mem_of_getElem? (i := 5) (by decide +kernel)
set_option maxRecDepth 20000 in
theorem qV_Tb_Tb_tellOfBank : (Cond.selects "Threeboxes" ⟨"Threeboxes", "tellOfBank", "(I)I"⟩ ⟨"Threeboxes", "tellOfBank", "(I)I"⟩) ∈ lw_tbl := List.mem_of_getElem? (i := 6) (by decide +kernel)
set_option maxRecDepth 20000 in
theorem qV_Tb_Tb_notedKeepers : (Cond.selects "Threeboxes" ⟨"Threeboxes", "notedKeepers", "()I"⟩ ⟨"Threeboxes", "notedKeepers", "()I"⟩) ∈ lw_tbl := List.mem_of_getElem? (i := 7) (by decide +kernel)
set_option maxRecDepth 20000 in
theorem qV_Tb_Tb_currentShares : (Cond.selects "Threeboxes" ⟨"Threeboxes", "currentShares", "()I"⟩ ⟨"Threeboxes", "currentShares", "()I"⟩) ∈ lw_tbl := List.mem_of_getElem? (i := 8) (by decide +kernel)
set_option maxRecDepth 20000 in
theorem qV_Tb_Tb_staleShares : (Cond.selects "Threeboxes" ⟨"Threeboxes", "staleShares", "()I"⟩ ⟨"Threeboxes", "staleShares", "()I"⟩) ∈ lw_tbl := List.mem_of_getElem? (i := 9) (by decide +kernel)
set_option maxRecDepth 20000 in
theorem qV_Tb_Tb_tellOfKeeper : (Cond.selects "Threeboxes" ⟨"Threeboxes", "tellOfKeeper", "(LThreeboxes$Keeper;I)I"⟩ ⟨"Threeboxes", "tellOfKeeper", "(LThreeboxes$Keeper;I)I"⟩) ∈ lw_tbl := List.mem_of_getElem? (i := 10) (by decide +kernel)
set_option maxRecDepth 20000 in
theorem qV_Tb_Tb_sharesOf : (Cond.selects "Threeboxes" ⟨"Threeboxes", "sharesOf", "(I)I"⟩ ⟨"Threeboxes", "sharesOf", "(I)I"⟩) ∈ lw_tbl := List.mem_of_getElem? (i := 11) (by decide +kernel)
set_option maxRecDepth 20000 in
theorem qV_Tb_Tb_staleSharesOf : (Cond.selects "Threeboxes" ⟨"Threeboxes", "staleSharesOf", "(I)I"⟩ ⟨"Threeboxes", "staleSharesOf", "(I)I"⟩) ∈ lw_tbl := List.mem_of_getElem? (i := 12) (by decide +kernel)
set_option maxRecDepth 20000 in
theorem qV_Tb_Tb_digestSecret : (Cond.selects "Threeboxes" ⟨"Threeboxes", "digestSecret", "(JLThreeboxes$Secret;)J"⟩ ⟨"Threeboxes", "digestSecret", "(JLThreeboxes$Secret;)J"⟩) ∈ lw_tbl := List.mem_of_getElem? (i := 13) (by decide +kernel)
set_option maxRecDepth 20000 in
theorem qV_Tb_Tb_tellOfSecret : (Cond.selects "Threeboxes" ⟨"Threeboxes", "tellOfSecret", "(LThreeboxes$Secret;I)I"⟩ ⟨"Threeboxes", "tellOfSecret", "(LThreeboxes$Secret;I)I"⟩) ∈ lw_tbl := List.mem_of_getElem? (i := 14) (by decide +kernel)
set_option maxRecDepth 20000 in
theorem qV_Tb_Tb_boughtFor : (Cond.selects "Threeboxes" ⟨"Threeboxes", "boughtFor", "(LThreeboxes$Secret;)I"⟩ ⟨"Threeboxes", "boughtFor", "(LThreeboxes$Secret;)I"⟩) ∈ lw_tbl := List.mem_of_getElem? (i := 15) (by decide +kernel)
set_option maxRecDepth 20000 in
theorem qV_Tb_Tb_boughtOf : (Cond.selects "Threeboxes" ⟨"Threeboxes", "boughtOf", "(LThreeboxes$Secret;)I"⟩ ⟨"Threeboxes", "boughtOf", "(LThreeboxes$Secret;)I"⟩) ∈ lw_tbl := List.mem_of_getElem? (i := 16) (by decide +kernel)
set_option maxRecDepth 20000 in
theorem qV_Tb_Tb_cheapestOf : (Cond.selects "Threeboxes" ⟨"Threeboxes", "cheapestOf", "(I)I"⟩ ⟨"Threeboxes", "cheapestOf", "(I)I"⟩) ∈ lw_tbl := List.mem_of_getElem? (i := 17) (by decide +kernel)
set_option maxRecDepth 20000 in
theorem qV_Tb_Tb_priceOf : (Cond.selects "Threeboxes" ⟨"Threeboxes", "priceOf", "(I)I"⟩ ⟨"Threeboxes", "priceOf", "(I)I"⟩) ∈ lw_tbl := List.mem_of_getElem? (i := 18) (by decide +kernel)
set_option maxRecDepth 20000 in
theorem qV_Tb_Tb_tellOfShare : (Cond.selects "Threeboxes" ⟨"Threeboxes", "tellOfShare", "(LThreeboxes$Secret;LThreeboxes$Keeper;I)I"⟩ ⟨"Threeboxes", "tellOfShare", "(LThreeboxes$Secret;LThreeboxes$Keeper;I)I"⟩) ∈ lw_tbl := List.mem_of_getElem? (i := 19) (by decide +kernel)
set_option maxRecDepth 20000 in
theorem qV_Tb_Tb_allKeepers : (Cond.selects "Threeboxes" ⟨"Threeboxes", "allKeepers", "()I"⟩ ⟨"Threeboxes", "allKeepers", "()I"⟩) ∈ lw_tbl := List.mem_of_getElem? (i := 20) (by decide +kernel)
set_option maxRecDepth 20000 in
theorem qV_Tb_Tb_gatherGroup : (Cond.selects "Threeboxes" ⟨"Threeboxes", "gatherGroup", "(LThreeboxes$Secret;I)V"⟩ ⟨"Threeboxes", "gatherGroup", "(LThreeboxes$Secret;I)V"⟩) ∈ lw_tbl := List.mem_of_getElem? (i := 21) (by decide +kernel)
set_option maxRecDepth 20000 in
theorem qV_Tb_Tb_tellOfGroup : (Cond.selects "Threeboxes" ⟨"Threeboxes", "tellOfGroup", "(LThreeboxes$Secret;I)I"⟩ ⟨"Threeboxes", "tellOfGroup", "(LThreeboxes$Secret;I)I"⟩) ∈ lw_tbl := List.mem_of_getElem? (i := 22) (by decide +kernel)
set_option maxRecDepth 20000 in
theorem qV_Tb_Tb_isLawful : (Cond.selects "Threeboxes" ⟨"Threeboxes", "isLawful", "(LThreeboxes$Secret;I)Z"⟩ ⟨"Threeboxes", "isLawful", "(LThreeboxes$Secret;I)Z"⟩) ∈ lw_tbl := List.mem_of_getElem? (i := 23) (by decide +kernel)
set_option maxRecDepth 20000 in
theorem qV_Tb_Tb_zonesOf : (Cond.selects "Threeboxes" ⟨"Threeboxes", "zonesOf", "(I)I"⟩ ⟨"Threeboxes", "zonesOf", "(I)I"⟩) ∈ lw_tbl := List.mem_of_getElem? (i := 24) (by decide +kernel)
set_option maxRecDepth 20000 in
theorem qV_Tb_Tb_fewestOf : (Cond.selects "Threeboxes" ⟨"Threeboxes", "fewestOf", "(LThreeboxes$Secret;)I"⟩ ⟨"Threeboxes", "fewestOf", "(LThreeboxes$Secret;)I"⟩) ∈ lw_tbl := List.mem_of_getElem? (i := 25) (by decide +kernel)
set_option maxRecDepth 20000 in
theorem qV_Tb_Tb_isLess : (Cond.selects "Threeboxes" ⟨"Threeboxes", "isLess", "(II)Z"⟩ ⟨"Threeboxes", "isLess", "(II)Z"⟩) ∈ lw_tbl := List.mem_of_getElem? (i := 26) (by decide +kernel)
set_option maxRecDepth 20000 in
theorem qV_Tb_Tb_chanceLost : (Cond.selects "Threeboxes" ⟨"Threeboxes", "chanceLost", "(LThreeboxes$Secret;)D"⟩ ⟨"Threeboxes", "chanceLost", "(LThreeboxes$Secret;)D"⟩) ∈ lw_tbl := List.mem_of_getElem? (i := 27) (by decide +kernel)
set_option maxRecDepth 20000 in
theorem qV_Tb_Tb_riskOne : (Cond.selects "Threeboxes" ⟨"Threeboxes", "riskOne", "(I)V"⟩ ⟨"Threeboxes", "riskOne", "(I)V"⟩) ∈ lw_tbl := List.mem_of_getElem? (i := 28) (by decide +kernel)
set_option maxRecDepth 20000 in
theorem qV_Th_Th_fillInStackTrace_a1a2 : (Cond.selects "java/lang/Throwable" ⟨"java/lang/Throwable", "fillInStackTrace", "(I)Ljava/lang/Throwable;"⟩ ⟨"java/lang/Throwable", "fillInStackTrace", "(I)Ljava/lang/Throwable;"⟩) ∈ lw_tbl := List.mem_of_getElem? (i := 29) (by decide +kernel)
set_option maxRecDepth 20000 in
theorem qV_AL_AL_add_2 : (Cond.selects "java/util/ArrayList" ⟨"java/util/ArrayList", "add", "(Ljava/lang/Object;[Ljava/lang/Object;I)V"⟩ ⟨"java/util/ArrayList", "add", "(Ljava/lang/Object;[Ljava/lang/Object;I)V"⟩) ∈ lw_tbl := List.mem_of_getElem? (i := 30) (by decide +kernel)
set_option maxRecDepth 20000 in
theorem qV_AL_AL_grow_1 : (Cond.selects "java/util/ArrayList" ⟨"java/util/ArrayList", "grow", "()[Ljava/lang/Object;"⟩ ⟨"java/util/ArrayList", "grow", "()[Ljava/lang/Object;"⟩) ∈ lw_tbl := List.mem_of_getElem? (i := 31) (by decide +kernel)
set_option maxRecDepth 20000 in
theorem qV_AL_AL_grow_2 : (Cond.selects "java/util/ArrayList" ⟨"java/util/ArrayList", "grow", "(I)[Ljava/lang/Object;"⟩ ⟨"java/util/ArrayList", "grow", "(I)[Ljava/lang/Object;"⟩) ∈ lw_tbl := List.mem_of_getElem? (i := 32) (by decide +kernel)
set_option maxRecDepth 20000 in
theorem qV_Tb_Tb_keeperAt : (Cond.selects "Threeboxes" ⟨"Threeboxes", "keeperAt", "(I)LThreeboxes$Keeper;"⟩ ⟨"Threeboxes", "keeperAt", "(I)LThreeboxes$Keeper;"⟩) ∈ lw_tbl := List.mem_of_getElem? (i := 33) (by decide +kernel)
set_option maxRecDepth 20000 in
theorem qV_Tb_Tb_needSet : (Cond.selects "Threeboxes" ⟨"Threeboxes", "needSet", "(I)V"⟩ ⟨"Threeboxes", "needSet", "(I)V"⟩) ∈ lw_tbl := List.mem_of_getElem? (i := 34) (by decide +kernel)
set_option maxRecDepth 20000 in
theorem qV_Cu_Cu_nextNumber : (Cond.selects "Threeboxes$Curve" ⟨"Threeboxes$Curve", "nextNumber", "()I"⟩ ⟨"Threeboxes$Curve", "nextNumber", "()I"⟩) ∈ lw_tbl := List.mem_of_getElem? (i := 35) (by decide +kernel)
set_option maxRecDepth 20000 in
theorem qV_Se_Se_put : (Cond.selects "Threeboxes$Secret" ⟨"Threeboxes$Secret", "put", "(III)V"⟩ ⟨"Threeboxes$Secret", "put", "(III)V"⟩) ∈ lw_tbl := List.mem_of_getElem? (i := 36) (by decide +kernel)
set_option maxRecDepth 20000 in
theorem qV_Tb_Tb_secretAt : (Cond.selects "Threeboxes" ⟨"Threeboxes", "secretAt", "(I)LThreeboxes$Secret;"⟩ ⟨"Threeboxes", "secretAt", "(I)LThreeboxes$Secret;"⟩) ∈ lw_tbl := List.mem_of_getElem? (i := 37) (by decide +kernel)
set_option maxRecDepth 20000 in
theorem qV_Tb_Tb_loseShares : (Cond.selects "Threeboxes" ⟨"Threeboxes", "loseShares", "(I)V"⟩ ⟨"Threeboxes", "loseShares", "(I)V"⟩) ∈ lw_tbl := List.mem_of_getElem? (i := 38) (by decide +kernel)
set_option maxRecDepth 20000 in
theorem qV_Tb_Tb_isAnyLying : (Cond.selects "Threeboxes" ⟨"Threeboxes", "isAnyLying", "(I)Z"⟩ ⟨"Threeboxes", "isAnyLying", "(I)Z"⟩) ∈ lw_tbl := List.mem_of_getElem? (i := 39) (by decide +kernel)
set_option maxRecDepth 20000 in
theorem qV_Tb_Tb_noteAll : (Cond.selects "Threeboxes" ⟨"Threeboxes", "noteAll", "(I)V"⟩ ⟨"Threeboxes", "noteAll", "(I)V"⟩) ∈ lw_tbl := List.mem_of_getElem? (i := 40) (by decide +kernel)
set_option maxRecDepth 20000 in
theorem qV_Tb_Tb_needEntry : (Cond.selects "Threeboxes" ⟨"Threeboxes", "needEntry", "(I)V"⟩ ⟨"Threeboxes", "needEntry", "(I)V"⟩) ∈ lw_tbl := List.mem_of_getElem? (i := 41) (by decide +kernel)
set_option maxRecDepth 20000 in
theorem qV_Mo_Mo_no : (Cond.selects "ThreeboxesModel" ⟨"ThreeboxesModel", "no", "(I)I"⟩ ⟨"ThreeboxesModel", "no", "(I)I"⟩) ∈ lw_tbl := List.mem_of_getElem? (i := 42) (by decide +kernel)
set_option maxRecDepth 20000 in
theorem qV_Mo_Mo_isKeeper : (Cond.selects "ThreeboxesModel" ⟨"ThreeboxesModel", "isKeeper", "(I)Z"⟩ ⟨"ThreeboxesModel", "isKeeper", "(I)Z"⟩) ∈ lw_tbl := List.mem_of_getElem? (i := 43) (by decide +kernel)
set_option maxRecDepth 20000 in
theorem qV_Mo_Mo_isSet : (Cond.selects "ThreeboxesModel" ⟨"ThreeboxesModel", "isSet", "(I)Z"⟩ ⟨"ThreeboxesModel", "isSet", "(I)Z"⟩) ∈ lw_tbl := List.mem_of_getElem? (i := 44) (by decide +kernel)
set_option maxRecDepth 20000 in
theorem qV_Mo_Mo_draw : (Cond.selects "ThreeboxesModel" ⟨"ThreeboxesModel", "draw", "()I"⟩ ⟨"ThreeboxesModel", "draw", "()I"⟩) ∈ lw_tbl := List.mem_of_getElem? (i := 45) (by decide +kernel)
set_option maxRecDepth 20000 in
theorem qV_Mo_Mo_write : (Cond.selects "ThreeboxesModel" ⟨"ThreeboxesModel", "write", "(II)V"⟩ ⟨"ThreeboxesModel", "write", "(II)V"⟩) ∈ lw_tbl := List.mem_of_getElem? (i := 46) (by decide +kernel)
set_option maxRecDepth 20000 in
theorem qV_Mo_Mo_isSecret : (Cond.selects "ThreeboxesModel" ⟨"ThreeboxesModel", "isSecret", "(I)Z"⟩ ⟨"ThreeboxesModel", "isSecret", "(I)Z"⟩) ∈ lw_tbl := List.mem_of_getElem? (i := 47) (by decide +kernel)
set_option maxRecDepth 20000 in
theorem qV_Mo_Mo_group : (Cond.selects "ThreeboxesModel" ⟨"ThreeboxesModel", "group", "(LThreeboxesModel$Secret;I)I"⟩ ⟨"ThreeboxesModel", "group", "(LThreeboxesModel$Secret;I)I"⟩) ∈ lw_tbl := List.mem_of_getElem? (i := 48) (by decide +kernel)
set_option maxRecDepth 20000 in
theorem qV_Mo_Mo_isGood : (Cond.selects "ThreeboxesModel" ⟨"ThreeboxesModel", "isGood", "(LThreeboxesModel$Secret;I)Z"⟩ ⟨"ThreeboxesModel", "isGood", "(LThreeboxesModel$Secret;I)Z"⟩) ∈ lw_tbl := List.mem_of_getElem? (i := 49) (by decide +kernel)
set_option maxRecDepth 20000 in
theorem qV_Mo_Mo_best : (Cond.selects "ThreeboxesModel" ⟨"ThreeboxesModel", "best", "(LThreeboxesModel$Secret;I)I"⟩ ⟨"ThreeboxesModel", "best", "(LThreeboxesModel$Secret;I)I"⟩) ∈ lw_tbl := List.mem_of_getElem? (i := 50) (by decide +kernel)
set_option maxRecDepth 20000 in
theorem qV_Mo_Mo_agreeing : (Cond.selects "ThreeboxesModel" ⟨"ThreeboxesModel", "agreeing", "(LThreeboxesModel$Secret;II)I"⟩ ⟨"ThreeboxesModel", "agreeing", "(LThreeboxesModel$Secret;II)I"⟩) ∈ lw_tbl := List.mem_of_getElem? (i := 51) (by decide +kernel)
set_option maxRecDepth 20000 in
theorem qV_Mo_Mo_along : (Cond.selects "ThreeboxesModel" ⟨"ThreeboxesModel", "along", "(LThreeboxesModel$Secret;II)I"⟩ ⟨"ThreeboxesModel", "along", "(LThreeboxesModel$Secret;II)I"⟩) ∈ lw_tbl := List.mem_of_getElem? (i := 52) (by decide +kernel)
set_option maxRecDepth 20000 in
theorem qV_Mo_Mo_gives : (Cond.selects "ThreeboxesModel" ⟨"ThreeboxesModel", "gives", "(LThreeboxesModel$Secret;I)I"⟩ ⟨"ThreeboxesModel", "gives", "(LThreeboxesModel$Secret;I)I"⟩) ∈ lw_tbl := List.mem_of_getElem? (i := 53) (by decide +kernel)
set_option maxRecDepth 20000 in
theorem qV_Mo_Mo_through : (Cond.selects "ThreeboxesModel" ⟨"ThreeboxesModel", "through", "([I[III)I"⟩ ⟨"ThreeboxesModel", "through", "([I[III)I"⟩) ∈ lw_tbl := List.mem_of_getElem? (i := 54) (by decide +kernel)
set_option maxRecDepth 20000 in
theorem qV_Mo_Mo_over : (Cond.selects "ThreeboxesModel" ⟨"ThreeboxesModel", "over", "(I)I"⟩ ⟨"ThreeboxesModel", "over", "(I)I"⟩) ∈ lw_tbl := List.mem_of_getElem? (i := 55) (by decide +kernel)
set_option maxRecDepth 20000 in
theorem qV_Mo_Mo_isLawful : (Cond.selects "ThreeboxesModel" ⟨"ThreeboxesModel", "isLawful", "(LThreeboxesModel$Secret;I)Z"⟩ ⟨"ThreeboxesModel", "isLawful", "(LThreeboxesModel$Secret;I)Z"⟩) ∈ lw_tbl := List.mem_of_getElem? (i := 56) (by decide +kernel)
set_option maxRecDepth 20000 in
theorem qV_Mo_Mo_liars : (Cond.selects "ThreeboxesModel" ⟨"ThreeboxesModel", "liars", "(LThreeboxesModel$Secret;I)I"⟩ ⟨"ThreeboxesModel", "liars", "(LThreeboxesModel$Secret;I)I"⟩) ∈ lw_tbl := List.mem_of_getElem? (i := 57) (by decide +kernel)
set_option maxRecDepth 20000 in
theorem qV_Mo_Mo_found : (Cond.selects "ThreeboxesModel" ⟨"ThreeboxesModel", "found", "(LThreeboxesModel$Secret;I)I"⟩ ⟨"ThreeboxesModel", "found", "(LThreeboxesModel$Secret;I)I"⟩) ∈ lw_tbl := List.mem_of_getElem? (i := 58) (by decide +kernel)
set_option maxRecDepth 20000 in
theorem qV_Mo_Mo_keeperNow : (Cond.selects "ThreeboxesModel" ⟨"ThreeboxesModel", "keeperNow", "(II)I"⟩ ⟨"ThreeboxesModel", "keeperNow", "(II)I"⟩) ∈ lw_tbl := List.mem_of_getElem? (i := 59) (by decide +kernel)
set_option maxRecDepth 20000 in
theorem qV_Mo_Mo_secretNow : (Cond.selects "ThreeboxesModel" ⟨"ThreeboxesModel", "secretNow", "(II)I"⟩ ⟨"ThreeboxesModel", "secretNow", "(II)I"⟩) ∈ lw_tbl := List.mem_of_getElem? (i := 60) (by decide +kernel)
set_option maxRecDepth 20000 in
theorem qV_Mo_Mo_bought : (Cond.selects "ThreeboxesModel" ⟨"ThreeboxesModel", "bought", "(LThreeboxesModel$Secret;)I"⟩ ⟨"ThreeboxesModel", "bought", "(LThreeboxesModel$Secret;)I"⟩) ∈ lw_tbl := List.mem_of_getElem? (i := 61) (by decide +kernel)
set_option maxRecDepth 20000 in
theorem qV_Mo_Mo_priceOf : (Cond.selects "ThreeboxesModel" ⟨"ThreeboxesModel", "priceOf", "(I)I"⟩ ⟨"ThreeboxesModel", "priceOf", "(I)I"⟩) ∈ lw_tbl := List.mem_of_getElem? (i := 62) (by decide +kernel)
set_option maxRecDepth 20000 in
theorem qV_Mo_Mo_shareNow : (Cond.selects "ThreeboxesModel" ⟨"ThreeboxesModel", "shareNow", "(III)I"⟩ ⟨"ThreeboxesModel", "shareNow", "(III)I"⟩) ∈ lw_tbl := List.mem_of_getElem? (i := 63) (by decide +kernel)
set_option maxRecDepth 20000 in
theorem qV_Mo_Mo_bankNow : (Cond.selects "ThreeboxesModel" ⟨"ThreeboxesModel", "bankNow", "(I)I"⟩ ⟨"ThreeboxesModel", "bankNow", "(I)I"⟩) ∈ lw_tbl := List.mem_of_getElem? (i := 64) (by decide +kernel)
set_option maxRecDepth 20000 in
theorem qV_Mo_Mo_root : (Cond.selects "ThreeboxesModel" ⟨"ThreeboxesModel", "root", "()I"⟩ ⟨"ThreeboxesModel", "root", "()I"⟩) ∈ lw_tbl := List.mem_of_getElem? (i := 65) (by decide +kernel)
set_option maxRecDepth 20000 in
theorem qV_Mo_Mo_node : (Cond.selects "ThreeboxesModel" ⟨"ThreeboxesModel", "node", "(IIII)I"⟩ ⟨"ThreeboxesModel", "node", "(IIII)I"⟩) ∈ lw_tbl := List.mem_of_getElem? (i := 66) (by decide +kernel)
set_option maxRecDepth 20000 in
theorem qV_Mo_Mo_isEntry : (Cond.selects "ThreeboxesModel" ⟨"ThreeboxesModel", "isEntry", "(I)Z"⟩ ⟨"ThreeboxesModel", "isEntry", "(I)Z"⟩) ∈ lw_tbl := List.mem_of_getElem? (i := 67) (by decide +kernel)
set_option maxRecDepth 20000 in
theorem qV_Mo_Mo_proofNow : (Cond.selects "ThreeboxesModel" ⟨"ThreeboxesModel", "proofNow", "(II)I"⟩ ⟨"ThreeboxesModel", "proofNow", "(II)I"⟩) ∈ lw_tbl := List.mem_of_getElem? (i := 68) (by decide +kernel)
set_option maxRecDepth 20000 in
theorem qV_Mo_Mo_wouldNow : (Cond.selects "ThreeboxesModel" ⟨"ThreeboxesModel", "wouldNow", "(III)I"⟩ ⟨"ThreeboxesModel", "wouldNow", "(III)I"⟩) ∈ lw_tbl := List.mem_of_getElem? (i := 69) (by decide +kernel)
set_option maxRecDepth 20000 in
theorem qV_Mo_Mo_lostNow : (Cond.selects "ThreeboxesModel" ⟨"ThreeboxesModel", "lostNow", "(I)D"⟩ ⟨"ThreeboxesModel", "lostNow", "(I)D"⟩) ∈ lw_tbl := List.mem_of_getElem? (i := 70) (by decide +kernel)
set_option maxRecDepth 20000 in
theorem qV_Mo_Mo_fewestNow : (Cond.selects "ThreeboxesModel" ⟨"ThreeboxesModel", "fewestNow", "(I)I"⟩ ⟨"ThreeboxesModel", "fewestNow", "(I)I"⟩) ∈ lw_tbl := List.mem_of_getElem? (i := 71) (by decide +kernel)
set_option maxRecDepth 20000 in
theorem qV_Mo_Mo_isSoundNow : (Cond.selects "ThreeboxesModel" ⟨"ThreeboxesModel", "isSoundNow", "()Z"⟩ ⟨"ThreeboxesModel", "isSoundNow", "()Z"⟩) ∈ lw_tbl := List.mem_of_getElem? (i := 72) (by decide +kernel)
set_option maxRecDepth 20000 in
theorem qV_Mo_Mo_isOneCurve : (Cond.selects "ThreeboxesModel" ⟨"ThreeboxesModel", "isOneCurve", "(LThreeboxesModel$Secret;)Z"⟩ ⟨"ThreeboxesModel", "isOneCurve", "(LThreeboxesModel$Secret;)Z"⟩) ∈ lw_tbl := List.mem_of_getElem? (i := 73) (by decide +kernel)
set_option maxRecDepth 20000 in
theorem qN_La : (Jvm.Cond.initialized "ThreeboxesLaw") ∈ lw_tbl := List.mem_of_getElem? (i := 74) (by decide +kernel)
set_option maxRecDepth 20000 in
theorem qN_Tb : (Jvm.Cond.initialized "Threeboxes") ∈ lw_tbl := List.mem_of_getElem? (i := 75) (by decide +kernel)
set_option maxRecDepth 20000 in
theorem qN_AbC : (Jvm.Cond.initialized "java/util/AbstractCollection") ∈ lw_tbl := List.mem_of_getElem? (i := 76) (by decide +kernel)
set_option maxRecDepth 20000 in
theorem qN_AbL : (Jvm.Cond.initialized "java/util/AbstractList") ∈ lw_tbl := List.mem_of_getElem? (i := 77) (by decide +kernel)
set_option maxRecDepth 20000 in
theorem qN_AL : (Jvm.Cond.initialized "java/util/ArrayList") ∈ lw_tbl := List.mem_of_getElem? (i := 78) (by decide +kernel)
set_option maxRecDepth 20000 in
theorem qN_Re : (Jvm.Cond.initialized "Threeboxes$Register") ∈ lw_tbl := List.mem_of_getElem? (i := 79) (by decide +kernel)
set_option maxRecDepth 20000 in
theorem qN_Cu : (Jvm.Cond.initialized "Threeboxes$Curve") ∈ lw_tbl := List.mem_of_getElem? (i := 80) (by decide +kernel)
set_option maxRecDepth 20000 in
theorem qN_Gr : (Jvm.Cond.initialized "Threeboxes$Group") ∈ lw_tbl := List.mem_of_getElem? (i := 81) (by decide +kernel)
set_option maxRecDepth 20000 in
theorem qN_Mo : (Jvm.Cond.initialized "ThreeboxesModel") ∈ lw_tbl := List.mem_of_getElem? (i := 82) (by decide +kernel)
set_option maxRecDepth 20000 in
theorem qN_Ou : (Jvm.Cond.initialized "ThreeboxesLaw$Out") ∈ lw_tbl := List.mem_of_getElem? (i := 83) (by decide +kernel)
set_option maxRecDepth 20000 in
theorem qN_Th : (Jvm.Cond.initialized "java/lang/Throwable") ∈ lw_tbl := List.mem_of_getElem? (i := 84) (by decide +kernel)
set_option maxRecDepth 20000 in
theorem qN_EX : (Jvm.Cond.initialized "java/lang/Exception") ∈ lw_tbl := List.mem_of_getElem? (i := 85) (by decide +kernel)
set_option maxRecDepth 20000 in
theorem qN_RE : (Jvm.Cond.initialized "java/lang/RuntimeException") ∈ lw_tbl := List.mem_of_getElem? (i := 86) (by decide +kernel)
set_option maxRecDepth 20000 in
theorem qN_IAE : (Jvm.Cond.initialized "java/lang/IllegalArgumentException") ∈ lw_tbl := List.mem_of_getElem? (i := 87) (by decide +kernel)
set_option maxRecDepth 20000 in
theorem qN_ISE : (Jvm.Cond.initialized "java/lang/IllegalStateException") ∈ lw_tbl := List.mem_of_getElem? (i := 88) (by decide +kernel)
set_option maxRecDepth 20000 in
theorem qN_Ke : (Jvm.Cond.initialized "Threeboxes$Keeper") ∈ lw_tbl := List.mem_of_getElem? (i := 89) (by decide +kernel)
set_option maxRecDepth 20000 in
theorem qN_AS : (Jvm.Cond.initialized "jdk/internal/util/ArraysSupport") ∈ lw_tbl := List.mem_of_getElem? (i := 90) (by decide +kernel)
set_option maxRecDepth 20000 in
theorem qN_Ma : (Jvm.Cond.initialized "java/lang/Math") ∈ lw_tbl := List.mem_of_getElem? (i := 91) (by decide +kernel)
set_option maxRecDepth 20000 in
theorem qN_Ar : (Jvm.Cond.initialized "java/util/Arrays") ∈ lw_tbl := List.mem_of_getElem? (i := 92) (by decide +kernel)
set_option maxRecDepth 20000 in
theorem qN_Sy : (Jvm.Cond.initialized "java/lang/System") ∈ lw_tbl := List.mem_of_getElem? (i := 93) (by decide +kernel)
set_option maxRecDepth 20000 in
theorem qN_MK : (Jvm.Cond.initialized "ThreeboxesModel$Keeper") ∈ lw_tbl := List.mem_of_getElem? (i := 94) (by decide +kernel)
set_option maxRecDepth 20000 in
theorem qN_IOE : (Jvm.Cond.initialized "java/lang/IndexOutOfBoundsException") ∈ lw_tbl := List.mem_of_getElem? (i := 95) (by decide +kernel)
set_option maxRecDepth 20000 in
theorem qN_Ob : (Jvm.Cond.initialized "java/util/Objects") ∈ lw_tbl := List.mem_of_getElem? (i := 96) (by decide +kernel)
set_option maxRecDepth 20000 in
theorem qN_Pr : (Jvm.Cond.initialized "jdk/internal/util/Preconditions") ∈ lw_tbl := List.mem_of_getElem? (i := 97) (by decide +kernel)
set_option maxRecDepth 20000 in
theorem qN_java_lang_Number : (Jvm.Cond.initialized "java/lang/Number") ∈ lw_tbl := List.mem_of_getElem? (i := 98) (by decide +kernel)
set_option maxRecDepth 20000 in
theorem qN_In : (Jvm.Cond.initialized "java/lang/Integer") ∈ lw_tbl := List.mem_of_getElem? (i := 99) (by decide +kernel)
set_option maxRecDepth 20000 in
theorem qN_Se : (Jvm.Cond.initialized "Threeboxes$Secret") ∈ lw_tbl := List.mem_of_getElem? (i := 100) (by decide +kernel)
set_option maxRecDepth 20000 in
theorem qN_MS : (Jvm.Cond.initialized "ThreeboxesModel$Secret") ∈ lw_tbl := List.mem_of_getElem? (i := 101) (by decide +kernel)
set_option maxRecDepth 20000 in
theorem qN_AB : (Jvm.Cond.initialized "java/lang/AbstractStringBuilder") ∈ lw_tbl := List.mem_of_getElem? (i := 102) (by decide +kernel)
set_option maxRecDepth 20000 in
theorem qN_SB : (Jvm.Cond.initialized "java/lang/StringBuilder") ∈ lw_tbl := List.mem_of_getElem? (i := 103) (by decide +kernel)
set_option maxRecDepth 20000 in
theorem qN_St : (Jvm.Cond.initialized "java/lang/String") ∈ lw_tbl := List.mem_of_getElem? (i := 104) (by decide +kernel)
set_option maxRecDepth 20000 in
theorem qN_SU : (Jvm.Cond.initialized "java/lang/StringUTF16") ∈ lw_tbl := List.mem_of_getElem? (i := 105) (by decide +kernel)
set_option maxRecDepth 20000 in
theorem qN_SL : (Jvm.Cond.initialized "java/lang/StringLatin1") ∈ lw_tbl := List.mem_of_getElem? (i := 106) (by decide +kernel)
set_option maxRecDepth 20000 in
theorem qK_La_8 : (Jvm.Cond.classLink "ThreeboxesLaw" (8 : Nat) "Threeboxes") ∈ lw_tbl := List.mem_of_getElem? (i := 107) (by decide +kernel)
set_option maxRecDepth 20000 in
theorem qO_Tb : (Jvm.Cond.instantiable "Threeboxes" (10 : Nat)) ∈ lw_tbl := List.mem_of_getElem? (i := 108) (by decide +kernel)
set_option maxRecDepth 20000 in
theorem qM_La_101 : (Jvm.Cond.methodLink "ThreeboxesLaw" (101 : Nat) ({ cls := "Threeboxes", name := "<init>", desc := "()V" } : Jvm.MethodName)) ∈ lw_tbl := List.mem_of_getElem? (i := 109) (by decide +kernel)
set_option maxRecDepth 20000 in
theorem qI_Tb_init : (Jvm.Cond.instanceMethod ({ cls := "Threeboxes", name := "<init>", desc := "()V" } : Jvm.MethodName)) ∈ lw_tbl := List.mem_of_getElem? (i := 110) (by decide +kernel)
set_option maxRecDepth 20000 in
theorem qC_Tb_init : (Jvm.Cond.code ({ cls := "Threeboxes", name := "<init>", desc := "()V" } : Jvm.MethodName) prog_1_method_1_code (1 : Nat) (Option.none : Option Jvm.ClassFile.FieldType)) ∈ lw_tbl := List.mem_of_getElem? (i := 111) rfl
set_option maxRecDepth 20000 in
theorem qM_Tb_1 : (Jvm.Cond.methodLink "Threeboxes" (1 : Nat) ({ cls := "java/lang/Object", name := "<init>", desc := "()V" } : Jvm.MethodName)) ∈ lw_tbl := List.mem_of_getElem? (i := 112) (by decide +kernel)
set_option maxRecDepth 20000 in
theorem qI_Oj_init_0566 : (Jvm.Cond.instanceMethod ({ cls := "java/lang/Object", name := "<init>", desc := "()V" } : Jvm.MethodName)) ∈ lw_tbl := List.mem_of_getElem? (i := 113) (by decide +kernel)
set_option maxRecDepth 20000 in
theorem qC_Oj_init_0566 : (Jvm.Cond.code ({ cls := "java/lang/Object", name := "<init>", desc := "()V" } : Jvm.MethodName) object_method_1_code (1 : Nat) (Option.none : Option Jvm.ClassFile.FieldType)) ∈ lw_tbl := List.mem_of_getElem? (i := 114) rfl
set_option maxRecDepth 20000 in
theorem qK_Tb_7 : (Jvm.Cond.classLink "Threeboxes" (7 : Nat) "java/util/ArrayList") ∈ lw_tbl := List.mem_of_getElem? (i := 115) (by decide +kernel)
set_option maxRecDepth 20000 in
theorem qO_AL : (Jvm.Cond.instantiable "java/util/ArrayList" (3 : Nat)) ∈ lw_tbl := List.mem_of_getElem? (i := 116) (by decide +kernel)
set_option maxRecDepth 20000 in
theorem qM_Tb_9 : (Jvm.Cond.methodLink "Threeboxes" (9 : Nat) ({ cls := "java/util/ArrayList", name := "<init>", desc := "()V" } : Jvm.MethodName)) ∈ lw_tbl := List.mem_of_getElem? (i := 117) (by decide +kernel)
set_option maxRecDepth 20000 in
theorem qI_AL_init : (Jvm.Cond.instanceMethod ({ cls := "java/util/ArrayList", name := "<init>", desc := "()V" } : Jvm.MethodName)) ∈ lw_tbl := List.mem_of_getElem? (i := 118) (by decide +kernel)
set_option maxRecDepth 20000 in
theorem qC_AL_init : (Jvm.Cond.code ({ cls := "java/util/ArrayList", name := "<init>", desc := "()V" } : Jvm.MethodName) prog_37_method_2_code (1 : Nat) (Option.none : Option Jvm.ClassFile.FieldType)) ∈ lw_tbl := List.mem_of_getElem? (i := 119) rfl
set_option maxRecDepth 20000 in
theorem qM_AL_1 : (Jvm.Cond.methodLink "java/util/ArrayList" (1 : Nat) ({ cls := "java/util/AbstractList", name := "<init>", desc := "()V" } : Jvm.MethodName)) ∈ lw_tbl := List.mem_of_getElem? (i := 120) (by decide +kernel)
set_option maxRecDepth 20000 in
theorem qI_AbL_init : (Jvm.Cond.instanceMethod ({ cls := "java/util/AbstractList", name := "<init>", desc := "()V" } : Jvm.MethodName)) ∈ lw_tbl := List.mem_of_getElem? (i := 121) (by decide +kernel)
set_option maxRecDepth 20000 in
theorem qC_AbL_init : (Jvm.Cond.code ({ cls := "java/util/AbstractList", name := "<init>", desc := "()V" } : Jvm.MethodName) prog_36_method_1_code (1 : Nat) (Option.none : Option Jvm.ClassFile.FieldType)) ∈ lw_tbl := List.mem_of_getElem? (i := 122) rfl
set_option maxRecDepth 20000 in
theorem qM_AbL_1 : (Jvm.Cond.methodLink "java/util/AbstractList" (1 : Nat) ({ cls := "java/util/AbstractCollection", name := "<init>", desc := "()V" } : Jvm.MethodName)) ∈ lw_tbl := List.mem_of_getElem? (i := 123) (by decide +kernel)
set_option maxRecDepth 20000 in
theorem qI_AbC_init : (Jvm.Cond.instanceMethod ({ cls := "java/util/AbstractCollection", name := "<init>", desc := "()V" } : Jvm.MethodName)) ∈ lw_tbl := List.mem_of_getElem? (i := 124) (by decide +kernel)
set_option maxRecDepth 20000 in
theorem qC_AbC_init : (Jvm.Cond.code ({ cls := "java/util/AbstractCollection", name := "<init>", desc := "()V" } : Jvm.MethodName) prog_35_method_1_code (1 : Nat) (Option.none : Option Jvm.ClassFile.FieldType)) ∈ lw_tbl := List.mem_of_getElem? (i := 125) rfl
set_option maxRecDepth 20000 in
theorem qM_AbC_1 : (Jvm.Cond.methodLink "java/util/AbstractCollection" (1 : Nat) ({ cls := "java/lang/Object", name := "<init>", desc := "()V" } : Jvm.MethodName)) ∈ lw_tbl := List.mem_of_getElem? (i := 126) (by decide +kernel)
set_option maxRecDepth 20000 in
theorem qF_AL_39 : (Jvm.Cond.fieldLink "java/util/ArrayList" (39 : Nat) "java/util/ArrayList" "DEFAULTCAPACITY_EMPTY_ELEMENTDATA" "[Ljava/lang/Object;") ∈ lw_tbl := List.mem_of_getElem? (i := 127) (by decide +kernel)
set_option maxRecDepth 20000 in
theorem qLs_AL_DEFAULTCAPACITYEMPTYELEMENTDATA_LjavalangObject : (Jvm.Cond.laysStatic "java/util/ArrayList" "DEFAULTCAPACITY_EMPTY_ELEMENTDATA" "[Ljava/lang/Object;") ∈ lw_tbl := List.mem_of_getElem? (i := 128) (by decide +kernel)
set_option maxRecDepth 20000 in
theorem qF_AL_9 : (Jvm.Cond.fieldLink "java/util/ArrayList" (9 : Nat) "java/util/ArrayList" "elementData" "[Ljava/lang/Object;") ∈ lw_tbl := List.mem_of_getElem? (i := 129) (by decide +kernel)
set_option maxRecDepth 20000 in
theorem qF_AL_48 : (Jvm.Cond.fieldLink "java/util/ArrayList" (48 : Nat) "java/util/ArrayList" "size" "I") ∈ lw_tbl := List.mem_of_getElem? (i := 130) (by decide +kernel)
set_option maxRecDepth 20000 in
theorem qF_AbL_7 : (Jvm.Cond.fieldLink "java/util/AbstractList" (7 : Nat) "java/util/AbstractList" "modCount" "I") ∈ lw_tbl := List.mem_of_getElem? (i := 131) (by decide +kernel)
set_option maxRecDepth 20000 in
theorem qF_AL_63 : (Jvm.Cond.fieldLink "java/util/ArrayList" (63 : Nat) "java/util/ArrayList" "modCount" "I") ∈ lw_tbl := List.mem_of_getElem? (i := 132) (by decide +kernel)
set_option maxRecDepth 20000 in
theorem qSf_AL_javautilAbstractList_modCount_I : (Jvm.Cond.sameField "java/util/ArrayList" "java/util/AbstractList" "modCount" "I") ∈ lw_tbl := List.mem_of_getElem? (i := 133) (by decide +kernel)
set_option maxRecDepth 20000 in
theorem qSc_AL_AbL : (Jvm.Cond.superclass "java/util/ArrayList" "java/util/AbstractList") ∈ lw_tbl := List.mem_of_getElem? (i := 140) (by decide +kernel)
set_option maxRecDepth 20000 in
theorem qK_Tb_19 : (Jvm.Cond.classLink "Threeboxes" (19 : Nat) "Threeboxes$Register") ∈ lw_tbl := List.mem_of_getElem? (i := 141) (by decide +kernel)
set_option maxRecDepth 20000 in
theorem qO_Re : (Jvm.Cond.instantiable "Threeboxes$Register" (5 : Nat)) ∈ lw_tbl := List.mem_of_getElem? (i := 142) (by decide +kernel)
set_option maxRecDepth 20000 in
theorem qM_Tb_21 : (Jvm.Cond.methodLink "Threeboxes" (21 : Nat) ({ cls := "Threeboxes$Register", name := "<init>", desc := "()V" } : Jvm.MethodName)) ∈ lw_tbl := List.mem_of_getElem? (i := 143) (by decide +kernel)
set_option maxRecDepth 20000 in
theorem qI_Re_init : (Jvm.Cond.instanceMethod ({ cls := "Threeboxes$Register", name := "<init>", desc := "()V" } : Jvm.MethodName)) ∈ lw_tbl := List.mem_of_getElem? (i := 144) (by decide +kernel)
set_option maxRecDepth 20000 in
theorem qC_Re_init : (Jvm.Cond.code ({ cls := "Threeboxes$Register", name := "<init>", desc := "()V" } : Jvm.MethodName) prog_5_method_1_code (2 : Nat) (Option.none : Option Jvm.ClassFile.FieldType)) ∈ lw_tbl := List.mem_of_getElem? (i := 145) rfl
set_option maxRecDepth 20000 in
theorem qM_Re_3 : (Jvm.Cond.methodLink "Threeboxes$Register" (3 : Nat) ({ cls := "java/lang/Object", name := "<init>", desc := "()V" } : Jvm.MethodName)) ∈ lw_tbl := List.mem_of_getElem? (i := 146) (by decide +kernel)
set_option maxRecDepth 20000 in
theorem qM_Re_28 : (Jvm.Cond.methodLink "Threeboxes$Register" (28 : Nat) ({ cls := "Threeboxes$Register", name := "joinAt", desc := "(I)V" } : Jvm.MethodName)) ∈ lw_tbl := List.mem_of_getElem? (i := 147) (by decide +kernel)
set_option maxRecDepth 20000 in
theorem qI_Re_joinAt : (Jvm.Cond.instanceMethod ({ cls := "Threeboxes$Register", name := "joinAt", desc := "(I)V" } : Jvm.MethodName)) ∈ lw_tbl := List.mem_of_getElem? (i := 149) (by decide +kernel)
set_option maxRecDepth 20000 in
theorem qC_Re_joinAt : (Jvm.Cond.code ({ cls := "Threeboxes$Register", name := "joinAt", desc := "(I)V" } : Jvm.MethodName) prog_5_method_5_code (2 : Nat) (Option.none : Option Jvm.ClassFile.FieldType)) ∈ lw_tbl := List.mem_of_getElem? (i := 150) rfl
set_option maxRecDepth 20000 in
theorem qM_Re_40 : (Jvm.Cond.methodLink "Threeboxes$Register" (40 : Nat) ({ cls := "Threeboxes$Register", name := "nodeAt", desc := "(I)I" } : Jvm.MethodName)) ∈ lw_tbl := List.mem_of_getElem? (i := 151) (by decide +kernel)
set_option maxRecDepth 20000 in
theorem qI_Re_nodeAt : (Jvm.Cond.instanceMethod ({ cls := "Threeboxes$Register", name := "nodeAt", desc := "(I)I" } : Jvm.MethodName)) ∈ lw_tbl := List.mem_of_getElem? (i := 153) (by decide +kernel)
set_option maxRecDepth 20000 in
theorem qC_Re_nodeAt : (Jvm.Cond.code ({ cls := "Threeboxes$Register", name := "nodeAt", desc := "(I)I" } : Jvm.MethodName) prog_5_method_7_code (2 : Nat) (Option.some Jvm.ClassFile.FieldType.int)) ∈ lw_tbl := List.mem_of_getElem? (i := 154) rfl
set_option maxRecDepth 20000 in
theorem qM_Re_43 : (Jvm.Cond.methodLink "Threeboxes$Register" (43 : Nat) ({ cls := "Threeboxes$Register", name := "join", desc := "(II)I" } : Jvm.MethodName)) ∈ lw_tbl := List.mem_of_getElem? (i := 155) (by decide +kernel)
set_option maxRecDepth 20000 in
theorem qS_Re_join : (Jvm.Cond.static ({ cls := "Threeboxes$Register", name := "join", desc := "(II)I" } : Jvm.MethodName)) ∈ lw_tbl := List.mem_of_getElem? (i := 156) (by decide +kernel)
set_option maxRecDepth 20000 in
theorem qC_Re_join : (Jvm.Cond.code ({ cls := "Threeboxes$Register", name := "join", desc := "(II)I" } : Jvm.MethodName) prog_5_method_2_code (2 : Nat) (Option.some Jvm.ClassFile.FieldType.int)) ∈ lw_tbl := List.mem_of_getElem? (i := 157) rfl
set_option maxRecDepth 20000 in
theorem qM_Re_36 : (Jvm.Cond.methodLink "Threeboxes$Register" (36 : Nat) ({ cls := "Threeboxes$Register", name := "putAt", desc := "(II)V" } : Jvm.MethodName)) ∈ lw_tbl := List.mem_of_getElem? (i := 158) (by decide +kernel)
set_option maxRecDepth 20000 in
theorem qI_Re_putAt : (Jvm.Cond.instanceMethod ({ cls := "Threeboxes$Register", name := "putAt", desc := "(II)V" } : Jvm.MethodName)) ∈ lw_tbl := List.mem_of_getElem? (i := 160) (by decide +kernel)
set_option maxRecDepth 20000 in
theorem qC_Re_putAt : (Jvm.Cond.code ({ cls := "Threeboxes$Register", name := "putAt", desc := "(II)V" } : Jvm.MethodName) prog_5_method_6_code (3 : Nat) (Option.none : Option Jvm.ClassFile.FieldType)) ∈ lw_tbl := List.mem_of_getElem? (i := 161) rfl
set_option maxRecDepth 20000 in
theorem qF_Re_11 : (Jvm.Cond.fieldLink "Threeboxes$Register" (11 : Nat) "Threeboxes$Register" "kinds" "[I") ∈ lw_tbl := List.mem_of_getElem? (i := 162) (by decide +kernel)
set_option maxRecDepth 20000 in
theorem qF_Re_15 : (Jvm.Cond.fieldLink "Threeboxes$Register" (15 : Nat) "Threeboxes$Register" "subjects" "[I") ∈ lw_tbl := List.mem_of_getElem? (i := 163) (by decide +kernel)
set_option maxRecDepth 20000 in
theorem qF_Re_18 : (Jvm.Cond.fieldLink "Threeboxes$Register" (18 : Nat) "Threeboxes$Register" "days" "[I") ∈ lw_tbl := List.mem_of_getElem? (i := 164) (by decide +kernel)
set_option maxRecDepth 20000 in
theorem qF_Re_21 : (Jvm.Cond.fieldLink "Threeboxes$Register" (21 : Nat) "Threeboxes$Register" "tree" "[I") ∈ lw_tbl := List.mem_of_getElem? (i := 165) (by decide +kernel)
set_option maxRecDepth 20000 in
theorem qF_Re_24 : (Jvm.Cond.fieldLink "Threeboxes$Register" (24 : Nat) "Threeboxes$Register" "count" "I") ∈ lw_tbl := List.mem_of_getElem? (i := 166) (by decide +kernel)
set_option maxRecDepth 20000 in
theorem qSc_Re_Oj : (Jvm.Cond.superclass "Threeboxes$Register" "java/lang/Object") ∈ lw_tbl := List.mem_of_getElem? (i := 177) (by decide +kernel)
set_option maxRecDepth 20000 in
theorem qA_int : (Jvm.Cond.arrayClass Jvm.ClassFile.FieldType.int) ∈ lw_tbl := List.mem_of_getElem? (i := 178) (by decide +kernel)
set_option maxRecDepth 20000 in
theorem qK_Tb_26 : (Jvm.Cond.classLink "Threeboxes" (26 : Nat) "Threeboxes$Curve") ∈ lw_tbl := List.mem_of_getElem? (i := 179) (by decide +kernel)
set_option maxRecDepth 20000 in
theorem qO_Cu : (Jvm.Cond.instantiable "Threeboxes$Curve" (2 : Nat)) ∈ lw_tbl := List.mem_of_getElem? (i := 180) (by decide +kernel)
set_option maxRecDepth 20000 in
theorem qM_Tb_28 : (Jvm.Cond.methodLink "Threeboxes" (28 : Nat) ({ cls := "Threeboxes$Curve", name := "<init>", desc := "()V" } : Jvm.MethodName)) ∈ lw_tbl := List.mem_of_getElem? (i := 181) (by decide +kernel)
set_option maxRecDepth 20000 in
theorem qI_Cu_init : (Jvm.Cond.instanceMethod ({ cls := "Threeboxes$Curve", name := "<init>", desc := "()V" } : Jvm.MethodName)) ∈ lw_tbl := List.mem_of_getElem? (i := 182) (by decide +kernel)
set_option maxRecDepth 20000 in
theorem qC_Cu_init : (Jvm.Cond.code ({ cls := "Threeboxes$Curve", name := "<init>", desc := "()V" } : Jvm.MethodName) prog_2_method_1_code (1 : Nat) (Option.none : Option Jvm.ClassFile.FieldType)) ∈ lw_tbl := List.mem_of_getElem? (i := 183) rfl
set_option maxRecDepth 20000 in
theorem qM_Cu_3 : (Jvm.Cond.methodLink "Threeboxes$Curve" (3 : Nat) ({ cls := "java/lang/Object", name := "<init>", desc := "()V" } : Jvm.MethodName)) ∈ lw_tbl := List.mem_of_getElem? (i := 184) (by decide +kernel)
set_option maxRecDepth 20000 in
theorem qF_Cu_9 : (Jvm.Cond.fieldLink "Threeboxes$Curve" (9 : Nat) "Threeboxes$Curve" "numbers" "[I") ∈ lw_tbl := List.mem_of_getElem? (i := 185) (by decide +kernel)
set_option maxRecDepth 20000 in
theorem qF_Cu_15 : (Jvm.Cond.fieldLink "Threeboxes$Curve" (15 : Nat) "Threeboxes$Curve" "luck" "I") ∈ lw_tbl := List.mem_of_getElem? (i := 186) (by decide +kernel)
set_option maxRecDepth 20000 in
theorem qF_Tb_398 : (Jvm.Cond.fieldLink "Threeboxes" (398 : Nat) "Threeboxes$Curve" "luck" "I") ∈ lw_tbl := List.mem_of_getElem? (i := 187) (by decide +kernel)
set_option maxRecDepth 20000 in
theorem qSc_Cu_Oj : (Jvm.Cond.superclass "Threeboxes$Curve" "java/lang/Object") ∈ lw_tbl := List.mem_of_getElem? (i := 192) (by decide +kernel)
set_option maxRecDepth 20000 in
theorem qK_Tb_33 : (Jvm.Cond.classLink "Threeboxes" (33 : Nat) "Threeboxes$Group") ∈ lw_tbl := List.mem_of_getElem? (i := 193) (by decide +kernel)
set_option maxRecDepth 20000 in
theorem qO_Gr : (Jvm.Cond.instantiable "Threeboxes$Group" (6 : Nat)) ∈ lw_tbl := List.mem_of_getElem? (i := 194) (by decide +kernel)
set_option maxRecDepth 20000 in
theorem qM_Tb_35 : (Jvm.Cond.methodLink "Threeboxes" (35 : Nat) ({ cls := "Threeboxes$Group", name := "<init>", desc := "()V" } : Jvm.MethodName)) ∈ lw_tbl := List.mem_of_getElem? (i := 195) (by decide +kernel)
set_option maxRecDepth 20000 in
theorem qI_Gr_init : (Jvm.Cond.instanceMethod ({ cls := "Threeboxes$Group", name := "<init>", desc := "()V" } : Jvm.MethodName)) ∈ lw_tbl := List.mem_of_getElem? (i := 196) (by decide +kernel)
set_option maxRecDepth 20000 in
theorem qC_Gr_init : (Jvm.Cond.code ({ cls := "Threeboxes$Group", name := "<init>", desc := "()V" } : Jvm.MethodName) prog_3_method_1_code (2 : Nat) (Option.none : Option Jvm.ClassFile.FieldType)) ∈ lw_tbl := List.mem_of_getElem? (i := 197) rfl
set_option maxRecDepth 20000 in
theorem qM_Gr_3 : (Jvm.Cond.methodLink "Threeboxes$Group" (3 : Nat) ({ cls := "java/lang/Object", name := "<init>", desc := "()V" } : Jvm.MethodName)) ∈ lw_tbl := List.mem_of_getElem? (i := 198) (by decide +kernel)
set_option maxRecDepth 20000 in
theorem qF_Gr_9 : (Jvm.Cond.fieldLink "Threeboxes$Group" (9 : Nat) "Threeboxes$Group" "inverses" "[I") ∈ lw_tbl := List.mem_of_getElem? (i := 199) (by decide +kernel)
set_option maxRecDepth 20000 in
theorem qF_Gr_15 : (Jvm.Cond.fieldLink "Threeboxes$Group" (15 : Nat) "Threeboxes$Group" "given" "[I") ∈ lw_tbl := List.mem_of_getElem? (i := 200) (by decide +kernel)
set_option maxRecDepth 20000 in
theorem qF_Gr_18 : (Jvm.Cond.fieldLink "Threeboxes$Group" (18 : Nat) "Threeboxes$Group" "order" "I") ∈ lw_tbl := List.mem_of_getElem? (i := 201) (by decide +kernel)
set_option maxRecDepth 20000 in
theorem qF_Gr_22 : (Jvm.Cond.fieldLink "Threeboxes$Group" (22 : Nat) "Threeboxes$Group" "points" "I") ∈ lw_tbl := List.mem_of_getElem? (i := 202) (by decide +kernel)
set_option maxRecDepth 20000 in
theorem qF_Gr_25 : (Jvm.Cond.fieldLink "Threeboxes$Group" (25 : Nat) "Threeboxes$Group" "base" "I") ∈ lw_tbl := List.mem_of_getElem? (i := 203) (by decide +kernel)
set_option maxRecDepth 20000 in
theorem qF_Gr_28 : (Jvm.Cond.fieldLink "Threeboxes$Group" (28 : Nat) "Threeboxes$Group" "agreeing" "I") ∈ lw_tbl := List.mem_of_getElem? (i := 204) (by decide +kernel)
set_option maxRecDepth 20000 in
theorem qSc_Gr_Oj : (Jvm.Cond.superclass "Threeboxes$Group" "java/lang/Object") ∈ lw_tbl := List.mem_of_getElem? (i := 217) (by decide +kernel)
set_option maxRecDepth 20000 in
theorem qF_Tb_10 : (Jvm.Cond.fieldLink "Threeboxes" (10 : Nat) "Threeboxes" "keeperList" "Ljava/util/ArrayList;") ∈ lw_tbl := List.mem_of_getElem? (i := 218) (by decide +kernel)
set_option maxRecDepth 20000 in
theorem qF_Tb_16 : (Jvm.Cond.fieldLink "Threeboxes" (16 : Nat) "Threeboxes" "secretList" "Ljava/util/ArrayList;") ∈ lw_tbl := List.mem_of_getElem? (i := 219) (by decide +kernel)
set_option maxRecDepth 20000 in
theorem qF_Tb_22 : (Jvm.Cond.fieldLink "Threeboxes" (22 : Nat) "Threeboxes" "register" "LThreeboxes$Register;") ∈ lw_tbl := List.mem_of_getElem? (i := 220) (by decide +kernel)
set_option maxRecDepth 20000 in
theorem qF_Tb_29 : (Jvm.Cond.fieldLink "Threeboxes" (29 : Nat) "Threeboxes" "drawn" "LThreeboxes$Curve;") ∈ lw_tbl := List.mem_of_getElem? (i := 221) (by decide +kernel)
set_option maxRecDepth 20000 in
theorem qF_Tb_36 : (Jvm.Cond.fieldLink "Threeboxes" (36 : Nat) "Threeboxes" "group" "LThreeboxes$Group;") ∈ lw_tbl := List.mem_of_getElem? (i := 222) (by decide +kernel)
set_option maxRecDepth 20000 in
theorem qF_Tb_40 : (Jvm.Cond.fieldLink "Threeboxes" (40 : Nat) "Threeboxes" "chances" "[D") ∈ lw_tbl := List.mem_of_getElem? (i := 223) (by decide +kernel)
set_option maxRecDepth 20000 in
theorem qF_Tb_44 : (Jvm.Cond.fieldLink "Threeboxes" (44 : Nat) "Threeboxes" "day" "I") ∈ lw_tbl := List.mem_of_getElem? (i := 224) (by decide +kernel)
set_option maxRecDepth 20000 in
theorem qF_Tb_48 : (Jvm.Cond.fieldLink "Threeboxes" (48 : Nat) "Threeboxes" "refusals" "I") ∈ lw_tbl := List.mem_of_getElem? (i := 225) (by decide +kernel)
set_option maxRecDepth 20000 in
theorem qF_Tb_51 : (Jvm.Cond.fieldLink "Threeboxes" (51 : Nat) "Threeboxes" "failures" "I") ∈ lw_tbl := List.mem_of_getElem? (i := 226) (by decide +kernel)
set_option maxRecDepth 20000 in
theorem qF_Tb_54 : (Jvm.Cond.fieldLink "Threeboxes" (54 : Nat) "Threeboxes" "messages" "I") ∈ lw_tbl := List.mem_of_getElem? (i := 227) (by decide +kernel)
set_option maxRecDepth 20000 in
theorem qSc_Tb_Oj : (Jvm.Cond.superclass "Threeboxes" "java/lang/Object") ∈ lw_tbl := List.mem_of_getElem? (i := 248) (by decide +kernel)
set_option maxRecDepth 20000 in
theorem qA_double : (Jvm.Cond.arrayClass Jvm.ClassFile.FieldType.double) ∈ lw_tbl := List.mem_of_getElem? (i := 249) (by decide +kernel)
set_option maxRecDepth 20000 in
theorem qM_La_144 : (Jvm.Cond.methodLink "ThreeboxesLaw" (144 : Nat) ({ cls := "Threeboxes", name := "knock", desc := "()I" } : Jvm.MethodName)) ∈ lw_tbl := List.mem_of_getElem? (i := 250) (by decide +kernel)
set_option maxRecDepth 20000 in
theorem qI_Tb_knock : (Jvm.Cond.instanceMethod ({ cls := "Threeboxes", name := "knock", desc := "()I" } : Jvm.MethodName)) ∈ lw_tbl := List.mem_of_getElem? (i := 251) (by decide +kernel)
set_option maxRecDepth 20000 in
theorem qV_Tb_Tb_knock : (Jvm.Cond.selects "Threeboxes" ({ cls := "Threeboxes", name := "knock", desc := "()I" } : Jvm.MethodName) ({ cls := "Threeboxes", name := "knock", desc := "()I" } : Jvm.MethodName)) ∈ lw_tbl := List.mem_of_getElem? (i := 252) (by decide +kernel)
set_option maxRecDepth 20000 in
theorem qC_Tb_knock : (Jvm.Cond.code ({ cls := "Threeboxes", name := "knock", desc := "()I" } : Jvm.MethodName) prog_1_method_11_code (1 : Nat) (Option.some Jvm.ClassFile.FieldType.int)) ∈ lw_tbl := List.mem_of_getElem? (i := 253) rfl
set_option maxRecDepth 20000 in
theorem qM_La_184 : (Jvm.Cond.methodLink "ThreeboxesLaw" (184 : Nat) ({ cls := "Threeboxes", name := "isSound", desc := "()Z" } : Jvm.MethodName)) ∈ lw_tbl := List.mem_of_getElem? (i := 254) (by decide +kernel)
set_option maxRecDepth 20000 in
theorem qI_Tb_isSound : (Jvm.Cond.instanceMethod ({ cls := "Threeboxes", name := "isSound", desc := "()Z" } : Jvm.MethodName)) ∈ lw_tbl := List.mem_of_getElem? (i := 255) (by decide +kernel)
set_option maxRecDepth 20000 in
theorem qV_Tb_Tb_isSound : (Jvm.Cond.selects "Threeboxes" ({ cls := "Threeboxes", name := "isSound", desc := "()Z" } : Jvm.MethodName) ({ cls := "Threeboxes", name := "isSound", desc := "()Z" } : Jvm.MethodName)) ∈ lw_tbl := List.mem_of_getElem? (i := 256) (by decide +kernel)
set_option maxRecDepth 20000 in
theorem qC_Tb_isSound : (Jvm.Cond.code ({ cls := "Threeboxes", name := "isSound", desc := "()Z" } : Jvm.MethodName) prog_1_method_24_code (2 : Nat) (Option.some Jvm.ClassFile.FieldType.boolean)) ∈ lw_tbl := List.mem_of_getElem? (i := 257) rfl
set_option maxRecDepth 20000 in
theorem qM_Tb_68 : (Jvm.Cond.methodLink "Threeboxes" (68 : Nat) ({ cls := "java/util/ArrayList", name := "size", desc := "()I" } : Jvm.MethodName)) ∈ lw_tbl := List.mem_of_getElem? (i := 258) (by decide +kernel)
set_option maxRecDepth 20000 in
theorem qI_AL_size : (Jvm.Cond.instanceMethod ({ cls := "java/util/ArrayList", name := "size", desc := "()I" } : Jvm.MethodName)) ∈ lw_tbl := List.mem_of_getElem? (i := 259) (by decide +kernel)
set_option maxRecDepth 20000 in
theorem qV_AL_AL_size : (Jvm.Cond.selects "java/util/ArrayList" ({ cls := "java/util/ArrayList", name := "size", desc := "()I" } : Jvm.MethodName) ({ cls := "java/util/ArrayList", name := "size", desc := "()I" } : Jvm.MethodName)) ∈ lw_tbl := List.mem_of_getElem? (i := 260) (by decide +kernel)
set_option maxRecDepth 20000 in
theorem qC_AL_size : (Jvm.Cond.code ({ cls := "java/util/ArrayList", name := "size", desc := "()I" } : Jvm.MethodName) prog_37_method_8_code (1 : Nat) (Option.some Jvm.ClassFile.FieldType.int)) ∈ lw_tbl := List.mem_of_getElem? (i := 261) rfl
set_option maxRecDepth 20000 in
theorem qM_Tb_166 : (Jvm.Cond.methodLink "Threeboxes" (166 : Nat) ({ cls := "java/util/ArrayList", name := "get", desc := "(I)Ljava/lang/Object;" } : Jvm.MethodName)) ∈ lw_tbl := List.mem_of_getElem? (i := 262) (by decide +kernel)
set_option maxRecDepth 20000 in
theorem qI_AL_get : (Jvm.Cond.instanceMethod ({ cls := "java/util/ArrayList", name := "get", desc := "(I)Ljava/lang/Object;" } : Jvm.MethodName)) ∈ lw_tbl := List.mem_of_getElem? (i := 263) (by decide +kernel)
set_option maxRecDepth 20000 in
theorem qV_AL_AL_get : (Jvm.Cond.selects "java/util/ArrayList" ({ cls := "java/util/ArrayList", name := "get", desc := "(I)Ljava/lang/Object;" } : Jvm.MethodName) ({ cls := "java/util/ArrayList", name := "get", desc := "(I)Ljava/lang/Object;" } : Jvm.MethodName)) ∈ lw_tbl := List.mem_of_getElem? (i := 264) (by decide +kernel)
set_option maxRecDepth 20000 in
theorem qC_AL_get : (Jvm.Cond.code ({ cls := "java/util/ArrayList", name := "get", desc := "(I)Ljava/lang/Object;" } : Jvm.MethodName) prog_37_method_20_code (2 : Nat) (Option.some (Jvm.ClassFile.FieldType.object "java/lang/Object"))) ∈ lw_tbl := List.mem_of_getElem? (i := 265) rfl
set_option maxRecDepth 20000 in
theorem qM_AL_118 : (Jvm.Cond.methodLink "java/util/ArrayList" (118 : Nat) ({ cls := "java/util/Objects", name := "checkIndex", desc := "(II)I" } : Jvm.MethodName)) ∈ lw_tbl := List.mem_of_getElem? (i := 266) (by decide +kernel)
set_option maxRecDepth 20000 in
theorem qS_Ob_checkIndex : (Jvm.Cond.static ({ cls := "java/util/Objects", name := "checkIndex", desc := "(II)I" } : Jvm.MethodName)) ∈ lw_tbl := List.mem_of_getElem? (i := 267) (by decide +kernel)
set_option maxRecDepth 20000 in
theorem qC_Ob_checkIndex : (Jvm.Cond.code ({ cls := "java/util/Objects", name := "checkIndex", desc := "(II)I" } : Jvm.MethodName) prog_41_method_17_code (2 : Nat) (Option.some Jvm.ClassFile.FieldType.int)) ∈ lw_tbl := List.mem_of_getElem? (i := 268) rfl
set_option maxRecDepth 20000 in
theorem qM_Ob_105 : (Jvm.Cond.methodLink "java/util/Objects" (105 : Nat) ({ cls := "jdk/internal/util/Preconditions", name := "checkIndex", desc := "(IILjava/util/function/BiFunction;)I" } : Jvm.MethodName)) ∈ lw_tbl := List.mem_of_getElem? (i := 269) (by decide +kernel)
set_option maxRecDepth 20000 in
theorem qS_Pr_checkIndex : (Jvm.Cond.static ({ cls := "jdk/internal/util/Preconditions", name := "checkIndex", desc := "(IILjava/util/function/BiFunction;)I" } : Jvm.MethodName)) ∈ lw_tbl := List.mem_of_getElem? (i := 270) (by decide +kernel)
set_option maxRecDepth 20000 in
theorem qC_Pr_checkIndex : (Jvm.Cond.code ({ cls := "jdk/internal/util/Preconditions", name := "checkIndex", desc := "(IILjava/util/function/BiFunction;)I" } : Jvm.MethodName) prog_45_method_11_code (3 : Nat) (Option.some Jvm.ClassFile.FieldType.int)) ∈ lw_tbl := List.mem_of_getElem? (i := 271) rfl
set_option maxRecDepth 20000 in
theorem qM_AL_123 : (Jvm.Cond.methodLink "java/util/ArrayList" (123 : Nat) ({ cls := "java/util/ArrayList", name := "elementData", desc := "(I)Ljava/lang/Object;" } : Jvm.MethodName)) ∈ lw_tbl := List.mem_of_getElem? (i := 272) (by decide +kernel)
set_option maxRecDepth 20000 in
theorem qI_AL_elementData : (Jvm.Cond.instanceMethod ({ cls := "java/util/ArrayList", name := "elementData", desc := "(I)Ljava/lang/Object;" } : Jvm.MethodName)) ∈ lw_tbl := List.mem_of_getElem? (i := 273) (by decide +kernel)
set_option maxRecDepth 20000 in
theorem qV_AL_AL_elementData : (Jvm.Cond.selects "java/util/ArrayList" ({ cls := "java/util/ArrayList", name := "elementData", desc := "(I)Ljava/lang/Object;" } : Jvm.MethodName) ({ cls := "java/util/ArrayList", name := "elementData", desc := "(I)Ljava/lang/Object;" } : Jvm.MethodName)) ∈ lw_tbl := List.mem_of_getElem? (i := 274) (by decide +kernel)
set_option maxRecDepth 20000 in
theorem qC_AL_elementData : (Jvm.Cond.code ({ cls := "java/util/ArrayList", name := "elementData", desc := "(I)Ljava/lang/Object;" } : Jvm.MethodName) prog_37_method_18_code (2 : Nat) (Option.some (Jvm.ClassFile.FieldType.object "java/lang/Object"))) ∈ lw_tbl := List.mem_of_getElem? (i := 275) rfl
set_option maxRecDepth 20000 in
theorem qK_Tb_77 : (Jvm.Cond.classLink "Threeboxes" (77 : Nat) "Threeboxes$Keeper") ∈ lw_tbl := List.mem_of_getElem? (i := 276) (by decide +kernel)
set_option maxRecDepth 20000 in
theorem qM_Tb_90 : (Jvm.Cond.methodLink "Threeboxes" (90 : Nat) ({ cls := "Threeboxes", name := "isNumber", desc := "(I)Z" } : Jvm.MethodName)) ∈ lw_tbl := List.mem_of_getElem? (i := 277) (by decide +kernel)
set_option maxRecDepth 20000 in
theorem qS_Tb_isNumber : (Jvm.Cond.static ({ cls := "Threeboxes", name := "isNumber", desc := "(I)Z" } : Jvm.MethodName)) ∈ lw_tbl := List.mem_of_getElem? (i := 278) (by decide +kernel)
set_option maxRecDepth 20000 in
theorem qC_Tb_isNumber : (Jvm.Cond.code ({ cls := "Threeboxes", name := "isNumber", desc := "(I)Z" } : Jvm.MethodName) prog_1_method_28_code (1 : Nat) (Option.some Jvm.ClassFile.FieldType.boolean)) ∈ lw_tbl := List.mem_of_getElem? (i := 279) rfl
set_option maxRecDepth 20000 in
theorem qM_Tb_57 : (Jvm.Cond.methodLink "Threeboxes" (57 : Nat) ({ cls := "Threeboxes", name := "isFrom", desc := "(III)Z" } : Jvm.MethodName)) ∈ lw_tbl := List.mem_of_getElem? (i := 280) (by decide +kernel)
set_option maxRecDepth 20000 in
theorem qS_Tb_isFrom : (Jvm.Cond.static ({ cls := "Threeboxes", name := "isFrom", desc := "(III)Z" } : Jvm.MethodName)) ∈ lw_tbl := List.mem_of_getElem? (i := 281) (by decide +kernel)
set_option maxRecDepth 20000 in
theorem qC_Tb_isFrom : (Jvm.Cond.code ({ cls := "Threeboxes", name := "isFrom", desc := "(III)Z" } : Jvm.MethodName) prog_1_method_27_code (3 : Nat) (Option.some Jvm.ClassFile.FieldType.boolean)) ∈ lw_tbl := List.mem_of_getElem? (i := 282) rfl
set_option maxRecDepth 20000 in
theorem qK_Tb_115 : (Jvm.Cond.classLink "Threeboxes" (115 : Nat) "Threeboxes$Secret") ∈ lw_tbl := List.mem_of_getElem? (i := 283) (by decide +kernel)
set_option maxRecDepth 20000 in
theorem qM_Tb_307 : (Jvm.Cond.methodLink "Threeboxes" (307 : Nat) ({ cls := "Threeboxes", name := "isSecretSound", desc := "(LThreeboxes$Secret;)Z" } : Jvm.MethodName)) ∈ lw_tbl := List.mem_of_getElem? (i := 284) (by decide +kernel)
set_option maxRecDepth 20000 in
theorem qI_Tb_isSecretSound : (Jvm.Cond.instanceMethod ({ cls := "Threeboxes", name := "isSecretSound", desc := "(LThreeboxes$Secret;)Z" } : Jvm.MethodName)) ∈ lw_tbl := List.mem_of_getElem? (i := 286) (by decide +kernel)
set_option maxRecDepth 20000 in
theorem qC_Tb_isSecretSound : (Jvm.Cond.code ({ cls := "Threeboxes", name := "isSecretSound", desc := "(LThreeboxes$Secret;)Z" } : Jvm.MethodName) prog_1_method_60_code (3 : Nat) (Option.some Jvm.ClassFile.FieldType.boolean)) ∈ lw_tbl := List.mem_of_getElem? (i := 287) rfl
set_option maxRecDepth 20000 in
theorem qM_Tb_351 : (Jvm.Cond.methodLink "Threeboxes" (351 : Nat) ({ cls := "Threeboxes$Group", name := "begin", desc := "(I)V" } : Jvm.MethodName)) ∈ lw_tbl := List.mem_of_getElem? (i := 288) (by decide +kernel)
set_option maxRecDepth 20000 in
theorem qI_Gr_begin : (Jvm.Cond.instanceMethod ({ cls := "Threeboxes$Group", name := "begin", desc := "(I)V" } : Jvm.MethodName)) ∈ lw_tbl := List.mem_of_getElem? (i := 289) (by decide +kernel)
set_option maxRecDepth 20000 in
theorem qV_Gr_Gr_begin : (Jvm.Cond.selects "Threeboxes$Group" ({ cls := "Threeboxes$Group", name := "begin", desc := "(I)V" } : Jvm.MethodName) ({ cls := "Threeboxes$Group", name := "begin", desc := "(I)V" } : Jvm.MethodName)) ∈ lw_tbl := List.mem_of_getElem? (i := 290) (by decide +kernel)
set_option maxRecDepth 20000 in
theorem qC_Gr_begin : (Jvm.Cond.code ({ cls := "Threeboxes$Group", name := "begin", desc := "(I)V" } : Jvm.MethodName) prog_3_method_2_code (2 : Nat) (Option.none : Option Jvm.ClassFile.FieldType)) ∈ lw_tbl := List.mem_of_getElem? (i := 291) rfl
set_option maxRecDepth 20000 in
theorem qM_Tb_270 : (Jvm.Cond.methodLink "Threeboxes" (270 : Nat) ({ cls := "Threeboxes$Secret", name := "has", desc := "(I)Z" } : Jvm.MethodName)) ∈ lw_tbl := List.mem_of_getElem? (i := 292) (by decide +kernel)
set_option maxRecDepth 20000 in
theorem qI_Se_has : (Jvm.Cond.instanceMethod ({ cls := "Threeboxes$Secret", name := "has", desc := "(I)Z" } : Jvm.MethodName)) ∈ lw_tbl := List.mem_of_getElem? (i := 293) (by decide +kernel)
set_option maxRecDepth 20000 in
theorem qV_Se_Se_has : (Jvm.Cond.selects "Threeboxes$Secret" ({ cls := "Threeboxes$Secret", name := "has", desc := "(I)Z" } : Jvm.MethodName) ({ cls := "Threeboxes$Secret", name := "has", desc := "(I)Z" } : Jvm.MethodName)) ∈ lw_tbl := List.mem_of_getElem? (i := 294) (by decide +kernel)
set_option maxRecDepth 20000 in
theorem qC_Se_has : (Jvm.Cond.code ({ cls := "Threeboxes$Secret", name := "has", desc := "(I)Z" } : Jvm.MethodName) prog_6_method_4_code (2 : Nat) (Option.some Jvm.ClassFile.FieldType.boolean)) ∈ lw_tbl := List.mem_of_getElem? (i := 295) rfl
set_option maxRecDepth 20000 in
theorem qM_Se_38 : (Jvm.Cond.methodLink "Threeboxes$Secret" (38 : Nat) ({ cls := "Threeboxes$Secret", name := "epochOf", desc := "(I)I" } : Jvm.MethodName)) ∈ lw_tbl := List.mem_of_getElem? (i := 296) (by decide +kernel)
set_option maxRecDepth 20000 in
theorem qI_Se_epochOf : (Jvm.Cond.instanceMethod ({ cls := "Threeboxes$Secret", name := "epochOf", desc := "(I)I" } : Jvm.MethodName)) ∈ lw_tbl := List.mem_of_getElem? (i := 297) (by decide +kernel)
set_option maxRecDepth 20000 in
theorem qV_Se_Se_epochOf : (Jvm.Cond.selects "Threeboxes$Secret" ({ cls := "Threeboxes$Secret", name := "epochOf", desc := "(I)I" } : Jvm.MethodName) ({ cls := "Threeboxes$Secret", name := "epochOf", desc := "(I)I" } : Jvm.MethodName)) ∈ lw_tbl := List.mem_of_getElem? (i := 298) (by decide +kernel)
set_option maxRecDepth 20000 in
theorem qC_Se_epochOf : (Jvm.Cond.code ({ cls := "Threeboxes$Secret", name := "epochOf", desc := "(I)I" } : Jvm.MethodName) prog_6_method_3_code (2 : Nat) (Option.some Jvm.ClassFile.FieldType.int)) ∈ lw_tbl := List.mem_of_getElem? (i := 299) rfl
set_option maxRecDepth 20000 in
theorem qM_Tb_155 : (Jvm.Cond.methodLink "Threeboxes" (155 : Nat) ({ cls := "Threeboxes$Secret", name := "shareOf", desc := "(I)I" } : Jvm.MethodName)) ∈ lw_tbl := List.mem_of_getElem? (i := 300) (by decide +kernel)
set_option maxRecDepth 20000 in
theorem qI_Se_shareOf : (Jvm.Cond.instanceMethod ({ cls := "Threeboxes$Secret", name := "shareOf", desc := "(I)I" } : Jvm.MethodName)) ∈ lw_tbl := List.mem_of_getElem? (i := 301) (by decide +kernel)
set_option maxRecDepth 20000 in
theorem qV_Se_Se_shareOf : (Jvm.Cond.selects "Threeboxes$Secret" ({ cls := "Threeboxes$Secret", name := "shareOf", desc := "(I)I" } : Jvm.MethodName) ({ cls := "Threeboxes$Secret", name := "shareOf", desc := "(I)I" } : Jvm.MethodName)) ∈ lw_tbl := List.mem_of_getElem? (i := 302) (by decide +kernel)
set_option maxRecDepth 20000 in
theorem qC_Se_shareOf : (Jvm.Cond.code ({ cls := "Threeboxes$Secret", name := "shareOf", desc := "(I)I" } : Jvm.MethodName) prog_6_method_2_code (2 : Nat) (Option.some Jvm.ClassFile.FieldType.int)) ∈ lw_tbl := List.mem_of_getElem? (i := 303) rfl
set_option maxRecDepth 20000 in
theorem qM_Tb_395 : (Jvm.Cond.methodLink "Threeboxes" (395 : Nat) ({ cls := "Threeboxes$Secret", name := "epochOf", desc := "(I)I" } : Jvm.MethodName)) ∈ lw_tbl := List.mem_of_getElem? (i := 304) (by decide +kernel)
set_option maxRecDepth 20000 in
theorem qM_Tb_179 : (Jvm.Cond.methodLink "Threeboxes" (179 : Nat) ({ cls := "Threeboxes$Secret", name := "isCurrent", desc := "(I)Z" } : Jvm.MethodName)) ∈ lw_tbl := List.mem_of_getElem? (i := 305) (by decide +kernel)
set_option maxRecDepth 20000 in
theorem qI_Se_isCurrent : (Jvm.Cond.instanceMethod ({ cls := "Threeboxes$Secret", name := "isCurrent", desc := "(I)Z" } : Jvm.MethodName)) ∈ lw_tbl := List.mem_of_getElem? (i := 306) (by decide +kernel)
set_option maxRecDepth 20000 in
theorem qV_Se_Se_isCurrent : (Jvm.Cond.selects "Threeboxes$Secret" ({ cls := "Threeboxes$Secret", name := "isCurrent", desc := "(I)Z" } : Jvm.MethodName) ({ cls := "Threeboxes$Secret", name := "isCurrent", desc := "(I)Z" } : Jvm.MethodName)) ∈ lw_tbl := List.mem_of_getElem? (i := 307) (by decide +kernel)
set_option maxRecDepth 20000 in
theorem qC_Se_isCurrent : (Jvm.Cond.code ({ cls := "Threeboxes$Secret", name := "isCurrent", desc := "(I)Z" } : Jvm.MethodName) prog_6_method_5_code (2 : Nat) (Option.some Jvm.ClassFile.FieldType.boolean)) ∈ lw_tbl := List.mem_of_getElem? (i := 308) rfl
set_option maxRecDepth 20000 in
theorem qM_Se_42 : (Jvm.Cond.methodLink "Threeboxes$Secret" (42 : Nat) ({ cls := "Threeboxes$Secret", name := "has", desc := "(I)Z" } : Jvm.MethodName)) ∈ lw_tbl := List.mem_of_getElem? (i := 309) (by decide +kernel)
set_option maxRecDepth 20000 in
theorem qM_Tb_128 : (Jvm.Cond.methodLink "Threeboxes" (128 : Nat) ({ cls := "Threeboxes", name := "pointOf", desc := "(I)I" } : Jvm.MethodName)) ∈ lw_tbl := List.mem_of_getElem? (i := 310) (by decide +kernel)
set_option maxRecDepth 20000 in
theorem qS_Tb_pointOf : (Jvm.Cond.static ({ cls := "Threeboxes", name := "pointOf", desc := "(I)I" } : Jvm.MethodName)) ∈ lw_tbl := List.mem_of_getElem? (i := 311) (by decide +kernel)
set_option maxRecDepth 20000 in
theorem qC_Tb_pointOf : (Jvm.Cond.code ({ cls := "Threeboxes", name := "pointOf", desc := "(I)I" } : Jvm.MethodName) prog_1_method_30_code (1 : Nat) (Option.some Jvm.ClassFile.FieldType.int)) ∈ lw_tbl := List.mem_of_getElem? (i := 312) rfl
set_option maxRecDepth 20000 in
theorem qM_Tb_288 : (Jvm.Cond.methodLink "Threeboxes" (288 : Nat) ({ cls := "Threeboxes$Group", name := "give", desc := "(II)V" } : Jvm.MethodName)) ∈ lw_tbl := List.mem_of_getElem? (i := 313) (by decide +kernel)
set_option maxRecDepth 20000 in
theorem qI_Gr_give : (Jvm.Cond.instanceMethod ({ cls := "Threeboxes$Group", name := "give", desc := "(II)V" } : Jvm.MethodName)) ∈ lw_tbl := List.mem_of_getElem? (i := 314) (by decide +kernel)
set_option maxRecDepth 20000 in
theorem qV_Gr_Gr_give : (Jvm.Cond.selects "Threeboxes$Group" ({ cls := "Threeboxes$Group", name := "give", desc := "(II)V" } : Jvm.MethodName) ({ cls := "Threeboxes$Group", name := "give", desc := "(II)V" } : Jvm.MethodName)) ∈ lw_tbl := List.mem_of_getElem? (i := 315) (by decide +kernel)
set_option maxRecDepth 20000 in
theorem qC_Gr_give : (Jvm.Cond.code ({ cls := "Threeboxes$Group", name := "give", desc := "(II)V" } : Jvm.MethodName) prog_3_method_3_code (3 : Nat) (Option.none : Option Jvm.ClassFile.FieldType)) ∈ lw_tbl := List.mem_of_getElem? (i := 316) rfl
set_option maxRecDepth 20000 in
theorem qM_Gr_31 : (Jvm.Cond.methodLink "Threeboxes$Group" (31 : Nat) ({ cls := "java/lang/Math", name := "floorMod", desc := "(II)I" } : Jvm.MethodName)) ∈ lw_tbl := List.mem_of_getElem? (i := 317) (by decide +kernel)
set_option maxRecDepth 20000 in
theorem qS_Ma_floorMod : (Jvm.Cond.static ({ cls := "java/lang/Math", name := "floorMod", desc := "(II)I" } : Jvm.MethodName)) ∈ lw_tbl := List.mem_of_getElem? (i := 318) (by decide +kernel)
set_option maxRecDepth 20000 in
theorem qC_Ma_floorMod : (Jvm.Cond.code ({ cls := "java/lang/Math", name := "floorMod", desc := "(II)I" } : Jvm.MethodName) prog_24_method_50_code (3 : Nat) (Option.some Jvm.ClassFile.FieldType.int)) ∈ lw_tbl := List.mem_of_getElem? (i := 319) rfl
set_option maxRecDepth 20000 in
theorem qM_Tb_291 : (Jvm.Cond.methodLink "Threeboxes" (291 : Nat) ({ cls := "Threeboxes$Group", name := "isOnOneCurve", desc := "()Z" } : Jvm.MethodName)) ∈ lw_tbl := List.mem_of_getElem? (i := 320) (by decide +kernel)
set_option maxRecDepth 20000 in
theorem qI_Gr_isOnOneCurve : (Jvm.Cond.instanceMethod ({ cls := "Threeboxes$Group", name := "isOnOneCurve", desc := "()Z" } : Jvm.MethodName)) ∈ lw_tbl := List.mem_of_getElem? (i := 321) (by decide +kernel)
set_option maxRecDepth 20000 in
theorem qV_Gr_Gr_isOnOneCurve : (Jvm.Cond.selects "Threeboxes$Group" ({ cls := "Threeboxes$Group", name := "isOnOneCurve", desc := "()Z" } : Jvm.MethodName) ({ cls := "Threeboxes$Group", name := "isOnOneCurve", desc := "()Z" } : Jvm.MethodName)) ∈ lw_tbl := List.mem_of_getElem? (i := 322) (by decide +kernel)
set_option maxRecDepth 20000 in
theorem qC_Gr_isOnOneCurve : (Jvm.Cond.code ({ cls := "Threeboxes$Group", name := "isOnOneCurve", desc := "()Z" } : Jvm.MethodName) prog_3_method_5_code (3 : Nat) (Option.some Jvm.ClassFile.FieldType.boolean)) ∈ lw_tbl := List.mem_of_getElem? (i := 323) rfl
set_option maxRecDepth 20000 in
theorem qMn_Gr_50 : (Jvm.Cond.methodLinkNest "Threeboxes$Group" (50 : Nat) ({ cls := "Threeboxes", name := "isIn", desc := "(II)Z" } : Jvm.MethodName) "Threeboxes") ∈ lw_tbl := List.mem_of_getElem? (i := 324) (by decide +kernel)
set_option maxRecDepth 20000 in
theorem qS_Tb_isIn : (Jvm.Cond.static ({ cls := "Threeboxes", name := "isIn", desc := "(II)Z" } : Jvm.MethodName)) ∈ lw_tbl := List.mem_of_getElem? (i := 325) (by decide +kernel)
set_option maxRecDepth 20000 in
theorem qC_Tb_isIn : (Jvm.Cond.code ({ cls := "Threeboxes", name := "isIn", desc := "(II)Z" } : Jvm.MethodName) prog_1_method_29_code (2 : Nat) (Option.some Jvm.ClassFile.FieldType.boolean)) ∈ lw_tbl := List.mem_of_getElem? (i := 326) rfl
set_option maxRecDepth 20000 in
theorem qM_Gr_37 : (Jvm.Cond.methodLink "Threeboxes$Group" (37 : Nat) ({ cls := "java/lang/Integer", name := "bitCount", desc := "(I)I" } : Jvm.MethodName)) ∈ lw_tbl := List.mem_of_getElem? (i := 327) (by decide +kernel)
set_option maxRecDepth 20000 in
theorem qS_In_bitCount : (Jvm.Cond.static ({ cls := "java/lang/Integer", name := "bitCount", desc := "(I)I" } : Jvm.MethodName)) ∈ lw_tbl := List.mem_of_getElem? (i := 328) (by decide +kernel)
set_option maxRecDepth 20000 in
theorem qC_In_bitCount : (Jvm.Cond.code ({ cls := "java/lang/Integer", name := "bitCount", desc := "(I)I" } : Jvm.MethodName) prog_22_method_49_code (1 : Nat) (Option.some Jvm.ClassFile.FieldType.int)) ∈ lw_tbl := List.mem_of_getElem? (i := 329) rfl
set_option maxRecDepth 20000 in
theorem qX_In_265 : (Jvm.Cond.constant "java/lang/Integer" (265 : Nat) (1431655765 : Int32)) ∈ lw_tbl := List.mem_of_getElem? (i := 330) (by decide +kernel)
set_option maxRecDepth 20000 in
theorem qX_In_266 : (Jvm.Cond.constant "java/lang/Integer" (266 : Nat) (858993459 : Int32)) ∈ lw_tbl := List.mem_of_getElem? (i := 331) (by decide +kernel)
set_option maxRecDepth 20000 in
theorem qX_In_267 : (Jvm.Cond.constant "java/lang/Integer" (267 : Nat) (252645135 : Int32)) ∈ lw_tbl := List.mem_of_getElem? (i := 332) (by decide +kernel)
set_option maxRecDepth 20000 in
theorem qM_Gr_43 : (Jvm.Cond.methodLink "Threeboxes$Group" (43 : Nat) ({ cls := "Threeboxes$Group", name := "agreeingWith", desc := "(I)I" } : Jvm.MethodName)) ∈ lw_tbl := List.mem_of_getElem? (i := 333) (by decide +kernel)
set_option maxRecDepth 20000 in
theorem qI_Gr_agreeingWith : (Jvm.Cond.instanceMethod ({ cls := "Threeboxes$Group", name := "agreeingWith", desc := "(I)I" } : Jvm.MethodName)) ∈ lw_tbl := List.mem_of_getElem? (i := 335) (by decide +kernel)
set_option maxRecDepth 20000 in
theorem qC_Gr_agreeingWith : (Jvm.Cond.code ({ cls := "Threeboxes$Group", name := "agreeingWith", desc := "(I)I" } : Jvm.MethodName) prog_3_method_12_code (4 : Nat) (Option.some Jvm.ClassFile.FieldType.int)) ∈ lw_tbl := List.mem_of_getElem? (i := 336) rfl
set_option maxRecDepth 20000 in
theorem qM_Gr_57 : (Jvm.Cond.methodLink "Threeboxes$Group" (57 : Nat) ({ cls := "Threeboxes$Group", name := "through", desc := "(II)I" } : Jvm.MethodName)) ∈ lw_tbl := List.mem_of_getElem? (i := 337) (by decide +kernel)
set_option maxRecDepth 20000 in
theorem qI_Gr_through : (Jvm.Cond.instanceMethod ({ cls := "Threeboxes$Group", name := "through", desc := "(II)I" } : Jvm.MethodName)) ∈ lw_tbl := List.mem_of_getElem? (i := 339) (by decide +kernel)
set_option maxRecDepth 20000 in
theorem qC_Gr_through : (Jvm.Cond.code ({ cls := "Threeboxes$Group", name := "through", desc := "(II)I" } : Jvm.MethodName) prog_3_method_13_code (7 : Nat) (Option.some Jvm.ClassFile.FieldType.int)) ∈ lw_tbl := List.mem_of_getElem? (i := 340) rfl
set_option maxRecDepth 20000 in
theorem qM_Tb_311 : (Jvm.Cond.methodLink "Threeboxes" (311 : Nat) ({ cls := "Threeboxes$Register", name := "isWhole", desc := "()Z" } : Jvm.MethodName)) ∈ lw_tbl := List.mem_of_getElem? (i := 341) (by decide +kernel)
set_option maxRecDepth 20000 in
theorem qI_Re_isWhole : (Jvm.Cond.instanceMethod ({ cls := "Threeboxes$Register", name := "isWhole", desc := "()Z" } : Jvm.MethodName)) ∈ lw_tbl := List.mem_of_getElem? (i := 342) (by decide +kernel)
set_option maxRecDepth 20000 in
theorem qV_Re_Re_isWhole : (Jvm.Cond.selects "Threeboxes$Register" ({ cls := "Threeboxes$Register", name := "isWhole", desc := "()Z" } : Jvm.MethodName) ({ cls := "Threeboxes$Register", name := "isWhole", desc := "()Z" } : Jvm.MethodName)) ∈ lw_tbl := List.mem_of_getElem? (i := 343) (by decide +kernel)
set_option maxRecDepth 20000 in
theorem qC_Re_isWhole : (Jvm.Cond.code ({ cls := "Threeboxes$Register", name := "isWhole", desc := "()Z" } : Jvm.MethodName) prog_5_method_13_code (2 : Nat) (Option.some Jvm.ClassFile.FieldType.boolean)) ∈ lw_tbl := List.mem_of_getElem? (i := 344) rfl
set_option maxRecDepth 20000 in
theorem qM_Re_32 : (Jvm.Cond.methodLink "Threeboxes$Register" (32 : Nat) ({ cls := "Threeboxes$Register", name := "leafOf", desc := "(I)I" } : Jvm.MethodName)) ∈ lw_tbl := List.mem_of_getElem? (i := 345) (by decide +kernel)
set_option maxRecDepth 20000 in
theorem qI_Re_leafOf : (Jvm.Cond.instanceMethod ({ cls := "Threeboxes$Register", name := "leafOf", desc := "(I)I" } : Jvm.MethodName)) ∈ lw_tbl := List.mem_of_getElem? (i := 346) (by decide +kernel)
set_option maxRecDepth 20000 in
theorem qV_Re_Re_leafOf : (Jvm.Cond.selects "Threeboxes$Register" ({ cls := "Threeboxes$Register", name := "leafOf", desc := "(I)I" } : Jvm.MethodName) ({ cls := "Threeboxes$Register", name := "leafOf", desc := "(I)I" } : Jvm.MethodName)) ∈ lw_tbl := List.mem_of_getElem? (i := 347) (by decide +kernel)
set_option maxRecDepth 20000 in
theorem qC_Re_leafOf : (Jvm.Cond.code ({ cls := "Threeboxes$Register", name := "leafOf", desc := "(I)I" } : Jvm.MethodName) prog_5_method_9_code (2 : Nat) (Option.some Jvm.ClassFile.FieldType.int)) ∈ lw_tbl := List.mem_of_getElem? (i := 348) rfl
set_option maxRecDepth 20000 in
theorem qM_Re_58 : (Jvm.Cond.methodLink "Threeboxes$Register" (58 : Nat) ({ cls := "Threeboxes$Register", name := "comesToRoot", desc := "(II)Z" } : Jvm.MethodName)) ∈ lw_tbl := List.mem_of_getElem? (i := 349) (by decide +kernel)
set_option maxRecDepth 20000 in
theorem qI_Re_comesToRoot : (Jvm.Cond.instanceMethod ({ cls := "Threeboxes$Register", name := "comesToRoot", desc := "(II)Z" } : Jvm.MethodName)) ∈ lw_tbl := List.mem_of_getElem? (i := 350) (by decide +kernel)
set_option maxRecDepth 20000 in
theorem qV_Re_Re_comesToRoot : (Jvm.Cond.selects "Threeboxes$Register" ({ cls := "Threeboxes$Register", name := "comesToRoot", desc := "(II)Z" } : Jvm.MethodName) ({ cls := "Threeboxes$Register", name := "comesToRoot", desc := "(II)Z" } : Jvm.MethodName)) ∈ lw_tbl := List.mem_of_getElem? (i := 351) (by decide +kernel)
set_option maxRecDepth 20000 in
theorem qC_Re_comesToRoot : (Jvm.Cond.code ({ cls := "Threeboxes$Register", name := "comesToRoot", desc := "(II)Z" } : Jvm.MethodName) prog_5_method_12_code (6 : Nat) (Option.some Jvm.ClassFile.FieldType.boolean)) ∈ lw_tbl := List.mem_of_getElem? (i := 352) rfl
set_option maxRecDepth 20000 in
theorem qM_Re_47 : (Jvm.Cond.methodLink "Threeboxes$Register" (47 : Nat) ({ cls := "Threeboxes$Register", name := "beside", desc := "(II)I" } : Jvm.MethodName)) ∈ lw_tbl := List.mem_of_getElem? (i := 353) (by decide +kernel)
set_option maxRecDepth 20000 in
theorem qI_Re_beside : (Jvm.Cond.instanceMethod ({ cls := "Threeboxes$Register", name := "beside", desc := "(II)I" } : Jvm.MethodName)) ∈ lw_tbl := List.mem_of_getElem? (i := 354) (by decide +kernel)
set_option maxRecDepth 20000 in
theorem qV_Re_Re_beside : (Jvm.Cond.selects "Threeboxes$Register" ({ cls := "Threeboxes$Register", name := "beside", desc := "(II)I" } : Jvm.MethodName) ({ cls := "Threeboxes$Register", name := "beside", desc := "(II)I" } : Jvm.MethodName)) ∈ lw_tbl := List.mem_of_getElem? (i := 355) (by decide +kernel)
set_option maxRecDepth 20000 in
theorem qC_Re_beside : (Jvm.Cond.code ({ cls := "Threeboxes$Register", name := "beside", desc := "(II)I" } : Jvm.MethodName) prog_5_method_11_code (3 : Nat) (Option.some Jvm.ClassFile.FieldType.int)) ∈ lw_tbl := List.mem_of_getElem? (i := 356) rfl
set_option maxRecDepth 20000 in
theorem qMn_Re_50 : (Jvm.Cond.methodLinkNest "Threeboxes$Register" (50 : Nat) ({ cls := "Threeboxes", name := "isIn", desc := "(II)Z" } : Jvm.MethodName) "Threeboxes") ∈ lw_tbl := List.mem_of_getElem? (i := 357) (by decide +kernel)
set_option maxRecDepth 20000 in
theorem qM_Re_54 : (Jvm.Cond.methodLink "Threeboxes$Register" (54 : Nat) ({ cls := "Threeboxes$Register", name := "root", desc := "()I" } : Jvm.MethodName)) ∈ lw_tbl := List.mem_of_getElem? (i := 358) (by decide +kernel)
set_option maxRecDepth 20000 in
theorem qI_Re_root : (Jvm.Cond.instanceMethod ({ cls := "Threeboxes$Register", name := "root", desc := "()I" } : Jvm.MethodName)) ∈ lw_tbl := List.mem_of_getElem? (i := 359) (by decide +kernel)
set_option maxRecDepth 20000 in
theorem qV_Re_Re_root : (Jvm.Cond.selects "Threeboxes$Register" ({ cls := "Threeboxes$Register", name := "root", desc := "()I" } : Jvm.MethodName) ({ cls := "Threeboxes$Register", name := "root", desc := "()I" } : Jvm.MethodName)) ∈ lw_tbl := List.mem_of_getElem? (i := 360) (by decide +kernel)
set_option maxRecDepth 20000 in
theorem qC_Re_root : (Jvm.Cond.code ({ cls := "Threeboxes$Register", name := "root", desc := "()I" } : Jvm.MethodName) prog_5_method_8_code (1 : Nat) (Option.some Jvm.ClassFile.FieldType.int)) ∈ lw_tbl := List.mem_of_getElem? (i := 361) rfl
set_option maxRecDepth 20000 in
theorem qM_La_189 : (Jvm.Cond.methodLink "ThreeboxesLaw" (189 : Nat) ({ cls := "Threeboxes", name := "digest", desc := "()J" } : Jvm.MethodName)) ∈ lw_tbl := List.mem_of_getElem? (i := 362) (by decide +kernel)
set_option maxRecDepth 20000 in
theorem qI_Tb_digest : (Jvm.Cond.instanceMethod ({ cls := "Threeboxes", name := "digest", desc := "()J" } : Jvm.MethodName)) ∈ lw_tbl := List.mem_of_getElem? (i := 363) (by decide +kernel)
set_option maxRecDepth 20000 in
theorem qV_Tb_Tb_digest : (Jvm.Cond.selects "Threeboxes" ({ cls := "Threeboxes", name := "digest", desc := "()J" } : Jvm.MethodName) ({ cls := "Threeboxes", name := "digest", desc := "()J" } : Jvm.MethodName)) ∈ lw_tbl := List.mem_of_getElem? (i := 364) (by decide +kernel)
set_option maxRecDepth 20000 in
theorem qC_Tb_digest : (Jvm.Cond.code ({ cls := "Threeboxes", name := "digest", desc := "()J" } : Jvm.MethodName) prog_1_method_25_code (5 : Nat) (Option.some Jvm.ClassFile.FieldType.long)) ∈ lw_tbl := List.mem_of_getElem? (i := 365) rfl
set_option maxRecDepth 20000 in
theorem qXl_Tb_314 : (Jvm.Cond.constantLong "Threeboxes" (314 : Nat) (7507 : Int64)) ∈ lw_tbl := List.mem_of_getElem? (i := 366) (by decide +kernel)
set_option maxRecDepth 20000 in
theorem qXl_Tb_316 : (Jvm.Cond.constantLong "Threeboxes" (316 : Nat) (31 : Int64)) ∈ lw_tbl := List.mem_of_getElem? (i := 367) (by decide +kernel)
set_option maxRecDepth 20000 in
theorem qM_Tb_250 : (Jvm.Cond.methodLink "Threeboxes" (250 : Nat) ({ cls := "Threeboxes", name := "tellOfBank", desc := "(I)I" } : Jvm.MethodName)) ∈ lw_tbl := List.mem_of_getElem? (i := 368) (by decide +kernel)
set_option maxRecDepth 20000 in
theorem qI_Tb_tellOfBank : (Jvm.Cond.instanceMethod ({ cls := "Threeboxes", name := "tellOfBank", desc := "(I)I" } : Jvm.MethodName)) ∈ lw_tbl := List.mem_of_getElem? (i := 370) (by decide +kernel)
set_option maxRecDepth 20000 in
theorem qC_Tb_tellOfBank : (Jvm.Cond.code ({ cls := "Threeboxes", name := "tellOfBank", desc := "(I)I" } : Jvm.MethodName) prog_1_method_58_code (2 : Nat) (Option.some Jvm.ClassFile.FieldType.int)) ∈ lw_tbl := List.mem_of_getElem? (i := 371) rfl
set_option maxRecDepth 20000 in
theorem qM_Tb_322 : (Jvm.Cond.methodLink "Threeboxes" (322 : Nat) ({ cls := "Threeboxes$Register", name := "size", desc := "()I" } : Jvm.MethodName)) ∈ lw_tbl := List.mem_of_getElem? (i := 372) (by decide +kernel)
set_option maxRecDepth 20000 in
theorem qI_Re_size : (Jvm.Cond.instanceMethod ({ cls := "Threeboxes$Register", name := "size", desc := "()I" } : Jvm.MethodName)) ∈ lw_tbl := List.mem_of_getElem? (i := 373) (by decide +kernel)
set_option maxRecDepth 20000 in
theorem qV_Re_Re_size : (Jvm.Cond.selects "Threeboxes$Register" ({ cls := "Threeboxes$Register", name := "size", desc := "()I" } : Jvm.MethodName) ({ cls := "Threeboxes$Register", name := "size", desc := "()I" } : Jvm.MethodName)) ∈ lw_tbl := List.mem_of_getElem? (i := 374) (by decide +kernel)
set_option maxRecDepth 20000 in
theorem qC_Re_size : (Jvm.Cond.code ({ cls := "Threeboxes$Register", name := "size", desc := "()I" } : Jvm.MethodName) prog_5_method_3_code (1 : Nat) (Option.some Jvm.ClassFile.FieldType.int)) ∈ lw_tbl := List.mem_of_getElem? (i := 375) rfl
set_option maxRecDepth 20000 in
theorem qM_Tb_401 : (Jvm.Cond.methodLink "Threeboxes" (401 : Nat) ({ cls := "Threeboxes$Register", name := "root", desc := "()I" } : Jvm.MethodName)) ∈ lw_tbl := List.mem_of_getElem? (i := 376) (by decide +kernel)
set_option maxRecDepth 20000 in
theorem qM_Tb_404 : (Jvm.Cond.methodLink "Threeboxes" (404 : Nat) ({ cls := "Threeboxes", name := "notedKeepers", desc := "()I" } : Jvm.MethodName)) ∈ lw_tbl := List.mem_of_getElem? (i := 377) (by decide +kernel)
set_option maxRecDepth 20000 in
theorem qI_Tb_notedKeepers : (Jvm.Cond.instanceMethod ({ cls := "Threeboxes", name := "notedKeepers", desc := "()I" } : Jvm.MethodName)) ∈ lw_tbl := List.mem_of_getElem? (i := 379) (by decide +kernel)
set_option maxRecDepth 20000 in
theorem qC_Tb_notedKeepers : (Jvm.Cond.code ({ cls := "Threeboxes", name := "notedKeepers", desc := "()I" } : Jvm.MethodName) prog_1_method_42_code (3 : Nat) (Option.some Jvm.ClassFile.FieldType.int)) ∈ lw_tbl := List.mem_of_getElem? (i := 380) rfl
set_option maxRecDepth 20000 in
theorem qM_Tb_407 : (Jvm.Cond.methodLink "Threeboxes" (407 : Nat) ({ cls := "Threeboxes", name := "currentShares", desc := "()I" } : Jvm.MethodName)) ∈ lw_tbl := List.mem_of_getElem? (i := 381) (by decide +kernel)
set_option maxRecDepth 20000 in
theorem qI_Tb_currentShares : (Jvm.Cond.instanceMethod ({ cls := "Threeboxes", name := "currentShares", desc := "()I" } : Jvm.MethodName)) ∈ lw_tbl := List.mem_of_getElem? (i := 383) (by decide +kernel)
set_option maxRecDepth 20000 in
theorem qC_Tb_currentShares : (Jvm.Cond.code ({ cls := "Threeboxes", name := "currentShares", desc := "()I" } : Jvm.MethodName) prog_1_method_39_code (3 : Nat) (Option.some Jvm.ClassFile.FieldType.int)) ∈ lw_tbl := List.mem_of_getElem? (i := 384) rfl
set_option maxRecDepth 20000 in
theorem qM_Tb_144 : (Jvm.Cond.methodLink "Threeboxes" (144 : Nat) ({ cls := "Threeboxes$Secret", name := "currentSet", desc := "()I" } : Jvm.MethodName)) ∈ lw_tbl := List.mem_of_getElem? (i := 385) (by decide +kernel)
set_option maxRecDepth 20000 in
theorem qI_Se_currentSet : (Jvm.Cond.instanceMethod ({ cls := "Threeboxes$Secret", name := "currentSet", desc := "()I" } : Jvm.MethodName)) ∈ lw_tbl := List.mem_of_getElem? (i := 386) (by decide +kernel)
set_option maxRecDepth 20000 in
theorem qV_Se_Se_currentSet : (Jvm.Cond.selects "Threeboxes$Secret" ({ cls := "Threeboxes$Secret", name := "currentSet", desc := "()I" } : Jvm.MethodName) ({ cls := "Threeboxes$Secret", name := "currentSet", desc := "()I" } : Jvm.MethodName)) ∈ lw_tbl := List.mem_of_getElem? (i := 387) (by decide +kernel)
set_option maxRecDepth 20000 in
theorem qC_Se_currentSet : (Jvm.Cond.code ({ cls := "Threeboxes$Secret", name := "currentSet", desc := "()I" } : Jvm.MethodName) prog_6_method_10_code (3 : Nat) (Option.some Jvm.ClassFile.FieldType.int)) ∈ lw_tbl := List.mem_of_getElem? (i := 388) rfl
set_option maxRecDepth 20000 in
theorem qM_Se_50 : (Jvm.Cond.methodLink "Threeboxes$Secret" (50 : Nat) ({ cls := "Threeboxes$Secret", name := "isCurrent", desc := "(I)Z" } : Jvm.MethodName)) ∈ lw_tbl := List.mem_of_getElem? (i := 389) (by decide +kernel)
set_option maxRecDepth 20000 in
theorem qM_Tb_105 : (Jvm.Cond.methodLink "Threeboxes" (105 : Nat) ({ cls := "java/lang/Integer", name := "bitCount", desc := "(I)I" } : Jvm.MethodName)) ∈ lw_tbl := List.mem_of_getElem? (i := 390) (by decide +kernel)
set_option maxRecDepth 20000 in
theorem qM_Tb_410 : (Jvm.Cond.methodLink "Threeboxes" (410 : Nat) ({ cls := "Threeboxes", name := "staleShares", desc := "()I" } : Jvm.MethodName)) ∈ lw_tbl := List.mem_of_getElem? (i := 391) (by decide +kernel)
set_option maxRecDepth 20000 in
theorem qI_Tb_staleShares : (Jvm.Cond.instanceMethod ({ cls := "Threeboxes", name := "staleShares", desc := "()I" } : Jvm.MethodName)) ∈ lw_tbl := List.mem_of_getElem? (i := 393) (by decide +kernel)
set_option maxRecDepth 20000 in
theorem qC_Tb_staleShares : (Jvm.Cond.code ({ cls := "Threeboxes", name := "staleShares", desc := "()I" } : Jvm.MethodName) prog_1_method_40_code (3 : Nat) (Option.some Jvm.ClassFile.FieldType.int)) ∈ lw_tbl := List.mem_of_getElem? (i := 394) rfl
set_option maxRecDepth 20000 in
theorem qM_Tb_158 : (Jvm.Cond.methodLink "Threeboxes" (158 : Nat) ({ cls := "Threeboxes$Secret", name := "staleSet", desc := "()I" } : Jvm.MethodName)) ∈ lw_tbl := List.mem_of_getElem? (i := 395) (by decide +kernel)
set_option maxRecDepth 20000 in
theorem qI_Se_staleSet : (Jvm.Cond.instanceMethod ({ cls := "Threeboxes$Secret", name := "staleSet", desc := "()I" } : Jvm.MethodName)) ∈ lw_tbl := List.mem_of_getElem? (i := 396) (by decide +kernel)
set_option maxRecDepth 20000 in
theorem qV_Se_Se_staleSet : (Jvm.Cond.selects "Threeboxes$Secret" ({ cls := "Threeboxes$Secret", name := "staleSet", desc := "()I" } : Jvm.MethodName) ({ cls := "Threeboxes$Secret", name := "staleSet", desc := "()I" } : Jvm.MethodName)) ∈ lw_tbl := List.mem_of_getElem? (i := 397) (by decide +kernel)
set_option maxRecDepth 20000 in
theorem qC_Se_staleSet : (Jvm.Cond.code ({ cls := "Threeboxes$Secret", name := "staleSet", desc := "()I" } : Jvm.MethodName) prog_6_method_11_code (3 : Nat) (Option.some Jvm.ClassFile.FieldType.int)) ∈ lw_tbl := List.mem_of_getElem? (i := 398) rfl
set_option maxRecDepth 20000 in
theorem qM_Se_53 : (Jvm.Cond.methodLink "Threeboxes$Secret" (53 : Nat) ({ cls := "Threeboxes$Secret", name := "isStale", desc := "(I)Z" } : Jvm.MethodName)) ∈ lw_tbl := List.mem_of_getElem? (i := 399) (by decide +kernel)
set_option maxRecDepth 20000 in
theorem qI_Se_isStale : (Jvm.Cond.instanceMethod ({ cls := "Threeboxes$Secret", name := "isStale", desc := "(I)Z" } : Jvm.MethodName)) ∈ lw_tbl := List.mem_of_getElem? (i := 400) (by decide +kernel)
set_option maxRecDepth 20000 in
theorem qV_Se_Se_isStale : (Jvm.Cond.selects "Threeboxes$Secret" ({ cls := "Threeboxes$Secret", name := "isStale", desc := "(I)Z" } : Jvm.MethodName) ({ cls := "Threeboxes$Secret", name := "isStale", desc := "(I)Z" } : Jvm.MethodName)) ∈ lw_tbl := List.mem_of_getElem? (i := 401) (by decide +kernel)
set_option maxRecDepth 20000 in
theorem qC_Se_isStale : (Jvm.Cond.code ({ cls := "Threeboxes$Secret", name := "isStale", desc := "(I)Z" } : Jvm.MethodName) prog_6_method_6_code (2 : Nat) (Option.some Jvm.ClassFile.FieldType.boolean)) ∈ lw_tbl := List.mem_of_getElem? (i := 402) rfl
set_option maxRecDepth 20000 in
theorem qM_Tb_232 : (Jvm.Cond.methodLink "Threeboxes" (232 : Nat) ({ cls := "Threeboxes", name := "tellOfKeeper", desc := "(LThreeboxes$Keeper;I)I" } : Jvm.MethodName)) ∈ lw_tbl := List.mem_of_getElem? (i := 403) (by decide +kernel)
set_option maxRecDepth 20000 in
theorem qI_Tb_tellOfKeeper : (Jvm.Cond.instanceMethod ({ cls := "Threeboxes", name := "tellOfKeeper", desc := "(LThreeboxes$Keeper;I)I" } : Jvm.MethodName)) ∈ lw_tbl := List.mem_of_getElem? (i := 405) (by decide +kernel)
set_option maxRecDepth 20000 in
theorem qC_Tb_tellOfKeeper : (Jvm.Cond.code ({ cls := "Threeboxes", name := "tellOfKeeper", desc := "(LThreeboxes$Keeper;I)I" } : Jvm.MethodName) prog_1_method_54_code (3 : Nat) (Option.some Jvm.ClassFile.FieldType.int)) ∈ lw_tbl := List.mem_of_getElem? (i := 406) rfl
set_option maxRecDepth 20000 in
theorem qM_Tb_173 : (Jvm.Cond.methodLink "Threeboxes" (173 : Nat) ({ cls := "Threeboxes", name := "sharesOf", desc := "(I)I" } : Jvm.MethodName)) ∈ lw_tbl := List.mem_of_getElem? (i := 407) (by decide +kernel)
set_option maxRecDepth 20000 in
theorem qI_Tb_sharesOf : (Jvm.Cond.instanceMethod ({ cls := "Threeboxes", name := "sharesOf", desc := "(I)I" } : Jvm.MethodName)) ∈ lw_tbl := List.mem_of_getElem? (i := 409) (by decide +kernel)
set_option maxRecDepth 20000 in
theorem qC_Tb_sharesOf : (Jvm.Cond.code ({ cls := "Threeboxes", name := "sharesOf", desc := "(I)I" } : Jvm.MethodName) prog_1_method_36_code (4 : Nat) (Option.some Jvm.ClassFile.FieldType.int)) ∈ lw_tbl := List.mem_of_getElem? (i := 410) rfl
set_option maxRecDepth 20000 in
theorem qM_Tb_386 : (Jvm.Cond.methodLink "Threeboxes" (386 : Nat) ({ cls := "Threeboxes", name := "staleSharesOf", desc := "(I)I" } : Jvm.MethodName)) ∈ lw_tbl := List.mem_of_getElem? (i := 411) (by decide +kernel)
set_option maxRecDepth 20000 in
theorem qI_Tb_staleSharesOf : (Jvm.Cond.instanceMethod ({ cls := "Threeboxes", name := "staleSharesOf", desc := "(I)I" } : Jvm.MethodName)) ∈ lw_tbl := List.mem_of_getElem? (i := 413) (by decide +kernel)
set_option maxRecDepth 20000 in
theorem qC_Tb_staleSharesOf : (Jvm.Cond.code ({ cls := "Threeboxes", name := "staleSharesOf", desc := "(I)I" } : Jvm.MethodName) prog_1_method_37_code (4 : Nat) (Option.some Jvm.ClassFile.FieldType.int)) ∈ lw_tbl := List.mem_of_getElem? (i := 414) rfl
set_option maxRecDepth 20000 in
theorem qM_Tb_342 : (Jvm.Cond.methodLink "Threeboxes" (342 : Nat) ({ cls := "Threeboxes$Secret", name := "isStale", desc := "(I)Z" } : Jvm.MethodName)) ∈ lw_tbl := List.mem_of_getElem? (i := 415) (by decide +kernel)
set_option maxRecDepth 20000 in
theorem qM_Tb_318 : (Jvm.Cond.methodLink "Threeboxes" (318 : Nat) ({ cls := "Threeboxes", name := "digestSecret", desc := "(JLThreeboxes$Secret;)J" } : Jvm.MethodName)) ∈ lw_tbl := List.mem_of_getElem? (i := 416) (by decide +kernel)
set_option maxRecDepth 20000 in
theorem qI_Tb_digestSecret : (Jvm.Cond.instanceMethod ({ cls := "Threeboxes", name := "digestSecret", desc := "(JLThreeboxes$Secret;)J" } : Jvm.MethodName)) ∈ lw_tbl := List.mem_of_getElem? (i := 418) (by decide +kernel)
set_option maxRecDepth 20000 in
theorem qC_Tb_digestSecret : (Jvm.Cond.code ({ cls := "Threeboxes", name := "digestSecret", desc := "(JLThreeboxes$Secret;)J" } : Jvm.MethodName) prog_1_method_26_code (8 : Nat) (Option.some Jvm.ClassFile.FieldType.long)) ∈ lw_tbl := List.mem_of_getElem? (i := 419) rfl
set_option maxRecDepth 20000 in
theorem qM_Tb_238 : (Jvm.Cond.methodLink "Threeboxes" (238 : Nat) ({ cls := "Threeboxes", name := "tellOfSecret", desc := "(LThreeboxes$Secret;I)I" } : Jvm.MethodName)) ∈ lw_tbl := List.mem_of_getElem? (i := 420) (by decide +kernel)
set_option maxRecDepth 20000 in
theorem qI_Tb_tellOfSecret : (Jvm.Cond.instanceMethod ({ cls := "Threeboxes", name := "tellOfSecret", desc := "(LThreeboxes$Secret;I)I" } : Jvm.MethodName)) ∈ lw_tbl := List.mem_of_getElem? (i := 422) (by decide +kernel)
set_option maxRecDepth 20000 in
theorem qC_Tb_tellOfSecret : (Jvm.Cond.code ({ cls := "Threeboxes", name := "tellOfSecret", desc := "(LThreeboxes$Secret;I)I" } : Jvm.MethodName) prog_1_method_55_code (3 : Nat) (Option.some Jvm.ClassFile.FieldType.int)) ∈ lw_tbl := List.mem_of_getElem? (i := 423) rfl
set_option maxRecDepth 20000 in
theorem qM_Tb_389 : (Jvm.Cond.methodLink "Threeboxes" (389 : Nat) ({ cls := "Threeboxes", name := "boughtFor", desc := "(LThreeboxes$Secret;)I" } : Jvm.MethodName)) ∈ lw_tbl := List.mem_of_getElem? (i := 424) (by decide +kernel)
set_option maxRecDepth 20000 in
theorem qI_Tb_boughtFor : (Jvm.Cond.instanceMethod ({ cls := "Threeboxes", name := "boughtFor", desc := "(LThreeboxes$Secret;)I" } : Jvm.MethodName)) ∈ lw_tbl := List.mem_of_getElem? (i := 426) (by decide +kernel)
set_option maxRecDepth 20000 in
theorem qC_Tb_boughtFor : (Jvm.Cond.code ({ cls := "Threeboxes", name := "boughtFor", desc := "(LThreeboxes$Secret;)I" } : Jvm.MethodName) prog_1_method_56_code (3 : Nat) (Option.some Jvm.ClassFile.FieldType.int)) ∈ lw_tbl := List.mem_of_getElem? (i := 427) rfl
set_option maxRecDepth 20000 in
theorem qM_Tb_392 : (Jvm.Cond.methodLink "Threeboxes" (392 : Nat) ({ cls := "Threeboxes", name := "boughtOf", desc := "(LThreeboxes$Secret;)I" } : Jvm.MethodName)) ∈ lw_tbl := List.mem_of_getElem? (i := 428) (by decide +kernel)
set_option maxRecDepth 20000 in
theorem qI_Tb_boughtOf : (Jvm.Cond.instanceMethod ({ cls := "Threeboxes", name := "boughtOf", desc := "(LThreeboxes$Secret;)I" } : Jvm.MethodName)) ∈ lw_tbl := List.mem_of_getElem? (i := 430) (by decide +kernel)
set_option maxRecDepth 20000 in
theorem qC_Tb_boughtOf : (Jvm.Cond.code ({ cls := "Threeboxes", name := "boughtOf", desc := "(LThreeboxes$Secret;)I" } : Jvm.MethodName) prog_1_method_49_code (6 : Nat) (Option.some Jvm.ClassFile.FieldType.int)) ∈ lw_tbl := List.mem_of_getElem? (i := 431) rfl
set_option maxRecDepth 20000 in
theorem qM_Tb_366 : (Jvm.Cond.methodLink "Threeboxes" (366 : Nat) ({ cls := "Threeboxes", name := "cheapestOf", desc := "(I)I" } : Jvm.MethodName)) ∈ lw_tbl := List.mem_of_getElem? (i := 432) (by decide +kernel)
set_option maxRecDepth 20000 in
theorem qI_Tb_cheapestOf : (Jvm.Cond.instanceMethod ({ cls := "Threeboxes", name := "cheapestOf", desc := "(I)I" } : Jvm.MethodName)) ∈ lw_tbl := List.mem_of_getElem? (i := 434) (by decide +kernel)
set_option maxRecDepth 20000 in
theorem qC_Tb_cheapestOf : (Jvm.Cond.code ({ cls := "Threeboxes", name := "cheapestOf", desc := "(I)I" } : Jvm.MethodName) prog_1_method_48_code (6 : Nat) (Option.some Jvm.ClassFile.FieldType.int)) ∈ lw_tbl := List.mem_of_getElem? (i := 435) rfl
set_option maxRecDepth 20000 in
theorem qM_Tb_124 : (Jvm.Cond.methodLink "Threeboxes" (124 : Nat) ({ cls := "Threeboxes", name := "isIn", desc := "(II)Z" } : Jvm.MethodName)) ∈ lw_tbl := List.mem_of_getElem? (i := 436) (by decide +kernel)
set_option maxRecDepth 20000 in
theorem qM_Tb_372 : (Jvm.Cond.methodLink "Threeboxes" (372 : Nat) ({ cls := "Threeboxes", name := "priceOf", desc := "(I)I" } : Jvm.MethodName)) ∈ lw_tbl := List.mem_of_getElem? (i := 437) (by decide +kernel)
set_option maxRecDepth 20000 in
theorem qI_Tb_priceOf : (Jvm.Cond.instanceMethod ({ cls := "Threeboxes", name := "priceOf", desc := "(I)I" } : Jvm.MethodName)) ∈ lw_tbl := List.mem_of_getElem? (i := 439) (by decide +kernel)
set_option maxRecDepth 20000 in
theorem qC_Tb_priceOf : (Jvm.Cond.code ({ cls := "Threeboxes", name := "priceOf", desc := "(I)I" } : Jvm.MethodName) prog_1_method_47_code (4 : Nat) (Option.some Jvm.ClassFile.FieldType.int)) ∈ lw_tbl := List.mem_of_getElem? (i := 440) rfl
set_option maxRecDepth 20000 in
theorem qM_Tb_244 : (Jvm.Cond.methodLink "Threeboxes" (244 : Nat) ({ cls := "Threeboxes", name := "tellOfShare", desc := "(LThreeboxes$Secret;LThreeboxes$Keeper;I)I" } : Jvm.MethodName)) ∈ lw_tbl := List.mem_of_getElem? (i := 441) (by decide +kernel)
set_option maxRecDepth 20000 in
theorem qI_Tb_tellOfShare : (Jvm.Cond.instanceMethod ({ cls := "Threeboxes", name := "tellOfShare", desc := "(LThreeboxes$Secret;LThreeboxes$Keeper;I)I" } : Jvm.MethodName)) ∈ lw_tbl := List.mem_of_getElem? (i := 443) (by decide +kernel)
set_option maxRecDepth 20000 in
theorem qC_Tb_tellOfShare : (Jvm.Cond.code ({ cls := "Threeboxes", name := "tellOfShare", desc := "(LThreeboxes$Secret;LThreeboxes$Keeper;I)I" } : Jvm.MethodName) prog_1_method_57_code (4 : Nat) (Option.some Jvm.ClassFile.FieldType.int)) ∈ lw_tbl := List.mem_of_getElem? (i := 444) rfl
set_option maxRecDepth 20000 in
theorem qM_Tb_329 : (Jvm.Cond.methodLink "Threeboxes" (329 : Nat) ({ cls := "Threeboxes", name := "allKeepers", desc := "()I" } : Jvm.MethodName)) ∈ lw_tbl := List.mem_of_getElem? (i := 445) (by decide +kernel)
set_option maxRecDepth 20000 in
theorem qI_Tb_allKeepers : (Jvm.Cond.instanceMethod ({ cls := "Threeboxes", name := "allKeepers", desc := "()I" } : Jvm.MethodName)) ∈ lw_tbl := List.mem_of_getElem? (i := 447) (by decide +kernel)
set_option maxRecDepth 20000 in
theorem qC_Tb_allKeepers : (Jvm.Cond.code ({ cls := "Threeboxes", name := "allKeepers", desc := "()I" } : Jvm.MethodName) prog_1_method_31_code (1 : Nat) (Option.some Jvm.ClassFile.FieldType.int)) ∈ lw_tbl := List.mem_of_getElem? (i := 448) rfl
set_option maxRecDepth 20000 in
theorem qM_Tb_184 : (Jvm.Cond.methodLink "Threeboxes" (184 : Nat) ({ cls := "Threeboxes", name := "gatherGroup", desc := "(LThreeboxes$Secret;I)V" } : Jvm.MethodName)) ∈ lw_tbl := List.mem_of_getElem? (i := 449) (by decide +kernel)
set_option maxRecDepth 20000 in
theorem qI_Tb_gatherGroup : (Jvm.Cond.instanceMethod ({ cls := "Threeboxes", name := "gatherGroup", desc := "(LThreeboxes$Secret;I)V" } : Jvm.MethodName)) ∈ lw_tbl := List.mem_of_getElem? (i := 451) (by decide +kernel)
set_option maxRecDepth 20000 in
theorem qC_Tb_gatherGroup : (Jvm.Cond.code ({ cls := "Threeboxes", name := "gatherGroup", desc := "(LThreeboxes$Secret;I)V" } : Jvm.MethodName) prog_1_method_44_code (4 : Nat) (Option.none : Option Jvm.ClassFile.FieldType)) ∈ lw_tbl := List.mem_of_getElem? (i := 452) rfl
set_option maxRecDepth 20000 in
theorem qM_Tb_188 : (Jvm.Cond.methodLink "Threeboxes" (188 : Nat) ({ cls := "Threeboxes$Group", name := "decode", desc := "()V" } : Jvm.MethodName)) ∈ lw_tbl := List.mem_of_getElem? (i := 453) (by decide +kernel)
set_option maxRecDepth 20000 in
theorem qI_Gr_decode : (Jvm.Cond.instanceMethod ({ cls := "Threeboxes$Group", name := "decode", desc := "()V" } : Jvm.MethodName)) ∈ lw_tbl := List.mem_of_getElem? (i := 454) (by decide +kernel)
set_option maxRecDepth 20000 in
theorem qV_Gr_Gr_decode : (Jvm.Cond.selects "Threeboxes$Group" ({ cls := "Threeboxes$Group", name := "decode", desc := "()V" } : Jvm.MethodName) ({ cls := "Threeboxes$Group", name := "decode", desc := "()V" } : Jvm.MethodName)) ∈ lw_tbl := List.mem_of_getElem? (i := 455) (by decide +kernel)
set_option maxRecDepth 20000 in
theorem qC_Gr_decode : (Jvm.Cond.code ({ cls := "Threeboxes$Group", name := "decode", desc := "()V" } : Jvm.MethodName) prog_3_method_4_code (3 : Nat) (Option.none : Option Jvm.ClassFile.FieldType)) ∈ lw_tbl := List.mem_of_getElem? (i := 456) rfl
set_option maxRecDepth 20000 in
theorem qM_Gr_46 : (Jvm.Cond.methodLink "Threeboxes$Group" (46 : Nat) ({ cls := "Threeboxes$Group", name := "agreed", desc := "()I" } : Jvm.MethodName)) ∈ lw_tbl := List.mem_of_getElem? (i := 457) (by decide +kernel)
set_option maxRecDepth 20000 in
theorem qI_Gr_agreed : (Jvm.Cond.instanceMethod ({ cls := "Threeboxes$Group", name := "agreed", desc := "()I" } : Jvm.MethodName)) ∈ lw_tbl := List.mem_of_getElem? (i := 458) (by decide +kernel)
set_option maxRecDepth 20000 in
theorem qV_Gr_Gr_agreed : (Jvm.Cond.selects "Threeboxes$Group" ({ cls := "Threeboxes$Group", name := "agreed", desc := "()I" } : Jvm.MethodName) ({ cls := "Threeboxes$Group", name := "agreed", desc := "()I" } : Jvm.MethodName)) ∈ lw_tbl := List.mem_of_getElem? (i := 459) (by decide +kernel)
set_option maxRecDepth 20000 in
theorem qC_Gr_agreed : (Jvm.Cond.code ({ cls := "Threeboxes$Group", name := "agreed", desc := "()I" } : Jvm.MethodName) prog_3_method_8_code (1 : Nat) (Option.some Jvm.ClassFile.FieldType.int)) ∈ lw_tbl := List.mem_of_getElem? (i := 460) rfl
set_option maxRecDepth 20000 in
theorem qM_Tb_283 : (Jvm.Cond.methodLink "Threeboxes" (283 : Nat) ({ cls := "Threeboxes", name := "tellOfGroup", desc := "(LThreeboxes$Secret;I)I" } : Jvm.MethodName)) ∈ lw_tbl := List.mem_of_getElem? (i := 461) (by decide +kernel)
set_option maxRecDepth 20000 in
theorem qI_Tb_tellOfGroup : (Jvm.Cond.instanceMethod ({ cls := "Threeboxes", name := "tellOfGroup", desc := "(LThreeboxes$Secret;I)I" } : Jvm.MethodName)) ∈ lw_tbl := List.mem_of_getElem? (i := 463) (by decide +kernel)
set_option maxRecDepth 20000 in
theorem qC_Tb_tellOfGroup : (Jvm.Cond.code ({ cls := "Threeboxes", name := "tellOfGroup", desc := "(LThreeboxes$Secret;I)I" } : Jvm.MethodName) prog_1_method_59_code (3 : Nat) (Option.some Jvm.ClassFile.FieldType.int)) ∈ lw_tbl := List.mem_of_getElem? (i := 464) rfl
set_option maxRecDepth 20000 in
theorem qM_Tb_210 : (Jvm.Cond.methodLink "Threeboxes" (210 : Nat) ({ cls := "Threeboxes$Group", name := "size", desc := "()I" } : Jvm.MethodName)) ∈ lw_tbl := List.mem_of_getElem? (i := 465) (by decide +kernel)
set_option maxRecDepth 20000 in
theorem qI_Gr_size : (Jvm.Cond.instanceMethod ({ cls := "Threeboxes$Group", name := "size", desc := "()I" } : Jvm.MethodName)) ∈ lw_tbl := List.mem_of_getElem? (i := 466) (by decide +kernel)
set_option maxRecDepth 20000 in
theorem qV_Gr_Gr_size : (Jvm.Cond.selects "Threeboxes$Group" ({ cls := "Threeboxes$Group", name := "size", desc := "()I" } : Jvm.MethodName) ({ cls := "Threeboxes$Group", name := "size", desc := "()I" } : Jvm.MethodName)) ∈ lw_tbl := List.mem_of_getElem? (i := 467) (by decide +kernel)
set_option maxRecDepth 20000 in
theorem qC_Gr_size : (Jvm.Cond.code ({ cls := "Threeboxes$Group", name := "size", desc := "()I" } : Jvm.MethodName) prog_3_method_7_code (1 : Nat) (Option.some Jvm.ClassFile.FieldType.int)) ∈ lw_tbl := List.mem_of_getElem? (i := 468) rfl
set_option maxRecDepth 20000 in
theorem qM_Tb_200 : (Jvm.Cond.methodLink "Threeboxes" (200 : Nat) ({ cls := "Threeboxes$Group", name := "members", desc := "()I" } : Jvm.MethodName)) ∈ lw_tbl := List.mem_of_getElem? (i := 469) (by decide +kernel)
set_option maxRecDepth 20000 in
theorem qI_Gr_members : (Jvm.Cond.instanceMethod ({ cls := "Threeboxes$Group", name := "members", desc := "()I" } : Jvm.MethodName)) ∈ lw_tbl := List.mem_of_getElem? (i := 470) (by decide +kernel)
set_option maxRecDepth 20000 in
theorem qV_Gr_Gr_members : (Jvm.Cond.selects "Threeboxes$Group" ({ cls := "Threeboxes$Group", name := "members", desc := "()I" } : Jvm.MethodName) ({ cls := "Threeboxes$Group", name := "members", desc := "()I" } : Jvm.MethodName)) ∈ lw_tbl := List.mem_of_getElem? (i := 471) (by decide +kernel)
set_option maxRecDepth 20000 in
theorem qC_Gr_members : (Jvm.Cond.code ({ cls := "Threeboxes$Group", name := "members", desc := "()I" } : Jvm.MethodName) prog_3_method_9_code (1 : Nat) (Option.some Jvm.ClassFile.FieldType.int)) ∈ lw_tbl := List.mem_of_getElem? (i := 472) rfl
set_option maxRecDepth 20000 in
theorem qM_Tb_220 : (Jvm.Cond.methodLink "Threeboxes" (220 : Nat) ({ cls := "Threeboxes", name := "isLawful", desc := "(LThreeboxes$Secret;I)Z" } : Jvm.MethodName)) ∈ lw_tbl := List.mem_of_getElem? (i := 473) (by decide +kernel)
set_option maxRecDepth 20000 in
theorem qI_Tb_isLawful : (Jvm.Cond.instanceMethod ({ cls := "Threeboxes", name := "isLawful", desc := "(LThreeboxes$Secret;I)Z" } : Jvm.MethodName)) ∈ lw_tbl := List.mem_of_getElem? (i := 475) (by decide +kernel)
set_option maxRecDepth 20000 in
theorem qC_Tb_isLawful : (Jvm.Cond.code ({ cls := "Threeboxes", name := "isLawful", desc := "(LThreeboxes$Secret;I)Z" } : Jvm.MethodName) prog_1_method_46_code (3 : Nat) (Option.some Jvm.ClassFile.FieldType.boolean)) ∈ lw_tbl := List.mem_of_getElem? (i := 476) rfl
set_option maxRecDepth 20000 in
theorem qM_Tb_354 : (Jvm.Cond.methodLink "Threeboxes" (354 : Nat) ({ cls := "Threeboxes", name := "zonesOf", desc := "(I)I" } : Jvm.MethodName)) ∈ lw_tbl := List.mem_of_getElem? (i := 477) (by decide +kernel)
set_option maxRecDepth 20000 in
theorem qI_Tb_zonesOf : (Jvm.Cond.instanceMethod ({ cls := "Threeboxes", name := "zonesOf", desc := "(I)I" } : Jvm.MethodName)) ∈ lw_tbl := List.mem_of_getElem? (i := 479) (by decide +kernel)
set_option maxRecDepth 20000 in
theorem qC_Tb_zonesOf : (Jvm.Cond.code ({ cls := "Threeboxes", name := "zonesOf", desc := "(I)I" } : Jvm.MethodName) prog_1_method_45_code (4 : Nat) (Option.some Jvm.ClassFile.FieldType.int)) ∈ lw_tbl := List.mem_of_getElem? (i := 480) rfl
set_option maxRecDepth 20000 in
theorem qM_Tb_191 : (Jvm.Cond.methodLink "Threeboxes" (191 : Nat) ({ cls := "Threeboxes$Group", name := "isGood", desc := "()Z" } : Jvm.MethodName)) ∈ lw_tbl := List.mem_of_getElem? (i := 481) (by decide +kernel)
set_option maxRecDepth 20000 in
theorem qI_Gr_isGood : (Jvm.Cond.instanceMethod ({ cls := "Threeboxes$Group", name := "isGood", desc := "()Z" } : Jvm.MethodName)) ∈ lw_tbl := List.mem_of_getElem? (i := 482) (by decide +kernel)
set_option maxRecDepth 20000 in
theorem qV_Gr_Gr_isGood : (Jvm.Cond.selects "Threeboxes$Group" ({ cls := "Threeboxes$Group", name := "isGood", desc := "()Z" } : Jvm.MethodName) ({ cls := "Threeboxes$Group", name := "isGood", desc := "()Z" } : Jvm.MethodName)) ∈ lw_tbl := List.mem_of_getElem? (i := 483) (by decide +kernel)
set_option maxRecDepth 20000 in
theorem qC_Gr_isGood : (Jvm.Cond.code ({ cls := "Threeboxes$Group", name := "isGood", desc := "()Z" } : Jvm.MethodName) prog_3_method_6_code (1 : Nat) (Option.some Jvm.ClassFile.FieldType.boolean)) ∈ lw_tbl := List.mem_of_getElem? (i := 484) rfl
set_option maxRecDepth 20000 in
theorem qM_Gr_54 : (Jvm.Cond.methodLink "Threeboxes$Group" (54 : Nat) ({ cls := "Threeboxes$Group", name := "size", desc := "()I" } : Jvm.MethodName)) ∈ lw_tbl := List.mem_of_getElem? (i := 485) (by decide +kernel)
set_option maxRecDepth 20000 in
theorem qM_Tb_197 : (Jvm.Cond.methodLink "Threeboxes" (197 : Nat) ({ cls := "Threeboxes$Group", name := "curveAt", desc := "(I)I" } : Jvm.MethodName)) ∈ lw_tbl := List.mem_of_getElem? (i := 486) (by decide +kernel)
set_option maxRecDepth 20000 in
theorem qI_Gr_curveAt : (Jvm.Cond.instanceMethod ({ cls := "Threeboxes$Group", name := "curveAt", desc := "(I)I" } : Jvm.MethodName)) ∈ lw_tbl := List.mem_of_getElem? (i := 487) (by decide +kernel)
set_option maxRecDepth 20000 in
theorem qV_Gr_Gr_curveAt : (Jvm.Cond.selects "Threeboxes$Group" ({ cls := "Threeboxes$Group", name := "curveAt", desc := "(I)I" } : Jvm.MethodName) ({ cls := "Threeboxes$Group", name := "curveAt", desc := "(I)I" } : Jvm.MethodName)) ∈ lw_tbl := List.mem_of_getElem? (i := 488) (by decide +kernel)
set_option maxRecDepth 20000 in
theorem qC_Gr_curveAt : (Jvm.Cond.code ({ cls := "Threeboxes$Group", name := "curveAt", desc := "(I)I" } : Jvm.MethodName) prog_3_method_11_code (2 : Nat) (Option.some Jvm.ClassFile.FieldType.int)) ∈ lw_tbl := List.mem_of_getElem? (i := 489) rfl
set_option maxRecDepth 20000 in
theorem qM_Tb_224 : (Jvm.Cond.methodLink "Threeboxes" (224 : Nat) ({ cls := "Threeboxes$Group", name := "liars", desc := "()I" } : Jvm.MethodName)) ∈ lw_tbl := List.mem_of_getElem? (i := 490) (by decide +kernel)
set_option maxRecDepth 20000 in
theorem qI_Gr_liars : (Jvm.Cond.instanceMethod ({ cls := "Threeboxes$Group", name := "liars", desc := "()I" } : Jvm.MethodName)) ∈ lw_tbl := List.mem_of_getElem? (i := 491) (by decide +kernel)
set_option maxRecDepth 20000 in
theorem qV_Gr_Gr_liars : (Jvm.Cond.selects "Threeboxes$Group" ({ cls := "Threeboxes$Group", name := "liars", desc := "()I" } : Jvm.MethodName) ({ cls := "Threeboxes$Group", name := "liars", desc := "()I" } : Jvm.MethodName)) ∈ lw_tbl := List.mem_of_getElem? (i := 492) (by decide +kernel)
set_option maxRecDepth 20000 in
theorem qC_Gr_liars : (Jvm.Cond.code ({ cls := "Threeboxes$Group", name := "liars", desc := "()I" } : Jvm.MethodName) prog_3_method_10_code (1 : Nat) (Option.some Jvm.ClassFile.FieldType.int)) ∈ lw_tbl := List.mem_of_getElem? (i := 493) rfl
set_option maxRecDepth 20000 in
theorem qM_Tb_413 : (Jvm.Cond.methodLink "Threeboxes" (413 : Nat) ({ cls := "Threeboxes$Group", name := "agreed", desc := "()I" } : Jvm.MethodName)) ∈ lw_tbl := List.mem_of_getElem? (i := 494) (by decide +kernel)
set_option maxRecDepth 20000 in
theorem qM_Tb_298 : (Jvm.Cond.methodLink "Threeboxes" (298 : Nat) ({ cls := "Threeboxes", name := "fewestOf", desc := "(LThreeboxes$Secret;)I" } : Jvm.MethodName)) ∈ lw_tbl := List.mem_of_getElem? (i := 495) (by decide +kernel)
set_option maxRecDepth 20000 in
theorem qI_Tb_fewestOf : (Jvm.Cond.instanceMethod ({ cls := "Threeboxes", name := "fewestOf", desc := "(LThreeboxes$Secret;)I" } : Jvm.MethodName)) ∈ lw_tbl := List.mem_of_getElem? (i := 497) (by decide +kernel)
set_option maxRecDepth 20000 in
theorem qC_Tb_fewestOf : (Jvm.Cond.code ({ cls := "Threeboxes", name := "fewestOf", desc := "(LThreeboxes$Secret;)I" } : Jvm.MethodName) prog_1_method_50_code (6 : Nat) (Option.some Jvm.ClassFile.FieldType.int)) ∈ lw_tbl := List.mem_of_getElem? (i := 498) rfl
set_option maxRecDepth 20000 in
theorem qM_Tb_369 : (Jvm.Cond.methodLink "Threeboxes" (369 : Nat) ({ cls := "Threeboxes", name := "isLess", desc := "(II)Z" } : Jvm.MethodName)) ∈ lw_tbl := List.mem_of_getElem? (i := 499) (by decide +kernel)
set_option maxRecDepth 20000 in
theorem qI_Tb_isLess : (Jvm.Cond.instanceMethod ({ cls := "Threeboxes", name := "isLess", desc := "(II)Z" } : Jvm.MethodName)) ∈ lw_tbl := List.mem_of_getElem? (i := 501) (by decide +kernel)
set_option maxRecDepth 20000 in
theorem qC_Tb_isLess : (Jvm.Cond.code ({ cls := "Threeboxes", name := "isLess", desc := "(II)Z" } : Jvm.MethodName) prog_1_method_51_code (4 : Nat) (Option.some Jvm.ClassFile.FieldType.boolean)) ∈ lw_tbl := List.mem_of_getElem? (i := 502) rfl
set_option maxRecDepth 20000 in
theorem qXd_Tb_332 : (Jvm.Cond.constantDouble "Threeboxes" (332 : Nat) (4661225614328463360 : UInt64)) ∈ lw_tbl := List.mem_of_getElem? (i := 503) (by decide +kernel)
set_option maxRecDepth 20000 in
theorem qM_Tb_294 : (Jvm.Cond.methodLink "Threeboxes" (294 : Nat) ({ cls := "Threeboxes", name := "chanceLost", desc := "(LThreeboxes$Secret;)D" } : Jvm.MethodName)) ∈ lw_tbl := List.mem_of_getElem? (i := 504) (by decide +kernel)
set_option maxRecDepth 20000 in
theorem qI_Tb_chanceLost : (Jvm.Cond.instanceMethod ({ cls := "Threeboxes", name := "chanceLost", desc := "(LThreeboxes$Secret;)D" } : Jvm.MethodName)) ∈ lw_tbl := List.mem_of_getElem? (i := 506) (by decide +kernel)
set_option maxRecDepth 20000 in
theorem qC_Tb_chanceLost : (Jvm.Cond.code ({ cls := "Threeboxes", name := "chanceLost", desc := "(LThreeboxes$Secret;)D" } : Jvm.MethodName) prog_1_method_52_code (5 : Nat) (Option.some Jvm.ClassFile.FieldType.double)) ∈ lw_tbl := List.mem_of_getElem? (i := 507) rfl
set_option maxRecDepth 20000 in
theorem qM_Tb_378 : (Jvm.Cond.methodLink "Threeboxes" (378 : Nat) ({ cls := "Threeboxes", name := "riskOne", desc := "(I)V" } : Jvm.MethodName)) ∈ lw_tbl := List.mem_of_getElem? (i := 508) (by decide +kernel)
set_option maxRecDepth 20000 in
theorem qI_Tb_riskOne : (Jvm.Cond.instanceMethod ({ cls := "Threeboxes", name := "riskOne", desc := "(I)V" } : Jvm.MethodName)) ∈ lw_tbl := List.mem_of_getElem? (i := 510) (by decide +kernel)
set_option maxRecDepth 20000 in
theorem qC_Tb_riskOne : (Jvm.Cond.code ({ cls := "Threeboxes", name := "riskOne", desc := "(I)V" } : Jvm.MethodName) prog_1_method_53_code (3 : Nat) (Option.none : Option Jvm.ClassFile.FieldType)) ∈ lw_tbl := List.mem_of_getElem? (i := 511) rfl
set_option maxRecDepth 20000 in
theorem qXd_Tb_381 : (Jvm.Cond.constantDouble "Threeboxes" (381 : Nat) (4636737291354636288 : UInt64)) ∈ lw_tbl := List.mem_of_getElem? (i := 512) (by decide +kernel)
set_option maxRecDepth 20000 in
theorem qM_Tb_323 : (Jvm.Cond.methodLink "Threeboxes" (323 : Nat) ({ cls := "Threeboxes$Register", name := "leafOf", desc := "(I)I" } : Jvm.MethodName)) ∈ lw_tbl := List.mem_of_getElem? (i := 513) (by decide +kernel)
set_option maxRecDepth 20000 in
theorem qM_Tb_326 : (Jvm.Cond.methodLink "Threeboxes" (326 : Nat) ({ cls := "Threeboxes", name := "isSound", desc := "()Z" } : Jvm.MethodName)) ∈ lw_tbl := List.mem_of_getElem? (i := 514) (by decide +kernel)
set_option maxRecDepth 20000 in
theorem qK_La_14 : (Jvm.Cond.classLink "ThreeboxesLaw" (14 : Nat) "ThreeboxesLaw$Out") ∈ lw_tbl := List.mem_of_getElem? (i := 515) (by decide +kernel)
set_option maxRecDepth 20000 in
theorem qO_Ou : (Jvm.Cond.instantiable "ThreeboxesLaw$Out" (3 : Nat)) ∈ lw_tbl := List.mem_of_getElem? (i := 516) (by decide +kernel)
set_option maxRecDepth 20000 in
theorem qMn_La_105 : (Jvm.Cond.methodLinkNest "ThreeboxesLaw" (105 : Nat) ({ cls := "ThreeboxesLaw$Out", name := "<init>", desc := "()V" } : Jvm.MethodName) "ThreeboxesLaw") ∈ lw_tbl := List.mem_of_getElem? (i := 517) (by decide +kernel)
set_option maxRecDepth 20000 in
theorem qI_Ou_init : (Jvm.Cond.instanceMethod ({ cls := "ThreeboxesLaw$Out", name := "<init>", desc := "()V" } : Jvm.MethodName)) ∈ lw_tbl := List.mem_of_getElem? (i := 518) (by decide +kernel)
set_option maxRecDepth 20000 in
theorem qC_Ou_init : (Jvm.Cond.code ({ cls := "ThreeboxesLaw$Out", name := "<init>", desc := "()V" } : Jvm.MethodName) prog_8_method_1_code (1 : Nat) (Option.none : Option Jvm.ClassFile.FieldType)) ∈ lw_tbl := List.mem_of_getElem? (i := 519) rfl
set_option maxRecDepth 20000 in
theorem qM_Ou_1 : (Jvm.Cond.methodLink "ThreeboxesLaw$Out" (1 : Nat) ({ cls := "java/lang/Object", name := "<init>", desc := "()V" } : Jvm.MethodName)) ∈ lw_tbl := List.mem_of_getElem? (i := 520) (by decide +kernel)
set_option maxRecDepth 20000 in
theorem qFn_La_13 : (Jvm.Cond.fieldLinkNest "ThreeboxesLaw" (13 : Nat) "ThreeboxesLaw$Out" "n" "J" "ThreeboxesLaw") ∈ lw_tbl := List.mem_of_getElem? (i := 521) (by decide +kernel)
set_option maxRecDepth 20000 in
theorem qFn_La_90 : (Jvm.Cond.fieldLinkNest "ThreeboxesLaw" (90 : Nat) "ThreeboxesLaw$Out" "d" "D" "ThreeboxesLaw") ∈ lw_tbl := List.mem_of_getElem? (i := 522) (by decide +kernel)
set_option maxRecDepth 20000 in
theorem qFn_La_75 : (Jvm.Cond.fieldLinkNest "ThreeboxesLaw" (75 : Nat) "ThreeboxesLaw$Out" "s" "Ljava/lang/String;" "ThreeboxesLaw") ∈ lw_tbl := List.mem_of_getElem? (i := 523) (by decide +kernel)
set_option maxRecDepth 20000 in
theorem qSc_Ou_Oj : (Jvm.Cond.superclass "ThreeboxesLaw$Out" "java/lang/Object") ∈ lw_tbl := List.mem_of_getElem? (i := 530) (by decide +kernel)
set_option maxRecDepth 20000 in
theorem qM_La_106 : (Jvm.Cond.methodLink "ThreeboxesLaw" (106 : Nat) ({ cls := "ThreeboxesLaw", name := "keeper", desc := "(LThreeboxes;IIILThreeboxesLaw$Out;)I" } : Jvm.MethodName)) ∈ lw_tbl := List.mem_of_getElem? (i := 531) (by decide +kernel)
set_option maxRecDepth 20000 in
theorem qS_La_keeper : (Jvm.Cond.static ({ cls := "ThreeboxesLaw", name := "keeper", desc := "(LThreeboxes;IIILThreeboxesLaw$Out;)I" } : Jvm.MethodName)) ∈ lw_tbl := List.mem_of_getElem? (i := 532) (by decide +kernel)
set_option maxRecDepth 20000 in
theorem qCw_La_keeper : (Jvm.Cond.codeWith ({ cls := "ThreeboxesLaw", name := "keeper", desc := "(LThreeboxes;IIILThreeboxesLaw$Out;)I" } : Jvm.MethodName) method_2_code (6 : Nat) (Option.some Jvm.ClassFile.FieldType.int) [((0 : Nat), (13 : Nat), (16 : Nat), (19 : Nat)), ((0 : Nat), (13 : Nat), (20 : Nat), (21 : Nat))]) ∈ lw_tbl := List.mem_of_getElem? (i := 533) rfl
set_option maxRecDepth 20000 in
theorem qK_La_19 : (Jvm.Cond.classLink "ThreeboxesLaw" (19 : Nat) "java/lang/IllegalArgumentException") ∈ lw_tbl := List.mem_of_getElem? (i := 534) (by decide +kernel)
set_option maxRecDepth 20000 in
theorem qK_La_21 : (Jvm.Cond.classLink "ThreeboxesLaw" (21 : Nat) "java/lang/IllegalStateException") ∈ lw_tbl := List.mem_of_getElem? (i := 535) (by decide +kernel)
set_option maxRecDepth 20000 in
theorem qM_La_7 : (Jvm.Cond.methodLink "ThreeboxesLaw" (7 : Nat) ({ cls := "Threeboxes", name := "keeper", desc := "(III)I" } : Jvm.MethodName)) ∈ lw_tbl := List.mem_of_getElem? (i := 536) (by decide +kernel)
set_option maxRecDepth 20000 in
theorem qI_Tb_keeper : (Jvm.Cond.instanceMethod ({ cls := "Threeboxes", name := "keeper", desc := "(III)I" } : Jvm.MethodName)) ∈ lw_tbl := List.mem_of_getElem? (i := 537) (by decide +kernel)
set_option maxRecDepth 20000 in
theorem qV_Tb_Tb_keeper : (Jvm.Cond.selects "Threeboxes" ({ cls := "Threeboxes", name := "keeper", desc := "(III)I" } : Jvm.MethodName) ({ cls := "Threeboxes", name := "keeper", desc := "(III)I" } : Jvm.MethodName)) ∈ lw_tbl := List.mem_of_getElem? (i := 538) (by decide +kernel)
set_option maxRecDepth 20000 in
theorem qC_Tb_keeper : (Jvm.Cond.code ({ cls := "Threeboxes", name := "keeper", desc := "(III)I" } : Jvm.MethodName) prog_1_method_2_code (5 : Nat) (Option.some Jvm.ClassFile.FieldType.int)) ∈ lw_tbl := List.mem_of_getElem? (i := 539) rfl
set_option maxRecDepth 20000 in
theorem qK_Tb_61 : (Jvm.Cond.classLink "Threeboxes" (61 : Nat) "java/lang/IllegalArgumentException") ∈ lw_tbl := List.mem_of_getElem? (i := 540) (by decide +kernel)
set_option maxRecDepth 20000 in
theorem qO_IAE : (Jvm.Cond.instantiable "java/lang/IllegalArgumentException" (6 : Nat)) ∈ lw_tbl := List.mem_of_getElem? (i := 541) (by decide +kernel)
set_option maxRecDepth 20000 in
theorem qT_IAE_IAE : (Jvm.Cond.castable "java/lang/IllegalArgumentException" "java/lang/IllegalArgumentException") ∈ lw_tbl := List.mem_of_getElem? (i := 542) (by decide +kernel)
set_option maxRecDepth 20000 in
theorem qD_RE_init_0566 : (Jvm.Cond.declares ({ cls := "java/lang/RuntimeException", name := "<init>", desc := "()V" } : Jvm.MethodName)) ∈ lw_tbl := List.mem_of_getElem? (i := 543) (by decide +kernel)
set_option maxRecDepth 20000 in
theorem qD_RE_init_7bbb : (Jvm.Cond.declares ({ cls := "java/lang/RuntimeException", name := "<init>", desc := "(Ljava/lang/String;)V" } : Jvm.MethodName)) ∈ lw_tbl := List.mem_of_getElem? (i := 544) (by decide +kernel)
set_option maxRecDepth 20000 in
theorem qD_EX_init_0566 : (Jvm.Cond.declares ({ cls := "java/lang/Exception", name := "<init>", desc := "()V" } : Jvm.MethodName)) ∈ lw_tbl := List.mem_of_getElem? (i := 545) (by decide +kernel)
set_option maxRecDepth 20000 in
theorem qD_EX_init_7bbb : (Jvm.Cond.declares ({ cls := "java/lang/Exception", name := "<init>", desc := "(Ljava/lang/String;)V" } : Jvm.MethodName)) ∈ lw_tbl := List.mem_of_getElem? (i := 546) (by decide +kernel)
set_option maxRecDepth 20000 in
theorem qD_Th_init_0566 : (Jvm.Cond.declares ({ cls := "java/lang/Throwable", name := "<init>", desc := "()V" } : Jvm.MethodName)) ∈ lw_tbl := List.mem_of_getElem? (i := 547) (by decide +kernel)
set_option maxRecDepth 20000 in
theorem qD_Th_init_7bbb : (Jvm.Cond.declares ({ cls := "java/lang/Throwable", name := "<init>", desc := "(Ljava/lang/String;)V" } : Jvm.MethodName)) ∈ lw_tbl := List.mem_of_getElem? (i := 548) (by decide +kernel)
set_option maxRecDepth 20000 in
theorem qV_IAE_Th_fillInStackTrace_a1a2 : (Jvm.Cond.selects "java/lang/IllegalArgumentException" ({ cls := "java/lang/Throwable", name := "fillInStackTrace", desc := "(I)Ljava/lang/Throwable;" } : Jvm.MethodName) ({ cls := "java/lang/Throwable", name := "fillInStackTrace", desc := "(I)Ljava/lang/Throwable;" } : Jvm.MethodName)) ∈ lw_tbl := List.mem_of_getElem? (i := 549) (by decide +kernel)
set_option maxRecDepth 20000 in
theorem qV_IAE_Th_fillInStackTrace_9760 : (Jvm.Cond.selects "java/lang/IllegalArgumentException" ({ cls := "java/lang/Throwable", name := "fillInStackTrace", desc := "()Ljava/lang/Throwable;" } : Jvm.MethodName) ({ cls := "java/lang/Throwable", name := "fillInStackTrace", desc := "()Ljava/lang/Throwable;" } : Jvm.MethodName)) ∈ lw_tbl := List.mem_of_getElem? (i := 550) (by decide +kernel)
set_option maxRecDepth 20000 in
theorem qF_Th_198 : (Jvm.Cond.fieldLink "java/lang/Throwable" (198 : Nat) "java/lang/Throwable" "backtrace" "Ljava/lang/Object;") ∈ lw_tbl := List.mem_of_getElem? (i := 561) (by decide +kernel)
set_option maxRecDepth 20000 in
theorem qSc_Th_Oj : (Jvm.Cond.superclass "java/lang/Throwable" "java/lang/Object") ∈ lw_tbl := List.mem_of_getElem? (i := 562) (by decide +kernel)
set_option maxRecDepth 20000 in
theorem qI_Th_init_0566 : (Jvm.Cond.instanceMethod ({ cls := "java/lang/Throwable", name := "<init>", desc := "()V" } : Jvm.MethodName)) ∈ lw_tbl := List.mem_of_getElem? (i := 563) (by decide +kernel)
set_option maxRecDepth 20000 in
theorem qC_Th_init_0566 : (Jvm.Cond.code ({ cls := "java/lang/Throwable", name := "<init>", desc := "()V" } : Jvm.MethodName) prog_32_method_1_code (1 : Nat) (Option.none : Option Jvm.ClassFile.FieldType)) ∈ lw_tbl := List.mem_of_getElem? (i := 564) rfl
set_option maxRecDepth 20000 in
theorem qM_Th_1 : (Jvm.Cond.methodLink "java/lang/Throwable" (1 : Nat) ({ cls := "java/lang/Object", name := "<init>", desc := "()V" } : Jvm.MethodName)) ∈ lw_tbl := List.mem_of_getElem? (i := 565) (by decide +kernel)
set_option maxRecDepth 20000 in
theorem qF_Th_13 : (Jvm.Cond.fieldLink "java/lang/Throwable" (13 : Nat) "java/lang/Throwable" "UNASSIGNED_STACK" "[Ljava/lang/StackTraceElement;") ∈ lw_tbl := List.mem_of_getElem? (i := 566) (by decide +kernel)
set_option maxRecDepth 20000 in
theorem qLs_Th_UNASSIGNEDSTACK_LjavalangStackTraceElement : (Jvm.Cond.laysStatic "java/lang/Throwable" "UNASSIGNED_STACK" "[Ljava/lang/StackTraceElement;") ∈ lw_tbl := List.mem_of_getElem? (i := 567) (by decide +kernel)
set_option maxRecDepth 20000 in
theorem qF_Th_20 : (Jvm.Cond.fieldLink "java/lang/Throwable" (20 : Nat) "java/lang/Throwable" "SUPPRESSED_SENTINEL" "Ljava/util/List;") ∈ lw_tbl := List.mem_of_getElem? (i := 568) (by decide +kernel)
set_option maxRecDepth 20000 in
theorem qLs_Th_SUPPRESSEDSENTINEL_LjavautilList : (Jvm.Cond.laysStatic "java/lang/Throwable" "SUPPRESSED_SENTINEL" "Ljava/util/List;") ∈ lw_tbl := List.mem_of_getElem? (i := 569) (by decide +kernel)
set_option maxRecDepth 20000 in
theorem qM_Th_27 : (Jvm.Cond.methodLink "java/lang/Throwable" (27 : Nat) ({ cls := "java/lang/Throwable", name := "fillInStackTrace", desc := "()Ljava/lang/Throwable;" } : Jvm.MethodName)) ∈ lw_tbl := List.mem_of_getElem? (i := 570) (by decide +kernel)
set_option maxRecDepth 20000 in
theorem qI_Th_fillInStackTrace_9760 : (Jvm.Cond.instanceMethod ({ cls := "java/lang/Throwable", name := "fillInStackTrace", desc := "()Ljava/lang/Throwable;" } : Jvm.MethodName)) ∈ lw_tbl := List.mem_of_getElem? (i := 571) (by decide +kernel)
set_option maxRecDepth 20000 in
theorem qSm_Th_javalangThrowable_fillInStackTrace_LjavalangThrowable : (Jvm.Cond.sameMethod "java/lang/Throwable" "java/lang/Throwable" "fillInStackTrace" "()Ljava/lang/Throwable;") ∈ lw_tbl := List.mem_of_getElem? (i := 572) (by decide +kernel)
set_option maxRecDepth 20000 in
theorem qV_ISE_Th_fillInStackTrace_9760 : (Jvm.Cond.selects "java/lang/IllegalStateException" ({ cls := "java/lang/Throwable", name := "fillInStackTrace", desc := "()Ljava/lang/Throwable;" } : Jvm.MethodName) ({ cls := "java/lang/Throwable", name := "fillInStackTrace", desc := "()Ljava/lang/Throwable;" } : Jvm.MethodName)) ∈ lw_tbl := List.mem_of_getElem? (i := 573) (by decide +kernel)
set_option maxRecDepth 20000 in
theorem qV_IOE_Th_fillInStackTrace_9760 : (Jvm.Cond.selects "java/lang/IndexOutOfBoundsException" ({ cls := "java/lang/Throwable", name := "fillInStackTrace", desc := "()Ljava/lang/Throwable;" } : Jvm.MethodName) ({ cls := "java/lang/Throwable", name := "fillInStackTrace", desc := "()Ljava/lang/Throwable;" } : Jvm.MethodName)) ∈ lw_tbl := List.mem_of_getElem? (i := 574) (by decide +kernel)
set_option maxRecDepth 20000 in
theorem qCs_Th_fillInStackTrace_9760 : (Jvm.Cond.codeSync ({ cls := "java/lang/Throwable", name := "fillInStackTrace", desc := "()Ljava/lang/Throwable;" } : Jvm.MethodName) prog_32_method_18_code (1 : Nat) (Option.some (Jvm.ClassFile.FieldType.object "java/lang/Throwable"))) ∈ lw_tbl := List.mem_of_getElem? (i := 575) rfl
set_option maxRecDepth 20000 in
theorem qM_Th_202 : (Jvm.Cond.methodLink "java/lang/Throwable" (202 : Nat) ({ cls := "java/lang/Throwable", name := "fillInStackTrace", desc := "(I)Ljava/lang/Throwable;" } : Jvm.MethodName)) ∈ lw_tbl := List.mem_of_getElem? (i := 576) (by decide +kernel)
set_option maxRecDepth 20000 in
theorem qI_Th_fillInStackTrace_a1a2 : (Jvm.Cond.instanceMethod ({ cls := "java/lang/Throwable", name := "fillInStackTrace", desc := "(I)Ljava/lang/Throwable;" } : Jvm.MethodName)) ∈ lw_tbl := List.mem_of_getElem? (i := 578) (by decide +kernel)
set_option maxRecDepth 20000 in
theorem qO_Th : (Jvm.Cond.instantiable "java/lang/Throwable" (6 : Nat)) ∈ lw_tbl := List.mem_of_getElem? (i := 579) (by decide +kernel)
set_option maxRecDepth 20000 in
theorem qNa_Th_fillInStackTrace_a1a2 : (Jvm.Cond.native ({ cls := "java/lang/Throwable", name := "fillInStackTrace", desc := "(I)Ljava/lang/Throwable;" } : Jvm.MethodName)) ∈ lw_tbl := List.mem_of_getElem? (i := 580) (by decide +kernel)
set_option maxRecDepth 20000 in
theorem qR_Tb_63 : (Jvm.Cond.stringRef "Threeboxes" (63 : Nat) "no such zone, price or risk") ∈ lw_tbl := List.mem_of_getElem? (i := 581) (by decide +kernel)
set_option maxRecDepth 20000 in
theorem qM_Tb_65 : (Jvm.Cond.methodLink "Threeboxes" (65 : Nat) ({ cls := "java/lang/IllegalArgumentException", name := "<init>", desc := "(Ljava/lang/String;)V" } : Jvm.MethodName)) ∈ lw_tbl := List.mem_of_getElem? (i := 582) (by decide +kernel)
set_option maxRecDepth 20000 in
theorem qI_IAE_init_7bbb : (Jvm.Cond.instanceMethod ({ cls := "java/lang/IllegalArgumentException", name := "<init>", desc := "(Ljava/lang/String;)V" } : Jvm.MethodName)) ∈ lw_tbl := List.mem_of_getElem? (i := 583) (by decide +kernel)
set_option maxRecDepth 20000 in
theorem qC_IAE_init_7bbb : (Jvm.Cond.code ({ cls := "java/lang/IllegalArgumentException", name := "<init>", desc := "(Ljava/lang/String;)V" } : Jvm.MethodName) prog_19_method_2_code (2 : Nat) (Option.none : Option Jvm.ClassFile.FieldType)) ∈ lw_tbl := List.mem_of_getElem? (i := 584) rfl
set_option maxRecDepth 20000 in
theorem qM_IAE_7 : (Jvm.Cond.methodLink "java/lang/IllegalArgumentException" (7 : Nat) ({ cls := "java/lang/RuntimeException", name := "<init>", desc := "(Ljava/lang/String;)V" } : Jvm.MethodName)) ∈ lw_tbl := List.mem_of_getElem? (i := 585) (by decide +kernel)
set_option maxRecDepth 20000 in
theorem qI_RE_init_7bbb : (Jvm.Cond.instanceMethod ({ cls := "java/lang/RuntimeException", name := "<init>", desc := "(Ljava/lang/String;)V" } : Jvm.MethodName)) ∈ lw_tbl := List.mem_of_getElem? (i := 586) (by decide +kernel)
set_option maxRecDepth 20000 in
theorem qC_RE_init_7bbb : (Jvm.Cond.code ({ cls := "java/lang/RuntimeException", name := "<init>", desc := "(Ljava/lang/String;)V" } : Jvm.MethodName) prog_26_method_2_code (2 : Nat) (Option.none : Option Jvm.ClassFile.FieldType)) ∈ lw_tbl := List.mem_of_getElem? (i := 587) rfl
set_option maxRecDepth 20000 in
theorem qM_RE_7 : (Jvm.Cond.methodLink "java/lang/RuntimeException" (7 : Nat) ({ cls := "java/lang/Exception", name := "<init>", desc := "(Ljava/lang/String;)V" } : Jvm.MethodName)) ∈ lw_tbl := List.mem_of_getElem? (i := 588) (by decide +kernel)
set_option maxRecDepth 20000 in
theorem qI_EX_init_7bbb : (Jvm.Cond.instanceMethod ({ cls := "java/lang/Exception", name := "<init>", desc := "(Ljava/lang/String;)V" } : Jvm.MethodName)) ∈ lw_tbl := List.mem_of_getElem? (i := 589) (by decide +kernel)
set_option maxRecDepth 20000 in
theorem qC_EX_init_7bbb : (Jvm.Cond.code ({ cls := "java/lang/Exception", name := "<init>", desc := "(Ljava/lang/String;)V" } : Jvm.MethodName) prog_18_method_2_code (2 : Nat) (Option.none : Option Jvm.ClassFile.FieldType)) ∈ lw_tbl := List.mem_of_getElem? (i := 590) rfl
set_option maxRecDepth 20000 in
theorem qM_EX_7 : (Jvm.Cond.methodLink "java/lang/Exception" (7 : Nat) ({ cls := "java/lang/Throwable", name := "<init>", desc := "(Ljava/lang/String;)V" } : Jvm.MethodName)) ∈ lw_tbl := List.mem_of_getElem? (i := 591) (by decide +kernel)
set_option maxRecDepth 20000 in
theorem qI_Th_init_7bbb : (Jvm.Cond.instanceMethod ({ cls := "java/lang/Throwable", name := "<init>", desc := "(Ljava/lang/String;)V" } : Jvm.MethodName)) ∈ lw_tbl := List.mem_of_getElem? (i := 592) (by decide +kernel)
set_option maxRecDepth 20000 in
theorem qC_Th_init_7bbb : (Jvm.Cond.code ({ cls := "java/lang/Throwable", name := "<init>", desc := "(Ljava/lang/String;)V" } : Jvm.MethodName) prog_32_method_2_code (2 : Nat) (Option.none : Option Jvm.ClassFile.FieldType)) ∈ lw_tbl := List.mem_of_getElem? (i := 593) rfl
set_option maxRecDepth 20000 in
theorem qF_Th_198x : (Jvm.Cond.fieldLink "java/lang/Throwable" (198 : Nat) "java/lang/Throwable" "backtrace" "Ljava/lang/Object;") ∈ lw_tbl := List.mem_of_getElem? (i := 594) (by decide +kernel)
set_option maxRecDepth 20000 in
theorem qF_Th_31 : (Jvm.Cond.fieldLink "java/lang/Throwable" (31 : Nat) "java/lang/Throwable" "detailMessage" "Ljava/lang/String;") ∈ lw_tbl := List.mem_of_getElem? (i := 595) (by decide +kernel)
set_option maxRecDepth 20000 in
theorem qF_Th_7 : (Jvm.Cond.fieldLink "java/lang/Throwable" (7 : Nat) "java/lang/Throwable" "cause" "Ljava/lang/Throwable;") ∈ lw_tbl := List.mem_of_getElem? (i := 596) (by decide +kernel)
set_option maxRecDepth 20000 in
theorem qF_Th_17 : (Jvm.Cond.fieldLink "java/lang/Throwable" (17 : Nat) "java/lang/Throwable" "stackTrace" "[Ljava/lang/StackTraceElement;") ∈ lw_tbl := List.mem_of_getElem? (i := 597) (by decide +kernel)
set_option maxRecDepth 20000 in
theorem qF_Th_24 : (Jvm.Cond.fieldLink "java/lang/Throwable" (24 : Nat) "java/lang/Throwable" "suppressedExceptions" "Ljava/util/List;") ∈ lw_tbl := List.mem_of_getElem? (i := 598) (by decide +kernel)
set_option maxRecDepth 20000 in
theorem qSc_IAE_RE : (Jvm.Cond.superclass "java/lang/IllegalArgumentException" "java/lang/RuntimeException") ∈ lw_tbl := List.mem_of_getElem? (i := 606) (by decide +kernel)
set_option maxRecDepth 20000 in
theorem qA_byte : (Jvm.Cond.arrayClass Jvm.ClassFile.FieldType.byte) ∈ lw_tbl := List.mem_of_getElem? (i := 607) (by decide +kernel)
set_option maxRecDepth 20000 in
theorem qK_Tb_72 : (Jvm.Cond.classLink "Threeboxes" (72 : Nat) "java/lang/IllegalStateException") ∈ lw_tbl := List.mem_of_getElem? (i := 608) (by decide +kernel)
set_option maxRecDepth 20000 in
theorem qO_ISE : (Jvm.Cond.instantiable "java/lang/IllegalStateException" (6 : Nat)) ∈ lw_tbl := List.mem_of_getElem? (i := 609) (by decide +kernel)
set_option maxRecDepth 20000 in
theorem qT_ISE_ISE : (Jvm.Cond.castable "java/lang/IllegalStateException" "java/lang/IllegalStateException") ∈ lw_tbl := List.mem_of_getElem? (i := 610) (by decide +kernel)
set_option maxRecDepth 20000 in
theorem qV_ISE_Th_fillInStackTrace_a1a2 : (Jvm.Cond.selects "java/lang/IllegalStateException" ({ cls := "java/lang/Throwable", name := "fillInStackTrace", desc := "(I)Ljava/lang/Throwable;" } : Jvm.MethodName) ({ cls := "java/lang/Throwable", name := "fillInStackTrace", desc := "(I)Ljava/lang/Throwable;" } : Jvm.MethodName)) ∈ lw_tbl := List.mem_of_getElem? (i := 611) (by decide +kernel)
set_option maxRecDepth 20000 in
theorem qR_Tb_74 : (Jvm.Cond.stringRef "Threeboxes" (74 : Nat) "there are 8 keepers") ∈ lw_tbl := List.mem_of_getElem? (i := 617) (by decide +kernel)
set_option maxRecDepth 20000 in
theorem qM_Tb_76 : (Jvm.Cond.methodLink "Threeboxes" (76 : Nat) ({ cls := "java/lang/IllegalStateException", name := "<init>", desc := "(Ljava/lang/String;)V" } : Jvm.MethodName)) ∈ lw_tbl := List.mem_of_getElem? (i := 618) (by decide +kernel)
set_option maxRecDepth 20000 in
theorem qI_ISE_init_7bbb : (Jvm.Cond.instanceMethod ({ cls := "java/lang/IllegalStateException", name := "<init>", desc := "(Ljava/lang/String;)V" } : Jvm.MethodName)) ∈ lw_tbl := List.mem_of_getElem? (i := 619) (by decide +kernel)
set_option maxRecDepth 20000 in
theorem qC_ISE_init_7bbb : (Jvm.Cond.code ({ cls := "java/lang/IllegalStateException", name := "<init>", desc := "(Ljava/lang/String;)V" } : Jvm.MethodName) prog_20_method_2_code (2 : Nat) (Option.none : Option Jvm.ClassFile.FieldType)) ∈ lw_tbl := List.mem_of_getElem? (i := 620) rfl
set_option maxRecDepth 20000 in
theorem qM_ISE_7 : (Jvm.Cond.methodLink "java/lang/IllegalStateException" (7 : Nat) ({ cls := "java/lang/RuntimeException", name := "<init>", desc := "(Ljava/lang/String;)V" } : Jvm.MethodName)) ∈ lw_tbl := List.mem_of_getElem? (i := 621) (by decide +kernel)
set_option maxRecDepth 20000 in
theorem qSc_ISE_RE : (Jvm.Cond.superclass "java/lang/IllegalStateException" "java/lang/RuntimeException") ∈ lw_tbl := List.mem_of_getElem? (i := 623) (by decide +kernel)
set_option maxRecDepth 20000 in
theorem qO_Ke : (Jvm.Cond.instantiable "Threeboxes$Keeper" (6 : Nat)) ∈ lw_tbl := List.mem_of_getElem? (i := 624) (by decide +kernel)
set_option maxRecDepth 20000 in
theorem qM_Tb_79 : (Jvm.Cond.methodLink "Threeboxes" (79 : Nat) ({ cls := "Threeboxes$Keeper", name := "<init>", desc := "(IIII)V" } : Jvm.MethodName)) ∈ lw_tbl := List.mem_of_getElem? (i := 625) (by decide +kernel)
set_option maxRecDepth 20000 in
theorem qI_Ke_init : (Jvm.Cond.instanceMethod ({ cls := "Threeboxes$Keeper", name := "<init>", desc := "(IIII)V" } : Jvm.MethodName)) ∈ lw_tbl := List.mem_of_getElem? (i := 626) (by decide +kernel)
set_option maxRecDepth 20000 in
theorem qC_Ke_init : (Jvm.Cond.code ({ cls := "Threeboxes$Keeper", name := "<init>", desc := "(IIII)V" } : Jvm.MethodName) prog_4_method_1_code (5 : Nat) (Option.none : Option Jvm.ClassFile.FieldType)) ∈ lw_tbl := List.mem_of_getElem? (i := 627) rfl
set_option maxRecDepth 20000 in
theorem qM_Ke_1 : (Jvm.Cond.methodLink "Threeboxes$Keeper" (1 : Nat) ({ cls := "java/lang/Object", name := "<init>", desc := "()V" } : Jvm.MethodName)) ∈ lw_tbl := List.mem_of_getElem? (i := 628) (by decide +kernel)
set_option maxRecDepth 20000 in
theorem qF_Ke_7 : (Jvm.Cond.fieldLink "Threeboxes$Keeper" (7 : Nat) "Threeboxes$Keeper" "number" "I") ∈ lw_tbl := List.mem_of_getElem? (i := 629) (by decide +kernel)
set_option maxRecDepth 20000 in
theorem qF_Tb_383 : (Jvm.Cond.fieldLink "Threeboxes" (383 : Nat) "Threeboxes$Keeper" "number" "I") ∈ lw_tbl := List.mem_of_getElem? (i := 630) (by decide +kernel)
set_option maxRecDepth 20000 in
theorem qF_Ke_13 : (Jvm.Cond.fieldLink "Threeboxes$Keeper" (13 : Nat) "Threeboxes$Keeper" "zone" "I") ∈ lw_tbl := List.mem_of_getElem? (i := 631) (by decide +kernel)
set_option maxRecDepth 20000 in
theorem qF_Tb_170 : (Jvm.Cond.fieldLink "Threeboxes" (170 : Nat) "Threeboxes$Keeper" "zone" "I") ∈ lw_tbl := List.mem_of_getElem? (i := 632) (by decide +kernel)
set_option maxRecDepth 20000 in
theorem qF_Ke_16 : (Jvm.Cond.fieldLink "Threeboxes$Keeper" (16 : Nat) "Threeboxes$Keeper" "price" "I") ∈ lw_tbl := List.mem_of_getElem? (i := 633) (by decide +kernel)
set_option maxRecDepth 20000 in
theorem qF_Tb_363 : (Jvm.Cond.fieldLink "Threeboxes" (363 : Nat) "Threeboxes$Keeper" "price" "I") ∈ lw_tbl := List.mem_of_getElem? (i := 634) (by decide +kernel)
set_option maxRecDepth 20000 in
theorem qF_Ke_19 : (Jvm.Cond.fieldLink "Threeboxes$Keeper" (19 : Nat) "Threeboxes$Keeper" "risk" "I") ∈ lw_tbl := List.mem_of_getElem? (i := 635) (by decide +kernel)
set_option maxRecDepth 20000 in
theorem qF_Tb_375 : (Jvm.Cond.fieldLink "Threeboxes" (375 : Nat) "Threeboxes$Keeper" "risk" "I") ∈ lw_tbl := List.mem_of_getElem? (i := 636) (by decide +kernel)
set_option maxRecDepth 20000 in
theorem qF_Ke_22 : (Jvm.Cond.fieldLink "Threeboxes$Keeper" (22 : Nat) "Threeboxes$Keeper" "lie" "I") ∈ lw_tbl := List.mem_of_getElem? (i := 637) (by decide +kernel)
set_option maxRecDepth 20000 in
theorem qF_Tb_96 : (Jvm.Cond.fieldLink "Threeboxes" (96 : Nat) "Threeboxes$Keeper" "lie" "I") ∈ lw_tbl := List.mem_of_getElem? (i := 638) (by decide +kernel)
set_option maxRecDepth 20000 in
theorem qF_Ke_25 : (Jvm.Cond.fieldLink "Threeboxes$Keeper" (25 : Nat) "Threeboxes$Keeper" "isNoted" "Z") ∈ lw_tbl := List.mem_of_getElem? (i := 639) (by decide +kernel)
set_option maxRecDepth 20000 in
theorem qF_Tb_348 : (Jvm.Cond.fieldLink "Threeboxes" (348 : Nat) "Threeboxes$Keeper" "isNoted" "Z") ∈ lw_tbl := List.mem_of_getElem? (i := 640) (by decide +kernel)
set_option maxRecDepth 20000 in
theorem qSc_Ke_Oj : (Jvm.Cond.superclass "Threeboxes$Keeper" "java/lang/Object") ∈ lw_tbl := List.mem_of_getElem? (i := 653) (by decide +kernel)
set_option maxRecDepth 20000 in
theorem qM_Tb_82 : (Jvm.Cond.methodLink "Threeboxes" (82 : Nat) ({ cls := "java/util/ArrayList", name := "add", desc := "(Ljava/lang/Object;)Z" } : Jvm.MethodName)) ∈ lw_tbl := List.mem_of_getElem? (i := 654) (by decide +kernel)
set_option maxRecDepth 20000 in
theorem qI_AL_add_1 : (Jvm.Cond.instanceMethod ({ cls := "java/util/ArrayList", name := "add", desc := "(Ljava/lang/Object;)Z" } : Jvm.MethodName)) ∈ lw_tbl := List.mem_of_getElem? (i := 655) (by decide +kernel)
set_option maxRecDepth 20000 in
theorem qV_AL_AL_add_1 : (Jvm.Cond.selects "java/util/ArrayList" ({ cls := "java/util/ArrayList", name := "add", desc := "(Ljava/lang/Object;)Z" } : Jvm.MethodName) ({ cls := "java/util/ArrayList", name := "add", desc := "(Ljava/lang/Object;)Z" } : Jvm.MethodName)) ∈ lw_tbl := List.mem_of_getElem? (i := 656) (by decide +kernel)
set_option maxRecDepth 20000 in
theorem qC_AL_add_1 : (Jvm.Cond.code ({ cls := "java/util/ArrayList", name := "add", desc := "(Ljava/lang/Object;)Z" } : Jvm.MethodName) prog_37_method_25_code (2 : Nat) (Option.some Jvm.ClassFile.FieldType.boolean)) ∈ lw_tbl := List.mem_of_getElem? (i := 657) rfl
set_option maxRecDepth 20000 in
theorem qM_AL_131 : (Jvm.Cond.methodLink "java/util/ArrayList" (131 : Nat) ({ cls := "java/util/ArrayList", name := "add", desc := "(Ljava/lang/Object;[Ljava/lang/Object;I)V" } : Jvm.MethodName)) ∈ lw_tbl := List.mem_of_getElem? (i := 658) (by decide +kernel)
set_option maxRecDepth 20000 in
theorem qI_AL_add_2 : (Jvm.Cond.instanceMethod ({ cls := "java/util/ArrayList", name := "add", desc := "(Ljava/lang/Object;[Ljava/lang/Object;I)V" } : Jvm.MethodName)) ∈ lw_tbl := List.mem_of_getElem? (i := 660) (by decide +kernel)
set_option maxRecDepth 20000 in
theorem qC_AL_add_2 : (Jvm.Cond.code ({ cls := "java/util/ArrayList", name := "add", desc := "(Ljava/lang/Object;[Ljava/lang/Object;I)V" } : Jvm.MethodName) prog_37_method_24_code (4 : Nat) (Option.none : Option Jvm.ClassFile.FieldType)) ∈ lw_tbl := List.mem_of_getElem? (i := 661) rfl
set_option maxRecDepth 20000 in
theorem qM_AL_129 : (Jvm.Cond.methodLink "java/util/ArrayList" (129 : Nat) ({ cls := "java/util/ArrayList", name := "grow", desc := "()[Ljava/lang/Object;" } : Jvm.MethodName)) ∈ lw_tbl := List.mem_of_getElem? (i := 662) (by decide +kernel)
set_option maxRecDepth 20000 in
theorem qI_AL_grow_1 : (Jvm.Cond.instanceMethod ({ cls := "java/util/ArrayList", name := "grow", desc := "()[Ljava/lang/Object;" } : Jvm.MethodName)) ∈ lw_tbl := List.mem_of_getElem? (i := 664) (by decide +kernel)
set_option maxRecDepth 20000 in
theorem qC_AL_grow_1 : (Jvm.Cond.code ({ cls := "java/util/ArrayList", name := "grow", desc := "()[Ljava/lang/Object;" } : Jvm.MethodName) prog_37_method_7_code (1 : Nat) (Option.some (Jvm.ClassFile.FieldType.array (Jvm.ClassFile.FieldType.object "java/lang/Object")))) ∈ lw_tbl := List.mem_of_getElem? (i := 665) rfl
set_option maxRecDepth 20000 in
theorem qM_AL_69 : (Jvm.Cond.methodLink "java/util/ArrayList" (69 : Nat) ({ cls := "java/util/ArrayList", name := "grow", desc := "(I)[Ljava/lang/Object;" } : Jvm.MethodName)) ∈ lw_tbl := List.mem_of_getElem? (i := 666) (by decide +kernel)
set_option maxRecDepth 20000 in
theorem qI_AL_grow_2 : (Jvm.Cond.instanceMethod ({ cls := "java/util/ArrayList", name := "grow", desc := "(I)[Ljava/lang/Object;" } : Jvm.MethodName)) ∈ lw_tbl := List.mem_of_getElem? (i := 668) (by decide +kernel)
set_option maxRecDepth 20000 in
theorem qC_AL_grow_2 : (Jvm.Cond.code ({ cls := "java/util/ArrayList", name := "grow", desc := "(I)[Ljava/lang/Object;" } : Jvm.MethodName) prog_37_method_6_code (4 : Nat) (Option.some (Jvm.ClassFile.FieldType.array (Jvm.ClassFile.FieldType.object "java/lang/Object")))) ∈ lw_tbl := List.mem_of_getElem? (i := 669) rfl
set_option maxRecDepth 20000 in
theorem qM_AL_73 : (Jvm.Cond.methodLink "java/util/ArrayList" (73 : Nat) ({ cls := "jdk/internal/util/ArraysSupport", name := "newLength", desc := "(III)I" } : Jvm.MethodName)) ∈ lw_tbl := List.mem_of_getElem? (i := 670) (by decide +kernel)
set_option maxRecDepth 20000 in
theorem qS_AS_newLength : (Jvm.Cond.static ({ cls := "jdk/internal/util/ArraysSupport", name := "newLength", desc := "(III)I" } : Jvm.MethodName)) ∈ lw_tbl := List.mem_of_getElem? (i := 671) (by decide +kernel)
set_option maxRecDepth 20000 in
theorem qC_AS_newLength : (Jvm.Cond.code ({ cls := "jdk/internal/util/ArraysSupport", name := "newLength", desc := "(III)I" } : Jvm.MethodName) prog_44_method_27_code (4 : Nat) (Option.some Jvm.ClassFile.FieldType.int)) ∈ lw_tbl := List.mem_of_getElem? (i := 672) rfl
set_option maxRecDepth 20000 in
theorem qM_AS_194 : (Jvm.Cond.methodLink "jdk/internal/util/ArraysSupport" (194 : Nat) ({ cls := "java/lang/Math", name := "max", desc := "(II)I" } : Jvm.MethodName)) ∈ lw_tbl := List.mem_of_getElem? (i := 673) (by decide +kernel)
set_option maxRecDepth 20000 in
theorem qS_Ma_max : (Jvm.Cond.static ({ cls := "java/lang/Math", name := "max", desc := "(II)I" } : Jvm.MethodName)) ∈ lw_tbl := List.mem_of_getElem? (i := 674) (by decide +kernel)
set_option maxRecDepth 20000 in
theorem qC_Ma_max : (Jvm.Cond.code ({ cls := "java/lang/Math", name := "max", desc := "(II)I" } : Jvm.MethodName) prog_24_method_65_code (2 : Nat) (Option.some Jvm.ClassFile.FieldType.int)) ∈ lw_tbl := List.mem_of_getElem? (i := 675) rfl
set_option maxRecDepth 20000 in
theorem qX_AS_200 : (Jvm.Cond.constant "jdk/internal/util/ArraysSupport" (200 : Nat) (2147483639 : Int32)) ∈ lw_tbl := List.mem_of_getElem? (i := 676) (by decide +kernel)
set_option maxRecDepth 20000 in
theorem qM_AS_201 : (Jvm.Cond.methodLink "jdk/internal/util/ArraysSupport" (201 : Nat) ({ cls := "jdk/internal/util/ArraysSupport", name := "hugeLength", desc := "(II)I" } : Jvm.MethodName)) ∈ lw_tbl := List.mem_of_getElem? (i := 677) (by decide +kernel)
set_option maxRecDepth 20000 in
theorem qS_AS_hugeLength : (Jvm.Cond.static ({ cls := "jdk/internal/util/ArraysSupport", name := "hugeLength", desc := "(II)I" } : Jvm.MethodName)) ∈ lw_tbl := List.mem_of_getElem? (i := 678) (by decide +kernel)
set_option maxRecDepth 20000 in
theorem qC_AS_hugeLength : (Jvm.Cond.code ({ cls := "jdk/internal/util/ArraysSupport", name := "hugeLength", desc := "(II)I" } : Jvm.MethodName) prog_44_method_28_code (3 : Nat) (Option.some Jvm.ClassFile.FieldType.int)) ∈ lw_tbl := List.mem_of_getElem? (i := 679) rfl
set_option maxRecDepth 20000 in
theorem qM_AL_66 : (Jvm.Cond.methodLink "java/util/ArrayList" (66 : Nat) ({ cls := "java/util/Arrays", name := "copyOf", desc := "([Ljava/lang/Object;I)[Ljava/lang/Object;" } : Jvm.MethodName)) ∈ lw_tbl := List.mem_of_getElem? (i := 680) (by decide +kernel)
set_option maxRecDepth 20000 in
theorem qS_Ar_copyOf_2 : (Jvm.Cond.static ({ cls := "java/util/Arrays", name := "copyOf", desc := "([Ljava/lang/Object;I)[Ljava/lang/Object;" } : Jvm.MethodName)) ∈ lw_tbl := List.mem_of_getElem? (i := 681) (by decide +kernel)
set_option maxRecDepth 20000 in
theorem qC_Ar_copyOf_2 : (Jvm.Cond.code ({ cls := "java/util/Arrays", name := "copyOf", desc := "([Ljava/lang/Object;I)[Ljava/lang/Object;" } : Jvm.MethodName) prog_38_method_119_code (2 : Nat) (Option.some (Jvm.ClassFile.FieldType.array (Jvm.ClassFile.FieldType.object "java/lang/Object")))) ∈ lw_tbl := List.mem_of_getElem? (i := 682) rfl
set_option maxRecDepth 20000 in
theorem qM_Ar_86 : (Jvm.Cond.methodLink "java/util/Arrays" (86 : Nat) ({ cls := "java/lang/Object", name := "getClass", desc := "()Ljava/lang/Class;" } : Jvm.MethodName)) ∈ lw_tbl := List.mem_of_getElem? (i := 683) (by decide +kernel)
set_option maxRecDepth 20000 in
theorem qI_Oj_getClass_6a1d : (Jvm.Cond.instanceMethod ({ cls := "java/lang/Object", name := "getClass", desc := "()Ljava/lang/Class;" } : Jvm.MethodName)) ∈ lw_tbl := List.mem_of_getElem? (i := 684) (by decide +kernel)
set_option maxRecDepth 20000 in
theorem qSm_Oj_javalangObject_getClass_LjavalangClass : (Jvm.Cond.sameMethod "java/lang/Object" "java/lang/Object" "getClass" "()Ljava/lang/Class;") ∈ lw_tbl := List.mem_of_getElem? (i := 685) (by decide +kernel)
set_option maxRecDepth 20000 in
theorem qV_Tb_Oj_getClass_6a1d : (Jvm.Cond.selects "Threeboxes" ({ cls := "java/lang/Object", name := "getClass", desc := "()Ljava/lang/Class;" } : Jvm.MethodName) ({ cls := "java/lang/Object", name := "getClass", desc := "()Ljava/lang/Class;" } : Jvm.MethodName)) ∈ lw_tbl := List.mem_of_getElem? (i := 686) (by decide +kernel)
set_option maxRecDepth 20000 in
theorem qV_Cu_Oj_getClass_6a1d : (Jvm.Cond.selects "Threeboxes$Curve" ({ cls := "java/lang/Object", name := "getClass", desc := "()Ljava/lang/Class;" } : Jvm.MethodName) ({ cls := "java/lang/Object", name := "getClass", desc := "()Ljava/lang/Class;" } : Jvm.MethodName)) ∈ lw_tbl := List.mem_of_getElem? (i := 687) (by decide +kernel)
set_option maxRecDepth 20000 in
theorem qV_Gr_Oj_getClass_6a1d : (Jvm.Cond.selects "Threeboxes$Group" ({ cls := "java/lang/Object", name := "getClass", desc := "()Ljava/lang/Class;" } : Jvm.MethodName) ({ cls := "java/lang/Object", name := "getClass", desc := "()Ljava/lang/Class;" } : Jvm.MethodName)) ∈ lw_tbl := List.mem_of_getElem? (i := 688) (by decide +kernel)
set_option maxRecDepth 20000 in
theorem qV_Ke_Oj_getClass_6a1d : (Jvm.Cond.selects "Threeboxes$Keeper" ({ cls := "java/lang/Object", name := "getClass", desc := "()Ljava/lang/Class;" } : Jvm.MethodName) ({ cls := "java/lang/Object", name := "getClass", desc := "()Ljava/lang/Class;" } : Jvm.MethodName)) ∈ lw_tbl := List.mem_of_getElem? (i := 689) (by decide +kernel)
set_option maxRecDepth 20000 in
theorem qV_Re_Oj_getClass_6a1d : (Jvm.Cond.selects "Threeboxes$Register" ({ cls := "java/lang/Object", name := "getClass", desc := "()Ljava/lang/Class;" } : Jvm.MethodName) ({ cls := "java/lang/Object", name := "getClass", desc := "()Ljava/lang/Class;" } : Jvm.MethodName)) ∈ lw_tbl := List.mem_of_getElem? (i := 690) (by decide +kernel)
set_option maxRecDepth 20000 in
theorem qV_Se_Oj_getClass_6a1d : (Jvm.Cond.selects "Threeboxes$Secret" ({ cls := "java/lang/Object", name := "getClass", desc := "()Ljava/lang/Class;" } : Jvm.MethodName) ({ cls := "java/lang/Object", name := "getClass", desc := "()Ljava/lang/Class;" } : Jvm.MethodName)) ∈ lw_tbl := List.mem_of_getElem? (i := 691) (by decide +kernel)
set_option maxRecDepth 20000 in
theorem qV_Ou_Oj_getClass_6a1d : (Jvm.Cond.selects "ThreeboxesLaw$Out" ({ cls := "java/lang/Object", name := "getClass", desc := "()Ljava/lang/Class;" } : Jvm.MethodName) ({ cls := "java/lang/Object", name := "getClass", desc := "()Ljava/lang/Class;" } : Jvm.MethodName)) ∈ lw_tbl := List.mem_of_getElem? (i := 692) (by decide +kernel)
set_option maxRecDepth 20000 in
theorem qV_Mo_Oj_getClass_6a1d : (Jvm.Cond.selects "ThreeboxesModel" ({ cls := "java/lang/Object", name := "getClass", desc := "()Ljava/lang/Class;" } : Jvm.MethodName) ({ cls := "java/lang/Object", name := "getClass", desc := "()Ljava/lang/Class;" } : Jvm.MethodName)) ∈ lw_tbl := List.mem_of_getElem? (i := 693) (by decide +kernel)
set_option maxRecDepth 20000 in
theorem qV_MK_Oj_getClass_6a1d : (Jvm.Cond.selects "ThreeboxesModel$Keeper" ({ cls := "java/lang/Object", name := "getClass", desc := "()Ljava/lang/Class;" } : Jvm.MethodName) ({ cls := "java/lang/Object", name := "getClass", desc := "()Ljava/lang/Class;" } : Jvm.MethodName)) ∈ lw_tbl := List.mem_of_getElem? (i := 694) (by decide +kernel)
set_option maxRecDepth 20000 in
theorem qV_MS_Oj_getClass_6a1d : (Jvm.Cond.selects "ThreeboxesModel$Secret" ({ cls := "java/lang/Object", name := "getClass", desc := "()Ljava/lang/Class;" } : Jvm.MethodName) ({ cls := "java/lang/Object", name := "getClass", desc := "()Ljava/lang/Class;" } : Jvm.MethodName)) ∈ lw_tbl := List.mem_of_getElem? (i := 695) (by decide +kernel)
set_option maxRecDepth 20000 in
theorem qV_IAE_Oj_getClass_6a1d : (Jvm.Cond.selects "java/lang/IllegalArgumentException" ({ cls := "java/lang/Object", name := "getClass", desc := "()Ljava/lang/Class;" } : Jvm.MethodName) ({ cls := "java/lang/Object", name := "getClass", desc := "()Ljava/lang/Class;" } : Jvm.MethodName)) ∈ lw_tbl := List.mem_of_getElem? (i := 696) (by decide +kernel)
set_option maxRecDepth 20000 in
theorem qV_ISE_Oj_getClass_6a1d : (Jvm.Cond.selects "java/lang/IllegalStateException" ({ cls := "java/lang/Object", name := "getClass", desc := "()Ljava/lang/Class;" } : Jvm.MethodName) ({ cls := "java/lang/Object", name := "getClass", desc := "()Ljava/lang/Class;" } : Jvm.MethodName)) ∈ lw_tbl := List.mem_of_getElem? (i := 697) (by decide +kernel)
set_option maxRecDepth 20000 in
theorem qV_IOE_Oj_getClass_6a1d : (Jvm.Cond.selects "java/lang/IndexOutOfBoundsException" ({ cls := "java/lang/Object", name := "getClass", desc := "()Ljava/lang/Class;" } : Jvm.MethodName) ({ cls := "java/lang/Object", name := "getClass", desc := "()Ljava/lang/Class;" } : Jvm.MethodName)) ∈ lw_tbl := List.mem_of_getElem? (i := 698) (by decide +kernel)
set_option maxRecDepth 20000 in
theorem qV_St_Oj_getClass_6a1d : (Jvm.Cond.selects "java/lang/String" ({ cls := "java/lang/Object", name := "getClass", desc := "()Ljava/lang/Class;" } : Jvm.MethodName) ({ cls := "java/lang/Object", name := "getClass", desc := "()Ljava/lang/Class;" } : Jvm.MethodName)) ∈ lw_tbl := List.mem_of_getElem? (i := 699) (by decide +kernel)
set_option maxRecDepth 20000 in
theorem qV_SB_Oj_getClass_6a1d : (Jvm.Cond.selects "java/lang/StringBuilder" ({ cls := "java/lang/Object", name := "getClass", desc := "()Ljava/lang/Class;" } : Jvm.MethodName) ({ cls := "java/lang/Object", name := "getClass", desc := "()Ljava/lang/Class;" } : Jvm.MethodName)) ∈ lw_tbl := List.mem_of_getElem? (i := 700) (by decide +kernel)
set_option maxRecDepth 20000 in
theorem qV_AL_Oj_getClass_6a1d : (Jvm.Cond.selects "java/util/ArrayList" ({ cls := "java/lang/Object", name := "getClass", desc := "()Ljava/lang/Class;" } : Jvm.MethodName) ({ cls := "java/lang/Object", name := "getClass", desc := "()Ljava/lang/Class;" } : Jvm.MethodName)) ∈ lw_tbl := List.mem_of_getElem? (i := 701) (by decide +kernel)
set_option maxRecDepth 20000 in
theorem qNa_Oj_getClass_6a1d : (Jvm.Cond.native ({ cls := "java/lang/Object", name := "getClass", desc := "()Ljava/lang/Class;" } : Jvm.MethodName)) ∈ lw_tbl := List.mem_of_getElem? (i := 702) (by decide +kernel)
set_option maxRecDepth 20000 in
theorem qM_Ar_300 : (Jvm.Cond.methodLink "java/util/Arrays" (300 : Nat) ({ cls := "java/util/Arrays", name := "copyOf", desc := "([Ljava/lang/Object;ILjava/lang/Class;)[Ljava/lang/Object;" } : Jvm.MethodName)) ∈ lw_tbl := List.mem_of_getElem? (i := 703) (by decide +kernel)
set_option maxRecDepth 20000 in
theorem qS_Ar_copyOf_3 : (Jvm.Cond.static ({ cls := "java/util/Arrays", name := "copyOf", desc := "([Ljava/lang/Object;ILjava/lang/Class;)[Ljava/lang/Object;" } : Jvm.MethodName)) ∈ lw_tbl := List.mem_of_getElem? (i := 704) (by decide +kernel)
set_option maxRecDepth 20000 in
theorem qC_Ar_copyOf_3 : (Jvm.Cond.code ({ cls := "java/util/Arrays", name := "copyOf", desc := "([Ljava/lang/Object;ILjava/lang/Class;)[Ljava/lang/Object;" } : Jvm.MethodName) prog_38_method_120_code (4 : Nat) (Option.some (Jvm.ClassFile.FieldType.array (Jvm.ClassFile.FieldType.object "java/lang/Object")))) ∈ lw_tbl := List.mem_of_getElem? (i := 705) rfl
set_option maxRecDepth 20000 in
theorem qK_Ar_110 : (Jvm.Cond.classLink "java/util/Arrays" (110 : Nat) "[Ljava/lang/Object;") ∈ lw_tbl := List.mem_of_getElem? (i := 706) (by decide +kernel)
set_option maxRecDepth 20000 in
theorem qAo_objectjavalangObject : (Jvm.Cond.arrayOver (Jvm.ClassFile.FieldType.object "java/lang/Object")) ∈ lw_tbl := List.mem_of_getElem? (i := 707) (by decide +kernel)
set_option maxRecDepth 20000 in
theorem qK_Ar_2 : (Jvm.Cond.classLink "java/util/Arrays" (2 : Nat) "java/lang/Object") ∈ lw_tbl := List.mem_of_getElem? (i := 708) (by decide +kernel)
set_option maxRecDepth 20000 in
theorem qM_Ar_304 : (Jvm.Cond.methodLink "java/util/Arrays" (304 : Nat) ({ cls := "java/lang/Math", name := "min", desc := "(II)I" } : Jvm.MethodName)) ∈ lw_tbl := List.mem_of_getElem? (i := 709) (by decide +kernel)
set_option maxRecDepth 20000 in
theorem qS_Ma_min : (Jvm.Cond.static ({ cls := "java/lang/Math", name := "min", desc := "(II)I" } : Jvm.MethodName)) ∈ lw_tbl := List.mem_of_getElem? (i := 710) (by decide +kernel)
set_option maxRecDepth 20000 in
theorem qC_Ma_min : (Jvm.Cond.code ({ cls := "java/lang/Math", name := "min", desc := "(II)I" } : Jvm.MethodName) prog_24_method_69_code (2 : Nat) (Option.some Jvm.ClassFile.FieldType.int)) ∈ lw_tbl := List.mem_of_getElem? (i := 711) rfl
set_option maxRecDepth 20000 in
theorem qM_Ar_150 : (Jvm.Cond.methodLink "java/util/Arrays" (150 : Nat) ({ cls := "java/lang/System", name := "arraycopy", desc := "(Ljava/lang/Object;ILjava/lang/Object;II)V" } : Jvm.MethodName)) ∈ lw_tbl := List.mem_of_getElem? (i := 712) (by decide +kernel)
set_option maxRecDepth 20000 in
theorem qS_Sy_arraycopy_8b78 : (Jvm.Cond.static ({ cls := "java/lang/System", name := "arraycopy", desc := "(Ljava/lang/Object;ILjava/lang/Object;II)V" } : Jvm.MethodName)) ∈ lw_tbl := List.mem_of_getElem? (i := 713) (by decide +kernel)
set_option maxRecDepth 20000 in
theorem qNa_Sy_arraycopy_8b78 : (Jvm.Cond.native ({ cls := "java/lang/System", name := "arraycopy", desc := "(Ljava/lang/Object;ILjava/lang/Object;II)V" } : Jvm.MethodName)) ∈ lw_tbl := List.mem_of_getElem? (i := 714) (by decide +kernel)
set_option maxRecDepth 20000 in
theorem qM_AL_79 : (Jvm.Cond.methodLink "java/util/ArrayList" (79 : Nat) ({ cls := "java/lang/Math", name := "max", desc := "(II)I" } : Jvm.MethodName)) ∈ lw_tbl := List.mem_of_getElem? (i := 715) (by decide +kernel)
set_option maxRecDepth 20000 in
theorem qK_AL_7 : (Jvm.Cond.classLink "java/util/ArrayList" (7 : Nat) "java/lang/Object") ∈ lw_tbl := List.mem_of_getElem? (i := 716) (by decide +kernel)
set_option maxRecDepth 20000 in
theorem qM_La_112 : (Jvm.Cond.methodLink "ThreeboxesLaw" (112 : Nat) ({ cls := "ThreeboxesLaw", name := "lie", desc := "(LThreeboxes;IILThreeboxesLaw$Out;)I" } : Jvm.MethodName)) ∈ lw_tbl := List.mem_of_getElem? (i := 717) (by decide +kernel)
set_option maxRecDepth 20000 in
theorem qS_La_lie : (Jvm.Cond.static ({ cls := "ThreeboxesLaw", name := "lie", desc := "(LThreeboxes;IILThreeboxesLaw$Out;)I" } : Jvm.MethodName)) ∈ lw_tbl := List.mem_of_getElem? (i := 718) (by decide +kernel)
set_option maxRecDepth 20000 in
theorem qCw_La_lie : (Jvm.Cond.codeWith ({ cls := "ThreeboxesLaw", name := "lie", desc := "(LThreeboxes;IILThreeboxesLaw$Out;)I" } : Jvm.MethodName) method_3_code (5 : Nat) (Option.some Jvm.ClassFile.FieldType.int) [((0 : Nat), (11 : Nat), (14 : Nat), (27 : Nat)), ((0 : Nat), (11 : Nat), (18 : Nat), (19 : Nat))]) ∈ lw_tbl := List.mem_of_getElem? (i := 719) rfl
set_option maxRecDepth 20000 in
theorem qK_La_27 : (Jvm.Cond.classLink "ThreeboxesLaw" (27 : Nat) "java/lang/IndexOutOfBoundsException") ∈ lw_tbl := List.mem_of_getElem? (i := 720) (by decide +kernel)
set_option maxRecDepth 20000 in
theorem qM_La_23 : (Jvm.Cond.methodLink "ThreeboxesLaw" (23 : Nat) ({ cls := "Threeboxes", name := "lie", desc := "(II)I" } : Jvm.MethodName)) ∈ lw_tbl := List.mem_of_getElem? (i := 721) (by decide +kernel)
set_option maxRecDepth 20000 in
theorem qI_Tb_lie : (Jvm.Cond.instanceMethod ({ cls := "Threeboxes", name := "lie", desc := "(II)I" } : Jvm.MethodName)) ∈ lw_tbl := List.mem_of_getElem? (i := 722) (by decide +kernel)
set_option maxRecDepth 20000 in
theorem qV_Tb_Tb_lie : (Jvm.Cond.selects "Threeboxes" ({ cls := "Threeboxes", name := "lie", desc := "(II)I" } : Jvm.MethodName) ({ cls := "Threeboxes", name := "lie", desc := "(II)I" } : Jvm.MethodName)) ∈ lw_tbl := List.mem_of_getElem? (i := 723) (by decide +kernel)
set_option maxRecDepth 20000 in
theorem qC_Tb_lie : (Jvm.Cond.code ({ cls := "Threeboxes", name := "lie", desc := "(II)I" } : Jvm.MethodName) prog_1_method_3_code (5 : Nat) (Option.some Jvm.ClassFile.FieldType.int)) ∈ lw_tbl := List.mem_of_getElem? (i := 724) rfl
set_option maxRecDepth 20000 in
theorem qM_Tb_86 : (Jvm.Cond.methodLink "Threeboxes" (86 : Nat) ({ cls := "Threeboxes", name := "keeperAt", desc := "(I)LThreeboxes$Keeper;" } : Jvm.MethodName)) ∈ lw_tbl := List.mem_of_getElem? (i := 725) (by decide +kernel)
set_option maxRecDepth 20000 in
theorem qI_Tb_keeperAt : (Jvm.Cond.instanceMethod ({ cls := "Threeboxes", name := "keeperAt", desc := "(I)LThreeboxes$Keeper;" } : Jvm.MethodName)) ∈ lw_tbl := List.mem_of_getElem? (i := 727) (by decide +kernel)
set_option maxRecDepth 20000 in
theorem qC_Tb_keeperAt : (Jvm.Cond.code ({ cls := "Threeboxes", name := "keeperAt", desc := "(I)LThreeboxes$Keeper;" } : Jvm.MethodName) prog_1_method_34_code (2 : Nat) (Option.some (Jvm.ClassFile.FieldType.object "Threeboxes$Keeper"))) ∈ lw_tbl := List.mem_of_getElem? (i := 728) rfl
set_option maxRecDepth 20000 in
theorem qK_Tb_161 : (Jvm.Cond.classLink "Threeboxes" (161 : Nat) "java/lang/IndexOutOfBoundsException") ∈ lw_tbl := List.mem_of_getElem? (i := 729) (by decide +kernel)
set_option maxRecDepth 20000 in
theorem qO_IOE : (Jvm.Cond.instantiable "java/lang/IndexOutOfBoundsException" (6 : Nat)) ∈ lw_tbl := List.mem_of_getElem? (i := 730) (by decide +kernel)
set_option maxRecDepth 20000 in
theorem qT_IOE_IOE : (Jvm.Cond.castable "java/lang/IndexOutOfBoundsException" "java/lang/IndexOutOfBoundsException") ∈ lw_tbl := List.mem_of_getElem? (i := 731) (by decide +kernel)
set_option maxRecDepth 20000 in
theorem qV_IOE_Th_fillInStackTrace_a1a2 : (Jvm.Cond.selects "java/lang/IndexOutOfBoundsException" ({ cls := "java/lang/Throwable", name := "fillInStackTrace", desc := "(I)Ljava/lang/Throwable;" } : Jvm.MethodName) ({ cls := "java/lang/Throwable", name := "fillInStackTrace", desc := "(I)Ljava/lang/Throwable;" } : Jvm.MethodName)) ∈ lw_tbl := List.mem_of_getElem? (i := 732) (by decide +kernel)
set_option maxRecDepth 20000 in
theorem qR_Tb_338 : (Jvm.Cond.stringRef "Threeboxes" (338 : Nat) "no such keeper") ∈ lw_tbl := List.mem_of_getElem? (i := 738) (by decide +kernel)
set_option maxRecDepth 20000 in
theorem qM_Tb_165 : (Jvm.Cond.methodLink "Threeboxes" (165 : Nat) ({ cls := "java/lang/IndexOutOfBoundsException", name := "<init>", desc := "(Ljava/lang/String;)V" } : Jvm.MethodName)) ∈ lw_tbl := List.mem_of_getElem? (i := 739) (by decide +kernel)
set_option maxRecDepth 20000 in
theorem qI_IOE_init_7bbb : (Jvm.Cond.instanceMethod ({ cls := "java/lang/IndexOutOfBoundsException", name := "<init>", desc := "(Ljava/lang/String;)V" } : Jvm.MethodName)) ∈ lw_tbl := List.mem_of_getElem? (i := 740) (by decide +kernel)
set_option maxRecDepth 20000 in
theorem qC_IOE_init_7bbb : (Jvm.Cond.code ({ cls := "java/lang/IndexOutOfBoundsException", name := "<init>", desc := "(Ljava/lang/String;)V" } : Jvm.MethodName) prog_21_method_2_code (2 : Nat) (Option.none : Option Jvm.ClassFile.FieldType)) ∈ lw_tbl := List.mem_of_getElem? (i := 741) rfl
set_option maxRecDepth 20000 in
theorem qM_IOE_7 : (Jvm.Cond.methodLink "java/lang/IndexOutOfBoundsException" (7 : Nat) ({ cls := "java/lang/RuntimeException", name := "<init>", desc := "(Ljava/lang/String;)V" } : Jvm.MethodName)) ∈ lw_tbl := List.mem_of_getElem? (i := 742) (by decide +kernel)
set_option maxRecDepth 20000 in
theorem qSc_IOE_RE : (Jvm.Cond.superclass "java/lang/IndexOutOfBoundsException" "java/lang/RuntimeException") ∈ lw_tbl := List.mem_of_getElem? (i := 744) (by decide +kernel)
set_option maxRecDepth 20000 in
theorem qR_Tb_94 : (Jvm.Cond.stringRef "Threeboxes" (94 : Nat) "a lie is 0 to 96") ∈ lw_tbl := List.mem_of_getElem? (i := 745) (by decide +kernel)
set_option maxRecDepth 20000 in
theorem qM_La_116 : (Jvm.Cond.methodLink "ThreeboxesLaw" (116 : Nat) ({ cls := "ThreeboxesLaw", name := "deal", desc := "(LThreeboxes;IIIIILThreeboxesLaw$Out;)I" } : Jvm.MethodName)) ∈ lw_tbl := List.mem_of_getElem? (i := 746) (by decide +kernel)
set_option maxRecDepth 20000 in
theorem qS_La_deal : (Jvm.Cond.static ({ cls := "ThreeboxesLaw", name := "deal", desc := "(LThreeboxes;IIIIILThreeboxesLaw$Out;)I" } : Jvm.MethodName)) ∈ lw_tbl := List.mem_of_getElem? (i := 747) (by decide +kernel)
set_option maxRecDepth 20000 in
theorem qCw_La_deal : (Jvm.Cond.codeWith ({ cls := "ThreeboxesLaw", name := "deal", desc := "(LThreeboxes;IIIIILThreeboxesLaw$Out;)I" } : Jvm.MethodName) method_4_code (8 : Nat) (Option.some Jvm.ClassFile.FieldType.int) [((0 : Nat), (17 : Nat), (20 : Nat), (19 : Nat)), ((0 : Nat), (17 : Nat), (24 : Nat), (21 : Nat))]) ∈ lw_tbl := List.mem_of_getElem? (i := 748) rfl
set_option maxRecDepth 20000 in
theorem qM_La_29 : (Jvm.Cond.methodLink "ThreeboxesLaw" (29 : Nat) ({ cls := "Threeboxes", name := "deal", desc := "(IIIII)I" } : Jvm.MethodName)) ∈ lw_tbl := List.mem_of_getElem? (i := 749) (by decide +kernel)
set_option maxRecDepth 20000 in
theorem qI_Tb_deal : (Jvm.Cond.instanceMethod ({ cls := "Threeboxes", name := "deal", desc := "(IIIII)I" } : Jvm.MethodName)) ∈ lw_tbl := List.mem_of_getElem? (i := 750) (by decide +kernel)
set_option maxRecDepth 20000 in
theorem qV_Tb_Tb_deal : (Jvm.Cond.selects "Threeboxes" ({ cls := "Threeboxes", name := "deal", desc := "(IIIII)I" } : Jvm.MethodName) ({ cls := "Threeboxes", name := "deal", desc := "(IIIII)I" } : Jvm.MethodName)) ∈ lw_tbl := List.mem_of_getElem? (i := 751) (by decide +kernel)
set_option maxRecDepth 20000 in
theorem qC_Tb_deal : (Jvm.Cond.code ({ cls := "Threeboxes", name := "deal", desc := "(IIIII)I" } : Jvm.MethodName) prog_1_method_4_code (8 : Nat) (Option.some Jvm.ClassFile.FieldType.int)) ∈ lw_tbl := List.mem_of_getElem? (i := 752) rfl
set_option maxRecDepth 20000 in
theorem qR_Tb_99 : (Jvm.Cond.stringRef "Threeboxes" (99 : Nat) "no such value, threshold, zones or date") ∈ lw_tbl := List.mem_of_getElem? (i := 753) (by decide +kernel)
set_option maxRecDepth 20000 in
theorem qM_Tb_101 : (Jvm.Cond.methodLink "Threeboxes" (101 : Nat) ({ cls := "Threeboxes", name := "needSet", desc := "(I)V" } : Jvm.MethodName)) ∈ lw_tbl := List.mem_of_getElem? (i := 754) (by decide +kernel)
set_option maxRecDepth 20000 in
theorem qI_Tb_needSet : (Jvm.Cond.instanceMethod ({ cls := "Threeboxes", name := "needSet", desc := "(I)V" } : Jvm.MethodName)) ∈ lw_tbl := List.mem_of_getElem? (i := 756) (by decide +kernel)
set_option maxRecDepth 20000 in
theorem qC_Tb_needSet : (Jvm.Cond.code ({ cls := "Threeboxes", name := "needSet", desc := "(I)V" } : Jvm.MethodName) prog_1_method_32_code (2 : Nat) (Option.none : Option Jvm.ClassFile.FieldType)) ∈ lw_tbl := List.mem_of_getElem? (i := 757) rfl
set_option maxRecDepth 20000 in
theorem qR_Tb_334 : (Jvm.Cond.stringRef "Threeboxes" (334 : Nat) "no set of keepers that there are") ∈ lw_tbl := List.mem_of_getElem? (i := 758) (by decide +kernel)
set_option maxRecDepth 20000 in
theorem qR_Tb_111 : (Jvm.Cond.stringRef "Threeboxes" (111 : Nat) "fewer keepers than the threshold") ∈ lw_tbl := List.mem_of_getElem? (i := 759) (by decide +kernel)
set_option maxRecDepth 20000 in
theorem qR_Tb_113 : (Jvm.Cond.stringRef "Threeboxes" (113 : Nat) "there are 6 secrets") ∈ lw_tbl := List.mem_of_getElem? (i := 760) (by decide +kernel)
set_option maxRecDepth 20000 in
theorem qO_Se : (Jvm.Cond.instantiable "Threeboxes$Secret" (8 : Nat)) ∈ lw_tbl := List.mem_of_getElem? (i := 761) (by decide +kernel)
set_option maxRecDepth 20000 in
theorem qM_Tb_117 : (Jvm.Cond.methodLink "Threeboxes" (117 : Nat) ({ cls := "Threeboxes$Secret", name := "<init>", desc := "(III)V" } : Jvm.MethodName)) ∈ lw_tbl := List.mem_of_getElem? (i := 762) (by decide +kernel)
set_option maxRecDepth 20000 in
theorem qI_Se_init : (Jvm.Cond.instanceMethod ({ cls := "Threeboxes$Secret", name := "<init>", desc := "(III)V" } : Jvm.MethodName)) ∈ lw_tbl := List.mem_of_getElem? (i := 763) (by decide +kernel)
set_option maxRecDepth 20000 in
theorem qC_Se_init : (Jvm.Cond.code ({ cls := "Threeboxes$Secret", name := "<init>", desc := "(III)V" } : Jvm.MethodName) prog_6_method_1_code (5 : Nat) (Option.none : Option Jvm.ClassFile.FieldType)) ∈ lw_tbl := List.mem_of_getElem? (i := 764) rfl
set_option maxRecDepth 20000 in
theorem qM_Se_3 : (Jvm.Cond.methodLink "Threeboxes$Secret" (3 : Nat) ({ cls := "java/lang/Object", name := "<init>", desc := "()V" } : Jvm.MethodName)) ∈ lw_tbl := List.mem_of_getElem? (i := 765) (by decide +kernel)
set_option maxRecDepth 20000 in
theorem qF_Se_9 : (Jvm.Cond.fieldLink "Threeboxes$Secret" (9 : Nat) "Threeboxes$Secret" "threshold" "I") ∈ lw_tbl := List.mem_of_getElem? (i := 766) (by decide +kernel)
set_option maxRecDepth 20000 in
theorem qF_Tb_147 : (Jvm.Cond.fieldLink "Threeboxes" (147 : Nat) "Threeboxes$Secret" "threshold" "I") ∈ lw_tbl := List.mem_of_getElem? (i := 767) (by decide +kernel)
set_option maxRecDepth 20000 in
theorem qF_Se_15 : (Jvm.Cond.fieldLink "Threeboxes$Secret" (15 : Nat) "Threeboxes$Secret" "zones" "I") ∈ lw_tbl := List.mem_of_getElem? (i := 768) (by decide +kernel)
set_option maxRecDepth 20000 in
theorem qF_Tb_357 : (Jvm.Cond.fieldLink "Threeboxes" (357 : Nat) "Threeboxes$Secret" "zones" "I") ∈ lw_tbl := List.mem_of_getElem? (i := 769) (by decide +kernel)
set_option maxRecDepth 20000 in
theorem qF_Se_18 : (Jvm.Cond.fieldLink "Threeboxes$Secret" (18 : Nat) "Threeboxes$Secret" "date" "I") ∈ lw_tbl := List.mem_of_getElem? (i := 770) (by decide +kernel)
set_option maxRecDepth 20000 in
theorem qF_Tb_360 : (Jvm.Cond.fieldLink "Threeboxes" (360 : Nat) "Threeboxes$Secret" "date" "I") ∈ lw_tbl := List.mem_of_getElem? (i := 771) (by decide +kernel)
set_option maxRecDepth 20000 in
theorem qF_Se_21 : (Jvm.Cond.fieldLink "Threeboxes$Secret" (21 : Nat) "Threeboxes$Secret" "shares" "[I") ∈ lw_tbl := List.mem_of_getElem? (i := 772) (by decide +kernel)
set_option maxRecDepth 20000 in
theorem qF_Se_25 : (Jvm.Cond.fieldLink "Threeboxes$Secret" (25 : Nat) "Threeboxes$Secret" "epochs" "[I") ∈ lw_tbl := List.mem_of_getElem? (i := 773) (by decide +kernel)
set_option maxRecDepth 20000 in
theorem qF_Se_28 : (Jvm.Cond.fieldLink "Threeboxes$Secret" (28 : Nat) "Threeboxes$Secret" "epoch" "I") ∈ lw_tbl := List.mem_of_getElem? (i := 774) (by decide +kernel)
set_option maxRecDepth 20000 in
theorem qF_Tb_152 : (Jvm.Cond.fieldLink "Threeboxes" (152 : Nat) "Threeboxes$Secret" "epoch" "I") ∈ lw_tbl := List.mem_of_getElem? (i := 775) (by decide +kernel)
set_option maxRecDepth 20000 in
theorem qF_Se_31 : (Jvm.Cond.fieldLink "Threeboxes$Secret" (31 : Nat) "Threeboxes$Secret" "frozenBy" "I") ∈ lw_tbl := List.mem_of_getElem? (i := 776) (by decide +kernel)
set_option maxRecDepth 20000 in
theorem qF_Tb_213 : (Jvm.Cond.fieldLink "Threeboxes" (213 : Nat) "Threeboxes$Secret" "frozenBy" "I") ∈ lw_tbl := List.mem_of_getElem? (i := 777) (by decide +kernel)
set_option maxRecDepth 20000 in
theorem qF_Se_34 : (Jvm.Cond.fieldLink "Threeboxes$Secret" (34 : Nat) "Threeboxes$Secret" "isByLiars" "Z") ∈ lw_tbl := List.mem_of_getElem? (i := 778) (by decide +kernel)
set_option maxRecDepth 20000 in
theorem qF_Tb_206 : (Jvm.Cond.fieldLink "Threeboxes" (206 : Nat) "Threeboxes$Secret" "isByLiars" "Z") ∈ lw_tbl := List.mem_of_getElem? (i := 779) (by decide +kernel)
set_option maxRecDepth 20000 in
theorem qSc_Se_Oj : (Jvm.Cond.superclass "Threeboxes$Secret" "java/lang/Object") ∈ lw_tbl := List.mem_of_getElem? (i := 796) (by decide +kernel)
set_option maxRecDepth 20000 in
theorem qM_Tb_120 : (Jvm.Cond.methodLink "Threeboxes" (120 : Nat) ({ cls := "Threeboxes$Curve", name := "draw", desc := "(II)V" } : Jvm.MethodName)) ∈ lw_tbl := List.mem_of_getElem? (i := 797) (by decide +kernel)
set_option maxRecDepth 20000 in
theorem qI_Cu_draw : (Jvm.Cond.instanceMethod ({ cls := "Threeboxes$Curve", name := "draw", desc := "(II)V" } : Jvm.MethodName)) ∈ lw_tbl := List.mem_of_getElem? (i := 798) (by decide +kernel)
set_option maxRecDepth 20000 in
theorem qV_Cu_Cu_draw : (Jvm.Cond.selects "Threeboxes$Curve" ({ cls := "Threeboxes$Curve", name := "draw", desc := "(II)V" } : Jvm.MethodName) ({ cls := "Threeboxes$Curve", name := "draw", desc := "(II)V" } : Jvm.MethodName)) ∈ lw_tbl := List.mem_of_getElem? (i := 799) (by decide +kernel)
set_option maxRecDepth 20000 in
theorem qC_Cu_draw : (Jvm.Cond.code ({ cls := "Threeboxes$Curve", name := "draw", desc := "(II)V" } : Jvm.MethodName) prog_2_method_2_code (4 : Nat) (Option.none : Option Jvm.ClassFile.FieldType)) ∈ lw_tbl := List.mem_of_getElem? (i := 800) rfl
set_option maxRecDepth 20000 in
theorem qM_Cu_19 : (Jvm.Cond.methodLink "Threeboxes$Curve" (19 : Nat) ({ cls := "Threeboxes$Curve", name := "nextNumber", desc := "()I" } : Jvm.MethodName)) ∈ lw_tbl := List.mem_of_getElem? (i := 801) (by decide +kernel)
set_option maxRecDepth 20000 in
theorem qI_Cu_nextNumber : (Jvm.Cond.instanceMethod ({ cls := "Threeboxes$Curve", name := "nextNumber", desc := "()I" } : Jvm.MethodName)) ∈ lw_tbl := List.mem_of_getElem? (i := 803) (by decide +kernel)
set_option maxRecDepth 20000 in
theorem qC_Cu_nextNumber : (Jvm.Cond.code ({ cls := "Threeboxes$Curve", name := "nextNumber", desc := "()I" } : Jvm.MethodName) prog_2_method_3_code (1 : Nat) (Option.some Jvm.ClassFile.FieldType.int)) ∈ lw_tbl := List.mem_of_getElem? (i := 804) rfl
set_option maxRecDepth 20000 in
theorem qM_Tb_131 : (Jvm.Cond.methodLink "Threeboxes" (131 : Nat) ({ cls := "Threeboxes$Curve", name := "at", desc := "(I)I" } : Jvm.MethodName)) ∈ lw_tbl := List.mem_of_getElem? (i := 805) (by decide +kernel)
set_option maxRecDepth 20000 in
theorem qI_Cu_at : (Jvm.Cond.instanceMethod ({ cls := "Threeboxes$Curve", name := "at", desc := "(I)I" } : Jvm.MethodName)) ∈ lw_tbl := List.mem_of_getElem? (i := 806) (by decide +kernel)
set_option maxRecDepth 20000 in
theorem qV_Cu_Cu_at : (Jvm.Cond.selects "Threeboxes$Curve" ({ cls := "Threeboxes$Curve", name := "at", desc := "(I)I" } : Jvm.MethodName) ({ cls := "Threeboxes$Curve", name := "at", desc := "(I)I" } : Jvm.MethodName)) ∈ lw_tbl := List.mem_of_getElem? (i := 807) (by decide +kernel)
set_option maxRecDepth 20000 in
theorem qC_Cu_at : (Jvm.Cond.code ({ cls := "Threeboxes$Curve", name := "at", desc := "(I)I" } : Jvm.MethodName) prog_2_method_4_code (4 : Nat) (Option.some Jvm.ClassFile.FieldType.int)) ∈ lw_tbl := List.mem_of_getElem? (i := 808) rfl
set_option maxRecDepth 20000 in
theorem qM_Tb_134 : (Jvm.Cond.methodLink "Threeboxes" (134 : Nat) ({ cls := "Threeboxes$Secret", name := "hold", desc := "(II)V" } : Jvm.MethodName)) ∈ lw_tbl := List.mem_of_getElem? (i := 809) (by decide +kernel)
set_option maxRecDepth 20000 in
theorem qI_Se_hold : (Jvm.Cond.instanceMethod ({ cls := "Threeboxes$Secret", name := "hold", desc := "(II)V" } : Jvm.MethodName)) ∈ lw_tbl := List.mem_of_getElem? (i := 810) (by decide +kernel)
set_option maxRecDepth 20000 in
theorem qV_Se_Se_hold : (Jvm.Cond.selects "Threeboxes$Secret" ({ cls := "Threeboxes$Secret", name := "hold", desc := "(II)V" } : Jvm.MethodName) ({ cls := "Threeboxes$Secret", name := "hold", desc := "(II)V" } : Jvm.MethodName)) ∈ lw_tbl := List.mem_of_getElem? (i := 811) (by decide +kernel)
set_option maxRecDepth 20000 in
theorem qC_Se_hold : (Jvm.Cond.code ({ cls := "Threeboxes$Secret", name := "hold", desc := "(II)V" } : Jvm.MethodName) prog_6_method_7_code (3 : Nat) (Option.none : Option Jvm.ClassFile.FieldType)) ∈ lw_tbl := List.mem_of_getElem? (i := 812) rfl
set_option maxRecDepth 20000 in
theorem qM_Se_46 : (Jvm.Cond.methodLink "Threeboxes$Secret" (46 : Nat) ({ cls := "Threeboxes$Secret", name := "put", desc := "(III)V" } : Jvm.MethodName)) ∈ lw_tbl := List.mem_of_getElem? (i := 813) (by decide +kernel)
set_option maxRecDepth 20000 in
theorem qI_Se_put : (Jvm.Cond.instanceMethod ({ cls := "Threeboxes$Secret", name := "put", desc := "(III)V" } : Jvm.MethodName)) ∈ lw_tbl := List.mem_of_getElem? (i := 815) (by decide +kernel)
set_option maxRecDepth 20000 in
theorem qC_Se_put : (Jvm.Cond.code ({ cls := "Threeboxes$Secret", name := "put", desc := "(III)V" } : Jvm.MethodName) prog_6_method_9_code (4 : Nat) (Option.none : Option Jvm.ClassFile.FieldType)) ∈ lw_tbl := List.mem_of_getElem? (i := 816) rfl
set_option maxRecDepth 20000 in
theorem qM_Tb_137 : (Jvm.Cond.methodLink "Threeboxes" (137 : Nat) ({ cls := "Threeboxes$Register", name := "enter", desc := "(III)V" } : Jvm.MethodName)) ∈ lw_tbl := List.mem_of_getElem? (i := 817) (by decide +kernel)
set_option maxRecDepth 20000 in
theorem qI_Re_enter : (Jvm.Cond.instanceMethod ({ cls := "Threeboxes$Register", name := "enter", desc := "(III)V" } : Jvm.MethodName)) ∈ lw_tbl := List.mem_of_getElem? (i := 818) (by decide +kernel)
set_option maxRecDepth 20000 in
theorem qV_Re_Re_enter : (Jvm.Cond.selects "Threeboxes$Register" ({ cls := "Threeboxes$Register", name := "enter", desc := "(III)V" } : Jvm.MethodName) ({ cls := "Threeboxes$Register", name := "enter", desc := "(III)V" } : Jvm.MethodName)) ∈ lw_tbl := List.mem_of_getElem? (i := 819) (by decide +kernel)
set_option maxRecDepth 20000 in
theorem qC_Re_enter : (Jvm.Cond.code ({ cls := "Threeboxes$Register", name := "enter", desc := "(III)V" } : Jvm.MethodName) prog_5_method_4_code (6 : Nat) (Option.none : Option Jvm.ClassFile.FieldType)) ∈ lw_tbl := List.mem_of_getElem? (i := 820) rfl
set_option maxRecDepth 20000 in
theorem qM_La_120 : (Jvm.Cond.methodLink "ThreeboxesLaw" (120 : Nat) ({ cls := "ThreeboxesLaw", name := "fresh", desc := "(LThreeboxes;IILThreeboxesLaw$Out;)I" } : Jvm.MethodName)) ∈ lw_tbl := List.mem_of_getElem? (i := 821) (by decide +kernel)
set_option maxRecDepth 20000 in
theorem qS_La_fresh : (Jvm.Cond.static ({ cls := "ThreeboxesLaw", name := "fresh", desc := "(LThreeboxes;IILThreeboxesLaw$Out;)I" } : Jvm.MethodName)) ∈ lw_tbl := List.mem_of_getElem? (i := 822) (by decide +kernel)
set_option maxRecDepth 20000 in
theorem qCw_La_fresh : (Jvm.Cond.codeWith ({ cls := "ThreeboxesLaw", name := "fresh", desc := "(LThreeboxes;IILThreeboxesLaw$Out;)I" } : Jvm.MethodName) method_5_code (5 : Nat) (Option.some Jvm.ClassFile.FieldType.int) [((0 : Nat), (11 : Nat), (14 : Nat), (27 : Nat)), ((0 : Nat), (11 : Nat), (18 : Nat), (19 : Nat)), ((0 : Nat), (11 : Nat), (22 : Nat), (21 : Nat))]) ∈ lw_tbl := List.mem_of_getElem? (i := 823) rfl
set_option maxRecDepth 20000 in
theorem qM_La_33 : (Jvm.Cond.methodLink "ThreeboxesLaw" (33 : Nat) ({ cls := "Threeboxes", name := "fresh", desc := "(II)I" } : Jvm.MethodName)) ∈ lw_tbl := List.mem_of_getElem? (i := 824) (by decide +kernel)
set_option maxRecDepth 20000 in
theorem qI_Tb_fresh : (Jvm.Cond.instanceMethod ({ cls := "Threeboxes", name := "fresh", desc := "(II)I" } : Jvm.MethodName)) ∈ lw_tbl := List.mem_of_getElem? (i := 825) (by decide +kernel)
set_option maxRecDepth 20000 in
theorem qV_Tb_Tb_fresh : (Jvm.Cond.selects "Threeboxes" ({ cls := "Threeboxes", name := "fresh", desc := "(II)I" } : Jvm.MethodName) ({ cls := "Threeboxes", name := "fresh", desc := "(II)I" } : Jvm.MethodName)) ∈ lw_tbl := List.mem_of_getElem? (i := 826) (by decide +kernel)
set_option maxRecDepth 20000 in
theorem qC_Tb_fresh : (Jvm.Cond.code ({ cls := "Threeboxes", name := "fresh", desc := "(II)I" } : Jvm.MethodName) prog_1_method_5_code (6 : Nat) (Option.some Jvm.ClassFile.FieldType.int)) ∈ lw_tbl := List.mem_of_getElem? (i := 827) rfl
set_option maxRecDepth 20000 in
theorem qM_Tb_140 : (Jvm.Cond.methodLink "Threeboxes" (140 : Nat) ({ cls := "Threeboxes", name := "secretAt", desc := "(I)LThreeboxes$Secret;" } : Jvm.MethodName)) ∈ lw_tbl := List.mem_of_getElem? (i := 828) (by decide +kernel)
set_option maxRecDepth 20000 in
theorem qI_Tb_secretAt : (Jvm.Cond.instanceMethod ({ cls := "Threeboxes", name := "secretAt", desc := "(I)LThreeboxes$Secret;" } : Jvm.MethodName)) ∈ lw_tbl := List.mem_of_getElem? (i := 830) (by decide +kernel)
set_option maxRecDepth 20000 in
theorem qC_Tb_secretAt : (Jvm.Cond.code ({ cls := "Threeboxes", name := "secretAt", desc := "(I)LThreeboxes$Secret;" } : Jvm.MethodName) prog_1_method_35_code (2 : Nat) (Option.some (Jvm.ClassFile.FieldType.object "Threeboxes$Secret"))) ∈ lw_tbl := List.mem_of_getElem? (i := 831) rfl
set_option maxRecDepth 20000 in
theorem qR_Tb_340 : (Jvm.Cond.stringRef "Threeboxes" (340 : Nat) "no such secret") ∈ lw_tbl := List.mem_of_getElem? (i := 832) (by decide +kernel)
set_option maxRecDepth 20000 in
theorem qR_Tb_150 : (Jvm.Cond.stringRef "Threeboxes" (150 : Nat) "too few keepers count") ∈ lw_tbl := List.mem_of_getElem? (i := 833) (by decide +kernel)
set_option maxRecDepth 20000 in
theorem qM_La_123 : (Jvm.Cond.methodLink "ThreeboxesLaw" (123 : Nat) ({ cls := "ThreeboxesLaw", name := "flood", desc := "(LThreeboxes;ILThreeboxesLaw$Out;)I" } : Jvm.MethodName)) ∈ lw_tbl := List.mem_of_getElem? (i := 834) (by decide +kernel)
set_option maxRecDepth 20000 in
theorem qS_La_flood : (Jvm.Cond.static ({ cls := "ThreeboxesLaw", name := "flood", desc := "(LThreeboxes;ILThreeboxesLaw$Out;)I" } : Jvm.MethodName)) ∈ lw_tbl := List.mem_of_getElem? (i := 835) (by decide +kernel)
set_option maxRecDepth 20000 in
theorem qCw_La_flood : (Jvm.Cond.codeWith ({ cls := "ThreeboxesLaw", name := "flood", desc := "(LThreeboxes;ILThreeboxesLaw$Out;)I" } : Jvm.MethodName) method_6_code (4 : Nat) (Option.some Jvm.ClassFile.FieldType.int) [((0 : Nat), (10 : Nat), (13 : Nat), (27 : Nat))]) ∈ lw_tbl := List.mem_of_getElem? (i := 836) rfl
set_option maxRecDepth 20000 in
theorem qM_La_36 : (Jvm.Cond.methodLink "ThreeboxesLaw" (36 : Nat) ({ cls := "Threeboxes", name := "flood", desc := "(I)I" } : Jvm.MethodName)) ∈ lw_tbl := List.mem_of_getElem? (i := 837) (by decide +kernel)
set_option maxRecDepth 20000 in
theorem qI_Tb_flood : (Jvm.Cond.instanceMethod ({ cls := "Threeboxes", name := "flood", desc := "(I)I" } : Jvm.MethodName)) ∈ lw_tbl := List.mem_of_getElem? (i := 838) (by decide +kernel)
set_option maxRecDepth 20000 in
theorem qV_Tb_Tb_flood : (Jvm.Cond.selects "Threeboxes" ({ cls := "Threeboxes", name := "flood", desc := "(I)I" } : Jvm.MethodName) ({ cls := "Threeboxes", name := "flood", desc := "(I)I" } : Jvm.MethodName)) ∈ lw_tbl := List.mem_of_getElem? (i := 839) (by decide +kernel)
set_option maxRecDepth 20000 in
theorem qC_Tb_flood : (Jvm.Cond.code ({ cls := "Threeboxes", name := "flood", desc := "(I)I" } : Jvm.MethodName) prog_1_method_6_code (4 : Nat) (Option.some Jvm.ClassFile.FieldType.int)) ∈ lw_tbl := List.mem_of_getElem? (i := 840) rfl
set_option maxRecDepth 20000 in
theorem qR_Tb_163 : (Jvm.Cond.stringRef "Threeboxes" (163 : Nat) "no such zone") ∈ lw_tbl := List.mem_of_getElem? (i := 841) (by decide +kernel)
set_option maxRecDepth 20000 in
theorem qM_Tb_176 : (Jvm.Cond.methodLink "Threeboxes" (176 : Nat) ({ cls := "Threeboxes", name := "loseShares", desc := "(I)V" } : Jvm.MethodName)) ∈ lw_tbl := List.mem_of_getElem? (i := 842) (by decide +kernel)
set_option maxRecDepth 20000 in
theorem qI_Tb_loseShares : (Jvm.Cond.instanceMethod ({ cls := "Threeboxes", name := "loseShares", desc := "(I)V" } : Jvm.MethodName)) ∈ lw_tbl := List.mem_of_getElem? (i := 844) (by decide +kernel)
set_option maxRecDepth 20000 in
theorem qC_Tb_loseShares : (Jvm.Cond.code ({ cls := "Threeboxes", name := "loseShares", desc := "(I)V" } : Jvm.MethodName) prog_1_method_38_code (3 : Nat) (Option.none : Option Jvm.ClassFile.FieldType)) ∈ lw_tbl := List.mem_of_getElem? (i := 845) rfl
set_option maxRecDepth 20000 in
theorem qM_Tb_345 : (Jvm.Cond.methodLink "Threeboxes" (345 : Nat) ({ cls := "Threeboxes$Secret", name := "lose", desc := "(I)V" } : Jvm.MethodName)) ∈ lw_tbl := List.mem_of_getElem? (i := 846) (by decide +kernel)
set_option maxRecDepth 20000 in
theorem qI_Se_lose : (Jvm.Cond.instanceMethod ({ cls := "Threeboxes$Secret", name := "lose", desc := "(I)V" } : Jvm.MethodName)) ∈ lw_tbl := List.mem_of_getElem? (i := 847) (by decide +kernel)
set_option maxRecDepth 20000 in
theorem qV_Se_Se_lose : (Jvm.Cond.selects "Threeboxes$Secret" ({ cls := "Threeboxes$Secret", name := "lose", desc := "(I)V" } : Jvm.MethodName) ({ cls := "Threeboxes$Secret", name := "lose", desc := "(I)V" } : Jvm.MethodName)) ∈ lw_tbl := List.mem_of_getElem? (i := 848) (by decide +kernel)
set_option maxRecDepth 20000 in
theorem qC_Se_lose : (Jvm.Cond.code ({ cls := "Threeboxes$Secret", name := "lose", desc := "(I)V" } : Jvm.MethodName) prog_6_method_8_code (2 : Nat) (Option.none : Option Jvm.ClassFile.FieldType)) ∈ lw_tbl := List.mem_of_getElem? (i := 849) rfl
set_option maxRecDepth 20000 in
theorem qM_La_127 : (Jvm.Cond.methodLink "ThreeboxesLaw" (127 : Nat) ({ cls := "ThreeboxesLaw", name := "rebuild", desc := "(LThreeboxes;IIILThreeboxesLaw$Out;)I" } : Jvm.MethodName)) ∈ lw_tbl := List.mem_of_getElem? (i := 850) (by decide +kernel)
set_option maxRecDepth 20000 in
theorem qS_La_rebuild : (Jvm.Cond.static ({ cls := "ThreeboxesLaw", name := "rebuild", desc := "(LThreeboxes;IIILThreeboxesLaw$Out;)I" } : Jvm.MethodName)) ∈ lw_tbl := List.mem_of_getElem? (i := 851) (by decide +kernel)
set_option maxRecDepth 20000 in
theorem qCw_La_rebuild : (Jvm.Cond.codeWith ({ cls := "ThreeboxesLaw", name := "rebuild", desc := "(LThreeboxes;IIILThreeboxesLaw$Out;)I" } : Jvm.MethodName) method_7_code (6 : Nat) (Option.some Jvm.ClassFile.FieldType.int) [((0 : Nat), (13 : Nat), (16 : Nat), (27 : Nat)), ((0 : Nat), (13 : Nat), (20 : Nat), (19 : Nat)), ((0 : Nat), (13 : Nat), (24 : Nat), (21 : Nat))]) ∈ lw_tbl := List.mem_of_getElem? (i := 852) rfl
set_option maxRecDepth 20000 in
theorem qM_La_40 : (Jvm.Cond.methodLink "ThreeboxesLaw" (40 : Nat) ({ cls := "Threeboxes", name := "rebuild", desc := "(III)I" } : Jvm.MethodName)) ∈ lw_tbl := List.mem_of_getElem? (i := 853) (by decide +kernel)
set_option maxRecDepth 20000 in
theorem qI_Tb_rebuild : (Jvm.Cond.instanceMethod ({ cls := "Threeboxes", name := "rebuild", desc := "(III)I" } : Jvm.MethodName)) ∈ lw_tbl := List.mem_of_getElem? (i := 854) (by decide +kernel)
set_option maxRecDepth 20000 in
theorem qV_Tb_Tb_rebuild : (Jvm.Cond.selects "Threeboxes" ({ cls := "Threeboxes", name := "rebuild", desc := "(III)I" } : Jvm.MethodName) ({ cls := "Threeboxes", name := "rebuild", desc := "(III)I" } : Jvm.MethodName)) ∈ lw_tbl := List.mem_of_getElem? (i := 855) (by decide +kernel)
set_option maxRecDepth 20000 in
theorem qC_Tb_rebuild : (Jvm.Cond.code ({ cls := "Threeboxes", name := "rebuild", desc := "(III)I" } : Jvm.MethodName) prog_1_method_7_code (6 : Nat) (Option.some Jvm.ClassFile.FieldType.int)) ∈ lw_tbl := List.mem_of_getElem? (i := 856) rfl
set_option maxRecDepth 20000 in
theorem qR_Tb_182 : (Jvm.Cond.stringRef "Threeboxes" (182 : Nat) "it has a share that is not stale") ∈ lw_tbl := List.mem_of_getElem? (i := 857) (by decide +kernel)
set_option maxRecDepth 20000 in
theorem qR_Tb_195 : (Jvm.Cond.stringRef "Threeboxes" (195 : Nat) "the group is not good") ∈ lw_tbl := List.mem_of_getElem? (i := 858) (by decide +kernel)
set_option maxRecDepth 20000 in
theorem qM_Tb_203 : (Jvm.Cond.methodLink "Threeboxes" (203 : Nat) ({ cls := "Threeboxes", name := "isAnyLying", desc := "(I)Z" } : Jvm.MethodName)) ∈ lw_tbl := List.mem_of_getElem? (i := 859) (by decide +kernel)
set_option maxRecDepth 20000 in
theorem qI_Tb_isAnyLying : (Jvm.Cond.instanceMethod ({ cls := "Threeboxes", name := "isAnyLying", desc := "(I)Z" } : Jvm.MethodName)) ∈ lw_tbl := List.mem_of_getElem? (i := 861) (by decide +kernel)
set_option maxRecDepth 20000 in
theorem qC_Tb_isAnyLying : (Jvm.Cond.code ({ cls := "Threeboxes", name := "isAnyLying", desc := "(I)Z" } : Jvm.MethodName) prog_1_method_43_code (3 : Nat) (Option.some Jvm.ClassFile.FieldType.boolean)) ∈ lw_tbl := List.mem_of_getElem? (i := 862) rfl
set_option maxRecDepth 20000 in
theorem qM_La_130 : (Jvm.Cond.methodLink "ThreeboxesLaw" (130 : Nat) ({ cls := "ThreeboxesLaw", name := "freeze", desc := "(LThreeboxes;IIZLThreeboxesLaw$Out;)I" } : Jvm.MethodName)) ∈ lw_tbl := List.mem_of_getElem? (i := 863) (by decide +kernel)
set_option maxRecDepth 20000 in
theorem qS_La_freeze : (Jvm.Cond.static ({ cls := "ThreeboxesLaw", name := "freeze", desc := "(LThreeboxes;IIZLThreeboxesLaw$Out;)I" } : Jvm.MethodName)) ∈ lw_tbl := List.mem_of_getElem? (i := 864) (by decide +kernel)
set_option maxRecDepth 20000 in
theorem qCw_La_freeze : (Jvm.Cond.codeWith ({ cls := "ThreeboxesLaw", name := "freeze", desc := "(LThreeboxes;IIZLThreeboxesLaw$Out;)I" } : Jvm.MethodName) method_8_code (6 : Nat) (Option.some Jvm.ClassFile.FieldType.int) [((0 : Nat), (13 : Nat), (16 : Nat), (27 : Nat))]) ∈ lw_tbl := List.mem_of_getElem? (i := 865) rfl
set_option maxRecDepth 20000 in
theorem qM_La_43 : (Jvm.Cond.methodLink "ThreeboxesLaw" (43 : Nat) ({ cls := "Threeboxes", name := "freeze", desc := "(IIZ)I" } : Jvm.MethodName)) ∈ lw_tbl := List.mem_of_getElem? (i := 866) (by decide +kernel)
set_option maxRecDepth 20000 in
theorem qI_Tb_freeze : (Jvm.Cond.instanceMethod ({ cls := "Threeboxes", name := "freeze", desc := "(IIZ)I" } : Jvm.MethodName)) ∈ lw_tbl := List.mem_of_getElem? (i := 867) (by decide +kernel)
set_option maxRecDepth 20000 in
theorem qV_Tb_Tb_freeze : (Jvm.Cond.selects "Threeboxes" ({ cls := "Threeboxes", name := "freeze", desc := "(IIZ)I" } : Jvm.MethodName) ({ cls := "Threeboxes", name := "freeze", desc := "(IIZ)I" } : Jvm.MethodName)) ∈ lw_tbl := List.mem_of_getElem? (i := 868) (by decide +kernel)
set_option maxRecDepth 20000 in
theorem qC_Tb_freeze : (Jvm.Cond.code ({ cls := "Threeboxes", name := "freeze", desc := "(IIZ)I" } : Jvm.MethodName) prog_1_method_8_code (6 : Nat) (Option.some Jvm.ClassFile.FieldType.int)) ∈ lw_tbl := List.mem_of_getElem? (i := 869) rfl
set_option maxRecDepth 20000 in
theorem qR_Tb_211 : (Jvm.Cond.stringRef "Threeboxes" (211 : Nat) "no such court") ∈ lw_tbl := List.mem_of_getElem? (i := 870) (by decide +kernel)
set_option maxRecDepth 20000 in
theorem qM_La_134 : (Jvm.Cond.methodLink "ThreeboxesLaw" (134 : Nat) ({ cls := "ThreeboxesLaw", name := "pass", desc := "(LThreeboxes;ILThreeboxesLaw$Out;)I" } : Jvm.MethodName)) ∈ lw_tbl := List.mem_of_getElem? (i := 871) (by decide +kernel)
set_option maxRecDepth 20000 in
theorem qS_La_pass : (Jvm.Cond.static ({ cls := "ThreeboxesLaw", name := "pass", desc := "(LThreeboxes;ILThreeboxesLaw$Out;)I" } : Jvm.MethodName)) ∈ lw_tbl := List.mem_of_getElem? (i := 872) (by decide +kernel)
set_option maxRecDepth 20000 in
theorem qCw_La_pass : (Jvm.Cond.codeWith ({ cls := "ThreeboxesLaw", name := "pass", desc := "(LThreeboxes;ILThreeboxesLaw$Out;)I" } : Jvm.MethodName) method_9_code (4 : Nat) (Option.some Jvm.ClassFile.FieldType.int) [((0 : Nat), (10 : Nat), (13 : Nat), (19 : Nat)), ((0 : Nat), (10 : Nat), (16 : Nat), (21 : Nat))]) ∈ lw_tbl := List.mem_of_getElem? (i := 873) rfl
set_option maxRecDepth 20000 in
theorem qM_La_47 : (Jvm.Cond.methodLink "ThreeboxesLaw" (47 : Nat) ({ cls := "Threeboxes", name := "pass", desc := "(I)I" } : Jvm.MethodName)) ∈ lw_tbl := List.mem_of_getElem? (i := 874) (by decide +kernel)
set_option maxRecDepth 20000 in
theorem qI_Tb_pass : (Jvm.Cond.instanceMethod ({ cls := "Threeboxes", name := "pass", desc := "(I)I" } : Jvm.MethodName)) ∈ lw_tbl := List.mem_of_getElem? (i := 875) (by decide +kernel)
set_option maxRecDepth 20000 in
theorem qV_Tb_Tb_pass : (Jvm.Cond.selects "Threeboxes" ({ cls := "Threeboxes", name := "pass", desc := "(I)I" } : Jvm.MethodName) ({ cls := "Threeboxes", name := "pass", desc := "(I)I" } : Jvm.MethodName)) ∈ lw_tbl := List.mem_of_getElem? (i := 876) (by decide +kernel)
set_option maxRecDepth 20000 in
theorem qC_Tb_pass : (Jvm.Cond.code ({ cls := "Threeboxes", name := "pass", desc := "(I)I" } : Jvm.MethodName) prog_1_method_9_code (2 : Nat) (Option.some Jvm.ClassFile.FieldType.int)) ∈ lw_tbl := List.mem_of_getElem? (i := 877) rfl
set_option maxRecDepth 20000 in
theorem qR_Tb_216 : (Jvm.Cond.stringRef "Threeboxes" (216 : Nat) "days are 1 to 365") ∈ lw_tbl := List.mem_of_getElem? (i := 878) (by decide +kernel)
set_option maxRecDepth 20000 in
theorem qR_Tb_218 : (Jvm.Cond.stringRef "Threeboxes" (218 : Nat) "the day would be above 999") ∈ lw_tbl := List.mem_of_getElem? (i := 879) (by decide +kernel)
set_option maxRecDepth 20000 in
theorem qM_La_141 : (Jvm.Cond.methodLink "ThreeboxesLaw" (141 : Nat) ({ cls := "ThreeboxesLaw", name := "open", desc := "(LThreeboxes;IILThreeboxesLaw$Out;)I" } : Jvm.MethodName)) ∈ lw_tbl := List.mem_of_getElem? (i := 880) (by decide +kernel)
set_option maxRecDepth 20000 in
theorem qS_La_open : (Jvm.Cond.static ({ cls := "ThreeboxesLaw", name := "open", desc := "(LThreeboxes;IILThreeboxesLaw$Out;)I" } : Jvm.MethodName)) ∈ lw_tbl := List.mem_of_getElem? (i := 881) (by decide +kernel)
set_option maxRecDepth 20000 in
theorem qCw_La_open : (Jvm.Cond.codeWith ({ cls := "ThreeboxesLaw", name := "open", desc := "(LThreeboxes;IILThreeboxesLaw$Out;)I" } : Jvm.MethodName) method_10_code (5 : Nat) (Option.some Jvm.ClassFile.FieldType.int) [((0 : Nat), (11 : Nat), (14 : Nat), (27 : Nat)), ((0 : Nat), (11 : Nat), (18 : Nat), (19 : Nat))]) ∈ lw_tbl := List.mem_of_getElem? (i := 882) rfl
set_option maxRecDepth 20000 in
theorem qM_La_50 : (Jvm.Cond.methodLink "ThreeboxesLaw" (50 : Nat) ({ cls := "Threeboxes", name := "open", desc := "(II)I" } : Jvm.MethodName)) ∈ lw_tbl := List.mem_of_getElem? (i := 883) (by decide +kernel)
set_option maxRecDepth 20000 in
theorem qI_Tb_open : (Jvm.Cond.instanceMethod ({ cls := "Threeboxes", name := "open", desc := "(II)I" } : Jvm.MethodName)) ∈ lw_tbl := List.mem_of_getElem? (i := 884) (by decide +kernel)
set_option maxRecDepth 20000 in
theorem qV_Tb_Tb_open : (Jvm.Cond.selects "Threeboxes" ({ cls := "Threeboxes", name := "open", desc := "(II)I" } : Jvm.MethodName) ({ cls := "Threeboxes", name := "open", desc := "(II)I" } : Jvm.MethodName)) ∈ lw_tbl := List.mem_of_getElem? (i := 885) (by decide +kernel)
set_option maxRecDepth 20000 in
theorem qC_Tb_open : (Jvm.Cond.code ({ cls := "Threeboxes", name := "open", desc := "(II)I" } : Jvm.MethodName) prog_1_method_10_code (4 : Nat) (Option.some Jvm.ClassFile.FieldType.int)) ∈ lw_tbl := List.mem_of_getElem? (i := 886) rfl
set_option maxRecDepth 20000 in
theorem qM_Tb_227 : (Jvm.Cond.methodLink "Threeboxes" (227 : Nat) ({ cls := "Threeboxes", name := "noteAll", desc := "(I)V" } : Jvm.MethodName)) ∈ lw_tbl := List.mem_of_getElem? (i := 887) (by decide +kernel)
set_option maxRecDepth 20000 in
theorem qI_Tb_noteAll : (Jvm.Cond.instanceMethod ({ cls := "Threeboxes", name := "noteAll", desc := "(I)V" } : Jvm.MethodName)) ∈ lw_tbl := List.mem_of_getElem? (i := 889) (by decide +kernel)
set_option maxRecDepth 20000 in
theorem qC_Tb_noteAll : (Jvm.Cond.code ({ cls := "Threeboxes", name := "noteAll", desc := "(I)V" } : Jvm.MethodName) prog_1_method_41_code (3 : Nat) (Option.none : Option Jvm.ClassFile.FieldType)) ∈ lw_tbl := List.mem_of_getElem? (i := 890) rfl
set_option maxRecDepth 20000 in
theorem qM_La_148 : (Jvm.Cond.methodLink "ThreeboxesLaw" (148 : Nat) ({ cls := "ThreeboxesLaw", name := "ofKeeper", desc := "(LThreeboxes;IILThreeboxesLaw$Out;)I" } : Jvm.MethodName)) ∈ lw_tbl := List.mem_of_getElem? (i := 891) (by decide +kernel)
set_option maxRecDepth 20000 in
theorem qS_La_ofKeeper : (Jvm.Cond.static ({ cls := "ThreeboxesLaw", name := "ofKeeper", desc := "(LThreeboxes;IILThreeboxesLaw$Out;)I" } : Jvm.MethodName)) ∈ lw_tbl := List.mem_of_getElem? (i := 892) (by decide +kernel)
set_option maxRecDepth 20000 in
theorem qCw_La_ofKeeper : (Jvm.Cond.codeWith ({ cls := "ThreeboxesLaw", name := "ofKeeper", desc := "(LThreeboxes;IILThreeboxesLaw$Out;)I" } : Jvm.MethodName) method_11_code (5 : Nat) (Option.some Jvm.ClassFile.FieldType.int) [((0 : Nat), (11 : Nat), (14 : Nat), (27 : Nat)), ((0 : Nat), (11 : Nat), (18 : Nat), (19 : Nat))]) ∈ lw_tbl := List.mem_of_getElem? (i := 893) rfl
set_option maxRecDepth 20000 in
theorem qM_La_53 : (Jvm.Cond.methodLink "ThreeboxesLaw" (53 : Nat) ({ cls := "Threeboxes", name := "ofKeeper", desc := "(II)I" } : Jvm.MethodName)) ∈ lw_tbl := List.mem_of_getElem? (i := 894) (by decide +kernel)
set_option maxRecDepth 20000 in
theorem qI_Tb_ofKeeper : (Jvm.Cond.instanceMethod ({ cls := "Threeboxes", name := "ofKeeper", desc := "(II)I" } : Jvm.MethodName)) ∈ lw_tbl := List.mem_of_getElem? (i := 895) (by decide +kernel)
set_option maxRecDepth 20000 in
theorem qV_Tb_Tb_ofKeeper : (Jvm.Cond.selects "Threeboxes" ({ cls := "Threeboxes", name := "ofKeeper", desc := "(II)I" } : Jvm.MethodName) ({ cls := "Threeboxes", name := "ofKeeper", desc := "(II)I" } : Jvm.MethodName)) ∈ lw_tbl := List.mem_of_getElem? (i := 896) (by decide +kernel)
set_option maxRecDepth 20000 in
theorem qC_Tb_ofKeeper : (Jvm.Cond.code ({ cls := "Threeboxes", name := "ofKeeper", desc := "(II)I" } : Jvm.MethodName) prog_1_method_12_code (4 : Nat) (Option.some Jvm.ClassFile.FieldType.int)) ∈ lw_tbl := List.mem_of_getElem? (i := 897) rfl
set_option maxRecDepth 20000 in
theorem qR_Tb_230 : (Jvm.Cond.stringRef "Threeboxes" (230 : Nat) "what is 0 to 6") ∈ lw_tbl := List.mem_of_getElem? (i := 898) (by decide +kernel)
set_option maxRecDepth 20000 in
theorem qM_La_151 : (Jvm.Cond.methodLink "ThreeboxesLaw" (151 : Nat) ({ cls := "ThreeboxesLaw", name := "ofSecret", desc := "(LThreeboxes;IILThreeboxesLaw$Out;)I" } : Jvm.MethodName)) ∈ lw_tbl := List.mem_of_getElem? (i := 899) (by decide +kernel)
set_option maxRecDepth 20000 in
theorem qS_La_ofSecret : (Jvm.Cond.static ({ cls := "ThreeboxesLaw", name := "ofSecret", desc := "(LThreeboxes;IILThreeboxesLaw$Out;)I" } : Jvm.MethodName)) ∈ lw_tbl := List.mem_of_getElem? (i := 900) (by decide +kernel)
set_option maxRecDepth 20000 in
theorem qCw_La_ofSecret : (Jvm.Cond.codeWith ({ cls := "ThreeboxesLaw", name := "ofSecret", desc := "(LThreeboxes;IILThreeboxesLaw$Out;)I" } : Jvm.MethodName) method_12_code (5 : Nat) (Option.some Jvm.ClassFile.FieldType.int) [((0 : Nat), (11 : Nat), (14 : Nat), (27 : Nat)), ((0 : Nat), (11 : Nat), (18 : Nat), (19 : Nat))]) ∈ lw_tbl := List.mem_of_getElem? (i := 901) rfl
set_option maxRecDepth 20000 in
theorem qM_La_56 : (Jvm.Cond.methodLink "ThreeboxesLaw" (56 : Nat) ({ cls := "Threeboxes", name := "ofSecret", desc := "(II)I" } : Jvm.MethodName)) ∈ lw_tbl := List.mem_of_getElem? (i := 902) (by decide +kernel)
set_option maxRecDepth 20000 in
theorem qI_Tb_ofSecret : (Jvm.Cond.instanceMethod ({ cls := "Threeboxes", name := "ofSecret", desc := "(II)I" } : Jvm.MethodName)) ∈ lw_tbl := List.mem_of_getElem? (i := 903) (by decide +kernel)
set_option maxRecDepth 20000 in
theorem qV_Tb_Tb_ofSecret : (Jvm.Cond.selects "Threeboxes" ({ cls := "Threeboxes", name := "ofSecret", desc := "(II)I" } : Jvm.MethodName) ({ cls := "Threeboxes", name := "ofSecret", desc := "(II)I" } : Jvm.MethodName)) ∈ lw_tbl := List.mem_of_getElem? (i := 904) (by decide +kernel)
set_option maxRecDepth 20000 in
theorem qC_Tb_ofSecret : (Jvm.Cond.code ({ cls := "Threeboxes", name := "ofSecret", desc := "(II)I" } : Jvm.MethodName) prog_1_method_13_code (4 : Nat) (Option.some Jvm.ClassFile.FieldType.int)) ∈ lw_tbl := List.mem_of_getElem? (i := 905) rfl
set_option maxRecDepth 20000 in
theorem qR_Tb_236 : (Jvm.Cond.stringRef "Threeboxes" (236 : Nat) "what is 0 to 8") ∈ lw_tbl := List.mem_of_getElem? (i := 906) (by decide +kernel)
set_option maxRecDepth 20000 in
theorem qM_La_154 : (Jvm.Cond.methodLink "ThreeboxesLaw" (154 : Nat) ({ cls := "ThreeboxesLaw", name := "share", desc := "(LThreeboxes;IIILThreeboxesLaw$Out;)I" } : Jvm.MethodName)) ∈ lw_tbl := List.mem_of_getElem? (i := 907) (by decide +kernel)
set_option maxRecDepth 20000 in
theorem qS_La_share : (Jvm.Cond.static ({ cls := "ThreeboxesLaw", name := "share", desc := "(LThreeboxes;IIILThreeboxesLaw$Out;)I" } : Jvm.MethodName)) ∈ lw_tbl := List.mem_of_getElem? (i := 908) (by decide +kernel)
set_option maxRecDepth 20000 in
theorem qCw_La_share : (Jvm.Cond.codeWith ({ cls := "ThreeboxesLaw", name := "share", desc := "(LThreeboxes;IIILThreeboxesLaw$Out;)I" } : Jvm.MethodName) method_13_code (6 : Nat) (Option.some Jvm.ClassFile.FieldType.int) [((0 : Nat), (13 : Nat), (16 : Nat), (27 : Nat)), ((0 : Nat), (13 : Nat), (20 : Nat), (19 : Nat))]) ∈ lw_tbl := List.mem_of_getElem? (i := 909) rfl
set_option maxRecDepth 20000 in
theorem qM_La_59 : (Jvm.Cond.methodLink "ThreeboxesLaw" (59 : Nat) ({ cls := "Threeboxes", name := "share", desc := "(III)I" } : Jvm.MethodName)) ∈ lw_tbl := List.mem_of_getElem? (i := 910) (by decide +kernel)
set_option maxRecDepth 20000 in
theorem qI_Tb_share : (Jvm.Cond.instanceMethod ({ cls := "Threeboxes", name := "share", desc := "(III)I" } : Jvm.MethodName)) ∈ lw_tbl := List.mem_of_getElem? (i := 911) (by decide +kernel)
set_option maxRecDepth 20000 in
theorem qV_Tb_Tb_share : (Jvm.Cond.selects "Threeboxes" ({ cls := "Threeboxes", name := "share", desc := "(III)I" } : Jvm.MethodName) ({ cls := "Threeboxes", name := "share", desc := "(III)I" } : Jvm.MethodName)) ∈ lw_tbl := List.mem_of_getElem? (i := 912) (by decide +kernel)
set_option maxRecDepth 20000 in
theorem qC_Tb_share : (Jvm.Cond.code ({ cls := "Threeboxes", name := "share", desc := "(III)I" } : Jvm.MethodName) prog_1_method_14_code (6 : Nat) (Option.some Jvm.ClassFile.FieldType.int)) ∈ lw_tbl := List.mem_of_getElem? (i := 913) rfl
set_option maxRecDepth 20000 in
theorem qR_Tb_242 : (Jvm.Cond.stringRef "Threeboxes" (242 : Nat) "what is 0 to 2") ∈ lw_tbl := List.mem_of_getElem? (i := 914) (by decide +kernel)
set_option maxRecDepth 20000 in
theorem qM_La_157 : (Jvm.Cond.methodLink "ThreeboxesLaw" (157 : Nat) ({ cls := "ThreeboxesLaw", name := "bank", desc := "(LThreeboxes;ILThreeboxesLaw$Out;)I" } : Jvm.MethodName)) ∈ lw_tbl := List.mem_of_getElem? (i := 915) (by decide +kernel)
set_option maxRecDepth 20000 in
theorem qS_La_bank : (Jvm.Cond.static ({ cls := "ThreeboxesLaw", name := "bank", desc := "(LThreeboxes;ILThreeboxesLaw$Out;)I" } : Jvm.MethodName)) ∈ lw_tbl := List.mem_of_getElem? (i := 916) (by decide +kernel)
set_option maxRecDepth 20000 in
theorem qCw_La_bank : (Jvm.Cond.codeWith ({ cls := "ThreeboxesLaw", name := "bank", desc := "(LThreeboxes;ILThreeboxesLaw$Out;)I" } : Jvm.MethodName) method_14_code (4 : Nat) (Option.some Jvm.ClassFile.FieldType.int) [((0 : Nat), (10 : Nat), (13 : Nat), (19 : Nat))]) ∈ lw_tbl := List.mem_of_getElem? (i := 917) rfl
set_option maxRecDepth 20000 in
theorem qM_La_62 : (Jvm.Cond.methodLink "ThreeboxesLaw" (62 : Nat) ({ cls := "Threeboxes", name := "bank", desc := "(I)I" } : Jvm.MethodName)) ∈ lw_tbl := List.mem_of_getElem? (i := 918) (by decide +kernel)
set_option maxRecDepth 20000 in
theorem qI_Tb_bank : (Jvm.Cond.instanceMethod ({ cls := "Threeboxes", name := "bank", desc := "(I)I" } : Jvm.MethodName)) ∈ lw_tbl := List.mem_of_getElem? (i := 919) (by decide +kernel)
set_option maxRecDepth 20000 in
theorem qV_Tb_Tb_bank : (Jvm.Cond.selects "Threeboxes" ({ cls := "Threeboxes", name := "bank", desc := "(I)I" } : Jvm.MethodName) ({ cls := "Threeboxes", name := "bank", desc := "(I)I" } : Jvm.MethodName)) ∈ lw_tbl := List.mem_of_getElem? (i := 920) (by decide +kernel)
set_option maxRecDepth 20000 in
theorem qC_Tb_bank : (Jvm.Cond.code ({ cls := "Threeboxes", name := "bank", desc := "(I)I" } : Jvm.MethodName) prog_1_method_15_code (2 : Nat) (Option.some Jvm.ClassFile.FieldType.int)) ∈ lw_tbl := List.mem_of_getElem? (i := 921) rfl
set_option maxRecDepth 20000 in
theorem qR_Tb_248 : (Jvm.Cond.stringRef "Threeboxes" (248 : Nat) "what is 0 to 11") ∈ lw_tbl := List.mem_of_getElem? (i := 922) (by decide +kernel)
set_option maxRecDepth 20000 in
theorem qM_La_160 : (Jvm.Cond.methodLink "ThreeboxesLaw" (160 : Nat) ({ cls := "ThreeboxesLaw", name := "ofEntry", desc := "(LThreeboxes;IILThreeboxesLaw$Out;)I" } : Jvm.MethodName)) ∈ lw_tbl := List.mem_of_getElem? (i := 923) (by decide +kernel)
set_option maxRecDepth 20000 in
theorem qS_La_ofEntry : (Jvm.Cond.static ({ cls := "ThreeboxesLaw", name := "ofEntry", desc := "(LThreeboxes;IILThreeboxesLaw$Out;)I" } : Jvm.MethodName)) ∈ lw_tbl := List.mem_of_getElem? (i := 924) (by decide +kernel)
set_option maxRecDepth 20000 in
theorem qCw_La_ofEntry : (Jvm.Cond.codeWith ({ cls := "ThreeboxesLaw", name := "ofEntry", desc := "(LThreeboxes;IILThreeboxesLaw$Out;)I" } : Jvm.MethodName) method_15_code (5 : Nat) (Option.some Jvm.ClassFile.FieldType.int) [((0 : Nat), (11 : Nat), (14 : Nat), (27 : Nat)), ((0 : Nat), (11 : Nat), (18 : Nat), (19 : Nat))]) ∈ lw_tbl := List.mem_of_getElem? (i := 925) rfl
set_option maxRecDepth 20000 in
theorem qM_La_65 : (Jvm.Cond.methodLink "ThreeboxesLaw" (65 : Nat) ({ cls := "Threeboxes", name := "ofEntry", desc := "(II)I" } : Jvm.MethodName)) ∈ lw_tbl := List.mem_of_getElem? (i := 926) (by decide +kernel)
set_option maxRecDepth 20000 in
theorem qI_Tb_ofEntry : (Jvm.Cond.instanceMethod ({ cls := "Threeboxes", name := "ofEntry", desc := "(II)I" } : Jvm.MethodName)) ∈ lw_tbl := List.mem_of_getElem? (i := 927) (by decide +kernel)
set_option maxRecDepth 20000 in
theorem qV_Tb_Tb_ofEntry : (Jvm.Cond.selects "Threeboxes" ({ cls := "Threeboxes", name := "ofEntry", desc := "(II)I" } : Jvm.MethodName) ({ cls := "Threeboxes", name := "ofEntry", desc := "(II)I" } : Jvm.MethodName)) ∈ lw_tbl := List.mem_of_getElem? (i := 928) (by decide +kernel)
set_option maxRecDepth 20000 in
theorem qC_Tb_ofEntry : (Jvm.Cond.code ({ cls := "Threeboxes", name := "ofEntry", desc := "(II)I" } : Jvm.MethodName) prog_1_method_16_code (3 : Nat) (Option.some Jvm.ClassFile.FieldType.int)) ∈ lw_tbl := List.mem_of_getElem? (i := 929) rfl
set_option maxRecDepth 20000 in
theorem qM_Tb_253 : (Jvm.Cond.methodLink "Threeboxes" (253 : Nat) ({ cls := "Threeboxes", name := "needEntry", desc := "(I)V" } : Jvm.MethodName)) ∈ lw_tbl := List.mem_of_getElem? (i := 930) (by decide +kernel)
set_option maxRecDepth 20000 in
theorem qI_Tb_needEntry : (Jvm.Cond.instanceMethod ({ cls := "Threeboxes", name := "needEntry", desc := "(I)V" } : Jvm.MethodName)) ∈ lw_tbl := List.mem_of_getElem? (i := 932) (by decide +kernel)
set_option maxRecDepth 20000 in
theorem qC_Tb_needEntry : (Jvm.Cond.code ({ cls := "Threeboxes", name := "needEntry", desc := "(I)V" } : Jvm.MethodName) prog_1_method_33_code (2 : Nat) (Option.none : Option Jvm.ClassFile.FieldType)) ∈ lw_tbl := List.mem_of_getElem? (i := 933) rfl
set_option maxRecDepth 20000 in
theorem qR_Tb_336 : (Jvm.Cond.stringRef "Threeboxes" (336 : Nat) "no such entry") ∈ lw_tbl := List.mem_of_getElem? (i := 934) (by decide +kernel)
set_option maxRecDepth 20000 in
theorem qR_Tb_256 : (Jvm.Cond.stringRef "Threeboxes" (256 : Nat) "what is 0 to 3") ∈ lw_tbl := List.mem_of_getElem? (i := 935) (by decide +kernel)
set_option maxRecDepth 20000 in
theorem qM_Tb_258 : (Jvm.Cond.methodLink "Threeboxes" (258 : Nat) ({ cls := "Threeboxes$Register", name := "tell", desc := "(II)I" } : Jvm.MethodName)) ∈ lw_tbl := List.mem_of_getElem? (i := 936) (by decide +kernel)
set_option maxRecDepth 20000 in
theorem qI_Re_tell : (Jvm.Cond.instanceMethod ({ cls := "Threeboxes$Register", name := "tell", desc := "(II)I" } : Jvm.MethodName)) ∈ lw_tbl := List.mem_of_getElem? (i := 937) (by decide +kernel)
set_option maxRecDepth 20000 in
theorem qV_Re_Re_tell : (Jvm.Cond.selects "Threeboxes$Register" ({ cls := "Threeboxes$Register", name := "tell", desc := "(II)I" } : Jvm.MethodName) ({ cls := "Threeboxes$Register", name := "tell", desc := "(II)I" } : Jvm.MethodName)) ∈ lw_tbl := List.mem_of_getElem? (i := 938) (by decide +kernel)
set_option maxRecDepth 20000 in
theorem qC_Re_tell : (Jvm.Cond.code ({ cls := "Threeboxes$Register", name := "tell", desc := "(II)I" } : Jvm.MethodName) prog_5_method_10_code (3 : Nat) (Option.some Jvm.ClassFile.FieldType.int)) ∈ lw_tbl := List.mem_of_getElem? (i := 939) rfl
set_option maxRecDepth 20000 in
theorem qM_La_163 : (Jvm.Cond.methodLink "ThreeboxesLaw" (163 : Nat) ({ cls := "ThreeboxesLaw", name := "proof", desc := "(LThreeboxes;IILThreeboxesLaw$Out;)I" } : Jvm.MethodName)) ∈ lw_tbl := List.mem_of_getElem? (i := 940) (by decide +kernel)
set_option maxRecDepth 20000 in
theorem qS_La_proof : (Jvm.Cond.static ({ cls := "ThreeboxesLaw", name := "proof", desc := "(LThreeboxes;IILThreeboxesLaw$Out;)I" } : Jvm.MethodName)) ∈ lw_tbl := List.mem_of_getElem? (i := 941) (by decide +kernel)
set_option maxRecDepth 20000 in
theorem qCw_La_proof : (Jvm.Cond.codeWith ({ cls := "ThreeboxesLaw", name := "proof", desc := "(LThreeboxes;IILThreeboxesLaw$Out;)I" } : Jvm.MethodName) method_16_code (5 : Nat) (Option.some Jvm.ClassFile.FieldType.int) [((0 : Nat), (11 : Nat), (14 : Nat), (27 : Nat))]) ∈ lw_tbl := List.mem_of_getElem? (i := 942) rfl
set_option maxRecDepth 20000 in
theorem qM_La_68 : (Jvm.Cond.methodLink "ThreeboxesLaw" (68 : Nat) ({ cls := "Threeboxes", name := "proof", desc := "(II)I" } : Jvm.MethodName)) ∈ lw_tbl := List.mem_of_getElem? (i := 943) (by decide +kernel)
set_option maxRecDepth 20000 in
theorem qI_Tb_proof : (Jvm.Cond.instanceMethod ({ cls := "Threeboxes", name := "proof", desc := "(II)I" } : Jvm.MethodName)) ∈ lw_tbl := List.mem_of_getElem? (i := 944) (by decide +kernel)
set_option maxRecDepth 20000 in
theorem qV_Tb_Tb_proof : (Jvm.Cond.selects "Threeboxes" ({ cls := "Threeboxes", name := "proof", desc := "(II)I" } : Jvm.MethodName) ({ cls := "Threeboxes", name := "proof", desc := "(II)I" } : Jvm.MethodName)) ∈ lw_tbl := List.mem_of_getElem? (i := 945) (by decide +kernel)
set_option maxRecDepth 20000 in
theorem qC_Tb_proof : (Jvm.Cond.code ({ cls := "Threeboxes", name := "proof", desc := "(II)I" } : Jvm.MethodName) prog_1_method_17_code (3 : Nat) (Option.some Jvm.ClassFile.FieldType.int)) ∈ lw_tbl := List.mem_of_getElem? (i := 946) rfl
set_option maxRecDepth 20000 in
theorem qR_Tb_262 : (Jvm.Cond.stringRef "Threeboxes" (262 : Nat) "no such row") ∈ lw_tbl := List.mem_of_getElem? (i := 947) (by decide +kernel)
set_option maxRecDepth 20000 in
theorem qM_Tb_264 : (Jvm.Cond.methodLink "Threeboxes" (264 : Nat) ({ cls := "Threeboxes$Register", name := "beside", desc := "(II)I" } : Jvm.MethodName)) ∈ lw_tbl := List.mem_of_getElem? (i := 948) (by decide +kernel)
set_option maxRecDepth 20000 in
theorem qM_La_166 : (Jvm.Cond.methodLink "ThreeboxesLaw" (166 : Nat) ({ cls := "ThreeboxesLaw", name := "row", desc := "(LThreeboxes;ILThreeboxesLaw$Out;)I" } : Jvm.MethodName)) ∈ lw_tbl := List.mem_of_getElem? (i := 949) (by decide +kernel)
set_option maxRecDepth 20000 in
theorem qS_La_row : (Jvm.Cond.static ({ cls := "ThreeboxesLaw", name := "row", desc := "(LThreeboxes;ILThreeboxesLaw$Out;)I" } : Jvm.MethodName)) ∈ lw_tbl := List.mem_of_getElem? (i := 950) (by decide +kernel)
set_option maxRecDepth 20000 in
theorem qCw_La_row : (Jvm.Cond.codeWith ({ cls := "ThreeboxesLaw", name := "row", desc := "(LThreeboxes;ILThreeboxesLaw$Out;)I" } : Jvm.MethodName) method_17_code (4 : Nat) (Option.some Jvm.ClassFile.FieldType.int) [((0 : Nat), (9 : Nat), (12 : Nat), (27 : Nat))]) ∈ lw_tbl := List.mem_of_getElem? (i := 951) rfl
set_option maxRecDepth 20000 in
theorem qM_La_71 : (Jvm.Cond.methodLink "ThreeboxesLaw" (71 : Nat) ({ cls := "Threeboxes", name := "row", desc := "(I)Ljava/lang/String;" } : Jvm.MethodName)) ∈ lw_tbl := List.mem_of_getElem? (i := 952) (by decide +kernel)
set_option maxRecDepth 20000 in
theorem qI_Tb_row : (Jvm.Cond.instanceMethod ({ cls := "Threeboxes", name := "row", desc := "(I)Ljava/lang/String;" } : Jvm.MethodName)) ∈ lw_tbl := List.mem_of_getElem? (i := 953) (by decide +kernel)
set_option maxRecDepth 20000 in
theorem qV_Tb_Tb_row : (Jvm.Cond.selects "Threeboxes" ({ cls := "Threeboxes", name := "row", desc := "(I)Ljava/lang/String;" } : Jvm.MethodName) ({ cls := "Threeboxes", name := "row", desc := "(I)Ljava/lang/String;" } : Jvm.MethodName)) ∈ lw_tbl := List.mem_of_getElem? (i := 954) (by decide +kernel)
set_option maxRecDepth 20000 in
theorem qC_Tb_row : (Jvm.Cond.code ({ cls := "Threeboxes", name := "row", desc := "(I)Ljava/lang/String;" } : Jvm.MethodName) prog_1_method_18_code (5 : Nat) (Option.some (Jvm.ClassFile.FieldType.object "java/lang/String"))) ∈ lw_tbl := List.mem_of_getElem? (i := 955) rfl
set_option maxRecDepth 20000 in
theorem qK_Tb_267 : (Jvm.Cond.classLink "Threeboxes" (267 : Nat) "java/lang/StringBuilder") ∈ lw_tbl := List.mem_of_getElem? (i := 956) (by decide +kernel)
set_option maxRecDepth 20000 in
theorem qO_SB : (Jvm.Cond.instantiable "java/lang/StringBuilder" (4 : Nat)) ∈ lw_tbl := List.mem_of_getElem? (i := 957) (by decide +kernel)
set_option maxRecDepth 20000 in
theorem qM_Tb_269 : (Jvm.Cond.methodLink "Threeboxes" (269 : Nat) ({ cls := "java/lang/StringBuilder", name := "<init>", desc := "()V" } : Jvm.MethodName)) ∈ lw_tbl := List.mem_of_getElem? (i := 958) (by decide +kernel)
set_option maxRecDepth 20000 in
theorem qI_SB_init : (Jvm.Cond.instanceMethod ({ cls := "java/lang/StringBuilder", name := "<init>", desc := "()V" } : Jvm.MethodName)) ∈ lw_tbl := List.mem_of_getElem? (i := 959) (by decide +kernel)
set_option maxRecDepth 20000 in
theorem qC_SB_init : (Jvm.Cond.code ({ cls := "java/lang/StringBuilder", name := "<init>", desc := "()V" } : Jvm.MethodName) prog_28_method_1_code (1 : Nat) (Option.none : Option Jvm.ClassFile.FieldType)) ∈ lw_tbl := List.mem_of_getElem? (i := 960) rfl
set_option maxRecDepth 20000 in
theorem qM_SB_1 : (Jvm.Cond.methodLink "java/lang/StringBuilder" (1 : Nat) ({ cls := "java/lang/AbstractStringBuilder", name := "<init>", desc := "(I)V" } : Jvm.MethodName)) ∈ lw_tbl := List.mem_of_getElem? (i := 961) (by decide +kernel)
set_option maxRecDepth 20000 in
theorem qI_AB_init : (Jvm.Cond.instanceMethod ({ cls := "java/lang/AbstractStringBuilder", name := "<init>", desc := "(I)V" } : Jvm.MethodName)) ∈ lw_tbl := List.mem_of_getElem? (i := 962) (by decide +kernel)
set_option maxRecDepth 20000 in
theorem qC_AB_init : (Jvm.Cond.code ({ cls := "java/lang/AbstractStringBuilder", name := "<init>", desc := "(I)V" } : Jvm.MethodName) prog_13_method_2_code (2 : Nat) (Option.none : Option Jvm.ClassFile.FieldType)) ∈ lw_tbl := List.mem_of_getElem? (i := 963) rfl
set_option maxRecDepth 20000 in
theorem qM_AB_3 : (Jvm.Cond.methodLink "java/lang/AbstractStringBuilder" (3 : Nat) ({ cls := "java/lang/Object", name := "<init>", desc := "()V" } : Jvm.MethodName)) ∈ lw_tbl := List.mem_of_getElem? (i := 964) (by decide +kernel)
set_option maxRecDepth 20000 in
theorem qF_AB_18 : (Jvm.Cond.fieldLink "java/lang/AbstractStringBuilder" (18 : Nat) "java/lang/String" "COMPACT_STRINGS" "Z") ∈ lw_tbl := List.mem_of_getElem? (i := 965) (by decide +kernel)
set_option maxRecDepth 20000 in
theorem qLs_St_COMPACTSTRINGS_Z : (Jvm.Cond.laysStatic "java/lang/String" "COMPACT_STRINGS" "Z") ∈ lw_tbl := List.mem_of_getElem? (i := 966) (by decide +kernel)
set_option maxRecDepth 20000 in
theorem qM_AB_26 : (Jvm.Cond.methodLink "java/lang/AbstractStringBuilder" (26 : Nat) ({ cls := "java/lang/StringUTF16", name := "newBytesFor", desc := "(I)[B" } : Jvm.MethodName)) ∈ lw_tbl := List.mem_of_getElem? (i := 967) (by decide +kernel)
set_option maxRecDepth 20000 in
theorem qS_SU_newBytesFor : (Jvm.Cond.static ({ cls := "java/lang/StringUTF16", name := "newBytesFor", desc := "(I)[B" } : Jvm.MethodName)) ∈ lw_tbl := List.mem_of_getElem? (i := 968) (by decide +kernel)
set_option maxRecDepth 20000 in
theorem qC_SU_newBytesFor : (Jvm.Cond.code ({ cls := "java/lang/StringUTF16", name := "newBytesFor", desc := "(I)[B" } : Jvm.MethodName) prog_30_method_2_code (1 : Nat) (Option.some (Jvm.ClassFile.FieldType.array Jvm.ClassFile.FieldType.byte))) ∈ lw_tbl := List.mem_of_getElem? (i := 969) rfl
set_option maxRecDepth 20000 in
theorem qM_SU_11 : (Jvm.Cond.methodLink "java/lang/StringUTF16" (11 : Nat) ({ cls := "java/lang/StringUTF16", name := "newBytesLength", desc := "(I)I" } : Jvm.MethodName)) ∈ lw_tbl := List.mem_of_getElem? (i := 970) (by decide +kernel)
set_option maxRecDepth 20000 in
theorem qS_SU_newBytesLength : (Jvm.Cond.static ({ cls := "java/lang/StringUTF16", name := "newBytesLength", desc := "(I)I" } : Jvm.MethodName)) ∈ lw_tbl := List.mem_of_getElem? (i := 971) (by decide +kernel)
set_option maxRecDepth 20000 in
theorem qC_SU_newBytesLength : (Jvm.Cond.code ({ cls := "java/lang/StringUTF16", name := "newBytesLength", desc := "(I)I" } : Jvm.MethodName) prog_30_method_3_code (1 : Nat) (Option.some Jvm.ClassFile.FieldType.int)) ∈ lw_tbl := List.mem_of_getElem? (i := 972) rfl
set_option maxRecDepth 20000 in
theorem qX_SU_20 : (Jvm.Cond.constant "java/lang/StringUTF16" (20 : Nat) (1073741823 : Int32)) ∈ lw_tbl := List.mem_of_getElem? (i := 973) (by decide +kernel)
set_option maxRecDepth 20000 in
theorem qF_AB_15 : (Jvm.Cond.fieldLink "java/lang/AbstractStringBuilder" (15 : Nat) "java/lang/AbstractStringBuilder" "value" "[B") ∈ lw_tbl := List.mem_of_getElem? (i := 974) (by decide +kernel)
set_option maxRecDepth 20000 in
theorem qF_AB_22 : (Jvm.Cond.fieldLink "java/lang/AbstractStringBuilder" (22 : Nat) "java/lang/AbstractStringBuilder" "coder" "B") ∈ lw_tbl := List.mem_of_getElem? (i := 975) (by decide +kernel)
set_option maxRecDepth 20000 in
theorem qF_St_1048 : (Jvm.Cond.fieldLink "java/lang/String" (1048 : Nat) "java/lang/AbstractStringBuilder" "maybeLatin1" "Z") ∈ lw_tbl := List.mem_of_getElem? (i := 976) (by decide +kernel)
set_option maxRecDepth 20000 in
theorem qF_AB_79 : (Jvm.Cond.fieldLink "java/lang/AbstractStringBuilder" (79 : Nat) "java/lang/AbstractStringBuilder" "count" "I") ∈ lw_tbl := List.mem_of_getElem? (i := 977) (by decide +kernel)
set_option maxRecDepth 20000 in
theorem qSc_SB_AB : (Jvm.Cond.superclass "java/lang/StringBuilder" "java/lang/AbstractStringBuilder") ∈ lw_tbl := List.mem_of_getElem? (i := 986) (by decide +kernel)
set_option maxRecDepth 20000 in
theorem qM_Tb_273 : (Jvm.Cond.methodLink "Threeboxes" (273 : Nat) ({ cls := "java/lang/StringBuilder", name := "append", desc := "(C)Ljava/lang/StringBuilder;" } : Jvm.MethodName)) ∈ lw_tbl := List.mem_of_getElem? (i := 987) (by decide +kernel)
set_option maxRecDepth 20000 in
theorem qI_SB_append_1 : (Jvm.Cond.instanceMethod ({ cls := "java/lang/StringBuilder", name := "append", desc := "(C)Ljava/lang/StringBuilder;" } : Jvm.MethodName)) ∈ lw_tbl := List.mem_of_getElem? (i := 988) (by decide +kernel)
set_option maxRecDepth 20000 in
theorem qV_SB_SB_append_1 : (Jvm.Cond.selects "java/lang/StringBuilder" ({ cls := "java/lang/StringBuilder", name := "append", desc := "(C)Ljava/lang/StringBuilder;" } : Jvm.MethodName) ({ cls := "java/lang/StringBuilder", name := "append", desc := "(C)Ljava/lang/StringBuilder;" } : Jvm.MethodName)) ∈ lw_tbl := List.mem_of_getElem? (i := 989) (by decide +kernel)
set_option maxRecDepth 20000 in
theorem qC_SB_append_1 : (Jvm.Cond.code ({ cls := "java/lang/StringBuilder", name := "append", desc := "(C)Ljava/lang/StringBuilder;" } : Jvm.MethodName) prog_28_method_14_code (2 : Nat) (Option.some (Jvm.ClassFile.FieldType.object "java/lang/StringBuilder"))) ∈ lw_tbl := List.mem_of_getElem? (i := 990) rfl
set_option maxRecDepth 20000 in
theorem qM_SB_50 : (Jvm.Cond.methodLink "java/lang/StringBuilder" (50 : Nat) ({ cls := "java/lang/AbstractStringBuilder", name := "append", desc := "(C)Ljava/lang/AbstractStringBuilder;" } : Jvm.MethodName)) ∈ lw_tbl := List.mem_of_getElem? (i := 991) (by decide +kernel)
set_option maxRecDepth 20000 in
theorem qI_AB_append_1 : (Jvm.Cond.instanceMethod ({ cls := "java/lang/AbstractStringBuilder", name := "append", desc := "(C)Ljava/lang/AbstractStringBuilder;" } : Jvm.MethodName)) ∈ lw_tbl := List.mem_of_getElem? (i := 992) (by decide +kernel)
set_option maxRecDepth 20000 in
theorem qC_AB_append_1 : (Jvm.Cond.code ({ cls := "java/lang/AbstractStringBuilder", name := "append", desc := "(C)Ljava/lang/AbstractStringBuilder;" } : Jvm.MethodName) prog_13_method_31_code (2 : Nat) (Option.some (Jvm.ClassFile.FieldType.object "java/lang/AbstractStringBuilder"))) ∈ lw_tbl := List.mem_of_getElem? (i := 993) rfl
set_option maxRecDepth 20000 in
theorem qM_AB_100 : (Jvm.Cond.methodLink "java/lang/AbstractStringBuilder" (100 : Nat) ({ cls := "java/lang/AbstractStringBuilder", name := "ensureCapacityInternal", desc := "(I)V" } : Jvm.MethodName)) ∈ lw_tbl := List.mem_of_getElem? (i := 994) (by decide +kernel)
set_option maxRecDepth 20000 in
theorem qI_AB_ensureCapacityInternal : (Jvm.Cond.instanceMethod ({ cls := "java/lang/AbstractStringBuilder", name := "ensureCapacityInternal", desc := "(I)V" } : Jvm.MethodName)) ∈ lw_tbl := List.mem_of_getElem? (i := 996) (by decide +kernel)
set_option maxRecDepth 20000 in
theorem qC_AB_ensureCapacityInternal : (Jvm.Cond.code ({ cls := "java/lang/AbstractStringBuilder", name := "ensureCapacityInternal", desc := "(I)V" } : Jvm.MethodName) prog_13_method_9_code (3 : Nat) (Option.none : Option Jvm.ClassFile.FieldType)) ∈ lw_tbl := List.mem_of_getElem? (i := 997) rfl
set_option maxRecDepth 20000 in
theorem qM_AB_104 : (Jvm.Cond.methodLink "java/lang/AbstractStringBuilder" (104 : Nat) ({ cls := "java/lang/AbstractStringBuilder", name := "newCapacity", desc := "(I)I" } : Jvm.MethodName)) ∈ lw_tbl := List.mem_of_getElem? (i := 998) (by decide +kernel)
set_option maxRecDepth 20000 in
theorem qI_AB_newCapacity : (Jvm.Cond.instanceMethod ({ cls := "java/lang/AbstractStringBuilder", name := "newCapacity", desc := "(I)I" } : Jvm.MethodName)) ∈ lw_tbl := List.mem_of_getElem? (i := 1000) (by decide +kernel)
set_option maxRecDepth 20000 in
theorem qC_AB_newCapacity : (Jvm.Cond.code ({ cls := "java/lang/AbstractStringBuilder", name := "newCapacity", desc := "(I)I" } : Jvm.MethodName) prog_13_method_10_code (6 : Nat) (Option.some Jvm.ClassFile.FieldType.int)) ∈ lw_tbl := List.mem_of_getElem? (i := 1001) rfl
set_option maxRecDepth 20000 in
theorem qM_AB_114 : (Jvm.Cond.methodLink "java/lang/AbstractStringBuilder" (114 : Nat) ({ cls := "jdk/internal/util/ArraysSupport", name := "newLength", desc := "(III)I" } : Jvm.MethodName)) ∈ lw_tbl := List.mem_of_getElem? (i := 1002) (by decide +kernel)
set_option maxRecDepth 20000 in
theorem qX_AB_39 : (Jvm.Cond.constant "java/lang/AbstractStringBuilder" (39 : Nat) (2147483647 : Int32)) ∈ lw_tbl := List.mem_of_getElem? (i := 1003) (by decide +kernel)
set_option maxRecDepth 20000 in
theorem qM_AB_108 : (Jvm.Cond.methodLink "java/lang/AbstractStringBuilder" (108 : Nat) ({ cls := "java/util/Arrays", name := "copyOf", desc := "([BI)[B" } : Jvm.MethodName)) ∈ lw_tbl := List.mem_of_getElem? (i := 1004) (by decide +kernel)
set_option maxRecDepth 20000 in
theorem qS_Ar_copyOf_1 : (Jvm.Cond.static ({ cls := "java/util/Arrays", name := "copyOf", desc := "([BI)[B" } : Jvm.MethodName)) ∈ lw_tbl := List.mem_of_getElem? (i := 1005) (by decide +kernel)
set_option maxRecDepth 20000 in
theorem qC_Ar_copyOf_1 : (Jvm.Cond.code ({ cls := "java/util/Arrays", name := "copyOf", desc := "([BI)[B" } : Jvm.MethodName) prog_38_method_121_code (3 : Nat) (Option.some (Jvm.ClassFile.FieldType.array Jvm.ClassFile.FieldType.byte))) ∈ lw_tbl := List.mem_of_getElem? (i := 1006) rfl
set_option maxRecDepth 20000 in
theorem qM_Ar_310 : (Jvm.Cond.methodLink "java/util/Arrays" (310 : Nat) ({ cls := "[B", name := "clone", desc := "()Ljava/lang/Object;" } : Jvm.MethodName)) ∈ lw_tbl := List.mem_of_getElem? (i := 1007) (by decide +kernel)
set_option maxRecDepth 20000 in
theorem qSm__B_javalangObject_clone_LjavalangObject : (Jvm.Cond.sameMethod "[B" "java/lang/Object" "clone" "()Ljava/lang/Object;") ∈ lw_tbl := List.mem_of_getElem? (i := 1008) (by decide +kernel)
set_option maxRecDepth 20000 in
theorem qNa_Oj_clone_73ce : (Jvm.Cond.native ({ cls := "java/lang/Object", name := "clone", desc := "()Ljava/lang/Object;" } : Jvm.MethodName)) ∈ lw_tbl := List.mem_of_getElem? (i := 1009) (by decide +kernel)
set_option maxRecDepth 20000 in
theorem qI_Oj_clone_73ce : (Jvm.Cond.instanceMethod ({ cls := "java/lang/Object", name := "clone", desc := "()Ljava/lang/Object;" } : Jvm.MethodName)) ∈ lw_tbl := List.mem_of_getElem? (i := 1010) (by decide +kernel)
set_option maxRecDepth 20000 in
theorem qV__B__B_clone_73ce : (Jvm.Cond.selects "[B" ({ cls := "[B", name := "clone", desc := "()Ljava/lang/Object;" } : Jvm.MethodName) ({ cls := "java/lang/Object", name := "clone", desc := "()Ljava/lang/Object;" } : Jvm.MethodName)) ∈ lw_tbl := List.mem_of_getElem? (i := 1011) (by decide +kernel)
set_option maxRecDepth 20000 in
theorem qT__B_java_lang_Cloneable : (Jvm.Cond.castable "[B" "java/lang/Cloneable") ∈ lw_tbl := List.mem_of_getElem? (i := 1012) (by decide +kernel)
set_option maxRecDepth 20000 in
theorem qK_Ar_311 : (Jvm.Cond.classLink "java/util/Arrays" (311 : Nat) "[B") ∈ lw_tbl := List.mem_of_getElem? (i := 1013) (by decide +kernel)
set_option maxRecDepth 20000 in
theorem qM_AB_83 : (Jvm.Cond.methodLink "java/lang/AbstractStringBuilder" (83 : Nat) ({ cls := "java/lang/AbstractStringBuilder", name := "isLatin1", desc := "()Z" } : Jvm.MethodName)) ∈ lw_tbl := List.mem_of_getElem? (i := 1014) (by decide +kernel)
set_option maxRecDepth 20000 in
theorem qI_AB_isLatin1 : (Jvm.Cond.instanceMethod ({ cls := "java/lang/AbstractStringBuilder", name := "isLatin1", desc := "()Z" } : Jvm.MethodName)) ∈ lw_tbl := List.mem_of_getElem? (i := 1015) (by decide +kernel)
set_option maxRecDepth 20000 in
theorem qSm_AB_javalangAbstractStringBuilder_isLatin1_Z : (Jvm.Cond.sameMethod "java/lang/AbstractStringBuilder" "java/lang/AbstractStringBuilder" "isLatin1" "()Z") ∈ lw_tbl := List.mem_of_getElem? (i := 1016) (by decide +kernel)
set_option maxRecDepth 20000 in
theorem qV_SB_AB_isLatin1 : (Jvm.Cond.selects "java/lang/StringBuilder" ({ cls := "java/lang/AbstractStringBuilder", name := "isLatin1", desc := "()Z" } : Jvm.MethodName) ({ cls := "java/lang/AbstractStringBuilder", name := "isLatin1", desc := "()Z" } : Jvm.MethodName)) ∈ lw_tbl := List.mem_of_getElem? (i := 1017) (by decide +kernel)
set_option maxRecDepth 20000 in
theorem qC_AB_isLatin1 : (Jvm.Cond.code ({ cls := "java/lang/AbstractStringBuilder", name := "isLatin1", desc := "()Z" } : Jvm.MethodName) prog_13_method_68_code (1 : Nat) (Option.some Jvm.ClassFile.FieldType.boolean)) ∈ lw_tbl := List.mem_of_getElem? (i := 1018) rfl
set_option maxRecDepth 20000 in
theorem qM_AB_191 : (Jvm.Cond.methodLink "java/lang/AbstractStringBuilder" (191 : Nat) ({ cls := "java/lang/StringLatin1", name := "canEncode", desc := "(C)Z" } : Jvm.MethodName)) ∈ lw_tbl := List.mem_of_getElem? (i := 1019) (by decide +kernel)
set_option maxRecDepth 20000 in
theorem qS_SL_canEncode : (Jvm.Cond.static ({ cls := "java/lang/StringLatin1", name := "canEncode", desc := "(C)Z" } : Jvm.MethodName)) ∈ lw_tbl := List.mem_of_getElem? (i := 1020) (by decide +kernel)
set_option maxRecDepth 20000 in
theorem qC_SL_canEncode : (Jvm.Cond.code ({ cls := "java/lang/StringLatin1", name := "canEncode", desc := "(C)Z" } : Jvm.MethodName) prog_29_method_3_code (1 : Nat) (Option.some Jvm.ClassFile.FieldType.boolean)) ∈ lw_tbl := List.mem_of_getElem? (i := 1021) rfl
set_option maxRecDepth 20000 in
theorem qM_AB_195 : (Jvm.Cond.methodLink "java/lang/AbstractStringBuilder" (195 : Nat) ({ cls := "java/lang/AbstractStringBuilder", name := "inflate", desc := "()V" } : Jvm.MethodName)) ∈ lw_tbl := List.mem_of_getElem? (i := 1022) (by decide +kernel)
set_option maxRecDepth 20000 in
theorem qI_AB_inflate : (Jvm.Cond.instanceMethod ({ cls := "java/lang/AbstractStringBuilder", name := "inflate", desc := "()V" } : Jvm.MethodName)) ∈ lw_tbl := List.mem_of_getElem? (i := 1024) (by decide +kernel)
set_option maxRecDepth 20000 in
theorem qC_AB_inflate : (Jvm.Cond.code ({ cls := "java/lang/AbstractStringBuilder", name := "inflate", desc := "()V" } : Jvm.MethodName) prog_13_method_11_code (2 : Nat) (Option.none : Option Jvm.ClassFile.FieldType)) ∈ lw_tbl := List.mem_of_getElem? (i := 1025) rfl
set_option maxRecDepth 20000 in
theorem qM_AB_125 : (Jvm.Cond.methodLink "java/lang/AbstractStringBuilder" (125 : Nat) ({ cls := "java/lang/StringLatin1", name := "inflate", desc := "([BI[BII)V" } : Jvm.MethodName)) ∈ lw_tbl := List.mem_of_getElem? (i := 1026) (by decide +kernel)
set_option maxRecDepth 20000 in
theorem qS_SL_inflate : (Jvm.Cond.static ({ cls := "java/lang/StringLatin1", name := "inflate", desc := "([BI[BII)V" } : Jvm.MethodName)) ∈ lw_tbl := List.mem_of_getElem? (i := 1027) (by decide +kernel)
set_option maxRecDepth 20000 in
theorem qC_SL_inflate : (Jvm.Cond.code ({ cls := "java/lang/StringLatin1", name := "inflate", desc := "([BI[BII)V" } : Jvm.MethodName) prog_29_method_50_code (5 : Nat) (Option.none : Option Jvm.ClassFile.FieldType)) ∈ lw_tbl := List.mem_of_getElem? (i := 1028) rfl
set_option maxRecDepth 20000 in
theorem qM_SL_240 : (Jvm.Cond.methodLink "java/lang/StringLatin1" (240 : Nat) ({ cls := "java/lang/StringUTF16", name := "inflate", desc := "([BI[BII)V" } : Jvm.MethodName)) ∈ lw_tbl := List.mem_of_getElem? (i := 1029) (by decide +kernel)
set_option maxRecDepth 20000 in
theorem qS_SU_inflate : (Jvm.Cond.static ({ cls := "java/lang/StringUTF16", name := "inflate", desc := "([BI[BII)V" } : Jvm.MethodName)) ∈ lw_tbl := List.mem_of_getElem? (i := 1030) (by decide +kernel)
set_option maxRecDepth 20000 in
theorem qC_SU_inflate : (Jvm.Cond.code ({ cls := "java/lang/StringUTF16", name := "inflate", desc := "([BI[BII)V" } : Jvm.MethodName) prog_30_method_86_code (6 : Nat) (Option.none : Option Jvm.ClassFile.FieldType)) ∈ lw_tbl := List.mem_of_getElem? (i := 1031) rfl
set_option maxRecDepth 20000 in
theorem qM_SU_173 : (Jvm.Cond.methodLink "java/lang/StringUTF16" (173 : Nat) ({ cls := "java/lang/StringUTF16", name := "checkBoundsOffCount", desc := "(II[B)V" } : Jvm.MethodName)) ∈ lw_tbl := List.mem_of_getElem? (i := 1032) (by decide +kernel)
set_option maxRecDepth 20000 in
theorem qS_SU_checkBoundsOffCount : (Jvm.Cond.static ({ cls := "java/lang/StringUTF16", name := "checkBoundsOffCount", desc := "(II[B)V" } : Jvm.MethodName)) ∈ lw_tbl := List.mem_of_getElem? (i := 1033) (by decide +kernel)
set_option maxRecDepth 20000 in
theorem qC_SU_checkBoundsOffCount : (Jvm.Cond.code ({ cls := "java/lang/StringUTF16", name := "checkBoundsOffCount", desc := "(II[B)V" } : Jvm.MethodName) prog_30_method_94_code (3 : Nat) (Option.none : Option Jvm.ClassFile.FieldType)) ∈ lw_tbl := List.mem_of_getElem? (i := 1034) rfl
set_option maxRecDepth 20000 in
theorem qM_SU_48 : (Jvm.Cond.methodLink "java/lang/StringUTF16" (48 : Nat) ({ cls := "java/lang/StringUTF16", name := "length", desc := "([B)I" } : Jvm.MethodName)) ∈ lw_tbl := List.mem_of_getElem? (i := 1035) (by decide +kernel)
set_option maxRecDepth 20000 in
theorem qS_SU_length : (Jvm.Cond.static ({ cls := "java/lang/StringUTF16", name := "length", desc := "([B)I" } : Jvm.MethodName)) ∈ lw_tbl := List.mem_of_getElem? (i := 1036) (by decide +kernel)
set_option maxRecDepth 20000 in
theorem qC_SU_length : (Jvm.Cond.code ({ cls := "java/lang/StringUTF16", name := "length", desc := "([B)I" } : Jvm.MethodName) prog_30_method_6_code (1 : Nat) (Option.some Jvm.ClassFile.FieldType.int)) ∈ lw_tbl := List.mem_of_getElem? (i := 1037) rfl
set_option maxRecDepth 20000 in
theorem qM_SU_419 : (Jvm.Cond.methodLink "java/lang/StringUTF16" (419 : Nat) ({ cls := "java/lang/String", name := "checkBoundsOffCount", desc := "(III)I" } : Jvm.MethodName)) ∈ lw_tbl := List.mem_of_getElem? (i := 1038) (by decide +kernel)
set_option maxRecDepth 20000 in
theorem qS_St_checkBoundsOffCount : (Jvm.Cond.static ({ cls := "java/lang/String", name := "checkBoundsOffCount", desc := "(III)I" } : Jvm.MethodName)) ∈ lw_tbl := List.mem_of_getElem? (i := 1039) (by decide +kernel)
set_option maxRecDepth 20000 in
theorem qC_St_checkBoundsOffCount : (Jvm.Cond.code ({ cls := "java/lang/String", name := "checkBoundsOffCount", desc := "(III)I" } : Jvm.MethodName) prog_27_method_157_code (3 : Nat) (Option.some Jvm.ClassFile.FieldType.int)) ∈ lw_tbl := List.mem_of_getElem? (i := 1040) rfl
set_option maxRecDepth 20000 in
theorem qF_St_1053 : (Jvm.Cond.fieldLink "java/lang/String" (1053 : Nat) "jdk/internal/util/Preconditions" "SIOOBE_FORMATTER" "Ljava/util/function/BiFunction;") ∈ lw_tbl := List.mem_of_getElem? (i := 1041) (by decide +kernel)
set_option maxRecDepth 20000 in
theorem qLs_Pr_SIOOBEFORMATTER_LjavautilfunctionBiFunction : (Jvm.Cond.laysStatic "jdk/internal/util/Preconditions" "SIOOBE_FORMATTER" "Ljava/util/function/BiFunction;") ∈ lw_tbl := List.mem_of_getElem? (i := 1042) (by decide +kernel)
set_option maxRecDepth 20000 in
theorem qM_St_1065 : (Jvm.Cond.methodLink "java/lang/String" (1065 : Nat) ({ cls := "jdk/internal/util/Preconditions", name := "checkFromIndexSize", desc := "(IIILjava/util/function/BiFunction;)I" } : Jvm.MethodName)) ∈ lw_tbl := List.mem_of_getElem? (i := 1043) (by decide +kernel)
set_option maxRecDepth 20000 in
theorem qS_Pr_checkFromIndexSize : (Jvm.Cond.static ({ cls := "jdk/internal/util/Preconditions", name := "checkFromIndexSize", desc := "(IIILjava/util/function/BiFunction;)I" } : Jvm.MethodName)) ∈ lw_tbl := List.mem_of_getElem? (i := 1044) (by decide +kernel)
set_option maxRecDepth 20000 in
theorem qC_Pr_checkFromIndexSize : (Jvm.Cond.code ({ cls := "jdk/internal/util/Preconditions", name := "checkFromIndexSize", desc := "(IIILjava/util/function/BiFunction;)I" } : Jvm.MethodName) prog_45_method_13_code (4 : Nat) (Option.some Jvm.ClassFile.FieldType.int)) ∈ lw_tbl := List.mem_of_getElem? (i := 1045) rfl
set_option maxRecDepth 20000 in
theorem qM_SU_111 : (Jvm.Cond.methodLink "java/lang/StringUTF16" (111 : Nat) ({ cls := "java/lang/StringUTF16", name := "putChar", desc := "([BII)V" } : Jvm.MethodName)) ∈ lw_tbl := List.mem_of_getElem? (i := 1046) (by decide +kernel)
set_option maxRecDepth 20000 in
theorem qS_SU_putChar : (Jvm.Cond.static ({ cls := "java/lang/StringUTF16", name := "putChar", desc := "([BII)V" } : Jvm.MethodName)) ∈ lw_tbl := List.mem_of_getElem? (i := 1047) (by decide +kernel)
set_option maxRecDepth 20000 in
theorem qC_SU_putChar : (Jvm.Cond.code ({ cls := "java/lang/StringUTF16", name := "putChar", desc := "([BII)V" } : Jvm.MethodName) prog_30_method_4_code (3 : Nat) (Option.none : Option Jvm.ClassFile.FieldType)) ∈ lw_tbl := List.mem_of_getElem? (i := 1048) rfl
set_option maxRecDepth 20000 in
theorem qF_SU_44 : (Jvm.Cond.fieldLink "java/lang/StringUTF16" (44 : Nat) "java/lang/StringUTF16" "$assertionsDisabled" "Z") ∈ lw_tbl := List.mem_of_getElem? (i := 1049) (by decide +kernel)
set_option maxRecDepth 20000 in
theorem qLs_SU_assertionsDisabled_Z : (Jvm.Cond.laysStatic "java/lang/StringUTF16" "$assertionsDisabled" "Z") ∈ lw_tbl := List.mem_of_getElem? (i := 1050) (by decide +kernel)
set_option maxRecDepth 20000 in
theorem qF_SU_59 : (Jvm.Cond.fieldLink "java/lang/StringUTF16" (59 : Nat) "java/lang/StringUTF16" "HI_BYTE_SHIFT" "I") ∈ lw_tbl := List.mem_of_getElem? (i := 1051) (by decide +kernel)
set_option maxRecDepth 20000 in
theorem qLs_SU_HIBYTESHIFT_I : (Jvm.Cond.laysStatic "java/lang/StringUTF16" "HI_BYTE_SHIFT" "I") ∈ lw_tbl := List.mem_of_getElem? (i := 1052) (by decide +kernel)
set_option maxRecDepth 20000 in
theorem qF_SU_63 : (Jvm.Cond.fieldLink "java/lang/StringUTF16" (63 : Nat) "java/lang/StringUTF16" "LO_BYTE_SHIFT" "I") ∈ lw_tbl := List.mem_of_getElem? (i := 1053) (by decide +kernel)
set_option maxRecDepth 20000 in
theorem qLs_SU_LOBYTESHIFT_I : (Jvm.Cond.laysStatic "java/lang/StringUTF16" "LO_BYTE_SHIFT" "I") ∈ lw_tbl := List.mem_of_getElem? (i := 1054) (by decide +kernel)
set_option maxRecDepth 20000 in
theorem qM_AB_197 : (Jvm.Cond.methodLink "java/lang/AbstractStringBuilder" (197 : Nat) ({ cls := "java/lang/StringUTF16", name := "putCharSB", desc := "([BII)V" } : Jvm.MethodName)) ∈ lw_tbl := List.mem_of_getElem? (i := 1055) (by decide +kernel)
set_option maxRecDepth 20000 in
theorem qS_SU_putCharSB : (Jvm.Cond.static ({ cls := "java/lang/StringUTF16", name := "putCharSB", desc := "([BII)V" } : Jvm.MethodName)) ∈ lw_tbl := List.mem_of_getElem? (i := 1056) (by decide +kernel)
set_option maxRecDepth 20000 in
theorem qC_SU_putCharSB : (Jvm.Cond.code ({ cls := "java/lang/StringUTF16", name := "putCharSB", desc := "([BII)V" } : Jvm.MethodName) prog_30_method_71_code (3 : Nat) (Option.none : Option Jvm.ClassFile.FieldType)) ∈ lw_tbl := List.mem_of_getElem? (i := 1057) rfl
set_option maxRecDepth 20000 in
theorem qM_SU_67 : (Jvm.Cond.methodLink "java/lang/StringUTF16" (67 : Nat) ({ cls := "java/lang/StringUTF16", name := "checkIndex", desc := "(I[B)V" } : Jvm.MethodName)) ∈ lw_tbl := List.mem_of_getElem? (i := 1058) (by decide +kernel)
set_option maxRecDepth 20000 in
theorem qS_SU_checkIndex : (Jvm.Cond.static ({ cls := "java/lang/StringUTF16", name := "checkIndex", desc := "(I[B)V" } : Jvm.MethodName)) ∈ lw_tbl := List.mem_of_getElem? (i := 1059) (by decide +kernel)
set_option maxRecDepth 20000 in
theorem qC_SU_checkIndex : (Jvm.Cond.code ({ cls := "java/lang/StringUTF16", name := "checkIndex", desc := "(I[B)V" } : Jvm.MethodName) prog_30_method_91_code (2 : Nat) (Option.none : Option Jvm.ClassFile.FieldType)) ∈ lw_tbl := List.mem_of_getElem? (i := 1060) rfl
set_option maxRecDepth 20000 in
theorem qM_SU_414 : (Jvm.Cond.methodLink "java/lang/StringUTF16" (414 : Nat) ({ cls := "java/lang/String", name := "checkIndex", desc := "(II)V" } : Jvm.MethodName)) ∈ lw_tbl := List.mem_of_getElem? (i := 1061) (by decide +kernel)
set_option maxRecDepth 20000 in
theorem qS_St_checkIndex : (Jvm.Cond.static ({ cls := "java/lang/String", name := "checkIndex", desc := "(II)V" } : Jvm.MethodName)) ∈ lw_tbl := List.mem_of_getElem? (i := 1062) (by decide +kernel)
set_option maxRecDepth 20000 in
theorem qC_St_checkIndex : (Jvm.Cond.code ({ cls := "java/lang/String", name := "checkIndex", desc := "(II)V" } : Jvm.MethodName) prog_27_method_155_code (2 : Nat) (Option.none : Option Jvm.ClassFile.FieldType)) ∈ lw_tbl := List.mem_of_getElem? (i := 1063) rfl
set_option maxRecDepth 20000 in
theorem qM_St_1059 : (Jvm.Cond.methodLink "java/lang/String" (1059 : Nat) ({ cls := "jdk/internal/util/Preconditions", name := "checkIndex", desc := "(IILjava/util/function/BiFunction;)I" } : Jvm.MethodName)) ∈ lw_tbl := List.mem_of_getElem? (i := 1064) (by decide +kernel)
set_option maxRecDepth 20000 in
theorem qM_Tb_277 : (Jvm.Cond.methodLink "Threeboxes" (277 : Nat) ({ cls := "java/lang/StringBuilder", name := "toString", desc := "()Ljava/lang/String;" } : Jvm.MethodName)) ∈ lw_tbl := List.mem_of_getElem? (i := 1065) (by decide +kernel)
set_option maxRecDepth 20000 in
theorem qI_SB_toString : (Jvm.Cond.instanceMethod ({ cls := "java/lang/StringBuilder", name := "toString", desc := "()Ljava/lang/String;" } : Jvm.MethodName)) ∈ lw_tbl := List.mem_of_getElem? (i := 1066) (by decide +kernel)
set_option maxRecDepth 20000 in
theorem qV_SB_SB_toString : (Jvm.Cond.selects "java/lang/StringBuilder" ({ cls := "java/lang/StringBuilder", name := "toString", desc := "()Ljava/lang/String;" } : Jvm.MethodName) ({ cls := "java/lang/StringBuilder", name := "toString", desc := "()Ljava/lang/String;" } : Jvm.MethodName)) ∈ lw_tbl := List.mem_of_getElem? (i := 1067) (by decide +kernel)
set_option maxRecDepth 20000 in
theorem qC_SB_toString : (Jvm.Cond.code ({ cls := "java/lang/StringBuilder", name := "toString", desc := "()Ljava/lang/String;" } : Jvm.MethodName) prog_28_method_42_code (1 : Nat) (Option.some (Jvm.ClassFile.FieldType.object "java/lang/String"))) ∈ lw_tbl := List.mem_of_getElem? (i := 1068) rfl
set_option maxRecDepth 20000 in
theorem qK_SB_18 : (Jvm.Cond.classLink "java/lang/StringBuilder" (18 : Nat) "java/lang/String") ∈ lw_tbl := List.mem_of_getElem? (i := 1069) (by decide +kernel)
set_option maxRecDepth 20000 in
theorem qO_St : (Jvm.Cond.instantiable "java/lang/String" (4 : Nat)) ∈ lw_tbl := List.mem_of_getElem? (i := 1070) (by decide +kernel)
set_option maxRecDepth 20000 in
theorem qM_SB_137 : (Jvm.Cond.methodLink "java/lang/StringBuilder" (137 : Nat) ({ cls := "java/lang/String", name := "<init>", desc := "(Ljava/lang/StringBuilder;)V" } : Jvm.MethodName)) ∈ lw_tbl := List.mem_of_getElem? (i := 1071) (by decide +kernel)
set_option maxRecDepth 20000 in
theorem qI_St_init_2 : (Jvm.Cond.instanceMethod ({ cls := "java/lang/String", name := "<init>", desc := "(Ljava/lang/StringBuilder;)V" } : Jvm.MethodName)) ∈ lw_tbl := List.mem_of_getElem? (i := 1072) (by decide +kernel)
set_option maxRecDepth 20000 in
theorem qC_St_init_2 : (Jvm.Cond.code ({ cls := "java/lang/String", name := "<init>", desc := "(Ljava/lang/StringBuilder;)V" } : Jvm.MethodName) prog_27_method_53_code (2 : Nat) (Option.none : Option Jvm.ClassFile.FieldType)) ∈ lw_tbl := List.mem_of_getElem? (i := 1073) rfl
set_option maxRecDepth 20000 in
theorem qM_St_489 : (Jvm.Cond.methodLink "java/lang/String" (489 : Nat) ({ cls := "java/lang/String", name := "<init>", desc := "(Ljava/lang/AbstractStringBuilder;Ljava/lang/Void;)V" } : Jvm.MethodName)) ∈ lw_tbl := List.mem_of_getElem? (i := 1074) (by decide +kernel)
set_option maxRecDepth 20000 in
theorem qI_St_init_1 : (Jvm.Cond.instanceMethod ({ cls := "java/lang/String", name := "<init>", desc := "(Ljava/lang/AbstractStringBuilder;Ljava/lang/Void;)V" } : Jvm.MethodName)) ∈ lw_tbl := List.mem_of_getElem? (i := 1075) (by decide +kernel)
set_option maxRecDepth 20000 in
theorem qC_St_init_1 : (Jvm.Cond.code ({ cls := "java/lang/String", name := "<init>", desc := "(Ljava/lang/AbstractStringBuilder;Ljava/lang/Void;)V" } : Jvm.MethodName) prog_27_method_150_code (5 : Nat) (Option.none : Option Jvm.ClassFile.FieldType)) ∈ lw_tbl := List.mem_of_getElem? (i := 1076) rfl
set_option maxRecDepth 20000 in
theorem qM_St_1 : (Jvm.Cond.methodLink "java/lang/String" (1 : Nat) ({ cls := "java/lang/Object", name := "<init>", desc := "()V" } : Jvm.MethodName)) ∈ lw_tbl := List.mem_of_getElem? (i := 1077) (by decide +kernel)
set_option maxRecDepth 20000 in
theorem qM_St_552 : (Jvm.Cond.methodLink "java/lang/String" (552 : Nat) ({ cls := "java/lang/AbstractStringBuilder", name := "getValue", desc := "()[B" } : Jvm.MethodName)) ∈ lw_tbl := List.mem_of_getElem? (i := 1078) (by decide +kernel)
set_option maxRecDepth 20000 in
theorem qI_AB_getValue : (Jvm.Cond.instanceMethod ({ cls := "java/lang/AbstractStringBuilder", name := "getValue", desc := "()[B" } : Jvm.MethodName)) ∈ lw_tbl := List.mem_of_getElem? (i := 1079) (by decide +kernel)
set_option maxRecDepth 20000 in
theorem qSm_AB_javalangAbstractStringBuilder_getValue_B : (Jvm.Cond.sameMethod "java/lang/AbstractStringBuilder" "java/lang/AbstractStringBuilder" "getValue" "()[B") ∈ lw_tbl := List.mem_of_getElem? (i := 1080) (by decide +kernel)
set_option maxRecDepth 20000 in
theorem qV_SB_AB_getValue : (Jvm.Cond.selects "java/lang/StringBuilder" ({ cls := "java/lang/AbstractStringBuilder", name := "getValue", desc := "()[B" } : Jvm.MethodName) ({ cls := "java/lang/AbstractStringBuilder", name := "getValue", desc := "()[B" } : Jvm.MethodName)) ∈ lw_tbl := List.mem_of_getElem? (i := 1081) (by decide +kernel)
set_option maxRecDepth 20000 in
theorem qC_AB_getValue : (Jvm.Cond.code ({ cls := "java/lang/AbstractStringBuilder", name := "getValue", desc := "()[B" } : Jvm.MethodName) prog_13_method_64_code (1 : Nat) (Option.some (Jvm.ClassFile.FieldType.array Jvm.ClassFile.FieldType.byte))) ∈ lw_tbl := List.mem_of_getElem? (i := 1082) rfl
set_option maxRecDepth 20000 in
theorem qM_St_549 : (Jvm.Cond.methodLink "java/lang/String" (549 : Nat) ({ cls := "java/lang/AbstractStringBuilder", name := "length", desc := "()I" } : Jvm.MethodName)) ∈ lw_tbl := List.mem_of_getElem? (i := 1083) (by decide +kernel)
set_option maxRecDepth 20000 in
theorem qI_AB_length : (Jvm.Cond.instanceMethod ({ cls := "java/lang/AbstractStringBuilder", name := "length", desc := "()I" } : Jvm.MethodName)) ∈ lw_tbl := List.mem_of_getElem? (i := 1084) (by decide +kernel)
set_option maxRecDepth 20000 in
theorem qSm_AB_javalangAbstractStringBuilder_length_I : (Jvm.Cond.sameMethod "java/lang/AbstractStringBuilder" "java/lang/AbstractStringBuilder" "length" "()I") ∈ lw_tbl := List.mem_of_getElem? (i := 1085) (by decide +kernel)
set_option maxRecDepth 20000 in
theorem qV_SB_AB_length : (Jvm.Cond.selects "java/lang/StringBuilder" ({ cls := "java/lang/AbstractStringBuilder", name := "length", desc := "()I" } : Jvm.MethodName) ({ cls := "java/lang/StringBuilder", name := "length", desc := "()I" } : Jvm.MethodName)) ∈ lw_tbl := List.mem_of_getElem? (i := 1086) (by decide +kernel)
set_option maxRecDepth 20000 in
theorem qI_SB_length : (Jvm.Cond.instanceMethod ({ cls := "java/lang/StringBuilder", name := "length", desc := "()I" } : Jvm.MethodName)) ∈ lw_tbl := List.mem_of_getElem? (i := 1087) (by decide +kernel)
set_option maxRecDepth 20000 in
theorem qC_SB_length : (Jvm.Cond.code ({ cls := "java/lang/StringBuilder", name := "length", desc := "()I" } : Jvm.MethodName) prog_28_method_93_code (1 : Nat) (Option.some Jvm.ClassFile.FieldType.int)) ∈ lw_tbl := List.mem_of_getElem? (i := 1088) rfl
set_option maxRecDepth 20000 in
theorem qM_SB_343 : (Jvm.Cond.methodLink "java/lang/StringBuilder" (343 : Nat) ({ cls := "java/lang/AbstractStringBuilder", name := "length", desc := "()I" } : Jvm.MethodName)) ∈ lw_tbl := List.mem_of_getElem? (i := 1089) (by decide +kernel)
set_option maxRecDepth 20000 in
theorem qC_AB_length : (Jvm.Cond.code ({ cls := "java/lang/AbstractStringBuilder", name := "length", desc := "()I" } : Jvm.MethodName) prog_13_method_6_code (1 : Nat) (Option.some Jvm.ClassFile.FieldType.int)) ∈ lw_tbl := List.mem_of_getElem? (i := 1090) rfl
set_option maxRecDepth 20000 in
theorem qM_St_1047 : (Jvm.Cond.methodLink "java/lang/String" (1047 : Nat) ({ cls := "java/lang/AbstractStringBuilder", name := "isLatin1", desc := "()Z" } : Jvm.MethodName)) ∈ lw_tbl := List.mem_of_getElem? (i := 1091) (by decide +kernel)
set_option maxRecDepth 20000 in
theorem qM_St_54 : (Jvm.Cond.methodLink "java/lang/String" (54 : Nat) ({ cls := "java/util/Arrays", name := "copyOfRange", desc := "([BII)[B" } : Jvm.MethodName)) ∈ lw_tbl := List.mem_of_getElem? (i := 1092) (by decide +kernel)
set_option maxRecDepth 20000 in
theorem qS_Ar_copyOfRange : (Jvm.Cond.static ({ cls := "java/util/Arrays", name := "copyOfRange", desc := "([BII)[B" } : Jvm.MethodName)) ∈ lw_tbl := List.mem_of_getElem? (i := 1093) (by decide +kernel)
set_option maxRecDepth 20000 in
theorem qC_Ar_copyOfRange : (Jvm.Cond.code ({ cls := "java/util/Arrays", name := "copyOfRange", desc := "([BII)[B" } : Jvm.MethodName) prog_38_method_132_code (3 : Nat) (Option.some (Jvm.ClassFile.FieldType.array Jvm.ClassFile.FieldType.byte))) ∈ lw_tbl := List.mem_of_getElem? (i := 1094) rfl
set_option maxRecDepth 20000 in
theorem qM_Ar_339 : (Jvm.Cond.methodLink "java/util/Arrays" (339 : Nat) ({ cls := "java/util/Arrays", name := "copyOfRangeByte", desc := "([BII)[B" } : Jvm.MethodName)) ∈ lw_tbl := List.mem_of_getElem? (i := 1095) (by decide +kernel)
set_option maxRecDepth 20000 in
theorem qS_Ar_copyOfRangeByte : (Jvm.Cond.static ({ cls := "java/util/Arrays", name := "copyOfRangeByte", desc := "([BII)[B" } : Jvm.MethodName)) ∈ lw_tbl := List.mem_of_getElem? (i := 1096) (by decide +kernel)
set_option maxRecDepth 20000 in
theorem qC_Ar_copyOfRangeByte : (Jvm.Cond.code ({ cls := "java/util/Arrays", name := "copyOfRangeByte", desc := "([BII)[B" } : Jvm.MethodName) prog_38_method_133_code (5 : Nat) (Option.some (Jvm.ClassFile.FieldType.array Jvm.ClassFile.FieldType.byte))) ∈ lw_tbl := List.mem_of_getElem? (i := 1097) rfl
set_option maxRecDepth 20000 in
theorem qM_Ar_343 : (Jvm.Cond.methodLink "java/util/Arrays" (343 : Nat) ({ cls := "java/util/Arrays", name := "checkLength", desc := "(II)V" } : Jvm.MethodName)) ∈ lw_tbl := List.mem_of_getElem? (i := 1098) (by decide +kernel)
set_option maxRecDepth 20000 in
theorem qS_Ar_checkLength : (Jvm.Cond.static ({ cls := "java/util/Arrays", name := "checkLength", desc := "(II)V" } : Jvm.MethodName)) ∈ lw_tbl := List.mem_of_getElem? (i := 1099) (by decide +kernel)
set_option maxRecDepth 20000 in
theorem qC_Ar_checkLength : (Jvm.Cond.code ({ cls := "java/util/Arrays", name := "checkLength", desc := "(II)V" } : Jvm.MethodName) prog_38_method_131_code (2 : Nat) (Option.none : Option Jvm.ClassFile.FieldType)) ∈ lw_tbl := List.mem_of_getElem? (i := 1100) rfl
set_option maxRecDepth 20000 in
theorem qK_Ar_43 : (Jvm.Cond.classLink "java/util/Arrays" (43 : Nat) "java/lang/IllegalArgumentException") ∈ lw_tbl := List.mem_of_getElem? (i := 1101) (by decide +kernel)
set_option maxRecDepth 20000 in
theorem qK_Ar_45 : (Jvm.Cond.classLink "java/util/Arrays" (45 : Nat) "java/lang/StringBuilder") ∈ lw_tbl := List.mem_of_getElem? (i := 1102) (by decide +kernel)
set_option maxRecDepth 20000 in
theorem qM_Ar_47 : (Jvm.Cond.methodLink "java/util/Arrays" (47 : Nat) ({ cls := "java/lang/StringBuilder", name := "<init>", desc := "()V" } : Jvm.MethodName)) ∈ lw_tbl := List.mem_of_getElem? (i := 1103) (by decide +kernel)
set_option maxRecDepth 20000 in
theorem qM_Ar_54 : (Jvm.Cond.methodLink "java/util/Arrays" (54 : Nat) ({ cls := "java/lang/StringBuilder", name := "append", desc := "(I)Ljava/lang/StringBuilder;" } : Jvm.MethodName)) ∈ lw_tbl := List.mem_of_getElem? (i := 1104) (by decide +kernel)
set_option maxRecDepth 20000 in
theorem qI_SB_append_2 : (Jvm.Cond.instanceMethod ({ cls := "java/lang/StringBuilder", name := "append", desc := "(I)Ljava/lang/StringBuilder;" } : Jvm.MethodName)) ∈ lw_tbl := List.mem_of_getElem? (i := 1105) (by decide +kernel)
set_option maxRecDepth 20000 in
theorem qV_SB_SB_append_2 : (Jvm.Cond.selects "java/lang/StringBuilder" ({ cls := "java/lang/StringBuilder", name := "append", desc := "(I)Ljava/lang/StringBuilder;" } : Jvm.MethodName) ({ cls := "java/lang/StringBuilder", name := "append", desc := "(I)Ljava/lang/StringBuilder;" } : Jvm.MethodName)) ∈ lw_tbl := List.mem_of_getElem? (i := 1106) (by decide +kernel)
set_option maxRecDepth 20000 in
theorem qC_SB_append_2 : (Jvm.Cond.code ({ cls := "java/lang/StringBuilder", name := "append", desc := "(I)Ljava/lang/StringBuilder;" } : Jvm.MethodName) prog_28_method_15_code (2 : Nat) (Option.some (Jvm.ClassFile.FieldType.object "java/lang/StringBuilder"))) ∈ lw_tbl := List.mem_of_getElem? (i := 1107) rfl
set_option maxRecDepth 20000 in
theorem qM_SB_53 : (Jvm.Cond.methodLink "java/lang/StringBuilder" (53 : Nat) ({ cls := "java/lang/AbstractStringBuilder", name := "append", desc := "(I)Ljava/lang/AbstractStringBuilder;" } : Jvm.MethodName)) ∈ lw_tbl := List.mem_of_getElem? (i := 1108) (by decide +kernel)
set_option maxRecDepth 20000 in
theorem qI_AB_append_2 : (Jvm.Cond.instanceMethod ({ cls := "java/lang/AbstractStringBuilder", name := "append", desc := "(I)Ljava/lang/AbstractStringBuilder;" } : Jvm.MethodName)) ∈ lw_tbl := List.mem_of_getElem? (i := 1109) (by decide +kernel)
set_option maxRecDepth 20000 in
theorem qC_AB_append_2 : (Jvm.Cond.code ({ cls := "java/lang/AbstractStringBuilder", name := "append", desc := "(I)Ljava/lang/AbstractStringBuilder;" } : Jvm.MethodName) prog_13_method_32_code (4 : Nat) (Option.some (Jvm.ClassFile.FieldType.object "java/lang/AbstractStringBuilder"))) ∈ lw_tbl := List.mem_of_getElem? (i := 1110) rfl
set_option maxRecDepth 20000 in
theorem qM_AB_245 : (Jvm.Cond.methodLink "java/lang/AbstractStringBuilder" (245 : Nat) ({ cls := "java/lang/Integer", name := "stringSize", desc := "(I)I" } : Jvm.MethodName)) ∈ lw_tbl := List.mem_of_getElem? (i := 1111) (by decide +kernel)
set_option maxRecDepth 20000 in
theorem qS_In_stringSize : (Jvm.Cond.static ({ cls := "java/lang/Integer", name := "stringSize", desc := "(I)I" } : Jvm.MethodName)) ∈ lw_tbl := List.mem_of_getElem? (i := 1112) (by decide +kernel)
set_option maxRecDepth 20000 in
theorem qC_In_stringSize : (Jvm.Cond.code ({ cls := "java/lang/Integer", name := "stringSize", desc := "(I)I" } : Jvm.MethodName) prog_22_method_13_code (4 : Nat) (Option.some Jvm.ClassFile.FieldType.int)) ∈ lw_tbl := List.mem_of_getElem? (i := 1113) rfl
set_option maxRecDepth 20000 in
theorem qM_AB_248 : (Jvm.Cond.methodLink "java/lang/AbstractStringBuilder" (248 : Nat) ({ cls := "java/lang/Integer", name := "getChars", desc := "(II[B)I" } : Jvm.MethodName)) ∈ lw_tbl := List.mem_of_getElem? (i := 1114) (by decide +kernel)
set_option maxRecDepth 20000 in
theorem qS_In_getChars : (Jvm.Cond.static ({ cls := "java/lang/Integer", name := "getChars", desc := "(II[B)I" } : Jvm.MethodName)) ∈ lw_tbl := List.mem_of_getElem? (i := 1115) (by decide +kernel)
set_option maxRecDepth 20000 in
theorem qC_In_getChars : (Jvm.Cond.code ({ cls := "java/lang/Integer", name := "getChars", desc := "(II[B)I" } : Jvm.MethodName) prog_22_method_12_code (7 : Nat) (Option.some Jvm.ClassFile.FieldType.int)) ∈ lw_tbl := List.mem_of_getElem? (i := 1116) rfl
set_option maxRecDepth 20000 in
theorem qF_In_83 : (Jvm.Cond.fieldLink "java/lang/Integer" (83 : Nat) "java/lang/Integer" "DigitOnes" "[B") ∈ lw_tbl := List.mem_of_getElem? (i := 1117) (by decide +kernel)
set_option maxRecDepth 20000 in
theorem qLs_In_DigitOnes_B : (Jvm.Cond.laysStatic "java/lang/Integer" "DigitOnes" "[B") ∈ lw_tbl := List.mem_of_getElem? (i := 1118) (by decide +kernel)
set_option maxRecDepth 20000 in
theorem qF_In_87 : (Jvm.Cond.fieldLink "java/lang/Integer" (87 : Nat) "java/lang/Integer" "DigitTens" "[B") ∈ lw_tbl := List.mem_of_getElem? (i := 1119) (by decide +kernel)
set_option maxRecDepth 20000 in
theorem qLs_In_DigitTens_B : (Jvm.Cond.laysStatic "java/lang/Integer" "DigitTens" "[B") ∈ lw_tbl := List.mem_of_getElem? (i := 1120) (by decide +kernel)
set_option maxRecDepth 20000 in
theorem qM_AB_251 : (Jvm.Cond.methodLink "java/lang/AbstractStringBuilder" (251 : Nat) ({ cls := "java/lang/StringUTF16", name := "getChars", desc := "(III[B)I" } : Jvm.MethodName)) ∈ lw_tbl := List.mem_of_getElem? (i := 1121) (by decide +kernel)
set_option maxRecDepth 20000 in
theorem qS_SU_getChars_1 : (Jvm.Cond.static ({ cls := "java/lang/StringUTF16", name := "getChars", desc := "(III[B)I" } : Jvm.MethodName)) ∈ lw_tbl := List.mem_of_getElem? (i := 1122) (by decide +kernel)
set_option maxRecDepth 20000 in
theorem qC_SU_getChars_1 : (Jvm.Cond.code ({ cls := "java/lang/StringUTF16", name := "getChars", desc := "(III[B)I" } : Jvm.MethodName) prog_30_method_77_code (5 : Nat) (Option.some Jvm.ClassFile.FieldType.int)) ∈ lw_tbl := List.mem_of_getElem? (i := 1123) rfl
set_option maxRecDepth 20000 in
theorem qM_SU_96 : (Jvm.Cond.methodLink "java/lang/StringUTF16" (96 : Nat) ({ cls := "java/lang/StringUTF16", name := "checkBoundsBeginEnd", desc := "(II[B)V" } : Jvm.MethodName)) ∈ lw_tbl := List.mem_of_getElem? (i := 1124) (by decide +kernel)
set_option maxRecDepth 20000 in
theorem qS_SU_checkBoundsBeginEnd : (Jvm.Cond.static ({ cls := "java/lang/StringUTF16", name := "checkBoundsBeginEnd", desc := "(II[B)V" } : Jvm.MethodName)) ∈ lw_tbl := List.mem_of_getElem? (i := 1125) (by decide +kernel)
set_option maxRecDepth 20000 in
theorem qC_SU_checkBoundsBeginEnd : (Jvm.Cond.code ({ cls := "java/lang/StringUTF16", name := "checkBoundsBeginEnd", desc := "(II[B)V" } : Jvm.MethodName) prog_30_method_93_code (3 : Nat) (Option.none : Option Jvm.ClassFile.FieldType)) ∈ lw_tbl := List.mem_of_getElem? (i := 1126) rfl
set_option maxRecDepth 20000 in
theorem qM_SU_241 : (Jvm.Cond.methodLink "java/lang/StringUTF16" (241 : Nat) ({ cls := "java/lang/String", name := "checkBoundsBeginEnd", desc := "(III)V" } : Jvm.MethodName)) ∈ lw_tbl := List.mem_of_getElem? (i := 1127) (by decide +kernel)
set_option maxRecDepth 20000 in
theorem qS_St_checkBoundsBeginEnd : (Jvm.Cond.static ({ cls := "java/lang/String", name := "checkBoundsBeginEnd", desc := "(III)V" } : Jvm.MethodName)) ∈ lw_tbl := List.mem_of_getElem? (i := 1128) (by decide +kernel)
set_option maxRecDepth 20000 in
theorem qC_St_checkBoundsBeginEnd : (Jvm.Cond.code ({ cls := "java/lang/String", name := "checkBoundsBeginEnd", desc := "(III)V" } : Jvm.MethodName) prog_27_method_158_code (3 : Nat) (Option.none : Option Jvm.ClassFile.FieldType)) ∈ lw_tbl := List.mem_of_getElem? (i := 1129) rfl
set_option maxRecDepth 20000 in
theorem qM_St_1062 : (Jvm.Cond.methodLink "java/lang/String" (1062 : Nat) ({ cls := "jdk/internal/util/Preconditions", name := "checkFromToIndex", desc := "(IIILjava/util/function/BiFunction;)I" } : Jvm.MethodName)) ∈ lw_tbl := List.mem_of_getElem? (i := 1130) (by decide +kernel)
set_option maxRecDepth 20000 in
theorem qS_Pr_checkFromToIndex : (Jvm.Cond.static ({ cls := "jdk/internal/util/Preconditions", name := "checkFromToIndex", desc := "(IIILjava/util/function/BiFunction;)I" } : Jvm.MethodName)) ∈ lw_tbl := List.mem_of_getElem? (i := 1131) (by decide +kernel)
set_option maxRecDepth 20000 in
theorem qC_Pr_checkFromToIndex : (Jvm.Cond.code ({ cls := "jdk/internal/util/Preconditions", name := "checkFromToIndex", desc := "(IIILjava/util/function/BiFunction;)I" } : Jvm.MethodName) prog_45_method_12_code (4 : Nat) (Option.some Jvm.ClassFile.FieldType.int)) ∈ lw_tbl := List.mem_of_getElem? (i := 1132) rfl
set_option maxRecDepth 20000 in
theorem qM_SU_393 : (Jvm.Cond.methodLink "java/lang/StringUTF16" (393 : Nat) ({ cls := "java/lang/StringUTF16", name := "getChars", desc := "(II[B)I" } : Jvm.MethodName)) ∈ lw_tbl := List.mem_of_getElem? (i := 1133) (by decide +kernel)
set_option maxRecDepth 20000 in
theorem qS_SU_getChars_2 : (Jvm.Cond.static ({ cls := "java/lang/StringUTF16", name := "getChars", desc := "(II[B)I" } : Jvm.MethodName)) ∈ lw_tbl := List.mem_of_getElem? (i := 1134) (by decide +kernel)
set_option maxRecDepth 20000 in
theorem qC_SU_getChars_2 : (Jvm.Cond.code ({ cls := "java/lang/StringUTF16", name := "getChars", desc := "(II[B)I" } : Jvm.MethodName) prog_30_method_89_code (7 : Nat) (Option.some Jvm.ClassFile.FieldType.int)) ∈ lw_tbl := List.mem_of_getElem? (i := 1135) rfl
set_option maxRecDepth 20000 in
theorem qF_SU_403 : (Jvm.Cond.fieldLink "java/lang/StringUTF16" (403 : Nat) "java/lang/Integer" "DigitOnes" "[B") ∈ lw_tbl := List.mem_of_getElem? (i := 1136) (by decide +kernel)
set_option maxRecDepth 20000 in
theorem qF_SU_407 : (Jvm.Cond.fieldLink "java/lang/StringUTF16" (407 : Nat) "java/lang/Integer" "DigitTens" "[B") ∈ lw_tbl := List.mem_of_getElem? (i := 1137) (by decide +kernel)
set_option maxRecDepth 20000 in
theorem qR_Ar_337 : (Jvm.Cond.stringRef "java/util/Arrays" (337 : Nat) " > ") ∈ lw_tbl := List.mem_of_getElem? (i := 1138) (by decide +kernel)
set_option maxRecDepth 20000 in
theorem qM_Ar_50 : (Jvm.Cond.methodLink "java/util/Arrays" (50 : Nat) ({ cls := "java/lang/StringBuilder", name := "append", desc := "(Ljava/lang/String;)Ljava/lang/StringBuilder;" } : Jvm.MethodName)) ∈ lw_tbl := List.mem_of_getElem? (i := 1139) (by decide +kernel)
set_option maxRecDepth 20000 in
theorem qI_SB_append_3 : (Jvm.Cond.instanceMethod ({ cls := "java/lang/StringBuilder", name := "append", desc := "(Ljava/lang/String;)Ljava/lang/StringBuilder;" } : Jvm.MethodName)) ∈ lw_tbl := List.mem_of_getElem? (i := 1140) (by decide +kernel)
set_option maxRecDepth 20000 in
theorem qV_SB_SB_append_3 : (Jvm.Cond.selects "java/lang/StringBuilder" ({ cls := "java/lang/StringBuilder", name := "append", desc := "(Ljava/lang/String;)Ljava/lang/StringBuilder;" } : Jvm.MethodName) ({ cls := "java/lang/StringBuilder", name := "append", desc := "(Ljava/lang/String;)Ljava/lang/StringBuilder;" } : Jvm.MethodName)) ∈ lw_tbl := List.mem_of_getElem? (i := 1141) (by decide +kernel)
set_option maxRecDepth 20000 in
theorem qC_SB_append_3 : (Jvm.Cond.code ({ cls := "java/lang/StringBuilder", name := "append", desc := "(Ljava/lang/String;)Ljava/lang/StringBuilder;" } : Jvm.MethodName) prog_28_method_7_code (2 : Nat) (Option.some (Jvm.ClassFile.FieldType.object "java/lang/StringBuilder"))) ∈ lw_tbl := List.mem_of_getElem? (i := 1142) rfl
set_option maxRecDepth 20000 in
theorem qM_SB_29 : (Jvm.Cond.methodLink "java/lang/StringBuilder" (29 : Nat) ({ cls := "java/lang/AbstractStringBuilder", name := "append", desc := "(Ljava/lang/String;)Ljava/lang/AbstractStringBuilder;" } : Jvm.MethodName)) ∈ lw_tbl := List.mem_of_getElem? (i := 1143) (by decide +kernel)
set_option maxRecDepth 20000 in
theorem qI_AB_append_3 : (Jvm.Cond.instanceMethod ({ cls := "java/lang/AbstractStringBuilder", name := "append", desc := "(Ljava/lang/String;)Ljava/lang/AbstractStringBuilder;" } : Jvm.MethodName)) ∈ lw_tbl := List.mem_of_getElem? (i := 1144) (by decide +kernel)
set_option maxRecDepth 20000 in
theorem qC_AB_append_3 : (Jvm.Cond.code ({ cls := "java/lang/AbstractStringBuilder", name := "append", desc := "(Ljava/lang/String;)Ljava/lang/AbstractStringBuilder;" } : Jvm.MethodName) prog_13_method_22_code (3 : Nat) (Option.some (Jvm.ClassFile.FieldType.object "java/lang/AbstractStringBuilder"))) ∈ lw_tbl := List.mem_of_getElem? (i := 1145) rfl
set_option maxRecDepth 20000 in
theorem qM_AB_204 : (Jvm.Cond.methodLink "java/lang/AbstractStringBuilder" (204 : Nat) ({ cls := "java/lang/AbstractStringBuilder", name := "appendNull", desc := "()Ljava/lang/AbstractStringBuilder;" } : Jvm.MethodName)) ∈ lw_tbl := List.mem_of_getElem? (i := 1146) (by decide +kernel)
set_option maxRecDepth 20000 in
theorem qI_AB_appendNull : (Jvm.Cond.instanceMethod ({ cls := "java/lang/AbstractStringBuilder", name := "appendNull", desc := "()Ljava/lang/AbstractStringBuilder;" } : Jvm.MethodName)) ∈ lw_tbl := List.mem_of_getElem? (i := 1148) (by decide +kernel)
set_option maxRecDepth 20000 in
theorem qC_AB_appendNull : (Jvm.Cond.code ({ cls := "java/lang/AbstractStringBuilder", name := "appendNull", desc := "()Ljava/lang/AbstractStringBuilder;" } : Jvm.MethodName) prog_13_method_26_code (3 : Nat) (Option.some (Jvm.ClassFile.FieldType.object "java/lang/AbstractStringBuilder"))) ∈ lw_tbl := List.mem_of_getElem? (i := 1149) rfl
set_option maxRecDepth 20000 in
theorem qM_AB_226 : (Jvm.Cond.methodLink "java/lang/AbstractStringBuilder" (226 : Nat) ({ cls := "java/lang/StringUTF16", name := "putCharsAt", desc := "([BICCCC)I" } : Jvm.MethodName)) ∈ lw_tbl := List.mem_of_getElem? (i := 1150) (by decide +kernel)
set_option maxRecDepth 20000 in
theorem qS_SU_putCharsAt : (Jvm.Cond.static ({ cls := "java/lang/StringUTF16", name := "putCharsAt", desc := "([BICCCC)I" } : Jvm.MethodName)) ∈ lw_tbl := List.mem_of_getElem? (i := 1151) (by decide +kernel)
set_option maxRecDepth 20000 in
theorem qC_SU_putCharsAt : (Jvm.Cond.code ({ cls := "java/lang/StringUTF16", name := "putCharsAt", desc := "([BICCCC)I" } : Jvm.MethodName) prog_30_method_81_code (7 : Nat) (Option.some Jvm.ClassFile.FieldType.int)) ∈ lw_tbl := List.mem_of_getElem? (i := 1152) rfl
set_option maxRecDepth 20000 in
theorem qM_AB_32 : (Jvm.Cond.methodLink "java/lang/AbstractStringBuilder" (32 : Nat) ({ cls := "java/lang/String", name := "length", desc := "()I" } : Jvm.MethodName)) ∈ lw_tbl := List.mem_of_getElem? (i := 1153) (by decide +kernel)
set_option maxRecDepth 20000 in
theorem qI_St_length : (Jvm.Cond.instanceMethod ({ cls := "java/lang/String", name := "length", desc := "()I" } : Jvm.MethodName)) ∈ lw_tbl := List.mem_of_getElem? (i := 1154) (by decide +kernel)
set_option maxRecDepth 20000 in
theorem qV_St_St_length : (Jvm.Cond.selects "java/lang/String" ({ cls := "java/lang/String", name := "length", desc := "()I" } : Jvm.MethodName) ({ cls := "java/lang/String", name := "length", desc := "()I" } : Jvm.MethodName)) ∈ lw_tbl := List.mem_of_getElem? (i := 1155) (by decide +kernel)
set_option maxRecDepth 20000 in
theorem qC_St_length : (Jvm.Cond.code ({ cls := "java/lang/String", name := "length", desc := "()I" } : Jvm.MethodName) prog_27_method_54_code (1 : Nat) (Option.some Jvm.ClassFile.FieldType.int)) ∈ lw_tbl := List.mem_of_getElem? (i := 1156) rfl
set_option maxRecDepth 20000 in
theorem qM_St_335 : (Jvm.Cond.methodLink "java/lang/String" (335 : Nat) ({ cls := "java/lang/String", name := "coder", desc := "()B" } : Jvm.MethodName)) ∈ lw_tbl := List.mem_of_getElem? (i := 1157) (by decide +kernel)
set_option maxRecDepth 20000 in
theorem qI_St_coder : (Jvm.Cond.instanceMethod ({ cls := "java/lang/String", name := "coder", desc := "()B" } : Jvm.MethodName)) ∈ lw_tbl := List.mem_of_getElem? (i := 1158) (by decide +kernel)
set_option maxRecDepth 20000 in
theorem qV_St_St_coder : (Jvm.Cond.selects "java/lang/String" ({ cls := "java/lang/String", name := "coder", desc := "()B" } : Jvm.MethodName) ({ cls := "java/lang/String", name := "coder", desc := "()B" } : Jvm.MethodName)) ∈ lw_tbl := List.mem_of_getElem? (i := 1159) (by decide +kernel)
set_option maxRecDepth 20000 in
theorem qC_St_coder : (Jvm.Cond.code ({ cls := "java/lang/String", name := "coder", desc := "()B" } : Jvm.MethodName) prog_27_method_152_code (1 : Nat) (Option.some Jvm.ClassFile.FieldType.byte)) ∈ lw_tbl := List.mem_of_getElem? (i := 1160) rfl
set_option maxRecDepth 20000 in
theorem qF_St_38 : (Jvm.Cond.fieldLink "java/lang/String" (38 : Nat) "java/lang/String" "COMPACT_STRINGS" "Z") ∈ lw_tbl := List.mem_of_getElem? (i := 1161) (by decide +kernel)
set_option maxRecDepth 20000 in
theorem qM_AB_208 : (Jvm.Cond.methodLink "java/lang/AbstractStringBuilder" (208 : Nat) ({ cls := "java/lang/AbstractStringBuilder", name := "putStringAt", desc := "(ILjava/lang/String;)V" } : Jvm.MethodName)) ∈ lw_tbl := List.mem_of_getElem? (i := 1162) (by decide +kernel)
set_option maxRecDepth 20000 in
theorem qI_AB_putStringAt : (Jvm.Cond.instanceMethod ({ cls := "java/lang/AbstractStringBuilder", name := "putStringAt", desc := "(ILjava/lang/String;)V" } : Jvm.MethodName)) ∈ lw_tbl := List.mem_of_getElem? (i := 1164) (by decide +kernel)
set_option maxRecDepth 20000 in
theorem qC_AB_putStringAt : (Jvm.Cond.code ({ cls := "java/lang/AbstractStringBuilder", name := "putStringAt", desc := "(ILjava/lang/String;)V" } : Jvm.MethodName) prog_13_method_73_code (3 : Nat) (Option.none : Option Jvm.ClassFile.FieldType)) ∈ lw_tbl := List.mem_of_getElem? (i := 1165) rfl
set_option maxRecDepth 20000 in
theorem qM_AB_397 : (Jvm.Cond.methodLink "java/lang/AbstractStringBuilder" (397 : Nat) ({ cls := "java/lang/AbstractStringBuilder", name := "inflateIfNeededFor", desc := "(Ljava/lang/String;)V" } : Jvm.MethodName)) ∈ lw_tbl := List.mem_of_getElem? (i := 1166) (by decide +kernel)
set_option maxRecDepth 20000 in
theorem qI_AB_inflateIfNeededFor : (Jvm.Cond.instanceMethod ({ cls := "java/lang/AbstractStringBuilder", name := "inflateIfNeededFor", desc := "(Ljava/lang/String;)V" } : Jvm.MethodName)) ∈ lw_tbl := List.mem_of_getElem? (i := 1168) (by decide +kernel)
set_option maxRecDepth 20000 in
theorem qC_AB_inflateIfNeededFor : (Jvm.Cond.code ({ cls := "java/lang/AbstractStringBuilder", name := "inflateIfNeededFor", desc := "(Ljava/lang/String;)V" } : Jvm.MethodName) prog_13_method_71_code (2 : Nat) (Option.none : Option Jvm.ClassFile.FieldType)) ∈ lw_tbl := List.mem_of_getElem? (i := 1169) rfl
set_option maxRecDepth 20000 in
theorem qM_AB_40 : (Jvm.Cond.methodLink "java/lang/AbstractStringBuilder" (40 : Nat) ({ cls := "java/lang/String", name := "coder", desc := "()B" } : Jvm.MethodName)) ∈ lw_tbl := List.mem_of_getElem? (i := 1170) (by decide +kernel)
set_option maxRecDepth 20000 in
theorem qM_AB_399 : (Jvm.Cond.methodLink "java/lang/AbstractStringBuilder" (399 : Nat) ({ cls := "java/lang/String", name := "getBytes", desc := "([BIB)V" } : Jvm.MethodName)) ∈ lw_tbl := List.mem_of_getElem? (i := 1171) (by decide +kernel)
set_option maxRecDepth 20000 in
theorem qI_St_getBytes : (Jvm.Cond.instanceMethod ({ cls := "java/lang/String", name := "getBytes", desc := "([BIB)V" } : Jvm.MethodName)) ∈ lw_tbl := List.mem_of_getElem? (i := 1172) (by decide +kernel)
set_option maxRecDepth 20000 in
theorem qV_St_St_getBytes : (Jvm.Cond.selects "java/lang/String" ({ cls := "java/lang/String", name := "getBytes", desc := "([BIB)V" } : Jvm.MethodName) ({ cls := "java/lang/String", name := "getBytes", desc := "([BIB)V" } : Jvm.MethodName)) ∈ lw_tbl := List.mem_of_getElem? (i := 1173) (by decide +kernel)
set_option maxRecDepth 20000 in
theorem qC_St_getBytes : (Jvm.Cond.code ({ cls := "java/lang/String", name := "getBytes", desc := "([BIB)V" } : Jvm.MethodName) prog_27_method_147_code (4 : Nat) (Option.none : Option Jvm.ClassFile.FieldType)) ∈ lw_tbl := List.mem_of_getElem? (i := 1174) rfl
set_option maxRecDepth 20000 in
theorem qM_St_212 : (Jvm.Cond.methodLink "java/lang/String" (212 : Nat) ({ cls := "java/lang/System", name := "arraycopy", desc := "(Ljava/lang/Object;ILjava/lang/Object;II)V" } : Jvm.MethodName)) ∈ lw_tbl := List.mem_of_getElem? (i := 1175) (by decide +kernel)
set_option maxRecDepth 20000 in
theorem qM_St_106 : (Jvm.Cond.methodLink "java/lang/String" (106 : Nat) ({ cls := "java/lang/StringLatin1", name := "inflate", desc := "([BI[BII)V" } : Jvm.MethodName)) ∈ lw_tbl := List.mem_of_getElem? (i := 1176) (by decide +kernel)
set_option maxRecDepth 20000 in
theorem qM_Ar_61 : (Jvm.Cond.methodLink "java/util/Arrays" (61 : Nat) ({ cls := "java/lang/StringBuilder", name := "toString", desc := "()Ljava/lang/String;" } : Jvm.MethodName)) ∈ lw_tbl := List.mem_of_getElem? (i := 1177) (by decide +kernel)
set_option maxRecDepth 20000 in
theorem qM_Ar_65 : (Jvm.Cond.methodLink "java/util/Arrays" (65 : Nat) ({ cls := "java/lang/IllegalArgumentException", name := "<init>", desc := "(Ljava/lang/String;)V" } : Jvm.MethodName)) ∈ lw_tbl := List.mem_of_getElem? (i := 1178) (by decide +kernel)
set_option maxRecDepth 20000 in
theorem qM_St_1051 : (Jvm.Cond.methodLink "java/lang/String" (1051 : Nat) ({ cls := "java/lang/StringUTF16", name := "compress", desc := "([BII)[B" } : Jvm.MethodName)) ∈ lw_tbl := List.mem_of_getElem? (i := 1179) (by decide +kernel)
set_option maxRecDepth 20000 in
theorem qS_SU_compress_1 : (Jvm.Cond.static ({ cls := "java/lang/StringUTF16", name := "compress", desc := "([BII)[B" } : Jvm.MethodName)) ∈ lw_tbl := List.mem_of_getElem? (i := 1180) (by decide +kernel)
set_option maxRecDepth 20000 in
theorem qC_SU_compress_1 : (Jvm.Cond.code ({ cls := "java/lang/StringUTF16", name := "compress", desc := "([BII)[B" } : Jvm.MethodName) prog_30_method_17_code (6 : Nat) (Option.some (Jvm.ClassFile.FieldType.array Jvm.ClassFile.FieldType.byte))) ∈ lw_tbl := List.mem_of_getElem? (i := 1181) rfl
set_option maxRecDepth 20000 in
theorem qM_SU_123 : (Jvm.Cond.methodLink "java/lang/StringUTF16" (123 : Nat) ({ cls := "java/lang/StringUTF16", name := "compress", desc := "([BI[BII)I" } : Jvm.MethodName)) ∈ lw_tbl := List.mem_of_getElem? (i := 1182) (by decide +kernel)
set_option maxRecDepth 20000 in
theorem qS_SU_compress_2 : (Jvm.Cond.static ({ cls := "java/lang/StringUTF16", name := "compress", desc := "([BI[BII)I" } : Jvm.MethodName)) ∈ lw_tbl := List.mem_of_getElem? (i := 1183) (by decide +kernel)
set_option maxRecDepth 20000 in
theorem qC_SU_compress_2 : (Jvm.Cond.code ({ cls := "java/lang/StringUTF16", name := "compress", desc := "([BI[BII)I" } : Jvm.MethodName) prog_30_method_22_code (7 : Nat) (Option.some Jvm.ClassFile.FieldType.int)) ∈ lw_tbl := List.mem_of_getElem? (i := 1184) rfl
set_option maxRecDepth 20000 in
theorem qM_SU_71 : (Jvm.Cond.methodLink "java/lang/StringUTF16" (71 : Nat) ({ cls := "java/lang/StringUTF16", name := "getChar", desc := "([BI)C" } : Jvm.MethodName)) ∈ lw_tbl := List.mem_of_getElem? (i := 1185) (by decide +kernel)
set_option maxRecDepth 20000 in
theorem qS_SU_getChar : (Jvm.Cond.static ({ cls := "java/lang/StringUTF16", name := "getChar", desc := "([BI)C" } : Jvm.MethodName)) ∈ lw_tbl := List.mem_of_getElem? (i := 1186) (by decide +kernel)
set_option maxRecDepth 20000 in
theorem qC_SU_getChar : (Jvm.Cond.code ({ cls := "java/lang/StringUTF16", name := "getChar", desc := "([BI)C" } : Jvm.MethodName) prog_30_method_5_code (2 : Nat) (Option.some Jvm.ClassFile.FieldType.char)) ∈ lw_tbl := List.mem_of_getElem? (i := 1187) rfl
set_option maxRecDepth 20000 in
theorem qM_SU_126 : (Jvm.Cond.methodLink "java/lang/StringUTF16" (126 : Nat) ({ cls := "java/util/Arrays", name := "copyOfRange", desc := "([BII)[B" } : Jvm.MethodName)) ∈ lw_tbl := List.mem_of_getElem? (i := 1188) (by decide +kernel)
set_option maxRecDepth 20000 in
theorem qM_St_47 : (Jvm.Cond.methodLink "java/lang/String" (47 : Nat) ({ cls := "java/lang/StringUTF16", name := "coderFromArrayLen", desc := "([BI)B" } : Jvm.MethodName)) ∈ lw_tbl := List.mem_of_getElem? (i := 1189) (by decide +kernel)
set_option maxRecDepth 20000 in
theorem qS_SU_coderFromArrayLen : (Jvm.Cond.static ({ cls := "java/lang/StringUTF16", name := "coderFromArrayLen", desc := "([BI)B" } : Jvm.MethodName)) ∈ lw_tbl := List.mem_of_getElem? (i := 1190) (by decide +kernel)
set_option maxRecDepth 20000 in
theorem qC_SU_coderFromArrayLen : (Jvm.Cond.code ({ cls := "java/lang/StringUTF16", name := "coderFromArrayLen", desc := "([BI)B" } : Jvm.MethodName) prog_30_method_15_code (2 : Nat) (Option.some Jvm.ClassFile.FieldType.byte)) ∈ lw_tbl := List.mem_of_getElem? (i := 1191) rfl
set_option maxRecDepth 20000 in
theorem qF_St_9 : (Jvm.Cond.fieldLink "java/lang/String" (9 : Nat) "java/lang/String" "value" "[B") ∈ lw_tbl := List.mem_of_getElem? (i := 1192) (by decide +kernel)
set_option maxRecDepth 20000 in
theorem qF_St_15 : (Jvm.Cond.fieldLink "java/lang/String" (15 : Nat) "java/lang/String" "coder" "B") ∈ lw_tbl := List.mem_of_getElem? (i := 1193) (by decide +kernel)
set_option maxRecDepth 20000 in
theorem qSc_St_Oj : (Jvm.Cond.superclass "java/lang/String" "java/lang/Object") ∈ lw_tbl := List.mem_of_getElem? (i := 1202) (by decide +kernel)
set_option maxRecDepth 20000 in
theorem qM_La_169 : (Jvm.Cond.methodLink "ThreeboxesLaw" (169 : Nat) ({ cls := "ThreeboxesLaw", name := "would", desc := "(LThreeboxes;IIILThreeboxesLaw$Out;)I" } : Jvm.MethodName)) ∈ lw_tbl := List.mem_of_getElem? (i := 1203) (by decide +kernel)
set_option maxRecDepth 20000 in
theorem qS_La_would : (Jvm.Cond.static ({ cls := "ThreeboxesLaw", name := "would", desc := "(LThreeboxes;IIILThreeboxesLaw$Out;)I" } : Jvm.MethodName)) ∈ lw_tbl := List.mem_of_getElem? (i := 1204) (by decide +kernel)
set_option maxRecDepth 20000 in
theorem qCw_La_would : (Jvm.Cond.codeWith ({ cls := "ThreeboxesLaw", name := "would", desc := "(LThreeboxes;IIILThreeboxesLaw$Out;)I" } : Jvm.MethodName) method_18_code (6 : Nat) (Option.some Jvm.ClassFile.FieldType.int) [((0 : Nat), (13 : Nat), (16 : Nat), (27 : Nat)), ((0 : Nat), (13 : Nat), (20 : Nat), (19 : Nat))]) ∈ lw_tbl := List.mem_of_getElem? (i := 1205) rfl
set_option maxRecDepth 20000 in
theorem qM_La_79 : (Jvm.Cond.methodLink "ThreeboxesLaw" (79 : Nat) ({ cls := "Threeboxes", name := "would", desc := "(III)I" } : Jvm.MethodName)) ∈ lw_tbl := List.mem_of_getElem? (i := 1206) (by decide +kernel)
set_option maxRecDepth 20000 in
theorem qI_Tb_would : (Jvm.Cond.instanceMethod ({ cls := "Threeboxes", name := "would", desc := "(III)I" } : Jvm.MethodName)) ∈ lw_tbl := List.mem_of_getElem? (i := 1207) (by decide +kernel)
set_option maxRecDepth 20000 in
theorem qV_Tb_Tb_would : (Jvm.Cond.selects "Threeboxes" ({ cls := "Threeboxes", name := "would", desc := "(III)I" } : Jvm.MethodName) ({ cls := "Threeboxes", name := "would", desc := "(III)I" } : Jvm.MethodName)) ∈ lw_tbl := List.mem_of_getElem? (i := 1208) (by decide +kernel)
set_option maxRecDepth 20000 in
theorem qC_Tb_would : (Jvm.Cond.code ({ cls := "Threeboxes", name := "would", desc := "(III)I" } : Jvm.MethodName) prog_1_method_19_code (5 : Nat) (Option.some Jvm.ClassFile.FieldType.int)) ∈ lw_tbl := List.mem_of_getElem? (i := 1209) rfl
set_option maxRecDepth 20000 in
theorem qR_Tb_281 : (Jvm.Cond.stringRef "Threeboxes" (281 : Nat) "what is 0 to 5") ∈ lw_tbl := List.mem_of_getElem? (i := 1210) (by decide +kernel)
set_option maxRecDepth 20000 in
theorem qM_La_172 : (Jvm.Cond.methodLink "ThreeboxesLaw" (172 : Nat) ({ cls := "ThreeboxesLaw", name := "may", desc := "(LThreeboxes;IIILThreeboxesLaw$Out;)I" } : Jvm.MethodName)) ∈ lw_tbl := List.mem_of_getElem? (i := 1211) (by decide +kernel)
set_option maxRecDepth 20000 in
theorem qS_La_may : (Jvm.Cond.static ({ cls := "ThreeboxesLaw", name := "may", desc := "(LThreeboxes;IIILThreeboxesLaw$Out;)I" } : Jvm.MethodName)) ∈ lw_tbl := List.mem_of_getElem? (i := 1212) (by decide +kernel)
set_option maxRecDepth 20000 in
theorem qCw_La_may : (Jvm.Cond.codeWith ({ cls := "ThreeboxesLaw", name := "may", desc := "(LThreeboxes;IIILThreeboxesLaw$Out;)I" } : Jvm.MethodName) method_19_code (6 : Nat) (Option.some Jvm.ClassFile.FieldType.int) [((0 : Nat), (20 : Nat), (23 : Nat), (27 : Nat)), ((0 : Nat), (20 : Nat), (27 : Nat), (19 : Nat))]) ∈ lw_tbl := List.mem_of_getElem? (i := 1213) rfl
set_option maxRecDepth 20000 in
theorem qM_La_82 : (Jvm.Cond.methodLink "ThreeboxesLaw" (82 : Nat) ({ cls := "Threeboxes", name := "may", desc := "(III)Z" } : Jvm.MethodName)) ∈ lw_tbl := List.mem_of_getElem? (i := 1214) (by decide +kernel)
set_option maxRecDepth 20000 in
theorem qI_Tb_may : (Jvm.Cond.instanceMethod ({ cls := "Threeboxes", name := "may", desc := "(III)Z" } : Jvm.MethodName)) ∈ lw_tbl := List.mem_of_getElem? (i := 1215) (by decide +kernel)
set_option maxRecDepth 20000 in
theorem qV_Tb_Tb_may : (Jvm.Cond.selects "Threeboxes" ({ cls := "Threeboxes", name := "may", desc := "(III)Z" } : Jvm.MethodName) ({ cls := "Threeboxes", name := "may", desc := "(III)Z" } : Jvm.MethodName)) ∈ lw_tbl := List.mem_of_getElem? (i := 1216) (by decide +kernel)
set_option maxRecDepth 20000 in
theorem qC_Tb_may : (Jvm.Cond.code ({ cls := "Threeboxes", name := "may", desc := "(III)Z" } : Jvm.MethodName) prog_1_method_20_code (5 : Nat) (Option.some Jvm.ClassFile.FieldType.boolean)) ∈ lw_tbl := List.mem_of_getElem? (i := 1217) rfl
set_option maxRecDepth 20000 in
theorem qR_Tb_286 : (Jvm.Cond.stringRef "Threeboxes" (286 : Nat) "a value is 0 to 96") ∈ lw_tbl := List.mem_of_getElem? (i := 1218) (by decide +kernel)
set_option maxRecDepth 20000 in
theorem qM_La_175 : (Jvm.Cond.methodLink "ThreeboxesLaw" (175 : Nat) ({ cls := "ThreeboxesLaw", name := "lost", desc := "(LThreeboxes;ILThreeboxesLaw$Out;)I" } : Jvm.MethodName)) ∈ lw_tbl := List.mem_of_getElem? (i := 1219) (by decide +kernel)
set_option maxRecDepth 20000 in
theorem qS_La_lost : (Jvm.Cond.static ({ cls := "ThreeboxesLaw", name := "lost", desc := "(LThreeboxes;ILThreeboxesLaw$Out;)I" } : Jvm.MethodName)) ∈ lw_tbl := List.mem_of_getElem? (i := 1220) (by decide +kernel)
set_option maxRecDepth 20000 in
theorem qCw_La_lost : (Jvm.Cond.codeWith ({ cls := "ThreeboxesLaw", name := "lost", desc := "(LThreeboxes;ILThreeboxesLaw$Out;)I" } : Jvm.MethodName) method_20_code (4 : Nat) (Option.some Jvm.ClassFile.FieldType.int) [((0 : Nat), (9 : Nat), (12 : Nat), (27 : Nat))]) ∈ lw_tbl := List.mem_of_getElem? (i := 1221) rfl
set_option maxRecDepth 20000 in
theorem qM_La_86 : (Jvm.Cond.methodLink "ThreeboxesLaw" (86 : Nat) ({ cls := "Threeboxes", name := "lost", desc := "(I)D" } : Jvm.MethodName)) ∈ lw_tbl := List.mem_of_getElem? (i := 1222) (by decide +kernel)
set_option maxRecDepth 20000 in
theorem qI_Tb_lost : (Jvm.Cond.instanceMethod ({ cls := "Threeboxes", name := "lost", desc := "(I)D" } : Jvm.MethodName)) ∈ lw_tbl := List.mem_of_getElem? (i := 1223) (by decide +kernel)
set_option maxRecDepth 20000 in
theorem qV_Tb_Tb_lost : (Jvm.Cond.selects "Threeboxes" ({ cls := "Threeboxes", name := "lost", desc := "(I)D" } : Jvm.MethodName) ({ cls := "Threeboxes", name := "lost", desc := "(I)D" } : Jvm.MethodName)) ∈ lw_tbl := List.mem_of_getElem? (i := 1224) (by decide +kernel)
set_option maxRecDepth 20000 in
theorem qC_Tb_lost : (Jvm.Cond.code ({ cls := "Threeboxes", name := "lost", desc := "(I)D" } : Jvm.MethodName) prog_1_method_21_code (2 : Nat) (Option.some Jvm.ClassFile.FieldType.double)) ∈ lw_tbl := List.mem_of_getElem? (i := 1225) rfl
set_option maxRecDepth 20000 in
theorem qM_La_178 : (Jvm.Cond.methodLink "ThreeboxesLaw" (178 : Nat) ({ cls := "ThreeboxesLaw", name := "fewest", desc := "(LThreeboxes;ILThreeboxesLaw$Out;)I" } : Jvm.MethodName)) ∈ lw_tbl := List.mem_of_getElem? (i := 1226) (by decide +kernel)
set_option maxRecDepth 20000 in
theorem qS_La_fewest : (Jvm.Cond.static ({ cls := "ThreeboxesLaw", name := "fewest", desc := "(LThreeboxes;ILThreeboxesLaw$Out;)I" } : Jvm.MethodName)) ∈ lw_tbl := List.mem_of_getElem? (i := 1227) (by decide +kernel)
set_option maxRecDepth 20000 in
theorem qCw_La_fewest : (Jvm.Cond.codeWith ({ cls := "ThreeboxesLaw", name := "fewest", desc := "(LThreeboxes;ILThreeboxesLaw$Out;)I" } : Jvm.MethodName) method_21_code (4 : Nat) (Option.some Jvm.ClassFile.FieldType.int) [((0 : Nat), (10 : Nat), (13 : Nat), (27 : Nat))]) ∈ lw_tbl := List.mem_of_getElem? (i := 1228) rfl
set_option maxRecDepth 20000 in
theorem qM_La_94 : (Jvm.Cond.methodLink "ThreeboxesLaw" (94 : Nat) ({ cls := "Threeboxes", name := "fewest", desc := "(I)I" } : Jvm.MethodName)) ∈ lw_tbl := List.mem_of_getElem? (i := 1229) (by decide +kernel)
set_option maxRecDepth 20000 in
theorem qI_Tb_fewest : (Jvm.Cond.instanceMethod ({ cls := "Threeboxes", name := "fewest", desc := "(I)I" } : Jvm.MethodName)) ∈ lw_tbl := List.mem_of_getElem? (i := 1230) (by decide +kernel)
set_option maxRecDepth 20000 in
theorem qV_Tb_Tb_fewest : (Jvm.Cond.selects "Threeboxes" ({ cls := "Threeboxes", name := "fewest", desc := "(I)I" } : Jvm.MethodName) ({ cls := "Threeboxes", name := "fewest", desc := "(I)I" } : Jvm.MethodName)) ∈ lw_tbl := List.mem_of_getElem? (i := 1231) (by decide +kernel)
set_option maxRecDepth 20000 in
theorem qC_Tb_fewest : (Jvm.Cond.code ({ cls := "Threeboxes", name := "fewest", desc := "(I)I" } : Jvm.MethodName) prog_1_method_22_code (2 : Nat) (Option.some Jvm.ClassFile.FieldType.int)) ∈ lw_tbl := List.mem_of_getElem? (i := 1232) rfl
set_option maxRecDepth 20000 in
theorem qM_La_181 : (Jvm.Cond.methodLink "ThreeboxesLaw" (181 : Nat) ({ cls := "ThreeboxesLaw", name := "proves", desc := "(LThreeboxes;IILThreeboxesLaw$Out;)I" } : Jvm.MethodName)) ∈ lw_tbl := List.mem_of_getElem? (i := 1233) (by decide +kernel)
set_option maxRecDepth 20000 in
theorem qS_La_proves : (Jvm.Cond.static ({ cls := "ThreeboxesLaw", name := "proves", desc := "(LThreeboxes;IILThreeboxesLaw$Out;)I" } : Jvm.MethodName)) ∈ lw_tbl := List.mem_of_getElem? (i := 1234) (by decide +kernel)
set_option maxRecDepth 20000 in
theorem qCw_La_proves : (Jvm.Cond.codeWith ({ cls := "ThreeboxesLaw", name := "proves", desc := "(LThreeboxes;IILThreeboxesLaw$Out;)I" } : Jvm.MethodName) method_22_code (5 : Nat) (Option.some Jvm.ClassFile.FieldType.int) [((0 : Nat), (18 : Nat), (21 : Nat), (27 : Nat)), ((0 : Nat), (18 : Nat), (25 : Nat), (19 : Nat))]) ∈ lw_tbl := List.mem_of_getElem? (i := 1235) rfl
set_option maxRecDepth 20000 in
theorem qM_La_97 : (Jvm.Cond.methodLink "ThreeboxesLaw" (97 : Nat) ({ cls := "Threeboxes", name := "proves", desc := "(II)Z" } : Jvm.MethodName)) ∈ lw_tbl := List.mem_of_getElem? (i := 1236) (by decide +kernel)
set_option maxRecDepth 20000 in
theorem qI_Tb_proves : (Jvm.Cond.instanceMethod ({ cls := "Threeboxes", name := "proves", desc := "(II)Z" } : Jvm.MethodName)) ∈ lw_tbl := List.mem_of_getElem? (i := 1237) (by decide +kernel)
set_option maxRecDepth 20000 in
theorem qV_Tb_Tb_proves : (Jvm.Cond.selects "Threeboxes" ({ cls := "Threeboxes", name := "proves", desc := "(II)Z" } : Jvm.MethodName) ({ cls := "Threeboxes", name := "proves", desc := "(II)Z" } : Jvm.MethodName)) ∈ lw_tbl := List.mem_of_getElem? (i := 1238) (by decide +kernel)
set_option maxRecDepth 20000 in
theorem qC_Tb_proves : (Jvm.Cond.code ({ cls := "Threeboxes", name := "proves", desc := "(II)Z" } : Jvm.MethodName) prog_1_method_23_code (3 : Nat) (Option.some Jvm.ClassFile.FieldType.boolean)) ∈ lw_tbl := List.mem_of_getElem? (i := 1239) rfl
set_option maxRecDepth 20000 in
theorem qR_Tb_302 : (Jvm.Cond.stringRef "Threeboxes" (302 : Nat) "a leaf is 0 to 9972") ∈ lw_tbl := List.mem_of_getElem? (i := 1240) (by decide +kernel)
set_option maxRecDepth 20000 in
theorem qM_Tb_304 : (Jvm.Cond.methodLink "Threeboxes" (304 : Nat) ({ cls := "Threeboxes$Register", name := "comesToRoot", desc := "(II)Z" } : Jvm.MethodName)) ∈ lw_tbl := List.mem_of_getElem? (i := 1241) (by decide +kernel)
set_option maxRecDepth 20000 in
theorem qK_La_102 : (Jvm.Cond.classLink "ThreeboxesLaw" (102 : Nat) "ThreeboxesModel") ∈ lw_tbl := List.mem_of_getElem? (i := 1242) (by decide +kernel)
set_option maxRecDepth 20000 in
theorem qO_Mo : (Jvm.Cond.instantiable "ThreeboxesModel" (12 : Nat)) ∈ lw_tbl := List.mem_of_getElem? (i := 1243) (by decide +kernel)
set_option maxRecDepth 20000 in
theorem qM_La_104 : (Jvm.Cond.methodLink "ThreeboxesLaw" (104 : Nat) ({ cls := "ThreeboxesModel", name := "<init>", desc := "()V" } : Jvm.MethodName)) ∈ lw_tbl := List.mem_of_getElem? (i := 1244) (by decide +kernel)
set_option maxRecDepth 20000 in
theorem qI_Mo_init : (Jvm.Cond.instanceMethod ({ cls := "ThreeboxesModel", name := "<init>", desc := "()V" } : Jvm.MethodName)) ∈ lw_tbl := List.mem_of_getElem? (i := 1245) (by decide +kernel)
set_option maxRecDepth 20000 in
theorem qC_Mo_init : (Jvm.Cond.code ({ cls := "ThreeboxesModel", name := "<init>", desc := "()V" } : Jvm.MethodName) prog_9_method_1_code (3 : Nat) (Option.none : Option Jvm.ClassFile.FieldType)) ∈ lw_tbl := List.mem_of_getElem? (i := 1246) rfl
set_option maxRecDepth 20000 in
theorem qM_Mo_1 : (Jvm.Cond.methodLink "ThreeboxesModel" (1 : Nat) ({ cls := "java/lang/Object", name := "<init>", desc := "()V" } : Jvm.MethodName)) ∈ lw_tbl := List.mem_of_getElem? (i := 1247) (by decide +kernel)
set_option maxRecDepth 20000 in
theorem qK_Mo_13 : (Jvm.Cond.classLink "ThreeboxesModel" (13 : Nat) "java/util/ArrayList") ∈ lw_tbl := List.mem_of_getElem? (i := 1248) (by decide +kernel)
set_option maxRecDepth 20000 in
theorem qM_Mo_15 : (Jvm.Cond.methodLink "ThreeboxesModel" (15 : Nat) ({ cls := "java/util/ArrayList", name := "<init>", desc := "()V" } : Jvm.MethodName)) ∈ lw_tbl := List.mem_of_getElem? (i := 1249) (by decide +kernel)
set_option maxRecDepth 20000 in
theorem qF_Mo_36 : (Jvm.Cond.fieldLink "ThreeboxesModel" (36 : Nat) "ThreeboxesModel" "thrown" "I") ∈ lw_tbl := List.mem_of_getElem? (i := 1250) (by decide +kernel)
set_option maxRecDepth 20000 in
theorem qF_Mo_7 : (Jvm.Cond.fieldLink "ThreeboxesModel" (7 : Nat) "ThreeboxesModel" "luck" "I") ∈ lw_tbl := List.mem_of_getElem? (i := 1251) (by decide +kernel)
set_option maxRecDepth 20000 in
theorem qF_Mo_102 : (Jvm.Cond.fieldLink "ThreeboxesModel" (102 : Nat) "ThreeboxesModel" "day" "I") ∈ lw_tbl := List.mem_of_getElem? (i := 1252) (by decide +kernel)
set_option maxRecDepth 20000 in
theorem qF_Mo_175 : (Jvm.Cond.fieldLink "ThreeboxesModel" (175 : Nat) "ThreeboxesModel" "refused" "I") ∈ lw_tbl := List.mem_of_getElem? (i := 1253) (by decide +kernel)
set_option maxRecDepth 20000 in
theorem qF_Mo_178 : (Jvm.Cond.fieldLink "ThreeboxesModel" (178 : Nat) "ThreeboxesModel" "failed" "I") ∈ lw_tbl := List.mem_of_getElem? (i := 1254) (by decide +kernel)
set_option maxRecDepth 20000 in
theorem qF_Mo_169 : (Jvm.Cond.fieldLink "ThreeboxesModel" (169 : Nat) "ThreeboxesModel" "messages" "I") ∈ lw_tbl := List.mem_of_getElem? (i := 1255) (by decide +kernel)
set_option maxRecDepth 20000 in
theorem qF_Mo_16 : (Jvm.Cond.fieldLink "ThreeboxesModel" (16 : Nat) "ThreeboxesModel" "keepers" "Ljava/util/List;") ∈ lw_tbl := List.mem_of_getElem? (i := 1256) (by decide +kernel)
set_option maxRecDepth 20000 in
theorem qF_Mo_20 : (Jvm.Cond.fieldLink "ThreeboxesModel" (20 : Nat) "ThreeboxesModel" "secrets" "Ljava/util/List;") ∈ lw_tbl := List.mem_of_getElem? (i := 1257) (by decide +kernel)
set_option maxRecDepth 20000 in
theorem qF_Mo_23 : (Jvm.Cond.fieldLink "ThreeboxesModel" (23 : Nat) "ThreeboxesModel" "entries" "Ljava/util/List;") ∈ lw_tbl := List.mem_of_getElem? (i := 1258) (by decide +kernel)
set_option maxRecDepth 20000 in
theorem qF_Mo_26 : (Jvm.Cond.fieldLink "ThreeboxesModel" (26 : Nat) "ThreeboxesModel" "inverses" "[I") ∈ lw_tbl := List.mem_of_getElem? (i := 1259) (by decide +kernel)
set_option maxRecDepth 20000 in
theorem qF_Mo_30 : (Jvm.Cond.fieldLink "ThreeboxesModel" (30 : Nat) "ThreeboxesModel" "points" "[I") ∈ lw_tbl := List.mem_of_getElem? (i := 1260) (by decide +kernel)
set_option maxRecDepth 20000 in
theorem qF_Mo_33 : (Jvm.Cond.fieldLink "ThreeboxesModel" (33 : Nat) "ThreeboxesModel" "numbers" "[I") ∈ lw_tbl := List.mem_of_getElem? (i := 1261) (by decide +kernel)
set_option maxRecDepth 20000 in
theorem qSc_Mo_Oj : (Jvm.Cond.superclass "ThreeboxesModel" "java/lang/Object") ∈ lw_tbl := List.mem_of_getElem? (i := 1286) (by decide +kernel)
set_option maxRecDepth 20000 in
theorem qM_La_137 : (Jvm.Cond.methodLink "ThreeboxesLaw" (137 : Nat) ({ cls := "ThreeboxesModel", name := "thrown", desc := "()I" } : Jvm.MethodName)) ∈ lw_tbl := List.mem_of_getElem? (i := 1287) (by decide +kernel)
set_option maxRecDepth 20000 in
theorem qI_Mo_thrown : (Jvm.Cond.instanceMethod ({ cls := "ThreeboxesModel", name := "thrown", desc := "()I" } : Jvm.MethodName)) ∈ lw_tbl := List.mem_of_getElem? (i := 1288) (by decide +kernel)
set_option maxRecDepth 20000 in
theorem qV_Mo_Mo_thrown : (Jvm.Cond.selects "ThreeboxesModel" ({ cls := "ThreeboxesModel", name := "thrown", desc := "()I" } : Jvm.MethodName) ({ cls := "ThreeboxesModel", name := "thrown", desc := "()I" } : Jvm.MethodName)) ∈ lw_tbl := List.mem_of_getElem? (i := 1289) (by decide +kernel)
set_option maxRecDepth 20000 in
theorem qC_Mo_thrown : (Jvm.Cond.code ({ cls := "ThreeboxesModel", name := "thrown", desc := "()I" } : Jvm.MethodName) prog_9_method_2_code (1 : Nat) (Option.some Jvm.ClassFile.FieldType.int)) ∈ lw_tbl := List.mem_of_getElem? (i := 1290) rfl
set_option maxRecDepth 20000 in
theorem qM_La_111 : (Jvm.Cond.methodLink "ThreeboxesLaw" (111 : Nat) ({ cls := "ThreeboxesModel", name := "keeper", desc := "(III)I" } : Jvm.MethodName)) ∈ lw_tbl := List.mem_of_getElem? (i := 1291) (by decide +kernel)
set_option maxRecDepth 20000 in
theorem qI_Mo_keeper : (Jvm.Cond.instanceMethod ({ cls := "ThreeboxesModel", name := "keeper", desc := "(III)I" } : Jvm.MethodName)) ∈ lw_tbl := List.mem_of_getElem? (i := 1292) (by decide +kernel)
set_option maxRecDepth 20000 in
theorem qV_Mo_Mo_keeper : (Jvm.Cond.selects "ThreeboxesModel" ({ cls := "ThreeboxesModel", name := "keeper", desc := "(III)I" } : Jvm.MethodName) ({ cls := "ThreeboxesModel", name := "keeper", desc := "(III)I" } : Jvm.MethodName)) ∈ lw_tbl := List.mem_of_getElem? (i := 1293) (by decide +kernel)
set_option maxRecDepth 20000 in
theorem qC_Mo_keeper : (Jvm.Cond.code ({ cls := "ThreeboxesModel", name := "keeper", desc := "(III)I" } : Jvm.MethodName) prog_9_method_25_code (4 : Nat) (Option.some Jvm.ClassFile.FieldType.int)) ∈ lw_tbl := List.mem_of_getElem? (i := 1294) rfl
set_option maxRecDepth 20000 in
theorem qM_Mo_115 : (Jvm.Cond.methodLink "ThreeboxesModel" (115 : Nat) ({ cls := "ThreeboxesModel", name := "in", desc := "(III)Z" } : Jvm.MethodName)) ∈ lw_tbl := List.mem_of_getElem? (i := 1295) (by decide +kernel)
set_option maxRecDepth 20000 in
theorem qS_Mo_in : (Jvm.Cond.static ({ cls := "ThreeboxesModel", name := "in", desc := "(III)Z" } : Jvm.MethodName)) ∈ lw_tbl := List.mem_of_getElem? (i := 1296) (by decide +kernel)
set_option maxRecDepth 20000 in
theorem qC_Mo_in : (Jvm.Cond.code ({ cls := "ThreeboxesModel", name := "in", desc := "(III)Z" } : Jvm.MethodName) prog_9_method_4_code (3 : Nat) (Option.some Jvm.ClassFile.FieldType.boolean)) ∈ lw_tbl := List.mem_of_getElem? (i := 1297) rfl
set_option maxRecDepth 20000 in
theorem qM_Mo_119 : (Jvm.Cond.methodLink "ThreeboxesModel" (119 : Nat) ({ cls := "ThreeboxesModel", name := "no", desc := "(I)I" } : Jvm.MethodName)) ∈ lw_tbl := List.mem_of_getElem? (i := 1298) (by decide +kernel)
set_option maxRecDepth 20000 in
theorem qI_Mo_no : (Jvm.Cond.instanceMethod ({ cls := "ThreeboxesModel", name := "no", desc := "(I)I" } : Jvm.MethodName)) ∈ lw_tbl := List.mem_of_getElem? (i := 1300) (by decide +kernel)
set_option maxRecDepth 20000 in
theorem qC_Mo_no : (Jvm.Cond.code ({ cls := "ThreeboxesModel", name := "no", desc := "(I)I" } : Jvm.MethodName) prog_9_method_3_code (2 : Nat) (Option.some Jvm.ClassFile.FieldType.int)) ∈ lw_tbl := List.mem_of_getElem? (i := 1301) rfl
set_option maxRecDepth 20000 in
theorem qE_Mo_94 : (Jvm.Cond.interfaceEntry "ThreeboxesModel" (94 : Nat)) ∈ lw_tbl := List.mem_of_getElem? (i := 1302) (by decide +kernel)
set_option maxRecDepth 20000 in
theorem qM_Mo_94 : (Jvm.Cond.methodLink "ThreeboxesModel" (94 : Nat) ({ cls := "java/util/List", name := "size", desc := "()I" } : Jvm.MethodName)) ∈ lw_tbl := List.mem_of_getElem? (i := 1303) (by decide +kernel)
set_option maxRecDepth 20000 in
theorem qIm_Li_javautilList_size_I : (Jvm.Cond.interfaceMethod "java/util/List" "java/util/List" "size" "()I") ∈ lw_tbl := List.mem_of_getElem? (i := 1304) (by decide +kernel)
set_option maxRecDepth 20000 in
theorem qD_Li_size_04f1 : (Jvm.Cond.declares ({ cls := "java/util/List", name := "size", desc := "()I" } : Jvm.MethodName)) ∈ lw_tbl := List.mem_of_getElem? (i := 1305) (by decide +kernel)
set_option maxRecDepth 20000 in
theorem qT_AL_Li : (Jvm.Cond.castable "java/util/ArrayList" "java/util/List") ∈ lw_tbl := List.mem_of_getElem? (i := 1306) (by decide +kernel)
set_option maxRecDepth 20000 in
theorem qV_AL_Li_size_04f1 : (Jvm.Cond.selects "java/util/ArrayList" ({ cls := "java/util/List", name := "size", desc := "()I" } : Jvm.MethodName) ({ cls := "java/util/ArrayList", name := "size", desc := "()I" } : Jvm.MethodName)) ∈ lw_tbl := List.mem_of_getElem? (i := 1307) (by decide +kernel)
set_option maxRecDepth 20000 in
theorem qU_AL_size_I : (Jvm.Cond.unhidden "java/util/ArrayList" "size" "()I") ∈ lw_tbl := List.mem_of_getElem? (i := 1308) (by decide +kernel)
set_option maxRecDepth 20000 in
theorem qP_AL_size : (Jvm.Cond.publicMethod ({ cls := "java/util/ArrayList", name := "size", desc := "()I" } : Jvm.MethodName)) ∈ lw_tbl := List.mem_of_getElem? (i := 1309) (by decide +kernel)
set_option maxRecDepth 20000 in
theorem qK_Mo_57 : (Jvm.Cond.classLink "ThreeboxesModel" (57 : Nat) "ThreeboxesModel$Keeper") ∈ lw_tbl := List.mem_of_getElem? (i := 1310) (by decide +kernel)
set_option maxRecDepth 20000 in
theorem qO_MK : (Jvm.Cond.instantiable "ThreeboxesModel$Keeper" (5 : Nat)) ∈ lw_tbl := List.mem_of_getElem? (i := 1311) (by decide +kernel)
set_option maxRecDepth 20000 in
theorem qM_Mo_122 : (Jvm.Cond.methodLink "ThreeboxesModel" (122 : Nat) ({ cls := "ThreeboxesModel$Keeper", name := "<init>", desc := "(III)V" } : Jvm.MethodName)) ∈ lw_tbl := List.mem_of_getElem? (i := 1312) (by decide +kernel)
set_option maxRecDepth 20000 in
theorem qI_MK_init : (Jvm.Cond.instanceMethod ({ cls := "ThreeboxesModel$Keeper", name := "<init>", desc := "(III)V" } : Jvm.MethodName)) ∈ lw_tbl := List.mem_of_getElem? (i := 1313) (by decide +kernel)
set_option maxRecDepth 20000 in
theorem qC_MK_init : (Jvm.Cond.code ({ cls := "ThreeboxesModel$Keeper", name := "<init>", desc := "(III)V" } : Jvm.MethodName) prog_10_method_1_code (4 : Nat) (Option.none : Option Jvm.ClassFile.FieldType)) ∈ lw_tbl := List.mem_of_getElem? (i := 1314) rfl
set_option maxRecDepth 20000 in
theorem qM_MK_1 : (Jvm.Cond.methodLink "ThreeboxesModel$Keeper" (1 : Nat) ({ cls := "java/lang/Object", name := "<init>", desc := "()V" } : Jvm.MethodName)) ∈ lw_tbl := List.mem_of_getElem? (i := 1315) (by decide +kernel)
set_option maxRecDepth 20000 in
theorem qF_MK_7 : (Jvm.Cond.fieldLink "ThreeboxesModel$Keeper" (7 : Nat) "ThreeboxesModel$Keeper" "zone" "I") ∈ lw_tbl := List.mem_of_getElem? (i := 1316) (by decide +kernel)
set_option maxRecDepth 20000 in
theorem qF_Mo_96 : (Jvm.Cond.fieldLink "ThreeboxesModel" (96 : Nat) "ThreeboxesModel$Keeper" "zone" "I") ∈ lw_tbl := List.mem_of_getElem? (i := 1317) (by decide +kernel)
set_option maxRecDepth 20000 in
theorem qF_MK_13 : (Jvm.Cond.fieldLink "ThreeboxesModel$Keeper" (13 : Nat) "ThreeboxesModel$Keeper" "price" "I") ∈ lw_tbl := List.mem_of_getElem? (i := 1318) (by decide +kernel)
set_option maxRecDepth 20000 in
theorem qF_Mo_193 : (Jvm.Cond.fieldLink "ThreeboxesModel" (193 : Nat) "ThreeboxesModel$Keeper" "price" "I") ∈ lw_tbl := List.mem_of_getElem? (i := 1319) (by decide +kernel)
set_option maxRecDepth 20000 in
theorem qF_MK_16 : (Jvm.Cond.fieldLink "ThreeboxesModel$Keeper" (16 : Nat) "ThreeboxesModel$Keeper" "risk" "I") ∈ lw_tbl := List.mem_of_getElem? (i := 1320) (by decide +kernel)
set_option maxRecDepth 20000 in
theorem qF_Mo_196 : (Jvm.Cond.fieldLink "ThreeboxesModel" (196 : Nat) "ThreeboxesModel$Keeper" "risk" "I") ∈ lw_tbl := List.mem_of_getElem? (i := 1321) (by decide +kernel)
set_option maxRecDepth 20000 in
theorem qF_Mo_59 : (Jvm.Cond.fieldLink "ThreeboxesModel" (59 : Nat) "ThreeboxesModel$Keeper" "lie" "I") ∈ lw_tbl := List.mem_of_getElem? (i := 1322) (by decide +kernel)
set_option maxRecDepth 20000 in
theorem qF_Mo_184 : (Jvm.Cond.fieldLink "ThreeboxesModel" (184 : Nat) "ThreeboxesModel$Keeper" "isNoted" "Z") ∈ lw_tbl := List.mem_of_getElem? (i := 1323) (by decide +kernel)
set_option maxRecDepth 20000 in
theorem qSc_MK_Oj : (Jvm.Cond.superclass "ThreeboxesModel$Keeper" "java/lang/Object") ∈ lw_tbl := List.mem_of_getElem? (i := 1334) (by decide +kernel)
set_option maxRecDepth 20000 in
theorem qE_Mo_111 : (Jvm.Cond.interfaceEntry "ThreeboxesModel" (111 : Nat)) ∈ lw_tbl := List.mem_of_getElem? (i := 1335) (by decide +kernel)
set_option maxRecDepth 20000 in
theorem qM_Mo_111 : (Jvm.Cond.methodLink "ThreeboxesModel" (111 : Nat) ({ cls := "java/util/List", name := "add", desc := "(Ljava/lang/Object;)Z" } : Jvm.MethodName)) ∈ lw_tbl := List.mem_of_getElem? (i := 1336) (by decide +kernel)
set_option maxRecDepth 20000 in
theorem qIm_Li_javautilList_add_LjavalangObjectZ : (Jvm.Cond.interfaceMethod "java/util/List" "java/util/List" "add" "(Ljava/lang/Object;)Z") ∈ lw_tbl := List.mem_of_getElem? (i := 1337) (by decide +kernel)
set_option maxRecDepth 20000 in
theorem qD_Li_add_79ae : (Jvm.Cond.declares ({ cls := "java/util/List", name := "add", desc := "(Ljava/lang/Object;)Z" } : Jvm.MethodName)) ∈ lw_tbl := List.mem_of_getElem? (i := 1338) (by decide +kernel)
set_option maxRecDepth 20000 in
theorem qV_AL_Li_add_79ae : (Jvm.Cond.selects "java/util/ArrayList" ({ cls := "java/util/List", name := "add", desc := "(Ljava/lang/Object;)Z" } : Jvm.MethodName) ({ cls := "java/util/ArrayList", name := "add", desc := "(Ljava/lang/Object;)Z" } : Jvm.MethodName)) ∈ lw_tbl := List.mem_of_getElem? (i := 1339) (by decide +kernel)
set_option maxRecDepth 20000 in
theorem qU_AL_add_LjavalangObjectZ : (Jvm.Cond.unhidden "java/util/ArrayList" "add" "(Ljava/lang/Object;)Z") ∈ lw_tbl := List.mem_of_getElem? (i := 1340) (by decide +kernel)
set_option maxRecDepth 20000 in
theorem qP_AL_add_1 : (Jvm.Cond.publicMethod ({ cls := "java/util/ArrayList", name := "add", desc := "(Ljava/lang/Object;)Z" } : Jvm.MethodName)) ∈ lw_tbl := List.mem_of_getElem? (i := 1341) (by decide +kernel)
set_option maxRecDepth 20000 in
theorem qM_La_115 : (Jvm.Cond.methodLink "ThreeboxesLaw" (115 : Nat) ({ cls := "ThreeboxesModel", name := "lie", desc := "(II)I" } : Jvm.MethodName)) ∈ lw_tbl := List.mem_of_getElem? (i := 1342) (by decide +kernel)
set_option maxRecDepth 20000 in
theorem qI_Mo_lie : (Jvm.Cond.instanceMethod ({ cls := "ThreeboxesModel", name := "lie", desc := "(II)I" } : Jvm.MethodName)) ∈ lw_tbl := List.mem_of_getElem? (i := 1343) (by decide +kernel)
set_option maxRecDepth 20000 in
theorem qV_Mo_Mo_lie : (Jvm.Cond.selects "ThreeboxesModel" ({ cls := "ThreeboxesModel", name := "lie", desc := "(II)I" } : Jvm.MethodName) ({ cls := "ThreeboxesModel", name := "lie", desc := "(II)I" } : Jvm.MethodName)) ∈ lw_tbl := List.mem_of_getElem? (i := 1344) (by decide +kernel)
set_option maxRecDepth 20000 in
theorem qC_Mo_lie : (Jvm.Cond.code ({ cls := "ThreeboxesModel", name := "lie", desc := "(II)I" } : Jvm.MethodName) prog_9_method_26_code (4 : Nat) (Option.some Jvm.ClassFile.FieldType.int)) ∈ lw_tbl := List.mem_of_getElem? (i := 1345) rfl
set_option maxRecDepth 20000 in
theorem qM_Mo_125 : (Jvm.Cond.methodLink "ThreeboxesModel" (125 : Nat) ({ cls := "ThreeboxesModel", name := "isKeeper", desc := "(I)Z" } : Jvm.MethodName)) ∈ lw_tbl := List.mem_of_getElem? (i := 1346) (by decide +kernel)
set_option maxRecDepth 20000 in
theorem qI_Mo_isKeeper : (Jvm.Cond.instanceMethod ({ cls := "ThreeboxesModel", name := "isKeeper", desc := "(I)Z" } : Jvm.MethodName)) ∈ lw_tbl := List.mem_of_getElem? (i := 1348) (by decide +kernel)
set_option maxRecDepth 20000 in
theorem qC_Mo_isKeeper : (Jvm.Cond.code ({ cls := "ThreeboxesModel", name := "isKeeper", desc := "(I)Z" } : Jvm.MethodName) prog_9_method_22_code (2 : Nat) (Option.some Jvm.ClassFile.FieldType.boolean)) ∈ lw_tbl := List.mem_of_getElem? (i := 1349) rfl
set_option maxRecDepth 20000 in
theorem qE_Mo_51 : (Jvm.Cond.interfaceEntry "ThreeboxesModel" (51 : Nat)) ∈ lw_tbl := List.mem_of_getElem? (i := 1350) (by decide +kernel)
set_option maxRecDepth 20000 in
theorem qM_Mo_51 : (Jvm.Cond.methodLink "ThreeboxesModel" (51 : Nat) ({ cls := "java/util/List", name := "get", desc := "(I)Ljava/lang/Object;" } : Jvm.MethodName)) ∈ lw_tbl := List.mem_of_getElem? (i := 1351) (by decide +kernel)
set_option maxRecDepth 20000 in
theorem qIm_Li_javautilList_get_ILjavalangObject : (Jvm.Cond.interfaceMethod "java/util/List" "java/util/List" "get" "(I)Ljava/lang/Object;") ∈ lw_tbl := List.mem_of_getElem? (i := 1352) (by decide +kernel)
set_option maxRecDepth 20000 in
theorem qD_Li_get_7cbf : (Jvm.Cond.declares ({ cls := "java/util/List", name := "get", desc := "(I)Ljava/lang/Object;" } : Jvm.MethodName)) ∈ lw_tbl := List.mem_of_getElem? (i := 1353) (by decide +kernel)
set_option maxRecDepth 20000 in
theorem qV_AL_Li_get_7cbf : (Jvm.Cond.selects "java/util/ArrayList" ({ cls := "java/util/List", name := "get", desc := "(I)Ljava/lang/Object;" } : Jvm.MethodName) ({ cls := "java/util/ArrayList", name := "get", desc := "(I)Ljava/lang/Object;" } : Jvm.MethodName)) ∈ lw_tbl := List.mem_of_getElem? (i := 1354) (by decide +kernel)
set_option maxRecDepth 20000 in
theorem qU_AL_get_ILjavalangObject : (Jvm.Cond.unhidden "java/util/ArrayList" "get" "(I)Ljava/lang/Object;") ∈ lw_tbl := List.mem_of_getElem? (i := 1355) (by decide +kernel)
set_option maxRecDepth 20000 in
theorem qP_AL_get : (Jvm.Cond.publicMethod ({ cls := "java/util/ArrayList", name := "get", desc := "(I)Ljava/lang/Object;" } : Jvm.MethodName)) ∈ lw_tbl := List.mem_of_getElem? (i := 1356) (by decide +kernel)
set_option maxRecDepth 20000 in
theorem qM_La_119 : (Jvm.Cond.methodLink "ThreeboxesLaw" (119 : Nat) ({ cls := "ThreeboxesModel", name := "deal", desc := "(IIIII)I" } : Jvm.MethodName)) ∈ lw_tbl := List.mem_of_getElem? (i := 1357) (by decide +kernel)
set_option maxRecDepth 20000 in
theorem qI_Mo_deal : (Jvm.Cond.instanceMethod ({ cls := "ThreeboxesModel", name := "deal", desc := "(IIIII)I" } : Jvm.MethodName)) ∈ lw_tbl := List.mem_of_getElem? (i := 1358) (by decide +kernel)
set_option maxRecDepth 20000 in
theorem qV_Mo_Mo_deal : (Jvm.Cond.selects "ThreeboxesModel" ({ cls := "ThreeboxesModel", name := "deal", desc := "(IIIII)I" } : Jvm.MethodName) ({ cls := "ThreeboxesModel", name := "deal", desc := "(IIIII)I" } : Jvm.MethodName)) ∈ lw_tbl := List.mem_of_getElem? (i := 1359) (by decide +kernel)
set_option maxRecDepth 20000 in
theorem qC_Mo_deal : (Jvm.Cond.code ({ cls := "ThreeboxesModel", name := "deal", desc := "(IIIII)I" } : Jvm.MethodName) prog_9_method_27_code (9 : Nat) (Option.some Jvm.ClassFile.FieldType.int)) ∈ lw_tbl := List.mem_of_getElem? (i := 1360) rfl
set_option maxRecDepth 20000 in
theorem qM_Mo_129 : (Jvm.Cond.methodLink "ThreeboxesModel" (129 : Nat) ({ cls := "ThreeboxesModel", name := "isSet", desc := "(I)Z" } : Jvm.MethodName)) ∈ lw_tbl := List.mem_of_getElem? (i := 1361) (by decide +kernel)
set_option maxRecDepth 20000 in
theorem qI_Mo_isSet : (Jvm.Cond.instanceMethod ({ cls := "ThreeboxesModel", name := "isSet", desc := "(I)Z" } : Jvm.MethodName)) ∈ lw_tbl := List.mem_of_getElem? (i := 1363) (by decide +kernel)
set_option maxRecDepth 20000 in
theorem qC_Mo_isSet : (Jvm.Cond.code ({ cls := "ThreeboxesModel", name := "isSet", desc := "(I)Z" } : Jvm.MethodName) prog_9_method_24_code (2 : Nat) (Option.some Jvm.ClassFile.FieldType.boolean)) ∈ lw_tbl := List.mem_of_getElem? (i := 1364) rfl
set_option maxRecDepth 20000 in
theorem qM_Mo_66 : (Jvm.Cond.methodLink "ThreeboxesModel" (66 : Nat) ({ cls := "ThreeboxesModel", name := "size", desc := "(I)I" } : Jvm.MethodName)) ∈ lw_tbl := List.mem_of_getElem? (i := 1365) (by decide +kernel)
set_option maxRecDepth 20000 in
theorem qS_Mo_size : (Jvm.Cond.static ({ cls := "ThreeboxesModel", name := "size", desc := "(I)I" } : Jvm.MethodName)) ∈ lw_tbl := List.mem_of_getElem? (i := 1366) (by decide +kernel)
set_option maxRecDepth 20000 in
theorem qC_Mo_size : (Jvm.Cond.code ({ cls := "ThreeboxesModel", name := "size", desc := "(I)I" } : Jvm.MethodName) prog_9_method_6_code (3 : Nat) (Option.some Jvm.ClassFile.FieldType.int)) ∈ lw_tbl := List.mem_of_getElem? (i := 1367) rfl
set_option maxRecDepth 20000 in
theorem qK_Mo_47 : (Jvm.Cond.classLink "ThreeboxesModel" (47 : Nat) "ThreeboxesModel$Secret") ∈ lw_tbl := List.mem_of_getElem? (i := 1368) (by decide +kernel)
set_option maxRecDepth 20000 in
theorem qO_MS : (Jvm.Cond.instantiable "ThreeboxesModel$Secret" (8 : Nat)) ∈ lw_tbl := List.mem_of_getElem? (i := 1369) (by decide +kernel)
set_option maxRecDepth 20000 in
theorem qM_Mo_132 : (Jvm.Cond.methodLink "ThreeboxesModel" (132 : Nat) ({ cls := "ThreeboxesModel$Secret", name := "<init>", desc := "(III)V" } : Jvm.MethodName)) ∈ lw_tbl := List.mem_of_getElem? (i := 1370) (by decide +kernel)
set_option maxRecDepth 20000 in
theorem qI_MS_init : (Jvm.Cond.instanceMethod ({ cls := "ThreeboxesModel$Secret", name := "<init>", desc := "(III)V" } : Jvm.MethodName)) ∈ lw_tbl := List.mem_of_getElem? (i := 1371) (by decide +kernel)
set_option maxRecDepth 20000 in
theorem qC_MS_init : (Jvm.Cond.code ({ cls := "ThreeboxesModel$Secret", name := "<init>", desc := "(III)V" } : Jvm.MethodName) prog_11_method_1_code (4 : Nat) (Option.none : Option Jvm.ClassFile.FieldType)) ∈ lw_tbl := List.mem_of_getElem? (i := 1372) rfl
set_option maxRecDepth 20000 in
theorem qM_MS_3 : (Jvm.Cond.methodLink "ThreeboxesModel$Secret" (3 : Nat) ({ cls := "java/lang/Object", name := "<init>", desc := "()V" } : Jvm.MethodName)) ∈ lw_tbl := List.mem_of_getElem? (i := 1373) (by decide +kernel)
set_option maxRecDepth 20000 in
theorem qF_MS_18 : (Jvm.Cond.fieldLink "ThreeboxesModel$Secret" (18 : Nat) "ThreeboxesModel$Secret" "threshold" "I") ∈ lw_tbl := List.mem_of_getElem? (i := 1374) (by decide +kernel)
set_option maxRecDepth 20000 in
theorem qF_Mo_69 : (Jvm.Cond.fieldLink "ThreeboxesModel" (69 : Nat) "ThreeboxesModel$Secret" "threshold" "I") ∈ lw_tbl := List.mem_of_getElem? (i := 1375) (by decide +kernel)
set_option maxRecDepth 20000 in
theorem qF_MS_22 : (Jvm.Cond.fieldLink "ThreeboxesModel$Secret" (22 : Nat) "ThreeboxesModel$Secret" "zones" "I") ∈ lw_tbl := List.mem_of_getElem? (i := 1376) (by decide +kernel)
set_option maxRecDepth 20000 in
theorem qF_Mo_99 : (Jvm.Cond.fieldLink "ThreeboxesModel" (99 : Nat) "ThreeboxesModel$Secret" "zones" "I") ∈ lw_tbl := List.mem_of_getElem? (i := 1377) (by decide +kernel)
set_option maxRecDepth 20000 in
theorem qF_MS_25 : (Jvm.Cond.fieldLink "ThreeboxesModel$Secret" (25 : Nat) "ThreeboxesModel$Secret" "date" "I") ∈ lw_tbl := List.mem_of_getElem? (i := 1378) (by decide +kernel)
set_option maxRecDepth 20000 in
theorem qF_Mo_105 : (Jvm.Cond.fieldLink "ThreeboxesModel" (105 : Nat) "ThreeboxesModel$Secret" "date" "I") ∈ lw_tbl := List.mem_of_getElem? (i := 1379) (by decide +kernel)
set_option maxRecDepth 20000 in
theorem qF_MS_28 : (Jvm.Cond.fieldLink "ThreeboxesModel$Secret" (28 : Nat) "ThreeboxesModel$Secret" "epoch" "I") ∈ lw_tbl := List.mem_of_getElem? (i := 1380) (by decide +kernel)
set_option maxRecDepth 20000 in
theorem qF_Mo_153 : (Jvm.Cond.fieldLink "ThreeboxesModel" (153 : Nat) "ThreeboxesModel$Secret" "epoch" "I") ∈ lw_tbl := List.mem_of_getElem? (i := 1381) (by decide +kernel)
set_option maxRecDepth 20000 in
theorem qF_Mo_108 : (Jvm.Cond.fieldLink "ThreeboxesModel" (108 : Nat) "ThreeboxesModel$Secret" "frozen" "I") ∈ lw_tbl := List.mem_of_getElem? (i := 1382) (by decide +kernel)
set_option maxRecDepth 20000 in
theorem qF_Mo_165 : (Jvm.Cond.fieldLink "ThreeboxesModel" (165 : Nat) "ThreeboxesModel$Secret" "isTainted" "Z") ∈ lw_tbl := List.mem_of_getElem? (i := 1383) (by decide +kernel)
set_option maxRecDepth 20000 in
theorem qF_MS_9 : (Jvm.Cond.fieldLink "ThreeboxesModel$Secret" (9 : Nat) "ThreeboxesModel$Secret" "shares" "[I") ∈ lw_tbl := List.mem_of_getElem? (i := 1384) (by decide +kernel)
set_option maxRecDepth 20000 in
theorem qF_Mo_46 : (Jvm.Cond.fieldLink "ThreeboxesModel" (46 : Nat) "ThreeboxesModel$Secret" "shares" "[I") ∈ lw_tbl := List.mem_of_getElem? (i := 1385) (by decide +kernel)
set_option maxRecDepth 20000 in
theorem qF_MS_15 : (Jvm.Cond.fieldLink "ThreeboxesModel$Secret" (15 : Nat) "ThreeboxesModel$Secret" "epochs" "[I") ∈ lw_tbl := List.mem_of_getElem? (i := 1386) (by decide +kernel)
set_option maxRecDepth 20000 in
theorem qF_Mo_140 : (Jvm.Cond.fieldLink "ThreeboxesModel" (140 : Nat) "ThreeboxesModel$Secret" "epochs" "[I") ∈ lw_tbl := List.mem_of_getElem? (i := 1387) (by decide +kernel)
set_option maxRecDepth 20000 in
theorem qSc_MS_Oj : (Jvm.Cond.superclass "ThreeboxesModel$Secret" "java/lang/Object") ∈ lw_tbl := List.mem_of_getElem? (i := 1404) (by decide +kernel)
set_option maxRecDepth 20000 in
theorem qM_Mo_133 : (Jvm.Cond.methodLink "ThreeboxesModel" (133 : Nat) ({ cls := "ThreeboxesModel", name := "draw", desc := "()I" } : Jvm.MethodName)) ∈ lw_tbl := List.mem_of_getElem? (i := 1405) (by decide +kernel)
set_option maxRecDepth 20000 in
theorem qI_Mo_draw : (Jvm.Cond.instanceMethod ({ cls := "ThreeboxesModel", name := "draw", desc := "()I" } : Jvm.MethodName)) ∈ lw_tbl := List.mem_of_getElem? (i := 1407) (by decide +kernel)
set_option maxRecDepth 20000 in
theorem qC_Mo_draw : (Jvm.Cond.code ({ cls := "ThreeboxesModel", name := "draw", desc := "()I" } : Jvm.MethodName) prog_9_method_9_code (1 : Nat) (Option.some Jvm.ClassFile.FieldType.int)) ∈ lw_tbl := List.mem_of_getElem? (i := 1408) rfl
set_option maxRecDepth 20000 in
theorem qM_Mo_76 : (Jvm.Cond.methodLink "ThreeboxesModel" (76 : Nat) ({ cls := "ThreeboxesModel", name := "has", desc := "(II)Z" } : Jvm.MethodName)) ∈ lw_tbl := List.mem_of_getElem? (i := 1409) (by decide +kernel)
set_option maxRecDepth 20000 in
theorem qS_Mo_has : (Jvm.Cond.static ({ cls := "ThreeboxesModel", name := "has", desc := "(II)Z" } : Jvm.MethodName)) ∈ lw_tbl := List.mem_of_getElem? (i := 1410) (by decide +kernel)
set_option maxRecDepth 20000 in
theorem qC_Mo_has : (Jvm.Cond.code ({ cls := "ThreeboxesModel", name := "has", desc := "(II)Z" } : Jvm.MethodName) prog_9_method_5_code (2 : Nat) (Option.some Jvm.ClassFile.FieldType.boolean)) ∈ lw_tbl := List.mem_of_getElem? (i := 1411) rfl
set_option maxRecDepth 20000 in
theorem qM_Mo_136 : (Jvm.Cond.methodLink "ThreeboxesModel" (136 : Nat) ({ cls := "ThreeboxesModel", name := "at", desc := "([II)I" } : Jvm.MethodName)) ∈ lw_tbl := List.mem_of_getElem? (i := 1412) (by decide +kernel)
set_option maxRecDepth 20000 in
theorem qS_Mo_at : (Jvm.Cond.static ({ cls := "ThreeboxesModel", name := "at", desc := "([II)I" } : Jvm.MethodName)) ∈ lw_tbl := List.mem_of_getElem? (i := 1413) (by decide +kernel)
set_option maxRecDepth 20000 in
theorem qC_Mo_at : (Jvm.Cond.code ({ cls := "ThreeboxesModel", name := "at", desc := "([II)I" } : Jvm.MethodName) prog_9_method_10_code (4 : Nat) (Option.some Jvm.ClassFile.FieldType.int)) ∈ lw_tbl := List.mem_of_getElem? (i := 1414) rfl
set_option maxRecDepth 20000 in
theorem qM_Mo_143 : (Jvm.Cond.methodLink "ThreeboxesModel" (143 : Nat) ({ cls := "ThreeboxesModel", name := "write", desc := "(II)V" } : Jvm.MethodName)) ∈ lw_tbl := List.mem_of_getElem? (i := 1415) (by decide +kernel)
set_option maxRecDepth 20000 in
theorem qI_Mo_write : (Jvm.Cond.instanceMethod ({ cls := "ThreeboxesModel", name := "write", desc := "(II)V" } : Jvm.MethodName)) ∈ lw_tbl := List.mem_of_getElem? (i := 1417) (by decide +kernel)
set_option maxRecDepth 20000 in
theorem qC_Mo_write : (Jvm.Cond.code ({ cls := "ThreeboxesModel", name := "write", desc := "(II)V" } : Jvm.MethodName) prog_9_method_21_code (3 : Nat) (Option.none : Option Jvm.ClassFile.FieldType)) ∈ lw_tbl := List.mem_of_getElem? (i := 1418) rfl
set_option maxRecDepth 20000 in
theorem qM_La_122 : (Jvm.Cond.methodLink "ThreeboxesLaw" (122 : Nat) ({ cls := "ThreeboxesModel", name := "fresh", desc := "(II)I" } : Jvm.MethodName)) ∈ lw_tbl := List.mem_of_getElem? (i := 1419) (by decide +kernel)
set_option maxRecDepth 20000 in
theorem qI_Mo_fresh : (Jvm.Cond.instanceMethod ({ cls := "ThreeboxesModel", name := "fresh", desc := "(II)I" } : Jvm.MethodName)) ∈ lw_tbl := List.mem_of_getElem? (i := 1420) (by decide +kernel)
set_option maxRecDepth 20000 in
theorem qV_Mo_Mo_fresh : (Jvm.Cond.selects "ThreeboxesModel" ({ cls := "ThreeboxesModel", name := "fresh", desc := "(II)I" } : Jvm.MethodName) ({ cls := "ThreeboxesModel", name := "fresh", desc := "(II)I" } : Jvm.MethodName)) ∈ lw_tbl := List.mem_of_getElem? (i := 1421) (by decide +kernel)
set_option maxRecDepth 20000 in
theorem qC_Mo_fresh : (Jvm.Cond.code ({ cls := "ThreeboxesModel", name := "fresh", desc := "(II)I" } : Jvm.MethodName) prog_9_method_28_code (7 : Nat) (Option.some Jvm.ClassFile.FieldType.int)) ∈ lw_tbl := List.mem_of_getElem? (i := 1422) rfl
set_option maxRecDepth 20000 in
theorem qM_Mo_147 : (Jvm.Cond.methodLink "ThreeboxesModel" (147 : Nat) ({ cls := "ThreeboxesModel", name := "isSecret", desc := "(I)Z" } : Jvm.MethodName)) ∈ lw_tbl := List.mem_of_getElem? (i := 1423) (by decide +kernel)
set_option maxRecDepth 20000 in
theorem qI_Mo_isSecret : (Jvm.Cond.instanceMethod ({ cls := "ThreeboxesModel", name := "isSecret", desc := "(I)Z" } : Jvm.MethodName)) ∈ lw_tbl := List.mem_of_getElem? (i := 1425) (by decide +kernel)
set_option maxRecDepth 20000 in
theorem qC_Mo_isSecret : (Jvm.Cond.code ({ cls := "ThreeboxesModel", name := "isSecret", desc := "(I)Z" } : Jvm.MethodName) prog_9_method_23_code (2 : Nat) (Option.some Jvm.ClassFile.FieldType.boolean)) ∈ lw_tbl := List.mem_of_getElem? (i := 1426) rfl
set_option maxRecDepth 20000 in
theorem qM_Mo_150 : (Jvm.Cond.methodLink "ThreeboxesModel" (150 : Nat) ({ cls := "ThreeboxesModel", name := "group", desc := "(LThreeboxesModel$Secret;I)I" } : Jvm.MethodName)) ∈ lw_tbl := List.mem_of_getElem? (i := 1427) (by decide +kernel)
set_option maxRecDepth 20000 in
theorem qI_Mo_group : (Jvm.Cond.instanceMethod ({ cls := "ThreeboxesModel", name := "group", desc := "(LThreeboxesModel$Secret;I)I" } : Jvm.MethodName)) ∈ lw_tbl := List.mem_of_getElem? (i := 1429) (by decide +kernel)
set_option maxRecDepth 20000 in
theorem qC_Mo_group : (Jvm.Cond.code ({ cls := "ThreeboxesModel", name := "group", desc := "(LThreeboxesModel$Secret;I)I" } : Jvm.MethodName) prog_9_method_13_code (3 : Nat) (Option.some Jvm.ClassFile.FieldType.int)) ∈ lw_tbl := List.mem_of_getElem? (i := 1430) rfl
set_option maxRecDepth 20000 in
theorem qM_Mo_62 : (Jvm.Cond.methodLink "ThreeboxesModel" (62 : Nat) ({ cls := "ThreeboxesModel$Secret", name := "good", desc := "()I" } : Jvm.MethodName)) ∈ lw_tbl := List.mem_of_getElem? (i := 1431) (by decide +kernel)
set_option maxRecDepth 20000 in
theorem qI_MS_good : (Jvm.Cond.instanceMethod ({ cls := "ThreeboxesModel$Secret", name := "good", desc := "()I" } : Jvm.MethodName)) ∈ lw_tbl := List.mem_of_getElem? (i := 1432) (by decide +kernel)
set_option maxRecDepth 20000 in
theorem qV_MS_MS_good : (Jvm.Cond.selects "ThreeboxesModel$Secret" ({ cls := "ThreeboxesModel$Secret", name := "good", desc := "()I" } : Jvm.MethodName) ({ cls := "ThreeboxesModel$Secret", name := "good", desc := "()I" } : Jvm.MethodName)) ∈ lw_tbl := List.mem_of_getElem? (i := 1433) (by decide +kernel)
set_option maxRecDepth 20000 in
theorem qC_MS_good : (Jvm.Cond.code ({ cls := "ThreeboxesModel$Secret", name := "good", desc := "()I" } : Jvm.MethodName) prog_11_method_4_code (3 : Nat) (Option.some Jvm.ClassFile.FieldType.int)) ∈ lw_tbl := List.mem_of_getElem? (i := 1434) rfl
set_option maxRecDepth 20000 in
theorem qM_MS_31 : (Jvm.Cond.methodLink "ThreeboxesModel$Secret" (31 : Nat) ({ cls := "ThreeboxesModel$Secret", name := "isGood", desc := "(I)Z" } : Jvm.MethodName)) ∈ lw_tbl := List.mem_of_getElem? (i := 1435) (by decide +kernel)
set_option maxRecDepth 20000 in
theorem qI_MS_isGood : (Jvm.Cond.instanceMethod ({ cls := "ThreeboxesModel$Secret", name := "isGood", desc := "(I)Z" } : Jvm.MethodName)) ∈ lw_tbl := List.mem_of_getElem? (i := 1436) (by decide +kernel)
set_option maxRecDepth 20000 in
theorem qV_MS_MS_isGood : (Jvm.Cond.selects "ThreeboxesModel$Secret" ({ cls := "ThreeboxesModel$Secret", name := "isGood", desc := "(I)Z" } : Jvm.MethodName) ({ cls := "ThreeboxesModel$Secret", name := "isGood", desc := "(I)Z" } : Jvm.MethodName)) ∈ lw_tbl := List.mem_of_getElem? (i := 1437) (by decide +kernel)
set_option maxRecDepth 20000 in
theorem qC_MS_isGood : (Jvm.Cond.code ({ cls := "ThreeboxesModel$Secret", name := "isGood", desc := "(I)Z" } : Jvm.MethodName) prog_11_method_2_code (2 : Nat) (Option.some Jvm.ClassFile.FieldType.boolean)) ∈ lw_tbl := List.mem_of_getElem? (i := 1438) rfl
set_option maxRecDepth 20000 in
theorem qM_Mo_156 : (Jvm.Cond.methodLink "ThreeboxesModel" (156 : Nat) ({ cls := "ThreeboxesModel$Secret", name := "stale", desc := "()I" } : Jvm.MethodName)) ∈ lw_tbl := List.mem_of_getElem? (i := 1439) (by decide +kernel)
set_option maxRecDepth 20000 in
theorem qI_MS_stale : (Jvm.Cond.instanceMethod ({ cls := "ThreeboxesModel$Secret", name := "stale", desc := "()I" } : Jvm.MethodName)) ∈ lw_tbl := List.mem_of_getElem? (i := 1440) (by decide +kernel)
set_option maxRecDepth 20000 in
theorem qV_MS_MS_stale : (Jvm.Cond.selects "ThreeboxesModel$Secret" ({ cls := "ThreeboxesModel$Secret", name := "stale", desc := "()I" } : Jvm.MethodName) ({ cls := "ThreeboxesModel$Secret", name := "stale", desc := "()I" } : Jvm.MethodName)) ∈ lw_tbl := List.mem_of_getElem? (i := 1441) (by decide +kernel)
set_option maxRecDepth 20000 in
theorem qC_MS_stale : (Jvm.Cond.code ({ cls := "ThreeboxesModel$Secret", name := "stale", desc := "()I" } : Jvm.MethodName) prog_11_method_5_code (3 : Nat) (Option.some Jvm.ClassFile.FieldType.int)) ∈ lw_tbl := List.mem_of_getElem? (i := 1442) rfl
set_option maxRecDepth 20000 in
theorem qM_MS_35 : (Jvm.Cond.methodLink "ThreeboxesModel$Secret" (35 : Nat) ({ cls := "ThreeboxesModel$Secret", name := "isStale", desc := "(I)Z" } : Jvm.MethodName)) ∈ lw_tbl := List.mem_of_getElem? (i := 1443) (by decide +kernel)
set_option maxRecDepth 20000 in
theorem qI_MS_isStale : (Jvm.Cond.instanceMethod ({ cls := "ThreeboxesModel$Secret", name := "isStale", desc := "(I)Z" } : Jvm.MethodName)) ∈ lw_tbl := List.mem_of_getElem? (i := 1444) (by decide +kernel)
set_option maxRecDepth 20000 in
theorem qV_MS_MS_isStale : (Jvm.Cond.selects "ThreeboxesModel$Secret" ({ cls := "ThreeboxesModel$Secret", name := "isStale", desc := "(I)Z" } : Jvm.MethodName) ({ cls := "ThreeboxesModel$Secret", name := "isStale", desc := "(I)Z" } : Jvm.MethodName)) ∈ lw_tbl := List.mem_of_getElem? (i := 1445) (by decide +kernel)
set_option maxRecDepth 20000 in
theorem qC_MS_isStale : (Jvm.Cond.code ({ cls := "ThreeboxesModel$Secret", name := "isStale", desc := "(I)Z" } : Jvm.MethodName) prog_11_method_3_code (2 : Nat) (Option.some Jvm.ClassFile.FieldType.boolean)) ∈ lw_tbl := List.mem_of_getElem? (i := 1446) rfl
set_option maxRecDepth 20000 in
theorem qM_La_126 : (Jvm.Cond.methodLink "ThreeboxesLaw" (126 : Nat) ({ cls := "ThreeboxesModel", name := "flood", desc := "(I)I" } : Jvm.MethodName)) ∈ lw_tbl := List.mem_of_getElem? (i := 1447) (by decide +kernel)
set_option maxRecDepth 20000 in
theorem qI_Mo_flood : (Jvm.Cond.instanceMethod ({ cls := "ThreeboxesModel", name := "flood", desc := "(I)I" } : Jvm.MethodName)) ∈ lw_tbl := List.mem_of_getElem? (i := 1448) (by decide +kernel)
set_option maxRecDepth 20000 in
theorem qV_Mo_Mo_flood : (Jvm.Cond.selects "ThreeboxesModel" ({ cls := "ThreeboxesModel", name := "flood", desc := "(I)I" } : Jvm.MethodName) ({ cls := "ThreeboxesModel", name := "flood", desc := "(I)I" } : Jvm.MethodName)) ∈ lw_tbl := List.mem_of_getElem? (i := 1449) (by decide +kernel)
set_option maxRecDepth 20000 in
theorem qC_Mo_flood : (Jvm.Cond.code ({ cls := "ThreeboxesModel", name := "flood", desc := "(I)I" } : Jvm.MethodName) prog_9_method_29_code (6 : Nat) (Option.some Jvm.ClassFile.FieldType.int)) ∈ lw_tbl := List.mem_of_getElem? (i := 1450) rfl
set_option maxRecDepth 20000 in
theorem qM_La_129 : (Jvm.Cond.methodLink "ThreeboxesLaw" (129 : Nat) ({ cls := "ThreeboxesModel", name := "rebuild", desc := "(III)I" } : Jvm.MethodName)) ∈ lw_tbl := List.mem_of_getElem? (i := 1451) (by decide +kernel)
set_option maxRecDepth 20000 in
theorem qI_Mo_rebuild : (Jvm.Cond.instanceMethod ({ cls := "ThreeboxesModel", name := "rebuild", desc := "(III)I" } : Jvm.MethodName)) ∈ lw_tbl := List.mem_of_getElem? (i := 1452) (by decide +kernel)
set_option maxRecDepth 20000 in
theorem qV_Mo_Mo_rebuild : (Jvm.Cond.selects "ThreeboxesModel" ({ cls := "ThreeboxesModel", name := "rebuild", desc := "(III)I" } : Jvm.MethodName) ({ cls := "ThreeboxesModel", name := "rebuild", desc := "(III)I" } : Jvm.MethodName)) ∈ lw_tbl := List.mem_of_getElem? (i := 1453) (by decide +kernel)
set_option maxRecDepth 20000 in
theorem qC_Mo_rebuild : (Jvm.Cond.code ({ cls := "ThreeboxesModel", name := "rebuild", desc := "(III)I" } : Jvm.MethodName) prog_9_method_30_code (7 : Nat) (Option.some Jvm.ClassFile.FieldType.int)) ∈ lw_tbl := List.mem_of_getElem? (i := 1454) rfl
set_option maxRecDepth 20000 in
theorem qM_Mo_159 : (Jvm.Cond.methodLink "ThreeboxesModel" (159 : Nat) ({ cls := "ThreeboxesModel$Secret", name := "isGood", desc := "(I)Z" } : Jvm.MethodName)) ∈ lw_tbl := List.mem_of_getElem? (i := 1455) (by decide +kernel)
set_option maxRecDepth 20000 in
theorem qM_Mo_162 : (Jvm.Cond.methodLink "ThreeboxesModel" (162 : Nat) ({ cls := "ThreeboxesModel", name := "isGood", desc := "(LThreeboxesModel$Secret;I)Z" } : Jvm.MethodName)) ∈ lw_tbl := List.mem_of_getElem? (i := 1456) (by decide +kernel)
set_option maxRecDepth 20000 in
theorem qI_Mo_isGood : (Jvm.Cond.instanceMethod ({ cls := "ThreeboxesModel", name := "isGood", desc := "(LThreeboxesModel$Secret;I)Z" } : Jvm.MethodName)) ∈ lw_tbl := List.mem_of_getElem? (i := 1458) (by decide +kernel)
set_option maxRecDepth 20000 in
theorem qC_Mo_isGood : (Jvm.Cond.code ({ cls := "ThreeboxesModel", name := "isGood", desc := "(LThreeboxesModel$Secret;I)Z" } : Jvm.MethodName) prog_9_method_17_code (4 : Nat) (Option.some Jvm.ClassFile.FieldType.boolean)) ∈ lw_tbl := List.mem_of_getElem? (i := 1459) rfl
set_option maxRecDepth 20000 in
theorem qM_Mo_91 : (Jvm.Cond.methodLink "ThreeboxesModel" (91 : Nat) ({ cls := "ThreeboxesModel", name := "best", desc := "(LThreeboxesModel$Secret;I)I" } : Jvm.MethodName)) ∈ lw_tbl := List.mem_of_getElem? (i := 1460) (by decide +kernel)
set_option maxRecDepth 20000 in
theorem qI_Mo_best : (Jvm.Cond.instanceMethod ({ cls := "ThreeboxesModel", name := "best", desc := "(LThreeboxesModel$Secret;I)I" } : Jvm.MethodName)) ∈ lw_tbl := List.mem_of_getElem? (i := 1462) (by decide +kernel)
set_option maxRecDepth 20000 in
theorem qC_Mo_best : (Jvm.Cond.code ({ cls := "ThreeboxesModel", name := "best", desc := "(LThreeboxesModel$Secret;I)I" } : Jvm.MethodName) prog_9_method_14_code (7 : Nat) (Option.some Jvm.ClassFile.FieldType.int)) ∈ lw_tbl := List.mem_of_getElem? (i := 1463) rfl
set_option maxRecDepth 20000 in
theorem qM_Mo_72 : (Jvm.Cond.methodLink "ThreeboxesModel" (72 : Nat) ({ cls := "ThreeboxesModel", name := "agreeing", desc := "(LThreeboxesModel$Secret;II)I" } : Jvm.MethodName)) ∈ lw_tbl := List.mem_of_getElem? (i := 1464) (by decide +kernel)
set_option maxRecDepth 20000 in
theorem qI_Mo_agreeing : (Jvm.Cond.instanceMethod ({ cls := "ThreeboxesModel", name := "agreeing", desc := "(LThreeboxesModel$Secret;II)I" } : Jvm.MethodName)) ∈ lw_tbl := List.mem_of_getElem? (i := 1466) (by decide +kernel)
set_option maxRecDepth 20000 in
theorem qC_Mo_agreeing : (Jvm.Cond.code ({ cls := "ThreeboxesModel", name := "agreeing", desc := "(LThreeboxesModel$Secret;II)I" } : Jvm.MethodName) prog_9_method_16_code (6 : Nat) (Option.some Jvm.ClassFile.FieldType.int)) ∈ lw_tbl := List.mem_of_getElem? (i := 1467) rfl
set_option maxRecDepth 20000 in
theorem qM_Mo_88 : (Jvm.Cond.methodLink "ThreeboxesModel" (88 : Nat) ({ cls := "ThreeboxesModel", name := "along", desc := "(LThreeboxesModel$Secret;II)I" } : Jvm.MethodName)) ∈ lw_tbl := List.mem_of_getElem? (i := 1468) (by decide +kernel)
set_option maxRecDepth 20000 in
theorem qI_Mo_along : (Jvm.Cond.instanceMethod ({ cls := "ThreeboxesModel", name := "along", desc := "(LThreeboxesModel$Secret;II)I" } : Jvm.MethodName)) ∈ lw_tbl := List.mem_of_getElem? (i := 1470) (by decide +kernel)
set_option maxRecDepth 20000 in
theorem qC_Mo_along : (Jvm.Cond.code ({ cls := "ThreeboxesModel", name := "along", desc := "(LThreeboxesModel$Secret;II)I" } : Jvm.MethodName) prog_9_method_15_code (6 : Nat) (Option.some Jvm.ClassFile.FieldType.int)) ∈ lw_tbl := List.mem_of_getElem? (i := 1471) rfl
set_option maxRecDepth 20000 in
theorem qM_Mo_80 : (Jvm.Cond.methodLink "ThreeboxesModel" (80 : Nat) ({ cls := "ThreeboxesModel", name := "gives", desc := "(LThreeboxesModel$Secret;I)I" } : Jvm.MethodName)) ∈ lw_tbl := List.mem_of_getElem? (i := 1472) (by decide +kernel)
set_option maxRecDepth 20000 in
theorem qI_Mo_gives : (Jvm.Cond.instanceMethod ({ cls := "ThreeboxesModel", name := "gives", desc := "(LThreeboxesModel$Secret;I)I" } : Jvm.MethodName)) ∈ lw_tbl := List.mem_of_getElem? (i := 1474) (by decide +kernel)
set_option maxRecDepth 20000 in
theorem qC_Mo_gives : (Jvm.Cond.code ({ cls := "ThreeboxesModel", name := "gives", desc := "(LThreeboxesModel$Secret;I)I" } : Jvm.MethodName) prog_9_method_12_code (3 : Nat) (Option.some Jvm.ClassFile.FieldType.int)) ∈ lw_tbl := List.mem_of_getElem? (i := 1475) rfl
set_option maxRecDepth 20000 in
theorem qM_Mo_84 : (Jvm.Cond.methodLink "ThreeboxesModel" (84 : Nat) ({ cls := "ThreeboxesModel", name := "through", desc := "([I[III)I" } : Jvm.MethodName)) ∈ lw_tbl := List.mem_of_getElem? (i := 1476) (by decide +kernel)
set_option maxRecDepth 20000 in
theorem qI_Mo_through : (Jvm.Cond.instanceMethod ({ cls := "ThreeboxesModel", name := "through", desc := "([I[III)I" } : Jvm.MethodName)) ∈ lw_tbl := List.mem_of_getElem? (i := 1478) (by decide +kernel)
set_option maxRecDepth 20000 in
theorem qC_Mo_through : (Jvm.Cond.code ({ cls := "ThreeboxesModel", name := "through", desc := "([I[III)I" } : Jvm.MethodName) prog_9_method_11_code (9 : Nat) (Option.some Jvm.ClassFile.FieldType.int)) ∈ lw_tbl := List.mem_of_getElem? (i := 1479) rfl
set_option maxRecDepth 20000 in
theorem qM_Mo_39 : (Jvm.Cond.methodLink "ThreeboxesModel" (39 : Nat) ({ cls := "ThreeboxesModel", name := "mod", desc := "(I)I" } : Jvm.MethodName)) ∈ lw_tbl := List.mem_of_getElem? (i := 1480) (by decide +kernel)
set_option maxRecDepth 20000 in
theorem qS_Mo_mod : (Jvm.Cond.static ({ cls := "ThreeboxesModel", name := "mod", desc := "(I)I" } : Jvm.MethodName)) ∈ lw_tbl := List.mem_of_getElem? (i := 1481) (by decide +kernel)
set_option maxRecDepth 20000 in
theorem qC_Mo_mod : (Jvm.Cond.code ({ cls := "ThreeboxesModel", name := "mod", desc := "(I)I" } : Jvm.MethodName) prog_9_method_7_code (1 : Nat) (Option.some Jvm.ClassFile.FieldType.int)) ∈ lw_tbl := List.mem_of_getElem? (i := 1482) rfl
set_option maxRecDepth 20000 in
theorem qM_Mo_43 : (Jvm.Cond.methodLink "ThreeboxesModel" (43 : Nat) ({ cls := "ThreeboxesModel", name := "over", desc := "(I)I" } : Jvm.MethodName)) ∈ lw_tbl := List.mem_of_getElem? (i := 1483) (by decide +kernel)
set_option maxRecDepth 20000 in
theorem qI_Mo_over : (Jvm.Cond.instanceMethod ({ cls := "ThreeboxesModel", name := "over", desc := "(I)I" } : Jvm.MethodName)) ∈ lw_tbl := List.mem_of_getElem? (i := 1485) (by decide +kernel)
set_option maxRecDepth 20000 in
theorem qC_Mo_over : (Jvm.Cond.code ({ cls := "ThreeboxesModel", name := "over", desc := "(I)I" } : Jvm.MethodName) prog_9_method_8_code (2 : Nat) (Option.some Jvm.ClassFile.FieldType.int)) ∈ lw_tbl := List.mem_of_getElem? (i := 1486) rfl
set_option maxRecDepth 20000 in
theorem qM_La_133 : (Jvm.Cond.methodLink "ThreeboxesLaw" (133 : Nat) ({ cls := "ThreeboxesModel", name := "freeze", desc := "(IIZ)I" } : Jvm.MethodName)) ∈ lw_tbl := List.mem_of_getElem? (i := 1487) (by decide +kernel)
set_option maxRecDepth 20000 in
theorem qI_Mo_freeze : (Jvm.Cond.instanceMethod ({ cls := "ThreeboxesModel", name := "freeze", desc := "(IIZ)I" } : Jvm.MethodName)) ∈ lw_tbl := List.mem_of_getElem? (i := 1488) (by decide +kernel)
set_option maxRecDepth 20000 in
theorem qV_Mo_Mo_freeze : (Jvm.Cond.selects "ThreeboxesModel" ({ cls := "ThreeboxesModel", name := "freeze", desc := "(IIZ)I" } : Jvm.MethodName) ({ cls := "ThreeboxesModel", name := "freeze", desc := "(IIZ)I" } : Jvm.MethodName)) ∈ lw_tbl := List.mem_of_getElem? (i := 1489) (by decide +kernel)
set_option maxRecDepth 20000 in
theorem qC_Mo_freeze : (Jvm.Cond.code ({ cls := "ThreeboxesModel", name := "freeze", desc := "(IIZ)I" } : Jvm.MethodName) prog_9_method_31_code (5 : Nat) (Option.some Jvm.ClassFile.FieldType.int)) ∈ lw_tbl := List.mem_of_getElem? (i := 1490) rfl
set_option maxRecDepth 20000 in
theorem qM_La_136 : (Jvm.Cond.methodLink "ThreeboxesLaw" (136 : Nat) ({ cls := "ThreeboxesModel", name := "pass", desc := "(I)I" } : Jvm.MethodName)) ∈ lw_tbl := List.mem_of_getElem? (i := 1491) (by decide +kernel)
set_option maxRecDepth 20000 in
theorem qI_Mo_pass : (Jvm.Cond.instanceMethod ({ cls := "ThreeboxesModel", name := "pass", desc := "(I)I" } : Jvm.MethodName)) ∈ lw_tbl := List.mem_of_getElem? (i := 1492) (by decide +kernel)
set_option maxRecDepth 20000 in
theorem qV_Mo_Mo_pass : (Jvm.Cond.selects "ThreeboxesModel" ({ cls := "ThreeboxesModel", name := "pass", desc := "(I)I" } : Jvm.MethodName) ({ cls := "ThreeboxesModel", name := "pass", desc := "(I)I" } : Jvm.MethodName)) ∈ lw_tbl := List.mem_of_getElem? (i := 1493) (by decide +kernel)
set_option maxRecDepth 20000 in
theorem qC_Mo_pass : (Jvm.Cond.code ({ cls := "ThreeboxesModel", name := "pass", desc := "(I)I" } : Jvm.MethodName) prog_9_method_32_code (2 : Nat) (Option.some Jvm.ClassFile.FieldType.int)) ∈ lw_tbl := List.mem_of_getElem? (i := 1494) rfl
set_option maxRecDepth 20000 in
theorem qM_La_143 : (Jvm.Cond.methodLink "ThreeboxesLaw" (143 : Nat) ({ cls := "ThreeboxesModel", name := "open", desc := "(II)I" } : Jvm.MethodName)) ∈ lw_tbl := List.mem_of_getElem? (i := 1495) (by decide +kernel)
set_option maxRecDepth 20000 in
theorem qI_Mo_open : (Jvm.Cond.instanceMethod ({ cls := "ThreeboxesModel", name := "open", desc := "(II)I" } : Jvm.MethodName)) ∈ lw_tbl := List.mem_of_getElem? (i := 1496) (by decide +kernel)
set_option maxRecDepth 20000 in
theorem qV_Mo_Mo_open : (Jvm.Cond.selects "ThreeboxesModel" ({ cls := "ThreeboxesModel", name := "open", desc := "(II)I" } : Jvm.MethodName) ({ cls := "ThreeboxesModel", name := "open", desc := "(II)I" } : Jvm.MethodName)) ∈ lw_tbl := List.mem_of_getElem? (i := 1497) (by decide +kernel)
set_option maxRecDepth 20000 in
theorem qC_Mo_open : (Jvm.Cond.code ({ cls := "ThreeboxesModel", name := "open", desc := "(II)I" } : Jvm.MethodName) prog_9_method_33_code (7 : Nat) (Option.some Jvm.ClassFile.FieldType.int)) ∈ lw_tbl := List.mem_of_getElem? (i := 1498) rfl
set_option maxRecDepth 20000 in
theorem qM_Mo_172 : (Jvm.Cond.methodLink "ThreeboxesModel" (172 : Nat) ({ cls := "ThreeboxesModel", name := "isLawful", desc := "(LThreeboxesModel$Secret;I)Z" } : Jvm.MethodName)) ∈ lw_tbl := List.mem_of_getElem? (i := 1499) (by decide +kernel)
set_option maxRecDepth 20000 in
theorem qI_Mo_isLawful : (Jvm.Cond.instanceMethod ({ cls := "ThreeboxesModel", name := "isLawful", desc := "(LThreeboxesModel$Secret;I)Z" } : Jvm.MethodName)) ∈ lw_tbl := List.mem_of_getElem? (i := 1501) (by decide +kernel)
set_option maxRecDepth 20000 in
theorem qC_Mo_isLawful : (Jvm.Cond.code ({ cls := "ThreeboxesModel", name := "isLawful", desc := "(LThreeboxesModel$Secret;I)Z" } : Jvm.MethodName) prog_9_method_20_code (5 : Nat) (Option.some Jvm.ClassFile.FieldType.boolean)) ∈ lw_tbl := List.mem_of_getElem? (i := 1502) rfl
set_option maxRecDepth 20000 in
theorem qM_Mo_181 : (Jvm.Cond.methodLink "ThreeboxesModel" (181 : Nat) ({ cls := "ThreeboxesModel", name := "liars", desc := "(LThreeboxesModel$Secret;I)I" } : Jvm.MethodName)) ∈ lw_tbl := List.mem_of_getElem? (i := 1503) (by decide +kernel)
set_option maxRecDepth 20000 in
theorem qI_Mo_liars : (Jvm.Cond.instanceMethod ({ cls := "ThreeboxesModel", name := "liars", desc := "(LThreeboxesModel$Secret;I)I" } : Jvm.MethodName)) ∈ lw_tbl := List.mem_of_getElem? (i := 1505) (by decide +kernel)
set_option maxRecDepth 20000 in
theorem qC_Mo_liars : (Jvm.Cond.code ({ cls := "ThreeboxesModel", name := "liars", desc := "(LThreeboxesModel$Secret;I)I" } : Jvm.MethodName) prog_9_method_19_code (3 : Nat) (Option.some Jvm.ClassFile.FieldType.int)) ∈ lw_tbl := List.mem_of_getElem? (i := 1506) rfl
set_option maxRecDepth 20000 in
theorem qM_Mo_187 : (Jvm.Cond.methodLink "ThreeboxesModel" (187 : Nat) ({ cls := "ThreeboxesModel", name := "found", desc := "(LThreeboxesModel$Secret;I)I" } : Jvm.MethodName)) ∈ lw_tbl := List.mem_of_getElem? (i := 1507) (by decide +kernel)
set_option maxRecDepth 20000 in
theorem qI_Mo_found : (Jvm.Cond.instanceMethod ({ cls := "ThreeboxesModel", name := "found", desc := "(LThreeboxesModel$Secret;I)I" } : Jvm.MethodName)) ∈ lw_tbl := List.mem_of_getElem? (i := 1509) (by decide +kernel)
set_option maxRecDepth 20000 in
theorem qC_Mo_found : (Jvm.Cond.code ({ cls := "ThreeboxesModel", name := "found", desc := "(LThreeboxesModel$Secret;I)I" } : Jvm.MethodName) prog_9_method_18_code (3 : Nat) (Option.some Jvm.ClassFile.FieldType.int)) ∈ lw_tbl := List.mem_of_getElem? (i := 1510) rfl
set_option maxRecDepth 20000 in
theorem qM_La_147 : (Jvm.Cond.methodLink "ThreeboxesLaw" (147 : Nat) ({ cls := "ThreeboxesModel", name := "knock", desc := "()I" } : Jvm.MethodName)) ∈ lw_tbl := List.mem_of_getElem? (i := 1511) (by decide +kernel)
set_option maxRecDepth 20000 in
theorem qI_Mo_knock : (Jvm.Cond.instanceMethod ({ cls := "ThreeboxesModel", name := "knock", desc := "()I" } : Jvm.MethodName)) ∈ lw_tbl := List.mem_of_getElem? (i := 1512) (by decide +kernel)
set_option maxRecDepth 20000 in
theorem qV_Mo_Mo_knock : (Jvm.Cond.selects "ThreeboxesModel" ({ cls := "ThreeboxesModel", name := "knock", desc := "()I" } : Jvm.MethodName) ({ cls := "ThreeboxesModel", name := "knock", desc := "()I" } : Jvm.MethodName)) ∈ lw_tbl := List.mem_of_getElem? (i := 1513) (by decide +kernel)
set_option maxRecDepth 20000 in
theorem qC_Mo_knock : (Jvm.Cond.code ({ cls := "ThreeboxesModel", name := "knock", desc := "()I" } : Jvm.MethodName) prog_9_method_34_code (1 : Nat) (Option.some Jvm.ClassFile.FieldType.int)) ∈ lw_tbl := List.mem_of_getElem? (i := 1514) rfl
set_option maxRecDepth 20000 in
theorem qM_La_150 : (Jvm.Cond.methodLink "ThreeboxesLaw" (150 : Nat) ({ cls := "ThreeboxesModel", name := "ofKeeper", desc := "(II)I" } : Jvm.MethodName)) ∈ lw_tbl := List.mem_of_getElem? (i := 1515) (by decide +kernel)
set_option maxRecDepth 20000 in
theorem qI_Mo_ofKeeper : (Jvm.Cond.instanceMethod ({ cls := "ThreeboxesModel", name := "ofKeeper", desc := "(II)I" } : Jvm.MethodName)) ∈ lw_tbl := List.mem_of_getElem? (i := 1516) (by decide +kernel)
set_option maxRecDepth 20000 in
theorem qV_Mo_Mo_ofKeeper : (Jvm.Cond.selects "ThreeboxesModel" ({ cls := "ThreeboxesModel", name := "ofKeeper", desc := "(II)I" } : Jvm.MethodName) ({ cls := "ThreeboxesModel", name := "ofKeeper", desc := "(II)I" } : Jvm.MethodName)) ∈ lw_tbl := List.mem_of_getElem? (i := 1517) (by decide +kernel)
set_option maxRecDepth 20000 in
theorem qC_Mo_ofKeeper : (Jvm.Cond.code ({ cls := "ThreeboxesModel", name := "ofKeeper", desc := "(II)I" } : Jvm.MethodName) prog_9_method_36_code (3 : Nat) (Option.some Jvm.ClassFile.FieldType.int)) ∈ lw_tbl := List.mem_of_getElem? (i := 1518) rfl
set_option maxRecDepth 20000 in
theorem qM_Mo_199 : (Jvm.Cond.methodLink "ThreeboxesModel" (199 : Nat) ({ cls := "ThreeboxesModel", name := "keeperNow", desc := "(II)I" } : Jvm.MethodName)) ∈ lw_tbl := List.mem_of_getElem? (i := 1519) (by decide +kernel)
set_option maxRecDepth 20000 in
theorem qI_Mo_keeperNow : (Jvm.Cond.instanceMethod ({ cls := "ThreeboxesModel", name := "keeperNow", desc := "(II)I" } : Jvm.MethodName)) ∈ lw_tbl := List.mem_of_getElem? (i := 1521) (by decide +kernel)
set_option maxRecDepth 20000 in
theorem qC_Mo_keeperNow : (Jvm.Cond.code ({ cls := "ThreeboxesModel", name := "keeperNow", desc := "(II)I" } : Jvm.MethodName) prog_9_method_35_code (7 : Nat) (Option.some Jvm.ClassFile.FieldType.int)) ∈ lw_tbl := List.mem_of_getElem? (i := 1522) rfl
set_option maxRecDepth 20000 in
theorem qM_Mo_190 : (Jvm.Cond.methodLink "ThreeboxesModel" (190 : Nat) ({ cls := "ThreeboxesModel$Secret", name := "isStale", desc := "(I)Z" } : Jvm.MethodName)) ∈ lw_tbl := List.mem_of_getElem? (i := 1523) (by decide +kernel)
set_option maxRecDepth 20000 in
theorem qM_La_153 : (Jvm.Cond.methodLink "ThreeboxesLaw" (153 : Nat) ({ cls := "ThreeboxesModel", name := "ofSecret", desc := "(II)I" } : Jvm.MethodName)) ∈ lw_tbl := List.mem_of_getElem? (i := 1524) (by decide +kernel)
set_option maxRecDepth 20000 in
theorem qI_Mo_ofSecret : (Jvm.Cond.instanceMethod ({ cls := "ThreeboxesModel", name := "ofSecret", desc := "(II)I" } : Jvm.MethodName)) ∈ lw_tbl := List.mem_of_getElem? (i := 1525) (by decide +kernel)
set_option maxRecDepth 20000 in
theorem qV_Mo_Mo_ofSecret : (Jvm.Cond.selects "ThreeboxesModel" ({ cls := "ThreeboxesModel", name := "ofSecret", desc := "(II)I" } : Jvm.MethodName) ({ cls := "ThreeboxesModel", name := "ofSecret", desc := "(II)I" } : Jvm.MethodName)) ∈ lw_tbl := List.mem_of_getElem? (i := 1526) (by decide +kernel)
set_option maxRecDepth 20000 in
theorem qC_Mo_ofSecret : (Jvm.Cond.code ({ cls := "ThreeboxesModel", name := "ofSecret", desc := "(II)I" } : Jvm.MethodName) prog_9_method_40_code (3 : Nat) (Option.some Jvm.ClassFile.FieldType.int)) ∈ lw_tbl := List.mem_of_getElem? (i := 1527) rfl
set_option maxRecDepth 20000 in
theorem qM_Mo_210 : (Jvm.Cond.methodLink "ThreeboxesModel" (210 : Nat) ({ cls := "ThreeboxesModel", name := "secretNow", desc := "(II)I" } : Jvm.MethodName)) ∈ lw_tbl := List.mem_of_getElem? (i := 1528) (by decide +kernel)
set_option maxRecDepth 20000 in
theorem qI_Mo_secretNow : (Jvm.Cond.instanceMethod ({ cls := "ThreeboxesModel", name := "secretNow", desc := "(II)I" } : Jvm.MethodName)) ∈ lw_tbl := List.mem_of_getElem? (i := 1530) (by decide +kernel)
set_option maxRecDepth 20000 in
theorem qC_Mo_secretNow : (Jvm.Cond.code ({ cls := "ThreeboxesModel", name := "secretNow", desc := "(II)I" } : Jvm.MethodName) prog_9_method_39_code (6 : Nat) (Option.some Jvm.ClassFile.FieldType.int)) ∈ lw_tbl := List.mem_of_getElem? (i := 1531) rfl
set_option maxRecDepth 20000 in
theorem qM_Mo_203 : (Jvm.Cond.methodLink "ThreeboxesModel" (203 : Nat) ({ cls := "ThreeboxesModel", name := "bought", desc := "(LThreeboxesModel$Secret;)I" } : Jvm.MethodName)) ∈ lw_tbl := List.mem_of_getElem? (i := 1532) (by decide +kernel)
set_option maxRecDepth 20000 in
theorem qI_Mo_bought : (Jvm.Cond.instanceMethod ({ cls := "ThreeboxesModel", name := "bought", desc := "(LThreeboxesModel$Secret;)I" } : Jvm.MethodName)) ∈ lw_tbl := List.mem_of_getElem? (i := 1534) (by decide +kernel)
set_option maxRecDepth 20000 in
theorem qC_Mo_bought : (Jvm.Cond.code ({ cls := "ThreeboxesModel", name := "bought", desc := "(LThreeboxesModel$Secret;)I" } : Jvm.MethodName) prog_9_method_38_code (6 : Nat) (Option.some Jvm.ClassFile.FieldType.int)) ∈ lw_tbl := List.mem_of_getElem? (i := 1535) rfl
set_option maxRecDepth 20000 in
theorem qM_Mo_207 : (Jvm.Cond.methodLink "ThreeboxesModel" (207 : Nat) ({ cls := "ThreeboxesModel", name := "priceOf", desc := "(I)I" } : Jvm.MethodName)) ∈ lw_tbl := List.mem_of_getElem? (i := 1536) (by decide +kernel)
set_option maxRecDepth 20000 in
theorem qI_Mo_priceOf : (Jvm.Cond.instanceMethod ({ cls := "ThreeboxesModel", name := "priceOf", desc := "(I)I" } : Jvm.MethodName)) ∈ lw_tbl := List.mem_of_getElem? (i := 1538) (by decide +kernel)
set_option maxRecDepth 20000 in
theorem qC_Mo_priceOf : (Jvm.Cond.code ({ cls := "ThreeboxesModel", name := "priceOf", desc := "(I)I" } : Jvm.MethodName) prog_9_method_37_code (4 : Nat) (Option.some Jvm.ClassFile.FieldType.int)) ∈ lw_tbl := List.mem_of_getElem? (i := 1539) rfl
set_option maxRecDepth 20000 in
theorem qM_La_156 : (Jvm.Cond.methodLink "ThreeboxesLaw" (156 : Nat) ({ cls := "ThreeboxesModel", name := "share", desc := "(III)I" } : Jvm.MethodName)) ∈ lw_tbl := List.mem_of_getElem? (i := 1540) (by decide +kernel)
set_option maxRecDepth 20000 in
theorem qI_Mo_share : (Jvm.Cond.instanceMethod ({ cls := "ThreeboxesModel", name := "share", desc := "(III)I" } : Jvm.MethodName)) ∈ lw_tbl := List.mem_of_getElem? (i := 1541) (by decide +kernel)
set_option maxRecDepth 20000 in
theorem qV_Mo_Mo_share : (Jvm.Cond.selects "ThreeboxesModel" ({ cls := "ThreeboxesModel", name := "share", desc := "(III)I" } : Jvm.MethodName) ({ cls := "ThreeboxesModel", name := "share", desc := "(III)I" } : Jvm.MethodName)) ∈ lw_tbl := List.mem_of_getElem? (i := 1542) (by decide +kernel)
set_option maxRecDepth 20000 in
theorem qC_Mo_share : (Jvm.Cond.code ({ cls := "ThreeboxesModel", name := "share", desc := "(III)I" } : Jvm.MethodName) prog_9_method_42_code (4 : Nat) (Option.some Jvm.ClassFile.FieldType.int)) ∈ lw_tbl := List.mem_of_getElem? (i := 1543) rfl
set_option maxRecDepth 20000 in
theorem qM_Mo_213 : (Jvm.Cond.methodLink "ThreeboxesModel" (213 : Nat) ({ cls := "ThreeboxesModel", name := "shareNow", desc := "(III)I" } : Jvm.MethodName)) ∈ lw_tbl := List.mem_of_getElem? (i := 1544) (by decide +kernel)
set_option maxRecDepth 20000 in
theorem qI_Mo_shareNow : (Jvm.Cond.instanceMethod ({ cls := "ThreeboxesModel", name := "shareNow", desc := "(III)I" } : Jvm.MethodName)) ∈ lw_tbl := List.mem_of_getElem? (i := 1546) (by decide +kernel)
set_option maxRecDepth 20000 in
theorem qC_Mo_shareNow : (Jvm.Cond.code ({ cls := "ThreeboxesModel", name := "shareNow", desc := "(III)I" } : Jvm.MethodName) prog_9_method_41_code (5 : Nat) (Option.some Jvm.ClassFile.FieldType.int)) ∈ lw_tbl := List.mem_of_getElem? (i := 1547) rfl
set_option maxRecDepth 20000 in
theorem qM_La_159 : (Jvm.Cond.methodLink "ThreeboxesLaw" (159 : Nat) ({ cls := "ThreeboxesModel", name := "bank", desc := "(I)I" } : Jvm.MethodName)) ∈ lw_tbl := List.mem_of_getElem? (i := 1548) (by decide +kernel)
set_option maxRecDepth 20000 in
theorem qI_Mo_bank : (Jvm.Cond.instanceMethod ({ cls := "ThreeboxesModel", name := "bank", desc := "(I)I" } : Jvm.MethodName)) ∈ lw_tbl := List.mem_of_getElem? (i := 1549) (by decide +kernel)
set_option maxRecDepth 20000 in
theorem qV_Mo_Mo_bank : (Jvm.Cond.selects "ThreeboxesModel" ({ cls := "ThreeboxesModel", name := "bank", desc := "(I)I" } : Jvm.MethodName) ({ cls := "ThreeboxesModel", name := "bank", desc := "(I)I" } : Jvm.MethodName)) ∈ lw_tbl := List.mem_of_getElem? (i := 1550) (by decide +kernel)
set_option maxRecDepth 20000 in
theorem qC_Mo_bank : (Jvm.Cond.code ({ cls := "ThreeboxesModel", name := "bank", desc := "(I)I" } : Jvm.MethodName) prog_9_method_46_code (2 : Nat) (Option.some Jvm.ClassFile.FieldType.int)) ∈ lw_tbl := List.mem_of_getElem? (i := 1551) rfl
set_option maxRecDepth 20000 in
theorem qM_Mo_225 : (Jvm.Cond.methodLink "ThreeboxesModel" (225 : Nat) ({ cls := "ThreeboxesModel", name := "bankNow", desc := "(I)I" } : Jvm.MethodName)) ∈ lw_tbl := List.mem_of_getElem? (i := 1552) (by decide +kernel)
set_option maxRecDepth 20000 in
theorem qI_Mo_bankNow : (Jvm.Cond.instanceMethod ({ cls := "ThreeboxesModel", name := "bankNow", desc := "(I)I" } : Jvm.MethodName)) ∈ lw_tbl := List.mem_of_getElem? (i := 1554) (by decide +kernel)
set_option maxRecDepth 20000 in
theorem qC_Mo_bankNow : (Jvm.Cond.code ({ cls := "ThreeboxesModel", name := "bankNow", desc := "(I)I" } : Jvm.MethodName) prog_9_method_45_code (6 : Nat) (Option.some Jvm.ClassFile.FieldType.int)) ∈ lw_tbl := List.mem_of_getElem? (i := 1555) rfl
set_option maxRecDepth 20000 in
theorem qM_Mo_222 : (Jvm.Cond.methodLink "ThreeboxesModel" (222 : Nat) ({ cls := "ThreeboxesModel", name := "root", desc := "()I" } : Jvm.MethodName)) ∈ lw_tbl := List.mem_of_getElem? (i := 1556) (by decide +kernel)
set_option maxRecDepth 20000 in
theorem qI_Mo_root : (Jvm.Cond.instanceMethod ({ cls := "ThreeboxesModel", name := "root", desc := "()I" } : Jvm.MethodName)) ∈ lw_tbl := List.mem_of_getElem? (i := 1558) (by decide +kernel)
set_option maxRecDepth 20000 in
theorem qC_Mo_root : (Jvm.Cond.code ({ cls := "ThreeboxesModel", name := "root", desc := "()I" } : Jvm.MethodName) prog_9_method_44_code (1 : Nat) (Option.some Jvm.ClassFile.FieldType.int)) ∈ lw_tbl := List.mem_of_getElem? (i := 1559) rfl
set_option maxRecDepth 20000 in
theorem qM_Mo_218 : (Jvm.Cond.methodLink "ThreeboxesModel" (218 : Nat) ({ cls := "ThreeboxesModel", name := "node", desc := "(IIII)I" } : Jvm.MethodName)) ∈ lw_tbl := List.mem_of_getElem? (i := 1560) (by decide +kernel)
set_option maxRecDepth 20000 in
theorem qI_Mo_node : (Jvm.Cond.instanceMethod ({ cls := "ThreeboxesModel", name := "node", desc := "(IIII)I" } : Jvm.MethodName)) ∈ lw_tbl := List.mem_of_getElem? (i := 1562) (by decide +kernel)
set_option maxRecDepth 20000 in
theorem qC_Mo_node : (Jvm.Cond.code ({ cls := "ThreeboxesModel", name := "node", desc := "(IIII)I" } : Jvm.MethodName) prog_9_method_43_code (5 : Nat) (Option.some Jvm.ClassFile.FieldType.int)) ∈ lw_tbl := List.mem_of_getElem? (i := 1563) rfl
set_option maxRecDepth 20000 in
theorem qK_Mo_217 : (Jvm.Cond.classLink "ThreeboxesModel" (217 : Nat) "[I") ∈ lw_tbl := List.mem_of_getElem? (i := 1564) (by decide +kernel)
set_option maxRecDepth 20000 in
theorem qM_La_162 : (Jvm.Cond.methodLink "ThreeboxesLaw" (162 : Nat) ({ cls := "ThreeboxesModel", name := "ofEntry", desc := "(II)I" } : Jvm.MethodName)) ∈ lw_tbl := List.mem_of_getElem? (i := 1565) (by decide +kernel)
set_option maxRecDepth 20000 in
theorem qI_Mo_ofEntry : (Jvm.Cond.instanceMethod ({ cls := "ThreeboxesModel", name := "ofEntry", desc := "(II)I" } : Jvm.MethodName)) ∈ lw_tbl := List.mem_of_getElem? (i := 1566) (by decide +kernel)
set_option maxRecDepth 20000 in
theorem qV_Mo_Mo_ofEntry : (Jvm.Cond.selects "ThreeboxesModel" ({ cls := "ThreeboxesModel", name := "ofEntry", desc := "(II)I" } : Jvm.MethodName) ({ cls := "ThreeboxesModel", name := "ofEntry", desc := "(II)I" } : Jvm.MethodName)) ∈ lw_tbl := List.mem_of_getElem? (i := 1567) (by decide +kernel)
set_option maxRecDepth 20000 in
theorem qC_Mo_ofEntry : (Jvm.Cond.code ({ cls := "ThreeboxesModel", name := "ofEntry", desc := "(II)I" } : Jvm.MethodName) prog_9_method_48_code (3 : Nat) (Option.some Jvm.ClassFile.FieldType.int)) ∈ lw_tbl := List.mem_of_getElem? (i := 1568) rfl
set_option maxRecDepth 20000 in
theorem qM_Mo_228 : (Jvm.Cond.methodLink "ThreeboxesModel" (228 : Nat) ({ cls := "ThreeboxesModel", name := "isEntry", desc := "(I)Z" } : Jvm.MethodName)) ∈ lw_tbl := List.mem_of_getElem? (i := 1569) (by decide +kernel)
set_option maxRecDepth 20000 in
theorem qI_Mo_isEntry : (Jvm.Cond.instanceMethod ({ cls := "ThreeboxesModel", name := "isEntry", desc := "(I)Z" } : Jvm.MethodName)) ∈ lw_tbl := List.mem_of_getElem? (i := 1571) (by decide +kernel)
set_option maxRecDepth 20000 in
theorem qC_Mo_isEntry : (Jvm.Cond.code ({ cls := "ThreeboxesModel", name := "isEntry", desc := "(I)Z" } : Jvm.MethodName) prog_9_method_47_code (2 : Nat) (Option.some Jvm.ClassFile.FieldType.boolean)) ∈ lw_tbl := List.mem_of_getElem? (i := 1572) rfl
set_option maxRecDepth 20000 in
theorem qM_La_165 : (Jvm.Cond.methodLink "ThreeboxesLaw" (165 : Nat) ({ cls := "ThreeboxesModel", name := "proof", desc := "(II)I" } : Jvm.MethodName)) ∈ lw_tbl := List.mem_of_getElem? (i := 1573) (by decide +kernel)
set_option maxRecDepth 20000 in
theorem qI_Mo_proof : (Jvm.Cond.instanceMethod ({ cls := "ThreeboxesModel", name := "proof", desc := "(II)I" } : Jvm.MethodName)) ∈ lw_tbl := List.mem_of_getElem? (i := 1574) (by decide +kernel)
set_option maxRecDepth 20000 in
theorem qV_Mo_Mo_proof : (Jvm.Cond.selects "ThreeboxesModel" ({ cls := "ThreeboxesModel", name := "proof", desc := "(II)I" } : Jvm.MethodName) ({ cls := "ThreeboxesModel", name := "proof", desc := "(II)I" } : Jvm.MethodName)) ∈ lw_tbl := List.mem_of_getElem? (i := 1575) (by decide +kernel)
set_option maxRecDepth 20000 in
theorem qC_Mo_proof : (Jvm.Cond.code ({ cls := "ThreeboxesModel", name := "proof", desc := "(II)I" } : Jvm.MethodName) prog_9_method_50_code (3 : Nat) (Option.some Jvm.ClassFile.FieldType.int)) ∈ lw_tbl := List.mem_of_getElem? (i := 1576) rfl
set_option maxRecDepth 20000 in
theorem qM_Mo_231 : (Jvm.Cond.methodLink "ThreeboxesModel" (231 : Nat) ({ cls := "ThreeboxesModel", name := "proofNow", desc := "(II)I" } : Jvm.MethodName)) ∈ lw_tbl := List.mem_of_getElem? (i := 1577) (by decide +kernel)
set_option maxRecDepth 20000 in
theorem qI_Mo_proofNow : (Jvm.Cond.instanceMethod ({ cls := "ThreeboxesModel", name := "proofNow", desc := "(II)I" } : Jvm.MethodName)) ∈ lw_tbl := List.mem_of_getElem? (i := 1579) (by decide +kernel)
set_option maxRecDepth 20000 in
theorem qC_Mo_proofNow : (Jvm.Cond.code ({ cls := "ThreeboxesModel", name := "proofNow", desc := "(II)I" } : Jvm.MethodName) prog_9_method_49_code (5 : Nat) (Option.some Jvm.ClassFile.FieldType.int)) ∈ lw_tbl := List.mem_of_getElem? (i := 1580) rfl
set_option maxRecDepth 20000 in
theorem qM_La_168 : (Jvm.Cond.methodLink "ThreeboxesLaw" (168 : Nat) ({ cls := "ThreeboxesModel", name := "row", desc := "(I)Ljava/lang/String;" } : Jvm.MethodName)) ∈ lw_tbl := List.mem_of_getElem? (i := 1581) (by decide +kernel)
set_option maxRecDepth 20000 in
theorem qI_Mo_row : (Jvm.Cond.instanceMethod ({ cls := "ThreeboxesModel", name := "row", desc := "(I)Ljava/lang/String;" } : Jvm.MethodName)) ∈ lw_tbl := List.mem_of_getElem? (i := 1582) (by decide +kernel)
set_option maxRecDepth 20000 in
theorem qV_Mo_Mo_row : (Jvm.Cond.selects "ThreeboxesModel" ({ cls := "ThreeboxesModel", name := "row", desc := "(I)Ljava/lang/String;" } : Jvm.MethodName) ({ cls := "ThreeboxesModel", name := "row", desc := "(I)Ljava/lang/String;" } : Jvm.MethodName)) ∈ lw_tbl := List.mem_of_getElem? (i := 1583) (by decide +kernel)
set_option maxRecDepth 20000 in
theorem qC_Mo_row : (Jvm.Cond.code ({ cls := "ThreeboxesModel", name := "row", desc := "(I)Ljava/lang/String;" } : Jvm.MethodName) prog_9_method_51_code (5 : Nat) (Option.some (Jvm.ClassFile.FieldType.object "java/lang/String"))) ∈ lw_tbl := List.mem_of_getElem? (i := 1584) rfl
set_option maxRecDepth 20000 in
theorem qR_Mo_234 : (Jvm.Cond.stringRef "ThreeboxesModel" (234 : Nat) "") ∈ lw_tbl := List.mem_of_getElem? (i := 1585) (by decide +kernel)
set_option maxRecDepth 20000 in
theorem qK_Mo_236 : (Jvm.Cond.classLink "ThreeboxesModel" (236 : Nat) "java/lang/StringBuilder") ∈ lw_tbl := List.mem_of_getElem? (i := 1586) (by decide +kernel)
set_option maxRecDepth 20000 in
theorem qM_Mo_238 : (Jvm.Cond.methodLink "ThreeboxesModel" (238 : Nat) ({ cls := "java/lang/StringBuilder", name := "<init>", desc := "()V" } : Jvm.MethodName)) ∈ lw_tbl := List.mem_of_getElem? (i := 1587) (by decide +kernel)
set_option maxRecDepth 20000 in
theorem qM_Mo_239 : (Jvm.Cond.methodLink "ThreeboxesModel" (239 : Nat) ({ cls := "java/lang/StringBuilder", name := "append", desc := "(C)Ljava/lang/StringBuilder;" } : Jvm.MethodName)) ∈ lw_tbl := List.mem_of_getElem? (i := 1588) (by decide +kernel)
set_option maxRecDepth 20000 in
theorem qM_Mo_243 : (Jvm.Cond.methodLink "ThreeboxesModel" (243 : Nat) ({ cls := "java/lang/StringBuilder", name := "toString", desc := "()Ljava/lang/String;" } : Jvm.MethodName)) ∈ lw_tbl := List.mem_of_getElem? (i := 1589) (by decide +kernel)
set_option maxRecDepth 20000 in
theorem qM_La_171 : (Jvm.Cond.methodLink "ThreeboxesLaw" (171 : Nat) ({ cls := "ThreeboxesModel", name := "would", desc := "(III)I" } : Jvm.MethodName)) ∈ lw_tbl := List.mem_of_getElem? (i := 1590) (by decide +kernel)
set_option maxRecDepth 20000 in
theorem qI_Mo_would : (Jvm.Cond.instanceMethod ({ cls := "ThreeboxesModel", name := "would", desc := "(III)I" } : Jvm.MethodName)) ∈ lw_tbl := List.mem_of_getElem? (i := 1591) (by decide +kernel)
set_option maxRecDepth 20000 in
theorem qV_Mo_Mo_would : (Jvm.Cond.selects "ThreeboxesModel" ({ cls := "ThreeboxesModel", name := "would", desc := "(III)I" } : Jvm.MethodName) ({ cls := "ThreeboxesModel", name := "would", desc := "(III)I" } : Jvm.MethodName)) ∈ lw_tbl := List.mem_of_getElem? (i := 1592) (by decide +kernel)
set_option maxRecDepth 20000 in
theorem qC_Mo_would : (Jvm.Cond.code ({ cls := "ThreeboxesModel", name := "would", desc := "(III)I" } : Jvm.MethodName) prog_9_method_53_code (4 : Nat) (Option.some Jvm.ClassFile.FieldType.int)) ∈ lw_tbl := List.mem_of_getElem? (i := 1593) rfl
set_option maxRecDepth 20000 in
theorem qM_Mo_247 : (Jvm.Cond.methodLink "ThreeboxesModel" (247 : Nat) ({ cls := "ThreeboxesModel", name := "wouldNow", desc := "(III)I" } : Jvm.MethodName)) ∈ lw_tbl := List.mem_of_getElem? (i := 1594) (by decide +kernel)
set_option maxRecDepth 20000 in
theorem qI_Mo_wouldNow : (Jvm.Cond.instanceMethod ({ cls := "ThreeboxesModel", name := "wouldNow", desc := "(III)I" } : Jvm.MethodName)) ∈ lw_tbl := List.mem_of_getElem? (i := 1596) (by decide +kernel)
set_option maxRecDepth 20000 in
theorem qC_Mo_wouldNow : (Jvm.Cond.code ({ cls := "ThreeboxesModel", name := "wouldNow", desc := "(III)I" } : Jvm.MethodName) prog_9_method_52_code (9 : Nat) (Option.some Jvm.ClassFile.FieldType.int)) ∈ lw_tbl := List.mem_of_getElem? (i := 1597) rfl
set_option maxRecDepth 20000 in
theorem qM_La_174 : (Jvm.Cond.methodLink "ThreeboxesLaw" (174 : Nat) ({ cls := "ThreeboxesModel", name := "may", desc := "(III)Z" } : Jvm.MethodName)) ∈ lw_tbl := List.mem_of_getElem? (i := 1598) (by decide +kernel)
set_option maxRecDepth 20000 in
theorem qI_Mo_may : (Jvm.Cond.instanceMethod ({ cls := "ThreeboxesModel", name := "may", desc := "(III)Z" } : Jvm.MethodName)) ∈ lw_tbl := List.mem_of_getElem? (i := 1599) (by decide +kernel)
set_option maxRecDepth 20000 in
theorem qV_Mo_Mo_may : (Jvm.Cond.selects "ThreeboxesModel" ({ cls := "ThreeboxesModel", name := "may", desc := "(III)Z" } : Jvm.MethodName) ({ cls := "ThreeboxesModel", name := "may", desc := "(III)Z" } : Jvm.MethodName)) ∈ lw_tbl := List.mem_of_getElem? (i := 1600) (by decide +kernel)
set_option maxRecDepth 20000 in
theorem qC_Mo_may : (Jvm.Cond.code ({ cls := "ThreeboxesModel", name := "may", desc := "(III)Z" } : Jvm.MethodName) prog_9_method_54_code (10 : Nat) (Option.some Jvm.ClassFile.FieldType.boolean)) ∈ lw_tbl := List.mem_of_getElem? (i := 1601) rfl
set_option maxRecDepth 20000 in
theorem qM_La_177 : (Jvm.Cond.methodLink "ThreeboxesLaw" (177 : Nat) ({ cls := "ThreeboxesModel", name := "lost", desc := "(I)D" } : Jvm.MethodName)) ∈ lw_tbl := List.mem_of_getElem? (i := 1602) (by decide +kernel)
set_option maxRecDepth 20000 in
theorem qI_Mo_lost : (Jvm.Cond.instanceMethod ({ cls := "ThreeboxesModel", name := "lost", desc := "(I)D" } : Jvm.MethodName)) ∈ lw_tbl := List.mem_of_getElem? (i := 1603) (by decide +kernel)
set_option maxRecDepth 20000 in
theorem qV_Mo_Mo_lost : (Jvm.Cond.selects "ThreeboxesModel" ({ cls := "ThreeboxesModel", name := "lost", desc := "(I)D" } : Jvm.MethodName) ({ cls := "ThreeboxesModel", name := "lost", desc := "(I)D" } : Jvm.MethodName)) ∈ lw_tbl := List.mem_of_getElem? (i := 1604) (by decide +kernel)
set_option maxRecDepth 20000 in
theorem qC_Mo_lost : (Jvm.Cond.code ({ cls := "ThreeboxesModel", name := "lost", desc := "(I)D" } : Jvm.MethodName) prog_9_method_56_code (2 : Nat) (Option.some Jvm.ClassFile.FieldType.double)) ∈ lw_tbl := List.mem_of_getElem? (i := 1605) rfl
set_option maxRecDepth 20000 in
theorem qM_Mo_252 : (Jvm.Cond.methodLink "ThreeboxesModel" (252 : Nat) ({ cls := "ThreeboxesModel", name := "lostNow", desc := "(I)D" } : Jvm.MethodName)) ∈ lw_tbl := List.mem_of_getElem? (i := 1606) (by decide +kernel)
set_option maxRecDepth 20000 in
theorem qI_Mo_lostNow : (Jvm.Cond.instanceMethod ({ cls := "ThreeboxesModel", name := "lostNow", desc := "(I)D" } : Jvm.MethodName)) ∈ lw_tbl := List.mem_of_getElem? (i := 1608) (by decide +kernel)
set_option maxRecDepth 20000 in
theorem qC_Mo_lostNow : (Jvm.Cond.code ({ cls := "ThreeboxesModel", name := "lostNow", desc := "(I)D" } : Jvm.MethodName) prog_9_method_55_code (7 : Nat) (Option.some Jvm.ClassFile.FieldType.double)) ∈ lw_tbl := List.mem_of_getElem? (i := 1609) rfl
set_option maxRecDepth 20000 in
theorem qXd_Mo_250 : (Jvm.Cond.constantDouble "ThreeboxesModel" (250 : Nat) (4636737291354636288 : UInt64)) ∈ lw_tbl := List.mem_of_getElem? (i := 1610) (by decide +kernel)
set_option maxRecDepth 20000 in
theorem qM_La_180 : (Jvm.Cond.methodLink "ThreeboxesLaw" (180 : Nat) ({ cls := "ThreeboxesModel", name := "fewest", desc := "(I)I" } : Jvm.MethodName)) ∈ lw_tbl := List.mem_of_getElem? (i := 1611) (by decide +kernel)
set_option maxRecDepth 20000 in
theorem qI_Mo_fewest : (Jvm.Cond.instanceMethod ({ cls := "ThreeboxesModel", name := "fewest", desc := "(I)I" } : Jvm.MethodName)) ∈ lw_tbl := List.mem_of_getElem? (i := 1612) (by decide +kernel)
set_option maxRecDepth 20000 in
theorem qV_Mo_Mo_fewest : (Jvm.Cond.selects "ThreeboxesModel" ({ cls := "ThreeboxesModel", name := "fewest", desc := "(I)I" } : Jvm.MethodName) ({ cls := "ThreeboxesModel", name := "fewest", desc := "(I)I" } : Jvm.MethodName)) ∈ lw_tbl := List.mem_of_getElem? (i := 1613) (by decide +kernel)
set_option maxRecDepth 20000 in
theorem qC_Mo_fewest : (Jvm.Cond.code ({ cls := "ThreeboxesModel", name := "fewest", desc := "(I)I" } : Jvm.MethodName) prog_9_method_58_code (2 : Nat) (Option.some Jvm.ClassFile.FieldType.int)) ∈ lw_tbl := List.mem_of_getElem? (i := 1614) rfl
set_option maxRecDepth 20000 in
theorem qM_Mo_256 : (Jvm.Cond.methodLink "ThreeboxesModel" (256 : Nat) ({ cls := "ThreeboxesModel", name := "fewestNow", desc := "(I)I" } : Jvm.MethodName)) ∈ lw_tbl := List.mem_of_getElem? (i := 1615) (by decide +kernel)
set_option maxRecDepth 20000 in
theorem qI_Mo_fewestNow : (Jvm.Cond.instanceMethod ({ cls := "ThreeboxesModel", name := "fewestNow", desc := "(I)I" } : Jvm.MethodName)) ∈ lw_tbl := List.mem_of_getElem? (i := 1617) (by decide +kernel)
set_option maxRecDepth 20000 in
theorem qC_Mo_fewestNow : (Jvm.Cond.code ({ cls := "ThreeboxesModel", name := "fewestNow", desc := "(I)I" } : Jvm.MethodName) prog_9_method_57_code (7 : Nat) (Option.some Jvm.ClassFile.FieldType.int)) ∈ lw_tbl := List.mem_of_getElem? (i := 1618) rfl
set_option maxRecDepth 20000 in
theorem qM_La_183 : (Jvm.Cond.methodLink "ThreeboxesLaw" (183 : Nat) ({ cls := "ThreeboxesModel", name := "proves", desc := "(II)Z" } : Jvm.MethodName)) ∈ lw_tbl := List.mem_of_getElem? (i := 1619) (by decide +kernel)
set_option maxRecDepth 20000 in
theorem qI_Mo_proves : (Jvm.Cond.instanceMethod ({ cls := "ThreeboxesModel", name := "proves", desc := "(II)Z" } : Jvm.MethodName)) ∈ lw_tbl := List.mem_of_getElem? (i := 1620) (by decide +kernel)
set_option maxRecDepth 20000 in
theorem qV_Mo_Mo_proves : (Jvm.Cond.selects "ThreeboxesModel" ({ cls := "ThreeboxesModel", name := "proves", desc := "(II)Z" } : Jvm.MethodName) ({ cls := "ThreeboxesModel", name := "proves", desc := "(II)Z" } : Jvm.MethodName)) ∈ lw_tbl := List.mem_of_getElem? (i := 1621) (by decide +kernel)
set_option maxRecDepth 20000 in
theorem qC_Mo_proves : (Jvm.Cond.code ({ cls := "ThreeboxesModel", name := "proves", desc := "(II)Z" } : Jvm.MethodName) prog_9_method_59_code (3 : Nat) (Option.some Jvm.ClassFile.FieldType.boolean)) ∈ lw_tbl := List.mem_of_getElem? (i := 1622) rfl
set_option maxRecDepth 20000 in
theorem qM_La_188 : (Jvm.Cond.methodLink "ThreeboxesLaw" (188 : Nat) ({ cls := "ThreeboxesModel", name := "isSound", desc := "()Z" } : Jvm.MethodName)) ∈ lw_tbl := List.mem_of_getElem? (i := 1623) (by decide +kernel)
set_option maxRecDepth 20000 in
theorem qI_Mo_isSound : (Jvm.Cond.instanceMethod ({ cls := "ThreeboxesModel", name := "isSound", desc := "()Z" } : Jvm.MethodName)) ∈ lw_tbl := List.mem_of_getElem? (i := 1624) (by decide +kernel)
set_option maxRecDepth 20000 in
theorem qV_Mo_Mo_isSound : (Jvm.Cond.selects "ThreeboxesModel" ({ cls := "ThreeboxesModel", name := "isSound", desc := "()Z" } : Jvm.MethodName) ({ cls := "ThreeboxesModel", name := "isSound", desc := "()Z" } : Jvm.MethodName)) ∈ lw_tbl := List.mem_of_getElem? (i := 1625) (by decide +kernel)
set_option maxRecDepth 20000 in
theorem qC_Mo_isSound : (Jvm.Cond.code ({ cls := "ThreeboxesModel", name := "isSound", desc := "()Z" } : Jvm.MethodName) prog_9_method_62_code (1 : Nat) (Option.some Jvm.ClassFile.FieldType.boolean)) ∈ lw_tbl := List.mem_of_getElem? (i := 1626) rfl
set_option maxRecDepth 20000 in
theorem qM_Mo_263 : (Jvm.Cond.methodLink "ThreeboxesModel" (263 : Nat) ({ cls := "ThreeboxesModel", name := "isSoundNow", desc := "()Z" } : Jvm.MethodName)) ∈ lw_tbl := List.mem_of_getElem? (i := 1627) (by decide +kernel)
set_option maxRecDepth 20000 in
theorem qI_Mo_isSoundNow : (Jvm.Cond.instanceMethod ({ cls := "ThreeboxesModel", name := "isSoundNow", desc := "()Z" } : Jvm.MethodName)) ∈ lw_tbl := List.mem_of_getElem? (i := 1629) (by decide +kernel)
set_option maxRecDepth 20000 in
theorem qC_Mo_isSoundNow : (Jvm.Cond.code ({ cls := "ThreeboxesModel", name := "isSoundNow", desc := "()Z" } : Jvm.MethodName) prog_9_method_61_code (4 : Nat) (Option.some Jvm.ClassFile.FieldType.boolean)) ∈ lw_tbl := List.mem_of_getElem? (i := 1630) rfl
set_option maxRecDepth 20000 in
theorem qM_Mo_259 : (Jvm.Cond.methodLink "ThreeboxesModel" (259 : Nat) ({ cls := "ThreeboxesModel", name := "isOneCurve", desc := "(LThreeboxesModel$Secret;)Z" } : Jvm.MethodName)) ∈ lw_tbl := List.mem_of_getElem? (i := 1631) (by decide +kernel)
set_option maxRecDepth 20000 in
theorem qI_Mo_isOneCurve : (Jvm.Cond.instanceMethod ({ cls := "ThreeboxesModel", name := "isOneCurve", desc := "(LThreeboxesModel$Secret;)Z" } : Jvm.MethodName)) ∈ lw_tbl := List.mem_of_getElem? (i := 1633) (by decide +kernel)
set_option maxRecDepth 20000 in
theorem qC_Mo_isOneCurve : (Jvm.Cond.code ({ cls := "ThreeboxesModel", name := "isOneCurve", desc := "(LThreeboxesModel$Secret;)Z" } : Jvm.MethodName) prog_9_method_60_code (6 : Nat) (Option.some Jvm.ClassFile.FieldType.boolean)) ∈ lw_tbl := List.mem_of_getElem? (i := 1634) rfl
set_option maxRecDepth 20000 in
theorem qM_La_193 : (Jvm.Cond.methodLink "ThreeboxesLaw" (193 : Nat) ({ cls := "ThreeboxesModel", name := "digest", desc := "()J" } : Jvm.MethodName)) ∈ lw_tbl := List.mem_of_getElem? (i := 1635) (by decide +kernel)
set_option maxRecDepth 20000 in
theorem qI_Mo_digest : (Jvm.Cond.instanceMethod ({ cls := "ThreeboxesModel", name := "digest", desc := "()J" } : Jvm.MethodName)) ∈ lw_tbl := List.mem_of_getElem? (i := 1636) (by decide +kernel)
set_option maxRecDepth 20000 in
theorem qV_Mo_Mo_digest : (Jvm.Cond.selects "ThreeboxesModel" ({ cls := "ThreeboxesModel", name := "digest", desc := "()J" } : Jvm.MethodName) ({ cls := "ThreeboxesModel", name := "digest", desc := "()J" } : Jvm.MethodName)) ∈ lw_tbl := List.mem_of_getElem? (i := 1637) (by decide +kernel)
set_option maxRecDepth 20000 in
theorem qC_Mo_digest : (Jvm.Cond.code ({ cls := "ThreeboxesModel", name := "digest", desc := "()J" } : Jvm.MethodName) prog_9_method_63_code (6 : Nat) (Option.some Jvm.ClassFile.FieldType.long)) ∈ lw_tbl := List.mem_of_getElem? (i := 1638) rfl
set_option maxRecDepth 20000 in
theorem qXl_Mo_267 : (Jvm.Cond.constantLong "ThreeboxesModel" (267 : Nat) (7507 : Int64)) ∈ lw_tbl := List.mem_of_getElem? (i := 1639) (by decide +kernel)
set_option maxRecDepth 20000 in
theorem qXl_Mo_269 : (Jvm.Cond.constantLong "ThreeboxesModel" (269 : Nat) (31 : Int64)) ∈ lw_tbl := List.mem_of_getElem? (i := 1640) (by decide +kernel)
set_option maxRecDepth 20000 in
theorem qXd_Mo_271 : (Jvm.Cond.constantDouble "ThreeboxesModel" (271 : Nat) (4661225614328463360 : UInt64)) ∈ lw_tbl := List.mem_of_getElem? (i := 1641) (by decide +kernel)
set_option maxRecDepth 20000 in
theorem qSm_Th_javalangThrowable_fillInStackTrace_ILjavalangThrowable : (Jvm.Cond.sameMethod "java/lang/Throwable" "java/lang/Throwable" "fillInStackTrace" "(I)Ljava/lang/Throwable;") ∈ lw_tbl := List.mem_of_getElem? (i := 1642) (by decide +kernel)
set_option maxRecDepth 20000 in
theorem qSm_AB_javalangAbstractStringBuilder_append_CLjavalangAbstractStringBuilder : (Jvm.Cond.sameMethod "java/lang/AbstractStringBuilder" "java/lang/AbstractStringBuilder" "append" "(C)Ljava/lang/AbstractStringBuilder;") ∈ lw_tbl := List.mem_of_getElem? (i := 1643) (by decide +kernel)
set_option maxRecDepth 20000 in
theorem qSm_AB_javalangAbstractStringBuilder_ensureCapacityInternal_IV : (Jvm.Cond.sameMethod "java/lang/AbstractStringBuilder" "java/lang/AbstractStringBuilder" "ensureCapacityInternal" "(I)V") ∈ lw_tbl := List.mem_of_getElem? (i := 1644) (by decide +kernel)
set_option maxRecDepth 20000 in
theorem qSm_AB_javalangAbstractStringBuilder_newCapacity_II : (Jvm.Cond.sameMethod "java/lang/AbstractStringBuilder" "java/lang/AbstractStringBuilder" "newCapacity" "(I)I") ∈ lw_tbl := List.mem_of_getElem? (i := 1645) (by decide +kernel)
set_option maxRecDepth 20000 in
theorem qSm_AB_javalangAbstractStringBuilder_inflate_V : (Jvm.Cond.sameMethod "java/lang/AbstractStringBuilder" "java/lang/AbstractStringBuilder" "inflate" "()V") ∈ lw_tbl := List.mem_of_getElem? (i := 1646) (by decide +kernel)
set_option maxRecDepth 20000 in
theorem qSm_AB_javalangAbstractStringBuilder_append_ILjavalangAbstractStringBuilder : (Jvm.Cond.sameMethod "java/lang/AbstractStringBuilder" "java/lang/AbstractStringBuilder" "append" "(I)Ljava/lang/AbstractStringBuilder;") ∈ lw_tbl := List.mem_of_getElem? (i := 1647) (by decide +kernel)
set_option maxRecDepth 20000 in
theorem qSm_AB_javalangAbstractStringBuilder_append_LjavalangStringLjavalangAbstractStringBuilder : (Jvm.Cond.sameMethod "java/lang/AbstractStringBuilder" "java/lang/AbstractStringBuilder" "append" "(Ljava/lang/String;)Ljava/lang/AbstractStringBuilder;") ∈ lw_tbl := List.mem_of_getElem? (i := 1648) (by decide +kernel)
set_option maxRecDepth 20000 in
theorem qSm_AB_javalangAbstractStringBuilder_appendNull_LjavalangAbstractStringBuilder : (Jvm.Cond.sameMethod "java/lang/AbstractStringBuilder" "java/lang/AbstractStringBuilder" "appendNull" "()Ljava/lang/AbstractStringBuilder;") ∈ lw_tbl := List.mem_of_getElem? (i := 1649) (by decide +kernel)
set_option maxRecDepth 20000 in
theorem qSm_AB_javalangAbstractStringBuilder_putStringAt_ILjavalangStringV : (Jvm.Cond.sameMethod "java/lang/AbstractStringBuilder" "java/lang/AbstractStringBuilder" "putStringAt" "(ILjava/lang/String;)V") ∈ lw_tbl := List.mem_of_getElem? (i := 1650) (by decide +kernel)
set_option maxRecDepth 20000 in
theorem qSm_AB_javalangAbstractStringBuilder_inflateIfNeededFor_LjavalangStringV : (Jvm.Cond.sameMethod "java/lang/AbstractStringBuilder" "java/lang/AbstractStringBuilder" "inflateIfNeededFor" "(Ljava/lang/String;)V") ∈ lw_tbl := List.mem_of_getElem? (i := 1651) (by decide +kernel)
set_option maxRecDepth 20000 in
theorem qT_Tb_Oj : (Jvm.Cond.castable "Threeboxes" "java/lang/Object") ∈ lw_tbl := List.mem_of_getElem? (i := 1652) (by decide +kernel)
set_option maxRecDepth 20000 in
theorem qT_AL_Oj : (Jvm.Cond.castable "java/util/ArrayList" "java/lang/Object") ∈ lw_tbl := List.mem_of_getElem? (i := 1653) (by decide +kernel)
set_option maxRecDepth 20000 in
theorem qT_Re_Oj : (Jvm.Cond.castable "Threeboxes$Register" "java/lang/Object") ∈ lw_tbl := List.mem_of_getElem? (i := 1654) (by decide +kernel)
set_option maxRecDepth 20000 in
theorem qT_Cu_Oj : (Jvm.Cond.castable "Threeboxes$Curve" "java/lang/Object") ∈ lw_tbl := List.mem_of_getElem? (i := 1655) (by decide +kernel)
set_option maxRecDepth 20000 in
theorem qT_Gr_Oj : (Jvm.Cond.castable "Threeboxes$Group" "java/lang/Object") ∈ lw_tbl := List.mem_of_getElem? (i := 1656) (by decide +kernel)
set_option maxRecDepth 20000 in
theorem qT_Mo_Oj : (Jvm.Cond.castable "ThreeboxesModel" "java/lang/Object") ∈ lw_tbl := List.mem_of_getElem? (i := 1657) (by decide +kernel)
set_option maxRecDepth 20000 in
theorem qT_Ou_Oj : (Jvm.Cond.castable "ThreeboxesLaw$Out" "java/lang/Object") ∈ lw_tbl := List.mem_of_getElem? (i := 1658) (by decide +kernel)
set_option maxRecDepth 20000 in
theorem qT_IAE_Oj : (Jvm.Cond.castable "java/lang/IllegalArgumentException" "java/lang/Object") ∈ lw_tbl := List.mem_of_getElem? (i := 1659) (by decide +kernel)
set_option maxRecDepth 20000 in
theorem qT_ISE_Oj : (Jvm.Cond.castable "java/lang/IllegalStateException" "java/lang/Object") ∈ lw_tbl := List.mem_of_getElem? (i := 1660) (by decide +kernel)
set_option maxRecDepth 20000 in
theorem qT_Ke_Oj : (Jvm.Cond.castable "Threeboxes$Keeper" "java/lang/Object") ∈ lw_tbl := List.mem_of_getElem? (i := 1661) (by decide +kernel)
set_option maxRecDepth 20000 in
theorem qT_MK_Oj : (Jvm.Cond.castable "ThreeboxesModel$Keeper" "java/lang/Object") ∈ lw_tbl := List.mem_of_getElem? (i := 1662) (by decide +kernel)
set_option maxRecDepth 20000 in
theorem qT_IOE_Oj : (Jvm.Cond.castable "java/lang/IndexOutOfBoundsException" "java/lang/Object") ∈ lw_tbl := List.mem_of_getElem? (i := 1663) (by decide +kernel)
set_option maxRecDepth 20000 in
theorem qT_Se_Oj : (Jvm.Cond.castable "Threeboxes$Secret" "java/lang/Object") ∈ lw_tbl := List.mem_of_getElem? (i := 1664) (by decide +kernel)
set_option maxRecDepth 20000 in
theorem qT_MS_Oj : (Jvm.Cond.castable "ThreeboxesModel$Secret" "java/lang/Object") ∈ lw_tbl := List.mem_of_getElem? (i := 1665) (by decide +kernel)
set_option maxRecDepth 20000 in
theorem qT_SB_Oj : (Jvm.Cond.castable "java/lang/StringBuilder" "java/lang/Object") ∈ lw_tbl := List.mem_of_getElem? (i := 1666) (by decide +kernel)
set_option maxRecDepth 20000 in
theorem qT_St_Oj : (Jvm.Cond.castable "java/lang/String" "java/lang/Object") ∈ lw_tbl := List.mem_of_getElem? (i := 1667) (by decide +kernel)
set_option maxRecDepth 20000 in
theorem qT_Th_Oj : (Jvm.Cond.castable "java/lang/Throwable" "java/lang/Object") ∈ lw_tbl := List.mem_of_getElem? (i := 1668) (by decide +kernel)
set_option maxRecDepth 20000 in
theorem qSm__Ljava_lang_Object__javalangObject_getClass_LjavalangClass : (Jvm.Cond.sameMethod "[Ljava/lang/Object;" "java/lang/Object" "getClass" "()Ljava/lang/Class;") ∈ lw_tbl := List.mem_of_getElem? (i := 1669) (by decide +kernel)
set_option maxRecDepth 20000 in
theorem qV__Ljava_lang_Object__Oj_getClass_6a1d : (Jvm.Cond.selects "[Ljava/lang/Object;" ({ cls := "java/lang/Object", name := "getClass", desc := "()Ljava/lang/Class;" } : Jvm.MethodName) ({ cls := "java/lang/Object", name := "getClass", desc := "()Ljava/lang/Class;" } : Jvm.MethodName)) ∈ lw_tbl := List.mem_of_getElem? (i := 1670) (by decide +kernel)
set_option maxRecDepth 20000 in
theorem qD_Oj_getClass_6a1d : (Jvm.Cond.declares ({ cls := "java/lang/Object", name := "getClass", desc := "()Ljava/lang/Class;" } : Jvm.MethodName)) ∈ lw_tbl := List.mem_of_getElem? (i := 1671) (by decide +kernel)
set_option maxRecDepth 20000 in
theorem qT__I_Oj : (Jvm.Cond.castable "[I" "java/lang/Object") ∈ lw_tbl := List.mem_of_getElem? (i := 1672) (by decide +kernel)
set_option maxRecDepth 20000 in
theorem qT__D_Oj : (Jvm.Cond.castable "[D" "java/lang/Object") ∈ lw_tbl := List.mem_of_getElem? (i := 1673) (by decide +kernel)
set_option maxRecDepth 20000 in
theorem qT__B_Oj : (Jvm.Cond.castable "[B" "java/lang/Object") ∈ lw_tbl := List.mem_of_getElem? (i := 1674) (by decide +kernel)
set_option maxRecDepth 20000 in
theorem qT__Ljava_lang_Object__Oj : (Jvm.Cond.castable "[Ljava/lang/Object;" "java/lang/Object") ∈ lw_tbl := List.mem_of_getElem? (i := 1675) (by decide +kernel)
end
section

/-! THE Z LAYER. G: a partial picture of the heap, address to cell. Z .. G L st pc: from every state at pc whose heap holds G, whose locals hold L and whose stack is st, the goal Q is reached. -/
abbrev zD : Type := va_G × (Nat → ClassId) × Nat
abbrev zG : Type := Nat → Option va_E
/-- one cell more, or changed -/
def zu (G : zG) (a : Nat) (v : va_E) : zG := fun q => if q = a then some v else G q
theorem zu_s {G : zG} {a : Nat} {v : va_E} : zu G a v a = some v := if_pos rfl
theorem zu_n {G : zG} {a b : Nat} {v : va_E} (h : b ≠ a) : zu G a v b = G b := if_neg h
/-- arrays: of ints, doubles, bytes, references (Object[]) -/
abbrev zI (d : zD) (n : Nat) (f : Nat → Int32) : va_E := .inl (d.2.1 0, n, .inl f)
abbrev zDb (d : zD) (n : Nat) (f : Nat → UInt64) : va_E := .inl (d.2.1 1, n, .inr (.inr (.inr (.inl f))))
abbrev zBy (d : zD) (n : Nat) (f : Nat → Int32) : va_E := .inl (d.2.1 2, n, .inl f)
abbrev zO (d : zD) (n : Nat) (f : Nat → Option Nat) : va_E := .inl (d.2.1 3, n, .inr (.inr (.inr (.inr f))))
abbrev zob (ci : Nat) (fs : List Value) : va_E := .inr (ci, fs)
abbrev zTys (d : zD) : List (ClassId × FieldType) := [(d.2.1 0, .int), (d.2.1 1, .double), (d.2.1 2, .byte), (d.2.1 3, .object "java/lang/Object")]
/-- the start g0 of the law: the tables' words, the classes, the shared empty array at de, what exceptions want, the texts -/
def zS0 (d : zD) (a0 : Array Value) (g0 : State) : Prop :=
  (∀ w ∈ lw_tbl, w.before a0 g0 = true) ∧ va_K d.1 zCls (zTys d) g0 ∧
  va_Z "java/util/ArrayList" "DEFAULTCAPACITY_EMPTY_ELEMENTDATA" "[Ljava/lang/Object;" (.ref d.2.2) (fun q => g0.heap.size ≤ q) g0 g0.heap ∧
  (d.2.2 < g0.heap.size ∧ va_at d.1 zCls (d.2.2, zO d 0 (fun _ => none)) g0.heap) ∧
  vx_Zq Bundle.tN "UNASSIGNED_STACK" Bundle.steD (fun q => g0.heap.size ≤ q) g0 g0.heap ∧ vx_Zq Bundle.tN "SUPPRESSED_SENTINEL" Bundle.listD (fun q => g0.heap.size ≤ q) g0 g0.heap ∧
  (∀ own k tx, Cond.stringRef own k tx ∈ lw_tbl → ∃ sa, vk_R own k tx sa g0) ∧
  va_Z "java/lang/String" "COMPACT_STRINGS" "Z" (.int 1) (fun q => g0.heap.size ≤ q) g0 g0.heap
def zPic (g0 : State) (d : zD) (G : zG) (H : Heap) : Prop := ∀ a v, G a = some v → g0.heap.size ≤ a ∧ va_at d.1 zCls (a, v) H
/-- the old part of the heap is as it was -/
def zOld (g0 : State) (H : Heap) : Prop := g0.heap.size ≤ H.size ∧ ∀ q, q < g0.heap.size → H[q]? = g0.heap[q]?
def zB (g0 : State) (d : zD) (G : zG) (U : State) : Prop := g0.WarmedH U.vm ∧ zOld g0 U.heap ∧ zPic g0 d G U.heap
def zCx (g0 : State) (d : zD) (y : MethodName) (cc : ByteArray) (nL : Nat) (ret : Option FieldType) (tb : List ExceptionTableEntry) (p : Program) (l : Launch) (s : State) (m : MethodId) (meth : Method) (c : Code) : Prop :=
  (∃ a0, zS0 d a0 g0) ∧ l.stackTraces = false ∧ p.tables.exec = Jvm.exec ∧ c.code = cc ∧ c.maxLocals = nL ∧ s.vm.findClass y.cls = some m.cls ∧ g0.WarmedH s.vm ∧ zOld g0 s.heap ∧ meth.locks = false ∧ meth.sig.returnType = ret ∧ meth.name = y.name ∧ c.exceptionTable.toList = tb
abbrev zA (g0 : State) : Nat → Prop := fun q => g0.heap.size ≤ q
def Z (g0 : State) (d : zD) (y : MethodName) (cc : ByteArray) (nL : Nat) (ret : Option FieldType) (tb : List ExceptionTableEntry) (p : Program) (l : Launch) (e : Env) (R : Room) (s : State) (m : MethodId) (args : Array Value) (below : List Frame) (meth : Method) (c : Code) (Q : State → Prop) (cells slots : Nat) (G : zG) (L : List (Nat × Value)) (st : List Value) (pc : Nat) : Prop :=
  zCx g0 d y cc nL ret tb p l s m meth c → ∀ (H : Heap) (locs : List Loc) (ls : Array Slot), zPic g0 d G H → va_S (zA g0) s.heap H locs → lv_has ls nL L → W p l e R s m args below meth c H locs cells slots Q (F0 m pc ls st)
/-- .. with an exception of the class E thrown over the frame -/
def ZX (g0 : State) (d : zD) (y : MethodName) (cc : ByteArray) (nL : Nat) (ret : Option FieldType) (tb : List ExceptionTableEntry) (p : Program) (l : Launch) (e : Env) (R : Room) (s : State) (m : MethodId) (args : Array Value) (below : List Frame) (meth : Method) (c : Code) (Q : State → Prop) (cells slots : Nat) (G : zG) (L : List (Nat × Value)) (rest : List Value) (pc : Nat) (E : String) : Prop :=
  zCx g0 d y cc nL ret tb p l s m meth c → ∀ (H : Heap) (locs : List Loc) (ls : Array Slot) (q : Addr) (ce : Cell), zPic g0 d G H → va_S (zA g0) s.heap H locs → lv_has ls nL L → H[q]? = some ce → ce.vm = .none → s.vm.findClass E = some ce.cls → vx_W p l e R s m args below meth c H locs cells slots Q (F0 m pc ls rest) q
def zQc (g0 : State) (d : zD) (post : Option Value → zG → Prop) : Array Value → State → Outcome → State → Prop := fun _ st oc t => (∃ (r : Option Value) (G : zG), oc = .returned r ∧ post r G ∧ zPic g0 d G t.heap) ∧ va_F (zA g0) st t
def zXc (g0 : State) (d : zD) (px : String → zG → Prop) : String → State → State → Prop := fun E st t => (∃ G : zG, px E G ∧ zPic g0 d G t.heap) ∧ va_F (zA g0) st t
def zR (f mc ms : Nat) : Room := { frames := f, cells := mc, slots := ms, locals := 64 * f }
abbrev zNo : String → zG → Prop := fun _ _ => False
/-- a method's contract: called with av over a heap that holds G it returns (post) or throws (px) -/
def zMet (g0 : State) (d : zD) (l : Launch) (y : MethodName) (cc : ByteArray) (nL : Nat) (ret : Option FieldType) (f mc ms : Nat) (av : List Value) (G : zG) (post : Option Value → zG → Prop) (px : String → zG → Prop) : Prop :=
  vx_Met l y [Cond.code y cc nL ret] (zR f mc ms) (va_Pc av (zB g0 d G)) (zQc g0 d post) (zXc g0 d px) mc ms (zA g0)
def zY (y : MethodName) (cc : ByteArray) (nL : Nat) (ret : Option FieldType) (n : Nat) : Prop := Cond.code y cc nL ret ∈ lw_tbl ∧ Cond.initialized y.cls ∈ lw_tbl ∧ (y.cls ≠ "java/lang/invoke/MethodHandle" ∧ y.cls ≠ "java/lang/invoke/VarHandle") ∧ (parseMethodDescriptor y.desc).map (fun d => d.parameters.length) = some n
theorem z_ind {α : Type} (μ : α → Nat) (P : α → Prop) (h : ∀ a, (∀ b, μ b < μ a → P b) → P a) : ∀ a, P a := by
  have key : ∀ n a, μ a < n → P a := by
    intro n
    induction n with
    | zero => intro a h0; exact absurd h0 (Nat.not_lt_zero _)
    | succ n ih => intro a h0; exact h a (fun b hb => ih b (Nat.lt_of_lt_of_le hb (Nat.le_of_lt_succ h0)))
  exact fun a => key (μ a + 1) a (Nat.lt_succ_self _)
theorem zOld.s {g0 s : State} {H : Heap} {locs : List Loc} (h0 : zOld g0 s.heap) (hS : va_S (zA g0) s.heap H locs) : zOld g0 H :=
  ⟨Nat.le_trans h0.1 hS.1, fun q hq => (hS.2.1 q (Nat.lt_of_lt_of_le hq h0.1) (Nat.not_le.mpr hq)).trans (h0.2 q hq)⟩
/-- the cells of G as a list, for the kit's rows -/
def zl (g0 : State) (G : zG) (n : Nat) : va_W := (List.range n).filterMap (fun q => if g0.heap.size ≤ q then (G q).map (fun v => (q, v)) else none)
theorem zl_mem {g0 : State} {G : zG} {n : Nat} {q : Nat × va_E} : q ∈ zl g0 G n ↔ q.1 < n ∧ g0.heap.size ≤ q.1 ∧ G q.1 = some q.2 := by
  unfold zl
  rw [List.mem_filterMap]
  constructor
  · rintro ⟨a, h1, h2⟩
    split at h2
    · rename_i h3
      cases hG : G a with
      | none => rw [hG] at h2; cases h2
      | some v =>
        rw [hG] at h2
        cases h2
        exact ⟨List.mem_range.mp h1, h3, hG⟩
    · cases h2
  · rintro ⟨h1, h2, h3⟩
    refine ⟨q.1, List.mem_range.mpr h1, ?_⟩
    rw [if_pos h2, h3]
    rfl
theorem zl_apart {g0 : State} {G : zG} {n : Nat} : ∀ (i j : Nat) (p q : Nat × va_E), (zl g0 G n)[i]? = some p → (zl g0 G n)[j]? = some q → p.1 = q.1 → i = j := by
  have hp : (zl g0 G n).Pairwise (fun a b => a.1 < b.1) := by
    unfold zl
    rw [List.pairwise_filterMap]
    refine List.Pairwise.imp ?_ (List.pairwise_lt_range (n := n))
    intro a b hab p hp q hq
    have key : ∀ {a : Nat} {p : Nat × va_E}, (if g0.heap.size ≤ a then (G a).map (fun v => (a, v)) else none) = some p → p.1 = a := by
      intro a p h
      split at h
      · cases hG : G a with
        | none => rw [hG] at h; cases h
        | some v => rw [hG] at h; cases h; rfl
      · cases h
    rw [key hp, key hq]
    exact hab
  intro i j p q hi hj hpq
  obtain ⟨hi1, hi2⟩ := List.getElem?_eq_some_iff.mp hi
  obtain ⟨hj1, hj2⟩ := List.getElem?_eq_some_iff.mp hj
  rcases Nat.lt_trichotomy i j with h | h | h
  · have := List.pairwise_iff_getElem.mp hp i j hi1 hj1 h
    rw [hi2, hj2, hpq] at this
    exact absurd this (Nat.lt_irrefl _)
  · exact h
  · have := List.pairwise_iff_getElem.mp hp j i hj1 hi1 h
    rw [hi2, hj2, hpq] at this
    exact absurd this (Nat.lt_irrefl _)
section ZPIC
variable {g0 : State} {d : zD} {G : zG} {H H1 : Heap}
theorem zPic.lt (h : zPic g0 d G H) {a : Nat} {v : va_E} (ha : G a = some v) : a < H.size := (h a v ha).2.lt
theorem zPic.P (h : zPic g0 d G H) : va_P d.1 zCls (zl g0 G H.size) H := fun k q hk => (h q.1 q.2 (zl_mem.mp (List.mem_of_getElem? hk)).2.2).2
theorem zPic.D (h : zPic g0 d G H) : va_D (zA g0) (zl g0 G H.size) := ⟨zl_apart, fun k q hk => (zl_mem.mp (List.mem_of_getElem? hk)).2.1⟩
theorem zPic.in (h : zPic g0 d G H) {a : Nat} {v : va_E} (ha : G a = some v) : ∃ k : Nat, (zl g0 G H.size)[k]? = some (a, v) :=
  List.getElem?_of_mem (zl_mem.mpr ⟨h.lt ha, (h a v ha).1, ha⟩)
theorem zPic.set (h : zPic g0 d G H) {a k : Nat} {v v' : va_E} (hk : (zl g0 G H.size)[k]? = some (a, v)) (h1 : va_P d.1 zCls ((zl g0 G H.size).set k (a, v')) H1) : zPic g0 d (zu G a v') H1 := by
  have hl := (List.getElem?_eq_some_iff.mp hk).1
  intro q w hq
  by_cases hqa : q = a
  · subst hqa
    rw [zu_s] at hq
    cases hq
    exact ⟨(zl_mem.mp (List.mem_of_getElem? hk)).2.1, h1 k (q, v') (List.getElem?_set_self hl)⟩
  · rw [zu_n hqa] at hq
    obtain ⟨j, hj⟩ := h.in hq
    have hjk : k ≠ j := fun e => hqa (by rw [e, hj] at hk; cases hk; rfl)
    exact ⟨(h q w hq).1, h1 j (q, w) (by rw [List.getElem?_set_ne hjk]; exact hj)⟩
theorem zPic.push (h : zPic g0 d G H) {a : Nat} {v : va_E} (hA : g0.heap.size ≤ a) (h1 : va_P d.1 zCls (zl g0 G H.size ++ [(a, v)]) H1) (hn : ∀ q, q < H.size → q ≠ a) : zPic g0 d (zu G a v) H1 := by
  intro q w hq
  by_cases hqa : q = a
  · subst hqa
    rw [zu_s] at hq
    cases hq
    exact ⟨hA, h1 (zl g0 G H.size).length (q, v) (by simp)⟩
  · rw [zu_n hqa] at hq
    obtain ⟨j, hj⟩ := h.in hq
    exact ⟨(h q w hq).1, h1 j (q, w) (by rw [List.getElem?_append_left (List.getElem?_eq_some_iff.mp hj).1]; exact hj)⟩
theorem zPic.mono (h : zPic g0 d G H) {G' : zG} (hs : ∀ a v, G' a = some v → G a = some v) : zPic g0 d G' H := fun a v ha => h a v (hs a v ha)
theorem zPic.kept (h : zPic g0 d G H) (hq : ∀ q, q < H.size → H1[q]? = H[q]?) : zPic g0 d G H1 := fun a v ha => ⟨(h a v ha).1, (h a v ha).2.kept (hq a (h.lt ha))⟩
end ZPIC
section ZCX
variable {g0 : State} {d : zD} {y : MethodName} {cc : ByteArray} {nL : Nat} {ret : Option FieldType} {tb : List ExceptionTableEntry} {p : Program} {l : Launch} {s : State} {m : MethodId} {args : Array Value} {meth : Method} {c : Code}
theorem zCx.st (h : zCx g0 d y cc nL ret tb p l s m meth c) : l.stackTraces = false := h.2.1
theorem zCx.x (h : zCx g0 d y cc nL ret tb p l s m meth c) : p.tables.exec = Jvm.exec := h.2.2.1
theorem zCx.b (h : zCx g0 d y cc nL ret tb p l s m meth c) : c.code = cc := h.2.2.2.1
theorem zCx.ml (h : zCx g0 d y cc nL ret tb p l s m meth c) : c.maxLocals = nL := h.2.2.2.2.1
theorem zCx.own (h : zCx g0 d y cc nL ret tb p l s m meth c) : s.vm.findClass y.cls = some m.cls := h.2.2.2.2.2.1
theorem zCx.warm (h : zCx g0 d y cc nL ret tb p l s m meth c) : g0.WarmedH s.vm := h.2.2.2.2.2.2.1
theorem zCx.old (h : zCx g0 d y cc nL ret tb p l s m meth c) : zOld g0 s.heap := h.2.2.2.2.2.2.2.1
theorem zCx.locks (h : zCx g0 d y cc nL ret tb p l s m meth c) : meth.locks = false := h.2.2.2.2.2.2.2.2.1
theorem zCx.r (h : zCx g0 d y cc nL ret tb p l s m meth c) : meth.sig.returnType = ret := h.2.2.2.2.2.2.2.2.2.1
theorem zCx.nm (h : zCx g0 d y cc nL ret tb p l s m meth c) : meth.name = y.name := h.2.2.2.2.2.2.2.2.2.2.1
theorem zCx.tbl (h : zCx g0 d y cc nL ret tb p l s m meth c) : c.exceptionTable.toList = tb := h.2.2.2.2.2.2.2.2.2.2.2
/-- a word of the tables, here -/
theorem zCx.w (h : zCx g0 d y cc nL ret tb p l s m meth c) {w : Cond} (hw : w ∈ lw_tbl) (hg : goodWord w = true) (args : Array Value) : w.before args s = true := by
  obtain ⟨⟨a0, h0, -⟩, -⟩ := id h
  exact word_at h.warm (good_of_word hg) (h0 w hw)
theorem zCx.K (h : zCx g0 d y cc nL ret tb p l s m meth c) : va_K d.1 zCls (zTys d) s := by
  obtain ⟨⟨a0, h0, hK, -⟩, -⟩ := id h
  exact va_K.moved h.warm.alike hK
theorem zCx.cast (h : zCx g0 d y cc nL ret tb p l s m meth c) {C D : String} (hw : Cond.castable C D ∈ lw_tbl) : va_Nw (.castable C D) s := by
  obtain ⟨⟨a0, h0, -⟩, -⟩ := id h
  exact va_Nw.warmC h.warm (va_Nw.of rfl (h0 _ hw))
theorem zCx.nestM (h : zCx g0 d y cc nL ret tb p l s m meth c) {a : String} {i : Nat} {x : MethodName} {hs : String} (hw : Cond.methodLinkNest a i x hs ∈ lw_tbl) : va_Nw (.methodLinkNest a i x hs) s := by
  obtain ⟨⟨a0, h0, -⟩, -⟩ := id h
  exact va_Nw.warmM h.warm (va_Nw.of rfl (h0 _ hw))
theorem zCx.nestF (h : zCx g0 d y cc nL ret tb p l s m meth c) {a : String} {i : Nat} {b n t hs : String} (hw : Cond.fieldLinkNest a i b n t hs ∈ lw_tbl) : va_Nw (.fieldLinkNest a i b n t hs) s := by
  obtain ⟨⟨a0, h0, -⟩, -⟩ := id h
  exact va_Nw.warmF h.warm (va_Nw.of rfl (h0 _ hw))
theorem u_ws_good {C : String} {T : u_T} {N : Nat} : ∀ w ∈ u_ws C T N, goodWord w = true := by
  intro w hw
  obtain ⟨k, -, rfl⟩ := List.mem_map.mp hw
  unfold u_lay
  split <;> rfl
theorem zCx.lays (h : zCx g0 d y cc nL ret tb p l s m meth c) {ci : Nat} {C : String} {T : u_T} {N : Nat} {ty : Nat → FieldType} (hc : zCl ci C T N ty) (args : Array Value) : ∀ w ∈ u_ws C T N, w.before args s = true := fun w hw => h.w (hc.2.1 w hw) (u_ws_good w hw) args
end ZCX

section ZROWS
variable {g0 : State} {d : zD} {y : MethodName} {cc : ByteArray} {nL : Nat} {ret : Option FieldType} {tb : List ExceptionTableEntry} {p : Program} {l : Launch} {e : Env} {R : Room} {s : State} {m : MethodId} {args : Array Value} {below : List Frame} {meth : Method} {c : Code} {Q : State → Prop} {cells slots : Nat} {G : zG} {L L' : List (Nat × Value)} {st : List Value} {pc : Nat}
theorem z_iconst {n : Int} {v : Int32} (hd : decode cc pc = .ok (.iconst n, 1)) (hv : Int32.ofInt n = v) (k : Z g0 d y cc nL ret tb p l e R s m args below meth c Q cells slots G L (.int v :: st) (pc + 1)) : Z g0 d y cc nL ret tb p l e R s m args below meth c Q cells slots G L (st) pc :=
  fun hc H locs ls hP hS hl => lv_iconst hc.x hc.b hd hv (k hc H locs ls hP hS hl)
theorem z_bipush {n : Int} {v : Int32} (hd : decode cc pc = .ok (.bipush n, 2)) (hv : (Int8.ofInt n).toInt32 = v) (k : Z g0 d y cc nL ret tb p l e R s m args below meth c Q cells slots G L (.int v :: st) (pc + 2)) : Z g0 d y cc nL ret tb p l e R s m args below meth c Q cells slots G L (st) pc :=
  fun hc H locs ls hP hS hl => lv_bipush hc.x hc.b hd hv (k hc H locs ls hP hS hl)
theorem z_sipush {n : Int} {v : Int32} (hd : decode cc pc = .ok (.sipush n, 3)) (hv : (Int16.ofInt n).toInt32 = v) (k : Z g0 d y cc nL ret tb p l e R s m args below meth c Q cells slots G L (.int v :: st) (pc + 3)) : Z g0 d y cc nL ret tb p l e R s m args below meth c Q cells slots G L (st) pc :=
  fun hc H locs ls hP hS hl => lv_sipush hc.x hc.b hd hv (k hc H locs ls hP hS hl)
theorem z_lconst {n : Fin 2} {v : Int64} (hd : decode cc pc = .ok (.lconst n, 1)) (hv : Int64.ofNat (n : Nat) = v) (k : Z g0 d y cc nL ret tb p l e R s m args below meth c Q cells slots G L (.long v :: st) (pc + 1)) : Z g0 d y cc nL ret tb p l e R s m args below meth c Q cells slots G L (st) pc :=
  fun hc H locs ls hP hS hl => lv_lconst hc.x hc.b hd hv (k hc H locs ls hP hS hl)
theorem z_dconst0  (hd : decode cc pc = .ok (.dconst 0, 1))  (k : Z g0 d y cc nL ret tb p l e R s m args below meth c Q cells slots G L (.double 0 :: st) (pc + 1)) : Z g0 d y cc nL ret tb p l e R s m args below meth c Q cells slots G L (st) pc :=
  fun hc H locs ls hP hS hl => lv_dconst0 hc.x hc.b hd  (k hc H locs ls hP hS hl)
theorem z_dconst1  (hd : decode cc pc = .ok (.dconst 1, 1))  (k : Z g0 d y cc nL ret tb p l e R s m args below meth c Q cells slots G L (.double 4607182418800017408 :: st) (pc + 1)) : Z g0 d y cc nL ret tb p l e R s m args below meth c Q cells slots G L (st) pc :=
  fun hc H locs ls hP hS hl => lv_dconst1 hc.x hc.b hd  (k hc H locs ls hP hS hl)
theorem z_iload_n (j : Nat) {k : Fin 4} {i : Nat} {x : Int32} (hd : decode cc pc = .ok (.iload_n k, 1)) (hi : (k : Nat) = i) (hj : L[j]? = some (i, .int x)) (k : Z g0 d y cc nL ret tb p l e R s m args below meth c Q cells slots G L (.int x :: st) (pc + 1)) : Z g0 d y cc nL ret tb p l e R s m args below meth c Q cells slots G L st pc :=
  fun hc H locs ls hP hS hl => lv_iload_n hc.x hc.b hd hi (lv_at hl j hj) (k hc H locs ls hP hS hl)
theorem z_iload (j : Nat) {i : Nat} {x : Int32} (hd : decode cc pc = .ok (.iload i, 2)) (hj : L[j]? = some (i, .int x)) (k : Z g0 d y cc nL ret tb p l e R s m args below meth c Q cells slots G L (.int x :: st) (pc + 2)) : Z g0 d y cc nL ret tb p l e R s m args below meth c Q cells slots G L st pc :=
  fun hc H locs ls hP hS hl => lv_iload hc.x hc.b hd (lv_at hl j hj) (k hc H locs ls hP hS hl)
theorem z_istore_n {k : Fin 4} {i : Nat} {x : Int32} (hd : decode cc pc = .ok (.istore_n k, 1)) (hi : (k : Nat) = i) (hn : i < nL) (hl' : (i, Value.int x) :: L.filter (fun q => !(q.1 == i) && !(q.1 + 1 == i && q.2.category == 2)) = L') (k : Z g0 d y cc nL ret tb p l e R s m args below meth c Q cells slots G L' st (pc + 1)) : Z g0 d y cc nL ret tb p l e R s m args below meth c Q cells slots G L (.int x :: st) pc :=
  fun hc H locs ls hP hS hl => lv_istore_n hc.x hc.b hd hi hl hn hl' (fun ls' h' => k hc H locs ls' hP hS h')
theorem z_istore {i : Nat} {x : Int32} (hd : decode cc pc = .ok (.istore i, 2)) (hn : i < nL) (hl' : (i, Value.int x) :: L.filter (fun q => !(q.1 == i) && !(q.1 + 1 == i && q.2.category == 2)) = L') (k : Z g0 d y cc nL ret tb p l e R s m args below meth c Q cells slots G L' st (pc + 2)) : Z g0 d y cc nL ret tb p l e R s m args below meth c Q cells slots G L (.int x :: st) pc :=
  fun hc H locs ls hP hS hl => lv_istore hc.x hc.b hd hl hn hl' (fun ls' h' => k hc H locs ls' hP hS h')
theorem z_lload_n (j : Nat) {k : Fin 4} {i : Nat} {x : Int64} (hd : decode cc pc = .ok (.lload_n k, 1)) (hi : (k : Nat) = i) (hj : L[j]? = some (i, .long x)) (k : Z g0 d y cc nL ret tb p l e R s m args below meth c Q cells slots G L (.long x :: st) (pc + 1)) : Z g0 d y cc nL ret tb p l e R s m args below meth c Q cells slots G L st pc :=
  fun hc H locs ls hP hS hl => lv_lload_n hc.x hc.b hd hi (lv_at hl j hj) (k hc H locs ls hP hS hl)
theorem z_lload (j : Nat) {i : Nat} {x : Int64} (hd : decode cc pc = .ok (.lload i, 2)) (hj : L[j]? = some (i, .long x)) (k : Z g0 d y cc nL ret tb p l e R s m args below meth c Q cells slots G L (.long x :: st) (pc + 2)) : Z g0 d y cc nL ret tb p l e R s m args below meth c Q cells slots G L st pc :=
  fun hc H locs ls hP hS hl => lv_lload hc.x hc.b hd (lv_at hl j hj) (k hc H locs ls hP hS hl)
theorem z_lstore_n {k : Fin 4} {i : Nat} {x : Int64} (hd : decode cc pc = .ok (.lstore_n k, 1)) (hi : (k : Nat) = i) (hn : i + 1 < nL) (hl' : (i, Value.long x) :: L.filter (fun q => !(q.1 == i) && (!(q.1 == i + 1) && !(q.1 + 1 == i && q.2.category == 2))) = L') (k : Z g0 d y cc nL ret tb p l e R s m args below meth c Q cells slots G L' st (pc + 1)) : Z g0 d y cc nL ret tb p l e R s m args below meth c Q cells slots G L (.long x :: st) pc :=
  fun hc H locs ls hP hS hl => lv_lstore_n hc.x hc.b hd hi hl hn hl' (fun ls' h' => k hc H locs ls' hP hS h')
theorem z_lstore {i : Nat} {x : Int64} (hd : decode cc pc = .ok (.lstore i, 2)) (hn : i + 1 < nL) (hl' : (i, Value.long x) :: L.filter (fun q => !(q.1 == i) && (!(q.1 == i + 1) && !(q.1 + 1 == i && q.2.category == 2))) = L') (k : Z g0 d y cc nL ret tb p l e R s m args below meth c Q cells slots G L' st (pc + 2)) : Z g0 d y cc nL ret tb p l e R s m args below meth c Q cells slots G L (.long x :: st) pc :=
  fun hc H locs ls hP hS hl => lv_lstore hc.x hc.b hd hl hn hl' (fun ls' h' => k hc H locs ls' hP hS h')
theorem z_dload_n (j : Nat) {k : Fin 4} {i : Nat} {x : UInt64} (hd : decode cc pc = .ok (.dload_n k, 1)) (hi : (k : Nat) = i) (hj : L[j]? = some (i, .double x)) (k : Z g0 d y cc nL ret tb p l e R s m args below meth c Q cells slots G L (.double x :: st) (pc + 1)) : Z g0 d y cc nL ret tb p l e R s m args below meth c Q cells slots G L st pc :=
  fun hc H locs ls hP hS hl => lv_dload_n hc.x hc.b hd hi (lv_at hl j hj) (k hc H locs ls hP hS hl)
theorem z_dload (j : Nat) {i : Nat} {x : UInt64} (hd : decode cc pc = .ok (.dload i, 2)) (hj : L[j]? = some (i, .double x)) (k : Z g0 d y cc nL ret tb p l e R s m args below meth c Q cells slots G L (.double x :: st) (pc + 2)) : Z g0 d y cc nL ret tb p l e R s m args below meth c Q cells slots G L st pc :=
  fun hc H locs ls hP hS hl => lv_dload hc.x hc.b hd (lv_at hl j hj) (k hc H locs ls hP hS hl)
theorem z_dstore_n {k : Fin 4} {i : Nat} {x : UInt64} (hd : decode cc pc = .ok (.dstore_n k, 1)) (hi : (k : Nat) = i) (hn : i + 1 < nL) (hl' : (i, Value.double x) :: L.filter (fun q => !(q.1 == i) && (!(q.1 == i + 1) && !(q.1 + 1 == i && q.2.category == 2))) = L') (k : Z g0 d y cc nL ret tb p l e R s m args below meth c Q cells slots G L' st (pc + 1)) : Z g0 d y cc nL ret tb p l e R s m args below meth c Q cells slots G L (.double x :: st) pc :=
  fun hc H locs ls hP hS hl => lv_dstore_n hc.x hc.b hd hi hl hn hl' (fun ls' h' => k hc H locs ls' hP hS h')
theorem z_dstore {i : Nat} {x : UInt64} (hd : decode cc pc = .ok (.dstore i, 2)) (hn : i + 1 < nL) (hl' : (i, Value.double x) :: L.filter (fun q => !(q.1 == i) && (!(q.1 == i + 1) && !(q.1 + 1 == i && q.2.category == 2))) = L') (k : Z g0 d y cc nL ret tb p l e R s m args below meth c Q cells slots G L' st (pc + 2)) : Z g0 d y cc nL ret tb p l e R s m args below meth c Q cells slots G L (.double x :: st) pc :=
  fun hc H locs ls hP hS hl => lv_dstore hc.x hc.b hd hl hn hl' (fun ls' h' => k hc H locs ls' hP hS h')
theorem z_aload_n (j : Nat) {k : Fin 4} {i : Nat} {x : Nat} (hd : decode cc pc = .ok (.aload_n k, 1)) (hi : (k : Nat) = i) (hj : L[j]? = some (i, .ref x)) (k : Z g0 d y cc nL ret tb p l e R s m args below meth c Q cells slots G L (.ref x :: st) (pc + 1)) : Z g0 d y cc nL ret tb p l e R s m args below meth c Q cells slots G L st pc :=
  fun hc H locs ls hP hS hl => lv_aload_n hc.x hc.b hd hi (lv_at hl j hj) (k hc H locs ls hP hS hl)
theorem z_aload (j : Nat) {i : Nat} {x : Nat} (hd : decode cc pc = .ok (.aload i, 2)) (hj : L[j]? = some (i, .ref x)) (k : Z g0 d y cc nL ret tb p l e R s m args below meth c Q cells slots G L (.ref x :: st) (pc + 2)) : Z g0 d y cc nL ret tb p l e R s m args below meth c Q cells slots G L st pc :=
  fun hc H locs ls hP hS hl => lv_aload hc.x hc.b hd (lv_at hl j hj) (k hc H locs ls hP hS hl)
theorem z_astore_n {k : Fin 4} {i : Nat} {x : Nat} (hd : decode cc pc = .ok (.astore_n k, 1)) (hi : (k : Nat) = i) (hn : i < nL) (hl' : (i, Value.ref x) :: L.filter (fun q => !(q.1 == i) && !(q.1 + 1 == i && q.2.category == 2)) = L') (k : Z g0 d y cc nL ret tb p l e R s m args below meth c Q cells slots G L' st (pc + 1)) : Z g0 d y cc nL ret tb p l e R s m args below meth c Q cells slots G L (.ref x :: st) pc :=
  fun hc H locs ls hP hS hl => lv_astore_n hc.x hc.b hd hi hl hn hl' (fun ls' h' => k hc H locs ls' hP hS h')
theorem z_astore {i : Nat} {x : Nat} (hd : decode cc pc = .ok (.astore i, 2)) (hn : i < nL) (hl' : (i, Value.ref x) :: L.filter (fun q => !(q.1 == i) && !(q.1 + 1 == i && q.2.category == 2)) = L') (k : Z g0 d y cc nL ret tb p l e R s m args below meth c Q cells slots G L' st (pc + 2)) : Z g0 d y cc nL ret tb p l e R s m args below meth c Q cells slots G L (.ref x :: st) pc :=
  fun hc H locs ls hP hS hl => lv_astore hc.x hc.b hd hl hn hl' (fun ls' h' => k hc H locs ls' hP hS h')
theorem z_aload_nN (j : Nat) {k : Fin 4} {i : Nat} (hd : decode cc pc = .ok (.aload_n k, 1)) (hi : (k : Nat) = i) (hj : L[j]? = some (i, .null)) (k : Z g0 d y cc nL ret tb p l e R s m args below meth c Q cells slots G L (.null :: st) (pc + 1)) : Z g0 d y cc nL ret tb p l e R s m args below meth c Q cells slots G L st pc :=
  fun hc H locs ls hP hS hl => lv_aload_nN hc.x hc.b hd hi (lv_at hl j hj) (k hc H locs ls hP hS hl)
theorem z_iinc (j : Nat) {i : Nat} {n : Int} {x v : Int32} (hd : decode cc pc = .ok (.iinc i n, 3)) (hj : L[j]? = some (i, .int x)) (hv : x + Int32.ofInt n = v) (hn : i < nL) (hl' : (i, Value.int v) :: L.filter (fun q => !(q.1 == i) && !(q.1 + 1 == i && q.2.category == 2)) = L') (k : Z g0 d y cc nL ret tb p l e R s m args below meth c Q cells slots G L' st (pc + 3)) : Z g0 d y cc nL ret tb p l e R s m args below meth c Q cells slots G L st pc :=
  fun hc H locs ls hP hS hl => lv_iinc hc.x hc.b hd hl hj hv hn hl' (fun ls' h' => k hc H locs ls' hP hS h')
theorem z_iadd {a b : Int32} (hd : decode cc pc = .ok (.iadd, 1))  (k : Z g0 d y cc nL ret tb p l e R s m args below meth c Q cells slots G L (.int (a + b) :: st) (pc + 1)) : Z g0 d y cc nL ret tb p l e R s m args below meth c Q cells slots G L (.int b :: .int a :: st) pc :=
  fun hc H locs ls hP hS hl => lv_iadd hc.x hc.b hd  (k hc H locs ls hP hS hl)
theorem z_isub {a b : Int32} (hd : decode cc pc = .ok (.isub, 1))  (k : Z g0 d y cc nL ret tb p l e R s m args below meth c Q cells slots G L (.int (a - b) :: st) (pc + 1)) : Z g0 d y cc nL ret tb p l e R s m args below meth c Q cells slots G L (.int b :: .int a :: st) pc :=
  fun hc H locs ls hP hS hl => lv_isub hc.x hc.b hd  (k hc H locs ls hP hS hl)
theorem z_imul {a b : Int32} (hd : decode cc pc = .ok (.imul, 1))  (k : Z g0 d y cc nL ret tb p l e R s m args below meth c Q cells slots G L (.int (a * b) :: st) (pc + 1)) : Z g0 d y cc nL ret tb p l e R s m args below meth c Q cells slots G L (.int b :: .int a :: st) pc :=
  fun hc H locs ls hP hS hl => lv_imul hc.x hc.b hd  (k hc H locs ls hP hS hl)
theorem z_iand {a b : Int32} (hd : decode cc pc = .ok (.iand, 1))  (k : Z g0 d y cc nL ret tb p l e R s m args below meth c Q cells slots G L (.int (a &&& b) :: st) (pc + 1)) : Z g0 d y cc nL ret tb p l e R s m args below meth c Q cells slots G L (.int b :: .int a :: st) pc :=
  fun hc H locs ls hP hS hl => lv_iand hc.x hc.b hd  (k hc H locs ls hP hS hl)
theorem z_ior {a b : Int32} (hd : decode cc pc = .ok (.ior, 1))  (k : Z g0 d y cc nL ret tb p l e R s m args below meth c Q cells slots G L (.int (a ||| b) :: st) (pc + 1)) : Z g0 d y cc nL ret tb p l e R s m args below meth c Q cells slots G L (.int b :: .int a :: st) pc :=
  fun hc H locs ls hP hS hl => lv_ior hc.x hc.b hd  (k hc H locs ls hP hS hl)
theorem z_ixor {a b : Int32} (hd : decode cc pc = .ok (.ixor, 1))  (k : Z g0 d y cc nL ret tb p l e R s m args below meth c Q cells slots G L (.int (a ^^^ b) :: st) (pc + 1)) : Z g0 d y cc nL ret tb p l e R s m args below meth c Q cells slots G L (.int b :: .int a :: st) pc :=
  fun hc H locs ls hP hS hl => lv_ixor hc.x hc.b hd  (k hc H locs ls hP hS hl)
theorem z_idiv {a b : Int32} (hd : decode cc pc = .ok (.idiv, 1)) (hne : ¬ b = 0) (k : Z g0 d y cc nL ret tb p l e R s m args below meth c Q cells slots G L (.int (a / b) :: st) (pc + 1)) : Z g0 d y cc nL ret tb p l e R s m args below meth c Q cells slots G L (.int b :: .int a :: st) pc :=
  fun hc H locs ls hP hS hl => lv_idiv hc.x hc.b hd hne (k hc H locs ls hP hS hl)
theorem z_irem {a b : Int32} (hd : decode cc pc = .ok (.irem, 1)) (hne : ¬ b = 0) (k : Z g0 d y cc nL ret tb p l e R s m args below meth c Q cells slots G L (.int (a - a / b * b) :: st) (pc + 1)) : Z g0 d y cc nL ret tb p l e R s m args below meth c Q cells slots G L (.int b :: .int a :: st) pc :=
  fun hc H locs ls hP hS hl => lv_irem hc.x hc.b hd hne (k hc H locs ls hP hS hl)
theorem z_ineg {a : Int32} (hd : decode cc pc = .ok (.ineg, 1))  (k : Z g0 d y cc nL ret tb p l e R s m args below meth c Q cells slots G L (.int (-a) :: st) (pc + 1)) : Z g0 d y cc nL ret tb p l e R s m args below meth c Q cells slots G L (.int a :: st) pc :=
  fun hc H locs ls hP hS hl => lv_ineg hc.x hc.b hd  (k hc H locs ls hP hS hl)
theorem z_ishl {a b : Int32} (hd : decode cc pc = .ok (.ishl, 1))  (k : Z g0 d y cc nL ret tb p l e R s m args below meth c Q cells slots G L (.int (a <<< (b &&& 31)) :: st) (pc + 1)) : Z g0 d y cc nL ret tb p l e R s m args below meth c Q cells slots G L (.int b :: .int a :: st) pc :=
  fun hc H locs ls hP hS hl => lv_ishl hc.x hc.b hd  (k hc H locs ls hP hS hl)
theorem z_ishr {a b : Int32} (hd : decode cc pc = .ok (.ishr, 1))  (k : Z g0 d y cc nL ret tb p l e R s m args below meth c Q cells slots G L (.int (a >>> (b &&& 31)) :: st) (pc + 1)) : Z g0 d y cc nL ret tb p l e R s m args below meth c Q cells slots G L (.int b :: .int a :: st) pc :=
  fun hc H locs ls hP hS hl => lv_ishr hc.x hc.b hd  (k hc H locs ls hP hS hl)
theorem z_iushr {a b v : Int32} (hd : decode cc pc = .ok (.iushr, 1)) (hv : (a.toUInt32 >>> (b.toUInt32 &&& Int32.toUInt32 31)).toInt32 = v) (k : Z g0 d y cc nL ret tb p l e R s m args below meth c Q cells slots G L (.int v :: st) (pc + 1)) : Z g0 d y cc nL ret tb p l e R s m args below meth c Q cells slots G L (.int b :: .int a :: st) pc :=
  fun hc H locs ls hP hS hl => lv_iushr hc.x hc.b hd hv (k hc H locs ls hP hS hl)
theorem z_ladd {a b : Int64} (hd : decode cc pc = .ok (.ladd, 1))  (k : Z g0 d y cc nL ret tb p l e R s m args below meth c Q cells slots G L (.long (a + b) :: st) (pc + 1)) : Z g0 d y cc nL ret tb p l e R s m args below meth c Q cells slots G L (.long b :: .long a :: st) pc :=
  fun hc H locs ls hP hS hl => lv_ladd hc.x hc.b hd  (k hc H locs ls hP hS hl)
theorem z_lmul {a b : Int64} (hd : decode cc pc = .ok (.lmul, 1))  (k : Z g0 d y cc nL ret tb p l e R s m args below meth c Q cells slots G L (.long (a * b) :: st) (pc + 1)) : Z g0 d y cc nL ret tb p l e R s m args below meth c Q cells slots G L (.long b :: .long a :: st) pc :=
  fun hc H locs ls hP hS hl => lv_lmul hc.x hc.b hd  (k hc H locs ls hP hS hl)
theorem z_lsub {a b : Int64} (hd : decode cc pc = .ok (.lsub, 1))  (k : Z g0 d y cc nL ret tb p l e R s m args below meth c Q cells slots G L (.long (a - b) :: st) (pc + 1)) : Z g0 d y cc nL ret tb p l e R s m args below meth c Q cells slots G L (.long b :: .long a :: st) pc :=
  fun hc H locs ls hP hS hl => lv_lsub hc.x hc.b hd  (k hc H locs ls hP hS hl)
theorem z_i2l {a : Int32} {v : Int64} (hd : decode cc pc = .ok (.i2l, 1)) (hv : a.toInt64 = v) (k : Z g0 d y cc nL ret tb p l e R s m args below meth c Q cells slots G L (.long v :: st) (pc + 1)) : Z g0 d y cc nL ret tb p l e R s m args below meth c Q cells slots G L (.int a :: st) pc :=
  fun hc H locs ls hP hS hl => lv_i2l hc.x hc.b hd hv (k hc H locs ls hP hS hl)
theorem z_i2c {a : Int32} {v : Int32} (hd : decode cc pc = .ok (.i2c, 1)) (hv : (a.toUInt32 % 65536).toInt32 = v) (k : Z g0 d y cc nL ret tb p l e R s m args below meth c Q cells slots G L (.int v :: st) (pc + 1)) : Z g0 d y cc nL ret tb p l e R s m args below meth c Q cells slots G L (.int a :: st) pc :=
  fun hc H locs ls hP hS hl => lv_i2c hc.x hc.b hd hv (k hc H locs ls hP hS hl)
theorem z_i2b {a : Int32} {v : Int32} (hd : decode cc pc = .ok (.i2b, 1)) (hv : a.toInt8.toInt32 = v) (k : Z g0 d y cc nL ret tb p l e R s m args below meth c Q cells slots G L (.int v :: st) (pc + 1)) : Z g0 d y cc nL ret tb p l e R s m args below meth c Q cells slots G L (.int a :: st) pc :=
  fun hc H locs ls hP hS hl => lv_i2b hc.x hc.b hd hv (k hc H locs ls hP hS hl)
theorem z_dup {va : Value} (hd : decode cc pc = .ok (.dup, 1)) (hva : va.category = 1) (k : Z g0 d y cc nL ret tb p l e R s m args below meth c Q cells slots G L (va :: va :: st) (pc + 1)) : Z g0 d y cc nL ret tb p l e R s m args below meth c Q cells slots G L (va :: st) pc :=
  fun hc H locs ls hP hS hl => lv_dup hc.x hc.b hd hva (k hc H locs ls hP hS hl)
theorem z_pop {va : Value} (hd : decode cc pc = .ok (.pop, 1)) (hva : va.category = 1) (k : Z g0 d y cc nL ret tb p l e R s m args below meth c Q cells slots G L (st) (pc + 1)) : Z g0 d y cc nL ret tb p l e R s m args below meth c Q cells slots G L (va :: st) pc :=
  fun hc H locs ls hP hS hl => lv_pop hc.x hc.b hd hva (k hc H locs ls hP hS hl)
theorem z_dup_x1 {va vb : Value} (hd : decode cc pc = .ok (.dup_x1, 1)) (hva : va.category = 1) (hvb : vb.category = 1) (k : Z g0 d y cc nL ret tb p l e R s m args below meth c Q cells slots G L (va :: vb :: va :: st) (pc + 1)) : Z g0 d y cc nL ret tb p l e R s m args below meth c Q cells slots G L (va :: vb :: st) pc :=
  fun hc H locs ls hP hS hl => lv_dup_x1 hc.x hc.b hd hva hvb (k hc H locs ls hP hS hl)
theorem z_dup_x2 {va vb vd : Value} (hd : decode cc pc = .ok (.dup_x2, 1)) (hva : va.category = 1) (hvb : vb.category = 1) (hvd : vd.category = 1) (k : Z g0 d y cc nL ret tb p l e R s m args below meth c Q cells slots G L (va :: vb :: vd :: va :: st) (pc + 1)) : Z g0 d y cc nL ret tb p l e R s m args below meth c Q cells slots G L (va :: vb :: vd :: st) pc :=
  fun hc H locs ls hP hS hl => lv_dup_x2 hc.x hc.b hd hva hvb hvd (k hc H locs ls hP hS hl)
theorem z_dup2_11 {va vb : Value} (hd : decode cc pc = .ok (.dup2, 1)) (hva : va.category = 1) (hvb : vb.category = 1) (k : Z g0 d y cc nL ret tb p l e R s m args below meth c Q cells slots G L (va :: vb :: va :: vb :: st) (pc + 1)) : Z g0 d y cc nL ret tb p l e R s m args below meth c Q cells slots G L (va :: vb :: st) pc :=
  fun hc H locs ls hP hS hl => lv_dup2_11 hc.x hc.b hd hva hvb (k hc H locs ls hP hS hl)
theorem z_dup2_2 {va : Value} (hd : decode cc pc = .ok (.dup2, 1)) (hva : va.category = 2) (k : Z g0 d y cc nL ret tb p l e R s m args below meth c Q cells slots G L (va :: va :: st) (pc + 1)) : Z g0 d y cc nL ret tb p l e R s m args below meth c Q cells slots G L (va :: st) pc :=
  fun hc H locs ls hP hS hl => lv_dup2_2 hc.x hc.b hd hva (k hc H locs ls hP hS hl)
theorem z_pop2_11 {va vb : Value} (hd : decode cc pc = .ok (.pop2, 1)) (hva : va.category = 1) (hvb : vb.category = 1) (k : Z g0 d y cc nL ret tb p l e R s m args below meth c Q cells slots G L (st) (pc + 1)) : Z g0 d y cc nL ret tb p l e R s m args below meth c Q cells slots G L (va :: vb :: st) pc :=
  fun hc H locs ls hP hS hl => lv_pop2_11 hc.x hc.b hd hva hvb (k hc H locs ls hP hS hl)
theorem z_pop2_2 {va : Value} (hd : decode cc pc = .ok (.pop2, 1)) (hva : va.category = 2) (k : Z g0 d y cc nL ret tb p l e R s m args below meth c Q cells slots G L (st) (pc + 1)) : Z g0 d y cc nL ret tb p l e R s m args below meth c Q cells slots G L (va :: st) pc :=
  fun hc H locs ls hP hS hl => lv_pop2_2 hc.x hc.b hd hva (k hc H locs ls hP hS hl)
theorem z_null  (hd : decode cc pc = .ok (.aconst_null, 1))  (k : Z g0 d y cc nL ret tb p l e R s m args below meth c Q cells slots G L (.null :: st) (pc + 1)) : Z g0 d y cc nL ret tb p l e R s m args below meth c Q cells slots G L (st) pc :=
  fun hc H locs ls hP hS hl => lv_null hc.x hc.b hd  (k hc H locs ls hP hS hl)
theorem z_i2d {a : Int32} (hd : decode cc pc = .ok (.i2d, 1))  (k : Z g0 d y cc nL ret tb p l e R s m args below meth c Q cells slots G L (.double (FP.i2d a) :: st) (pc + 1)) : Z g0 d y cc nL ret tb p l e R s m args below meth c Q cells slots G L (.int a :: st) pc :=
  fun hc H locs ls hP hS hl => lv_i2d hc.x hc.b hd  (k hc H locs ls hP hS hl)
theorem z_d2l {a : UInt64} (hd : decode cc pc = .ok (.d2l, 1))  (k : Z g0 d y cc nL ret tb p l e R s m args below meth c Q cells slots G L (.long (FP.d2l a) :: st) (pc + 1)) : Z g0 d y cc nL ret tb p l e R s m args below meth c Q cells slots G L (.double a :: st) pc :=
  fun hc H locs ls hP hS hl => lv_d2l hc.x hc.b hd  (k hc H locs ls hP hS hl)
theorem z_dcmp {a b : UInt64} {op : CmpOp} (hd : decode cc pc = .ok (.dcmp op, 1))  (k : Z g0 d y cc nL ret tb p l e R s m args below meth c Q cells slots G L (.int (Op.cmpValue (FP.dcmp a b) op) :: st) (pc + 1)) : Z g0 d y cc nL ret tb p l e R s m args below meth c Q cells slots G L (.double b :: .double a :: st) pc :=
  fun hc H locs ls hP hS hl => lv_dcmp hc.x hc.b hd  (k hc H locs ls hP hS hl)
theorem z_dadd {a b : UInt64} (hd : decode cc pc = .ok (.dadd, 1)) (hne : vf_n64 (FP.dadd a b)) (k : Z g0 d y cc nL ret tb p l e R s m args below meth c Q cells slots G L (.double (FP.dadd a b) :: st) (pc + 1)) : Z g0 d y cc nL ret tb p l e R s m args below meth c Q cells slots G L (.double b :: .double a :: st) pc :=
  fun hc H locs ls hP hS hl => lv_dadd hc.x hc.b hd hne (k hc H locs ls hP hS hl)
theorem z_dmul {a b : UInt64} (hd : decode cc pc = .ok (.dmul, 1)) (hne : vf_n64 (FP.dmul a b)) (k : Z g0 d y cc nL ret tb p l e R s m args below meth c Q cells slots G L (.double (FP.dmul a b) :: st) (pc + 1)) : Z g0 d y cc nL ret tb p l e R s m args below meth c Q cells slots G L (.double b :: .double a :: st) pc :=
  fun hc H locs ls hP hS hl => lv_dmul hc.x hc.b hd hne (k hc H locs ls hP hS hl)
theorem z_ddiv {a b : UInt64} (hd : decode cc pc = .ok (.ddiv, 1)) (hne : vf_n64 (FP.ddiv a b)) (k : Z g0 d y cc nL ret tb p l e R s m args below meth c Q cells slots G L (.double (FP.ddiv a b) :: st) (pc + 1)) : Z g0 d y cc nL ret tb p l e R s m args below meth c Q cells slots G L (.double b :: .double a :: st) pc :=
  fun hc H locs ls hP hS hl => lv_ddiv hc.x hc.b hd hne (k hc H locs ls hP hS hl)
theorem z_if_eq {x : Int32} {off : Int} (tgt : Nat) (hd : decode cc pc = .ok (.ifCond .eq off, 3)) (ht : (pc : Int) + off = (tgt : Int)) (kt : x = 0 → Z g0 d y cc nL ret tb p l e R s m args below meth c Q cells slots G L st tgt) (kf : ¬ x = 0 → Z g0 d y cc nL ret tb p l e R s m args below meth c Q cells slots G L st (pc + 3)) : Z g0 d y cc nL ret tb p l e R s m args below meth c Q cells slots G L (.int x :: st) pc :=
  fun hc H locs ls hP hS hl => lv_if_eq hc.x hc.b hd ht (fun q => kt q hc H locs ls hP hS hl) (fun q => kf q hc H locs ls hP hS hl)
theorem z_icmp_eq {x z : Int32} {off : Int} (tgt : Nat) (hd : decode cc pc = .ok (.if_icmp .eq off, 3)) (ht : (pc : Int) + off = (tgt : Int)) (kt : x = z → Z g0 d y cc nL ret tb p l e R s m args below meth c Q cells slots G L st tgt) (kf : ¬ x = z → Z g0 d y cc nL ret tb p l e R s m args below meth c Q cells slots G L st (pc + 3)) : Z g0 d y cc nL ret tb p l e R s m args below meth c Q cells slots G L (.int z :: .int x :: st) pc :=
  fun hc H locs ls hP hS hl => lv_icmp_eq hc.x hc.b hd ht (fun q => kt q hc H locs ls hP hS hl) (fun q => kf q hc H locs ls hP hS hl)
theorem z_if_ne {x : Int32} {off : Int} (tgt : Nat) (hd : decode cc pc = .ok (.ifCond .ne off, 3)) (ht : (pc : Int) + off = (tgt : Int)) (kt : ¬ x = 0 → Z g0 d y cc nL ret tb p l e R s m args below meth c Q cells slots G L st tgt) (kf : x = 0 → Z g0 d y cc nL ret tb p l e R s m args below meth c Q cells slots G L st (pc + 3)) : Z g0 d y cc nL ret tb p l e R s m args below meth c Q cells slots G L (.int x :: st) pc :=
  fun hc H locs ls hP hS hl => lv_if_ne hc.x hc.b hd ht (fun q => kt q hc H locs ls hP hS hl) (fun q => kf q hc H locs ls hP hS hl)
theorem z_icmp_ne {x z : Int32} {off : Int} (tgt : Nat) (hd : decode cc pc = .ok (.if_icmp .ne off, 3)) (ht : (pc : Int) + off = (tgt : Int)) (kt : ¬ x = z → Z g0 d y cc nL ret tb p l e R s m args below meth c Q cells slots G L st tgt) (kf : x = z → Z g0 d y cc nL ret tb p l e R s m args below meth c Q cells slots G L st (pc + 3)) : Z g0 d y cc nL ret tb p l e R s m args below meth c Q cells slots G L (.int z :: .int x :: st) pc :=
  fun hc H locs ls hP hS hl => lv_icmp_ne hc.x hc.b hd ht (fun q => kt q hc H locs ls hP hS hl) (fun q => kf q hc H locs ls hP hS hl)
theorem z_if_lt {x : Int32} {off : Int} (tgt : Nat) (hd : decode cc pc = .ok (.ifCond .lt off, 3)) (ht : (pc : Int) + off = (tgt : Int)) (kt : x < 0 → Z g0 d y cc nL ret tb p l e R s m args below meth c Q cells slots G L st tgt) (kf : ¬ x < 0 → Z g0 d y cc nL ret tb p l e R s m args below meth c Q cells slots G L st (pc + 3)) : Z g0 d y cc nL ret tb p l e R s m args below meth c Q cells slots G L (.int x :: st) pc :=
  fun hc H locs ls hP hS hl => lv_if_lt hc.x hc.b hd ht (fun q => kt q hc H locs ls hP hS hl) (fun q => kf q hc H locs ls hP hS hl)
theorem z_icmp_lt {x z : Int32} {off : Int} (tgt : Nat) (hd : decode cc pc = .ok (.if_icmp .lt off, 3)) (ht : (pc : Int) + off = (tgt : Int)) (kt : x < z → Z g0 d y cc nL ret tb p l e R s m args below meth c Q cells slots G L st tgt) (kf : ¬ x < z → Z g0 d y cc nL ret tb p l e R s m args below meth c Q cells slots G L st (pc + 3)) : Z g0 d y cc nL ret tb p l e R s m args below meth c Q cells slots G L (.int z :: .int x :: st) pc :=
  fun hc H locs ls hP hS hl => lv_icmp_lt hc.x hc.b hd ht (fun q => kt q hc H locs ls hP hS hl) (fun q => kf q hc H locs ls hP hS hl)
theorem z_if_ge {x : Int32} {off : Int} (tgt : Nat) (hd : decode cc pc = .ok (.ifCond .ge off, 3)) (ht : (pc : Int) + off = (tgt : Int)) (kt : 0 ≤ x → Z g0 d y cc nL ret tb p l e R s m args below meth c Q cells slots G L st tgt) (kf : ¬ 0 ≤ x → Z g0 d y cc nL ret tb p l e R s m args below meth c Q cells slots G L st (pc + 3)) : Z g0 d y cc nL ret tb p l e R s m args below meth c Q cells slots G L (.int x :: st) pc :=
  fun hc H locs ls hP hS hl => lv_if_ge hc.x hc.b hd ht (fun q => kt q hc H locs ls hP hS hl) (fun q => kf q hc H locs ls hP hS hl)
theorem z_icmp_ge {x z : Int32} {off : Int} (tgt : Nat) (hd : decode cc pc = .ok (.if_icmp .ge off, 3)) (ht : (pc : Int) + off = (tgt : Int)) (kt : z ≤ x → Z g0 d y cc nL ret tb p l e R s m args below meth c Q cells slots G L st tgt) (kf : ¬ z ≤ x → Z g0 d y cc nL ret tb p l e R s m args below meth c Q cells slots G L st (pc + 3)) : Z g0 d y cc nL ret tb p l e R s m args below meth c Q cells slots G L (.int z :: .int x :: st) pc :=
  fun hc H locs ls hP hS hl => lv_icmp_ge hc.x hc.b hd ht (fun q => kt q hc H locs ls hP hS hl) (fun q => kf q hc H locs ls hP hS hl)
theorem z_if_gt {x : Int32} {off : Int} (tgt : Nat) (hd : decode cc pc = .ok (.ifCond .gt off, 3)) (ht : (pc : Int) + off = (tgt : Int)) (kt : 0 < x → Z g0 d y cc nL ret tb p l e R s m args below meth c Q cells slots G L st tgt) (kf : ¬ 0 < x → Z g0 d y cc nL ret tb p l e R s m args below meth c Q cells slots G L st (pc + 3)) : Z g0 d y cc nL ret tb p l e R s m args below meth c Q cells slots G L (.int x :: st) pc :=
  fun hc H locs ls hP hS hl => lv_if_gt hc.x hc.b hd ht (fun q => kt q hc H locs ls hP hS hl) (fun q => kf q hc H locs ls hP hS hl)
theorem z_icmp_gt {x z : Int32} {off : Int} (tgt : Nat) (hd : decode cc pc = .ok (.if_icmp .gt off, 3)) (ht : (pc : Int) + off = (tgt : Int)) (kt : z < x → Z g0 d y cc nL ret tb p l e R s m args below meth c Q cells slots G L st tgt) (kf : ¬ z < x → Z g0 d y cc nL ret tb p l e R s m args below meth c Q cells slots G L st (pc + 3)) : Z g0 d y cc nL ret tb p l e R s m args below meth c Q cells slots G L (.int z :: .int x :: st) pc :=
  fun hc H locs ls hP hS hl => lv_icmp_gt hc.x hc.b hd ht (fun q => kt q hc H locs ls hP hS hl) (fun q => kf q hc H locs ls hP hS hl)
theorem z_if_le {x : Int32} {off : Int} (tgt : Nat) (hd : decode cc pc = .ok (.ifCond .le off, 3)) (ht : (pc : Int) + off = (tgt : Int)) (kt : x ≤ 0 → Z g0 d y cc nL ret tb p l e R s m args below meth c Q cells slots G L st tgt) (kf : ¬ x ≤ 0 → Z g0 d y cc nL ret tb p l e R s m args below meth c Q cells slots G L st (pc + 3)) : Z g0 d y cc nL ret tb p l e R s m args below meth c Q cells slots G L (.int x :: st) pc :=
  fun hc H locs ls hP hS hl => lv_if_le hc.x hc.b hd ht (fun q => kt q hc H locs ls hP hS hl) (fun q => kf q hc H locs ls hP hS hl)
theorem z_icmp_le {x z : Int32} {off : Int} (tgt : Nat) (hd : decode cc pc = .ok (.if_icmp .le off, 3)) (ht : (pc : Int) + off = (tgt : Int)) (kt : x ≤ z → Z g0 d y cc nL ret tb p l e R s m args below meth c Q cells slots G L st tgt) (kf : ¬ x ≤ z → Z g0 d y cc nL ret tb p l e R s m args below meth c Q cells slots G L st (pc + 3)) : Z g0 d y cc nL ret tb p l e R s m args below meth c Q cells slots G L (.int z :: .int x :: st) pc :=
  fun hc H locs ls hP hS hl => lv_icmp_le hc.x hc.b hd ht (fun q => kt q hc H locs ls hP hS hl) (fun q => kf q hc H locs ls hP hS hl)
theorem z_goto {off : Int} (tgt : Nat) (hd : decode cc pc = .ok (.goto off, 3)) (ht : (pc : Int) + off = (tgt : Int)) (k : Z g0 d y cc nL ret tb p l e R s m args below meth c Q cells slots G L st tgt) : Z g0 d y cc nL ret tb p l e R s m args below meth c Q cells slots G L st pc :=
  fun hc H locs ls hP hS hl => lv_goto hc.x hc.b hd ht (k hc H locs ls hP hS hl)
theorem z_tableIn {dflt lo hi : Int} {offs : Array Int} {len : Nat} {x : Int32} {off : Int} (tgt : Nat) (hd : decode cc pc = .ok (.tableswitch dflt lo hi offs, len)) (h1 : ¬ x.toInt < lo) (h2 : ¬ hi < x.toInt) (ho : offs[(x.toInt - lo).toNat]? = some off) (ht : (pc : Int) + off = (tgt : Int)) (k : Z g0 d y cc nL ret tb p l e R s m args below meth c Q cells slots G L st tgt) : Z g0 d y cc nL ret tb p l e R s m args below meth c Q cells slots G L (.int x :: st) pc :=
  fun hc H locs ls hP hS hl => lv_tableIn hc.x hc.b hd h1 h2 ho ht (k hc H locs ls hP hS hl)
theorem z_tableOut {dflt lo hi : Int} {offs : Array Int} {len : Nat} {x : Int32} (tgt : Nat) (hd : decode cc pc = .ok (.tableswitch dflt lo hi offs, len)) (h : x.toInt < lo ∨ hi < x.toInt) (ht : (pc : Int) + dflt = (tgt : Int)) (k : Z g0 d y cc nL ret tb p l e R s m args below meth c Q cells slots G L st tgt) : Z g0 d y cc nL ret tb p l e R s m args below meth c Q cells slots G L (.int x :: st) pc :=
  fun hc H locs ls hP hS hl => lv_tableOut hc.x hc.b hd h ht (k hc H locs ls hP hS hl)
theorem z_ifnonnull {x : Nat} {off : Int} (tgt : Nat) (hd : decode cc pc = .ok (.ifnonnull off, 3)) (ht : (pc : Int) + off = (tgt : Int)) (k : Z g0 d y cc nL ret tb p l e R s m args below meth c Q cells slots G L st tgt) : Z g0 d y cc nL ret tb p l e R s m args below meth c Q cells slots G L (.ref x :: st) pc :=
  fun hc H locs ls hP hS hl => lv_ifnonnull hc.x hc.b hd ht (k hc H locs ls hP hS hl)
theorem z_ldc {idx : Nat} {v : Int32} (hq : Cond.constant y.cls idx v ∈ lw_tbl) (hd : decode cc pc = .ok (.ldc idx, 2)) (k : Z g0 d y cc nL ret tb p l e R s m args below meth c Q cells slots G L (.int v :: st) (pc + 2)) : Z g0 d y cc nL ret tb p l e R s m args below meth c Q cells slots G L st pc :=
  fun hc H locs ls hP hS hl => lv_ldc hc.x hc.b hc.own (hc.w hq rfl args) hd (k hc H locs ls hP hS hl)
theorem z_ldcw {idx : Nat} {v : Int32} (hq : Cond.constant y.cls idx v ∈ lw_tbl) (hd : decode cc pc = .ok (.ldc_w idx, 3)) (k : Z g0 d y cc nL ret tb p l e R s m args below meth c Q cells slots G L (.int v :: st) (pc + 3)) : Z g0 d y cc nL ret tb p l e R s m args below meth c Q cells slots G L st pc :=
  fun hc H locs ls hP hS hl => lv_ldcw hc.x hc.b hc.own (hc.w hq rfl args) hd (k hc H locs ls hP hS hl)
theorem z_ldc2 {idx : Nat} {v : Int64} (hq : Cond.constantLong y.cls idx v ∈ lw_tbl) (hd : decode cc pc = .ok (.ldc2_w idx, 3)) (k : Z g0 d y cc nL ret tb p l e R s m args below meth c Q cells slots G L (.long v :: st) (pc + 3)) : Z g0 d y cc nL ret tb p l e R s m args below meth c Q cells slots G L st pc :=
  fun hc H locs ls hP hS hl => lv_ldc2 hc.x hc.b hc.own (hc.w hq rfl args) hd (k hc H locs ls hP hS hl)
theorem z_ldc2d {idx : Nat} {v : UInt64} (hq : Cond.constantDouble y.cls idx v ∈ lw_tbl) (hd : decode cc pc = .ok (.ldc2_w idx, 3)) (k : Z g0 d y cc nL ret tb p l e R s m args below meth c Q cells slots G L (.double v :: st) (pc + 3)) : Z g0 d y cc nL ret tb p l e R s m args below meth c Q cells slots G L st pc :=
  fun hc H locs ls hP hS hl => lv_ldc2d hc.x hc.b hc.own (hc.w hq rfl args) hd (k hc H locs ls hP hS hl)
theorem z_topi {x : Int32} (k : ∀ v : Int32, v = x → Z g0 d y cc nL ret tb p l e R s m args below meth c Q cells slots G L (.int v :: st) pc) : Z g0 d y cc nL ret tb p l e R s m args below meth c Q cells slots G L (.int x :: st) pc := k x rfl
theorem z_topv {x v : Int32} (h : x = v) (k : Z g0 d y cc nL ret tb p l e R s m args below meth c Q cells slots G L (.int v :: st) pc) : Z g0 d y cc nL ret tb p l e R s m args below meth c Q cells slots G L (.int x :: st) pc := by rw [h]; exact k
theorem z_sub (is : List Nat) (h : lv_pick L is = L') (k : Z g0 d y cc nL ret tb p l e R s m args below meth c Q cells slots G L' st pc) : Z g0 d y cc nL ret tb p l e R s m args below meth c Q cells slots G L st pc := fun hc H locs ls hP hS hl => k hc H locs ls hP hS (lv_sub hl is h)
theorem z_widen {k n : Nat} (h1 : cells ≤ k) (h2 : slots ≤ n) (kk : Z g0 d y cc nL ret tb p l e R s m args below meth c Q k n G L st pc) : Z g0 d y cc nL ret tb p l e R s m args below meth c Q cells slots G L st pc := fun hc H locs ls hP hS hl => W.widen h1 h2 (kk hc H locs ls hP hS hl)
theorem z_pic {G' : zG} (h : ∀ a v, G' a = some v → G a = some v) (k : Z g0 d y cc nL ret tb p l e R s m args below meth c Q cells slots G' L st pc) : Z g0 d y cc nL ret tb p l e R s m args below meth c Q cells slots G L st pc := fun hc H locs ls hP hS hl => k hc H locs ls (hP.mono h) hS hl
theorem z_get {ci : Nat} {C : String} {T : u_T} {N : Nat} {ty : Nat → FieldType} (hz : zCl ci C T N ty) {a idx : Nat} {fs : List Value} {v : Value} (k : Nat) (hk : k < N) (hq : Cond.fieldLink y.cls idx (T k).1 (T k).2.1 (T k).2.2.1 ∈ lw_tbl) (hG : G a = some (zob ci fs)) (hv : fs[k]? = some v) (hd : decode cc pc = .ok (.getfield idx, 3)) (kk : Z g0 d y cc nL ret tb p l e R s m args below meth c Q cells slots G L (v :: st) (pc + 3)) : Z g0 d y cc nL ret tb p l e R s m args below meth c Q cells slots G L (.ref a :: st) pc := by
  intro hc H locs ls hP hS hl
  obtain ⟨j, hj⟩ := hP.in hG
  exact va_get hc.x hc.b (hc.lays hz args) (fun _ h => h) hc.own hc.K hP.P j hj hz.1 k hk (hc.w hq rfl args) (fun _ h => h) hv hd (kk hc H locs ls hP hS hl)
theorem z_put {ci : Nat} {C : String} {T : u_T} {N : Nat} {ty : Nat → FieldType} (hz : zCl ci C T N ty) {a idx : Nat} {fs : List Value} {v : Value} (k : Nat) (hk : k < N) (hq : Cond.fieldLink y.cls idx (T k).1 (T k).2.1 (T k).2.2.1 ∈ lw_tbl) (hG : G a = some (zob ci fs)) (hfin : (T k).2.2.2 = false) (hn : narrow (ty k) v = v) (hfit : fits (ty k) v = true) (hlen : k < fs.length) (hd : decode cc pc = .ok (.putfield idx, 3)) (kk : Z g0 d y cc nL ret tb p l e R s m args below meth c Q cells slots (zu G a (zob ci (fs.set k v))) L st (pc + 3)) : Z g0 d y cc nL ret tb p l e R s m args below meth c Q cells slots G L (v :: .ref a :: st) pc := by
  intro hc H locs ls hP hS hl
  obtain ⟨j, hj⟩ := hP.in hG
  exact va_put hc.x hc.b (hc.lays hz args) (fun _ h => h) ty hz.2.2.1 hz.2.2.2 hc.own hc.K hP.P hP.D hS j hj hz.1 k hk (hc.w hq rfl args) (fun _ h => h) hfin (hz.2.2.1 k hk) hn hfit hlen hd (fun H1 locs1 hP1 hD1 hS1 => kk hc H1 locs1 ls (hP.set hj hP1) hS1 hl)
theorem z_putF {ci : Nat} {C : String} {T : u_T} {N : Nat} {ty : Nat → FieldType} (hz : zCl ci C T N ty) {a idx : Nat} {fs : List Value} {v : Value} (k : Nat) (hk : k < N) (hq : Cond.fieldLink y.cls idx (T k).1 (T k).2.1 (T k).2.2.1 ∈ lw_tbl) (hG : G a = some (zob ci fs)) (hfin : (T k).2.2.2 = true) (hin : y.name = "<init>") (hdecl : (T k).1 = y.cls) (hn : narrow (ty k) v = v) (hfit : fits (ty k) v = true) (hlen : k < fs.length) (hd : decode cc pc = .ok (.putfield idx, 3)) (kk : Z g0 d y cc nL ret tb p l e R s m args below meth c Q cells slots (zu G a (zob ci (fs.set k v))) L st (pc + 3)) : Z g0 d y cc nL ret tb p l e R s m args below meth c Q cells slots G L (v :: .ref a :: st) pc := by
  intro hc H locs ls hP hS hl
  obtain ⟨j, hj⟩ := hP.in hG
  exact va_putF hc.x hc.b (hc.lays hz args) (fun _ h => h) ty hz.2.2.1 hz.2.2.2 hc.own hc.K hP.P hP.D hS j hj hz.1 k hk (hc.w hq rfl args) (fun _ h => h) hfin (hc.nm.trans hin) hdecl (hz.2.2.1 k hk) hn hfit hlen hd (fun H1 locs1 hP1 hD1 hS1 => kk hc H1 locs1 ls (hP.set hj hP1) hS1 hl)
theorem z_iald {a n : Nat} {f : Nat → Int32} {i : Int32} (hG : G a = some (zI d n f)) (hin : vp_in i n) (hd : decode cc pc = .ok (.iaload, 1)) (k : Z g0 d y cc nL ret tb p l e R s m args below meth c Q cells slots G L (.int (f i.toNatClampNeg) :: st) (pc + 1)) : Z g0 d y cc nL ret tb p l e R s m args below meth c Q cells slots G L (.int i :: .ref a :: st) pc := by
  intro hc H locs ls hP hS hl
  obtain ⟨j, hj⟩ := hP.in hG
  exact va_iald hc.x hc.b hc.K hP.P j 0 hj rfl hin hd (k hc H locs ls hP hS hl)
theorem z_dald {a n : Nat} {f : Nat → UInt64} {i : Int32} (hG : G a = some (zDb d n f)) (hin : vp_in i n) (hd : decode cc pc = .ok (.daload, 1)) (k : Z g0 d y cc nL ret tb p l e R s m args below meth c Q cells slots G L (.double (f i.toNatClampNeg) :: st) (pc + 1)) : Z g0 d y cc nL ret tb p l e R s m args below meth c Q cells slots G L (.int i :: .ref a :: st) pc := by
  intro hc H locs ls hP hS hl
  obtain ⟨j, hj⟩ := hP.in hG
  exact va_dald hc.x hc.b hc.K hP.P j 1 hj rfl hin hd (k hc H locs ls hP hS hl)
theorem z_bald {a n : Nat} {f : Nat → Int32} {i : Int32} (hG : G a = some (zBy d n f)) (hin : vp_in i n) (hd : decode cc pc = .ok (.baload, 1)) (k : Z g0 d y cc nL ret tb p l e R s m args below meth c Q cells slots G L (.int (f i.toNatClampNeg) :: st) (pc + 1)) : Z g0 d y cc nL ret tb p l e R s m args below meth c Q cells slots G L (.int i :: .ref a :: st) pc := by
  intro hc H locs ls hP hS hl
  obtain ⟨j, hj⟩ := hP.in hG
  exact va_bald hc.x hc.b hc.K hP.P j 2 hj rfl hin hd (k hc H locs ls hP hS hl)
theorem z_iast {a n : Nat} {f : Nat → Int32} {i : Int32} {x : Int32} (hG : G a = some (zI d n f)) (hin : vp_in i n) (hd : decode cc pc = .ok (.iastore, 1)) (k : Z g0 d y cc nL ret tb p l e R s m args below meth c Q cells slots (zu G a (zI d n (upd f i.toNatClampNeg x))) L st (pc + 1)) : Z g0 d y cc nL ret tb p l e R s m args below meth c Q cells slots G L (.int x :: .int i :: .ref a :: st) pc := by
  intro hc H locs ls hP hS hl
  obtain ⟨j, hj⟩ := hP.in hG
  exact va_iast hc.x hc.b hc.K hP.P hP.D hS j 0 hj rfl hin hd (fun H1 locs1 hP1 hD1 hS1 => k hc H1 locs1 ls (hP.set hj hP1) hS1 hl)
theorem z_dast {a n : Nat} {f : Nat → UInt64} {i : Int32} {x : UInt64} (hG : G a = some (zDb d n f)) (hin : vp_in i n) (hd : decode cc pc = .ok (.dastore, 1)) (k : Z g0 d y cc nL ret tb p l e R s m args below meth c Q cells slots (zu G a (zDb d n (vf_upd f i.toNatClampNeg x))) L st (pc + 1)) : Z g0 d y cc nL ret tb p l e R s m args below meth c Q cells slots G L (.double x :: .int i :: .ref a :: st) pc := by
  intro hc H locs ls hP hS hl
  obtain ⟨j, hj⟩ := hP.in hG
  exact va_dast hc.x hc.b hc.K hP.P hP.D hS j 1 hj rfl hin hd (fun H1 locs1 hP1 hD1 hS1 => k hc H1 locs1 ls (hP.set hj hP1) hS1 hl)
theorem z_bast {a n : Nat} {f : Nat → Int32} {i : Int32} {x : Int32} (hG : G a = some (zBy d n f)) (hin : vp_in i n) (hd : decode cc pc = .ok (.bastore, 1)) (k : Z g0 d y cc nL ret tb p l e R s m args below meth c Q cells slots (zu G a (zBy d n (upd f i.toNatClampNeg (vp_nar .byte x)))) L st (pc + 1)) : Z g0 d y cc nL ret tb p l e R s m args below meth c Q cells slots G L (.int x :: .int i :: .ref a :: st) pc := by
  intro hc H locs ls hP hS hl
  obtain ⟨j, hj⟩ := hP.in hG
  exact va_bast hc.x hc.b hc.K hP.P hP.D hS j 2 hj rfl hin hd (fun H1 locs1 hP1 hD1 hS1 => k hc H1 locs1 ls (hP.set hj hP1) hS1 hl)
theorem z_aald {a n : Nat} {f : Nat → Option Nat} {i : Int32} (hG : G a = some (zO d n f)) (hin : vp_in i n) (hd : decode cc pc = .ok (.aaload, 1)) (k : Z g0 d y cc nL ret tb p l e R s m args below meth c Q cells slots G L (va_rf (f i.toNatClampNeg) :: st) (pc + 1)) : Z g0 d y cc nL ret tb p l e R s m args below meth c Q cells slots G L (.int i :: .ref a :: st) pc := by
  intro hc H locs ls hP hS hl
  obtain ⟨j, hj⟩ := hP.in hG
  exact va_aldq hc.x hc.b hc.K hP.P j 3 hj rfl hin hd (k hc H locs ls hP hS hl)
theorem z_alenI {a n : Nat} {f : Nat → Int32} (hG : G a = some (zI d n f)) (hd : decode cc pc = .ok (.arraylength, 1)) (k : Z g0 d y cc nL ret tb p l e R s m args below meth c Q cells slots G L (.int (Int32.ofNat n) :: st) (pc + 1)) : Z g0 d y cc nL ret tb p l e R s m args below meth c Q cells slots G L (.ref a :: st) pc := by
  intro hc H locs ls hP hS hl
  obtain ⟨j, hj⟩ := hP.in hG
  exact va_alen hc.x hc.b hc.K hP.P j 0 hj rfl rfl hd (k hc H locs ls hP hS hl)
theorem z_alenD {a n : Nat} {f : Nat → UInt64} (hG : G a = some (zDb d n f)) (hd : decode cc pc = .ok (.arraylength, 1)) (k : Z g0 d y cc nL ret tb p l e R s m args below meth c Q cells slots G L (.int (Int32.ofNat n) :: st) (pc + 1)) : Z g0 d y cc nL ret tb p l e R s m args below meth c Q cells slots G L (.ref a :: st) pc := by
  intro hc H locs ls hP hS hl
  obtain ⟨j, hj⟩ := hP.in hG
  exact va_alen hc.x hc.b hc.K hP.P j 1 hj rfl rfl hd (k hc H locs ls hP hS hl)
theorem z_alenB {a n : Nat} {f : Nat → Int32} (hG : G a = some (zBy d n f)) (hd : decode cc pc = .ok (.arraylength, 1)) (k : Z g0 d y cc nL ret tb p l e R s m args below meth c Q cells slots G L (.int (Int32.ofNat n) :: st) (pc + 1)) : Z g0 d y cc nL ret tb p l e R s m args below meth c Q cells slots G L (.ref a :: st) pc := by
  intro hc H locs ls hP hS hl
  obtain ⟨j, hj⟩ := hP.in hG
  exact va_alen hc.x hc.b hc.K hP.P j 2 hj rfl rfl hd (k hc H locs ls hP hS hl)
theorem z_alenO {a n : Nat} {f : Nat → Option Nat} (hG : G a = some (zO d n f)) (hd : decode cc pc = .ok (.arraylength, 1)) (k : Z g0 d y cc nL ret tb p l e R s m args below meth c Q cells slots G L (.int (Int32.ofNat n) :: st) (pc + 1)) : Z g0 d y cc nL ret tb p l e R s m args below meth c Q cells slots G L (.ref a :: st) pc := by
  intro hc H locs ls hP hS hl
  obtain ⟨j, hj⟩ := hP.in hG
  exact va_alen hc.x hc.b hc.K hP.P j 3 hj rfl rfl hd (k hc H locs ls hP hS hl)
theorem z_iret {post : Option Value → zG → Prop} {px : String → zG → Prop} {mc ms : Nat} {v : Int32} (hr : ret = some .int) (hp : post (some (.int v)) G) (h1 : cells ≤ mc) (h2 : slots ≤ ms) (hd : decode cc pc = .ok (.ireturn, 1)) : Z g0 d y cc nL ret tb p l e R s m args below meth c (vx_MQ below (zQc g0 d post) (zXc g0 d px) args s mc ms (zA g0)) cells slots G L [.int v] pc :=
  fun hc H locs ls hP hS hl => W.widen h1 h2 (vx_ret (W.iret hc.x hc.b (hc.r.trans hr) (fun t ht hW => ⟨⟨_, G, rfl, hp, by rw [ht]; exact hP⟩, hS.F ht⟩) hS.2.2 hd hc.locks))
theorem z_zret {post : Option Value → zG → Prop} {px : String → zG → Prop} {mc ms : Nat} {v : Int32} (hr : ret = some .boolean) (hn : narrow .boolean (.int v) = .int v) (hp : post (some (.int v)) G) (h1 : cells ≤ mc) (h2 : slots ≤ ms) (hd : decode cc pc = .ok (.ireturn, 1)) : Z g0 d y cc nL ret tb p l e R s m args below meth c (vx_MQ below (zQc g0 d post) (zXc g0 d px) args s mc ms (zA g0)) cells slots G L [.int v] pc :=
  fun hc H locs ls hP hS hl => W.widen h1 h2 (vx_ret (W.zret hc.x hc.b (hc.r.trans hr) hn (fun t ht hW => ⟨⟨_, G, rfl, hp, by rw [ht]; exact hP⟩, hS.F ht⟩) hS.2.2 hd hc.locks))
theorem z_lret {post : Option Value → zG → Prop} {px : String → zG → Prop} {mc ms : Nat} {v : Int64} (hr : ret = some .long) (hp : post (some (.long v)) G) (h1 : cells ≤ mc) (h2 : slots ≤ ms) (hd : decode cc pc = .ok (.lreturn, 1)) : Z g0 d y cc nL ret tb p l e R s m args below meth c (vx_MQ below (zQc g0 d post) (zXc g0 d px) args s mc ms (zA g0)) cells slots G L [.long v] pc :=
  fun hc H locs ls hP hS hl => W.widen h1 h2 (vx_ret (W.lret hc.x hc.b (hc.r.trans hr) (fun t ht hW => ⟨⟨_, G, rfl, hp, by rw [ht]; exact hP⟩, hS.F ht⟩) hS.2.2 hd hc.locks))
theorem z_dret {post : Option Value → zG → Prop} {px : String → zG → Prop} {mc ms : Nat} {v : UInt64} (hr : ret = some .double) (hp : post (some (.double v)) G) (h1 : cells ≤ mc) (h2 : slots ≤ ms) (hd : decode cc pc = .ok (.dreturn, 1)) : Z g0 d y cc nL ret tb p l e R s m args below meth c (vx_MQ below (zQc g0 d post) (zXc g0 d px) args s mc ms (zA g0)) cells slots G L [.double v] pc :=
  fun hc H locs ls hP hS hl => W.widen h1 h2 (vx_ret (W.dret hc.x hc.b (hc.r.trans hr) (fun t ht hW => ⟨⟨_, G, rfl, hp, by rw [ht]; exact hP⟩, hS.F ht⟩) hS.2.2 hd hc.locks))
theorem z_vret {post : Option Value → zG → Prop} {px : String → zG → Prop} {mc ms : Nat}  (hr : ret = none) (hp : post none G) (h1 : cells ≤ mc) (h2 : slots ≤ ms) (hd : decode cc pc = .ok (.return_, 1)) : Z g0 d y cc nL ret tb p l e R s m args below meth c (vx_MQ below (zQc g0 d post) (zXc g0 d px) args s mc ms (zA g0)) cells slots G L [] pc :=
  fun hc H locs ls hP hS hl => W.widen h1 h2 (vx_ret (W.vret hc.x hc.b (hc.r.trans hr) (fun t ht hW => ⟨⟨_, G, rfl, hp, by rw [ht]; exact hP⟩, hS.F ht⟩) hS.2.2 hd hc.locks))
theorem z_aret {post : Option Value → zG → Prop} {px : String → zG → Prop} {mc ms : Nat} {v : Value} {rt : FieldType} (hr : ret = some rt) (hrt : (∃ n, rt = .object n) ∨ ∃ t, rt = .array t) (hv : v = .null ∨ ∃ a, v = .ref a) (hp : post (some v) G) (h1 : cells ≤ mc) (h2 : slots ≤ ms) (hd : decode cc pc = .ok (.areturn, 1)) : Z g0 d y cc nL ret tb p l e R s m args below meth c (vx_MQ below (zQc g0 d post) (zXc g0 d px) args s mc ms (zA g0)) cells slots G L [v] pc :=
  fun hc H locs ls hP hS hl => W.widen h1 h2 (vx_ret (W.aret hc.x hc.b (hc.r.trans hr) hrt hv (fun t ht hW => ⟨⟨_, G, rfl, hp, by rw [ht]; exact hP⟩, hS.F ht⟩) hS.2.2 hd hc.locks))
end ZROWS
section ZENTRY
variable {g0 : State} {d : zD} {y : MethodName} {cc : ByteArray} {nL : Nat} {ret : Option FieldType} {tb : List ExceptionTableEntry} {p : Program} {l : Launch} {e : Env} {R : Room} {s : State} {m : MethodId} {args : Array Value} {below : List Frame} {meth : Method} {c : Code} {Q : State → Prop} {cells slots : Nat} {G : zG} {L L' : List (Nat × Value)} {st : List Value} {pc : Nat}
theorem z_entry {post : Option Value → zG → Prop} {px : String → zG → Prop} {f mc ms : Nat} {av : List Value} {a0 : Array Value} (hs0 : zS0 d a0 g0) (hst : l.stackTraces = false) (hy : plainName y.cls = true) (hlen : (lg_sl av).length ≤ nL)
  (body : ∀ (p : Program) (e : Env) (s : State) (m : MethodId) (args : Array Value) (below : List Frame) (meth : Method) (c : Code), Z g0 d y cc nL ret [] p l e (zR f mc ms) s m args below meth c (vx_MQ below (zQc g0 d post) (zXc g0 d px) args s mc ms (zA g0)) 0 0 G (lv_args 0 av) [] 0) : zMet g0 d l y cc nL ret f mc ms av G post px := by
  refine vx_ofW (cc := cc) (maxL := nL) (ret := ret) hy rfl ?_
  intro p e s m args below meth c s₁ B hml hT hv
  obtain ⟨rfl, hW, hO, hP⟩ := hv
  have hl' := lv_entry av (n := nL) hlen
  rw [lg_entry_eq]
  generalize (lg_sl av ++ List.replicate (nL - (lg_sl av).length) Slot.unset).toArray = ls at hl' ⊢
  exact body p e s m av.toArray below meth c ⟨⟨a0, hs0⟩, hst, B.exec, B.bytes, hml, findClass_of_methodNamed B.named, hW, hO, B.notSynchronized, B.returns, (name_of_methodNamed B.named B.method).1, List.eq_nil_iff_forall_not_mem.mpr hT⟩ _ _ ls hP va_S.rf hl'
/-- the callee's frame: what a call hands in -/
theorem z_blind {av : List Value} : FrameBlind (va_Pc av (zB g0 d G)) := fun a U g mk q => by
  obtain ⟨q0, q1, q2, q3⟩ := q
  exact ⟨q0, q1, q2, q3⟩
theorem z_pre {av : List Value} {H : Heap} {locs : List Loc} (hc : zCx g0 d y cc nL ret tb p l s m meth c) (hP : zPic g0 d G H) (hS : va_S (zA g0) s.heap H locs) : ∀ U : State, U.heap = H → s.WarmedH U.vm → va_Pc av (zB g0 d G) av.toArray U :=
  fun U hU hW => ⟨rfl, State.WarmedH.trans hc.warm hW, by rw [hU]; exact hc.old.s hS, by rw [hU]; exact hP⟩
theorem z_cb {y2 : MethodName} {cc2 : ByteArray} {nL2 n2 idx : Nat} {ret2 : Option FieldType} {f2 mc2 ms2 : Nat} (hc : zCx g0 d y cc nL ret tb p l s m meth c) (hy : zY y2 cc2 nL2 ret2 n2) (hq : Cond.methodLink y.cls idx y2 ∈ lw_tbl) (hR : f2 + 1 ≤ R.frames ∧ 8 + (nL2 + 11) + 64 * f2 ≤ R.locals) : CallB R s args y.cls idx y2 cc2 nL2 ret2 [Cond.code y2 cc2 nL2 ret2] (zR f2 mc2 ms2) mc2 ms2 n2 := by
  obtain ⟨h1, h2, h3, h4⟩ := hy
  refine ⟨rfl, rfl, hR.1, hR.2, fun w hw a' U hW => ?_, List.mem_cons_self, hc.w h1 rfl args, hc.w h2 rfl args, h3, fun sig h => ?_, hc.w hq rfl args⟩
  · rw [List.mem_singleton.mp hw]
    obtain ⟨⟨a0, h0, -⟩, -⟩ := id hc
    exact word_at (State.WarmedH.trans hc.warm hW) (good_of_word rfl) (h0 _ h1)
  · rw [h] at h4
    exact (Option.some.inj h4).symm
/-- behind a call -/
theorem z_back {H : Heap} {locs : List Loc} {ls : Array Slot} {mc ms : Nat} {st0 rest : List Value} {a : Array Value} {post : Option Value → zG → Prop} {px : String → zG → Prop} (hc : zCx g0 d y cc nL ret tb p l s m meth c) (hS : va_S (zA g0) s.heap H locs) (hl : lv_has ls nL L)
  (hr : vx_Run p l e R s m args below meth c H locs cells slots mc ms (F0 m pc ls st0) rest (zQc g0 d post a) (zXc g0 d px) (zA g0))
  (kx : ∀ (E : String) (G' : zG), px E G' → ZX g0 d y cc nL ret tb p l e R s m args below meth c Q (cells + mc) (slots + ms) G' L rest pc E)
  (kk : ∀ (r : Option Value) (G' : zG), post r G' → Z g0 d y cc nL ret tb p l e R s m args below meth c Q (cells + mc) (slots + ms) G' L (r.toList ++ rest) (pc + 3)) : W p l e R s m args below meth c H locs cells slots Q (F0 m pc ls st0) := by
  intro T hT X
  rcases hr T hT X with ⟨v, st₀, t, T', L9, h0, X', hL, e1, e2, ⟨⟨r, G', hv, hp, hP'⟩, hF⟩, st⟩ | ⟨q, st₀, t, T', L9, E, ce, h0, X', hL, e1, e2, ⟨⟨G', hp, hP'⟩, hF⟩, hce, hcv, hcl, st⟩
  · cases hv
    obtain ⟨k1, k2, k3⟩ := vx_keep h0 e1 hS (fun _ _ h => h) (fun _ h => h) hL hF
    obtain ⟨t2, a1, b1⟩ := kk v G' hp hc T'.heap (locs ++ L9) ls (by rw [e1]; exact hP') k3 hl T' rfl X'
    exact ⟨t2, st t2 a1, b1⟩
  · obtain ⟨k1, k2, k3⟩ := vx_keep h0 e1 hS (fun _ _ h => h) (fun _ h => h) hL hF
    obtain ⟨t2, a1, b1⟩ := kx E G' hp hc T'.heap (locs ++ L9) ls q ce (by rw [e1]; exact hP') k3 hl (by rw [e1]; exact hce) hcv hcl T' rfl X'
    exact ⟨t2, st.trans a1, b1⟩
theorem z_back5 {H : Heap} {locs : List Loc} {ls : Array Slot} {mc ms : Nat} {st0 rest : List Value} {a : Array Value} {post : Option Value → zG → Prop} {px : String → zG → Prop} (hc : zCx g0 d y cc nL ret tb p l s m meth c) (hS : va_S (zA g0) s.heap H locs) (hl : lv_has ls nL L)
  (hr : vx_Run5 p l e R s m args below meth c H locs cells slots mc ms (F0 m pc ls st0) rest (zQc g0 d post a) (zXc g0 d px) (zA g0))
  (kx : ∀ (E : String) (G' : zG), px E G' → ZX g0 d y cc nL ret tb p l e R s m args below meth c Q (cells + mc) (slots + ms) G' L rest pc E)
  (kk : ∀ (r : Option Value) (G' : zG), post r G' → Z g0 d y cc nL ret tb p l e R s m args below meth c Q (cells + mc) (slots + ms) G' L (r.toList ++ rest) (pc + 5)) : W p l e R s m args below meth c H locs cells slots Q (F0 m pc ls st0) := by
  intro T hT X
  rcases hr T hT X with ⟨v, st₀, t, T', L9, h0, X', hL, e1, e2, ⟨⟨r, G', hv, hp, hP'⟩, hF⟩, st⟩ | ⟨q, st₀, t, T', L9, E, ce, h0, X', hL, e1, e2, ⟨⟨G', hp, hP'⟩, hF⟩, hce, hcv, hcl, st⟩
  · cases hv
    obtain ⟨k1, k2, k3⟩ := vx_keep h0 e1 hS (fun _ _ h => h) (fun _ h => h) hL hF
    obtain ⟨t2, a1, b1⟩ := kk v G' hp hc T'.heap (locs ++ L9) ls (by rw [e1]; exact hP') k3 hl T' rfl X'
    exact ⟨t2, st t2 a1, b1⟩
  · obtain ⟨k1, k2, k3⟩ := vx_keep h0 e1 hS (fun _ _ h => h) (fun _ h => h) hL hF
    obtain ⟨t2, a1, b1⟩ := kx E G' hp hc T'.heap (locs ++ L9) ls q ce (by rw [e1]; exact hP') k3 hl (by rw [e1]; exact hce) hcv hcl T' rfl X'
    exact ⟨t2, st.trans a1, b1⟩
theorem z_recv {H : Heap} {ci a : Nat} {C : String} {T : u_T} {N : Nat} {ty : Nat → FieldType} {fs : List Value} (hc : zCx g0 d y cc nL ret tb p l s m meth c) (hP : zPic g0 d G H) (hz : zCl ci C T N ty) (hG : G a = some (zob ci fs)) : ∃ cell : Cell, H[a]? = some cell ∧ cell.vm.isStatics = false ∧ s.vm.findClass C = some cell.cls := by
  obtain ⟨j, hj⟩ := hP.in hG
  exact va_recv hc.K hP.P hz.1 hj
theorem z_callS {y2 : MethodName} {cc2 : ByteArray} {nL2 idx : Nat} {ret2 : Option FieldType} {f2 mc2 ms2 : Nat} {av rest : List Value} {post : Option Value → zG → Prop} {px : String → zG → Prop} (hM : zMet g0 d l y2 cc2 nL2 ret2 f2 mc2 ms2 av G post px) (hy : zY y2 cc2 nL2 ret2 av.length) (hq : Cond.methodLink y.cls idx y2 ∈ lw_tbl) (hstt : Cond.static y2 ∈ lw_tbl) (hd : decode cc pc = .ok (.invokestatic idx, 3)) (hst : st = av.reverse ++ rest) (hrest : (rest.map fun v => v.category).sum ≤ 8) (hf : cells + mc2 ≤ R.cells ∧ slots + ms2 ≤ R.slots) (hR : f2 + 1 ≤ R.frames ∧ 8 + (nL2 + 11) + 64 * f2 ≤ R.locals)
  (kx : ∀ (E : String) (G' : zG), px E G' → ZX g0 d y cc nL ret tb p l e R s m args below meth c Q (cells + mc2) (slots + ms2) G' L rest pc E)
  (kk : ∀ (r : Option Value) (G' : zG), post r G' → Z g0 d y cc nL ret tb p l e R s m args below meth c Q (cells + mc2) (slots + ms2) G' L (r.toList ++ rest) (pc + 3)) : Z g0 d y cc nL ret tb p l e R s m args below meth c Q cells slots G L st pc := by
  intro hc H locs ls hP hS hl
  exact z_back hc hS hl (vx_runS (As := av) (rest := rest) (n := av.length) ⟨hc.x, hc.b, hc.ml, hc.own, fun w h => nomatch (h : w ∈ [])⟩ hM ⟨z_cb hc hy hq hR, hc.w hstt rfl args⟩ ⟨z_blind, z_pre hc hP hS⟩ rfl rfl hl.1 hst (lv_room hrest) hd hf) kx kk
theorem z_callV {y2 : MethodName} {cc2 : ByteArray} {nL2 idx : Nat} {ret2 : Option FieldType} {f2 mc2 ms2 : Nat} {av rest : List Value} {post : Option Value → zG → Prop} {px : String → zG → Prop} {ci a : Nat} {T : u_T} {N : Nat} {ty : Nat → FieldType} {fs : List Value} (hM : zMet g0 d l y2 cc2 nL2 ret2 f2 mc2 ms2 (.ref a :: av) G post px) (hy : zY y2 cc2 nL2 ret2 av.length) (hq : Cond.methodLink y.cls idx y2 ∈ lw_tbl) (hi : Cond.instanceMethod y2 ∈ lw_tbl) (hv : Cond.selects y2.cls y2 y2 ∈ lw_tbl) (hz : zCl ci y2.cls T N ty) (hG : G a = some (zob ci fs)) (hd : decode cc pc = .ok (.invokevirtual idx, 3)) (hst : st = av.reverse ++ .ref a :: rest) (hrest : (rest.map fun v => v.category).sum ≤ 8) (hf : cells + mc2 ≤ R.cells ∧ slots + ms2 ≤ R.slots) (hR : f2 + 1 ≤ R.frames ∧ 8 + (nL2 + 11) + 64 * f2 ≤ R.locals)
  (kx : ∀ (E : String) (G' : zG), px E G' → ZX g0 d y cc nL ret tb p l e R s m args below meth c Q (cells + mc2) (slots + ms2) G' L rest pc E)
  (kk : ∀ (r : Option Value) (G' : zG), post r G' → Z g0 d y cc nL ret tb p l e R s m args below meth c Q (cells + mc2) (slots + ms2) G' L (r.toList ++ rest) (pc + 3)) : Z g0 d y cc nL ret tb p l e R s m args below meth c Q cells slots G L st pc := by
  intro hc H locs ls hP hS hl
  exact z_back hc hS hl (vx_runV (As := av) (rest := rest) (n := av.length) (C := y2.cls) ⟨hc.x, hc.b, hc.ml, hc.own, fun w h => nomatch (h : w ∈ [])⟩ hM ⟨z_cb hc hy hq hR, hc.w hi rfl args, hc.w hv rfl args⟩ ⟨z_blind, z_recv hc hP hz hG, z_pre hc hP hS⟩ rfl rfl hl.1 hst (lv_room hrest) hd hf) kx kk
theorem z_callI {y2 : MethodName} {cc2 : ByteArray} {nL2 idx : Nat} {f2 mc2 ms2 : Nat} {av rest : List Value} {post : Option Value → zG → Prop} {px : String → zG → Prop} {a : Nat} (hM : zMet g0 d l y2 cc2 nL2 none f2 mc2 ms2 (.ref a :: av) G post px) (hy : zY y2 cc2 nL2 none av.length) (hin : y2.name = "<init>") (hq : Cond.methodLink y.cls idx y2 ∈ lw_tbl) (hi : Cond.instanceMethod y2 ∈ lw_tbl) (hd : decode cc pc = .ok (.invokespecial idx, 3)) (hst : st = av.reverse ++ .ref a :: rest) (hrest : (rest.map fun v => v.category).sum ≤ 8) (hf : cells + mc2 ≤ R.cells ∧ slots + ms2 ≤ R.slots) (hR : f2 + 1 ≤ R.frames ∧ 8 + (nL2 + 11) + 64 * f2 ≤ R.locals)
  (kx : ∀ (E : String) (G' : zG), px E G' → ZX g0 d y cc nL ret tb p l e R s m args below meth c Q (cells + mc2) (slots + ms2) G' L rest pc E)
  (kk : ∀ (r : Option Value) (G' : zG), post r G' → Z g0 d y cc nL ret tb p l e R s m args below meth c Q (cells + mc2) (slots + ms2) G' L (r.toList ++ rest) (pc + 3)) : Z g0 d y cc nL ret tb p l e R s m args below meth c Q cells slots G L st pc := by
  intro hc H locs ls hP hS hl
  exact z_back hc hS hl (vx_runI (As := av) (rest := rest) (n := av.length) ⟨hc.x, hc.b, hc.ml, hc.own, fun w h => nomatch (h : w ∈ [])⟩ hM ⟨z_cb hc hy hq hR, hin, hc.w hi rfl args⟩ ⟨z_blind, z_pre hc hP hS⟩ rfl rfl hl.1 hst (lv_room hrest) hd hf) kx kk
/-- Object's constructor -/
theorem z_objInit {a idx : Nat} (hq : Cond.methodLink y.cls idx objectInit ∈ lw_tbl) (hi : Cond.instanceMethod objectInit ∈ lw_tbl) (hcd : Cond.code objectInit ⟨#[0xb1]⟩ 1 none ∈ lw_tbl) (hd : decode cc pc = .ok (.invokespecial idx, 3)) (hrest : (st.map fun v => v.category).sum ≤ 8) (hR : 1 ≤ R.frames ∧ 20 ≤ R.locals) (k : Z g0 d y cc nL ret tb p l e R s m args below meth c Q cells slots G L st (pc + 3)) : Z g0 d y cc nL ret tb p l e R s m args below meth c Q cells slots G L (.ref a :: st) pc := by
  intro hc H locs ls hP hS hl
  exact W.objInit hc.x hc.b hc.own (hc.w hq rfl args) (hc.w hi rfl args) (hc.w hcd rfl args) rfl (by rw [hc.ml]; exact hl.1) rfl hd hR.1 (Nat.le_trans (Nat.add_le_add_right (show 2 * 0 + (st.map fun v => v.category).sum ≤ 8 by omega) 12) hR.2) (k hc H locs ls hP hS hl)
theorem z_new {ci idx : Nat} {C : String} {T : u_T} {N : Nat} {ty : Nat → FieldType} (hz : zCl ci C T N ty) {fs : List Value} (hq : Cond.classLink y.cls idx C ∈ lw_tbl) (ho : Cond.instantiable C N ∈ lw_tbl) (hn : Cond.initialized C ∈ lw_tbl) (hfs : ∀ j, j < N → defaultValue (ty j) = vp_V fs j) (hf : cells + 1 ≤ R.cells ∧ slots + N ≤ R.slots) (hd : decode cc pc = .ok (.new idx, 3))
  (k : ∀ a : Nat, G a = none → g0.heap.size ≤ a → Z g0 d y cc nL ret tb p l e R s m args below meth c Q (cells + 1) (slots + N) (zu G a (zob ci fs)) L (.ref a :: st) (pc + 3)) : Z g0 d y cc nL ret tb p l e R s m args below meth c Q cells slots G L st pc := by
  intro hc H locs ls hP hS hl
  have hn9 : ∀ v, G H.size = some v → False := fun v h => absurd (hP.lt h) (Nat.lt_irrefl _)
  refine W.newcK hc.x hc.b hc.own (hc.w hq rfl args) (hc.w ho rfl args) (hc.w hn rfl args) rfl hd hf.1 hf.2 (hc.K.1 ci _ hz.1).2.1 rfl fun H1 kC hkC e1 z1 o1 => ?_
  have hG0 : G H.size = none := by
    cases h : G H.size with
    | none => rfl
    | some v => exact (hn9 v h).elim
  have hle : g0.heap.size ≤ H.size := (hc.old.s hS).1
  refine k H.size hG0 hle hc H1 locs ls ?_ ⟨Nat.le_trans hS.1 (by omega), fun x h1 h2 => (o1 x (Nat.lt_of_lt_of_le h1 hS.1)).trans (hS.2.1 x h1 h2), hS.2.2⟩ hl
  intro a v ha
  by_cases he : a = H.size
  · subst he
    rw [zu_s] at ha
    cases ha
    exact ⟨hle, _, hz.1, (u_born ty (hc.lays hz args) (fun _ h => h) (hc.K.1 ci _ hz.1) hkC e1 hz.2.2.1).to hfs⟩
  · rw [zu_n he] at ha
    exact ⟨(hP a v ha).1, (hP a v ha).2.kept (o1 a (hP.lt ha))⟩
theorem z_newaI {i : Int32} (N : Nat) (hA : Cond.arrayClass (.int) ∈ lw_tbl) (hn : ¬ i < 0) (hN : i.toNatClampNeg = N) (hb : N * componentBytes (.int) ≤ 536870912) (hf : cells + 1 ≤ R.cells ∧ slots + N ≤ R.slots) (hd : decode cc pc = .ok (.newarray .int, 2))
  (k : ∀ a : Nat, G a = none → g0.heap.size ≤ a → Z g0 d y cc nL ret tb p l e R s m args below meth c Q (cells + 1) (slots + N) (zu G a (zI d N (fun _ => 0))) L (.ref a :: st) (pc + 2)) : Z g0 d y cc nL ret tb p l e R s m args below meth c Q cells slots G L (.int i :: st) pc := by
  intro hc H locs ls hP hS hl
  refine va_newaK (atype := .int) hc.x hc.b (hc.w hA rfl args) rfl hd rfl hn hN hb hf.1 hf.2 rfl fun H1 cA e1 z1 o1 hAr hNm => ?_
  have hG0 : G H.size = none := by
    cases h : G H.size with
    | none => rfl
    | some v => exact absurd (hP.lt h) (Nat.lt_irrefl _)
  have hle : g0.heap.size ≤ H.size := (hc.old.s hS).1
  have hcA : cA = d.2.1 0 := Option.some.inj (hNm.symm.trans (hc.K.2 0 _ rfl).2)
  subst hcA
  refine k H.size hG0 hle hc H1 locs ls ?_ ⟨Nat.le_trans hS.1 (by omega), fun x h1 h2 => (o1 x (Nat.lt_of_lt_of_le h1 hS.1)).trans (hS.2.1 x h1 h2), hS.2.2⟩ hl
  intro a v ha
  by_cases he : a = H.size
  · subst he
    rw [zu_s] at ha
    cases ha
    exact ⟨hle, e1⟩
  · rw [zu_n he] at ha
    exact ⟨(hP a v ha).1, (hP a v ha).2.kept (o1 a (hP.lt ha))⟩
theorem z_newaD {i : Int32} (N : Nat) (hA : Cond.arrayClass (.double) ∈ lw_tbl) (hn : ¬ i < 0) (hN : i.toNatClampNeg = N) (hb : N * componentBytes (.double) ≤ 536870912) (hf : cells + 1 ≤ R.cells ∧ slots + N ≤ R.slots) (hd : decode cc pc = .ok (.newarray .double, 2))
  (k : ∀ a : Nat, G a = none → g0.heap.size ≤ a → Z g0 d y cc nL ret tb p l e R s m args below meth c Q (cells + 1) (slots + N) (zu G a (zDb d N (fun _ => 0))) L (.ref a :: st) (pc + 2)) : Z g0 d y cc nL ret tb p l e R s m args below meth c Q cells slots G L (.int i :: st) pc := by
  intro hc H locs ls hP hS hl
  refine va_newaK (atype := .double) hc.x hc.b (hc.w hA rfl args) rfl hd rfl hn hN hb hf.1 hf.2 rfl fun H1 cA e1 z1 o1 hAr hNm => ?_
  have hG0 : G H.size = none := by
    cases h : G H.size with
    | none => rfl
    | some v => exact absurd (hP.lt h) (Nat.lt_irrefl _)
  have hle : g0.heap.size ≤ H.size := (hc.old.s hS).1
  have hcA : cA = d.2.1 1 := Option.some.inj (hNm.symm.trans (hc.K.2 1 _ rfl).2)
  subst hcA
  refine k H.size hG0 hle hc H1 locs ls ?_ ⟨Nat.le_trans hS.1 (by omega), fun x h1 h2 => (o1 x (Nat.lt_of_lt_of_le h1 hS.1)).trans (hS.2.1 x h1 h2), hS.2.2⟩ hl
  intro a v ha
  by_cases he : a = H.size
  · subst he
    rw [zu_s] at ha
    cases ha
    exact ⟨hle, e1⟩
  · rw [zu_n he] at ha
    exact ⟨(hP a v ha).1, (hP a v ha).2.kept (o1 a (hP.lt ha))⟩
theorem z_newaB {i : Int32} (N : Nat) (hA : Cond.arrayClass (.byte) ∈ lw_tbl) (hn : ¬ i < 0) (hN : i.toNatClampNeg = N) (hb : N * componentBytes (.byte) ≤ 536870912) (hf : cells + 1 ≤ R.cells ∧ slots + N ≤ R.slots) (hd : decode cc pc = .ok (.newarray .byte, 2))
  (k : ∀ a : Nat, G a = none → g0.heap.size ≤ a → Z g0 d y cc nL ret tb p l e R s m args below meth c Q (cells + 1) (slots + N) (zu G a (zBy d N (fun _ => 0))) L (.ref a :: st) (pc + 2)) : Z g0 d y cc nL ret tb p l e R s m args below meth c Q cells slots G L (.int i :: st) pc := by
  intro hc H locs ls hP hS hl
  refine va_newaK (atype := .byte) hc.x hc.b (hc.w hA rfl args) rfl hd rfl hn hN hb hf.1 hf.2 rfl fun H1 cA e1 z1 o1 hAr hNm => ?_
  have hG0 : G H.size = none := by
    cases h : G H.size with
    | none => rfl
    | some v => exact absurd (hP.lt h) (Nat.lt_irrefl _)
  have hle : g0.heap.size ≤ H.size := (hc.old.s hS).1
  have hcA : cA = d.2.1 2 := Option.some.inj (hNm.symm.trans (hc.K.2 2 _ rfl).2)
  subst hcA
  refine k H.size hG0 hle hc H1 locs ls ?_ ⟨Nat.le_trans hS.1 (by omega), fun x h1 h2 => (o1 x (Nat.lt_of_lt_of_le h1 hS.1)).trans (hS.2.1 x h1 h2), hS.2.2⟩ hl
  intro a v ha
  by_cases he : a = H.size
  · subst he
    rw [zu_s] at ha
    cases ha
    exact ⟨hle, e1⟩
  · rw [zu_n he] at ha
    exact ⟨(hP a v ha).1, (hP a v ha).2.kept (o1 a (hP.lt ha))⟩
/-- throw new E("text") -/
theorem z_throwS {post : Option Value → zG → Prop} {px : String → zG → Prop} {mc ms : Nat} {cls text : String} {names : List String} {ik is ic : Nat} (hcls : Bundle.fit cls = true) (hnames : ∀ n ∈ names, Bundle.fit n = true)
  (hk : Cond.classLink y.cls ik cls ∈ lw_tbl) (hini : Cond.initialized cls ∈ lw_tbl) (hstr : Cond.stringRef y.cls is text ∈ lw_tbl) (hat : ∀ w ∈ vx_atS y.cls ic cls names, w ∈ lw_tbl) (hot : ∀ w ∈ vx_atS y.cls ic cls names, goodWord w = true)
  (d0 : decode cc pc = .ok (.new ik, 3)) (d3 : decode cc (pc + 3) = .ok (.dup, 1)) (d4 : decode cc (pc + 4) = .ok (.ldc is, 2)) (d6 : decode cc (pc + 6) = .ok (.invokespecial ic, 3)) (d9 : decode cc (pc + 9) = .ok (.athrow, 1))
  (hRframes : names.length + 3 < R.frames) (hRlocals : (st.map fun v => v.category).sum + (13 * (names.length + 1) + 43) ≤ R.locals) (hR : cells + 1 ≤ R.cells ∧ slots + 6 ≤ R.slots) (hp : px cls G) (h1 : cells + 1 ≤ mc) (h2 : slots + 6 ≤ ms) :
  Z g0 d y cc nL ret [] p l e R s m args below meth c (vx_MQ below (zQc g0 d post) (zXc g0 d px) args s mc ms (zA g0)) cells slots G L st pc := by
  intro hc H locs ls hP hS hl
  obtain ⟨⟨a0, h0, -, -, -, hU, hN, hT, -⟩, -⟩ := id hc
  obtain ⟨sa, hsa⟩ := hT _ _ _ hstr
  have hq : ∀ q : Nat, q < g0.heap.size → ¬ zA g0 q → s.heap[q]? = g0.heap[q]? := fun q h1 _ => hc.old.2 q h1
  refine vx_throwS hc.x hc.b hc.st hc.own hcls hnames (hc.w hk rfl args) (hc.w hini rfl args) (vk_R.warm hc.warm hsa) (fun w hw => hc.w (hat w hw) (hot w hw) args) ?_ (vx_Zq.moved hc.warm.alike (hU.kept hq)) (vx_Zq.moved hc.warm.alike (hN.kept hq)) hS (by rw [hc.ml]; exact hl.1) d0 d3 d4 d6 d9 (by rw [hc.tbl]; exact fun _ h => nomatch h) hRframes hRlocals hR.1 hR.2 hc.locks (fun t ha hz hk => ⟨⟨G, hp, hP.kept hk⟩, Nat.le_trans hS.1 hz, fun q h3 h4 => (hk q (Nat.lt_of_lt_of_le h3 hS.1)).trans (hS.2.1 q h3 h4)⟩) hS.2.2 h1 h2
  intro w hw
  unfold vx_ot
  rcases List.mem_cons.mp hw with rfl | hw
  · rfl
  · rcases List.mem_cons.mp hw with rfl | hw
    · rfl
    · rw [hot w hw]; exact Bool.or_true _
/-- not caught here -/
theorem z_out {post : Option Value → zG → Prop} {px : String → zG → Prop} {mc ms : Nat} {E : String} (hp : px E G) (h1 : cells ≤ mc) (h2 : slots ≤ ms) : ZX g0 d y cc nL ret [] p l e R s m args below meth c (vx_MQ below (zQc g0 d post) (zXc g0 d px) args s mc ms (zA g0)) cells slots G L st pc E := by
  intro hc H locs ls q ce hP hS hl hce hcv hcl
  exact vx_out (by rw [hc.tbl]; exact fun _ h => nomatch h) hc.locks hce hcv hcl (fun t ht ha => ⟨⟨G, hp, by rw [ht]; exact hP⟩, hS.F ht⟩) hS.2.2 h1 h2
end ZENTRY
end
section
section ZROWS2
variable {g0 : State} {d : zD} {y : MethodName} {cc : ByteArray} {nL : Nat} {ret : Option FieldType} {tb : List ExceptionTableEntry} {p : Program} {l : Launch} {e : Env} {R : Room} {s : State} {m : MethodId} {args : Array Value} {below : List Frame} {meth : Method} {c : Code} {Q : State → Prop} {cells slots : Nat} {G G1 : zG} {L L' : List (Nat × Value)} {st : List Value} {pc : Nat}

/-- a contract that answers v and leaves G1 -/
abbrev zEq (v : Option Value) (G1 : zG) : Option Value → zG → Prop := fun r G' => r = v ∧ G' = G1
/-- a boolean as an int -/
def zb (b : Bool) : Int32 := match b with | true => 1 | false => 0
theorem zb_nar (b : Bool) : narrow .boolean (.int (zb b)) = .int (zb b) := by cases b <;> rfl
theorem zb_fit (b : Bool) : fits .boolean (.int (zb b)) = true := by cases b <;> rfl
theorem zb_0 (b : Bool) : zb b = 0 ↔ b = false := by cases b <;> decide
theorem zb_n0 (b : Bool) : ¬ zb b = 0 ↔ b = true := by cases b <;> decide
theorem z_hws {y2 : MethodName} {cc2 : ByteArray} {nL2 : Nat} {ret2 : Option FieldType} (hc : zCx g0 d y cc nL ret tb p l s m meth c) (h1 : Cond.code y2 cc2 nL2 ret2 ∈ lw_tbl) : ∀ w ∈ [Cond.code y2 cc2 nL2 ret2], ∀ (a' : Array Value) (U : State), s.WarmedH U.vm → w.before a' U = true := by
  intro w hw a' U hW
  rw [List.mem_singleton.mp hw]
  obtain ⟨⟨a0, h0, -⟩, -⟩ := id hc
  exact word_at (State.WarmedH.trans hc.warm hW) (good_of_word rfl) (h0 _ h1)
theorem z_len {ds : String} {n : Nat} (h : (parseMethodDescriptor ds).map (fun d => d.parameters.length) = some n) : ∀ sig, parseMethodDescriptor ds = some sig → n = sig.parameters.length := by
  intro sig hs
  rw [hs] at h
  exact (Option.some.inj h).symm
theorem z_cn {y2 : MethodName} {cc2 : ByteArray} {nL2 n2 idx : Nat} {host : String} {ret2 : Option FieldType} {f2 mc2 ms2 : Nat} (hc : zCx g0 d y cc nL ret tb p l s m meth c) (hy : zY y2 cc2 nL2 ret2 n2) (hq : Cond.methodLinkNest y.cls idx y2 host ∈ lw_tbl) (hR : f2 + 1 ≤ R.frames ∧ 8 + (nL2 + 11) + 64 * f2 ≤ R.locals) : va_CN R s args y.cls idx y2 host cc2 nL2 ret2 [Cond.code y2 cc2 nL2 ret2] (zR f2 mc2 ms2) mc2 ms2 n2 :=
  ⟨⟨rfl, rfl, hR.1, hR.2, z_hws hc hy.1, List.mem_cons_self⟩, hc.w hy.1 rfl args, hc.w hy.2.1 rfl args, hy.2.2.1, z_len hy.2.2.2, va_Nw.use rfl (hc.nestM hq)⟩
/-- the words of an interface call x, answered by y2 of class C -/
def zF (C : String) (x y2 : MethodName) : Prop := Cond.declares x ∈ lw_tbl ∧ Cond.interfaceMethod x.cls x.cls x.name x.desc ∈ lw_tbl ∧ Cond.publicMethod y2 ∈ lw_tbl ∧ Cond.unhidden C x.name x.desc ∈ lw_tbl ∧ Cond.castable C x.cls ∈ lw_tbl ∧ Cond.selects C x y2 ∈ lw_tbl ∧ Cond.instanceMethod y2 ∈ lw_tbl ∧ (x.cls ≠ "java/lang/invoke/MethodHandle" ∧ x.cls ≠ "java/lang/invoke/VarHandle") ∧ x.desc = y2.desc
theorem z_ci {C : String} {x y2 : MethodName} {cc2 : ByteArray} {nL2 n2 idx : Nat} {ret2 : Option FieldType} {f2 mc2 ms2 : Nat} (hc : zCx g0 d y cc nL ret tb p l s m meth c) (hy : zY y2 cc2 nL2 ret2 n2) (hF : zF C x y2) (hq : Cond.methodLink y.cls idx x ∈ lw_tbl) (hR : f2 + 1 ≤ R.frames ∧ 8 + (nL2 + 11) + 64 * f2 ≤ R.locals) : va_CI R s args y.cls C idx x y2 cc2 nL2 ret2 [Cond.code y2 cc2 nL2 ret2] (zR f2 mc2 ms2) mc2 ms2 n2 := by
  obtain ⟨h1, h2, h3, h4, h5, h6, h7, h8, h9⟩ := hF
  obtain ⟨⟨a0, h0, -⟩, -⟩ := id hc
  have hFw : va_Fw C x y2 s := va_Fw.moved h8 hc.warm.alike (va_Fw.of (h0 _ h1) (h0 _ h2) (h0 _ h3) (h0 _ h4) (h0 _ h5))
  exact ⟨⟨rfl, rfl, hR.1, hR.2, z_hws hc hy.1, List.mem_cons_self⟩, hc.w hq rfl args, va_any rfl hFw.1, va_any rfl hFw.2.1, hc.w h6 rfl args, hc.w h7 rfl args, va_any rfl hFw.2.2.1, va_any rfl hFw.2.2.2.1, va_any rfl hFw.2.2.2.2, hc.w hy.2.1 rfl args, hc.w hy.1 rfl args, h8, z_len (by rw [h9]; exact hy.2.2.2)⟩

theorem z_callSN {y2 : MethodName} {cc2 : ByteArray} {nL2 idx : Nat} {ret2 : Option FieldType} {f2 mc2 ms2 : Nat} {av rest : List Value} {post : Option Value → zG → Prop} {px : String → zG → Prop} {host : String} (hM : zMet g0 d l y2 cc2 nL2 ret2 f2 mc2 ms2 av G post px) (hy : zY y2 cc2 nL2 ret2 av.length) (hq : Cond.methodLinkNest y.cls idx y2 host ∈ lw_tbl) (hstt : Cond.static y2 ∈ lw_tbl) (hd : decode cc pc = .ok (.invokestatic idx, 3)) (hst : st = av.reverse ++ rest) (hrest : (rest.map fun v => v.category).sum ≤ 8) (hf : cells + mc2 ≤ R.cells ∧ slots + ms2 ≤ R.slots) (hR : f2 + 1 ≤ R.frames ∧ 8 + (nL2 + 11) + 64 * f2 ≤ R.locals)
  (kx : ∀ (E : String) (G' : zG), px E G' → ZX g0 d y cc nL ret tb p l e R s m args below meth c Q (cells + mc2) (slots + ms2) G' L rest pc E)
  (kk : ∀ (r : Option Value) (G' : zG), post r G' → Z g0 d y cc nL ret tb p l e R s m args below meth c Q (cells + mc2) (slots + ms2) G' L (r.toList ++ rest) (pc + 3)) : Z g0 d y cc nL ret tb p l e R s m args below meth c Q cells slots G L st pc := by
  intro hc H locs ls hP hS hl
  exact z_back hc hS hl (vx_runSN (As := av) (rest := rest) (n := av.length) ⟨hc.x, hc.b, hc.ml, hc.own, fun w h => nomatch (h : w ∈ [])⟩ hM ⟨z_cn hc hy hq hR, hc.w hstt rfl args, trivial⟩ ⟨z_blind, z_pre hc hP hS⟩ rfl rfl hl.1 hst (lv_room hrest) hd hf) kx kk
theorem z_callF {y2 : MethodName} {cc2 : ByteArray} {nL2 idx : Nat} {ret2 : Option FieldType} {f2 mc2 ms2 : Nat} {av rest : List Value} {post : Option Value → zG → Prop} {px : String → zG → Prop} {ci a cnt : Nat} {C : String} {x : MethodName} {T : u_T} {N : Nat} {ty : Nat → FieldType} {fs : List Value} (hM : zMet g0 d l y2 cc2 nL2 ret2 f2 mc2 ms2 (.ref a :: av) G post px) (hy : zY y2 cc2 nL2 ret2 av.length) (hF : zF C x y2) (hq : Cond.methodLink y.cls idx x ∈ lw_tbl) (hz : zCl ci C T N ty) (hG : G a = some (zob ci fs)) (hd : decode cc pc = .ok (.invokeinterface idx cnt, 5)) (hst : st = av.reverse ++ .ref a :: rest) (hrest : (rest.map fun v => v.category).sum ≤ 8) (hf : cells + mc2 ≤ R.cells ∧ slots + ms2 ≤ R.slots) (hR : f2 + 1 ≤ R.frames ∧ 8 + (nL2 + 11) + 64 * f2 ≤ R.locals)
  (kx : ∀ (E : String) (G' : zG), px E G' → ZX g0 d y cc nL ret tb p l e R s m args below meth c Q (cells + mc2) (slots + ms2) G' L rest pc E)
  (kk : ∀ (r : Option Value) (G' : zG), post r G' → Z g0 d y cc nL ret tb p l e R s m args below meth c Q (cells + mc2) (slots + ms2) G' L (r.toList ++ rest) (pc + 5)) : Z g0 d y cc nL ret tb p l e R s m args below meth c Q cells slots G L st pc := by
  intro hc H locs ls hP hS hl
  exact z_back5 hc hS hl (vx_runF (As := av) (rest := rest) (n := av.length) (C := C) (hc.K.1 ci _ hz.1).2 ⟨hc.x, hc.b, hc.ml, hc.own, fun w h => nomatch (h : w ∈ [])⟩ hM (z_ci hc hy hF hq hR) ⟨z_blind, z_recv hc hP hz hG, z_pre hc hP hS⟩ rfl rfl hl.1 hst (lv_room hrest) hd hf) kx kk
theorem z_callS1 {y2 : MethodName} {cc2 : ByteArray} {nL2 idx : Nat} {ret2 : Option FieldType} {f2 mc2 ms2 : Nat} {av rest : List Value}  {v : Option Value} (hM : zMet g0 d l y2 cc2 nL2 ret2 f2 mc2 ms2 av G (zEq v G1) zNo) (hy : zY y2 cc2 nL2 ret2 av.length) (hq : Cond.methodLink y.cls idx y2 ∈ lw_tbl) (hstt : Cond.static y2 ∈ lw_tbl) (hd : decode cc pc = .ok (.invokestatic idx, 3)) (hst : st = av.reverse ++ rest) (hrest : (rest.map fun v => v.category).sum ≤ 8) (hf : cells + mc2 ≤ R.cells ∧ slots + ms2 ≤ R.slots) (hR : f2 + 1 ≤ R.frames ∧ 8 + (nL2 + 11) + 64 * f2 ≤ R.locals) (kk : Z g0 d y cc nL ret tb p l e R s m args below meth c Q (cells + mc2) (slots + ms2) G1 L (v.toList ++ rest) (pc + 3)) : Z g0 d y cc nL ret tb p l e R s m args below meth c Q cells slots G L st pc :=
  z_callS hM hy hq hstt hd hst hrest hf hR (fun _ _ h => h.elim) (fun r G' h => by obtain ⟨rfl, rfl⟩ := h; exact kk)
theorem z_callSp1 {y2 : MethodName} {cc2 : ByteArray} {nL2 idx : Nat} {ret2 : Option FieldType} {f2 mc2 ms2 : Nat} {av rest : List Value}  {post : Option Value → zG → Prop} (hM : zMet g0 d l y2 cc2 nL2 ret2 f2 mc2 ms2 av G post zNo) (hy : zY y2 cc2 nL2 ret2 av.length) (hq : Cond.methodLink y.cls idx y2 ∈ lw_tbl) (hstt : Cond.static y2 ∈ lw_tbl) (hd : decode cc pc = .ok (.invokestatic idx, 3)) (hst : st = av.reverse ++ rest) (hrest : (rest.map fun v => v.category).sum ≤ 8) (hf : cells + mc2 ≤ R.cells ∧ slots + ms2 ≤ R.slots) (hR : f2 + 1 ≤ R.frames ∧ 8 + (nL2 + 11) + 64 * f2 ≤ R.locals) (kk : ∀ (r : Option Value) (G' : zG), post r G' → Z g0 d y cc nL ret tb p l e R s m args below meth c Q (cells + mc2) (slots + ms2) G' L (r.toList ++ rest) (pc + 3)) : Z g0 d y cc nL ret tb p l e R s m args below meth c Q cells slots G L st pc :=
  z_callS hM hy hq hstt hd hst hrest hf hR (fun _ _ h => h.elim) kk
theorem z_callS0 {y2 : MethodName} {cc2 : ByteArray} {nL2 idx : Nat} {ret2 : Option FieldType} {f2 : Nat} {av rest : List Value}  {v : Option Value} (hM : zMet g0 d l y2 cc2 nL2 ret2 f2 0 0 av G (zEq v G1) zNo) (hy : zY y2 cc2 nL2 ret2 av.length) (hq : Cond.methodLink y.cls idx y2 ∈ lw_tbl) (hstt : Cond.static y2 ∈ lw_tbl) (hd : decode cc pc = .ok (.invokestatic idx, 3)) (hst : st = av.reverse ++ rest) (hrest : (rest.map fun v => v.category).sum ≤ 8) (hf : cells ≤ R.cells ∧ slots ≤ R.slots) (hR : f2 + 1 ≤ R.frames ∧ 8 + (nL2 + 11) + 64 * f2 ≤ R.locals) (kk : Z g0 d y cc nL ret tb p l e R s m args below meth c Q cells slots G1 L (v.toList ++ rest) (pc + 3)) : Z g0 d y cc nL ret tb p l e R s m args below meth c Q cells slots G L st pc :=
  z_callS hM hy hq hstt hd hst hrest hf hR (fun _ _ h => h.elim) (fun r G' h => by obtain ⟨rfl, rfl⟩ := h; exact kk)
theorem z_callSp0 {y2 : MethodName} {cc2 : ByteArray} {nL2 idx : Nat} {ret2 : Option FieldType} {f2 : Nat} {av rest : List Value}  {post : Option Value → zG → Prop} (hM : zMet g0 d l y2 cc2 nL2 ret2 f2 0 0 av G post zNo) (hy : zY y2 cc2 nL2 ret2 av.length) (hq : Cond.methodLink y.cls idx y2 ∈ lw_tbl) (hstt : Cond.static y2 ∈ lw_tbl) (hd : decode cc pc = .ok (.invokestatic idx, 3)) (hst : st = av.reverse ++ rest) (hrest : (rest.map fun v => v.category).sum ≤ 8) (hf : cells ≤ R.cells ∧ slots ≤ R.slots) (hR : f2 + 1 ≤ R.frames ∧ 8 + (nL2 + 11) + 64 * f2 ≤ R.locals) (kk : ∀ (r : Option Value) (G' : zG), post r G' → Z g0 d y cc nL ret tb p l e R s m args below meth c Q cells slots G' L (r.toList ++ rest) (pc + 3)) : Z g0 d y cc nL ret tb p l e R s m args below meth c Q cells slots G L st pc :=
  z_callS hM hy hq hstt hd hst hrest hf hR (fun _ _ h => h.elim) kk
theorem z_callSN1 {y2 : MethodName} {cc2 : ByteArray} {nL2 idx : Nat} {ret2 : Option FieldType} {f2 mc2 ms2 : Nat} {av rest : List Value} {host : String} {v : Option Value} (hM : zMet g0 d l y2 cc2 nL2 ret2 f2 mc2 ms2 av G (zEq v G1) zNo) (hy : zY y2 cc2 nL2 ret2 av.length) (hq : Cond.methodLinkNest y.cls idx y2 host ∈ lw_tbl) (hstt : Cond.static y2 ∈ lw_tbl) (hd : decode cc pc = .ok (.invokestatic idx, 3)) (hst : st = av.reverse ++ rest) (hrest : (rest.map fun v => v.category).sum ≤ 8) (hf : cells + mc2 ≤ R.cells ∧ slots + ms2 ≤ R.slots) (hR : f2 + 1 ≤ R.frames ∧ 8 + (nL2 + 11) + 64 * f2 ≤ R.locals) (kk : Z g0 d y cc nL ret tb p l e R s m args below meth c Q (cells + mc2) (slots + ms2) G1 L (v.toList ++ rest) (pc + 3)) : Z g0 d y cc nL ret tb p l e R s m args below meth c Q cells slots G L st pc :=
  z_callSN hM hy hq hstt hd hst hrest hf hR (fun _ _ h => h.elim) (fun r G' h => by obtain ⟨rfl, rfl⟩ := h; exact kk)
theorem z_callSNp1 {y2 : MethodName} {cc2 : ByteArray} {nL2 idx : Nat} {ret2 : Option FieldType} {f2 mc2 ms2 : Nat} {av rest : List Value} {host : String} {post : Option Value → zG → Prop} (hM : zMet g0 d l y2 cc2 nL2 ret2 f2 mc2 ms2 av G post zNo) (hy : zY y2 cc2 nL2 ret2 av.length) (hq : Cond.methodLinkNest y.cls idx y2 host ∈ lw_tbl) (hstt : Cond.static y2 ∈ lw_tbl) (hd : decode cc pc = .ok (.invokestatic idx, 3)) (hst : st = av.reverse ++ rest) (hrest : (rest.map fun v => v.category).sum ≤ 8) (hf : cells + mc2 ≤ R.cells ∧ slots + ms2 ≤ R.slots) (hR : f2 + 1 ≤ R.frames ∧ 8 + (nL2 + 11) + 64 * f2 ≤ R.locals) (kk : ∀ (r : Option Value) (G' : zG), post r G' → Z g0 d y cc nL ret tb p l e R s m args below meth c Q (cells + mc2) (slots + ms2) G' L (r.toList ++ rest) (pc + 3)) : Z g0 d y cc nL ret tb p l e R s m args below meth c Q cells slots G L st pc :=
  z_callSN hM hy hq hstt hd hst hrest hf hR (fun _ _ h => h.elim) kk
theorem z_callSN0 {y2 : MethodName} {cc2 : ByteArray} {nL2 idx : Nat} {ret2 : Option FieldType} {f2 : Nat} {av rest : List Value} {host : String} {v : Option Value} (hM : zMet g0 d l y2 cc2 nL2 ret2 f2 0 0 av G (zEq v G1) zNo) (hy : zY y2 cc2 nL2 ret2 av.length) (hq : Cond.methodLinkNest y.cls idx y2 host ∈ lw_tbl) (hstt : Cond.static y2 ∈ lw_tbl) (hd : decode cc pc = .ok (.invokestatic idx, 3)) (hst : st = av.reverse ++ rest) (hrest : (rest.map fun v => v.category).sum ≤ 8) (hf : cells ≤ R.cells ∧ slots ≤ R.slots) (hR : f2 + 1 ≤ R.frames ∧ 8 + (nL2 + 11) + 64 * f2 ≤ R.locals) (kk : Z g0 d y cc nL ret tb p l e R s m args below meth c Q cells slots G1 L (v.toList ++ rest) (pc + 3)) : Z g0 d y cc nL ret tb p l e R s m args below meth c Q cells slots G L st pc :=
  z_callSN hM hy hq hstt hd hst hrest hf hR (fun _ _ h => h.elim) (fun r G' h => by obtain ⟨rfl, rfl⟩ := h; exact kk)
theorem z_callSNp0 {y2 : MethodName} {cc2 : ByteArray} {nL2 idx : Nat} {ret2 : Option FieldType} {f2 : Nat} {av rest : List Value} {host : String} {post : Option Value → zG → Prop} (hM : zMet g0 d l y2 cc2 nL2 ret2 f2 0 0 av G post zNo) (hy : zY y2 cc2 nL2 ret2 av.length) (hq : Cond.methodLinkNest y.cls idx y2 host ∈ lw_tbl) (hstt : Cond.static y2 ∈ lw_tbl) (hd : decode cc pc = .ok (.invokestatic idx, 3)) (hst : st = av.reverse ++ rest) (hrest : (rest.map fun v => v.category).sum ≤ 8) (hf : cells ≤ R.cells ∧ slots ≤ R.slots) (hR : f2 + 1 ≤ R.frames ∧ 8 + (nL2 + 11) + 64 * f2 ≤ R.locals) (kk : ∀ (r : Option Value) (G' : zG), post r G' → Z g0 d y cc nL ret tb p l e R s m args below meth c Q cells slots G' L (r.toList ++ rest) (pc + 3)) : Z g0 d y cc nL ret tb p l e R s m args below meth c Q cells slots G L st pc :=
  z_callSN hM hy hq hstt hd hst hrest hf hR (fun _ _ h => h.elim) kk
theorem z_callV1 {y2 : MethodName} {cc2 : ByteArray} {nL2 idx : Nat} {ret2 : Option FieldType} {f2 mc2 ms2 : Nat} {av rest : List Value} {ci a : Nat} {T : u_T} {N : Nat} {ty : Nat → FieldType} {fs : List Value} {v : Option Value} (hM : zMet g0 d l y2 cc2 nL2 ret2 f2 mc2 ms2 (.ref a :: av) G (zEq v G1) zNo) (hy : zY y2 cc2 nL2 ret2 av.length) (hq : Cond.methodLink y.cls idx y2 ∈ lw_tbl) (hi : Cond.instanceMethod y2 ∈ lw_tbl) (hv : Cond.selects y2.cls y2 y2 ∈ lw_tbl) (hz : zCl ci y2.cls T N ty) (hG : G a = some (zob ci fs)) (hd : decode cc pc = .ok (.invokevirtual idx, 3)) (hst : st = av.reverse ++ .ref a :: rest) (hrest : (rest.map fun v => v.category).sum ≤ 8) (hf : cells + mc2 ≤ R.cells ∧ slots + ms2 ≤ R.slots) (hR : f2 + 1 ≤ R.frames ∧ 8 + (nL2 + 11) + 64 * f2 ≤ R.locals) (kk : Z g0 d y cc nL ret tb p l e R s m args below meth c Q (cells + mc2) (slots + ms2) G1 L (v.toList ++ rest) (pc + 3)) : Z g0 d y cc nL ret tb p l e R s m args below meth c Q cells slots G L st pc :=
  z_callV hM hy hq hi hv hz hG hd hst hrest hf hR (fun _ _ h => h.elim) (fun r G' h => by obtain ⟨rfl, rfl⟩ := h; exact kk)
theorem z_callVp1 {y2 : MethodName} {cc2 : ByteArray} {nL2 idx : Nat} {ret2 : Option FieldType} {f2 mc2 ms2 : Nat} {av rest : List Value} {ci a : Nat} {T : u_T} {N : Nat} {ty : Nat → FieldType} {fs : List Value} {post : Option Value → zG → Prop} (hM : zMet g0 d l y2 cc2 nL2 ret2 f2 mc2 ms2 (.ref a :: av) G post zNo) (hy : zY y2 cc2 nL2 ret2 av.length) (hq : Cond.methodLink y.cls idx y2 ∈ lw_tbl) (hi : Cond.instanceMethod y2 ∈ lw_tbl) (hv : Cond.selects y2.cls y2 y2 ∈ lw_tbl) (hz : zCl ci y2.cls T N ty) (hG : G a = some (zob ci fs)) (hd : decode cc pc = .ok (.invokevirtual idx, 3)) (hst : st = av.reverse ++ .ref a :: rest) (hrest : (rest.map fun v => v.category).sum ≤ 8) (hf : cells + mc2 ≤ R.cells ∧ slots + ms2 ≤ R.slots) (hR : f2 + 1 ≤ R.frames ∧ 8 + (nL2 + 11) + 64 * f2 ≤ R.locals) (kk : ∀ (r : Option Value) (G' : zG), post r G' → Z g0 d y cc nL ret tb p l e R s m args below meth c Q (cells + mc2) (slots + ms2) G' L (r.toList ++ rest) (pc + 3)) : Z g0 d y cc nL ret tb p l e R s m args below meth c Q cells slots G L st pc :=
  z_callV hM hy hq hi hv hz hG hd hst hrest hf hR (fun _ _ h => h.elim) kk
theorem z_callV0 {y2 : MethodName} {cc2 : ByteArray} {nL2 idx : Nat} {ret2 : Option FieldType} {f2 : Nat} {av rest : List Value} {ci a : Nat} {T : u_T} {N : Nat} {ty : Nat → FieldType} {fs : List Value} {v : Option Value} (hM : zMet g0 d l y2 cc2 nL2 ret2 f2 0 0 (.ref a :: av) G (zEq v G1) zNo) (hy : zY y2 cc2 nL2 ret2 av.length) (hq : Cond.methodLink y.cls idx y2 ∈ lw_tbl) (hi : Cond.instanceMethod y2 ∈ lw_tbl) (hv : Cond.selects y2.cls y2 y2 ∈ lw_tbl) (hz : zCl ci y2.cls T N ty) (hG : G a = some (zob ci fs)) (hd : decode cc pc = .ok (.invokevirtual idx, 3)) (hst : st = av.reverse ++ .ref a :: rest) (hrest : (rest.map fun v => v.category).sum ≤ 8) (hf : cells ≤ R.cells ∧ slots ≤ R.slots) (hR : f2 + 1 ≤ R.frames ∧ 8 + (nL2 + 11) + 64 * f2 ≤ R.locals) (kk : Z g0 d y cc nL ret tb p l e R s m args below meth c Q cells slots G1 L (v.toList ++ rest) (pc + 3)) : Z g0 d y cc nL ret tb p l e R s m args below meth c Q cells slots G L st pc :=
  z_callV hM hy hq hi hv hz hG hd hst hrest hf hR (fun _ _ h => h.elim) (fun r G' h => by obtain ⟨rfl, rfl⟩ := h; exact kk)
theorem z_callVp0 {y2 : MethodName} {cc2 : ByteArray} {nL2 idx : Nat} {ret2 : Option FieldType} {f2 : Nat} {av rest : List Value} {ci a : Nat} {T : u_T} {N : Nat} {ty : Nat → FieldType} {fs : List Value} {post : Option Value → zG → Prop} (hM : zMet g0 d l y2 cc2 nL2 ret2 f2 0 0 (.ref a :: av) G post zNo) (hy : zY y2 cc2 nL2 ret2 av.length) (hq : Cond.methodLink y.cls idx y2 ∈ lw_tbl) (hi : Cond.instanceMethod y2 ∈ lw_tbl) (hv : Cond.selects y2.cls y2 y2 ∈ lw_tbl) (hz : zCl ci y2.cls T N ty) (hG : G a = some (zob ci fs)) (hd : decode cc pc = .ok (.invokevirtual idx, 3)) (hst : st = av.reverse ++ .ref a :: rest) (hrest : (rest.map fun v => v.category).sum ≤ 8) (hf : cells ≤ R.cells ∧ slots ≤ R.slots) (hR : f2 + 1 ≤ R.frames ∧ 8 + (nL2 + 11) + 64 * f2 ≤ R.locals) (kk : ∀ (r : Option Value) (G' : zG), post r G' → Z g0 d y cc nL ret tb p l e R s m args below meth c Q cells slots G' L (r.toList ++ rest) (pc + 3)) : Z g0 d y cc nL ret tb p l e R s m args below meth c Q cells slots G L st pc :=
  z_callV hM hy hq hi hv hz hG hd hst hrest hf hR (fun _ _ h => h.elim) kk
theorem z_callI1 {y2 : MethodName} {cc2 : ByteArray} {nL2 idx : Nat} {f2 mc2 ms2 : Nat} {av rest : List Value} {a : Nat} {v : Option Value} (hM : zMet g0 d l y2 cc2 nL2 none f2 mc2 ms2 (.ref a :: av) G (zEq v G1) zNo) (hy : zY y2 cc2 nL2 none av.length) (hin : y2.name = "<init>") (hq : Cond.methodLink y.cls idx y2 ∈ lw_tbl) (hi : Cond.instanceMethod y2 ∈ lw_tbl) (hd : decode cc pc = .ok (.invokespecial idx, 3)) (hst : st = av.reverse ++ .ref a :: rest) (hrest : (rest.map fun v => v.category).sum ≤ 8) (hf : cells + mc2 ≤ R.cells ∧ slots + ms2 ≤ R.slots) (hR : f2 + 1 ≤ R.frames ∧ 8 + (nL2 + 11) + 64 * f2 ≤ R.locals) (kk : Z g0 d y cc nL ret tb p l e R s m args below meth c Q (cells + mc2) (slots + ms2) G1 L (v.toList ++ rest) (pc + 3)) : Z g0 d y cc nL ret tb p l e R s m args below meth c Q cells slots G L st pc :=
  z_callI hM hy hin hq hi hd hst hrest hf hR (fun _ _ h => h.elim) (fun r G' h => by obtain ⟨rfl, rfl⟩ := h; exact kk)
theorem z_callIp1 {y2 : MethodName} {cc2 : ByteArray} {nL2 idx : Nat} {f2 mc2 ms2 : Nat} {av rest : List Value} {a : Nat} {post : Option Value → zG → Prop} (hM : zMet g0 d l y2 cc2 nL2 none f2 mc2 ms2 (.ref a :: av) G post zNo) (hy : zY y2 cc2 nL2 none av.length) (hin : y2.name = "<init>") (hq : Cond.methodLink y.cls idx y2 ∈ lw_tbl) (hi : Cond.instanceMethod y2 ∈ lw_tbl) (hd : decode cc pc = .ok (.invokespecial idx, 3)) (hst : st = av.reverse ++ .ref a :: rest) (hrest : (rest.map fun v => v.category).sum ≤ 8) (hf : cells + mc2 ≤ R.cells ∧ slots + ms2 ≤ R.slots) (hR : f2 + 1 ≤ R.frames ∧ 8 + (nL2 + 11) + 64 * f2 ≤ R.locals) (kk : ∀ (r : Option Value) (G' : zG), post r G' → Z g0 d y cc nL ret tb p l e R s m args below meth c Q (cells + mc2) (slots + ms2) G' L (r.toList ++ rest) (pc + 3)) : Z g0 d y cc nL ret tb p l e R s m args below meth c Q cells slots G L st pc :=
  z_callI hM hy hin hq hi hd hst hrest hf hR (fun _ _ h => h.elim) kk
theorem z_callI0 {y2 : MethodName} {cc2 : ByteArray} {nL2 idx : Nat} {f2 : Nat} {av rest : List Value} {a : Nat} {v : Option Value} (hM : zMet g0 d l y2 cc2 nL2 none f2 0 0 (.ref a :: av) G (zEq v G1) zNo) (hy : zY y2 cc2 nL2 none av.length) (hin : y2.name = "<init>") (hq : Cond.methodLink y.cls idx y2 ∈ lw_tbl) (hi : Cond.instanceMethod y2 ∈ lw_tbl) (hd : decode cc pc = .ok (.invokespecial idx, 3)) (hst : st = av.reverse ++ .ref a :: rest) (hrest : (rest.map fun v => v.category).sum ≤ 8) (hf : cells ≤ R.cells ∧ slots ≤ R.slots) (hR : f2 + 1 ≤ R.frames ∧ 8 + (nL2 + 11) + 64 * f2 ≤ R.locals) (kk : Z g0 d y cc nL ret tb p l e R s m args below meth c Q cells slots G1 L (v.toList ++ rest) (pc + 3)) : Z g0 d y cc nL ret tb p l e R s m args below meth c Q cells slots G L st pc :=
  z_callI hM hy hin hq hi hd hst hrest hf hR (fun _ _ h => h.elim) (fun r G' h => by obtain ⟨rfl, rfl⟩ := h; exact kk)
theorem z_callIp0 {y2 : MethodName} {cc2 : ByteArray} {nL2 idx : Nat} {f2 : Nat} {av rest : List Value} {a : Nat} {post : Option Value → zG → Prop} (hM : zMet g0 d l y2 cc2 nL2 none f2 0 0 (.ref a :: av) G post zNo) (hy : zY y2 cc2 nL2 none av.length) (hin : y2.name = "<init>") (hq : Cond.methodLink y.cls idx y2 ∈ lw_tbl) (hi : Cond.instanceMethod y2 ∈ lw_tbl) (hd : decode cc pc = .ok (.invokespecial idx, 3)) (hst : st = av.reverse ++ .ref a :: rest) (hrest : (rest.map fun v => v.category).sum ≤ 8) (hf : cells ≤ R.cells ∧ slots ≤ R.slots) (hR : f2 + 1 ≤ R.frames ∧ 8 + (nL2 + 11) + 64 * f2 ≤ R.locals) (kk : ∀ (r : Option Value) (G' : zG), post r G' → Z g0 d y cc nL ret tb p l e R s m args below meth c Q cells slots G' L (r.toList ++ rest) (pc + 3)) : Z g0 d y cc nL ret tb p l e R s m args below meth c Q cells slots G L st pc :=
  z_callI hM hy hin hq hi hd hst hrest hf hR (fun _ _ h => h.elim) kk
theorem z_callF1 {y2 : MethodName} {cc2 : ByteArray} {nL2 idx : Nat} {ret2 : Option FieldType} {f2 mc2 ms2 : Nat} {av rest : List Value} {ci a cnt : Nat} {C : String} {x : MethodName} {T : u_T} {N : Nat} {ty : Nat → FieldType} {fs : List Value} {v : Option Value} (hM : zMet g0 d l y2 cc2 nL2 ret2 f2 mc2 ms2 (.ref a :: av) G (zEq v G1) zNo) (hy : zY y2 cc2 nL2 ret2 av.length) (hF : zF C x y2) (hq : Cond.methodLink y.cls idx x ∈ lw_tbl) (hz : zCl ci C T N ty) (hG : G a = some (zob ci fs)) (hd : decode cc pc = .ok (.invokeinterface idx cnt, 5)) (hst : st = av.reverse ++ .ref a :: rest) (hrest : (rest.map fun v => v.category).sum ≤ 8) (hf : cells + mc2 ≤ R.cells ∧ slots + ms2 ≤ R.slots) (hR : f2 + 1 ≤ R.frames ∧ 8 + (nL2 + 11) + 64 * f2 ≤ R.locals) (kk : Z g0 d y cc nL ret tb p l e R s m args below meth c Q (cells + mc2) (slots + ms2) G1 L (v.toList ++ rest) (pc + 5)) : Z g0 d y cc nL ret tb p l e R s m args below meth c Q cells slots G L st pc :=
  z_callF hM hy hF hq hz hG hd hst hrest hf hR (fun _ _ h => h.elim) (fun r G' h => by obtain ⟨rfl, rfl⟩ := h; exact kk)
theorem z_callFp1 {y2 : MethodName} {cc2 : ByteArray} {nL2 idx : Nat} {ret2 : Option FieldType} {f2 mc2 ms2 : Nat} {av rest : List Value} {ci a cnt : Nat} {C : String} {x : MethodName} {T : u_T} {N : Nat} {ty : Nat → FieldType} {fs : List Value} {post : Option Value → zG → Prop} (hM : zMet g0 d l y2 cc2 nL2 ret2 f2 mc2 ms2 (.ref a :: av) G post zNo) (hy : zY y2 cc2 nL2 ret2 av.length) (hF : zF C x y2) (hq : Cond.methodLink y.cls idx x ∈ lw_tbl) (hz : zCl ci C T N ty) (hG : G a = some (zob ci fs)) (hd : decode cc pc = .ok (.invokeinterface idx cnt, 5)) (hst : st = av.reverse ++ .ref a :: rest) (hrest : (rest.map fun v => v.category).sum ≤ 8) (hf : cells + mc2 ≤ R.cells ∧ slots + ms2 ≤ R.slots) (hR : f2 + 1 ≤ R.frames ∧ 8 + (nL2 + 11) + 64 * f2 ≤ R.locals) (kk : ∀ (r : Option Value) (G' : zG), post r G' → Z g0 d y cc nL ret tb p l e R s m args below meth c Q (cells + mc2) (slots + ms2) G' L (r.toList ++ rest) (pc + 5)) : Z g0 d y cc nL ret tb p l e R s m args below meth c Q cells slots G L st pc :=
  z_callF hM hy hF hq hz hG hd hst hrest hf hR (fun _ _ h => h.elim) kk
theorem z_callF0 {y2 : MethodName} {cc2 : ByteArray} {nL2 idx : Nat} {ret2 : Option FieldType} {f2 : Nat} {av rest : List Value} {ci a cnt : Nat} {C : String} {x : MethodName} {T : u_T} {N : Nat} {ty : Nat → FieldType} {fs : List Value} {v : Option Value} (hM : zMet g0 d l y2 cc2 nL2 ret2 f2 0 0 (.ref a :: av) G (zEq v G1) zNo) (hy : zY y2 cc2 nL2 ret2 av.length) (hF : zF C x y2) (hq : Cond.methodLink y.cls idx x ∈ lw_tbl) (hz : zCl ci C T N ty) (hG : G a = some (zob ci fs)) (hd : decode cc pc = .ok (.invokeinterface idx cnt, 5)) (hst : st = av.reverse ++ .ref a :: rest) (hrest : (rest.map fun v => v.category).sum ≤ 8) (hf : cells ≤ R.cells ∧ slots ≤ R.slots) (hR : f2 + 1 ≤ R.frames ∧ 8 + (nL2 + 11) + 64 * f2 ≤ R.locals) (kk : Z g0 d y cc nL ret tb p l e R s m args below meth c Q cells slots G1 L (v.toList ++ rest) (pc + 5)) : Z g0 d y cc nL ret tb p l e R s m args below meth c Q cells slots G L st pc :=
  z_callF hM hy hF hq hz hG hd hst hrest hf hR (fun _ _ h => h.elim) (fun r G' h => by obtain ⟨rfl, rfl⟩ := h; exact kk)
theorem z_callFp0 {y2 : MethodName} {cc2 : ByteArray} {nL2 idx : Nat} {ret2 : Option FieldType} {f2 : Nat} {av rest : List Value} {ci a cnt : Nat} {C : String} {x : MethodName} {T : u_T} {N : Nat} {ty : Nat → FieldType} {fs : List Value} {post : Option Value → zG → Prop} (hM : zMet g0 d l y2 cc2 nL2 ret2 f2 0 0 (.ref a :: av) G post zNo) (hy : zY y2 cc2 nL2 ret2 av.length) (hF : zF C x y2) (hq : Cond.methodLink y.cls idx x ∈ lw_tbl) (hz : zCl ci C T N ty) (hG : G a = some (zob ci fs)) (hd : decode cc pc = .ok (.invokeinterface idx cnt, 5)) (hst : st = av.reverse ++ .ref a :: rest) (hrest : (rest.map fun v => v.category).sum ≤ 8) (hf : cells ≤ R.cells ∧ slots ≤ R.slots) (hR : f2 + 1 ≤ R.frames ∧ 8 + (nL2 + 11) + 64 * f2 ≤ R.locals) (kk : ∀ (r : Option Value) (G' : zG), post r G' → Z g0 d y cc nL ret tb p l e R s m args below meth c Q cells slots G' L (r.toList ++ rest) (pc + 5)) : Z g0 d y cc nL ret tb p l e R s m args below meth c Q cells slots G L st pc :=
  z_callF hM hy hF hq hz hG hd hst hrest hf hR (fun _ _ h => h.elim) kk

/-- a cast of an object of a class of ours to its own class -/
theorem z_castS {ci idx a : Nat} {C : String} {T : u_T} {N : Nat} {ty : Nat → FieldType} {fs : List Value} (hz : zCl ci C T N ty) (hq : Cond.classLink y.cls idx C ∈ lw_tbl) (hG : G a = some (zob ci fs)) (hd : decode cc pc = .ok (.checkcast idx, 3)) (k : Z g0 d y cc nL ret tb p l e R s m args below meth c Q cells slots G L (.ref a :: st) (pc + 3)) : Z g0 d y cc nL ret tb p l e R s m args below meth c Q cells slots G L (.ref a :: st) pc := by
  intro hc H locs ls hP hS hl
  exact va_castS hc.x hc.b hc.own (hc.w hq rfl args) (hc.K.1 ci _ hz.1).2 (z_recv hc hP hz hG) hd (k hc H locs ls hP hS hl)
/-- the shared empty array -/
theorem z_gets0 {idx : Nat} (hq : Cond.fieldLink y.cls idx "java/util/ArrayList" "DEFAULTCAPACITY_EMPTY_ELEMENTDATA" "[Ljava/lang/Object;" ∈ lw_tbl) (hd : decode cc pc = .ok (.getstatic idx, 3)) (k : Z g0 d y cc nL ret tb p l e R s m args below meth c Q cells slots G L (.ref d.2.2 :: st) (pc + 3)) : Z g0 d y cc nL ret tb p l e R s m args below meth c Q cells slots G L st pc := by
  intro hc H locs ls hP hS hl
  obtain ⟨⟨a0, h0, -, hZ, -⟩, -⟩ := id hc
  exact va_gets hc.x hc.b (va_Z.moved hc.warm.alike (va_Z.kept hZ (fun q h1 _ => hc.old.2 q h1))) hS hc.own (hc.w hq rfl args) (fun _ h => h) hd (k hc H locs ls hP hS hl)
theorem z_alen0 (hd : decode cc pc = .ok (.arraylength, 1)) (k : Z g0 d y cc nL ret tb p l e R s m args below meth c Q cells slots G L (.int 0 :: st) (pc + 1)) : Z g0 d y cc nL ret tb p l e R s m args below meth c Q cells slots G L (.ref d.2.2 :: st) pc := by
  intro hc H locs ls hP hS hl
  obtain ⟨⟨a0, h0, -, hZ, ⟨hlt, hat⟩, -⟩, -⟩ := id hc
  exact va_alen (v := 0) (ws := [(d.2.2, zO d 0 (fun _ => none))]) hc.x hc.b hc.K (fun k q hk => by
    have : k = 0 := by
      have := (List.getElem?_eq_some_iff.mp hk).1
      simp at this
      exact this
    subst this
    cases hk
    exact hat.kept ((hc.old.s hS).2 _ hlt)) 0 3 rfl rfl rfl hd (k hc H locs ls hP hS hl)
/-- an object of a class of ours into an array of Objects -/
theorem z_aastO {ci a n v : Nat} {C : String} {T : u_T} {N : Nat} {ty : Nat → FieldType} {fs : List Value} {f : Nat → Option Nat} {i : Int32} (hz : zCl ci C T N ty) (hcast : Cond.castable C "java/lang/Object" ∈ lw_tbl) (hG : G a = some (zO d n f)) (hV : G v = some (zob ci fs)) (hin : vp_in i n) (hd : decode cc pc = .ok (.aastore, 1)) (k : Z g0 d y cc nL ret tb p l e R s m args below meth c Q cells slots (zu G a (zO d n (va_up f i.toNatClampNeg (some v)))) L st (pc + 1)) : Z g0 d y cc nL ret tb p l e R s m args below meth c Q cells slots G L (.ref v :: .int i :: .ref a :: st) pc := by
  intro hc H locs ls hP hS hl
  obtain ⟨j, hj⟩ := hP.in hG
  obtain ⟨j2, hj2⟩ := hP.in hV
  exact va_astqO hc.x hc.b hc.K hP.P hP.D hS j 3 j2 ci hj rfl (hc.cast hcast) hj2 hz.1 hin hd (fun H1 locs1 hP1 hD1 hS1 => k hc H1 locs1 ls (hP.set hj hP1) hS1 hl)

end ZROWS2
theorem ym_AB_appendNull : zY y_AB_appendNull c_AB_appendNull 3 (Option.some (Jvm.ClassFile.FieldType.object "java/lang/AbstractStringBuilder")) 0 := ⟨qC_AB_appendNull, qN_AB, ⟨by decide, by decide⟩, by decide +kernel⟩
theorem ym_AB_append_1 : zY y_AB_append_1 c_AB_append_1 2 (Option.some (Jvm.ClassFile.FieldType.object "java/lang/AbstractStringBuilder")) 1 := ⟨qC_AB_append_1, qN_AB, ⟨by decide, by decide⟩, by decide +kernel⟩
theorem ym_AB_append_2 : zY y_AB_append_2 c_AB_append_2 4 (Option.some (Jvm.ClassFile.FieldType.object "java/lang/AbstractStringBuilder")) 1 := ⟨qC_AB_append_2, qN_AB, ⟨by decide, by decide⟩, by decide +kernel⟩
theorem ym_AB_append_3 : zY y_AB_append_3 c_AB_append_3 3 (Option.some (Jvm.ClassFile.FieldType.object "java/lang/AbstractStringBuilder")) 1 := ⟨qC_AB_append_3, qN_AB, ⟨by decide, by decide⟩, by decide +kernel⟩
theorem ym_AB_ensureCapacityInternal : zY y_AB_ensureCapacityInternal c_AB_ensureCapacityInternal 3 (Option.none : Option Jvm.ClassFile.FieldType) 1 := ⟨qC_AB_ensureCapacityInternal, qN_AB, ⟨by decide, by decide⟩, by decide +kernel⟩
theorem ym_AB_getValue : zY y_AB_getValue c_AB_getValue 1 (Option.some (Jvm.ClassFile.FieldType.array Jvm.ClassFile.FieldType.byte)) 0 := ⟨qC_AB_getValue, qN_AB, ⟨by decide, by decide⟩, by decide +kernel⟩
theorem ym_AB_inflate : zY y_AB_inflate c_AB_inflate 2 (Option.none : Option Jvm.ClassFile.FieldType) 0 := ⟨qC_AB_inflate, qN_AB, ⟨by decide, by decide⟩, by decide +kernel⟩
theorem ym_AB_inflateIfNeededFor : zY y_AB_inflateIfNeededFor c_AB_inflateIfNeededFor 2 (Option.none : Option Jvm.ClassFile.FieldType) 1 := ⟨qC_AB_inflateIfNeededFor, qN_AB, ⟨by decide, by decide⟩, by decide +kernel⟩
theorem ym_AB_init : zY y_AB_init c_AB_init 2 (Option.none : Option Jvm.ClassFile.FieldType) 1 := ⟨qC_AB_init, qN_AB, ⟨by decide, by decide⟩, by decide +kernel⟩
theorem ym_AB_isLatin1 : zY y_AB_isLatin1 c_AB_isLatin1 1 (Option.some Jvm.ClassFile.FieldType.boolean) 0 := ⟨qC_AB_isLatin1, qN_AB, ⟨by decide, by decide⟩, by decide +kernel⟩
theorem ym_AB_length : zY y_AB_length c_AB_length 1 (Option.some Jvm.ClassFile.FieldType.int) 0 := ⟨qC_AB_length, qN_AB, ⟨by decide, by decide⟩, by decide +kernel⟩
theorem ym_AB_newCapacity : zY y_AB_newCapacity c_AB_newCapacity 6 (Option.some Jvm.ClassFile.FieldType.int) 1 := ⟨qC_AB_newCapacity, qN_AB, ⟨by decide, by decide⟩, by decide +kernel⟩
theorem ym_AB_putStringAt : zY y_AB_putStringAt c_AB_putStringAt 3 (Option.none : Option Jvm.ClassFile.FieldType) 2 := ⟨qC_AB_putStringAt, qN_AB, ⟨by decide, by decide⟩, by decide +kernel⟩
theorem ym_AL_add_1 : zY y_AL_add_1 c_AL_add_1 2 (Option.some Jvm.ClassFile.FieldType.boolean) 1 := ⟨qC_AL_add_1, qN_AL, ⟨by decide, by decide⟩, by decide +kernel⟩
theorem ym_AL_add_2 : zY y_AL_add_2 c_AL_add_2 4 (Option.none : Option Jvm.ClassFile.FieldType) 3 := ⟨qC_AL_add_2, qN_AL, ⟨by decide, by decide⟩, by decide +kernel⟩
theorem ym_AL_elementData : zY y_AL_elementData c_AL_elementData 2 (Option.some (Jvm.ClassFile.FieldType.object "java/lang/Object")) 1 := ⟨qC_AL_elementData, qN_AL, ⟨by decide, by decide⟩, by decide +kernel⟩
theorem ym_AL_get : zY y_AL_get c_AL_get 2 (Option.some (Jvm.ClassFile.FieldType.object "java/lang/Object")) 1 := ⟨qC_AL_get, qN_AL, ⟨by decide, by decide⟩, by decide +kernel⟩
theorem ym_AL_grow_1 : zY y_AL_grow_1 c_AL_grow_1 1 (Option.some (Jvm.ClassFile.FieldType.array (Jvm.ClassFile.FieldType.object "java/lang/Object"))) 0 := ⟨qC_AL_grow_1, qN_AL, ⟨by decide, by decide⟩, by decide +kernel⟩
theorem ym_AL_grow_2 : zY y_AL_grow_2 c_AL_grow_2 4 (Option.some (Jvm.ClassFile.FieldType.array (Jvm.ClassFile.FieldType.object "java/lang/Object"))) 1 := ⟨qC_AL_grow_2, qN_AL, ⟨by decide, by decide⟩, by decide +kernel⟩
theorem ym_AL_init : zY y_AL_init c_AL_init 1 (Option.none : Option Jvm.ClassFile.FieldType) 0 := ⟨qC_AL_init, qN_AL, ⟨by decide, by decide⟩, by decide +kernel⟩
theorem ym_AL_size : zY y_AL_size c_AL_size 1 (Option.some Jvm.ClassFile.FieldType.int) 0 := ⟨qC_AL_size, qN_AL, ⟨by decide, by decide⟩, by decide +kernel⟩
theorem ym_AS_hugeLength : zY y_AS_hugeLength c_AS_hugeLength 3 (Option.some Jvm.ClassFile.FieldType.int) 2 := ⟨qC_AS_hugeLength, qN_AS, ⟨by decide, by decide⟩, by decide +kernel⟩
theorem ym_AS_newLength : zY y_AS_newLength c_AS_newLength 4 (Option.some Jvm.ClassFile.FieldType.int) 3 := ⟨qC_AS_newLength, qN_AS, ⟨by decide, by decide⟩, by decide +kernel⟩
theorem ym_AbC_init : zY y_AbC_init c_AbC_init 1 (Option.none : Option Jvm.ClassFile.FieldType) 0 := ⟨qC_AbC_init, qN_AbC, ⟨by decide, by decide⟩, by decide +kernel⟩
theorem ym_AbL_init : zY y_AbL_init c_AbL_init 1 (Option.none : Option Jvm.ClassFile.FieldType) 0 := ⟨qC_AbL_init, qN_AbL, ⟨by decide, by decide⟩, by decide +kernel⟩
theorem ym_Ar_checkLength : zY y_Ar_checkLength c_Ar_checkLength 2 (Option.none : Option Jvm.ClassFile.FieldType) 2 := ⟨qC_Ar_checkLength, qN_Ar, ⟨by decide, by decide⟩, by decide +kernel⟩
theorem ym_Ar_copyOfRange : zY y_Ar_copyOfRange c_Ar_copyOfRange 3 (Option.some (Jvm.ClassFile.FieldType.array Jvm.ClassFile.FieldType.byte)) 3 := ⟨qC_Ar_copyOfRange, qN_Ar, ⟨by decide, by decide⟩, by decide +kernel⟩
theorem ym_Ar_copyOfRangeByte : zY y_Ar_copyOfRangeByte c_Ar_copyOfRangeByte 5 (Option.some (Jvm.ClassFile.FieldType.array Jvm.ClassFile.FieldType.byte)) 3 := ⟨qC_Ar_copyOfRangeByte, qN_Ar, ⟨by decide, by decide⟩, by decide +kernel⟩
theorem ym_Ar_copyOf_1 : zY y_Ar_copyOf_1 c_Ar_copyOf_1 3 (Option.some (Jvm.ClassFile.FieldType.array Jvm.ClassFile.FieldType.byte)) 2 := ⟨qC_Ar_copyOf_1, qN_Ar, ⟨by decide, by decide⟩, by decide +kernel⟩
theorem ym_Ar_copyOf_2 : zY y_Ar_copyOf_2 c_Ar_copyOf_2 2 (Option.some (Jvm.ClassFile.FieldType.array (Jvm.ClassFile.FieldType.object "java/lang/Object"))) 2 := ⟨qC_Ar_copyOf_2, qN_Ar, ⟨by decide, by decide⟩, by decide +kernel⟩
theorem ym_Ar_copyOf_3 : zY y_Ar_copyOf_3 c_Ar_copyOf_3 4 (Option.some (Jvm.ClassFile.FieldType.array (Jvm.ClassFile.FieldType.object "java/lang/Object"))) 3 := ⟨qC_Ar_copyOf_3, qN_Ar, ⟨by decide, by decide⟩, by decide +kernel⟩
theorem ym_Cu_at : zY y_Cu_at c_Cu_at 4 (Option.some Jvm.ClassFile.FieldType.int) 1 := ⟨qC_Cu_at, qN_Cu, ⟨by decide, by decide⟩, by decide +kernel⟩
theorem ym_Cu_draw : zY y_Cu_draw c_Cu_draw 4 (Option.none : Option Jvm.ClassFile.FieldType) 2 := ⟨qC_Cu_draw, qN_Cu, ⟨by decide, by decide⟩, by decide +kernel⟩
theorem ym_Cu_init : zY y_Cu_init c_Cu_init 1 (Option.none : Option Jvm.ClassFile.FieldType) 0 := ⟨qC_Cu_init, qN_Cu, ⟨by decide, by decide⟩, by decide +kernel⟩
theorem ym_Cu_nextNumber : zY y_Cu_nextNumber c_Cu_nextNumber 1 (Option.some Jvm.ClassFile.FieldType.int) 0 := ⟨qC_Cu_nextNumber, qN_Cu, ⟨by decide, by decide⟩, by decide +kernel⟩
theorem ym_Gr_agreed : zY y_Gr_agreed c_Gr_agreed 1 (Option.some Jvm.ClassFile.FieldType.int) 0 := ⟨qC_Gr_agreed, qN_Gr, ⟨by decide, by decide⟩, by decide +kernel⟩
theorem ym_Gr_agreeingWith : zY y_Gr_agreeingWith c_Gr_agreeingWith 4 (Option.some Jvm.ClassFile.FieldType.int) 1 := ⟨qC_Gr_agreeingWith, qN_Gr, ⟨by decide, by decide⟩, by decide +kernel⟩
theorem ym_Gr_begin : zY y_Gr_begin c_Gr_begin 2 (Option.none : Option Jvm.ClassFile.FieldType) 1 := ⟨qC_Gr_begin, qN_Gr, ⟨by decide, by decide⟩, by decide +kernel⟩
theorem ym_Gr_curveAt : zY y_Gr_curveAt c_Gr_curveAt 2 (Option.some Jvm.ClassFile.FieldType.int) 1 := ⟨qC_Gr_curveAt, qN_Gr, ⟨by decide, by decide⟩, by decide +kernel⟩
theorem ym_Gr_decode : zY y_Gr_decode c_Gr_decode 3 (Option.none : Option Jvm.ClassFile.FieldType) 0 := ⟨qC_Gr_decode, qN_Gr, ⟨by decide, by decide⟩, by decide +kernel⟩
theorem ym_Gr_give : zY y_Gr_give c_Gr_give 3 (Option.none : Option Jvm.ClassFile.FieldType) 2 := ⟨qC_Gr_give, qN_Gr, ⟨by decide, by decide⟩, by decide +kernel⟩
theorem ym_Gr_init : zY y_Gr_init c_Gr_init 2 (Option.none : Option Jvm.ClassFile.FieldType) 0 := ⟨qC_Gr_init, qN_Gr, ⟨by decide, by decide⟩, by decide +kernel⟩
theorem ym_Gr_isGood : zY y_Gr_isGood c_Gr_isGood 1 (Option.some Jvm.ClassFile.FieldType.boolean) 0 := ⟨qC_Gr_isGood, qN_Gr, ⟨by decide, by decide⟩, by decide +kernel⟩
theorem ym_Gr_isOnOneCurve : zY y_Gr_isOnOneCurve c_Gr_isOnOneCurve 3 (Option.some Jvm.ClassFile.FieldType.boolean) 0 := ⟨qC_Gr_isOnOneCurve, qN_Gr, ⟨by decide, by decide⟩, by decide +kernel⟩
theorem ym_Gr_liars : zY y_Gr_liars c_Gr_liars 1 (Option.some Jvm.ClassFile.FieldType.int) 0 := ⟨qC_Gr_liars, qN_Gr, ⟨by decide, by decide⟩, by decide +kernel⟩
theorem ym_Gr_members : zY y_Gr_members c_Gr_members 1 (Option.some Jvm.ClassFile.FieldType.int) 0 := ⟨qC_Gr_members, qN_Gr, ⟨by decide, by decide⟩, by decide +kernel⟩
theorem ym_Gr_size : zY y_Gr_size c_Gr_size 1 (Option.some Jvm.ClassFile.FieldType.int) 0 := ⟨qC_Gr_size, qN_Gr, ⟨by decide, by decide⟩, by decide +kernel⟩
theorem ym_Gr_through : zY y_Gr_through c_Gr_through 7 (Option.some Jvm.ClassFile.FieldType.int) 2 := ⟨qC_Gr_through, qN_Gr, ⟨by decide, by decide⟩, by decide +kernel⟩
theorem ym_In_bitCount : zY y_In_bitCount c_In_bitCount 1 (Option.some Jvm.ClassFile.FieldType.int) 1 := ⟨qC_In_bitCount, qN_In, ⟨by decide, by decide⟩, by decide +kernel⟩
theorem ym_In_getChars : zY y_In_getChars c_In_getChars 7 (Option.some Jvm.ClassFile.FieldType.int) 3 := ⟨qC_In_getChars, qN_In, ⟨by decide, by decide⟩, by decide +kernel⟩
theorem ym_In_stringSize : zY y_In_stringSize c_In_stringSize 4 (Option.some Jvm.ClassFile.FieldType.int) 1 := ⟨qC_In_stringSize, qN_In, ⟨by decide, by decide⟩, by decide +kernel⟩
theorem ym_Ke_init : zY y_Ke_init c_Ke_init 5 (Option.none : Option Jvm.ClassFile.FieldType) 4 := ⟨qC_Ke_init, qN_Ke, ⟨by decide, by decide⟩, by decide +kernel⟩
theorem ym_MK_init : zY y_MK_init c_MK_init 4 (Option.none : Option Jvm.ClassFile.FieldType) 3 := ⟨qC_MK_init, qN_MK, ⟨by decide, by decide⟩, by decide +kernel⟩
theorem ym_MS_good : zY y_MS_good c_MS_good 3 (Option.some Jvm.ClassFile.FieldType.int) 0 := ⟨qC_MS_good, qN_MS, ⟨by decide, by decide⟩, by decide +kernel⟩
theorem ym_MS_init : zY y_MS_init c_MS_init 4 (Option.none : Option Jvm.ClassFile.FieldType) 3 := ⟨qC_MS_init, qN_MS, ⟨by decide, by decide⟩, by decide +kernel⟩
theorem ym_MS_isGood : zY y_MS_isGood c_MS_isGood 2 (Option.some Jvm.ClassFile.FieldType.boolean) 1 := ⟨qC_MS_isGood, qN_MS, ⟨by decide, by decide⟩, by decide +kernel⟩
theorem ym_MS_isStale : zY y_MS_isStale c_MS_isStale 2 (Option.some Jvm.ClassFile.FieldType.boolean) 1 := ⟨qC_MS_isStale, qN_MS, ⟨by decide, by decide⟩, by decide +kernel⟩
theorem ym_MS_stale : zY y_MS_stale c_MS_stale 3 (Option.some Jvm.ClassFile.FieldType.int) 0 := ⟨qC_MS_stale, qN_MS, ⟨by decide, by decide⟩, by decide +kernel⟩
theorem ym_Ma_floorMod : zY y_Ma_floorMod c_Ma_floorMod 3 (Option.some Jvm.ClassFile.FieldType.int) 2 := ⟨qC_Ma_floorMod, qN_Ma, ⟨by decide, by decide⟩, by decide +kernel⟩
theorem ym_Ma_max : zY y_Ma_max c_Ma_max 2 (Option.some Jvm.ClassFile.FieldType.int) 2 := ⟨qC_Ma_max, qN_Ma, ⟨by decide, by decide⟩, by decide +kernel⟩
theorem ym_Ma_min : zY y_Ma_min c_Ma_min 2 (Option.some Jvm.ClassFile.FieldType.int) 2 := ⟨qC_Ma_min, qN_Ma, ⟨by decide, by decide⟩, by decide +kernel⟩
theorem ym_Mo_agreeing : zY y_Mo_agreeing c_Mo_agreeing 6 (Option.some Jvm.ClassFile.FieldType.int) 3 := ⟨qC_Mo_agreeing, qN_Mo, ⟨by decide, by decide⟩, by decide +kernel⟩
theorem ym_Mo_along : zY y_Mo_along c_Mo_along 6 (Option.some Jvm.ClassFile.FieldType.int) 3 := ⟨qC_Mo_along, qN_Mo, ⟨by decide, by decide⟩, by decide +kernel⟩
theorem ym_Mo_at : zY y_Mo_at c_Mo_at 4 (Option.some Jvm.ClassFile.FieldType.int) 2 := ⟨qC_Mo_at, qN_Mo, ⟨by decide, by decide⟩, by decide +kernel⟩
theorem ym_Mo_bank : zY y_Mo_bank c_Mo_bank 2 (Option.some Jvm.ClassFile.FieldType.int) 1 := ⟨qC_Mo_bank, qN_Mo, ⟨by decide, by decide⟩, by decide +kernel⟩
theorem ym_Mo_bankNow : zY y_Mo_bankNow c_Mo_bankNow 6 (Option.some Jvm.ClassFile.FieldType.int) 1 := ⟨qC_Mo_bankNow, qN_Mo, ⟨by decide, by decide⟩, by decide +kernel⟩
theorem ym_Mo_best : zY y_Mo_best c_Mo_best 7 (Option.some Jvm.ClassFile.FieldType.int) 2 := ⟨qC_Mo_best, qN_Mo, ⟨by decide, by decide⟩, by decide +kernel⟩
theorem ym_Mo_bought : zY y_Mo_bought c_Mo_bought 6 (Option.some Jvm.ClassFile.FieldType.int) 1 := ⟨qC_Mo_bought, qN_Mo, ⟨by decide, by decide⟩, by decide +kernel⟩
theorem ym_Mo_deal : zY y_Mo_deal c_Mo_deal 9 (Option.some Jvm.ClassFile.FieldType.int) 5 := ⟨qC_Mo_deal, qN_Mo, ⟨by decide, by decide⟩, by decide +kernel⟩
theorem ym_Mo_digest : zY y_Mo_digest c_Mo_digest 6 (Option.some Jvm.ClassFile.FieldType.long) 0 := ⟨qC_Mo_digest, qN_Mo, ⟨by decide, by decide⟩, by decide +kernel⟩
theorem ym_Mo_draw : zY y_Mo_draw c_Mo_draw 1 (Option.some Jvm.ClassFile.FieldType.int) 0 := ⟨qC_Mo_draw, qN_Mo, ⟨by decide, by decide⟩, by decide +kernel⟩
theorem ym_Mo_fewest : zY y_Mo_fewest c_Mo_fewest 2 (Option.some Jvm.ClassFile.FieldType.int) 1 := ⟨qC_Mo_fewest, qN_Mo, ⟨by decide, by decide⟩, by decide +kernel⟩
theorem ym_Mo_fewestNow : zY y_Mo_fewestNow c_Mo_fewestNow 7 (Option.some Jvm.ClassFile.FieldType.int) 1 := ⟨qC_Mo_fewestNow, qN_Mo, ⟨by decide, by decide⟩, by decide +kernel⟩
theorem ym_Mo_flood : zY y_Mo_flood c_Mo_flood 6 (Option.some Jvm.ClassFile.FieldType.int) 1 := ⟨qC_Mo_flood, qN_Mo, ⟨by decide, by decide⟩, by decide +kernel⟩
theorem ym_Mo_found : zY y_Mo_found c_Mo_found 3 (Option.some Jvm.ClassFile.FieldType.int) 2 := ⟨qC_Mo_found, qN_Mo, ⟨by decide, by decide⟩, by decide +kernel⟩
theorem ym_Mo_freeze : zY y_Mo_freeze c_Mo_freeze 5 (Option.some Jvm.ClassFile.FieldType.int) 3 := ⟨qC_Mo_freeze, qN_Mo, ⟨by decide, by decide⟩, by decide +kernel⟩
theorem ym_Mo_fresh : zY y_Mo_fresh c_Mo_fresh 7 (Option.some Jvm.ClassFile.FieldType.int) 2 := ⟨qC_Mo_fresh, qN_Mo, ⟨by decide, by decide⟩, by decide +kernel⟩
theorem ym_Mo_gives : zY y_Mo_gives c_Mo_gives 3 (Option.some Jvm.ClassFile.FieldType.int) 2 := ⟨qC_Mo_gives, qN_Mo, ⟨by decide, by decide⟩, by decide +kernel⟩
theorem ym_Mo_group : zY y_Mo_group c_Mo_group 3 (Option.some Jvm.ClassFile.FieldType.int) 2 := ⟨qC_Mo_group, qN_Mo, ⟨by decide, by decide⟩, by decide +kernel⟩
theorem ym_Mo_has : zY y_Mo_has c_Mo_has 2 (Option.some Jvm.ClassFile.FieldType.boolean) 2 := ⟨qC_Mo_has, qN_Mo, ⟨by decide, by decide⟩, by decide +kernel⟩
theorem ym_Mo_in : zY y_Mo_in c_Mo_in 3 (Option.some Jvm.ClassFile.FieldType.boolean) 3 := ⟨qC_Mo_in, qN_Mo, ⟨by decide, by decide⟩, by decide +kernel⟩
theorem ym_Mo_init : zY y_Mo_init c_Mo_init 3 (Option.none : Option Jvm.ClassFile.FieldType) 0 := ⟨qC_Mo_init, qN_Mo, ⟨by decide, by decide⟩, by decide +kernel⟩
theorem ym_Mo_isEntry : zY y_Mo_isEntry c_Mo_isEntry 2 (Option.some Jvm.ClassFile.FieldType.boolean) 1 := ⟨qC_Mo_isEntry, qN_Mo, ⟨by decide, by decide⟩, by decide +kernel⟩
theorem ym_Mo_isGood : zY y_Mo_isGood c_Mo_isGood 4 (Option.some Jvm.ClassFile.FieldType.boolean) 2 := ⟨qC_Mo_isGood, qN_Mo, ⟨by decide, by decide⟩, by decide +kernel⟩
theorem ym_Mo_isKeeper : zY y_Mo_isKeeper c_Mo_isKeeper 2 (Option.some Jvm.ClassFile.FieldType.boolean) 1 := ⟨qC_Mo_isKeeper, qN_Mo, ⟨by decide, by decide⟩, by decide +kernel⟩
theorem ym_Mo_isLawful : zY y_Mo_isLawful c_Mo_isLawful 5 (Option.some Jvm.ClassFile.FieldType.boolean) 2 := ⟨qC_Mo_isLawful, qN_Mo, ⟨by decide, by decide⟩, by decide +kernel⟩
theorem ym_Mo_isOneCurve : zY y_Mo_isOneCurve c_Mo_isOneCurve 6 (Option.some Jvm.ClassFile.FieldType.boolean) 1 := ⟨qC_Mo_isOneCurve, qN_Mo, ⟨by decide, by decide⟩, by decide +kernel⟩
theorem ym_Mo_isSecret : zY y_Mo_isSecret c_Mo_isSecret 2 (Option.some Jvm.ClassFile.FieldType.boolean) 1 := ⟨qC_Mo_isSecret, qN_Mo, ⟨by decide, by decide⟩, by decide +kernel⟩
theorem ym_Mo_isSet : zY y_Mo_isSet c_Mo_isSet 2 (Option.some Jvm.ClassFile.FieldType.boolean) 1 := ⟨qC_Mo_isSet, qN_Mo, ⟨by decide, by decide⟩, by decide +kernel⟩
theorem ym_Mo_isSound : zY y_Mo_isSound c_Mo_isSound 1 (Option.some Jvm.ClassFile.FieldType.boolean) 0 := ⟨qC_Mo_isSound, qN_Mo, ⟨by decide, by decide⟩, by decide +kernel⟩
theorem ym_Mo_isSoundNow : zY y_Mo_isSoundNow c_Mo_isSoundNow 4 (Option.some Jvm.ClassFile.FieldType.boolean) 0 := ⟨qC_Mo_isSoundNow, qN_Mo, ⟨by decide, by decide⟩, by decide +kernel⟩
theorem ym_Mo_keeper : zY y_Mo_keeper c_Mo_keeper 4 (Option.some Jvm.ClassFile.FieldType.int) 3 := ⟨qC_Mo_keeper, qN_Mo, ⟨by decide, by decide⟩, by decide +kernel⟩
theorem ym_Mo_keeperNow : zY y_Mo_keeperNow c_Mo_keeperNow 7 (Option.some Jvm.ClassFile.FieldType.int) 2 := ⟨qC_Mo_keeperNow, qN_Mo, ⟨by decide, by decide⟩, by decide +kernel⟩
theorem ym_Mo_knock : zY y_Mo_knock c_Mo_knock 1 (Option.some Jvm.ClassFile.FieldType.int) 0 := ⟨qC_Mo_knock, qN_Mo, ⟨by decide, by decide⟩, by decide +kernel⟩
theorem ym_Mo_liars : zY y_Mo_liars c_Mo_liars 3 (Option.some Jvm.ClassFile.FieldType.int) 2 := ⟨qC_Mo_liars, qN_Mo, ⟨by decide, by decide⟩, by decide +kernel⟩
theorem ym_Mo_lie : zY y_Mo_lie c_Mo_lie 4 (Option.some Jvm.ClassFile.FieldType.int) 2 := ⟨qC_Mo_lie, qN_Mo, ⟨by decide, by decide⟩, by decide +kernel⟩
theorem ym_Mo_lost : zY y_Mo_lost c_Mo_lost 2 (Option.some Jvm.ClassFile.FieldType.double) 1 := ⟨qC_Mo_lost, qN_Mo, ⟨by decide, by decide⟩, by decide +kernel⟩
theorem ym_Mo_lostNow : zY y_Mo_lostNow c_Mo_lostNow 7 (Option.some Jvm.ClassFile.FieldType.double) 1 := ⟨qC_Mo_lostNow, qN_Mo, ⟨by decide, by decide⟩, by decide +kernel⟩
theorem ym_Mo_may : zY y_Mo_may c_Mo_may 10 (Option.some Jvm.ClassFile.FieldType.boolean) 3 := ⟨qC_Mo_may, qN_Mo, ⟨by decide, by decide⟩, by decide +kernel⟩
theorem ym_Mo_mod : zY y_Mo_mod c_Mo_mod 1 (Option.some Jvm.ClassFile.FieldType.int) 1 := ⟨qC_Mo_mod, qN_Mo, ⟨by decide, by decide⟩, by decide +kernel⟩
theorem ym_Mo_no : zY y_Mo_no c_Mo_no 2 (Option.some Jvm.ClassFile.FieldType.int) 1 := ⟨qC_Mo_no, qN_Mo, ⟨by decide, by decide⟩, by decide +kernel⟩
theorem ym_Mo_node : zY y_Mo_node c_Mo_node 5 (Option.some Jvm.ClassFile.FieldType.int) 4 := ⟨qC_Mo_node, qN_Mo, ⟨by decide, by decide⟩, by decide +kernel⟩
theorem ym_Mo_ofEntry : zY y_Mo_ofEntry c_Mo_ofEntry 3 (Option.some Jvm.ClassFile.FieldType.int) 2 := ⟨qC_Mo_ofEntry, qN_Mo, ⟨by decide, by decide⟩, by decide +kernel⟩
theorem ym_Mo_ofKeeper : zY y_Mo_ofKeeper c_Mo_ofKeeper 3 (Option.some Jvm.ClassFile.FieldType.int) 2 := ⟨qC_Mo_ofKeeper, qN_Mo, ⟨by decide, by decide⟩, by decide +kernel⟩
theorem ym_Mo_ofSecret : zY y_Mo_ofSecret c_Mo_ofSecret 3 (Option.some Jvm.ClassFile.FieldType.int) 2 := ⟨qC_Mo_ofSecret, qN_Mo, ⟨by decide, by decide⟩, by decide +kernel⟩
theorem ym_Mo_open : zY y_Mo_open c_Mo_open 7 (Option.some Jvm.ClassFile.FieldType.int) 2 := ⟨qC_Mo_open, qN_Mo, ⟨by decide, by decide⟩, by decide +kernel⟩
theorem ym_Mo_over : zY y_Mo_over c_Mo_over 2 (Option.some Jvm.ClassFile.FieldType.int) 1 := ⟨qC_Mo_over, qN_Mo, ⟨by decide, by decide⟩, by decide +kernel⟩
theorem ym_Mo_pass : zY y_Mo_pass c_Mo_pass 2 (Option.some Jvm.ClassFile.FieldType.int) 1 := ⟨qC_Mo_pass, qN_Mo, ⟨by decide, by decide⟩, by decide +kernel⟩
theorem ym_Mo_priceOf : zY y_Mo_priceOf c_Mo_priceOf 4 (Option.some Jvm.ClassFile.FieldType.int) 1 := ⟨qC_Mo_priceOf, qN_Mo, ⟨by decide, by decide⟩, by decide +kernel⟩
theorem ym_Mo_proof : zY y_Mo_proof c_Mo_proof 3 (Option.some Jvm.ClassFile.FieldType.int) 2 := ⟨qC_Mo_proof, qN_Mo, ⟨by decide, by decide⟩, by decide +kernel⟩
theorem ym_Mo_proofNow : zY y_Mo_proofNow c_Mo_proofNow 5 (Option.some Jvm.ClassFile.FieldType.int) 2 := ⟨qC_Mo_proofNow, qN_Mo, ⟨by decide, by decide⟩, by decide +kernel⟩
theorem ym_Mo_proves : zY y_Mo_proves c_Mo_proves 3 (Option.some Jvm.ClassFile.FieldType.boolean) 2 := ⟨qC_Mo_proves, qN_Mo, ⟨by decide, by decide⟩, by decide +kernel⟩
theorem ym_Mo_rebuild : zY y_Mo_rebuild c_Mo_rebuild 7 (Option.some Jvm.ClassFile.FieldType.int) 3 := ⟨qC_Mo_rebuild, qN_Mo, ⟨by decide, by decide⟩, by decide +kernel⟩
theorem ym_Mo_root : zY y_Mo_root c_Mo_root 1 (Option.some Jvm.ClassFile.FieldType.int) 0 := ⟨qC_Mo_root, qN_Mo, ⟨by decide, by decide⟩, by decide +kernel⟩
theorem ym_Mo_row : zY y_Mo_row c_Mo_row 5 (Option.some (Jvm.ClassFile.FieldType.object "java/lang/String")) 1 := ⟨qC_Mo_row, qN_Mo, ⟨by decide, by decide⟩, by decide +kernel⟩
theorem ym_Mo_secretNow : zY y_Mo_secretNow c_Mo_secretNow 6 (Option.some Jvm.ClassFile.FieldType.int) 2 := ⟨qC_Mo_secretNow, qN_Mo, ⟨by decide, by decide⟩, by decide +kernel⟩
theorem ym_Mo_share : zY y_Mo_share c_Mo_share 4 (Option.some Jvm.ClassFile.FieldType.int) 3 := ⟨qC_Mo_share, qN_Mo, ⟨by decide, by decide⟩, by decide +kernel⟩
theorem ym_Mo_shareNow : zY y_Mo_shareNow c_Mo_shareNow 5 (Option.some Jvm.ClassFile.FieldType.int) 3 := ⟨qC_Mo_shareNow, qN_Mo, ⟨by decide, by decide⟩, by decide +kernel⟩
theorem ym_Mo_size : zY y_Mo_size c_Mo_size 3 (Option.some Jvm.ClassFile.FieldType.int) 1 := ⟨qC_Mo_size, qN_Mo, ⟨by decide, by decide⟩, by decide +kernel⟩
theorem ym_Mo_through : zY y_Mo_through c_Mo_through 9 (Option.some Jvm.ClassFile.FieldType.int) 4 := ⟨qC_Mo_through, qN_Mo, ⟨by decide, by decide⟩, by decide +kernel⟩
theorem ym_Mo_thrown : zY y_Mo_thrown c_Mo_thrown 1 (Option.some Jvm.ClassFile.FieldType.int) 0 := ⟨qC_Mo_thrown, qN_Mo, ⟨by decide, by decide⟩, by decide +kernel⟩
theorem ym_Mo_would : zY y_Mo_would c_Mo_would 4 (Option.some Jvm.ClassFile.FieldType.int) 3 := ⟨qC_Mo_would, qN_Mo, ⟨by decide, by decide⟩, by decide +kernel⟩
theorem ym_Mo_wouldNow : zY y_Mo_wouldNow c_Mo_wouldNow 9 (Option.some Jvm.ClassFile.FieldType.int) 3 := ⟨qC_Mo_wouldNow, qN_Mo, ⟨by decide, by decide⟩, by decide +kernel⟩
theorem ym_Mo_write : zY y_Mo_write c_Mo_write 3 (Option.none : Option Jvm.ClassFile.FieldType) 2 := ⟨qC_Mo_write, qN_Mo, ⟨by decide, by decide⟩, by decide +kernel⟩
theorem ym_Ob_checkIndex : zY y_Ob_checkIndex c_Ob_checkIndex 2 (Option.some Jvm.ClassFile.FieldType.int) 2 := ⟨qC_Ob_checkIndex, qN_Ob, ⟨by decide, by decide⟩, by decide +kernel⟩
theorem ym_Ou_init : zY y_Ou_init c_Ou_init 1 (Option.none : Option Jvm.ClassFile.FieldType) 0 := ⟨qC_Ou_init, qN_Ou, ⟨by decide, by decide⟩, by decide +kernel⟩
theorem ym_Pr_checkFromIndexSize : zY y_Pr_checkFromIndexSize c_Pr_checkFromIndexSize 4 (Option.some Jvm.ClassFile.FieldType.int) 4 := ⟨qC_Pr_checkFromIndexSize, qN_Pr, ⟨by decide, by decide⟩, by decide +kernel⟩
theorem ym_Pr_checkFromToIndex : zY y_Pr_checkFromToIndex c_Pr_checkFromToIndex 4 (Option.some Jvm.ClassFile.FieldType.int) 4 := ⟨qC_Pr_checkFromToIndex, qN_Pr, ⟨by decide, by decide⟩, by decide +kernel⟩
theorem ym_Pr_checkIndex : zY y_Pr_checkIndex c_Pr_checkIndex 3 (Option.some Jvm.ClassFile.FieldType.int) 3 := ⟨qC_Pr_checkIndex, qN_Pr, ⟨by decide, by decide⟩, by decide +kernel⟩
theorem ym_Re_beside : zY y_Re_beside c_Re_beside 3 (Option.some Jvm.ClassFile.FieldType.int) 2 := ⟨qC_Re_beside, qN_Re, ⟨by decide, by decide⟩, by decide +kernel⟩
theorem ym_Re_comesToRoot : zY y_Re_comesToRoot c_Re_comesToRoot 6 (Option.some Jvm.ClassFile.FieldType.boolean) 2 := ⟨qC_Re_comesToRoot, qN_Re, ⟨by decide, by decide⟩, by decide +kernel⟩
theorem ym_Re_enter : zY y_Re_enter c_Re_enter 6 (Option.none : Option Jvm.ClassFile.FieldType) 3 := ⟨qC_Re_enter, qN_Re, ⟨by decide, by decide⟩, by decide +kernel⟩
theorem ym_Re_init : zY y_Re_init c_Re_init 2 (Option.none : Option Jvm.ClassFile.FieldType) 0 := ⟨qC_Re_init, qN_Re, ⟨by decide, by decide⟩, by decide +kernel⟩
theorem ym_Re_isWhole : zY y_Re_isWhole c_Re_isWhole 2 (Option.some Jvm.ClassFile.FieldType.boolean) 0 := ⟨qC_Re_isWhole, qN_Re, ⟨by decide, by decide⟩, by decide +kernel⟩
theorem ym_Re_join : zY y_Re_join c_Re_join 2 (Option.some Jvm.ClassFile.FieldType.int) 2 := ⟨qC_Re_join, qN_Re, ⟨by decide, by decide⟩, by decide +kernel⟩
theorem ym_Re_joinAt : zY y_Re_joinAt c_Re_joinAt 2 (Option.none : Option Jvm.ClassFile.FieldType) 1 := ⟨qC_Re_joinAt, qN_Re, ⟨by decide, by decide⟩, by decide +kernel⟩
theorem ym_Re_leafOf : zY y_Re_leafOf c_Re_leafOf 2 (Option.some Jvm.ClassFile.FieldType.int) 1 := ⟨qC_Re_leafOf, qN_Re, ⟨by decide, by decide⟩, by decide +kernel⟩
theorem ym_Re_nodeAt : zY y_Re_nodeAt c_Re_nodeAt 2 (Option.some Jvm.ClassFile.FieldType.int) 1 := ⟨qC_Re_nodeAt, qN_Re, ⟨by decide, by decide⟩, by decide +kernel⟩
theorem ym_Re_putAt : zY y_Re_putAt c_Re_putAt 3 (Option.none : Option Jvm.ClassFile.FieldType) 2 := ⟨qC_Re_putAt, qN_Re, ⟨by decide, by decide⟩, by decide +kernel⟩
theorem ym_Re_root : zY y_Re_root c_Re_root 1 (Option.some Jvm.ClassFile.FieldType.int) 0 := ⟨qC_Re_root, qN_Re, ⟨by decide, by decide⟩, by decide +kernel⟩
theorem ym_Re_size : zY y_Re_size c_Re_size 1 (Option.some Jvm.ClassFile.FieldType.int) 0 := ⟨qC_Re_size, qN_Re, ⟨by decide, by decide⟩, by decide +kernel⟩
theorem ym_Re_tell : zY y_Re_tell c_Re_tell 3 (Option.some Jvm.ClassFile.FieldType.int) 2 := ⟨qC_Re_tell, qN_Re, ⟨by decide, by decide⟩, by decide +kernel⟩
theorem ym_SB_append_1 : zY y_SB_append_1 c_SB_append_1 2 (Option.some (Jvm.ClassFile.FieldType.object "java/lang/StringBuilder")) 1 := ⟨qC_SB_append_1, qN_SB, ⟨by decide, by decide⟩, by decide +kernel⟩
theorem ym_SB_append_2 : zY y_SB_append_2 c_SB_append_2 2 (Option.some (Jvm.ClassFile.FieldType.object "java/lang/StringBuilder")) 1 := ⟨qC_SB_append_2, qN_SB, ⟨by decide, by decide⟩, by decide +kernel⟩
theorem ym_SB_append_3 : zY y_SB_append_3 c_SB_append_3 2 (Option.some (Jvm.ClassFile.FieldType.object "java/lang/StringBuilder")) 1 := ⟨qC_SB_append_3, qN_SB, ⟨by decide, by decide⟩, by decide +kernel⟩
theorem ym_SB_init : zY y_SB_init c_SB_init 1 (Option.none : Option Jvm.ClassFile.FieldType) 0 := ⟨qC_SB_init, qN_SB, ⟨by decide, by decide⟩, by decide +kernel⟩
theorem ym_SB_length : zY y_SB_length c_SB_length 1 (Option.some Jvm.ClassFile.FieldType.int) 0 := ⟨qC_SB_length, qN_SB, ⟨by decide, by decide⟩, by decide +kernel⟩
theorem ym_SB_toString : zY y_SB_toString c_SB_toString 1 (Option.some (Jvm.ClassFile.FieldType.object "java/lang/String")) 0 := ⟨qC_SB_toString, qN_SB, ⟨by decide, by decide⟩, by decide +kernel⟩
theorem ym_SL_canEncode : zY y_SL_canEncode c_SL_canEncode 1 (Option.some Jvm.ClassFile.FieldType.boolean) 1 := ⟨qC_SL_canEncode, qN_SL, ⟨by decide, by decide⟩, by decide +kernel⟩
theorem ym_SL_inflate : zY y_SL_inflate c_SL_inflate 5 (Option.none : Option Jvm.ClassFile.FieldType) 5 := ⟨qC_SL_inflate, qN_SL, ⟨by decide, by decide⟩, by decide +kernel⟩
theorem ym_SU_checkBoundsBeginEnd : zY y_SU_checkBoundsBeginEnd c_SU_checkBoundsBeginEnd 3 (Option.none : Option Jvm.ClassFile.FieldType) 3 := ⟨qC_SU_checkBoundsBeginEnd, qN_SU, ⟨by decide, by decide⟩, by decide +kernel⟩
theorem ym_SU_checkBoundsOffCount : zY y_SU_checkBoundsOffCount c_SU_checkBoundsOffCount 3 (Option.none : Option Jvm.ClassFile.FieldType) 3 := ⟨qC_SU_checkBoundsOffCount, qN_SU, ⟨by decide, by decide⟩, by decide +kernel⟩
theorem ym_SU_checkIndex : zY y_SU_checkIndex c_SU_checkIndex 2 (Option.none : Option Jvm.ClassFile.FieldType) 2 := ⟨qC_SU_checkIndex, qN_SU, ⟨by decide, by decide⟩, by decide +kernel⟩
theorem ym_SU_coderFromArrayLen : zY y_SU_coderFromArrayLen c_SU_coderFromArrayLen 2 (Option.some Jvm.ClassFile.FieldType.byte) 2 := ⟨qC_SU_coderFromArrayLen, qN_SU, ⟨by decide, by decide⟩, by decide +kernel⟩
theorem ym_SU_compress_1 : zY y_SU_compress_1 c_SU_compress_1 6 (Option.some (Jvm.ClassFile.FieldType.array Jvm.ClassFile.FieldType.byte)) 3 := ⟨qC_SU_compress_1, qN_SU, ⟨by decide, by decide⟩, by decide +kernel⟩
theorem ym_SU_compress_2 : zY y_SU_compress_2 c_SU_compress_2 7 (Option.some Jvm.ClassFile.FieldType.int) 5 := ⟨qC_SU_compress_2, qN_SU, ⟨by decide, by decide⟩, by decide +kernel⟩
theorem ym_SU_getChar : zY y_SU_getChar c_SU_getChar 2 (Option.some Jvm.ClassFile.FieldType.char) 2 := ⟨qC_SU_getChar, qN_SU, ⟨by decide, by decide⟩, by decide +kernel⟩
theorem ym_SU_getChars_1 : zY y_SU_getChars_1 c_SU_getChars_1 5 (Option.some Jvm.ClassFile.FieldType.int) 4 := ⟨qC_SU_getChars_1, qN_SU, ⟨by decide, by decide⟩, by decide +kernel⟩
theorem ym_SU_getChars_2 : zY y_SU_getChars_2 c_SU_getChars_2 7 (Option.some Jvm.ClassFile.FieldType.int) 3 := ⟨qC_SU_getChars_2, qN_SU, ⟨by decide, by decide⟩, by decide +kernel⟩
theorem ym_SU_inflate : zY y_SU_inflate c_SU_inflate 6 (Option.none : Option Jvm.ClassFile.FieldType) 5 := ⟨qC_SU_inflate, qN_SU, ⟨by decide, by decide⟩, by decide +kernel⟩
theorem ym_SU_length : zY y_SU_length c_SU_length 1 (Option.some Jvm.ClassFile.FieldType.int) 1 := ⟨qC_SU_length, qN_SU, ⟨by decide, by decide⟩, by decide +kernel⟩
theorem ym_SU_newBytesFor : zY y_SU_newBytesFor c_SU_newBytesFor 1 (Option.some (Jvm.ClassFile.FieldType.array Jvm.ClassFile.FieldType.byte)) 1 := ⟨qC_SU_newBytesFor, qN_SU, ⟨by decide, by decide⟩, by decide +kernel⟩
theorem ym_SU_newBytesLength : zY y_SU_newBytesLength c_SU_newBytesLength 1 (Option.some Jvm.ClassFile.FieldType.int) 1 := ⟨qC_SU_newBytesLength, qN_SU, ⟨by decide, by decide⟩, by decide +kernel⟩
theorem ym_SU_putChar : zY y_SU_putChar c_SU_putChar 3 (Option.none : Option Jvm.ClassFile.FieldType) 3 := ⟨qC_SU_putChar, qN_SU, ⟨by decide, by decide⟩, by decide +kernel⟩
theorem ym_SU_putCharSB : zY y_SU_putCharSB c_SU_putCharSB 3 (Option.none : Option Jvm.ClassFile.FieldType) 3 := ⟨qC_SU_putCharSB, qN_SU, ⟨by decide, by decide⟩, by decide +kernel⟩
theorem ym_SU_putCharsAt : zY y_SU_putCharsAt c_SU_putCharsAt 7 (Option.some Jvm.ClassFile.FieldType.int) 6 := ⟨qC_SU_putCharsAt, qN_SU, ⟨by decide, by decide⟩, by decide +kernel⟩
theorem ym_Se_currentSet : zY y_Se_currentSet c_Se_currentSet 3 (Option.some Jvm.ClassFile.FieldType.int) 0 := ⟨qC_Se_currentSet, qN_Se, ⟨by decide, by decide⟩, by decide +kernel⟩
theorem ym_Se_epochOf : zY y_Se_epochOf c_Se_epochOf 2 (Option.some Jvm.ClassFile.FieldType.int) 1 := ⟨qC_Se_epochOf, qN_Se, ⟨by decide, by decide⟩, by decide +kernel⟩
theorem ym_Se_has : zY y_Se_has c_Se_has 2 (Option.some Jvm.ClassFile.FieldType.boolean) 1 := ⟨qC_Se_has, qN_Se, ⟨by decide, by decide⟩, by decide +kernel⟩
theorem ym_Se_hold : zY y_Se_hold c_Se_hold 3 (Option.none : Option Jvm.ClassFile.FieldType) 2 := ⟨qC_Se_hold, qN_Se, ⟨by decide, by decide⟩, by decide +kernel⟩
theorem ym_Se_init : zY y_Se_init c_Se_init 5 (Option.none : Option Jvm.ClassFile.FieldType) 3 := ⟨qC_Se_init, qN_Se, ⟨by decide, by decide⟩, by decide +kernel⟩
theorem ym_Se_isCurrent : zY y_Se_isCurrent c_Se_isCurrent 2 (Option.some Jvm.ClassFile.FieldType.boolean) 1 := ⟨qC_Se_isCurrent, qN_Se, ⟨by decide, by decide⟩, by decide +kernel⟩
theorem ym_Se_isStale : zY y_Se_isStale c_Se_isStale 2 (Option.some Jvm.ClassFile.FieldType.boolean) 1 := ⟨qC_Se_isStale, qN_Se, ⟨by decide, by decide⟩, by decide +kernel⟩
theorem ym_Se_lose : zY y_Se_lose c_Se_lose 2 (Option.none : Option Jvm.ClassFile.FieldType) 1 := ⟨qC_Se_lose, qN_Se, ⟨by decide, by decide⟩, by decide +kernel⟩
theorem ym_Se_put : zY y_Se_put c_Se_put 4 (Option.none : Option Jvm.ClassFile.FieldType) 3 := ⟨qC_Se_put, qN_Se, ⟨by decide, by decide⟩, by decide +kernel⟩
theorem ym_Se_shareOf : zY y_Se_shareOf c_Se_shareOf 2 (Option.some Jvm.ClassFile.FieldType.int) 1 := ⟨qC_Se_shareOf, qN_Se, ⟨by decide, by decide⟩, by decide +kernel⟩
theorem ym_Se_staleSet : zY y_Se_staleSet c_Se_staleSet 3 (Option.some Jvm.ClassFile.FieldType.int) 0 := ⟨qC_Se_staleSet, qN_Se, ⟨by decide, by decide⟩, by decide +kernel⟩
theorem ym_St_checkBoundsBeginEnd : zY y_St_checkBoundsBeginEnd c_St_checkBoundsBeginEnd 3 (Option.none : Option Jvm.ClassFile.FieldType) 3 := ⟨qC_St_checkBoundsBeginEnd, qN_St, ⟨by decide, by decide⟩, by decide +kernel⟩
theorem ym_St_checkBoundsOffCount : zY y_St_checkBoundsOffCount c_St_checkBoundsOffCount 3 (Option.some Jvm.ClassFile.FieldType.int) 3 := ⟨qC_St_checkBoundsOffCount, qN_St, ⟨by decide, by decide⟩, by decide +kernel⟩
theorem ym_St_checkIndex : zY y_St_checkIndex c_St_checkIndex 2 (Option.none : Option Jvm.ClassFile.FieldType) 2 := ⟨qC_St_checkIndex, qN_St, ⟨by decide, by decide⟩, by decide +kernel⟩
theorem ym_St_coder : zY y_St_coder c_St_coder 1 (Option.some Jvm.ClassFile.FieldType.byte) 0 := ⟨qC_St_coder, qN_St, ⟨by decide, by decide⟩, by decide +kernel⟩
theorem ym_St_getBytes : zY y_St_getBytes c_St_getBytes 4 (Option.none : Option Jvm.ClassFile.FieldType) 3 := ⟨qC_St_getBytes, qN_St, ⟨by decide, by decide⟩, by decide +kernel⟩
theorem ym_St_init_1 : zY y_St_init_1 c_St_init_1 5 (Option.none : Option Jvm.ClassFile.FieldType) 2 := ⟨qC_St_init_1, qN_St, ⟨by decide, by decide⟩, by decide +kernel⟩
theorem ym_St_init_2 : zY y_St_init_2 c_St_init_2 2 (Option.none : Option Jvm.ClassFile.FieldType) 1 := ⟨qC_St_init_2, qN_St, ⟨by decide, by decide⟩, by decide +kernel⟩
theorem ym_St_length : zY y_St_length c_St_length 1 (Option.some Jvm.ClassFile.FieldType.int) 0 := ⟨qC_St_length, qN_St, ⟨by decide, by decide⟩, by decide +kernel⟩
theorem ym_Tb_allKeepers : zY y_Tb_allKeepers c_Tb_allKeepers 1 (Option.some Jvm.ClassFile.FieldType.int) 0 := ⟨qC_Tb_allKeepers, qN_Tb, ⟨by decide, by decide⟩, by decide +kernel⟩
theorem ym_Tb_bank : zY y_Tb_bank c_Tb_bank 2 (Option.some Jvm.ClassFile.FieldType.int) 1 := ⟨qC_Tb_bank, qN_Tb, ⟨by decide, by decide⟩, by decide +kernel⟩
theorem ym_Tb_boughtFor : zY y_Tb_boughtFor c_Tb_boughtFor 3 (Option.some Jvm.ClassFile.FieldType.int) 1 := ⟨qC_Tb_boughtFor, qN_Tb, ⟨by decide, by decide⟩, by decide +kernel⟩
theorem ym_Tb_boughtOf : zY y_Tb_boughtOf c_Tb_boughtOf 6 (Option.some Jvm.ClassFile.FieldType.int) 1 := ⟨qC_Tb_boughtOf, qN_Tb, ⟨by decide, by decide⟩, by decide +kernel⟩
theorem ym_Tb_chanceLost : zY y_Tb_chanceLost c_Tb_chanceLost 5 (Option.some Jvm.ClassFile.FieldType.double) 1 := ⟨qC_Tb_chanceLost, qN_Tb, ⟨by decide, by decide⟩, by decide +kernel⟩
theorem ym_Tb_cheapestOf : zY y_Tb_cheapestOf c_Tb_cheapestOf 6 (Option.some Jvm.ClassFile.FieldType.int) 1 := ⟨qC_Tb_cheapestOf, qN_Tb, ⟨by decide, by decide⟩, by decide +kernel⟩
theorem ym_Tb_currentShares : zY y_Tb_currentShares c_Tb_currentShares 3 (Option.some Jvm.ClassFile.FieldType.int) 0 := ⟨qC_Tb_currentShares, qN_Tb, ⟨by decide, by decide⟩, by decide +kernel⟩
theorem ym_Tb_deal : zY y_Tb_deal c_Tb_deal 8 (Option.some Jvm.ClassFile.FieldType.int) 5 := ⟨qC_Tb_deal, qN_Tb, ⟨by decide, by decide⟩, by decide +kernel⟩
theorem ym_Tb_digest : zY y_Tb_digest c_Tb_digest 5 (Option.some Jvm.ClassFile.FieldType.long) 0 := ⟨qC_Tb_digest, qN_Tb, ⟨by decide, by decide⟩, by decide +kernel⟩
theorem ym_Tb_digestSecret : zY y_Tb_digestSecret c_Tb_digestSecret 8 (Option.some Jvm.ClassFile.FieldType.long) 2 := ⟨qC_Tb_digestSecret, qN_Tb, ⟨by decide, by decide⟩, by decide +kernel⟩
theorem ym_Tb_fewest : zY y_Tb_fewest c_Tb_fewest 2 (Option.some Jvm.ClassFile.FieldType.int) 1 := ⟨qC_Tb_fewest, qN_Tb, ⟨by decide, by decide⟩, by decide +kernel⟩
theorem ym_Tb_fewestOf : zY y_Tb_fewestOf c_Tb_fewestOf 6 (Option.some Jvm.ClassFile.FieldType.int) 1 := ⟨qC_Tb_fewestOf, qN_Tb, ⟨by decide, by decide⟩, by decide +kernel⟩
theorem ym_Tb_flood : zY y_Tb_flood c_Tb_flood 4 (Option.some Jvm.ClassFile.FieldType.int) 1 := ⟨qC_Tb_flood, qN_Tb, ⟨by decide, by decide⟩, by decide +kernel⟩
theorem ym_Tb_freeze : zY y_Tb_freeze c_Tb_freeze 6 (Option.some Jvm.ClassFile.FieldType.int) 3 := ⟨qC_Tb_freeze, qN_Tb, ⟨by decide, by decide⟩, by decide +kernel⟩
theorem ym_Tb_fresh : zY y_Tb_fresh c_Tb_fresh 6 (Option.some Jvm.ClassFile.FieldType.int) 2 := ⟨qC_Tb_fresh, qN_Tb, ⟨by decide, by decide⟩, by decide +kernel⟩
theorem ym_Tb_gatherGroup : zY y_Tb_gatherGroup c_Tb_gatherGroup 4 (Option.none : Option Jvm.ClassFile.FieldType) 2 := ⟨qC_Tb_gatherGroup, qN_Tb, ⟨by decide, by decide⟩, by decide +kernel⟩
theorem ym_Tb_init : zY y_Tb_init c_Tb_init 1 (Option.none : Option Jvm.ClassFile.FieldType) 0 := ⟨qC_Tb_init, qN_Tb, ⟨by decide, by decide⟩, by decide +kernel⟩
theorem ym_Tb_isAnyLying : zY y_Tb_isAnyLying c_Tb_isAnyLying 3 (Option.some Jvm.ClassFile.FieldType.boolean) 1 := ⟨qC_Tb_isAnyLying, qN_Tb, ⟨by decide, by decide⟩, by decide +kernel⟩
theorem ym_Tb_isFrom : zY y_Tb_isFrom c_Tb_isFrom 3 (Option.some Jvm.ClassFile.FieldType.boolean) 3 := ⟨qC_Tb_isFrom, qN_Tb, ⟨by decide, by decide⟩, by decide +kernel⟩
theorem ym_Tb_isIn : zY y_Tb_isIn c_Tb_isIn 2 (Option.some Jvm.ClassFile.FieldType.boolean) 2 := ⟨qC_Tb_isIn, qN_Tb, ⟨by decide, by decide⟩, by decide +kernel⟩
theorem ym_Tb_isLawful : zY y_Tb_isLawful c_Tb_isLawful 3 (Option.some Jvm.ClassFile.FieldType.boolean) 2 := ⟨qC_Tb_isLawful, qN_Tb, ⟨by decide, by decide⟩, by decide +kernel⟩
theorem ym_Tb_isLess : zY y_Tb_isLess c_Tb_isLess 4 (Option.some Jvm.ClassFile.FieldType.boolean) 2 := ⟨qC_Tb_isLess, qN_Tb, ⟨by decide, by decide⟩, by decide +kernel⟩
theorem ym_Tb_isNumber : zY y_Tb_isNumber c_Tb_isNumber 1 (Option.some Jvm.ClassFile.FieldType.boolean) 1 := ⟨qC_Tb_isNumber, qN_Tb, ⟨by decide, by decide⟩, by decide +kernel⟩
theorem ym_Tb_isSecretSound : zY y_Tb_isSecretSound c_Tb_isSecretSound 3 (Option.some Jvm.ClassFile.FieldType.boolean) 1 := ⟨qC_Tb_isSecretSound, qN_Tb, ⟨by decide, by decide⟩, by decide +kernel⟩
theorem ym_Tb_isSound : zY y_Tb_isSound c_Tb_isSound 2 (Option.some Jvm.ClassFile.FieldType.boolean) 0 := ⟨qC_Tb_isSound, qN_Tb, ⟨by decide, by decide⟩, by decide +kernel⟩
theorem ym_Tb_keeper : zY y_Tb_keeper c_Tb_keeper 5 (Option.some Jvm.ClassFile.FieldType.int) 3 := ⟨qC_Tb_keeper, qN_Tb, ⟨by decide, by decide⟩, by decide +kernel⟩
theorem ym_Tb_keeperAt : zY y_Tb_keeperAt c_Tb_keeperAt 2 (Option.some (Jvm.ClassFile.FieldType.object "Threeboxes$Keeper")) 1 := ⟨qC_Tb_keeperAt, qN_Tb, ⟨by decide, by decide⟩, by decide +kernel⟩
theorem ym_Tb_knock : zY y_Tb_knock c_Tb_knock 1 (Option.some Jvm.ClassFile.FieldType.int) 0 := ⟨qC_Tb_knock, qN_Tb, ⟨by decide, by decide⟩, by decide +kernel⟩
theorem ym_Tb_lie : zY y_Tb_lie c_Tb_lie 5 (Option.some Jvm.ClassFile.FieldType.int) 2 := ⟨qC_Tb_lie, qN_Tb, ⟨by decide, by decide⟩, by decide +kernel⟩
theorem ym_Tb_loseShares : zY y_Tb_loseShares c_Tb_loseShares 3 (Option.none : Option Jvm.ClassFile.FieldType) 1 := ⟨qC_Tb_loseShares, qN_Tb, ⟨by decide, by decide⟩, by decide +kernel⟩
theorem ym_Tb_lost : zY y_Tb_lost c_Tb_lost 2 (Option.some Jvm.ClassFile.FieldType.double) 1 := ⟨qC_Tb_lost, qN_Tb, ⟨by decide, by decide⟩, by decide +kernel⟩
theorem ym_Tb_may : zY y_Tb_may c_Tb_may 5 (Option.some Jvm.ClassFile.FieldType.boolean) 3 := ⟨qC_Tb_may, qN_Tb, ⟨by decide, by decide⟩, by decide +kernel⟩
theorem ym_Tb_needEntry : zY y_Tb_needEntry c_Tb_needEntry 2 (Option.none : Option Jvm.ClassFile.FieldType) 1 := ⟨qC_Tb_needEntry, qN_Tb, ⟨by decide, by decide⟩, by decide +kernel⟩
theorem ym_Tb_needSet : zY y_Tb_needSet c_Tb_needSet 2 (Option.none : Option Jvm.ClassFile.FieldType) 1 := ⟨qC_Tb_needSet, qN_Tb, ⟨by decide, by decide⟩, by decide +kernel⟩
theorem ym_Tb_noteAll : zY y_Tb_noteAll c_Tb_noteAll 3 (Option.none : Option Jvm.ClassFile.FieldType) 1 := ⟨qC_Tb_noteAll, qN_Tb, ⟨by decide, by decide⟩, by decide +kernel⟩
theorem ym_Tb_notedKeepers : zY y_Tb_notedKeepers c_Tb_notedKeepers 3 (Option.some Jvm.ClassFile.FieldType.int) 0 := ⟨qC_Tb_notedKeepers, qN_Tb, ⟨by decide, by decide⟩, by decide +kernel⟩
theorem ym_Tb_ofEntry : zY y_Tb_ofEntry c_Tb_ofEntry 3 (Option.some Jvm.ClassFile.FieldType.int) 2 := ⟨qC_Tb_ofEntry, qN_Tb, ⟨by decide, by decide⟩, by decide +kernel⟩
theorem ym_Tb_ofKeeper : zY y_Tb_ofKeeper c_Tb_ofKeeper 4 (Option.some Jvm.ClassFile.FieldType.int) 2 := ⟨qC_Tb_ofKeeper, qN_Tb, ⟨by decide, by decide⟩, by decide +kernel⟩
theorem ym_Tb_ofSecret : zY y_Tb_ofSecret c_Tb_ofSecret 4 (Option.some Jvm.ClassFile.FieldType.int) 2 := ⟨qC_Tb_ofSecret, qN_Tb, ⟨by decide, by decide⟩, by decide +kernel⟩
theorem ym_Tb_open : zY y_Tb_open c_Tb_open 4 (Option.some Jvm.ClassFile.FieldType.int) 2 := ⟨qC_Tb_open, qN_Tb, ⟨by decide, by decide⟩, by decide +kernel⟩
theorem ym_Tb_pass : zY y_Tb_pass c_Tb_pass 2 (Option.some Jvm.ClassFile.FieldType.int) 1 := ⟨qC_Tb_pass, qN_Tb, ⟨by decide, by decide⟩, by decide +kernel⟩
theorem ym_Tb_pointOf : zY y_Tb_pointOf c_Tb_pointOf 1 (Option.some Jvm.ClassFile.FieldType.int) 1 := ⟨qC_Tb_pointOf, qN_Tb, ⟨by decide, by decide⟩, by decide +kernel⟩
theorem ym_Tb_priceOf : zY y_Tb_priceOf c_Tb_priceOf 4 (Option.some Jvm.ClassFile.FieldType.int) 1 := ⟨qC_Tb_priceOf, qN_Tb, ⟨by decide, by decide⟩, by decide +kernel⟩
theorem ym_Tb_proof : zY y_Tb_proof c_Tb_proof 3 (Option.some Jvm.ClassFile.FieldType.int) 2 := ⟨qC_Tb_proof, qN_Tb, ⟨by decide, by decide⟩, by decide +kernel⟩
theorem ym_Tb_proves : zY y_Tb_proves c_Tb_proves 3 (Option.some Jvm.ClassFile.FieldType.boolean) 2 := ⟨qC_Tb_proves, qN_Tb, ⟨by decide, by decide⟩, by decide +kernel⟩
theorem ym_Tb_rebuild : zY y_Tb_rebuild c_Tb_rebuild 6 (Option.some Jvm.ClassFile.FieldType.int) 3 := ⟨qC_Tb_rebuild, qN_Tb, ⟨by decide, by decide⟩, by decide +kernel⟩
theorem ym_Tb_riskOne : zY y_Tb_riskOne c_Tb_riskOne 3 (Option.none : Option Jvm.ClassFile.FieldType) 1 := ⟨qC_Tb_riskOne, qN_Tb, ⟨by decide, by decide⟩, by decide +kernel⟩
theorem ym_Tb_row : zY y_Tb_row c_Tb_row 5 (Option.some (Jvm.ClassFile.FieldType.object "java/lang/String")) 1 := ⟨qC_Tb_row, qN_Tb, ⟨by decide, by decide⟩, by decide +kernel⟩
theorem ym_Tb_secretAt : zY y_Tb_secretAt c_Tb_secretAt 2 (Option.some (Jvm.ClassFile.FieldType.object "Threeboxes$Secret")) 1 := ⟨qC_Tb_secretAt, qN_Tb, ⟨by decide, by decide⟩, by decide +kernel⟩
theorem ym_Tb_share : zY y_Tb_share c_Tb_share 6 (Option.some Jvm.ClassFile.FieldType.int) 3 := ⟨qC_Tb_share, qN_Tb, ⟨by decide, by decide⟩, by decide +kernel⟩
theorem ym_Tb_sharesOf : zY y_Tb_sharesOf c_Tb_sharesOf 4 (Option.some Jvm.ClassFile.FieldType.int) 1 := ⟨qC_Tb_sharesOf, qN_Tb, ⟨by decide, by decide⟩, by decide +kernel⟩
theorem ym_Tb_staleShares : zY y_Tb_staleShares c_Tb_staleShares 3 (Option.some Jvm.ClassFile.FieldType.int) 0 := ⟨qC_Tb_staleShares, qN_Tb, ⟨by decide, by decide⟩, by decide +kernel⟩
theorem ym_Tb_staleSharesOf : zY y_Tb_staleSharesOf c_Tb_staleSharesOf 4 (Option.some Jvm.ClassFile.FieldType.int) 1 := ⟨qC_Tb_staleSharesOf, qN_Tb, ⟨by decide, by decide⟩, by decide +kernel⟩
theorem ym_Tb_tellOfBank : zY y_Tb_tellOfBank c_Tb_tellOfBank 2 (Option.some Jvm.ClassFile.FieldType.int) 1 := ⟨qC_Tb_tellOfBank, qN_Tb, ⟨by decide, by decide⟩, by decide +kernel⟩
theorem ym_Tb_tellOfGroup : zY y_Tb_tellOfGroup c_Tb_tellOfGroup 3 (Option.some Jvm.ClassFile.FieldType.int) 2 := ⟨qC_Tb_tellOfGroup, qN_Tb, ⟨by decide, by decide⟩, by decide +kernel⟩
theorem ym_Tb_tellOfKeeper : zY y_Tb_tellOfKeeper c_Tb_tellOfKeeper 3 (Option.some Jvm.ClassFile.FieldType.int) 2 := ⟨qC_Tb_tellOfKeeper, qN_Tb, ⟨by decide, by decide⟩, by decide +kernel⟩
theorem ym_Tb_tellOfSecret : zY y_Tb_tellOfSecret c_Tb_tellOfSecret 3 (Option.some Jvm.ClassFile.FieldType.int) 2 := ⟨qC_Tb_tellOfSecret, qN_Tb, ⟨by decide, by decide⟩, by decide +kernel⟩
theorem ym_Tb_tellOfShare : zY y_Tb_tellOfShare c_Tb_tellOfShare 4 (Option.some Jvm.ClassFile.FieldType.int) 3 := ⟨qC_Tb_tellOfShare, qN_Tb, ⟨by decide, by decide⟩, by decide +kernel⟩
theorem ym_Tb_would : zY y_Tb_would c_Tb_would 5 (Option.some Jvm.ClassFile.FieldType.int) 3 := ⟨qC_Tb_would, qN_Tb, ⟨by decide, by decide⟩, by decide +kernel⟩
theorem ym_Tb_zonesOf : zY y_Tb_zonesOf c_Tb_zonesOf 4 (Option.some Jvm.ClassFile.FieldType.int) 1 := ⟨qC_Tb_zonesOf, qN_Tb, ⟨by decide, by decide⟩, by decide +kernel⟩
end
section

/-- int k is within low and high -/
def zin (k lo hi : Int32) : Bool := decide (lo ≤ k) && decide (k ≤ hi)
theorem zin_t {k lo hi : Int32} (h1 : ¬ k < lo) (h2 : ¬ hi < k) : zin k lo hi = true := by
  simp only [zin, Bool.and_eq_true, decide_eq_true_eq, Int32.lt_iff_toInt_lt, Int32.le_iff_toInt_le] at *
  omega
theorem zin_f1 {k lo hi : Int32} (h1 : k < lo) : zin k lo hi = false := by
  simp only [zin, Bool.and_eq_false_iff, decide_eq_false_iff_not, Int32.lt_iff_toInt_lt, Int32.le_iff_toInt_le] at *
  omega
theorem zin_f2 {k lo hi : Int32} (h1 : hi < k) : zin k lo hi = false := by
  simp only [zin, Bool.and_eq_false_iff, decide_eq_false_iff_not, Int32.lt_iff_toInt_lt, Int32.le_iff_toInt_le] at *
  omega
/-- bit k of a set, as javac's set >> k & 1 -/
def zbit (set k : Int32) : Int32 := (set >>> (k &&& 31)) &&& 1
theorem z_some_int {a b : Int32} (h : a = b) : (some (Value.int a)) = some (Value.int b) := by rw [h]

theorem d_Tb_isFrom_0 : decode c_Tb_isFrom 0 = .ok (.iload_n 0, 1) := by decide +kernel
theorem d_Tb_isFrom_1 : decode c_Tb_isFrom 1 = .ok (.iload_n 1, 1) := by decide +kernel
theorem d_Tb_isFrom_2 : decode c_Tb_isFrom 2 = .ok (.if_icmp .lt 12, 3) := by decide +kernel
theorem d_Tb_isFrom_5 : decode c_Tb_isFrom 5 = .ok (.iload_n 0, 1) := by decide +kernel
theorem d_Tb_isFrom_6 : decode c_Tb_isFrom 6 = .ok (.iload_n 2, 1) := by decide +kernel
theorem d_Tb_isFrom_7 : decode c_Tb_isFrom 7 = .ok (.if_icmp .gt 7, 3) := by decide +kernel
theorem d_Tb_isFrom_10 : decode c_Tb_isFrom 10 = .ok (.iconst 1, 1) := by decide +kernel
theorem d_Tb_isFrom_11 : decode c_Tb_isFrom 11 = .ok (.goto 4, 3) := by decide +kernel
theorem d_Tb_isFrom_14 : decode c_Tb_isFrom 14 = .ok (.iconst 0, 1) := by decide +kernel
theorem d_Tb_isFrom_15 : decode c_Tb_isFrom 15 = .ok (.ireturn, 1) := by decide +kernel
set_option maxHeartbeats 4000000 in
set_option maxRecDepth 100000 in
theorem m_Tb_isFrom {g0 : State} {d : zD} {l : Launch} {a0 : Array Value} (hs0 : zS0 d a0 g0) (hst : l.stackTraces = false) {G : zG} (k lo hi : Int32) : zMet g0 d l y_Tb_isFrom c_Tb_isFrom 3 ((Option.some Jvm.ClassFile.FieldType.boolean)) 1 0 0 [.int k, .int lo, .int hi] (G) (zEq (some (.int (zb (zin k lo hi)))) G) (zNo) := by
  refine z_entry hs0 hst (by decide) (Nat.le_of_ble_eq_true rfl) (fun p e s m args below meth c => ?_)
  refine z_iload_n 0 d_Tb_isFrom_0 rfl rfl ?_
  refine z_iload_n 1 d_Tb_isFrom_1 rfl rfl ?_
  refine z_icmp_lt 14 d_Tb_isFrom_2 (by decide) (fun c_2 => ?_) (fun c_2 => ?_)
  · skip
    refine z_iconst (v := 0) d_Tb_isFrom_14 (by decide) ?_
    exact z_zret rfl (by first | rfl | exact zb_nar _) (⟨by first | rw [zin_t c_2 c_7]; rfl | rw [zin_f1 c_2]; rfl | rw [zin_f2 c_7]; rfl, rfl⟩) (by decide) (by decide) d_Tb_isFrom_15
  · skip
    refine z_iload_n 0 d_Tb_isFrom_5 rfl rfl ?_
    refine z_iload_n 2 d_Tb_isFrom_6 rfl rfl ?_
    refine z_icmp_gt 14 d_Tb_isFrom_7 (by decide) (fun c_7 => ?_) (fun c_7 => ?_)
    · skip
      refine z_iconst (v := 0) d_Tb_isFrom_14 (by decide) ?_
      exact z_zret rfl (by first | rfl | exact zb_nar _) (⟨by first | rw [zin_t c_2 c_7]; rfl | rw [zin_f1 c_2]; rfl | rw [zin_f2 c_7]; rfl, rfl⟩) (by decide) (by decide) d_Tb_isFrom_15
    · skip
      refine z_iconst (v := 1) d_Tb_isFrom_10 (by decide) ?_
      refine z_goto 15 d_Tb_isFrom_11 (by decide) ?_
      exact z_zret rfl (by first | rfl | exact zb_nar _) (⟨by first | rw [zin_t c_2 c_7]; rfl | rw [zin_f1 c_2]; rfl | rw [zin_f2 c_7]; rfl, rfl⟩) (by decide) (by decide) d_Tb_isFrom_15
theorem d_Mo_in_0 : decode c_Mo_in 0 = .ok (.iload_n 0, 1) := by decide +kernel
theorem d_Mo_in_1 : decode c_Mo_in 1 = .ok (.iload_n 1, 1) := by decide +kernel
theorem d_Mo_in_2 : decode c_Mo_in 2 = .ok (.if_icmp .lt 12, 3) := by decide +kernel
theorem d_Mo_in_5 : decode c_Mo_in 5 = .ok (.iload_n 0, 1) := by decide +kernel
theorem d_Mo_in_6 : decode c_Mo_in 6 = .ok (.iload_n 2, 1) := by decide +kernel
theorem d_Mo_in_7 : decode c_Mo_in 7 = .ok (.if_icmp .gt 7, 3) := by decide +kernel
theorem d_Mo_in_10 : decode c_Mo_in 10 = .ok (.iconst 1, 1) := by decide +kernel
theorem d_Mo_in_11 : decode c_Mo_in 11 = .ok (.goto 4, 3) := by decide +kernel
theorem d_Mo_in_14 : decode c_Mo_in 14 = .ok (.iconst 0, 1) := by decide +kernel
theorem d_Mo_in_15 : decode c_Mo_in 15 = .ok (.ireturn, 1) := by decide +kernel
set_option maxHeartbeats 4000000 in
set_option maxRecDepth 100000 in
theorem m_Mo_in {g0 : State} {d : zD} {l : Launch} {a0 : Array Value} (hs0 : zS0 d a0 g0) (hst : l.stackTraces = false) {G : zG} (k lo hi : Int32) : zMet g0 d l y_Mo_in c_Mo_in 3 ((Option.some Jvm.ClassFile.FieldType.boolean)) 1 0 0 [.int k, .int lo, .int hi] (G) (zEq (some (.int (zb (zin k lo hi)))) G) (zNo) := by
  refine z_entry hs0 hst (by decide) (Nat.le_of_ble_eq_true rfl) (fun p e s m args below meth c => ?_)
  refine z_iload_n 0 d_Mo_in_0 rfl rfl ?_
  refine z_iload_n 1 d_Mo_in_1 rfl rfl ?_
  refine z_icmp_lt 14 d_Mo_in_2 (by decide) (fun c_2 => ?_) (fun c_2 => ?_)
  · skip
    refine z_iconst (v := 0) d_Mo_in_14 (by decide) ?_
    exact z_zret rfl (by first | rfl | exact zb_nar _) (⟨by first | rw [zin_t c_2 c_7]; rfl | rw [zin_f1 c_2]; rfl | rw [zin_f2 c_7]; rfl, rfl⟩) (by decide) (by decide) d_Mo_in_15
  · skip
    refine z_iload_n 0 d_Mo_in_5 rfl rfl ?_
    refine z_iload_n 2 d_Mo_in_6 rfl rfl ?_
    refine z_icmp_gt 14 d_Mo_in_7 (by decide) (fun c_7 => ?_) (fun c_7 => ?_)
    · skip
      refine z_iconst (v := 0) d_Mo_in_14 (by decide) ?_
      exact z_zret rfl (by first | rfl | exact zb_nar _) (⟨by first | rw [zin_t c_2 c_7]; rfl | rw [zin_f1 c_2]; rfl | rw [zin_f2 c_7]; rfl, rfl⟩) (by decide) (by decide) d_Mo_in_15
    · skip
      refine z_iconst (v := 1) d_Mo_in_10 (by decide) ?_
      refine z_goto 15 d_Mo_in_11 (by decide) ?_
      exact z_zret rfl (by first | rfl | exact zb_nar _) (⟨by first | rw [zin_t c_2 c_7]; rfl | rw [zin_f1 c_2]; rfl | rw [zin_f2 c_7]; rfl, rfl⟩) (by decide) (by decide) d_Mo_in_15
theorem d_Tb_isIn_0 : decode c_Tb_isIn 0 = .ok (.iload_n 0, 1) := by decide +kernel
theorem d_Tb_isIn_1 : decode c_Tb_isIn 1 = .ok (.iload_n 1, 1) := by decide +kernel
theorem d_Tb_isIn_2 : decode c_Tb_isIn 2 = .ok (.ishr, 1) := by decide +kernel
theorem d_Tb_isIn_3 : decode c_Tb_isIn 3 = .ok (.iconst 1, 1) := by decide +kernel
theorem d_Tb_isIn_4 : decode c_Tb_isIn 4 = .ok (.iand, 1) := by decide +kernel
theorem d_Tb_isIn_5 : decode c_Tb_isIn 5 = .ok (.iconst 1, 1) := by decide +kernel
theorem d_Tb_isIn_6 : decode c_Tb_isIn 6 = .ok (.if_icmp .ne 7, 3) := by decide +kernel
theorem d_Tb_isIn_9 : decode c_Tb_isIn 9 = .ok (.iconst 1, 1) := by decide +kernel
theorem d_Tb_isIn_10 : decode c_Tb_isIn 10 = .ok (.goto 4, 3) := by decide +kernel
theorem d_Tb_isIn_13 : decode c_Tb_isIn 13 = .ok (.iconst 0, 1) := by decide +kernel
theorem d_Tb_isIn_14 : decode c_Tb_isIn 14 = .ok (.ireturn, 1) := by decide +kernel
set_option maxHeartbeats 4000000 in
set_option maxRecDepth 100000 in
theorem m_Tb_isIn {g0 : State} {d : zD} {l : Launch} {a0 : Array Value} (hs0 : zS0 d a0 g0) (hst : l.stackTraces = false) {G : zG} (set k : Int32) : zMet g0 d l y_Tb_isIn c_Tb_isIn 2 ((Option.some Jvm.ClassFile.FieldType.boolean)) 1 0 0 [.int set, .int k] (G) (zEq (some (.int (zb (decide (zbit set k = 1))))) G) (zNo) := by
  refine z_entry hs0 hst (by decide) (Nat.le_of_ble_eq_true rfl) (fun p e s m args below meth c => ?_)
  refine z_iload_n 0 d_Tb_isIn_0 rfl rfl ?_
  refine z_iload_n 1 d_Tb_isIn_1 rfl rfl ?_
  refine z_ishr d_Tb_isIn_2 ?_
  refine z_iconst (v := 1) d_Tb_isIn_3 (by decide) ?_
  refine z_iand d_Tb_isIn_4 ?_
  refine z_iconst (v := 1) d_Tb_isIn_5 (by decide) ?_
  refine z_icmp_ne 13 d_Tb_isIn_6 (by decide) (fun c_6 => ?_) (fun c_6 => ?_)
  · skip
    refine z_iconst (v := 0) d_Tb_isIn_13 (by decide) ?_
    exact z_zret rfl (by first | rfl | exact zb_nar _) (⟨by first | rw [decide_eq_true (show zbit set k = 1 from c_6)]; rfl | rw [decide_eq_false (show ¬ zbit set k = 1 from c_6)]; rfl, rfl⟩) (by decide) (by decide) d_Tb_isIn_14
  · skip
    refine z_iconst (v := 1) d_Tb_isIn_9 (by decide) ?_
    refine z_goto 14 d_Tb_isIn_10 (by decide) ?_
    exact z_zret rfl (by first | rfl | exact zb_nar _) (⟨by first | rw [decide_eq_true (show zbit set k = 1 from c_6)]; rfl | rw [decide_eq_false (show ¬ zbit set k = 1 from c_6)]; rfl, rfl⟩) (by decide) (by decide) d_Tb_isIn_14
theorem d_Mo_has_0 : decode c_Mo_has 0 = .ok (.iload_n 0, 1) := by decide +kernel
theorem d_Mo_has_1 : decode c_Mo_has 1 = .ok (.iload_n 1, 1) := by decide +kernel
theorem d_Mo_has_2 : decode c_Mo_has 2 = .ok (.ishr, 1) := by decide +kernel
theorem d_Mo_has_3 : decode c_Mo_has 3 = .ok (.iconst 1, 1) := by decide +kernel
theorem d_Mo_has_4 : decode c_Mo_has 4 = .ok (.iand, 1) := by decide +kernel
theorem d_Mo_has_5 : decode c_Mo_has 5 = .ok (.iconst 1, 1) := by decide +kernel
theorem d_Mo_has_6 : decode c_Mo_has 6 = .ok (.if_icmp .ne 7, 3) := by decide +kernel
theorem d_Mo_has_9 : decode c_Mo_has 9 = .ok (.iconst 1, 1) := by decide +kernel
theorem d_Mo_has_10 : decode c_Mo_has 10 = .ok (.goto 4, 3) := by decide +kernel
theorem d_Mo_has_13 : decode c_Mo_has 13 = .ok (.iconst 0, 1) := by decide +kernel
theorem d_Mo_has_14 : decode c_Mo_has 14 = .ok (.ireturn, 1) := by decide +kernel
set_option maxHeartbeats 4000000 in
set_option maxRecDepth 100000 in
theorem m_Mo_has {g0 : State} {d : zD} {l : Launch} {a0 : Array Value} (hs0 : zS0 d a0 g0) (hst : l.stackTraces = false) {G : zG} (set k : Int32) : zMet g0 d l y_Mo_has c_Mo_has 2 ((Option.some Jvm.ClassFile.FieldType.boolean)) 1 0 0 [.int set, .int k] (G) (zEq (some (.int (zb (decide (zbit set k = 1))))) G) (zNo) := by
  refine z_entry hs0 hst (by decide) (Nat.le_of_ble_eq_true rfl) (fun p e s m args below meth c => ?_)
  refine z_iload_n 0 d_Mo_has_0 rfl rfl ?_
  refine z_iload_n 1 d_Mo_has_1 rfl rfl ?_
  refine z_ishr d_Mo_has_2 ?_
  refine z_iconst (v := 1) d_Mo_has_3 (by decide) ?_
  refine z_iand d_Mo_has_4 ?_
  refine z_iconst (v := 1) d_Mo_has_5 (by decide) ?_
  refine z_icmp_ne 13 d_Mo_has_6 (by decide) (fun c_6 => ?_) (fun c_6 => ?_)
  · skip
    refine z_iconst (v := 0) d_Mo_has_13 (by decide) ?_
    exact z_zret rfl (by first | rfl | exact zb_nar _) (⟨by first | rw [decide_eq_true (show zbit set k = 1 from c_6)]; rfl | rw [decide_eq_false (show ¬ zbit set k = 1 from c_6)]; rfl, rfl⟩) (by decide) (by decide) d_Mo_has_14
  · skip
    refine z_iconst (v := 1) d_Mo_has_9 (by decide) ?_
    refine z_goto 14 d_Mo_has_10 (by decide) ?_
    exact z_zret rfl (by first | rfl | exact zb_nar _) (⟨by first | rw [decide_eq_true (show zbit set k = 1 from c_6)]; rfl | rw [decide_eq_false (show ¬ zbit set k = 1 from c_6)]; rfl, rfl⟩) (by decide) (by decide) d_Mo_has_14
theorem d_Tb_isNumber_0 : decode c_Tb_isNumber 0 = .ok (.iload_n 0, 1) := by decide +kernel
theorem d_Tb_isNumber_1 : decode c_Tb_isNumber 1 = .ok (.iconst 0, 1) := by decide +kernel
theorem d_Tb_isNumber_2 : decode c_Tb_isNumber 2 = .ok (.bipush 96, 2) := by decide +kernel
theorem d_Tb_isNumber_4 : decode c_Tb_isNumber 4 = .ok (.invokestatic 57, 3) := by decide +kernel
theorem d_Tb_isNumber_7 : decode c_Tb_isNumber 7 = .ok (.ireturn, 1) := by decide +kernel
set_option maxHeartbeats 4000000 in
set_option maxRecDepth 100000 in
theorem m_Tb_isNumber {g0 : State} {d : zD} {l : Launch} {a0 : Array Value} (hs0 : zS0 d a0 g0) (hst : l.stackTraces = false) {G : zG} (k : Int32) : zMet g0 d l y_Tb_isNumber c_Tb_isNumber 1 ((Option.some Jvm.ClassFile.FieldType.boolean)) 2 0 0 [.int k] (G) (zEq (some (.int (zb (zin k 0 96)))) G) (zNo) := by
  refine z_entry hs0 hst (by decide) (Nat.le_of_ble_eq_true rfl) (fun p e s m args below meth c => ?_)
  refine z_iload_n 0 d_Tb_isNumber_0 rfl rfl ?_
  refine z_iconst (v := 0) d_Tb_isNumber_1 (by decide) ?_
  refine z_bipush (v := 96) d_Tb_isNumber_2 (by decide) ?_
  refine z_callS0 (m_Tb_isFrom hs0 hst k 0 96) ym_Tb_isFrom qM_Tb_57 qS_Tb_isFrom d_Tb_isNumber_4 rfl (by decide) ⟨Nat.zero_le _, Nat.zero_le _⟩ ⟨Nat.le_of_ble_eq_true rfl, Nat.le_of_ble_eq_true rfl⟩ ?_
  exact z_zret rfl (by first | rfl | exact zb_nar _) (⟨rfl, rfl⟩) (by decide) (by decide) d_Tb_isNumber_7
theorem d_Tb_pointOf_0 : decode c_Tb_pointOf 0 = .ok (.iload_n 0, 1) := by decide +kernel
theorem d_Tb_pointOf_1 : decode c_Tb_pointOf 1 = .ok (.iconst 1, 1) := by decide +kernel
theorem d_Tb_pointOf_2 : decode c_Tb_pointOf 2 = .ok (.iadd, 1) := by decide +kernel
theorem d_Tb_pointOf_3 : decode c_Tb_pointOf 3 = .ok (.ireturn, 1) := by decide +kernel
set_option maxHeartbeats 4000000 in
set_option maxRecDepth 100000 in
theorem m_Tb_pointOf {g0 : State} {d : zD} {l : Launch} {a0 : Array Value} (hs0 : zS0 d a0 g0) (hst : l.stackTraces = false) {G : zG} (k : Int32) : zMet g0 d l y_Tb_pointOf c_Tb_pointOf 1 ((Option.some Jvm.ClassFile.FieldType.int)) 1 0 0 [.int k] (G) (zEq (some (.int (k + 1))) G) (zNo) := by
  refine z_entry hs0 hst (by decide) (Nat.le_of_ble_eq_true rfl) (fun p e s m args below meth c => ?_)
  refine z_iload_n 0 d_Tb_pointOf_0 rfl rfl ?_
  refine z_iconst (v := 1) d_Tb_pointOf_1 (by decide) ?_
  refine z_iadd d_Tb_pointOf_2 ?_
  exact z_iret rfl (⟨rfl, rfl⟩) (by decide) (by decide) d_Tb_pointOf_3

/-- a secret's three cells -/
def zSe (d : zD) (h hs he : Nat) (t z dt : Int32) (sh ep : Nat → Int32) (epo fr bl : Int32) (G : zG) : Prop := G h = some (zob 7 [.int t, .int z, .int dt, .ref hs, .ref he, .int epo, .int fr, .int bl]) ∧ G hs = some (zI d 8 sh) ∧ G he = some (zI d 8 ep) ∧ hs ≠ he
theorem zOI {G : zG} {a b n ci : Nat} {d : zD} {fs : List Value} {f : Nat → Int32} (h1 : G a = some (zob ci fs)) (h2 : G b = some (zI d n f)) : a ≠ b := fun e => by rw [e, h2] at h1; cases h1
theorem zOD {G : zG} {a b n ci : Nat} {d : zD} {fs : List Value} {f : Nat → UInt64} (h1 : G a = some (zob ci fs)) (h2 : G b = some (zDb d n f)) : a ≠ b := fun e => by rw [e, h2] at h1; cases h1
theorem zOO {G : zG} {a b n ci : Nat} {d : zD} {fs : List Value} {f : Nat → Option Nat} (h1 : G a = some (zob ci fs)) (h2 : G b = some (zO d n f)) : a ≠ b := fun e => by rw [e, h2] at h1; cases h1
theorem zNI_clamp {j : Nat} (h : j < 8) : (nI j).toNatClampNeg = j := nI_clamp (by omega)

theorem d_Se_shareOf_0 : decode c_Se_shareOf 0 = .ok (.iload_n 1, 1) := by decide +kernel
theorem d_Se_shareOf_1 : decode c_Se_shareOf 1 = .ok (.ifCond .lt 21, 3) := by decide +kernel
theorem d_Se_shareOf_4 : decode c_Se_shareOf 4 = .ok (.iload_n 1, 1) := by decide +kernel
theorem d_Se_shareOf_5 : decode c_Se_shareOf 5 = .ok (.aload_n 0, 1) := by decide +kernel
theorem d_Se_shareOf_6 : decode c_Se_shareOf 6 = .ok (.getfield 21, 3) := by decide +kernel
theorem d_Se_shareOf_9 : decode c_Se_shareOf 9 = .ok (.arraylength, 1) := by decide +kernel
theorem d_Se_shareOf_10 : decode c_Se_shareOf 10 = .ok (.if_icmp .ge 12, 3) := by decide +kernel
theorem d_Se_shareOf_13 : decode c_Se_shareOf 13 = .ok (.aload_n 0, 1) := by decide +kernel
theorem d_Se_shareOf_14 : decode c_Se_shareOf 14 = .ok (.getfield 21, 3) := by decide +kernel
theorem d_Se_shareOf_17 : decode c_Se_shareOf 17 = .ok (.iload_n 1, 1) := by decide +kernel
theorem d_Se_shareOf_18 : decode c_Se_shareOf 18 = .ok (.iaload, 1) := by decide +kernel
theorem d_Se_shareOf_19 : decode c_Se_shareOf 19 = .ok (.goto 4, 3) := by decide +kernel
theorem d_Se_shareOf_23 : decode c_Se_shareOf 23 = .ok (.ireturn, 1) := by decide +kernel
set_option maxHeartbeats 4000000 in
set_option maxRecDepth 100000 in
theorem m_Se_shareOf {g0 : State} {d : zD} {l : Launch} {a0 : Array Value} (hs0 : zS0 d a0 g0) (hst : l.stackTraces = false) {G : zG} {h hs he : Nat} {t z dt : Int32} {sh ep : Nat → Int32} {epo fr bl : Int32} {j : Nat} (hS : zSe d h hs he t z dt sh ep epo fr bl G) (hj : j < 8) : zMet g0 d l y_Se_shareOf c_Se_shareOf 2 ((Option.some Jvm.ClassFile.FieldType.int)) 1 0 0 [.ref h, .int (nI j)] (G) (zEq (some (.int (sh j))) G) (zNo) := by
  obtain ⟨hG_Se, hG_s, hG_e, hne⟩ := id hS
  refine z_entry hs0 hst (by decide) (Nat.le_of_ble_eq_true rfl) (fun p e s m args below meth c => ?_)
  refine z_iload_n 1 d_Se_shareOf_0 rfl rfl ?_
  refine z_if_lt 22 d_Se_shareOf_1 (by decide) (fun c_1 => (by exfalso; simp (disch := omega) only [Int32.lt_iff_toInt_lt, Int32.le_iff_toInt_le, ← Int32.toInt_inj, nI_toInt, Int32.reduceToInt] at c_1; omega)) (fun c_1 => ?_)
  refine z_iload_n 1 d_Se_shareOf_4 rfl rfl ?_
  refine z_aload_n 0 d_Se_shareOf_5 rfl rfl ?_
  refine z_get zc_Se 3 (by decide) qF_Se_21 hG_Se rfl d_Se_shareOf_6 ?_
  refine z_alenI hG_s d_Se_shareOf_9 ?_
  refine z_icmp_ge 22 d_Se_shareOf_10 (by decide) (fun c_10 => absurd c_10 (nI_ge hj (by decide))) (fun c_10 => ?_)
  refine z_aload_n 0 d_Se_shareOf_13 rfl rfl ?_
  refine z_get zc_Se 3 (by decide) qF_Se_21 hG_Se rfl d_Se_shareOf_14 ?_
  refine z_iload_n 1 d_Se_shareOf_17 rfl rfl ?_
  refine z_iald hG_s (vp_in_nI hj (by decide)) d_Se_shareOf_18 ?_
  refine z_goto 23 d_Se_shareOf_19 (by decide) ?_
  exact z_iret rfl (⟨by rw [zNI_clamp hj], rfl⟩) (by decide) (by decide) d_Se_shareOf_23
theorem d_Se_epochOf_0 : decode c_Se_epochOf 0 = .ok (.iload_n 1, 1) := by decide +kernel
theorem d_Se_epochOf_1 : decode c_Se_epochOf 1 = .ok (.ifCond .lt 21, 3) := by decide +kernel
theorem d_Se_epochOf_4 : decode c_Se_epochOf 4 = .ok (.iload_n 1, 1) := by decide +kernel
theorem d_Se_epochOf_5 : decode c_Se_epochOf 5 = .ok (.aload_n 0, 1) := by decide +kernel
theorem d_Se_epochOf_6 : decode c_Se_epochOf 6 = .ok (.getfield 25, 3) := by decide +kernel
theorem d_Se_epochOf_9 : decode c_Se_epochOf 9 = .ok (.arraylength, 1) := by decide +kernel
theorem d_Se_epochOf_10 : decode c_Se_epochOf 10 = .ok (.if_icmp .ge 12, 3) := by decide +kernel
theorem d_Se_epochOf_13 : decode c_Se_epochOf 13 = .ok (.aload_n 0, 1) := by decide +kernel
theorem d_Se_epochOf_14 : decode c_Se_epochOf 14 = .ok (.getfield 25, 3) := by decide +kernel
theorem d_Se_epochOf_17 : decode c_Se_epochOf 17 = .ok (.iload_n 1, 1) := by decide +kernel
theorem d_Se_epochOf_18 : decode c_Se_epochOf 18 = .ok (.iaload, 1) := by decide +kernel
theorem d_Se_epochOf_19 : decode c_Se_epochOf 19 = .ok (.goto 4, 3) := by decide +kernel
theorem d_Se_epochOf_23 : decode c_Se_epochOf 23 = .ok (.ireturn, 1) := by decide +kernel
set_option maxHeartbeats 4000000 in
set_option maxRecDepth 100000 in
theorem m_Se_epochOf {g0 : State} {d : zD} {l : Launch} {a0 : Array Value} (hs0 : zS0 d a0 g0) (hst : l.stackTraces = false) {G : zG} {h hs he : Nat} {t z dt : Int32} {sh ep : Nat → Int32} {epo fr bl : Int32} {j : Nat} (hS : zSe d h hs he t z dt sh ep epo fr bl G) (hj : j < 8) : zMet g0 d l y_Se_epochOf c_Se_epochOf 2 ((Option.some Jvm.ClassFile.FieldType.int)) 1 0 0 [.ref h, .int (nI j)] (G) (zEq (some (.int (ep j))) G) (zNo) := by
  obtain ⟨hG_Se, hG_s, hG_e, hne⟩ := id hS
  refine z_entry hs0 hst (by decide) (Nat.le_of_ble_eq_true rfl) (fun p e s m args below meth c => ?_)
  refine z_iload_n 1 d_Se_epochOf_0 rfl rfl ?_
  refine z_if_lt 22 d_Se_epochOf_1 (by decide) (fun c_1 => (by exfalso; simp (disch := omega) only [Int32.lt_iff_toInt_lt, Int32.le_iff_toInt_le, ← Int32.toInt_inj, nI_toInt, Int32.reduceToInt] at c_1; omega)) (fun c_1 => ?_)
  refine z_iload_n 1 d_Se_epochOf_4 rfl rfl ?_
  refine z_aload_n 0 d_Se_epochOf_5 rfl rfl ?_
  refine z_get zc_Se 4 (by decide) qF_Se_25 hG_Se rfl d_Se_epochOf_6 ?_
  refine z_alenI hG_e d_Se_epochOf_9 ?_
  refine z_icmp_ge 22 d_Se_epochOf_10 (by decide) (fun c_10 => absurd c_10 (nI_ge hj (by decide))) (fun c_10 => ?_)
  refine z_aload_n 0 d_Se_epochOf_13 rfl rfl ?_
  refine z_get zc_Se 4 (by decide) qF_Se_25 hG_Se rfl d_Se_epochOf_14 ?_
  refine z_iload_n 1 d_Se_epochOf_17 rfl rfl ?_
  refine z_iald hG_e (vp_in_nI hj (by decide)) d_Se_epochOf_18 ?_
  refine z_goto 23 d_Se_epochOf_19 (by decide) ?_
  exact z_iret rfl (⟨by rw [zNI_clamp hj], rfl⟩) (by decide) (by decide) d_Se_epochOf_23
theorem d_Se_has_0 : decode c_Se_has 0 = .ok (.aload_n 0, 1) := by decide +kernel
theorem d_Se_has_1 : decode c_Se_has 1 = .ok (.iload_n 1, 1) := by decide +kernel
theorem d_Se_has_2 : decode c_Se_has 2 = .ok (.invokevirtual 38, 3) := by decide +kernel
theorem d_Se_has_5 : decode c_Se_has 5 = .ok (.iconst (-1), 1) := by decide +kernel
theorem d_Se_has_6 : decode c_Se_has 6 = .ok (.if_icmp .eq 7, 3) := by decide +kernel
theorem d_Se_has_9 : decode c_Se_has 9 = .ok (.iconst 1, 1) := by decide +kernel
theorem d_Se_has_10 : decode c_Se_has 10 = .ok (.goto 4, 3) := by decide +kernel
theorem d_Se_has_13 : decode c_Se_has 13 = .ok (.iconst 0, 1) := by decide +kernel
theorem d_Se_has_14 : decode c_Se_has 14 = .ok (.ireturn, 1) := by decide +kernel
set_option maxHeartbeats 4000000 in
set_option maxRecDepth 100000 in
theorem m_Se_has {g0 : State} {d : zD} {l : Launch} {a0 : Array Value} (hs0 : zS0 d a0 g0) (hst : l.stackTraces = false) {G : zG} {h hs he : Nat} {t z dt : Int32} {sh ep : Nat → Int32} {epo fr bl : Int32} {j : Nat} (hS : zSe d h hs he t z dt sh ep epo fr bl G) (hj : j < 8) : zMet g0 d l y_Se_has c_Se_has 2 ((Option.some Jvm.ClassFile.FieldType.boolean)) 2 0 0 [.ref h, .int (nI j)] (G) (zEq (some (.int (zb (decide (ep j ≠ -1))))) G) (zNo) := by
  obtain ⟨hG_Se, hG_s, hG_e, hne⟩ := id hS
  refine z_entry hs0 hst (by decide) (Nat.le_of_ble_eq_true rfl) (fun p e s m args below meth c => ?_)
  refine z_aload_n 0 d_Se_has_0 rfl rfl ?_
  refine z_iload_n 1 d_Se_has_1 rfl rfl ?_
  refine z_callV0 (m_Se_epochOf hs0 hst hS hj) ym_Se_epochOf qM_Se_38 qI_Se_epochOf qV_Se_Se_epochOf zc_Se hG_Se d_Se_has_2 rfl (by decide) ⟨Nat.zero_le _, Nat.zero_le _⟩ ⟨Nat.le_of_ble_eq_true rfl, Nat.le_of_ble_eq_true rfl⟩ ?_
  refine z_iconst (v := (-1)) d_Se_has_5 (by decide) ?_
  refine z_icmp_eq 13 d_Se_has_6 (by decide) (fun c_6 => ?_) (fun c_6 => ?_)
  · skip
    refine z_iconst (v := 0) d_Se_has_13 (by decide) ?_
    exact z_zret rfl (by first | rfl | exact zb_nar _) (⟨by first | rw [decide_eq_true c_6]; rfl | rw [decide_eq_false (fun h => h c_6)]; rfl, rfl⟩) (by decide) (by decide) d_Se_has_14
  · skip
    refine z_iconst (v := 1) d_Se_has_9 (by decide) ?_
    refine z_goto 14 d_Se_has_10 (by decide) ?_
    exact z_zret rfl (by first | rfl | exact zb_nar _) (⟨by first | rw [decide_eq_true c_6]; rfl | rw [decide_eq_false (fun h => h c_6)]; rfl, rfl⟩) (by decide) (by decide) d_Se_has_14
end
section

/-! worlds: roles (numbers) have addresses A; the cell of a role r is cell r of its own row of numbers V r -/
def rset (V : Nat → Nat → Int32) (r : Nat) (v : Nat → Int32) : Nat → Nat → Int32 := fun q => if q = r then v else V q
theorem rset_s {V : Nat → Nat → Int32} {r : Nat} {v : Nat → Int32} : rset V r v r = v := if_pos rfl
theorem rset_n {V : Nat → Nat → Int32} {r q : Nat} {v : Nat → Int32} (h : q ≠ r) : rset V r v q = V q := if_neg h
def zW (A : Nat → Nat) (live : Nat → Prop) (cell : Nat → (Nat → Int32) → va_E) (V : Nat → Nat → Int32) (G : zG) : Prop := (∀ r q, live r → live q → A r = A q → r = q) ∧ ∀ r, live r → G (A r) = some (cell r (V r))
/-- G' is G but for the cells of a world -/
def zFr (A : Nat → Nat) (live : Nat → Prop) (G G' : zG) : Prop := ∀ a v, G a = some v → (∀ r, live r → a ≠ A r) → G' a = some v
section ZW
variable {A : Nat → Nat} {live : Nat → Prop} {cell : Nat → (Nat → Int32) → va_E} {V : Nat → Nat → Int32} {G G1 G2 : zG}
theorem zFr.rf : zFr A live G G := fun _ _ h _ => h
theorem zFr.tr (h1 : zFr A live G G1) (h2 : zFr A live G1 G2) : zFr A live G G2 := fun a v h hn => h2 a v (h1 a v h hn) hn
theorem zFr.put {r : Nat} {w : va_E} (hr : live r) : zFr A live G (zu G (A r) w) := fun a v h hn => by rw [zu_n (hn r hr)]; exact h
theorem zW.put (h : zW A live cell V G) {r : Nat} (hr : live r) (v : Nat → Int32) : zW A live cell (rset V r v) (zu G (A r) (cell r v)) := by
  refine ⟨h.1, fun q hq => ?_⟩
  by_cases e : q = r
  · subst e
    rw [zu_s, rset_s]
  · rw [zu_n (fun z => e (h.1 q r hq hr z)), rset_n e]
    exact h.2 q hq
theorem zW.put' (h : zW A live cell V G) {r a : Nat} {w : va_E} (hr : live r) (v : Nat → Int32) (ha : a = A r) (hw : w = cell r v) : zW A live cell (rset V r v) (zu G a w) := by
  subst ha; subst hw; exact h.put hr v
end ZW
/-! ArrayList: an array list at h: its data at a (a < cap cells, f), n of them -/
def zAL (d : zD) (h a cap n : Nat) (mc : Int32) (f : Nat → Option Nat) (G : zG) : Prop := G h = some (zob 2 [.int mc, .ref a, .int (nI n)]) ∧ G a = some (zO d cap f) ∧ n ≤ cap ∧ cap < 2 ^ 30

theorem d_AL_size_0 : decode c_AL_size 0 = .ok (.aload_n 0, 1) := by decide +kernel
theorem d_AL_size_1 : decode c_AL_size 1 = .ok (.getfield 48, 3) := by decide +kernel
theorem d_AL_size_4 : decode c_AL_size 4 = .ok (.ireturn, 1) := by decide +kernel
set_option maxHeartbeats 4000000 in
set_option maxRecDepth 100000 in
theorem m_AL_size {g0 : State} {d : zD} {l : Launch} {a0 : Array Value} (hs0 : zS0 d a0 g0) (hst : l.stackTraces = false) {G : zG} {h n : Nat} {mc : Int32} {w : Value} (hG_AL : G h = some (zob 2 [.int mc, w, .int (nI n)])) : zMet g0 d l y_AL_size c_AL_size 1 ((Option.some Jvm.ClassFile.FieldType.int)) 1 0 0 [.ref h] (G) (zEq (some (.int (nI n))) G) (zNo) := by
  refine z_entry hs0 hst (by decide) (Nat.le_of_ble_eq_true rfl) (fun p e s m args below meth c => ?_)
  refine z_aload_n 0 d_AL_size_0 rfl rfl ?_
  refine z_get zc_AL 2 (by decide) qF_AL_48 hG_AL rfl d_AL_size_1 ?_
  exact z_iret rfl (⟨rfl, rfl⟩) (by decide) (by decide) d_AL_size_4
theorem d_Pr_checkIndex_0 : decode c_Pr_checkIndex 0 = .ok (.iload_n 0, 1) := by decide +kernel
theorem d_Pr_checkIndex_1 : decode c_Pr_checkIndex 1 = .ok (.ifCond .lt 8, 3) := by decide +kernel
theorem d_Pr_checkIndex_4 : decode c_Pr_checkIndex 4 = .ok (.iload_n 0, 1) := by decide +kernel
theorem d_Pr_checkIndex_5 : decode c_Pr_checkIndex 5 = .ok (.iload_n 1, 1) := by decide +kernel
theorem d_Pr_checkIndex_6 : decode c_Pr_checkIndex 6 = .ok (.if_icmp .lt 10, 3) := by decide +kernel
theorem d_Pr_checkIndex_16 : decode c_Pr_checkIndex 16 = .ok (.iload_n 0, 1) := by decide +kernel
theorem d_Pr_checkIndex_17 : decode c_Pr_checkIndex 17 = .ok (.ireturn, 1) := by decide +kernel
set_option maxHeartbeats 4000000 in
set_option maxRecDepth 100000 in
theorem m_Pr_checkIndex {g0 : State} {d : zD} {l : Launch} {a0 : Array Value} (hs0 : zS0 d a0 g0) (hst : l.stackTraces = false) {G : zG} {j n : Nat} (hj : j < n) (hn : n < 2 ^ 30) : zMet g0 d l y_Pr_checkIndex c_Pr_checkIndex 3 ((Option.some Jvm.ClassFile.FieldType.int)) 8 0 0 [.int (nI j), .int (nI n), .null] (G) (zEq (some (.int (nI j))) G) (zNo) := by
  refine z_entry hs0 hst (by decide) (Nat.le_of_ble_eq_true rfl) (fun p e s m args below meth c => ?_)
  refine z_iload_n 0 d_Pr_checkIndex_0 rfl rfl ?_
  refine z_if_lt 9 d_Pr_checkIndex_1 (by decide) (fun c_1 => (by exfalso; simp (disch := omega) only [Int32.lt_iff_toInt_lt, Int32.le_iff_toInt_le, ← Int32.toInt_inj, nI_toInt, Int32.reduceToInt] at c_1; omega)) (fun c_1 => ?_)
  refine z_iload_n 0 d_Pr_checkIndex_4 rfl rfl ?_
  refine z_iload_n 1 d_Pr_checkIndex_5 rfl rfl ?_
  refine z_icmp_lt 16 d_Pr_checkIndex_6 (by decide) (fun c_6 => ?_) (fun c_6 => (by exfalso; simp (disch := omega) only [Int32.lt_iff_toInt_lt, Int32.le_iff_toInt_le, ← Int32.toInt_inj, nI_toInt, Int32.reduceToInt] at c_6; omega))
  refine z_iload_n 0 d_Pr_checkIndex_16 rfl rfl ?_
  exact z_iret rfl (⟨rfl, rfl⟩) (by decide) (by decide) d_Pr_checkIndex_17
theorem d_Ob_checkIndex_0 : decode c_Ob_checkIndex 0 = .ok (.iload_n 0, 1) := by decide +kernel
theorem d_Ob_checkIndex_1 : decode c_Ob_checkIndex 1 = .ok (.iload_n 1, 1) := by decide +kernel
theorem d_Ob_checkIndex_2 : decode c_Ob_checkIndex 2 = .ok (.aconst_null, 1) := by decide +kernel
theorem d_Ob_checkIndex_3 : decode c_Ob_checkIndex 3 = .ok (.invokestatic 105, 3) := by decide +kernel
theorem d_Ob_checkIndex_6 : decode c_Ob_checkIndex 6 = .ok (.ireturn, 1) := by decide +kernel
set_option maxHeartbeats 4000000 in
set_option maxRecDepth 100000 in
theorem m_Ob_checkIndex {g0 : State} {d : zD} {l : Launch} {a0 : Array Value} (hs0 : zS0 d a0 g0) (hst : l.stackTraces = false) {G : zG} {j n : Nat} (hj : j < n) (hn : n < 2 ^ 30) : zMet g0 d l y_Ob_checkIndex c_Ob_checkIndex 2 ((Option.some Jvm.ClassFile.FieldType.int)) 9 0 0 [.int (nI j), .int (nI n)] (G) (zEq (some (.int (nI j))) G) (zNo) := by
  refine z_entry hs0 hst (by decide) (Nat.le_of_ble_eq_true rfl) (fun p e s m args below meth c => ?_)
  refine z_iload_n 0 d_Ob_checkIndex_0 rfl rfl ?_
  refine z_iload_n 1 d_Ob_checkIndex_1 rfl rfl ?_
  refine z_null d_Ob_checkIndex_2 ?_
  refine z_callS0 (m_Pr_checkIndex hs0 hst hj hn) ym_Pr_checkIndex qM_Ob_105 qS_Pr_checkIndex d_Ob_checkIndex_3 rfl (by decide) ⟨Nat.zero_le _, Nat.zero_le _⟩ ⟨Nat.le_of_ble_eq_true rfl, Nat.le_of_ble_eq_true rfl⟩ ?_
  exact z_iret rfl (⟨rfl, rfl⟩) (by decide) (by decide) d_Ob_checkIndex_6
theorem d_AL_elementData_0 : decode c_AL_elementData 0 = .ok (.aload_n 0, 1) := by decide +kernel
theorem d_AL_elementData_1 : decode c_AL_elementData 1 = .ok (.getfield 9, 3) := by decide +kernel
theorem d_AL_elementData_4 : decode c_AL_elementData 4 = .ok (.iload_n 1, 1) := by decide +kernel
theorem d_AL_elementData_5 : decode c_AL_elementData 5 = .ok (.aaload, 1) := by decide +kernel
theorem d_AL_elementData_6 : decode c_AL_elementData 6 = .ok (.areturn, 1) := by decide +kernel
set_option maxHeartbeats 4000000 in
set_option maxRecDepth 100000 in
theorem m_AL_elementData {g0 : State} {d : zD} {l : Launch} {a0 : Array Value} (hs0 : zS0 d a0 g0) (hst : l.stackTraces = false) {G : zG} {h a cap n j q : Nat} {mc : Int32} {f : Nat → Option Nat} (hA : zAL d h a cap n mc f G) (hj : j < n) (hq : f j = some q) : zMet g0 d l y_AL_elementData c_AL_elementData 2 ((Option.some (Jvm.ClassFile.FieldType.object "java/lang/Object"))) 1 0 0 [.ref h, .int (nI j)] (G) (zEq (some (.ref q)) G) (zNo) := by
  obtain ⟨hG_AL, hG_a, hn, hc⟩ := id hA
  refine z_entry hs0 hst (by decide) (Nat.le_of_ble_eq_true rfl) (fun p e s m args below meth c => ?_)
  refine z_aload_n 0 d_AL_elementData_0 rfl rfl ?_
  refine z_get zc_AL 1 (by decide) qF_AL_9 hG_AL rfl d_AL_elementData_1 ?_
  refine z_iload_n 1 d_AL_elementData_4 rfl rfl ?_
  refine z_aald hG_a (vp_in_nI (by omega) (by omega)) d_AL_elementData_5 ?_
  rw [nI_clamp (show j < 2 ^ 31 by omega), hq]
  exact z_aret rfl (Or.inl ⟨_, rfl⟩) (Or.inr ⟨_, rfl⟩) (⟨rfl, rfl⟩) (by decide) (by decide) d_AL_elementData_6
theorem d_AL_get_0 : decode c_AL_get 0 = .ok (.iload_n 1, 1) := by decide +kernel
theorem d_AL_get_1 : decode c_AL_get 1 = .ok (.aload_n 0, 1) := by decide +kernel
theorem d_AL_get_2 : decode c_AL_get 2 = .ok (.getfield 48, 3) := by decide +kernel
theorem d_AL_get_5 : decode c_AL_get 5 = .ok (.invokestatic 118, 3) := by decide +kernel
theorem d_AL_get_8 : decode c_AL_get 8 = .ok (.pop, 1) := by decide +kernel
theorem d_AL_get_9 : decode c_AL_get 9 = .ok (.aload_n 0, 1) := by decide +kernel
theorem d_AL_get_10 : decode c_AL_get 10 = .ok (.iload_n 1, 1) := by decide +kernel
theorem d_AL_get_11 : decode c_AL_get 11 = .ok (.invokevirtual 123, 3) := by decide +kernel
theorem d_AL_get_14 : decode c_AL_get 14 = .ok (.areturn, 1) := by decide +kernel
set_option maxHeartbeats 4000000 in
set_option maxRecDepth 100000 in
theorem m_AL_get {g0 : State} {d : zD} {l : Launch} {a0 : Array Value} (hs0 : zS0 d a0 g0) (hst : l.stackTraces = false) {G : zG} {h a cap n j q : Nat} {mc : Int32} {f : Nat → Option Nat} (hA : zAL d h a cap n mc f G) (hj : j < n) (hq : f j = some q) : zMet g0 d l y_AL_get c_AL_get 2 ((Option.some (Jvm.ClassFile.FieldType.object "java/lang/Object"))) 10 0 0 [.ref h, .int (nI j)] (G) (zEq (some (.ref q)) G) (zNo) := by
  obtain ⟨hG_AL, hG_a, hn, hc⟩ := id hA
  refine z_entry hs0 hst (by decide) (Nat.le_of_ble_eq_true rfl) (fun p e s m args below meth c => ?_)
  refine z_iload_n 1 d_AL_get_0 rfl rfl ?_
  refine z_aload_n 0 d_AL_get_1 rfl rfl ?_
  refine z_get zc_AL 2 (by decide) qF_AL_48 hG_AL rfl d_AL_get_2 ?_
  refine z_callS0 (m_Ob_checkIndex hs0 hst hj (by omega)) ym_Ob_checkIndex qM_AL_118 qS_Ob_checkIndex d_AL_get_5 rfl (by decide) ⟨Nat.zero_le _, Nat.zero_le _⟩ ⟨Nat.le_of_ble_eq_true rfl, Nat.le_of_ble_eq_true rfl⟩ ?_
  refine z_pop d_AL_get_8 rfl ?_
  refine z_aload_n 0 d_AL_get_9 rfl rfl ?_
  refine z_iload_n 1 d_AL_get_10 rfl rfl ?_
  refine z_callV0 (m_AL_elementData hs0 hst hA hj hq) ym_AL_elementData qM_AL_123 qI_AL_elementData qV_AL_AL_elementData zc_AL hG_AL d_AL_get_11 rfl (by decide) ⟨Nat.zero_le _, Nat.zero_le _⟩ ⟨Nat.le_of_ble_eq_true rfl, Nat.le_of_ble_eq_true rfl⟩ ?_
  exact z_aret rfl (Or.inl ⟨_, rfl⟩) (Or.inr ⟨_, rfl⟩) (⟨rfl, rfl⟩) (by decide) (by decide) d_AL_get_14

theorem x97 (x : Int32) : (x ^^^ 97).toInt < 0 ↔ x.toInt < 0 := by
  have h1 : (x ^^^ 97).toBitVec.msb = x.toBitVec.msb := by
    rw [Int32.toBitVec_xor, BitVec.msb_xor, show (97 : Int32).toBitVec.msb = false from by decide, Bool.xor_false]
  rw [BitVec.msb_eq_toInt, BitVec.msb_eq_toInt] at h1
  exact decide_eq_decide.mp h1
theorem i97 (x : Int32) : (x - x / 97 * 97).toInt = x.toInt.tmod 97 := by
  have h1 : (x / 97).toInt = x.toInt.tdiv 97 := Int32.toInt_div_of_ne_right x 97 (by decide)
  have hb := x.le_toInt
  have hb2 := x.toInt_lt
  have hd := Int.mul_tdiv_add_tmod x.toInt 97
  have hm : x.toInt.tmod 97 < 97 ∧ -97 < x.toInt.tmod 97 := by
    rcases Int.le_total 0 x.toInt with h | h
    · rw [Int.tmod_eq_emod_of_nonneg h]; omega
    · have h2 : x.toInt = -(-x.toInt) := by omega
      rw [h2, Int.neg_tmod, Int.tmod_eq_emod_of_nonneg (by omega)]; omega
  have hs : (0 ≤ x.toInt → 0 ≤ x.toInt.tmod 97) ∧ (x.toInt ≤ 0 → x.toInt.tmod 97 ≤ 0) := by
    constructor
    · intro h
      rw [Int.tmod_eq_emod_of_nonneg h]; omega
    · intro h
      have h2 : x.toInt = -(-x.toInt) := by omega
      rw [h2, Int.neg_tmod, Int.tmod_eq_emod_of_nonneg (by omega)]; omega
  rw [Int32.toInt_sub, Int32.toInt_mul, h1, show (97 : Int32).toInt = 97 from rfl]
  generalize x.toInt.tdiv 97 = q at *
  generalize x.toInt.tmod 97 = r at *
  have e1 : (q * 97).bmod (2 ^ 32) = q * 97 := Int.bmod_eq_of_le (by omega) (by omega)
  rw [e1]
  have e2 : (x.toInt - q * 97).bmod (2 ^ 32) = x.toInt - q * 97 := Int.bmod_eq_of_le (by omega) (by omega)
  rw [e2]
  omega
/-- Math.floorMod(x, 97) -/
def zfm (x : Int32) : Int32 := Int32.ofInt (x.toInt % 97)
theorem zfm_i (x : Int32) : (zfm x).toInt = x.toInt % 97 := by
  unfold zfm
  rw [Int32.toInt_ofInt, show (Int32.size : Nat) = 2 ^ 32 from rfl]
  exact Int.bmod_eq_of_le (by omega) (by omega)
theorem zfm_n (x : Int32) : ∃ j : Nat, j < 97 ∧ zfm x = nI j ∧ (j : Int) = x.toInt % 97 := by
  have h0 := zfm_i x
  have h1 : 0 ≤ x.toInt % 97 := Int.emod_nonneg _ (by decide)
  have h2 : x.toInt % 97 < 97 := Int.emod_lt_of_pos _ (by decide)
  refine ⟨(x.toInt % 97).toNat, by omega, ?_, by omega⟩
  rw [← Int32.toInt_inj, h0, nI_toInt (by omega)]
  omega
theorem zfm1 {x : Int32} (h1 : ¬ 0 ≤ x ^^^ 97) (h2 : ¬ x - x / 97 * 97 = 0) : x - x / 97 * 97 + 97 = zfm x := by
  have h3 := i97 x
  rw [Int32.le_iff_toInt_le, show (0 : Int32).toInt = 0 from rfl] at h1
  have h4 := (x97 x).mp (by omega)
  have h5 : ¬ x.toInt.tmod 97 = 0 := fun h => h2 (by rw [← Int32.toInt_inj, h3, h]; rfl)
  rw [← Int32.toInt_inj, Int32.toInt_add, h3, zfm_i, show (97 : Int32).toInt = 97 from rfl]
  have h6 : x.toInt.tmod 97 = - ((-x.toInt) % 97) := by
    rw [← Int.tmod_eq_emod_of_nonneg (by omega), ← Int.neg_tmod, Int.neg_neg]
  rw [h6] at h5 ⊢
  rw [Int.bmod_eq_of_le (by omega) (by omega)]
  omega
theorem zfm2 {x : Int32} (h1 : 0 ≤ x ^^^ 97 ∨ x - x / 97 * 97 = 0) : x - x / 97 * 97 = zfm x := by
  have h3 := i97 x
  rw [← Int32.toInt_inj, zfm_i]
  rcases h1 with h1 | h1
  · rw [Int32.le_iff_toInt_le, show (0 : Int32).toInt = 0 from rfl] at h1
    have h4 : 0 ≤ x.toInt := by
      have := x97 x
      omega
    rw [h3, Int.tmod_eq_emod_of_nonneg h4]
  · rw [h1] at h3 ⊢
    have h5 : x.toInt.tmod 97 = 0 := h3.symm
    rcases Int.le_total 0 x.toInt with h | h
    · rw [Int.tmod_eq_emod_of_nonneg h] at h5
      rw [h5]; rfl
    · have h6 : x.toInt.tmod 97 = - ((-x.toInt) % 97) := by
        rw [← Int.tmod_eq_emod_of_nonneg (by omega), ← Int.neg_tmod, Int.neg_neg]
      rw [h6] at h5
      show (0 : Int) = _
      omega


theorem z_entryF {g0 : State} {d : zD} {y : MethodName} {cc : ByteArray} {nL : Nat} {ret : Option FieldType} {l : Launch} {G : zG} {post : Option Value → zG → Prop} {px : String → zG → Prop} {f mc ms : Nat} {av : List Value} {a0 : Array Value} (hs0 : zS0 d a0 g0) (hst : l.stackTraces = false) (hy : plainFor y = true) (hlen : (lg_sl av).length ≤ nL)
  (body : ∀ (p : Program) (e : Env) (s : State) (m : MethodId) (args : Array Value) (below : List Frame) (meth : Method) (c : Code), Z g0 d y cc nL ret [] p l e (zR f mc ms) s m args below meth c (vx_MQ below (zQc g0 d post) (zXc g0 d px) args s mc ms (zA g0)) 0 0 G (lv_args 0 av) [] 0) : zMet g0 d l y cc nL ret f mc ms av G post px := by
  refine MetFree.of_bodySF (code := cc) (maxLocals := nL) (ret := ret) hy ?_ ?_
  · intro args s m h hn
    obtain ⟨meth, c, h1, h2, h3, h4, h5, h6, -, -⟩ := Cond.code_spec hn (atoms_spec (ws := [Cond.code y cc nL ret]) h _ List.mem_cons_self)
    exact ⟨meth, c, h1, h2, h3, h4, h5, h6⟩
  · intro p e s m args below meth c s₁ B hml hv _
    have hh0 : s₁.heap = s.heap := by rw [B.state]; rfl
    have hT : ∀ x ∈ c.exceptionTable.toList, False := by
      obtain ⟨meth9, c9, h1, h2, -, -, -, -, h7, -⟩ := Cond.code_spec B.named (atoms_spec (ws := [Cond.code y cc nL ret]) B.pre _ List.mem_cons_self)
      cases Option.some.inj (h1.symm.trans B.method)
      cases Option.some.inj (h2.symm.trans (Stand.of_body B).code)
      intro x hx
      rw [Array.isEmpty_iff.mp h7] at hx
      cases hx
    obtain ⟨rfl, hW, hO, hP⟩ := hv
    have hl' := lv_entry av (n := nL) hlen
    have K := fun ls hl => body p e s m av.toArray below meth c ⟨⟨a0, hs0⟩, hst, B.exec, B.bytes, hml, findClass_of_methodNamed B.named, hW, hO, B.notSynchronized, B.returns, (name_of_methodNamed B.named B.method).1, List.eq_nil_iff_forall_not_mem.mpr hT⟩ _ _ ls hP va_S.rf hl
    have K2 := K _ hl'
    have K3 : W p l e (zR f mc ms) s m av.toArray below meth c s.heap [] 0 0 (vx_MQ below (zQc g0 d post) (zXc g0 d px) av.toArray s mc ms (zA g0)) (entryFrame m av.toArray nL) := by
      rw [lg_entry_eq]
      exact K2
    obtain ⟨t, a1, o, b1, b2, b3⟩ := K3 s₁ hh0 (Stand.of_body B)
    exact ⟨t, o, a1, b1, b2, b3⟩

theorem d_Ma_floorMod_0 : decode c_Ma_floorMod 0 = .ok (.iload_n 0, 1) := by decide +kernel
theorem d_Ma_floorMod_1 : decode c_Ma_floorMod 1 = .ok (.iload_n 1, 1) := by decide +kernel
theorem d_Ma_floorMod_2 : decode c_Ma_floorMod 2 = .ok (.irem, 1) := by decide +kernel
theorem d_Ma_floorMod_3 : decode c_Ma_floorMod 3 = .ok (.istore_n 2, 1) := by decide +kernel
theorem d_Ma_floorMod_4 : decode c_Ma_floorMod 4 = .ok (.iload_n 0, 1) := by decide +kernel
theorem d_Ma_floorMod_5 : decode c_Ma_floorMod 5 = .ok (.iload_n 1, 1) := by decide +kernel
theorem d_Ma_floorMod_6 : decode c_Ma_floorMod 6 = .ok (.ixor, 1) := by decide +kernel
theorem d_Ma_floorMod_7 : decode c_Ma_floorMod 7 = .ok (.ifCond .ge 11, 3) := by decide +kernel
theorem d_Ma_floorMod_10 : decode c_Ma_floorMod 10 = .ok (.iload_n 2, 1) := by decide +kernel
theorem d_Ma_floorMod_11 : decode c_Ma_floorMod 11 = .ok (.ifCond .eq 7, 3) := by decide +kernel
theorem d_Ma_floorMod_14 : decode c_Ma_floorMod 14 = .ok (.iload_n 2, 1) := by decide +kernel
theorem d_Ma_floorMod_15 : decode c_Ma_floorMod 15 = .ok (.iload_n 1, 1) := by decide +kernel
theorem d_Ma_floorMod_16 : decode c_Ma_floorMod 16 = .ok (.iadd, 1) := by decide +kernel
theorem d_Ma_floorMod_17 : decode c_Ma_floorMod 17 = .ok (.ireturn, 1) := by decide +kernel
theorem d_Ma_floorMod_18 : decode c_Ma_floorMod 18 = .ok (.iload_n 2, 1) := by decide +kernel
theorem d_Ma_floorMod_19 : decode c_Ma_floorMod 19 = .ok (.ireturn, 1) := by decide +kernel
set_option maxHeartbeats 4000000 in
set_option maxRecDepth 100000 in
theorem m_Ma_floorMod {g0 : State} {d : zD} {l : Launch} {a0 : Array Value} (hs0 : zS0 d a0 g0) (hst : l.stackTraces = false) {G : zG} (x : Int32) : zMet g0 d l y_Ma_floorMod c_Ma_floorMod 3 ((Option.some Jvm.ClassFile.FieldType.int)) 1 0 0 [.int x, .int 97] (G) (zEq (some (.int (zfm x))) G) (zNo) := by
  refine z_entryF hs0 hst (by decide +kernel) (Nat.le_of_ble_eq_true rfl) (fun p e s m args below meth c => ?_)
  refine z_iload_n 0 d_Ma_floorMod_0 rfl rfl ?_
  refine z_iload_n 1 d_Ma_floorMod_1 rfl rfl ?_
  refine z_irem d_Ma_floorMod_2 (by decide) ?_
  refine z_istore_n (L' := [(2, _), (0, _), (1, _)]) d_Ma_floorMod_3 rfl (by decide) rfl ?_
  refine z_iload_n 1 d_Ma_floorMod_4 rfl rfl ?_
  refine z_iload_n 2 d_Ma_floorMod_5 rfl rfl ?_
  refine z_ixor d_Ma_floorMod_6 ?_
  refine z_if_ge 18 d_Ma_floorMod_7 (by decide) (fun c_7 => ?_) (fun c_7 => ?_)
  · skip
    refine z_iload_n 0 d_Ma_floorMod_18 rfl rfl ?_
    exact z_iret rfl (⟨by first | rw [zfm2 (Or.inl c_7)] | rw [zfm2 (Or.inr c_11)], rfl⟩) (by decide) (by decide) d_Ma_floorMod_19
  · skip
    refine z_iload_n 0 d_Ma_floorMod_10 rfl rfl ?_
    refine z_if_eq 18 d_Ma_floorMod_11 (by decide) (fun c_11 => ?_) (fun c_11 => ?_)
    · skip
      refine z_iload_n 0 d_Ma_floorMod_18 rfl rfl ?_
      exact z_iret rfl (⟨by first | rw [zfm2 (Or.inl c_7)] | rw [zfm2 (Or.inr c_11)], rfl⟩) (by decide) (by decide) d_Ma_floorMod_19
    · skip
      refine z_iload_n 0 d_Ma_floorMod_14 rfl rfl ?_
      refine z_iload_n 2 d_Ma_floorMod_15 rfl rfl ?_
      refine z_iadd d_Ma_floorMod_16 ?_
      exact z_iret rfl (⟨by rw [zfm1 c_7 c_11], rfl⟩) (by decide) (by decide) d_Ma_floorMod_17
end
section

theorem zu_id {G : zG} {a : Nat} {v : va_E} (h : G a = some v) : zu G a v = G := by
  funext q
  by_cases e : q = a
  · subst e; rw [zu_s, h]
  · rw [zu_n e]
theorem zu_zu {G : zG} {a : Nat} {v w : va_E} : zu (zu G a v) a w = zu G a w := by
  funext q
  by_cases e : q = a
  · subst e; rw [zu_s, zu_s]
  · rw [zu_n e, zu_n e, zu_n e]
/-- reading and writing that is tested first -/
def zrd (n : Nat) (f : Nat → Int32) (df x : Int32) : Int32 := if x < 0 ∨ nI n ≤ x then df else f x.toNatClampNeg
def zwr (n : Nat) (f : Nat → Int32) (x v : Int32) : Nat → Int32 := if x < 0 ∨ nI n ≤ x then f else upd f x.toNatClampNeg v
theorem zrd_in {n : Nat} {f : Nat → Int32} {df x : Int32} (h1 : ¬ x < 0) (h2 : ¬ nI n ≤ x) : f x.toNatClampNeg = zrd n f df x := (if_neg (fun h => h.elim h1 h2)).symm
theorem zrd_o1 {n : Nat} {f : Nat → Int32} {df x : Int32} (h1 : x < 0) : df = zrd n f df x := (if_pos (Or.inl h1)).symm
theorem zrd_o2 {n : Nat} {f : Nat → Int32} {df x : Int32} (h1 : nI n ≤ x) : df = zrd n f df x := (if_pos (Or.inr h1)).symm
theorem zwr_in {n : Nat} {f : Nat → Int32} {v x : Int32} (h1 : ¬ x < 0) (h2 : ¬ nI n ≤ x) : upd f x.toNatClampNeg v = zwr n f x v := (if_neg (fun h => h.elim h1 h2)).symm
theorem zwr_o1 {n : Nat} {f : Nat → Int32} {v x : Int32} (h1 : x < 0) : zwr n f x v = f := if_pos (Or.inl h1)
theorem zwr_o2 {n : Nat} {f : Nat → Int32} {v x : Int32} (h1 : nI n ≤ x) : zwr n f x v = f := if_pos (Or.inr h1)
theorem zrd_N {n j : Nat} {f : Nat → Int32} {df : Int32} (h : j < n) (hn : n < 2 ^ 31) : zrd n f df (nI j) = f j := by
  rw [← zrd_in (nI_pos (by omega)) (nI_ge h hn), nI_clamp (by omega)]
theorem zwr_N {n j : Nat} {f : Nat → Int32} {v : Int32} (h : j < n) (hn : n < 2 ^ 31) : zwr n f (nI j) v = upd f j v := by
  rw [← zwr_in (nI_pos (by omega)) (nI_ge h hn), nI_clamp (by omega)]
theorem vp_of {x : Int32} {n : Nat} (hn : n < 2 ^ 31) (h1 : ¬ x < 0) (h2 : ¬ nI n ≤ x) : vp_in x n := by
  obtain ⟨j, hj, rfl⟩ := nI_of h1
  exact vp_in_nI (Nat.lt_of_not_le fun q => h2 (nI_le q hj)) hn
section ZC
variable {g0 : State} {d : zD} {y : MethodName} {cc : ByteArray} {nL : Nat} {ret : Option FieldType} {tb : List ExceptionTableEntry} {p : Program} {l : Launch} {e : Env} {R : Room} {s : State} {m : MethodId} {args : Array Value} {below : List Frame} {meth : Method} {c : Code} {Q : State → Prop} {cells slots : Nat} {G : zG} {L : List (Nat × Value)} {st : List Value} {pc : Nat}
theorem z_ialdN {a n j : Nat} {f : Nat → Int32} (hG : G a = some (zI d n f)) (hj : j < n) (hn : n < 2 ^ 31) (hd : decode cc pc = .ok (.iaload, 1)) (k : Z g0 d y cc nL ret tb p l e R s m args below meth c Q cells slots G L (.int (f j) :: st) (pc + 1)) : Z g0 d y cc nL ret tb p l e R s m args below meth c Q cells slots G L (.int (nI j) :: .ref a :: st) pc := z_iald hG (vp_in_nI hj hn) hd (by rw [nI_clamp (by omega)]; exact k)
theorem z_iastN {a n j : Nat} {f : Nat → Int32} {x : Int32} (hG : G a = some (zI d n f)) (hj : j < n) (hn : n < 2 ^ 31) (hd : decode cc pc = .ok (.iastore, 1)) (k : Z g0 d y cc nL ret tb p l e R s m args below meth c Q cells slots (zu G a (zI d n (upd f j x))) L st (pc + 1)) : Z g0 d y cc nL ret tb p l e R s m args below meth c Q cells slots G L (.int x :: .int (nI j) :: .ref a :: st) pc := z_iast hG (vp_in_nI hj hn) hd (by rw [nI_clamp (by omega)]; exact k)
end ZC
/-- a set as a number: bit by bit, as the loops make it -/
def zset (f : Nat → Bool) : Nat → Int32
  | 0 => nI 0
  | n + 1 => if f n then zset f n ||| (1 <<< (nI n &&& 31)) else zset f n
theorem zset_t {f : Nat → Bool} {n : Nat} (h : ¬ zb (f n) = 0) : zset f n ||| (1 <<< (nI n &&& 31)) = zset f (n + 1) := (if_pos ((zb_n0 _).mp h)).symm
theorem zset_f {f : Nat → Bool} {n : Nat} (h : zb (f n) = 0) : zset f n = zset f (n + 1) := (if_neg (by rw [(zb_0 _).mp h]; decide)).symm
def zcur (ep : Nat → Int32) (epo : Int32) (j : Nat) : Bool := decide (ep j ≠ -1) && decide (ep j = epo)
def zstl (ep : Nat → Int32) (epo : Int32) (j : Nat) : Bool := decide (ep j ≠ -1) && decide (ep j ≠ epo)

theorem d_Se_isCurrent_0 : decode c_Se_isCurrent 0 = .ok (.aload_n 0, 1) := by decide +kernel
theorem d_Se_isCurrent_1 : decode c_Se_isCurrent 1 = .ok (.iload_n 1, 1) := by decide +kernel
theorem d_Se_isCurrent_2 : decode c_Se_isCurrent 2 = .ok (.invokevirtual 42, 3) := by decide +kernel
theorem d_Se_isCurrent_5 : decode c_Se_isCurrent 5 = .ok (.ifCond .eq 19, 3) := by decide +kernel
theorem d_Se_isCurrent_8 : decode c_Se_isCurrent 8 = .ok (.aload_n 0, 1) := by decide +kernel
theorem d_Se_isCurrent_9 : decode c_Se_isCurrent 9 = .ok (.iload_n 1, 1) := by decide +kernel
theorem d_Se_isCurrent_10 : decode c_Se_isCurrent 10 = .ok (.invokevirtual 38, 3) := by decide +kernel
theorem d_Se_isCurrent_13 : decode c_Se_isCurrent 13 = .ok (.aload_n 0, 1) := by decide +kernel
theorem d_Se_isCurrent_14 : decode c_Se_isCurrent 14 = .ok (.getfield 28, 3) := by decide +kernel
theorem d_Se_isCurrent_17 : decode c_Se_isCurrent 17 = .ok (.if_icmp .ne 7, 3) := by decide +kernel
theorem d_Se_isCurrent_20 : decode c_Se_isCurrent 20 = .ok (.iconst 1, 1) := by decide +kernel
theorem d_Se_isCurrent_21 : decode c_Se_isCurrent 21 = .ok (.goto 4, 3) := by decide +kernel
theorem d_Se_isCurrent_24 : decode c_Se_isCurrent 24 = .ok (.iconst 0, 1) := by decide +kernel
theorem d_Se_isCurrent_25 : decode c_Se_isCurrent 25 = .ok (.ireturn, 1) := by decide +kernel
set_option maxHeartbeats 4000000 in
set_option maxRecDepth 100000 in
theorem m_Se_isCurrent {g0 : State} {d : zD} {l : Launch} {a0 : Array Value} (hs0 : zS0 d a0 g0) (hst : l.stackTraces = false) {G : zG} {h hs he : Nat} {t z dt : Int32} {sh ep : Nat → Int32} {epo fr bl : Int32} {j : Nat} (hS : zSe d h hs he t z dt sh ep epo fr bl G) (hj : j < 8) : zMet g0 d l y_Se_isCurrent c_Se_isCurrent 2 ((Option.some Jvm.ClassFile.FieldType.boolean)) 3 0 0 [.ref h, .int (nI j)] (G) (zEq (some (.int (zb (zcur ep epo j)))) G) (zNo) := by
  obtain ⟨hG_Se, hG_s, hG_e, hne⟩ := id hS
  refine z_entry hs0 hst (by decide) (Nat.le_of_ble_eq_true rfl) (fun p e s m args below meth c => ?_)
  refine z_aload_n 0 d_Se_isCurrent_0 rfl rfl ?_
  refine z_iload_n 1 d_Se_isCurrent_1 rfl rfl ?_
  refine z_callV0 (m_Se_has hs0 hst hS hj) ym_Se_has qM_Se_42 qI_Se_has qV_Se_Se_has zc_Se hG_Se d_Se_isCurrent_2 rfl (by decide) ⟨Nat.zero_le _, Nat.zero_le _⟩ ⟨Nat.le_of_ble_eq_true rfl, Nat.le_of_ble_eq_true rfl⟩ ?_
  refine z_if_eq 24 d_Se_isCurrent_5 (by decide) (fun c_5 => ?_) (fun c_5 => ?_)
  · skip
    refine z_iconst (v := 0) d_Se_isCurrent_24 (by decide) ?_
    exact z_zret rfl (by first | rfl | exact zb_nar _) (⟨by first | rw [show zcur ep epo j = false from by unfold zcur; rw [(zb_0 _).mp c_5]; rfl]; rfl | rw [show zcur ep epo j = true from by unfold zcur; rw [(zb_n0 _).mp c_5]; simp only [Bool.true_and, decide_eq_true_eq]; exact c_17]; rfl | rw [show zcur ep epo j = false from by unfold zcur; rw [(zb_n0 _).mp c_5]; simp only [Bool.true_and, decide_eq_false_iff_not, Decidable.not_not]; exact c_17]; rfl, rfl⟩) (by decide) (by decide) d_Se_isCurrent_25
  · skip
    refine z_aload_n 0 d_Se_isCurrent_8 rfl rfl ?_
    refine z_iload_n 1 d_Se_isCurrent_9 rfl rfl ?_
    refine z_callV0 (m_Se_epochOf hs0 hst hS hj) ym_Se_epochOf qM_Se_38 qI_Se_epochOf qV_Se_Se_epochOf zc_Se hG_Se d_Se_isCurrent_10 rfl (by decide) ⟨Nat.zero_le _, Nat.zero_le _⟩ ⟨Nat.le_of_ble_eq_true rfl, Nat.le_of_ble_eq_true rfl⟩ ?_
    refine z_aload_n 0 d_Se_isCurrent_13 rfl rfl ?_
    refine z_get zc_Se 5 (by decide) qF_Se_28 hG_Se rfl d_Se_isCurrent_14 ?_
    refine z_icmp_ne 24 d_Se_isCurrent_17 (by decide) (fun c_17 => ?_) (fun c_17 => ?_)
    · skip
      refine z_iconst (v := 0) d_Se_isCurrent_24 (by decide) ?_
      exact z_zret rfl (by first | rfl | exact zb_nar _) (⟨by first | rw [show zcur ep epo j = false from by unfold zcur; rw [(zb_0 _).mp c_5]; rfl]; rfl | rw [show zcur ep epo j = true from by unfold zcur; rw [(zb_n0 _).mp c_5]; simp only [Bool.true_and, decide_eq_true_eq]; exact c_17]; rfl | rw [show zcur ep epo j = false from by unfold zcur; rw [(zb_n0 _).mp c_5]; simp only [Bool.true_and, decide_eq_false_iff_not, Decidable.not_not]; exact c_17]; rfl, rfl⟩) (by decide) (by decide) d_Se_isCurrent_25
    · skip
      refine z_iconst (v := 1) d_Se_isCurrent_20 (by decide) ?_
      refine z_goto 25 d_Se_isCurrent_21 (by decide) ?_
      exact z_zret rfl (by first | rfl | exact zb_nar _) (⟨by first | rw [show zcur ep epo j = false from by unfold zcur; rw [(zb_0 _).mp c_5]; rfl]; rfl | rw [show zcur ep epo j = true from by unfold zcur; rw [(zb_n0 _).mp c_5]; simp only [Bool.true_and, decide_eq_true_eq]; exact c_17]; rfl | rw [show zcur ep epo j = false from by unfold zcur; rw [(zb_n0 _).mp c_5]; simp only [Bool.true_and, decide_eq_false_iff_not, Decidable.not_not]; exact c_17]; rfl, rfl⟩) (by decide) (by decide) d_Se_isCurrent_25
theorem d_Se_isStale_0 : decode c_Se_isStale 0 = .ok (.aload_n 0, 1) := by decide +kernel
theorem d_Se_isStale_1 : decode c_Se_isStale 1 = .ok (.iload_n 1, 1) := by decide +kernel
theorem d_Se_isStale_2 : decode c_Se_isStale 2 = .ok (.invokevirtual 42, 3) := by decide +kernel
theorem d_Se_isStale_5 : decode c_Se_isStale 5 = .ok (.ifCond .eq 19, 3) := by decide +kernel
theorem d_Se_isStale_8 : decode c_Se_isStale 8 = .ok (.aload_n 0, 1) := by decide +kernel
theorem d_Se_isStale_9 : decode c_Se_isStale 9 = .ok (.iload_n 1, 1) := by decide +kernel
theorem d_Se_isStale_10 : decode c_Se_isStale 10 = .ok (.invokevirtual 38, 3) := by decide +kernel
theorem d_Se_isStale_13 : decode c_Se_isStale 13 = .ok (.aload_n 0, 1) := by decide +kernel
theorem d_Se_isStale_14 : decode c_Se_isStale 14 = .ok (.getfield 28, 3) := by decide +kernel
theorem d_Se_isStale_17 : decode c_Se_isStale 17 = .ok (.if_icmp .eq 7, 3) := by decide +kernel
theorem d_Se_isStale_20 : decode c_Se_isStale 20 = .ok (.iconst 1, 1) := by decide +kernel
theorem d_Se_isStale_21 : decode c_Se_isStale 21 = .ok (.goto 4, 3) := by decide +kernel
theorem d_Se_isStale_24 : decode c_Se_isStale 24 = .ok (.iconst 0, 1) := by decide +kernel
theorem d_Se_isStale_25 : decode c_Se_isStale 25 = .ok (.ireturn, 1) := by decide +kernel
set_option maxHeartbeats 4000000 in
set_option maxRecDepth 100000 in
theorem m_Se_isStale {g0 : State} {d : zD} {l : Launch} {a0 : Array Value} (hs0 : zS0 d a0 g0) (hst : l.stackTraces = false) {G : zG} {h hs he : Nat} {t z dt : Int32} {sh ep : Nat → Int32} {epo fr bl : Int32} {j : Nat} (hS : zSe d h hs he t z dt sh ep epo fr bl G) (hj : j < 8) : zMet g0 d l y_Se_isStale c_Se_isStale 2 ((Option.some Jvm.ClassFile.FieldType.boolean)) 3 0 0 [.ref h, .int (nI j)] (G) (zEq (some (.int (zb (zstl ep epo j)))) G) (zNo) := by
  obtain ⟨hG_Se, hG_s, hG_e, hne⟩ := id hS
  refine z_entry hs0 hst (by decide) (Nat.le_of_ble_eq_true rfl) (fun p e s m args below meth c => ?_)
  refine z_aload_n 0 d_Se_isStale_0 rfl rfl ?_
  refine z_iload_n 1 d_Se_isStale_1 rfl rfl ?_
  refine z_callV0 (m_Se_has hs0 hst hS hj) ym_Se_has qM_Se_42 qI_Se_has qV_Se_Se_has zc_Se hG_Se d_Se_isStale_2 rfl (by decide) ⟨Nat.zero_le _, Nat.zero_le _⟩ ⟨Nat.le_of_ble_eq_true rfl, Nat.le_of_ble_eq_true rfl⟩ ?_
  refine z_if_eq 24 d_Se_isStale_5 (by decide) (fun c_5 => ?_) (fun c_5 => ?_)
  · skip
    refine z_iconst (v := 0) d_Se_isStale_24 (by decide) ?_
    exact z_zret rfl (by first | rfl | exact zb_nar _) (⟨by first | rw [show zstl ep epo j = false from by unfold zstl; rw [(zb_0 _).mp c_5]; rfl]; rfl | rw [show zstl ep epo j = true from by unfold zstl; rw [(zb_n0 _).mp c_5]; simp only [Bool.true_and, decide_eq_true_eq]; exact c_17]; rfl | rw [show zstl ep epo j = false from by unfold zstl; rw [(zb_n0 _).mp c_5]; simp only [Bool.true_and, decide_eq_false_iff_not, Decidable.not_not]; exact c_17]; rfl, rfl⟩) (by decide) (by decide) d_Se_isStale_25
  · skip
    refine z_aload_n 0 d_Se_isStale_8 rfl rfl ?_
    refine z_iload_n 1 d_Se_isStale_9 rfl rfl ?_
    refine z_callV0 (m_Se_epochOf hs0 hst hS hj) ym_Se_epochOf qM_Se_38 qI_Se_epochOf qV_Se_Se_epochOf zc_Se hG_Se d_Se_isStale_10 rfl (by decide) ⟨Nat.zero_le _, Nat.zero_le _⟩ ⟨Nat.le_of_ble_eq_true rfl, Nat.le_of_ble_eq_true rfl⟩ ?_
    refine z_aload_n 0 d_Se_isStale_13 rfl rfl ?_
    refine z_get zc_Se 5 (by decide) qF_Se_28 hG_Se rfl d_Se_isStale_14 ?_
    refine z_icmp_eq 24 d_Se_isStale_17 (by decide) (fun c_17 => ?_) (fun c_17 => ?_)
    · skip
      refine z_iconst (v := 0) d_Se_isStale_24 (by decide) ?_
      exact z_zret rfl (by first | rfl | exact zb_nar _) (⟨by first | rw [show zstl ep epo j = false from by unfold zstl; rw [(zb_0 _).mp c_5]; rfl]; rfl | rw [show zstl ep epo j = true from by unfold zstl; rw [(zb_n0 _).mp c_5]; simp only [Bool.true_and, decide_eq_true_eq]; exact c_17]; rfl | rw [show zstl ep epo j = false from by unfold zstl; rw [(zb_n0 _).mp c_5]; simp only [Bool.true_and, decide_eq_false_iff_not, Decidable.not_not]; exact c_17]; rfl, rfl⟩) (by decide) (by decide) d_Se_isStale_25
    · skip
      refine z_iconst (v := 1) d_Se_isStale_20 (by decide) ?_
      refine z_goto 25 d_Se_isStale_21 (by decide) ?_
      exact z_zret rfl (by first | rfl | exact zb_nar _) (⟨by first | rw [show zstl ep epo j = false from by unfold zstl; rw [(zb_0 _).mp c_5]; rfl]; rfl | rw [show zstl ep epo j = true from by unfold zstl; rw [(zb_n0 _).mp c_5]; simp only [Bool.true_and, decide_eq_true_eq]; exact c_17]; rfl | rw [show zstl ep epo j = false from by unfold zstl; rw [(zb_n0 _).mp c_5]; simp only [Bool.true_and, decide_eq_false_iff_not, Decidable.not_not]; exact c_17]; rfl, rfl⟩) (by decide) (by decide) d_Se_isStale_25
theorem d_Se_put_0 : decode c_Se_put 0 = .ok (.iload_n 1, 1) := by decide +kernel
theorem d_Se_put_1 : decode c_Se_put 1 = .ok (.ifCond .lt 35, 3) := by decide +kernel
theorem d_Se_put_4 : decode c_Se_put 4 = .ok (.iload_n 1, 1) := by decide +kernel
theorem d_Se_put_5 : decode c_Se_put 5 = .ok (.aload_n 0, 1) := by decide +kernel
theorem d_Se_put_6 : decode c_Se_put 6 = .ok (.getfield 21, 3) := by decide +kernel
theorem d_Se_put_9 : decode c_Se_put 9 = .ok (.arraylength, 1) := by decide +kernel
theorem d_Se_put_10 : decode c_Se_put 10 = .ok (.if_icmp .ge 26, 3) := by decide +kernel
theorem d_Se_put_13 : decode c_Se_put 13 = .ok (.iload_n 1, 1) := by decide +kernel
theorem d_Se_put_14 : decode c_Se_put 14 = .ok (.aload_n 0, 1) := by decide +kernel
theorem d_Se_put_15 : decode c_Se_put 15 = .ok (.getfield 25, 3) := by decide +kernel
theorem d_Se_put_18 : decode c_Se_put 18 = .ok (.arraylength, 1) := by decide +kernel
theorem d_Se_put_19 : decode c_Se_put 19 = .ok (.if_icmp .ge 17, 3) := by decide +kernel
theorem d_Se_put_22 : decode c_Se_put 22 = .ok (.aload_n 0, 1) := by decide +kernel
theorem d_Se_put_23 : decode c_Se_put 23 = .ok (.getfield 21, 3) := by decide +kernel
theorem d_Se_put_26 : decode c_Se_put 26 = .ok (.iload_n 1, 1) := by decide +kernel
theorem d_Se_put_27 : decode c_Se_put 27 = .ok (.iload_n 2, 1) := by decide +kernel
theorem d_Se_put_28 : decode c_Se_put 28 = .ok (.iastore, 1) := by decide +kernel
theorem d_Se_put_29 : decode c_Se_put 29 = .ok (.aload_n 0, 1) := by decide +kernel
theorem d_Se_put_30 : decode c_Se_put 30 = .ok (.getfield 25, 3) := by decide +kernel
theorem d_Se_put_33 : decode c_Se_put 33 = .ok (.iload_n 1, 1) := by decide +kernel
theorem d_Se_put_34 : decode c_Se_put 34 = .ok (.iload_n 3, 1) := by decide +kernel
theorem d_Se_put_35 : decode c_Se_put 35 = .ok (.iastore, 1) := by decide +kernel
theorem d_Se_put_36 : decode c_Se_put 36 = .ok (.return_, 1) := by decide +kernel
set_option maxHeartbeats 4000000 in
set_option maxRecDepth 100000 in
theorem m_Se_put {g0 : State} {d : zD} {l : Launch} {a0 : Array Value} (hs0 : zS0 d a0 g0) (hst : l.stackTraces = false) {G : zG} {h hs he : Nat} {t z dt : Int32} {sh ep : Nat → Int32} {epo fr bl : Int32} {j : Nat} (x w : Int32) (hS : zSe d h hs he t z dt sh ep epo fr bl G) (hj : j < 8) : zMet g0 d l y_Se_put c_Se_put 4 ((Option.none : Option Jvm.ClassFile.FieldType)) 1 0 0 [.ref h, .int (nI j), .int x, .int w] (G) (zEq none (zu (zu G hs (zI d 8 (upd sh j x))) he (zI d 8 (upd ep j w)))) (zNo) := by
  obtain ⟨hG_Se, hG_s, hG_e, hne⟩ := id hS
  refine z_entry hs0 hst (by decide) (Nat.le_of_ble_eq_true rfl) (fun p e s m args below meth c => ?_)
  refine z_iload_n 1 d_Se_put_0 rfl rfl ?_
  refine z_if_lt 36 d_Se_put_1 (by decide) (fun c_1 => (by exfalso; simp (disch := omega) only [Int32.lt_iff_toInt_lt, Int32.le_iff_toInt_le, ← Int32.toInt_inj, nI_toInt, Int32.reduceToInt] at c_1; omega)) (fun c_1 => ?_)
  refine z_iload_n 1 d_Se_put_4 rfl rfl ?_
  refine z_aload_n 0 d_Se_put_5 rfl rfl ?_
  refine z_get zc_Se 3 (by decide) qF_Se_21 hG_Se rfl d_Se_put_6 ?_
  refine z_alenI hG_s d_Se_put_9 ?_
  refine z_icmp_ge 36 d_Se_put_10 (by decide) (fun c_10 => absurd c_10 (nI_ge hj (by decide))) (fun c_10 => ?_)
  refine z_iload_n 1 d_Se_put_13 rfl rfl ?_
  refine z_aload_n 0 d_Se_put_14 rfl rfl ?_
  refine z_get zc_Se 4 (by decide) qF_Se_25 hG_Se rfl d_Se_put_15 ?_
  refine z_alenI hG_e d_Se_put_18 ?_
  refine z_icmp_ge 36 d_Se_put_19 (by decide) (fun c_19 => absurd c_19 (nI_ge hj (by decide))) (fun c_19 => ?_)
  refine z_aload_n 0 d_Se_put_22 rfl rfl ?_
  refine z_get zc_Se 3 (by decide) qF_Se_21 hG_Se rfl d_Se_put_23 ?_
  refine z_iload_n 1 d_Se_put_26 rfl rfl ?_
  refine z_iload_n 2 d_Se_put_27 rfl rfl ?_
  refine z_iastN hG_s (hj) (by decide) d_Se_put_28 ?_
  have hG_Se := (zu_n (G := G) (v := zI d 8 (upd sh j x)) (zOI hG_Se hG_s)).trans hG_Se
  have hG_e := (zu_n (G := G) (v := zI d 8 (upd sh j x)) (Ne.symm hne)).trans hG_e
  refine z_aload_n 0 d_Se_put_29 rfl rfl ?_
  refine z_get zc_Se 4 (by decide) qF_Se_25 hG_Se rfl d_Se_put_30 ?_
  refine z_iload_n 1 d_Se_put_33 rfl rfl ?_
  refine z_iload_n 3 d_Se_put_34 rfl rfl ?_
  refine z_iastN hG_e (hj) (by decide) d_Se_put_35 ?_
  exact z_vret rfl (⟨rfl, rfl⟩) (by decide) (by decide) d_Se_put_36
theorem d_Se_hold_0 : decode c_Se_hold 0 = .ok (.aload_n 0, 1) := by decide +kernel
theorem d_Se_hold_1 : decode c_Se_hold 1 = .ok (.iload_n 1, 1) := by decide +kernel
theorem d_Se_hold_2 : decode c_Se_hold 2 = .ok (.iload_n 2, 1) := by decide +kernel
theorem d_Se_hold_3 : decode c_Se_hold 3 = .ok (.aload_n 0, 1) := by decide +kernel
theorem d_Se_hold_4 : decode c_Se_hold 4 = .ok (.getfield 28, 3) := by decide +kernel
theorem d_Se_hold_7 : decode c_Se_hold 7 = .ok (.invokevirtual 46, 3) := by decide +kernel
theorem d_Se_hold_10 : decode c_Se_hold 10 = .ok (.return_, 1) := by decide +kernel
set_option maxHeartbeats 4000000 in
set_option maxRecDepth 100000 in
theorem m_Se_hold {g0 : State} {d : zD} {l : Launch} {a0 : Array Value} (hs0 : zS0 d a0 g0) (hst : l.stackTraces = false) {G : zG} {h hs he : Nat} {t z dt : Int32} {sh ep : Nat → Int32} {epo fr bl : Int32} {j : Nat} (x : Int32) (hS : zSe d h hs he t z dt sh ep epo fr bl G) (hj : j < 8) : zMet g0 d l y_Se_hold c_Se_hold 3 ((Option.none : Option Jvm.ClassFile.FieldType)) 2 0 0 [.ref h, .int (nI j), .int x] (G) (zEq none (zu (zu G hs (zI d 8 (upd sh j x))) he (zI d 8 (upd ep j epo)))) (zNo) := by
  obtain ⟨hG_Se, hG_s, hG_e, hne⟩ := id hS
  refine z_entry hs0 hst (by decide) (Nat.le_of_ble_eq_true rfl) (fun p e s m args below meth c => ?_)
  refine z_aload_n 0 d_Se_hold_0 rfl rfl ?_
  refine z_iload_n 1 d_Se_hold_1 rfl rfl ?_
  refine z_iload_n 2 d_Se_hold_2 rfl rfl ?_
  refine z_aload_n 0 d_Se_hold_3 rfl rfl ?_
  refine z_get zc_Se 5 (by decide) qF_Se_28 hG_Se rfl d_Se_hold_4 ?_
  refine z_callV0 (m_Se_put hs0 hst x epo hS hj) ym_Se_put qM_Se_46 qI_Se_put qV_Se_Se_put zc_Se hG_Se d_Se_hold_7 rfl (by decide) ⟨Nat.zero_le _, Nat.zero_le _⟩ ⟨Nat.le_of_ble_eq_true rfl, Nat.le_of_ble_eq_true rfl⟩ ?_
  exact z_vret rfl (⟨rfl, rfl⟩) (by decide) (by decide) d_Se_hold_10
theorem d_Se_lose_0 : decode c_Se_lose 0 = .ok (.aload_n 0, 1) := by decide +kernel
theorem d_Se_lose_1 : decode c_Se_lose 1 = .ok (.iload_n 1, 1) := by decide +kernel
theorem d_Se_lose_2 : decode c_Se_lose 2 = .ok (.iconst (-1), 1) := by decide +kernel
theorem d_Se_lose_3 : decode c_Se_lose 3 = .ok (.iconst (-1), 1) := by decide +kernel
theorem d_Se_lose_4 : decode c_Se_lose 4 = .ok (.invokevirtual 46, 3) := by decide +kernel
theorem d_Se_lose_7 : decode c_Se_lose 7 = .ok (.return_, 1) := by decide +kernel
set_option maxHeartbeats 4000000 in
set_option maxRecDepth 100000 in
theorem m_Se_lose {g0 : State} {d : zD} {l : Launch} {a0 : Array Value} (hs0 : zS0 d a0 g0) (hst : l.stackTraces = false) {G : zG} {h hs he : Nat} {t z dt : Int32} {sh ep : Nat → Int32} {epo fr bl : Int32} {j : Nat} (hS : zSe d h hs he t z dt sh ep epo fr bl G) (hj : j < 8) : zMet g0 d l y_Se_lose c_Se_lose 2 ((Option.none : Option Jvm.ClassFile.FieldType)) 2 0 0 [.ref h, .int (nI j)] (G) (zEq none (zu (zu G hs (zI d 8 (upd sh j (-1)))) he (zI d 8 (upd ep j (-1))))) (zNo) := by
  obtain ⟨hG_Se, hG_s, hG_e, hne⟩ := id hS
  refine z_entry hs0 hst (by decide) (Nat.le_of_ble_eq_true rfl) (fun p e s m args below meth c => ?_)
  refine z_aload_n 0 d_Se_lose_0 rfl rfl ?_
  refine z_iload_n 1 d_Se_lose_1 rfl rfl ?_
  refine z_iconst (v := (-1)) d_Se_lose_2 (by decide) ?_
  refine z_iconst (v := (-1)) d_Se_lose_3 (by decide) ?_
  refine z_callV0 (m_Se_put hs0 hst (-1) (-1) hS hj) ym_Se_put qM_Se_46 qI_Se_put qV_Se_Se_put zc_Se hG_Se d_Se_lose_4 rfl (by decide) ⟨Nat.zero_le _, Nat.zero_le _⟩ ⟨Nat.le_of_ble_eq_true rfl, Nat.le_of_ble_eq_true rfl⟩ ?_
  exact z_vret rfl (⟨rfl, rfl⟩) (by decide) (by decide) d_Se_lose_7
theorem d_Se_currentSet_0 : decode c_Se_currentSet 0 = .ok (.iconst 0, 1) := by decide +kernel
theorem d_Se_currentSet_1 : decode c_Se_currentSet 1 = .ok (.istore_n 1, 1) := by decide +kernel
theorem d_Se_currentSet_2 : decode c_Se_currentSet 2 = .ok (.iconst 0, 1) := by decide +kernel
theorem d_Se_currentSet_3 : decode c_Se_currentSet 3 = .ok (.istore_n 2, 1) := by decide +kernel
theorem d_Se_currentSet_4 : decode c_Se_currentSet 4 = .ok (.iload_n 2, 1) := by decide +kernel
theorem d_Se_currentSet_5 : decode c_Se_currentSet 5 = .ok (.bipush 8, 2) := by decide +kernel
theorem d_Se_currentSet_7 : decode c_Se_currentSet 7 = .ok (.if_icmp .ge 23, 3) := by decide +kernel
theorem d_Se_currentSet_10 : decode c_Se_currentSet 10 = .ok (.aload_n 0, 1) := by decide +kernel
theorem d_Se_currentSet_11 : decode c_Se_currentSet 11 = .ok (.iload_n 2, 1) := by decide +kernel
theorem d_Se_currentSet_12 : decode c_Se_currentSet 12 = .ok (.invokevirtual 50, 3) := by decide +kernel
theorem d_Se_currentSet_15 : decode c_Se_currentSet 15 = .ok (.ifCond .eq 9, 3) := by decide +kernel
theorem d_Se_currentSet_18 : decode c_Se_currentSet 18 = .ok (.iload_n 1, 1) := by decide +kernel
theorem d_Se_currentSet_19 : decode c_Se_currentSet 19 = .ok (.iconst 1, 1) := by decide +kernel
theorem d_Se_currentSet_20 : decode c_Se_currentSet 20 = .ok (.iload_n 2, 1) := by decide +kernel
theorem d_Se_currentSet_21 : decode c_Se_currentSet 21 = .ok (.ishl, 1) := by decide +kernel
theorem d_Se_currentSet_22 : decode c_Se_currentSet 22 = .ok (.ior, 1) := by decide +kernel
theorem d_Se_currentSet_23 : decode c_Se_currentSet 23 = .ok (.istore_n 1, 1) := by decide +kernel
theorem d_Se_currentSet_24 : decode c_Se_currentSet 24 = .ok (.iinc 2 1, 3) := by decide +kernel
theorem d_Se_currentSet_27 : decode c_Se_currentSet 27 = .ok (.goto (-23), 3) := by decide +kernel
theorem d_Se_currentSet_30 : decode c_Se_currentSet 30 = .ok (.iload_n 1, 1) := by decide +kernel
theorem d_Se_currentSet_31 : decode c_Se_currentSet 31 = .ok (.ireturn, 1) := by decide +kernel
set_option maxHeartbeats 4000000 in
set_option maxRecDepth 100000 in
theorem m_Se_currentSet {g0 : State} {d : zD} {l : Launch} {a0 : Array Value} (hs0 : zS0 d a0 g0) (hst : l.stackTraces = false) {G : zG} {h hs he : Nat} {t z dt : Int32} {sh ep : Nat → Int32} {epo fr bl : Int32} (hS : zSe d h hs he t z dt sh ep epo fr bl G) : zMet g0 d l y_Se_currentSet c_Se_currentSet 3 ((Option.some Jvm.ClassFile.FieldType.int)) 4 0 0 [.ref h] (G) (zEq (some (.int (zset (zcur ep epo) 8))) G) (zNo) := by
  obtain ⟨hG_Se, hG_s, hG_e, hne⟩ := id hS
  refine z_entry hs0 hst (by decide) (Nat.le_of_ble_eq_true rfl) (fun p e s m args below meth c => ?_)
  refine z_iconst (v := (nI 0)) d_Se_currentSet_0 (by decide) ?_
  refine z_istore_n (L' := [(1, _), (0, _)]) d_Se_currentSet_1 rfl (by decide) rfl ?_
  refine z_iconst (v := (nI 0)) d_Se_currentSet_2 (by decide) ?_
  refine z_istore_n (L' := [(2, _), (1, _), (0, _)]) d_Se_currentSet_3 rfl (by decide) rfl ?_
  have key_4 : ∀ (n : Nat) (i : Nat), 8 - i < n → (i ≤ 8) → Z g0 d y_Se_currentSet c_Se_currentSet 3 ((Option.some Jvm.ClassFile.FieldType.int)) [] p l e (zR 4 0 0) s m args below meth c (vx_MQ below (zQc g0 d (zEq (some (.int (zset (zcur ep epo) 8))) G)) (zXc g0 d (zNo)) args s 0 0 (zA g0)) 0 0 (G) [(2, .int (nI i)), (1, .int (zset (zcur ep epo) i)), (0, .ref h)] [] 4 := by
    intro n
    induction n with
    | zero => intro i h0; exact absurd h0 (Nat.not_lt_zero _)
    | succ n ih_4 =>
      intro i hm_4 hi
      refine z_iload_n 0 d_Se_currentSet_4 rfl rfl ?_
      refine z_bipush (v := 8) d_Se_currentSet_5 (by decide) ?_
      refine z_icmp_ge 30 d_Se_currentSet_7 (by decide) (fun c_7 => ?_) (fun c_7 => ?_)
      · skip
        obtain rfl : i = 8 := by
          have := c_7
          simp (disch := omega) only [Int32.le_iff_toInt_le, nI_toInt, Int32.reduceToInt] at this; omega
        refine z_iload_n 1 d_Se_currentSet_30 rfl rfl ?_
        exact z_iret rfl (⟨rfl, rfl⟩) (by decide) (by decide) d_Se_currentSet_31
      · skip
        have hi8 : i < 8 := (by simp (disch := omega) only [Int32.lt_iff_toInt_lt, Int32.le_iff_toInt_le, ← Int32.toInt_inj, nI_toInt, Int32.reduceToInt] at c_7; omega)
        refine z_aload_n 2 d_Se_currentSet_10 rfl rfl ?_
        refine z_iload_n 0 d_Se_currentSet_11 rfl rfl ?_
        refine z_callV0 (m_Se_isCurrent hs0 hst hS hi8) ym_Se_isCurrent qM_Se_50 qI_Se_isCurrent qV_Se_Se_isCurrent zc_Se hG_Se d_Se_currentSet_12 rfl (by decide) ⟨Nat.zero_le _, Nat.zero_le _⟩ ⟨Nat.le_of_ble_eq_true rfl, Nat.le_of_ble_eq_true rfl⟩ ?_
        refine z_if_eq 24 d_Se_currentSet_15 (by decide) (fun c_15 => ?_) (fun c_15 => ?_)
        · skip
          rw [zset_f (f := zcur ep epo) c_15]
          refine z_iinc (v := nI (i + 1)) (L' := [(2, _), (1, _), (0, _)]) 0 d_Se_currentSet_24 rfl (nI_1 i) (by decide) rfl ?_
          refine z_goto 4 d_Se_currentSet_27 (by decide) ?_
          exact ih_4 (i + 1) (by omega) (by omega)
        · skip
          have e_15 := zset_t (f := zcur ep epo) c_15
          refine z_iload_n 1 d_Se_currentSet_18 rfl rfl ?_
          refine z_iconst (v := 1) d_Se_currentSet_19 (by decide) ?_
          refine z_iload_n 0 d_Se_currentSet_20 rfl rfl ?_
          refine z_ishl d_Se_currentSet_21 ?_
          refine z_ior d_Se_currentSet_22 ?_
          refine z_topv e_15 ?_
          refine z_istore_n (L' := [(1, _), (2, _), (0, _)]) d_Se_currentSet_23 rfl (by decide) rfl ?_
          refine z_iinc (v := nI (i + 1)) (L' := [(2, _), (1, _), (0, _)]) 1 d_Se_currentSet_24 rfl (nI_1 i) (by decide) rfl ?_
          refine z_goto 4 d_Se_currentSet_27 (by decide) ?_
          exact ih_4 (i + 1) (by omega) (by omega)
  exact key_4 9 0 (by omega) (by omega)
theorem d_Se_staleSet_0 : decode c_Se_staleSet 0 = .ok (.iconst 0, 1) := by decide +kernel
theorem d_Se_staleSet_1 : decode c_Se_staleSet 1 = .ok (.istore_n 1, 1) := by decide +kernel
theorem d_Se_staleSet_2 : decode c_Se_staleSet 2 = .ok (.iconst 0, 1) := by decide +kernel
theorem d_Se_staleSet_3 : decode c_Se_staleSet 3 = .ok (.istore_n 2, 1) := by decide +kernel
theorem d_Se_staleSet_4 : decode c_Se_staleSet 4 = .ok (.iload_n 2, 1) := by decide +kernel
theorem d_Se_staleSet_5 : decode c_Se_staleSet 5 = .ok (.bipush 8, 2) := by decide +kernel
theorem d_Se_staleSet_7 : decode c_Se_staleSet 7 = .ok (.if_icmp .ge 23, 3) := by decide +kernel
theorem d_Se_staleSet_10 : decode c_Se_staleSet 10 = .ok (.aload_n 0, 1) := by decide +kernel
theorem d_Se_staleSet_11 : decode c_Se_staleSet 11 = .ok (.iload_n 2, 1) := by decide +kernel
theorem d_Se_staleSet_12 : decode c_Se_staleSet 12 = .ok (.invokevirtual 53, 3) := by decide +kernel
theorem d_Se_staleSet_15 : decode c_Se_staleSet 15 = .ok (.ifCond .eq 9, 3) := by decide +kernel
theorem d_Se_staleSet_18 : decode c_Se_staleSet 18 = .ok (.iload_n 1, 1) := by decide +kernel
theorem d_Se_staleSet_19 : decode c_Se_staleSet 19 = .ok (.iconst 1, 1) := by decide +kernel
theorem d_Se_staleSet_20 : decode c_Se_staleSet 20 = .ok (.iload_n 2, 1) := by decide +kernel
theorem d_Se_staleSet_21 : decode c_Se_staleSet 21 = .ok (.ishl, 1) := by decide +kernel
theorem d_Se_staleSet_22 : decode c_Se_staleSet 22 = .ok (.ior, 1) := by decide +kernel
theorem d_Se_staleSet_23 : decode c_Se_staleSet 23 = .ok (.istore_n 1, 1) := by decide +kernel
theorem d_Se_staleSet_24 : decode c_Se_staleSet 24 = .ok (.iinc 2 1, 3) := by decide +kernel
theorem d_Se_staleSet_27 : decode c_Se_staleSet 27 = .ok (.goto (-23), 3) := by decide +kernel
theorem d_Se_staleSet_30 : decode c_Se_staleSet 30 = .ok (.iload_n 1, 1) := by decide +kernel
theorem d_Se_staleSet_31 : decode c_Se_staleSet 31 = .ok (.ireturn, 1) := by decide +kernel
set_option maxHeartbeats 4000000 in
set_option maxRecDepth 100000 in
theorem m_Se_staleSet {g0 : State} {d : zD} {l : Launch} {a0 : Array Value} (hs0 : zS0 d a0 g0) (hst : l.stackTraces = false) {G : zG} {h hs he : Nat} {t z dt : Int32} {sh ep : Nat → Int32} {epo fr bl : Int32} (hS : zSe d h hs he t z dt sh ep epo fr bl G) : zMet g0 d l y_Se_staleSet c_Se_staleSet 3 ((Option.some Jvm.ClassFile.FieldType.int)) 4 0 0 [.ref h] (G) (zEq (some (.int (zset (zstl ep epo) 8))) G) (zNo) := by
  obtain ⟨hG_Se, hG_s, hG_e, hne⟩ := id hS
  refine z_entry hs0 hst (by decide) (Nat.le_of_ble_eq_true rfl) (fun p e s m args below meth c => ?_)
  refine z_iconst (v := (nI 0)) d_Se_staleSet_0 (by decide) ?_
  refine z_istore_n (L' := [(1, _), (0, _)]) d_Se_staleSet_1 rfl (by decide) rfl ?_
  refine z_iconst (v := (nI 0)) d_Se_staleSet_2 (by decide) ?_
  refine z_istore_n (L' := [(2, _), (1, _), (0, _)]) d_Se_staleSet_3 rfl (by decide) rfl ?_
  have key_4 : ∀ (n : Nat) (i : Nat), 8 - i < n → (i ≤ 8) → Z g0 d y_Se_staleSet c_Se_staleSet 3 ((Option.some Jvm.ClassFile.FieldType.int)) [] p l e (zR 4 0 0) s m args below meth c (vx_MQ below (zQc g0 d (zEq (some (.int (zset (zstl ep epo) 8))) G)) (zXc g0 d (zNo)) args s 0 0 (zA g0)) 0 0 (G) [(2, .int (nI i)), (1, .int (zset (zstl ep epo) i)), (0, .ref h)] [] 4 := by
    intro n
    induction n with
    | zero => intro i h0; exact absurd h0 (Nat.not_lt_zero _)
    | succ n ih_4 =>
      intro i hm_4 hi
      refine z_iload_n 0 d_Se_staleSet_4 rfl rfl ?_
      refine z_bipush (v := 8) d_Se_staleSet_5 (by decide) ?_
      refine z_icmp_ge 30 d_Se_staleSet_7 (by decide) (fun c_7 => ?_) (fun c_7 => ?_)
      · skip
        obtain rfl : i = 8 := by
          have := c_7
          simp (disch := omega) only [Int32.le_iff_toInt_le, nI_toInt, Int32.reduceToInt] at this; omega
        refine z_iload_n 1 d_Se_staleSet_30 rfl rfl ?_
        exact z_iret rfl (⟨rfl, rfl⟩) (by decide) (by decide) d_Se_staleSet_31
      · skip
        have hi8 : i < 8 := (by simp (disch := omega) only [Int32.lt_iff_toInt_lt, Int32.le_iff_toInt_le, ← Int32.toInt_inj, nI_toInt, Int32.reduceToInt] at c_7; omega)
        refine z_aload_n 2 d_Se_staleSet_10 rfl rfl ?_
        refine z_iload_n 0 d_Se_staleSet_11 rfl rfl ?_
        refine z_callV0 (m_Se_isStale hs0 hst hS hi8) ym_Se_isStale qM_Se_53 qI_Se_isStale qV_Se_Se_isStale zc_Se hG_Se d_Se_staleSet_12 rfl (by decide) ⟨Nat.zero_le _, Nat.zero_le _⟩ ⟨Nat.le_of_ble_eq_true rfl, Nat.le_of_ble_eq_true rfl⟩ ?_
        refine z_if_eq 24 d_Se_staleSet_15 (by decide) (fun c_15 => ?_) (fun c_15 => ?_)
        · skip
          rw [zset_f (f := zstl ep epo) c_15]
          refine z_iinc (v := nI (i + 1)) (L' := [(2, _), (1, _), (0, _)]) 0 d_Se_staleSet_24 rfl (nI_1 i) (by decide) rfl ?_
          refine z_goto 4 d_Se_staleSet_27 (by decide) ?_
          exact ih_4 (i + 1) (by omega) (by omega)
        · skip
          have e_15 := zset_t (f := zstl ep epo) c_15
          refine z_iload_n 1 d_Se_staleSet_18 rfl rfl ?_
          refine z_iconst (v := 1) d_Se_staleSet_19 (by decide) ?_
          refine z_iload_n 0 d_Se_staleSet_20 rfl rfl ?_
          refine z_ishl d_Se_staleSet_21 ?_
          refine z_ior d_Se_staleSet_22 ?_
          refine z_topv e_15 ?_
          refine z_istore_n (L' := [(1, _), (2, _), (0, _)]) d_Se_staleSet_23 rfl (by decide) rfl ?_
          refine z_iinc (v := nI (i + 1)) (L' := [(2, _), (1, _), (0, _)]) 1 d_Se_staleSet_24 rfl (nI_1 i) (by decide) rfl ?_
          refine z_goto 4 d_Se_staleSet_27 (by decide) ?_
          exact ih_4 (i + 1) (by omega) (by omega)
  exact key_4 9 0 (by omega) (by omega)

/-- Integer.bitCount, as it reckons -/
def zbc (x : Int32) : Int32 :=
  let sh := fun (a : Int32) (k : Int32) => (a.toUInt32 >>> (k.toUInt32 &&& Int32.toUInt32 31)).toInt32
  let a := x - (sh x 1 &&& 1431655765)
  let b := (a &&& 858993459) + (sh a 2 &&& 858993459)
  let c := (b + sh b 4) &&& 252645135
  let e := c + sh c 8
  (e + sh e 16) &&& 63
/-- how many of the lowest bits are set -/
def zpop : Nat → Nat → Nat
  | 0, _ => 0
  | k + 1, n => n % 2 + zpop k (n / 2)
theorem zbc_512 : ∀ n, n < 512 → zbc (nI n) = nI (zpop 9 n) := by decide +kernel
theorem zpop_le : ∀ n, n < 512 → zpop 9 n ≤ 9 := by decide +kernel

theorem d_In_bitCount_0 : decode c_In_bitCount 0 = .ok (.iload_n 0, 1) := by decide +kernel
theorem d_In_bitCount_1 : decode c_In_bitCount 1 = .ok (.iload_n 0, 1) := by decide +kernel
theorem d_In_bitCount_2 : decode c_In_bitCount 2 = .ok (.iconst 1, 1) := by decide +kernel
theorem d_In_bitCount_3 : decode c_In_bitCount 3 = .ok (.iushr, 1) := by decide +kernel
theorem d_In_bitCount_4 : decode c_In_bitCount 4 = .ok (.ldc_w 265, 3) := by decide +kernel
theorem d_In_bitCount_7 : decode c_In_bitCount 7 = .ok (.iand, 1) := by decide +kernel
theorem d_In_bitCount_8 : decode c_In_bitCount 8 = .ok (.isub, 1) := by decide +kernel
theorem d_In_bitCount_9 : decode c_In_bitCount 9 = .ok (.istore_n 0, 1) := by decide +kernel
theorem d_In_bitCount_10 : decode c_In_bitCount 10 = .ok (.iload_n 0, 1) := by decide +kernel
theorem d_In_bitCount_11 : decode c_In_bitCount 11 = .ok (.ldc_w 266, 3) := by decide +kernel
theorem d_In_bitCount_14 : decode c_In_bitCount 14 = .ok (.iand, 1) := by decide +kernel
theorem d_In_bitCount_15 : decode c_In_bitCount 15 = .ok (.iload_n 0, 1) := by decide +kernel
theorem d_In_bitCount_16 : decode c_In_bitCount 16 = .ok (.iconst 2, 1) := by decide +kernel
theorem d_In_bitCount_17 : decode c_In_bitCount 17 = .ok (.iushr, 1) := by decide +kernel
theorem d_In_bitCount_18 : decode c_In_bitCount 18 = .ok (.ldc_w 266, 3) := by decide +kernel
theorem d_In_bitCount_21 : decode c_In_bitCount 21 = .ok (.iand, 1) := by decide +kernel
theorem d_In_bitCount_22 : decode c_In_bitCount 22 = .ok (.iadd, 1) := by decide +kernel
theorem d_In_bitCount_23 : decode c_In_bitCount 23 = .ok (.istore_n 0, 1) := by decide +kernel
theorem d_In_bitCount_24 : decode c_In_bitCount 24 = .ok (.iload_n 0, 1) := by decide +kernel
theorem d_In_bitCount_25 : decode c_In_bitCount 25 = .ok (.iload_n 0, 1) := by decide +kernel
theorem d_In_bitCount_26 : decode c_In_bitCount 26 = .ok (.iconst 4, 1) := by decide +kernel
theorem d_In_bitCount_27 : decode c_In_bitCount 27 = .ok (.iushr, 1) := by decide +kernel
theorem d_In_bitCount_28 : decode c_In_bitCount 28 = .ok (.iadd, 1) := by decide +kernel
theorem d_In_bitCount_29 : decode c_In_bitCount 29 = .ok (.ldc_w 267, 3) := by decide +kernel
theorem d_In_bitCount_32 : decode c_In_bitCount 32 = .ok (.iand, 1) := by decide +kernel
theorem d_In_bitCount_33 : decode c_In_bitCount 33 = .ok (.istore_n 0, 1) := by decide +kernel
theorem d_In_bitCount_34 : decode c_In_bitCount 34 = .ok (.iload_n 0, 1) := by decide +kernel
theorem d_In_bitCount_35 : decode c_In_bitCount 35 = .ok (.iload_n 0, 1) := by decide +kernel
theorem d_In_bitCount_36 : decode c_In_bitCount 36 = .ok (.bipush 8, 2) := by decide +kernel
theorem d_In_bitCount_38 : decode c_In_bitCount 38 = .ok (.iushr, 1) := by decide +kernel
theorem d_In_bitCount_39 : decode c_In_bitCount 39 = .ok (.iadd, 1) := by decide +kernel
theorem d_In_bitCount_40 : decode c_In_bitCount 40 = .ok (.istore_n 0, 1) := by decide +kernel
theorem d_In_bitCount_41 : decode c_In_bitCount 41 = .ok (.iload_n 0, 1) := by decide +kernel
theorem d_In_bitCount_42 : decode c_In_bitCount 42 = .ok (.iload_n 0, 1) := by decide +kernel
theorem d_In_bitCount_43 : decode c_In_bitCount 43 = .ok (.bipush 16, 2) := by decide +kernel
theorem d_In_bitCount_45 : decode c_In_bitCount 45 = .ok (.iushr, 1) := by decide +kernel
theorem d_In_bitCount_46 : decode c_In_bitCount 46 = .ok (.iadd, 1) := by decide +kernel
theorem d_In_bitCount_47 : decode c_In_bitCount 47 = .ok (.istore_n 0, 1) := by decide +kernel
theorem d_In_bitCount_48 : decode c_In_bitCount 48 = .ok (.iload_n 0, 1) := by decide +kernel
theorem d_In_bitCount_49 : decode c_In_bitCount 49 = .ok (.bipush 63, 2) := by decide +kernel
theorem d_In_bitCount_51 : decode c_In_bitCount 51 = .ok (.iand, 1) := by decide +kernel
theorem d_In_bitCount_52 : decode c_In_bitCount 52 = .ok (.ireturn, 1) := by decide +kernel
set_option maxHeartbeats 4000000 in
set_option maxRecDepth 100000 in
theorem m_In_bitCount {g0 : State} {d : zD} {l : Launch} {a0 : Array Value} (hs0 : zS0 d a0 g0) (hst : l.stackTraces = false) {G : zG} (x : Int32) : zMet g0 d l y_In_bitCount c_In_bitCount 1 ((Option.some Jvm.ClassFile.FieldType.int)) 1 0 0 [.int x] (G) (zEq (some (.int (zbc x))) G) (zNo) := by
  refine z_entryF hs0 hst (by decide +kernel) (Nat.le_of_ble_eq_true rfl) (fun p e s m args below meth c => ?_)
  refine z_iload_n 0 d_In_bitCount_0 rfl rfl ?_
  refine z_iload_n 0 d_In_bitCount_1 rfl rfl ?_
  refine z_iconst (v := 1) d_In_bitCount_2 (by decide) ?_
  refine z_iushr d_In_bitCount_3 rfl ?_
  refine z_ldcw qX_In_265 d_In_bitCount_4 ?_
  refine z_iand d_In_bitCount_7 ?_
  refine z_isub d_In_bitCount_8 ?_
  refine z_istore_n (L' := [(0, _)]) d_In_bitCount_9 rfl (by decide) rfl ?_
  refine z_iload_n 0 d_In_bitCount_10 rfl rfl ?_
  refine z_ldcw qX_In_266 d_In_bitCount_11 ?_
  refine z_iand d_In_bitCount_14 ?_
  refine z_iload_n 0 d_In_bitCount_15 rfl rfl ?_
  refine z_iconst (v := 2) d_In_bitCount_16 (by decide) ?_
  refine z_iushr d_In_bitCount_17 rfl ?_
  refine z_ldcw qX_In_266 d_In_bitCount_18 ?_
  refine z_iand d_In_bitCount_21 ?_
  refine z_iadd d_In_bitCount_22 ?_
  refine z_istore_n (L' := [(0, _)]) d_In_bitCount_23 rfl (by decide) rfl ?_
  refine z_iload_n 0 d_In_bitCount_24 rfl rfl ?_
  refine z_iload_n 0 d_In_bitCount_25 rfl rfl ?_
  refine z_iconst (v := 4) d_In_bitCount_26 (by decide) ?_
  refine z_iushr d_In_bitCount_27 rfl ?_
  refine z_iadd d_In_bitCount_28 ?_
  refine z_ldcw qX_In_267 d_In_bitCount_29 ?_
  refine z_iand d_In_bitCount_32 ?_
  refine z_istore_n (L' := [(0, _)]) d_In_bitCount_33 rfl (by decide) rfl ?_
  refine z_iload_n 0 d_In_bitCount_34 rfl rfl ?_
  refine z_iload_n 0 d_In_bitCount_35 rfl rfl ?_
  refine z_bipush (v := 8) d_In_bitCount_36 (by decide) ?_
  refine z_iushr d_In_bitCount_38 rfl ?_
  refine z_iadd d_In_bitCount_39 ?_
  refine z_istore_n (L' := [(0, _)]) d_In_bitCount_40 rfl (by decide) rfl ?_
  refine z_iload_n 0 d_In_bitCount_41 rfl rfl ?_
  refine z_iload_n 0 d_In_bitCount_42 rfl rfl ?_
  refine z_bipush (v := 16) d_In_bitCount_43 (by decide) ?_
  refine z_iushr d_In_bitCount_45 rfl ?_
  refine z_iadd d_In_bitCount_46 ?_
  refine z_istore_n (L' := [(0, _)]) d_In_bitCount_47 rfl (by decide) rfl ?_
  refine z_iload_n 0 d_In_bitCount_48 rfl rfl ?_
  refine z_bipush (v := 63) d_In_bitCount_49 (by decide) ?_
  refine z_iand d_In_bitCount_51 ?_
  exact z_iret rfl (⟨rfl, rfl⟩) (by decide) (by decide) d_In_bitCount_52
end
section

/-! the class's world: roles 0 this, 1 2 keepers (list, data), 3 4 secrets, 5..9 register, 10 11 curve, 12 13 14 group, 15 chances; 100+k keepers, 200+i secrets, 300+i shares, 400+i epochs -/
def tcell (d : zD) (A : Nat → Nat) (D : Nat → UInt64) (nk ns : Nat) (r : Nat) (v : Nat → Int32) : va_E :=
  if r < 16 then (match r with
    | 0 => zob 8 [.ref (A 1), .ref (A 3), .ref (A 5), .ref (A 10), .ref (A 12), .ref (A 15), .int (v 0), .int (v 1), .int (v 2), .int (v 3)]
    | 1 => zob 2 [.int (v 0), .ref (if nk = 0 then d.2.2 else A 2), .int (nI nk)]
    | 2 => zO d 10 (fun j => if j < nk then some (A (100 + j)) else none)
    | 3 => zob 2 [.int (v 0), .ref (if ns = 0 then d.2.2 else A 4), .int (nI ns)]
    | 4 => zO d 10 (fun j => if j < ns then some (A (200 + j)) else none)
    | 5 => zob 6 [.ref (A 6), .ref (A 7), .ref (A 8), .ref (A 9), .int (v 0)]
    | 9 => zI d 128 v
    | 10 => zob 3 [.ref (A 11), .int (v 0)]
    | 11 => zI d 4 v
    | 12 => zob 4 [.ref (A 13), .ref (A 14), .int (v 0), .int (v 1), .int (v 2), .int (v 3)]
    | 13 => zI d 97 v
    | 14 => zI d 9 v
    | 15 => zDb d 9 D
    | _ => zI d 64 v)
  else if r < 200 then zob 5 [.int (v 0), .int (v 1), .int (v 2), .int (v 3), .int (v 4), .int (v 5)]
  else if r < 300 then zob 7 [.int (v 0), .int (v 1), .int (v 2), .ref (A (r + 100)), .ref (A (r + 200)), .int (v 3), .int (v 4), .int (v 5)]
  else zI d 8 v
def tlive (nk ns r : Nat) : Prop := (r < 16 ∧ (r = 2 → 0 < nk) ∧ (r = 4 → 0 < ns)) ∨ (100 ≤ r ∧ r < 100 + nk) ∨ (200 ≤ r ∧ r < 200 + ns) ∨ (300 ≤ r ∧ r < 300 + ns) ∨ (400 ≤ r ∧ r < 400 + ns)
/-- what the numbers of the class's world keep to -/
def tInv (V : Nat → Nat → Int32) (nk ns : Nat) : Prop := nk ≤ 8 ∧ ns ≤ 6 ∧ (∃ q, q < 512 ∧ V 12 1 = nI q) ∧ (∃ c, c ≤ 64 ∧ V 5 0 = nI c) ∧ (∀ i, i < ns → ∃ t, 1 ≤ t ∧ t ≤ 4 ∧ V (200 + i) 0 = nI t) ∧ (∀ k, k < nk → V (100 + k) 0 = nI k)
def zT (d : zD) (A : Nat → Nat) (D : Nat → UInt64) (V : Nat → Nat → Int32) (nk ns : Nat) (G : zG) : Prop := zW A (tlive nk ns) (tcell d A D nk ns) V G ∧ tInv V nk ns
abbrev tFr (A : Nat → Nat) (nk ns : Nat) (G G' : zG) : Prop := zFr A (tlive nk ns) G G'
/-- rows outside P are as they were -/
def zKp (P : Nat → Prop) (V V' : Nat → Nat → Int32) : Prop := ∀ r, ¬ P r → V' r = V r
theorem zKp.rf {P : Nat → Prop} {V : Nat → Nat → Int32} : zKp P V V := fun _ _ => rfl
theorem zKp.tr {P : Nat → Prop} {V V1 V2 : Nat → Nat → Int32} (h1 : zKp P V V1) (h2 : zKp P V1 V2) : zKp P V V2 := fun r h => (h2 r h).trans (h1 r h)
theorem zKp.set {P : Nat → Prop} {V : Nat → Nat → Int32} {r : Nat} {v : Nat → Int32} (h : P r) : zKp P V (rset V r v) := fun q hq => rset_n (fun e => hq (e ▸ h))
theorem zKp.mono {P P' : Nat → Prop} {V V' : Nat → Nat → Int32} (h : zKp P V V') (hs : ∀ r, P r → P' r) : zKp P' V V' := fun r hr => h r (fun q => hr (hs r q))
section ZT
variable {d : zD} {A : Nat → Nat} {D : Nat → UInt64} {V : Nat → Nat → Int32} {nk ns : Nat} {G G1 : zG}
theorem tlive_s {r : Nat} (h : r < 16) (h2 : r ≠ 2) (h4 : r ≠ 4) : tlive nk ns r := Or.inl ⟨h, fun e => absurd e h2, fun e => absurd e h4⟩
theorem tlive_k {k : Nat} (h : k < nk) : tlive nk ns (100 + k) := Or.inr (Or.inl ⟨by omega, by omega⟩)
theorem tlive_i {i : Nat} (h : i < ns) : tlive nk ns (200 + i) := Or.inr (Or.inr (Or.inl ⟨by omega, by omega⟩))
theorem tlive_sh {i : Nat} (h : i < ns) : tlive nk ns (300 + i) := Or.inr (Or.inr (Or.inr (Or.inl ⟨by omega, by omega⟩)))
theorem tlive_ep {i : Nat} (h : i < ns) : tlive nk ns (400 + i) := Or.inr (Or.inr (Or.inr (Or.inr ⟨by omega, by omega⟩)))
theorem tcell_k {k : Nat} (h : k < 8) (v : Nat → Int32) : tcell d A D nk ns (100 + k) v = zob 5 [.int (v 0), .int (v 1), .int (v 2), .int (v 3), .int (v 4), .int (v 5)] := by
  unfold tcell
  rw [if_neg (by omega), if_pos (by omega)]
theorem tcell_i {i : Nat} (h : i < 6) (v : Nat → Int32) : tcell d A D nk ns (200 + i) v = zob 7 [.int (v 0), .int (v 1), .int (v 2), .ref (A (300 + i)), .ref (A (400 + i)), .int (v 3), .int (v 4), .int (v 5)] := by
  unfold tcell
  rw [if_neg (by omega), if_neg (by omega), if_pos (by omega), show 200 + i + 100 = 300 + i by omega, show 200 + i + 200 = 400 + i by omega]
theorem tcell_a {r : Nat} (h : 300 ≤ r) (v : Nat → Int32) : tcell d A D nk ns r v = zI d 8 v := by
  unfold tcell
  rw [if_neg (by omega), if_neg (by omega), if_neg (by omega)]
theorem zT.tb (h : zT d A D V nk ns G) : G (A 0) = some (zob 8 [.ref (A 1), .ref (A 3), .ref (A 5), .ref (A 10), .ref (A 12), .ref (A 15), .int (V 0 0), .int (V 0 1), .int (V 0 2), .int (V 0 3)]) := h.1.2 0 (tlive_s (by decide) (by decide) (by decide))
theorem zT.kl (h : zT d A D V nk ns G) : G (A 1) = some (zob 2 [.int (V 1 0), .ref (if nk = 0 then d.2.2 else A 2), .int (nI nk)]) := h.1.2 1 (tlive_s (by decide) (by decide) (by decide))
theorem zT.sl (h : zT d A D V nk ns G) : G (A 3) = some (zob 2 [.int (V 3 0), .ref (if ns = 0 then d.2.2 else A 4), .int (nI ns)]) := h.1.2 3 (tlive_s (by decide) (by decide) (by decide))
theorem zT.kA (h : zT d A D V nk ns G) {k : Nat} (hk : k < nk) : zAL d (A 1) (A 2) 10 nk (V 1 0) (fun j => if j < nk then some (A (100 + j)) else none) G := by
  refine ⟨?_, h.1.2 2 (Or.inl ⟨by decide, fun _ => by omega, fun e => absurd e (by decide)⟩), by have := h.2.1; omega, by decide⟩
  have := h.kl
  rw [if_neg (show ¬ nk = 0 by omega)] at this
  exact this
theorem zT.sA (h : zT d A D V nk ns G) {i : Nat} (hi : i < ns) : zAL d (A 3) (A 4) 10 ns (V 3 0) (fun j => if j < ns then some (A (200 + j)) else none) G := by
  refine ⟨?_, h.1.2 4 (Or.inl ⟨by decide, fun e => absurd e (by decide), fun _ => by omega⟩), by have := h.2.2.1; omega, by decide⟩
  have := h.sl
  rw [if_neg (show ¬ ns = 0 by omega)] at this
  exact this
theorem zT.ke (h : zT d A D V nk ns G) {k : Nat} (hk : k < nk) : G (A (100 + k)) = some (zob 5 [.int (V (100 + k) 0), .int (V (100 + k) 1), .int (V (100 + k) 2), .int (V (100 + k) 3), .int (V (100 + k) 4), .int (V (100 + k) 5)]) :=
  (h.1.2 _ (tlive_k hk)).trans (congrArg some (tcell_k (by have := h.2.1; omega) _))
theorem zT.se (h : zT d A D V nk ns G) {i : Nat} (hi : i < ns) : zSe d (A (200 + i)) (A (300 + i)) (A (400 + i)) (V (200 + i) 0) (V (200 + i) 1) (V (200 + i) 2) (V (300 + i)) (V (400 + i)) (V (200 + i) 3) (V (200 + i) 4) (V (200 + i) 5) G :=
  ⟨(h.1.2 _ (tlive_i hi)).trans (congrArg some (tcell_i (by have := h.2.2.1; omega) _)), (h.1.2 _ (tlive_sh hi)).trans (congrArg some (tcell_a (by omega) _)), (h.1.2 _ (tlive_ep hi)).trans (congrArg some (tcell_a (by omega) _)), fun e => by have := h.1.1 _ _ (tlive_sh hi) (tlive_ep hi) e; omega⟩
theorem zT.re (h : zT d A D V nk ns G) : G (A 5) = some (zob 6 [.ref (A 6), .ref (A 7), .ref (A 8), .ref (A 9), .int (V 5 0)]) := h.1.2 5 (tlive_s (by decide) (by decide) (by decide))
theorem zT.cu (h : zT d A D V nk ns G) : G (A 10) = some (zob 3 [.ref (A 11), .int (V 10 0)]) := h.1.2 10 (tlive_s (by decide) (by decide) (by decide))
theorem zT.cn (h : zT d A D V nk ns G) : G (A 11) = some (zI d 4 (V 11)) := h.1.2 11 (tlive_s (by decide) (by decide) (by decide))
theorem zT.gr (h : zT d A D V nk ns G) : G (A 12) = some (zob 4 [.ref (A 13), .ref (A 14), .int (V 12 0), .int (V 12 1), .int (V 12 2), .int (V 12 3)]) := h.1.2 12 (tlive_s (by decide) (by decide) (by decide))
theorem zT.gi (h : zT d A D V nk ns G) : G (A 13) = some (zI d 97 (V 13)) := h.1.2 13 (tlive_s (by decide) (by decide) (by decide))
theorem zT.gg (h : zT d A D V nk ns G) : G (A 14) = some (zI d 9 (V 14)) := h.1.2 14 (tlive_s (by decide) (by decide) (by decide))
theorem zT.ch (h : zT d A D V nk ns G) : G (A 15) = some (zDb d 9 D) := h.1.2 15 (tlive_s (by decide) (by decide) (by decide))
/-- a row is written -/
theorem zT.put (h : zT d A D V nk ns G) {r a : Nat} {w : va_E} (hr : tlive nk ns r) (v : Nat → Int32) (ha : a = A r) (hw : w = tcell d A D nk ns r v) (hi : tInv (rset V r v) nk ns) : zT d A D (rset V r v) nk ns (zu G a w) := ⟨h.1.put' hr v ha hw, hi⟩
theorem zT.frput {r a : Nat} {w : va_E} (hr : tlive nk ns r) (ha : a = A r) : tFr A nk ns G (zu G a w) := by
  subst ha
  exact zFr.put hr
end ZT
theorem tInv.off {V : Nat → Nat → Int32} {nk ns r : Nat} {v : Nat → Int32} (h : tInv V nk ns) (h1 : r ≠ 12) (h2 : r ≠ 5) (h3 : r < 100 ∨ 300 ≤ r) : tInv (rset V r v) nk ns := by
  obtain ⟨a, b, c, e, f, g⟩ := h
  refine ⟨a, b, by rw [rset_n (Ne.symm h1)]; exact c, by rw [rset_n (Ne.symm h2)]; exact e, fun i hi => ?_, fun k hk => ?_⟩
  · rw [rset_n (by omega)]; exact f i hi
  · rw [rset_n (by omega)]; exact g k hk

theorem d_Tb_allKeepers_0 : decode c_Tb_allKeepers 0 = .ok (.iconst 1, 1) := by decide +kernel
theorem d_Tb_allKeepers_1 : decode c_Tb_allKeepers 1 = .ok (.aload_n 0, 1) := by decide +kernel
theorem d_Tb_allKeepers_2 : decode c_Tb_allKeepers 2 = .ok (.getfield 10, 3) := by decide +kernel
theorem d_Tb_allKeepers_5 : decode c_Tb_allKeepers 5 = .ok (.invokevirtual 68, 3) := by decide +kernel
theorem d_Tb_allKeepers_8 : decode c_Tb_allKeepers 8 = .ok (.ishl, 1) := by decide +kernel
theorem d_Tb_allKeepers_9 : decode c_Tb_allKeepers 9 = .ok (.iconst 1, 1) := by decide +kernel
theorem d_Tb_allKeepers_10 : decode c_Tb_allKeepers 10 = .ok (.isub, 1) := by decide +kernel
theorem d_Tb_allKeepers_11 : decode c_Tb_allKeepers 11 = .ok (.ireturn, 1) := by decide +kernel
set_option maxHeartbeats 4000000 in
set_option maxRecDepth 100000 in
theorem m_Tb_allKeepers {g0 : State} {d : zD} {l : Launch} {a0 : Array Value} (hs0 : zS0 d a0 g0) (hst : l.stackTraces = false) {G : zG} {A : Nat → Nat} {D : Nat → UInt64} {V : Nat → Nat → Int32} {nk ns : Nat} (hT : zT d A D V nk ns G) : zMet g0 d l y_Tb_allKeepers c_Tb_allKeepers 1 ((Option.some Jvm.ClassFile.FieldType.int)) 2 0 0 [.ref (A 0)] (G) (zEq (some (.int (1 <<< (nI nk &&& 31) - 1))) G) (zNo) := by
  have hG_Tb := hT.tb
  have hnk : nk ≤ 8 := hT.2.1
  have hns : ns ≤ 6 := hT.2.2.1
  refine z_entry hs0 hst (by decide) (Nat.le_of_ble_eq_true rfl) (fun p e s m args below meth c => ?_)
  refine z_iconst (v := 1) d_Tb_allKeepers_0 (by decide) ?_
  refine z_aload_n 0 d_Tb_allKeepers_1 rfl rfl ?_
  refine z_get zc_Tb 0 (by decide) qF_Tb_10 hG_Tb rfl d_Tb_allKeepers_2 ?_
  refine z_callV0 (m_AL_size hs0 hst hT.kl) ym_AL_size qM_Tb_68 qI_AL_size qV_AL_AL_size zc_AL hT.kl d_Tb_allKeepers_5 rfl (Nat.le_of_ble_eq_true rfl) ⟨Nat.zero_le _, Nat.zero_le _⟩ ⟨Nat.le_of_ble_eq_true rfl, Nat.le_of_ble_eq_true rfl⟩ ?_
  refine z_ishl d_Tb_allKeepers_8 ?_
  refine z_iconst (v := 1) d_Tb_allKeepers_9 (by decide) ?_
  refine z_isub d_Tb_allKeepers_10 ?_
  exact z_iret rfl (⟨rfl, rfl⟩) (by decide) (by decide) d_Tb_allKeepers_11

/-- a number is a set of the first nk -/
def zsetok (nk : Nat) (x : Int32) : Bool := zin x 0 (1 <<< (nI nk &&& 31) - 1)
theorem zsetok_le {nk : Nat} {x : Int32} (hk : nk ≤ 8) (h : zsetok nk x = true) : ∃ n, n < 2 ^ nk ∧ x = nI n := by
  have key : ∀ nk, nk < 9 → (1 : Int32) <<< (nI nk &&& 31) - 1 = nI (2 ^ nk - 1) := by decide +kernel
  unfold zsetok at h
  rw [key nk (by omega)] at h
  simp only [zin, Bool.and_eq_true, decide_eq_true_eq] at h
  have hp : 2 ^ nk ≤ 256 := Nat.pow_le_pow_right (n := 2) (by decide) (show nk ≤ 8 from hk)
  have hp0 : 0 < 2 ^ nk := Nat.pow_pos (by decide)
  obtain ⟨n, hn, rfl⟩ := nI_of (x := x) (fun q => by have := h.1; simp only [Int32.lt_iff_toInt_lt, Int32.le_iff_toInt_le] at *; omega)
  exact ⟨n, by have := (nI_leI hn (by omega)).mp h.2; omega, rfl⟩


section ZTHW
variable {g0 : State} {d : zD} {y : MethodName} {cc : ByteArray} {nL : Nat} {ret : Option FieldType} {p : Program} {l : Launch} {e : Env} {R : Room} {s : State} {m : MethodId} {args : Array Value} {below : List Frame} {meth : Method} {c : Code} {cells slots : Nat} {G : zG} {L : List (Nat × Value)} {st : List Value} {pc : Nat}
/-- words that stay: the good ones, and castable, declares -/
def zgood : Cond → Bool
  | .castable _ _ => true
  | .declares _ => true
  | w => goodWord w
theorem zgood_ot {w : Cond} (h : zgood w = true) : (w.onTables || goodWord w) = true := by
  cases w <;> first | rfl | (rw [Bool.or_eq_true]; exact Or.inr h)
theorem zCx.wz {tb : List ExceptionTableEntry} (h : zCx g0 d y cc nL ret tb p l s m meth c) {w : Cond} (hw : w ∈ lw_tbl) (hg : zgood w = true) (args : Array Value) : w.before args s = true := by
  cases w with
  | castable a b => exact va_Nw.use rfl (h.cast hw)
  | declares x =>
    obtain ⟨⟨a0, h0, -⟩, -⟩ := id h
    exact va_Nw.use rfl (va_Nw.warmD h.warm (va_Nw.of rfl (h0 _ hw)))
  | _ => exact h.w hw hg args
/-- throw new E("text"), the text by a wide index -/
theorem z_thSW {post : Option Value → zG → Prop} {px : String → zG → Prop} {mc ms : Nat} {cls text : String} {names : List String} {ik is ic : Nat} (hcls : Bundle.fit cls = true) (hnames : ∀ n ∈ names, Bundle.fit n = true)
  (hk : Cond.classLink y.cls ik cls ∈ lw_tbl) (hini : Cond.initialized cls ∈ lw_tbl) (hstr : Cond.stringRef y.cls is text ∈ lw_tbl) (hat : ∀ w ∈ vx_atS y.cls ic cls names, w ∈ lw_tbl) (hot : ∀ w ∈ vx_atS y.cls ic cls names, zgood w = true)
  (d0 : decode cc pc = .ok (.new ik, 3)) (d3 : decode cc (pc + 3) = .ok (.dup, 1)) (d4 : decode cc (pc + 4) = .ok (.ldc_w is, 3)) (d7 : decode cc (pc + 7) = .ok (.invokespecial ic, 3)) (d10 : decode cc (pc + 10) = .ok (.athrow, 1))
  (hRframes : names.length + 3 < R.frames) (hRlocals : (st.map fun v => v.category).sum + (13 * (names.length + 1) + 43) ≤ R.locals) (hR : cells + 1 ≤ R.cells ∧ slots + 6 ≤ R.slots) (hp : px cls G) (h1 : cells + 1 ≤ mc) (h2 : slots + 6 ≤ ms) :
  Z g0 d y cc nL ret [] p l e R s m args below meth c (vx_MQ below (zQc g0 d post) (zXc g0 d px) args s mc ms (zA g0)) cells slots G L st pc := by
  intro hc H locs ls hP hS hl
  obtain ⟨⟨a0, h0, -, -, -, hU, hN, hT, -⟩, -⟩ := id hc
  obtain ⟨sa, hsa⟩ := hT _ _ _ hstr
  have hq : ∀ q : Nat, q < g0.heap.size → ¬ zA g0 q → s.heap[q]? = g0.heap[q]? := fun q h1 _ => hc.old.2 q h1
  refine vx_throwSW hc.x hc.b hc.st hc.own hcls hnames (hc.w hk rfl args) (hc.w hini rfl args) (vk_R.warm hc.warm hsa) (fun w hw => hc.wz (hat w hw) (hot w hw) args) ?_ (vx_Zq.moved hc.warm.alike (hU.kept hq)) (vx_Zq.moved hc.warm.alike (hN.kept hq)) hS (by rw [hc.ml]; exact hl.1) d0 d3 d4 d7 d10 (by rw [hc.tbl]; exact fun _ h => nomatch h) hRframes hRlocals hR.1 hR.2 hc.locks (fun t ha hz hk => ⟨⟨G, hp, hP.kept hk⟩, Nat.le_trans hS.1 hz, fun q h3 h4 => (hk q (Nat.lt_of_lt_of_le h3 hS.1)).trans (hS.2.1 q h3 h4)⟩) hS.2.2 h1 h2
  intro w hw
  unfold vx_ot
  rcases List.mem_cons.mp hw with rfl | hw
  · rfl
  · rcases List.mem_cons.mp hw with rfl | hw
    · rfl
    · exact zgood_ot (hot w hw)
/-- throw new E("text") -/
theorem z_thS {post : Option Value → zG → Prop} {px : String → zG → Prop} {mc ms : Nat} {cls text : String} {names : List String} {ik is ic : Nat} (hcls : Bundle.fit cls = true) (hnames : ∀ n ∈ names, Bundle.fit n = true)
  (hk : Cond.classLink y.cls ik cls ∈ lw_tbl) (hini : Cond.initialized cls ∈ lw_tbl) (hstr : Cond.stringRef y.cls is text ∈ lw_tbl) (hat : ∀ w ∈ vx_atS y.cls ic cls names, w ∈ lw_tbl) (hot : ∀ w ∈ vx_atS y.cls ic cls names, zgood w = true)
  (d0 : decode cc pc = .ok (.new ik, 3)) (d3 : decode cc (pc + 3) = .ok (.dup, 1)) (d4 : decode cc (pc + 4) = .ok (.ldc is, 2)) (d7 : decode cc (pc + 6) = .ok (.invokespecial ic, 3)) (d10 : decode cc (pc + 9) = .ok (.athrow, 1))
  (hRframes : names.length + 3 < R.frames) (hRlocals : (st.map fun v => v.category).sum + (13 * (names.length + 1) + 43) ≤ R.locals) (hR : cells + 1 ≤ R.cells ∧ slots + 6 ≤ R.slots) (hp : px cls G) (h1 : cells + 1 ≤ mc) (h2 : slots + 6 ≤ ms) :
  Z g0 d y cc nL ret [] p l e R s m args below meth c (vx_MQ below (zQc g0 d post) (zXc g0 d px) args s mc ms (zA g0)) cells slots G L st pc := by
  intro hc H locs ls hP hS hl
  obtain ⟨⟨a0, h0, -, -, -, hU, hN, hT, -⟩, -⟩ := id hc
  obtain ⟨sa, hsa⟩ := hT _ _ _ hstr
  have hq : ∀ q : Nat, q < g0.heap.size → ¬ zA g0 q → s.heap[q]? = g0.heap[q]? := fun q h1 _ => hc.old.2 q h1
  refine vx_throwS hc.x hc.b hc.st hc.own hcls hnames (hc.w hk rfl args) (hc.w hini rfl args) (vk_R.warm hc.warm hsa) (fun w hw => hc.wz (hat w hw) (hot w hw) args) ?_ (vx_Zq.moved hc.warm.alike (hU.kept hq)) (vx_Zq.moved hc.warm.alike (hN.kept hq)) hS (by rw [hc.ml]; exact hl.1) d0 d3 d4 d7 d10 (by rw [hc.tbl]; exact fun _ h => nomatch h) hRframes hRlocals hR.1 hR.2 hc.locks (fun t ha hz hk => ⟨⟨G, hp, hP.kept hk⟩, Nat.le_trans hS.1 hz, fun q h3 h4 => (hk q (Nat.lt_of_lt_of_le h3 hS.1)).trans (hS.2.1 q h3 h4)⟩) hS.2.2 h1 h2
  intro w hw
  unfold vx_ot
  rcases List.mem_cons.mp hw with rfl | hw
  · rfl
  · rcases List.mem_cons.mp hw with rfl | hw
    · rfl
    · exact zgood_ot (hot w hw)
end ZTHW
theorem th_65 : (∀ w ∈ vx_atS "Threeboxes" 65 "java/lang/IllegalArgumentException" ["java/lang/RuntimeException", "java/lang/Exception"], w ∈ lw_tbl) ∧ ∀ w ∈ vx_atS "Threeboxes" 65 "java/lang/IllegalArgumentException" ["java/lang/RuntimeException", "java/lang/Exception"], zgood w = true := ⟨by decide +kernel, by decide +kernel⟩
theorem th_76 : (∀ w ∈ vx_atS "Threeboxes" 76 "java/lang/IllegalStateException" ["java/lang/RuntimeException", "java/lang/Exception"], w ∈ lw_tbl) ∧ ∀ w ∈ vx_atS "Threeboxes" 76 "java/lang/IllegalStateException" ["java/lang/RuntimeException", "java/lang/Exception"], zgood w = true := ⟨by decide +kernel, by decide +kernel⟩
theorem th_165 : (∀ w ∈ vx_atS "Threeboxes" 165 "java/lang/IndexOutOfBoundsException" ["java/lang/RuntimeException", "java/lang/Exception"], w ∈ lw_tbl) ∧ ∀ w ∈ vx_atS "Threeboxes" 165 "java/lang/IndexOutOfBoundsException" ["java/lang/RuntimeException", "java/lang/Exception"], zgood w = true := ⟨by decide +kernel, by decide +kernel⟩
/-- how many of the first n -/
def zcnt (f : Nat → Bool) : Nat → Nat
  | 0 => 0
  | n + 1 => zcnt f n + (if f n then 1 else 0)
theorem zcnt_t {f : Nat → Bool} {n : Nat} (h : ¬ zb (f n) = 0) : nI (zcnt f n) + 1 = nI (zcnt f (n + 1)) := by
  rw [nI_1, zcnt, if_pos ((zb_n0 _).mp h)]
theorem zcnt_f {f : Nat → Bool} {n : Nat} (h : zb (f n) = 0) : nI (zcnt f n) = nI (zcnt f (n + 1)) := by
  rw [zcnt, if_neg (by rw [(zb_0 _).mp h]; decide)]; rfl
/-- the sum of the first n -/
def zsum (f : Nat → Int32) : Nat → Int32
  | 0 => nI 0
  | n + 1 => zsum f n + f n

theorem d_Tb_needSet_0 : decode c_Tb_needSet 0 = .ok (.iload_n 1, 1) := by decide +kernel
theorem d_Tb_needSet_1 : decode c_Tb_needSet 1 = .ok (.iconst 0, 1) := by decide +kernel
theorem d_Tb_needSet_2 : decode c_Tb_needSet 2 = .ok (.aload_n 0, 1) := by decide +kernel
theorem d_Tb_needSet_3 : decode c_Tb_needSet 3 = .ok (.invokevirtual 329, 3) := by decide +kernel
theorem d_Tb_needSet_6 : decode c_Tb_needSet 6 = .ok (.invokestatic 57, 3) := by decide +kernel
theorem d_Tb_needSet_9 : decode c_Tb_needSet 9 = .ok (.ifCond .ne 14, 3) := by decide +kernel
theorem d_Tb_needSet_12 : decode c_Tb_needSet 12 = .ok (.new 61, 3) := by decide +kernel
theorem d_Tb_needSet_15 : decode c_Tb_needSet 15 = .ok (.dup, 1) := by decide +kernel
theorem d_Tb_needSet_16 : decode c_Tb_needSet 16 = .ok (.ldc_w 334, 3) := by decide +kernel
theorem d_Tb_needSet_19 : decode c_Tb_needSet 19 = .ok (.invokespecial 65, 3) := by decide +kernel
theorem d_Tb_needSet_22 : decode c_Tb_needSet 22 = .ok (.athrow, 1) := by decide +kernel
theorem d_Tb_needSet_23 : decode c_Tb_needSet 23 = .ok (.return_, 1) := by decide +kernel
set_option maxHeartbeats 4000000 in
set_option maxRecDepth 100000 in
theorem m_Tb_needSet {g0 : State} {d : zD} {l : Launch} {a0 : Array Value} (hs0 : zS0 d a0 g0) (hst : l.stackTraces = false) {G : zG} {A : Nat → Nat} {D : Nat → UInt64} {V : Nat → Nat → Int32} {nk ns : Nat} (hT : zT d A D V nk ns G) (x : Int32) : zMet g0 d l y_Tb_needSet c_Tb_needSet 2 ((Option.none : Option Jvm.ClassFile.FieldType)) 8 1 6 [.ref (A 0), .int x] (G) (fun r G1 => zsetok nk x = true ∧ r = none ∧ G1 = G) (fun E G1 => zsetok nk x = false ∧ E = "java/lang/IllegalArgumentException" ∧ G1 = G) := by
  have hG_Tb := hT.tb
  have hnk : nk ≤ 8 := hT.2.1
  have hns : ns ≤ 6 := hT.2.2.1
  refine z_entry hs0 hst (by decide) (Nat.le_of_ble_eq_true rfl) (fun p e s m args below meth c => ?_)
  refine z_iload_n 1 d_Tb_needSet_0 rfl rfl ?_
  refine z_iconst (v := 0) d_Tb_needSet_1 (by decide) ?_
  refine z_aload_n 0 d_Tb_needSet_2 rfl rfl ?_
  refine z_callV0 (m_Tb_allKeepers hs0 hst hT) ym_Tb_allKeepers qM_Tb_329 qI_Tb_allKeepers qV_Tb_Tb_allKeepers zc_Tb hG_Tb d_Tb_needSet_3 rfl (Nat.le_of_ble_eq_true rfl) ⟨by decide, by decide⟩ ⟨Nat.le_of_ble_eq_true rfl, Nat.le_of_ble_eq_true rfl⟩ ?_
  refine z_callS0 (m_Tb_isFrom hs0 hst x 0 _) ym_Tb_isFrom qM_Tb_57 qS_Tb_isFrom d_Tb_needSet_6 rfl (Nat.le_of_ble_eq_true rfl) ⟨by decide, by decide⟩ ⟨Nat.le_of_ble_eq_true rfl, Nat.le_of_ble_eq_true rfl⟩ ?_
  refine z_if_ne 23 d_Tb_needSet_9 (by decide) (fun c_9 => ?_) (fun c_9 => ?_)
  · skip
    exact z_vret rfl (⟨(zb_n0 _).mp c_9, rfl, rfl⟩) (by decide) (by decide) d_Tb_needSet_23
  · skip
    exact z_thSW (names := ["java/lang/RuntimeException", "java/lang/Exception"]) (by decide) (by decide) qK_Tb_61 qN_IAE qR_Tb_334 th_65.1 th_65.2 d_Tb_needSet_12 d_Tb_needSet_15 d_Tb_needSet_16 d_Tb_needSet_19 d_Tb_needSet_22 (by decide) (Nat.le_of_ble_eq_true rfl) ⟨by decide, by decide⟩ (⟨(zb_0 _).mp c_9, rfl, rfl⟩) (by decide) (by decide)
theorem d_Tb_keeperAt_0 : decode c_Tb_keeperAt 0 = .ok (.iload_n 1, 1) := by decide +kernel
theorem d_Tb_keeperAt_1 : decode c_Tb_keeperAt 1 = .ok (.ifCond .lt 14, 3) := by decide +kernel
theorem d_Tb_keeperAt_4 : decode c_Tb_keeperAt 4 = .ok (.iload_n 1, 1) := by decide +kernel
theorem d_Tb_keeperAt_5 : decode c_Tb_keeperAt 5 = .ok (.aload_n 0, 1) := by decide +kernel
theorem d_Tb_keeperAt_6 : decode c_Tb_keeperAt 6 = .ok (.getfield 10, 3) := by decide +kernel
theorem d_Tb_keeperAt_9 : decode c_Tb_keeperAt 9 = .ok (.invokevirtual 68, 3) := by decide +kernel
theorem d_Tb_keeperAt_12 : decode c_Tb_keeperAt 12 = .ok (.if_icmp .lt 14, 3) := by decide +kernel
theorem d_Tb_keeperAt_15 : decode c_Tb_keeperAt 15 = .ok (.new 161, 3) := by decide +kernel
theorem d_Tb_keeperAt_18 : decode c_Tb_keeperAt 18 = .ok (.dup, 1) := by decide +kernel
theorem d_Tb_keeperAt_19 : decode c_Tb_keeperAt 19 = .ok (.ldc_w 338, 3) := by decide +kernel
theorem d_Tb_keeperAt_22 : decode c_Tb_keeperAt 22 = .ok (.invokespecial 165, 3) := by decide +kernel
theorem d_Tb_keeperAt_25 : decode c_Tb_keeperAt 25 = .ok (.athrow, 1) := by decide +kernel
theorem d_Tb_keeperAt_26 : decode c_Tb_keeperAt 26 = .ok (.aload_n 0, 1) := by decide +kernel
theorem d_Tb_keeperAt_27 : decode c_Tb_keeperAt 27 = .ok (.getfield 10, 3) := by decide +kernel
theorem d_Tb_keeperAt_30 : decode c_Tb_keeperAt 30 = .ok (.iload_n 1, 1) := by decide +kernel
theorem d_Tb_keeperAt_31 : decode c_Tb_keeperAt 31 = .ok (.invokevirtual 166, 3) := by decide +kernel
theorem d_Tb_keeperAt_34 : decode c_Tb_keeperAt 34 = .ok (.checkcast 77, 3) := by decide +kernel
theorem d_Tb_keeperAt_37 : decode c_Tb_keeperAt 37 = .ok (.areturn, 1) := by decide +kernel
set_option maxHeartbeats 4000000 in
set_option maxRecDepth 100000 in
theorem m_Tb_keeperAt {g0 : State} {d : zD} {l : Launch} {a0 : Array Value} (hs0 : zS0 d a0 g0) (hst : l.stackTraces = false) {G : zG} {A : Nat → Nat} {D : Nat → UInt64} {V : Nat → Nat → Int32} {nk ns : Nat} (hT : zT d A D V nk ns G) (x : Int32) : zMet g0 d l y_Tb_keeperAt c_Tb_keeperAt 2 ((Option.some (Jvm.ClassFile.FieldType.object "Threeboxes$Keeper"))) 11 1 6 [.ref (A 0), .int x] (G) (fun r G1 => ∃ k, k < nk ∧ x = nI k ∧ r = some (.ref (A (100 + k))) ∧ G1 = G) (fun E G1 => (x < 0 ∨ nI nk ≤ x) ∧ E = "java/lang/IndexOutOfBoundsException" ∧ G1 = G) := by
  have hG_Tb := hT.tb
  have hnk : nk ≤ 8 := hT.2.1
  have hns : ns ≤ 6 := hT.2.2.1
  refine z_entry hs0 hst (by decide) (Nat.le_of_ble_eq_true rfl) (fun p e s m args below meth c => ?_)
  refine z_iload_n 1 d_Tb_keeperAt_0 rfl rfl ?_
  refine z_if_lt 15 d_Tb_keeperAt_1 (by decide) (fun c_1 => ?_) (fun c_1 => ?_)
  · skip
    exact z_thSW (names := ["java/lang/RuntimeException", "java/lang/Exception"]) (by decide) (by decide) qK_Tb_161 qN_IOE qR_Tb_338 th_165.1 th_165.2 d_Tb_keeperAt_15 d_Tb_keeperAt_18 d_Tb_keeperAt_19 d_Tb_keeperAt_22 d_Tb_keeperAt_25 (by decide) (Nat.le_of_ble_eq_true rfl) ⟨by decide, by decide⟩ (⟨by first | exact Or.inl c_1 | exact Or.inr (Int32.not_lt.mp c_12), rfl, rfl⟩) (by decide) (by decide)
  · skip
    refine z_iload_n 1 d_Tb_keeperAt_4 rfl rfl ?_
    refine z_aload_n 0 d_Tb_keeperAt_5 rfl rfl ?_
    refine z_get zc_Tb 0 (by decide) qF_Tb_10 hG_Tb rfl d_Tb_keeperAt_6 ?_
    refine z_callV0 (m_AL_size hs0 hst hT.kl) ym_AL_size qM_Tb_68 qI_AL_size qV_AL_AL_size zc_AL hT.kl d_Tb_keeperAt_9 rfl (Nat.le_of_ble_eq_true rfl) ⟨by decide, by decide⟩ ⟨Nat.le_of_ble_eq_true rfl, Nat.le_of_ble_eq_true rfl⟩ ?_
    refine z_icmp_lt 26 d_Tb_keeperAt_12 (by decide) (fun c_12 => ?_) (fun c_12 => ?_)
    · skip
      obtain ⟨k, hk31, rfl⟩ := nI_of c_1
      have hk : k < nk := (nI_ltI hk31 (by omega)).mp c_12
      refine z_aload_n 0 d_Tb_keeperAt_26 rfl rfl ?_
      refine z_get zc_Tb 0 (by decide) qF_Tb_10 hG_Tb rfl d_Tb_keeperAt_27 ?_
      refine z_iload_n 1 d_Tb_keeperAt_30 rfl rfl ?_
      refine z_callV0 (m_AL_get hs0 hst (hT.kA hk) hk (if_pos hk)) ym_AL_get qM_Tb_166 qI_AL_get qV_AL_AL_get zc_AL (hT.kA hk).1 d_Tb_keeperAt_31 rfl (Nat.le_of_ble_eq_true rfl) ⟨by decide, by decide⟩ ⟨Nat.le_of_ble_eq_true rfl, Nat.le_of_ble_eq_true rfl⟩ ?_
      refine z_castS zc_Ke qK_Tb_77 (hT.ke hk) d_Tb_keeperAt_34 ?_
      exact z_aret rfl (Or.inl ⟨_, rfl⟩) (Or.inr ⟨_, rfl⟩) (⟨k, hk, rfl, rfl, rfl⟩) (by decide) (by decide) d_Tb_keeperAt_37
    · skip
      exact z_thSW (names := ["java/lang/RuntimeException", "java/lang/Exception"]) (by decide) (by decide) qK_Tb_161 qN_IOE qR_Tb_338 th_165.1 th_165.2 d_Tb_keeperAt_15 d_Tb_keeperAt_18 d_Tb_keeperAt_19 d_Tb_keeperAt_22 d_Tb_keeperAt_25 (by decide) (Nat.le_of_ble_eq_true rfl) ⟨by decide, by decide⟩ (⟨by first | exact Or.inl c_1 | exact Or.inr (Int32.not_lt.mp c_12), rfl, rfl⟩) (by decide) (by decide)
theorem d_Tb_secretAt_0 : decode c_Tb_secretAt 0 = .ok (.iload_n 1, 1) := by decide +kernel
theorem d_Tb_secretAt_1 : decode c_Tb_secretAt 1 = .ok (.ifCond .lt 14, 3) := by decide +kernel
theorem d_Tb_secretAt_4 : decode c_Tb_secretAt 4 = .ok (.iload_n 1, 1) := by decide +kernel
theorem d_Tb_secretAt_5 : decode c_Tb_secretAt 5 = .ok (.aload_n 0, 1) := by decide +kernel
theorem d_Tb_secretAt_6 : decode c_Tb_secretAt 6 = .ok (.getfield 16, 3) := by decide +kernel
theorem d_Tb_secretAt_9 : decode c_Tb_secretAt 9 = .ok (.invokevirtual 68, 3) := by decide +kernel
theorem d_Tb_secretAt_12 : decode c_Tb_secretAt 12 = .ok (.if_icmp .lt 14, 3) := by decide +kernel
theorem d_Tb_secretAt_15 : decode c_Tb_secretAt 15 = .ok (.new 161, 3) := by decide +kernel
theorem d_Tb_secretAt_18 : decode c_Tb_secretAt 18 = .ok (.dup, 1) := by decide +kernel
theorem d_Tb_secretAt_19 : decode c_Tb_secretAt 19 = .ok (.ldc_w 340, 3) := by decide +kernel
theorem d_Tb_secretAt_22 : decode c_Tb_secretAt 22 = .ok (.invokespecial 165, 3) := by decide +kernel
theorem d_Tb_secretAt_25 : decode c_Tb_secretAt 25 = .ok (.athrow, 1) := by decide +kernel
theorem d_Tb_secretAt_26 : decode c_Tb_secretAt 26 = .ok (.aload_n 0, 1) := by decide +kernel
theorem d_Tb_secretAt_27 : decode c_Tb_secretAt 27 = .ok (.getfield 16, 3) := by decide +kernel
theorem d_Tb_secretAt_30 : decode c_Tb_secretAt 30 = .ok (.iload_n 1, 1) := by decide +kernel
theorem d_Tb_secretAt_31 : decode c_Tb_secretAt 31 = .ok (.invokevirtual 166, 3) := by decide +kernel
theorem d_Tb_secretAt_34 : decode c_Tb_secretAt 34 = .ok (.checkcast 115, 3) := by decide +kernel
theorem d_Tb_secretAt_37 : decode c_Tb_secretAt 37 = .ok (.areturn, 1) := by decide +kernel
set_option maxHeartbeats 4000000 in
set_option maxRecDepth 100000 in
theorem m_Tb_secretAt {g0 : State} {d : zD} {l : Launch} {a0 : Array Value} (hs0 : zS0 d a0 g0) (hst : l.stackTraces = false) {G : zG} {A : Nat → Nat} {D : Nat → UInt64} {V : Nat → Nat → Int32} {nk ns : Nat} (hT : zT d A D V nk ns G) (x : Int32) : zMet g0 d l y_Tb_secretAt c_Tb_secretAt 2 ((Option.some (Jvm.ClassFile.FieldType.object "Threeboxes$Secret"))) 11 1 6 [.ref (A 0), .int x] (G) (fun r G1 => ∃ k, k < ns ∧ x = nI k ∧ r = some (.ref (A (200 + k))) ∧ G1 = G) (fun E G1 => (x < 0 ∨ nI ns ≤ x) ∧ E = "java/lang/IndexOutOfBoundsException" ∧ G1 = G) := by
  have hG_Tb := hT.tb
  have hnk : nk ≤ 8 := hT.2.1
  have hns : ns ≤ 6 := hT.2.2.1
  refine z_entry hs0 hst (by decide) (Nat.le_of_ble_eq_true rfl) (fun p e s m args below meth c => ?_)
  refine z_iload_n 1 d_Tb_secretAt_0 rfl rfl ?_
  refine z_if_lt 15 d_Tb_secretAt_1 (by decide) (fun c_1 => ?_) (fun c_1 => ?_)
  · skip
    exact z_thSW (names := ["java/lang/RuntimeException", "java/lang/Exception"]) (by decide) (by decide) qK_Tb_161 qN_IOE qR_Tb_340 th_165.1 th_165.2 d_Tb_secretAt_15 d_Tb_secretAt_18 d_Tb_secretAt_19 d_Tb_secretAt_22 d_Tb_secretAt_25 (by decide) (Nat.le_of_ble_eq_true rfl) ⟨by decide, by decide⟩ (⟨by first | exact Or.inl c_1 | exact Or.inr (Int32.not_lt.mp c_12), rfl, rfl⟩) (by decide) (by decide)
  · skip
    refine z_iload_n 1 d_Tb_secretAt_4 rfl rfl ?_
    refine z_aload_n 0 d_Tb_secretAt_5 rfl rfl ?_
    refine z_get zc_Tb 1 (by decide) qF_Tb_16 hG_Tb rfl d_Tb_secretAt_6 ?_
    refine z_callV0 (m_AL_size hs0 hst hT.sl) ym_AL_size qM_Tb_68 qI_AL_size qV_AL_AL_size zc_AL hT.sl d_Tb_secretAt_9 rfl (Nat.le_of_ble_eq_true rfl) ⟨by decide, by decide⟩ ⟨Nat.le_of_ble_eq_true rfl, Nat.le_of_ble_eq_true rfl⟩ ?_
    refine z_icmp_lt 26 d_Tb_secretAt_12 (by decide) (fun c_12 => ?_) (fun c_12 => ?_)
    · skip
      obtain ⟨k, hk31, rfl⟩ := nI_of c_1
      have hk : k < ns := (nI_ltI hk31 (by omega)).mp c_12
      refine z_aload_n 0 d_Tb_secretAt_26 rfl rfl ?_
      refine z_get zc_Tb 1 (by decide) qF_Tb_16 hG_Tb rfl d_Tb_secretAt_27 ?_
      refine z_iload_n 1 d_Tb_secretAt_30 rfl rfl ?_
      refine z_callV0 (m_AL_get hs0 hst (hT.sA hk) hk (if_pos hk)) ym_AL_get qM_Tb_166 qI_AL_get qV_AL_AL_get zc_AL (hT.sA hk).1 d_Tb_secretAt_31 rfl (Nat.le_of_ble_eq_true rfl) ⟨by decide, by decide⟩ ⟨Nat.le_of_ble_eq_true rfl, Nat.le_of_ble_eq_true rfl⟩ ?_
      refine z_castS zc_Se qK_Tb_115 (hT.se hk).1 d_Tb_secretAt_34 ?_
      exact z_aret rfl (Or.inl ⟨_, rfl⟩) (Or.inr ⟨_, rfl⟩) (⟨k, hk, rfl, rfl, rfl⟩) (by decide) (by decide) d_Tb_secretAt_37
    · skip
      exact z_thSW (names := ["java/lang/RuntimeException", "java/lang/Exception"]) (by decide) (by decide) qK_Tb_161 qN_IOE qR_Tb_340 th_165.1 th_165.2 d_Tb_secretAt_15 d_Tb_secretAt_18 d_Tb_secretAt_19 d_Tb_secretAt_22 d_Tb_secretAt_25 (by decide) (Nat.le_of_ble_eq_true rfl) ⟨by decide, by decide⟩ (⟨by first | exact Or.inl c_1 | exact Or.inr (Int32.not_lt.mp c_12), rfl, rfl⟩) (by decide) (by decide)
theorem d_Re_size_0 : decode c_Re_size 0 = .ok (.aload_n 0, 1) := by decide +kernel
theorem d_Re_size_1 : decode c_Re_size 1 = .ok (.getfield 24, 3) := by decide +kernel
theorem d_Re_size_4 : decode c_Re_size 4 = .ok (.ireturn, 1) := by decide +kernel
set_option maxHeartbeats 4000000 in
set_option maxRecDepth 100000 in
theorem m_Re_size {g0 : State} {d : zD} {l : Launch} {a0 : Array Value} (hs0 : zS0 d a0 g0) (hst : l.stackTraces = false) {G : zG} {h : Nat} {w1 w2 w3 w4 : Value} {x : Int32} (hG_Re : G h = some (zob 6 [w1, w2, w3, w4, .int x])) : zMet g0 d l y_Re_size c_Re_size 1 ((Option.some Jvm.ClassFile.FieldType.int)) 1 0 0 [.ref h] (G) (zEq (some (.int x)) G) (zNo) := by
  refine z_entry hs0 hst (by decide) (Nat.le_of_ble_eq_true rfl) (fun p e s m args below meth c => ?_)
  refine z_aload_n 0 d_Re_size_0 rfl rfl ?_
  refine z_get zc_Re 4 (by decide) qF_Re_24 hG_Re rfl d_Re_size_1 ?_
  exact z_iret rfl (⟨rfl, rfl⟩) (by decide) (by decide) d_Re_size_4
theorem d_Tb_needEntry_0 : decode c_Tb_needEntry 0 = .ok (.iload_n 1, 1) := by decide +kernel
theorem d_Tb_needEntry_1 : decode c_Tb_needEntry 1 = .ok (.iconst 0, 1) := by decide +kernel
theorem d_Tb_needEntry_2 : decode c_Tb_needEntry 2 = .ok (.aload_n 0, 1) := by decide +kernel
theorem d_Tb_needEntry_3 : decode c_Tb_needEntry 3 = .ok (.getfield 22, 3) := by decide +kernel
theorem d_Tb_needEntry_6 : decode c_Tb_needEntry 6 = .ok (.invokevirtual 322, 3) := by decide +kernel
theorem d_Tb_needEntry_9 : decode c_Tb_needEntry 9 = .ok (.iconst 1, 1) := by decide +kernel
theorem d_Tb_needEntry_10 : decode c_Tb_needEntry 10 = .ok (.isub, 1) := by decide +kernel
theorem d_Tb_needEntry_11 : decode c_Tb_needEntry 11 = .ok (.invokestatic 57, 3) := by decide +kernel
theorem d_Tb_needEntry_14 : decode c_Tb_needEntry 14 = .ok (.ifCond .ne 14, 3) := by decide +kernel
theorem d_Tb_needEntry_17 : decode c_Tb_needEntry 17 = .ok (.new 161, 3) := by decide +kernel
theorem d_Tb_needEntry_20 : decode c_Tb_needEntry 20 = .ok (.dup, 1) := by decide +kernel
theorem d_Tb_needEntry_21 : decode c_Tb_needEntry 21 = .ok (.ldc_w 336, 3) := by decide +kernel
theorem d_Tb_needEntry_24 : decode c_Tb_needEntry 24 = .ok (.invokespecial 165, 3) := by decide +kernel
theorem d_Tb_needEntry_27 : decode c_Tb_needEntry 27 = .ok (.athrow, 1) := by decide +kernel
theorem d_Tb_needEntry_28 : decode c_Tb_needEntry 28 = .ok (.return_, 1) := by decide +kernel
set_option maxHeartbeats 4000000 in
set_option maxRecDepth 100000 in
theorem m_Tb_needEntry {g0 : State} {d : zD} {l : Launch} {a0 : Array Value} (hs0 : zS0 d a0 g0) (hst : l.stackTraces = false) {G : zG} {A : Nat → Nat} {D : Nat → UInt64} {V : Nat → Nat → Int32} {nk ns : Nat} (hT : zT d A D V nk ns G) (x : Int32) : zMet g0 d l y_Tb_needEntry c_Tb_needEntry 2 ((Option.none : Option Jvm.ClassFile.FieldType)) 8 1 6 [.ref (A 0), .int x] (G) (fun r G1 => zin x 0 (V 5 0 - 1) = true ∧ r = none ∧ G1 = G) (fun E G1 => zin x 0 (V 5 0 - 1) = false ∧ E = "java/lang/IndexOutOfBoundsException" ∧ G1 = G) := by
  have hG_Tb := hT.tb
  have hnk : nk ≤ 8 := hT.2.1
  have hns : ns ≤ 6 := hT.2.2.1
  refine z_entry hs0 hst (by decide) (Nat.le_of_ble_eq_true rfl) (fun p e s m args below meth c => ?_)
  refine z_iload_n 1 d_Tb_needEntry_0 rfl rfl ?_
  refine z_iconst (v := 0) d_Tb_needEntry_1 (by decide) ?_
  refine z_aload_n 0 d_Tb_needEntry_2 rfl rfl ?_
  refine z_get zc_Tb 2 (by decide) qF_Tb_22 hG_Tb rfl d_Tb_needEntry_3 ?_
  refine z_callV0 (m_Re_size hs0 hst hT.re) ym_Re_size qM_Tb_322 qI_Re_size qV_Re_Re_size zc_Re hT.re d_Tb_needEntry_6 rfl (Nat.le_of_ble_eq_true rfl) ⟨by decide, by decide⟩ ⟨Nat.le_of_ble_eq_true rfl, Nat.le_of_ble_eq_true rfl⟩ ?_
  refine z_iconst (v := 1) d_Tb_needEntry_9 (by decide) ?_
  refine z_isub d_Tb_needEntry_10 ?_
  refine z_callS0 (m_Tb_isFrom hs0 hst x 0 _) ym_Tb_isFrom qM_Tb_57 qS_Tb_isFrom d_Tb_needEntry_11 rfl (Nat.le_of_ble_eq_true rfl) ⟨by decide, by decide⟩ ⟨Nat.le_of_ble_eq_true rfl, Nat.le_of_ble_eq_true rfl⟩ ?_
  refine z_if_ne 28 d_Tb_needEntry_14 (by decide) (fun c_14 => ?_) (fun c_14 => ?_)
  · skip
    exact z_vret rfl (⟨(zb_n0 _).mp c_14, rfl, rfl⟩) (by decide) (by decide) d_Tb_needEntry_28
  · skip
    exact z_thSW (names := ["java/lang/RuntimeException", "java/lang/Exception"]) (by decide) (by decide) qK_Tb_161 qN_IOE qR_Tb_336 th_165.1 th_165.2 d_Tb_needEntry_17 d_Tb_needEntry_20 d_Tb_needEntry_21 d_Tb_needEntry_24 d_Tb_needEntry_27 (by decide) (Nat.le_of_ble_eq_true rfl) ⟨by decide, by decide⟩ (⟨(zb_0 _).mp c_14, rfl, rfl⟩) (by decide) (by decide)
theorem d_Tb_sharesOf_0 : decode c_Tb_sharesOf 0 = .ok (.iconst 0, 1) := by decide +kernel
theorem d_Tb_sharesOf_1 : decode c_Tb_sharesOf 1 = .ok (.istore_n 2, 1) := by decide +kernel
theorem d_Tb_sharesOf_2 : decode c_Tb_sharesOf 2 = .ok (.iconst 0, 1) := by decide +kernel
theorem d_Tb_sharesOf_3 : decode c_Tb_sharesOf 3 = .ok (.istore_n 3, 1) := by decide +kernel
theorem d_Tb_sharesOf_4 : decode c_Tb_sharesOf 4 = .ok (.iload_n 3, 1) := by decide +kernel
theorem d_Tb_sharesOf_5 : decode c_Tb_sharesOf 5 = .ok (.aload_n 0, 1) := by decide +kernel
theorem d_Tb_sharesOf_6 : decode c_Tb_sharesOf 6 = .ok (.getfield 16, 3) := by decide +kernel
theorem d_Tb_sharesOf_9 : decode c_Tb_sharesOf 9 = .ok (.invokevirtual 68, 3) := by decide +kernel
theorem d_Tb_sharesOf_12 : decode c_Tb_sharesOf 12 = .ok (.if_icmp .ge 30, 3) := by decide +kernel
theorem d_Tb_sharesOf_15 : decode c_Tb_sharesOf 15 = .ok (.aload_n 0, 1) := by decide +kernel
theorem d_Tb_sharesOf_16 : decode c_Tb_sharesOf 16 = .ok (.getfield 16, 3) := by decide +kernel
theorem d_Tb_sharesOf_19 : decode c_Tb_sharesOf 19 = .ok (.iload_n 3, 1) := by decide +kernel
theorem d_Tb_sharesOf_20 : decode c_Tb_sharesOf 20 = .ok (.invokevirtual 166, 3) := by decide +kernel
theorem d_Tb_sharesOf_23 : decode c_Tb_sharesOf 23 = .ok (.checkcast 115, 3) := by decide +kernel
theorem d_Tb_sharesOf_26 : decode c_Tb_sharesOf 26 = .ok (.iload_n 1, 1) := by decide +kernel
theorem d_Tb_sharesOf_27 : decode c_Tb_sharesOf 27 = .ok (.invokevirtual 270, 3) := by decide +kernel
theorem d_Tb_sharesOf_30 : decode c_Tb_sharesOf 30 = .ok (.ifCond .eq 6, 3) := by decide +kernel
theorem d_Tb_sharesOf_33 : decode c_Tb_sharesOf 33 = .ok (.iinc 2 1, 3) := by decide +kernel
theorem d_Tb_sharesOf_36 : decode c_Tb_sharesOf 36 = .ok (.iinc 3 1, 3) := by decide +kernel
theorem d_Tb_sharesOf_39 : decode c_Tb_sharesOf 39 = .ok (.goto (-35), 3) := by decide +kernel
theorem d_Tb_sharesOf_42 : decode c_Tb_sharesOf 42 = .ok (.iload_n 2, 1) := by decide +kernel
theorem d_Tb_sharesOf_43 : decode c_Tb_sharesOf 43 = .ok (.ireturn, 1) := by decide +kernel
set_option maxHeartbeats 4000000 in
set_option maxRecDepth 100000 in
theorem m_Tb_sharesOf {g0 : State} {d : zD} {l : Launch} {a0 : Array Value} (hs0 : zS0 d a0 g0) (hst : l.stackTraces = false) {G : zG} {A : Nat → Nat} {D : Nat → UInt64} {V : Nat → Nat → Int32} {nk ns : Nat} (hT : zT d A D V nk ns G) {j : Nat} (hj : j < 8) : zMet g0 d l y_Tb_sharesOf c_Tb_sharesOf 4 ((Option.some Jvm.ClassFile.FieldType.int)) 11 0 0 [.ref (A 0), .int (nI j)] (G) (zEq (some (.int (nI (zcnt (fun i => decide (V (400 + i) j ≠ -1)) ns)))) G) (zNo) := by
  have hG_Tb := hT.tb
  have hnk : nk ≤ 8 := hT.2.1
  have hns : ns ≤ 6 := hT.2.2.1
  refine z_entry hs0 hst (by decide) (Nat.le_of_ble_eq_true rfl) (fun p e s m args below meth c => ?_)
  refine z_iconst (v := (nI 0)) d_Tb_sharesOf_0 (by decide) ?_
  refine z_istore_n (L' := [(2, _), (0, _), (1, _)]) d_Tb_sharesOf_1 rfl (by decide) rfl ?_
  refine z_iconst (v := (nI 0)) d_Tb_sharesOf_2 (by decide) ?_
  refine z_istore_n (L' := [(3, _), (2, _), (0, _), (1, _)]) d_Tb_sharesOf_3 rfl (by decide) rfl ?_
  have key_4 : ∀ (n : Nat) (i : Nat), ns - i < n → (i ≤ ns) → Z g0 d y_Tb_sharesOf c_Tb_sharesOf 4 ((Option.some Jvm.ClassFile.FieldType.int)) [] p l e (zR 11 0 0) s m args below meth c (vx_MQ below (zQc g0 d (zEq (some (.int (nI (zcnt (fun i => decide (V (400 + i) j ≠ -1)) ns)))) G)) (zXc g0 d (zNo)) args s 0 0 (zA g0)) 0 0 (G) [(3, .int (nI i)), (2, .int (nI (zcnt (fun i => decide (V (400 + i) j ≠ -1)) i))), (0, .ref (A 0)), (1, .int (nI j))] [] 4 := by
    intro n
    induction n with
    | zero => intro i h0; exact absurd h0 (Nat.not_lt_zero _)
    | succ n ih_4 =>
      intro i hm_4 hi
      refine z_iload_n 0 d_Tb_sharesOf_4 rfl rfl ?_
      refine z_aload_n 2 d_Tb_sharesOf_5 rfl rfl ?_
      refine z_get zc_Tb 1 (by decide) qF_Tb_16 hG_Tb rfl d_Tb_sharesOf_6 ?_
      refine z_callV0 (m_AL_size hs0 hst hT.sl) ym_AL_size qM_Tb_68 qI_AL_size qV_AL_AL_size zc_AL hT.sl d_Tb_sharesOf_9 rfl (Nat.le_of_ble_eq_true rfl) ⟨Nat.zero_le _, Nat.zero_le _⟩ ⟨Nat.le_of_ble_eq_true rfl, Nat.le_of_ble_eq_true rfl⟩ ?_
      refine z_icmp_ge 42 d_Tb_sharesOf_12 (by decide) (fun c_12 => ?_) (fun c_12 => ?_)
      · skip
        obtain rfl : i = ns := by
          have := (nI_leI (by omega) (by omega)).mp c_12
          omega
        refine z_iload_n 1 d_Tb_sharesOf_42 rfl rfl ?_
        exact z_iret rfl (⟨rfl, rfl⟩) (by decide) (by decide) d_Tb_sharesOf_43
      · skip
        have hi6 : i < ns := Nat.lt_of_not_le fun q => c_12 (nI_le q (by omega))
        refine z_aload_n 2 d_Tb_sharesOf_15 rfl rfl ?_
        refine z_get zc_Tb 1 (by decide) qF_Tb_16 hG_Tb rfl d_Tb_sharesOf_16 ?_
        refine z_iload_n 0 d_Tb_sharesOf_19 rfl rfl ?_
        refine z_callV0 (m_AL_get hs0 hst (hT.sA hi6) hi6 (if_pos hi6)) ym_AL_get qM_Tb_166 qI_AL_get qV_AL_AL_get zc_AL (hT.sA hi6).1 d_Tb_sharesOf_20 rfl (Nat.le_of_ble_eq_true rfl) ⟨Nat.zero_le _, Nat.zero_le _⟩ ⟨Nat.le_of_ble_eq_true rfl, Nat.le_of_ble_eq_true rfl⟩ ?_
        refine z_castS zc_Se qK_Tb_115 (hT.se hi6).1 d_Tb_sharesOf_23 ?_
        refine z_iload_n 3 d_Tb_sharesOf_26 rfl rfl ?_
        refine z_callV0 (m_Se_has hs0 hst (hT.se hi6) hj) ym_Se_has qM_Tb_270 qI_Se_has qV_Se_Se_has zc_Se (hT.se hi6).1 d_Tb_sharesOf_27 rfl (Nat.le_of_ble_eq_true rfl) ⟨Nat.zero_le _, Nat.zero_le _⟩ ⟨Nat.le_of_ble_eq_true rfl, Nat.le_of_ble_eq_true rfl⟩ ?_
        refine z_if_eq 36 d_Tb_sharesOf_30 (by decide) (fun c_30 => ?_) (fun c_30 => ?_)
        · skip
          rw [zcnt_f (f := fun i => decide (V (400 + i) j ≠ -1)) c_30]
          refine z_iinc (v := nI (i + 1)) (L' := [(3, _), (2, _), (0, _), (1, _)]) 0 d_Tb_sharesOf_36 rfl (nI_1 i) (by decide) rfl ?_
          refine z_goto 4 d_Tb_sharesOf_39 (by decide) ?_
          exact ih_4 (i + 1) (by omega) (by omega)
        · skip
          refine z_iinc (v := _) (L' := [(2, _), (3, _), (0, _), (1, _)]) 1 d_Tb_sharesOf_33 rfl (zcnt_t (f := fun i => decide (V (400 + i) j ≠ -1)) c_30) (by decide) rfl ?_
          refine z_iinc (v := nI (i + 1)) (L' := [(3, _), (2, _), (0, _), (1, _)]) 1 d_Tb_sharesOf_36 rfl (nI_1 i) (by decide) rfl ?_
          refine z_goto 4 d_Tb_sharesOf_39 (by decide) ?_
          exact ih_4 (i + 1) (by omega) (by omega)
  exact key_4 (ns + 1) 0 (by omega) (by omega)
theorem d_Tb_staleSharesOf_0 : decode c_Tb_staleSharesOf 0 = .ok (.iconst 0, 1) := by decide +kernel
theorem d_Tb_staleSharesOf_1 : decode c_Tb_staleSharesOf 1 = .ok (.istore_n 2, 1) := by decide +kernel
theorem d_Tb_staleSharesOf_2 : decode c_Tb_staleSharesOf 2 = .ok (.iconst 0, 1) := by decide +kernel
theorem d_Tb_staleSharesOf_3 : decode c_Tb_staleSharesOf 3 = .ok (.istore_n 3, 1) := by decide +kernel
theorem d_Tb_staleSharesOf_4 : decode c_Tb_staleSharesOf 4 = .ok (.iload_n 3, 1) := by decide +kernel
theorem d_Tb_staleSharesOf_5 : decode c_Tb_staleSharesOf 5 = .ok (.aload_n 0, 1) := by decide +kernel
theorem d_Tb_staleSharesOf_6 : decode c_Tb_staleSharesOf 6 = .ok (.getfield 16, 3) := by decide +kernel
theorem d_Tb_staleSharesOf_9 : decode c_Tb_staleSharesOf 9 = .ok (.invokevirtual 68, 3) := by decide +kernel
theorem d_Tb_staleSharesOf_12 : decode c_Tb_staleSharesOf 12 = .ok (.if_icmp .ge 30, 3) := by decide +kernel
theorem d_Tb_staleSharesOf_15 : decode c_Tb_staleSharesOf 15 = .ok (.aload_n 0, 1) := by decide +kernel
theorem d_Tb_staleSharesOf_16 : decode c_Tb_staleSharesOf 16 = .ok (.getfield 16, 3) := by decide +kernel
theorem d_Tb_staleSharesOf_19 : decode c_Tb_staleSharesOf 19 = .ok (.iload_n 3, 1) := by decide +kernel
theorem d_Tb_staleSharesOf_20 : decode c_Tb_staleSharesOf 20 = .ok (.invokevirtual 166, 3) := by decide +kernel
theorem d_Tb_staleSharesOf_23 : decode c_Tb_staleSharesOf 23 = .ok (.checkcast 115, 3) := by decide +kernel
theorem d_Tb_staleSharesOf_26 : decode c_Tb_staleSharesOf 26 = .ok (.iload_n 1, 1) := by decide +kernel
theorem d_Tb_staleSharesOf_27 : decode c_Tb_staleSharesOf 27 = .ok (.invokevirtual 342, 3) := by decide +kernel
theorem d_Tb_staleSharesOf_30 : decode c_Tb_staleSharesOf 30 = .ok (.ifCond .eq 6, 3) := by decide +kernel
theorem d_Tb_staleSharesOf_33 : decode c_Tb_staleSharesOf 33 = .ok (.iinc 2 1, 3) := by decide +kernel
theorem d_Tb_staleSharesOf_36 : decode c_Tb_staleSharesOf 36 = .ok (.iinc 3 1, 3) := by decide +kernel
theorem d_Tb_staleSharesOf_39 : decode c_Tb_staleSharesOf 39 = .ok (.goto (-35), 3) := by decide +kernel
theorem d_Tb_staleSharesOf_42 : decode c_Tb_staleSharesOf 42 = .ok (.iload_n 2, 1) := by decide +kernel
theorem d_Tb_staleSharesOf_43 : decode c_Tb_staleSharesOf 43 = .ok (.ireturn, 1) := by decide +kernel
set_option maxHeartbeats 4000000 in
set_option maxRecDepth 100000 in
theorem m_Tb_staleSharesOf {g0 : State} {d : zD} {l : Launch} {a0 : Array Value} (hs0 : zS0 d a0 g0) (hst : l.stackTraces = false) {G : zG} {A : Nat → Nat} {D : Nat → UInt64} {V : Nat → Nat → Int32} {nk ns : Nat} (hT : zT d A D V nk ns G) {j : Nat} (hj : j < 8) : zMet g0 d l y_Tb_staleSharesOf c_Tb_staleSharesOf 4 ((Option.some Jvm.ClassFile.FieldType.int)) 11 0 0 [.ref (A 0), .int (nI j)] (G) (zEq (some (.int (nI (zcnt (fun i => zstl (V (400 + i)) (V (200 + i) 3) j) ns)))) G) (zNo) := by
  have hG_Tb := hT.tb
  have hnk : nk ≤ 8 := hT.2.1
  have hns : ns ≤ 6 := hT.2.2.1
  refine z_entry hs0 hst (by decide) (Nat.le_of_ble_eq_true rfl) (fun p e s m args below meth c => ?_)
  refine z_iconst (v := (nI 0)) d_Tb_staleSharesOf_0 (by decide) ?_
  refine z_istore_n (L' := [(2, _), (0, _), (1, _)]) d_Tb_staleSharesOf_1 rfl (by decide) rfl ?_
  refine z_iconst (v := (nI 0)) d_Tb_staleSharesOf_2 (by decide) ?_
  refine z_istore_n (L' := [(3, _), (2, _), (0, _), (1, _)]) d_Tb_staleSharesOf_3 rfl (by decide) rfl ?_
  have key_4 : ∀ (n : Nat) (i : Nat), ns - i < n → (i ≤ ns) → Z g0 d y_Tb_staleSharesOf c_Tb_staleSharesOf 4 ((Option.some Jvm.ClassFile.FieldType.int)) [] p l e (zR 11 0 0) s m args below meth c (vx_MQ below (zQc g0 d (zEq (some (.int (nI (zcnt (fun i => zstl (V (400 + i)) (V (200 + i) 3) j) ns)))) G)) (zXc g0 d (zNo)) args s 0 0 (zA g0)) 0 0 (G) [(3, .int (nI i)), (2, .int (nI (zcnt (fun i => zstl (V (400 + i)) (V (200 + i) 3) j) i))), (0, .ref (A 0)), (1, .int (nI j))] [] 4 := by
    intro n
    induction n with
    | zero => intro i h0; exact absurd h0 (Nat.not_lt_zero _)
    | succ n ih_4 =>
      intro i hm_4 hi
      refine z_iload_n 0 d_Tb_staleSharesOf_4 rfl rfl ?_
      refine z_aload_n 2 d_Tb_staleSharesOf_5 rfl rfl ?_
      refine z_get zc_Tb 1 (by decide) qF_Tb_16 hG_Tb rfl d_Tb_staleSharesOf_6 ?_
      refine z_callV0 (m_AL_size hs0 hst hT.sl) ym_AL_size qM_Tb_68 qI_AL_size qV_AL_AL_size zc_AL hT.sl d_Tb_staleSharesOf_9 rfl (Nat.le_of_ble_eq_true rfl) ⟨Nat.zero_le _, Nat.zero_le _⟩ ⟨Nat.le_of_ble_eq_true rfl, Nat.le_of_ble_eq_true rfl⟩ ?_
      refine z_icmp_ge 42 d_Tb_staleSharesOf_12 (by decide) (fun c_12 => ?_) (fun c_12 => ?_)
      · skip
        obtain rfl : i = ns := by
          have := (nI_leI (by omega) (by omega)).mp c_12
          omega
        refine z_iload_n 1 d_Tb_staleSharesOf_42 rfl rfl ?_
        exact z_iret rfl (⟨rfl, rfl⟩) (by decide) (by decide) d_Tb_staleSharesOf_43
      · skip
        have hi6 : i < ns := Nat.lt_of_not_le fun q => c_12 (nI_le q (by omega))
        refine z_aload_n 2 d_Tb_staleSharesOf_15 rfl rfl ?_
        refine z_get zc_Tb 1 (by decide) qF_Tb_16 hG_Tb rfl d_Tb_staleSharesOf_16 ?_
        refine z_iload_n 0 d_Tb_staleSharesOf_19 rfl rfl ?_
        refine z_callV0 (m_AL_get hs0 hst (hT.sA hi6) hi6 (if_pos hi6)) ym_AL_get qM_Tb_166 qI_AL_get qV_AL_AL_get zc_AL (hT.sA hi6).1 d_Tb_staleSharesOf_20 rfl (Nat.le_of_ble_eq_true rfl) ⟨Nat.zero_le _, Nat.zero_le _⟩ ⟨Nat.le_of_ble_eq_true rfl, Nat.le_of_ble_eq_true rfl⟩ ?_
        refine z_castS zc_Se qK_Tb_115 (hT.se hi6).1 d_Tb_staleSharesOf_23 ?_
        refine z_iload_n 3 d_Tb_staleSharesOf_26 rfl rfl ?_
        refine z_callV0 (m_Se_isStale hs0 hst (hT.se hi6) hj) ym_Se_isStale qM_Tb_342 qI_Se_isStale qV_Se_Se_isStale zc_Se (hT.se hi6).1 d_Tb_staleSharesOf_27 rfl (Nat.le_of_ble_eq_true rfl) ⟨Nat.zero_le _, Nat.zero_le _⟩ ⟨Nat.le_of_ble_eq_true rfl, Nat.le_of_ble_eq_true rfl⟩ ?_
        refine z_if_eq 36 d_Tb_staleSharesOf_30 (by decide) (fun c_30 => ?_) (fun c_30 => ?_)
        · skip
          rw [zcnt_f (f := fun i => zstl (V (400 + i)) (V (200 + i) 3) j) c_30]
          refine z_iinc (v := nI (i + 1)) (L' := [(3, _), (2, _), (0, _), (1, _)]) 0 d_Tb_staleSharesOf_36 rfl (nI_1 i) (by decide) rfl ?_
          refine z_goto 4 d_Tb_staleSharesOf_39 (by decide) ?_
          exact ih_4 (i + 1) (by omega) (by omega)
        · skip
          refine z_iinc (v := _) (L' := [(2, _), (3, _), (0, _), (1, _)]) 1 d_Tb_staleSharesOf_33 rfl (zcnt_t (f := fun i => zstl (V (400 + i)) (V (200 + i) 3) j) c_30) (by decide) rfl ?_
          refine z_iinc (v := nI (i + 1)) (L' := [(3, _), (2, _), (0, _), (1, _)]) 1 d_Tb_staleSharesOf_36 rfl (nI_1 i) (by decide) rfl ?_
          refine z_goto 4 d_Tb_staleSharesOf_39 (by decide) ?_
          exact ih_4 (i + 1) (by omega) (by omega)
  exact key_4 (ns + 1) 0 (by omega) (by omega)
end
