set_option maxRecDepth 20000 in
theorem qV_Re_Re_joinAt : (Cond.selects "Threeboxes$Register" ⟨"Threeboxes$Register", "joinAt", "(I)V"⟩ ⟨"Threeboxes$Register", "joinAt", "(I)V"⟩) ∈ lw_tbl := List.mem_of_getElem? (i := 0) (by decide +kernel)
set_option maxRecDepth 20000 in
theorem qV_Re_Re_nodeAt : (Cond.selects "Threeboxes$Register" ⟨"Threeboxes$Register", "nodeAt", "(I)I"⟩ ⟨"Threeboxes$Register", "nodeAt", "(I)I"⟩) ∈ lw_tbl := List.mem_of_getElem? (i := 1) (by decide +kernel)
set_option maxRecDepth 20000 in
theorem qV_Re_Re_putAt : (Cond.selects "Threeboxes$Register" ⟨"Threeboxes$Register", "putAt", "(II)V"⟩ ⟨"Threeboxes$Register", "putAt", "(II)V"⟩) ∈ lw_tbl := List.mem_of_getElem? (i := 2) (by decide +kernel)
set_option maxRecDepth 20000 in
theorem qV_Tb_Tb_isSecretSound : (Cond.selects "Threeboxes" ⟨"Threeboxes", "isSecretSound", "(LThreeboxes$Secret;)Z"⟩ ⟨"Threeboxes", "isSecretSound", "(LThreeboxes$Secret;)Z"⟩) ∈ lw_tbl := List.mem_of_getElem? (i := 3) (by decide +kernel)
set_option maxRecDepth 20000 in
theorem qV_Gr_Gr_agreeingWith : (Cond.selects "Threeboxes$Group" ⟨"Threeboxes$Group", "agreeingWith", "(I)I"⟩ ⟨"Threeboxes$Group", "agreeingWith", "(I)I"⟩) ∈ lw_tbl := List.mem_of_getElem? (i := 4) (by decide +kernel)
set_option maxRecDepth 20000 in
theorem qV_Gr_Gr_through : (Cond.selects "Threeboxes$Group" ⟨"Threeboxes$Group", "through", "(II)I"⟩ ⟨"Threeboxes$Group", "through", "(II)I"⟩) ∈ lw_tbl := List.mem_of_getElem? (i := 5) (by decide +kernel)
set_option maxRecDepth 20000 in
theorem qV_Tb_Tb_tellOfBank : (Cond.selects "Threeboxes" ⟨"Threeboxes", "tellOfBank", "(I)I"⟩ ⟨"Threeboxes", "tellOfBank", "(I)I"⟩) ∈ lw_tbl := List.mem_of_getElem? (i := 6) (by decide +kernel)
set_option maxRecDepth 20000 in
theorem qV_Tb_Tb_notedKeepers : (Cond.selects "Threeboxes" ⟨"Threeboxes", "notedKeepers", "()I"⟩ ⟨"Threeboxes", "notedKeepers", "()I"⟩) ∈ lw_tbl := List.mem_of_getElem? (i := 7) (by decide +kernel)
set_option maxRecDepth 20000 in
theorem qV_Tb_Tb_currentShares : (Cond.selects "Threeboxes" ⟨"Threeboxes", "currentShares", "()I"⟩ ⟨"Threeboxes", "currentShares", "()I"⟩) ∈ lw_tbl := List.mem_of_getElem? (i := 8) (by decide +kernel)
set_option maxRecDepth 20000 in
theorem qV_Tb_Tb_staleShares : (Cond.selects "Threeboxes" ⟨"Threeboxes", "staleShares", "()I"⟩ ⟨"Threeboxes", "staleShares", "()I"⟩) ∈ lw_tbl := List.mem_of_getElem? (i := 9) (by decide +kernel)
set_option maxRecDepth 20000 in
theorem qV_Tb_Tb_tellOfKeeper : (Cond.selects "Threeboxes" ⟨"Threeboxes", "tellOfKeeper", "(LThreeboxes$Keeper;I)I"⟩ ⟨"Threeboxes", "tellOfKeeper", "(LThreeboxes$Keeper;I)I"⟩) ∈ lw_tbl := List.mem_of_getElem? (i := 10) (by decide +kernel)
set_option maxRecDepth 20000 in
theorem qV_Tb_Tb_sharesOf : (Cond.selects "Threeboxes" ⟨"Threeboxes", "sharesOf", "(I)I"⟩ ⟨"Threeboxes", "sharesOf", "(I)I"⟩) ∈ lw_tbl := List.mem_of_getElem? (i := 11) (by decide +kernel)
set_option maxRecDepth 20000 in
theorem qV_Tb_Tb_staleSharesOf : (Cond.selects "Threeboxes" ⟨"Threeboxes", "staleSharesOf", "(I)I"⟩ ⟨"Threeboxes", "staleSharesOf", "(I)I"⟩) ∈ lw_tbl := List.mem_of_getElem? (i := 12) (by decide +kernel)
set_option maxRecDepth 20000 in
theorem qV_Tb_Tb_digestSecret : (Cond.selects "Threeboxes" ⟨"Threeboxes", "digestSecret", "(JLThreeboxes$Secret;)J"⟩ ⟨"Threeboxes", "digestSecret", "(JLThreeboxes$Secret;)J"⟩) ∈ lw_tbl := List.mem_of_getElem? (i := 13) (by decide +kernel)
set_option maxRecDepth 20000 in
theorem qV_Tb_Tb_tellOfSecret : (Cond.selects "Threeboxes" ⟨"Threeboxes", "tellOfSecret", "(LThreeboxes$Secret;I)I"⟩ ⟨"Threeboxes", "tellOfSecret", "(LThreeboxes$Secret;I)I"⟩) ∈ lw_tbl := List.mem_of_getElem? (i := 14) (by decide +kernel)
set_option maxRecDepth 20000 in
theorem qV_Tb_Tb_boughtFor : (Cond.selects "Threeboxes" ⟨"Threeboxes", "boughtFor", "(LThreeboxes$Secret;)I"⟩ ⟨"Threeboxes", "boughtFor", "(LThreeboxes$Secret;)I"⟩) ∈ lw_tbl := List.mem_of_getElem? (i := 15) (by decide +kernel)
set_option maxRecDepth 20000 in
theorem qV_Tb_Tb_boughtOf : (Cond.selects "Threeboxes" ⟨"Threeboxes", "boughtOf", "(LThreeboxes$Secret;)I"⟩ ⟨"Threeboxes", "boughtOf", "(LThreeboxes$Secret;)I"⟩) ∈ lw_tbl := List.mem_of_getElem? (i := 16) (by decide +kernel)
set_option maxRecDepth 20000 in
theorem qV_Tb_Tb_cheapestOf : (Cond.selects "Threeboxes" ⟨"Threeboxes", "cheapestOf", "(I)I"⟩ ⟨"Threeboxes", "cheapestOf", "(I)I"⟩) ∈ lw_tbl := List.mem_of_getElem? (i := 17) (by decide +kernel)
set_option maxRecDepth 20000 in
theorem qV_Tb_Tb_priceOf : (Cond.selects "Threeboxes" ⟨"Threeboxes", "priceOf", "(I)I"⟩ ⟨"Threeboxes", "priceOf", "(I)I"⟩) ∈ lw_tbl := List.mem_of_getElem? (i := 18) (by decide +kernel)
set_option maxRecDepth 20000 in
theorem qV_Tb_Tb_tellOfShare : (Cond.selects "Threeboxes" ⟨"Threeboxes", "tellOfShare", "(LThreeboxes$Secret;LThreeboxes$Keeper;I)I"⟩ ⟨"Threeboxes", "tellOfShare", "(LThreeboxes$Secret;LThreeboxes$Keeper;I)I"⟩) ∈ lw_tbl := List.mem_of_getElem? (i := 19) (by decide +kernel)
set_option maxRecDepth 20000 in
theorem qV_Tb_Tb_allKeepers : (Cond.selects "Threeboxes" ⟨"Threeboxes", "allKeepers", "()I"⟩ ⟨"Threeboxes", "allKeepers", "()I"⟩) ∈ lw_tbl := List.mem_of_getElem? (i := 20) (by decide +kernel)
set_option maxRecDepth 20000 in
theorem qV_Tb_Tb_gatherGroup : (Cond.selects "Threeboxes" ⟨"Threeboxes", "gatherGroup", "(LThreeboxes$Secret;I)V"⟩ ⟨"Threeboxes", "gatherGroup", "(LThreeboxes$Secret;I)V"⟩) ∈ lw_tbl := List.mem_of_getElem? (i := 21) (by decide +kernel)
set_option maxRecDepth 20000 in
theorem qV_Tb_Tb_tellOfGroup : (Cond.selects "Threeboxes" ⟨"Threeboxes", "tellOfGroup", "(LThreeboxes$Secret;I)I"⟩ ⟨"Threeboxes", "tellOfGroup", "(LThreeboxes$Secret;I)I"⟩) ∈ lw_tbl := List.mem_of_getElem? (i := 22) (by decide +kernel)
set_option maxRecDepth 20000 in
theorem qV_Tb_Tb_isLawful : (Cond.selects "Threeboxes" ⟨"Threeboxes", "isLawful", "(LThreeboxes$Secret;I)Z"⟩ ⟨"Threeboxes", "isLawful", "(LThreeboxes$Secret;I)Z"⟩) ∈ lw_tbl := List.mem_of_getElem? (i := 23) (by decide +kernel)
set_option maxRecDepth 20000 in
theorem qV_Tb_Tb_zonesOf : (Cond.selects "Threeboxes" ⟨"Threeboxes", "zonesOf", "(I)I"⟩ ⟨"Threeboxes", "zonesOf", "(I)I"⟩) ∈ lw_tbl := List.mem_of_getElem? (i := 24) (by decide +kernel)
set_option maxRecDepth 20000 in
theorem qV_Tb_Tb_fewestOf : (Cond.selects "Threeboxes" ⟨"Threeboxes", "fewestOf", "(LThreeboxes$Secret;)I"⟩ ⟨"Threeboxes", "fewestOf", "(LThreeboxes$Secret;)I"⟩) ∈ lw_tbl := List.mem_of_getElem? (i := 25) (by decide +kernel)
set_option maxRecDepth 20000 in
theorem qV_Tb_Tb_isLess : (Cond.selects "Threeboxes" ⟨"Threeboxes", "isLess", "(II)Z"⟩ ⟨"Threeboxes", "isLess", "(II)Z"⟩) ∈ lw_tbl := List.mem_of_getElem? (i := 26) (by decide +kernel)
set_option maxRecDepth 20000 in
theorem qV_Tb_Tb_chanceLost : (Cond.selects "Threeboxes" ⟨"Threeboxes", "chanceLost", "(LThreeboxes$Secret;)D"⟩ ⟨"Threeboxes", "chanceLost", "(LThreeboxes$Secret;)D"⟩) ∈ lw_tbl := List.mem_of_getElem? (i := 27) (by decide +kernel)
set_option maxRecDepth 20000 in
theorem qV_Tb_Tb_riskOne : (Cond.selects "Threeboxes" ⟨"Threeboxes", "riskOne", "(I)V"⟩ ⟨"Threeboxes", "riskOne", "(I)V"⟩) ∈ lw_tbl := List.mem_of_getElem? (i := 28) (by decide +kernel)
set_option maxRecDepth 20000 in
theorem qV_Th_Th_fillInStackTrace_a1a2 : (Cond.selects "java/lang/Throwable" ⟨"java/lang/Throwable", "fillInStackTrace", "(I)Ljava/lang/Throwable;"⟩ ⟨"java/lang/Throwable", "fillInStackTrace", "(I)Ljava/lang/Throwable;"⟩) ∈ lw_tbl := List.mem_of_getElem? (i := 29) (by decide +kernel)
set_option maxRecDepth 20000 in
theorem qV_AL_AL_add_2 : (Cond.selects "java/util/ArrayList" ⟨"java/util/ArrayList", "add", "(Ljava/lang/Object;[Ljava/lang/Object;I)V"⟩ ⟨"java/util/ArrayList", "add", "(Ljava/lang/Object;[Ljava/lang/Object;I)V"⟩) ∈ lw_tbl := List.mem_of_getElem? (i := 30) (by decide +kernel)
set_option maxRecDepth 20000 in
theorem qV_AL_AL_grow_1 : (Cond.selects "java/util/ArrayList" ⟨"java/util/ArrayList", "grow", "()[Ljava/lang/Object;"⟩ ⟨"java/util/ArrayList", "grow", "()[Ljava/lang/Object;"⟩) ∈ lw_tbl := List.mem_of_getElem? (i := 31) (by decide +kernel)
set_option maxRecDepth 20000 in
theorem qV_AL_AL_grow_2 : (Cond.selects "java/util/ArrayList" ⟨"java/util/ArrayList", "grow", "(I)[Ljava/lang/Object;"⟩ ⟨"java/util/ArrayList", "grow", "(I)[Ljava/lang/Object;"⟩) ∈ lw_tbl := List.mem_of_getElem? (i := 32) (by decide +kernel)
set_option maxRecDepth 20000 in
theorem qV_Tb_Tb_keeperAt : (Cond.selects "Threeboxes" ⟨"Threeboxes", "keeperAt", "(I)LThreeboxes$Keeper;"⟩ ⟨"Threeboxes", "keeperAt", "(I)LThreeboxes$Keeper;"⟩) ∈ lw_tbl := List.mem_of_getElem? (i := 33) (by decide +kernel)
set_option maxRecDepth 20000 in
theorem qV_Tb_Tb_needSet : (Cond.selects "Threeboxes" ⟨"Threeboxes", "needSet", "(I)V"⟩ ⟨"Threeboxes", "needSet", "(I)V"⟩) ∈ lw_tbl := List.mem_of_getElem? (i := 34) (by decide +kernel)
set_option maxRecDepth 20000 in
theorem qV_Cu_Cu_nextNumber : (Cond.selects "Threeboxes$Curve" ⟨"Threeboxes$Curve", "nextNumber", "()I"⟩ ⟨"Threeboxes$Curve", "nextNumber", "()I"⟩) ∈ lw_tbl := List.mem_of_getElem? (i := 35) (by decide +kernel)
set_option maxRecDepth 20000 in
theorem qV_Se_Se_put : (Cond.selects "Threeboxes$Secret" ⟨"Threeboxes$Secret", "put", "(III)V"⟩ ⟨"Threeboxes$Secret", "put", "(III)V"⟩) ∈ lw_tbl := List.mem_of_getElem? (i := 36) (by decide +kernel)
set_option maxRecDepth 20000 in
theorem qV_Tb_Tb_secretAt : (Cond.selects "Threeboxes" ⟨"Threeboxes", "secretAt", "(I)LThreeboxes$Secret;"⟩ ⟨"Threeboxes", "secretAt", "(I)LThreeboxes$Secret;"⟩) ∈ lw_tbl := List.mem_of_getElem? (i := 37) (by decide +kernel)
set_option maxRecDepth 20000 in
theorem qV_Tb_Tb_loseShares : (Cond.selects "Threeboxes" ⟨"Threeboxes", "loseShares", "(I)V"⟩ ⟨"Threeboxes", "loseShares", "(I)V"⟩) ∈ lw_tbl := List.mem_of_getElem? (i := 38) (by decide +kernel)
set_option maxRecDepth 20000 in
theorem qV_Tb_Tb_isAnyLying : (Cond.selects "Threeboxes" ⟨"Threeboxes", "isAnyLying", "(I)Z"⟩ ⟨"Threeboxes", "isAnyLying", "(I)Z"⟩) ∈ lw_tbl := List.mem_of_getElem? (i := 39) (by decide +kernel)
set_option maxRecDepth 20000 in
theorem qV_Tb_Tb_noteAll : (Cond.selects "Threeboxes" ⟨"Threeboxes", "noteAll", "(I)V"⟩ ⟨"Threeboxes", "noteAll", "(I)V"⟩) ∈ lw_tbl := List.mem_of_getElem? (i := 40) (by decide +kernel)
set_option maxRecDepth 20000 in
theorem qV_Tb_Tb_needEntry : (Cond.selects "Threeboxes" ⟨"Threeboxes", "needEntry", "(I)V"⟩ ⟨"Threeboxes", "needEntry", "(I)V"⟩) ∈ lw_tbl := List.mem_of_getElem? (i := 41) (by decide +kernel)
set_option maxRecDepth 20000 in
theorem qV_Mo_Mo_no : (Cond.selects "ThreeboxesModel" ⟨"ThreeboxesModel", "no", "(I)I"⟩ ⟨"ThreeboxesModel", "no", "(I)I"⟩) ∈ lw_tbl := List.mem_of_getElem? (i := 42) (by decide +kernel)
set_option maxRecDepth 20000 in
theorem qV_Mo_Mo_isKeeper : (Cond.selects "ThreeboxesModel" ⟨"ThreeboxesModel", "isKeeper", "(I)Z"⟩ ⟨"ThreeboxesModel", "isKeeper", "(I)Z"⟩) ∈ lw_tbl := List.mem_of_getElem? (i := 43) (by decide +kernel)
set_option maxRecDepth 20000 in
theorem qV_Mo_Mo_isSet : (Cond.selects "ThreeboxesModel" ⟨"ThreeboxesModel", "isSet", "(I)Z"⟩ ⟨"ThreeboxesModel", "isSet", "(I)Z"⟩) ∈ lw_tbl := List.mem_of_getElem? (i := 44) (by decide +kernel)
set_option maxRecDepth 20000 in
theorem qV_Mo_Mo_draw : (Cond.selects "ThreeboxesModel" ⟨"ThreeboxesModel", "draw", "()I"⟩ ⟨"ThreeboxesModel", "draw", "()I"⟩) ∈ lw_tbl := List.mem_of_getElem? (i := 45) (by decide +kernel)
set_option maxRecDepth 20000 in
theorem qV_Mo_Mo_write : (Cond.selects "ThreeboxesModel" ⟨"ThreeboxesModel", "write", "(II)V"⟩ ⟨"ThreeboxesModel", "write", "(II)V"⟩) ∈ lw_tbl := List.mem_of_getElem? (i := 46) (by decide +kernel)
set_option maxRecDepth 20000 in
theorem qV_Mo_Mo_isSecret : (Cond.selects "ThreeboxesModel" ⟨"ThreeboxesModel", "isSecret", "(I)Z"⟩ ⟨"ThreeboxesModel", "isSecret", "(I)Z"⟩) ∈ lw_tbl := List.mem_of_getElem? (i := 47) (by decide +kernel)
set_option maxRecDepth 20000 in
theorem qV_Mo_Mo_group : (Cond.selects "ThreeboxesModel" ⟨"ThreeboxesModel", "group", "(LThreeboxesModel$Secret;I)I"⟩ ⟨"ThreeboxesModel", "group", "(LThreeboxesModel$Secret;I)I"⟩) ∈ lw_tbl := List.mem_of_getElem? (i := 48) (by decide +kernel)
set_option maxRecDepth 20000 in
theorem qV_Mo_Mo_isGood : (Cond.selects "ThreeboxesModel" ⟨"ThreeboxesModel", "isGood", "(LThreeboxesModel$Secret;I)Z"⟩ ⟨"ThreeboxesModel", "isGood", "(LThreeboxesModel$Secret;I)Z"⟩) ∈ lw_tbl := List.mem_of_getElem? (i := 49) (by decide +kernel)
set_option maxRecDepth 20000 in
theorem qV_Mo_Mo_best : (Cond.selects "ThreeboxesModel" ⟨"ThreeboxesModel", "best", "(LThreeboxesModel$Secret;I)I"⟩ ⟨"ThreeboxesModel", "best", "(LThreeboxesModel$Secret;I)I"⟩) ∈ lw_tbl := List.mem_of_getElem? (i := 50) (by decide +kernel)
set_option maxRecDepth 20000 in
theorem qV_Mo_Mo_agreeing : (Cond.selects "ThreeboxesModel" ⟨"ThreeboxesModel", "agreeing", "(LThreeboxesModel$Secret;II)I"⟩ ⟨"ThreeboxesModel", "agreeing", "(LThreeboxesModel$Secret;II)I"⟩) ∈ lw_tbl := List.mem_of_getElem? (i := 51) (by decide +kernel)
set_option maxRecDepth 20000 in
theorem qV_Mo_Mo_along : (Cond.selects "ThreeboxesModel" ⟨"ThreeboxesModel", "along", "(LThreeboxesModel$Secret;II)I"⟩ ⟨"ThreeboxesModel", "along", "(LThreeboxesModel$Secret;II)I"⟩) ∈ lw_tbl := List.mem_of_getElem? (i := 52) (by decide +kernel)
set_option maxRecDepth 20000 in
theorem qV_Mo_Mo_gives : (Cond.selects "ThreeboxesModel" ⟨"ThreeboxesModel", "gives", "(LThreeboxesModel$Secret;I)I"⟩ ⟨"ThreeboxesModel", "gives", "(LThreeboxesModel$Secret;I)I"⟩) ∈ lw_tbl := List.mem_of_getElem? (i := 53) (by decide +kernel)
set_option maxRecDepth 20000 in
theorem qV_Mo_Mo_through : (Cond.selects "ThreeboxesModel" ⟨"ThreeboxesModel", "through", "([I[III)I"⟩ ⟨"ThreeboxesModel", "through", "([I[III)I"⟩) ∈ lw_tbl := List.mem_of_getElem? (i := 54) (by decide +kernel)
set_option maxRecDepth 20000 in
theorem qV_Mo_Mo_over : (Cond.selects "ThreeboxesModel" ⟨"ThreeboxesModel", "over", "(I)I"⟩ ⟨"ThreeboxesModel", "over", "(I)I"⟩) ∈ lw_tbl := List.mem_of_getElem? (i := 55) (by decide +kernel)
set_option maxRecDepth 20000 in
theorem qV_Mo_Mo_isLawful : (Cond.selects "ThreeboxesModel" ⟨"ThreeboxesModel", "isLawful", "(LThreeboxesModel$Secret;I)Z"⟩ ⟨"ThreeboxesModel", "isLawful", "(LThreeboxesModel$Secret;I)Z"⟩) ∈ lw_tbl := List.mem_of_getElem? (i := 56) (by decide +kernel)
set_option maxRecDepth 20000 in
theorem qV_Mo_Mo_liars : (Cond.selects "ThreeboxesModel" ⟨"ThreeboxesModel", "liars", "(LThreeboxesModel$Secret;I)I"⟩ ⟨"ThreeboxesModel", "liars", "(LThreeboxesModel$Secret;I)I"⟩) ∈ lw_tbl := List.mem_of_getElem? (i := 57) (by decide +kernel)
set_option maxRecDepth 20000 in
theorem qV_Mo_Mo_found : (Cond.selects "ThreeboxesModel" ⟨"ThreeboxesModel", "found", "(LThreeboxesModel$Secret;I)I"⟩ ⟨"ThreeboxesModel", "found", "(LThreeboxesModel$Secret;I)I"⟩) ∈ lw_tbl := List.mem_of_getElem? (i := 58) (by decide +kernel)
set_option maxRecDepth 20000 in
theorem qV_Mo_Mo_keeperNow : (Cond.selects "ThreeboxesModel" ⟨"ThreeboxesModel", "keeperNow", "(II)I"⟩ ⟨"ThreeboxesModel", "keeperNow", "(II)I"⟩) ∈ lw_tbl := List.mem_of_getElem? (i := 59) (by decide +kernel)
set_option maxRecDepth 20000 in
theorem qV_Mo_Mo_secretNow : (Cond.selects "ThreeboxesModel" ⟨"ThreeboxesModel", "secretNow", "(II)I"⟩ ⟨"ThreeboxesModel", "secretNow", "(II)I"⟩) ∈ lw_tbl := List.mem_of_getElem? (i := 60) (by decide +kernel)
set_option maxRecDepth 20000 in
theorem qV_Mo_Mo_bought : (Cond.selects "ThreeboxesModel" ⟨"ThreeboxesModel", "bought", "(LThreeboxesModel$Secret;)I"⟩ ⟨"ThreeboxesModel", "bought", "(LThreeboxesModel$Secret;)I"⟩) ∈ lw_tbl := List.mem_of_getElem? (i := 61) (by decide +kernel)
set_option maxRecDepth 20000 in
theorem qV_Mo_Mo_priceOf : (Cond.selects "ThreeboxesModel" ⟨"ThreeboxesModel", "priceOf", "(I)I"⟩ ⟨"ThreeboxesModel", "priceOf", "(I)I"⟩) ∈ lw_tbl := List.mem_of_getElem? (i := 62) (by decide +kernel)
set_option maxRecDepth 20000 in
theorem qV_Mo_Mo_shareNow : (Cond.selects "ThreeboxesModel" ⟨"ThreeboxesModel", "shareNow", "(III)I"⟩ ⟨"ThreeboxesModel", "shareNow", "(III)I"⟩) ∈ lw_tbl := List.mem_of_getElem? (i := 63) (by decide +kernel)
set_option maxRecDepth 20000 in
theorem qV_Mo_Mo_bankNow : (Cond.selects "ThreeboxesModel" ⟨"ThreeboxesModel", "bankNow", "(I)I"⟩ ⟨"ThreeboxesModel", "bankNow", "(I)I"⟩) ∈ lw_tbl := List.mem_of_getElem? (i := 64) (by decide +kernel)
set_option maxRecDepth 20000 in
theorem qV_Mo_Mo_root : (Cond.selects "ThreeboxesModel" ⟨"ThreeboxesModel", "root", "()I"⟩ ⟨"ThreeboxesModel", "root", "()I"⟩) ∈ lw_tbl := List.mem_of_getElem? (i := 65) (by decide +kernel)
set_option maxRecDepth 20000 in
theorem qV_Mo_Mo_node : (Cond.selects "ThreeboxesModel" ⟨"ThreeboxesModel", "node", "(IIII)I"⟩ ⟨"ThreeboxesModel", "node", "(IIII)I"⟩) ∈ lw_tbl := List.mem_of_getElem? (i := 66) (by decide +kernel)
set_option maxRecDepth 20000 in
theorem qV_Mo_Mo_isEntry : (Cond.selects "ThreeboxesModel" ⟨"ThreeboxesModel", "isEntry", "(I)Z"⟩ ⟨"ThreeboxesModel", "isEntry", "(I)Z"⟩) ∈ lw_tbl := List.mem_of_getElem? (i := 67) (by decide +kernel)
set_option maxRecDepth 20000 in
theorem qV_Mo_Mo_proofNow : (Cond.selects "ThreeboxesModel" ⟨"ThreeboxesModel", "proofNow", "(II)I"⟩ ⟨"ThreeboxesModel", "proofNow", "(II)I"⟩) ∈ lw_tbl := List.mem_of_getElem? (i := 68) (by decide +kernel)
set_option maxRecDepth 20000 in
theorem qV_Mo_Mo_wouldNow : (Cond.selects "ThreeboxesModel" ⟨"ThreeboxesModel", "wouldNow", "(III)I"⟩ ⟨"ThreeboxesModel", "wouldNow", "(III)I"⟩) ∈ lw_tbl := List.mem_of_getElem? (i := 69) (by decide +kernel)
set_option maxRecDepth 20000 in
theorem qV_Mo_Mo_lostNow : (Cond.selects "ThreeboxesModel" ⟨"ThreeboxesModel", "lostNow", "(I)D"⟩ ⟨"ThreeboxesModel", "lostNow", "(I)D"⟩) ∈ lw_tbl := List.mem_of_getElem? (i := 70) (by decide +kernel)
set_option maxRecDepth 20000 in
theorem qV_Mo_Mo_fewestNow : (Cond.selects "ThreeboxesModel" ⟨"ThreeboxesModel", "fewestNow", "(I)I"⟩ ⟨"ThreeboxesModel", "fewestNow", "(I)I"⟩) ∈ lw_tbl := List.mem_of_getElem? (i := 71) (by decide +kernel)
set_option maxRecDepth 20000 in
theorem qV_Mo_Mo_isSoundNow : (Cond.selects "ThreeboxesModel" ⟨"ThreeboxesModel", "isSoundNow", "()Z"⟩ ⟨"ThreeboxesModel", "isSoundNow", "()Z"⟩) ∈ lw_tbl := List.mem_of_getElem? (i := 72) (by decide +kernel)
set_option maxRecDepth 20000 in
theorem qV_Mo_Mo_isOneCurve : (Cond.selects "ThreeboxesModel" ⟨"ThreeboxesModel", "isOneCurve", "(LThreeboxesModel$Secret;)Z"⟩ ⟨"ThreeboxesModel", "isOneCurve", "(LThreeboxesModel$Secret;)Z"⟩) ∈ lw_tbl := List.mem_of_getElem? (i := 73) (by decide +kernel)
set_option maxRecDepth 20000 in
theorem qN_La : (Jvm.Cond.initialized "ThreeboxesLaw") ∈ lw_tbl := List.mem_of_getElem? (i := 74) (by decide +kernel)
set_option maxRecDepth 20000 in
theorem qN_Tb : (Jvm.Cond.initialized "Threeboxes") ∈ lw_tbl := List.mem_of_getElem? (i := 75) (by decide +kernel)
set_option maxRecDepth 20000 in
theorem qN_AbC : (Jvm.Cond.initialized "java/util/AbstractCollection") ∈ lw_tbl := List.mem_of_getElem? (i := 76) (by decide +kernel)
set_option maxRecDepth 20000 in
theorem qN_AbL : (Jvm.Cond.initialized "java/util/AbstractList") ∈ lw_tbl := List.mem_of_getElem? (i := 77) (by decide +kernel)
set_option maxRecDepth 20000 in
theorem qN_AL : (Jvm.Cond.initialized "java/util/ArrayList") ∈ lw_tbl := List.mem_of_getElem? (i := 78) (by decide +kernel)
set_option maxRecDepth 20000 in
theorem qN_Re : (Jvm.Cond.initialized "Threeboxes$Register") ∈ lw_tbl := List.mem_of_getElem? (i := 79) (by decide +kernel)
set_option maxRecDepth 20000 in
theorem qN_Cu : (Jvm.Cond.initialized "Threeboxes$Curve") ∈ lw_tbl := List.mem_of_getElem? (i := 80) (by decide +kernel)
set_option maxRecDepth 20000 in
theorem qN_Gr : (Jvm.Cond.initialized "Threeboxes$Group") ∈ lw_tbl := List.mem_of_getElem? (i := 81) (by decide +kernel)
set_option maxRecDepth 20000 in
theorem qN_Mo : (Jvm.Cond.initialized "ThreeboxesModel") ∈ lw_tbl := List.mem_of_getElem? (i := 82) (by decide +kernel)
set_option maxRecDepth 20000 in
theorem qN_Ou : (Jvm.Cond.initialized "ThreeboxesLaw$Out") ∈ lw_tbl := List.mem_of_getElem? (i := 83) (by decide +kernel)
set_option maxRecDepth 20000 in
theorem qN_Th : (Jvm.Cond.initialized "java/lang/Throwable") ∈ lw_tbl := List.mem_of_getElem? (i := 84) (by decide +kernel)
set_option maxRecDepth 20000 in
theorem qN_EX : (Jvm.Cond.initialized "java/lang/Exception") ∈ lw_tbl := List.mem_of_getElem? (i := 85) (by decide +kernel)
set_option maxRecDepth 20000 in
theorem qN_RE : (Jvm.Cond.initialized "java/lang/RuntimeException") ∈ lw_tbl := List.mem_of_getElem? (i := 86) (by decide +kernel)
set_option maxRecDepth 20000 in
theorem qN_IAE : (Jvm.Cond.initialized "java/lang/IllegalArgumentException") ∈ lw_tbl := List.mem_of_getElem? (i := 87) (by decide +kernel)
set_option maxRecDepth 20000 in
theorem qN_ISE : (Jvm.Cond.initialized "java/lang/IllegalStateException") ∈ lw_tbl := List.mem_of_getElem? (i := 88) (by decide +kernel)
set_option maxRecDepth 20000 in
theorem qN_Ke : (Jvm.Cond.initialized "Threeboxes$Keeper") ∈ lw_tbl := List.mem_of_getElem? (i := 89) (by decide +kernel)
set_option maxRecDepth 20000 in
theorem qN_AS : (Jvm.Cond.initialized "jdk/internal/util/ArraysSupport") ∈ lw_tbl := List.mem_of_getElem? (i := 90) (by decide +kernel)
set_option maxRecDepth 20000 in
theorem qN_Ma : (Jvm.Cond.initialized "java/lang/Math") ∈ lw_tbl := List.mem_of_getElem? (i := 91) (by decide +kernel)
set_option maxRecDepth 20000 in
theorem qN_Ar : (Jvm.Cond.initialized "java/util/Arrays") ∈ lw_tbl := List.mem_of_getElem? (i := 92) (by decide +kernel)
set_option maxRecDepth 20000 in
theorem qN_Sy : (Jvm.Cond.initialized "java/lang/System") ∈ lw_tbl := List.mem_of_getElem? (i := 93) (by decide +kernel)
set_option maxRecDepth 20000 in
theorem qN_MK : (Jvm.Cond.initialized "ThreeboxesModel$Keeper") ∈ lw_tbl := List.mem_of_getElem? (i := 94) (by decide +kernel)
set_option maxRecDepth 20000 in
theorem qN_IOE : (Jvm.Cond.initialized "java/lang/IndexOutOfBoundsException") ∈ lw_tbl := List.mem_of_getElem? (i := 95) (by decide +kernel)
set_option maxRecDepth 20000 in
theorem qN_Ob : (Jvm.Cond.initialized "java/util/Objects") ∈ lw_tbl := List.mem_of_getElem? (i := 96) (by decide +kernel)
set_option maxRecDepth 20000 in
theorem qN_Pr : (Jvm.Cond.initialized "jdk/internal/util/Preconditions") ∈ lw_tbl := List.mem_of_getElem? (i := 97) (by decide +kernel)
set_option maxRecDepth 20000 in
theorem qN_java_lang_Number : (Jvm.Cond.initialized "java/lang/Number") ∈ lw_tbl := List.mem_of_getElem? (i := 98) (by decide +kernel)
set_option maxRecDepth 20000 in
theorem qN_In : (Jvm.Cond.initialized "java/lang/Integer") ∈ lw_tbl := List.mem_of_getElem? (i := 99) (by decide +kernel)
set_option maxRecDepth 20000 in
theorem qN_Se : (Jvm.Cond.initialized "Threeboxes$Secret") ∈ lw_tbl := List.mem_of_getElem? (i := 100) (by decide +kernel)
set_option maxRecDepth 20000 in
theorem qN_MS : (Jvm.Cond.initialized "ThreeboxesModel$Secret") ∈ lw_tbl := List.mem_of_getElem? (i := 101) (by decide +kernel)
set_option maxRecDepth 20000 in
theorem qN_AB : (Jvm.Cond.initialized "java/lang/AbstractStringBuilder") ∈ lw_tbl := List.mem_of_getElem? (i := 102) (by decide +kernel)
set_option maxRecDepth 20000 in
theorem qN_SB : (Jvm.Cond.initialized "java/lang/StringBuilder") ∈ lw_tbl := List.mem_of_getElem? (i := 103) (by decide +kernel)
set_option maxRecDepth 20000 in
theorem qN_St : (Jvm.Cond.initialized "java/lang/String") ∈ lw_tbl := List.mem_of_getElem? (i := 104) (by decide +kernel)
set_option maxRecDepth 20000 in
theorem qN_SU : (Jvm.Cond.initialized "java/lang/StringUTF16") ∈ lw_tbl := List.mem_of_getElem? (i := 105) (by decide +kernel)
set_option maxRecDepth 20000 in
theorem qN_SL : (Jvm.Cond.initialized "java/lang/StringLatin1") ∈ lw_tbl := List.mem_of_getElem? (i := 106) (by decide +kernel)
set_option maxRecDepth 20000 in
theorem qK_La_8 : (Jvm.Cond.classLink "ThreeboxesLaw" (8 : Nat) "Threeboxes") ∈ lw_tbl := List.mem_of_getElem? (i := 107) (by decide +kernel)
set_option maxRecDepth 20000 in
theorem qO_Tb : (Jvm.Cond.instantiable "Threeboxes" (10 : Nat)) ∈ lw_tbl := List.mem_of_getElem? (i := 108) (by decide +kernel)
set_option maxRecDepth 20000 in
theorem qM_La_101 : (Jvm.Cond.methodLink "ThreeboxesLaw" (101 : Nat) ({ cls := "Threeboxes", name := "<init>", desc := "()V" } : Jvm.MethodName)) ∈ lw_tbl := List.mem_of_getElem? (i := 109) (by decide +kernel)
set_option maxRecDepth 20000 in
theorem qI_Tb_init : (Jvm.Cond.instanceMethod ({ cls := "Threeboxes", name := "<init>", desc := "()V" } : Jvm.MethodName)) ∈ lw_tbl := List.mem_of_getElem? (i := 110) (by decide +kernel)
set_option maxRecDepth 20000 in
theorem qC_Tb_init : (Jvm.Cond.code ({ cls := "Threeboxes", name := "<init>", desc := "()V" } : Jvm.MethodName) prog_1_method_1_code (1 : Nat) (Option.none : Option Jvm.ClassFile.FieldType)) ∈ lw_tbl := List.mem_of_getElem? (i := 111) rfl
set_option maxRecDepth 20000 in
theorem qM_Tb_1 : (Jvm.Cond.methodLink "Threeboxes" (1 : Nat) ({ cls := "java/lang/Object", name := "<init>", desc := "()V" } : Jvm.MethodName)) ∈ lw_tbl := List.mem_of_getElem? (i := 112) (by decide +kernel)
set_option maxRecDepth 20000 in
theorem qI_Oj_init_0566 : (Jvm.Cond.instanceMethod ({ cls := "java/lang/Object", name := "<init>", desc := "()V" } : Jvm.MethodName)) ∈ lw_tbl := List.mem_of_getElem? (i := 113) (by decide +kernel)
set_option maxRecDepth 20000 in
theorem qC_Oj_init_0566 : (Jvm.Cond.code ({ cls := "java/lang/Object", name := "<init>", desc := "()V" } : Jvm.MethodName) object_method_1_code (1 : Nat) (Option.none : Option Jvm.ClassFile.FieldType)) ∈ lw_tbl := List.mem_of_getElem? (i := 114) rfl
set_option maxRecDepth 20000 in
theorem qK_Tb_7 : (Jvm.Cond.classLink "Threeboxes" (7 : Nat) "java/util/ArrayList") ∈ lw_tbl := List.mem_of_getElem? (i := 115) (by decide +kernel)
set_option maxRecDepth 20000 in
theorem qO_AL : (Jvm.Cond.instantiable "java/util/ArrayList" (3 : Nat)) ∈ lw_tbl := List.mem_of_getElem? (i := 116) (by decide +kernel)
set_option maxRecDepth 20000 in
theorem qM_Tb_9 : (Jvm.Cond.methodLink "Threeboxes" (9 : Nat) ({ cls := "java/util/ArrayList", name := "<init>", desc := "()V" } : Jvm.MethodName)) ∈ lw_tbl := List.mem_of_getElem? (i := 117) (by decide +kernel)
set_option maxRecDepth 20000 in
theorem qI_AL_init : (Jvm.Cond.instanceMethod ({ cls := "java/util/ArrayList", name := "<init>", desc := "()V" } : Jvm.MethodName)) ∈ lw_tbl := List.mem_of_getElem? (i := 118) (by decide +kernel)
set_option maxRecDepth 20000 in
theorem qC_AL_init : (Jvm.Cond.code ({ cls := "java/util/ArrayList", name := "<init>", desc := "()V" } : Jvm.MethodName) prog_37_method_2_code (1 : Nat) (Option.none : Option Jvm.ClassFile.FieldType)) ∈ lw_tbl := List.mem_of_getElem? (i := 119) rfl
set_option maxRecDepth 20000 in
theorem qM_AL_1 : (Jvm.Cond.methodLink "java/util/ArrayList" (1 : Nat) ({ cls := "java/util/AbstractList", name := "<init>", desc := "()V" } : Jvm.MethodName)) ∈ lw_tbl := List.mem_of_getElem? (i := 120) (by decide +kernel)
set_option maxRecDepth 20000 in
theorem qI_AbL_init : (Jvm.Cond.instanceMethod ({ cls := "java/util/AbstractList", name := "<init>", desc := "()V" } : Jvm.MethodName)) ∈ lw_tbl := List.mem_of_getElem? (i := 121) (by decide +kernel)
set_option maxRecDepth 20000 in
theorem qC_AbL_init : (Jvm.Cond.code ({ cls := "java/util/AbstractList", name := "<init>", desc := "()V" } : Jvm.MethodName) prog_36_method_1_code (1 : Nat) (Option.none : Option Jvm.ClassFile.FieldType)) ∈ lw_tbl := List.mem_of_getElem? (i := 122) rfl
set_option maxRecDepth 20000 in
theorem qM_AbL_1 : (Jvm.Cond.methodLink "java/util/AbstractList" (1 : Nat) ({ cls := "java/util/AbstractCollection", name := "<init>", desc := "()V" } : Jvm.MethodName)) ∈ lw_tbl := List.mem_of_getElem? (i := 123) (by decide +kernel)
set_option maxRecDepth 20000 in
theorem qI_AbC_init : (Jvm.Cond.instanceMethod ({ cls := "java/util/AbstractCollection", name := "<init>", desc := "()V" } : Jvm.MethodName)) ∈ lw_tbl := List.mem_of_getElem? (i := 124) (by decide +kernel)
set_option maxRecDepth 20000 in
theorem qC_AbC_init : (Jvm.Cond.code ({ cls := "java/util/AbstractCollection", name := "<init>", desc := "()V" } : Jvm.MethodName) prog_35_method_1_code (1 : Nat) (Option.none : Option Jvm.ClassFile.FieldType)) ∈ lw_tbl := List.mem_of_getElem? (i := 125) rfl
set_option maxRecDepth 20000 in
theorem qM_AbC_1 : (Jvm.Cond.methodLink "java/util/AbstractCollection" (1 : Nat) ({ cls := "java/lang/Object", name := "<init>", desc := "()V" } : Jvm.MethodName)) ∈ lw_tbl := List.mem_of_getElem? (i := 126) (by decide +kernel)
set_option maxRecDepth 20000 in
theorem qF_AL_39 : (Jvm.Cond.fieldLink "java/util/ArrayList" (39 : Nat) "java/util/ArrayList" "DEFAULTCAPACITY_EMPTY_ELEMENTDATA" "[Ljava/lang/Object;") ∈ lw_tbl := List.mem_of_getElem? (i := 127) (by decide +kernel)
set_option maxRecDepth 20000 in
theorem qLs_AL_DEFAULTCAPACITYEMPTYELEMENTDATA_LjavalangObject : (Jvm.Cond.laysStatic "java/util/ArrayList" "DEFAULTCAPACITY_EMPTY_ELEMENTDATA" "[Ljava/lang/Object;") ∈ lw_tbl := List.mem_of_getElem? (i := 128) (by decide +kernel)
set_option maxRecDepth 20000 in
theorem qF_AL_9 : (Jvm.Cond.fieldLink "java/util/ArrayList" (9 : Nat) "java/util/ArrayList" "elementData" "[Ljava/lang/Object;") ∈ lw_tbl := List.mem_of_getElem? (i := 129) (by decide +kernel)
set_option maxRecDepth 20000 in
theorem qF_AL_48 : (Jvm.Cond.fieldLink "java/util/ArrayList" (48 : Nat) "java/util/ArrayList" "size" "I") ∈ lw_tbl := List.mem_of_getElem? (i := 130) (by decide +kernel)
set_option maxRecDepth 20000 in
theorem qF_AbL_7 : (Jvm.Cond.fieldLink "java/util/AbstractList" (7 : Nat) "java/util/AbstractList" "modCount" "I") ∈ lw_tbl := List.mem_of_getElem? (i := 131) (by decide +kernel)
set_option maxRecDepth 20000 in
theorem qF_AL_63 : (Jvm.Cond.fieldLink "java/util/ArrayList" (63 : Nat) "java/util/ArrayList" "modCount" "I") ∈ lw_tbl := List.mem_of_getElem? (i := 132) (by decide +kernel)
set_option maxRecDepth 20000 in
theorem qSf_AL_javautilAbstractList_modCount_I : (Jvm.Cond.sameField "java/util/ArrayList" "java/util/AbstractList" "modCount" "I") ∈ lw_tbl := List.mem_of_getElem? (i := 133) (by decide +kernel)
set_option maxRecDepth 20000 in
theorem qSc_AL_AbL : (Jvm.Cond.superclass "java/util/ArrayList" "java/util/AbstractList") ∈ lw_tbl := List.mem_of_getElem? (i := 140) (by decide +kernel)
set_option maxRecDepth 20000 in
theorem qK_Tb_19 : (Jvm.Cond.classLink "Threeboxes" (19 : Nat) "Threeboxes$Register") ∈ lw_tbl := List.mem_of_getElem? (i := 141) (by decide +kernel)
set_option maxRecDepth 20000 in
theorem qO_Re : (Jvm.Cond.instantiable "Threeboxes$Register" (5 : Nat)) ∈ lw_tbl := List.mem_of_getElem? (i := 142) (by decide +kernel)
set_option maxRecDepth 20000 in
theorem qM_Tb_21 : (Jvm.Cond.methodLink "Threeboxes" (21 : Nat) ({ cls := "Threeboxes$Register", name := "<init>", desc := "()V" } : Jvm.MethodName)) ∈ lw_tbl := List.mem_of_getElem? (i := 143) (by decide +kernel)
set_option maxRecDepth 20000 in
theorem qI_Re_init : (Jvm.Cond.instanceMethod ({ cls := "Threeboxes$Register", name := "<init>", desc := "()V" } : Jvm.MethodName)) ∈ lw_tbl := List.mem_of_getElem? (i := 144) (by decide +kernel)
set_option maxRecDepth 20000 in
theorem qC_Re_init : (Jvm.Cond.code ({ cls := "Threeboxes$Register", name := "<init>", desc := "()V" } : Jvm.MethodName) prog_5_method_1_code (2 : Nat) (Option.none : Option Jvm.ClassFile.FieldType)) ∈ lw_tbl := List.mem_of_getElem? (i := 145) rfl
set_option maxRecDepth 20000 in
theorem qM_Re_3 : (Jvm.Cond.methodLink "Threeboxes$Register" (3 : Nat) ({ cls := "java/lang/Object", name := "<init>", desc := "()V" } : Jvm.MethodName)) ∈ lw_tbl := List.mem_of_getElem? (i := 146) (by decide +kernel)
set_option maxRecDepth 20000 in
theorem qM_Re_28 : (Jvm.Cond.methodLink "Threeboxes$Register" (28 : Nat) ({ cls := "Threeboxes$Register", name := "joinAt", desc := "(I)V" } : Jvm.MethodName)) ∈ lw_tbl := List.mem_of_getElem? (i := 147) (by decide +kernel)
set_option maxRecDepth 20000 in
theorem qI_Re_joinAt : (Jvm.Cond.instanceMethod ({ cls := "Threeboxes$Register", name := "joinAt", desc := "(I)V" } : Jvm.MethodName)) ∈ lw_tbl := List.mem_of_getElem? (i := 149) (by decide +kernel)
set_option maxRecDepth 20000 in
theorem qC_Re_joinAt : (Jvm.Cond.code ({ cls := "Threeboxes$Register", name := "joinAt", desc := "(I)V" } : Jvm.MethodName) prog_5_method_5_code (2 : Nat) (Option.none : Option Jvm.ClassFile.FieldType)) ∈ lw_tbl := List.mem_of_getElem? (i := 150) rfl
set_option maxRecDepth 20000 in
theorem qM_Re_40 : (Jvm.Cond.methodLink "Threeboxes$Register" (40 : Nat) ({ cls := "Threeboxes$Register", name := "nodeAt", desc := "(I)I" } : Jvm.MethodName)) ∈ lw_tbl := List.mem_of_getElem? (i := 151) (by decide +kernel)
set_option maxRecDepth 20000 in
theorem qI_Re_nodeAt : (Jvm.Cond.instanceMethod ({ cls := "Threeboxes$Register", name := "nodeAt", desc := "(I)I" } : Jvm.MethodName)) ∈ lw_tbl := List.mem_of_getElem? (i := 153) (by decide +kernel)
set_option maxRecDepth 20000 in
theorem qC_Re_nodeAt : (Jvm.Cond.code ({ cls := "Threeboxes$Register", name := "nodeAt", desc := "(I)I" } : Jvm.MethodName) prog_5_method_7_code (2 : Nat) (Option.some Jvm.ClassFile.FieldType.int)) ∈ lw_tbl := List.mem_of_getElem? (i := 154) rfl
set_option maxRecDepth 20000 in
theorem qM_Re_43 : (Jvm.Cond.methodLink "Threeboxes$Register" (43 : Nat) ({ cls := "Threeboxes$Register", name := "join", desc := "(II)I" } : Jvm.MethodName)) ∈ lw_tbl := List.mem_of_getElem? (i := 155) (by decide +kernel)
set_option maxRecDepth 20000 in
theorem qS_Re_join : (Jvm.Cond.static ({ cls := "Threeboxes$Register", name := "join", desc := "(II)I" } : Jvm.MethodName)) ∈ lw_tbl := List.mem_of_getElem? (i := 156) (by decide +kernel)
set_option maxRecDepth 20000 in
theorem qC_Re_join : (Jvm.Cond.code ({ cls := "Threeboxes$Register", name := "join", desc := "(II)I" } : Jvm.MethodName) prog_5_method_2_code (2 : Nat) (Option.some Jvm.ClassFile.FieldType.int)) ∈ lw_tbl := List.mem_of_getElem? (i := 157) rfl
set_option maxRecDepth 20000 in
theorem qM_Re_36 : (Jvm.Cond.methodLink "Threeboxes$Register" (36 : Nat) ({ cls := "Threeboxes$Register", name := "putAt", desc := "(II)V" } : Jvm.MethodName)) ∈ lw_tbl := List.mem_of_getElem? (i := 158) (by decide +kernel)
set_option maxRecDepth 20000 in
theorem qI_Re_putAt : (Jvm.Cond.instanceMethod ({ cls := "Threeboxes$Register", name := "putAt", desc := "(II)V" } : Jvm.MethodName)) ∈ lw_tbl := List.mem_of_getElem? (i := 160) (by decide +kernel)
set_option maxRecDepth 20000 in
theorem qC_Re_putAt : (Jvm.Cond.code ({ cls := "Threeboxes$Register", name := "putAt", desc := "(II)V" } : Jvm.MethodName) prog_5_method_6_code (3 : Nat) (Option.none : Option Jvm.ClassFile.FieldType)) ∈ lw_tbl := List.mem_of_getElem? (i := 161) rfl
set_option maxRecDepth 20000 in
theorem qF_Re_11 : (Jvm.Cond.fieldLink "Threeboxes$Register" (11 : Nat) "Threeboxes$Register" "kinds" "[I") ∈ lw_tbl := List.mem_of_getElem? (i := 162) (by decide +kernel)
set_option maxRecDepth 20000 in
theorem qF_Re_15 : (Jvm.Cond.fieldLink "Threeboxes$Register" (15 : Nat) "Threeboxes$Register" "subjects" "[I") ∈ lw_tbl := List.mem_of_getElem? (i := 163) (by decide +kernel)
set_option maxRecDepth 20000 in
theorem qF_Re_18 : (Jvm.Cond.fieldLink "Threeboxes$Register" (18 : Nat) "Threeboxes$Register" "days" "[I") ∈ lw_tbl := List.mem_of_getElem? (i := 164) (by decide +kernel)
set_option maxRecDepth 20000 in
theorem qF_Re_21 : (Jvm.Cond.fieldLink "Threeboxes$Register" (21 : Nat) "Threeboxes$Register" "tree" "[I") ∈ lw_tbl := List.mem_of_getElem? (i := 165) (by decide +kernel)
set_option maxRecDepth 20000 in
theorem qF_Re_24 : (Jvm.Cond.fieldLink "Threeboxes$Register" (24 : Nat) "Threeboxes$Register" "count" "I") ∈ lw_tbl := List.mem_of_getElem? (i := 166) (by decide +kernel)
set_option maxRecDepth 20000 in
theorem qSc_Re_Oj : (Jvm.Cond.superclass "Threeboxes$Register" "java/lang/Object") ∈ lw_tbl := List.mem_of_getElem? (i := 177) (by decide +kernel)
set_option maxRecDepth 20000 in
theorem qA_int : (Jvm.Cond.arrayClass Jvm.ClassFile.FieldType.int) ∈ lw_tbl := List.mem_of_getElem? (i := 178) (by decide +kernel)
set_option maxRecDepth 20000 in
theorem qK_Tb_26 : (Jvm.Cond.classLink "Threeboxes" (26 : Nat) "Threeboxes$Curve") ∈ lw_tbl := List.mem_of_getElem? (i := 179) (by decide +kernel)
set_option maxRecDepth 20000 in
theorem qO_Cu : (Jvm.Cond.instantiable "Threeboxes$Curve" (2 : Nat)) ∈ lw_tbl := List.mem_of_getElem? (i := 180) (by decide +kernel)
set_option maxRecDepth 20000 in
theorem qM_Tb_28 : (Jvm.Cond.methodLink "Threeboxes" (28 : Nat) ({ cls := "Threeboxes$Curve", name := "<init>", desc := "()V" } : Jvm.MethodName)) ∈ lw_tbl := List.mem_of_getElem? (i := 181) (by decide +kernel)
set_option maxRecDepth 20000 in
theorem qI_Cu_init : (Jvm.Cond.instanceMethod ({ cls := "Threeboxes$Curve", name := "<init>", desc := "()V" } : Jvm.MethodName)) ∈ lw_tbl := List.mem_of_getElem? (i := 182) (by decide +kernel)
set_option maxRecDepth 20000 in
theorem qC_Cu_init : (Jvm.Cond.code ({ cls := "Threeboxes$Curve", name := "<init>", desc := "()V" } : Jvm.MethodName) prog_2_method_1_code (1 : Nat) (Option.none : Option Jvm.ClassFile.FieldType)) ∈ lw_tbl := List.mem_of_getElem? (i := 183) rfl
set_option maxRecDepth 20000 in
theorem qM_Cu_3 : (Jvm.Cond.methodLink "Threeboxes$Curve" (3 : Nat) ({ cls := "java/lang/Object", name := "<init>", desc := "()V" } : Jvm.MethodName)) ∈ lw_tbl := List.mem_of_getElem? (i := 184) (by decide +kernel)
set_option maxRecDepth 20000 in
theorem qF_Cu_9 : (Jvm.Cond.fieldLink "Threeboxes$Curve" (9 : Nat) "Threeboxes$Curve" "numbers" "[I") ∈ lw_tbl := List.mem_of_getElem? (i := 185) (by decide +kernel)
set_option maxRecDepth 20000 in
theorem qF_Cu_15 : (Jvm.Cond.fieldLink "Threeboxes$Curve" (15 : Nat) "Threeboxes$Curve" "luck" "I") ∈ lw_tbl := List.mem_of_getElem? (i := 186) (by decide +kernel)
set_option maxRecDepth 20000 in
theorem qF_Tb_398 : (Jvm.Cond.fieldLink "Threeboxes" (398 : Nat) "Threeboxes$Curve" "luck" "I") ∈ lw_tbl := List.mem_of_getElem? (i := 187) (by decide +kernel)
set_option maxRecDepth 20000 in
theorem qSc_Cu_Oj : (Jvm.Cond.superclass "Threeboxes$Curve" "java/lang/Object") ∈ lw_tbl := List.mem_of_getElem? (i := 192) (by decide +kernel)
set_option maxRecDepth 20000 in
theorem qK_Tb_33 : (Jvm.Cond.classLink "Threeboxes" (33 : Nat) "Threeboxes$Group") ∈ lw_tbl := List.mem_of_getElem? (i := 193) (by decide +kernel)
set_option maxRecDepth 20000 in
theorem qO_Gr : (Jvm.Cond.instantiable "Threeboxes$Group" (6 : Nat)) ∈ lw_tbl := List.mem_of_getElem? (i := 194) (by decide +kernel)
set_option maxRecDepth 20000 in
theorem qM_Tb_35 : (Jvm.Cond.methodLink "Threeboxes" (35 : Nat) ({ cls := "Threeboxes$Group", name := "<init>", desc := "()V" } : Jvm.MethodName)) ∈ lw_tbl := List.mem_of_getElem? (i := 195) (by decide +kernel)
set_option maxRecDepth 20000 in
theorem qI_Gr_init : (Jvm.Cond.instanceMethod ({ cls := "Threeboxes$Group", name := "<init>", desc := "()V" } : Jvm.MethodName)) ∈ lw_tbl := List.mem_of_getElem? (i := 196) (by decide +kernel)
set_option maxRecDepth 20000 in
theorem qC_Gr_init : (Jvm.Cond.code ({ cls := "Threeboxes$Group", name := "<init>", desc := "()V" } : Jvm.MethodName) prog_3_method_1_code (2 : Nat) (Option.none : Option Jvm.ClassFile.FieldType)) ∈ lw_tbl := List.mem_of_getElem? (i := 197) rfl
set_option maxRecDepth 20000 in
theorem qM_Gr_3 : (Jvm.Cond.methodLink "Threeboxes$Group" (3 : Nat) ({ cls := "java/lang/Object", name := "<init>", desc := "()V" } : Jvm.MethodName)) ∈ lw_tbl := List.mem_of_getElem? (i := 198) (by decide +kernel)
set_option maxRecDepth 20000 in
theorem qF_Gr_9 : (Jvm.Cond.fieldLink "Threeboxes$Group" (9 : Nat) "Threeboxes$Group" "inverses" "[I") ∈ lw_tbl := List.mem_of_getElem? (i := 199) (by decide +kernel)
set_option maxRecDepth 20000 in
theorem qF_Gr_15 : (Jvm.Cond.fieldLink "Threeboxes$Group" (15 : Nat) "Threeboxes$Group" "given" "[I") ∈ lw_tbl := List.mem_of_getElem? (i := 200) (by decide +kernel)
set_option maxRecDepth 20000 in
theorem qF_Gr_18 : (Jvm.Cond.fieldLink "Threeboxes$Group" (18 : Nat) "Threeboxes$Group" "order" "I") ∈ lw_tbl := List.mem_of_getElem? (i := 201) (by decide +kernel)
set_option maxRecDepth 20000 in
theorem qF_Gr_22 : (Jvm.Cond.fieldLink "Threeboxes$Group" (22 : Nat) "Threeboxes$Group" "points" "I") ∈ lw_tbl := List.mem_of_getElem? (i := 202) (by decide +kernel)
set_option maxRecDepth 20000 in
theorem qF_Gr_25 : (Jvm.Cond.fieldLink "Threeboxes$Group" (25 : Nat) "Threeboxes$Group" "base" "I") ∈ lw_tbl := List.mem_of_getElem? (i := 203) (by decide +kernel)
set_option maxRecDepth 20000 in
theorem qF_Gr_28 : (Jvm.Cond.fieldLink "Threeboxes$Group" (28 : Nat) "Threeboxes$Group" "agreeing" "I") ∈ lw_tbl := List.mem_of_getElem? (i := 204) (by decide +kernel)
set_option maxRecDepth 20000 in
theorem qSc_Gr_Oj : (Jvm.Cond.superclass "Threeboxes$Group" "java/lang/Object") ∈ lw_tbl := List.mem_of_getElem? (i := 217) (by decide +kernel)
set_option maxRecDepth 20000 in
theorem qF_Tb_10 : (Jvm.Cond.fieldLink "Threeboxes" (10 : Nat) "Threeboxes" "keeperList" "Ljava/util/ArrayList;") ∈ lw_tbl := List.mem_of_getElem? (i := 218) (by decide +kernel)
set_option maxRecDepth 20000 in
theorem qF_Tb_16 : (Jvm.Cond.fieldLink "Threeboxes" (16 : Nat) "Threeboxes" "secretList" "Ljava/util/ArrayList;") ∈ lw_tbl := List.mem_of_getElem? (i := 219) (by decide +kernel)
set_option maxRecDepth 20000 in
theorem qF_Tb_22 : (Jvm.Cond.fieldLink "Threeboxes" (22 : Nat) "Threeboxes" "register" "LThreeboxes$Register;") ∈ lw_tbl := List.mem_of_getElem? (i := 220) (by decide +kernel)
set_option maxRecDepth 20000 in
theorem qF_Tb_29 : (Jvm.Cond.fieldLink "Threeboxes" (29 : Nat) "Threeboxes" "drawn" "LThreeboxes$Curve;") ∈ lw_tbl := List.mem_of_getElem? (i := 221) (by decide +kernel)
set_option maxRecDepth 20000 in
theorem qF_Tb_36 : (Jvm.Cond.fieldLink "Threeboxes" (36 : Nat) "Threeboxes" "group" "LThreeboxes$Group;") ∈ lw_tbl := List.mem_of_getElem? (i := 222) (by decide +kernel)
set_option maxRecDepth 20000 in
theorem qF_Tb_40 : (Jvm.Cond.fieldLink "Threeboxes" (40 : Nat) "Threeboxes" "chances" "[D") ∈ lw_tbl := List.mem_of_getElem? (i := 223) (by decide +kernel)
set_option maxRecDepth 20000 in
theorem qF_Tb_44 : (Jvm.Cond.fieldLink "Threeboxes" (44 : Nat) "Threeboxes" "day" "I") ∈ lw_tbl := List.mem_of_getElem? (i := 224) (by decide +kernel)
set_option maxRecDepth 20000 in
theorem qF_Tb_48 : (Jvm.Cond.fieldLink "Threeboxes" (48 : Nat) "Threeboxes" "refusals" "I") ∈ lw_tbl := List.mem_of_getElem? (i := 225) (by decide +kernel)
set_option maxRecDepth 20000 in
theorem qF_Tb_51 : (Jvm.Cond.fieldLink "Threeboxes" (51 : Nat) "Threeboxes" "failures" "I") ∈ lw_tbl := List.mem_of_getElem? (i := 226) (by decide +kernel)
set_option maxRecDepth 20000 in
theorem qF_Tb_54 : (Jvm.Cond.fieldLink "Threeboxes" (54 : Nat) "Threeboxes" "messages" "I") ∈ lw_tbl := List.mem_of_getElem? (i := 227) (by decide +kernel)
set_option maxRecDepth 20000 in
theorem qSc_Tb_Oj : (Jvm.Cond.superclass "Threeboxes" "java/lang/Object") ∈ lw_tbl := List.mem_of_getElem? (i := 248) (by decide +kernel)
set_option maxRecDepth 20000 in
theorem qA_double : (Jvm.Cond.arrayClass Jvm.ClassFile.FieldType.double) ∈ lw_tbl := List.mem_of_getElem? (i := 249) (by decide +kernel)
set_option maxRecDepth 20000 in
theorem qM_La_140 : (Jvm.Cond.methodLink "ThreeboxesLaw" (140 : Nat) ({ cls := "Threeboxes", name := "knock", desc := "()I" } : Jvm.MethodName)) ∈ lw_tbl := List.mem_of_getElem? (i := 250) (by decide +kernel)
set_option maxRecDepth 20000 in
theorem qI_Tb_knock : (Jvm.Cond.instanceMethod ({ cls := "Threeboxes", name := "knock", desc := "()I" } : Jvm.MethodName)) ∈ lw_tbl := List.mem_of_getElem? (i := 251) (by decide +kernel)
set_option maxRecDepth 20000 in
theorem qV_Tb_Tb_knock : (Jvm.Cond.selects "Threeboxes" ({ cls := "Threeboxes", name := "knock", desc := "()I" } : Jvm.MethodName) ({ cls := "Threeboxes", name := "knock", desc := "()I" } : Jvm.MethodName)) ∈ lw_tbl := List.mem_of_getElem? (i := 252) (by decide +kernel)
set_option maxRecDepth 20000 in
theorem qC_Tb_knock : (Jvm.Cond.code ({ cls := "Threeboxes", name := "knock", desc := "()I" } : Jvm.MethodName) prog_1_method_11_code (1 : Nat) (Option.some Jvm.ClassFile.FieldType.int)) ∈ lw_tbl := List.mem_of_getElem? (i := 253) rfl
set_option maxRecDepth 20000 in
theorem qM_La_181 : (Jvm.Cond.methodLink "ThreeboxesLaw" (181 : Nat) ({ cls := "Threeboxes", name := "isSound", desc := "()Z" } : Jvm.MethodName)) ∈ lw_tbl := List.mem_of_getElem? (i := 254) (by decide +kernel)
set_option maxRecDepth 20000 in
theorem qI_Tb_isSound : (Jvm.Cond.instanceMethod ({ cls := "Threeboxes", name := "isSound", desc := "()Z" } : Jvm.MethodName)) ∈ lw_tbl := List.mem_of_getElem? (i := 255) (by decide +kernel)
set_option maxRecDepth 20000 in
theorem qV_Tb_Tb_isSound : (Jvm.Cond.selects "Threeboxes" ({ cls := "Threeboxes", name := "isSound", desc := "()Z" } : Jvm.MethodName) ({ cls := "Threeboxes", name := "isSound", desc := "()Z" } : Jvm.MethodName)) ∈ lw_tbl := List.mem_of_getElem? (i := 256) (by decide +kernel)
set_option maxRecDepth 20000 in
theorem qC_Tb_isSound : (Jvm.Cond.code ({ cls := "Threeboxes", name := "isSound", desc := "()Z" } : Jvm.MethodName) prog_1_method_24_code (2 : Nat) (Option.some Jvm.ClassFile.FieldType.boolean)) ∈ lw_tbl := List.mem_of_getElem? (i := 257) rfl
set_option maxRecDepth 20000 in
theorem qM_Tb_68 : (Jvm.Cond.methodLink "Threeboxes" (68 : Nat) ({ cls := "java/util/ArrayList", name := "size", desc := "()I" } : Jvm.MethodName)) ∈ lw_tbl := List.mem_of_getElem? (i := 258) (by decide +kernel)
set_option maxRecDepth 20000 in
theorem qI_AL_size : (Jvm.Cond.instanceMethod ({ cls := "java/util/ArrayList", name := "size", desc := "()I" } : Jvm.MethodName)) ∈ lw_tbl := List.mem_of_getElem? (i := 259) (by decide +kernel)
set_option maxRecDepth 20000 in
theorem qV_AL_AL_size : (Jvm.Cond.selects "java/util/ArrayList" ({ cls := "java/util/ArrayList", name := "size", desc := "()I" } : Jvm.MethodName) ({ cls := "java/util/ArrayList", name := "size", desc := "()I" } : Jvm.MethodName)) ∈ lw_tbl := List.mem_of_getElem? (i := 260) (by decide +kernel)
set_option maxRecDepth 20000 in
theorem qC_AL_size : (Jvm.Cond.code ({ cls := "java/util/ArrayList", name := "size", desc := "()I" } : Jvm.MethodName) prog_37_method_8_code (1 : Nat) (Option.some Jvm.ClassFile.FieldType.int)) ∈ lw_tbl := List.mem_of_getElem? (i := 261) rfl
set_option maxRecDepth 20000 in
theorem qM_Tb_166 : (Jvm.Cond.methodLink "Threeboxes" (166 : Nat) ({ cls := "java/util/ArrayList", name := "get", desc := "(I)Ljava/lang/Object;" } : Jvm.MethodName)) ∈ lw_tbl := List.mem_of_getElem? (i := 262) (by decide +kernel)
set_option maxRecDepth 20000 in
theorem qI_AL_get : (Jvm.Cond.instanceMethod ({ cls := "java/util/ArrayList", name := "get", desc := "(I)Ljava/lang/Object;" } : Jvm.MethodName)) ∈ lw_tbl := List.mem_of_getElem? (i := 263) (by decide +kernel)
set_option maxRecDepth 20000 in
theorem qV_AL_AL_get : (Jvm.Cond.selects "java/util/ArrayList" ({ cls := "java/util/ArrayList", name := "get", desc := "(I)Ljava/lang/Object;" } : Jvm.MethodName) ({ cls := "java/util/ArrayList", name := "get", desc := "(I)Ljava/lang/Object;" } : Jvm.MethodName)) ∈ lw_tbl := List.mem_of_getElem? (i := 264) (by decide +kernel)
set_option maxRecDepth 20000 in
theorem qC_AL_get : (Jvm.Cond.code ({ cls := "java/util/ArrayList", name := "get", desc := "(I)Ljava/lang/Object;" } : Jvm.MethodName) prog_37_method_20_code (2 : Nat) (Option.some (Jvm.ClassFile.FieldType.object "java/lang/Object"))) ∈ lw_tbl := List.mem_of_getElem? (i := 265) rfl
set_option maxRecDepth 20000 in
theorem qM_AL_118 : (Jvm.Cond.methodLink "java/util/ArrayList" (118 : Nat) ({ cls := "java/util/Objects", name := "checkIndex", desc := "(II)I" } : Jvm.MethodName)) ∈ lw_tbl := List.mem_of_getElem? (i := 266) (by decide +kernel)
set_option maxRecDepth 20000 in
theorem qS_Ob_checkIndex : (Jvm.Cond.static ({ cls := "java/util/Objects", name := "checkIndex", desc := "(II)I" } : Jvm.MethodName)) ∈ lw_tbl := List.mem_of_getElem? (i := 267) (by decide +kernel)
set_option maxRecDepth 20000 in
theorem qC_Ob_checkIndex : (Jvm.Cond.code ({ cls := "java/util/Objects", name := "checkIndex", desc := "(II)I" } : Jvm.MethodName) prog_41_method_17_code (2 : Nat) (Option.some Jvm.ClassFile.FieldType.int)) ∈ lw_tbl := List.mem_of_getElem? (i := 268) rfl
set_option maxRecDepth 20000 in
theorem qM_Ob_105 : (Jvm.Cond.methodLink "java/util/Objects" (105 : Nat) ({ cls := "jdk/internal/util/Preconditions", name := "checkIndex", desc := "(IILjava/util/function/BiFunction;)I" } : Jvm.MethodName)) ∈ lw_tbl := List.mem_of_getElem? (i := 269) (by decide +kernel)
set_option maxRecDepth 20000 in
theorem qS_Pr_checkIndex : (Jvm.Cond.static ({ cls := "jdk/internal/util/Preconditions", name := "checkIndex", desc := "(IILjava/util/function/BiFunction;)I" } : Jvm.MethodName)) ∈ lw_tbl := List.mem_of_getElem? (i := 270) (by decide +kernel)
set_option maxRecDepth 20000 in
theorem qC_Pr_checkIndex : (Jvm.Cond.code ({ cls := "jdk/internal/util/Preconditions", name := "checkIndex", desc := "(IILjava/util/function/BiFunction;)I" } : Jvm.MethodName) prog_45_method_11_code (3 : Nat) (Option.some Jvm.ClassFile.FieldType.int)) ∈ lw_tbl := List.mem_of_getElem? (i := 271) rfl
set_option maxRecDepth 20000 in
theorem qM_AL_123 : (Jvm.Cond.methodLink "java/util/ArrayList" (123 : Nat) ({ cls := "java/util/ArrayList", name := "elementData", desc := "(I)Ljava/lang/Object;" } : Jvm.MethodName)) ∈ lw_tbl := List.mem_of_getElem? (i := 272) (by decide +kernel)
set_option maxRecDepth 20000 in
theorem qI_AL_elementData : (Jvm.Cond.instanceMethod ({ cls := "java/util/ArrayList", name := "elementData", desc := "(I)Ljava/lang/Object;" } : Jvm.MethodName)) ∈ lw_tbl := List.mem_of_getElem? (i := 273) (by decide +kernel)
set_option maxRecDepth 20000 in
theorem qV_AL_AL_elementData : (Jvm.Cond.selects "java/util/ArrayList" ({ cls := "java/util/ArrayList", name := "elementData", desc := "(I)Ljava/lang/Object;" } : Jvm.MethodName) ({ cls := "java/util/ArrayList", name := "elementData", desc := "(I)Ljava/lang/Object;" } : Jvm.MethodName)) ∈ lw_tbl := List.mem_of_getElem? (i := 274) (by decide +kernel)
set_option maxRecDepth 20000 in
theorem qC_AL_elementData : (Jvm.Cond.code ({ cls := "java/util/ArrayList", name := "elementData", desc := "(I)Ljava/lang/Object;" } : Jvm.MethodName) prog_37_method_18_code (2 : Nat) (Option.some (Jvm.ClassFile.FieldType.object "java/lang/Object"))) ∈ lw_tbl := List.mem_of_getElem? (i := 275) rfl
set_option maxRecDepth 20000 in
theorem qK_Tb_77 : (Jvm.Cond.classLink "Threeboxes" (77 : Nat) "Threeboxes$Keeper") ∈ lw_tbl := List.mem_of_getElem? (i := 276) (by decide +kernel)
set_option maxRecDepth 20000 in
theorem qM_Tb_90 : (Jvm.Cond.methodLink "Threeboxes" (90 : Nat) ({ cls := "Threeboxes", name := "isNumber", desc := "(I)Z" } : Jvm.MethodName)) ∈ lw_tbl := List.mem_of_getElem? (i := 277) (by decide +kernel)
set_option maxRecDepth 20000 in
theorem qS_Tb_isNumber : (Jvm.Cond.static ({ cls := "Threeboxes", name := "isNumber", desc := "(I)Z" } : Jvm.MethodName)) ∈ lw_tbl := List.mem_of_getElem? (i := 278) (by decide +kernel)
set_option maxRecDepth 20000 in
theorem qC_Tb_isNumber : (Jvm.Cond.code ({ cls := "Threeboxes", name := "isNumber", desc := "(I)Z" } : Jvm.MethodName) prog_1_method_28_code (1 : Nat) (Option.some Jvm.ClassFile.FieldType.boolean)) ∈ lw_tbl := List.mem_of_getElem? (i := 279) rfl
set_option maxRecDepth 20000 in
theorem qM_Tb_57 : (Jvm.Cond.methodLink "Threeboxes" (57 : Nat) ({ cls := "Threeboxes", name := "isFrom", desc := "(III)Z" } : Jvm.MethodName)) ∈ lw_tbl := List.mem_of_getElem? (i := 280) (by decide +kernel)
set_option maxRecDepth 20000 in
theorem qS_Tb_isFrom : (Jvm.Cond.static ({ cls := "Threeboxes", name := "isFrom", desc := "(III)Z" } : Jvm.MethodName)) ∈ lw_tbl := List.mem_of_getElem? (i := 281) (by decide +kernel)
set_option maxRecDepth 20000 in
theorem qC_Tb_isFrom : (Jvm.Cond.code ({ cls := "Threeboxes", name := "isFrom", desc := "(III)Z" } : Jvm.MethodName) prog_1_method_27_code (3 : Nat) (Option.some Jvm.ClassFile.FieldType.boolean)) ∈ lw_tbl := List.mem_of_getElem? (i := 282) rfl
set_option maxRecDepth 20000 in
theorem qK_Tb_115 : (Jvm.Cond.classLink "Threeboxes" (115 : Nat) "Threeboxes$Secret") ∈ lw_tbl := List.mem_of_getElem? (i := 283) (by decide +kernel)
set_option maxRecDepth 20000 in
theorem qM_Tb_307 : (Jvm.Cond.methodLink "Threeboxes" (307 : Nat) ({ cls := "Threeboxes", name := "isSecretSound", desc := "(LThreeboxes$Secret;)Z" } : Jvm.MethodName)) ∈ lw_tbl := List.mem_of_getElem? (i := 284) (by decide +kernel)
set_option maxRecDepth 20000 in
theorem qI_Tb_isSecretSound : (Jvm.Cond.instanceMethod ({ cls := "Threeboxes", name := "isSecretSound", desc := "(LThreeboxes$Secret;)Z" } : Jvm.MethodName)) ∈ lw_tbl := List.mem_of_getElem? (i := 286) (by decide +kernel)
set_option maxRecDepth 20000 in
theorem qC_Tb_isSecretSound : (Jvm.Cond.code ({ cls := "Threeboxes", name := "isSecretSound", desc := "(LThreeboxes$Secret;)Z" } : Jvm.MethodName) prog_1_method_60_code (3 : Nat) (Option.some Jvm.ClassFile.FieldType.boolean)) ∈ lw_tbl := List.mem_of_getElem? (i := 287) rfl
set_option maxRecDepth 20000 in
theorem qM_Tb_351 : (Jvm.Cond.methodLink "Threeboxes" (351 : Nat) ({ cls := "Threeboxes$Group", name := "begin", desc := "(I)V" } : Jvm.MethodName)) ∈ lw_tbl := List.mem_of_getElem? (i := 288) (by decide +kernel)
set_option maxRecDepth 20000 in
theorem qI_Gr_begin : (Jvm.Cond.instanceMethod ({ cls := "Threeboxes$Group", name := "begin", desc := "(I)V" } : Jvm.MethodName)) ∈ lw_tbl := List.mem_of_getElem? (i := 289) (by decide +kernel)
set_option maxRecDepth 20000 in
theorem qV_Gr_Gr_begin : (Jvm.Cond.selects "Threeboxes$Group" ({ cls := "Threeboxes$Group", name := "begin", desc := "(I)V" } : Jvm.MethodName) ({ cls := "Threeboxes$Group", name := "begin", desc := "(I)V" } : Jvm.MethodName)) ∈ lw_tbl := List.mem_of_getElem? (i := 290) (by decide +kernel)
set_option maxRecDepth 20000 in
theorem qC_Gr_begin : (Jvm.Cond.code ({ cls := "Threeboxes$Group", name := "begin", desc := "(I)V" } : Jvm.MethodName) prog_3_method_2_code (2 : Nat) (Option.none : Option Jvm.ClassFile.FieldType)) ∈ lw_tbl := List.mem_of_getElem? (i := 291) rfl
set_option maxRecDepth 20000 in
theorem qM_Tb_270 : (Jvm.Cond.methodLink "Threeboxes" (270 : Nat) ({ cls := "Threeboxes$Secret", name := "has", desc := "(I)Z" } : Jvm.MethodName)) ∈ lw_tbl := List.mem_of_getElem? (i := 292) (by decide +kernel)
set_option maxRecDepth 20000 in
theorem qI_Se_has : (Jvm.Cond.instanceMethod ({ cls := "Threeboxes$Secret", name := "has", desc := "(I)Z" } : Jvm.MethodName)) ∈ lw_tbl := List.mem_of_getElem? (i := 293) (by decide +kernel)
set_option maxRecDepth 20000 in
theorem qV_Se_Se_has : (Jvm.Cond.selects "Threeboxes$Secret" ({ cls := "Threeboxes$Secret", name := "has", desc := "(I)Z" } : Jvm.MethodName) ({ cls := "Threeboxes$Secret", name := "has", desc := "(I)Z" } : Jvm.MethodName)) ∈ lw_tbl := List.mem_of_getElem? (i := 294) (by decide +kernel)
set_option maxRecDepth 20000 in
theorem qC_Se_has : (Jvm.Cond.code ({ cls := "Threeboxes$Secret", name := "has", desc := "(I)Z" } : Jvm.MethodName) prog_6_method_4_code (2 : Nat) (Option.some Jvm.ClassFile.FieldType.boolean)) ∈ lw_tbl := List.mem_of_getElem? (i := 295) rfl
set_option maxRecDepth 20000 in
theorem qM_Se_38 : (Jvm.Cond.methodLink "Threeboxes$Secret" (38 : Nat) ({ cls := "Threeboxes$Secret", name := "epochOf", desc := "(I)I" } : Jvm.MethodName)) ∈ lw_tbl := List.mem_of_getElem? (i := 296) (by decide +kernel)
set_option maxRecDepth 20000 in
theorem qI_Se_epochOf : (Jvm.Cond.instanceMethod ({ cls := "Threeboxes$Secret", name := "epochOf", desc := "(I)I" } : Jvm.MethodName)) ∈ lw_tbl := List.mem_of_getElem? (i := 297) (by decide +kernel)
set_option maxRecDepth 20000 in
theorem qV_Se_Se_epochOf : (Jvm.Cond.selects "Threeboxes$Secret" ({ cls := "Threeboxes$Secret", name := "epochOf", desc := "(I)I" } : Jvm.MethodName) ({ cls := "Threeboxes$Secret", name := "epochOf", desc := "(I)I" } : Jvm.MethodName)) ∈ lw_tbl := List.mem_of_getElem? (i := 298) (by decide +kernel)
set_option maxRecDepth 20000 in
theorem qC_Se_epochOf : (Jvm.Cond.code ({ cls := "Threeboxes$Secret", name := "epochOf", desc := "(I)I" } : Jvm.MethodName) prog_6_method_3_code (2 : Nat) (Option.some Jvm.ClassFile.FieldType.int)) ∈ lw_tbl := List.mem_of_getElem? (i := 299) rfl
set_option maxRecDepth 20000 in
theorem qM_Tb_155 : (Jvm.Cond.methodLink "Threeboxes" (155 : Nat) ({ cls := "Threeboxes$Secret", name := "shareOf", desc := "(I)I" } : Jvm.MethodName)) ∈ lw_tbl := List.mem_of_getElem? (i := 300) (by decide +kernel)
set_option maxRecDepth 20000 in
theorem qI_Se_shareOf : (Jvm.Cond.instanceMethod ({ cls := "Threeboxes$Secret", name := "shareOf", desc := "(I)I" } : Jvm.MethodName)) ∈ lw_tbl := List.mem_of_getElem? (i := 301) (by decide +kernel)
set_option maxRecDepth 20000 in
theorem qV_Se_Se_shareOf : (Jvm.Cond.selects "Threeboxes$Secret" ({ cls := "Threeboxes$Secret", name := "shareOf", desc := "(I)I" } : Jvm.MethodName) ({ cls := "Threeboxes$Secret", name := "shareOf", desc := "(I)I" } : Jvm.MethodName)) ∈ lw_tbl := List.mem_of_getElem? (i := 302) (by decide +kernel)
set_option maxRecDepth 20000 in
theorem qC_Se_shareOf : (Jvm.Cond.code ({ cls := "Threeboxes$Secret", name := "shareOf", desc := "(I)I" } : Jvm.MethodName) prog_6_method_2_code (2 : Nat) (Option.some Jvm.ClassFile.FieldType.int)) ∈ lw_tbl := List.mem_of_getElem? (i := 303) rfl
set_option maxRecDepth 20000 in
theorem qM_Tb_395 : (Jvm.Cond.methodLink "Threeboxes" (395 : Nat) ({ cls := "Threeboxes$Secret", name := "epochOf", desc := "(I)I" } : Jvm.MethodName)) ∈ lw_tbl := List.mem_of_getElem? (i := 304) (by decide +kernel)
set_option maxRecDepth 20000 in
theorem qM_Tb_179 : (Jvm.Cond.methodLink "Threeboxes" (179 : Nat) ({ cls := "Threeboxes$Secret", name := "isCurrent", desc := "(I)Z" } : Jvm.MethodName)) ∈ lw_tbl := List.mem_of_getElem? (i := 305) (by decide +kernel)
set_option maxRecDepth 20000 in
theorem qI_Se_isCurrent : (Jvm.Cond.instanceMethod ({ cls := "Threeboxes$Secret", name := "isCurrent", desc := "(I)Z" } : Jvm.MethodName)) ∈ lw_tbl := List.mem_of_getElem? (i := 306) (by decide +kernel)
set_option maxRecDepth 20000 in
theorem qV_Se_Se_isCurrent : (Jvm.Cond.selects "Threeboxes$Secret" ({ cls := "Threeboxes$Secret", name := "isCurrent", desc := "(I)Z" } : Jvm.MethodName) ({ cls := "Threeboxes$Secret", name := "isCurrent", desc := "(I)Z" } : Jvm.MethodName)) ∈ lw_tbl := List.mem_of_getElem? (i := 307) (by decide +kernel)
set_option maxRecDepth 20000 in
theorem qC_Se_isCurrent : (Jvm.Cond.code ({ cls := "Threeboxes$Secret", name := "isCurrent", desc := "(I)Z" } : Jvm.MethodName) prog_6_method_5_code (2 : Nat) (Option.some Jvm.ClassFile.FieldType.boolean)) ∈ lw_tbl := List.mem_of_getElem? (i := 308) rfl
set_option maxRecDepth 20000 in
theorem qM_Se_42 : (Jvm.Cond.methodLink "Threeboxes$Secret" (42 : Nat) ({ cls := "Threeboxes$Secret", name := "has", desc := "(I)Z" } : Jvm.MethodName)) ∈ lw_tbl := List.mem_of_getElem? (i := 309) (by decide +kernel)
set_option maxRecDepth 20000 in
theorem qM_Tb_128 : (Jvm.Cond.methodLink "Threeboxes" (128 : Nat) ({ cls := "Threeboxes", name := "pointOf", desc := "(I)I" } : Jvm.MethodName)) ∈ lw_tbl := List.mem_of_getElem? (i := 310) (by decide +kernel)
set_option maxRecDepth 20000 in
theorem qS_Tb_pointOf : (Jvm.Cond.static ({ cls := "Threeboxes", name := "pointOf", desc := "(I)I" } : Jvm.MethodName)) ∈ lw_tbl := List.mem_of_getElem? (i := 311) (by decide +kernel)
set_option maxRecDepth 20000 in
theorem qC_Tb_pointOf : (Jvm.Cond.code ({ cls := "Threeboxes", name := "pointOf", desc := "(I)I" } : Jvm.MethodName) prog_1_method_30_code (1 : Nat) (Option.some Jvm.ClassFile.FieldType.int)) ∈ lw_tbl := List.mem_of_getElem? (i := 312) rfl
set_option maxRecDepth 20000 in
theorem qM_Tb_288 : (Jvm.Cond.methodLink "Threeboxes" (288 : Nat) ({ cls := "Threeboxes$Group", name := "give", desc := "(II)V" } : Jvm.MethodName)) ∈ lw_tbl := List.mem_of_getElem? (i := 313) (by decide +kernel)
set_option maxRecDepth 20000 in
theorem qI_Gr_give : (Jvm.Cond.instanceMethod ({ cls := "Threeboxes$Group", name := "give", desc := "(II)V" } : Jvm.MethodName)) ∈ lw_tbl := List.mem_of_getElem? (i := 314) (by decide +kernel)
set_option maxRecDepth 20000 in
theorem qV_Gr_Gr_give : (Jvm.Cond.selects "Threeboxes$Group" ({ cls := "Threeboxes$Group", name := "give", desc := "(II)V" } : Jvm.MethodName) ({ cls := "Threeboxes$Group", name := "give", desc := "(II)V" } : Jvm.MethodName)) ∈ lw_tbl := List.mem_of_getElem? (i := 315) (by decide +kernel)
set_option maxRecDepth 20000 in
theorem qC_Gr_give : (Jvm.Cond.code ({ cls := "Threeboxes$Group", name := "give", desc := "(II)V" } : Jvm.MethodName) prog_3_method_3_code (3 : Nat) (Option.none : Option Jvm.ClassFile.FieldType)) ∈ lw_tbl := List.mem_of_getElem? (i := 316) rfl
set_option maxRecDepth 20000 in
theorem qM_Gr_31 : (Jvm.Cond.methodLink "Threeboxes$Group" (31 : Nat) ({ cls := "java/lang/Math", name := "floorMod", desc := "(II)I" } : Jvm.MethodName)) ∈ lw_tbl := List.mem_of_getElem? (i := 317) (by decide +kernel)
set_option maxRecDepth 20000 in
theorem qS_Ma_floorMod : (Jvm.Cond.static ({ cls := "java/lang/Math", name := "floorMod", desc := "(II)I" } : Jvm.MethodName)) ∈ lw_tbl := List.mem_of_getElem? (i := 318) (by decide +kernel)
set_option maxRecDepth 20000 in
theorem qC_Ma_floorMod : (Jvm.Cond.code ({ cls := "java/lang/Math", name := "floorMod", desc := "(II)I" } : Jvm.MethodName) prog_24_method_50_code (3 : Nat) (Option.some Jvm.ClassFile.FieldType.int)) ∈ lw_tbl := List.mem_of_getElem? (i := 319) rfl
set_option maxRecDepth 20000 in
theorem qM_Tb_291 : (Jvm.Cond.methodLink "Threeboxes" (291 : Nat) ({ cls := "Threeboxes$Group", name := "isOnOneCurve", desc := "()Z" } : Jvm.MethodName)) ∈ lw_tbl := List.mem_of_getElem? (i := 320) (by decide +kernel)
set_option maxRecDepth 20000 in
theorem qI_Gr_isOnOneCurve : (Jvm.Cond.instanceMethod ({ cls := "Threeboxes$Group", name := "isOnOneCurve", desc := "()Z" } : Jvm.MethodName)) ∈ lw_tbl := List.mem_of_getElem? (i := 321) (by decide +kernel)
set_option maxRecDepth 20000 in
theorem qV_Gr_Gr_isOnOneCurve : (Jvm.Cond.selects "Threeboxes$Group" ({ cls := "Threeboxes$Group", name := "isOnOneCurve", desc := "()Z" } : Jvm.MethodName) ({ cls := "Threeboxes$Group", name := "isOnOneCurve", desc := "()Z" } : Jvm.MethodName)) ∈ lw_tbl := List.mem_of_getElem? (i := 322) (by decide +kernel)
set_option maxRecDepth 20000 in
theorem qC_Gr_isOnOneCurve : (Jvm.Cond.code ({ cls := "Threeboxes$Group", name := "isOnOneCurve", desc := "()Z" } : Jvm.MethodName) prog_3_method_5_code (3 : Nat) (Option.some Jvm.ClassFile.FieldType.boolean)) ∈ lw_tbl := List.mem_of_getElem? (i := 323) rfl
set_option maxRecDepth 20000 in
theorem qMn_Gr_50 : (Jvm.Cond.methodLinkNest "Threeboxes$Group" (50 : Nat) ({ cls := "Threeboxes", name := "isIn", desc := "(II)Z" } : Jvm.MethodName) "Threeboxes") ∈ lw_tbl := List.mem_of_getElem? (i := 324) (by decide +kernel)
set_option maxRecDepth 20000 in
theorem qS_Tb_isIn : (Jvm.Cond.static ({ cls := "Threeboxes", name := "isIn", desc := "(II)Z" } : Jvm.MethodName)) ∈ lw_tbl := List.mem_of_getElem? (i := 325) (by decide +kernel)
set_option maxRecDepth 20000 in
theorem qC_Tb_isIn : (Jvm.Cond.code ({ cls := "Threeboxes", name := "isIn", desc := "(II)Z" } : Jvm.MethodName) prog_1_method_29_code (2 : Nat) (Option.some Jvm.ClassFile.FieldType.boolean)) ∈ lw_tbl := List.mem_of_getElem? (i := 326) rfl
set_option maxRecDepth 20000 in
theorem qM_Gr_37 : (Jvm.Cond.methodLink "Threeboxes$Group" (37 : Nat) ({ cls := "java/lang/Integer", name := "bitCount", desc := "(I)I" } : Jvm.MethodName)) ∈ lw_tbl := List.mem_of_getElem? (i := 327) (by decide +kernel)
set_option maxRecDepth 20000 in
theorem qS_In_bitCount : (Jvm.Cond.static ({ cls := "java/lang/Integer", name := "bitCount", desc := "(I)I" } : Jvm.MethodName)) ∈ lw_tbl := List.mem_of_getElem? (i := 328) (by decide +kernel)
set_option maxRecDepth 20000 in
theorem qC_In_bitCount : (Jvm.Cond.code ({ cls := "java/lang/Integer", name := "bitCount", desc := "(I)I" } : Jvm.MethodName) prog_22_method_49_code (1 : Nat) (Option.some Jvm.ClassFile.FieldType.int)) ∈ lw_tbl := List.mem_of_getElem? (i := 329) rfl
set_option maxRecDepth 20000 in
theorem qX_In_265 : (Jvm.Cond.constant "java/lang/Integer" (265 : Nat) (1431655765 : Int32)) ∈ lw_tbl := List.mem_of_getElem? (i := 330) (by decide +kernel)
set_option maxRecDepth 20000 in
theorem qX_In_266 : (Jvm.Cond.constant "java/lang/Integer" (266 : Nat) (858993459 : Int32)) ∈ lw_tbl := List.mem_of_getElem? (i := 331) (by decide +kernel)
set_option maxRecDepth 20000 in
theorem qX_In_267 : (Jvm.Cond.constant "java/lang/Integer" (267 : Nat) (252645135 : Int32)) ∈ lw_tbl := List.mem_of_getElem? (i := 332) (by decide +kernel)
set_option maxRecDepth 20000 in
theorem qM_Gr_43 : (Jvm.Cond.methodLink "Threeboxes$Group" (43 : Nat) ({ cls := "Threeboxes$Group", name := "agreeingWith", desc := "(I)I" } : Jvm.MethodName)) ∈ lw_tbl := List.mem_of_getElem? (i := 333) (by decide +kernel)
set_option maxRecDepth 20000 in
theorem qI_Gr_agreeingWith : (Jvm.Cond.instanceMethod ({ cls := "Threeboxes$Group", name := "agreeingWith", desc := "(I)I" } : Jvm.MethodName)) ∈ lw_tbl := List.mem_of_getElem? (i := 335) (by decide +kernel)
set_option maxRecDepth 20000 in
theorem qC_Gr_agreeingWith : (Jvm.Cond.code ({ cls := "Threeboxes$Group", name := "agreeingWith", desc := "(I)I" } : Jvm.MethodName) prog_3_method_12_code (4 : Nat) (Option.some Jvm.ClassFile.FieldType.int)) ∈ lw_tbl := List.mem_of_getElem? (i := 336) rfl
set_option maxRecDepth 20000 in
theorem qM_Gr_57 : (Jvm.Cond.methodLink "Threeboxes$Group" (57 : Nat) ({ cls := "Threeboxes$Group", name := "through", desc := "(II)I" } : Jvm.MethodName)) ∈ lw_tbl := List.mem_of_getElem? (i := 337) (by decide +kernel)
set_option maxRecDepth 20000 in
theorem qI_Gr_through : (Jvm.Cond.instanceMethod ({ cls := "Threeboxes$Group", name := "through", desc := "(II)I" } : Jvm.MethodName)) ∈ lw_tbl := List.mem_of_getElem? (i := 339) (by decide +kernel)
set_option maxRecDepth 20000 in
theorem qC_Gr_through : (Jvm.Cond.code ({ cls := "Threeboxes$Group", name := "through", desc := "(II)I" } : Jvm.MethodName) prog_3_method_13_code (7 : Nat) (Option.some Jvm.ClassFile.FieldType.int)) ∈ lw_tbl := List.mem_of_getElem? (i := 340) rfl
set_option maxRecDepth 20000 in
theorem qM_Tb_311 : (Jvm.Cond.methodLink "Threeboxes" (311 : Nat) ({ cls := "Threeboxes$Register", name := "isWhole", desc := "()Z" } : Jvm.MethodName)) ∈ lw_tbl := List.mem_of_getElem? (i := 341) (by decide +kernel)
set_option maxRecDepth 20000 in
theorem qI_Re_isWhole : (Jvm.Cond.instanceMethod ({ cls := "Threeboxes$Register", name := "isWhole", desc := "()Z" } : Jvm.MethodName)) ∈ lw_tbl := List.mem_of_getElem? (i := 342) (by decide +kernel)
set_option maxRecDepth 20000 in
theorem qV_Re_Re_isWhole : (Jvm.Cond.selects "Threeboxes$Register" ({ cls := "Threeboxes$Register", name := "isWhole", desc := "()Z" } : Jvm.MethodName) ({ cls := "Threeboxes$Register", name := "isWhole", desc := "()Z" } : Jvm.MethodName)) ∈ lw_tbl := List.mem_of_getElem? (i := 343) (by decide +kernel)
set_option maxRecDepth 20000 in
theorem qC_Re_isWhole : (Jvm.Cond.code ({ cls := "Threeboxes$Register", name := "isWhole", desc := "()Z" } : Jvm.MethodName) prog_5_method_13_code (2 : Nat) (Option.some Jvm.ClassFile.FieldType.boolean)) ∈ lw_tbl := List.mem_of_getElem? (i := 344) rfl
set_option maxRecDepth 20000 in
theorem qM_Re_32 : (Jvm.Cond.methodLink "Threeboxes$Register" (32 : Nat) ({ cls := "Threeboxes$Register", name := "leafOf", desc := "(I)I" } : Jvm.MethodName)) ∈ lw_tbl := List.mem_of_getElem? (i := 345) (by decide +kernel)
set_option maxRecDepth 20000 in
theorem qI_Re_leafOf : (Jvm.Cond.instanceMethod ({ cls := "Threeboxes$Register", name := "leafOf", desc := "(I)I" } : Jvm.MethodName)) ∈ lw_tbl := List.mem_of_getElem? (i := 346) (by decide +kernel)
set_option maxRecDepth 20000 in
theorem qV_Re_Re_leafOf : (Jvm.Cond.selects "Threeboxes$Register" ({ cls := "Threeboxes$Register", name := "leafOf", desc := "(I)I" } : Jvm.MethodName) ({ cls := "Threeboxes$Register", name := "leafOf", desc := "(I)I" } : Jvm.MethodName)) ∈ lw_tbl := List.mem_of_getElem? (i := 347) (by decide +kernel)
set_option maxRecDepth 20000 in
theorem qC_Re_leafOf : (Jvm.Cond.code ({ cls := "Threeboxes$Register", name := "leafOf", desc := "(I)I" } : Jvm.MethodName) prog_5_method_9_code (2 : Nat) (Option.some Jvm.ClassFile.FieldType.int)) ∈ lw_tbl := List.mem_of_getElem? (i := 348) rfl
set_option maxRecDepth 20000 in
theorem qM_Re_58 : (Jvm.Cond.methodLink "Threeboxes$Register" (58 : Nat) ({ cls := "Threeboxes$Register", name := "comesToRoot", desc := "(II)Z" } : Jvm.MethodName)) ∈ lw_tbl := List.mem_of_getElem? (i := 349) (by decide +kernel)
set_option maxRecDepth 20000 in
theorem qI_Re_comesToRoot : (Jvm.Cond.instanceMethod ({ cls := "Threeboxes$Register", name := "comesToRoot", desc := "(II)Z" } : Jvm.MethodName)) ∈ lw_tbl := List.mem_of_getElem? (i := 350) (by decide +kernel)
set_option maxRecDepth 20000 in
theorem qV_Re_Re_comesToRoot : (Jvm.Cond.selects "Threeboxes$Register" ({ cls := "Threeboxes$Register", name := "comesToRoot", desc := "(II)Z" } : Jvm.MethodName) ({ cls := "Threeboxes$Register", name := "comesToRoot", desc := "(II)Z" } : Jvm.MethodName)) ∈ lw_tbl := List.mem_of_getElem? (i := 351) (by decide +kernel)
set_option maxRecDepth 20000 in
theorem qC_Re_comesToRoot : (Jvm.Cond.code ({ cls := "Threeboxes$Register", name := "comesToRoot", desc := "(II)Z" } : Jvm.MethodName) prog_5_method_12_code (6 : Nat) (Option.some Jvm.ClassFile.FieldType.boolean)) ∈ lw_tbl := List.mem_of_getElem? (i := 352) rfl
set_option maxRecDepth 20000 in
theorem qM_Re_47 : (Jvm.Cond.methodLink "Threeboxes$Register" (47 : Nat) ({ cls := "Threeboxes$Register", name := "beside", desc := "(II)I" } : Jvm.MethodName)) ∈ lw_tbl := List.mem_of_getElem? (i := 353) (by decide +kernel)
set_option maxRecDepth 20000 in
theorem qI_Re_beside : (Jvm.Cond.instanceMethod ({ cls := "Threeboxes$Register", name := "beside", desc := "(II)I" } : Jvm.MethodName)) ∈ lw_tbl := List.mem_of_getElem? (i := 354) (by decide +kernel)
set_option maxRecDepth 20000 in
theorem qV_Re_Re_beside : (Jvm.Cond.selects "Threeboxes$Register" ({ cls := "Threeboxes$Register", name := "beside", desc := "(II)I" } : Jvm.MethodName) ({ cls := "Threeboxes$Register", name := "beside", desc := "(II)I" } : Jvm.MethodName)) ∈ lw_tbl := List.mem_of_getElem? (i := 355) (by decide +kernel)
set_option maxRecDepth 20000 in
theorem qC_Re_beside : (Jvm.Cond.code ({ cls := "Threeboxes$Register", name := "beside", desc := "(II)I" } : Jvm.MethodName) prog_5_method_11_code (3 : Nat) (Option.some Jvm.ClassFile.FieldType.int)) ∈ lw_tbl := List.mem_of_getElem? (i := 356) rfl
set_option maxRecDepth 20000 in
theorem qMn_Re_50 : (Jvm.Cond.methodLinkNest "Threeboxes$Register" (50 : Nat) ({ cls := "Threeboxes", name := "isIn", desc := "(II)Z" } : Jvm.MethodName) "Threeboxes") ∈ lw_tbl := List.mem_of_getElem? (i := 357) (by decide +kernel)
set_option maxRecDepth 20000 in
theorem qM_Re_54 : (Jvm.Cond.methodLink "Threeboxes$Register" (54 : Nat) ({ cls := "Threeboxes$Register", name := "root", desc := "()I" } : Jvm.MethodName)) ∈ lw_tbl := List.mem_of_getElem? (i := 358) (by decide +kernel)
set_option maxRecDepth 20000 in
theorem qI_Re_root : (Jvm.Cond.instanceMethod ({ cls := "Threeboxes$Register", name := "root", desc := "()I" } : Jvm.MethodName)) ∈ lw_tbl := List.mem_of_getElem? (i := 359) (by decide +kernel)
set_option maxRecDepth 20000 in
theorem qV_Re_Re_root : (Jvm.Cond.selects "Threeboxes$Register" ({ cls := "Threeboxes$Register", name := "root", desc := "()I" } : Jvm.MethodName) ({ cls := "Threeboxes$Register", name := "root", desc := "()I" } : Jvm.MethodName)) ∈ lw_tbl := List.mem_of_getElem? (i := 360) (by decide +kernel)
set_option maxRecDepth 20000 in
theorem qC_Re_root : (Jvm.Cond.code ({ cls := "Threeboxes$Register", name := "root", desc := "()I" } : Jvm.MethodName) prog_5_method_8_code (1 : Nat) (Option.some Jvm.ClassFile.FieldType.int)) ∈ lw_tbl := List.mem_of_getElem? (i := 361) rfl
set_option maxRecDepth 20000 in
theorem qM_La_186 : (Jvm.Cond.methodLink "ThreeboxesLaw" (186 : Nat) ({ cls := "Threeboxes", name := "digest", desc := "()J" } : Jvm.MethodName)) ∈ lw_tbl := List.mem_of_getElem? (i := 362) (by decide +kernel)
set_option maxRecDepth 20000 in
theorem qI_Tb_digest : (Jvm.Cond.instanceMethod ({ cls := "Threeboxes", name := "digest", desc := "()J" } : Jvm.MethodName)) ∈ lw_tbl := List.mem_of_getElem? (i := 363) (by decide +kernel)
set_option maxRecDepth 20000 in
theorem qV_Tb_Tb_digest : (Jvm.Cond.selects "Threeboxes" ({ cls := "Threeboxes", name := "digest", desc := "()J" } : Jvm.MethodName) ({ cls := "Threeboxes", name := "digest", desc := "()J" } : Jvm.MethodName)) ∈ lw_tbl := List.mem_of_getElem? (i := 364) (by decide +kernel)
set_option maxRecDepth 20000 in
theorem qC_Tb_digest : (Jvm.Cond.code ({ cls := "Threeboxes", name := "digest", desc := "()J" } : Jvm.MethodName) prog_1_method_25_code (5 : Nat) (Option.some Jvm.ClassFile.FieldType.long)) ∈ lw_tbl := List.mem_of_getElem? (i := 365) rfl
set_option maxRecDepth 20000 in
theorem qXl_Tb_314 : (Jvm.Cond.constantLong "Threeboxes" (314 : Nat) (7507 : Int64)) ∈ lw_tbl := List.mem_of_getElem? (i := 366) (by decide +kernel)
set_option maxRecDepth 20000 in
theorem qXl_Tb_316 : (Jvm.Cond.constantLong "Threeboxes" (316 : Nat) (31 : Int64)) ∈ lw_tbl := List.mem_of_getElem? (i := 367) (by decide +kernel)
set_option maxRecDepth 20000 in
theorem qM_Tb_250 : (Jvm.Cond.methodLink "Threeboxes" (250 : Nat) ({ cls := "Threeboxes", name := "tellOfBank", desc := "(I)I" } : Jvm.MethodName)) ∈ lw_tbl := List.mem_of_getElem? (i := 368) (by decide +kernel)
set_option maxRecDepth 20000 in
theorem qI_Tb_tellOfBank : (Jvm.Cond.instanceMethod ({ cls := "Threeboxes", name := "tellOfBank", desc := "(I)I" } : Jvm.MethodName)) ∈ lw_tbl := List.mem_of_getElem? (i := 370) (by decide +kernel)
set_option maxRecDepth 20000 in
theorem qC_Tb_tellOfBank : (Jvm.Cond.code ({ cls := "Threeboxes", name := "tellOfBank", desc := "(I)I" } : Jvm.MethodName) prog_1_method_58_code (2 : Nat) (Option.some Jvm.ClassFile.FieldType.int)) ∈ lw_tbl := List.mem_of_getElem? (i := 371) rfl
set_option maxRecDepth 20000 in
theorem qM_Tb_322 : (Jvm.Cond.methodLink "Threeboxes" (322 : Nat) ({ cls := "Threeboxes$Register", name := "size", desc := "()I" } : Jvm.MethodName)) ∈ lw_tbl := List.mem_of_getElem? (i := 372) (by decide +kernel)
set_option maxRecDepth 20000 in
theorem qI_Re_size : (Jvm.Cond.instanceMethod ({ cls := "Threeboxes$Register", name := "size", desc := "()I" } : Jvm.MethodName)) ∈ lw_tbl := List.mem_of_getElem? (i := 373) (by decide +kernel)
set_option maxRecDepth 20000 in
theorem qV_Re_Re_size : (Jvm.Cond.selects "Threeboxes$Register" ({ cls := "Threeboxes$Register", name := "size", desc := "()I" } : Jvm.MethodName) ({ cls := "Threeboxes$Register", name := "size", desc := "()I" } : Jvm.MethodName)) ∈ lw_tbl := List.mem_of_getElem? (i := 374) (by decide +kernel)
set_option maxRecDepth 20000 in
theorem qC_Re_size : (Jvm.Cond.code ({ cls := "Threeboxes$Register", name := "size", desc := "()I" } : Jvm.MethodName) prog_5_method_3_code (1 : Nat) (Option.some Jvm.ClassFile.FieldType.int)) ∈ lw_tbl := List.mem_of_getElem? (i := 375) rfl
set_option maxRecDepth 20000 in
theorem qM_Tb_401 : (Jvm.Cond.methodLink "Threeboxes" (401 : Nat) ({ cls := "Threeboxes$Register", name := "root", desc := "()I" } : Jvm.MethodName)) ∈ lw_tbl := List.mem_of_getElem? (i := 376) (by decide +kernel)
set_option maxRecDepth 20000 in
theorem qM_Tb_404 : (Jvm.Cond.methodLink "Threeboxes" (404 : Nat) ({ cls := "Threeboxes", name := "notedKeepers", desc := "()I" } : Jvm.MethodName)) ∈ lw_tbl := List.mem_of_getElem? (i := 377) (by decide +kernel)
set_option maxRecDepth 20000 in
theorem qI_Tb_notedKeepers : (Jvm.Cond.instanceMethod ({ cls := "Threeboxes", name := "notedKeepers", desc := "()I" } : Jvm.MethodName)) ∈ lw_tbl := List.mem_of_getElem? (i := 379) (by decide +kernel)
set_option maxRecDepth 20000 in
theorem qC_Tb_notedKeepers : (Jvm.Cond.code ({ cls := "Threeboxes", name := "notedKeepers", desc := "()I" } : Jvm.MethodName) prog_1_method_42_code (3 : Nat) (Option.some Jvm.ClassFile.FieldType.int)) ∈ lw_tbl := List.mem_of_getElem? (i := 380) rfl
set_option maxRecDepth 20000 in
theorem qM_Tb_407 : (Jvm.Cond.methodLink "Threeboxes" (407 : Nat) ({ cls := "Threeboxes", name := "currentShares", desc := "()I" } : Jvm.MethodName)) ∈ lw_tbl := List.mem_of_getElem? (i := 381) (by decide +kernel)
set_option maxRecDepth 20000 in
theorem qI_Tb_currentShares : (Jvm.Cond.instanceMethod ({ cls := "Threeboxes", name := "currentShares", desc := "()I" } : Jvm.MethodName)) ∈ lw_tbl := List.mem_of_getElem? (i := 383) (by decide +kernel)
set_option maxRecDepth 20000 in
theorem qC_Tb_currentShares : (Jvm.Cond.code ({ cls := "Threeboxes", name := "currentShares", desc := "()I" } : Jvm.MethodName) prog_1_method_39_code (3 : Nat) (Option.some Jvm.ClassFile.FieldType.int)) ∈ lw_tbl := List.mem_of_getElem? (i := 384) rfl
set_option maxRecDepth 20000 in
theorem qM_Tb_144 : (Jvm.Cond.methodLink "Threeboxes" (144 : Nat) ({ cls := "Threeboxes$Secret", name := "currentSet", desc := "()I" } : Jvm.MethodName)) ∈ lw_tbl := List.mem_of_getElem? (i := 385) (by decide +kernel)
set_option maxRecDepth 20000 in
theorem qI_Se_currentSet : (Jvm.Cond.instanceMethod ({ cls := "Threeboxes$Secret", name := "currentSet", desc := "()I" } : Jvm.MethodName)) ∈ lw_tbl := List.mem_of_getElem? (i := 386) (by decide +kernel)
set_option maxRecDepth 20000 in
theorem qV_Se_Se_currentSet : (Jvm.Cond.selects "Threeboxes$Secret" ({ cls := "Threeboxes$Secret", name := "currentSet", desc := "()I" } : Jvm.MethodName) ({ cls := "Threeboxes$Secret", name := "currentSet", desc := "()I" } : Jvm.MethodName)) ∈ lw_tbl := List.mem_of_getElem? (i := 387) (by decide +kernel)
set_option maxRecDepth 20000 in
theorem qC_Se_currentSet : (Jvm.Cond.code ({ cls := "Threeboxes$Secret", name := "currentSet", desc := "()I" } : Jvm.MethodName) prog_6_method_10_code (3 : Nat) (Option.some Jvm.ClassFile.FieldType.int)) ∈ lw_tbl := List.mem_of_getElem? (i := 388) rfl
set_option maxRecDepth 20000 in
theorem qM_Se_50 : (Jvm.Cond.methodLink "Threeboxes$Secret" (50 : Nat) ({ cls := "Threeboxes$Secret", name := "isCurrent", desc := "(I)Z" } : Jvm.MethodName)) ∈ lw_tbl := List.mem_of_getElem? (i := 389) (by decide +kernel)
set_option maxRecDepth 20000 in
theorem qM_Tb_105 : (Jvm.Cond.methodLink "Threeboxes" (105 : Nat) ({ cls := "java/lang/Integer", name := "bitCount", desc := "(I)I" } : Jvm.MethodName)) ∈ lw_tbl := List.mem_of_getElem? (i := 390) (by decide +kernel)
set_option maxRecDepth 20000 in
theorem qM_Tb_410 : (Jvm.Cond.methodLink "Threeboxes" (410 : Nat) ({ cls := "Threeboxes", name := "staleShares", desc := "()I" } : Jvm.MethodName)) ∈ lw_tbl := List.mem_of_getElem? (i := 391) (by decide +kernel)
set_option maxRecDepth 20000 in
theorem qI_Tb_staleShares : (Jvm.Cond.instanceMethod ({ cls := "Threeboxes", name := "staleShares", desc := "()I" } : Jvm.MethodName)) ∈ lw_tbl := List.mem_of_getElem? (i := 393) (by decide +kernel)
set_option maxRecDepth 20000 in
theorem qC_Tb_staleShares : (Jvm.Cond.code ({ cls := "Threeboxes", name := "staleShares", desc := "()I" } : Jvm.MethodName) prog_1_method_40_code (3 : Nat) (Option.some Jvm.ClassFile.FieldType.int)) ∈ lw_tbl := List.mem_of_getElem? (i := 394) rfl
set_option maxRecDepth 20000 in
theorem qM_Tb_158 : (Jvm.Cond.methodLink "Threeboxes" (158 : Nat) ({ cls := "Threeboxes$Secret", name := "staleSet", desc := "()I" } : Jvm.MethodName)) ∈ lw_tbl := List.mem_of_getElem? (i := 395) (by decide +kernel)
set_option maxRecDepth 20000 in
theorem qI_Se_staleSet : (Jvm.Cond.instanceMethod ({ cls := "Threeboxes$Secret", name := "staleSet", desc := "()I" } : Jvm.MethodName)) ∈ lw_tbl := List.mem_of_getElem? (i := 396) (by decide +kernel)
set_option maxRecDepth 20000 in
theorem qV_Se_Se_staleSet : (Jvm.Cond.selects "Threeboxes$Secret" ({ cls := "Threeboxes$Secret", name := "staleSet", desc := "()I" } : Jvm.MethodName) ({ cls := "Threeboxes$Secret", name := "staleSet", desc := "()I" } : Jvm.MethodName)) ∈ lw_tbl := List.mem_of_getElem? (i := 397) (by decide +kernel)
set_option maxRecDepth 20000 in
theorem qC_Se_staleSet : (Jvm.Cond.code ({ cls := "Threeboxes$Secret", name := "staleSet", desc := "()I" } : Jvm.MethodName) prog_6_method_11_code (3 : Nat) (Option.some Jvm.ClassFile.FieldType.int)) ∈ lw_tbl := List.mem_of_getElem? (i := 398) rfl
set_option maxRecDepth 20000 in
theorem qM_Se_53 : (Jvm.Cond.methodLink "Threeboxes$Secret" (53 : Nat) ({ cls := "Threeboxes$Secret", name := "isStale", desc := "(I)Z" } : Jvm.MethodName)) ∈ lw_tbl := List.mem_of_getElem? (i := 399) (by decide +kernel)
set_option maxRecDepth 20000 in
theorem qI_Se_isStale : (Jvm.Cond.instanceMethod ({ cls := "Threeboxes$Secret", name := "isStale", desc := "(I)Z" } : Jvm.MethodName)) ∈ lw_tbl := List.mem_of_getElem? (i := 400) (by decide +kernel)
set_option maxRecDepth 20000 in
theorem qV_Se_Se_isStale : (Jvm.Cond.selects "Threeboxes$Secret" ({ cls := "Threeboxes$Secret", name := "isStale", desc := "(I)Z" } : Jvm.MethodName) ({ cls := "Threeboxes$Secret", name := "isStale", desc := "(I)Z" } : Jvm.MethodName)) ∈ lw_tbl := List.mem_of_getElem? (i := 401) (by decide +kernel)
set_option maxRecDepth 20000 in
theorem qC_Se_isStale : (Jvm.Cond.code ({ cls := "Threeboxes$Secret", name := "isStale", desc := "(I)Z" } : Jvm.MethodName) prog_6_method_6_code (2 : Nat) (Option.some Jvm.ClassFile.FieldType.boolean)) ∈ lw_tbl := List.mem_of_getElem? (i := 402) rfl
set_option maxRecDepth 20000 in
theorem qM_Tb_232 : (Jvm.Cond.methodLink "Threeboxes" (232 : Nat) ({ cls := "Threeboxes", name := "tellOfKeeper", desc := "(LThreeboxes$Keeper;I)I" } : Jvm.MethodName)) ∈ lw_tbl := List.mem_of_getElem? (i := 403) (by decide +kernel)
set_option maxRecDepth 20000 in
theorem qI_Tb_tellOfKeeper : (Jvm.Cond.instanceMethod ({ cls := "Threeboxes", name := "tellOfKeeper", desc := "(LThreeboxes$Keeper;I)I" } : Jvm.MethodName)) ∈ lw_tbl := List.mem_of_getElem? (i := 405) (by decide +kernel)
set_option maxRecDepth 20000 in
theorem qC_Tb_tellOfKeeper : (Jvm.Cond.code ({ cls := "Threeboxes", name := "tellOfKeeper", desc := "(LThreeboxes$Keeper;I)I" } : Jvm.MethodName) prog_1_method_54_code (3 : Nat) (Option.some Jvm.ClassFile.FieldType.int)) ∈ lw_tbl := List.mem_of_getElem? (i := 406) rfl
set_option maxRecDepth 20000 in
theorem qM_Tb_173 : (Jvm.Cond.methodLink "Threeboxes" (173 : Nat) ({ cls := "Threeboxes", name := "sharesOf", desc := "(I)I" } : Jvm.MethodName)) ∈ lw_tbl := List.mem_of_getElem? (i := 407) (by decide +kernel)
set_option maxRecDepth 20000 in
theorem qI_Tb_sharesOf : (Jvm.Cond.instanceMethod ({ cls := "Threeboxes", name := "sharesOf", desc := "(I)I" } : Jvm.MethodName)) ∈ lw_tbl := List.mem_of_getElem? (i := 409) (by decide +kernel)
set_option maxRecDepth 20000 in
theorem qC_Tb_sharesOf : (Jvm.Cond.code ({ cls := "Threeboxes", name := "sharesOf", desc := "(I)I" } : Jvm.MethodName) prog_1_method_36_code (4 : Nat) (Option.some Jvm.ClassFile.FieldType.int)) ∈ lw_tbl := List.mem_of_getElem? (i := 410) rfl
set_option maxRecDepth 20000 in
theorem qM_Tb_386 : (Jvm.Cond.methodLink "Threeboxes" (386 : Nat) ({ cls := "Threeboxes", name := "staleSharesOf", desc := "(I)I" } : Jvm.MethodName)) ∈ lw_tbl := List.mem_of_getElem? (i := 411) (by decide +kernel)
set_option maxRecDepth 20000 in
theorem qI_Tb_staleSharesOf : (Jvm.Cond.instanceMethod ({ cls := "Threeboxes", name := "staleSharesOf", desc := "(I)I" } : Jvm.MethodName)) ∈ lw_tbl := List.mem_of_getElem? (i := 413) (by decide +kernel)
set_option maxRecDepth 20000 in
theorem qC_Tb_staleSharesOf : (Jvm.Cond.code ({ cls := "Threeboxes", name := "staleSharesOf", desc := "(I)I" } : Jvm.MethodName) prog_1_method_37_code (4 : Nat) (Option.some Jvm.ClassFile.FieldType.int)) ∈ lw_tbl := List.mem_of_getElem? (i := 414) rfl
set_option maxRecDepth 20000 in
theorem qM_Tb_342 : (Jvm.Cond.methodLink "Threeboxes" (342 : Nat) ({ cls := "Threeboxes$Secret", name := "isStale", desc := "(I)Z" } : Jvm.MethodName)) ∈ lw_tbl := List.mem_of_getElem? (i := 415) (by decide +kernel)
set_option maxRecDepth 20000 in
theorem qM_Tb_318 : (Jvm.Cond.methodLink "Threeboxes" (318 : Nat) ({ cls := "Threeboxes", name := "digestSecret", desc := "(JLThreeboxes$Secret;)J" } : Jvm.MethodName)) ∈ lw_tbl := List.mem_of_getElem? (i := 416) (by decide +kernel)
set_option maxRecDepth 20000 in
theorem qI_Tb_digestSecret : (Jvm.Cond.instanceMethod ({ cls := "Threeboxes", name := "digestSecret", desc := "(JLThreeboxes$Secret;)J" } : Jvm.MethodName)) ∈ lw_tbl := List.mem_of_getElem? (i := 418) (by decide +kernel)
set_option maxRecDepth 20000 in
theorem qC_Tb_digestSecret : (Jvm.Cond.code ({ cls := "Threeboxes", name := "digestSecret", desc := "(JLThreeboxes$Secret;)J" } : Jvm.MethodName) prog_1_method_26_code (8 : Nat) (Option.some Jvm.ClassFile.FieldType.long)) ∈ lw_tbl := List.mem_of_getElem? (i := 419) rfl
set_option maxRecDepth 20000 in
theorem qM_Tb_238 : (Jvm.Cond.methodLink "Threeboxes" (238 : Nat) ({ cls := "Threeboxes", name := "tellOfSecret", desc := "(LThreeboxes$Secret;I)I" } : Jvm.MethodName)) ∈ lw_tbl := List.mem_of_getElem? (i := 420) (by decide +kernel)
set_option maxRecDepth 20000 in
theorem qI_Tb_tellOfSecret : (Jvm.Cond.instanceMethod ({ cls := "Threeboxes", name := "tellOfSecret", desc := "(LThreeboxes$Secret;I)I" } : Jvm.MethodName)) ∈ lw_tbl := List.mem_of_getElem? (i := 422) (by decide +kernel)
set_option maxRecDepth 20000 in
theorem qC_Tb_tellOfSecret : (Jvm.Cond.code ({ cls := "Threeboxes", name := "tellOfSecret", desc := "(LThreeboxes$Secret;I)I" } : Jvm.MethodName) prog_1_method_55_code (3 : Nat) (Option.some Jvm.ClassFile.FieldType.int)) ∈ lw_tbl := List.mem_of_getElem? (i := 423) rfl
set_option maxRecDepth 20000 in
theorem qM_Tb_389 : (Jvm.Cond.methodLink "Threeboxes" (389 : Nat) ({ cls := "Threeboxes", name := "boughtFor", desc := "(LThreeboxes$Secret;)I" } : Jvm.MethodName)) ∈ lw_tbl := List.mem_of_getElem? (i := 424) (by decide +kernel)
set_option maxRecDepth 20000 in
theorem qI_Tb_boughtFor : (Jvm.Cond.instanceMethod ({ cls := "Threeboxes", name := "boughtFor", desc := "(LThreeboxes$Secret;)I" } : Jvm.MethodName)) ∈ lw_tbl := List.mem_of_getElem? (i := 426) (by decide +kernel)
set_option maxRecDepth 20000 in
theorem qC_Tb_boughtFor : (Jvm.Cond.code ({ cls := "Threeboxes", name := "boughtFor", desc := "(LThreeboxes$Secret;)I" } : Jvm.MethodName) prog_1_method_56_code (3 : Nat) (Option.some Jvm.ClassFile.FieldType.int)) ∈ lw_tbl := List.mem_of_getElem? (i := 427) rfl
set_option maxRecDepth 20000 in
theorem qM_Tb_392 : (Jvm.Cond.methodLink "Threeboxes" (392 : Nat) ({ cls := "Threeboxes", name := "boughtOf", desc := "(LThreeboxes$Secret;)I" } : Jvm.MethodName)) ∈ lw_tbl := List.mem_of_getElem? (i := 428) (by decide +kernel)
set_option maxRecDepth 20000 in
theorem qI_Tb_boughtOf : (Jvm.Cond.instanceMethod ({ cls := "Threeboxes", name := "boughtOf", desc := "(LThreeboxes$Secret;)I" } : Jvm.MethodName)) ∈ lw_tbl := List.mem_of_getElem? (i := 430) (by decide +kernel)
set_option maxRecDepth 20000 in
theorem qC_Tb_boughtOf : (Jvm.Cond.code ({ cls := "Threeboxes", name := "boughtOf", desc := "(LThreeboxes$Secret;)I" } : Jvm.MethodName) prog_1_method_49_code (6 : Nat) (Option.some Jvm.ClassFile.FieldType.int)) ∈ lw_tbl := List.mem_of_getElem? (i := 431) rfl
set_option maxRecDepth 20000 in
theorem qM_Tb_366 : (Jvm.Cond.methodLink "Threeboxes" (366 : Nat) ({ cls := "Threeboxes", name := "cheapestOf", desc := "(I)I" } : Jvm.MethodName)) ∈ lw_tbl := List.mem_of_getElem? (i := 432) (by decide +kernel)
set_option maxRecDepth 20000 in
theorem qI_Tb_cheapestOf : (Jvm.Cond.instanceMethod ({ cls := "Threeboxes", name := "cheapestOf", desc := "(I)I" } : Jvm.MethodName)) ∈ lw_tbl := List.mem_of_getElem? (i := 434) (by decide +kernel)
set_option maxRecDepth 20000 in
theorem qC_Tb_cheapestOf : (Jvm.Cond.code ({ cls := "Threeboxes", name := "cheapestOf", desc := "(I)I" } : Jvm.MethodName) prog_1_method_48_code (6 : Nat) (Option.some Jvm.ClassFile.FieldType.int)) ∈ lw_tbl := List.mem_of_getElem? (i := 435) rfl
set_option maxRecDepth 20000 in
theorem qM_Tb_124 : (Jvm.Cond.methodLink "Threeboxes" (124 : Nat) ({ cls := "Threeboxes", name := "isIn", desc := "(II)Z" } : Jvm.MethodName)) ∈ lw_tbl := List.mem_of_getElem? (i := 436) (by decide +kernel)
set_option maxRecDepth 20000 in
theorem qM_Tb_372 : (Jvm.Cond.methodLink "Threeboxes" (372 : Nat) ({ cls := "Threeboxes", name := "priceOf", desc := "(I)I" } : Jvm.MethodName)) ∈ lw_tbl := List.mem_of_getElem? (i := 437) (by decide +kernel)
set_option maxRecDepth 20000 in
theorem qI_Tb_priceOf : (Jvm.Cond.instanceMethod ({ cls := "Threeboxes", name := "priceOf", desc := "(I)I" } : Jvm.MethodName)) ∈ lw_tbl := List.mem_of_getElem? (i := 439) (by decide +kernel)
set_option maxRecDepth 20000 in
theorem qC_Tb_priceOf : (Jvm.Cond.code ({ cls := "Threeboxes", name := "priceOf", desc := "(I)I" } : Jvm.MethodName) prog_1_method_47_code (4 : Nat) (Option.some Jvm.ClassFile.FieldType.int)) ∈ lw_tbl := List.mem_of_getElem? (i := 440) rfl
set_option maxRecDepth 20000 in
theorem qM_Tb_244 : (Jvm.Cond.methodLink "Threeboxes" (244 : Nat) ({ cls := "Threeboxes", name := "tellOfShare", desc := "(LThreeboxes$Secret;LThreeboxes$Keeper;I)I" } : Jvm.MethodName)) ∈ lw_tbl := List.mem_of_getElem? (i := 441) (by decide +kernel)
set_option maxRecDepth 20000 in
theorem qI_Tb_tellOfShare : (Jvm.Cond.instanceMethod ({ cls := "Threeboxes", name := "tellOfShare", desc := "(LThreeboxes$Secret;LThreeboxes$Keeper;I)I" } : Jvm.MethodName)) ∈ lw_tbl := List.mem_of_getElem? (i := 443) (by decide +kernel)
set_option maxRecDepth 20000 in
theorem qC_Tb_tellOfShare : (Jvm.Cond.code ({ cls := "Threeboxes", name := "tellOfShare", desc := "(LThreeboxes$Secret;LThreeboxes$Keeper;I)I" } : Jvm.MethodName) prog_1_method_57_code (4 : Nat) (Option.some Jvm.ClassFile.FieldType.int)) ∈ lw_tbl := List.mem_of_getElem? (i := 444) rfl
set_option maxRecDepth 20000 in
theorem qM_Tb_329 : (Jvm.Cond.methodLink "Threeboxes" (329 : Nat) ({ cls := "Threeboxes", name := "allKeepers", desc := "()I" } : Jvm.MethodName)) ∈ lw_tbl := List.mem_of_getElem? (i := 445) (by decide +kernel)
set_option maxRecDepth 20000 in
theorem qI_Tb_allKeepers : (Jvm.Cond.instanceMethod ({ cls := "Threeboxes", name := "allKeepers", desc := "()I" } : Jvm.MethodName)) ∈ lw_tbl := List.mem_of_getElem? (i := 447) (by decide +kernel)
set_option maxRecDepth 20000 in
theorem qC_Tb_allKeepers : (Jvm.Cond.code ({ cls := "Threeboxes", name := "allKeepers", desc := "()I" } : Jvm.MethodName) prog_1_method_31_code (1 : Nat) (Option.some Jvm.ClassFile.FieldType.int)) ∈ lw_tbl := List.mem_of_getElem? (i := 448) rfl
set_option maxRecDepth 20000 in
theorem qM_Tb_184 : (Jvm.Cond.methodLink "Threeboxes" (184 : Nat) ({ cls := "Threeboxes", name := "gatherGroup", desc := "(LThreeboxes$Secret;I)V" } : Jvm.MethodName)) ∈ lw_tbl := List.mem_of_getElem? (i := 449) (by decide +kernel)
set_option maxRecDepth 20000 in
theorem qI_Tb_gatherGroup : (Jvm.Cond.instanceMethod ({ cls := "Threeboxes", name := "gatherGroup", desc := "(LThreeboxes$Secret;I)V" } : Jvm.MethodName)) ∈ lw_tbl := List.mem_of_getElem? (i := 451) (by decide +kernel)
set_option maxRecDepth 20000 in
theorem qC_Tb_gatherGroup : (Jvm.Cond.code ({ cls := "Threeboxes", name := "gatherGroup", desc := "(LThreeboxes$Secret;I)V" } : Jvm.MethodName) prog_1_method_44_code (4 : Nat) (Option.none : Option Jvm.ClassFile.FieldType)) ∈ lw_tbl := List.mem_of_getElem? (i := 452) rfl
set_option maxRecDepth 20000 in
theorem qM_Tb_188 : (Jvm.Cond.methodLink "Threeboxes" (188 : Nat) ({ cls := "Threeboxes$Group", name := "decode", desc := "()V" } : Jvm.MethodName)) ∈ lw_tbl := List.mem_of_getElem? (i := 453) (by decide +kernel)
set_option maxRecDepth 20000 in
theorem qI_Gr_decode : (Jvm.Cond.instanceMethod ({ cls := "Threeboxes$Group", name := "decode", desc := "()V" } : Jvm.MethodName)) ∈ lw_tbl := List.mem_of_getElem? (i := 454) (by decide +kernel)
set_option maxRecDepth 20000 in
theorem qV_Gr_Gr_decode : (Jvm.Cond.selects "Threeboxes$Group" ({ cls := "Threeboxes$Group", name := "decode", desc := "()V" } : Jvm.MethodName) ({ cls := "Threeboxes$Group", name := "decode", desc := "()V" } : Jvm.MethodName)) ∈ lw_tbl := List.mem_of_getElem? (i := 455) (by decide +kernel)
set_option maxRecDepth 20000 in
theorem qC_Gr_decode : (Jvm.Cond.code ({ cls := "Threeboxes$Group", name := "decode", desc := "()V" } : Jvm.MethodName) prog_3_method_4_code (3 : Nat) (Option.none : Option Jvm.ClassFile.FieldType)) ∈ lw_tbl := List.mem_of_getElem? (i := 456) rfl
set_option maxRecDepth 20000 in
theorem qM_Gr_46 : (Jvm.Cond.methodLink "Threeboxes$Group" (46 : Nat) ({ cls := "Threeboxes$Group", name := "agreed", desc := "()I" } : Jvm.MethodName)) ∈ lw_tbl := List.mem_of_getElem? (i := 457) (by decide +kernel)
set_option maxRecDepth 20000 in
theorem qI_Gr_agreed : (Jvm.Cond.instanceMethod ({ cls := "Threeboxes$Group", name := "agreed", desc := "()I" } : Jvm.MethodName)) ∈ lw_tbl := List.mem_of_getElem? (i := 458) (by decide +kernel)
set_option maxRecDepth 20000 in
theorem qV_Gr_Gr_agreed : (Jvm.Cond.selects "Threeboxes$Group" ({ cls := "Threeboxes$Group", name := "agreed", desc := "()I" } : Jvm.MethodName) ({ cls := "Threeboxes$Group", name := "agreed", desc := "()I" } : Jvm.MethodName)) ∈ lw_tbl := List.mem_of_getElem? (i := 459) (by decide +kernel)
set_option maxRecDepth 20000 in
theorem qC_Gr_agreed : (Jvm.Cond.code ({ cls := "Threeboxes$Group", name := "agreed", desc := "()I" } : Jvm.MethodName) prog_3_method_8_code (1 : Nat) (Option.some Jvm.ClassFile.FieldType.int)) ∈ lw_tbl := List.mem_of_getElem? (i := 460) rfl
set_option maxRecDepth 20000 in
theorem qM_Tb_283 : (Jvm.Cond.methodLink "Threeboxes" (283 : Nat) ({ cls := "Threeboxes", name := "tellOfGroup", desc := "(LThreeboxes$Secret;I)I" } : Jvm.MethodName)) ∈ lw_tbl := List.mem_of_getElem? (i := 461) (by decide +kernel)
set_option maxRecDepth 20000 in
theorem qI_Tb_tellOfGroup : (Jvm.Cond.instanceMethod ({ cls := "Threeboxes", name := "tellOfGroup", desc := "(LThreeboxes$Secret;I)I" } : Jvm.MethodName)) ∈ lw_tbl := List.mem_of_getElem? (i := 463) (by decide +kernel)
set_option maxRecDepth 20000 in
theorem qC_Tb_tellOfGroup : (Jvm.Cond.code ({ cls := "Threeboxes", name := "tellOfGroup", desc := "(LThreeboxes$Secret;I)I" } : Jvm.MethodName) prog_1_method_59_code (3 : Nat) (Option.some Jvm.ClassFile.FieldType.int)) ∈ lw_tbl := List.mem_of_getElem? (i := 464) rfl
set_option maxRecDepth 20000 in
theorem qM_Tb_210 : (Jvm.Cond.methodLink "Threeboxes" (210 : Nat) ({ cls := "Threeboxes$Group", name := "size", desc := "()I" } : Jvm.MethodName)) ∈ lw_tbl := List.mem_of_getElem? (i := 465) (by decide +kernel)
set_option maxRecDepth 20000 in
theorem qI_Gr_size : (Jvm.Cond.instanceMethod ({ cls := "Threeboxes$Group", name := "size", desc := "()I" } : Jvm.MethodName)) ∈ lw_tbl := List.mem_of_getElem? (i := 466) (by decide +kernel)
set_option maxRecDepth 20000 in
theorem qV_Gr_Gr_size : (Jvm.Cond.selects "Threeboxes$Group" ({ cls := "Threeboxes$Group", name := "size", desc := "()I" } : Jvm.MethodName) ({ cls := "Threeboxes$Group", name := "size", desc := "()I" } : Jvm.MethodName)) ∈ lw_tbl := List.mem_of_getElem? (i := 467) (by decide +kernel)
set_option maxRecDepth 20000 in
theorem qC_Gr_size : (Jvm.Cond.code ({ cls := "Threeboxes$Group", name := "size", desc := "()I" } : Jvm.MethodName) prog_3_method_7_code (1 : Nat) (Option.some Jvm.ClassFile.FieldType.int)) ∈ lw_tbl := List.mem_of_getElem? (i := 468) rfl
set_option maxRecDepth 20000 in
theorem qM_Tb_200 : (Jvm.Cond.methodLink "Threeboxes" (200 : Nat) ({ cls := "Threeboxes$Group", name := "members", desc := "()I" } : Jvm.MethodName)) ∈ lw_tbl := List.mem_of_getElem? (i := 469) (by decide +kernel)
set_option maxRecDepth 20000 in
theorem qI_Gr_members : (Jvm.Cond.instanceMethod ({ cls := "Threeboxes$Group", name := "members", desc := "()I" } : Jvm.MethodName)) ∈ lw_tbl := List.mem_of_getElem? (i := 470) (by decide +kernel)
set_option maxRecDepth 20000 in
theorem qV_Gr_Gr_members : (Jvm.Cond.selects "Threeboxes$Group" ({ cls := "Threeboxes$Group", name := "members", desc := "()I" } : Jvm.MethodName) ({ cls := "Threeboxes$Group", name := "members", desc := "()I" } : Jvm.MethodName)) ∈ lw_tbl := List.mem_of_getElem? (i := 471) (by decide +kernel)
set_option maxRecDepth 20000 in
theorem qC_Gr_members : (Jvm.Cond.code ({ cls := "Threeboxes$Group", name := "members", desc := "()I" } : Jvm.MethodName) prog_3_method_9_code (1 : Nat) (Option.some Jvm.ClassFile.FieldType.int)) ∈ lw_tbl := List.mem_of_getElem? (i := 472) rfl
set_option maxRecDepth 20000 in
theorem qM_Tb_220 : (Jvm.Cond.methodLink "Threeboxes" (220 : Nat) ({ cls := "Threeboxes", name := "isLawful", desc := "(LThreeboxes$Secret;I)Z" } : Jvm.MethodName)) ∈ lw_tbl := List.mem_of_getElem? (i := 473) (by decide +kernel)
set_option maxRecDepth 20000 in
theorem qI_Tb_isLawful : (Jvm.Cond.instanceMethod ({ cls := "Threeboxes", name := "isLawful", desc := "(LThreeboxes$Secret;I)Z" } : Jvm.MethodName)) ∈ lw_tbl := List.mem_of_getElem? (i := 475) (by decide +kernel)
set_option maxRecDepth 20000 in
theorem qC_Tb_isLawful : (Jvm.Cond.code ({ cls := "Threeboxes", name := "isLawful", desc := "(LThreeboxes$Secret;I)Z" } : Jvm.MethodName) prog_1_method_46_code (3 : Nat) (Option.some Jvm.ClassFile.FieldType.boolean)) ∈ lw_tbl := List.mem_of_getElem? (i := 476) rfl
set_option maxRecDepth 20000 in
theorem qM_Tb_354 : (Jvm.Cond.methodLink "Threeboxes" (354 : Nat) ({ cls := "Threeboxes", name := "zonesOf", desc := "(I)I" } : Jvm.MethodName)) ∈ lw_tbl := List.mem_of_getElem? (i := 477) (by decide +kernel)
set_option maxRecDepth 20000 in
theorem qI_Tb_zonesOf : (Jvm.Cond.instanceMethod ({ cls := "Threeboxes", name := "zonesOf", desc := "(I)I" } : Jvm.MethodName)) ∈ lw_tbl := List.mem_of_getElem? (i := 479) (by decide +kernel)
set_option maxRecDepth 20000 in
theorem qC_Tb_zonesOf : (Jvm.Cond.code ({ cls := "Threeboxes", name := "zonesOf", desc := "(I)I" } : Jvm.MethodName) prog_1_method_45_code (4 : Nat) (Option.some Jvm.ClassFile.FieldType.int)) ∈ lw_tbl := List.mem_of_getElem? (i := 480) rfl
set_option maxRecDepth 20000 in
theorem qM_Tb_191 : (Jvm.Cond.methodLink "Threeboxes" (191 : Nat) ({ cls := "Threeboxes$Group", name := "isGood", desc := "()Z" } : Jvm.MethodName)) ∈ lw_tbl := List.mem_of_getElem? (i := 481) (by decide +kernel)
set_option maxRecDepth 20000 in
theorem qI_Gr_isGood : (Jvm.Cond.instanceMethod ({ cls := "Threeboxes$Group", name := "isGood", desc := "()Z" } : Jvm.MethodName)) ∈ lw_tbl := List.mem_of_getElem? (i := 482) (by decide +kernel)
set_option maxRecDepth 20000 in
theorem qV_Gr_Gr_isGood : (Jvm.Cond.selects "Threeboxes$Group" ({ cls := "Threeboxes$Group", name := "isGood", desc := "()Z" } : Jvm.MethodName) ({ cls := "Threeboxes$Group", name := "isGood", desc := "()Z" } : Jvm.MethodName)) ∈ lw_tbl := List.mem_of_getElem? (i := 483) (by decide +kernel)
set_option maxRecDepth 20000 in
theorem qC_Gr_isGood : (Jvm.Cond.code ({ cls := "Threeboxes$Group", name := "isGood", desc := "()Z" } : Jvm.MethodName) prog_3_method_6_code (1 : Nat) (Option.some Jvm.ClassFile.FieldType.boolean)) ∈ lw_tbl := List.mem_of_getElem? (i := 484) rfl
set_option maxRecDepth 20000 in
theorem qM_Gr_54 : (Jvm.Cond.methodLink "Threeboxes$Group" (54 : Nat) ({ cls := "Threeboxes$Group", name := "size", desc := "()I" } : Jvm.MethodName)) ∈ lw_tbl := List.mem_of_getElem? (i := 485) (by decide +kernel)
set_option maxRecDepth 20000 in
theorem qM_Tb_197 : (Jvm.Cond.methodLink "Threeboxes" (197 : Nat) ({ cls := "Threeboxes$Group", name := "curveAt", desc := "(I)I" } : Jvm.MethodName)) ∈ lw_tbl := List.mem_of_getElem? (i := 486) (by decide +kernel)
set_option maxRecDepth 20000 in
theorem qI_Gr_curveAt : (Jvm.Cond.instanceMethod ({ cls := "Threeboxes$Group", name := "curveAt", desc := "(I)I" } : Jvm.MethodName)) ∈ lw_tbl := List.mem_of_getElem? (i := 487) (by decide +kernel)
set_option maxRecDepth 20000 in
theorem qV_Gr_Gr_curveAt : (Jvm.Cond.selects "Threeboxes$Group" ({ cls := "Threeboxes$Group", name := "curveAt", desc := "(I)I" } : Jvm.MethodName) ({ cls := "Threeboxes$Group", name := "curveAt", desc := "(I)I" } : Jvm.MethodName)) ∈ lw_tbl := List.mem_of_getElem? (i := 488) (by decide +kernel)
set_option maxRecDepth 20000 in
theorem qC_Gr_curveAt : (Jvm.Cond.code ({ cls := "Threeboxes$Group", name := "curveAt", desc := "(I)I" } : Jvm.MethodName) prog_3_method_11_code (2 : Nat) (Option.some Jvm.ClassFile.FieldType.int)) ∈ lw_tbl := List.mem_of_getElem? (i := 489) rfl
set_option maxRecDepth 20000 in
theorem qM_Tb_224 : (Jvm.Cond.methodLink "Threeboxes" (224 : Nat) ({ cls := "Threeboxes$Group", name := "liars", desc := "()I" } : Jvm.MethodName)) ∈ lw_tbl := List.mem_of_getElem? (i := 490) (by decide +kernel)
set_option maxRecDepth 20000 in
theorem qI_Gr_liars : (Jvm.Cond.instanceMethod ({ cls := "Threeboxes$Group", name := "liars", desc := "()I" } : Jvm.MethodName)) ∈ lw_tbl := List.mem_of_getElem? (i := 491) (by decide +kernel)
set_option maxRecDepth 20000 in
theorem qV_Gr_Gr_liars : (Jvm.Cond.selects "Threeboxes$Group" ({ cls := "Threeboxes$Group", name := "liars", desc := "()I" } : Jvm.MethodName) ({ cls := "Threeboxes$Group", name := "liars", desc := "()I" } : Jvm.MethodName)) ∈ lw_tbl := List.mem_of_getElem? (i := 492) (by decide +kernel)
set_option maxRecDepth 20000 in
theorem qC_Gr_liars : (Jvm.Cond.code ({ cls := "Threeboxes$Group", name := "liars", desc := "()I" } : Jvm.MethodName) prog_3_method_10_code (1 : Nat) (Option.some Jvm.ClassFile.FieldType.int)) ∈ lw_tbl := List.mem_of_getElem? (i := 493) rfl
set_option maxRecDepth 20000 in
theorem qM_Tb_413 : (Jvm.Cond.methodLink "Threeboxes" (413 : Nat) ({ cls := "Threeboxes$Group", name := "agreed", desc := "()I" } : Jvm.MethodName)) ∈ lw_tbl := List.mem_of_getElem? (i := 494) (by decide +kernel)
set_option maxRecDepth 20000 in
theorem qM_Tb_298 : (Jvm.Cond.methodLink "Threeboxes" (298 : Nat) ({ cls := "Threeboxes", name := "fewestOf", desc := "(LThreeboxes$Secret;)I" } : Jvm.MethodName)) ∈ lw_tbl := List.mem_of_getElem? (i := 495) (by decide +kernel)
set_option maxRecDepth 20000 in
theorem qI_Tb_fewestOf : (Jvm.Cond.instanceMethod ({ cls := "Threeboxes", name := "fewestOf", desc := "(LThreeboxes$Secret;)I" } : Jvm.MethodName)) ∈ lw_tbl := List.mem_of_getElem? (i := 497) (by decide +kernel)
set_option maxRecDepth 20000 in
theorem qC_Tb_fewestOf : (Jvm.Cond.code ({ cls := "Threeboxes", name := "fewestOf", desc := "(LThreeboxes$Secret;)I" } : Jvm.MethodName) prog_1_method_50_code (6 : Nat) (Option.some Jvm.ClassFile.FieldType.int)) ∈ lw_tbl := List.mem_of_getElem? (i := 498) rfl
set_option maxRecDepth 20000 in
theorem qM_Tb_369 : (Jvm.Cond.methodLink "Threeboxes" (369 : Nat) ({ cls := "Threeboxes", name := "isLess", desc := "(II)Z" } : Jvm.MethodName)) ∈ lw_tbl := List.mem_of_getElem? (i := 499) (by decide +kernel)
set_option maxRecDepth 20000 in
theorem qI_Tb_isLess : (Jvm.Cond.instanceMethod ({ cls := "Threeboxes", name := "isLess", desc := "(II)Z" } : Jvm.MethodName)) ∈ lw_tbl := List.mem_of_getElem? (i := 501) (by decide +kernel)
set_option maxRecDepth 20000 in
theorem qC_Tb_isLess : (Jvm.Cond.code ({ cls := "Threeboxes", name := "isLess", desc := "(II)Z" } : Jvm.MethodName) prog_1_method_51_code (4 : Nat) (Option.some Jvm.ClassFile.FieldType.boolean)) ∈ lw_tbl := List.mem_of_getElem? (i := 502) rfl
set_option maxRecDepth 20000 in
theorem qXd_Tb_332 : (Jvm.Cond.constantDouble "Threeboxes" (332 : Nat) (4661225614328463360 : UInt64)) ∈ lw_tbl := List.mem_of_getElem? (i := 503) (by decide +kernel)
set_option maxRecDepth 20000 in
theorem qM_Tb_294 : (Jvm.Cond.methodLink "Threeboxes" (294 : Nat) ({ cls := "Threeboxes", name := "chanceLost", desc := "(LThreeboxes$Secret;)D" } : Jvm.MethodName)) ∈ lw_tbl := List.mem_of_getElem? (i := 504) (by decide +kernel)
set_option maxRecDepth 20000 in
theorem qI_Tb_chanceLost : (Jvm.Cond.instanceMethod ({ cls := "Threeboxes", name := "chanceLost", desc := "(LThreeboxes$Secret;)D" } : Jvm.MethodName)) ∈ lw_tbl := List.mem_of_getElem? (i := 506) (by decide +kernel)
set_option maxRecDepth 20000 in
theorem qC_Tb_chanceLost : (Jvm.Cond.code ({ cls := "Threeboxes", name := "chanceLost", desc := "(LThreeboxes$Secret;)D" } : Jvm.MethodName) prog_1_method_52_code (5 : Nat) (Option.some Jvm.ClassFile.FieldType.double)) ∈ lw_tbl := List.mem_of_getElem? (i := 507) rfl
set_option maxRecDepth 20000 in
theorem qM_Tb_378 : (Jvm.Cond.methodLink "Threeboxes" (378 : Nat) ({ cls := "Threeboxes", name := "riskOne", desc := "(I)V" } : Jvm.MethodName)) ∈ lw_tbl := List.mem_of_getElem? (i := 508) (by decide +kernel)
set_option maxRecDepth 20000 in
theorem qI_Tb_riskOne : (Jvm.Cond.instanceMethod ({ cls := "Threeboxes", name := "riskOne", desc := "(I)V" } : Jvm.MethodName)) ∈ lw_tbl := List.mem_of_getElem? (i := 510) (by decide +kernel)
set_option maxRecDepth 20000 in
theorem qC_Tb_riskOne : (Jvm.Cond.code ({ cls := "Threeboxes", name := "riskOne", desc := "(I)V" } : Jvm.MethodName) prog_1_method_53_code (3 : Nat) (Option.none : Option Jvm.ClassFile.FieldType)) ∈ lw_tbl := List.mem_of_getElem? (i := 511) rfl
set_option maxRecDepth 20000 in
theorem qXd_Tb_381 : (Jvm.Cond.constantDouble "Threeboxes" (381 : Nat) (4636737291354636288 : UInt64)) ∈ lw_tbl := List.mem_of_getElem? (i := 512) (by decide +kernel)
set_option maxRecDepth 20000 in
theorem qM_Tb_323 : (Jvm.Cond.methodLink "Threeboxes" (323 : Nat) ({ cls := "Threeboxes$Register", name := "leafOf", desc := "(I)I" } : Jvm.MethodName)) ∈ lw_tbl := List.mem_of_getElem? (i := 513) (by decide +kernel)
set_option maxRecDepth 20000 in
theorem qM_Tb_326 : (Jvm.Cond.methodLink "Threeboxes" (326 : Nat) ({ cls := "Threeboxes", name := "isSound", desc := "()Z" } : Jvm.MethodName)) ∈ lw_tbl := List.mem_of_getElem? (i := 514) (by decide +kernel)
set_option maxRecDepth 20000 in
theorem qK_La_14 : (Jvm.Cond.classLink "ThreeboxesLaw" (14 : Nat) "ThreeboxesLaw$Out") ∈ lw_tbl := List.mem_of_getElem? (i := 515) (by decide +kernel)
set_option maxRecDepth 20000 in
theorem qO_Ou : (Jvm.Cond.instantiable "ThreeboxesLaw$Out" (3 : Nat)) ∈ lw_tbl := List.mem_of_getElem? (i := 516) (by decide +kernel)
set_option maxRecDepth 20000 in
theorem qMn_La_105 : (Jvm.Cond.methodLinkNest "ThreeboxesLaw" (105 : Nat) ({ cls := "ThreeboxesLaw$Out", name := "<init>", desc := "()V" } : Jvm.MethodName) "ThreeboxesLaw") ∈ lw_tbl := List.mem_of_getElem? (i := 517) (by decide +kernel)
set_option maxRecDepth 20000 in
theorem qI_Ou_init : (Jvm.Cond.instanceMethod ({ cls := "ThreeboxesLaw$Out", name := "<init>", desc := "()V" } : Jvm.MethodName)) ∈ lw_tbl := List.mem_of_getElem? (i := 518) (by decide +kernel)
set_option maxRecDepth 20000 in
theorem qC_Ou_init : (Jvm.Cond.code ({ cls := "ThreeboxesLaw$Out", name := "<init>", desc := "()V" } : Jvm.MethodName) prog_8_method_1_code (1 : Nat) (Option.none : Option Jvm.ClassFile.FieldType)) ∈ lw_tbl := List.mem_of_getElem? (i := 519) rfl
set_option maxRecDepth 20000 in
theorem qM_Ou_1 : (Jvm.Cond.methodLink "ThreeboxesLaw$Out" (1 : Nat) ({ cls := "java/lang/Object", name := "<init>", desc := "()V" } : Jvm.MethodName)) ∈ lw_tbl := List.mem_of_getElem? (i := 520) (by decide +kernel)
set_option maxRecDepth 20000 in
theorem qFn_La_13 : (Jvm.Cond.fieldLinkNest "ThreeboxesLaw" (13 : Nat) "ThreeboxesLaw$Out" "n" "J" "ThreeboxesLaw") ∈ lw_tbl := List.mem_of_getElem? (i := 521) (by decide +kernel)
set_option maxRecDepth 20000 in
theorem qFn_La_90 : (Jvm.Cond.fieldLinkNest "ThreeboxesLaw" (90 : Nat) "ThreeboxesLaw$Out" "d" "D" "ThreeboxesLaw") ∈ lw_tbl := List.mem_of_getElem? (i := 522) (by decide +kernel)
set_option maxRecDepth 20000 in
theorem qFn_La_75 : (Jvm.Cond.fieldLinkNest "ThreeboxesLaw" (75 : Nat) "ThreeboxesLaw$Out" "s" "Ljava/lang/String;" "ThreeboxesLaw") ∈ lw_tbl := List.mem_of_getElem? (i := 523) (by decide +kernel)
set_option maxRecDepth 20000 in
theorem qSc_Ou_Oj : (Jvm.Cond.superclass "ThreeboxesLaw$Out" "java/lang/Object") ∈ lw_tbl := List.mem_of_getElem? (i := 530) (by decide +kernel)
set_option maxRecDepth 20000 in
theorem qM_La_106 : (Jvm.Cond.methodLink "ThreeboxesLaw" (106 : Nat) ({ cls := "ThreeboxesLaw", name := "keeper", desc := "(LThreeboxes;IIILThreeboxesLaw$Out;)I" } : Jvm.MethodName)) ∈ lw_tbl := List.mem_of_getElem? (i := 531) (by decide +kernel)
set_option maxRecDepth 20000 in
theorem qS_La_keeper : (Jvm.Cond.static ({ cls := "ThreeboxesLaw", name := "keeper", desc := "(LThreeboxes;IIILThreeboxesLaw$Out;)I" } : Jvm.MethodName)) ∈ lw_tbl := List.mem_of_getElem? (i := 532) (by decide +kernel)
set_option maxRecDepth 20000 in
theorem qCw_La_keeper : (Jvm.Cond.codeWith ({ cls := "ThreeboxesLaw", name := "keeper", desc := "(LThreeboxes;IIILThreeboxesLaw$Out;)I" } : Jvm.MethodName) method_2_code (6 : Nat) (Option.some Jvm.ClassFile.FieldType.int) [((0 : Nat), (13 : Nat), (16 : Nat), (19 : Nat)), ((0 : Nat), (13 : Nat), (20 : Nat), (21 : Nat))]) ∈ lw_tbl := List.mem_of_getElem? (i := 533) rfl
set_option maxRecDepth 20000 in
theorem qK_La_19 : (Jvm.Cond.classLink "ThreeboxesLaw" (19 : Nat) "java/lang/IllegalArgumentException") ∈ lw_tbl := List.mem_of_getElem? (i := 534) (by decide +kernel)
set_option maxRecDepth 20000 in
theorem qK_La_21 : (Jvm.Cond.classLink "ThreeboxesLaw" (21 : Nat) "java/lang/IllegalStateException") ∈ lw_tbl := List.mem_of_getElem? (i := 535) (by decide +kernel)
set_option maxRecDepth 20000 in
theorem qM_La_7 : (Jvm.Cond.methodLink "ThreeboxesLaw" (7 : Nat) ({ cls := "Threeboxes", name := "keeper", desc := "(III)I" } : Jvm.MethodName)) ∈ lw_tbl := List.mem_of_getElem? (i := 536) (by decide +kernel)
set_option maxRecDepth 20000 in
theorem qI_Tb_keeper : (Jvm.Cond.instanceMethod ({ cls := "Threeboxes", name := "keeper", desc := "(III)I" } : Jvm.MethodName)) ∈ lw_tbl := List.mem_of_getElem? (i := 537) (by decide +kernel)
set_option maxRecDepth 20000 in
theorem qV_Tb_Tb_keeper : (Jvm.Cond.selects "Threeboxes" ({ cls := "Threeboxes", name := "keeper", desc := "(III)I" } : Jvm.MethodName) ({ cls := "Threeboxes", name := "keeper", desc := "(III)I" } : Jvm.MethodName)) ∈ lw_tbl := List.mem_of_getElem? (i := 538) (by decide +kernel)
set_option maxRecDepth 20000 in
theorem qC_Tb_keeper : (Jvm.Cond.code ({ cls := "Threeboxes", name := "keeper", desc := "(III)I" } : Jvm.MethodName) prog_1_method_2_code (5 : Nat) (Option.some Jvm.ClassFile.FieldType.int)) ∈ lw_tbl := List.mem_of_getElem? (i := 539) rfl
set_option maxRecDepth 20000 in
theorem qK_Tb_61 : (Jvm.Cond.classLink "Threeboxes" (61 : Nat) "java/lang/IllegalArgumentException") ∈ lw_tbl := List.mem_of_getElem? (i := 540) (by decide +kernel)
set_option maxRecDepth 20000 in
theorem qO_IAE : (Jvm.Cond.instantiable "java/lang/IllegalArgumentException" (6 : Nat)) ∈ lw_tbl := List.mem_of_getElem? (i := 541) (by decide +kernel)
set_option maxRecDepth 20000 in
theorem qT_IAE_IAE : (Jvm.Cond.castable "java/lang/IllegalArgumentException" "java/lang/IllegalArgumentException") ∈ lw_tbl := List.mem_of_getElem? (i := 542) (by decide +kernel)
set_option maxRecDepth 20000 in
theorem qD_RE_init_0566 : (Jvm.Cond.declares ({ cls := "java/lang/RuntimeException", name := "<init>", desc := "()V" } : Jvm.MethodName)) ∈ lw_tbl := List.mem_of_getElem? (i := 543) (by decide +kernel)
set_option maxRecDepth 20000 in
theorem qD_RE_init_7bbb : (Jvm.Cond.declares ({ cls := "java/lang/RuntimeException", name := "<init>", desc := "(Ljava/lang/String;)V" } : Jvm.MethodName)) ∈ lw_tbl := List.mem_of_getElem? (i := 544) (by decide +kernel)
set_option maxRecDepth 20000 in
theorem qD_EX_init_0566 : (Jvm.Cond.declares ({ cls := "java/lang/Exception", name := "<init>", desc := "()V" } : Jvm.MethodName)) ∈ lw_tbl := List.mem_of_getElem? (i := 545) (by decide +kernel)
set_option maxRecDepth 20000 in
theorem qD_EX_init_7bbb : (Jvm.Cond.declares ({ cls := "java/lang/Exception", name := "<init>", desc := "(Ljava/lang/String;)V" } : Jvm.MethodName)) ∈ lw_tbl := List.mem_of_getElem? (i := 546) (by decide +kernel)
set_option maxRecDepth 20000 in
theorem qD_Th_init_0566 : (Jvm.Cond.declares ({ cls := "java/lang/Throwable", name := "<init>", desc := "()V" } : Jvm.MethodName)) ∈ lw_tbl := List.mem_of_getElem? (i := 547) (by decide +kernel)
set_option maxRecDepth 20000 in
theorem qD_Th_init_7bbb : (Jvm.Cond.declares ({ cls := "java/lang/Throwable", name := "<init>", desc := "(Ljava/lang/String;)V" } : Jvm.MethodName)) ∈ lw_tbl := List.mem_of_getElem? (i := 548) (by decide +kernel)
set_option maxRecDepth 20000 in
theorem qV_IAE_Th_fillInStackTrace_a1a2 : (Jvm.Cond.selects "java/lang/IllegalArgumentException" ({ cls := "java/lang/Throwable", name := "fillInStackTrace", desc := "(I)Ljava/lang/Throwable;" } : Jvm.MethodName) ({ cls := "java/lang/Throwable", name := "fillInStackTrace", desc := "(I)Ljava/lang/Throwable;" } : Jvm.MethodName)) ∈ lw_tbl := List.mem_of_getElem? (i := 549) (by decide +kernel)
set_option maxRecDepth 20000 in
theorem qV_IAE_Th_fillInStackTrace_9760 : (Jvm.Cond.selects "java/lang/IllegalArgumentException" ({ cls := "java/lang/Throwable", name := "fillInStackTrace", desc := "()Ljava/lang/Throwable;" } : Jvm.MethodName) ({ cls := "java/lang/Throwable", name := "fillInStackTrace", desc := "()Ljava/lang/Throwable;" } : Jvm.MethodName)) ∈ lw_tbl := List.mem_of_getElem? (i := 550) (by decide +kernel)
set_option maxRecDepth 20000 in
theorem qF_Th_198 : (Jvm.Cond.fieldLink "java/lang/Throwable" (198 : Nat) "java/lang/Throwable" "backtrace" "Ljava/lang/Object;") ∈ lw_tbl := List.mem_of_getElem? (i := 561) (by decide +kernel)
set_option maxRecDepth 20000 in
theorem qSc_Th_Oj : (Jvm.Cond.superclass "java/lang/Throwable" "java/lang/Object") ∈ lw_tbl := List.mem_of_getElem? (i := 562) (by decide +kernel)
set_option maxRecDepth 20000 in
theorem qI_Th_init_0566 : (Jvm.Cond.instanceMethod ({ cls := "java/lang/Throwable", name := "<init>", desc := "()V" } : Jvm.MethodName)) ∈ lw_tbl := List.mem_of_getElem? (i := 563) (by decide +kernel)
set_option maxRecDepth 20000 in
theorem qC_Th_init_0566 : (Jvm.Cond.code ({ cls := "java/lang/Throwable", name := "<init>", desc := "()V" } : Jvm.MethodName) prog_32_method_1_code (1 : Nat) (Option.none : Option Jvm.ClassFile.FieldType)) ∈ lw_tbl := List.mem_of_getElem? (i := 564) rfl
set_option maxRecDepth 20000 in
theorem qM_Th_1 : (Jvm.Cond.methodLink "java/lang/Throwable" (1 : Nat) ({ cls := "java/lang/Object", name := "<init>", desc := "()V" } : Jvm.MethodName)) ∈ lw_tbl := List.mem_of_getElem? (i := 565) (by decide +kernel)
set_option maxRecDepth 20000 in
theorem qF_Th_13 : (Jvm.Cond.fieldLink "java/lang/Throwable" (13 : Nat) "java/lang/Throwable" "UNASSIGNED_STACK" "[Ljava/lang/StackTraceElement;") ∈ lw_tbl := List.mem_of_getElem? (i := 566) (by decide +kernel)
set_option maxRecDepth 20000 in
theorem qLs_Th_UNASSIGNEDSTACK_LjavalangStackTraceElement : (Jvm.Cond.laysStatic "java/lang/Throwable" "UNASSIGNED_STACK" "[Ljava/lang/StackTraceElement;") ∈ lw_tbl := List.mem_of_getElem? (i := 567) (by decide +kernel)
set_option maxRecDepth 20000 in
theorem qF_Th_20 : (Jvm.Cond.fieldLink "java/lang/Throwable" (20 : Nat) "java/lang/Throwable" "SUPPRESSED_SENTINEL" "Ljava/util/List;") ∈ lw_tbl := List.mem_of_getElem? (i := 568) (by decide +kernel)
set_option maxRecDepth 20000 in
theorem qLs_Th_SUPPRESSEDSENTINEL_LjavautilList : (Jvm.Cond.laysStatic "java/lang/Throwable" "SUPPRESSED_SENTINEL" "Ljava/util/List;") ∈ lw_tbl := List.mem_of_getElem? (i := 569) (by decide +kernel)
set_option maxRecDepth 20000 in
theorem qM_Th_27 : (Jvm.Cond.methodLink "java/lang/Throwable" (27 : Nat) ({ cls := "java/lang/Throwable", name := "fillInStackTrace", desc := "()Ljava/lang/Throwable;" } : Jvm.MethodName)) ∈ lw_tbl := List.mem_of_getElem? (i := 570) (by decide +kernel)
set_option maxRecDepth 20000 in
theorem qI_Th_fillInStackTrace_9760 : (Jvm.Cond.instanceMethod ({ cls := "java/lang/Throwable", name := "fillInStackTrace", desc := "()Ljava/lang/Throwable;" } : Jvm.MethodName)) ∈ lw_tbl := List.mem_of_getElem? (i := 571) (by decide +kernel)
set_option maxRecDepth 20000 in
theorem qSm_Th_javalangThrowable_fillInStackTrace_LjavalangThrowable : (Jvm.Cond.sameMethod "java/lang/Throwable" "java/lang/Throwable" "fillInStackTrace" "()Ljava/lang/Throwable;") ∈ lw_tbl := List.mem_of_getElem? (i := 572) (by decide +kernel)
set_option maxRecDepth 20000 in
theorem qV_ISE_Th_fillInStackTrace_9760 : (Jvm.Cond.selects "java/lang/IllegalStateException" ({ cls := "java/lang/Throwable", name := "fillInStackTrace", desc := "()Ljava/lang/Throwable;" } : Jvm.MethodName) ({ cls := "java/lang/Throwable", name := "fillInStackTrace", desc := "()Ljava/lang/Throwable;" } : Jvm.MethodName)) ∈ lw_tbl := List.mem_of_getElem? (i := 573) (by decide +kernel)
set_option maxRecDepth 20000 in
theorem qV_IOE_Th_fillInStackTrace_9760 : (Jvm.Cond.selects "java/lang/IndexOutOfBoundsException" ({ cls := "java/lang/Throwable", name := "fillInStackTrace", desc := "()Ljava/lang/Throwable;" } : Jvm.MethodName) ({ cls := "java/lang/Throwable", name := "fillInStackTrace", desc := "()Ljava/lang/Throwable;" } : Jvm.MethodName)) ∈ lw_tbl := List.mem_of_getElem? (i := 574) (by decide +kernel)
set_option maxRecDepth 20000 in
theorem qCs_Th_fillInStackTrace_9760 : (Jvm.Cond.codeSync ({ cls := "java/lang/Throwable", name := "fillInStackTrace", desc := "()Ljava/lang/Throwable;" } : Jvm.MethodName) prog_32_method_18_code (1 : Nat) (Option.some (Jvm.ClassFile.FieldType.object "java/lang/Throwable"))) ∈ lw_tbl := List.mem_of_getElem? (i := 575) rfl
set_option maxRecDepth 20000 in
theorem qM_Th_202 : (Jvm.Cond.methodLink "java/lang/Throwable" (202 : Nat) ({ cls := "java/lang/Throwable", name := "fillInStackTrace", desc := "(I)Ljava/lang/Throwable;" } : Jvm.MethodName)) ∈ lw_tbl := List.mem_of_getElem? (i := 576) (by decide +kernel)
set_option maxRecDepth 20000 in
theorem qI_Th_fillInStackTrace_a1a2 : (Jvm.Cond.instanceMethod ({ cls := "java/lang/Throwable", name := "fillInStackTrace", desc := "(I)Ljava/lang/Throwable;" } : Jvm.MethodName)) ∈ lw_tbl := List.mem_of_getElem? (i := 578) (by decide +kernel)
set_option maxRecDepth 20000 in
theorem qO_Th : (Jvm.Cond.instantiable "java/lang/Throwable" (6 : Nat)) ∈ lw_tbl := List.mem_of_getElem? (i := 579) (by decide +kernel)
set_option maxRecDepth 20000 in
theorem qNa_Th_fillInStackTrace_a1a2 : (Jvm.Cond.native ({ cls := "java/lang/Throwable", name := "fillInStackTrace", desc := "(I)Ljava/lang/Throwable;" } : Jvm.MethodName)) ∈ lw_tbl := List.mem_of_getElem? (i := 580) (by decide +kernel)
set_option maxRecDepth 20000 in
theorem qR_Tb_63 : (Jvm.Cond.stringRef "Threeboxes" (63 : Nat) "no such zone, price or risk") ∈ lw_tbl := List.mem_of_getElem? (i := 581) (by decide +kernel)
set_option maxRecDepth 20000 in
theorem qM_Tb_65 : (Jvm.Cond.methodLink "Threeboxes" (65 : Nat) ({ cls := "java/lang/IllegalArgumentException", name := "<init>", desc := "(Ljava/lang/String;)V" } : Jvm.MethodName)) ∈ lw_tbl := List.mem_of_getElem? (i := 582) (by decide +kernel)
set_option maxRecDepth 20000 in
theorem qI_IAE_init_7bbb : (Jvm.Cond.instanceMethod ({ cls := "java/lang/IllegalArgumentException", name := "<init>", desc := "(Ljava/lang/String;)V" } : Jvm.MethodName)) ∈ lw_tbl := List.mem_of_getElem? (i := 583) (by decide +kernel)
set_option maxRecDepth 20000 in
theorem qC_IAE_init_7bbb : (Jvm.Cond.code ({ cls := "java/lang/IllegalArgumentException", name := "<init>", desc := "(Ljava/lang/String;)V" } : Jvm.MethodName) prog_19_method_2_code (2 : Nat) (Option.none : Option Jvm.ClassFile.FieldType)) ∈ lw_tbl := List.mem_of_getElem? (i := 584) rfl
set_option maxRecDepth 20000 in
theorem qM_IAE_7 : (Jvm.Cond.methodLink "java/lang/IllegalArgumentException" (7 : Nat) ({ cls := "java/lang/RuntimeException", name := "<init>", desc := "(Ljava/lang/String;)V" } : Jvm.MethodName)) ∈ lw_tbl := List.mem_of_getElem? (i := 585) (by decide +kernel)
set_option maxRecDepth 20000 in
theorem qI_RE_init_7bbb : (Jvm.Cond.instanceMethod ({ cls := "java/lang/RuntimeException", name := "<init>", desc := "(Ljava/lang/String;)V" } : Jvm.MethodName)) ∈ lw_tbl := List.mem_of_getElem? (i := 586) (by decide +kernel)
set_option maxRecDepth 20000 in
theorem qC_RE_init_7bbb : (Jvm.Cond.code ({ cls := "java/lang/RuntimeException", name := "<init>", desc := "(Ljava/lang/String;)V" } : Jvm.MethodName) prog_26_method_2_code (2 : Nat) (Option.none : Option Jvm.ClassFile.FieldType)) ∈ lw_tbl := List.mem_of_getElem? (i := 587) rfl
set_option maxRecDepth 20000 in
theorem qM_RE_7 : (Jvm.Cond.methodLink "java/lang/RuntimeException" (7 : Nat) ({ cls := "java/lang/Exception", name := "<init>", desc := "(Ljava/lang/String;)V" } : Jvm.MethodName)) ∈ lw_tbl := List.mem_of_getElem? (i := 588) (by decide +kernel)
set_option maxRecDepth 20000 in
theorem qI_EX_init_7bbb : (Jvm.Cond.instanceMethod ({ cls := "java/lang/Exception", name := "<init>", desc := "(Ljava/lang/String;)V" } : Jvm.MethodName)) ∈ lw_tbl := List.mem_of_getElem? (i := 589) (by decide +kernel)
set_option maxRecDepth 20000 in
theorem qC_EX_init_7bbb : (Jvm.Cond.code ({ cls := "java/lang/Exception", name := "<init>", desc := "(Ljava/lang/String;)V" } : Jvm.MethodName) prog_18_method_2_code (2 : Nat) (Option.none : Option Jvm.ClassFile.FieldType)) ∈ lw_tbl := List.mem_of_getElem? (i := 590) rfl
set_option maxRecDepth 20000 in
theorem qM_EX_7 : (Jvm.Cond.methodLink "java/lang/Exception" (7 : Nat) ({ cls := "java/lang/Throwable", name := "<init>", desc := "(Ljava/lang/String;)V" } : Jvm.MethodName)) ∈ lw_tbl := List.mem_of_getElem? (i := 591) (by decide +kernel)
set_option maxRecDepth 20000 in
theorem qI_Th_init_7bbb : (Jvm.Cond.instanceMethod ({ cls := "java/lang/Throwable", name := "<init>", desc := "(Ljava/lang/String;)V" } : Jvm.MethodName)) ∈ lw_tbl := List.mem_of_getElem? (i := 592) (by decide +kernel)
set_option maxRecDepth 20000 in
theorem qC_Th_init_7bbb : (Jvm.Cond.code ({ cls := "java/lang/Throwable", name := "<init>", desc := "(Ljava/lang/String;)V" } : Jvm.MethodName) prog_32_method_2_code (2 : Nat) (Option.none : Option Jvm.ClassFile.FieldType)) ∈ lw_tbl := List.mem_of_getElem? (i := 593) rfl
set_option maxRecDepth 20000 in
theorem qF_Th_198x : (Jvm.Cond.fieldLink "java/lang/Throwable" (198 : Nat) "java/lang/Throwable" "backtrace" "Ljava/lang/Object;") ∈ lw_tbl := List.mem_of_getElem? (i := 594) (by decide +kernel)
set_option maxRecDepth 20000 in
theorem qF_Th_31 : (Jvm.Cond.fieldLink "java/lang/Throwable" (31 : Nat) "java/lang/Throwable" "detailMessage" "Ljava/lang/String;") ∈ lw_tbl := List.mem_of_getElem? (i := 595) (by decide +kernel)
set_option maxRecDepth 20000 in
theorem qF_Th_7 : (Jvm.Cond.fieldLink "java/lang/Throwable" (7 : Nat) "java/lang/Throwable" "cause" "Ljava/lang/Throwable;") ∈ lw_tbl := List.mem_of_getElem? (i := 596) (by decide +kernel)
set_option maxRecDepth 20000 in
theorem qF_Th_17 : (Jvm.Cond.fieldLink "java/lang/Throwable" (17 : Nat) "java/lang/Throwable" "stackTrace" "[Ljava/lang/StackTraceElement;") ∈ lw_tbl := List.mem_of_getElem? (i := 597) (by decide +kernel)
set_option maxRecDepth 20000 in
theorem qF_Th_24 : (Jvm.Cond.fieldLink "java/lang/Throwable" (24 : Nat) "java/lang/Throwable" "suppressedExceptions" "Ljava/util/List;") ∈ lw_tbl := List.mem_of_getElem? (i := 598) (by decide +kernel)
set_option maxRecDepth 20000 in
theorem qSc_IAE_RE : (Jvm.Cond.superclass "java/lang/IllegalArgumentException" "java/lang/RuntimeException") ∈ lw_tbl := List.mem_of_getElem? (i := 606) (by decide +kernel)
set_option maxRecDepth 20000 in
theorem qA_byte : (Jvm.Cond.arrayClass Jvm.ClassFile.FieldType.byte) ∈ lw_tbl := List.mem_of_getElem? (i := 607) (by decide +kernel)
set_option maxRecDepth 20000 in
theorem qK_Tb_72 : (Jvm.Cond.classLink "Threeboxes" (72 : Nat) "java/lang/IllegalStateException") ∈ lw_tbl := List.mem_of_getElem? (i := 608) (by decide +kernel)
set_option maxRecDepth 20000 in
theorem qO_ISE : (Jvm.Cond.instantiable "java/lang/IllegalStateException" (6 : Nat)) ∈ lw_tbl := List.mem_of_getElem? (i := 609) (by decide +kernel)
set_option maxRecDepth 20000 in
theorem qT_ISE_ISE : (Jvm.Cond.castable "java/lang/IllegalStateException" "java/lang/IllegalStateException") ∈ lw_tbl := List.mem_of_getElem? (i := 610) (by decide +kernel)
set_option maxRecDepth 20000 in
theorem qV_ISE_Th_fillInStackTrace_a1a2 : (Jvm.Cond.selects "java/lang/IllegalStateException" ({ cls := "java/lang/Throwable", name := "fillInStackTrace", desc := "(I)Ljava/lang/Throwable;" } : Jvm.MethodName) ({ cls := "java/lang/Throwable", name := "fillInStackTrace", desc := "(I)Ljava/lang/Throwable;" } : Jvm.MethodName)) ∈ lw_tbl := List.mem_of_getElem? (i := 611) (by decide +kernel)
set_option maxRecDepth 20000 in
theorem qR_Tb_74 : (Jvm.Cond.stringRef "Threeboxes" (74 : Nat) "there are 8 keepers") ∈ lw_tbl := List.mem_of_getElem? (i := 617) (by decide +kernel)
set_option maxRecDepth 20000 in
theorem qM_Tb_76 : (Jvm.Cond.methodLink "Threeboxes" (76 : Nat) ({ cls := "java/lang/IllegalStateException", name := "<init>", desc := "(Ljava/lang/String;)V" } : Jvm.MethodName)) ∈ lw_tbl := List.mem_of_getElem? (i := 618) (by decide +kernel)
set_option maxRecDepth 20000 in
theorem qI_ISE_init_7bbb : (Jvm.Cond.instanceMethod ({ cls := "java/lang/IllegalStateException", name := "<init>", desc := "(Ljava/lang/String;)V" } : Jvm.MethodName)) ∈ lw_tbl := List.mem_of_getElem? (i := 619) (by decide +kernel)
set_option maxRecDepth 20000 in
theorem qC_ISE_init_7bbb : (Jvm.Cond.code ({ cls := "java/lang/IllegalStateException", name := "<init>", desc := "(Ljava/lang/String;)V" } : Jvm.MethodName) prog_20_method_2_code (2 : Nat) (Option.none : Option Jvm.ClassFile.FieldType)) ∈ lw_tbl := List.mem_of_getElem? (i := 620) rfl
set_option maxRecDepth 20000 in
theorem qM_ISE_7 : (Jvm.Cond.methodLink "java/lang/IllegalStateException" (7 : Nat) ({ cls := "java/lang/RuntimeException", name := "<init>", desc := "(Ljava/lang/String;)V" } : Jvm.MethodName)) ∈ lw_tbl := List.mem_of_getElem? (i := 621) (by decide +kernel)
set_option maxRecDepth 20000 in
theorem qSc_ISE_RE : (Jvm.Cond.superclass "java/lang/IllegalStateException" "java/lang/RuntimeException") ∈ lw_tbl := List.mem_of_getElem? (i := 623) (by decide +kernel)
set_option maxRecDepth 20000 in
theorem qO_Ke : (Jvm.Cond.instantiable "Threeboxes$Keeper" (6 : Nat)) ∈ lw_tbl := List.mem_of_getElem? (i := 624) (by decide +kernel)
set_option maxRecDepth 20000 in
theorem qM_Tb_79 : (Jvm.Cond.methodLink "Threeboxes" (79 : Nat) ({ cls := "Threeboxes$Keeper", name := "<init>", desc := "(IIII)V" } : Jvm.MethodName)) ∈ lw_tbl := List.mem_of_getElem? (i := 625) (by decide +kernel)
set_option maxRecDepth 20000 in
theorem qI_Ke_init : (Jvm.Cond.instanceMethod ({ cls := "Threeboxes$Keeper", name := "<init>", desc := "(IIII)V" } : Jvm.MethodName)) ∈ lw_tbl := List.mem_of_getElem? (i := 626) (by decide +kernel)
set_option maxRecDepth 20000 in
theorem qC_Ke_init : (Jvm.Cond.code ({ cls := "Threeboxes$Keeper", name := "<init>", desc := "(IIII)V" } : Jvm.MethodName) prog_4_method_1_code (5 : Nat) (Option.none : Option Jvm.ClassFile.FieldType)) ∈ lw_tbl := List.mem_of_getElem? (i := 627) rfl
set_option maxRecDepth 20000 in
theorem qM_Ke_1 : (Jvm.Cond.methodLink "Threeboxes$Keeper" (1 : Nat) ({ cls := "java/lang/Object", name := "<init>", desc := "()V" } : Jvm.MethodName)) ∈ lw_tbl := List.mem_of_getElem? (i := 628) (by decide +kernel)
set_option maxRecDepth 20000 in
theorem qF_Ke_7 : (Jvm.Cond.fieldLink "Threeboxes$Keeper" (7 : Nat) "Threeboxes$Keeper" "number" "I") ∈ lw_tbl := List.mem_of_getElem? (i := 629) (by decide +kernel)
set_option maxRecDepth 20000 in
theorem qF_Tb_383 : (Jvm.Cond.fieldLink "Threeboxes" (383 : Nat) "Threeboxes$Keeper" "number" "I") ∈ lw_tbl := List.mem_of_getElem? (i := 630) (by decide +kernel)
set_option maxRecDepth 20000 in
theorem qF_Ke_13 : (Jvm.Cond.fieldLink "Threeboxes$Keeper" (13 : Nat) "Threeboxes$Keeper" "zone" "I") ∈ lw_tbl := List.mem_of_getElem? (i := 631) (by decide +kernel)
set_option maxRecDepth 20000 in
theorem qF_Tb_170 : (Jvm.Cond.fieldLink "Threeboxes" (170 : Nat) "Threeboxes$Keeper" "zone" "I") ∈ lw_tbl := List.mem_of_getElem? (i := 632) (by decide +kernel)
set_option maxRecDepth 20000 in
theorem qF_Ke_16 : (Jvm.Cond.fieldLink "Threeboxes$Keeper" (16 : Nat) "Threeboxes$Keeper" "price" "I") ∈ lw_tbl := List.mem_of_getElem? (i := 633) (by decide +kernel)
set_option maxRecDepth 20000 in
theorem qF_Tb_363 : (Jvm.Cond.fieldLink "Threeboxes" (363 : Nat) "Threeboxes$Keeper" "price" "I") ∈ lw_tbl := List.mem_of_getElem? (i := 634) (by decide +kernel)
set_option maxRecDepth 20000 in
theorem qF_Ke_19 : (Jvm.Cond.fieldLink "Threeboxes$Keeper" (19 : Nat) "Threeboxes$Keeper" "risk" "I") ∈ lw_tbl := List.mem_of_getElem? (i := 635) (by decide +kernel)
set_option maxRecDepth 20000 in
theorem qF_Tb_375 : (Jvm.Cond.fieldLink "Threeboxes" (375 : Nat) "Threeboxes$Keeper" "risk" "I") ∈ lw_tbl := List.mem_of_getElem? (i := 636) (by decide +kernel)
set_option maxRecDepth 20000 in
theorem qF_Ke_22 : (Jvm.Cond.fieldLink "Threeboxes$Keeper" (22 : Nat) "Threeboxes$Keeper" "lie" "I") ∈ lw_tbl := List.mem_of_getElem? (i := 637) (by decide +kernel)
set_option maxRecDepth 20000 in
theorem qF_Tb_96 : (Jvm.Cond.fieldLink "Threeboxes" (96 : Nat) "Threeboxes$Keeper" "lie" "I") ∈ lw_tbl := List.mem_of_getElem? (i := 638) (by decide +kernel)
set_option maxRecDepth 20000 in
theorem qF_Ke_25 : (Jvm.Cond.fieldLink "Threeboxes$Keeper" (25 : Nat) "Threeboxes$Keeper" "isNoted" "Z") ∈ lw_tbl := List.mem_of_getElem? (i := 639) (by decide +kernel)
set_option maxRecDepth 20000 in
theorem qF_Tb_348 : (Jvm.Cond.fieldLink "Threeboxes" (348 : Nat) "Threeboxes$Keeper" "isNoted" "Z") ∈ lw_tbl := List.mem_of_getElem? (i := 640) (by decide +kernel)
set_option maxRecDepth 20000 in
theorem qSc_Ke_Oj : (Jvm.Cond.superclass "Threeboxes$Keeper" "java/lang/Object") ∈ lw_tbl := List.mem_of_getElem? (i := 653) (by decide +kernel)
set_option maxRecDepth 20000 in
theorem qM_Tb_82 : (Jvm.Cond.methodLink "Threeboxes" (82 : Nat) ({ cls := "java/util/ArrayList", name := "add", desc := "(Ljava/lang/Object;)Z" } : Jvm.MethodName)) ∈ lw_tbl := List.mem_of_getElem? (i := 654) (by decide +kernel)
set_option maxRecDepth 20000 in
theorem qI_AL_add_1 : (Jvm.Cond.instanceMethod ({ cls := "java/util/ArrayList", name := "add", desc := "(Ljava/lang/Object;)Z" } : Jvm.MethodName)) ∈ lw_tbl := List.mem_of_getElem? (i := 655) (by decide +kernel)
set_option maxRecDepth 20000 in
theorem qV_AL_AL_add_1 : (Jvm.Cond.selects "java/util/ArrayList" ({ cls := "java/util/ArrayList", name := "add", desc := "(Ljava/lang/Object;)Z" } : Jvm.MethodName) ({ cls := "java/util/ArrayList", name := "add", desc := "(Ljava/lang/Object;)Z" } : Jvm.MethodName)) ∈ lw_tbl := List.mem_of_getElem? (i := 656) (by decide +kernel)
set_option maxRecDepth 20000 in
theorem qC_AL_add_1 : (Jvm.Cond.code ({ cls := "java/util/ArrayList", name := "add", desc := "(Ljava/lang/Object;)Z" } : Jvm.MethodName) prog_37_method_25_code (2 : Nat) (Option.some Jvm.ClassFile.FieldType.boolean)) ∈ lw_tbl := List.mem_of_getElem? (i := 657) rfl
set_option maxRecDepth 20000 in
theorem qM_AL_131 : (Jvm.Cond.methodLink "java/util/ArrayList" (131 : Nat) ({ cls := "java/util/ArrayList", name := "add", desc := "(Ljava/lang/Object;[Ljava/lang/Object;I)V" } : Jvm.MethodName)) ∈ lw_tbl := List.mem_of_getElem? (i := 658) (by decide +kernel)
set_option maxRecDepth 20000 in
theorem qI_AL_add_2 : (Jvm.Cond.instanceMethod ({ cls := "java/util/ArrayList", name := "add", desc := "(Ljava/lang/Object;[Ljava/lang/Object;I)V" } : Jvm.MethodName)) ∈ lw_tbl := List.mem_of_getElem? (i := 660) (by decide +kernel)
set_option maxRecDepth 20000 in
theorem qC_AL_add_2 : (Jvm.Cond.code ({ cls := "java/util/ArrayList", name := "add", desc := "(Ljava/lang/Object;[Ljava/lang/Object;I)V" } : Jvm.MethodName) prog_37_method_24_code (4 : Nat) (Option.none : Option Jvm.ClassFile.FieldType)) ∈ lw_tbl := List.mem_of_getElem? (i := 661) rfl
set_option maxRecDepth 20000 in
theorem qM_AL_129 : (Jvm.Cond.methodLink "java/util/ArrayList" (129 : Nat) ({ cls := "java/util/ArrayList", name := "grow", desc := "()[Ljava/lang/Object;" } : Jvm.MethodName)) ∈ lw_tbl := List.mem_of_getElem? (i := 662) (by decide +kernel)
set_option maxRecDepth 20000 in
theorem qI_AL_grow_1 : (Jvm.Cond.instanceMethod ({ cls := "java/util/ArrayList", name := "grow", desc := "()[Ljava/lang/Object;" } : Jvm.MethodName)) ∈ lw_tbl := List.mem_of_getElem? (i := 664) (by decide +kernel)
set_option maxRecDepth 20000 in
theorem qC_AL_grow_1 : (Jvm.Cond.code ({ cls := "java/util/ArrayList", name := "grow", desc := "()[Ljava/lang/Object;" } : Jvm.MethodName) prog_37_method_7_code (1 : Nat) (Option.some (Jvm.ClassFile.FieldType.array (Jvm.ClassFile.FieldType.object "java/lang/Object")))) ∈ lw_tbl := List.mem_of_getElem? (i := 665) rfl
set_option maxRecDepth 20000 in
theorem qM_AL_69 : (Jvm.Cond.methodLink "java/util/ArrayList" (69 : Nat) ({ cls := "java/util/ArrayList", name := "grow", desc := "(I)[Ljava/lang/Object;" } : Jvm.MethodName)) ∈ lw_tbl := List.mem_of_getElem? (i := 666) (by decide +kernel)
set_option maxRecDepth 20000 in
theorem qI_AL_grow_2 : (Jvm.Cond.instanceMethod ({ cls := "java/util/ArrayList", name := "grow", desc := "(I)[Ljava/lang/Object;" } : Jvm.MethodName)) ∈ lw_tbl := List.mem_of_getElem? (i := 668) (by decide +kernel)
set_option maxRecDepth 20000 in
theorem qC_AL_grow_2 : (Jvm.Cond.code ({ cls := "java/util/ArrayList", name := "grow", desc := "(I)[Ljava/lang/Object;" } : Jvm.MethodName) prog_37_method_6_code (4 : Nat) (Option.some (Jvm.ClassFile.FieldType.array (Jvm.ClassFile.FieldType.object "java/lang/Object")))) ∈ lw_tbl := List.mem_of_getElem? (i := 669) rfl
set_option maxRecDepth 20000 in
theorem qM_AL_73 : (Jvm.Cond.methodLink "java/util/ArrayList" (73 : Nat) ({ cls := "jdk/internal/util/ArraysSupport", name := "newLength", desc := "(III)I" } : Jvm.MethodName)) ∈ lw_tbl := List.mem_of_getElem? (i := 670) (by decide +kernel)
set_option maxRecDepth 20000 in
theorem qS_AS_newLength : (Jvm.Cond.static ({ cls := "jdk/internal/util/ArraysSupport", name := "newLength", desc := "(III)I" } : Jvm.MethodName)) ∈ lw_tbl := List.mem_of_getElem? (i := 671) (by decide +kernel)
set_option maxRecDepth 20000 in
theorem qC_AS_newLength : (Jvm.Cond.code ({ cls := "jdk/internal/util/ArraysSupport", name := "newLength", desc := "(III)I" } : Jvm.MethodName) prog_44_method_27_code (4 : Nat) (Option.some Jvm.ClassFile.FieldType.int)) ∈ lw_tbl := List.mem_of_getElem? (i := 672) rfl
set_option maxRecDepth 20000 in
theorem qM_AS_194 : (Jvm.Cond.methodLink "jdk/internal/util/ArraysSupport" (194 : Nat) ({ cls := "java/lang/Math", name := "max", desc := "(II)I" } : Jvm.MethodName)) ∈ lw_tbl := List.mem_of_getElem? (i := 673) (by decide +kernel)
set_option maxRecDepth 20000 in
theorem qS_Ma_max : (Jvm.Cond.static ({ cls := "java/lang/Math", name := "max", desc := "(II)I" } : Jvm.MethodName)) ∈ lw_tbl := List.mem_of_getElem? (i := 674) (by decide +kernel)
set_option maxRecDepth 20000 in
theorem qC_Ma_max : (Jvm.Cond.code ({ cls := "java/lang/Math", name := "max", desc := "(II)I" } : Jvm.MethodName) prog_24_method_65_code (2 : Nat) (Option.some Jvm.ClassFile.FieldType.int)) ∈ lw_tbl := List.mem_of_getElem? (i := 675) rfl
set_option maxRecDepth 20000 in
theorem qX_AS_200 : (Jvm.Cond.constant "jdk/internal/util/ArraysSupport" (200 : Nat) (2147483639 : Int32)) ∈ lw_tbl := List.mem_of_getElem? (i := 676) (by decide +kernel)
set_option maxRecDepth 20000 in
theorem qM_AS_201 : (Jvm.Cond.methodLink "jdk/internal/util/ArraysSupport" (201 : Nat) ({ cls := "jdk/internal/util/ArraysSupport", name := "hugeLength", desc := "(II)I" } : Jvm.MethodName)) ∈ lw_tbl := List.mem_of_getElem? (i := 677) (by decide +kernel)
set_option maxRecDepth 20000 in
theorem qS_AS_hugeLength : (Jvm.Cond.static ({ cls := "jdk/internal/util/ArraysSupport", name := "hugeLength", desc := "(II)I" } : Jvm.MethodName)) ∈ lw_tbl := List.mem_of_getElem? (i := 678) (by decide +kernel)
set_option maxRecDepth 20000 in
theorem qC_AS_hugeLength : (Jvm.Cond.code ({ cls := "jdk/internal/util/ArraysSupport", name := "hugeLength", desc := "(II)I" } : Jvm.MethodName) prog_44_method_28_code (3 : Nat) (Option.some Jvm.ClassFile.FieldType.int)) ∈ lw_tbl := List.mem_of_getElem? (i := 679) rfl
set_option maxRecDepth 20000 in
theorem qM_AL_66 : (Jvm.Cond.methodLink "java/util/ArrayList" (66 : Nat) ({ cls := "java/util/Arrays", name := "copyOf", desc := "([Ljava/lang/Object;I)[Ljava/lang/Object;" } : Jvm.MethodName)) ∈ lw_tbl := List.mem_of_getElem? (i := 680) (by decide +kernel)
set_option maxRecDepth 20000 in
theorem qS_Ar_copyOf_2 : (Jvm.Cond.static ({ cls := "java/util/Arrays", name := "copyOf", desc := "([Ljava/lang/Object;I)[Ljava/lang/Object;" } : Jvm.MethodName)) ∈ lw_tbl := List.mem_of_getElem? (i := 681) (by decide +kernel)
set_option maxRecDepth 20000 in
theorem qC_Ar_copyOf_2 : (Jvm.Cond.code ({ cls := "java/util/Arrays", name := "copyOf", desc := "([Ljava/lang/Object;I)[Ljava/lang/Object;" } : Jvm.MethodName) prog_38_method_119_code (2 : Nat) (Option.some (Jvm.ClassFile.FieldType.array (Jvm.ClassFile.FieldType.object "java/lang/Object")))) ∈ lw_tbl := List.mem_of_getElem? (i := 682) rfl
set_option maxRecDepth 20000 in
theorem qM_Ar_86 : (Jvm.Cond.methodLink "java/util/Arrays" (86 : Nat) ({ cls := "java/lang/Object", name := "getClass", desc := "()Ljava/lang/Class;" } : Jvm.MethodName)) ∈ lw_tbl := List.mem_of_getElem? (i := 683) (by decide +kernel)
set_option maxRecDepth 20000 in
theorem qI_Oj_getClass_6a1d : (Jvm.Cond.instanceMethod ({ cls := "java/lang/Object", name := "getClass", desc := "()Ljava/lang/Class;" } : Jvm.MethodName)) ∈ lw_tbl := List.mem_of_getElem? (i := 684) (by decide +kernel)
set_option maxRecDepth 20000 in
theorem qSm_Oj_javalangObject_getClass_LjavalangClass : (Jvm.Cond.sameMethod "java/lang/Object" "java/lang/Object" "getClass" "()Ljava/lang/Class;") ∈ lw_tbl := List.mem_of_getElem? (i := 685) (by decide +kernel)
set_option maxRecDepth 20000 in
theorem qV_Tb_Oj_getClass_6a1d : (Jvm.Cond.selects "Threeboxes" ({ cls := "java/lang/Object", name := "getClass", desc := "()Ljava/lang/Class;" } : Jvm.MethodName) ({ cls := "java/lang/Object", name := "getClass", desc := "()Ljava/lang/Class;" } : Jvm.MethodName)) ∈ lw_tbl := List.mem_of_getElem? (i := 686) (by decide +kernel)
set_option maxRecDepth 20000 in
theorem qV_Cu_Oj_getClass_6a1d : (Jvm.Cond.selects "Threeboxes$Curve" ({ cls := "java/lang/Object", name := "getClass", desc := "()Ljava/lang/Class;" } : Jvm.MethodName) ({ cls := "java/lang/Object", name := "getClass", desc := "()Ljava/lang/Class;" } : Jvm.MethodName)) ∈ lw_tbl := List.mem_of_getElem? (i := 687) (by decide +kernel)
set_option maxRecDepth 20000 in
theorem qV_Gr_Oj_getClass_6a1d : (Jvm.Cond.selects "Threeboxes$Group" ({ cls := "java/lang/Object", name := "getClass", desc := "()Ljava/lang/Class;" } : Jvm.MethodName) ({ cls := "java/lang/Object", name := "getClass", desc := "()Ljava/lang/Class;" } : Jvm.MethodName)) ∈ lw_tbl := List.mem_of_getElem? (i := 688) (by decide +kernel)
set_option maxRecDepth 20000 in
theorem qV_Ke_Oj_getClass_6a1d : (Jvm.Cond.selects "Threeboxes$Keeper" ({ cls := "java/lang/Object", name := "getClass", desc := "()Ljava/lang/Class;" } : Jvm.MethodName) ({ cls := "java/lang/Object", name := "getClass", desc := "()Ljava/lang/Class;" } : Jvm.MethodName)) ∈ lw_tbl := List.mem_of_getElem? (i := 689) (by decide +kernel)
set_option maxRecDepth 20000 in
theorem qV_Re_Oj_getClass_6a1d : (Jvm.Cond.selects "Threeboxes$Register" ({ cls := "java/lang/Object", name := "getClass", desc := "()Ljava/lang/Class;" } : Jvm.MethodName) ({ cls := "java/lang/Object", name := "getClass", desc := "()Ljava/lang/Class;" } : Jvm.MethodName)) ∈ lw_tbl := List.mem_of_getElem? (i := 690) (by decide +kernel)
set_option maxRecDepth 20000 in
theorem qV_Se_Oj_getClass_6a1d : (Jvm.Cond.selects "Threeboxes$Secret" ({ cls := "java/lang/Object", name := "getClass", desc := "()Ljava/lang/Class;" } : Jvm.MethodName) ({ cls := "java/lang/Object", name := "getClass", desc := "()Ljava/lang/Class;" } : Jvm.MethodName)) ∈ lw_tbl := List.mem_of_getElem? (i := 691) (by decide +kernel)
set_option maxRecDepth 20000 in
theorem qV_Ou_Oj_getClass_6a1d : (Jvm.Cond.selects "ThreeboxesLaw$Out" ({ cls := "java/lang/Object", name := "getClass", desc := "()Ljava/lang/Class;" } : Jvm.MethodName) ({ cls := "java/lang/Object", name := "getClass", desc := "()Ljava/lang/Class;" } : Jvm.MethodName)) ∈ lw_tbl := List.mem_of_getElem? (i := 692) (by decide +kernel)
set_option maxRecDepth 20000 in
theorem qV_Mo_Oj_getClass_6a1d : (Jvm.Cond.selects "ThreeboxesModel" ({ cls := "java/lang/Object", name := "getClass", desc := "()Ljava/lang/Class;" } : Jvm.MethodName) ({ cls := "java/lang/Object", name := "getClass", desc := "()Ljava/lang/Class;" } : Jvm.MethodName)) ∈ lw_tbl := List.mem_of_getElem? (i := 693) (by decide +kernel)
set_option maxRecDepth 20000 in
theorem qV_MK_Oj_getClass_6a1d : (Jvm.Cond.selects "ThreeboxesModel$Keeper" ({ cls := "java/lang/Object", name := "getClass", desc := "()Ljava/lang/Class;" } : Jvm.MethodName) ({ cls := "java/lang/Object", name := "getClass", desc := "()Ljava/lang/Class;" } : Jvm.MethodName)) ∈ lw_tbl := List.mem_of_getElem? (i := 694) (by decide +kernel)
set_option maxRecDepth 20000 in
theorem qV_MS_Oj_getClass_6a1d : (Jvm.Cond.selects "ThreeboxesModel$Secret" ({ cls := "java/lang/Object", name := "getClass", desc := "()Ljava/lang/Class;" } : Jvm.MethodName) ({ cls := "java/lang/Object", name := "getClass", desc := "()Ljava/lang/Class;" } : Jvm.MethodName)) ∈ lw_tbl := List.mem_of_getElem? (i := 695) (by decide +kernel)
set_option maxRecDepth 20000 in
theorem qV_IAE_Oj_getClass_6a1d : (Jvm.Cond.selects "java/lang/IllegalArgumentException" ({ cls := "java/lang/Object", name := "getClass", desc := "()Ljava/lang/Class;" } : Jvm.MethodName) ({ cls := "java/lang/Object", name := "getClass", desc := "()Ljava/lang/Class;" } : Jvm.MethodName)) ∈ lw_tbl := List.mem_of_getElem? (i := 696) (by decide +kernel)
set_option maxRecDepth 20000 in
theorem qV_ISE_Oj_getClass_6a1d : (Jvm.Cond.selects "java/lang/IllegalStateException" ({ cls := "java/lang/Object", name := "getClass", desc := "()Ljava/lang/Class;" } : Jvm.MethodName) ({ cls := "java/lang/Object", name := "getClass", desc := "()Ljava/lang/Class;" } : Jvm.MethodName)) ∈ lw_tbl := List.mem_of_getElem? (i := 697) (by decide +kernel)
set_option maxRecDepth 20000 in
theorem qV_IOE_Oj_getClass_6a1d : (Jvm.Cond.selects "java/lang/IndexOutOfBoundsException" ({ cls := "java/lang/Object", name := "getClass", desc := "()Ljava/lang/Class;" } : Jvm.MethodName) ({ cls := "java/lang/Object", name := "getClass", desc := "()Ljava/lang/Class;" } : Jvm.MethodName)) ∈ lw_tbl := List.mem_of_getElem? (i := 698) (by decide +kernel)
set_option maxRecDepth 20000 in
theorem qV_St_Oj_getClass_6a1d : (Jvm.Cond.selects "java/lang/String" ({ cls := "java/lang/Object", name := "getClass", desc := "()Ljava/lang/Class;" } : Jvm.MethodName) ({ cls := "java/lang/Object", name := "getClass", desc := "()Ljava/lang/Class;" } : Jvm.MethodName)) ∈ lw_tbl := List.mem_of_getElem? (i := 699) (by decide +kernel)
set_option maxRecDepth 20000 in
theorem qV_SB_Oj_getClass_6a1d : (Jvm.Cond.selects "java/lang/StringBuilder" ({ cls := "java/lang/Object", name := "getClass", desc := "()Ljava/lang/Class;" } : Jvm.MethodName) ({ cls := "java/lang/Object", name := "getClass", desc := "()Ljava/lang/Class;" } : Jvm.MethodName)) ∈ lw_tbl := List.mem_of_getElem? (i := 700) (by decide +kernel)
set_option maxRecDepth 20000 in
theorem qV_AL_Oj_getClass_6a1d : (Jvm.Cond.selects "java/util/ArrayList" ({ cls := "java/lang/Object", name := "getClass", desc := "()Ljava/lang/Class;" } : Jvm.MethodName) ({ cls := "java/lang/Object", name := "getClass", desc := "()Ljava/lang/Class;" } : Jvm.MethodName)) ∈ lw_tbl := List.mem_of_getElem? (i := 701) (by decide +kernel)
set_option maxRecDepth 20000 in
theorem qNa_Oj_getClass_6a1d : (Jvm.Cond.native ({ cls := "java/lang/Object", name := "getClass", desc := "()Ljava/lang/Class;" } : Jvm.MethodName)) ∈ lw_tbl := List.mem_of_getElem? (i := 702) (by decide +kernel)
set_option maxRecDepth 20000 in
theorem qM_Ar_300 : (Jvm.Cond.methodLink "java/util/Arrays" (300 : Nat) ({ cls := "java/util/Arrays", name := "copyOf", desc := "([Ljava/lang/Object;ILjava/lang/Class;)[Ljava/lang/Object;" } : Jvm.MethodName)) ∈ lw_tbl := List.mem_of_getElem? (i := 703) (by decide +kernel)
set_option maxRecDepth 20000 in
theorem qS_Ar_copyOf_3 : (Jvm.Cond.static ({ cls := "java/util/Arrays", name := "copyOf", desc := "([Ljava/lang/Object;ILjava/lang/Class;)[Ljava/lang/Object;" } : Jvm.MethodName)) ∈ lw_tbl := List.mem_of_getElem? (i := 704) (by decide +kernel)
set_option maxRecDepth 20000 in
theorem qC_Ar_copyOf_3 : (Jvm.Cond.code ({ cls := "java/util/Arrays", name := "copyOf", desc := "([Ljava/lang/Object;ILjava/lang/Class;)[Ljava/lang/Object;" } : Jvm.MethodName) prog_38_method_120_code (4 : Nat) (Option.some (Jvm.ClassFile.FieldType.array (Jvm.ClassFile.FieldType.object "java/lang/Object")))) ∈ lw_tbl := List.mem_of_getElem? (i := 705) rfl
set_option maxRecDepth 20000 in
theorem qK_Ar_110 : (Jvm.Cond.classLink "java/util/Arrays" (110 : Nat) "[Ljava/lang/Object;") ∈ lw_tbl := List.mem_of_getElem? (i := 706) (by decide +kernel)
set_option maxRecDepth 20000 in
theorem qAo_objectjavalangObject : (Jvm.Cond.arrayOver (Jvm.ClassFile.FieldType.object "java/lang/Object")) ∈ lw_tbl := List.mem_of_getElem? (i := 707) (by decide +kernel)
set_option maxRecDepth 20000 in
theorem qK_Ar_2 : (Jvm.Cond.classLink "java/util/Arrays" (2 : Nat) "java/lang/Object") ∈ lw_tbl := List.mem_of_getElem? (i := 708) (by decide +kernel)
set_option maxRecDepth 20000 in
theorem qM_Ar_304 : (Jvm.Cond.methodLink "java/util/Arrays" (304 : Nat) ({ cls := "java/lang/Math", name := "min", desc := "(II)I" } : Jvm.MethodName)) ∈ lw_tbl := List.mem_of_getElem? (i := 709) (by decide +kernel)
set_option maxRecDepth 20000 in
theorem qS_Ma_min : (Jvm.Cond.static ({ cls := "java/lang/Math", name := "min", desc := "(II)I" } : Jvm.MethodName)) ∈ lw_tbl := List.mem_of_getElem? (i := 710) (by decide +kernel)
set_option maxRecDepth 20000 in
theorem qC_Ma_min : (Jvm.Cond.code ({ cls := "java/lang/Math", name := "min", desc := "(II)I" } : Jvm.MethodName) prog_24_method_69_code (2 : Nat) (Option.some Jvm.ClassFile.FieldType.int)) ∈ lw_tbl := List.mem_of_getElem? (i := 711) rfl
set_option maxRecDepth 20000 in
theorem qM_Ar_150 : (Jvm.Cond.methodLink "java/util/Arrays" (150 : Nat) ({ cls := "java/lang/System", name := "arraycopy", desc := "(Ljava/lang/Object;ILjava/lang/Object;II)V" } : Jvm.MethodName)) ∈ lw_tbl := List.mem_of_getElem? (i := 712) (by decide +kernel)
set_option maxRecDepth 20000 in
theorem qS_Sy_arraycopy_8b78 : (Jvm.Cond.static ({ cls := "java/lang/System", name := "arraycopy", desc := "(Ljava/lang/Object;ILjava/lang/Object;II)V" } : Jvm.MethodName)) ∈ lw_tbl := List.mem_of_getElem? (i := 713) (by decide +kernel)
set_option maxRecDepth 20000 in
theorem qNa_Sy_arraycopy_8b78 : (Jvm.Cond.native ({ cls := "java/lang/System", name := "arraycopy", desc := "(Ljava/lang/Object;ILjava/lang/Object;II)V" } : Jvm.MethodName)) ∈ lw_tbl := List.mem_of_getElem? (i := 714) (by decide +kernel)
set_option maxRecDepth 20000 in
theorem qM_AL_79 : (Jvm.Cond.methodLink "java/util/ArrayList" (79 : Nat) ({ cls := "java/lang/Math", name := "max", desc := "(II)I" } : Jvm.MethodName)) ∈ lw_tbl := List.mem_of_getElem? (i := 715) (by decide +kernel)
set_option maxRecDepth 20000 in
theorem qK_AL_7 : (Jvm.Cond.classLink "java/util/ArrayList" (7 : Nat) "java/lang/Object") ∈ lw_tbl := List.mem_of_getElem? (i := 716) (by decide +kernel)
set_option maxRecDepth 20000 in
theorem qM_La_112 : (Jvm.Cond.methodLink "ThreeboxesLaw" (112 : Nat) ({ cls := "ThreeboxesLaw", name := "lie", desc := "(LThreeboxes;IILThreeboxesLaw$Out;)I" } : Jvm.MethodName)) ∈ lw_tbl := List.mem_of_getElem? (i := 717) (by decide +kernel)
set_option maxRecDepth 20000 in
theorem qS_La_lie : (Jvm.Cond.static ({ cls := "ThreeboxesLaw", name := "lie", desc := "(LThreeboxes;IILThreeboxesLaw$Out;)I" } : Jvm.MethodName)) ∈ lw_tbl := List.mem_of_getElem? (i := 718) (by decide +kernel)
set_option maxRecDepth 20000 in
theorem qCw_La_lie : (Jvm.Cond.codeWith ({ cls := "ThreeboxesLaw", name := "lie", desc := "(LThreeboxes;IILThreeboxesLaw$Out;)I" } : Jvm.MethodName) method_3_code (5 : Nat) (Option.some Jvm.ClassFile.FieldType.int) [((0 : Nat), (11 : Nat), (14 : Nat), (27 : Nat)), ((0 : Nat), (11 : Nat), (18 : Nat), (19 : Nat))]) ∈ lw_tbl := List.mem_of_getElem? (i := 719) rfl
set_option maxRecDepth 20000 in
theorem qK_La_27 : (Jvm.Cond.classLink "ThreeboxesLaw" (27 : Nat) "java/lang/IndexOutOfBoundsException") ∈ lw_tbl := List.mem_of_getElem? (i := 720) (by decide +kernel)
set_option maxRecDepth 20000 in
theorem qM_La_23 : (Jvm.Cond.methodLink "ThreeboxesLaw" (23 : Nat) ({ cls := "Threeboxes", name := "lie", desc := "(II)I" } : Jvm.MethodName)) ∈ lw_tbl := List.mem_of_getElem? (i := 721) (by decide +kernel)
set_option maxRecDepth 20000 in
theorem qI_Tb_lie : (Jvm.Cond.instanceMethod ({ cls := "Threeboxes", name := "lie", desc := "(II)I" } : Jvm.MethodName)) ∈ lw_tbl := List.mem_of_getElem? (i := 722) (by decide +kernel)
set_option maxRecDepth 20000 in
theorem qV_Tb_Tb_lie : (Jvm.Cond.selects "Threeboxes" ({ cls := "Threeboxes", name := "lie", desc := "(II)I" } : Jvm.MethodName) ({ cls := "Threeboxes", name := "lie", desc := "(II)I" } : Jvm.MethodName)) ∈ lw_tbl := List.mem_of_getElem? (i := 723) (by decide +kernel)
set_option maxRecDepth 20000 in
theorem qC_Tb_lie : (Jvm.Cond.code ({ cls := "Threeboxes", name := "lie", desc := "(II)I" } : Jvm.MethodName) prog_1_method_3_code (5 : Nat) (Option.some Jvm.ClassFile.FieldType.int)) ∈ lw_tbl := List.mem_of_getElem? (i := 724) rfl
set_option maxRecDepth 20000 in
theorem qM_Tb_86 : (Jvm.Cond.methodLink "Threeboxes" (86 : Nat) ({ cls := "Threeboxes", name := "keeperAt", desc := "(I)LThreeboxes$Keeper;" } : Jvm.MethodName)) ∈ lw_tbl := List.mem_of_getElem? (i := 725) (by decide +kernel)
set_option maxRecDepth 20000 in
theorem qI_Tb_keeperAt : (Jvm.Cond.instanceMethod ({ cls := "Threeboxes", name := "keeperAt", desc := "(I)LThreeboxes$Keeper;" } : Jvm.MethodName)) ∈ lw_tbl := List.mem_of_getElem? (i := 727) (by decide +kernel)
set_option maxRecDepth 20000 in
theorem qC_Tb_keeperAt : (Jvm.Cond.code ({ cls := "Threeboxes", name := "keeperAt", desc := "(I)LThreeboxes$Keeper;" } : Jvm.MethodName) prog_1_method_34_code (2 : Nat) (Option.some (Jvm.ClassFile.FieldType.object "Threeboxes$Keeper"))) ∈ lw_tbl := List.mem_of_getElem? (i := 728) rfl
set_option maxRecDepth 20000 in
theorem qK_Tb_161 : (Jvm.Cond.classLink "Threeboxes" (161 : Nat) "java/lang/IndexOutOfBoundsException") ∈ lw_tbl := List.mem_of_getElem? (i := 729) (by decide +kernel)
set_option maxRecDepth 20000 in
theorem qO_IOE : (Jvm.Cond.instantiable "java/lang/IndexOutOfBoundsException" (6 : Nat)) ∈ lw_tbl := List.mem_of_getElem? (i := 730) (by decide +kernel)
set_option maxRecDepth 20000 in
theorem qT_IOE_IOE : (Jvm.Cond.castable "java/lang/IndexOutOfBoundsException" "java/lang/IndexOutOfBoundsException") ∈ lw_tbl := List.mem_of_getElem? (i := 731) (by decide +kernel)
set_option maxRecDepth 20000 in
theorem qV_IOE_Th_fillInStackTrace_a1a2 : (Jvm.Cond.selects "java/lang/IndexOutOfBoundsException" ({ cls := "java/lang/Throwable", name := "fillInStackTrace", desc := "(I)Ljava/lang/Throwable;" } : Jvm.MethodName) ({ cls := "java/lang/Throwable", name := "fillInStackTrace", desc := "(I)Ljava/lang/Throwable;" } : Jvm.MethodName)) ∈ lw_tbl := List.mem_of_getElem? (i := 732) (by decide +kernel)
set_option maxRecDepth 20000 in
theorem qR_Tb_338 : (Jvm.Cond.stringRef "Threeboxes" (338 : Nat) "no such keeper") ∈ lw_tbl := List.mem_of_getElem? (i := 738) (by decide +kernel)
set_option maxRecDepth 20000 in
theorem qM_Tb_165 : (Jvm.Cond.methodLink "Threeboxes" (165 : Nat) ({ cls := "java/lang/IndexOutOfBoundsException", name := "<init>", desc := "(Ljava/lang/String;)V" } : Jvm.MethodName)) ∈ lw_tbl := List.mem_of_getElem? (i := 739) (by decide +kernel)
set_option maxRecDepth 20000 in
theorem qI_IOE_init_7bbb : (Jvm.Cond.instanceMethod ({ cls := "java/lang/IndexOutOfBoundsException", name := "<init>", desc := "(Ljava/lang/String;)V" } : Jvm.MethodName)) ∈ lw_tbl := List.mem_of_getElem? (i := 740) (by decide +kernel)
set_option maxRecDepth 20000 in
theorem qC_IOE_init_7bbb : (Jvm.Cond.code ({ cls := "java/lang/IndexOutOfBoundsException", name := "<init>", desc := "(Ljava/lang/String;)V" } : Jvm.MethodName) prog_21_method_2_code (2 : Nat) (Option.none : Option Jvm.ClassFile.FieldType)) ∈ lw_tbl := List.mem_of_getElem? (i := 741) rfl
set_option maxRecDepth 20000 in
theorem qM_IOE_7 : (Jvm.Cond.methodLink "java/lang/IndexOutOfBoundsException" (7 : Nat) ({ cls := "java/lang/RuntimeException", name := "<init>", desc := "(Ljava/lang/String;)V" } : Jvm.MethodName)) ∈ lw_tbl := List.mem_of_getElem? (i := 742) (by decide +kernel)
set_option maxRecDepth 20000 in
theorem qSc_IOE_RE : (Jvm.Cond.superclass "java/lang/IndexOutOfBoundsException" "java/lang/RuntimeException") ∈ lw_tbl := List.mem_of_getElem? (i := 744) (by decide +kernel)
set_option maxRecDepth 20000 in
theorem qR_Tb_94 : (Jvm.Cond.stringRef "Threeboxes" (94 : Nat) "a lie is 0 to 96") ∈ lw_tbl := List.mem_of_getElem? (i := 745) (by decide +kernel)
set_option maxRecDepth 20000 in
theorem qM_La_116 : (Jvm.Cond.methodLink "ThreeboxesLaw" (116 : Nat) ({ cls := "ThreeboxesLaw", name := "deal", desc := "(LThreeboxes;IIIIILThreeboxesLaw$Out;)I" } : Jvm.MethodName)) ∈ lw_tbl := List.mem_of_getElem? (i := 746) (by decide +kernel)
set_option maxRecDepth 20000 in
theorem qS_La_deal : (Jvm.Cond.static ({ cls := "ThreeboxesLaw", name := "deal", desc := "(LThreeboxes;IIIIILThreeboxesLaw$Out;)I" } : Jvm.MethodName)) ∈ lw_tbl := List.mem_of_getElem? (i := 747) (by decide +kernel)
set_option maxRecDepth 20000 in
theorem qCw_La_deal : (Jvm.Cond.codeWith ({ cls := "ThreeboxesLaw", name := "deal", desc := "(LThreeboxes;IIIIILThreeboxesLaw$Out;)I" } : Jvm.MethodName) method_4_code (8 : Nat) (Option.some Jvm.ClassFile.FieldType.int) [((0 : Nat), (17 : Nat), (20 : Nat), (19 : Nat)), ((0 : Nat), (17 : Nat), (24 : Nat), (21 : Nat))]) ∈ lw_tbl := List.mem_of_getElem? (i := 748) rfl
set_option maxRecDepth 20000 in
theorem qM_La_29 : (Jvm.Cond.methodLink "ThreeboxesLaw" (29 : Nat) ({ cls := "Threeboxes", name := "deal", desc := "(IIIII)I" } : Jvm.MethodName)) ∈ lw_tbl := List.mem_of_getElem? (i := 749) (by decide +kernel)
set_option maxRecDepth 20000 in
theorem qI_Tb_deal : (Jvm.Cond.instanceMethod ({ cls := "Threeboxes", name := "deal", desc := "(IIIII)I" } : Jvm.MethodName)) ∈ lw_tbl := List.mem_of_getElem? (i := 750) (by decide +kernel)
set_option maxRecDepth 20000 in
theorem qV_Tb_Tb_deal : (Jvm.Cond.selects "Threeboxes" ({ cls := "Threeboxes", name := "deal", desc := "(IIIII)I" } : Jvm.MethodName) ({ cls := "Threeboxes", name := "deal", desc := "(IIIII)I" } : Jvm.MethodName)) ∈ lw_tbl := List.mem_of_getElem? (i := 751) (by decide +kernel)
set_option maxRecDepth 20000 in
theorem qC_Tb_deal : (Jvm.Cond.code ({ cls := "Threeboxes", name := "deal", desc := "(IIIII)I" } : Jvm.MethodName) prog_1_method_4_code (8 : Nat) (Option.some Jvm.ClassFile.FieldType.int)) ∈ lw_tbl := List.mem_of_getElem? (i := 752) rfl
set_option maxRecDepth 20000 in
theorem qR_Tb_99 : (Jvm.Cond.stringRef "Threeboxes" (99 : Nat) "no such value, threshold, zones or date") ∈ lw_tbl := List.mem_of_getElem? (i := 753) (by decide +kernel)
set_option maxRecDepth 20000 in
theorem qM_Tb_101 : (Jvm.Cond.methodLink "Threeboxes" (101 : Nat) ({ cls := "Threeboxes", name := "needSet", desc := "(I)V" } : Jvm.MethodName)) ∈ lw_tbl := List.mem_of_getElem? (i := 754) (by decide +kernel)
set_option maxRecDepth 20000 in
theorem qI_Tb_needSet : (Jvm.Cond.instanceMethod ({ cls := "Threeboxes", name := "needSet", desc := "(I)V" } : Jvm.MethodName)) ∈ lw_tbl := List.mem_of_getElem? (i := 756) (by decide +kernel)
set_option maxRecDepth 20000 in
theorem qC_Tb_needSet : (Jvm.Cond.code ({ cls := "Threeboxes", name := "needSet", desc := "(I)V" } : Jvm.MethodName) prog_1_method_32_code (2 : Nat) (Option.none : Option Jvm.ClassFile.FieldType)) ∈ lw_tbl := List.mem_of_getElem? (i := 757) rfl
set_option maxRecDepth 20000 in
theorem qR_Tb_334 : (Jvm.Cond.stringRef "Threeboxes" (334 : Nat) "no set of keepers that there are") ∈ lw_tbl := List.mem_of_getElem? (i := 758) (by decide +kernel)
set_option maxRecDepth 20000 in
theorem qR_Tb_111 : (Jvm.Cond.stringRef "Threeboxes" (111 : Nat) "fewer keepers than the threshold") ∈ lw_tbl := List.mem_of_getElem? (i := 759) (by decide +kernel)
set_option maxRecDepth 20000 in
theorem qR_Tb_113 : (Jvm.Cond.stringRef "Threeboxes" (113 : Nat) "there are 6 secrets") ∈ lw_tbl := List.mem_of_getElem? (i := 760) (by decide +kernel)
set_option maxRecDepth 20000 in
theorem qO_Se : (Jvm.Cond.instantiable "Threeboxes$Secret" (8 : Nat)) ∈ lw_tbl := List.mem_of_getElem? (i := 761) (by decide +kernel)
set_option maxRecDepth 20000 in
theorem qM_Tb_117 : (Jvm.Cond.methodLink "Threeboxes" (117 : Nat) ({ cls := "Threeboxes$Secret", name := "<init>", desc := "(III)V" } : Jvm.MethodName)) ∈ lw_tbl := List.mem_of_getElem? (i := 762) (by decide +kernel)
set_option maxRecDepth 20000 in
theorem qI_Se_init : (Jvm.Cond.instanceMethod ({ cls := "Threeboxes$Secret", name := "<init>", desc := "(III)V" } : Jvm.MethodName)) ∈ lw_tbl := List.mem_of_getElem? (i := 763) (by decide +kernel)
set_option maxRecDepth 20000 in
theorem qC_Se_init : (Jvm.Cond.code ({ cls := "Threeboxes$Secret", name := "<init>", desc := "(III)V" } : Jvm.MethodName) prog_6_method_1_code (5 : Nat) (Option.none : Option Jvm.ClassFile.FieldType)) ∈ lw_tbl := List.mem_of_getElem? (i := 764) rfl
set_option maxRecDepth 20000 in
theorem qM_Se_3 : (Jvm.Cond.methodLink "Threeboxes$Secret" (3 : Nat) ({ cls := "java/lang/Object", name := "<init>", desc := "()V" } : Jvm.MethodName)) ∈ lw_tbl := List.mem_of_getElem? (i := 765) (by decide +kernel)
set_option maxRecDepth 20000 in
theorem qF_Se_9 : (Jvm.Cond.fieldLink "Threeboxes$Secret" (9 : Nat) "Threeboxes$Secret" "threshold" "I") ∈ lw_tbl := List.mem_of_getElem? (i := 766) (by decide +kernel)
set_option maxRecDepth 20000 in
theorem qF_Tb_147 : (Jvm.Cond.fieldLink "Threeboxes" (147 : Nat) "Threeboxes$Secret" "threshold" "I") ∈ lw_tbl := List.mem_of_getElem? (i := 767) (by decide +kernel)
set_option maxRecDepth 20000 in
theorem qF_Se_15 : (Jvm.Cond.fieldLink "Threeboxes$Secret" (15 : Nat) "Threeboxes$Secret" "zones" "I") ∈ lw_tbl := List.mem_of_getElem? (i := 768) (by decide +kernel)
set_option maxRecDepth 20000 in
theorem qF_Tb_357 : (Jvm.Cond.fieldLink "Threeboxes" (357 : Nat) "Threeboxes$Secret" "zones" "I") ∈ lw_tbl := List.mem_of_getElem? (i := 769) (by decide +kernel)
set_option maxRecDepth 20000 in
theorem qF_Se_18 : (Jvm.Cond.fieldLink "Threeboxes$Secret" (18 : Nat) "Threeboxes$Secret" "date" "I") ∈ lw_tbl := List.mem_of_getElem? (i := 770) (by decide +kernel)
set_option maxRecDepth 20000 in
theorem qF_Tb_360 : (Jvm.Cond.fieldLink "Threeboxes" (360 : Nat) "Threeboxes$Secret" "date" "I") ∈ lw_tbl := List.mem_of_getElem? (i := 771) (by decide +kernel)
set_option maxRecDepth 20000 in
theorem qF_Se_21 : (Jvm.Cond.fieldLink "Threeboxes$Secret" (21 : Nat) "Threeboxes$Secret" "shares" "[I") ∈ lw_tbl := List.mem_of_getElem? (i := 772) (by decide +kernel)
set_option maxRecDepth 20000 in
theorem qF_Se_25 : (Jvm.Cond.fieldLink "Threeboxes$Secret" (25 : Nat) "Threeboxes$Secret" "epochs" "[I") ∈ lw_tbl := List.mem_of_getElem? (i := 773) (by decide +kernel)
set_option maxRecDepth 20000 in
theorem qF_Se_28 : (Jvm.Cond.fieldLink "Threeboxes$Secret" (28 : Nat) "Threeboxes$Secret" "epoch" "I") ∈ lw_tbl := List.mem_of_getElem? (i := 774) (by decide +kernel)
set_option maxRecDepth 20000 in
theorem qF_Tb_152 : (Jvm.Cond.fieldLink "Threeboxes" (152 : Nat) "Threeboxes$Secret" "epoch" "I") ∈ lw_tbl := List.mem_of_getElem? (i := 775) (by decide +kernel)
set_option maxRecDepth 20000 in
theorem qF_Se_31 : (Jvm.Cond.fieldLink "Threeboxes$Secret" (31 : Nat) "Threeboxes$Secret" "frozenBy" "I") ∈ lw_tbl := List.mem_of_getElem? (i := 776) (by decide +kernel)
set_option maxRecDepth 20000 in
theorem qF_Tb_213 : (Jvm.Cond.fieldLink "Threeboxes" (213 : Nat) "Threeboxes$Secret" "frozenBy" "I") ∈ lw_tbl := List.mem_of_getElem? (i := 777) (by decide +kernel)
set_option maxRecDepth 20000 in
theorem qF_Se_34 : (Jvm.Cond.fieldLink "Threeboxes$Secret" (34 : Nat) "Threeboxes$Secret" "isByLiars" "Z") ∈ lw_tbl := List.mem_of_getElem? (i := 778) (by decide +kernel)
set_option maxRecDepth 20000 in
theorem qF_Tb_206 : (Jvm.Cond.fieldLink "Threeboxes" (206 : Nat) "Threeboxes$Secret" "isByLiars" "Z") ∈ lw_tbl := List.mem_of_getElem? (i := 779) (by decide +kernel)
set_option maxRecDepth 20000 in
theorem qSc_Se_Oj : (Jvm.Cond.superclass "Threeboxes$Secret" "java/lang/Object") ∈ lw_tbl := List.mem_of_getElem? (i := 796) (by decide +kernel)
set_option maxRecDepth 20000 in
theorem qM_Tb_120 : (Jvm.Cond.methodLink "Threeboxes" (120 : Nat) ({ cls := "Threeboxes$Curve", name := "draw", desc := "(II)V" } : Jvm.MethodName)) ∈ lw_tbl := List.mem_of_getElem? (i := 797) (by decide +kernel)
set_option maxRecDepth 20000 in
theorem qI_Cu_draw : (Jvm.Cond.instanceMethod ({ cls := "Threeboxes$Curve", name := "draw", desc := "(II)V" } : Jvm.MethodName)) ∈ lw_tbl := List.mem_of_getElem? (i := 798) (by decide +kernel)
set_option maxRecDepth 20000 in
theorem qV_Cu_Cu_draw : (Jvm.Cond.selects "Threeboxes$Curve" ({ cls := "Threeboxes$Curve", name := "draw", desc := "(II)V" } : Jvm.MethodName) ({ cls := "Threeboxes$Curve", name := "draw", desc := "(II)V" } : Jvm.MethodName)) ∈ lw_tbl := List.mem_of_getElem? (i := 799) (by decide +kernel)
set_option maxRecDepth 20000 in
theorem qC_Cu_draw : (Jvm.Cond.code ({ cls := "Threeboxes$Curve", name := "draw", desc := "(II)V" } : Jvm.MethodName) prog_2_method_2_code (4 : Nat) (Option.none : Option Jvm.ClassFile.FieldType)) ∈ lw_tbl := List.mem_of_getElem? (i := 800) rfl
set_option maxRecDepth 20000 in
theorem qM_Cu_19 : (Jvm.Cond.methodLink "Threeboxes$Curve" (19 : Nat) ({ cls := "Threeboxes$Curve", name := "nextNumber", desc := "()I" } : Jvm.MethodName)) ∈ lw_tbl := List.mem_of_getElem? (i := 801) (by decide +kernel)
set_option maxRecDepth 20000 in
theorem qI_Cu_nextNumber : (Jvm.Cond.instanceMethod ({ cls := "Threeboxes$Curve", name := "nextNumber", desc := "()I" } : Jvm.MethodName)) ∈ lw_tbl := List.mem_of_getElem? (i := 803) (by decide +kernel)
set_option maxRecDepth 20000 in
theorem qC_Cu_nextNumber : (Jvm.Cond.code ({ cls := "Threeboxes$Curve", name := "nextNumber", desc := "()I" } : Jvm.MethodName) prog_2_method_3_code (1 : Nat) (Option.some Jvm.ClassFile.FieldType.int)) ∈ lw_tbl := List.mem_of_getElem? (i := 804) rfl
set_option maxRecDepth 20000 in
theorem qM_Tb_131 : (Jvm.Cond.methodLink "Threeboxes" (131 : Nat) ({ cls := "Threeboxes$Curve", name := "at", desc := "(I)I" } : Jvm.MethodName)) ∈ lw_tbl := List.mem_of_getElem? (i := 805) (by decide +kernel)
set_option maxRecDepth 20000 in
theorem qI_Cu_at : (Jvm.Cond.instanceMethod ({ cls := "Threeboxes$Curve", name := "at", desc := "(I)I" } : Jvm.MethodName)) ∈ lw_tbl := List.mem_of_getElem? (i := 806) (by decide +kernel)
set_option maxRecDepth 20000 in
theorem qV_Cu_Cu_at : (Jvm.Cond.selects "Threeboxes$Curve" ({ cls := "Threeboxes$Curve", name := "at", desc := "(I)I" } : Jvm.MethodName) ({ cls := "Threeboxes$Curve", name := "at", desc := "(I)I" } : Jvm.MethodName)) ∈ lw_tbl := List.mem_of_getElem? (i := 807) (by decide +kernel)
set_option maxRecDepth 20000 in
theorem qC_Cu_at : (Jvm.Cond.code ({ cls := "Threeboxes$Curve", name := "at", desc := "(I)I" } : Jvm.MethodName) prog_2_method_4_code (4 : Nat) (Option.some Jvm.ClassFile.FieldType.int)) ∈ lw_tbl := List.mem_of_getElem? (i := 808) rfl
set_option maxRecDepth 20000 in
theorem qM_Tb_134 : (Jvm.Cond.methodLink "Threeboxes" (134 : Nat) ({ cls := "Threeboxes$Secret", name := "hold", desc := "(II)V" } : Jvm.MethodName)) ∈ lw_tbl := List.mem_of_getElem? (i := 809) (by decide +kernel)
set_option maxRecDepth 20000 in
theorem qI_Se_hold : (Jvm.Cond.instanceMethod ({ cls := "Threeboxes$Secret", name := "hold", desc := "(II)V" } : Jvm.MethodName)) ∈ lw_tbl := List.mem_of_getElem? (i := 810) (by decide +kernel)
set_option maxRecDepth 20000 in
theorem qV_Se_Se_hold : (Jvm.Cond.selects "Threeboxes$Secret" ({ cls := "Threeboxes$Secret", name := "hold", desc := "(II)V" } : Jvm.MethodName) ({ cls := "Threeboxes$Secret", name := "hold", desc := "(II)V" } : Jvm.MethodName)) ∈ lw_tbl := List.mem_of_getElem? (i := 811) (by decide +kernel)
set_option maxRecDepth 20000 in
theorem qC_Se_hold : (Jvm.Cond.code ({ cls := "Threeboxes$Secret", name := "hold", desc := "(II)V" } : Jvm.MethodName) prog_6_method_7_code (3 : Nat) (Option.none : Option Jvm.ClassFile.FieldType)) ∈ lw_tbl := List.mem_of_getElem? (i := 812) rfl
set_option maxRecDepth 20000 in
theorem qM_Se_46 : (Jvm.Cond.methodLink "Threeboxes$Secret" (46 : Nat) ({ cls := "Threeboxes$Secret", name := "put", desc := "(III)V" } : Jvm.MethodName)) ∈ lw_tbl := List.mem_of_getElem? (i := 813) (by decide +kernel)
set_option maxRecDepth 20000 in
theorem qI_Se_put : (Jvm.Cond.instanceMethod ({ cls := "Threeboxes$Secret", name := "put", desc := "(III)V" } : Jvm.MethodName)) ∈ lw_tbl := List.mem_of_getElem? (i := 815) (by decide +kernel)
set_option maxRecDepth 20000 in
theorem qC_Se_put : (Jvm.Cond.code ({ cls := "Threeboxes$Secret", name := "put", desc := "(III)V" } : Jvm.MethodName) prog_6_method_9_code (4 : Nat) (Option.none : Option Jvm.ClassFile.FieldType)) ∈ lw_tbl := List.mem_of_getElem? (i := 816) rfl
set_option maxRecDepth 20000 in
theorem qM_Tb_137 : (Jvm.Cond.methodLink "Threeboxes" (137 : Nat) ({ cls := "Threeboxes$Register", name := "enter", desc := "(III)V" } : Jvm.MethodName)) ∈ lw_tbl := List.mem_of_getElem? (i := 817) (by decide +kernel)
set_option maxRecDepth 20000 in
theorem qI_Re_enter : (Jvm.Cond.instanceMethod ({ cls := "Threeboxes$Register", name := "enter", desc := "(III)V" } : Jvm.MethodName)) ∈ lw_tbl := List.mem_of_getElem? (i := 818) (by decide +kernel)
set_option maxRecDepth 20000 in
theorem qV_Re_Re_enter : (Jvm.Cond.selects "Threeboxes$Register" ({ cls := "Threeboxes$Register", name := "enter", desc := "(III)V" } : Jvm.MethodName) ({ cls := "Threeboxes$Register", name := "enter", desc := "(III)V" } : Jvm.MethodName)) ∈ lw_tbl := List.mem_of_getElem? (i := 819) (by decide +kernel)
set_option maxRecDepth 20000 in
theorem qC_Re_enter : (Jvm.Cond.code ({ cls := "Threeboxes$Register", name := "enter", desc := "(III)V" } : Jvm.MethodName) prog_5_method_4_code (6 : Nat) (Option.none : Option Jvm.ClassFile.FieldType)) ∈ lw_tbl := List.mem_of_getElem? (i := 820) rfl
set_option maxRecDepth 20000 in
theorem qM_La_120 : (Jvm.Cond.methodLink "ThreeboxesLaw" (120 : Nat) ({ cls := "ThreeboxesLaw", name := "fresh", desc := "(LThreeboxes;IILThreeboxesLaw$Out;)I" } : Jvm.MethodName)) ∈ lw_tbl := List.mem_of_getElem? (i := 821) (by decide +kernel)
set_option maxRecDepth 20000 in
theorem qS_La_fresh : (Jvm.Cond.static ({ cls := "ThreeboxesLaw", name := "fresh", desc := "(LThreeboxes;IILThreeboxesLaw$Out;)I" } : Jvm.MethodName)) ∈ lw_tbl := List.mem_of_getElem? (i := 822) (by decide +kernel)
set_option maxRecDepth 20000 in
theorem qCw_La_fresh : (Jvm.Cond.codeWith ({ cls := "ThreeboxesLaw", name := "fresh", desc := "(LThreeboxes;IILThreeboxesLaw$Out;)I" } : Jvm.MethodName) method_5_code (5 : Nat) (Option.some Jvm.ClassFile.FieldType.int) [((0 : Nat), (11 : Nat), (14 : Nat), (27 : Nat)), ((0 : Nat), (11 : Nat), (18 : Nat), (19 : Nat)), ((0 : Nat), (11 : Nat), (22 : Nat), (21 : Nat))]) ∈ lw_tbl := List.mem_of_getElem? (i := 823) rfl
set_option maxRecDepth 20000 in
theorem qM_La_33 : (Jvm.Cond.methodLink "ThreeboxesLaw" (33 : Nat) ({ cls := "Threeboxes", name := "fresh", desc := "(II)I" } : Jvm.MethodName)) ∈ lw_tbl := List.mem_of_getElem? (i := 824) (by decide +kernel)
set_option maxRecDepth 20000 in
theorem qI_Tb_fresh : (Jvm.Cond.instanceMethod ({ cls := "Threeboxes", name := "fresh", desc := "(II)I" } : Jvm.MethodName)) ∈ lw_tbl := List.mem_of_getElem? (i := 825) (by decide +kernel)
set_option maxRecDepth 20000 in
theorem qV_Tb_Tb_fresh : (Jvm.Cond.selects "Threeboxes" ({ cls := "Threeboxes", name := "fresh", desc := "(II)I" } : Jvm.MethodName) ({ cls := "Threeboxes", name := "fresh", desc := "(II)I" } : Jvm.MethodName)) ∈ lw_tbl := List.mem_of_getElem? (i := 826) (by decide +kernel)
set_option maxRecDepth 20000 in
theorem qC_Tb_fresh : (Jvm.Cond.code ({ cls := "Threeboxes", name := "fresh", desc := "(II)I" } : Jvm.MethodName) prog_1_method_5_code (6 : Nat) (Option.some Jvm.ClassFile.FieldType.int)) ∈ lw_tbl := List.mem_of_getElem? (i := 827) rfl
set_option maxRecDepth 20000 in
theorem qM_Tb_140 : (Jvm.Cond.methodLink "Threeboxes" (140 : Nat) ({ cls := "Threeboxes", name := "secretAt", desc := "(I)LThreeboxes$Secret;" } : Jvm.MethodName)) ∈ lw_tbl := List.mem_of_getElem? (i := 828) (by decide +kernel)
set_option maxRecDepth 20000 in
theorem qI_Tb_secretAt : (Jvm.Cond.instanceMethod ({ cls := "Threeboxes", name := "secretAt", desc := "(I)LThreeboxes$Secret;" } : Jvm.MethodName)) ∈ lw_tbl := List.mem_of_getElem? (i := 830) (by decide +kernel)
set_option maxRecDepth 20000 in
theorem qC_Tb_secretAt : (Jvm.Cond.code ({ cls := "Threeboxes", name := "secretAt", desc := "(I)LThreeboxes$Secret;" } : Jvm.MethodName) prog_1_method_35_code (2 : Nat) (Option.some (Jvm.ClassFile.FieldType.object "Threeboxes$Secret"))) ∈ lw_tbl := List.mem_of_getElem? (i := 831) rfl
set_option maxRecDepth 20000 in
theorem qR_Tb_340 : (Jvm.Cond.stringRef "Threeboxes" (340 : Nat) "no such secret") ∈ lw_tbl := List.mem_of_getElem? (i := 832) (by decide +kernel)
set_option maxRecDepth 20000 in
theorem qR_Tb_150 : (Jvm.Cond.stringRef "Threeboxes" (150 : Nat) "too few keepers count") ∈ lw_tbl := List.mem_of_getElem? (i := 833) (by decide +kernel)
set_option maxRecDepth 20000 in
theorem qM_La_123 : (Jvm.Cond.methodLink "ThreeboxesLaw" (123 : Nat) ({ cls := "ThreeboxesLaw", name := "flood", desc := "(LThreeboxes;ILThreeboxesLaw$Out;)I" } : Jvm.MethodName)) ∈ lw_tbl := List.mem_of_getElem? (i := 834) (by decide +kernel)
set_option maxRecDepth 20000 in
theorem qS_La_flood : (Jvm.Cond.static ({ cls := "ThreeboxesLaw", name := "flood", desc := "(LThreeboxes;ILThreeboxesLaw$Out;)I" } : Jvm.MethodName)) ∈ lw_tbl := List.mem_of_getElem? (i := 835) (by decide +kernel)
set_option maxRecDepth 20000 in
theorem qCw_La_flood : (Jvm.Cond.codeWith ({ cls := "ThreeboxesLaw", name := "flood", desc := "(LThreeboxes;ILThreeboxesLaw$Out;)I" } : Jvm.MethodName) method_6_code (4 : Nat) (Option.some Jvm.ClassFile.FieldType.int) [((0 : Nat), (10 : Nat), (13 : Nat), (27 : Nat))]) ∈ lw_tbl := List.mem_of_getElem? (i := 836) rfl
set_option maxRecDepth 20000 in
theorem qM_La_36 : (Jvm.Cond.methodLink "ThreeboxesLaw" (36 : Nat) ({ cls := "Threeboxes", name := "flood", desc := "(I)I" } : Jvm.MethodName)) ∈ lw_tbl := List.mem_of_getElem? (i := 837) (by decide +kernel)
set_option maxRecDepth 20000 in
theorem qI_Tb_flood : (Jvm.Cond.instanceMethod ({ cls := "Threeboxes", name := "flood", desc := "(I)I" } : Jvm.MethodName)) ∈ lw_tbl := List.mem_of_getElem? (i := 838) (by decide +kernel)
set_option maxRecDepth 20000 in
theorem qV_Tb_Tb_flood : (Jvm.Cond.selects "Threeboxes" ({ cls := "Threeboxes", name := "flood", desc := "(I)I" } : Jvm.MethodName) ({ cls := "Threeboxes", name := "flood", desc := "(I)I" } : Jvm.MethodName)) ∈ lw_tbl := List.mem_of_getElem? (i := 839) (by decide +kernel)
set_option maxRecDepth 20000 in
theorem qC_Tb_flood : (Jvm.Cond.code ({ cls := "Threeboxes", name := "flood", desc := "(I)I" } : Jvm.MethodName) prog_1_method_6_code (4 : Nat) (Option.some Jvm.ClassFile.FieldType.int)) ∈ lw_tbl := List.mem_of_getElem? (i := 840) rfl
set_option maxRecDepth 20000 in
theorem qR_Tb_163 : (Jvm.Cond.stringRef "Threeboxes" (163 : Nat) "no such zone") ∈ lw_tbl := List.mem_of_getElem? (i := 841) (by decide +kernel)
set_option maxRecDepth 20000 in
theorem qM_Tb_176 : (Jvm.Cond.methodLink "Threeboxes" (176 : Nat) ({ cls := "Threeboxes", name := "loseShares", desc := "(I)V" } : Jvm.MethodName)) ∈ lw_tbl := List.mem_of_getElem? (i := 842) (by decide +kernel)
set_option maxRecDepth 20000 in
theorem qI_Tb_loseShares : (Jvm.Cond.instanceMethod ({ cls := "Threeboxes", name := "loseShares", desc := "(I)V" } : Jvm.MethodName)) ∈ lw_tbl := List.mem_of_getElem? (i := 844) (by decide +kernel)
set_option maxRecDepth 20000 in
theorem qC_Tb_loseShares : (Jvm.Cond.code ({ cls := "Threeboxes", name := "loseShares", desc := "(I)V" } : Jvm.MethodName) prog_1_method_38_code (3 : Nat) (Option.none : Option Jvm.ClassFile.FieldType)) ∈ lw_tbl := List.mem_of_getElem? (i := 845) rfl
set_option maxRecDepth 20000 in
theorem qM_Tb_345 : (Jvm.Cond.methodLink "Threeboxes" (345 : Nat) ({ cls := "Threeboxes$Secret", name := "lose", desc := "(I)V" } : Jvm.MethodName)) ∈ lw_tbl := List.mem_of_getElem? (i := 846) (by decide +kernel)
set_option maxRecDepth 20000 in
theorem qI_Se_lose : (Jvm.Cond.instanceMethod ({ cls := "Threeboxes$Secret", name := "lose", desc := "(I)V" } : Jvm.MethodName)) ∈ lw_tbl := List.mem_of_getElem? (i := 847) (by decide +kernel)
set_option maxRecDepth 20000 in
theorem qV_Se_Se_lose : (Jvm.Cond.selects "Threeboxes$Secret" ({ cls := "Threeboxes$Secret", name := "lose", desc := "(I)V" } : Jvm.MethodName) ({ cls := "Threeboxes$Secret", name := "lose", desc := "(I)V" } : Jvm.MethodName)) ∈ lw_tbl := List.mem_of_getElem? (i := 848) (by decide +kernel)
set_option maxRecDepth 20000 in
theorem qC_Se_lose : (Jvm.Cond.code ({ cls := "Threeboxes$Secret", name := "lose", desc := "(I)V" } : Jvm.MethodName) prog_6_method_8_code (2 : Nat) (Option.none : Option Jvm.ClassFile.FieldType)) ∈ lw_tbl := List.mem_of_getElem? (i := 849) rfl
set_option maxRecDepth 20000 in
theorem qM_La_127 : (Jvm.Cond.methodLink "ThreeboxesLaw" (127 : Nat) ({ cls := "ThreeboxesLaw", name := "rebuild", desc := "(LThreeboxes;IIILThreeboxesLaw$Out;)I" } : Jvm.MethodName)) ∈ lw_tbl := List.mem_of_getElem? (i := 850) (by decide +kernel)
set_option maxRecDepth 20000 in
theorem qS_La_rebuild : (Jvm.Cond.static ({ cls := "ThreeboxesLaw", name := "rebuild", desc := "(LThreeboxes;IIILThreeboxesLaw$Out;)I" } : Jvm.MethodName)) ∈ lw_tbl := List.mem_of_getElem? (i := 851) (by decide +kernel)
set_option maxRecDepth 20000 in
theorem qCw_La_rebuild : (Jvm.Cond.codeWith ({ cls := "ThreeboxesLaw", name := "rebuild", desc := "(LThreeboxes;IIILThreeboxesLaw$Out;)I" } : Jvm.MethodName) method_7_code (6 : Nat) (Option.some Jvm.ClassFile.FieldType.int) [((0 : Nat), (13 : Nat), (16 : Nat), (27 : Nat)), ((0 : Nat), (13 : Nat), (20 : Nat), (19 : Nat)), ((0 : Nat), (13 : Nat), (24 : Nat), (21 : Nat))]) ∈ lw_tbl := List.mem_of_getElem? (i := 852) rfl
set_option maxRecDepth 20000 in
theorem qM_La_40 : (Jvm.Cond.methodLink "ThreeboxesLaw" (40 : Nat) ({ cls := "Threeboxes", name := "rebuild", desc := "(III)I" } : Jvm.MethodName)) ∈ lw_tbl := List.mem_of_getElem? (i := 853) (by decide +kernel)
set_option maxRecDepth 20000 in
theorem qI_Tb_rebuild : (Jvm.Cond.instanceMethod ({ cls := "Threeboxes", name := "rebuild", desc := "(III)I" } : Jvm.MethodName)) ∈ lw_tbl := List.mem_of_getElem? (i := 854) (by decide +kernel)
set_option maxRecDepth 20000 in
theorem qV_Tb_Tb_rebuild : (Jvm.Cond.selects "Threeboxes" ({ cls := "Threeboxes", name := "rebuild", desc := "(III)I" } : Jvm.MethodName) ({ cls := "Threeboxes", name := "rebuild", desc := "(III)I" } : Jvm.MethodName)) ∈ lw_tbl := List.mem_of_getElem? (i := 855) (by decide +kernel)
set_option maxRecDepth 20000 in
theorem qC_Tb_rebuild : (Jvm.Cond.code ({ cls := "Threeboxes", name := "rebuild", desc := "(III)I" } : Jvm.MethodName) prog_1_method_7_code (6 : Nat) (Option.some Jvm.ClassFile.FieldType.int)) ∈ lw_tbl := List.mem_of_getElem? (i := 856) rfl
set_option maxRecDepth 20000 in
theorem qR_Tb_182 : (Jvm.Cond.stringRef "Threeboxes" (182 : Nat) "it has a share that is not stale") ∈ lw_tbl := List.mem_of_getElem? (i := 857) (by decide +kernel)
set_option maxRecDepth 20000 in
theorem qR_Tb_195 : (Jvm.Cond.stringRef "Threeboxes" (195 : Nat) "the group is not good") ∈ lw_tbl := List.mem_of_getElem? (i := 858) (by decide +kernel)
set_option maxRecDepth 20000 in
theorem qM_Tb_203 : (Jvm.Cond.methodLink "Threeboxes" (203 : Nat) ({ cls := "Threeboxes", name := "isAnyLying", desc := "(I)Z" } : Jvm.MethodName)) ∈ lw_tbl := List.mem_of_getElem? (i := 859) (by decide +kernel)
set_option maxRecDepth 20000 in
theorem qI_Tb_isAnyLying : (Jvm.Cond.instanceMethod ({ cls := "Threeboxes", name := "isAnyLying", desc := "(I)Z" } : Jvm.MethodName)) ∈ lw_tbl := List.mem_of_getElem? (i := 861) (by decide +kernel)
set_option maxRecDepth 20000 in
theorem qC_Tb_isAnyLying : (Jvm.Cond.code ({ cls := "Threeboxes", name := "isAnyLying", desc := "(I)Z" } : Jvm.MethodName) prog_1_method_43_code (3 : Nat) (Option.some Jvm.ClassFile.FieldType.boolean)) ∈ lw_tbl := List.mem_of_getElem? (i := 862) rfl
set_option maxRecDepth 20000 in
theorem qM_La_130 : (Jvm.Cond.methodLink "ThreeboxesLaw" (130 : Nat) ({ cls := "ThreeboxesLaw", name := "freeze", desc := "(LThreeboxes;IIZLThreeboxesLaw$Out;)I" } : Jvm.MethodName)) ∈ lw_tbl := List.mem_of_getElem? (i := 863) (by decide +kernel)
set_option maxRecDepth 20000 in
theorem qS_La_freeze : (Jvm.Cond.static ({ cls := "ThreeboxesLaw", name := "freeze", desc := "(LThreeboxes;IIZLThreeboxesLaw$Out;)I" } : Jvm.MethodName)) ∈ lw_tbl := List.mem_of_getElem? (i := 864) (by decide +kernel)
set_option maxRecDepth 20000 in
theorem qCw_La_freeze : (Jvm.Cond.codeWith ({ cls := "ThreeboxesLaw", name := "freeze", desc := "(LThreeboxes;IIZLThreeboxesLaw$Out;)I" } : Jvm.MethodName) method_8_code (6 : Nat) (Option.some Jvm.ClassFile.FieldType.int) [((0 : Nat), (13 : Nat), (16 : Nat), (27 : Nat))]) ∈ lw_tbl := List.mem_of_getElem? (i := 865) rfl
set_option maxRecDepth 20000 in
theorem qM_La_43 : (Jvm.Cond.methodLink "ThreeboxesLaw" (43 : Nat) ({ cls := "Threeboxes", name := "freeze", desc := "(IIZ)I" } : Jvm.MethodName)) ∈ lw_tbl := List.mem_of_getElem? (i := 866) (by decide +kernel)
set_option maxRecDepth 20000 in
theorem qI_Tb_freeze : (Jvm.Cond.instanceMethod ({ cls := "Threeboxes", name := "freeze", desc := "(IIZ)I" } : Jvm.MethodName)) ∈ lw_tbl := List.mem_of_getElem? (i := 867) (by decide +kernel)
set_option maxRecDepth 20000 in
theorem qV_Tb_Tb_freeze : (Jvm.Cond.selects "Threeboxes" ({ cls := "Threeboxes", name := "freeze", desc := "(IIZ)I" } : Jvm.MethodName) ({ cls := "Threeboxes", name := "freeze", desc := "(IIZ)I" } : Jvm.MethodName)) ∈ lw_tbl := List.mem_of_getElem? (i := 868) (by decide +kernel)
set_option maxRecDepth 20000 in
theorem qC_Tb_freeze : (Jvm.Cond.code ({ cls := "Threeboxes", name := "freeze", desc := "(IIZ)I" } : Jvm.MethodName) prog_1_method_8_code (6 : Nat) (Option.some Jvm.ClassFile.FieldType.int)) ∈ lw_tbl := List.mem_of_getElem? (i := 869) rfl
set_option maxRecDepth 20000 in
theorem qR_Tb_211 : (Jvm.Cond.stringRef "Threeboxes" (211 : Nat) "no such court") ∈ lw_tbl := List.mem_of_getElem? (i := 870) (by decide +kernel)
set_option maxRecDepth 20000 in
theorem qM_La_134 : (Jvm.Cond.methodLink "ThreeboxesLaw" (134 : Nat) ({ cls := "ThreeboxesLaw", name := "pass", desc := "(LThreeboxes;ILThreeboxesLaw$Out;)I" } : Jvm.MethodName)) ∈ lw_tbl := List.mem_of_getElem? (i := 871) (by decide +kernel)
set_option maxRecDepth 20000 in
theorem qS_La_pass : (Jvm.Cond.static ({ cls := "ThreeboxesLaw", name := "pass", desc := "(LThreeboxes;ILThreeboxesLaw$Out;)I" } : Jvm.MethodName)) ∈ lw_tbl := List.mem_of_getElem? (i := 872) (by decide +kernel)
set_option maxRecDepth 20000 in
theorem qCw_La_pass : (Jvm.Cond.codeWith ({ cls := "ThreeboxesLaw", name := "pass", desc := "(LThreeboxes;ILThreeboxesLaw$Out;)I" } : Jvm.MethodName) method_9_code (4 : Nat) (Option.some Jvm.ClassFile.FieldType.int) [((0 : Nat), (10 : Nat), (13 : Nat), (19 : Nat)), ((0 : Nat), (10 : Nat), (16 : Nat), (21 : Nat))]) ∈ lw_tbl := List.mem_of_getElem? (i := 873) rfl
set_option maxRecDepth 20000 in
theorem qM_La_47 : (Jvm.Cond.methodLink "ThreeboxesLaw" (47 : Nat) ({ cls := "Threeboxes", name := "pass", desc := "(I)I" } : Jvm.MethodName)) ∈ lw_tbl := List.mem_of_getElem? (i := 874) (by decide +kernel)
set_option maxRecDepth 20000 in
theorem qI_Tb_pass : (Jvm.Cond.instanceMethod ({ cls := "Threeboxes", name := "pass", desc := "(I)I" } : Jvm.MethodName)) ∈ lw_tbl := List.mem_of_getElem? (i := 875) (by decide +kernel)
set_option maxRecDepth 20000 in
theorem qV_Tb_Tb_pass : (Jvm.Cond.selects "Threeboxes" ({ cls := "Threeboxes", name := "pass", desc := "(I)I" } : Jvm.MethodName) ({ cls := "Threeboxes", name := "pass", desc := "(I)I" } : Jvm.MethodName)) ∈ lw_tbl := List.mem_of_getElem? (i := 876) (by decide +kernel)
set_option maxRecDepth 20000 in
theorem qC_Tb_pass : (Jvm.Cond.code ({ cls := "Threeboxes", name := "pass", desc := "(I)I" } : Jvm.MethodName) prog_1_method_9_code (2 : Nat) (Option.some Jvm.ClassFile.FieldType.int)) ∈ lw_tbl := List.mem_of_getElem? (i := 877) rfl
set_option maxRecDepth 20000 in
theorem qR_Tb_216 : (Jvm.Cond.stringRef "Threeboxes" (216 : Nat) "days are 1 to 365") ∈ lw_tbl := List.mem_of_getElem? (i := 878) (by decide +kernel)
set_option maxRecDepth 20000 in
theorem qR_Tb_218 : (Jvm.Cond.stringRef "Threeboxes" (218 : Nat) "the day would be above 999") ∈ lw_tbl := List.mem_of_getElem? (i := 879) (by decide +kernel)
set_option maxRecDepth 20000 in
theorem qM_La_137 : (Jvm.Cond.methodLink "ThreeboxesLaw" (137 : Nat) ({ cls := "ThreeboxesLaw", name := "open", desc := "(LThreeboxes;IILThreeboxesLaw$Out;)I" } : Jvm.MethodName)) ∈ lw_tbl := List.mem_of_getElem? (i := 880) (by decide +kernel)
set_option maxRecDepth 20000 in
theorem qS_La_open : (Jvm.Cond.static ({ cls := "ThreeboxesLaw", name := "open", desc := "(LThreeboxes;IILThreeboxesLaw$Out;)I" } : Jvm.MethodName)) ∈ lw_tbl := List.mem_of_getElem? (i := 881) (by decide +kernel)
set_option maxRecDepth 20000 in
theorem qCw_La_open : (Jvm.Cond.codeWith ({ cls := "ThreeboxesLaw", name := "open", desc := "(LThreeboxes;IILThreeboxesLaw$Out;)I" } : Jvm.MethodName) method_10_code (5 : Nat) (Option.some Jvm.ClassFile.FieldType.int) [((0 : Nat), (11 : Nat), (14 : Nat), (27 : Nat)), ((0 : Nat), (11 : Nat), (18 : Nat), (19 : Nat))]) ∈ lw_tbl := List.mem_of_getElem? (i := 882) rfl
set_option maxRecDepth 20000 in
theorem qM_La_50 : (Jvm.Cond.methodLink "ThreeboxesLaw" (50 : Nat) ({ cls := "Threeboxes", name := "open", desc := "(II)I" } : Jvm.MethodName)) ∈ lw_tbl := List.mem_of_getElem? (i := 883) (by decide +kernel)
set_option maxRecDepth 20000 in
theorem qI_Tb_open : (Jvm.Cond.instanceMethod ({ cls := "Threeboxes", name := "open", desc := "(II)I" } : Jvm.MethodName)) ∈ lw_tbl := List.mem_of_getElem? (i := 884) (by decide +kernel)
set_option maxRecDepth 20000 in
theorem qV_Tb_Tb_open : (Jvm.Cond.selects "Threeboxes" ({ cls := "Threeboxes", name := "open", desc := "(II)I" } : Jvm.MethodName) ({ cls := "Threeboxes", name := "open", desc := "(II)I" } : Jvm.MethodName)) ∈ lw_tbl := List.mem_of_getElem? (i := 885) (by decide +kernel)
set_option maxRecDepth 20000 in
theorem qC_Tb_open : (Jvm.Cond.code ({ cls := "Threeboxes", name := "open", desc := "(II)I" } : Jvm.MethodName) prog_1_method_10_code (4 : Nat) (Option.some Jvm.ClassFile.FieldType.int)) ∈ lw_tbl := List.mem_of_getElem? (i := 886) rfl
set_option maxRecDepth 20000 in
theorem qM_Tb_227 : (Jvm.Cond.methodLink "Threeboxes" (227 : Nat) ({ cls := "Threeboxes", name := "noteAll", desc := "(I)V" } : Jvm.MethodName)) ∈ lw_tbl := List.mem_of_getElem? (i := 887) (by decide +kernel)
set_option maxRecDepth 20000 in
theorem qI_Tb_noteAll : (Jvm.Cond.instanceMethod ({ cls := "Threeboxes", name := "noteAll", desc := "(I)V" } : Jvm.MethodName)) ∈ lw_tbl := List.mem_of_getElem? (i := 889) (by decide +kernel)
set_option maxRecDepth 20000 in
theorem qC_Tb_noteAll : (Jvm.Cond.code ({ cls := "Threeboxes", name := "noteAll", desc := "(I)V" } : Jvm.MethodName) prog_1_method_41_code (3 : Nat) (Option.none : Option Jvm.ClassFile.FieldType)) ∈ lw_tbl := List.mem_of_getElem? (i := 890) rfl
set_option maxRecDepth 20000 in
theorem qM_La_145 : (Jvm.Cond.methodLink "ThreeboxesLaw" (145 : Nat) ({ cls := "ThreeboxesLaw", name := "ofKeeper", desc := "(LThreeboxes;IILThreeboxesLaw$Out;)I" } : Jvm.MethodName)) ∈ lw_tbl := List.mem_of_getElem? (i := 891) (by decide +kernel)
set_option maxRecDepth 20000 in
theorem qS_La_ofKeeper : (Jvm.Cond.static ({ cls := "ThreeboxesLaw", name := "ofKeeper", desc := "(LThreeboxes;IILThreeboxesLaw$Out;)I" } : Jvm.MethodName)) ∈ lw_tbl := List.mem_of_getElem? (i := 892) (by decide +kernel)
set_option maxRecDepth 20000 in
theorem qCw_La_ofKeeper : (Jvm.Cond.codeWith ({ cls := "ThreeboxesLaw", name := "ofKeeper", desc := "(LThreeboxes;IILThreeboxesLaw$Out;)I" } : Jvm.MethodName) method_11_code (5 : Nat) (Option.some Jvm.ClassFile.FieldType.int) [((0 : Nat), (11 : Nat), (14 : Nat), (27 : Nat)), ((0 : Nat), (11 : Nat), (18 : Nat), (19 : Nat))]) ∈ lw_tbl := List.mem_of_getElem? (i := 893) rfl
set_option maxRecDepth 20000 in
theorem qM_La_53 : (Jvm.Cond.methodLink "ThreeboxesLaw" (53 : Nat) ({ cls := "Threeboxes", name := "ofKeeper", desc := "(II)I" } : Jvm.MethodName)) ∈ lw_tbl := List.mem_of_getElem? (i := 894) (by decide +kernel)
set_option maxRecDepth 20000 in
theorem qI_Tb_ofKeeper : (Jvm.Cond.instanceMethod ({ cls := "Threeboxes", name := "ofKeeper", desc := "(II)I" } : Jvm.MethodName)) ∈ lw_tbl := List.mem_of_getElem? (i := 895) (by decide +kernel)
set_option maxRecDepth 20000 in
theorem qV_Tb_Tb_ofKeeper : (Jvm.Cond.selects "Threeboxes" ({ cls := "Threeboxes", name := "ofKeeper", desc := "(II)I" } : Jvm.MethodName) ({ cls := "Threeboxes", name := "ofKeeper", desc := "(II)I" } : Jvm.MethodName)) ∈ lw_tbl := List.mem_of_getElem? (i := 896) (by decide +kernel)
set_option maxRecDepth 20000 in
theorem qC_Tb_ofKeeper : (Jvm.Cond.code ({ cls := "Threeboxes", name := "ofKeeper", desc := "(II)I" } : Jvm.MethodName) prog_1_method_12_code (4 : Nat) (Option.some Jvm.ClassFile.FieldType.int)) ∈ lw_tbl := List.mem_of_getElem? (i := 897) rfl
set_option maxRecDepth 20000 in
theorem qR_Tb_230 : (Jvm.Cond.stringRef "Threeboxes" (230 : Nat) "what is 0 to 6") ∈ lw_tbl := List.mem_of_getElem? (i := 898) (by decide +kernel)
set_option maxRecDepth 20000 in
theorem qM_La_148 : (Jvm.Cond.methodLink "ThreeboxesLaw" (148 : Nat) ({ cls := "ThreeboxesLaw", name := "ofSecret", desc := "(LThreeboxes;IILThreeboxesLaw$Out;)I" } : Jvm.MethodName)) ∈ lw_tbl := List.mem_of_getElem? (i := 899) (by decide +kernel)
set_option maxRecDepth 20000 in
theorem qS_La_ofSecret : (Jvm.Cond.static ({ cls := "ThreeboxesLaw", name := "ofSecret", desc := "(LThreeboxes;IILThreeboxesLaw$Out;)I" } : Jvm.MethodName)) ∈ lw_tbl := List.mem_of_getElem? (i := 900) (by decide +kernel)
set_option maxRecDepth 20000 in
theorem qCw_La_ofSecret : (Jvm.Cond.codeWith ({ cls := "ThreeboxesLaw", name := "ofSecret", desc := "(LThreeboxes;IILThreeboxesLaw$Out;)I" } : Jvm.MethodName) method_12_code (5 : Nat) (Option.some Jvm.ClassFile.FieldType.int) [((0 : Nat), (11 : Nat), (14 : Nat), (27 : Nat)), ((0 : Nat), (11 : Nat), (18 : Nat), (19 : Nat))]) ∈ lw_tbl := List.mem_of_getElem? (i := 901) rfl
set_option maxRecDepth 20000 in
theorem qM_La_56 : (Jvm.Cond.methodLink "ThreeboxesLaw" (56 : Nat) ({ cls := "Threeboxes", name := "ofSecret", desc := "(II)I" } : Jvm.MethodName)) ∈ lw_tbl := List.mem_of_getElem? (i := 902) (by decide +kernel)
set_option maxRecDepth 20000 in
theorem qI_Tb_ofSecret : (Jvm.Cond.instanceMethod ({ cls := "Threeboxes", name := "ofSecret", desc := "(II)I" } : Jvm.MethodName)) ∈ lw_tbl := List.mem_of_getElem? (i := 903) (by decide +kernel)
set_option maxRecDepth 20000 in
theorem qV_Tb_Tb_ofSecret : (Jvm.Cond.selects "Threeboxes" ({ cls := "Threeboxes", name := "ofSecret", desc := "(II)I" } : Jvm.MethodName) ({ cls := "Threeboxes", name := "ofSecret", desc := "(II)I" } : Jvm.MethodName)) ∈ lw_tbl := List.mem_of_getElem? (i := 904) (by decide +kernel)
set_option maxRecDepth 20000 in
theorem qC_Tb_ofSecret : (Jvm.Cond.code ({ cls := "Threeboxes", name := "ofSecret", desc := "(II)I" } : Jvm.MethodName) prog_1_method_13_code (4 : Nat) (Option.some Jvm.ClassFile.FieldType.int)) ∈ lw_tbl := List.mem_of_getElem? (i := 905) rfl
set_option maxRecDepth 20000 in
theorem qR_Tb_236 : (Jvm.Cond.stringRef "Threeboxes" (236 : Nat) "what is 0 to 8") ∈ lw_tbl := List.mem_of_getElem? (i := 906) (by decide +kernel)
set_option maxRecDepth 20000 in
theorem qM_La_151 : (Jvm.Cond.methodLink "ThreeboxesLaw" (151 : Nat) ({ cls := "ThreeboxesLaw", name := "share", desc := "(LThreeboxes;IIILThreeboxesLaw$Out;)I" } : Jvm.MethodName)) ∈ lw_tbl := List.mem_of_getElem? (i := 907) (by decide +kernel)
set_option maxRecDepth 20000 in
theorem qS_La_share : (Jvm.Cond.static ({ cls := "ThreeboxesLaw", name := "share", desc := "(LThreeboxes;IIILThreeboxesLaw$Out;)I" } : Jvm.MethodName)) ∈ lw_tbl := List.mem_of_getElem? (i := 908) (by decide +kernel)
set_option maxRecDepth 20000 in
theorem qCw_La_share : (Jvm.Cond.codeWith ({ cls := "ThreeboxesLaw", name := "share", desc := "(LThreeboxes;IIILThreeboxesLaw$Out;)I" } : Jvm.MethodName) method_13_code (6 : Nat) (Option.some Jvm.ClassFile.FieldType.int) [((0 : Nat), (13 : Nat), (16 : Nat), (27 : Nat)), ((0 : Nat), (13 : Nat), (20 : Nat), (19 : Nat))]) ∈ lw_tbl := List.mem_of_getElem? (i := 909) rfl
set_option maxRecDepth 20000 in
theorem qM_La_59 : (Jvm.Cond.methodLink "ThreeboxesLaw" (59 : Nat) ({ cls := "Threeboxes", name := "share", desc := "(III)I" } : Jvm.MethodName)) ∈ lw_tbl := List.mem_of_getElem? (i := 910) (by decide +kernel)
set_option maxRecDepth 20000 in
theorem qI_Tb_share : (Jvm.Cond.instanceMethod ({ cls := "Threeboxes", name := "share", desc := "(III)I" } : Jvm.MethodName)) ∈ lw_tbl := List.mem_of_getElem? (i := 911) (by decide +kernel)
set_option maxRecDepth 20000 in
theorem qV_Tb_Tb_share : (Jvm.Cond.selects "Threeboxes" ({ cls := "Threeboxes", name := "share", desc := "(III)I" } : Jvm.MethodName) ({ cls := "Threeboxes", name := "share", desc := "(III)I" } : Jvm.MethodName)) ∈ lw_tbl := List.mem_of_getElem? (i := 912) (by decide +kernel)
set_option maxRecDepth 20000 in
theorem qC_Tb_share : (Jvm.Cond.code ({ cls := "Threeboxes", name := "share", desc := "(III)I" } : Jvm.MethodName) prog_1_method_14_code (6 : Nat) (Option.some Jvm.ClassFile.FieldType.int)) ∈ lw_tbl := List.mem_of_getElem? (i := 913) rfl
set_option maxRecDepth 20000 in
theorem qR_Tb_242 : (Jvm.Cond.stringRef "Threeboxes" (242 : Nat) "what is 0 to 2") ∈ lw_tbl := List.mem_of_getElem? (i := 914) (by decide +kernel)
set_option maxRecDepth 20000 in
theorem qM_La_154 : (Jvm.Cond.methodLink "ThreeboxesLaw" (154 : Nat) ({ cls := "ThreeboxesLaw", name := "bank", desc := "(LThreeboxes;ILThreeboxesLaw$Out;)I" } : Jvm.MethodName)) ∈ lw_tbl := List.mem_of_getElem? (i := 915) (by decide +kernel)
set_option maxRecDepth 20000 in
theorem qS_La_bank : (Jvm.Cond.static ({ cls := "ThreeboxesLaw", name := "bank", desc := "(LThreeboxes;ILThreeboxesLaw$Out;)I" } : Jvm.MethodName)) ∈ lw_tbl := List.mem_of_getElem? (i := 916) (by decide +kernel)
set_option maxRecDepth 20000 in
theorem qCw_La_bank : (Jvm.Cond.codeWith ({ cls := "ThreeboxesLaw", name := "bank", desc := "(LThreeboxes;ILThreeboxesLaw$Out;)I" } : Jvm.MethodName) method_14_code (4 : Nat) (Option.some Jvm.ClassFile.FieldType.int) [((0 : Nat), (10 : Nat), (13 : Nat), (19 : Nat))]) ∈ lw_tbl := List.mem_of_getElem? (i := 917) rfl
set_option maxRecDepth 20000 in
theorem qM_La_62 : (Jvm.Cond.methodLink "ThreeboxesLaw" (62 : Nat) ({ cls := "Threeboxes", name := "bank", desc := "(I)I" } : Jvm.MethodName)) ∈ lw_tbl := List.mem_of_getElem? (i := 918) (by decide +kernel)
set_option maxRecDepth 20000 in
theorem qI_Tb_bank : (Jvm.Cond.instanceMethod ({ cls := "Threeboxes", name := "bank", desc := "(I)I" } : Jvm.MethodName)) ∈ lw_tbl := List.mem_of_getElem? (i := 919) (by decide +kernel)
set_option maxRecDepth 20000 in
theorem qV_Tb_Tb_bank : (Jvm.Cond.selects "Threeboxes" ({ cls := "Threeboxes", name := "bank", desc := "(I)I" } : Jvm.MethodName) ({ cls := "Threeboxes", name := "bank", desc := "(I)I" } : Jvm.MethodName)) ∈ lw_tbl := List.mem_of_getElem? (i := 920) (by decide +kernel)
set_option maxRecDepth 20000 in
theorem qC_Tb_bank : (Jvm.Cond.code ({ cls := "Threeboxes", name := "bank", desc := "(I)I" } : Jvm.MethodName) prog_1_method_15_code (2 : Nat) (Option.some Jvm.ClassFile.FieldType.int)) ∈ lw_tbl := List.mem_of_getElem? (i := 921) rfl
set_option maxRecDepth 20000 in
theorem qR_Tb_248 : (Jvm.Cond.stringRef "Threeboxes" (248 : Nat) "what is 0 to 11") ∈ lw_tbl := List.mem_of_getElem? (i := 922) (by decide +kernel)
set_option maxRecDepth 20000 in
theorem qM_La_157 : (Jvm.Cond.methodLink "ThreeboxesLaw" (157 : Nat) ({ cls := "ThreeboxesLaw", name := "ofEntry", desc := "(LThreeboxes;IILThreeboxesLaw$Out;)I" } : Jvm.MethodName)) ∈ lw_tbl := List.mem_of_getElem? (i := 923) (by decide +kernel)
set_option maxRecDepth 20000 in
theorem qS_La_ofEntry : (Jvm.Cond.static ({ cls := "ThreeboxesLaw", name := "ofEntry", desc := "(LThreeboxes;IILThreeboxesLaw$Out;)I" } : Jvm.MethodName)) ∈ lw_tbl := List.mem_of_getElem? (i := 924) (by decide +kernel)
set_option maxRecDepth 20000 in
theorem qCw_La_ofEntry : (Jvm.Cond.codeWith ({ cls := "ThreeboxesLaw", name := "ofEntry", desc := "(LThreeboxes;IILThreeboxesLaw$Out;)I" } : Jvm.MethodName) method_15_code (5 : Nat) (Option.some Jvm.ClassFile.FieldType.int) [((0 : Nat), (11 : Nat), (14 : Nat), (27 : Nat)), ((0 : Nat), (11 : Nat), (18 : Nat), (19 : Nat))]) ∈ lw_tbl := List.mem_of_getElem? (i := 925) rfl
set_option maxRecDepth 20000 in
theorem qM_La_65 : (Jvm.Cond.methodLink "ThreeboxesLaw" (65 : Nat) ({ cls := "Threeboxes", name := "ofEntry", desc := "(II)I" } : Jvm.MethodName)) ∈ lw_tbl := List.mem_of_getElem? (i := 926) (by decide +kernel)
set_option maxRecDepth 20000 in
theorem qI_Tb_ofEntry : (Jvm.Cond.instanceMethod ({ cls := "Threeboxes", name := "ofEntry", desc := "(II)I" } : Jvm.MethodName)) ∈ lw_tbl := List.mem_of_getElem? (i := 927) (by decide +kernel)
set_option maxRecDepth 20000 in
theorem qV_Tb_Tb_ofEntry : (Jvm.Cond.selects "Threeboxes" ({ cls := "Threeboxes", name := "ofEntry", desc := "(II)I" } : Jvm.MethodName) ({ cls := "Threeboxes", name := "ofEntry", desc := "(II)I" } : Jvm.MethodName)) ∈ lw_tbl := List.mem_of_getElem? (i := 928) (by decide +kernel)
set_option maxRecDepth 20000 in
theorem qC_Tb_ofEntry : (Jvm.Cond.code ({ cls := "Threeboxes", name := "ofEntry", desc := "(II)I" } : Jvm.MethodName) prog_1_method_16_code (3 : Nat) (Option.some Jvm.ClassFile.FieldType.int)) ∈ lw_tbl := List.mem_of_getElem? (i := 929) rfl
set_option maxRecDepth 20000 in
theorem qM_Tb_253 : (Jvm.Cond.methodLink "Threeboxes" (253 : Nat) ({ cls := "Threeboxes", name := "needEntry", desc := "(I)V" } : Jvm.MethodName)) ∈ lw_tbl := List.mem_of_getElem? (i := 930) (by decide +kernel)
set_option maxRecDepth 20000 in
theorem qI_Tb_needEntry : (Jvm.Cond.instanceMethod ({ cls := "Threeboxes", name := "needEntry", desc := "(I)V" } : Jvm.MethodName)) ∈ lw_tbl := List.mem_of_getElem? (i := 932) (by decide +kernel)
set_option maxRecDepth 20000 in
theorem qC_Tb_needEntry : (Jvm.Cond.code ({ cls := "Threeboxes", name := "needEntry", desc := "(I)V" } : Jvm.MethodName) prog_1_method_33_code (2 : Nat) (Option.none : Option Jvm.ClassFile.FieldType)) ∈ lw_tbl := List.mem_of_getElem? (i := 933) rfl
set_option maxRecDepth 20000 in
theorem qR_Tb_336 : (Jvm.Cond.stringRef "Threeboxes" (336 : Nat) "no such entry") ∈ lw_tbl := List.mem_of_getElem? (i := 934) (by decide +kernel)
set_option maxRecDepth 20000 in
theorem qR_Tb_256 : (Jvm.Cond.stringRef "Threeboxes" (256 : Nat) "what is 0 to 3") ∈ lw_tbl := List.mem_of_getElem? (i := 935) (by decide +kernel)
set_option maxRecDepth 20000 in
theorem qM_Tb_258 : (Jvm.Cond.methodLink "Threeboxes" (258 : Nat) ({ cls := "Threeboxes$Register", name := "tell", desc := "(II)I" } : Jvm.MethodName)) ∈ lw_tbl := List.mem_of_getElem? (i := 936) (by decide +kernel)
set_option maxRecDepth 20000 in
theorem qI_Re_tell : (Jvm.Cond.instanceMethod ({ cls := "Threeboxes$Register", name := "tell", desc := "(II)I" } : Jvm.MethodName)) ∈ lw_tbl := List.mem_of_getElem? (i := 937) (by decide +kernel)
set_option maxRecDepth 20000 in
theorem qV_Re_Re_tell : (Jvm.Cond.selects "Threeboxes$Register" ({ cls := "Threeboxes$Register", name := "tell", desc := "(II)I" } : Jvm.MethodName) ({ cls := "Threeboxes$Register", name := "tell", desc := "(II)I" } : Jvm.MethodName)) ∈ lw_tbl := List.mem_of_getElem? (i := 938) (by decide +kernel)
set_option maxRecDepth 20000 in
theorem qC_Re_tell : (Jvm.Cond.code ({ cls := "Threeboxes$Register", name := "tell", desc := "(II)I" } : Jvm.MethodName) prog_5_method_10_code (3 : Nat) (Option.some Jvm.ClassFile.FieldType.int)) ∈ lw_tbl := List.mem_of_getElem? (i := 939) rfl
set_option maxRecDepth 20000 in
theorem qM_La_160 : (Jvm.Cond.methodLink "ThreeboxesLaw" (160 : Nat) ({ cls := "ThreeboxesLaw", name := "proof", desc := "(LThreeboxes;IILThreeboxesLaw$Out;)I" } : Jvm.MethodName)) ∈ lw_tbl := List.mem_of_getElem? (i := 940) (by decide +kernel)
set_option maxRecDepth 20000 in
theorem qS_La_proof : (Jvm.Cond.static ({ cls := "ThreeboxesLaw", name := "proof", desc := "(LThreeboxes;IILThreeboxesLaw$Out;)I" } : Jvm.MethodName)) ∈ lw_tbl := List.mem_of_getElem? (i := 941) (by decide +kernel)
set_option maxRecDepth 20000 in
theorem qCw_La_proof : (Jvm.Cond.codeWith ({ cls := "ThreeboxesLaw", name := "proof", desc := "(LThreeboxes;IILThreeboxesLaw$Out;)I" } : Jvm.MethodName) method_16_code (5 : Nat) (Option.some Jvm.ClassFile.FieldType.int) [((0 : Nat), (11 : Nat), (14 : Nat), (27 : Nat))]) ∈ lw_tbl := List.mem_of_getElem? (i := 942) rfl
set_option maxRecDepth 20000 in
theorem qM_La_68 : (Jvm.Cond.methodLink "ThreeboxesLaw" (68 : Nat) ({ cls := "Threeboxes", name := "proof", desc := "(II)I" } : Jvm.MethodName)) ∈ lw_tbl := List.mem_of_getElem? (i := 943) (by decide +kernel)
set_option maxRecDepth 20000 in
theorem qI_Tb_proof : (Jvm.Cond.instanceMethod ({ cls := "Threeboxes", name := "proof", desc := "(II)I" } : Jvm.MethodName)) ∈ lw_tbl := List.mem_of_getElem? (i := 944) (by decide +kernel)
set_option maxRecDepth 20000 in
theorem qV_Tb_Tb_proof : (Jvm.Cond.selects "Threeboxes" ({ cls := "Threeboxes", name := "proof", desc := "(II)I" } : Jvm.MethodName) ({ cls := "Threeboxes", name := "proof", desc := "(II)I" } : Jvm.MethodName)) ∈ lw_tbl := List.mem_of_getElem? (i := 945) (by decide +kernel)
set_option maxRecDepth 20000 in
theorem qC_Tb_proof : (Jvm.Cond.code ({ cls := "Threeboxes", name := "proof", desc := "(II)I" } : Jvm.MethodName) prog_1_method_17_code (3 : Nat) (Option.some Jvm.ClassFile.FieldType.int)) ∈ lw_tbl := List.mem_of_getElem? (i := 946) rfl
set_option maxRecDepth 20000 in
theorem qR_Tb_262 : (Jvm.Cond.stringRef "Threeboxes" (262 : Nat) "no such row") ∈ lw_tbl := List.mem_of_getElem? (i := 947) (by decide +kernel)
set_option maxRecDepth 20000 in
theorem qM_Tb_264 : (Jvm.Cond.methodLink "Threeboxes" (264 : Nat) ({ cls := "Threeboxes$Register", name := "beside", desc := "(II)I" } : Jvm.MethodName)) ∈ lw_tbl := List.mem_of_getElem? (i := 948) (by decide +kernel)
set_option maxRecDepth 20000 in
theorem qM_La_163 : (Jvm.Cond.methodLink "ThreeboxesLaw" (163 : Nat) ({ cls := "ThreeboxesLaw", name := "row", desc := "(LThreeboxes;ILThreeboxesLaw$Out;)I" } : Jvm.MethodName)) ∈ lw_tbl := List.mem_of_getElem? (i := 949) (by decide +kernel)
set_option maxRecDepth 20000 in
theorem qS_La_row : (Jvm.Cond.static ({ cls := "ThreeboxesLaw", name := "row", desc := "(LThreeboxes;ILThreeboxesLaw$Out;)I" } : Jvm.MethodName)) ∈ lw_tbl := List.mem_of_getElem? (i := 950) (by decide +kernel)
set_option maxRecDepth 20000 in
theorem qCw_La_row : (Jvm.Cond.codeWith ({ cls := "ThreeboxesLaw", name := "row", desc := "(LThreeboxes;ILThreeboxesLaw$Out;)I" } : Jvm.MethodName) method_17_code (4 : Nat) (Option.some Jvm.ClassFile.FieldType.int) [((0 : Nat), (9 : Nat), (12 : Nat), (27 : Nat))]) ∈ lw_tbl := List.mem_of_getElem? (i := 951) rfl
set_option maxRecDepth 20000 in
theorem qM_La_71 : (Jvm.Cond.methodLink "ThreeboxesLaw" (71 : Nat) ({ cls := "Threeboxes", name := "row", desc := "(I)Ljava/lang/String;" } : Jvm.MethodName)) ∈ lw_tbl := List.mem_of_getElem? (i := 952) (by decide +kernel)
set_option maxRecDepth 20000 in
theorem qI_Tb_row : (Jvm.Cond.instanceMethod ({ cls := "Threeboxes", name := "row", desc := "(I)Ljava/lang/String;" } : Jvm.MethodName)) ∈ lw_tbl := List.mem_of_getElem? (i := 953) (by decide +kernel)
set_option maxRecDepth 20000 in
theorem qV_Tb_Tb_row : (Jvm.Cond.selects "Threeboxes" ({ cls := "Threeboxes", name := "row", desc := "(I)Ljava/lang/String;" } : Jvm.MethodName) ({ cls := "Threeboxes", name := "row", desc := "(I)Ljava/lang/String;" } : Jvm.MethodName)) ∈ lw_tbl := List.mem_of_getElem? (i := 954) (by decide +kernel)
set_option maxRecDepth 20000 in
theorem qC_Tb_row : (Jvm.Cond.code ({ cls := "Threeboxes", name := "row", desc := "(I)Ljava/lang/String;" } : Jvm.MethodName) prog_1_method_18_code (5 : Nat) (Option.some (Jvm.ClassFile.FieldType.object "java/lang/String"))) ∈ lw_tbl := List.mem_of_getElem? (i := 955) rfl
set_option maxRecDepth 20000 in
theorem qK_Tb_267 : (Jvm.Cond.classLink "Threeboxes" (267 : Nat) "java/lang/StringBuilder") ∈ lw_tbl := List.mem_of_getElem? (i := 956) (by decide +kernel)
set_option maxRecDepth 20000 in
theorem qO_SB : (Jvm.Cond.instantiable "java/lang/StringBuilder" (4 : Nat)) ∈ lw_tbl := List.mem_of_getElem? (i := 957) (by decide +kernel)
set_option maxRecDepth 20000 in
theorem qM_Tb_269 : (Jvm.Cond.methodLink "Threeboxes" (269 : Nat) ({ cls := "java/lang/StringBuilder", name := "<init>", desc := "()V" } : Jvm.MethodName)) ∈ lw_tbl := List.mem_of_getElem? (i := 958) (by decide +kernel)
set_option maxRecDepth 20000 in
theorem qI_SB_init : (Jvm.Cond.instanceMethod ({ cls := "java/lang/StringBuilder", name := "<init>", desc := "()V" } : Jvm.MethodName)) ∈ lw_tbl := List.mem_of_getElem? (i := 959) (by decide +kernel)
set_option maxRecDepth 20000 in
theorem qC_SB_init : (Jvm.Cond.code ({ cls := "java/lang/StringBuilder", name := "<init>", desc := "()V" } : Jvm.MethodName) prog_28_method_1_code (1 : Nat) (Option.none : Option Jvm.ClassFile.FieldType)) ∈ lw_tbl := List.mem_of_getElem? (i := 960) rfl
set_option maxRecDepth 20000 in
theorem qM_SB_1 : (Jvm.Cond.methodLink "java/lang/StringBuilder" (1 : Nat) ({ cls := "java/lang/AbstractStringBuilder", name := "<init>", desc := "(I)V" } : Jvm.MethodName)) ∈ lw_tbl := List.mem_of_getElem? (i := 961) (by decide +kernel)
set_option maxRecDepth 20000 in
theorem qI_AB_init : (Jvm.Cond.instanceMethod ({ cls := "java/lang/AbstractStringBuilder", name := "<init>", desc := "(I)V" } : Jvm.MethodName)) ∈ lw_tbl := List.mem_of_getElem? (i := 962) (by decide +kernel)
set_option maxRecDepth 20000 in
theorem qC_AB_init : (Jvm.Cond.code ({ cls := "java/lang/AbstractStringBuilder", name := "<init>", desc := "(I)V" } : Jvm.MethodName) prog_13_method_2_code (2 : Nat) (Option.none : Option Jvm.ClassFile.FieldType)) ∈ lw_tbl := List.mem_of_getElem? (i := 963) rfl
set_option maxRecDepth 20000 in
theorem qM_AB_3 : (Jvm.Cond.methodLink "java/lang/AbstractStringBuilder" (3 : Nat) ({ cls := "java/lang/Object", name := "<init>", desc := "()V" } : Jvm.MethodName)) ∈ lw_tbl := List.mem_of_getElem? (i := 964) (by decide +kernel)
set_option maxRecDepth 20000 in
theorem qF_AB_18 : (Jvm.Cond.fieldLink "java/lang/AbstractStringBuilder" (18 : Nat) "java/lang/String" "COMPACT_STRINGS" "Z") ∈ lw_tbl := List.mem_of_getElem? (i := 965) (by decide +kernel)
set_option maxRecDepth 20000 in
theorem qLs_St_COMPACTSTRINGS_Z : (Jvm.Cond.laysStatic "java/lang/String" "COMPACT_STRINGS" "Z") ∈ lw_tbl := List.mem_of_getElem? (i := 966) (by decide +kernel)
set_option maxRecDepth 20000 in
theorem qM_AB_26 : (Jvm.Cond.methodLink "java/lang/AbstractStringBuilder" (26 : Nat) ({ cls := "java/lang/StringUTF16", name := "newBytesFor", desc := "(I)[B" } : Jvm.MethodName)) ∈ lw_tbl := List.mem_of_getElem? (i := 967) (by decide +kernel)
set_option maxRecDepth 20000 in
theorem qS_SU_newBytesFor : (Jvm.Cond.static ({ cls := "java/lang/StringUTF16", name := "newBytesFor", desc := "(I)[B" } : Jvm.MethodName)) ∈ lw_tbl := List.mem_of_getElem? (i := 968) (by decide +kernel)
set_option maxRecDepth 20000 in
theorem qC_SU_newBytesFor : (Jvm.Cond.code ({ cls := "java/lang/StringUTF16", name := "newBytesFor", desc := "(I)[B" } : Jvm.MethodName) prog_30_method_2_code (1 : Nat) (Option.some (Jvm.ClassFile.FieldType.array Jvm.ClassFile.FieldType.byte))) ∈ lw_tbl := List.mem_of_getElem? (i := 969) rfl
set_option maxRecDepth 20000 in
theorem qM_SU_11 : (Jvm.Cond.methodLink "java/lang/StringUTF16" (11 : Nat) ({ cls := "java/lang/StringUTF16", name := "newBytesLength", desc := "(I)I" } : Jvm.MethodName)) ∈ lw_tbl := List.mem_of_getElem? (i := 970) (by decide +kernel)
set_option maxRecDepth 20000 in
theorem qS_SU_newBytesLength : (Jvm.Cond.static ({ cls := "java/lang/StringUTF16", name := "newBytesLength", desc := "(I)I" } : Jvm.MethodName)) ∈ lw_tbl := List.mem_of_getElem? (i := 971) (by decide +kernel)
set_option maxRecDepth 20000 in
theorem qC_SU_newBytesLength : (Jvm.Cond.code ({ cls := "java/lang/StringUTF16", name := "newBytesLength", desc := "(I)I" } : Jvm.MethodName) prog_30_method_3_code (1 : Nat) (Option.some Jvm.ClassFile.FieldType.int)) ∈ lw_tbl := List.mem_of_getElem? (i := 972) rfl
set_option maxRecDepth 20000 in
theorem qX_SU_20 : (Jvm.Cond.constant "java/lang/StringUTF16" (20 : Nat) (1073741823 : Int32)) ∈ lw_tbl := List.mem_of_getElem? (i := 973) (by decide +kernel)
set_option maxRecDepth 20000 in
theorem qF_AB_15 : (Jvm.Cond.fieldLink "java/lang/AbstractStringBuilder" (15 : Nat) "java/lang/AbstractStringBuilder" "value" "[B") ∈ lw_tbl := List.mem_of_getElem? (i := 974) (by decide +kernel)
set_option maxRecDepth 20000 in
theorem qF_AB_22 : (Jvm.Cond.fieldLink "java/lang/AbstractStringBuilder" (22 : Nat) "java/lang/AbstractStringBuilder" "coder" "B") ∈ lw_tbl := List.mem_of_getElem? (i := 975) (by decide +kernel)
set_option maxRecDepth 20000 in
theorem qF_St_1048 : (Jvm.Cond.fieldLink "java/lang/String" (1048 : Nat) "java/lang/AbstractStringBuilder" "maybeLatin1" "Z") ∈ lw_tbl := List.mem_of_getElem? (i := 976) (by decide +kernel)
set_option maxRecDepth 20000 in
theorem qF_AB_79 : (Jvm.Cond.fieldLink "java/lang/AbstractStringBuilder" (79 : Nat) "java/lang/AbstractStringBuilder" "count" "I") ∈ lw_tbl := List.mem_of_getElem? (i := 977) (by decide +kernel)
set_option maxRecDepth 20000 in
theorem qSc_SB_AB : (Jvm.Cond.superclass "java/lang/StringBuilder" "java/lang/AbstractStringBuilder") ∈ lw_tbl := List.mem_of_getElem? (i := 986) (by decide +kernel)
set_option maxRecDepth 20000 in
theorem qM_Tb_273 : (Jvm.Cond.methodLink "Threeboxes" (273 : Nat) ({ cls := "java/lang/StringBuilder", name := "append", desc := "(C)Ljava/lang/StringBuilder;" } : Jvm.MethodName)) ∈ lw_tbl := List.mem_of_getElem? (i := 987) (by decide +kernel)
set_option maxRecDepth 20000 in
theorem qI_SB_append_1 : (Jvm.Cond.instanceMethod ({ cls := "java/lang/StringBuilder", name := "append", desc := "(C)Ljava/lang/StringBuilder;" } : Jvm.MethodName)) ∈ lw_tbl := List.mem_of_getElem? (i := 988) (by decide +kernel)
set_option maxRecDepth 20000 in
theorem qV_SB_SB_append_1 : (Jvm.Cond.selects "java/lang/StringBuilder" ({ cls := "java/lang/StringBuilder", name := "append", desc := "(C)Ljava/lang/StringBuilder;" } : Jvm.MethodName) ({ cls := "java/lang/StringBuilder", name := "append", desc := "(C)Ljava/lang/StringBuilder;" } : Jvm.MethodName)) ∈ lw_tbl := List.mem_of_getElem? (i := 989) (by decide +kernel)
set_option maxRecDepth 20000 in
theorem qC_SB_append_1 : (Jvm.Cond.code ({ cls := "java/lang/StringBuilder", name := "append", desc := "(C)Ljava/lang/StringBuilder;" } : Jvm.MethodName) prog_28_method_14_code (2 : Nat) (Option.some (Jvm.ClassFile.FieldType.object "java/lang/StringBuilder"))) ∈ lw_tbl := List.mem_of_getElem? (i := 990) rfl
set_option maxRecDepth 20000 in
theorem qM_SB_50 : (Jvm.Cond.methodLink "java/lang/StringBuilder" (50 : Nat) ({ cls := "java/lang/AbstractStringBuilder", name := "append", desc := "(C)Ljava/lang/AbstractStringBuilder;" } : Jvm.MethodName)) ∈ lw_tbl := List.mem_of_getElem? (i := 991) (by decide +kernel)
set_option maxRecDepth 20000 in
theorem qI_AB_append_1 : (Jvm.Cond.instanceMethod ({ cls := "java/lang/AbstractStringBuilder", name := "append", desc := "(C)Ljava/lang/AbstractStringBuilder;" } : Jvm.MethodName)) ∈ lw_tbl := List.mem_of_getElem? (i := 992) (by decide +kernel)
set_option maxRecDepth 20000 in
theorem qC_AB_append_1 : (Jvm.Cond.code ({ cls := "java/lang/AbstractStringBuilder", name := "append", desc := "(C)Ljava/lang/AbstractStringBuilder;" } : Jvm.MethodName) prog_13_method_31_code (2 : Nat) (Option.some (Jvm.ClassFile.FieldType.object "java/lang/AbstractStringBuilder"))) ∈ lw_tbl := List.mem_of_getElem? (i := 993) rfl
set_option maxRecDepth 20000 in
theorem qM_AB_100 : (Jvm.Cond.methodLink "java/lang/AbstractStringBuilder" (100 : Nat) ({ cls := "java/lang/AbstractStringBuilder", name := "ensureCapacityInternal", desc := "(I)V" } : Jvm.MethodName)) ∈ lw_tbl := List.mem_of_getElem? (i := 994) (by decide +kernel)
set_option maxRecDepth 20000 in
theorem qI_AB_ensureCapacityInternal : (Jvm.Cond.instanceMethod ({ cls := "java/lang/AbstractStringBuilder", name := "ensureCapacityInternal", desc := "(I)V" } : Jvm.MethodName)) ∈ lw_tbl := List.mem_of_getElem? (i := 996) (by decide +kernel)
set_option maxRecDepth 20000 in
theorem qC_AB_ensureCapacityInternal : (Jvm.Cond.code ({ cls := "java/lang/AbstractStringBuilder", name := "ensureCapacityInternal", desc := "(I)V" } : Jvm.MethodName) prog_13_method_9_code (3 : Nat) (Option.none : Option Jvm.ClassFile.FieldType)) ∈ lw_tbl := List.mem_of_getElem? (i := 997) rfl
set_option maxRecDepth 20000 in
theorem qM_AB_104 : (Jvm.Cond.methodLink "java/lang/AbstractStringBuilder" (104 : Nat) ({ cls := "java/lang/AbstractStringBuilder", name := "newCapacity", desc := "(I)I" } : Jvm.MethodName)) ∈ lw_tbl := List.mem_of_getElem? (i := 998) (by decide +kernel)
set_option maxRecDepth 20000 in
theorem qI_AB_newCapacity : (Jvm.Cond.instanceMethod ({ cls := "java/lang/AbstractStringBuilder", name := "newCapacity", desc := "(I)I" } : Jvm.MethodName)) ∈ lw_tbl := List.mem_of_getElem? (i := 1000) (by decide +kernel)
set_option maxRecDepth 20000 in
theorem qC_AB_newCapacity : (Jvm.Cond.code ({ cls := "java/lang/AbstractStringBuilder", name := "newCapacity", desc := "(I)I" } : Jvm.MethodName) prog_13_method_10_code (6 : Nat) (Option.some Jvm.ClassFile.FieldType.int)) ∈ lw_tbl := List.mem_of_getElem? (i := 1001) rfl
set_option maxRecDepth 20000 in
theorem qM_AB_114 : (Jvm.Cond.methodLink "java/lang/AbstractStringBuilder" (114 : Nat) ({ cls := "jdk/internal/util/ArraysSupport", name := "newLength", desc := "(III)I" } : Jvm.MethodName)) ∈ lw_tbl := List.mem_of_getElem? (i := 1002) (by decide +kernel)
set_option maxRecDepth 20000 in
theorem qX_AB_39 : (Jvm.Cond.constant "java/lang/AbstractStringBuilder" (39 : Nat) (2147483647 : Int32)) ∈ lw_tbl := List.mem_of_getElem? (i := 1003) (by decide +kernel)
set_option maxRecDepth 20000 in
theorem qM_AB_108 : (Jvm.Cond.methodLink "java/lang/AbstractStringBuilder" (108 : Nat) ({ cls := "java/util/Arrays", name := "copyOf", desc := "([BI)[B" } : Jvm.MethodName)) ∈ lw_tbl := List.mem_of_getElem? (i := 1004) (by decide +kernel)
set_option maxRecDepth 20000 in
theorem qS_Ar_copyOf_1 : (Jvm.Cond.static ({ cls := "java/util/Arrays", name := "copyOf", desc := "([BI)[B" } : Jvm.MethodName)) ∈ lw_tbl := List.mem_of_getElem? (i := 1005) (by decide +kernel)
set_option maxRecDepth 20000 in
theorem qC_Ar_copyOf_1 : (Jvm.Cond.code ({ cls := "java/util/Arrays", name := "copyOf", desc := "([BI)[B" } : Jvm.MethodName) prog_38_method_121_code (3 : Nat) (Option.some (Jvm.ClassFile.FieldType.array Jvm.ClassFile.FieldType.byte))) ∈ lw_tbl := List.mem_of_getElem? (i := 1006) rfl
set_option maxRecDepth 20000 in
theorem qM_Ar_310 : (Jvm.Cond.methodLink "java/util/Arrays" (310 : Nat) ({ cls := "[B", name := "clone", desc := "()Ljava/lang/Object;" } : Jvm.MethodName)) ∈ lw_tbl := List.mem_of_getElem? (i := 1007) (by decide +kernel)
set_option maxRecDepth 20000 in
theorem qSm__B_javalangObject_clone_LjavalangObject : (Jvm.Cond.sameMethod "[B" "java/lang/Object" "clone" "()Ljava/lang/Object;") ∈ lw_tbl := List.mem_of_getElem? (i := 1008) (by decide +kernel)
set_option maxRecDepth 20000 in
theorem qNa_Oj_clone_73ce : (Jvm.Cond.native ({ cls := "java/lang/Object", name := "clone", desc := "()Ljava/lang/Object;" } : Jvm.MethodName)) ∈ lw_tbl := List.mem_of_getElem? (i := 1009) (by decide +kernel)
set_option maxRecDepth 20000 in
theorem qI_Oj_clone_73ce : (Jvm.Cond.instanceMethod ({ cls := "java/lang/Object", name := "clone", desc := "()Ljava/lang/Object;" } : Jvm.MethodName)) ∈ lw_tbl := List.mem_of_getElem? (i := 1010) (by decide +kernel)
set_option maxRecDepth 20000 in
theorem qV__B__B_clone_73ce : (Jvm.Cond.selects "[B" ({ cls := "[B", name := "clone", desc := "()Ljava/lang/Object;" } : Jvm.MethodName) ({ cls := "java/lang/Object", name := "clone", desc := "()Ljava/lang/Object;" } : Jvm.MethodName)) ∈ lw_tbl := List.mem_of_getElem? (i := 1011) (by decide +kernel)
set_option maxRecDepth 20000 in
theorem qT__B_java_lang_Cloneable : (Jvm.Cond.castable "[B" "java/lang/Cloneable") ∈ lw_tbl := List.mem_of_getElem? (i := 1012) (by decide +kernel)
set_option maxRecDepth 20000 in
theorem qK_Ar_311 : (Jvm.Cond.classLink "java/util/Arrays" (311 : Nat) "[B") ∈ lw_tbl := List.mem_of_getElem? (i := 1013) (by decide +kernel)
set_option maxRecDepth 20000 in
theorem qM_AB_83 : (Jvm.Cond.methodLink "java/lang/AbstractStringBuilder" (83 : Nat) ({ cls := "java/lang/AbstractStringBuilder", name := "isLatin1", desc := "()Z" } : Jvm.MethodName)) ∈ lw_tbl := List.mem_of_getElem? (i := 1014) (by decide +kernel)
set_option maxRecDepth 20000 in
theorem qI_AB_isLatin1 : (Jvm.Cond.instanceMethod ({ cls := "java/lang/AbstractStringBuilder", name := "isLatin1", desc := "()Z" } : Jvm.MethodName)) ∈ lw_tbl := List.mem_of_getElem? (i := 1015) (by decide +kernel)
set_option maxRecDepth 20000 in
theorem qSm_AB_javalangAbstractStringBuilder_isLatin1_Z : (Jvm.Cond.sameMethod "java/lang/AbstractStringBuilder" "java/lang/AbstractStringBuilder" "isLatin1" "()Z") ∈ lw_tbl := List.mem_of_getElem? (i := 1016) (by decide +kernel)
set_option maxRecDepth 20000 in
theorem qV_SB_AB_isLatin1 : (Jvm.Cond.selects "java/lang/StringBuilder" ({ cls := "java/lang/AbstractStringBuilder", name := "isLatin1", desc := "()Z" } : Jvm.MethodName) ({ cls := "java/lang/AbstractStringBuilder", name := "isLatin1", desc := "()Z" } : Jvm.MethodName)) ∈ lw_tbl := List.mem_of_getElem? (i := 1017) (by decide +kernel)
set_option maxRecDepth 20000 in
theorem qC_AB_isLatin1 : (Jvm.Cond.code ({ cls := "java/lang/AbstractStringBuilder", name := "isLatin1", desc := "()Z" } : Jvm.MethodName) prog_13_method_68_code (1 : Nat) (Option.some Jvm.ClassFile.FieldType.boolean)) ∈ lw_tbl := List.mem_of_getElem? (i := 1018) rfl
set_option maxRecDepth 20000 in
theorem qM_AB_191 : (Jvm.Cond.methodLink "java/lang/AbstractStringBuilder" (191 : Nat) ({ cls := "java/lang/StringLatin1", name := "canEncode", desc := "(C)Z" } : Jvm.MethodName)) ∈ lw_tbl := List.mem_of_getElem? (i := 1019) (by decide +kernel)
set_option maxRecDepth 20000 in
theorem qS_SL_canEncode : (Jvm.Cond.static ({ cls := "java/lang/StringLatin1", name := "canEncode", desc := "(C)Z" } : Jvm.MethodName)) ∈ lw_tbl := List.mem_of_getElem? (i := 1020) (by decide +kernel)
set_option maxRecDepth 20000 in
theorem qC_SL_canEncode : (Jvm.Cond.code ({ cls := "java/lang/StringLatin1", name := "canEncode", desc := "(C)Z" } : Jvm.MethodName) prog_29_method_3_code (1 : Nat) (Option.some Jvm.ClassFile.FieldType.boolean)) ∈ lw_tbl := List.mem_of_getElem? (i := 1021) rfl
set_option maxRecDepth 20000 in
theorem qM_AB_195 : (Jvm.Cond.methodLink "java/lang/AbstractStringBuilder" (195 : Nat) ({ cls := "java/lang/AbstractStringBuilder", name := "inflate", desc := "()V" } : Jvm.MethodName)) ∈ lw_tbl := List.mem_of_getElem? (i := 1022) (by decide +kernel)
set_option maxRecDepth 20000 in
theorem qI_AB_inflate : (Jvm.Cond.instanceMethod ({ cls := "java/lang/AbstractStringBuilder", name := "inflate", desc := "()V" } : Jvm.MethodName)) ∈ lw_tbl := List.mem_of_getElem? (i := 1024) (by decide +kernel)
set_option maxRecDepth 20000 in
theorem qC_AB_inflate : (Jvm.Cond.code ({ cls := "java/lang/AbstractStringBuilder", name := "inflate", desc := "()V" } : Jvm.MethodName) prog_13_method_11_code (2 : Nat) (Option.none : Option Jvm.ClassFile.FieldType)) ∈ lw_tbl := List.mem_of_getElem? (i := 1025) rfl
set_option maxRecDepth 20000 in
theorem qM_AB_125 : (Jvm.Cond.methodLink "java/lang/AbstractStringBuilder" (125 : Nat) ({ cls := "java/lang/StringLatin1", name := "inflate", desc := "([BI[BII)V" } : Jvm.MethodName)) ∈ lw_tbl := List.mem_of_getElem? (i := 1026) (by decide +kernel)
set_option maxRecDepth 20000 in
theorem qS_SL_inflate : (Jvm.Cond.static ({ cls := "java/lang/StringLatin1", name := "inflate", desc := "([BI[BII)V" } : Jvm.MethodName)) ∈ lw_tbl := List.mem_of_getElem? (i := 1027) (by decide +kernel)
set_option maxRecDepth 20000 in
theorem qC_SL_inflate : (Jvm.Cond.code ({ cls := "java/lang/StringLatin1", name := "inflate", desc := "([BI[BII)V" } : Jvm.MethodName) prog_29_method_50_code (5 : Nat) (Option.none : Option Jvm.ClassFile.FieldType)) ∈ lw_tbl := List.mem_of_getElem? (i := 1028) rfl
set_option maxRecDepth 20000 in
theorem qM_SL_240 : (Jvm.Cond.methodLink "java/lang/StringLatin1" (240 : Nat) ({ cls := "java/lang/StringUTF16", name := "inflate", desc := "([BI[BII)V" } : Jvm.MethodName)) ∈ lw_tbl := List.mem_of_getElem? (i := 1029) (by decide +kernel)
set_option maxRecDepth 20000 in
theorem qS_SU_inflate : (Jvm.Cond.static ({ cls := "java/lang/StringUTF16", name := "inflate", desc := "([BI[BII)V" } : Jvm.MethodName)) ∈ lw_tbl := List.mem_of_getElem? (i := 1030) (by decide +kernel)
set_option maxRecDepth 20000 in
theorem qC_SU_inflate : (Jvm.Cond.code ({ cls := "java/lang/StringUTF16", name := "inflate", desc := "([BI[BII)V" } : Jvm.MethodName) prog_30_method_86_code (6 : Nat) (Option.none : Option Jvm.ClassFile.FieldType)) ∈ lw_tbl := List.mem_of_getElem? (i := 1031) rfl
set_option maxRecDepth 20000 in
theorem qM_SU_173 : (Jvm.Cond.methodLink "java/lang/StringUTF16" (173 : Nat) ({ cls := "java/lang/StringUTF16", name := "checkBoundsOffCount", desc := "(II[B)V" } : Jvm.MethodName)) ∈ lw_tbl := List.mem_of_getElem? (i := 1032) (by decide +kernel)
set_option maxRecDepth 20000 in
theorem qS_SU_checkBoundsOffCount : (Jvm.Cond.static ({ cls := "java/lang/StringUTF16", name := "checkBoundsOffCount", desc := "(II[B)V" } : Jvm.MethodName)) ∈ lw_tbl := List.mem_of_getElem? (i := 1033) (by decide +kernel)
set_option maxRecDepth 20000 in
theorem qC_SU_checkBoundsOffCount : (Jvm.Cond.code ({ cls := "java/lang/StringUTF16", name := "checkBoundsOffCount", desc := "(II[B)V" } : Jvm.MethodName) prog_30_method_94_code (3 : Nat) (Option.none : Option Jvm.ClassFile.FieldType)) ∈ lw_tbl := List.mem_of_getElem? (i := 1034) rfl
set_option maxRecDepth 20000 in
theorem qM_SU_48 : (Jvm.Cond.methodLink "java/lang/StringUTF16" (48 : Nat) ({ cls := "java/lang/StringUTF16", name := "length", desc := "([B)I" } : Jvm.MethodName)) ∈ lw_tbl := List.mem_of_getElem? (i := 1035) (by decide +kernel)
set_option maxRecDepth 20000 in
theorem qS_SU_length : (Jvm.Cond.static ({ cls := "java/lang/StringUTF16", name := "length", desc := "([B)I" } : Jvm.MethodName)) ∈ lw_tbl := List.mem_of_getElem? (i := 1036) (by decide +kernel)
set_option maxRecDepth 20000 in
theorem qC_SU_length : (Jvm.Cond.code ({ cls := "java/lang/StringUTF16", name := "length", desc := "([B)I" } : Jvm.MethodName) prog_30_method_6_code (1 : Nat) (Option.some Jvm.ClassFile.FieldType.int)) ∈ lw_tbl := List.mem_of_getElem? (i := 1037) rfl
set_option maxRecDepth 20000 in
theorem qM_SU_419 : (Jvm.Cond.methodLink "java/lang/StringUTF16" (419 : Nat) ({ cls := "java/lang/String", name := "checkBoundsOffCount", desc := "(III)I" } : Jvm.MethodName)) ∈ lw_tbl := List.mem_of_getElem? (i := 1038) (by decide +kernel)
set_option maxRecDepth 20000 in
theorem qS_St_checkBoundsOffCount : (Jvm.Cond.static ({ cls := "java/lang/String", name := "checkBoundsOffCount", desc := "(III)I" } : Jvm.MethodName)) ∈ lw_tbl := List.mem_of_getElem? (i := 1039) (by decide +kernel)
set_option maxRecDepth 20000 in
theorem qC_St_checkBoundsOffCount : (Jvm.Cond.code ({ cls := "java/lang/String", name := "checkBoundsOffCount", desc := "(III)I" } : Jvm.MethodName) prog_27_method_157_code (3 : Nat) (Option.some Jvm.ClassFile.FieldType.int)) ∈ lw_tbl := List.mem_of_getElem? (i := 1040) rfl
set_option maxRecDepth 20000 in
theorem qF_St_1053 : (Jvm.Cond.fieldLink "java/lang/String" (1053 : Nat) "jdk/internal/util/Preconditions" "SIOOBE_FORMATTER" "Ljava/util/function/BiFunction;") ∈ lw_tbl := List.mem_of_getElem? (i := 1041) (by decide +kernel)
set_option maxRecDepth 20000 in
theorem qLs_Pr_SIOOBEFORMATTER_LjavautilfunctionBiFunction : (Jvm.Cond.laysStatic "jdk/internal/util/Preconditions" "SIOOBE_FORMATTER" "Ljava/util/function/BiFunction;") ∈ lw_tbl := List.mem_of_getElem? (i := 1042) (by decide +kernel)
set_option maxRecDepth 20000 in
theorem qM_St_1065 : (Jvm.Cond.methodLink "java/lang/String" (1065 : Nat) ({ cls := "jdk/internal/util/Preconditions", name := "checkFromIndexSize", desc := "(IIILjava/util/function/BiFunction;)I" } : Jvm.MethodName)) ∈ lw_tbl := List.mem_of_getElem? (i := 1043) (by decide +kernel)
set_option maxRecDepth 20000 in
theorem qS_Pr_checkFromIndexSize : (Jvm.Cond.static ({ cls := "jdk/internal/util/Preconditions", name := "checkFromIndexSize", desc := "(IIILjava/util/function/BiFunction;)I" } : Jvm.MethodName)) ∈ lw_tbl := List.mem_of_getElem? (i := 1044) (by decide +kernel)
set_option maxRecDepth 20000 in
theorem qC_Pr_checkFromIndexSize : (Jvm.Cond.code ({ cls := "jdk/internal/util/Preconditions", name := "checkFromIndexSize", desc := "(IIILjava/util/function/BiFunction;)I" } : Jvm.MethodName) prog_45_method_13_code (4 : Nat) (Option.some Jvm.ClassFile.FieldType.int)) ∈ lw_tbl := List.mem_of_getElem? (i := 1045) rfl
set_option maxRecDepth 20000 in
theorem qM_SU_111 : (Jvm.Cond.methodLink "java/lang/StringUTF16" (111 : Nat) ({ cls := "java/lang/StringUTF16", name := "putChar", desc := "([BII)V" } : Jvm.MethodName)) ∈ lw_tbl := List.mem_of_getElem? (i := 1046) (by decide +kernel)
set_option maxRecDepth 20000 in
theorem qS_SU_putChar : (Jvm.Cond.static ({ cls := "java/lang/StringUTF16", name := "putChar", desc := "([BII)V" } : Jvm.MethodName)) ∈ lw_tbl := List.mem_of_getElem? (i := 1047) (by decide +kernel)
set_option maxRecDepth 20000 in
theorem qC_SU_putChar : (Jvm.Cond.code ({ cls := "java/lang/StringUTF16", name := "putChar", desc := "([BII)V" } : Jvm.MethodName) prog_30_method_4_code (3 : Nat) (Option.none : Option Jvm.ClassFile.FieldType)) ∈ lw_tbl := List.mem_of_getElem? (i := 1048) rfl
set_option maxRecDepth 20000 in
theorem qF_SU_44 : (Jvm.Cond.fieldLink "java/lang/StringUTF16" (44 : Nat) "java/lang/StringUTF16" "$assertionsDisabled" "Z") ∈ lw_tbl := List.mem_of_getElem? (i := 1049) (by decide +kernel)
set_option maxRecDepth 20000 in
theorem qLs_SU_assertionsDisabled_Z : (Jvm.Cond.laysStatic "java/lang/StringUTF16" "$assertionsDisabled" "Z") ∈ lw_tbl := List.mem_of_getElem? (i := 1050) (by decide +kernel)
set_option maxRecDepth 20000 in
theorem qF_SU_59 : (Jvm.Cond.fieldLink "java/lang/StringUTF16" (59 : Nat) "java/lang/StringUTF16" "HI_BYTE_SHIFT" "I") ∈ lw_tbl := List.mem_of_getElem? (i := 1051) (by decide +kernel)
set_option maxRecDepth 20000 in
theorem qLs_SU_HIBYTESHIFT_I : (Jvm.Cond.laysStatic "java/lang/StringUTF16" "HI_BYTE_SHIFT" "I") ∈ lw_tbl := List.mem_of_getElem? (i := 1052) (by decide +kernel)
set_option maxRecDepth 20000 in
theorem qF_SU_63 : (Jvm.Cond.fieldLink "java/lang/StringUTF16" (63 : Nat) "java/lang/StringUTF16" "LO_BYTE_SHIFT" "I") ∈ lw_tbl := List.mem_of_getElem? (i := 1053) (by decide +kernel)
set_option maxRecDepth 20000 in
theorem qLs_SU_LOBYTESHIFT_I : (Jvm.Cond.laysStatic "java/lang/StringUTF16" "LO_BYTE_SHIFT" "I") ∈ lw_tbl := List.mem_of_getElem? (i := 1054) (by decide +kernel)
set_option maxRecDepth 20000 in
theorem qM_AB_197 : (Jvm.Cond.methodLink "java/lang/AbstractStringBuilder" (197 : Nat) ({ cls := "java/lang/StringUTF16", name := "putCharSB", desc := "([BII)V" } : Jvm.MethodName)) ∈ lw_tbl := List.mem_of_getElem? (i := 1055) (by decide +kernel)
set_option maxRecDepth 20000 in
theorem qS_SU_putCharSB : (Jvm.Cond.static ({ cls := "java/lang/StringUTF16", name := "putCharSB", desc := "([BII)V" } : Jvm.MethodName)) ∈ lw_tbl := List.mem_of_getElem? (i := 1056) (by decide +kernel)
set_option maxRecDepth 20000 in
theorem qC_SU_putCharSB : (Jvm.Cond.code ({ cls := "java/lang/StringUTF16", name := "putCharSB", desc := "([BII)V" } : Jvm.MethodName) prog_30_method_71_code (3 : Nat) (Option.none : Option Jvm.ClassFile.FieldType)) ∈ lw_tbl := List.mem_of_getElem? (i := 1057) rfl
set_option maxRecDepth 20000 in
theorem qM_SU_67 : (Jvm.Cond.methodLink "java/lang/StringUTF16" (67 : Nat) ({ cls := "java/lang/StringUTF16", name := "checkIndex", desc := "(I[B)V" } : Jvm.MethodName)) ∈ lw_tbl := List.mem_of_getElem? (i := 1058) (by decide +kernel)
set_option maxRecDepth 20000 in
theorem qS_SU_checkIndex : (Jvm.Cond.static ({ cls := "java/lang/StringUTF16", name := "checkIndex", desc := "(I[B)V" } : Jvm.MethodName)) ∈ lw_tbl := List.mem_of_getElem? (i := 1059) (by decide +kernel)
set_option maxRecDepth 20000 in
theorem qC_SU_checkIndex : (Jvm.Cond.code ({ cls := "java/lang/StringUTF16", name := "checkIndex", desc := "(I[B)V" } : Jvm.MethodName) prog_30_method_91_code (2 : Nat) (Option.none : Option Jvm.ClassFile.FieldType)) ∈ lw_tbl := List.mem_of_getElem? (i := 1060) rfl
set_option maxRecDepth 20000 in
theorem qM_SU_414 : (Jvm.Cond.methodLink "java/lang/StringUTF16" (414 : Nat) ({ cls := "java/lang/String", name := "checkIndex", desc := "(II)V" } : Jvm.MethodName)) ∈ lw_tbl := List.mem_of_getElem? (i := 1061) (by decide +kernel)
set_option maxRecDepth 20000 in
theorem qS_St_checkIndex : (Jvm.Cond.static ({ cls := "java/lang/String", name := "checkIndex", desc := "(II)V" } : Jvm.MethodName)) ∈ lw_tbl := List.mem_of_getElem? (i := 1062) (by decide +kernel)
set_option maxRecDepth 20000 in
theorem qC_St_checkIndex : (Jvm.Cond.code ({ cls := "java/lang/String", name := "checkIndex", desc := "(II)V" } : Jvm.MethodName) prog_27_method_155_code (2 : Nat) (Option.none : Option Jvm.ClassFile.FieldType)) ∈ lw_tbl := List.mem_of_getElem? (i := 1063) rfl
set_option maxRecDepth 20000 in
theorem qM_St_1059 : (Jvm.Cond.methodLink "java/lang/String" (1059 : Nat) ({ cls := "jdk/internal/util/Preconditions", name := "checkIndex", desc := "(IILjava/util/function/BiFunction;)I" } : Jvm.MethodName)) ∈ lw_tbl := List.mem_of_getElem? (i := 1064) (by decide +kernel)
set_option maxRecDepth 20000 in
theorem qM_Tb_277 : (Jvm.Cond.methodLink "Threeboxes" (277 : Nat) ({ cls := "java/lang/StringBuilder", name := "toString", desc := "()Ljava/lang/String;" } : Jvm.MethodName)) ∈ lw_tbl := List.mem_of_getElem? (i := 1065) (by decide +kernel)
set_option maxRecDepth 20000 in
theorem qI_SB_toString : (Jvm.Cond.instanceMethod ({ cls := "java/lang/StringBuilder", name := "toString", desc := "()Ljava/lang/String;" } : Jvm.MethodName)) ∈ lw_tbl := List.mem_of_getElem? (i := 1066) (by decide +kernel)
set_option maxRecDepth 20000 in
theorem qV_SB_SB_toString : (Jvm.Cond.selects "java/lang/StringBuilder" ({ cls := "java/lang/StringBuilder", name := "toString", desc := "()Ljava/lang/String;" } : Jvm.MethodName) ({ cls := "java/lang/StringBuilder", name := "toString", desc := "()Ljava/lang/String;" } : Jvm.MethodName)) ∈ lw_tbl := List.mem_of_getElem? (i := 1067) (by decide +kernel)
set_option maxRecDepth 20000 in
theorem qC_SB_toString : (Jvm.Cond.code ({ cls := "java/lang/StringBuilder", name := "toString", desc := "()Ljava/lang/String;" } : Jvm.MethodName) prog_28_method_42_code (1 : Nat) (Option.some (Jvm.ClassFile.FieldType.object "java/lang/String"))) ∈ lw_tbl := List.mem_of_getElem? (i := 1068) rfl
set_option maxRecDepth 20000 in
theorem qK_SB_18 : (Jvm.Cond.classLink "java/lang/StringBuilder" (18 : Nat) "java/lang/String") ∈ lw_tbl := List.mem_of_getElem? (i := 1069) (by decide +kernel)
set_option maxRecDepth 20000 in
theorem qO_St : (Jvm.Cond.instantiable "java/lang/String" (4 : Nat)) ∈ lw_tbl := List.mem_of_getElem? (i := 1070) (by decide +kernel)
set_option maxRecDepth 20000 in
theorem qM_SB_137 : (Jvm.Cond.methodLink "java/lang/StringBuilder" (137 : Nat) ({ cls := "java/lang/String", name := "<init>", desc := "(Ljava/lang/StringBuilder;)V" } : Jvm.MethodName)) ∈ lw_tbl := List.mem_of_getElem? (i := 1071) (by decide +kernel)
set_option maxRecDepth 20000 in
theorem qI_St_init_2 : (Jvm.Cond.instanceMethod ({ cls := "java/lang/String", name := "<init>", desc := "(Ljava/lang/StringBuilder;)V" } : Jvm.MethodName)) ∈ lw_tbl := List.mem_of_getElem? (i := 1072) (by decide +kernel)
set_option maxRecDepth 20000 in
theorem qC_St_init_2 : (Jvm.Cond.code ({ cls := "java/lang/String", name := "<init>", desc := "(Ljava/lang/StringBuilder;)V" } : Jvm.MethodName) prog_27_method_53_code (2 : Nat) (Option.none : Option Jvm.ClassFile.FieldType)) ∈ lw_tbl := List.mem_of_getElem? (i := 1073) rfl
set_option maxRecDepth 20000 in
theorem qM_St_489 : (Jvm.Cond.methodLink "java/lang/String" (489 : Nat) ({ cls := "java/lang/String", name := "<init>", desc := "(Ljava/lang/AbstractStringBuilder;Ljava/lang/Void;)V" } : Jvm.MethodName)) ∈ lw_tbl := List.mem_of_getElem? (i := 1074) (by decide +kernel)
set_option maxRecDepth 20000 in
theorem qI_St_init_1 : (Jvm.Cond.instanceMethod ({ cls := "java/lang/String", name := "<init>", desc := "(Ljava/lang/AbstractStringBuilder;Ljava/lang/Void;)V" } : Jvm.MethodName)) ∈ lw_tbl := List.mem_of_getElem? (i := 1075) (by decide +kernel)
set_option maxRecDepth 20000 in
theorem qC_St_init_1 : (Jvm.Cond.code ({ cls := "java/lang/String", name := "<init>", desc := "(Ljava/lang/AbstractStringBuilder;Ljava/lang/Void;)V" } : Jvm.MethodName) prog_27_method_150_code (5 : Nat) (Option.none : Option Jvm.ClassFile.FieldType)) ∈ lw_tbl := List.mem_of_getElem? (i := 1076) rfl
set_option maxRecDepth 20000 in
theorem qM_St_1 : (Jvm.Cond.methodLink "java/lang/String" (1 : Nat) ({ cls := "java/lang/Object", name := "<init>", desc := "()V" } : Jvm.MethodName)) ∈ lw_tbl := List.mem_of_getElem? (i := 1077) (by decide +kernel)
set_option maxRecDepth 20000 in
theorem qM_St_552 : (Jvm.Cond.methodLink "java/lang/String" (552 : Nat) ({ cls := "java/lang/AbstractStringBuilder", name := "getValue", desc := "()[B" } : Jvm.MethodName)) ∈ lw_tbl := List.mem_of_getElem? (i := 1078) (by decide +kernel)
set_option maxRecDepth 20000 in
theorem qI_AB_getValue : (Jvm.Cond.instanceMethod ({ cls := "java/lang/AbstractStringBuilder", name := "getValue", desc := "()[B" } : Jvm.MethodName)) ∈ lw_tbl := List.mem_of_getElem? (i := 1079) (by decide +kernel)
set_option maxRecDepth 20000 in
theorem qSm_AB_javalangAbstractStringBuilder_getValue_B : (Jvm.Cond.sameMethod "java/lang/AbstractStringBuilder" "java/lang/AbstractStringBuilder" "getValue" "()[B") ∈ lw_tbl := List.mem_of_getElem? (i := 1080) (by decide +kernel)
set_option maxRecDepth 20000 in
theorem qV_SB_AB_getValue : (Jvm.Cond.selects "java/lang/StringBuilder" ({ cls := "java/lang/AbstractStringBuilder", name := "getValue", desc := "()[B" } : Jvm.MethodName) ({ cls := "java/lang/AbstractStringBuilder", name := "getValue", desc := "()[B" } : Jvm.MethodName)) ∈ lw_tbl := List.mem_of_getElem? (i := 1081) (by decide +kernel)
set_option maxRecDepth 20000 in
theorem qC_AB_getValue : (Jvm.Cond.code ({ cls := "java/lang/AbstractStringBuilder", name := "getValue", desc := "()[B" } : Jvm.MethodName) prog_13_method_64_code (1 : Nat) (Option.some (Jvm.ClassFile.FieldType.array Jvm.ClassFile.FieldType.byte))) ∈ lw_tbl := List.mem_of_getElem? (i := 1082) rfl
set_option maxRecDepth 20000 in
theorem qM_St_549 : (Jvm.Cond.methodLink "java/lang/String" (549 : Nat) ({ cls := "java/lang/AbstractStringBuilder", name := "length", desc := "()I" } : Jvm.MethodName)) ∈ lw_tbl := List.mem_of_getElem? (i := 1083) (by decide +kernel)
set_option maxRecDepth 20000 in
theorem qI_AB_length : (Jvm.Cond.instanceMethod ({ cls := "java/lang/AbstractStringBuilder", name := "length", desc := "()I" } : Jvm.MethodName)) ∈ lw_tbl := List.mem_of_getElem? (i := 1084) (by decide +kernel)
set_option maxRecDepth 20000 in
theorem qSm_AB_javalangAbstractStringBuilder_length_I : (Jvm.Cond.sameMethod "java/lang/AbstractStringBuilder" "java/lang/AbstractStringBuilder" "length" "()I") ∈ lw_tbl := List.mem_of_getElem? (i := 1085) (by decide +kernel)
set_option maxRecDepth 20000 in
theorem qV_SB_AB_length : (Jvm.Cond.selects "java/lang/StringBuilder" ({ cls := "java/lang/AbstractStringBuilder", name := "length", desc := "()I" } : Jvm.MethodName) ({ cls := "java/lang/StringBuilder", name := "length", desc := "()I" } : Jvm.MethodName)) ∈ lw_tbl := List.mem_of_getElem? (i := 1086) (by decide +kernel)
set_option maxRecDepth 20000 in
theorem qI_SB_length : (Jvm.Cond.instanceMethod ({ cls := "java/lang/StringBuilder", name := "length", desc := "()I" } : Jvm.MethodName)) ∈ lw_tbl := List.mem_of_getElem? (i := 1087) (by decide +kernel)
set_option maxRecDepth 20000 in
theorem qC_SB_length : (Jvm.Cond.code ({ cls := "java/lang/StringBuilder", name := "length", desc := "()I" } : Jvm.MethodName) prog_28_method_93_code (1 : Nat) (Option.some Jvm.ClassFile.FieldType.int)) ∈ lw_tbl := List.mem_of_getElem? (i := 1088) rfl
set_option maxRecDepth 20000 in
theorem qM_SB_343 : (Jvm.Cond.methodLink "java/lang/StringBuilder" (343 : Nat) ({ cls := "java/lang/AbstractStringBuilder", name := "length", desc := "()I" } : Jvm.MethodName)) ∈ lw_tbl := List.mem_of_getElem? (i := 1089) (by decide +kernel)
set_option maxRecDepth 20000 in
theorem qC_AB_length : (Jvm.Cond.code ({ cls := "java/lang/AbstractStringBuilder", name := "length", desc := "()I" } : Jvm.MethodName) prog_13_method_6_code (1 : Nat) (Option.some Jvm.ClassFile.FieldType.int)) ∈ lw_tbl := List.mem_of_getElem? (i := 1090) rfl
set_option maxRecDepth 20000 in
theorem qM_St_1047 : (Jvm.Cond.methodLink "java/lang/String" (1047 : Nat) ({ cls := "java/lang/AbstractStringBuilder", name := "isLatin1", desc := "()Z" } : Jvm.MethodName)) ∈ lw_tbl := List.mem_of_getElem? (i := 1091) (by decide +kernel)
set_option maxRecDepth 20000 in
theorem qM_St_54 : (Jvm.Cond.methodLink "java/lang/String" (54 : Nat) ({ cls := "java/util/Arrays", name := "copyOfRange", desc := "([BII)[B" } : Jvm.MethodName)) ∈ lw_tbl := List.mem_of_getElem? (i := 1092) (by decide +kernel)
set_option maxRecDepth 20000 in
theorem qS_Ar_copyOfRange : (Jvm.Cond.static ({ cls := "java/util/Arrays", name := "copyOfRange", desc := "([BII)[B" } : Jvm.MethodName)) ∈ lw_tbl := List.mem_of_getElem? (i := 1093) (by decide +kernel)
set_option maxRecDepth 20000 in
theorem qC_Ar_copyOfRange : (Jvm.Cond.code ({ cls := "java/util/Arrays", name := "copyOfRange", desc := "([BII)[B" } : Jvm.MethodName) prog_38_method_132_code (3 : Nat) (Option.some (Jvm.ClassFile.FieldType.array Jvm.ClassFile.FieldType.byte))) ∈ lw_tbl := List.mem_of_getElem? (i := 1094) rfl
set_option maxRecDepth 20000 in
theorem qM_Ar_339 : (Jvm.Cond.methodLink "java/util/Arrays" (339 : Nat) ({ cls := "java/util/Arrays", name := "copyOfRangeByte", desc := "([BII)[B" } : Jvm.MethodName)) ∈ lw_tbl := List.mem_of_getElem? (i := 1095) (by decide +kernel)
set_option maxRecDepth 20000 in
theorem qS_Ar_copyOfRangeByte : (Jvm.Cond.static ({ cls := "java/util/Arrays", name := "copyOfRangeByte", desc := "([BII)[B" } : Jvm.MethodName)) ∈ lw_tbl := List.mem_of_getElem? (i := 1096) (by decide +kernel)
set_option maxRecDepth 20000 in
theorem qC_Ar_copyOfRangeByte : (Jvm.Cond.code ({ cls := "java/util/Arrays", name := "copyOfRangeByte", desc := "([BII)[B" } : Jvm.MethodName) prog_38_method_133_code (5 : Nat) (Option.some (Jvm.ClassFile.FieldType.array Jvm.ClassFile.FieldType.byte))) ∈ lw_tbl := List.mem_of_getElem? (i := 1097) rfl
set_option maxRecDepth 20000 in
theorem qM_Ar_343 : (Jvm.Cond.methodLink "java/util/Arrays" (343 : Nat) ({ cls := "java/util/Arrays", name := "checkLength", desc := "(II)V" } : Jvm.MethodName)) ∈ lw_tbl := List.mem_of_getElem? (i := 1098) (by decide +kernel)
set_option maxRecDepth 20000 in
theorem qS_Ar_checkLength : (Jvm.Cond.static ({ cls := "java/util/Arrays", name := "checkLength", desc := "(II)V" } : Jvm.MethodName)) ∈ lw_tbl := List.mem_of_getElem? (i := 1099) (by decide +kernel)
set_option maxRecDepth 20000 in
theorem qC_Ar_checkLength : (Jvm.Cond.code ({ cls := "java/util/Arrays", name := "checkLength", desc := "(II)V" } : Jvm.MethodName) prog_38_method_131_code (2 : Nat) (Option.none : Option Jvm.ClassFile.FieldType)) ∈ lw_tbl := List.mem_of_getElem? (i := 1100) rfl
set_option maxRecDepth 20000 in
theorem qK_Ar_43 : (Jvm.Cond.classLink "java/util/Arrays" (43 : Nat) "java/lang/IllegalArgumentException") ∈ lw_tbl := List.mem_of_getElem? (i := 1101) (by decide +kernel)
set_option maxRecDepth 20000 in
theorem qK_Ar_45 : (Jvm.Cond.classLink "java/util/Arrays" (45 : Nat) "java/lang/StringBuilder") ∈ lw_tbl := List.mem_of_getElem? (i := 1102) (by decide +kernel)
set_option maxRecDepth 20000 in
theorem qM_Ar_47 : (Jvm.Cond.methodLink "java/util/Arrays" (47 : Nat) ({ cls := "java/lang/StringBuilder", name := "<init>", desc := "()V" } : Jvm.MethodName)) ∈ lw_tbl := List.mem_of_getElem? (i := 1103) (by decide +kernel)
set_option maxRecDepth 20000 in
theorem qM_Ar_54 : (Jvm.Cond.methodLink "java/util/Arrays" (54 : Nat) ({ cls := "java/lang/StringBuilder", name := "append", desc := "(I)Ljava/lang/StringBuilder;" } : Jvm.MethodName)) ∈ lw_tbl := List.mem_of_getElem? (i := 1104) (by decide +kernel)
set_option maxRecDepth 20000 in
theorem qI_SB_append_2 : (Jvm.Cond.instanceMethod ({ cls := "java/lang/StringBuilder", name := "append", desc := "(I)Ljava/lang/StringBuilder;" } : Jvm.MethodName)) ∈ lw_tbl := List.mem_of_getElem? (i := 1105) (by decide +kernel)
set_option maxRecDepth 20000 in
theorem qV_SB_SB_append_2 : (Jvm.Cond.selects "java/lang/StringBuilder" ({ cls := "java/lang/StringBuilder", name := "append", desc := "(I)Ljava/lang/StringBuilder;" } : Jvm.MethodName) ({ cls := "java/lang/StringBuilder", name := "append", desc := "(I)Ljava/lang/StringBuilder;" } : Jvm.MethodName)) ∈ lw_tbl := List.mem_of_getElem? (i := 1106) (by decide +kernel)
set_option maxRecDepth 20000 in
theorem qC_SB_append_2 : (Jvm.Cond.code ({ cls := "java/lang/StringBuilder", name := "append", desc := "(I)Ljava/lang/StringBuilder;" } : Jvm.MethodName) prog_28_method_15_code (2 : Nat) (Option.some (Jvm.ClassFile.FieldType.object "java/lang/StringBuilder"))) ∈ lw_tbl := List.mem_of_getElem? (i := 1107) rfl
set_option maxRecDepth 20000 in
theorem qM_SB_53 : (Jvm.Cond.methodLink "java/lang/StringBuilder" (53 : Nat) ({ cls := "java/lang/AbstractStringBuilder", name := "append", desc := "(I)Ljava/lang/AbstractStringBuilder;" } : Jvm.MethodName)) ∈ lw_tbl := List.mem_of_getElem? (i := 1108) (by decide +kernel)
set_option maxRecDepth 20000 in
theorem qI_AB_append_2 : (Jvm.Cond.instanceMethod ({ cls := "java/lang/AbstractStringBuilder", name := "append", desc := "(I)Ljava/lang/AbstractStringBuilder;" } : Jvm.MethodName)) ∈ lw_tbl := List.mem_of_getElem? (i := 1109) (by decide +kernel)
set_option maxRecDepth 20000 in
theorem qC_AB_append_2 : (Jvm.Cond.code ({ cls := "java/lang/AbstractStringBuilder", name := "append", desc := "(I)Ljava/lang/AbstractStringBuilder;" } : Jvm.MethodName) prog_13_method_32_code (4 : Nat) (Option.some (Jvm.ClassFile.FieldType.object "java/lang/AbstractStringBuilder"))) ∈ lw_tbl := List.mem_of_getElem? (i := 1110) rfl
set_option maxRecDepth 20000 in
theorem qM_AB_245 : (Jvm.Cond.methodLink "java/lang/AbstractStringBuilder" (245 : Nat) ({ cls := "java/lang/Integer", name := "stringSize", desc := "(I)I" } : Jvm.MethodName)) ∈ lw_tbl := List.mem_of_getElem? (i := 1111) (by decide +kernel)
set_option maxRecDepth 20000 in
theorem qS_In_stringSize : (Jvm.Cond.static ({ cls := "java/lang/Integer", name := "stringSize", desc := "(I)I" } : Jvm.MethodName)) ∈ lw_tbl := List.mem_of_getElem? (i := 1112) (by decide +kernel)
set_option maxRecDepth 20000 in
theorem qC_In_stringSize : (Jvm.Cond.code ({ cls := "java/lang/Integer", name := "stringSize", desc := "(I)I" } : Jvm.MethodName) prog_22_method_13_code (4 : Nat) (Option.some Jvm.ClassFile.FieldType.int)) ∈ lw_tbl := List.mem_of_getElem? (i := 1113) rfl
set_option maxRecDepth 20000 in
theorem qM_AB_248 : (Jvm.Cond.methodLink "java/lang/AbstractStringBuilder" (248 : Nat) ({ cls := "java/lang/Integer", name := "getChars", desc := "(II[B)I" } : Jvm.MethodName)) ∈ lw_tbl := List.mem_of_getElem? (i := 1114) (by decide +kernel)
set_option maxRecDepth 20000 in
theorem qS_In_getChars : (Jvm.Cond.static ({ cls := "java/lang/Integer", name := "getChars", desc := "(II[B)I" } : Jvm.MethodName)) ∈ lw_tbl := List.mem_of_getElem? (i := 1115) (by decide +kernel)
set_option maxRecDepth 20000 in
theorem qC_In_getChars : (Jvm.Cond.code ({ cls := "java/lang/Integer", name := "getChars", desc := "(II[B)I" } : Jvm.MethodName) prog_22_method_12_code (7 : Nat) (Option.some Jvm.ClassFile.FieldType.int)) ∈ lw_tbl := List.mem_of_getElem? (i := 1116) rfl
set_option maxRecDepth 20000 in
theorem qF_In_83 : (Jvm.Cond.fieldLink "java/lang/Integer" (83 : Nat) "java/lang/Integer" "DigitOnes" "[B") ∈ lw_tbl := List.mem_of_getElem? (i := 1117) (by decide +kernel)
set_option maxRecDepth 20000 in
theorem qLs_In_DigitOnes_B : (Jvm.Cond.laysStatic "java/lang/Integer" "DigitOnes" "[B") ∈ lw_tbl := List.mem_of_getElem? (i := 1118) (by decide +kernel)
set_option maxRecDepth 20000 in
theorem qF_In_87 : (Jvm.Cond.fieldLink "java/lang/Integer" (87 : Nat) "java/lang/Integer" "DigitTens" "[B") ∈ lw_tbl := List.mem_of_getElem? (i := 1119) (by decide +kernel)
set_option maxRecDepth 20000 in
theorem qLs_In_DigitTens_B : (Jvm.Cond.laysStatic "java/lang/Integer" "DigitTens" "[B") ∈ lw_tbl := List.mem_of_getElem? (i := 1120) (by decide +kernel)
set_option maxRecDepth 20000 in
theorem qM_AB_251 : (Jvm.Cond.methodLink "java/lang/AbstractStringBuilder" (251 : Nat) ({ cls := "java/lang/StringUTF16", name := "getChars", desc := "(III[B)I" } : Jvm.MethodName)) ∈ lw_tbl := List.mem_of_getElem? (i := 1121) (by decide +kernel)
set_option maxRecDepth 20000 in
theorem qS_SU_getChars_1 : (Jvm.Cond.static ({ cls := "java/lang/StringUTF16", name := "getChars", desc := "(III[B)I" } : Jvm.MethodName)) ∈ lw_tbl := List.mem_of_getElem? (i := 1122) (by decide +kernel)
set_option maxRecDepth 20000 in
theorem qC_SU_getChars_1 : (Jvm.Cond.code ({ cls := "java/lang/StringUTF16", name := "getChars", desc := "(III[B)I" } : Jvm.MethodName) prog_30_method_77_code (5 : Nat) (Option.some Jvm.ClassFile.FieldType.int)) ∈ lw_tbl := List.mem_of_getElem? (i := 1123) rfl
set_option maxRecDepth 20000 in
theorem qM_SU_96 : (Jvm.Cond.methodLink "java/lang/StringUTF16" (96 : Nat) ({ cls := "java/lang/StringUTF16", name := "checkBoundsBeginEnd", desc := "(II[B)V" } : Jvm.MethodName)) ∈ lw_tbl := List.mem_of_getElem? (i := 1124) (by decide +kernel)
set_option maxRecDepth 20000 in
theorem qS_SU_checkBoundsBeginEnd : (Jvm.Cond.static ({ cls := "java/lang/StringUTF16", name := "checkBoundsBeginEnd", desc := "(II[B)V" } : Jvm.MethodName)) ∈ lw_tbl := List.mem_of_getElem? (i := 1125) (by decide +kernel)
set_option maxRecDepth 20000 in
theorem qC_SU_checkBoundsBeginEnd : (Jvm.Cond.code ({ cls := "java/lang/StringUTF16", name := "checkBoundsBeginEnd", desc := "(II[B)V" } : Jvm.MethodName) prog_30_method_93_code (3 : Nat) (Option.none : Option Jvm.ClassFile.FieldType)) ∈ lw_tbl := List.mem_of_getElem? (i := 1126) rfl
set_option maxRecDepth 20000 in
theorem qM_SU_241 : (Jvm.Cond.methodLink "java/lang/StringUTF16" (241 : Nat) ({ cls := "java/lang/String", name := "checkBoundsBeginEnd", desc := "(III)V" } : Jvm.MethodName)) ∈ lw_tbl := List.mem_of_getElem? (i := 1127) (by decide +kernel)
set_option maxRecDepth 20000 in
theorem qS_St_checkBoundsBeginEnd : (Jvm.Cond.static ({ cls := "java/lang/String", name := "checkBoundsBeginEnd", desc := "(III)V" } : Jvm.MethodName)) ∈ lw_tbl := List.mem_of_getElem? (i := 1128) (by decide +kernel)
set_option maxRecDepth 20000 in
theorem qC_St_checkBoundsBeginEnd : (Jvm.Cond.code ({ cls := "java/lang/String", name := "checkBoundsBeginEnd", desc := "(III)V" } : Jvm.MethodName) prog_27_method_158_code (3 : Nat) (Option.none : Option Jvm.ClassFile.FieldType)) ∈ lw_tbl := List.mem_of_getElem? (i := 1129) rfl
set_option maxRecDepth 20000 in
theorem qM_St_1062 : (Jvm.Cond.methodLink "java/lang/String" (1062 : Nat) ({ cls := "jdk/internal/util/Preconditions", name := "checkFromToIndex", desc := "(IIILjava/util/function/BiFunction;)I" } : Jvm.MethodName)) ∈ lw_tbl := List.mem_of_getElem? (i := 1130) (by decide +kernel)
set_option maxRecDepth 20000 in
theorem qS_Pr_checkFromToIndex : (Jvm.Cond.static ({ cls := "jdk/internal/util/Preconditions", name := "checkFromToIndex", desc := "(IIILjava/util/function/BiFunction;)I" } : Jvm.MethodName)) ∈ lw_tbl := List.mem_of_getElem? (i := 1131) (by decide +kernel)
set_option maxRecDepth 20000 in
theorem qC_Pr_checkFromToIndex : (Jvm.Cond.code ({ cls := "jdk/internal/util/Preconditions", name := "checkFromToIndex", desc := "(IIILjava/util/function/BiFunction;)I" } : Jvm.MethodName) prog_45_method_12_code (4 : Nat) (Option.some Jvm.ClassFile.FieldType.int)) ∈ lw_tbl := List.mem_of_getElem? (i := 1132) rfl
set_option maxRecDepth 20000 in
theorem qM_SU_393 : (Jvm.Cond.methodLink "java/lang/StringUTF16" (393 : Nat) ({ cls := "java/lang/StringUTF16", name := "getChars", desc := "(II[B)I" } : Jvm.MethodName)) ∈ lw_tbl := List.mem_of_getElem? (i := 1133) (by decide +kernel)
set_option maxRecDepth 20000 in
theorem qS_SU_getChars_2 : (Jvm.Cond.static ({ cls := "java/lang/StringUTF16", name := "getChars", desc := "(II[B)I" } : Jvm.MethodName)) ∈ lw_tbl := List.mem_of_getElem? (i := 1134) (by decide +kernel)
set_option maxRecDepth 20000 in
theorem qC_SU_getChars_2 : (Jvm.Cond.code ({ cls := "java/lang/StringUTF16", name := "getChars", desc := "(II[B)I" } : Jvm.MethodName) prog_30_method_89_code (7 : Nat) (Option.some Jvm.ClassFile.FieldType.int)) ∈ lw_tbl := List.mem_of_getElem? (i := 1135) rfl
set_option maxRecDepth 20000 in
theorem qF_SU_403 : (Jvm.Cond.fieldLink "java/lang/StringUTF16" (403 : Nat) "java/lang/Integer" "DigitOnes" "[B") ∈ lw_tbl := List.mem_of_getElem? (i := 1136) (by decide +kernel)
set_option maxRecDepth 20000 in
theorem qF_SU_407 : (Jvm.Cond.fieldLink "java/lang/StringUTF16" (407 : Nat) "java/lang/Integer" "DigitTens" "[B") ∈ lw_tbl := List.mem_of_getElem? (i := 1137) (by decide +kernel)
set_option maxRecDepth 20000 in
theorem qR_Ar_337 : (Jvm.Cond.stringRef "java/util/Arrays" (337 : Nat) " > ") ∈ lw_tbl := List.mem_of_getElem? (i := 1138) (by decide +kernel)
set_option maxRecDepth 20000 in
theorem qM_Ar_50 : (Jvm.Cond.methodLink "java/util/Arrays" (50 : Nat) ({ cls := "java/lang/StringBuilder", name := "append", desc := "(Ljava/lang/String;)Ljava/lang/StringBuilder;" } : Jvm.MethodName)) ∈ lw_tbl := List.mem_of_getElem? (i := 1139) (by decide +kernel)
set_option maxRecDepth 20000 in
theorem qI_SB_append_3 : (Jvm.Cond.instanceMethod ({ cls := "java/lang/StringBuilder", name := "append", desc := "(Ljava/lang/String;)Ljava/lang/StringBuilder;" } : Jvm.MethodName)) ∈ lw_tbl := List.mem_of_getElem? (i := 1140) (by decide +kernel)
set_option maxRecDepth 20000 in
theorem qV_SB_SB_append_3 : (Jvm.Cond.selects "java/lang/StringBuilder" ({ cls := "java/lang/StringBuilder", name := "append", desc := "(Ljava/lang/String;)Ljava/lang/StringBuilder;" } : Jvm.MethodName) ({ cls := "java/lang/StringBuilder", name := "append", desc := "(Ljava/lang/String;)Ljava/lang/StringBuilder;" } : Jvm.MethodName)) ∈ lw_tbl := List.mem_of_getElem? (i := 1141) (by decide +kernel)
set_option maxRecDepth 20000 in
theorem qC_SB_append_3 : (Jvm.Cond.code ({ cls := "java/lang/StringBuilder", name := "append", desc := "(Ljava/lang/String;)Ljava/lang/StringBuilder;" } : Jvm.MethodName) prog_28_method_7_code (2 : Nat) (Option.some (Jvm.ClassFile.FieldType.object "java/lang/StringBuilder"))) ∈ lw_tbl := List.mem_of_getElem? (i := 1142) rfl
set_option maxRecDepth 20000 in
theorem qM_SB_29 : (Jvm.Cond.methodLink "java/lang/StringBuilder" (29 : Nat) ({ cls := "java/lang/AbstractStringBuilder", name := "append", desc := "(Ljava/lang/String;)Ljava/lang/AbstractStringBuilder;" } : Jvm.MethodName)) ∈ lw_tbl := List.mem_of_getElem? (i := 1143) (by decide +kernel)
set_option maxRecDepth 20000 in
theorem qI_AB_append_3 : (Jvm.Cond.instanceMethod ({ cls := "java/lang/AbstractStringBuilder", name := "append", desc := "(Ljava/lang/String;)Ljava/lang/AbstractStringBuilder;" } : Jvm.MethodName)) ∈ lw_tbl := List.mem_of_getElem? (i := 1144) (by decide +kernel)
set_option maxRecDepth 20000 in
theorem qC_AB_append_3 : (Jvm.Cond.code ({ cls := "java/lang/AbstractStringBuilder", name := "append", desc := "(Ljava/lang/String;)Ljava/lang/AbstractStringBuilder;" } : Jvm.MethodName) prog_13_method_22_code (3 : Nat) (Option.some (Jvm.ClassFile.FieldType.object "java/lang/AbstractStringBuilder"))) ∈ lw_tbl := List.mem_of_getElem? (i := 1145) rfl
set_option maxRecDepth 20000 in
theorem qM_AB_204 : (Jvm.Cond.methodLink "java/lang/AbstractStringBuilder" (204 : Nat) ({ cls := "java/lang/AbstractStringBuilder", name := "appendNull", desc := "()Ljava/lang/AbstractStringBuilder;" } : Jvm.MethodName)) ∈ lw_tbl := List.mem_of_getElem? (i := 1146) (by decide +kernel)
set_option maxRecDepth 20000 in
theorem qI_AB_appendNull : (Jvm.Cond.instanceMethod ({ cls := "java/lang/AbstractStringBuilder", name := "appendNull", desc := "()Ljava/lang/AbstractStringBuilder;" } : Jvm.MethodName)) ∈ lw_tbl := List.mem_of_getElem? (i := 1148) (by decide +kernel)
set_option maxRecDepth 20000 in
theorem qC_AB_appendNull : (Jvm.Cond.code ({ cls := "java/lang/AbstractStringBuilder", name := "appendNull", desc := "()Ljava/lang/AbstractStringBuilder;" } : Jvm.MethodName) prog_13_method_26_code (3 : Nat) (Option.some (Jvm.ClassFile.FieldType.object "java/lang/AbstractStringBuilder"))) ∈ lw_tbl := List.mem_of_getElem? (i := 1149) rfl
set_option maxRecDepth 20000 in
theorem qM_AB_226 : (Jvm.Cond.methodLink "java/lang/AbstractStringBuilder" (226 : Nat) ({ cls := "java/lang/StringUTF16", name := "putCharsAt", desc := "([BICCCC)I" } : Jvm.MethodName)) ∈ lw_tbl := List.mem_of_getElem? (i := 1150) (by decide +kernel)
set_option maxRecDepth 20000 in
theorem qS_SU_putCharsAt : (Jvm.Cond.static ({ cls := "java/lang/StringUTF16", name := "putCharsAt", desc := "([BICCCC)I" } : Jvm.MethodName)) ∈ lw_tbl := List.mem_of_getElem? (i := 1151) (by decide +kernel)
set_option maxRecDepth 20000 in
theorem qC_SU_putCharsAt : (Jvm.Cond.code ({ cls := "java/lang/StringUTF16", name := "putCharsAt", desc := "([BICCCC)I" } : Jvm.MethodName) prog_30_method_81_code (7 : Nat) (Option.some Jvm.ClassFile.FieldType.int)) ∈ lw_tbl := List.mem_of_getElem? (i := 1152) rfl
set_option maxRecDepth 20000 in
theorem qM_AB_32 : (Jvm.Cond.methodLink "java/lang/AbstractStringBuilder" (32 : Nat) ({ cls := "java/lang/String", name := "length", desc := "()I" } : Jvm.MethodName)) ∈ lw_tbl := List.mem_of_getElem? (i := 1153) (by decide +kernel)
set_option maxRecDepth 20000 in
theorem qI_St_length : (Jvm.Cond.instanceMethod ({ cls := "java/lang/String", name := "length", desc := "()I" } : Jvm.MethodName)) ∈ lw_tbl := List.mem_of_getElem? (i := 1154) (by decide +kernel)
set_option maxRecDepth 20000 in
theorem qV_St_St_length : (Jvm.Cond.selects "java/lang/String" ({ cls := "java/lang/String", name := "length", desc := "()I" } : Jvm.MethodName) ({ cls := "java/lang/String", name := "length", desc := "()I" } : Jvm.MethodName)) ∈ lw_tbl := List.mem_of_getElem? (i := 1155) (by decide +kernel)
set_option maxRecDepth 20000 in
theorem qC_St_length : (Jvm.Cond.code ({ cls := "java/lang/String", name := "length", desc := "()I" } : Jvm.MethodName) prog_27_method_54_code (1 : Nat) (Option.some Jvm.ClassFile.FieldType.int)) ∈ lw_tbl := List.mem_of_getElem? (i := 1156) rfl
set_option maxRecDepth 20000 in
theorem qM_St_335 : (Jvm.Cond.methodLink "java/lang/String" (335 : Nat) ({ cls := "java/lang/String", name := "coder", desc := "()B" } : Jvm.MethodName)) ∈ lw_tbl := List.mem_of_getElem? (i := 1157) (by decide +kernel)
set_option maxRecDepth 20000 in
theorem qI_St_coder : (Jvm.Cond.instanceMethod ({ cls := "java/lang/String", name := "coder", desc := "()B" } : Jvm.MethodName)) ∈ lw_tbl := List.mem_of_getElem? (i := 1158) (by decide +kernel)
set_option maxRecDepth 20000 in
theorem qV_St_St_coder : (Jvm.Cond.selects "java/lang/String" ({ cls := "java/lang/String", name := "coder", desc := "()B" } : Jvm.MethodName) ({ cls := "java/lang/String", name := "coder", desc := "()B" } : Jvm.MethodName)) ∈ lw_tbl := List.mem_of_getElem? (i := 1159) (by decide +kernel)
set_option maxRecDepth 20000 in
theorem qC_St_coder : (Jvm.Cond.code ({ cls := "java/lang/String", name := "coder", desc := "()B" } : Jvm.MethodName) prog_27_method_152_code (1 : Nat) (Option.some Jvm.ClassFile.FieldType.byte)) ∈ lw_tbl := List.mem_of_getElem? (i := 1160) rfl
set_option maxRecDepth 20000 in
theorem qF_St_38 : (Jvm.Cond.fieldLink "java/lang/String" (38 : Nat) "java/lang/String" "COMPACT_STRINGS" "Z") ∈ lw_tbl := List.mem_of_getElem? (i := 1161) (by decide +kernel)
set_option maxRecDepth 20000 in
theorem qM_AB_208 : (Jvm.Cond.methodLink "java/lang/AbstractStringBuilder" (208 : Nat) ({ cls := "java/lang/AbstractStringBuilder", name := "putStringAt", desc := "(ILjava/lang/String;)V" } : Jvm.MethodName)) ∈ lw_tbl := List.mem_of_getElem? (i := 1162) (by decide +kernel)
set_option maxRecDepth 20000 in
theorem qI_AB_putStringAt : (Jvm.Cond.instanceMethod ({ cls := "java/lang/AbstractStringBuilder", name := "putStringAt", desc := "(ILjava/lang/String;)V" } : Jvm.MethodName)) ∈ lw_tbl := List.mem_of_getElem? (i := 1164) (by decide +kernel)
set_option maxRecDepth 20000 in
theorem qC_AB_putStringAt : (Jvm.Cond.code ({ cls := "java/lang/AbstractStringBuilder", name := "putStringAt", desc := "(ILjava/lang/String;)V" } : Jvm.MethodName) prog_13_method_73_code (3 : Nat) (Option.none : Option Jvm.ClassFile.FieldType)) ∈ lw_tbl := List.mem_of_getElem? (i := 1165) rfl
set_option maxRecDepth 20000 in
theorem qM_AB_397 : (Jvm.Cond.methodLink "java/lang/AbstractStringBuilder" (397 : Nat) ({ cls := "java/lang/AbstractStringBuilder", name := "inflateIfNeededFor", desc := "(Ljava/lang/String;)V" } : Jvm.MethodName)) ∈ lw_tbl := List.mem_of_getElem? (i := 1166) (by decide +kernel)
set_option maxRecDepth 20000 in
theorem qI_AB_inflateIfNeededFor : (Jvm.Cond.instanceMethod ({ cls := "java/lang/AbstractStringBuilder", name := "inflateIfNeededFor", desc := "(Ljava/lang/String;)V" } : Jvm.MethodName)) ∈ lw_tbl := List.mem_of_getElem? (i := 1168) (by decide +kernel)
set_option maxRecDepth 20000 in
theorem qC_AB_inflateIfNeededFor : (Jvm.Cond.code ({ cls := "java/lang/AbstractStringBuilder", name := "inflateIfNeededFor", desc := "(Ljava/lang/String;)V" } : Jvm.MethodName) prog_13_method_71_code (2 : Nat) (Option.none : Option Jvm.ClassFile.FieldType)) ∈ lw_tbl := List.mem_of_getElem? (i := 1169) rfl
set_option maxRecDepth 20000 in
theorem qM_AB_40 : (Jvm.Cond.methodLink "java/lang/AbstractStringBuilder" (40 : Nat) ({ cls := "java/lang/String", name := "coder", desc := "()B" } : Jvm.MethodName)) ∈ lw_tbl := List.mem_of_getElem? (i := 1170) (by decide +kernel)
set_option maxRecDepth 20000 in
theorem qM_AB_399 : (Jvm.Cond.methodLink "java/lang/AbstractStringBuilder" (399 : Nat) ({ cls := "java/lang/String", name := "getBytes", desc := "([BIB)V" } : Jvm.MethodName)) ∈ lw_tbl := List.mem_of_getElem? (i := 1171) (by decide +kernel)
set_option maxRecDepth 20000 in
theorem qI_St_getBytes : (Jvm.Cond.instanceMethod ({ cls := "java/lang/String", name := "getBytes", desc := "([BIB)V" } : Jvm.MethodName)) ∈ lw_tbl := List.mem_of_getElem? (i := 1172) (by decide +kernel)
set_option maxRecDepth 20000 in
theorem qV_St_St_getBytes : (Jvm.Cond.selects "java/lang/String" ({ cls := "java/lang/String", name := "getBytes", desc := "([BIB)V" } : Jvm.MethodName) ({ cls := "java/lang/String", name := "getBytes", desc := "([BIB)V" } : Jvm.MethodName)) ∈ lw_tbl := List.mem_of_getElem? (i := 1173) (by decide +kernel)
set_option maxRecDepth 20000 in
theorem qC_St_getBytes : (Jvm.Cond.code ({ cls := "java/lang/String", name := "getBytes", desc := "([BIB)V" } : Jvm.MethodName) prog_27_method_147_code (4 : Nat) (Option.none : Option Jvm.ClassFile.FieldType)) ∈ lw_tbl := List.mem_of_getElem? (i := 1174) rfl
set_option maxRecDepth 20000 in
theorem qM_St_212 : (Jvm.Cond.methodLink "java/lang/String" (212 : Nat) ({ cls := "java/lang/System", name := "arraycopy", desc := "(Ljava/lang/Object;ILjava/lang/Object;II)V" } : Jvm.MethodName)) ∈ lw_tbl := List.mem_of_getElem? (i := 1175) (by decide +kernel)
set_option maxRecDepth 20000 in
theorem qM_St_106 : (Jvm.Cond.methodLink "java/lang/String" (106 : Nat) ({ cls := "java/lang/StringLatin1", name := "inflate", desc := "([BI[BII)V" } : Jvm.MethodName)) ∈ lw_tbl := List.mem_of_getElem? (i := 1176) (by decide +kernel)
set_option maxRecDepth 20000 in
theorem qM_Ar_61 : (Jvm.Cond.methodLink "java/util/Arrays" (61 : Nat) ({ cls := "java/lang/StringBuilder", name := "toString", desc := "()Ljava/lang/String;" } : Jvm.MethodName)) ∈ lw_tbl := List.mem_of_getElem? (i := 1177) (by decide +kernel)
set_option maxRecDepth 20000 in
theorem qM_Ar_65 : (Jvm.Cond.methodLink "java/util/Arrays" (65 : Nat) ({ cls := "java/lang/IllegalArgumentException", name := "<init>", desc := "(Ljava/lang/String;)V" } : Jvm.MethodName)) ∈ lw_tbl := List.mem_of_getElem? (i := 1178) (by decide +kernel)
set_option maxRecDepth 20000 in
theorem qM_St_1051 : (Jvm.Cond.methodLink "java/lang/String" (1051 : Nat) ({ cls := "java/lang/StringUTF16", name := "compress", desc := "([BII)[B" } : Jvm.MethodName)) ∈ lw_tbl := List.mem_of_getElem? (i := 1179) (by decide +kernel)
set_option maxRecDepth 20000 in
theorem qS_SU_compress_1 : (Jvm.Cond.static ({ cls := "java/lang/StringUTF16", name := "compress", desc := "([BII)[B" } : Jvm.MethodName)) ∈ lw_tbl := List.mem_of_getElem? (i := 1180) (by decide +kernel)
set_option maxRecDepth 20000 in
theorem qC_SU_compress_1 : (Jvm.Cond.code ({ cls := "java/lang/StringUTF16", name := "compress", desc := "([BII)[B" } : Jvm.MethodName) prog_30_method_17_code (6 : Nat) (Option.some (Jvm.ClassFile.FieldType.array Jvm.ClassFile.FieldType.byte))) ∈ lw_tbl := List.mem_of_getElem? (i := 1181) rfl
set_option maxRecDepth 20000 in
theorem qM_SU_123 : (Jvm.Cond.methodLink "java/lang/StringUTF16" (123 : Nat) ({ cls := "java/lang/StringUTF16", name := "compress", desc := "([BI[BII)I" } : Jvm.MethodName)) ∈ lw_tbl := List.mem_of_getElem? (i := 1182) (by decide +kernel)
set_option maxRecDepth 20000 in
theorem qS_SU_compress_2 : (Jvm.Cond.static ({ cls := "java/lang/StringUTF16", name := "compress", desc := "([BI[BII)I" } : Jvm.MethodName)) ∈ lw_tbl := List.mem_of_getElem? (i := 1183) (by decide +kernel)
set_option maxRecDepth 20000 in
theorem qC_SU_compress_2 : (Jvm.Cond.code ({ cls := "java/lang/StringUTF16", name := "compress", desc := "([BI[BII)I" } : Jvm.MethodName) prog_30_method_22_code (7 : Nat) (Option.some Jvm.ClassFile.FieldType.int)) ∈ lw_tbl := List.mem_of_getElem? (i := 1184) rfl
set_option maxRecDepth 20000 in
theorem qM_SU_71 : (Jvm.Cond.methodLink "java/lang/StringUTF16" (71 : Nat) ({ cls := "java/lang/StringUTF16", name := "getChar", desc := "([BI)C" } : Jvm.MethodName)) ∈ lw_tbl := List.mem_of_getElem? (i := 1185) (by decide +kernel)
set_option maxRecDepth 20000 in
theorem qS_SU_getChar : (Jvm.Cond.static ({ cls := "java/lang/StringUTF16", name := "getChar", desc := "([BI)C" } : Jvm.MethodName)) ∈ lw_tbl := List.mem_of_getElem? (i := 1186) (by decide +kernel)
set_option maxRecDepth 20000 in
theorem qC_SU_getChar : (Jvm.Cond.code ({ cls := "java/lang/StringUTF16", name := "getChar", desc := "([BI)C" } : Jvm.MethodName) prog_30_method_5_code (2 : Nat) (Option.some Jvm.ClassFile.FieldType.char)) ∈ lw_tbl := List.mem_of_getElem? (i := 1187) rfl
set_option maxRecDepth 20000 in
theorem qM_SU_126 : (Jvm.Cond.methodLink "java/lang/StringUTF16" (126 : Nat) ({ cls := "java/util/Arrays", name := "copyOfRange", desc := "([BII)[B" } : Jvm.MethodName)) ∈ lw_tbl := List.mem_of_getElem? (i := 1188) (by decide +kernel)
set_option maxRecDepth 20000 in
theorem qM_St_47 : (Jvm.Cond.methodLink "java/lang/String" (47 : Nat) ({ cls := "java/lang/StringUTF16", name := "coderFromArrayLen", desc := "([BI)B" } : Jvm.MethodName)) ∈ lw_tbl := List.mem_of_getElem? (i := 1189) (by decide +kernel)
set_option maxRecDepth 20000 in
theorem qS_SU_coderFromArrayLen : (Jvm.Cond.static ({ cls := "java/lang/StringUTF16", name := "coderFromArrayLen", desc := "([BI)B" } : Jvm.MethodName)) ∈ lw_tbl := List.mem_of_getElem? (i := 1190) (by decide +kernel)
set_option maxRecDepth 20000 in
theorem qC_SU_coderFromArrayLen : (Jvm.Cond.code ({ cls := "java/lang/StringUTF16", name := "coderFromArrayLen", desc := "([BI)B" } : Jvm.MethodName) prog_30_method_15_code (2 : Nat) (Option.some Jvm.ClassFile.FieldType.byte)) ∈ lw_tbl := List.mem_of_getElem? (i := 1191) rfl
set_option maxRecDepth 20000 in
theorem qF_St_9 : (Jvm.Cond.fieldLink "java/lang/String" (9 : Nat) "java/lang/String" "value" "[B") ∈ lw_tbl := List.mem_of_getElem? (i := 1192) (by decide +kernel)
set_option maxRecDepth 20000 in
theorem qF_St_15 : (Jvm.Cond.fieldLink "java/lang/String" (15 : Nat) "java/lang/String" "coder" "B") ∈ lw_tbl := List.mem_of_getElem? (i := 1193) (by decide +kernel)
set_option maxRecDepth 20000 in
theorem qSc_St_Oj : (Jvm.Cond.superclass "java/lang/String" "java/lang/Object") ∈ lw_tbl := List.mem_of_getElem? (i := 1202) (by decide +kernel)
set_option maxRecDepth 20000 in
theorem qM_La_166 : (Jvm.Cond.methodLink "ThreeboxesLaw" (166 : Nat) ({ cls := "ThreeboxesLaw", name := "would", desc := "(LThreeboxes;IIILThreeboxesLaw$Out;)I" } : Jvm.MethodName)) ∈ lw_tbl := List.mem_of_getElem? (i := 1203) (by decide +kernel)
set_option maxRecDepth 20000 in
theorem qS_La_would : (Jvm.Cond.static ({ cls := "ThreeboxesLaw", name := "would", desc := "(LThreeboxes;IIILThreeboxesLaw$Out;)I" } : Jvm.MethodName)) ∈ lw_tbl := List.mem_of_getElem? (i := 1204) (by decide +kernel)
set_option maxRecDepth 20000 in
theorem qCw_La_would : (Jvm.Cond.codeWith ({ cls := "ThreeboxesLaw", name := "would", desc := "(LThreeboxes;IIILThreeboxesLaw$Out;)I" } : Jvm.MethodName) method_18_code (6 : Nat) (Option.some Jvm.ClassFile.FieldType.int) [((0 : Nat), (13 : Nat), (16 : Nat), (27 : Nat)), ((0 : Nat), (13 : Nat), (20 : Nat), (19 : Nat))]) ∈ lw_tbl := List.mem_of_getElem? (i := 1205) rfl
set_option maxRecDepth 20000 in
theorem qM_La_79 : (Jvm.Cond.methodLink "ThreeboxesLaw" (79 : Nat) ({ cls := "Threeboxes", name := "would", desc := "(III)I" } : Jvm.MethodName)) ∈ lw_tbl := List.mem_of_getElem? (i := 1206) (by decide +kernel)
set_option maxRecDepth 20000 in
theorem qI_Tb_would : (Jvm.Cond.instanceMethod ({ cls := "Threeboxes", name := "would", desc := "(III)I" } : Jvm.MethodName)) ∈ lw_tbl := List.mem_of_getElem? (i := 1207) (by decide +kernel)
set_option maxRecDepth 20000 in
theorem qV_Tb_Tb_would : (Jvm.Cond.selects "Threeboxes" ({ cls := "Threeboxes", name := "would", desc := "(III)I" } : Jvm.MethodName) ({ cls := "Threeboxes", name := "would", desc := "(III)I" } : Jvm.MethodName)) ∈ lw_tbl := List.mem_of_getElem? (i := 1208) (by decide +kernel)
set_option maxRecDepth 20000 in
theorem qC_Tb_would : (Jvm.Cond.code ({ cls := "Threeboxes", name := "would", desc := "(III)I" } : Jvm.MethodName) prog_1_method_19_code (5 : Nat) (Option.some Jvm.ClassFile.FieldType.int)) ∈ lw_tbl := List.mem_of_getElem? (i := 1209) rfl
set_option maxRecDepth 20000 in
theorem qR_Tb_281 : (Jvm.Cond.stringRef "Threeboxes" (281 : Nat) "what is 0 to 5") ∈ lw_tbl := List.mem_of_getElem? (i := 1210) (by decide +kernel)
set_option maxRecDepth 20000 in
theorem qM_La_169 : (Jvm.Cond.methodLink "ThreeboxesLaw" (169 : Nat) ({ cls := "ThreeboxesLaw", name := "may", desc := "(LThreeboxes;IIILThreeboxesLaw$Out;)I" } : Jvm.MethodName)) ∈ lw_tbl := List.mem_of_getElem? (i := 1211) (by decide +kernel)
set_option maxRecDepth 20000 in
theorem qS_La_may : (Jvm.Cond.static ({ cls := "ThreeboxesLaw", name := "may", desc := "(LThreeboxes;IIILThreeboxesLaw$Out;)I" } : Jvm.MethodName)) ∈ lw_tbl := List.mem_of_getElem? (i := 1212) (by decide +kernel)
set_option maxRecDepth 20000 in
theorem qCw_La_may : (Jvm.Cond.codeWith ({ cls := "ThreeboxesLaw", name := "may", desc := "(LThreeboxes;IIILThreeboxesLaw$Out;)I" } : Jvm.MethodName) method_19_code (6 : Nat) (Option.some Jvm.ClassFile.FieldType.int) [((0 : Nat), (20 : Nat), (23 : Nat), (27 : Nat)), ((0 : Nat), (20 : Nat), (27 : Nat), (19 : Nat))]) ∈ lw_tbl := List.mem_of_getElem? (i := 1213) rfl
set_option maxRecDepth 20000 in
theorem qM_La_82 : (Jvm.Cond.methodLink "ThreeboxesLaw" (82 : Nat) ({ cls := "Threeboxes", name := "may", desc := "(III)Z" } : Jvm.MethodName)) ∈ lw_tbl := List.mem_of_getElem? (i := 1214) (by decide +kernel)
set_option maxRecDepth 20000 in
theorem qI_Tb_may : (Jvm.Cond.instanceMethod ({ cls := "Threeboxes", name := "may", desc := "(III)Z" } : Jvm.MethodName)) ∈ lw_tbl := List.mem_of_getElem? (i := 1215) (by decide +kernel)
set_option maxRecDepth 20000 in
theorem qV_Tb_Tb_may : (Jvm.Cond.selects "Threeboxes" ({ cls := "Threeboxes", name := "may", desc := "(III)Z" } : Jvm.MethodName) ({ cls := "Threeboxes", name := "may", desc := "(III)Z" } : Jvm.MethodName)) ∈ lw_tbl := List.mem_of_getElem? (i := 1216) (by decide +kernel)
set_option maxRecDepth 20000 in
theorem qC_Tb_may : (Jvm.Cond.code ({ cls := "Threeboxes", name := "may", desc := "(III)Z" } : Jvm.MethodName) prog_1_method_20_code (5 : Nat) (Option.some Jvm.ClassFile.FieldType.boolean)) ∈ lw_tbl := List.mem_of_getElem? (i := 1217) rfl
set_option maxRecDepth 20000 in
theorem qR_Tb_286 : (Jvm.Cond.stringRef "Threeboxes" (286 : Nat) "a value is 0 to 96") ∈ lw_tbl := List.mem_of_getElem? (i := 1218) (by decide +kernel)
set_option maxRecDepth 20000 in
theorem qM_La_172 : (Jvm.Cond.methodLink "ThreeboxesLaw" (172 : Nat) ({ cls := "ThreeboxesLaw", name := "lost", desc := "(LThreeboxes;ILThreeboxesLaw$Out;)I" } : Jvm.MethodName)) ∈ lw_tbl := List.mem_of_getElem? (i := 1219) (by decide +kernel)
set_option maxRecDepth 20000 in
theorem qS_La_lost : (Jvm.Cond.static ({ cls := "ThreeboxesLaw", name := "lost", desc := "(LThreeboxes;ILThreeboxesLaw$Out;)I" } : Jvm.MethodName)) ∈ lw_tbl := List.mem_of_getElem? (i := 1220) (by decide +kernel)
set_option maxRecDepth 20000 in
theorem qCw_La_lost : (Jvm.Cond.codeWith ({ cls := "ThreeboxesLaw", name := "lost", desc := "(LThreeboxes;ILThreeboxesLaw$Out;)I" } : Jvm.MethodName) method_20_code (4 : Nat) (Option.some Jvm.ClassFile.FieldType.int) [((0 : Nat), (9 : Nat), (12 : Nat), (27 : Nat))]) ∈ lw_tbl := List.mem_of_getElem? (i := 1221) rfl
set_option maxRecDepth 20000 in
theorem qM_La_86 : (Jvm.Cond.methodLink "ThreeboxesLaw" (86 : Nat) ({ cls := "Threeboxes", name := "lost", desc := "(I)D" } : Jvm.MethodName)) ∈ lw_tbl := List.mem_of_getElem? (i := 1222) (by decide +kernel)
set_option maxRecDepth 20000 in
theorem qI_Tb_lost : (Jvm.Cond.instanceMethod ({ cls := "Threeboxes", name := "lost", desc := "(I)D" } : Jvm.MethodName)) ∈ lw_tbl := List.mem_of_getElem? (i := 1223) (by decide +kernel)
set_option maxRecDepth 20000 in
theorem qV_Tb_Tb_lost : (Jvm.Cond.selects "Threeboxes" ({ cls := "Threeboxes", name := "lost", desc := "(I)D" } : Jvm.MethodName) ({ cls := "Threeboxes", name := "lost", desc := "(I)D" } : Jvm.MethodName)) ∈ lw_tbl := List.mem_of_getElem? (i := 1224) (by decide +kernel)
set_option maxRecDepth 20000 in
theorem qC_Tb_lost : (Jvm.Cond.code ({ cls := "Threeboxes", name := "lost", desc := "(I)D" } : Jvm.MethodName) prog_1_method_21_code (2 : Nat) (Option.some Jvm.ClassFile.FieldType.double)) ∈ lw_tbl := List.mem_of_getElem? (i := 1225) rfl
set_option maxRecDepth 20000 in
theorem qM_La_175 : (Jvm.Cond.methodLink "ThreeboxesLaw" (175 : Nat) ({ cls := "ThreeboxesLaw", name := "fewest", desc := "(LThreeboxes;ILThreeboxesLaw$Out;)I" } : Jvm.MethodName)) ∈ lw_tbl := List.mem_of_getElem? (i := 1226) (by decide +kernel)
set_option maxRecDepth 20000 in
theorem qS_La_fewest : (Jvm.Cond.static ({ cls := "ThreeboxesLaw", name := "fewest", desc := "(LThreeboxes;ILThreeboxesLaw$Out;)I" } : Jvm.MethodName)) ∈ lw_tbl := List.mem_of_getElem? (i := 1227) (by decide +kernel)
set_option maxRecDepth 20000 in
theorem qCw_La_fewest : (Jvm.Cond.codeWith ({ cls := "ThreeboxesLaw", name := "fewest", desc := "(LThreeboxes;ILThreeboxesLaw$Out;)I" } : Jvm.MethodName) method_21_code (4 : Nat) (Option.some Jvm.ClassFile.FieldType.int) [((0 : Nat), (10 : Nat), (13 : Nat), (27 : Nat))]) ∈ lw_tbl := List.mem_of_getElem? (i := 1228) rfl
set_option maxRecDepth 20000 in
theorem qM_La_94 : (Jvm.Cond.methodLink "ThreeboxesLaw" (94 : Nat) ({ cls := "Threeboxes", name := "fewest", desc := "(I)I" } : Jvm.MethodName)) ∈ lw_tbl := List.mem_of_getElem? (i := 1229) (by decide +kernel)
set_option maxRecDepth 20000 in
theorem qI_Tb_fewest : (Jvm.Cond.instanceMethod ({ cls := "Threeboxes", name := "fewest", desc := "(I)I" } : Jvm.MethodName)) ∈ lw_tbl := List.mem_of_getElem? (i := 1230) (by decide +kernel)
set_option maxRecDepth 20000 in
theorem qV_Tb_Tb_fewest : (Jvm.Cond.selects "Threeboxes" ({ cls := "Threeboxes", name := "fewest", desc := "(I)I" } : Jvm.MethodName) ({ cls := "Threeboxes", name := "fewest", desc := "(I)I" } : Jvm.MethodName)) ∈ lw_tbl := List.mem_of_getElem? (i := 1231) (by decide +kernel)
set_option maxRecDepth 20000 in
theorem qC_Tb_fewest : (Jvm.Cond.code ({ cls := "Threeboxes", name := "fewest", desc := "(I)I" } : Jvm.MethodName) prog_1_method_22_code (2 : Nat) (Option.some Jvm.ClassFile.FieldType.int)) ∈ lw_tbl := List.mem_of_getElem? (i := 1232) rfl
set_option maxRecDepth 20000 in
theorem qM_La_178 : (Jvm.Cond.methodLink "ThreeboxesLaw" (178 : Nat) ({ cls := "ThreeboxesLaw", name := "proves", desc := "(LThreeboxes;IILThreeboxesLaw$Out;)I" } : Jvm.MethodName)) ∈ lw_tbl := List.mem_of_getElem? (i := 1233) (by decide +kernel)
set_option maxRecDepth 20000 in
theorem qS_La_proves : (Jvm.Cond.static ({ cls := "ThreeboxesLaw", name := "proves", desc := "(LThreeboxes;IILThreeboxesLaw$Out;)I" } : Jvm.MethodName)) ∈ lw_tbl := List.mem_of_getElem? (i := 1234) (by decide +kernel)
set_option maxRecDepth 20000 in
theorem qCw_La_proves : (Jvm.Cond.codeWith ({ cls := "ThreeboxesLaw", name := "proves", desc := "(LThreeboxes;IILThreeboxesLaw$Out;)I" } : Jvm.MethodName) method_22_code (5 : Nat) (Option.some Jvm.ClassFile.FieldType.int) [((0 : Nat), (18 : Nat), (21 : Nat), (27 : Nat)), ((0 : Nat), (18 : Nat), (25 : Nat), (19 : Nat))]) ∈ lw_tbl := List.mem_of_getElem? (i := 1235) rfl
set_option maxRecDepth 20000 in
theorem qM_La_97 : (Jvm.Cond.methodLink "ThreeboxesLaw" (97 : Nat) ({ cls := "Threeboxes", name := "proves", desc := "(II)Z" } : Jvm.MethodName)) ∈ lw_tbl := List.mem_of_getElem? (i := 1236) (by decide +kernel)
set_option maxRecDepth 20000 in
theorem qI_Tb_proves : (Jvm.Cond.instanceMethod ({ cls := "Threeboxes", name := "proves", desc := "(II)Z" } : Jvm.MethodName)) ∈ lw_tbl := List.mem_of_getElem? (i := 1237) (by decide +kernel)
set_option maxRecDepth 20000 in
theorem qV_Tb_Tb_proves : (Jvm.Cond.selects "Threeboxes" ({ cls := "Threeboxes", name := "proves", desc := "(II)Z" } : Jvm.MethodName) ({ cls := "Threeboxes", name := "proves", desc := "(II)Z" } : Jvm.MethodName)) ∈ lw_tbl := List.mem_of_getElem? (i := 1238) (by decide +kernel)
set_option maxRecDepth 20000 in
theorem qC_Tb_proves : (Jvm.Cond.code ({ cls := "Threeboxes", name := "proves", desc := "(II)Z" } : Jvm.MethodName) prog_1_method_23_code (3 : Nat) (Option.some Jvm.ClassFile.FieldType.boolean)) ∈ lw_tbl := List.mem_of_getElem? (i := 1239) rfl
set_option maxRecDepth 20000 in
theorem qR_Tb_302 : (Jvm.Cond.stringRef "Threeboxes" (302 : Nat) "a leaf is 0 to 9972") ∈ lw_tbl := List.mem_of_getElem? (i := 1240) (by decide +kernel)
set_option maxRecDepth 20000 in
theorem qM_Tb_304 : (Jvm.Cond.methodLink "Threeboxes" (304 : Nat) ({ cls := "Threeboxes$Register", name := "comesToRoot", desc := "(II)Z" } : Jvm.MethodName)) ∈ lw_tbl := List.mem_of_getElem? (i := 1241) (by decide +kernel)
set_option maxRecDepth 20000 in
theorem qK_La_102 : (Jvm.Cond.classLink "ThreeboxesLaw" (102 : Nat) "ThreeboxesModel") ∈ lw_tbl := List.mem_of_getElem? (i := 1242) (by decide +kernel)
set_option maxRecDepth 20000 in
theorem qO_Mo : (Jvm.Cond.instantiable "ThreeboxesModel" (12 : Nat)) ∈ lw_tbl := List.mem_of_getElem? (i := 1243) (by decide +kernel)
set_option maxRecDepth 20000 in
theorem qM_La_104 : (Jvm.Cond.methodLink "ThreeboxesLaw" (104 : Nat) ({ cls := "ThreeboxesModel", name := "<init>", desc := "()V" } : Jvm.MethodName)) ∈ lw_tbl := List.mem_of_getElem? (i := 1244) (by decide +kernel)
set_option maxRecDepth 20000 in
theorem qI_Mo_init : (Jvm.Cond.instanceMethod ({ cls := "ThreeboxesModel", name := "<init>", desc := "()V" } : Jvm.MethodName)) ∈ lw_tbl := List.mem_of_getElem? (i := 1245) (by decide +kernel)
set_option maxRecDepth 20000 in
theorem qC_Mo_init : (Jvm.Cond.code ({ cls := "ThreeboxesModel", name := "<init>", desc := "()V" } : Jvm.MethodName) prog_9_method_1_code (3 : Nat) (Option.none : Option Jvm.ClassFile.FieldType)) ∈ lw_tbl := List.mem_of_getElem? (i := 1246) rfl
set_option maxRecDepth 20000 in
theorem qM_Mo_1 : (Jvm.Cond.methodLink "ThreeboxesModel" (1 : Nat) ({ cls := "java/lang/Object", name := "<init>", desc := "()V" } : Jvm.MethodName)) ∈ lw_tbl := List.mem_of_getElem? (i := 1247) (by decide +kernel)
set_option maxRecDepth 20000 in
theorem qK_Mo_13 : (Jvm.Cond.classLink "ThreeboxesModel" (13 : Nat) "java/util/ArrayList") ∈ lw_tbl := List.mem_of_getElem? (i := 1248) (by decide +kernel)
set_option maxRecDepth 20000 in
theorem qM_Mo_15 : (Jvm.Cond.methodLink "ThreeboxesModel" (15 : Nat) ({ cls := "java/util/ArrayList", name := "<init>", desc := "()V" } : Jvm.MethodName)) ∈ lw_tbl := List.mem_of_getElem? (i := 1249) (by decide +kernel)
set_option maxRecDepth 20000 in
theorem qF_Mo_36 : (Jvm.Cond.fieldLink "ThreeboxesModel" (36 : Nat) "ThreeboxesModel" "thrown" "I") ∈ lw_tbl := List.mem_of_getElem? (i := 1250) (by decide +kernel)
set_option maxRecDepth 20000 in
theorem qF_Mo_7 : (Jvm.Cond.fieldLink "ThreeboxesModel" (7 : Nat) "ThreeboxesModel" "luck" "I") ∈ lw_tbl := List.mem_of_getElem? (i := 1251) (by decide +kernel)
set_option maxRecDepth 20000 in
theorem qF_Mo_102 : (Jvm.Cond.fieldLink "ThreeboxesModel" (102 : Nat) "ThreeboxesModel" "day" "I") ∈ lw_tbl := List.mem_of_getElem? (i := 1252) (by decide +kernel)
set_option maxRecDepth 20000 in
theorem qF_Mo_175 : (Jvm.Cond.fieldLink "ThreeboxesModel" (175 : Nat) "ThreeboxesModel" "refused" "I") ∈ lw_tbl := List.mem_of_getElem? (i := 1253) (by decide +kernel)
set_option maxRecDepth 20000 in
theorem qF_Mo_178 : (Jvm.Cond.fieldLink "ThreeboxesModel" (178 : Nat) "ThreeboxesModel" "failed" "I") ∈ lw_tbl := List.mem_of_getElem? (i := 1254) (by decide +kernel)
set_option maxRecDepth 20000 in
theorem qF_Mo_169 : (Jvm.Cond.fieldLink "ThreeboxesModel" (169 : Nat) "ThreeboxesModel" "messages" "I") ∈ lw_tbl := List.mem_of_getElem? (i := 1255) (by decide +kernel)
set_option maxRecDepth 20000 in
theorem qF_Mo_16 : (Jvm.Cond.fieldLink "ThreeboxesModel" (16 : Nat) "ThreeboxesModel" "keepers" "Ljava/util/List;") ∈ lw_tbl := List.mem_of_getElem? (i := 1256) (by decide +kernel)
set_option maxRecDepth 20000 in
theorem qF_Mo_20 : (Jvm.Cond.fieldLink "ThreeboxesModel" (20 : Nat) "ThreeboxesModel" "secrets" "Ljava/util/List;") ∈ lw_tbl := List.mem_of_getElem? (i := 1257) (by decide +kernel)
set_option maxRecDepth 20000 in
theorem qF_Mo_23 : (Jvm.Cond.fieldLink "ThreeboxesModel" (23 : Nat) "ThreeboxesModel" "entries" "Ljava/util/List;") ∈ lw_tbl := List.mem_of_getElem? (i := 1258) (by decide +kernel)
set_option maxRecDepth 20000 in
theorem qF_Mo_26 : (Jvm.Cond.fieldLink "ThreeboxesModel" (26 : Nat) "ThreeboxesModel" "inverses" "[I") ∈ lw_tbl := List.mem_of_getElem? (i := 1259) (by decide +kernel)
set_option maxRecDepth 20000 in
theorem qF_Mo_30 : (Jvm.Cond.fieldLink "ThreeboxesModel" (30 : Nat) "ThreeboxesModel" "points" "[I") ∈ lw_tbl := List.mem_of_getElem? (i := 1260) (by decide +kernel)
set_option maxRecDepth 20000 in
theorem qF_Mo_33 : (Jvm.Cond.fieldLink "ThreeboxesModel" (33 : Nat) "ThreeboxesModel" "numbers" "[I") ∈ lw_tbl := List.mem_of_getElem? (i := 1261) (by decide +kernel)
set_option maxRecDepth 20000 in
theorem qSc_Mo_Oj : (Jvm.Cond.superclass "ThreeboxesModel" "java/lang/Object") ∈ lw_tbl := List.mem_of_getElem? (i := 1286) (by decide +kernel)
set_option maxRecDepth 20000 in
theorem qM_La_111 : (Jvm.Cond.methodLink "ThreeboxesLaw" (111 : Nat) ({ cls := "ThreeboxesModel", name := "keeper", desc := "(III)I" } : Jvm.MethodName)) ∈ lw_tbl := List.mem_of_getElem? (i := 1287) (by decide +kernel)
set_option maxRecDepth 20000 in
theorem qI_Mo_keeper : (Jvm.Cond.instanceMethod ({ cls := "ThreeboxesModel", name := "keeper", desc := "(III)I" } : Jvm.MethodName)) ∈ lw_tbl := List.mem_of_getElem? (i := 1288) (by decide +kernel)
set_option maxRecDepth 20000 in
theorem qV_Mo_Mo_keeper : (Jvm.Cond.selects "ThreeboxesModel" ({ cls := "ThreeboxesModel", name := "keeper", desc := "(III)I" } : Jvm.MethodName) ({ cls := "ThreeboxesModel", name := "keeper", desc := "(III)I" } : Jvm.MethodName)) ∈ lw_tbl := List.mem_of_getElem? (i := 1289) (by decide +kernel)
set_option maxRecDepth 20000 in
theorem qC_Mo_keeper : (Jvm.Cond.code ({ cls := "ThreeboxesModel", name := "keeper", desc := "(III)I" } : Jvm.MethodName) prog_9_method_25_code (4 : Nat) (Option.some Jvm.ClassFile.FieldType.int)) ∈ lw_tbl := List.mem_of_getElem? (i := 1290) rfl
set_option maxRecDepth 20000 in
theorem qM_Mo_115 : (Jvm.Cond.methodLink "ThreeboxesModel" (115 : Nat) ({ cls := "ThreeboxesModel", name := "in", desc := "(III)Z" } : Jvm.MethodName)) ∈ lw_tbl := List.mem_of_getElem? (i := 1291) (by decide +kernel)
set_option maxRecDepth 20000 in
theorem qS_Mo_in : (Jvm.Cond.static ({ cls := "ThreeboxesModel", name := "in", desc := "(III)Z" } : Jvm.MethodName)) ∈ lw_tbl := List.mem_of_getElem? (i := 1292) (by decide +kernel)
set_option maxRecDepth 20000 in
theorem qC_Mo_in : (Jvm.Cond.code ({ cls := "ThreeboxesModel", name := "in", desc := "(III)Z" } : Jvm.MethodName) prog_9_method_4_code (3 : Nat) (Option.some Jvm.ClassFile.FieldType.boolean)) ∈ lw_tbl := List.mem_of_getElem? (i := 1293) rfl
set_option maxRecDepth 20000 in
theorem qM_Mo_119 : (Jvm.Cond.methodLink "ThreeboxesModel" (119 : Nat) ({ cls := "ThreeboxesModel", name := "no", desc := "(I)I" } : Jvm.MethodName)) ∈ lw_tbl := List.mem_of_getElem? (i := 1294) (by decide +kernel)
set_option maxRecDepth 20000 in
theorem qI_Mo_no : (Jvm.Cond.instanceMethod ({ cls := "ThreeboxesModel", name := "no", desc := "(I)I" } : Jvm.MethodName)) ∈ lw_tbl := List.mem_of_getElem? (i := 1296) (by decide +kernel)
set_option maxRecDepth 20000 in
theorem qC_Mo_no : (Jvm.Cond.code ({ cls := "ThreeboxesModel", name := "no", desc := "(I)I" } : Jvm.MethodName) prog_9_method_3_code (2 : Nat) (Option.some Jvm.ClassFile.FieldType.int)) ∈ lw_tbl := List.mem_of_getElem? (i := 1297) rfl
set_option maxRecDepth 20000 in
theorem qE_Mo_94 : (Jvm.Cond.interfaceEntry "ThreeboxesModel" (94 : Nat)) ∈ lw_tbl := List.mem_of_getElem? (i := 1298) (by decide +kernel)
set_option maxRecDepth 20000 in
theorem qM_Mo_94 : (Jvm.Cond.methodLink "ThreeboxesModel" (94 : Nat) ({ cls := "java/util/List", name := "size", desc := "()I" } : Jvm.MethodName)) ∈ lw_tbl := List.mem_of_getElem? (i := 1299) (by decide +kernel)
set_option maxRecDepth 20000 in
theorem qIm_Li_javautilList_size_I : (Jvm.Cond.interfaceMethod "java/util/List" "java/util/List" "size" "()I") ∈ lw_tbl := List.mem_of_getElem? (i := 1300) (by decide +kernel)
set_option maxRecDepth 20000 in
theorem qD_Li_size_04f1 : (Jvm.Cond.declares ({ cls := "java/util/List", name := "size", desc := "()I" } : Jvm.MethodName)) ∈ lw_tbl := List.mem_of_getElem? (i := 1301) (by decide +kernel)
set_option maxRecDepth 20000 in
theorem qT_AL_Li : (Jvm.Cond.castable "java/util/ArrayList" "java/util/List") ∈ lw_tbl := List.mem_of_getElem? (i := 1302) (by decide +kernel)
set_option maxRecDepth 20000 in
theorem qV_AL_Li_size_04f1 : (Jvm.Cond.selects "java/util/ArrayList" ({ cls := "java/util/List", name := "size", desc := "()I" } : Jvm.MethodName) ({ cls := "java/util/ArrayList", name := "size", desc := "()I" } : Jvm.MethodName)) ∈ lw_tbl := List.mem_of_getElem? (i := 1303) (by decide +kernel)
set_option maxRecDepth 20000 in
theorem qU_AL_size_I : (Jvm.Cond.unhidden "java/util/ArrayList" "size" "()I") ∈ lw_tbl := List.mem_of_getElem? (i := 1304) (by decide +kernel)
set_option maxRecDepth 20000 in
theorem qP_AL_size : (Jvm.Cond.publicMethod ({ cls := "java/util/ArrayList", name := "size", desc := "()I" } : Jvm.MethodName)) ∈ lw_tbl := List.mem_of_getElem? (i := 1305) (by decide +kernel)
set_option maxRecDepth 20000 in
theorem qK_Mo_57 : (Jvm.Cond.classLink "ThreeboxesModel" (57 : Nat) "ThreeboxesModel$Keeper") ∈ lw_tbl := List.mem_of_getElem? (i := 1306) (by decide +kernel)
set_option maxRecDepth 20000 in
theorem qO_MK : (Jvm.Cond.instantiable "ThreeboxesModel$Keeper" (5 : Nat)) ∈ lw_tbl := List.mem_of_getElem? (i := 1307) (by decide +kernel)
set_option maxRecDepth 20000 in
theorem qM_Mo_122 : (Jvm.Cond.methodLink "ThreeboxesModel" (122 : Nat) ({ cls := "ThreeboxesModel$Keeper", name := "<init>", desc := "(III)V" } : Jvm.MethodName)) ∈ lw_tbl := List.mem_of_getElem? (i := 1308) (by decide +kernel)
set_option maxRecDepth 20000 in
theorem qI_MK_init : (Jvm.Cond.instanceMethod ({ cls := "ThreeboxesModel$Keeper", name := "<init>", desc := "(III)V" } : Jvm.MethodName)) ∈ lw_tbl := List.mem_of_getElem? (i := 1309) (by decide +kernel)
set_option maxRecDepth 20000 in
theorem qC_MK_init : (Jvm.Cond.code ({ cls := "ThreeboxesModel$Keeper", name := "<init>", desc := "(III)V" } : Jvm.MethodName) prog_10_method_1_code (4 : Nat) (Option.none : Option Jvm.ClassFile.FieldType)) ∈ lw_tbl := List.mem_of_getElem? (i := 1310) rfl
set_option maxRecDepth 20000 in
theorem qM_MK_1 : (Jvm.Cond.methodLink "ThreeboxesModel$Keeper" (1 : Nat) ({ cls := "java/lang/Object", name := "<init>", desc := "()V" } : Jvm.MethodName)) ∈ lw_tbl := List.mem_of_getElem? (i := 1311) (by decide +kernel)
set_option maxRecDepth 20000 in
theorem qF_MK_7 : (Jvm.Cond.fieldLink "ThreeboxesModel$Keeper" (7 : Nat) "ThreeboxesModel$Keeper" "zone" "I") ∈ lw_tbl := List.mem_of_getElem? (i := 1312) (by decide +kernel)
set_option maxRecDepth 20000 in
theorem qF_Mo_96 : (Jvm.Cond.fieldLink "ThreeboxesModel" (96 : Nat) "ThreeboxesModel$Keeper" "zone" "I") ∈ lw_tbl := List.mem_of_getElem? (i := 1313) (by decide +kernel)
set_option maxRecDepth 20000 in
theorem qF_MK_13 : (Jvm.Cond.fieldLink "ThreeboxesModel$Keeper" (13 : Nat) "ThreeboxesModel$Keeper" "price" "I") ∈ lw_tbl := List.mem_of_getElem? (i := 1314) (by decide +kernel)
set_option maxRecDepth 20000 in
theorem qF_Mo_193 : (Jvm.Cond.fieldLink "ThreeboxesModel" (193 : Nat) "ThreeboxesModel$Keeper" "price" "I") ∈ lw_tbl := List.mem_of_getElem? (i := 1315) (by decide +kernel)
set_option maxRecDepth 20000 in
theorem qF_MK_16 : (Jvm.Cond.fieldLink "ThreeboxesModel$Keeper" (16 : Nat) "ThreeboxesModel$Keeper" "risk" "I") ∈ lw_tbl := List.mem_of_getElem? (i := 1316) (by decide +kernel)
set_option maxRecDepth 20000 in
theorem qF_Mo_196 : (Jvm.Cond.fieldLink "ThreeboxesModel" (196 : Nat) "ThreeboxesModel$Keeper" "risk" "I") ∈ lw_tbl := List.mem_of_getElem? (i := 1317) (by decide +kernel)
set_option maxRecDepth 20000 in
theorem qF_Mo_59 : (Jvm.Cond.fieldLink "ThreeboxesModel" (59 : Nat) "ThreeboxesModel$Keeper" "lie" "I") ∈ lw_tbl := List.mem_of_getElem? (i := 1318) (by decide +kernel)
set_option maxRecDepth 20000 in
theorem qF_Mo_184 : (Jvm.Cond.fieldLink "ThreeboxesModel" (184 : Nat) "ThreeboxesModel$Keeper" "isNoted" "Z") ∈ lw_tbl := List.mem_of_getElem? (i := 1319) (by decide +kernel)
set_option maxRecDepth 20000 in
theorem qSc_MK_Oj : (Jvm.Cond.superclass "ThreeboxesModel$Keeper" "java/lang/Object") ∈ lw_tbl := List.mem_of_getElem? (i := 1330) (by decide +kernel)
set_option maxRecDepth 20000 in
theorem qE_Mo_111 : (Jvm.Cond.interfaceEntry "ThreeboxesModel" (111 : Nat)) ∈ lw_tbl := List.mem_of_getElem? (i := 1331) (by decide +kernel)
set_option maxRecDepth 20000 in
theorem qM_Mo_111 : (Jvm.Cond.methodLink "ThreeboxesModel" (111 : Nat) ({ cls := "java/util/List", name := "add", desc := "(Ljava/lang/Object;)Z" } : Jvm.MethodName)) ∈ lw_tbl := List.mem_of_getElem? (i := 1332) (by decide +kernel)
set_option maxRecDepth 20000 in
theorem qIm_Li_javautilList_add_LjavalangObjectZ : (Jvm.Cond.interfaceMethod "java/util/List" "java/util/List" "add" "(Ljava/lang/Object;)Z") ∈ lw_tbl := List.mem_of_getElem? (i := 1333) (by decide +kernel)
set_option maxRecDepth 20000 in
theorem qD_Li_add_79ae : (Jvm.Cond.declares ({ cls := "java/util/List", name := "add", desc := "(Ljava/lang/Object;)Z" } : Jvm.MethodName)) ∈ lw_tbl := List.mem_of_getElem? (i := 1334) (by decide +kernel)
set_option maxRecDepth 20000 in
theorem qV_AL_Li_add_79ae : (Jvm.Cond.selects "java/util/ArrayList" ({ cls := "java/util/List", name := "add", desc := "(Ljava/lang/Object;)Z" } : Jvm.MethodName) ({ cls := "java/util/ArrayList", name := "add", desc := "(Ljava/lang/Object;)Z" } : Jvm.MethodName)) ∈ lw_tbl := List.mem_of_getElem? (i := 1335) (by decide +kernel)
set_option maxRecDepth 20000 in
theorem qU_AL_add_LjavalangObjectZ : (Jvm.Cond.unhidden "java/util/ArrayList" "add" "(Ljava/lang/Object;)Z") ∈ lw_tbl := List.mem_of_getElem? (i := 1336) (by decide +kernel)
set_option maxRecDepth 20000 in
theorem qP_AL_add_1 : (Jvm.Cond.publicMethod ({ cls := "java/util/ArrayList", name := "add", desc := "(Ljava/lang/Object;)Z" } : Jvm.MethodName)) ∈ lw_tbl := List.mem_of_getElem? (i := 1337) (by decide +kernel)
set_option maxRecDepth 20000 in
theorem qM_La_115 : (Jvm.Cond.methodLink "ThreeboxesLaw" (115 : Nat) ({ cls := "ThreeboxesModel", name := "lie", desc := "(II)I" } : Jvm.MethodName)) ∈ lw_tbl := List.mem_of_getElem? (i := 1338) (by decide +kernel)
set_option maxRecDepth 20000 in
theorem qI_Mo_lie : (Jvm.Cond.instanceMethod ({ cls := "ThreeboxesModel", name := "lie", desc := "(II)I" } : Jvm.MethodName)) ∈ lw_tbl := List.mem_of_getElem? (i := 1339) (by decide +kernel)
set_option maxRecDepth 20000 in
theorem qV_Mo_Mo_lie : (Jvm.Cond.selects "ThreeboxesModel" ({ cls := "ThreeboxesModel", name := "lie", desc := "(II)I" } : Jvm.MethodName) ({ cls := "ThreeboxesModel", name := "lie", desc := "(II)I" } : Jvm.MethodName)) ∈ lw_tbl := List.mem_of_getElem? (i := 1340) (by decide +kernel)
set_option maxRecDepth 20000 in
theorem qC_Mo_lie : (Jvm.Cond.code ({ cls := "ThreeboxesModel", name := "lie", desc := "(II)I" } : Jvm.MethodName) prog_9_method_26_code (4 : Nat) (Option.some Jvm.ClassFile.FieldType.int)) ∈ lw_tbl := List.mem_of_getElem? (i := 1341) rfl
set_option maxRecDepth 20000 in
theorem qM_Mo_125 : (Jvm.Cond.methodLink "ThreeboxesModel" (125 : Nat) ({ cls := "ThreeboxesModel", name := "isKeeper", desc := "(I)Z" } : Jvm.MethodName)) ∈ lw_tbl := List.mem_of_getElem? (i := 1342) (by decide +kernel)
set_option maxRecDepth 20000 in
theorem qI_Mo_isKeeper : (Jvm.Cond.instanceMethod ({ cls := "ThreeboxesModel", name := "isKeeper", desc := "(I)Z" } : Jvm.MethodName)) ∈ lw_tbl := List.mem_of_getElem? (i := 1344) (by decide +kernel)
set_option maxRecDepth 20000 in
theorem qC_Mo_isKeeper : (Jvm.Cond.code ({ cls := "ThreeboxesModel", name := "isKeeper", desc := "(I)Z" } : Jvm.MethodName) prog_9_method_22_code (2 : Nat) (Option.some Jvm.ClassFile.FieldType.boolean)) ∈ lw_tbl := List.mem_of_getElem? (i := 1345) rfl
set_option maxRecDepth 20000 in
theorem qE_Mo_51 : (Jvm.Cond.interfaceEntry "ThreeboxesModel" (51 : Nat)) ∈ lw_tbl := List.mem_of_getElem? (i := 1346) (by decide +kernel)
set_option maxRecDepth 20000 in
theorem qM_Mo_51 : (Jvm.Cond.methodLink "ThreeboxesModel" (51 : Nat) ({ cls := "java/util/List", name := "get", desc := "(I)Ljava/lang/Object;" } : Jvm.MethodName)) ∈ lw_tbl := List.mem_of_getElem? (i := 1347) (by decide +kernel)
set_option maxRecDepth 20000 in
theorem qIm_Li_javautilList_get_ILjavalangObject : (Jvm.Cond.interfaceMethod "java/util/List" "java/util/List" "get" "(I)Ljava/lang/Object;") ∈ lw_tbl := List.mem_of_getElem? (i := 1348) (by decide +kernel)
set_option maxRecDepth 20000 in
theorem qD_Li_get_7cbf : (Jvm.Cond.declares ({ cls := "java/util/List", name := "get", desc := "(I)Ljava/lang/Object;" } : Jvm.MethodName)) ∈ lw_tbl := List.mem_of_getElem? (i := 1349) (by decide +kernel)
set_option maxRecDepth 20000 in
theorem qV_AL_Li_get_7cbf : (Jvm.Cond.selects "java/util/ArrayList" ({ cls := "java/util/List", name := "get", desc := "(I)Ljava/lang/Object;" } : Jvm.MethodName) ({ cls := "java/util/ArrayList", name := "get", desc := "(I)Ljava/lang/Object;" } : Jvm.MethodName)) ∈ lw_tbl := List.mem_of_getElem? (i := 1350) (by decide +kernel)
set_option maxRecDepth 20000 in
theorem qU_AL_get_ILjavalangObject : (Jvm.Cond.unhidden "java/util/ArrayList" "get" "(I)Ljava/lang/Object;") ∈ lw_tbl := List.mem_of_getElem? (i := 1351) (by decide +kernel)
set_option maxRecDepth 20000 in
theorem qP_AL_get : (Jvm.Cond.publicMethod ({ cls := "java/util/ArrayList", name := "get", desc := "(I)Ljava/lang/Object;" } : Jvm.MethodName)) ∈ lw_tbl := List.mem_of_getElem? (i := 1352) (by decide +kernel)
set_option maxRecDepth 20000 in
theorem qM_La_119 : (Jvm.Cond.methodLink "ThreeboxesLaw" (119 : Nat) ({ cls := "ThreeboxesModel", name := "deal", desc := "(IIIII)I" } : Jvm.MethodName)) ∈ lw_tbl := List.mem_of_getElem? (i := 1353) (by decide +kernel)
set_option maxRecDepth 20000 in
theorem qI_Mo_deal : (Jvm.Cond.instanceMethod ({ cls := "ThreeboxesModel", name := "deal", desc := "(IIIII)I" } : Jvm.MethodName)) ∈ lw_tbl := List.mem_of_getElem? (i := 1354) (by decide +kernel)
set_option maxRecDepth 20000 in
theorem qV_Mo_Mo_deal : (Jvm.Cond.selects "ThreeboxesModel" ({ cls := "ThreeboxesModel", name := "deal", desc := "(IIIII)I" } : Jvm.MethodName) ({ cls := "ThreeboxesModel", name := "deal", desc := "(IIIII)I" } : Jvm.MethodName)) ∈ lw_tbl := List.mem_of_getElem? (i := 1355) (by decide +kernel)
set_option maxRecDepth 20000 in
theorem qC_Mo_deal : (Jvm.Cond.code ({ cls := "ThreeboxesModel", name := "deal", desc := "(IIIII)I" } : Jvm.MethodName) prog_9_method_27_code (9 : Nat) (Option.some Jvm.ClassFile.FieldType.int)) ∈ lw_tbl := List.mem_of_getElem? (i := 1356) rfl
set_option maxRecDepth 20000 in
theorem qM_Mo_129 : (Jvm.Cond.methodLink "ThreeboxesModel" (129 : Nat) ({ cls := "ThreeboxesModel", name := "isSet", desc := "(I)Z" } : Jvm.MethodName)) ∈ lw_tbl := List.mem_of_getElem? (i := 1357) (by decide +kernel)
set_option maxRecDepth 20000 in
theorem qI_Mo_isSet : (Jvm.Cond.instanceMethod ({ cls := "ThreeboxesModel", name := "isSet", desc := "(I)Z" } : Jvm.MethodName)) ∈ lw_tbl := List.mem_of_getElem? (i := 1359) (by decide +kernel)
set_option maxRecDepth 20000 in
theorem qC_Mo_isSet : (Jvm.Cond.code ({ cls := "ThreeboxesModel", name := "isSet", desc := "(I)Z" } : Jvm.MethodName) prog_9_method_24_code (2 : Nat) (Option.some Jvm.ClassFile.FieldType.boolean)) ∈ lw_tbl := List.mem_of_getElem? (i := 1360) rfl
set_option maxRecDepth 20000 in
theorem qM_Mo_66 : (Jvm.Cond.methodLink "ThreeboxesModel" (66 : Nat) ({ cls := "ThreeboxesModel", name := "size", desc := "(I)I" } : Jvm.MethodName)) ∈ lw_tbl := List.mem_of_getElem? (i := 1361) (by decide +kernel)
set_option maxRecDepth 20000 in
theorem qS_Mo_size : (Jvm.Cond.static ({ cls := "ThreeboxesModel", name := "size", desc := "(I)I" } : Jvm.MethodName)) ∈ lw_tbl := List.mem_of_getElem? (i := 1362) (by decide +kernel)
set_option maxRecDepth 20000 in
theorem qC_Mo_size : (Jvm.Cond.code ({ cls := "ThreeboxesModel", name := "size", desc := "(I)I" } : Jvm.MethodName) prog_9_method_6_code (3 : Nat) (Option.some Jvm.ClassFile.FieldType.int)) ∈ lw_tbl := List.mem_of_getElem? (i := 1363) rfl
set_option maxRecDepth 20000 in
theorem qK_Mo_47 : (Jvm.Cond.classLink "ThreeboxesModel" (47 : Nat) "ThreeboxesModel$Secret") ∈ lw_tbl := List.mem_of_getElem? (i := 1364) (by decide +kernel)
set_option maxRecDepth 20000 in
theorem qO_MS : (Jvm.Cond.instantiable "ThreeboxesModel$Secret" (8 : Nat)) ∈ lw_tbl := List.mem_of_getElem? (i := 1365) (by decide +kernel)
set_option maxRecDepth 20000 in
theorem qM_Mo_132 : (Jvm.Cond.methodLink "ThreeboxesModel" (132 : Nat) ({ cls := "ThreeboxesModel$Secret", name := "<init>", desc := "(III)V" } : Jvm.MethodName)) ∈ lw_tbl := List.mem_of_getElem? (i := 1366) (by decide +kernel)
set_option maxRecDepth 20000 in
theorem qI_MS_init : (Jvm.Cond.instanceMethod ({ cls := "ThreeboxesModel$Secret", name := "<init>", desc := "(III)V" } : Jvm.MethodName)) ∈ lw_tbl := List.mem_of_getElem? (i := 1367) (by decide +kernel)
set_option maxRecDepth 20000 in
theorem qC_MS_init : (Jvm.Cond.code ({ cls := "ThreeboxesModel$Secret", name := "<init>", desc := "(III)V" } : Jvm.MethodName) prog_11_method_1_code (4 : Nat) (Option.none : Option Jvm.ClassFile.FieldType)) ∈ lw_tbl := List.mem_of_getElem? (i := 1368) rfl
set_option maxRecDepth 20000 in
theorem qM_MS_3 : (Jvm.Cond.methodLink "ThreeboxesModel$Secret" (3 : Nat) ({ cls := "java/lang/Object", name := "<init>", desc := "()V" } : Jvm.MethodName)) ∈ lw_tbl := List.mem_of_getElem? (i := 1369) (by decide +kernel)
set_option maxRecDepth 20000 in
theorem qF_MS_18 : (Jvm.Cond.fieldLink "ThreeboxesModel$Secret" (18 : Nat) "ThreeboxesModel$Secret" "threshold" "I") ∈ lw_tbl := List.mem_of_getElem? (i := 1370) (by decide +kernel)
set_option maxRecDepth 20000 in
theorem qF_Mo_69 : (Jvm.Cond.fieldLink "ThreeboxesModel" (69 : Nat) "ThreeboxesModel$Secret" "threshold" "I") ∈ lw_tbl := List.mem_of_getElem? (i := 1371) (by decide +kernel)
set_option maxRecDepth 20000 in
theorem qF_MS_22 : (Jvm.Cond.fieldLink "ThreeboxesModel$Secret" (22 : Nat) "ThreeboxesModel$Secret" "zones" "I") ∈ lw_tbl := List.mem_of_getElem? (i := 1372) (by decide +kernel)
set_option maxRecDepth 20000 in
theorem qF_Mo_99 : (Jvm.Cond.fieldLink "ThreeboxesModel" (99 : Nat) "ThreeboxesModel$Secret" "zones" "I") ∈ lw_tbl := List.mem_of_getElem? (i := 1373) (by decide +kernel)
set_option maxRecDepth 20000 in
theorem qF_MS_25 : (Jvm.Cond.fieldLink "ThreeboxesModel$Secret" (25 : Nat) "ThreeboxesModel$Secret" "date" "I") ∈ lw_tbl := List.mem_of_getElem? (i := 1374) (by decide +kernel)
set_option maxRecDepth 20000 in
theorem qF_Mo_105 : (Jvm.Cond.fieldLink "ThreeboxesModel" (105 : Nat) "ThreeboxesModel$Secret" "date" "I") ∈ lw_tbl := List.mem_of_getElem? (i := 1375) (by decide +kernel)
set_option maxRecDepth 20000 in
theorem qF_MS_28 : (Jvm.Cond.fieldLink "ThreeboxesModel$Secret" (28 : Nat) "ThreeboxesModel$Secret" "epoch" "I") ∈ lw_tbl := List.mem_of_getElem? (i := 1376) (by decide +kernel)
set_option maxRecDepth 20000 in
theorem qF_Mo_153 : (Jvm.Cond.fieldLink "ThreeboxesModel" (153 : Nat) "ThreeboxesModel$Secret" "epoch" "I") ∈ lw_tbl := List.mem_of_getElem? (i := 1377) (by decide +kernel)
set_option maxRecDepth 20000 in
theorem qF_Mo_108 : (Jvm.Cond.fieldLink "ThreeboxesModel" (108 : Nat) "ThreeboxesModel$Secret" "frozen" "I") ∈ lw_tbl := List.mem_of_getElem? (i := 1378) (by decide +kernel)
set_option maxRecDepth 20000 in
theorem qF_Mo_165 : (Jvm.Cond.fieldLink "ThreeboxesModel" (165 : Nat) "ThreeboxesModel$Secret" "isTainted" "Z") ∈ lw_tbl := List.mem_of_getElem? (i := 1379) (by decide +kernel)
set_option maxRecDepth 20000 in
theorem qF_MS_9 : (Jvm.Cond.fieldLink "ThreeboxesModel$Secret" (9 : Nat) "ThreeboxesModel$Secret" "shares" "[I") ∈ lw_tbl := List.mem_of_getElem? (i := 1380) (by decide +kernel)
set_option maxRecDepth 20000 in
theorem qF_Mo_46 : (Jvm.Cond.fieldLink "ThreeboxesModel" (46 : Nat) "ThreeboxesModel$Secret" "shares" "[I") ∈ lw_tbl := List.mem_of_getElem? (i := 1381) (by decide +kernel)
set_option maxRecDepth 20000 in
theorem qF_MS_15 : (Jvm.Cond.fieldLink "ThreeboxesModel$Secret" (15 : Nat) "ThreeboxesModel$Secret" "epochs" "[I") ∈ lw_tbl := List.mem_of_getElem? (i := 1382) (by decide +kernel)
set_option maxRecDepth 20000 in
theorem qF_Mo_140 : (Jvm.Cond.fieldLink "ThreeboxesModel" (140 : Nat) "ThreeboxesModel$Secret" "epochs" "[I") ∈ lw_tbl := List.mem_of_getElem? (i := 1383) (by decide +kernel)
set_option maxRecDepth 20000 in
theorem qSc_MS_Oj : (Jvm.Cond.superclass "ThreeboxesModel$Secret" "java/lang/Object") ∈ lw_tbl := List.mem_of_getElem? (i := 1400) (by decide +kernel)
set_option maxRecDepth 20000 in
theorem qM_Mo_133 : (Jvm.Cond.methodLink "ThreeboxesModel" (133 : Nat) ({ cls := "ThreeboxesModel", name := "draw", desc := "()I" } : Jvm.MethodName)) ∈ lw_tbl := List.mem_of_getElem? (i := 1401) (by decide +kernel)
set_option maxRecDepth 20000 in
theorem qI_Mo_draw : (Jvm.Cond.instanceMethod ({ cls := "ThreeboxesModel", name := "draw", desc := "()I" } : Jvm.MethodName)) ∈ lw_tbl := List.mem_of_getElem? (i := 1403) (by decide +kernel)
set_option maxRecDepth 20000 in
theorem qC_Mo_draw : (Jvm.Cond.code ({ cls := "ThreeboxesModel", name := "draw", desc := "()I" } : Jvm.MethodName) prog_9_method_9_code (1 : Nat) (Option.some Jvm.ClassFile.FieldType.int)) ∈ lw_tbl := List.mem_of_getElem? (i := 1404) rfl
set_option maxRecDepth 20000 in
theorem qM_Mo_76 : (Jvm.Cond.methodLink "ThreeboxesModel" (76 : Nat) ({ cls := "ThreeboxesModel", name := "has", desc := "(II)Z" } : Jvm.MethodName)) ∈ lw_tbl := List.mem_of_getElem? (i := 1405) (by decide +kernel)
set_option maxRecDepth 20000 in
theorem qS_Mo_has : (Jvm.Cond.static ({ cls := "ThreeboxesModel", name := "has", desc := "(II)Z" } : Jvm.MethodName)) ∈ lw_tbl := List.mem_of_getElem? (i := 1406) (by decide +kernel)
set_option maxRecDepth 20000 in
theorem qC_Mo_has : (Jvm.Cond.code ({ cls := "ThreeboxesModel", name := "has", desc := "(II)Z" } : Jvm.MethodName) prog_9_method_5_code (2 : Nat) (Option.some Jvm.ClassFile.FieldType.boolean)) ∈ lw_tbl := List.mem_of_getElem? (i := 1407) rfl
set_option maxRecDepth 20000 in
theorem qM_Mo_136 : (Jvm.Cond.methodLink "ThreeboxesModel" (136 : Nat) ({ cls := "ThreeboxesModel", name := "at", desc := "([II)I" } : Jvm.MethodName)) ∈ lw_tbl := List.mem_of_getElem? (i := 1408) (by decide +kernel)
set_option maxRecDepth 20000 in
theorem qS_Mo_at : (Jvm.Cond.static ({ cls := "ThreeboxesModel", name := "at", desc := "([II)I" } : Jvm.MethodName)) ∈ lw_tbl := List.mem_of_getElem? (i := 1409) (by decide +kernel)
set_option maxRecDepth 20000 in
theorem qC_Mo_at : (Jvm.Cond.code ({ cls := "ThreeboxesModel", name := "at", desc := "([II)I" } : Jvm.MethodName) prog_9_method_10_code (4 : Nat) (Option.some Jvm.ClassFile.FieldType.int)) ∈ lw_tbl := List.mem_of_getElem? (i := 1410) rfl
set_option maxRecDepth 20000 in
theorem qM_Mo_143 : (Jvm.Cond.methodLink "ThreeboxesModel" (143 : Nat) ({ cls := "ThreeboxesModel", name := "write", desc := "(II)V" } : Jvm.MethodName)) ∈ lw_tbl := List.mem_of_getElem? (i := 1411) (by decide +kernel)
set_option maxRecDepth 20000 in
theorem qI_Mo_write : (Jvm.Cond.instanceMethod ({ cls := "ThreeboxesModel", name := "write", desc := "(II)V" } : Jvm.MethodName)) ∈ lw_tbl := List.mem_of_getElem? (i := 1413) (by decide +kernel)
set_option maxRecDepth 20000 in
theorem qC_Mo_write : (Jvm.Cond.code ({ cls := "ThreeboxesModel", name := "write", desc := "(II)V" } : Jvm.MethodName) prog_9_method_21_code (3 : Nat) (Option.none : Option Jvm.ClassFile.FieldType)) ∈ lw_tbl := List.mem_of_getElem? (i := 1414) rfl
set_option maxRecDepth 20000 in
theorem qM_La_122 : (Jvm.Cond.methodLink "ThreeboxesLaw" (122 : Nat) ({ cls := "ThreeboxesModel", name := "fresh", desc := "(II)I" } : Jvm.MethodName)) ∈ lw_tbl := List.mem_of_getElem? (i := 1415) (by decide +kernel)
set_option maxRecDepth 20000 in
theorem qI_Mo_fresh : (Jvm.Cond.instanceMethod ({ cls := "ThreeboxesModel", name := "fresh", desc := "(II)I" } : Jvm.MethodName)) ∈ lw_tbl := List.mem_of_getElem? (i := 1416) (by decide +kernel)
set_option maxRecDepth 20000 in
theorem qV_Mo_Mo_fresh : (Jvm.Cond.selects "ThreeboxesModel" ({ cls := "ThreeboxesModel", name := "fresh", desc := "(II)I" } : Jvm.MethodName) ({ cls := "ThreeboxesModel", name := "fresh", desc := "(II)I" } : Jvm.MethodName)) ∈ lw_tbl := List.mem_of_getElem? (i := 1417) (by decide +kernel)
set_option maxRecDepth 20000 in
theorem qC_Mo_fresh : (Jvm.Cond.code ({ cls := "ThreeboxesModel", name := "fresh", desc := "(II)I" } : Jvm.MethodName) prog_9_method_28_code (7 : Nat) (Option.some Jvm.ClassFile.FieldType.int)) ∈ lw_tbl := List.mem_of_getElem? (i := 1418) rfl
set_option maxRecDepth 20000 in
theorem qM_Mo_147 : (Jvm.Cond.methodLink "ThreeboxesModel" (147 : Nat) ({ cls := "ThreeboxesModel", name := "isSecret", desc := "(I)Z" } : Jvm.MethodName)) ∈ lw_tbl := List.mem_of_getElem? (i := 1419) (by decide +kernel)
set_option maxRecDepth 20000 in
theorem qI_Mo_isSecret : (Jvm.Cond.instanceMethod ({ cls := "ThreeboxesModel", name := "isSecret", desc := "(I)Z" } : Jvm.MethodName)) ∈ lw_tbl := List.mem_of_getElem? (i := 1421) (by decide +kernel)
set_option maxRecDepth 20000 in
theorem qC_Mo_isSecret : (Jvm.Cond.code ({ cls := "ThreeboxesModel", name := "isSecret", desc := "(I)Z" } : Jvm.MethodName) prog_9_method_23_code (2 : Nat) (Option.some Jvm.ClassFile.FieldType.boolean)) ∈ lw_tbl := List.mem_of_getElem? (i := 1422) rfl
set_option maxRecDepth 20000 in
theorem qM_Mo_150 : (Jvm.Cond.methodLink "ThreeboxesModel" (150 : Nat) ({ cls := "ThreeboxesModel", name := "group", desc := "(LThreeboxesModel$Secret;I)I" } : Jvm.MethodName)) ∈ lw_tbl := List.mem_of_getElem? (i := 1423) (by decide +kernel)
set_option maxRecDepth 20000 in
theorem qI_Mo_group : (Jvm.Cond.instanceMethod ({ cls := "ThreeboxesModel", name := "group", desc := "(LThreeboxesModel$Secret;I)I" } : Jvm.MethodName)) ∈ lw_tbl := List.mem_of_getElem? (i := 1425) (by decide +kernel)
set_option maxRecDepth 20000 in
theorem qC_Mo_group : (Jvm.Cond.code ({ cls := "ThreeboxesModel", name := "group", desc := "(LThreeboxesModel$Secret;I)I" } : Jvm.MethodName) prog_9_method_13_code (3 : Nat) (Option.some Jvm.ClassFile.FieldType.int)) ∈ lw_tbl := List.mem_of_getElem? (i := 1426) rfl
set_option maxRecDepth 20000 in
theorem qM_Mo_62 : (Jvm.Cond.methodLink "ThreeboxesModel" (62 : Nat) ({ cls := "ThreeboxesModel$Secret", name := "good", desc := "()I" } : Jvm.MethodName)) ∈ lw_tbl := List.mem_of_getElem? (i := 1427) (by decide +kernel)
set_option maxRecDepth 20000 in
theorem qI_MS_good : (Jvm.Cond.instanceMethod ({ cls := "ThreeboxesModel$Secret", name := "good", desc := "()I" } : Jvm.MethodName)) ∈ lw_tbl := List.mem_of_getElem? (i := 1428) (by decide +kernel)
set_option maxRecDepth 20000 in
theorem qV_MS_MS_good : (Jvm.Cond.selects "ThreeboxesModel$Secret" ({ cls := "ThreeboxesModel$Secret", name := "good", desc := "()I" } : Jvm.MethodName) ({ cls := "ThreeboxesModel$Secret", name := "good", desc := "()I" } : Jvm.MethodName)) ∈ lw_tbl := List.mem_of_getElem? (i := 1429) (by decide +kernel)
set_option maxRecDepth 20000 in
theorem qC_MS_good : (Jvm.Cond.code ({ cls := "ThreeboxesModel$Secret", name := "good", desc := "()I" } : Jvm.MethodName) prog_11_method_4_code (3 : Nat) (Option.some Jvm.ClassFile.FieldType.int)) ∈ lw_tbl := List.mem_of_getElem? (i := 1430) rfl
set_option maxRecDepth 20000 in
theorem qM_MS_31 : (Jvm.Cond.methodLink "ThreeboxesModel$Secret" (31 : Nat) ({ cls := "ThreeboxesModel$Secret", name := "isGood", desc := "(I)Z" } : Jvm.MethodName)) ∈ lw_tbl := List.mem_of_getElem? (i := 1431) (by decide +kernel)
set_option maxRecDepth 20000 in
theorem qI_MS_isGood : (Jvm.Cond.instanceMethod ({ cls := "ThreeboxesModel$Secret", name := "isGood", desc := "(I)Z" } : Jvm.MethodName)) ∈ lw_tbl := List.mem_of_getElem? (i := 1432) (by decide +kernel)
set_option maxRecDepth 20000 in
theorem qV_MS_MS_isGood : (Jvm.Cond.selects "ThreeboxesModel$Secret" ({ cls := "ThreeboxesModel$Secret", name := "isGood", desc := "(I)Z" } : Jvm.MethodName) ({ cls := "ThreeboxesModel$Secret", name := "isGood", desc := "(I)Z" } : Jvm.MethodName)) ∈ lw_tbl := List.mem_of_getElem? (i := 1433) (by decide +kernel)
set_option maxRecDepth 20000 in
theorem qC_MS_isGood : (Jvm.Cond.code ({ cls := "ThreeboxesModel$Secret", name := "isGood", desc := "(I)Z" } : Jvm.MethodName) prog_11_method_2_code (2 : Nat) (Option.some Jvm.ClassFile.FieldType.boolean)) ∈ lw_tbl := List.mem_of_getElem? (i := 1434) rfl
set_option maxRecDepth 20000 in
theorem qM_Mo_156 : (Jvm.Cond.methodLink "ThreeboxesModel" (156 : Nat) ({ cls := "ThreeboxesModel$Secret", name := "stale", desc := "()I" } : Jvm.MethodName)) ∈ lw_tbl := List.mem_of_getElem? (i := 1435) (by decide +kernel)
set_option maxRecDepth 20000 in
theorem qI_MS_stale : (Jvm.Cond.instanceMethod ({ cls := "ThreeboxesModel$Secret", name := "stale", desc := "()I" } : Jvm.MethodName)) ∈ lw_tbl := List.mem_of_getElem? (i := 1436) (by decide +kernel)
set_option maxRecDepth 20000 in
theorem qV_MS_MS_stale : (Jvm.Cond.selects "ThreeboxesModel$Secret" ({ cls := "ThreeboxesModel$Secret", name := "stale", desc := "()I" } : Jvm.MethodName) ({ cls := "ThreeboxesModel$Secret", name := "stale", desc := "()I" } : Jvm.MethodName)) ∈ lw_tbl := List.mem_of_getElem? (i := 1437) (by decide +kernel)
set_option maxRecDepth 20000 in
theorem qC_MS_stale : (Jvm.Cond.code ({ cls := "ThreeboxesModel$Secret", name := "stale", desc := "()I" } : Jvm.MethodName) prog_11_method_5_code (3 : Nat) (Option.some Jvm.ClassFile.FieldType.int)) ∈ lw_tbl := List.mem_of_getElem? (i := 1438) rfl
set_option maxRecDepth 20000 in
theorem qM_MS_35 : (Jvm.Cond.methodLink "ThreeboxesModel$Secret" (35 : Nat) ({ cls := "ThreeboxesModel$Secret", name := "isStale", desc := "(I)Z" } : Jvm.MethodName)) ∈ lw_tbl := List.mem_of_getElem? (i := 1439) (by decide +kernel)
set_option maxRecDepth 20000 in
theorem qI_MS_isStale : (Jvm.Cond.instanceMethod ({ cls := "ThreeboxesModel$Secret", name := "isStale", desc := "(I)Z" } : Jvm.MethodName)) ∈ lw_tbl := List.mem_of_getElem? (i := 1440) (by decide +kernel)
set_option maxRecDepth 20000 in
theorem qV_MS_MS_isStale : (Jvm.Cond.selects "ThreeboxesModel$Secret" ({ cls := "ThreeboxesModel$Secret", name := "isStale", desc := "(I)Z" } : Jvm.MethodName) ({ cls := "ThreeboxesModel$Secret", name := "isStale", desc := "(I)Z" } : Jvm.MethodName)) ∈ lw_tbl := List.mem_of_getElem? (i := 1441) (by decide +kernel)
set_option maxRecDepth 20000 in
theorem qC_MS_isStale : (Jvm.Cond.code ({ cls := "ThreeboxesModel$Secret", name := "isStale", desc := "(I)Z" } : Jvm.MethodName) prog_11_method_3_code (2 : Nat) (Option.some Jvm.ClassFile.FieldType.boolean)) ∈ lw_tbl := List.mem_of_getElem? (i := 1442) rfl
set_option maxRecDepth 20000 in
theorem qM_La_126 : (Jvm.Cond.methodLink "ThreeboxesLaw" (126 : Nat) ({ cls := "ThreeboxesModel", name := "flood", desc := "(I)I" } : Jvm.MethodName)) ∈ lw_tbl := List.mem_of_getElem? (i := 1443) (by decide +kernel)
set_option maxRecDepth 20000 in
theorem qI_Mo_flood : (Jvm.Cond.instanceMethod ({ cls := "ThreeboxesModel", name := "flood", desc := "(I)I" } : Jvm.MethodName)) ∈ lw_tbl := List.mem_of_getElem? (i := 1444) (by decide +kernel)
set_option maxRecDepth 20000 in
theorem qV_Mo_Mo_flood : (Jvm.Cond.selects "ThreeboxesModel" ({ cls := "ThreeboxesModel", name := "flood", desc := "(I)I" } : Jvm.MethodName) ({ cls := "ThreeboxesModel", name := "flood", desc := "(I)I" } : Jvm.MethodName)) ∈ lw_tbl := List.mem_of_getElem? (i := 1445) (by decide +kernel)
set_option maxRecDepth 20000 in
theorem qC_Mo_flood : (Jvm.Cond.code ({ cls := "ThreeboxesModel", name := "flood", desc := "(I)I" } : Jvm.MethodName) prog_9_method_29_code (6 : Nat) (Option.some Jvm.ClassFile.FieldType.int)) ∈ lw_tbl := List.mem_of_getElem? (i := 1446) rfl
set_option maxRecDepth 20000 in
theorem qM_La_129 : (Jvm.Cond.methodLink "ThreeboxesLaw" (129 : Nat) ({ cls := "ThreeboxesModel", name := "rebuild", desc := "(III)I" } : Jvm.MethodName)) ∈ lw_tbl := List.mem_of_getElem? (i := 1447) (by decide +kernel)
set_option maxRecDepth 20000 in
theorem qI_Mo_rebuild : (Jvm.Cond.instanceMethod ({ cls := "ThreeboxesModel", name := "rebuild", desc := "(III)I" } : Jvm.MethodName)) ∈ lw_tbl := List.mem_of_getElem? (i := 1448) (by decide +kernel)
set_option maxRecDepth 20000 in
theorem qV_Mo_Mo_rebuild : (Jvm.Cond.selects "ThreeboxesModel" ({ cls := "ThreeboxesModel", name := "rebuild", desc := "(III)I" } : Jvm.MethodName) ({ cls := "ThreeboxesModel", name := "rebuild", desc := "(III)I" } : Jvm.MethodName)) ∈ lw_tbl := List.mem_of_getElem? (i := 1449) (by decide +kernel)
set_option maxRecDepth 20000 in
theorem qC_Mo_rebuild : (Jvm.Cond.code ({ cls := "ThreeboxesModel", name := "rebuild", desc := "(III)I" } : Jvm.MethodName) prog_9_method_30_code (7 : Nat) (Option.some Jvm.ClassFile.FieldType.int)) ∈ lw_tbl := List.mem_of_getElem? (i := 1450) rfl
set_option maxRecDepth 20000 in
theorem qM_Mo_159 : (Jvm.Cond.methodLink "ThreeboxesModel" (159 : Nat) ({ cls := "ThreeboxesModel$Secret", name := "isGood", desc := "(I)Z" } : Jvm.MethodName)) ∈ lw_tbl := List.mem_of_getElem? (i := 1451) (by decide +kernel)
set_option maxRecDepth 20000 in
theorem qM_Mo_162 : (Jvm.Cond.methodLink "ThreeboxesModel" (162 : Nat) ({ cls := "ThreeboxesModel", name := "isGood", desc := "(LThreeboxesModel$Secret;I)Z" } : Jvm.MethodName)) ∈ lw_tbl := List.mem_of_getElem? (i := 1452) (by decide +kernel)
set_option maxRecDepth 20000 in
theorem qI_Mo_isGood : (Jvm.Cond.instanceMethod ({ cls := "ThreeboxesModel", name := "isGood", desc := "(LThreeboxesModel$Secret;I)Z" } : Jvm.MethodName)) ∈ lw_tbl := List.mem_of_getElem? (i := 1454) (by decide +kernel)
set_option maxRecDepth 20000 in
theorem qC_Mo_isGood : (Jvm.Cond.code ({ cls := "ThreeboxesModel", name := "isGood", desc := "(LThreeboxesModel$Secret;I)Z" } : Jvm.MethodName) prog_9_method_17_code (4 : Nat) (Option.some Jvm.ClassFile.FieldType.boolean)) ∈ lw_tbl := List.mem_of_getElem? (i := 1455) rfl
set_option maxRecDepth 20000 in
theorem qM_Mo_91 : (Jvm.Cond.methodLink "ThreeboxesModel" (91 : Nat) ({ cls := "ThreeboxesModel", name := "best", desc := "(LThreeboxesModel$Secret;I)I" } : Jvm.MethodName)) ∈ lw_tbl := List.mem_of_getElem? (i := 1456) (by decide +kernel)
set_option maxRecDepth 20000 in
theorem qI_Mo_best : (Jvm.Cond.instanceMethod ({ cls := "ThreeboxesModel", name := "best", desc := "(LThreeboxesModel$Secret;I)I" } : Jvm.MethodName)) ∈ lw_tbl := List.mem_of_getElem? (i := 1458) (by decide +kernel)
set_option maxRecDepth 20000 in
theorem qC_Mo_best : (Jvm.Cond.code ({ cls := "ThreeboxesModel", name := "best", desc := "(LThreeboxesModel$Secret;I)I" } : Jvm.MethodName) prog_9_method_14_code (7 : Nat) (Option.some Jvm.ClassFile.FieldType.int)) ∈ lw_tbl := List.mem_of_getElem? (i := 1459) rfl
set_option maxRecDepth 20000 in
theorem qM_Mo_72 : (Jvm.Cond.methodLink "ThreeboxesModel" (72 : Nat) ({ cls := "ThreeboxesModel", name := "agreeing", desc := "(LThreeboxesModel$Secret;II)I" } : Jvm.MethodName)) ∈ lw_tbl := List.mem_of_getElem? (i := 1460) (by decide +kernel)
set_option maxRecDepth 20000 in
theorem qI_Mo_agreeing : (Jvm.Cond.instanceMethod ({ cls := "ThreeboxesModel", name := "agreeing", desc := "(LThreeboxesModel$Secret;II)I" } : Jvm.MethodName)) ∈ lw_tbl := List.mem_of_getElem? (i := 1462) (by decide +kernel)
set_option maxRecDepth 20000 in
theorem qC_Mo_agreeing : (Jvm.Cond.code ({ cls := "ThreeboxesModel", name := "agreeing", desc := "(LThreeboxesModel$Secret;II)I" } : Jvm.MethodName) prog_9_method_16_code (6 : Nat) (Option.some Jvm.ClassFile.FieldType.int)) ∈ lw_tbl := List.mem_of_getElem? (i := 1463) rfl
set_option maxRecDepth 20000 in
theorem qM_Mo_88 : (Jvm.Cond.methodLink "ThreeboxesModel" (88 : Nat) ({ cls := "ThreeboxesModel", name := "along", desc := "(LThreeboxesModel$Secret;II)I" } : Jvm.MethodName)) ∈ lw_tbl := List.mem_of_getElem? (i := 1464) (by decide +kernel)
set_option maxRecDepth 20000 in
theorem qI_Mo_along : (Jvm.Cond.instanceMethod ({ cls := "ThreeboxesModel", name := "along", desc := "(LThreeboxesModel$Secret;II)I" } : Jvm.MethodName)) ∈ lw_tbl := List.mem_of_getElem? (i := 1466) (by decide +kernel)
set_option maxRecDepth 20000 in
theorem qC_Mo_along : (Jvm.Cond.code ({ cls := "ThreeboxesModel", name := "along", desc := "(LThreeboxesModel$Secret;II)I" } : Jvm.MethodName) prog_9_method_15_code (6 : Nat) (Option.some Jvm.ClassFile.FieldType.int)) ∈ lw_tbl := List.mem_of_getElem? (i := 1467) rfl
set_option maxRecDepth 20000 in
theorem qM_Mo_80 : (Jvm.Cond.methodLink "ThreeboxesModel" (80 : Nat) ({ cls := "ThreeboxesModel", name := "gives", desc := "(LThreeboxesModel$Secret;I)I" } : Jvm.MethodName)) ∈ lw_tbl := List.mem_of_getElem? (i := 1468) (by decide +kernel)
set_option maxRecDepth 20000 in
theorem qI_Mo_gives : (Jvm.Cond.instanceMethod ({ cls := "ThreeboxesModel", name := "gives", desc := "(LThreeboxesModel$Secret;I)I" } : Jvm.MethodName)) ∈ lw_tbl := List.mem_of_getElem? (i := 1470) (by decide +kernel)
set_option maxRecDepth 20000 in
theorem qC_Mo_gives : (Jvm.Cond.code ({ cls := "ThreeboxesModel", name := "gives", desc := "(LThreeboxesModel$Secret;I)I" } : Jvm.MethodName) prog_9_method_12_code (3 : Nat) (Option.some Jvm.ClassFile.FieldType.int)) ∈ lw_tbl := List.mem_of_getElem? (i := 1471) rfl
set_option maxRecDepth 20000 in
theorem qM_Mo_84 : (Jvm.Cond.methodLink "ThreeboxesModel" (84 : Nat) ({ cls := "ThreeboxesModel", name := "through", desc := "([I[III)I" } : Jvm.MethodName)) ∈ lw_tbl := List.mem_of_getElem? (i := 1472) (by decide +kernel)
set_option maxRecDepth 20000 in
theorem qI_Mo_through : (Jvm.Cond.instanceMethod ({ cls := "ThreeboxesModel", name := "through", desc := "([I[III)I" } : Jvm.MethodName)) ∈ lw_tbl := List.mem_of_getElem? (i := 1474) (by decide +kernel)
set_option maxRecDepth 20000 in
theorem qC_Mo_through : (Jvm.Cond.code ({ cls := "ThreeboxesModel", name := "through", desc := "([I[III)I" } : Jvm.MethodName) prog_9_method_11_code (9 : Nat) (Option.some Jvm.ClassFile.FieldType.int)) ∈ lw_tbl := List.mem_of_getElem? (i := 1475) rfl
set_option maxRecDepth 20000 in
theorem qM_Mo_39 : (Jvm.Cond.methodLink "ThreeboxesModel" (39 : Nat) ({ cls := "ThreeboxesModel", name := "mod", desc := "(I)I" } : Jvm.MethodName)) ∈ lw_tbl := List.mem_of_getElem? (i := 1476) (by decide +kernel)
set_option maxRecDepth 20000 in
theorem qS_Mo_mod : (Jvm.Cond.static ({ cls := "ThreeboxesModel", name := "mod", desc := "(I)I" } : Jvm.MethodName)) ∈ lw_tbl := List.mem_of_getElem? (i := 1477) (by decide +kernel)
set_option maxRecDepth 20000 in
theorem qC_Mo_mod : (Jvm.Cond.code ({ cls := "ThreeboxesModel", name := "mod", desc := "(I)I" } : Jvm.MethodName) prog_9_method_7_code (1 : Nat) (Option.some Jvm.ClassFile.FieldType.int)) ∈ lw_tbl := List.mem_of_getElem? (i := 1478) rfl
set_option maxRecDepth 20000 in
theorem qM_Mo_43 : (Jvm.Cond.methodLink "ThreeboxesModel" (43 : Nat) ({ cls := "ThreeboxesModel", name := "over", desc := "(I)I" } : Jvm.MethodName)) ∈ lw_tbl := List.mem_of_getElem? (i := 1479) (by decide +kernel)
set_option maxRecDepth 20000 in
theorem qI_Mo_over : (Jvm.Cond.instanceMethod ({ cls := "ThreeboxesModel", name := "over", desc := "(I)I" } : Jvm.MethodName)) ∈ lw_tbl := List.mem_of_getElem? (i := 1481) (by decide +kernel)
set_option maxRecDepth 20000 in
theorem qC_Mo_over : (Jvm.Cond.code ({ cls := "ThreeboxesModel", name := "over", desc := "(I)I" } : Jvm.MethodName) prog_9_method_8_code (2 : Nat) (Option.some Jvm.ClassFile.FieldType.int)) ∈ lw_tbl := List.mem_of_getElem? (i := 1482) rfl
set_option maxRecDepth 20000 in
theorem qM_La_133 : (Jvm.Cond.methodLink "ThreeboxesLaw" (133 : Nat) ({ cls := "ThreeboxesModel", name := "freeze", desc := "(IIZ)I" } : Jvm.MethodName)) ∈ lw_tbl := List.mem_of_getElem? (i := 1483) (by decide +kernel)
set_option maxRecDepth 20000 in
theorem qI_Mo_freeze : (Jvm.Cond.instanceMethod ({ cls := "ThreeboxesModel", name := "freeze", desc := "(IIZ)I" } : Jvm.MethodName)) ∈ lw_tbl := List.mem_of_getElem? (i := 1484) (by decide +kernel)
set_option maxRecDepth 20000 in
theorem qV_Mo_Mo_freeze : (Jvm.Cond.selects "ThreeboxesModel" ({ cls := "ThreeboxesModel", name := "freeze", desc := "(IIZ)I" } : Jvm.MethodName) ({ cls := "ThreeboxesModel", name := "freeze", desc := "(IIZ)I" } : Jvm.MethodName)) ∈ lw_tbl := List.mem_of_getElem? (i := 1485) (by decide +kernel)
set_option maxRecDepth 20000 in
theorem qC_Mo_freeze : (Jvm.Cond.code ({ cls := "ThreeboxesModel", name := "freeze", desc := "(IIZ)I" } : Jvm.MethodName) prog_9_method_31_code (5 : Nat) (Option.some Jvm.ClassFile.FieldType.int)) ∈ lw_tbl := List.mem_of_getElem? (i := 1486) rfl
set_option maxRecDepth 20000 in
theorem qM_La_136 : (Jvm.Cond.methodLink "ThreeboxesLaw" (136 : Nat) ({ cls := "ThreeboxesModel", name := "pass", desc := "(I)I" } : Jvm.MethodName)) ∈ lw_tbl := List.mem_of_getElem? (i := 1487) (by decide +kernel)
set_option maxRecDepth 20000 in
theorem qI_Mo_pass : (Jvm.Cond.instanceMethod ({ cls := "ThreeboxesModel", name := "pass", desc := "(I)I" } : Jvm.MethodName)) ∈ lw_tbl := List.mem_of_getElem? (i := 1488) (by decide +kernel)
set_option maxRecDepth 20000 in
theorem qV_Mo_Mo_pass : (Jvm.Cond.selects "ThreeboxesModel" ({ cls := "ThreeboxesModel", name := "pass", desc := "(I)I" } : Jvm.MethodName) ({ cls := "ThreeboxesModel", name := "pass", desc := "(I)I" } : Jvm.MethodName)) ∈ lw_tbl := List.mem_of_getElem? (i := 1489) (by decide +kernel)
set_option maxRecDepth 20000 in
theorem qC_Mo_pass : (Jvm.Cond.code ({ cls := "ThreeboxesModel", name := "pass", desc := "(I)I" } : Jvm.MethodName) prog_9_method_32_code (2 : Nat) (Option.some Jvm.ClassFile.FieldType.int)) ∈ lw_tbl := List.mem_of_getElem? (i := 1490) rfl
set_option maxRecDepth 20000 in
theorem qM_La_139 : (Jvm.Cond.methodLink "ThreeboxesLaw" (139 : Nat) ({ cls := "ThreeboxesModel", name := "open", desc := "(II)I" } : Jvm.MethodName)) ∈ lw_tbl := List.mem_of_getElem? (i := 1491) (by decide +kernel)
set_option maxRecDepth 20000 in
theorem qI_Mo_open : (Jvm.Cond.instanceMethod ({ cls := "ThreeboxesModel", name := "open", desc := "(II)I" } : Jvm.MethodName)) ∈ lw_tbl := List.mem_of_getElem? (i := 1492) (by decide +kernel)
set_option maxRecDepth 20000 in
theorem qV_Mo_Mo_open : (Jvm.Cond.selects "ThreeboxesModel" ({ cls := "ThreeboxesModel", name := "open", desc := "(II)I" } : Jvm.MethodName) ({ cls := "ThreeboxesModel", name := "open", desc := "(II)I" } : Jvm.MethodName)) ∈ lw_tbl := List.mem_of_getElem? (i := 1493) (by decide +kernel)
set_option maxRecDepth 20000 in
theorem qC_Mo_open : (Jvm.Cond.code ({ cls := "ThreeboxesModel", name := "open", desc := "(II)I" } : Jvm.MethodName) prog_9_method_33_code (7 : Nat) (Option.some Jvm.ClassFile.FieldType.int)) ∈ lw_tbl := List.mem_of_getElem? (i := 1494) rfl
set_option maxRecDepth 20000 in
theorem qM_Mo_172 : (Jvm.Cond.methodLink "ThreeboxesModel" (172 : Nat) ({ cls := "ThreeboxesModel", name := "isLawful", desc := "(LThreeboxesModel$Secret;I)Z" } : Jvm.MethodName)) ∈ lw_tbl := List.mem_of_getElem? (i := 1495) (by decide +kernel)
set_option maxRecDepth 20000 in
theorem qI_Mo_isLawful : (Jvm.Cond.instanceMethod ({ cls := "ThreeboxesModel", name := "isLawful", desc := "(LThreeboxesModel$Secret;I)Z" } : Jvm.MethodName)) ∈ lw_tbl := List.mem_of_getElem? (i := 1497) (by decide +kernel)
set_option maxRecDepth 20000 in
theorem qC_Mo_isLawful : (Jvm.Cond.code ({ cls := "ThreeboxesModel", name := "isLawful", desc := "(LThreeboxesModel$Secret;I)Z" } : Jvm.MethodName) prog_9_method_20_code (5 : Nat) (Option.some Jvm.ClassFile.FieldType.boolean)) ∈ lw_tbl := List.mem_of_getElem? (i := 1498) rfl
set_option maxRecDepth 20000 in
theorem qM_Mo_181 : (Jvm.Cond.methodLink "ThreeboxesModel" (181 : Nat) ({ cls := "ThreeboxesModel", name := "liars", desc := "(LThreeboxesModel$Secret;I)I" } : Jvm.MethodName)) ∈ lw_tbl := List.mem_of_getElem? (i := 1499) (by decide +kernel)
set_option maxRecDepth 20000 in
theorem qI_Mo_liars : (Jvm.Cond.instanceMethod ({ cls := "ThreeboxesModel", name := "liars", desc := "(LThreeboxesModel$Secret;I)I" } : Jvm.MethodName)) ∈ lw_tbl := List.mem_of_getElem? (i := 1501) (by decide +kernel)
set_option maxRecDepth 20000 in
theorem qC_Mo_liars : (Jvm.Cond.code ({ cls := "ThreeboxesModel", name := "liars", desc := "(LThreeboxesModel$Secret;I)I" } : Jvm.MethodName) prog_9_method_19_code (3 : Nat) (Option.some Jvm.ClassFile.FieldType.int)) ∈ lw_tbl := List.mem_of_getElem? (i := 1502) rfl
set_option maxRecDepth 20000 in
theorem qM_Mo_187 : (Jvm.Cond.methodLink "ThreeboxesModel" (187 : Nat) ({ cls := "ThreeboxesModel", name := "found", desc := "(LThreeboxesModel$Secret;I)I" } : Jvm.MethodName)) ∈ lw_tbl := List.mem_of_getElem? (i := 1503) (by decide +kernel)
set_option maxRecDepth 20000 in
theorem qI_Mo_found : (Jvm.Cond.instanceMethod ({ cls := "ThreeboxesModel", name := "found", desc := "(LThreeboxesModel$Secret;I)I" } : Jvm.MethodName)) ∈ lw_tbl := List.mem_of_getElem? (i := 1505) (by decide +kernel)
set_option maxRecDepth 20000 in
theorem qC_Mo_found : (Jvm.Cond.code ({ cls := "ThreeboxesModel", name := "found", desc := "(LThreeboxesModel$Secret;I)I" } : Jvm.MethodName) prog_9_method_18_code (3 : Nat) (Option.some Jvm.ClassFile.FieldType.int)) ∈ lw_tbl := List.mem_of_getElem? (i := 1506) rfl
set_option maxRecDepth 20000 in
theorem qM_La_144 : (Jvm.Cond.methodLink "ThreeboxesLaw" (144 : Nat) ({ cls := "ThreeboxesModel", name := "knock", desc := "()I" } : Jvm.MethodName)) ∈ lw_tbl := List.mem_of_getElem? (i := 1507) (by decide +kernel)
set_option maxRecDepth 20000 in
theorem qI_Mo_knock : (Jvm.Cond.instanceMethod ({ cls := "ThreeboxesModel", name := "knock", desc := "()I" } : Jvm.MethodName)) ∈ lw_tbl := List.mem_of_getElem? (i := 1508) (by decide +kernel)
set_option maxRecDepth 20000 in
theorem qV_Mo_Mo_knock : (Jvm.Cond.selects "ThreeboxesModel" ({ cls := "ThreeboxesModel", name := "knock", desc := "()I" } : Jvm.MethodName) ({ cls := "ThreeboxesModel", name := "knock", desc := "()I" } : Jvm.MethodName)) ∈ lw_tbl := List.mem_of_getElem? (i := 1509) (by decide +kernel)
set_option maxRecDepth 20000 in
theorem qC_Mo_knock : (Jvm.Cond.code ({ cls := "ThreeboxesModel", name := "knock", desc := "()I" } : Jvm.MethodName) prog_9_method_34_code (1 : Nat) (Option.some Jvm.ClassFile.FieldType.int)) ∈ lw_tbl := List.mem_of_getElem? (i := 1510) rfl
set_option maxRecDepth 20000 in
theorem qM_La_147 : (Jvm.Cond.methodLink "ThreeboxesLaw" (147 : Nat) ({ cls := "ThreeboxesModel", name := "ofKeeper", desc := "(II)I" } : Jvm.MethodName)) ∈ lw_tbl := List.mem_of_getElem? (i := 1511) (by decide +kernel)
set_option maxRecDepth 20000 in
theorem qI_Mo_ofKeeper : (Jvm.Cond.instanceMethod ({ cls := "ThreeboxesModel", name := "ofKeeper", desc := "(II)I" } : Jvm.MethodName)) ∈ lw_tbl := List.mem_of_getElem? (i := 1512) (by decide +kernel)
set_option maxRecDepth 20000 in
theorem qV_Mo_Mo_ofKeeper : (Jvm.Cond.selects "ThreeboxesModel" ({ cls := "ThreeboxesModel", name := "ofKeeper", desc := "(II)I" } : Jvm.MethodName) ({ cls := "ThreeboxesModel", name := "ofKeeper", desc := "(II)I" } : Jvm.MethodName)) ∈ lw_tbl := List.mem_of_getElem? (i := 1513) (by decide +kernel)
set_option maxRecDepth 20000 in
theorem qC_Mo_ofKeeper : (Jvm.Cond.code ({ cls := "ThreeboxesModel", name := "ofKeeper", desc := "(II)I" } : Jvm.MethodName) prog_9_method_36_code (3 : Nat) (Option.some Jvm.ClassFile.FieldType.int)) ∈ lw_tbl := List.mem_of_getElem? (i := 1514) rfl
set_option maxRecDepth 20000 in
theorem qM_Mo_199 : (Jvm.Cond.methodLink "ThreeboxesModel" (199 : Nat) ({ cls := "ThreeboxesModel", name := "keeperNow", desc := "(II)I" } : Jvm.MethodName)) ∈ lw_tbl := List.mem_of_getElem? (i := 1515) (by decide +kernel)
set_option maxRecDepth 20000 in
theorem qI_Mo_keeperNow : (Jvm.Cond.instanceMethod ({ cls := "ThreeboxesModel", name := "keeperNow", desc := "(II)I" } : Jvm.MethodName)) ∈ lw_tbl := List.mem_of_getElem? (i := 1517) (by decide +kernel)
set_option maxRecDepth 20000 in
theorem qC_Mo_keeperNow : (Jvm.Cond.code ({ cls := "ThreeboxesModel", name := "keeperNow", desc := "(II)I" } : Jvm.MethodName) prog_9_method_35_code (7 : Nat) (Option.some Jvm.ClassFile.FieldType.int)) ∈ lw_tbl := List.mem_of_getElem? (i := 1518) rfl
set_option maxRecDepth 20000 in
theorem qM_Mo_190 : (Jvm.Cond.methodLink "ThreeboxesModel" (190 : Nat) ({ cls := "ThreeboxesModel$Secret", name := "isStale", desc := "(I)Z" } : Jvm.MethodName)) ∈ lw_tbl := List.mem_of_getElem? (i := 1519) (by decide +kernel)
set_option maxRecDepth 20000 in
theorem qM_La_150 : (Jvm.Cond.methodLink "ThreeboxesLaw" (150 : Nat) ({ cls := "ThreeboxesModel", name := "ofSecret", desc := "(II)I" } : Jvm.MethodName)) ∈ lw_tbl := List.mem_of_getElem? (i := 1520) (by decide +kernel)
set_option maxRecDepth 20000 in
theorem qI_Mo_ofSecret : (Jvm.Cond.instanceMethod ({ cls := "ThreeboxesModel", name := "ofSecret", desc := "(II)I" } : Jvm.MethodName)) ∈ lw_tbl := List.mem_of_getElem? (i := 1521) (by decide +kernel)
set_option maxRecDepth 20000 in
theorem qV_Mo_Mo_ofSecret : (Jvm.Cond.selects "ThreeboxesModel" ({ cls := "ThreeboxesModel", name := "ofSecret", desc := "(II)I" } : Jvm.MethodName) ({ cls := "ThreeboxesModel", name := "ofSecret", desc := "(II)I" } : Jvm.MethodName)) ∈ lw_tbl := List.mem_of_getElem? (i := 1522) (by decide +kernel)
set_option maxRecDepth 20000 in
theorem qC_Mo_ofSecret : (Jvm.Cond.code ({ cls := "ThreeboxesModel", name := "ofSecret", desc := "(II)I" } : Jvm.MethodName) prog_9_method_40_code (3 : Nat) (Option.some Jvm.ClassFile.FieldType.int)) ∈ lw_tbl := List.mem_of_getElem? (i := 1523) rfl
set_option maxRecDepth 20000 in
theorem qM_Mo_210 : (Jvm.Cond.methodLink "ThreeboxesModel" (210 : Nat) ({ cls := "ThreeboxesModel", name := "secretNow", desc := "(II)I" } : Jvm.MethodName)) ∈ lw_tbl := List.mem_of_getElem? (i := 1524) (by decide +kernel)
set_option maxRecDepth 20000 in
theorem qI_Mo_secretNow : (Jvm.Cond.instanceMethod ({ cls := "ThreeboxesModel", name := "secretNow", desc := "(II)I" } : Jvm.MethodName)) ∈ lw_tbl := List.mem_of_getElem? (i := 1526) (by decide +kernel)
set_option maxRecDepth 20000 in
theorem qC_Mo_secretNow : (Jvm.Cond.code ({ cls := "ThreeboxesModel", name := "secretNow", desc := "(II)I" } : Jvm.MethodName) prog_9_method_39_code (6 : Nat) (Option.some Jvm.ClassFile.FieldType.int)) ∈ lw_tbl := List.mem_of_getElem? (i := 1527) rfl
set_option maxRecDepth 20000 in
theorem qM_Mo_203 : (Jvm.Cond.methodLink "ThreeboxesModel" (203 : Nat) ({ cls := "ThreeboxesModel", name := "bought", desc := "(LThreeboxesModel$Secret;)I" } : Jvm.MethodName)) ∈ lw_tbl := List.mem_of_getElem? (i := 1528) (by decide +kernel)
set_option maxRecDepth 20000 in
theorem qI_Mo_bought : (Jvm.Cond.instanceMethod ({ cls := "ThreeboxesModel", name := "bought", desc := "(LThreeboxesModel$Secret;)I" } : Jvm.MethodName)) ∈ lw_tbl := List.mem_of_getElem? (i := 1530) (by decide +kernel)
set_option maxRecDepth 20000 in
theorem qC_Mo_bought : (Jvm.Cond.code ({ cls := "ThreeboxesModel", name := "bought", desc := "(LThreeboxesModel$Secret;)I" } : Jvm.MethodName) prog_9_method_38_code (6 : Nat) (Option.some Jvm.ClassFile.FieldType.int)) ∈ lw_tbl := List.mem_of_getElem? (i := 1531) rfl
set_option maxRecDepth 20000 in
theorem qM_Mo_207 : (Jvm.Cond.methodLink "ThreeboxesModel" (207 : Nat) ({ cls := "ThreeboxesModel", name := "priceOf", desc := "(I)I" } : Jvm.MethodName)) ∈ lw_tbl := List.mem_of_getElem? (i := 1532) (by decide +kernel)
set_option maxRecDepth 20000 in
theorem qI_Mo_priceOf : (Jvm.Cond.instanceMethod ({ cls := "ThreeboxesModel", name := "priceOf", desc := "(I)I" } : Jvm.MethodName)) ∈ lw_tbl := List.mem_of_getElem? (i := 1534) (by decide +kernel)
set_option maxRecDepth 20000 in
theorem qC_Mo_priceOf : (Jvm.Cond.code ({ cls := "ThreeboxesModel", name := "priceOf", desc := "(I)I" } : Jvm.MethodName) prog_9_method_37_code (4 : Nat) (Option.some Jvm.ClassFile.FieldType.int)) ∈ lw_tbl := List.mem_of_getElem? (i := 1535) rfl
set_option maxRecDepth 20000 in
theorem qM_La_153 : (Jvm.Cond.methodLink "ThreeboxesLaw" (153 : Nat) ({ cls := "ThreeboxesModel", name := "share", desc := "(III)I" } : Jvm.MethodName)) ∈ lw_tbl := List.mem_of_getElem? (i := 1536) (by decide +kernel)
set_option maxRecDepth 20000 in
theorem qI_Mo_share : (Jvm.Cond.instanceMethod ({ cls := "ThreeboxesModel", name := "share", desc := "(III)I" } : Jvm.MethodName)) ∈ lw_tbl := List.mem_of_getElem? (i := 1537) (by decide +kernel)
set_option maxRecDepth 20000 in
theorem qV_Mo_Mo_share : (Jvm.Cond.selects "ThreeboxesModel" ({ cls := "ThreeboxesModel", name := "share", desc := "(III)I" } : Jvm.MethodName) ({ cls := "ThreeboxesModel", name := "share", desc := "(III)I" } : Jvm.MethodName)) ∈ lw_tbl := List.mem_of_getElem? (i := 1538) (by decide +kernel)
set_option maxRecDepth 20000 in
theorem qC_Mo_share : (Jvm.Cond.code ({ cls := "ThreeboxesModel", name := "share", desc := "(III)I" } : Jvm.MethodName) prog_9_method_42_code (4 : Nat) (Option.some Jvm.ClassFile.FieldType.int)) ∈ lw_tbl := List.mem_of_getElem? (i := 1539) rfl
set_option maxRecDepth 20000 in
theorem qM_Mo_213 : (Jvm.Cond.methodLink "ThreeboxesModel" (213 : Nat) ({ cls := "ThreeboxesModel", name := "shareNow", desc := "(III)I" } : Jvm.MethodName)) ∈ lw_tbl := List.mem_of_getElem? (i := 1540) (by decide +kernel)
set_option maxRecDepth 20000 in
theorem qI_Mo_shareNow : (Jvm.Cond.instanceMethod ({ cls := "ThreeboxesModel", name := "shareNow", desc := "(III)I" } : Jvm.MethodName)) ∈ lw_tbl := List.mem_of_getElem? (i := 1542) (by decide +kernel)
set_option maxRecDepth 20000 in
theorem qC_Mo_shareNow : (Jvm.Cond.code ({ cls := "ThreeboxesModel", name := "shareNow", desc := "(III)I" } : Jvm.MethodName) prog_9_method_41_code (5 : Nat) (Option.some Jvm.ClassFile.FieldType.int)) ∈ lw_tbl := List.mem_of_getElem? (i := 1543) rfl
set_option maxRecDepth 20000 in
theorem qM_La_156 : (Jvm.Cond.methodLink "ThreeboxesLaw" (156 : Nat) ({ cls := "ThreeboxesModel", name := "bank", desc := "(I)I" } : Jvm.MethodName)) ∈ lw_tbl := List.mem_of_getElem? (i := 1544) (by decide +kernel)
set_option maxRecDepth 20000 in
theorem qI_Mo_bank : (Jvm.Cond.instanceMethod ({ cls := "ThreeboxesModel", name := "bank", desc := "(I)I" } : Jvm.MethodName)) ∈ lw_tbl := List.mem_of_getElem? (i := 1545) (by decide +kernel)
set_option maxRecDepth 20000 in
theorem qV_Mo_Mo_bank : (Jvm.Cond.selects "ThreeboxesModel" ({ cls := "ThreeboxesModel", name := "bank", desc := "(I)I" } : Jvm.MethodName) ({ cls := "ThreeboxesModel", name := "bank", desc := "(I)I" } : Jvm.MethodName)) ∈ lw_tbl := List.mem_of_getElem? (i := 1546) (by decide +kernel)
set_option maxRecDepth 20000 in
theorem qC_Mo_bank : (Jvm.Cond.code ({ cls := "ThreeboxesModel", name := "bank", desc := "(I)I" } : Jvm.MethodName) prog_9_method_46_code (2 : Nat) (Option.some Jvm.ClassFile.FieldType.int)) ∈ lw_tbl := List.mem_of_getElem? (i := 1547) rfl
set_option maxRecDepth 20000 in
theorem qM_Mo_225 : (Jvm.Cond.methodLink "ThreeboxesModel" (225 : Nat) ({ cls := "ThreeboxesModel", name := "bankNow", desc := "(I)I" } : Jvm.MethodName)) ∈ lw_tbl := List.mem_of_getElem? (i := 1548) (by decide +kernel)
set_option maxRecDepth 20000 in
theorem qI_Mo_bankNow : (Jvm.Cond.instanceMethod ({ cls := "ThreeboxesModel", name := "bankNow", desc := "(I)I" } : Jvm.MethodName)) ∈ lw_tbl := List.mem_of_getElem? (i := 1550) (by decide +kernel)
set_option maxRecDepth 20000 in
theorem qC_Mo_bankNow : (Jvm.Cond.code ({ cls := "ThreeboxesModel", name := "bankNow", desc := "(I)I" } : Jvm.MethodName) prog_9_method_45_code (6 : Nat) (Option.some Jvm.ClassFile.FieldType.int)) ∈ lw_tbl := List.mem_of_getElem? (i := 1551) rfl
set_option maxRecDepth 20000 in
theorem qM_Mo_222 : (Jvm.Cond.methodLink "ThreeboxesModel" (222 : Nat) ({ cls := "ThreeboxesModel", name := "root", desc := "()I" } : Jvm.MethodName)) ∈ lw_tbl := List.mem_of_getElem? (i := 1552) (by decide +kernel)
set_option maxRecDepth 20000 in
theorem qI_Mo_root : (Jvm.Cond.instanceMethod ({ cls := "ThreeboxesModel", name := "root", desc := "()I" } : Jvm.MethodName)) ∈ lw_tbl := List.mem_of_getElem? (i := 1554) (by decide +kernel)
set_option maxRecDepth 20000 in
theorem qC_Mo_root : (Jvm.Cond.code ({ cls := "ThreeboxesModel", name := "root", desc := "()I" } : Jvm.MethodName) prog_9_method_44_code (1 : Nat) (Option.some Jvm.ClassFile.FieldType.int)) ∈ lw_tbl := List.mem_of_getElem? (i := 1555) rfl
set_option maxRecDepth 20000 in
theorem qM_Mo_218 : (Jvm.Cond.methodLink "ThreeboxesModel" (218 : Nat) ({ cls := "ThreeboxesModel", name := "node", desc := "(IIII)I" } : Jvm.MethodName)) ∈ lw_tbl := List.mem_of_getElem? (i := 1556) (by decide +kernel)
set_option maxRecDepth 20000 in
theorem qI_Mo_node : (Jvm.Cond.instanceMethod ({ cls := "ThreeboxesModel", name := "node", desc := "(IIII)I" } : Jvm.MethodName)) ∈ lw_tbl := List.mem_of_getElem? (i := 1558) (by decide +kernel)
set_option maxRecDepth 20000 in
theorem qC_Mo_node : (Jvm.Cond.code ({ cls := "ThreeboxesModel", name := "node", desc := "(IIII)I" } : Jvm.MethodName) prog_9_method_43_code (5 : Nat) (Option.some Jvm.ClassFile.FieldType.int)) ∈ lw_tbl := List.mem_of_getElem? (i := 1559) rfl
set_option maxRecDepth 20000 in
theorem qK_Mo_217 : (Jvm.Cond.classLink "ThreeboxesModel" (217 : Nat) "[I") ∈ lw_tbl := List.mem_of_getElem? (i := 1560) (by decide +kernel)
set_option maxRecDepth 20000 in
theorem qM_La_159 : (Jvm.Cond.methodLink "ThreeboxesLaw" (159 : Nat) ({ cls := "ThreeboxesModel", name := "ofEntry", desc := "(II)I" } : Jvm.MethodName)) ∈ lw_tbl := List.mem_of_getElem? (i := 1561) (by decide +kernel)
set_option maxRecDepth 20000 in
theorem qI_Mo_ofEntry : (Jvm.Cond.instanceMethod ({ cls := "ThreeboxesModel", name := "ofEntry", desc := "(II)I" } : Jvm.MethodName)) ∈ lw_tbl := List.mem_of_getElem? (i := 1562) (by decide +kernel)
set_option maxRecDepth 20000 in
theorem qV_Mo_Mo_ofEntry : (Jvm.Cond.selects "ThreeboxesModel" ({ cls := "ThreeboxesModel", name := "ofEntry", desc := "(II)I" } : Jvm.MethodName) ({ cls := "ThreeboxesModel", name := "ofEntry", desc := "(II)I" } : Jvm.MethodName)) ∈ lw_tbl := List.mem_of_getElem? (i := 1563) (by decide +kernel)
set_option maxRecDepth 20000 in
theorem qC_Mo_ofEntry : (Jvm.Cond.code ({ cls := "ThreeboxesModel", name := "ofEntry", desc := "(II)I" } : Jvm.MethodName) prog_9_method_48_code (3 : Nat) (Option.some Jvm.ClassFile.FieldType.int)) ∈ lw_tbl := List.mem_of_getElem? (i := 1564) rfl
set_option maxRecDepth 20000 in
theorem qM_Mo_228 : (Jvm.Cond.methodLink "ThreeboxesModel" (228 : Nat) ({ cls := "ThreeboxesModel", name := "isEntry", desc := "(I)Z" } : Jvm.MethodName)) ∈ lw_tbl := List.mem_of_getElem? (i := 1565) (by decide +kernel)
set_option maxRecDepth 20000 in
theorem qI_Mo_isEntry : (Jvm.Cond.instanceMethod ({ cls := "ThreeboxesModel", name := "isEntry", desc := "(I)Z" } : Jvm.MethodName)) ∈ lw_tbl := List.mem_of_getElem? (i := 1567) (by decide +kernel)
set_option maxRecDepth 20000 in
theorem qC_Mo_isEntry : (Jvm.Cond.code ({ cls := "ThreeboxesModel", name := "isEntry", desc := "(I)Z" } : Jvm.MethodName) prog_9_method_47_code (2 : Nat) (Option.some Jvm.ClassFile.FieldType.boolean)) ∈ lw_tbl := List.mem_of_getElem? (i := 1568) rfl
set_option maxRecDepth 20000 in
theorem qM_La_162 : (Jvm.Cond.methodLink "ThreeboxesLaw" (162 : Nat) ({ cls := "ThreeboxesModel", name := "proof", desc := "(II)I" } : Jvm.MethodName)) ∈ lw_tbl := List.mem_of_getElem? (i := 1569) (by decide +kernel)
set_option maxRecDepth 20000 in
theorem qI_Mo_proof : (Jvm.Cond.instanceMethod ({ cls := "ThreeboxesModel", name := "proof", desc := "(II)I" } : Jvm.MethodName)) ∈ lw_tbl := List.mem_of_getElem? (i := 1570) (by decide +kernel)
set_option maxRecDepth 20000 in
theorem qV_Mo_Mo_proof : (Jvm.Cond.selects "ThreeboxesModel" ({ cls := "ThreeboxesModel", name := "proof", desc := "(II)I" } : Jvm.MethodName) ({ cls := "ThreeboxesModel", name := "proof", desc := "(II)I" } : Jvm.MethodName)) ∈ lw_tbl := List.mem_of_getElem? (i := 1571) (by decide +kernel)
set_option maxRecDepth 20000 in
theorem qC_Mo_proof : (Jvm.Cond.code ({ cls := "ThreeboxesModel", name := "proof", desc := "(II)I" } : Jvm.MethodName) prog_9_method_50_code (3 : Nat) (Option.some Jvm.ClassFile.FieldType.int)) ∈ lw_tbl := List.mem_of_getElem? (i := 1572) rfl
set_option maxRecDepth 20000 in
theorem qM_Mo_231 : (Jvm.Cond.methodLink "ThreeboxesModel" (231 : Nat) ({ cls := "ThreeboxesModel", name := "proofNow", desc := "(II)I" } : Jvm.MethodName)) ∈ lw_tbl := List.mem_of_getElem? (i := 1573) (by decide +kernel)
set_option maxRecDepth 20000 in
theorem qI_Mo_proofNow : (Jvm.Cond.instanceMethod ({ cls := "ThreeboxesModel", name := "proofNow", desc := "(II)I" } : Jvm.MethodName)) ∈ lw_tbl := List.mem_of_getElem? (i := 1575) (by decide +kernel)
set_option maxRecDepth 20000 in
theorem qC_Mo_proofNow : (Jvm.Cond.code ({ cls := "ThreeboxesModel", name := "proofNow", desc := "(II)I" } : Jvm.MethodName) prog_9_method_49_code (5 : Nat) (Option.some Jvm.ClassFile.FieldType.int)) ∈ lw_tbl := List.mem_of_getElem? (i := 1576) rfl
set_option maxRecDepth 20000 in
theorem qM_La_165 : (Jvm.Cond.methodLink "ThreeboxesLaw" (165 : Nat) ({ cls := "ThreeboxesModel", name := "row", desc := "(I)Ljava/lang/String;" } : Jvm.MethodName)) ∈ lw_tbl := List.mem_of_getElem? (i := 1577) (by decide +kernel)
set_option maxRecDepth 20000 in
theorem qI_Mo_row : (Jvm.Cond.instanceMethod ({ cls := "ThreeboxesModel", name := "row", desc := "(I)Ljava/lang/String;" } : Jvm.MethodName)) ∈ lw_tbl := List.mem_of_getElem? (i := 1578) (by decide +kernel)
set_option maxRecDepth 20000 in
theorem qV_Mo_Mo_row : (Jvm.Cond.selects "ThreeboxesModel" ({ cls := "ThreeboxesModel", name := "row", desc := "(I)Ljava/lang/String;" } : Jvm.MethodName) ({ cls := "ThreeboxesModel", name := "row", desc := "(I)Ljava/lang/String;" } : Jvm.MethodName)) ∈ lw_tbl := List.mem_of_getElem? (i := 1579) (by decide +kernel)
set_option maxRecDepth 20000 in
theorem qC_Mo_row : (Jvm.Cond.code ({ cls := "ThreeboxesModel", name := "row", desc := "(I)Ljava/lang/String;" } : Jvm.MethodName) prog_9_method_51_code (5 : Nat) (Option.some (Jvm.ClassFile.FieldType.object "java/lang/String"))) ∈ lw_tbl := List.mem_of_getElem? (i := 1580) rfl
set_option maxRecDepth 20000 in
theorem qR_Mo_234 : (Jvm.Cond.stringRef "ThreeboxesModel" (234 : Nat) "") ∈ lw_tbl := List.mem_of_getElem? (i := 1581) (by decide +kernel)
set_option maxRecDepth 20000 in
theorem qK_Mo_236 : (Jvm.Cond.classLink "ThreeboxesModel" (236 : Nat) "java/lang/StringBuilder") ∈ lw_tbl := List.mem_of_getElem? (i := 1582) (by decide +kernel)
set_option maxRecDepth 20000 in
theorem qM_Mo_238 : (Jvm.Cond.methodLink "ThreeboxesModel" (238 : Nat) ({ cls := "java/lang/StringBuilder", name := "<init>", desc := "()V" } : Jvm.MethodName)) ∈ lw_tbl := List.mem_of_getElem? (i := 1583) (by decide +kernel)
set_option maxRecDepth 20000 in
theorem qM_Mo_239 : (Jvm.Cond.methodLink "ThreeboxesModel" (239 : Nat) ({ cls := "java/lang/StringBuilder", name := "append", desc := "(C)Ljava/lang/StringBuilder;" } : Jvm.MethodName)) ∈ lw_tbl := List.mem_of_getElem? (i := 1584) (by decide +kernel)
set_option maxRecDepth 20000 in
theorem qM_Mo_243 : (Jvm.Cond.methodLink "ThreeboxesModel" (243 : Nat) ({ cls := "java/lang/StringBuilder", name := "toString", desc := "()Ljava/lang/String;" } : Jvm.MethodName)) ∈ lw_tbl := List.mem_of_getElem? (i := 1585) (by decide +kernel)
set_option maxRecDepth 20000 in
theorem qM_La_168 : (Jvm.Cond.methodLink "ThreeboxesLaw" (168 : Nat) ({ cls := "ThreeboxesModel", name := "would", desc := "(III)I" } : Jvm.MethodName)) ∈ lw_tbl := List.mem_of_getElem? (i := 1586) (by decide +kernel)
set_option maxRecDepth 20000 in
theorem qI_Mo_would : (Jvm.Cond.instanceMethod ({ cls := "ThreeboxesModel", name := "would", desc := "(III)I" } : Jvm.MethodName)) ∈ lw_tbl := List.mem_of_getElem? (i := 1587) (by decide +kernel)
set_option maxRecDepth 20000 in
theorem qV_Mo_Mo_would : (Jvm.Cond.selects "ThreeboxesModel" ({ cls := "ThreeboxesModel", name := "would", desc := "(III)I" } : Jvm.MethodName) ({ cls := "ThreeboxesModel", name := "would", desc := "(III)I" } : Jvm.MethodName)) ∈ lw_tbl := List.mem_of_getElem? (i := 1588) (by decide +kernel)
set_option maxRecDepth 20000 in
theorem qC_Mo_would : (Jvm.Cond.code ({ cls := "ThreeboxesModel", name := "would", desc := "(III)I" } : Jvm.MethodName) prog_9_method_53_code (4 : Nat) (Option.some Jvm.ClassFile.FieldType.int)) ∈ lw_tbl := List.mem_of_getElem? (i := 1589) rfl
set_option maxRecDepth 20000 in
theorem qM_Mo_247 : (Jvm.Cond.methodLink "ThreeboxesModel" (247 : Nat) ({ cls := "ThreeboxesModel", name := "wouldNow", desc := "(III)I" } : Jvm.MethodName)) ∈ lw_tbl := List.mem_of_getElem? (i := 1590) (by decide +kernel)
set_option maxRecDepth 20000 in
theorem qI_Mo_wouldNow : (Jvm.Cond.instanceMethod ({ cls := "ThreeboxesModel", name := "wouldNow", desc := "(III)I" } : Jvm.MethodName)) ∈ lw_tbl := List.mem_of_getElem? (i := 1592) (by decide +kernel)
set_option maxRecDepth 20000 in
theorem qC_Mo_wouldNow : (Jvm.Cond.code ({ cls := "ThreeboxesModel", name := "wouldNow", desc := "(III)I" } : Jvm.MethodName) prog_9_method_52_code (9 : Nat) (Option.some Jvm.ClassFile.FieldType.int)) ∈ lw_tbl := List.mem_of_getElem? (i := 1593) rfl
set_option maxRecDepth 20000 in
theorem qM_La_171 : (Jvm.Cond.methodLink "ThreeboxesLaw" (171 : Nat) ({ cls := "ThreeboxesModel", name := "may", desc := "(III)Z" } : Jvm.MethodName)) ∈ lw_tbl := List.mem_of_getElem? (i := 1594) (by decide +kernel)
set_option maxRecDepth 20000 in
theorem qI_Mo_may : (Jvm.Cond.instanceMethod ({ cls := "ThreeboxesModel", name := "may", desc := "(III)Z" } : Jvm.MethodName)) ∈ lw_tbl := List.mem_of_getElem? (i := 1595) (by decide +kernel)
set_option maxRecDepth 20000 in
theorem qV_Mo_Mo_may : (Jvm.Cond.selects "ThreeboxesModel" ({ cls := "ThreeboxesModel", name := "may", desc := "(III)Z" } : Jvm.MethodName) ({ cls := "ThreeboxesModel", name := "may", desc := "(III)Z" } : Jvm.MethodName)) ∈ lw_tbl := List.mem_of_getElem? (i := 1596) (by decide +kernel)
set_option maxRecDepth 20000 in
theorem qC_Mo_may : (Jvm.Cond.code ({ cls := "ThreeboxesModel", name := "may", desc := "(III)Z" } : Jvm.MethodName) prog_9_method_54_code (10 : Nat) (Option.some Jvm.ClassFile.FieldType.boolean)) ∈ lw_tbl := List.mem_of_getElem? (i := 1597) rfl
set_option maxRecDepth 20000 in
theorem qM_La_174 : (Jvm.Cond.methodLink "ThreeboxesLaw" (174 : Nat) ({ cls := "ThreeboxesModel", name := "lost", desc := "(I)D" } : Jvm.MethodName)) ∈ lw_tbl := List.mem_of_getElem? (i := 1598) (by decide +kernel)
set_option maxRecDepth 20000 in
theorem qI_Mo_lost : (Jvm.Cond.instanceMethod ({ cls := "ThreeboxesModel", name := "lost", desc := "(I)D" } : Jvm.MethodName)) ∈ lw_tbl := List.mem_of_getElem? (i := 1599) (by decide +kernel)
set_option maxRecDepth 20000 in
theorem qV_Mo_Mo_lost : (Jvm.Cond.selects "ThreeboxesModel" ({ cls := "ThreeboxesModel", name := "lost", desc := "(I)D" } : Jvm.MethodName) ({ cls := "ThreeboxesModel", name := "lost", desc := "(I)D" } : Jvm.MethodName)) ∈ lw_tbl := List.mem_of_getElem? (i := 1600) (by decide +kernel)
set_option maxRecDepth 20000 in
theorem qC_Mo_lost : (Jvm.Cond.code ({ cls := "ThreeboxesModel", name := "lost", desc := "(I)D" } : Jvm.MethodName) prog_9_method_56_code (2 : Nat) (Option.some Jvm.ClassFile.FieldType.double)) ∈ lw_tbl := List.mem_of_getElem? (i := 1601) rfl
set_option maxRecDepth 20000 in
theorem qM_Mo_252 : (Jvm.Cond.methodLink "ThreeboxesModel" (252 : Nat) ({ cls := "ThreeboxesModel", name := "lostNow", desc := "(I)D" } : Jvm.MethodName)) ∈ lw_tbl := List.mem_of_getElem? (i := 1602) (by decide +kernel)
set_option maxRecDepth 20000 in
theorem qI_Mo_lostNow : (Jvm.Cond.instanceMethod ({ cls := "ThreeboxesModel", name := "lostNow", desc := "(I)D" } : Jvm.MethodName)) ∈ lw_tbl := List.mem_of_getElem? (i := 1604) (by decide +kernel)
set_option maxRecDepth 20000 in
theorem qC_Mo_lostNow : (Jvm.Cond.code ({ cls := "ThreeboxesModel", name := "lostNow", desc := "(I)D" } : Jvm.MethodName) prog_9_method_55_code (7 : Nat) (Option.some Jvm.ClassFile.FieldType.double)) ∈ lw_tbl := List.mem_of_getElem? (i := 1605) rfl
set_option maxRecDepth 20000 in
theorem qXd_Mo_250 : (Jvm.Cond.constantDouble "ThreeboxesModel" (250 : Nat) (4636737291354636288 : UInt64)) ∈ lw_tbl := List.mem_of_getElem? (i := 1606) (by decide +kernel)
set_option maxRecDepth 20000 in
theorem qM_La_177 : (Jvm.Cond.methodLink "ThreeboxesLaw" (177 : Nat) ({ cls := "ThreeboxesModel", name := "fewest", desc := "(I)I" } : Jvm.MethodName)) ∈ lw_tbl := List.mem_of_getElem? (i := 1607) (by decide +kernel)
set_option maxRecDepth 20000 in
theorem qI_Mo_fewest : (Jvm.Cond.instanceMethod ({ cls := "ThreeboxesModel", name := "fewest", desc := "(I)I" } : Jvm.MethodName)) ∈ lw_tbl := List.mem_of_getElem? (i := 1608) (by decide +kernel)
set_option maxRecDepth 20000 in
theorem qV_Mo_Mo_fewest : (Jvm.Cond.selects "ThreeboxesModel" ({ cls := "ThreeboxesModel", name := "fewest", desc := "(I)I" } : Jvm.MethodName) ({ cls := "ThreeboxesModel", name := "fewest", desc := "(I)I" } : Jvm.MethodName)) ∈ lw_tbl := List.mem_of_getElem? (i := 1609) (by decide +kernel)
set_option maxRecDepth 20000 in
theorem qC_Mo_fewest : (Jvm.Cond.code ({ cls := "ThreeboxesModel", name := "fewest", desc := "(I)I" } : Jvm.MethodName) prog_9_method_58_code (2 : Nat) (Option.some Jvm.ClassFile.FieldType.int)) ∈ lw_tbl := List.mem_of_getElem? (i := 1610) rfl
set_option maxRecDepth 20000 in
theorem qM_Mo_256 : (Jvm.Cond.methodLink "ThreeboxesModel" (256 : Nat) ({ cls := "ThreeboxesModel", name := "fewestNow", desc := "(I)I" } : Jvm.MethodName)) ∈ lw_tbl := List.mem_of_getElem? (i := 1611) (by decide +kernel)
set_option maxRecDepth 20000 in
theorem qI_Mo_fewestNow : (Jvm.Cond.instanceMethod ({ cls := "ThreeboxesModel", name := "fewestNow", desc := "(I)I" } : Jvm.MethodName)) ∈ lw_tbl := List.mem_of_getElem? (i := 1613) (by decide +kernel)
set_option maxRecDepth 20000 in
theorem qC_Mo_fewestNow : (Jvm.Cond.code ({ cls := "ThreeboxesModel", name := "fewestNow", desc := "(I)I" } : Jvm.MethodName) prog_9_method_57_code (7 : Nat) (Option.some Jvm.ClassFile.FieldType.int)) ∈ lw_tbl := List.mem_of_getElem? (i := 1614) rfl
set_option maxRecDepth 20000 in
theorem qM_La_180 : (Jvm.Cond.methodLink "ThreeboxesLaw" (180 : Nat) ({ cls := "ThreeboxesModel", name := "proves", desc := "(II)Z" } : Jvm.MethodName)) ∈ lw_tbl := List.mem_of_getElem? (i := 1615) (by decide +kernel)
set_option maxRecDepth 20000 in
theorem qI_Mo_proves : (Jvm.Cond.instanceMethod ({ cls := "ThreeboxesModel", name := "proves", desc := "(II)Z" } : Jvm.MethodName)) ∈ lw_tbl := List.mem_of_getElem? (i := 1616) (by decide +kernel)
set_option maxRecDepth 20000 in
theorem qV_Mo_Mo_proves : (Jvm.Cond.selects "ThreeboxesModel" ({ cls := "ThreeboxesModel", name := "proves", desc := "(II)Z" } : Jvm.MethodName) ({ cls := "ThreeboxesModel", name := "proves", desc := "(II)Z" } : Jvm.MethodName)) ∈ lw_tbl := List.mem_of_getElem? (i := 1617) (by decide +kernel)
set_option maxRecDepth 20000 in
theorem qC_Mo_proves : (Jvm.Cond.code ({ cls := "ThreeboxesModel", name := "proves", desc := "(II)Z" } : Jvm.MethodName) prog_9_method_59_code (3 : Nat) (Option.some Jvm.ClassFile.FieldType.boolean)) ∈ lw_tbl := List.mem_of_getElem? (i := 1618) rfl
set_option maxRecDepth 20000 in
theorem qM_La_185 : (Jvm.Cond.methodLink "ThreeboxesLaw" (185 : Nat) ({ cls := "ThreeboxesModel", name := "isSound", desc := "()Z" } : Jvm.MethodName)) ∈ lw_tbl := List.mem_of_getElem? (i := 1619) (by decide +kernel)
set_option maxRecDepth 20000 in
theorem qI_Mo_isSound : (Jvm.Cond.instanceMethod ({ cls := "ThreeboxesModel", name := "isSound", desc := "()Z" } : Jvm.MethodName)) ∈ lw_tbl := List.mem_of_getElem? (i := 1620) (by decide +kernel)
set_option maxRecDepth 20000 in
theorem qV_Mo_Mo_isSound : (Jvm.Cond.selects "ThreeboxesModel" ({ cls := "ThreeboxesModel", name := "isSound", desc := "()Z" } : Jvm.MethodName) ({ cls := "ThreeboxesModel", name := "isSound", desc := "()Z" } : Jvm.MethodName)) ∈ lw_tbl := List.mem_of_getElem? (i := 1621) (by decide +kernel)
set_option maxRecDepth 20000 in
theorem qC_Mo_isSound : (Jvm.Cond.code ({ cls := "ThreeboxesModel", name := "isSound", desc := "()Z" } : Jvm.MethodName) prog_9_method_62_code (1 : Nat) (Option.some Jvm.ClassFile.FieldType.boolean)) ∈ lw_tbl := List.mem_of_getElem? (i := 1622) rfl
set_option maxRecDepth 20000 in
theorem qM_Mo_263 : (Jvm.Cond.methodLink "ThreeboxesModel" (263 : Nat) ({ cls := "ThreeboxesModel", name := "isSoundNow", desc := "()Z" } : Jvm.MethodName)) ∈ lw_tbl := List.mem_of_getElem? (i := 1623) (by decide +kernel)
set_option maxRecDepth 20000 in
theorem qI_Mo_isSoundNow : (Jvm.Cond.instanceMethod ({ cls := "ThreeboxesModel", name := "isSoundNow", desc := "()Z" } : Jvm.MethodName)) ∈ lw_tbl := List.mem_of_getElem? (i := 1625) (by decide +kernel)
set_option maxRecDepth 20000 in
theorem qC_Mo_isSoundNow : (Jvm.Cond.code ({ cls := "ThreeboxesModel", name := "isSoundNow", desc := "()Z" } : Jvm.MethodName) prog_9_method_61_code (4 : Nat) (Option.some Jvm.ClassFile.FieldType.boolean)) ∈ lw_tbl := List.mem_of_getElem? (i := 1626) rfl
set_option maxRecDepth 20000 in
theorem qM_Mo_259 : (Jvm.Cond.methodLink "ThreeboxesModel" (259 : Nat) ({ cls := "ThreeboxesModel", name := "isOneCurve", desc := "(LThreeboxesModel$Secret;)Z" } : Jvm.MethodName)) ∈ lw_tbl := List.mem_of_getElem? (i := 1627) (by decide +kernel)
set_option maxRecDepth 20000 in
theorem qI_Mo_isOneCurve : (Jvm.Cond.instanceMethod ({ cls := "ThreeboxesModel", name := "isOneCurve", desc := "(LThreeboxesModel$Secret;)Z" } : Jvm.MethodName)) ∈ lw_tbl := List.mem_of_getElem? (i := 1629) (by decide +kernel)
set_option maxRecDepth 20000 in
theorem qC_Mo_isOneCurve : (Jvm.Cond.code ({ cls := "ThreeboxesModel", name := "isOneCurve", desc := "(LThreeboxesModel$Secret;)Z" } : Jvm.MethodName) prog_9_method_60_code (6 : Nat) (Option.some Jvm.ClassFile.FieldType.boolean)) ∈ lw_tbl := List.mem_of_getElem? (i := 1630) rfl
set_option maxRecDepth 20000 in
theorem qM_La_190 : (Jvm.Cond.methodLink "ThreeboxesLaw" (190 : Nat) ({ cls := "ThreeboxesModel", name := "digest", desc := "()J" } : Jvm.MethodName)) ∈ lw_tbl := List.mem_of_getElem? (i := 1631) (by decide +kernel)
set_option maxRecDepth 20000 in
theorem qI_Mo_digest : (Jvm.Cond.instanceMethod ({ cls := "ThreeboxesModel", name := "digest", desc := "()J" } : Jvm.MethodName)) ∈ lw_tbl := List.mem_of_getElem? (i := 1632) (by decide +kernel)
set_option maxRecDepth 20000 in
theorem qV_Mo_Mo_digest : (Jvm.Cond.selects "ThreeboxesModel" ({ cls := "ThreeboxesModel", name := "digest", desc := "()J" } : Jvm.MethodName) ({ cls := "ThreeboxesModel", name := "digest", desc := "()J" } : Jvm.MethodName)) ∈ lw_tbl := List.mem_of_getElem? (i := 1633) (by decide +kernel)
set_option maxRecDepth 20000 in
theorem qC_Mo_digest : (Jvm.Cond.code ({ cls := "ThreeboxesModel", name := "digest", desc := "()J" } : Jvm.MethodName) prog_9_method_63_code (6 : Nat) (Option.some Jvm.ClassFile.FieldType.long)) ∈ lw_tbl := List.mem_of_getElem? (i := 1634) rfl
set_option maxRecDepth 20000 in
theorem qXl_Mo_267 : (Jvm.Cond.constantLong "ThreeboxesModel" (267 : Nat) (7507 : Int64)) ∈ lw_tbl := List.mem_of_getElem? (i := 1635) (by decide +kernel)
set_option maxRecDepth 20000 in
theorem qXl_Mo_269 : (Jvm.Cond.constantLong "ThreeboxesModel" (269 : Nat) (31 : Int64)) ∈ lw_tbl := List.mem_of_getElem? (i := 1636) (by decide +kernel)
set_option maxRecDepth 20000 in
theorem qXd_Mo_271 : (Jvm.Cond.constantDouble "ThreeboxesModel" (271 : Nat) (4661225614328463360 : UInt64)) ∈ lw_tbl := List.mem_of_getElem? (i := 1637) (by decide +kernel)
set_option maxRecDepth 20000 in
theorem qSm_Th_javalangThrowable_fillInStackTrace_ILjavalangThrowable : (Jvm.Cond.sameMethod "java/lang/Throwable" "java/lang/Throwable" "fillInStackTrace" "(I)Ljava/lang/Throwable;") ∈ lw_tbl := List.mem_of_getElem? (i := 1638) (by decide +kernel)
set_option maxRecDepth 20000 in
theorem qSm_AB_javalangAbstractStringBuilder_append_CLjavalangAbstractStringBuilder : (Jvm.Cond.sameMethod "java/lang/AbstractStringBuilder" "java/lang/AbstractStringBuilder" "append" "(C)Ljava/lang/AbstractStringBuilder;") ∈ lw_tbl := List.mem_of_getElem? (i := 1639) (by decide +kernel)
set_option maxRecDepth 20000 in
theorem qSm_AB_javalangAbstractStringBuilder_ensureCapacityInternal_IV : (Jvm.Cond.sameMethod "java/lang/AbstractStringBuilder" "java/lang/AbstractStringBuilder" "ensureCapacityInternal" "(I)V") ∈ lw_tbl := List.mem_of_getElem? (i := 1640) (by decide +kernel)
set_option maxRecDepth 20000 in
theorem qSm_AB_javalangAbstractStringBuilder_newCapacity_II : (Jvm.Cond.sameMethod "java/lang/AbstractStringBuilder" "java/lang/AbstractStringBuilder" "newCapacity" "(I)I") ∈ lw_tbl := List.mem_of_getElem? (i := 1641) (by decide +kernel)
set_option maxRecDepth 20000 in
theorem qSm_AB_javalangAbstractStringBuilder_inflate_V : (Jvm.Cond.sameMethod "java/lang/AbstractStringBuilder" "java/lang/AbstractStringBuilder" "inflate" "()V") ∈ lw_tbl := List.mem_of_getElem? (i := 1642) (by decide +kernel)
set_option maxRecDepth 20000 in
theorem qSm_AB_javalangAbstractStringBuilder_append_ILjavalangAbstractStringBuilder : (Jvm.Cond.sameMethod "java/lang/AbstractStringBuilder" "java/lang/AbstractStringBuilder" "append" "(I)Ljava/lang/AbstractStringBuilder;") ∈ lw_tbl := List.mem_of_getElem? (i := 1643) (by decide +kernel)
set_option maxRecDepth 20000 in
theorem qSm_AB_javalangAbstractStringBuilder_append_LjavalangStringLjavalangAbstractStringBuilder : (Jvm.Cond.sameMethod "java/lang/AbstractStringBuilder" "java/lang/AbstractStringBuilder" "append" "(Ljava/lang/String;)Ljava/lang/AbstractStringBuilder;") ∈ lw_tbl := List.mem_of_getElem? (i := 1644) (by decide +kernel)
set_option maxRecDepth 20000 in
theorem qSm_AB_javalangAbstractStringBuilder_appendNull_LjavalangAbstractStringBuilder : (Jvm.Cond.sameMethod "java/lang/AbstractStringBuilder" "java/lang/AbstractStringBuilder" "appendNull" "()Ljava/lang/AbstractStringBuilder;") ∈ lw_tbl := List.mem_of_getElem? (i := 1645) (by decide +kernel)
set_option maxRecDepth 20000 in
theorem qSm_AB_javalangAbstractStringBuilder_putStringAt_ILjavalangStringV : (Jvm.Cond.sameMethod "java/lang/AbstractStringBuilder" "java/lang/AbstractStringBuilder" "putStringAt" "(ILjava/lang/String;)V") ∈ lw_tbl := List.mem_of_getElem? (i := 1646) (by decide +kernel)
set_option maxRecDepth 20000 in
theorem qSm_AB_javalangAbstractStringBuilder_inflateIfNeededFor_LjavalangStringV : (Jvm.Cond.sameMethod "java/lang/AbstractStringBuilder" "java/lang/AbstractStringBuilder" "inflateIfNeededFor" "(Ljava/lang/String;)V") ∈ lw_tbl := List.mem_of_getElem? (i := 1647) (by decide +kernel)
set_option maxRecDepth 20000 in
theorem qT_Tb_Oj : (Jvm.Cond.castable "Threeboxes" "java/lang/Object") ∈ lw_tbl := List.mem_of_getElem? (i := 1648) (by decide +kernel)
set_option maxRecDepth 20000 in
theorem qT_AL_Oj : (Jvm.Cond.castable "java/util/ArrayList" "java/lang/Object") ∈ lw_tbl := List.mem_of_getElem? (i := 1649) (by decide +kernel)
set_option maxRecDepth 20000 in
theorem qT_Re_Oj : (Jvm.Cond.castable "Threeboxes$Register" "java/lang/Object") ∈ lw_tbl := List.mem_of_getElem? (i := 1650) (by decide +kernel)
set_option maxRecDepth 20000 in
theorem qT_Cu_Oj : (Jvm.Cond.castable "Threeboxes$Curve" "java/lang/Object") ∈ lw_tbl := List.mem_of_getElem? (i := 1651) (by decide +kernel)
set_option maxRecDepth 20000 in
theorem qT_Gr_Oj : (Jvm.Cond.castable "Threeboxes$Group" "java/lang/Object") ∈ lw_tbl := List.mem_of_getElem? (i := 1652) (by decide +kernel)
set_option maxRecDepth 20000 in
theorem qT_Mo_Oj : (Jvm.Cond.castable "ThreeboxesModel" "java/lang/Object") ∈ lw_tbl := List.mem_of_getElem? (i := 1653) (by decide +kernel)
set_option maxRecDepth 20000 in
theorem qT_Ou_Oj : (Jvm.Cond.castable "ThreeboxesLaw$Out" "java/lang/Object") ∈ lw_tbl := List.mem_of_getElem? (i := 1654) (by decide +kernel)
set_option maxRecDepth 20000 in
theorem qT_IAE_Oj : (Jvm.Cond.castable "java/lang/IllegalArgumentException" "java/lang/Object") ∈ lw_tbl := List.mem_of_getElem? (i := 1655) (by decide +kernel)
set_option maxRecDepth 20000 in
theorem qT_ISE_Oj : (Jvm.Cond.castable "java/lang/IllegalStateException" "java/lang/Object") ∈ lw_tbl := List.mem_of_getElem? (i := 1656) (by decide +kernel)
set_option maxRecDepth 20000 in
theorem qT_Ke_Oj : (Jvm.Cond.castable "Threeboxes$Keeper" "java/lang/Object") ∈ lw_tbl := List.mem_of_getElem? (i := 1657) (by decide +kernel)
set_option maxRecDepth 20000 in
theorem qT_MK_Oj : (Jvm.Cond.castable "ThreeboxesModel$Keeper" "java/lang/Object") ∈ lw_tbl := List.mem_of_getElem? (i := 1658) (by decide +kernel)
set_option maxRecDepth 20000 in
theorem qT_IOE_Oj : (Jvm.Cond.castable "java/lang/IndexOutOfBoundsException" "java/lang/Object") ∈ lw_tbl := List.mem_of_getElem? (i := 1659) (by decide +kernel)
set_option maxRecDepth 20000 in
theorem qT_Se_Oj : (Jvm.Cond.castable "Threeboxes$Secret" "java/lang/Object") ∈ lw_tbl := List.mem_of_getElem? (i := 1660) (by decide +kernel)
set_option maxRecDepth 20000 in
theorem qT_MS_Oj : (Jvm.Cond.castable "ThreeboxesModel$Secret" "java/lang/Object") ∈ lw_tbl := List.mem_of_getElem? (i := 1661) (by decide +kernel)
set_option maxRecDepth 20000 in
theorem qT_SB_Oj : (Jvm.Cond.castable "java/lang/StringBuilder" "java/lang/Object") ∈ lw_tbl := List.mem_of_getElem? (i := 1662) (by decide +kernel)
set_option maxRecDepth 20000 in
theorem qT_St_Oj : (Jvm.Cond.castable "java/lang/String" "java/lang/Object") ∈ lw_tbl := List.mem_of_getElem? (i := 1663) (by decide +kernel)
set_option maxRecDepth 20000 in
theorem qT_Th_Oj : (Jvm.Cond.castable "java/lang/Throwable" "java/lang/Object") ∈ lw_tbl := List.mem_of_getElem? (i := 1664) (by decide +kernel)
set_option maxRecDepth 20000 in
theorem qSm__Ljava_lang_Object__javalangObject_getClass_LjavalangClass : (Jvm.Cond.sameMethod "[Ljava/lang/Object;" "java/lang/Object" "getClass" "()Ljava/lang/Class;") ∈ lw_tbl := List.mem_of_getElem? (i := 1665) (by decide +kernel)
set_option maxRecDepth 20000 in
theorem qV__Ljava_lang_Object__Oj_getClass_6a1d : (Jvm.Cond.selects "[Ljava/lang/Object;" ({ cls := "java/lang/Object", name := "getClass", desc := "()Ljava/lang/Class;" } : Jvm.MethodName) ({ cls := "java/lang/Object", name := "getClass", desc := "()Ljava/lang/Class;" } : Jvm.MethodName)) ∈ lw_tbl := List.mem_of_getElem? (i := 1666) (by decide +kernel)
set_option maxRecDepth 20000 in
theorem qD_Oj_getClass_6a1d : (Jvm.Cond.declares ({ cls := "java/lang/Object", name := "getClass", desc := "()Ljava/lang/Class;" } : Jvm.MethodName)) ∈ lw_tbl := List.mem_of_getElem? (i := 1667) (by decide +kernel)
set_option maxRecDepth 20000 in
theorem qT__I_Oj : (Jvm.Cond.castable "[I" "java/lang/Object") ∈ lw_tbl := List.mem_of_getElem? (i := 1668) (by decide +kernel)
set_option maxRecDepth 20000 in
theorem qT__D_Oj : (Jvm.Cond.castable "[D" "java/lang/Object") ∈ lw_tbl := List.mem_of_getElem? (i := 1669) (by decide +kernel)
set_option maxRecDepth 20000 in
theorem qT__B_Oj : (Jvm.Cond.castable "[B" "java/lang/Object") ∈ lw_tbl := List.mem_of_getElem? (i := 1670) (by decide +kernel)
set_option maxRecDepth 20000 in
theorem qT__Ljava_lang_Object__Oj : (Jvm.Cond.castable "[Ljava/lang/Object;" "java/lang/Object") ∈ lw_tbl := List.mem_of_getElem? (i := 1671) (by decide +kernel)
