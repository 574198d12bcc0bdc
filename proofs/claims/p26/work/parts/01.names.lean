-- ===== PART A: goes FIRST, ahead of the names: the tables' words, and 'selects' of the private methods out of them =====
/-- a private method of a class that the tables say can be made, by its rows of tables_1 -/
def lw_okq (q : MethodName × Nat) : Prop := (q.1.cls ≠ "java/lang/invoke/MethodHandle" ∧ q.1.cls ≠ "java/lang/invoke/VarHandle") ∧ Cond.instantiable q.1.cls q.2 ∈ tables_1 ∧ Cond.privateMethod q.1 ∈ tables_1 ∧ Cond.instanceMethod q.1 ∈ tables_1
theorem lw_p0 : lw_okq (⟨"ReferenceRules", "isMemberHead", "(IIII)Z"⟩, 17) := ⟨⟨by decide +kernel, by decide +kernel⟩, List.mem_of_getElem? (i := 18) (by decide +kernel), List.mem_of_getElem? (i := 318) (by decide +kernel), List.mem_of_getElem? (i := 319) (by decide +kernel)⟩
theorem lw_p1 : lw_okq (⟨"ReferenceRules", "areMarksAllowed", "(III)Z"⟩, 17) := ⟨⟨by decide +kernel, by decide +kernel⟩, List.mem_of_getElem? (i := 18) (by decide +kernel), List.mem_of_getElem? (i := 322) (by decide +kernel), List.mem_of_getElem? (i := 323) (by decide +kernel)⟩
theorem lw_p2 : lw_okq (⟨"ReferenceRules", "isLastToldRow", "()Z"⟩, 17) := ⟨⟨by decide +kernel, by decide +kernel⟩, List.mem_of_getElem? (i := 18) (by decide +kernel), List.mem_of_getElem? (i := 326) (by decide +kernel), List.mem_of_getElem? (i := 327) (by decide +kernel)⟩
theorem lw_p3 : lw_okq (⟨"ReferenceRules", "copyOfTold", "()[I"⟩, 17) := ⟨⟨by decide +kernel, by decide +kernel⟩, List.mem_of_getElem? (i := 18) (by decide +kernel), List.mem_of_getElem? (i := 344) (by decide +kernel), List.mem_of_getElem? (i := 345) (by decide +kernel)⟩
theorem lw_p4 : lw_okq (⟨"ReferenceRules$Members", "clashesWith", "(LReferenceRules$Member;LReferenceRules$Member;)Z"⟩, 8) := ⟨⟨by decide +kernel, by decide +kernel⟩, List.mem_of_getElem? (i := 46) (by decide +kernel), List.mem_of_getElem? (i := 395) (by decide +kernel), List.mem_of_getElem? (i := 396) (by decide +kernel)⟩
theorem lw_p5 : lw_okq (⟨"ReferenceRules$Members", "putInto", "(ILReferenceRules$Member;)V"⟩, 8) := ⟨⟨by decide +kernel, by decide +kernel⟩, List.mem_of_getElem? (i := 46) (by decide +kernel), List.mem_of_getElem? (i := 431) (by decide +kernel), List.mem_of_getElem? (i := 432) (by decide +kernel)⟩
theorem lw_p6 : lw_okq (⟨"ReferenceRules$Members", "hadBy", "(I)J"⟩, 8) := ⟨⟨by decide +kernel, by decide +kernel⟩, List.mem_of_getElem? (i := 46) (by decide +kernel), List.mem_of_getElem? (i := 447) (by decide +kernel), List.mem_of_getElem? (i := 448) (by decide +kernel)⟩
theorem lw_p7 : lw_okq (⟨"ReferenceRules", "isFormOfType", "(II)Z"⟩, 17) := ⟨⟨by decide +kernel, by decide +kernel⟩, List.mem_of_getElem? (i := 18) (by decide +kernel), List.mem_of_getElem? (i := 484) (by decide +kernel), List.mem_of_getElem? (i := 485) (by decide +kernel)⟩
theorem lw_p8 : lw_okq (⟨"ReferenceRules", "isReference", "(I)Z"⟩, 17) := ⟨⟨by decide +kernel, by decide +kernel⟩, List.mem_of_getElem? (i := 18) (by decide +kernel), List.mem_of_getElem? (i := 513) (by decide +kernel), List.mem_of_getElem? (i := 514) (by decide +kernel)⟩
theorem lw_p9 : lw_okq (⟨"ReferenceRules", "isFace", "(I)Z"⟩, 17) := ⟨⟨by decide +kernel, by decide +kernel⟩, List.mem_of_getElem? (i := 18) (by decide +kernel), List.mem_of_getElem? (i := 517) (by decide +kernel), List.mem_of_getElem? (i := 518) (by decide +kernel)⟩
theorem lw_p10 : lw_okq (⟨"ReferenceRules$Meaning", "typeSearched", "(LReferenceRules$Reference;)I"⟩, 6) := ⟨⟨by decide +kernel, by decide +kernel⟩, List.mem_of_getElem? (i := 80) (by decide +kernel), List.mem_of_getElem? (i := 525) (by decide +kernel), List.mem_of_getElem? (i := 526) (by decide +kernel)⟩
theorem lw_p11 : lw_okq (⟨"ReferenceRules$Search", "gatherFit", "(JI)V"⟩, 7) := ⟨⟨by decide +kernel, by decide +kernel⟩, List.mem_of_getElem? (i := 86) (by decide +kernel), List.mem_of_getElem? (i := 542) (by decide +kernel), List.mem_of_getElem? (i := 543) (by decide +kernel)⟩
theorem lw_p12 : lw_okq (⟨"ReferenceRules$Search", "fits", "(LReferenceRules$Member;I)Z"⟩, 7) := ⟨⟨by decide +kernel, by decide +kernel⟩, List.mem_of_getElem? (i := 86) (by decide +kernel), List.mem_of_getElem? (i := 552) (by decide +kernel), List.mem_of_getElem? (i := 553) (by decide +kernel)⟩
theorem lw_p13 : lw_okq (⟨"ReferenceRules$Search", "argumentCount", "()I"⟩, 7) := ⟨⟨by decide +kernel, by decide +kernel⟩, List.mem_of_getElem? (i := 86) (by decide +kernel), List.mem_of_getElem? (i := 557) (by decide +kernel), List.mem_of_getElem? (i := 558) (by decide +kernel)⟩
theorem lw_p14 : lw_okq (⟨"ReferenceRules$Search", "mostSpecial", "()LReferenceRules$Member;"⟩, 7) := ⟨⟨by decide +kernel, by decide +kernel⟩, List.mem_of_getElem? (i := 86) (by decide +kernel), List.mem_of_getElem? (i := 566) (by decide +kernel), List.mem_of_getElem? (i := 567) (by decide +kernel)⟩
theorem lw_p15 : lw_okq (⟨"ReferenceRules$Search", "isSpecial", "(LReferenceRules$Member;)Z"⟩, 7) := ⟨⟨by decide +kernel, by decide +kernel⟩, List.mem_of_getElem? (i := 86) (by decide +kernel), List.mem_of_getElem? (i := 570) (by decide +kernel), List.mem_of_getElem? (i := 571) (by decide +kernel)⟩
def lw_privs_1 : List (MethodName × Nat) := [(⟨"ReferenceRules", "isMemberHead", "(IIII)Z"⟩, 17), (⟨"ReferenceRules", "areMarksAllowed", "(III)Z"⟩, 17), (⟨"ReferenceRules", "isLastToldRow", "()Z"⟩, 17), (⟨"ReferenceRules", "copyOfTold", "()[I"⟩, 17), (⟨"ReferenceRules$Members", "clashesWith", "(LReferenceRules$Member;LReferenceRules$Member;)Z"⟩, 8), (⟨"ReferenceRules$Members", "putInto", "(ILReferenceRules$Member;)V"⟩, 8), (⟨"ReferenceRules$Members", "hadBy", "(I)J"⟩, 8), (⟨"ReferenceRules", "isFormOfType", "(II)Z"⟩, 17), (⟨"ReferenceRules", "isReference", "(I)Z"⟩, 17), (⟨"ReferenceRules", "isFace", "(I)Z"⟩, 17), (⟨"ReferenceRules$Meaning", "typeSearched", "(LReferenceRules$Reference;)I"⟩, 6), (⟨"ReferenceRules$Search", "gatherFit", "(JI)V"⟩, 7), (⟨"ReferenceRules$Search", "fits", "(LReferenceRules$Member;I)Z"⟩, 7), (⟨"ReferenceRules$Search", "argumentCount", "()I"⟩, 7), (⟨"ReferenceRules$Search", "mostSpecial", "()LReferenceRules$Member;"⟩, 7), (⟨"ReferenceRules$Search", "isSpecial", "(LReferenceRules$Member;)Z"⟩, 7)]
theorem lw_r1 : ∀ q ∈ lw_privs_1, lw_okq q := List.forall_mem_cons.mpr ⟨lw_p0, List.forall_mem_cons.mpr ⟨lw_p1, List.forall_mem_cons.mpr ⟨lw_p2, List.forall_mem_cons.mpr ⟨lw_p3, List.forall_mem_cons.mpr ⟨lw_p4, List.forall_mem_cons.mpr ⟨lw_p5, List.forall_mem_cons.mpr ⟨lw_p6, List.forall_mem_cons.mpr ⟨lw_p7, List.forall_mem_cons.mpr ⟨lw_p8, List.forall_mem_cons.mpr ⟨lw_p9, List.forall_mem_cons.mpr ⟨lw_p10, List.forall_mem_cons.mpr ⟨lw_p11, List.forall_mem_cons.mpr ⟨lw_p12, List.forall_mem_cons.mpr ⟨lw_p13, List.forall_mem_cons.mpr ⟨lw_p14, List.forall_mem_cons.mpr ⟨lw_p15, fun _ h => absurd h List.not_mem_nil⟩⟩⟩⟩⟩⟩⟩⟩⟩⟩⟩⟩⟩⟩⟩⟩
theorem lw_p16 : lw_okq (⟨"ReferenceRules$Search", "isUnderAll", "(LReferenceRules$Member;LReferenceRules$Member;)Z"⟩, 7) := ⟨⟨by decide +kernel, by decide +kernel⟩, List.mem_of_getElem? (i := 86) (by decide +kernel), List.mem_of_getElem? (i := 574) (by decide +kernel), List.mem_of_getElem? (i := 575) (by decide +kernel)⟩
theorem lw_p17 : lw_okq (⟨"ReferenceRules$Meaning", "faultOf", "(LReferenceRules$Reference;LReferenceRules$Face;)I"⟩, 6) := ⟨⟨by decide +kernel, by decide +kernel⟩, List.mem_of_getElem? (i := 80) (by decide +kernel), List.mem_of_getElem? (i := 581) (by decide +kernel), List.mem_of_getElem? (i := 582) (by decide +kernel)⟩
theorem lw_p18 : lw_okq (⟨"ReferenceRules$Meaning", "faultOfBoth", "()I"⟩, 6) := ⟨⟨by decide +kernel, by decide +kernel⟩, List.mem_of_getElem? (i := 80) (by decide +kernel), List.mem_of_getElem? (i := 592) (by decide +kernel), List.mem_of_getElem? (i := 593) (by decide +kernel)⟩
theorem lw_p19 : lw_okq (⟨"ReferenceRules$Meaning", "faultOfFirst", "(LReferenceRules$Reference;)I"⟩, 6) := ⟨⟨by decide +kernel, by decide +kernel⟩, List.mem_of_getElem? (i := 80) (by decide +kernel), List.mem_of_getElem? (i := 613) (by decide +kernel), List.mem_of_getElem? (i := 614) (by decide +kernel)⟩
theorem lw_p20 : lw_okq (⟨"ReferenceRules", "searchRefusal", "(III)I"⟩, 17) := ⟨⟨by decide +kernel, by decide +kernel⟩, List.mem_of_getElem? (i := 18) (by decide +kernel), List.mem_of_getElem? (i := 634) (by decide +kernel), List.mem_of_getElem? (i := 635) (by decide +kernel)⟩
theorem lw_p21 : lw_okq (⟨"ReferenceRules$Things", "isPlace", "(II)Z"⟩, 4) := ⟨⟨by decide +kernel, by decide +kernel⟩, List.mem_of_getElem? (i := 138) (by decide +kernel), List.mem_of_getElem? (i := 704) (by decide +kernel), List.mem_of_getElem? (i := 705) (by decide +kernel)⟩
theorem lw_p22 : lw_okq (⟨"ReferenceRules", "isReceiver", "(LReferenceRules$Reference;I)Z"⟩, 17) := ⟨⟨by decide +kernel, by decide +kernel⟩, List.mem_of_getElem? (i := 18) (by decide +kernel), List.mem_of_getElem? (i := 712) (by decide +kernel), List.mem_of_getElem? (i := 713) (by decide +kernel)⟩
theorem lw_p23 : lw_okq (⟨"ReferenceRules", "isThingUnder", "(II)Z"⟩, 17) := ⟨⟨by decide +kernel, by decide +kernel⟩, List.mem_of_getElem? (i := 18) (by decide +kernel), List.mem_of_getElem? (i := 716) (by decide +kernel), List.mem_of_getElem? (i := 717) (by decide +kernel)⟩
theorem lw_p24 : lw_okq (⟨"ReferenceRules", "doArgsSuit", "(LReferenceRules$Face;)Z"⟩, 17) := ⟨⟨by decide +kernel, by decide +kernel⟩, List.mem_of_getElem? (i := 18) (by decide +kernel), List.mem_of_getElem? (i := 769) (by decide +kernel), List.mem_of_getElem? (i := 770) (by decide +kernel)⟩
theorem lw_p25 : lw_okq (⟨"ReferenceRules$Caller", "makePlain", "(LReferenceRules$Value;[I)I"⟩, 6) := ⟨⟨by decide +kernel, by decide +kernel⟩, List.mem_of_getElem? (i := 157) (by decide +kernel), List.mem_of_getElem? (i := 778) (by decide +kernel), List.mem_of_getElem? (i := 779) (by decide +kernel)⟩
theorem lw_p26 : lw_okq (⟨"ReferenceRules$Caller", "newThing", "(II)I"⟩, 6) := ⟨⟨by decide +kernel, by decide +kernel⟩, List.mem_of_getElem? (i := 157) (by decide +kernel), List.mem_of_getElem? (i := 782) (by decide +kernel), List.mem_of_getElem? (i := 783) (by decide +kernel)⟩
theorem lw_p27 : lw_okq (⟨"ReferenceRules$Caller", "convert", "(III)I"⟩, 6) := ⟨⟨by decide +kernel, by decide +kernel⟩, List.mem_of_getElem? (i := 157) (by decide +kernel), List.mem_of_getElem? (i := 787) (by decide +kernel), List.mem_of_getElem? (i := 788) (by decide +kernel)⟩
theorem lw_p28 : lw_okq (⟨"ReferenceRules$Caller", "callMember", "(LReferenceRules$Value;[I)I"⟩, 6) := ⟨⟨by decide +kernel, by decide +kernel⟩, List.mem_of_getElem? (i := 157) (by decide +kernel), List.mem_of_getElem? (i := 792) (by decide +kernel), List.mem_of_getElem? (i := 793) (by decide +kernel)⟩
theorem lw_p29 : lw_okq (⟨"ReferenceRules$Caller", "memberTaken", "(LReferenceRules$Value;[I)LReferenceRules$Member;"⟩, 6) := ⟨⟨by decide +kernel, by decide +kernel⟩, List.mem_of_getElem? (i := 157) (by decide +kernel), List.mem_of_getElem? (i := 796) (by decide +kernel), List.mem_of_getElem? (i := 797) (by decide +kernel)⟩
theorem lw_p30 : lw_okq (⟨"ReferenceRules$Caller", "passAlone", "([I[III)V"⟩, 6) := ⟨⟨by decide +kernel, by decide +kernel⟩, List.mem_of_getElem? (i := 157) (by decide +kernel), List.mem_of_getElem? (i := 805) (by decide +kernel), List.mem_of_getElem? (i := 806) (by decide +kernel)⟩
theorem lw_p31 : lw_okq (⟨"ReferenceRules$Caller", "passRow", "([I[III)I"⟩, 6) := ⟨⟨by decide +kernel, by decide +kernel⟩, List.mem_of_getElem? (i := 157) (by decide +kernel), List.mem_of_getElem? (i := 809) (by decide +kernel), List.mem_of_getElem? (i := 810) (by decide +kernel)⟩
def lw_privs_2 : List (MethodName × Nat) := [(⟨"ReferenceRules$Search", "isUnderAll", "(LReferenceRules$Member;LReferenceRules$Member;)Z"⟩, 7), (⟨"ReferenceRules$Meaning", "faultOf", "(LReferenceRules$Reference;LReferenceRules$Face;)I"⟩, 6), (⟨"ReferenceRules$Meaning", "faultOfBoth", "()I"⟩, 6), (⟨"ReferenceRules$Meaning", "faultOfFirst", "(LReferenceRules$Reference;)I"⟩, 6), (⟨"ReferenceRules", "searchRefusal", "(III)I"⟩, 17), (⟨"ReferenceRules$Things", "isPlace", "(II)Z"⟩, 4), (⟨"ReferenceRules", "isReceiver", "(LReferenceRules$Reference;I)Z"⟩, 17), (⟨"ReferenceRules", "isThingUnder", "(II)Z"⟩, 17), (⟨"ReferenceRules", "doArgsSuit", "(LReferenceRules$Face;)Z"⟩, 17), (⟨"ReferenceRules$Caller", "makePlain", "(LReferenceRules$Value;[I)I"⟩, 6), (⟨"ReferenceRules$Caller", "newThing", "(II)I"⟩, 6), (⟨"ReferenceRules$Caller", "convert", "(III)I"⟩, 6), (⟨"ReferenceRules$Caller", "callMember", "(LReferenceRules$Value;[I)I"⟩, 6), (⟨"ReferenceRules$Caller", "memberTaken", "(LReferenceRules$Value;[I)LReferenceRules$Member;"⟩, 6), (⟨"ReferenceRules$Caller", "passAlone", "([I[III)V"⟩, 6), (⟨"ReferenceRules$Caller", "passRow", "([I[III)I"⟩, 6)]
theorem lw_r2 : ∀ q ∈ lw_privs_2, lw_okq q := List.forall_mem_cons.mpr ⟨lw_p16, List.forall_mem_cons.mpr ⟨lw_p17, List.forall_mem_cons.mpr ⟨lw_p18, List.forall_mem_cons.mpr ⟨lw_p19, List.forall_mem_cons.mpr ⟨lw_p20, List.forall_mem_cons.mpr ⟨lw_p21, List.forall_mem_cons.mpr ⟨lw_p22, List.forall_mem_cons.mpr ⟨lw_p23, List.forall_mem_cons.mpr ⟨lw_p24, List.forall_mem_cons.mpr ⟨lw_p25, List.forall_mem_cons.mpr ⟨lw_p26, List.forall_mem_cons.mpr ⟨lw_p27, List.forall_mem_cons.mpr ⟨lw_p28, List.forall_mem_cons.mpr ⟨lw_p29, List.forall_mem_cons.mpr ⟨lw_p30, List.forall_mem_cons.mpr ⟨lw_p31, fun _ h => absurd h List.not_mem_nil⟩⟩⟩⟩⟩⟩⟩⟩⟩⟩⟩⟩⟩⟩⟩⟩
theorem lw_p32 : lw_okq (⟨"ReferenceRules$Caller", "giveResult", "()I"⟩, 6) := ⟨⟨by decide +kernel, by decide +kernel⟩, List.mem_of_getElem? (i := 157) (by decide +kernel), List.mem_of_getElem? (i := 817) (by decide +kernel), List.mem_of_getElem? (i := 818) (by decide +kernel)⟩
theorem lw_p33 : lw_okq (⟨"ReferenceRules$Caller", "sumOfGot", "()I"⟩, 6) := ⟨⟨by decide +kernel, by decide +kernel⟩, List.mem_of_getElem? (i := 157) (by decide +kernel), List.mem_of_getElem? (i := 821) (by decide +kernel), List.mem_of_getElem? (i := 822) (by decide +kernel)⟩
theorem lw_p34 : lw_okq (⟨"ReferenceRules$Caller", "sumOfPlaces", "(I)I"⟩, 6) := ⟨⟨by decide +kernel, by decide +kernel⟩, List.mem_of_getElem? (i := 157) (by decide +kernel), List.mem_of_getElem? (i := 826) (by decide +kernel), List.mem_of_getElem? (i := 827) (by decide +kernel)⟩
theorem lw_p35 : lw_okq (⟨"ReferenceRulesModel", "isOwn", "(I)Z"⟩, 39) := ⟨⟨by decide +kernel, by decide +kernel⟩, List.mem_of_getElem? (i := 869) (by decide +kernel), List.mem_of_getElem? (i := 998) (by decide +kernel), List.mem_of_getElem? (i := 999) (by decide +kernel)⟩
theorem lw_p36 : lw_okq (⟨"ReferenceRulesModel", "isClass", "(I)Z"⟩, 39) := ⟨⟨by decide +kernel, by decide +kernel⟩, List.mem_of_getElem? (i := 869) (by decide +kernel), List.mem_of_getElem? (i := 1002) (by decide +kernel), List.mem_of_getElem? (i := 1003) (by decide +kernel)⟩
theorem lw_p37 : lw_okq (⟨"ReferenceRulesModel", "isPlace", "(I)Z"⟩, 39) := ⟨⟨by decide +kernel, by decide +kernel⟩, List.mem_of_getElem? (i := 869) (by decide +kernel), List.mem_of_getElem? (i := 1013) (by decide +kernel), List.mem_of_getElem? (i := 1014) (by decide +kernel)⟩
theorem lw_p38 : lw_okq (⟨"ReferenceRulesModel", "isUnder", "(II)Z"⟩, 39) := ⟨⟨by decide +kernel, by decide +kernel⟩, List.mem_of_getElem? (i := 869) (by decide +kernel), List.mem_of_getElem? (i := 1017) (by decide +kernel), List.mem_of_getElem? (i := 1018) (by decide +kernel)⟩
theorem lw_p39 : lw_okq (⟨"ReferenceRulesModel", "isLoose", "(II)Z"⟩, 39) := ⟨⟨by decide +kernel, by decide +kernel⟩, List.mem_of_getElem? (i := 869) (by decide +kernel), List.mem_of_getElem? (i := 1025) (by decide +kernel), List.mem_of_getElem? (i := 1026) (by decide +kernel)⟩
theorem lw_p40 : lw_okq (⟨"ReferenceRulesModel", "isClash", "(IIIII)Z"⟩, 39) := ⟨⟨by decide +kernel, by decide +kernel⟩, List.mem_of_getElem? (i := 869) (by decide +kernel), List.mem_of_getElem? (i := 1041) (by decide +kernel), List.mem_of_getElem? (i := 1042) (by decide +kernel)⟩
theorem lw_p41 : lw_okq (⟨"ReferenceRulesModel", "isHad", "(II)Z"⟩, 39) := ⟨⟨by decide +kernel, by decide +kernel⟩, List.mem_of_getElem? (i := 869) (by decide +kernel), List.mem_of_getElem? (i := 1049) (by decide +kernel), List.mem_of_getElem? (i := 1050) (by decide +kernel)⟩
theorem lw_p42 : lw_okq (⟨"ReferenceRulesModel", "isSame", "(II)Z"⟩, 39) := ⟨⟨by decide +kernel, by decide +kernel⟩, List.mem_of_getElem? (i := 869) (by decide +kernel), List.mem_of_getElem? (i := 1053) (by decide +kernel), List.mem_of_getElem? (i := 1054) (by decide +kernel)⟩
theorem lw_p43 : lw_okq (⟨"ReferenceRulesModel", "isOpen", "(I)Z"⟩, 39) := ⟨⟨by decide +kernel, by decide +kernel⟩, List.mem_of_getElem? (i := 869) (by decide +kernel), List.mem_of_getElem? (i := 1061) (by decide +kernel), List.mem_of_getElem? (i := 1062) (by decide +kernel)⟩
theorem lw_p44 : lw_okq (⟨"ReferenceRulesModel", "isMark", "(II)Z"⟩, 39) := ⟨⟨by decide +kernel, by decide +kernel⟩, List.mem_of_getElem? (i := 869) (by decide +kernel), List.mem_of_getElem? (i := 1065) (by decide +kernel), List.mem_of_getElem? (i := 1066) (by decide +kernel)⟩
theorem lw_p45 : lw_okq (⟨"ReferenceRulesModel", "isReference", "(I)Z"⟩, 39) := ⟨⟨by decide +kernel, by decide +kernel⟩, List.mem_of_getElem? (i := 869) (by decide +kernel), List.mem_of_getElem? (i := 1081) (by decide +kernel), List.mem_of_getElem? (i := 1082) (by decide +kernel)⟩
theorem lw_p46 : lw_okq (⟨"ReferenceRulesModel", "isFace", "(I)Z"⟩, 39) := ⟨⟨by decide +kernel, by decide +kernel⟩, List.mem_of_getElem? (i := 869) (by decide +kernel), List.mem_of_getElem? (i := 1085) (by decide +kernel), List.mem_of_getElem? (i := 1086) (by decide +kernel)⟩
theorem lw_p47 : lw_okq (⟨"ReferenceRulesModel", "wholeMeaning", "(II)I"⟩, 39) := ⟨⟨by decide +kernel, by decide +kernel⟩, List.mem_of_getElem? (i := 869) (by decide +kernel), List.mem_of_getElem? (i := 1089) (by decide +kernel), List.mem_of_getElem? (i := 1090) (by decide +kernel)⟩
def lw_privs_3 : List (MethodName × Nat) := [(⟨"ReferenceRules$Caller", "giveResult", "()I"⟩, 6), (⟨"ReferenceRules$Caller", "sumOfGot", "()I"⟩, 6), (⟨"ReferenceRules$Caller", "sumOfPlaces", "(I)I"⟩, 6), (⟨"ReferenceRulesModel", "isOwn", "(I)Z"⟩, 39), (⟨"ReferenceRulesModel", "isClass", "(I)Z"⟩, 39), (⟨"ReferenceRulesModel", "isPlace", "(I)Z"⟩, 39), (⟨"ReferenceRulesModel", "isUnder", "(II)Z"⟩, 39), (⟨"ReferenceRulesModel", "isLoose", "(II)Z"⟩, 39), (⟨"ReferenceRulesModel", "isClash", "(IIIII)Z"⟩, 39), (⟨"ReferenceRulesModel", "isHad", "(II)Z"⟩, 39), (⟨"ReferenceRulesModel", "isSame", "(II)Z"⟩, 39), (⟨"ReferenceRulesModel", "isOpen", "(I)Z"⟩, 39), (⟨"ReferenceRulesModel", "isMark", "(II)Z"⟩, 39), (⟨"ReferenceRulesModel", "isReference", "(I)Z"⟩, 39), (⟨"ReferenceRulesModel", "isFace", "(I)Z"⟩, 39), (⟨"ReferenceRulesModel", "wholeMeaning", "(II)I"⟩, 39)]
theorem lw_r3 : ∀ q ∈ lw_privs_3, lw_okq q := List.forall_mem_cons.mpr ⟨lw_p32, List.forall_mem_cons.mpr ⟨lw_p33, List.forall_mem_cons.mpr ⟨lw_p34, List.forall_mem_cons.mpr ⟨lw_p35, List.forall_mem_cons.mpr ⟨lw_p36, List.forall_mem_cons.mpr ⟨lw_p37, List.forall_mem_cons.mpr ⟨lw_p38, List.forall_mem_cons.mpr ⟨lw_p39, List.forall_mem_cons.mpr ⟨lw_p40, List.forall_mem_cons.mpr ⟨lw_p41, List.forall_mem_cons.mpr ⟨lw_p42, List.forall_mem_cons.mpr ⟨lw_p43, List.forall_mem_cons.mpr ⟨lw_p44, List.forall_mem_cons.mpr ⟨lw_p45, List.forall_mem_cons.mpr ⟨lw_p46, List.forall_mem_cons.mpr ⟨lw_p47, fun _ h => absurd h List.not_mem_nil⟩⟩⟩⟩⟩⟩⟩⟩⟩⟩⟩⟩⟩⟩⟩⟩
theorem lw_p48 : lw_okq (⟨"ReferenceRulesModel", "means", "(II)I"⟩, 39) := ⟨⟨by decide +kernel, by decide +kernel⟩, List.mem_of_getElem? (i := 869) (by decide +kernel), List.mem_of_getElem? (i := 1093) (by decide +kernel), List.mem_of_getElem? (i := 1094) (by decide +kernel)⟩
theorem lw_p49 : lw_okq (⟨"ReferenceRulesModel", "ofBoth", "(III)I"⟩, 39) := ⟨⟨by decide +kernel, by decide +kernel⟩, List.mem_of_getElem? (i := 869) (by decide +kernel), List.mem_of_getElem? (i := 1097) (by decide +kernel), List.mem_of_getElem? (i := 1098) (by decide +kernel)⟩
theorem lw_p50 : lw_okq (⟨"ReferenceRulesModel", "searched", "(IIII)I"⟩, 39) := ⟨⟨by decide +kernel, by decide +kernel⟩, List.mem_of_getElem? (i := 869) (by decide +kernel), List.mem_of_getElem? (i := 1101) (by decide +kernel), List.mem_of_getElem? (i := 1102) (by decide +kernel)⟩
theorem lw_p51 : lw_okq (⟨"ReferenceRulesModel", "nothingFits", "()V"⟩, 39) := ⟨⟨by decide +kernel, by decide +kernel⟩, List.mem_of_getElem? (i := 869) (by decide +kernel), List.mem_of_getElem? (i := 1105) (by decide +kernel), List.mem_of_getElem? (i := 1106) (by decide +kernel)⟩
theorem lw_p52 : lw_okq (⟨"ReferenceRulesModel", "takes", "(IIII)Z"⟩, 39) := ⟨⟨by decide +kernel, by decide +kernel⟩, List.mem_of_getElem? (i := 869) (by decide +kernel), List.mem_of_getElem? (i := 1109) (by decide +kernel), List.mem_of_getElem? (i := 1110) (by decide +kernel)⟩
theorem lw_p53 : lw_okq (⟨"ReferenceRulesModel", "placeOf", "(II)I"⟩, 39) := ⟨⟨by decide +kernel, by decide +kernel⟩, List.mem_of_getElem? (i := 869) (by decide +kernel), List.mem_of_getElem? (i := 1113) (by decide +kernel), List.mem_of_getElem? (i := 1114) (by decide +kernel)⟩
theorem lw_p54 : lw_okq (⟨"ReferenceRulesModel", "isSpecial", "(II)Z"⟩, 39) := ⟨⟨by decide +kernel, by decide +kernel⟩, List.mem_of_getElem? (i := 869) (by decide +kernel), List.mem_of_getElem? (i := 1117) (by decide +kernel), List.mem_of_getElem? (i := 1118) (by decide +kernel)⟩
theorem lw_p55 : lw_okq (⟨"ReferenceRulesModel", "statics", "()I"⟩, 39) := ⟨⟨by decide +kernel, by decide +kernel⟩, List.mem_of_getElem? (i := 869) (by decide +kernel), List.mem_of_getElem? (i := 1121) (by decide +kernel), List.mem_of_getElem? (i := 1122) (by decide +kernel)⟩
theorem lw_p56 : lw_okq (⟨"ReferenceRulesModel", "secondSearched", "(III)I"⟩, 39) := ⟨⟨by decide +kernel, by decide +kernel⟩, List.mem_of_getElem? (i := 869) (by decide +kernel), List.mem_of_getElem? (i := 1125) (by decide +kernel), List.mem_of_getElem? (i := 1126) (by decide +kernel)⟩
theorem lw_p57 : lw_okq (⟨"ReferenceRulesModel", "ofOne", "(III)I"⟩, 39) := ⟨⟨by decide +kernel, by decide +kernel⟩, List.mem_of_getElem? (i := 869) (by decide +kernel), List.mem_of_getElem? (i := 1129) (by decide +kernel), List.mem_of_getElem? (i := 1130) (by decide +kernel)⟩
theorem lw_p58 : lw_okq (⟨"ReferenceRulesModel", "makers", "(I)I"⟩, 39) := ⟨⟨by decide +kernel, by decide +kernel⟩, List.mem_of_getElem? (i := 869) (by decide +kernel), List.mem_of_getElem? (i := 1133) (by decide +kernel), List.mem_of_getElem? (i := 1134) (by decide +kernel)⟩
theorem lw_p59 : lw_okq (⟨"ReferenceRulesModel", "comes", "(II)I"⟩, 39) := ⟨⟨by decide +kernel, by decide +kernel⟩, List.mem_of_getElem? (i := 869) (by decide +kernel), List.mem_of_getElem? (i := 1137) (by decide +kernel), List.mem_of_getElem? (i := 1138) (by decide +kernel)⟩
theorem lw_p60 : lw_okq (⟨"ReferenceRulesModel", "looked", "(III)I"⟩, 39) := ⟨⟨by decide +kernel, by decide +kernel⟩, List.mem_of_getElem? (i := 869) (by decide +kernel), List.mem_of_getElem? (i := 1145) (by decide +kernel), List.mem_of_getElem? (i := 1146) (by decide +kernel)⟩
theorem lw_p61 : lw_okq (⟨"ReferenceRulesModel", "made", "(II)I"⟩, 39) := ⟨⟨by decide +kernel, by decide +kernel⟩, List.mem_of_getElem? (i := 869) (by decide +kernel), List.mem_of_getElem? (i := 1161) (by decide +kernel), List.mem_of_getElem? (i := 1162) (by decide +kernel)⟩
theorem lw_p62 : lw_okq (⟨"ReferenceRulesModel", "isThing", "(I)Z"⟩, 39) := ⟨⟨by decide +kernel, by decide +kernel⟩, List.mem_of_getElem? (i := 869) (by decide +kernel), List.mem_of_getElem? (i := 1173) (by decide +kernel), List.mem_of_getElem? (i := 1174) (by decide +kernel)⟩
theorem lw_p63 : lw_okq (⟨"ReferenceRulesModel", "isGiven", "(II)Z"⟩, 39) := ⟨⟨by decide +kernel, by decide +kernel⟩, List.mem_of_getElem? (i := 869) (by decide +kernel), List.mem_of_getElem? (i := 1185) (by decide +kernel), List.mem_of_getElem? (i := 1186) (by decide +kernel)⟩
def lw_privs_4 : List (MethodName × Nat) := [(⟨"ReferenceRulesModel", "means", "(II)I"⟩, 39), (⟨"ReferenceRulesModel", "ofBoth", "(III)I"⟩, 39), (⟨"ReferenceRulesModel", "searched", "(IIII)I"⟩, 39), (⟨"ReferenceRulesModel", "nothingFits", "()V"⟩, 39), (⟨"ReferenceRulesModel", "takes", "(IIII)Z"⟩, 39), (⟨"ReferenceRulesModel", "placeOf", "(II)I"⟩, 39), (⟨"ReferenceRulesModel", "isSpecial", "(II)Z"⟩, 39), (⟨"ReferenceRulesModel", "statics", "()I"⟩, 39), (⟨"ReferenceRulesModel", "secondSearched", "(III)I"⟩, 39), (⟨"ReferenceRulesModel", "ofOne", "(III)I"⟩, 39), (⟨"ReferenceRulesModel", "makers", "(I)I"⟩, 39), (⟨"ReferenceRulesModel", "comes", "(II)I"⟩, 39), (⟨"ReferenceRulesModel", "looked", "(III)I"⟩, 39), (⟨"ReferenceRulesModel", "made", "(II)I"⟩, 39), (⟨"ReferenceRulesModel", "isThing", "(I)Z"⟩, 39), (⟨"ReferenceRulesModel", "isGiven", "(II)Z"⟩, 39)]
theorem lw_r4 : ∀ q ∈ lw_privs_4, lw_okq q := List.forall_mem_cons.mpr ⟨lw_p48, List.forall_mem_cons.mpr ⟨lw_p49, List.forall_mem_cons.mpr ⟨lw_p50, List.forall_mem_cons.mpr ⟨lw_p51, List.forall_mem_cons.mpr ⟨lw_p52, List.forall_mem_cons.mpr ⟨lw_p53, List.forall_mem_cons.mpr ⟨lw_p54, List.forall_mem_cons.mpr ⟨lw_p55, List.forall_mem_cons.mpr ⟨lw_p56, List.forall_mem_cons.mpr ⟨lw_p57, List.forall_mem_cons.mpr ⟨lw_p58, List.forall_mem_cons.mpr ⟨lw_p59, List.forall_mem_cons.mpr ⟨lw_p60, List.forall_mem_cons.mpr ⟨lw_p61, List.forall_mem_cons.mpr ⟨lw_p62, List.forall_mem_cons.mpr ⟨lw_p63, fun _ h => absurd h List.not_mem_nil⟩⟩⟩⟩⟩⟩⟩⟩⟩⟩⟩⟩⟩⟩⟩⟩
theorem lw_p64 : lw_okq (⟨"ReferenceRulesModel", "sized", "(II)I"⟩, 39) := ⟨⟨by decide +kernel, by decide +kernel⟩, List.mem_of_getElem? (i := 869) (by decide +kernel), List.mem_of_getElem? (i := 1197) (by decide +kernel), List.mem_of_getElem? (i := 1198) (by decide +kernel)⟩
theorem lw_p65 : lw_okq (⟨"ReferenceRulesModel", "turned", "(III)I"⟩, 39) := ⟨⟨by decide +kernel, by decide +kernel⟩, List.mem_of_getElem? (i := 869) (by decide +kernel), List.mem_of_getElem? (i := 1201) (by decide +kernel), List.mem_of_getElem? (i := 1202) (by decide +kernel)⟩
theorem lw_p66 : lw_okq (⟨"ReferenceRulesModel", "chosen", "(II)I"⟩, 39) := ⟨⟨by decide +kernel, by decide +kernel⟩, List.mem_of_getElem? (i := 869) (by decide +kernel), List.mem_of_getElem? (i := 1205) (by decide +kernel), List.mem_of_getElem? (i := 1206) (by decide +kernel)⟩
theorem lw_p67 : lw_okq (⟨"ReferenceRulesModel", "give", "(IIII)V"⟩, 39) := ⟨⟨by decide +kernel, by decide +kernel⟩, List.mem_of_getElem? (i := 869) (by decide +kernel), List.mem_of_getElem? (i := 1209) (by decide +kernel), List.mem_of_getElem? (i := 1210) (by decide +kernel)⟩
theorem lw_p68 : lw_okq (⟨"ReferenceRulesModel", "sumOf", "(I)I"⟩, 39) := ⟨⟨by decide +kernel, by decide +kernel⟩, List.mem_of_getElem? (i := 869) (by decide +kernel), List.mem_of_getElem? (i := 1213) (by decide +kernel), List.mem_of_getElem? (i := 1214) (by decide +kernel)⟩
theorem lw_p69 : lw_okq (⟨"ReferenceRulesModel", "gives", "(II)I"⟩, 39) := ⟨⟨by decide +kernel, by decide +kernel⟩, List.mem_of_getElem? (i := 869) (by decide +kernel), List.mem_of_getElem? (i := 1217) (by decide +kernel), List.mem_of_getElem? (i := 1218) (by decide +kernel)⟩
theorem lw_p70 : lw_okq (⟨"ReferenceRulesModel", "remember", "(I)V"⟩, 39) := ⟨⟨by decide +kernel, by decide +kernel⟩, List.mem_of_getElem? (i := 869) (by decide +kernel), List.mem_of_getElem? (i := 1221) (by decide +kernel), List.mem_of_getElem? (i := 1222) (by decide +kernel)⟩
def lw_privs_5 : List (MethodName × Nat) := [(⟨"ReferenceRulesModel", "sized", "(II)I"⟩, 39), (⟨"ReferenceRulesModel", "turned", "(III)I"⟩, 39), (⟨"ReferenceRulesModel", "chosen", "(II)I"⟩, 39), (⟨"ReferenceRulesModel", "give", "(IIII)V"⟩, 39), (⟨"ReferenceRulesModel", "sumOf", "(I)I"⟩, 39), (⟨"ReferenceRulesModel", "gives", "(II)I"⟩, 39), (⟨"ReferenceRulesModel", "remember", "(I)V"⟩, 39)]
theorem lw_r5 : ∀ q ∈ lw_privs_5, lw_okq q := List.forall_mem_cons.mpr ⟨lw_p64, List.forall_mem_cons.mpr ⟨lw_p65, List.forall_mem_cons.mpr ⟨lw_p66, List.forall_mem_cons.mpr ⟨lw_p67, List.forall_mem_cons.mpr ⟨lw_p68, List.forall_mem_cons.mpr ⟨lw_p69, List.forall_mem_cons.mpr ⟨lw_p70, fun _ h => absurd h List.not_mem_nil⟩⟩⟩⟩⟩⟩⟩
def lw_privs : List (MethodName × Nat) := lw_privs_1 ++ (lw_privs_2 ++ (lw_privs_3 ++ (lw_privs_4 ++ (lw_privs_5))))
def lw_tbl : List Cond := k2_sels lw_privs ++ tables_1
theorem lw_privs_ok : ∀ q ∈ lw_privs, lw_okq q := by
  show ∀ q ∈ lw_privs_1 ++ (lw_privs_2 ++ (lw_privs_3 ++ (lw_privs_4 ++ (lw_privs_5)))), lw_okq q
  exact List.forall_mem_append.mpr ⟨lw_r1, List.forall_mem_append.mpr ⟨lw_r2, List.forall_mem_append.mpr ⟨lw_r3, List.forall_mem_append.mpr ⟨lw_r4, lw_r5⟩⟩⟩⟩

def RX0 : String := "ReferenceRules$Caller"
def TX0 : u_T := fun k => match k with
  | 0 => ("ReferenceRules$Caller", "members", "LReferenceRules$Members;", true)
  | 1 => ("ReferenceRules$Caller", "things", "LReferenceRules$Things;", true)
  | 2 => ("ReferenceRules$Caller", "got", "[I", true)
  | 3 => ("ReferenceRules$Caller", "stop", "I", false)
  | 4 => ("ReferenceRules$Caller", "outcome", "I", false)
  | _ => ("ReferenceRules$Caller", "called", "LReferenceRules$Member;", false)
def tyX0 : Nat → FieldType := fun k => match k with
  | 0 => .object "ReferenceRules$Members"
  | 1 => .object "ReferenceRules$Things"
  | 2 => .array .int
  | 3 => .int
  | 4 => .int
  | _ => .object "ReferenceRules$Member"
theorem nmX0 : ∀ a, a < 6 → ∀ b, b < 6 → a ≠ b → (TX0 a).2.1 ≠ (TX0 b).2.1 := by decide +kernel
theorem tyX0_ok : ∀ k, k < 6 → parseFieldDescriptor (TX0 k).2.2.1 = some (tyX0 k) := by decide +kernel
abbrev cX0_init : ByteArray := prog_2_method_1_code
def yX0_init : MethodName := ⟨RX0, "<init>", "(LReferenceRules$Members;LReferenceRules$Things;)V"⟩
abbrev cX0_run : ByteArray := prog_2_method_2_code
def yX0_run : MethodName := ⟨RX0, "run", "(LReferenceRules$Value;[I)I"⟩
abbrev cX0_makePlain : ByteArray := prog_2_method_3_code
def yX0_makePlain : MethodName := ⟨RX0, "makePlain", "(LReferenceRules$Value;[I)I"⟩
abbrev cX0_callMember : ByteArray := prog_2_method_4_code
def yX0_callMember : MethodName := ⟨RX0, "callMember", "(LReferenceRules$Value;[I)I"⟩
abbrev cX0_memberTaken : ByteArray := prog_2_method_5_code
def yX0_memberTaken : MethodName := ⟨RX0, "memberTaken", "(LReferenceRules$Value;[I)LReferenceRules$Member;"⟩
abbrev cX0_passAlone : ByteArray := prog_2_method_6_code
def yX0_passAlone : MethodName := ⟨RX0, "passAlone", "([I[III)V"⟩
abbrev cX0_passRow : ByteArray := prog_2_method_7_code
def yX0_passRow : MethodName := ⟨RX0, "passRow", "([I[III)I"⟩
abbrev cX0_giveResult : ByteArray := prog_2_method_8_code
def yX0_giveResult : MethodName := ⟨RX0, "giveResult", "()I"⟩
abbrev cX0_sumOfGot : ByteArray := prog_2_method_9_code
def yX0_sumOfGot : MethodName := ⟨RX0, "sumOfGot", "()I"⟩
abbrev cX0_sumOfPlaces : ByteArray := prog_2_method_10_code
def yX0_sumOfPlaces : MethodName := ⟨RX0, "sumOfPlaces", "(I)I"⟩
abbrev cX0_convert : ByteArray := prog_2_method_11_code
def yX0_convert : MethodName := ⟨RX0, "convert", "(III)I"⟩
abbrev cX0_newThing : ByteArray := prog_2_method_12_code
def yX0_newThing : MethodName := ⟨RX0, "newThing", "(II)I"⟩
def RX1 : String := "ReferenceRules$Face"
def TX1 : u_T := fun k => match k with
  | 0 => ("ReferenceRules$Face", "arguments", "[I", true)
  | _ => ("ReferenceRules$Face", "result", "I", true)
def tyX1 : Nat → FieldType := fun k => match k with
  | 0 => .array .int
  | _ => .int
theorem nmX1 : ∀ a, a < 2 → ∀ b, b < 2 → a ≠ b → (TX1 a).2.1 ≠ (TX1 b).2.1 := by decide +kernel
theorem tyX1_ok : ∀ k, k < 2 → parseFieldDescriptor (TX1 k).2.2.1 = some (tyX1 k) := by decide +kernel
abbrev cX1_init : ByteArray := prog_3_method_1_code
def yX1_init : MethodName := ⟨RX1, "<init>", "([II)V"⟩
def RX2 : String := "ReferenceRules$Meaning"
def TX2 : u_T := fun k => match k with
  | 0 => ("ReferenceRules$Meaning", "types", "LReferenceRules$Types;", true)
  | 1 => ("ReferenceRules$Meaning", "members", "LReferenceRules$Members;", true)
  | 2 => ("ReferenceRules$Meaning", "first", "LReferenceRules$Search;", true)
  | 3 => ("ReferenceRules$Meaning", "second", "LReferenceRules$Search;", true)
  | 4 => ("ReferenceRules$Meaning", "by", "LReferenceRules$Search;", false)
  | _ => ("ReferenceRules$Meaning", "bySecond", "Z", false)
def tyX2 : Nat → FieldType := fun k => match k with
  | 0 => .object "ReferenceRules$Types"
  | 1 => .object "ReferenceRules$Members"
  | 2 => .object "ReferenceRules$Search"
  | 3 => .object "ReferenceRules$Search"
  | 4 => .object "ReferenceRules$Search"
  | _ => .boolean
theorem nmX2 : ∀ a, a < 6 → ∀ b, b < 6 → a ≠ b → (TX2 a).2.1 ≠ (TX2 b).2.1 := by decide +kernel
theorem tyX2_ok : ∀ k, k < 6 → parseFieldDescriptor (TX2 k).2.2.1 = some (tyX2 k) := by decide +kernel
abbrev cX2_init : ByteArray := prog_4_method_1_code
def yX2_init : MethodName := ⟨RX2, "<init>", "(LReferenceRules$Types;LReferenceRules$Members;)V"⟩
abbrev cX2_find : ByteArray := prog_4_method_2_code
def yX2_find : MethodName := ⟨RX2, "find", "(LReferenceRules$Reference;LReferenceRules$Face;)I"⟩
abbrev cX2_memberMeant : ByteArray := prog_4_method_3_code
def yX2_memberMeant : MethodName := ⟨RX2, "memberMeant", "()LReferenceRules$Member;"⟩
abbrev cX2_isInPhase3 : ByteArray := prog_4_method_4_code
def yX2_isInPhase3 : MethodName := ⟨RX2, "isInPhase3", "()Z"⟩
abbrev cX2_whatComes : ByteArray := prog_4_method_5_code
def yX2_whatComes : MethodName := ⟨RX2, "whatComes", "(LReferenceRules$Reference;)I"⟩
abbrev cX2_runSearch : ByteArray := prog_4_method_6_code
def yX2_runSearch : MethodName := ⟨RX2, "runSearch", "(LReferenceRules$Reference;LReferenceRules$Face;I)LReferenceRules$Search;"⟩
abbrev cX2_namesOneAlone : ByteArray := prog_4_method_7_code
def yX2_namesOneAlone : MethodName := ⟨RX2, "namesOneAlone", "(LReferenceRules$Reference;)Z"⟩
abbrev cX2_typeSearched : ByteArray := prog_4_method_8_code
def yX2_typeSearched : MethodName := ⟨RX2, "typeSearched", "(LReferenceRules$Reference;)I"⟩
abbrev cX2_faultOf : ByteArray := prog_4_method_9_code
def yX2_faultOf : MethodName := ⟨RX2, "faultOf", "(LReferenceRules$Reference;LReferenceRules$Face;)I"⟩
abbrev cX2_faultOfFirst : ByteArray := prog_4_method_10_code
def yX2_faultOfFirst : MethodName := ⟨RX2, "faultOfFirst", "(LReferenceRules$Reference;)I"⟩
abbrev cX2_faultOfBoth : ByteArray := prog_4_method_11_code
def yX2_faultOfBoth : MethodName := ⟨RX2, "faultOfBoth", "()I"⟩
def RX3 : String := "ReferenceRules$Member"
def TX3 : u_T := fun k => match k with
  | 0 => ("ReferenceRules$Member", "number", "I", true)
  | 1 => ("ReferenceRules$Member", "owner", "I", true)
  | 2 => ("ReferenceRules$Member", "name", "I", true)
  | 3 => ("ReferenceRules$Member", "result", "I", true)
  | 4 => ("ReferenceRules$Member", "marks", "I", true)
  | 5 => ("ReferenceRules$Member", "parameters", "[I", true)
  | _ => ("ReferenceRules$Member", "signature", "I", true)
def tyX3 : Nat → FieldType := fun k => match k with
  | 0 => .int
  | 1 => .int
  | 2 => .int
  | 3 => .int
  | 4 => .int
  | 5 => .array .int
  | _ => .int
theorem nmX3 : ∀ a, a < 7 → ∀ b, b < 7 → a ≠ b → (TX3 a).2.1 ≠ (TX3 b).2.1 := by decide +kernel
theorem tyX3_ok : ∀ k, k < 7 → parseFieldDescriptor (TX3 k).2.2.1 = some (tyX3 k) := by decide +kernel
abbrev cX3_init : ByteArray := prog_5_method_1_code
def yX3_init : MethodName := ⟨RX3, "<init>", "(IIIII[I)V"⟩
abbrev cX3_signatureOf : ByteArray := prog_5_method_2_code
def yX3_signatureOf : MethodName := ⟨RX3, "signatureOf", "(I[I)I"⟩
abbrev cX3_isStatic : ByteArray := prog_5_method_3_code
def yX3_isStatic : MethodName := ⟨RX3, "isStatic", "()Z"⟩
abbrev cX3_isAbstract : ByteArray := prog_5_method_4_code
def yX3_isAbstract : MethodName := ⟨RX3, "isAbstract", "()Z"⟩
abbrev cX3_isVaried : ByteArray := prog_5_method_5_code
def yX3_isVaried : MethodName := ⟨RX3, "isVaried", "()Z"⟩
abbrev cX3_typeAt : ByteArray := prog_5_method_6_code
def yX3_typeAt : MethodName := ⟨RX3, "typeAt", "(II)I"⟩
abbrev cX3_agreesWith : ByteArray := prog_5_method_7_code
def yX3_agreesWith : MethodName := ⟨RX3, "agreesWith", "(LReferenceRules$Member;)Z"⟩
def RX4 : String := "ReferenceRules$Members"
def TX4 : u_T := fun k => match k with
  | 0 => ("ReferenceRules$Members", "types", "LReferenceRules$Types;", true)
  | 1 => ("ReferenceRules$Members", "all", "[LReferenceRules$Member;", true)
  | 2 => ("ReferenceRules$Members", "count", "I", false)
  | 3 => ("ReferenceRules$Members", "had", "[J", true)
  | 4 => ("ReferenceRules$Members", "named", "[J", true)
  | 5 => ("ReferenceRules$Members", "statics", "J", false)
  | 6 => ("ReferenceRules$Members", "abstracts", "J", false)
  | _ => ("ReferenceRules$Members", "varied", "J", false)
def tyX4 : Nat → FieldType := fun k => match k with
  | 0 => .object "ReferenceRules$Types"
  | 1 => .array (.object "ReferenceRules$Member")
  | 2 => .int
  | 3 => .array .long
  | 4 => .array .long
  | 5 => .long
  | 6 => .long
  | _ => .long
theorem nmX4 : ∀ a, a < 8 → ∀ b, b < 8 → a ≠ b → (TX4 a).2.1 ≠ (TX4 b).2.1 := by decide +kernel
theorem tyX4_ok : ∀ k, k < 8 → parseFieldDescriptor (TX4 k).2.2.1 = some (tyX4 k) := by decide +kernel
abbrev cX4_init : ByteArray := prog_6_method_1_code
def yX4_init : MethodName := ⟨RX4, "<init>", "(LReferenceRules$Types;)V"⟩
abbrev cX4_size : ByteArray := prog_6_method_2_code
def yX4_size : MethodName := ⟨RX4, "size", "()I"⟩
abbrev cX4_isFull : ByteArray := prog_6_method_3_code
def yX4_isFull : MethodName := ⟨RX4, "isFull", "()Z"⟩
abbrev cX4_inherit : ByteArray := prog_6_method_4_code
def yX4_inherit : MethodName := ⟨RX4, "inherit", "(II)V"⟩
abbrev cX4_add : ByteArray := prog_6_method_5_code
def yX4_add : MethodName := ⟨RX4, "add", "(LReferenceRules$Member;)I"⟩
abbrev cX4_putInto : ByteArray := prog_6_method_6_code
def yX4_putInto : MethodName := ⟨RX4, "putInto", "(ILReferenceRules$Member;)V"⟩
abbrev cX4_clashes : ByteArray := prog_6_method_7_code
def yX4_clashes : MethodName := ⟨RX4, "clashes", "(LReferenceRules$Member;)Z"⟩
abbrev cX4_clashesWith : ByteArray := prog_6_method_8_code
def yX4_clashesWith : MethodName := ⟨RX4, "clashesWith", "(LReferenceRules$Member;LReferenceRules$Member;)Z"⟩
abbrev cX4_numberOfHad : ByteArray := prog_6_method_9_code
def yX4_numberOfHad : MethodName := ⟨RX4, "numberOfHad", "(II)I"⟩
abbrev cX4_isOpen : ByteArray := prog_6_method_10_code
def yX4_isOpen : MethodName := ⟨RX4, "isOpen", "(I)Z"⟩
abbrev cX4_namedIn : ByteArray := prog_6_method_11_code
def yX4_namedIn : MethodName := ⟨RX4, "namedIn", "(II)J"⟩
abbrev cX4_hasMaker : ByteArray := prog_6_method_12_code
def yX4_hasMaker : MethodName := ⟨RX4, "hasMaker", "(I)Z"⟩
abbrev cX4_takenFor : ByteArray := prog_6_method_13_code
def yX4_takenFor : MethodName := ⟨RX4, "takenFor", "(LReferenceRules$Member;I)LReferenceRules$Member;"⟩
abbrev cX4_at : ByteArray := prog_6_method_14_code
def yX4_at : MethodName := ⟨RX4, "at", "(I)LReferenceRules$Member;"⟩
abbrev cX4_isAnyStatic : ByteArray := prog_6_method_15_code
def yX4_isAnyStatic : MethodName := ⟨RX4, "isAnyStatic", "(J)Z"⟩
abbrev cX4_isAnyOtherThanStatic : ByteArray := prog_6_method_16_code
def yX4_isAnyOtherThanStatic : MethodName := ⟨RX4, "isAnyOtherThanStatic", "(J)Z"⟩
abbrev cX4_isAnyVaried : ByteArray := prog_6_method_17_code
def yX4_isAnyVaried : MethodName := ⟨RX4, "isAnyVaried", "(J)Z"⟩
abbrev cX4_hadBy : ByteArray := prog_6_method_18_code
def yX4_hadBy : MethodName := ⟨RX4, "hadBy", "(I)J"⟩
abbrev cX4_isIn : ByteArray := prog_6_method_19_code
def yX4_isIn : MethodName := ⟨RX4, "isIn", "(JI)Z"⟩
def RX5 : String := "ReferenceRules$Reference"
def TX5 : u_T := fun k => match k with
  | 0 => ("ReferenceRules$Reference", "form", "I", true)
  | 1 => ("ReferenceRules$Reference", "type", "I", true)
  | _ => ("ReferenceRules$Reference", "name", "I", true)
def tyX5 : Nat → FieldType := fun k => match k with
  | 0 => .int
  | 1 => .int
  | _ => .int
theorem nmX5 : ∀ a, a < 3 → ∀ b, b < 3 → a ≠ b → (TX5 a).2.1 ≠ (TX5 b).2.1 := by decide +kernel
theorem tyX5_ok : ∀ k, k < 3 → parseFieldDescriptor (TX5 k).2.2.1 = some (tyX5 k) := by decide +kernel
abbrev cX5_init : ByteArray := prog_7_method_1_code
def yX5_init : MethodName := ⟨RX5, "<init>", "(III)V"⟩
def RX6 : String := "ReferenceRules$Search"
def TX6 : u_T := fun k => match k with
  | 0 => ("ReferenceRules$Search", "types", "LReferenceRules$Types;", true)
  | 1 => ("ReferenceRules$Search", "members", "LReferenceRules$Members;", true)
  | 2 => ("ReferenceRules$Search", "arguments", "[I", false)
  | 3 => ("ReferenceRules$Search", "from", "I", false)
  | 4 => ("ReferenceRules$Search", "fit", "J", false)
  | 5 => ("ReferenceRules$Search", "phaseOfFit", "I", false)
  | _ => ("ReferenceRules$Search", "found", "LReferenceRules$Member;", false)
def tyX6 : Nat → FieldType := fun k => match k with
  | 0 => .object "ReferenceRules$Types"
  | 1 => .object "ReferenceRules$Members"
  | 2 => .array .int
  | 3 => .int
  | 4 => .long
  | 5 => .int
  | _ => .object "ReferenceRules$Member"
theorem nmX6 : ∀ a, a < 7 → ∀ b, b < 7 → a ≠ b → (TX6 a).2.1 ≠ (TX6 b).2.1 := by decide +kernel
theorem tyX6_ok : ∀ k, k < 7 → parseFieldDescriptor (TX6 k).2.2.1 = some (tyX6 k) := by decide +kernel
abbrev cX6_init : ByteArray := prog_8_method_1_code
def yX6_init : MethodName := ⟨RX6, "<init>", "(LReferenceRules$Types;LReferenceRules$Members;)V"⟩
abbrev cX6_run : ByteArray := prog_8_method_2_code
def yX6_run : MethodName := ⟨RX6, "run", "(II[IZ)V"⟩
abbrev cX6_answer : ByteArray := prog_8_method_3_code
def yX6_answer : MethodName := ⟨RX6, "answer", "()I"⟩
abbrev cX6_hasStatic : ByteArray := prog_8_method_4_code
def yX6_hasStatic : MethodName := ⟨RX6, "hasStatic", "()Z"⟩
abbrev cX6_hasOtherThanStatic : ByteArray := prog_8_method_5_code
def yX6_hasOtherThanStatic : MethodName := ⟨RX6, "hasOtherThanStatic", "()Z"⟩
abbrev cX6_argumentCount : ByteArray := prog_8_method_6_code
def yX6_argumentCount : MethodName := ⟨RX6, "argumentCount", "()I"⟩
abbrev cX6_gatherFit : ByteArray := prog_8_method_7_code
def yX6_gatherFit : MethodName := ⟨RX6, "gatherFit", "(JI)V"⟩
abbrev cX6_fits : ByteArray := prog_8_method_8_code
def yX6_fits : MethodName := ⟨RX6, "fits", "(LReferenceRules$Member;I)Z"⟩
abbrev cX6_mostSpecial : ByteArray := prog_8_method_9_code
def yX6_mostSpecial : MethodName := ⟨RX6, "mostSpecial", "()LReferenceRules$Member;"⟩
abbrev cX6_isSpecial : ByteArray := prog_8_method_10_code
def yX6_isSpecial : MethodName := ⟨RX6, "isSpecial", "(LReferenceRules$Member;)Z"⟩
abbrev cX6_isUnderAll : ByteArray := prog_8_method_11_code
def yX6_isUnderAll : MethodName := ⟨RX6, "isUnderAll", "(LReferenceRules$Member;LReferenceRules$Member;)Z"⟩
def RX7 : String := "ReferenceRules$Things"
def TX7 : u_T := fun k => match k with
  | 0 => ("ReferenceRules$Things", "kinds", "[I", true)
  | 1 => ("ReferenceRules$Things", "amounts", "[I", true)
  | 2 => ("ReferenceRules$Things", "places", "[I", true)
  | _ => ("ReferenceRules$Things", "last", "I", false)
def tyX7 : Nat → FieldType := fun k => match k with
  | 0 => .array .int
  | 1 => .array .int
  | 2 => .array .int
  | _ => .int
theorem nmX7 : ∀ a, a < 4 → ∀ b, b < 4 → a ≠ b → (TX7 a).2.1 ≠ (TX7 b).2.1 := by decide +kernel
theorem tyX7_ok : ∀ k, k < 4 → parseFieldDescriptor (TX7 k).2.2.1 = some (tyX7 k) := by decide +kernel
abbrev cX7_init : ByteArray := prog_9_method_1_code
def yX7_init : MethodName := ⟨RX7, "<init>", "()V"⟩
abbrev cX7_size : ByteArray := prog_9_method_2_code
def yX7_size : MethodName := ⟨RX7, "size", "()I"⟩
abbrev cX7_isThing : ByteArray := prog_9_method_3_code
def yX7_isThing : MethodName := ⟨RX7, "isThing", "(I)Z"⟩
abbrev cX7_add : ByteArray := prog_9_method_4_code
def yX7_add : MethodName := ⟨RX7, "add", "(II)I"⟩
abbrev cX7_kindOf : ByteArray := prog_9_method_5_code
def yX7_kindOf : MethodName := ⟨RX7, "kindOf", "(I)I"⟩
abbrev cX7_amountOf : ByteArray := prog_9_method_6_code
def yX7_amountOf : MethodName := ⟨RX7, "amountOf", "(I)I"⟩
abbrev cX7_placeOf : ByteArray := prog_9_method_7_code
def yX7_placeOf : MethodName := ⟨RX7, "placeOf", "(II)I"⟩
abbrev cX7_setPlace : ByteArray := prog_9_method_8_code
def yX7_setPlace : MethodName := ⟨RX7, "setPlace", "(III)V"⟩
abbrev cX7_isPlace : ByteArray := prog_9_method_9_code
def yX7_isPlace : MethodName := ⟨RX7, "isPlace", "(II)Z"⟩
abbrev cX7_keepFirst : ByteArray := prog_9_method_10_code
def yX7_keepFirst : MethodName := ⟨RX7, "keepFirst", "(I)V"⟩
def RX8 : String := "ReferenceRules$Trace"
def TX8 : u_T := fun k => match k with
  | 0 => ("ReferenceRules$Trace", "kept", "[I", true)
  | 1 => ("ReferenceRules$Trace", "oldest", "I", false)
  | _ => ("ReferenceRules$Trace", "count", "I", false)
def tyX8 : Nat → FieldType := fun k => match k with
  | 0 => .array .int
  | 1 => .int
  | _ => .int
theorem nmX8 : ∀ a, a < 3 → ∀ b, b < 3 → a ≠ b → (TX8 a).2.1 ≠ (TX8 b).2.1 := by decide +kernel
theorem tyX8_ok : ∀ k, k < 3 → parseFieldDescriptor (TX8 k).2.2.1 = some (tyX8 k) := by decide +kernel
abbrev cX8_init : ByteArray := prog_10_method_1_code
def yX8_init : MethodName := ⟨RX8, "<init>", "()V"⟩
abbrev cX8_add : ByteArray := prog_10_method_2_code
def yX8_add : MethodName := ⟨RX8, "add", "(I)V"⟩
abbrev cX8_at : ByteArray := prog_10_method_3_code
def yX8_at : MethodName := ⟨RX8, "at", "(I)I"⟩
abbrev cX8_forget : ByteArray := prog_10_method_4_code
def yX8_forget : MethodName := ⟨RX8, "forget", "()V"⟩
def RX9 : String := "ReferenceRules$Types"
def TX9 : u_T := fun k => match k with
  | 0 => ("ReferenceRules$Types", "parents", "[I", true)
  | 1 => ("ReferenceRules$Types", "above", "[I", true)
  | _ => ("ReferenceRules$Types", "count", "I", false)
def tyX9 : Nat → FieldType := fun k => match k with
  | 0 => .array .int
  | 1 => .array .int
  | _ => .int
theorem nmX9 : ∀ a, a < 3 → ∀ b, b < 3 → a ≠ b → (TX9 a).2.1 ≠ (TX9 b).2.1 := by decide +kernel
theorem tyX9_ok : ∀ k, k < 3 → parseFieldDescriptor (TX9 k).2.2.1 = some (tyX9 k) := by decide +kernel
abbrev cX9_init : ByteArray := prog_11_method_1_code
def yX9_init : MethodName := ⟨RX9, "<init>", "()V"⟩
abbrev cX9_bit : ByteArray := prog_11_method_2_code
def yX9_bit : MethodName := ⟨RX9, "bit", "(I)I"⟩
abbrev cX9_size : ByteArray := prog_11_method_3_code
def yX9_size : MethodName := ⟨RX9, "size", "()I"⟩
abbrev cX9_add : ByteArray := prog_11_method_4_code
def yX9_add : MethodName := ⟨RX9, "add", "(I)I"⟩
abbrev cX9_isClass : ByteArray := prog_11_method_5_code
def yX9_isClass : MethodName := ⟨RX9, "isClass", "(I)Z"⟩
abbrev cX9_isOwner : ByteArray := prog_11_method_6_code
def yX9_isOwner : MethodName := ⟨RX9, "isOwner", "(I)Z"⟩
abbrev cX9_isAnyType : ByteArray := prog_11_method_7_code
def yX9_isAnyType : MethodName := ⟨RX9, "isAnyType", "(I)Z"⟩
abbrev cX9_isParameter : ByteArray := prog_11_method_8_code
def yX9_isParameter : MethodName := ⟨RX9, "isParameter", "(I)Z"⟩
abbrev cX9_isRow : ByteArray := prog_11_method_9_code
def yX9_isRow : MethodName := ⟨RX9, "isRow", "(I)Z"⟩
abbrev cX9_parentOf : ByteArray := prog_11_method_10_code
def yX9_parentOf : MethodName := ⟨RX9, "parentOf", "(I)I"⟩
abbrev cX9_isUnder : ByteArray := prog_11_method_11_code
def yX9_isUnder : MethodName := ⟨RX9, "isUnder", "(II)Z"⟩
abbrev cX9_isLoose : ByteArray := prog_11_method_12_code
def yX9_isLoose : MethodName := ⟨RX9, "isLoose", "(II)Z"⟩
def RX10 : String := "ReferenceRules$Value"
def TX10 : u_T := fun k => match k with
  | 0 => ("ReferenceRules$Value", "reference", "LReferenceRules$Reference;", true)
  | 1 => ("ReferenceRules$Value", "face", "LReferenceRules$Face;", true)
  | 2 => ("ReferenceRules$Value", "receiver", "I", true)
  | 3 => ("ReferenceRules$Value", "member", "LReferenceRules$Member;", true)
  | 4 => ("ReferenceRules$Value", "bySecond", "Z", true)
  | 5 => ("ReferenceRules$Value", "inPhase3", "Z", true)
  | _ => ("ReferenceRules$Value", "comes", "I", true)
def tyX10 : Nat → FieldType := fun k => match k with
  | 0 => .object "ReferenceRules$Reference"
  | 1 => .object "ReferenceRules$Face"
  | 2 => .int
  | 3 => .object "ReferenceRules$Member"
  | 4 => .boolean
  | 5 => .boolean
  | _ => .int
theorem nmX10 : ∀ a, a < 7 → ∀ b, b < 7 → a ≠ b → (TX10 a).2.1 ≠ (TX10 b).2.1 := by decide +kernel
theorem tyX10_ok : ∀ k, k < 7 → parseFieldDescriptor (TX10 k).2.2.1 = some (tyX10 k) := by decide +kernel
abbrev cX10_init : ByteArray := prog_12_method_1_code
def yX10_init : MethodName := ⟨RX10, "<init>", "(LReferenceRules$Reference;LReferenceRules$Face;ILReferenceRules$Meaning;)V"⟩
def RX11 : String := "ReferenceRules"
def TX11 : u_T := fun k => match k with
  | 0 => ("ReferenceRules", "types", "LReferenceRules$Types;", true)
  | 1 => ("ReferenceRules", "members", "LReferenceRules$Members;", true)
  | 2 => ("ReferenceRules", "meaning", "LReferenceRules$Meaning;", true)
  | 3 => ("ReferenceRules", "things", "LReferenceRules$Things;", true)
  | 4 => ("ReferenceRules", "caller", "LReferenceRules$Caller;", true)
  | 5 => ("ReferenceRules", "trace", "LReferenceRules$Trace;", true)
  | 6 => ("ReferenceRules", "told", "[I", true)
  | 7 => ("ReferenceRules", "toldCount", "I", false)
  | 8 => ("ReferenceRules", "faces", "[LReferenceRules$Face;", true)
  | 9 => ("ReferenceRules", "faceCount", "I", false)
  | 10 => ("ReferenceRules", "references", "[LReferenceRules$Reference;", true)
  | 11 => ("ReferenceRules", "referenceCount", "I", false)
  | 12 => ("ReferenceRules", "values", "[LReferenceRules$Value;", true)
  | 13 => ("ReferenceRules", "valueCount", "I", false)
  | 14 => ("ReferenceRules", "args", "[I", true)
  | 15 => ("ReferenceRules", "latestResult", "I", false)
  | _ => ("ReferenceRules", "failures", "I", false)
def tyX11 : Nat → FieldType := fun k => match k with
  | 0 => .object "ReferenceRules$Types"
  | 1 => .object "ReferenceRules$Members"
  | 2 => .object "ReferenceRules$Meaning"
  | 3 => .object "ReferenceRules$Things"
  | 4 => .object "ReferenceRules$Caller"
  | 5 => .object "ReferenceRules$Trace"
  | 6 => .array .int
  | 7 => .int
  | 8 => .array (.object "ReferenceRules$Face")
  | 9 => .int
  | 10 => .array (.object "ReferenceRules$Reference")
  | 11 => .int
  | 12 => .array (.object "ReferenceRules$Value")
  | 13 => .int
  | 14 => .array .int
  | 15 => .int
  | _ => .int
theorem nmX11 : ∀ a, a < 17 → ∀ b, b < 17 → a ≠ b → (TX11 a).2.1 ≠ (TX11 b).2.1 := by decide +kernel
theorem tyX11_ok : ∀ k, k < 17 → parseFieldDescriptor (TX11 k).2.2.1 = some (tyX11 k) := by decide +kernel
abbrev cX11_init : ByteArray := prog_1_method_1_code
def yX11_init : MethodName := ⟨RX11, "<init>", "()V"⟩
abbrev cX11_type : ByteArray := prog_1_method_2_code
def yX11_type : MethodName := ⟨RX11, "type", "(I)I"⟩
abbrev cX11_under : ByteArray := prog_1_method_3_code
def yX11_under : MethodName := ⟨RX11, "under", "(II)I"⟩
abbrev cX11_loose : ByteArray := prog_1_method_4_code
def yX11_loose : MethodName := ⟨RX11, "loose", "(II)I"⟩
abbrev cX11_tell : ByteArray := prog_1_method_5_code
def yX11_tell : MethodName := ⟨RX11, "tell", "(I)I"⟩
abbrev cX11_untell : ByteArray := prog_1_method_6_code
def yX11_untell : MethodName := ⟨RX11, "untell", "()I"⟩
abbrev cX11_member : ByteArray := prog_1_method_7_code
def yX11_member : MethodName := ⟨RX11, "member", "(IIII)I"⟩
abbrev cX11_has : ByteArray := prog_1_method_8_code
def yX11_has : MethodName := ⟨RX11, "has", "(II)I"⟩
abbrev cX11_open : ByteArray := prog_1_method_9_code
def yX11_open : MethodName := ⟨RX11, "open", "(I)I"⟩
abbrev cX11_isMemberHead : ByteArray := prog_1_method_10_code
def yX11_isMemberHead : MethodName := ⟨RX11, "isMemberHead", "(IIII)Z"⟩
abbrev cX11_areMarksAllowed : ByteArray := prog_1_method_11_code
def yX11_areMarksAllowed : MethodName := ⟨RX11, "areMarksAllowed", "(III)Z"⟩
abbrev cX11_isLastToldRow : ByteArray := prog_1_method_12_code
def yX11_isLastToldRow : MethodName := ⟨RX11, "isLastToldRow", "()Z"⟩
abbrev cX11_copyOfTold : ByteArray := prog_1_method_13_code
def yX11_copyOfTold : MethodName := ⟨RX11, "copyOfTold", "()[I"⟩
abbrev cX11_face : ByteArray := prog_1_method_14_code
def yX11_face : MethodName := ⟨RX11, "face", "(I)I"⟩
abbrev cX11_reference : ByteArray := prog_1_method_15_code
def yX11_reference : MethodName := ⟨RX11, "reference", "(III)I"⟩
abbrev cX11_meant : ByteArray := prog_1_method_16_code
def yX11_meant : MethodName := ⟨RX11, "meant", "(II)I"⟩
abbrev cX11_search : ByteArray := prog_1_method_17_code
def yX11_search : MethodName := ⟨RX11, "search", "(III)I"⟩
abbrev cX11_phase : ByteArray := prog_1_method_18_code
def yX11_phase : MethodName := ⟨RX11, "phase", "(III)I"⟩
abbrev cX11_exact : ByteArray := prog_1_method_19_code
def yX11_exact : MethodName := ⟨RX11, "exact", "(I)I"⟩
abbrev cX11_isReference : ByteArray := prog_1_method_20_code
def yX11_isReference : MethodName := ⟨RX11, "isReference", "(I)Z"⟩
abbrev cX11_isFace : ByteArray := prog_1_method_21_code
def yX11_isFace : MethodName := ⟨RX11, "isFace", "(I)Z"⟩
abbrev cX11_isFormOfType : ByteArray := prog_1_method_22_code
def yX11_isFormOfType : MethodName := ⟨RX11, "isFormOfType", "(II)Z"⟩
abbrev cX11_searchRefusal : ByteArray := prog_1_method_23_code
def yX11_searchRefusal : MethodName := ⟨RX11, "searchRefusal", "(III)I"⟩
abbrev cX11_thing : ByteArray := prog_1_method_24_code
def yX11_thing : MethodName := ⟨RX11, "thing", "(I)I"⟩
abbrev cX11_box : ByteArray := prog_1_method_25_code
def yX11_box : MethodName := ⟨RX11, "box", "(I)I"⟩
abbrev cX11_of : ByteArray := prog_1_method_26_code
def yX11_of : MethodName := ⟨RX11, "of", "(II)I"⟩
abbrev cX11_place : ByteArray := prog_1_method_27_code
def yX11_place : MethodName := ⟨RX11, "place", "(II)I"⟩
abbrev cX11_make : ByteArray := prog_1_method_28_code
def yX11_make : MethodName := ⟨RX11, "make", "(III)I"⟩
abbrev cX11_arg : ByteArray := prog_1_method_29_code
def yX11_arg : MethodName := ⟨RX11, "arg", "(II)I"⟩
abbrev cX11_call : ByteArray := prog_1_method_30_code
def yX11_call : MethodName := ⟨RX11, "call", "(I)I"⟩
abbrev cX11_result : ByteArray := prog_1_method_31_code
def yX11_result : MethodName := ⟨RX11, "result", "()I"⟩
abbrev cX11_traced : ByteArray := prog_1_method_32_code
def yX11_traced : MethodName := ⟨RX11, "traced", "(I)I"⟩
abbrev cX11_count : ByteArray := prog_1_method_33_code
def yX11_count : MethodName := ⟨RX11, "count", "(I)I"⟩
abbrev cX11_clear : ByteArray := prog_1_method_34_code
def yX11_clear : MethodName := ⟨RX11, "clear", "()I"⟩
abbrev cX11_isReceiver : ByteArray := prog_1_method_35_code
def yX11_isReceiver : MethodName := ⟨RX11, "isReceiver", "(LReferenceRules$Reference;I)Z"⟩
abbrev cX11_isThingUnder : ByteArray := prog_1_method_36_code
def yX11_isThingUnder : MethodName := ⟨RX11, "isThingUnder", "(II)Z"⟩
abbrev cX11_doArgsSuit : ByteArray := prog_1_method_37_code
def yX11_doArgsSuit : MethodName := ⟨RX11, "doArgsSuit", "(LReferenceRules$Face;)Z"⟩
def RX12 : String := "ReferenceRulesModel"
def TX12 : u_T := fun k => match k with
  | 0 => ("ReferenceRulesModel", "types", "I", false)
  | 1 => ("ReferenceRulesModel", "parent", "[I", true)
  | 2 => ("ReferenceRulesModel", "told", "[I", true)
  | 3 => ("ReferenceRulesModel", "toldMany", "I", false)
  | 4 => ("ReferenceRulesModel", "members", "I", false)
  | 5 => ("ReferenceRulesModel", "ofType", "[I", true)
  | 6 => ("ReferenceRulesModel", "name", "[I", true)
  | 7 => ("ReferenceRulesModel", "result", "[I", true)
  | 8 => ("ReferenceRulesModel", "marks", "[I", true)
  | 9 => ("ReferenceRulesModel", "many", "[I", true)
  | 10 => ("ReferenceRulesModel", "parameter", "[I", true)
  | 11 => ("ReferenceRulesModel", "faces", "I", false)
  | 12 => ("ReferenceRulesModel", "faceMany", "[I", true)
  | 13 => ("ReferenceRulesModel", "faceArgument", "[I", true)
  | 14 => ("ReferenceRulesModel", "faceResult", "[I", true)
  | 15 => ("ReferenceRulesModel", "references", "I", false)
  | 16 => ("ReferenceRulesModel", "form", "[I", true)
  | 17 => ("ReferenceRulesModel", "refType", "[I", true)
  | 18 => ("ReferenceRulesModel", "refName", "[I", true)
  | 19 => ("ReferenceRulesModel", "things", "I", false)
  | 20 => ("ReferenceRulesModel", "thingType", "[I", true)
  | 21 => ("ReferenceRulesModel", "thingInt", "[I", true)
  | 22 => ("ReferenceRulesModel", "places", "[I", true)
  | 23 => ("ReferenceRulesModel", "values", "I", false)
  | 24 => ("ReferenceRulesModel", "valueReference", "[I", true)
  | 25 => ("ReferenceRulesModel", "valueFace", "[I", true)
  | 26 => ("ReferenceRulesModel", "valueReceiver", "[I", true)
  | 27 => ("ReferenceRulesModel", "arg", "[I", true)
  | 28 => ("ReferenceRulesModel", "lastResult", "I", false)
  | 29 => ("ReferenceRulesModel", "trace", "[I", true)
  | 30 => ("ReferenceRulesModel", "traces", "I", false)
  | 31 => ("ReferenceRulesModel", "failures", "I", false)
  | 32 => ("ReferenceRulesModel", "fit", "[Z", true)
  | 33 => ("ReferenceRulesModel", "fitMany", "I", false)
  | 34 => ("ReferenceRulesModel", "foundPhase", "I", false)
  | 35 => ("ReferenceRulesModel", "isSecond", "Z", false)
  | 36 => ("ReferenceRulesModel", "meantPhase", "I", false)
  | 37 => ("ReferenceRulesModel", "ended", "I", false)
  | _ => ("ReferenceRulesModel", "got", "[I", true)
def tyX12 : Nat → FieldType := fun k => match k with
  | 0 => .int
  | 1 => .array .int
  | 2 => .array .int
  | 3 => .int
  | 4 => .int
  | 5 => .array .int
  | 6 => .array .int
  | 7 => .array .int
  | 8 => .array .int
  | 9 => .array .int
  | 10 => .array .int
  | 11 => .int
  | 12 => .array .int
  | 13 => .array .int
  | 14 => .array .int
  | 15 => .int
  | 16 => .array .int
  | 17 => .array .int
  | 18 => .array .int
  | 19 => .int
  | 20 => .array .int
  | 21 => .array .int
  | 22 => .array .int
  | 23 => .int
  | 24 => .array .int
  | 25 => .array .int
  | 26 => .array .int
  | 27 => .array .int
  | 28 => .int
  | 29 => .array .int
  | 30 => .int
  | 31 => .int
  | 32 => .array .boolean
  | 33 => .int
  | 34 => .int
  | 35 => .boolean
  | 36 => .int
  | 37 => .int
  | _ => .array .int
theorem nmX12 : ∀ a, a < 39 → ∀ b, b < 39 → a ≠ b → (TX12 a).2.1 ≠ (TX12 b).2.1 := by decide +kernel
theorem tyX12_ok : ∀ k, k < 39 → parseFieldDescriptor (TX12 k).2.2.1 = some (tyX12 k) := by decide +kernel
abbrev cX12_init : ByteArray := prog_14_method_1_code
def yX12_init : MethodName := ⟨RX12, "<init>", "()V"⟩
abbrev cX12_isIn : ByteArray := prog_14_method_2_code
def yX12_isIn : MethodName := ⟨RX12, "isIn", "(III)Z"⟩
abbrev cX12_isClass : ByteArray := prog_14_method_3_code
def yX12_isClass : MethodName := ⟨RX12, "isClass", "(I)Z"⟩
abbrev cX12_isOwn : ByteArray := prog_14_method_4_code
def yX12_isOwn : MethodName := ⟨RX12, "isOwn", "(I)Z"⟩
abbrev cX12_isPlace : ByteArray := prog_14_method_5_code
def yX12_isPlace : MethodName := ⟨RX12, "isPlace", "(I)Z"⟩
abbrev cX12_isUnder : ByteArray := prog_14_method_6_code
def yX12_isUnder : MethodName := ⟨RX12, "isUnder", "(II)Z"⟩
abbrev cX12_isLoose : ByteArray := prog_14_method_7_code
def yX12_isLoose : MethodName := ⟨RX12, "isLoose", "(II)Z"⟩
abbrev cX12_type : ByteArray := prog_14_method_8_code
def yX12_type : MethodName := ⟨RX12, "type", "(I)I"⟩
abbrev cX12_under : ByteArray := prog_14_method_9_code
def yX12_under : MethodName := ⟨RX12, "under", "(II)I"⟩
abbrev cX12_loose : ByteArray := prog_14_method_10_code
def yX12_loose : MethodName := ⟨RX12, "loose", "(II)I"⟩
abbrev cX12_tell : ByteArray := prog_14_method_11_code
def yX12_tell : MethodName := ⟨RX12, "tell", "(I)I"⟩
abbrev cX12_untell : ByteArray := prog_14_method_12_code
def yX12_untell : MethodName := ⟨RX12, "untell", "()I"⟩
abbrev cX12_isMark : ByteArray := prog_14_method_13_code
def yX12_isMark : MethodName := ⟨RX12, "isMark", "(II)Z"⟩
abbrev cX12_isSame : ByteArray := prog_14_method_14_code
def yX12_isSame : MethodName := ⟨RX12, "isSame", "(II)Z"⟩
abbrev cX12_isClash : ByteArray := prog_14_method_15_code
def yX12_isClash : MethodName := ⟨RX12, "isClash", "(IIIII)Z"⟩
abbrev cX12_member : ByteArray := prog_14_method_16_code
def yX12_member : MethodName := ⟨RX12, "member", "(IIII)I"⟩
abbrev cX12_isHad : ByteArray := prog_14_method_17_code
def yX12_isHad : MethodName := ⟨RX12, "isHad", "(II)Z"⟩
abbrev cX12_has : ByteArray := prog_14_method_18_code
def yX12_has : MethodName := ⟨RX12, "has", "(II)I"⟩
abbrev cX12_isOpen : ByteArray := prog_14_method_19_code
def yX12_isOpen : MethodName := ⟨RX12, "isOpen", "(I)Z"⟩
abbrev cX12_open : ByteArray := prog_14_method_20_code
def yX12_open : MethodName := ⟨RX12, "open", "(I)I"⟩
abbrev cX12_placeOf : ByteArray := prog_14_method_21_code
def yX12_placeOf : MethodName := ⟨RX12, "placeOf", "(II)I"⟩
abbrev cX12_takes : ByteArray := prog_14_method_22_code
def yX12_takes : MethodName := ⟨RX12, "takes", "(IIII)Z"⟩
abbrev cX12_isSpecial : ByteArray := prog_14_method_23_code
def yX12_isSpecial : MethodName := ⟨RX12, "isSpecial", "(II)Z"⟩
abbrev cX12_searched : ByteArray := prog_14_method_24_code
def yX12_searched : MethodName := ⟨RX12, "searched", "(IIII)I"⟩
abbrev cX12_nothingFits : ByteArray := prog_14_method_25_code
def yX12_nothingFits : MethodName := ⟨RX12, "nothingFits", "()V"⟩
abbrev cX12_secondSearched : ByteArray := prog_14_method_26_code
def yX12_secondSearched : MethodName := ⟨RX12, "secondSearched", "(III)I"⟩
abbrev cX12_statics : ByteArray := prog_14_method_27_code
def yX12_statics : MethodName := ⟨RX12, "statics", "()I"⟩
abbrev cX12_makers : ByteArray := prog_14_method_28_code
def yX12_makers : MethodName := ⟨RX12, "makers", "(I)I"⟩
abbrev cX12_ofBoth : ByteArray := prog_14_method_29_code
def yX12_ofBoth : MethodName := ⟨RX12, "ofBoth", "(III)I"⟩
abbrev cX12_ofOne : ByteArray := prog_14_method_30_code
def yX12_ofOne : MethodName := ⟨RX12, "ofOne", "(III)I"⟩
abbrev cX12_means : ByteArray := prog_14_method_31_code
def yX12_means : MethodName := ⟨RX12, "means", "(II)I"⟩
abbrev cX12_comes : ByteArray := prog_14_method_32_code
def yX12_comes : MethodName := ⟨RX12, "comes", "(II)I"⟩
abbrev cX12_wholeMeaning : ByteArray := prog_14_method_33_code
def yX12_wholeMeaning : MethodName := ⟨RX12, "wholeMeaning", "(II)I"⟩
abbrev cX12_isReference : ByteArray := prog_14_method_34_code
def yX12_isReference : MethodName := ⟨RX12, "isReference", "(I)Z"⟩
abbrev cX12_isFace : ByteArray := prog_14_method_35_code
def yX12_isFace : MethodName := ⟨RX12, "isFace", "(I)Z"⟩
abbrev cX12_face : ByteArray := prog_14_method_36_code
def yX12_face : MethodName := ⟨RX12, "face", "(I)I"⟩
abbrev cX12_reference : ByteArray := prog_14_method_37_code
def yX12_reference : MethodName := ⟨RX12, "reference", "(III)I"⟩
abbrev cX12_meant : ByteArray := prog_14_method_38_code
def yX12_meant : MethodName := ⟨RX12, "meant", "(II)I"⟩
abbrev cX12_looked : ByteArray := prog_14_method_39_code
def yX12_looked : MethodName := ⟨RX12, "looked", "(III)I"⟩
abbrev cX12_search : ByteArray := prog_14_method_40_code
def yX12_search : MethodName := ⟨RX12, "search", "(III)I"⟩
abbrev cX12_phase : ByteArray := prog_14_method_41_code
def yX12_phase : MethodName := ⟨RX12, "phase", "(III)I"⟩
abbrev cX12_exact : ByteArray := prog_14_method_42_code
def yX12_exact : MethodName := ⟨RX12, "exact", "(I)I"⟩
abbrev cX12_made : ByteArray := prog_14_method_43_code
def yX12_made : MethodName := ⟨RX12, "made", "(II)I"⟩
abbrev cX12_isThing : ByteArray := prog_14_method_44_code
def yX12_isThing : MethodName := ⟨RX12, "isThing", "(I)Z"⟩
abbrev cX12_thing : ByteArray := prog_14_method_45_code
def yX12_thing : MethodName := ⟨RX12, "thing", "(I)I"⟩
abbrev cX12_box : ByteArray := prog_14_method_46_code
def yX12_box : MethodName := ⟨RX12, "box", "(I)I"⟩
abbrev cX12_of : ByteArray := prog_14_method_47_code
def yX12_of : MethodName := ⟨RX12, "of", "(II)I"⟩
abbrev cX12_place : ByteArray := prog_14_method_48_code
def yX12_place : MethodName := ⟨RX12, "place", "(II)I"⟩
abbrev cX12_isGiven : ByteArray := prog_14_method_49_code
def yX12_isGiven : MethodName := ⟨RX12, "isGiven", "(II)Z"⟩
abbrev cX12_make : ByteArray := prog_14_method_50_code
def yX12_make : MethodName := ⟨RX12, "make", "(III)I"⟩
abbrev cX12_arg : ByteArray := prog_14_method_51_code
def yX12_arg : MethodName := ⟨RX12, "arg", "(II)I"⟩
abbrev cX12_turned : ByteArray := prog_14_method_52_code
def yX12_turned : MethodName := ⟨RX12, "turned", "(III)I"⟩
abbrev cX12_give : ByteArray := prog_14_method_53_code
def yX12_give : MethodName := ⟨RX12, "give", "(IIII)V"⟩
abbrev cX12_sumOf : ByteArray := prog_14_method_54_code
def yX12_sumOf : MethodName := ⟨RX12, "sumOf", "(I)I"⟩
abbrev cX12_gives : ByteArray := prog_14_method_55_code
def yX12_gives : MethodName := ⟨RX12, "gives", "(II)I"⟩
abbrev cX12_remember : ByteArray := prog_14_method_56_code
def yX12_remember : MethodName := ⟨RX12, "remember", "(I)V"⟩
abbrev cX12_chosen : ByteArray := prog_14_method_57_code
def yX12_chosen : MethodName := ⟨RX12, "chosen", "(II)I"⟩
abbrev cX12_sized : ByteArray := prog_14_method_58_code
def yX12_sized : MethodName := ⟨RX12, "sized", "(II)I"⟩
abbrev cX12_call : ByteArray := prog_14_method_59_code
def yX12_call : MethodName := ⟨RX12, "call", "(I)I"⟩
abbrev cX12_result : ByteArray := prog_14_method_60_code
def yX12_result : MethodName := ⟨RX12, "result", "()I"⟩
abbrev cX12_traced : ByteArray := prog_14_method_61_code
def yX12_traced : MethodName := ⟨RX12, "traced", "(I)I"⟩
abbrev cX12_count : ByteArray := prog_14_method_62_code
def yX12_count : MethodName := ⟨RX12, "count", "(I)I"⟩
abbrev cX12_clear : ByteArray := prog_14_method_63_code
def yX12_clear : MethodName := ⟨RX12, "clear", "()I"⟩
def RJ13 : String := "java/lang/Long"
def TJ13 : u_T := fun k => match k with
  | _ => ("", "", "", false)
def tyJ13 : Nat → FieldType := fun k => match k with
  | _ => .int
theorem nmJ13 : ∀ a, a < 0 → ∀ b, b < 0 → a ≠ b → (TJ13 a).2.1 ≠ (TJ13 b).2.1 := by decide +kernel
theorem tyJ13_ok : ∀ k, k < 0 → parseFieldDescriptor (TJ13 k).2.2.1 = some (tyJ13 k) := by decide +kernel
abbrev cJ13_bitCount_95d88 : ByteArray := prog_15_method_50_code
def yJ13_bitCount_95d88 : MethodName := ⟨RJ13, "bitCount", "(J)I"⟩
def RJ9 : String := "java/lang/Math"
def TJ9 : u_T := fun k => match k with
  | _ => ("", "", "", false)
def tyJ9 : Nat → FieldType := fun k => match k with
  | _ => .int
theorem nmJ9 : ∀ a, a < 0 → ∀ b, b < 0 → a ≠ b → (TJ9 a).2.1 ≠ (TJ9 b).2.1 := by decide +kernel
theorem tyJ9_ok : ∀ k, k < 0 → parseFieldDescriptor (TJ9 k).2.2.1 = some (tyJ9 k) := by decide +kernel
abbrev cJ9_max_7cf53 : ByteArray := prog_16_method_65_code
def yJ9_max_7cf53 : MethodName := ⟨RJ9, "max", "(II)I"⟩
abbrev cJ9_min_7cf53 : ByteArray := prog_16_method_69_code
def yJ9_min_7cf53 : MethodName := ⟨RJ9, "min", "(II)I"⟩
def RJ10 : String := "java/lang/System"
def TJ10 : u_T := fun k => match k with
  | _ => ("", "", "", false)
def tyJ10 : Nat → FieldType := fun k => match k with
  | _ => .int
theorem nmJ10 : ∀ a, a < 0 → ∀ b, b < 0 → a ≠ b → (TJ10 a).2.1 ≠ (TJ10 b).2.1 := by decide +kernel
theorem tyJ10_ok : ∀ k, k < 0 → parseFieldDescriptor (TJ10 k).2.2.1 = some (tyJ10 k) := by decide +kernel
def RL : String := "ReferenceRulesLaw"
abbrev cL_law : ByteArray := code
def yL_law : MethodName := ⟨RL, "law", "([I)Z"⟩
