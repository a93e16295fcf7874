section
-- ===== PART A: goes FIRST, ahead of the names: the tables' words, and 'selects' of the private methods out of them =====
/-- a private method of a class that the tables say can be made, by its rows of tables_1 -/
def lw_okq (q : MethodName × Nat) : Prop := (q.1.cls ≠ "java/lang/invoke/MethodHandle" ∧ q.1.cls ≠ "java/lang/invoke/VarHandle") ∧ Cond.instantiable q.1.cls q.2 ∈ tables_1 ∧ Cond.privateMethod q.1 ∈ tables_1 ∧ Cond.instanceMethod q.1 ∈ tables_1
theorem lw_p0 : lw_okq (⟨"PocketLaws$Realm", "settleLawsOf", "(I)V"⟩, 19) := ⟨⟨by decide +kernel, by decide +kernel⟩, List.mem_of_getElem? (i := 106) (by decide +kernel), List.mem_of_getElem? (i := 207) (by decide +kernel), List.mem_of_getElem? (i := 208) (by decide +kernel)⟩
theorem lw_p1 : lw_okq (⟨"PocketLaws$Realm", "allHold", "(II)Z"⟩, 19) := ⟨⟨by decide +kernel, by decide +kernel⟩, List.mem_of_getElem? (i := 106) (by decide +kernel), List.mem_of_getElem? (i := 211) (by decide +kernel), List.mem_of_getElem? (i := 212) (by decide +kernel)⟩
theorem lw_p2 : lw_okq (⟨"PocketLaws$Realm", "lawSays", "(III)Z"⟩, 19) := ⟨⟨by decide +kernel, by decide +kernel⟩, List.mem_of_getElem? (i := 106) (by decide +kernel), List.mem_of_getElem? (i := 218) (by decide +kernel), List.mem_of_getElem? (i := 219) (by decide +kernel)⟩
theorem lw_p3 : lw_okq (⟨"PocketLaws$Realm", "outerLetsIn", "(II)Z"⟩, 19) := ⟨⟨by decide +kernel, by decide +kernel⟩, List.mem_of_getElem? (i := 106) (by decide +kernel), List.mem_of_getElem? (i := 222) (by decide +kernel), List.mem_of_getElem? (i := 223) (by decide +kernel)⟩
theorem lw_p4 : lw_okq (⟨"PocketLaws$Text", "readToken", "()V"⟩, 7) := ⟨⟨by decide +kernel, by decide +kernel⟩, List.mem_of_getElem? (i := 20) (by decide +kernel), List.mem_of_getElem? (i := 283) (by decide +kernel), List.mem_of_getElem? (i := 284) (by decide +kernel)⟩
theorem lw_p5 : lw_okq (⟨"PocketLaws$Text", "readNumber", "()V"⟩, 7) := ⟨⟨by decide +kernel, by decide +kernel⟩, List.mem_of_getElem? (i := 20) (by decide +kernel), List.mem_of_getElem? (i := 291) (by decide +kernel), List.mem_of_getElem? (i := 292) (by decide +kernel)⟩
theorem lw_p6 : lw_okq (⟨"PocketLaws$Text", "readItem", "(LPocketLaws$Realm;)Z"⟩, 7) := ⟨⟨by decide +kernel, by decide +kernel⟩, List.mem_of_getElem? (i := 20) (by decide +kernel), List.mem_of_getElem? (i := 298) (by decide +kernel), List.mem_of_getElem? (i := 299) (by decide +kernel)⟩
theorem lw_p7 : lw_okq (⟨"PocketLaws$Text", "mayBe", "(II)Z"⟩, 7) := ⟨⟨by decide +kernel, by decide +kernel⟩, List.mem_of_getElem? (i := 20) (by decide +kernel), List.mem_of_getElem? (i := 321) (by decide +kernel), List.mem_of_getElem? (i := 322) (by decide +kernel)⟩
theorem lw_p8 : lw_okq (⟨"PocketLaws$Realm", "tellPocket", "([I)V"⟩, 19) := ⟨⟨by decide +kernel, by decide +kernel⟩, List.mem_of_getElem? (i := 106) (by decide +kernel), List.mem_of_getElem? (i := 333) (by decide +kernel), List.mem_of_getElem? (i := 334) (by decide +kernel)⟩
theorem lw_p9 : lw_okq (⟨"PocketLaws$Realm", "tellLaw", "(III)V"⟩, 19) := ⟨⟨by decide +kernel, by decide +kernel⟩, List.mem_of_getElem? (i := 106) (by decide +kernel), List.mem_of_getElem? (i := 337) (by decide +kernel), List.mem_of_getElem? (i := 338) (by decide +kernel)⟩
theorem lw_p10 : lw_okq (⟨"PocketLaws$Realm", "tellSeam", "(II)V"⟩, 19) := ⟨⟨by decide +kernel, by decide +kernel⟩, List.mem_of_getElem? (i := 106) (by decide +kernel), List.mem_of_getElem? (i := 341) (by decide +kernel), List.mem_of_getElem? (i := 342) (by decide +kernel)⟩
theorem lw_p11 : lw_okq (⟨"PocketLaws$Realm", "tellHole", "(III)V"⟩, 19) := ⟨⟨by decide +kernel, by decide +kernel⟩, List.mem_of_getElem? (i := 106) (by decide +kernel), List.mem_of_getElem? (i := 345) (by decide +kernel), List.mem_of_getElem? (i := 346) (by decide +kernel)⟩
theorem lw_p12 : lw_okq (⟨"PocketLaws$Realm", "tellTreaty", "(III)V"⟩, 19) := ⟨⟨by decide +kernel, by decide +kernel⟩, List.mem_of_getElem? (i := 106) (by decide +kernel), List.mem_of_getElem? (i := 349) (by decide +kernel), List.mem_of_getElem? (i := 350) (by decide +kernel)⟩
theorem lw_p13 : lw_okq (⟨"PocketLaws$Realm", "tellThing", "([I)V"⟩, 19) := ⟨⟨by decide +kernel, by decide +kernel⟩, List.mem_of_getElem? (i := 106) (by decide +kernel), List.mem_of_getElem? (i := 353) (by decide +kernel), List.mem_of_getElem? (i := 354) (by decide +kernel)⟩
theorem lw_p14 : lw_okq (⟨"PocketLaws", "isPocket", "(I)Z"⟩, 12) := ⟨⟨by decide +kernel, by decide +kernel⟩, List.mem_of_getElem? (i := 12) (by decide +kernel), List.mem_of_getElem? (i := 368) (by decide +kernel), List.mem_of_getElem? (i := 369) (by decide +kernel)⟩
theorem lw_p15 : lw_okq (⟨"PocketLaws", "filled", "(I)I"⟩, 12) := ⟨⟨by decide +kernel, by decide +kernel⟩, List.mem_of_getElem? (i := 12) (by decide +kernel), List.mem_of_getElem? (i := 372) (by decide +kernel), List.mem_of_getElem? (i := 373) (by decide +kernel)⟩
def lw_privs_1 : List (MethodName × Nat) := [(⟨"PocketLaws$Realm", "settleLawsOf", "(I)V"⟩, 19), (⟨"PocketLaws$Realm", "allHold", "(II)Z"⟩, 19), (⟨"PocketLaws$Realm", "lawSays", "(III)Z"⟩, 19), (⟨"PocketLaws$Realm", "outerLetsIn", "(II)Z"⟩, 19), (⟨"PocketLaws$Text", "readToken", "()V"⟩, 7), (⟨"PocketLaws$Text", "readNumber", "()V"⟩, 7), (⟨"PocketLaws$Text", "readItem", "(LPocketLaws$Realm;)Z"⟩, 7), (⟨"PocketLaws$Text", "mayBe", "(II)Z"⟩, 7), (⟨"PocketLaws$Realm", "tellPocket", "([I)V"⟩, 19), (⟨"PocketLaws$Realm", "tellLaw", "(III)V"⟩, 19), (⟨"PocketLaws$Realm", "tellSeam", "(II)V"⟩, 19), (⟨"PocketLaws$Realm", "tellHole", "(III)V"⟩, 19), (⟨"PocketLaws$Realm", "tellTreaty", "(III)V"⟩, 19), (⟨"PocketLaws$Realm", "tellThing", "([I)V"⟩, 19), (⟨"PocketLaws", "isPocket", "(I)Z"⟩, 12), (⟨"PocketLaws", "filled", "(I)I"⟩, 12)]
theorem lw_r1 : ∀ q ∈ lw_privs_1, lw_okq q := List.forall_mem_cons.mpr ⟨lw_p0, List.forall_mem_cons.mpr ⟨lw_p1, List.forall_mem_cons.mpr ⟨lw_p2, List.forall_mem_cons.mpr ⟨lw_p3, List.forall_mem_cons.mpr ⟨lw_p4, List.forall_mem_cons.mpr ⟨lw_p5, List.forall_mem_cons.mpr ⟨lw_p6, List.forall_mem_cons.mpr ⟨lw_p7, List.forall_mem_cons.mpr ⟨lw_p8, List.forall_mem_cons.mpr ⟨lw_p9, List.forall_mem_cons.mpr ⟨lw_p10, List.forall_mem_cons.mpr ⟨lw_p11, List.forall_mem_cons.mpr ⟨lw_p12, List.forall_mem_cons.mpr ⟨lw_p13, List.forall_mem_cons.mpr ⟨lw_p14, List.forall_mem_cons.mpr ⟨lw_p15, fun _ h => absurd h List.not_mem_nil⟩⟩⟩⟩⟩⟩⟩⟩⟩⟩⟩⟩⟩⟩⟩⟩
theorem lw_p16 : lw_okq (⟨"PocketLaws", "isThing", "(I)Z"⟩, 12) := ⟨⟨by decide +kernel, by decide +kernel⟩, List.mem_of_getElem? (i := 12) (by decide +kernel), List.mem_of_getElem? (i := 384) (by decide +kernel), List.mem_of_getElem? (i := 385) (by decide +kernel)⟩
theorem lw_p17 : lw_okq (⟨"PocketLaws", "isOutlawed", "(I)Z"⟩, 12) := ⟨⟨by decide +kernel, by decide +kernel⟩, List.mem_of_getElem? (i := 12) (by decide +kernel), List.mem_of_getElem? (i := 388) (by decide +kernel), List.mem_of_getElem? (i := 389) (by decide +kernel)⟩
theorem lw_p18 : lw_okq (⟨"PocketLaws", "outlawed", "()I"⟩, 12) := ⟨⟨by decide +kernel, by decide +kernel⟩, List.mem_of_getElem? (i := 12) (by decide +kernel), List.mem_of_getElem? (i := 405) (by decide +kernel), List.mem_of_getElem? (i := 406) (by decide +kernel)⟩
theorem lw_p19 : lw_okq (⟨"PocketLaws$Realm", "partOf", "(I)I"⟩, 19) := ⟨⟨by decide +kernel, by decide +kernel⟩, List.mem_of_getElem? (i := 106) (by decide +kernel), List.mem_of_getElem? (i := 413) (by decide +kernel), List.mem_of_getElem? (i := 414) (by decide +kernel)⟩
theorem lw_p20 : lw_okq (⟨"PocketLaws", "hasRoom", "(II)Z"⟩, 12) := ⟨⟨by decide +kernel, by decide +kernel⟩, List.mem_of_getElem? (i := 12) (by decide +kernel), List.mem_of_getElem? (i := 425) (by decide +kernel), List.mem_of_getElem? (i := 426) (by decide +kernel)⟩
theorem lw_p21 : lw_okq (⟨"PocketLaws", "fallsThrough", "(I)Z"⟩, 12) := ⟨⟨by decide +kernel, by decide +kernel⟩, List.mem_of_getElem? (i := 12) (by decide +kernel), List.mem_of_getElem? (i := 446) (by decide +kernel), List.mem_of_getElem? (i := 447) (by decide +kernel)⟩
theorem lw_p22 : lw_okq (⟨"PocketLaws", "least", "(IIZII)I"⟩, 12) := ⟨⟨by decide +kernel, by decide +kernel⟩, List.mem_of_getElem? (i := 12) (by decide +kernel), List.mem_of_getElem? (i := 462) (by decide +kernel), List.mem_of_getElem? (i := 463) (by decide +kernel)⟩
theorem lw_p23 : lw_okq (⟨"PocketLaws", "lowerCosts", "(IIZII)V"⟩, 12) := ⟨⟨by decide +kernel, by decide +kernel⟩, List.mem_of_getElem? (i := 12) (by decide +kernel), List.mem_of_getElem? (i := 468) (by decide +kernel), List.mem_of_getElem? (i := 469) (by decide +kernel)⟩
theorem lw_p24 : lw_okq (⟨"PocketLaws", "spreadChance", "(II)V"⟩, 12) := ⟨⟨by decide +kernel, by decide +kernel⟩, List.mem_of_getElem? (i := 12) (by decide +kernel), List.mem_of_getElem? (i := 537) (by decide +kernel), List.mem_of_getElem? (i := 538) (by decide +kernel)⟩
theorem lw_p25 : lw_okq (⟨"PocketLaws", "asPocket", "(I)I"⟩, 12) := ⟨⟨by decide +kernel, by decide +kernel⟩, List.mem_of_getElem? (i := 12) (by decide +kernel), List.mem_of_getElem? (i := 551) (by decide +kernel), List.mem_of_getElem? (i := 552) (by decide +kernel)⟩
theorem lw_p26 : lw_okq (⟨"PocketLaws", "asCoat", "(I)I"⟩, 12) := ⟨⟨by decide +kernel, by decide +kernel⟩, List.mem_of_getElem? (i := 12) (by decide +kernel), List.mem_of_getElem? (i := 555) (by decide +kernel), List.mem_of_getElem? (i := 556) (by decide +kernel)⟩
theorem lw_p27 : lw_okq (⟨"PocketLaws", "asPurse", "(I)I"⟩, 12) := ⟨⟨by decide +kernel, by decide +kernel⟩, List.mem_of_getElem? (i := 12) (by decide +kernel), List.mem_of_getElem? (i := 560) (by decide +kernel), List.mem_of_getElem? (i := 561) (by decide +kernel)⟩
theorem lw_p28 : lw_okq (⟨"PocketLaws", "asLeague", "(I)I"⟩, 12) := ⟨⟨by decide +kernel, by decide +kernel⟩, List.mem_of_getElem? (i := 12) (by decide +kernel), List.mem_of_getElem? (i := 565) (by decide +kernel), List.mem_of_getElem? (i := 566) (by decide +kernel)⟩
theorem lw_p29 : lw_okq (⟨"PocketLaws", "asBeggar", "(I)I"⟩, 12) := ⟨⟨by decide +kernel, by decide +kernel⟩, List.mem_of_getElem? (i := 12) (by decide +kernel), List.mem_of_getElem? (i := 570) (by decide +kernel), List.mem_of_getElem? (i := 571) (by decide +kernel)⟩
theorem lw_p30 : lw_okq (⟨"PocketLaws", "asLining", "(I)I"⟩, 12) := ⟨⟨by decide +kernel, by decide +kernel⟩, List.mem_of_getElem? (i := 12) (by decide +kernel), List.mem_of_getElem? (i := 575) (by decide +kernel), List.mem_of_getElem? (i := 576) (by decide +kernel)⟩
theorem lw_p31 : lw_okq (⟨"PocketLawsModel", "readRealm", "()Z"⟩, 36) := ⟨⟨by decide +kernel, by decide +kernel⟩, List.mem_of_getElem? (i := 597) (by decide +kernel), List.mem_of_getElem? (i := 729) (by decide +kernel), List.mem_of_getElem? (i := 730) (by decide +kernel)⟩
def lw_privs_2 : List (MethodName × Nat) := [(⟨"PocketLaws", "isThing", "(I)Z"⟩, 12), (⟨"PocketLaws", "isOutlawed", "(I)Z"⟩, 12), (⟨"PocketLaws", "outlawed", "()I"⟩, 12), (⟨"PocketLaws$Realm", "partOf", "(I)I"⟩, 19), (⟨"PocketLaws", "hasRoom", "(II)Z"⟩, 12), (⟨"PocketLaws", "fallsThrough", "(I)Z"⟩, 12), (⟨"PocketLaws", "least", "(IIZII)I"⟩, 12), (⟨"PocketLaws", "lowerCosts", "(IIZII)V"⟩, 12), (⟨"PocketLaws", "spreadChance", "(II)V"⟩, 12), (⟨"PocketLaws", "asPocket", "(I)I"⟩, 12), (⟨"PocketLaws", "asCoat", "(I)I"⟩, 12), (⟨"PocketLaws", "asPurse", "(I)I"⟩, 12), (⟨"PocketLaws", "asLeague", "(I)I"⟩, 12), (⟨"PocketLaws", "asBeggar", "(I)I"⟩, 12), (⟨"PocketLaws", "asLining", "(I)I"⟩, 12), (⟨"PocketLawsModel", "readRealm", "()Z"⟩, 36)]
theorem lw_r2 : ∀ q ∈ lw_privs_2, lw_okq q := List.forall_mem_cons.mpr ⟨lw_p16, List.forall_mem_cons.mpr ⟨lw_p17, List.forall_mem_cons.mpr ⟨lw_p18, List.forall_mem_cons.mpr ⟨lw_p19, List.forall_mem_cons.mpr ⟨lw_p20, List.forall_mem_cons.mpr ⟨lw_p21, List.forall_mem_cons.mpr ⟨lw_p22, List.forall_mem_cons.mpr ⟨lw_p23, List.forall_mem_cons.mpr ⟨lw_p24, List.forall_mem_cons.mpr ⟨lw_p25, List.forall_mem_cons.mpr ⟨lw_p26, List.forall_mem_cons.mpr ⟨lw_p27, List.forall_mem_cons.mpr ⟨lw_p28, List.forall_mem_cons.mpr ⟨lw_p29, List.forall_mem_cons.mpr ⟨lw_p30, List.forall_mem_cons.mpr ⟨lw_p31, fun _ h => absurd h List.not_mem_nil⟩⟩⟩⟩⟩⟩⟩⟩⟩⟩⟩⟩⟩⟩⟩⟩
theorem lw_p32 : lw_okq (⟨"PocketLawsModel", "nextToken", "()V"⟩, 36) := ⟨⟨by decide +kernel, by decide +kernel⟩, List.mem_of_getElem? (i := 597) (by decide +kernel), List.mem_of_getElem? (i := 733) (by decide +kernel), List.mem_of_getElem? (i := 734) (by decide +kernel)⟩
theorem lw_p33 : lw_okq (⟨"PocketLawsModel", "letterAt", "(I)I"⟩, 36) := ⟨⟨by decide +kernel, by decide +kernel⟩, List.mem_of_getElem? (i := 597) (by decide +kernel), List.mem_of_getElem? (i := 737) (by decide +kernel), List.mem_of_getElem? (i := 738) (by decide +kernel)⟩
theorem lw_p34 : lw_okq (⟨"PocketLawsModel", "readPocket", "()Z"⟩, 36) := ⟨⟨by decide +kernel, by decide +kernel⟩, List.mem_of_getElem? (i := 597) (by decide +kernel), List.mem_of_getElem? (i := 743) (by decide +kernel), List.mem_of_getElem? (i := 744) (by decide +kernel)⟩
theorem lw_p35 : lw_okq (⟨"PocketLawsModel", "takes", "(III)Z"⟩, 36) := ⟨⟨by decide +kernel, by decide +kernel⟩, List.mem_of_getElem? (i := 597) (by decide +kernel), List.mem_of_getElem? (i := 747) (by decide +kernel), List.mem_of_getElem? (i := 748) (by decide +kernel)⟩
theorem lw_p36 : lw_okq (⟨"PocketLawsModel", "readLaw", "(I)Z"⟩, 36) := ⟨⟨by decide +kernel, by decide +kernel⟩, List.mem_of_getElem? (i := 597) (by decide +kernel), List.mem_of_getElem? (i := 751) (by decide +kernel), List.mem_of_getElem? (i := 752) (by decide +kernel)⟩
theorem lw_p37 : lw_okq (⟨"PocketLawsModel", "takesTwo", "()Z"⟩, 36) := ⟨⟨by decide +kernel, by decide +kernel⟩, List.mem_of_getElem? (i := 597) (by decide +kernel), List.mem_of_getElem? (i := 755) (by decide +kernel), List.mem_of_getElem? (i := 756) (by decide +kernel)⟩
theorem lw_p38 : lw_okq (⟨"PocketLawsModel", "readSeam", "()Z"⟩, 36) := ⟨⟨by decide +kernel, by decide +kernel⟩, List.mem_of_getElem? (i := 597) (by decide +kernel), List.mem_of_getElem? (i := 759) (by decide +kernel), List.mem_of_getElem? (i := 760) (by decide +kernel)⟩
theorem lw_p39 : lw_okq (⟨"PocketLawsModel", "readHole", "()Z"⟩, 36) := ⟨⟨by decide +kernel, by decide +kernel⟩, List.mem_of_getElem? (i := 597) (by decide +kernel), List.mem_of_getElem? (i := 763) (by decide +kernel), List.mem_of_getElem? (i := 764) (by decide +kernel)⟩
theorem lw_p40 : lw_okq (⟨"PocketLawsModel", "readTreaty", "()Z"⟩, 36) := ⟨⟨by decide +kernel, by decide +kernel⟩, List.mem_of_getElem? (i := 597) (by decide +kernel), List.mem_of_getElem? (i := 767) (by decide +kernel), List.mem_of_getElem? (i := 768) (by decide +kernel)⟩
theorem lw_p41 : lw_okq (⟨"PocketLawsModel", "readThing", "()Z"⟩, 36) := ⟨⟨by decide +kernel, by decide +kernel⟩, List.mem_of_getElem? (i := 597) (by decide +kernel), List.mem_of_getElem? (i := 771) (by decide +kernel), List.mem_of_getElem? (i := 772) (by decide +kernel)⟩
theorem lw_p42 : lw_okq (⟨"PocketLawsModel", "isPocket", "(I)Z"⟩, 36) := ⟨⟨by decide +kernel, by decide +kernel⟩, List.mem_of_getElem? (i := 597) (by decide +kernel), List.mem_of_getElem? (i := 779) (by decide +kernel), List.mem_of_getElem? (i := 780) (by decide +kernel)⟩
theorem lw_p43 : lw_okq (⟨"PocketLawsModel", "filled", "(I)I"⟩, 36) := ⟨⟨by decide +kernel, by decide +kernel⟩, List.mem_of_getElem? (i := 597) (by decide +kernel), List.mem_of_getElem? (i := 783) (by decide +kernel), List.mem_of_getElem? (i := 784) (by decide +kernel)⟩
theorem lw_p44 : lw_okq (⟨"PocketLawsModel", "depthOf", "(I)I"⟩, 36) := ⟨⟨by decide +kernel, by decide +kernel⟩, List.mem_of_getElem? (i := 597) (by decide +kernel), List.mem_of_getElem? (i := 787) (by decide +kernel), List.mem_of_getElem? (i := 788) (by decide +kernel)⟩
theorem lw_p45 : lw_okq (⟨"PocketLawsModel", "seamsOf", "(I)I"⟩, 36) := ⟨⟨by decide +kernel, by decide +kernel⟩, List.mem_of_getElem? (i := 597) (by decide +kernel), List.mem_of_getElem? (i := 791) (by decide +kernel), List.mem_of_getElem? (i := 792) (by decide +kernel)⟩
theorem lw_p46 : lw_okq (⟨"PocketLawsModel", "isThing", "(I)Z"⟩, 36) := ⟨⟨by decide +kernel, by decide +kernel⟩, List.mem_of_getElem? (i := 597) (by decide +kernel), List.mem_of_getElem? (i := 799) (by decide +kernel), List.mem_of_getElem? (i := 800) (by decide +kernel)⟩
theorem lw_p47 : lw_okq (⟨"PocketLawsModel", "isOutlawed", "(I)Z"⟩, 36) := ⟨⟨by decide +kernel, by decide +kernel⟩, List.mem_of_getElem? (i := 597) (by decide +kernel), List.mem_of_getElem? (i := 803) (by decide +kernel), List.mem_of_getElem? (i := 804) (by decide +kernel)⟩
def lw_privs_3 : List (MethodName × Nat) := [(⟨"PocketLawsModel", "nextToken", "()V"⟩, 36), (⟨"PocketLawsModel", "letterAt", "(I)I"⟩, 36), (⟨"PocketLawsModel", "readPocket", "()Z"⟩, 36), (⟨"PocketLawsModel", "takes", "(III)Z"⟩, 36), (⟨"PocketLawsModel", "readLaw", "(I)Z"⟩, 36), (⟨"PocketLawsModel", "takesTwo", "()Z"⟩, 36), (⟨"PocketLawsModel", "readSeam", "()Z"⟩, 36), (⟨"PocketLawsModel", "readHole", "()Z"⟩, 36), (⟨"PocketLawsModel", "readTreaty", "()Z"⟩, 36), (⟨"PocketLawsModel", "readThing", "()Z"⟩, 36), (⟨"PocketLawsModel", "isPocket", "(I)Z"⟩, 36), (⟨"PocketLawsModel", "filled", "(I)I"⟩, 36), (⟨"PocketLawsModel", "depthOf", "(I)I"⟩, 36), (⟨"PocketLawsModel", "seamsOf", "(I)I"⟩, 36), (⟨"PocketLawsModel", "isThing", "(I)Z"⟩, 36), (⟨"PocketLawsModel", "isOutlawed", "(I)Z"⟩, 36)]
theorem lw_r3 : ∀ q ∈ lw_privs_3, lw_okq q := List.forall_mem_cons.mpr ⟨lw_p32, List.forall_mem_cons.mpr ⟨lw_p33, List.forall_mem_cons.mpr ⟨lw_p34, List.forall_mem_cons.mpr ⟨lw_p35, List.forall_mem_cons.mpr ⟨lw_p36, List.forall_mem_cons.mpr ⟨lw_p37, List.forall_mem_cons.mpr ⟨lw_p38, List.forall_mem_cons.mpr ⟨lw_p39, List.forall_mem_cons.mpr ⟨lw_p40, List.forall_mem_cons.mpr ⟨lw_p41, List.forall_mem_cons.mpr ⟨lw_p42, List.forall_mem_cons.mpr ⟨lw_p43, List.forall_mem_cons.mpr ⟨lw_p44, List.forall_mem_cons.mpr ⟨lw_p45, List.forall_mem_cons.mpr ⟨lw_p46, List.forall_mem_cons.mpr ⟨lw_p47, fun _ h => absurd h List.not_mem_nil⟩⟩⟩⟩⟩⟩⟩⟩⟩⟩⟩⟩⟩⟩⟩⟩
theorem lw_p48 : lw_okq (⟨"PocketLawsModel", "letting", "(I)I"⟩, 36) := ⟨⟨by decide +kernel, by decide +kernel⟩, List.mem_of_getElem? (i := 597) (by decide +kernel), List.mem_of_getElem? (i := 807) (by decide +kernel), List.mem_of_getElem? (i := 808) (by decide +kernel)⟩
theorem lw_p49 : lw_okq (⟨"PocketLawsModel", "fixedOf", "(I)I"⟩, 36) := ⟨⟨by decide +kernel, by decide +kernel⟩, List.mem_of_getElem? (i := 597) (by decide +kernel), List.mem_of_getElem? (i := 811) (by decide +kernel), List.mem_of_getElem? (i := 812) (by decide +kernel)⟩
theorem lw_p50 : lw_okq (⟨"PocketLawsModel", "holds", "(II)Z"⟩, 36) := ⟨⟨by decide +kernel, by decide +kernel⟩, List.mem_of_getElem? (i := 597) (by decide +kernel), List.mem_of_getElem? (i := 815) (by decide +kernel), List.mem_of_getElem? (i := 816) (by decide +kernel)⟩
theorem lw_p51 : lw_okq (⟨"PocketLawsModel", "allowsOwn", "(II)Z"⟩, 36) := ⟨⟨by decide +kernel, by decide +kernel⟩, List.mem_of_getElem? (i := 597) (by decide +kernel), List.mem_of_getElem? (i := 822) (by decide +kernel), List.mem_of_getElem? (i := 823) (by decide +kernel)⟩
theorem lw_p52 : lw_okq (⟨"PocketLawsModel", "parts", "()I"⟩, 36) := ⟨⟨by decide +kernel, by decide +kernel⟩, List.mem_of_getElem? (i := 597) (by decide +kernel), List.mem_of_getElem? (i := 842) (by decide +kernel), List.mem_of_getElem? (i := 843) (by decide +kernel)⟩
theorem lw_p53 : lw_okq (⟨"PocketLawsModel", "hasRoom", "(II)Z"⟩, 36) := ⟨⟨by decide +kernel, by decide +kernel⟩, List.mem_of_getElem? (i := 597) (by decide +kernel), List.mem_of_getElem? (i := 850) (by decide +kernel), List.mem_of_getElem? (i := 851) (by decide +kernel)⟩
theorem lw_p54 : lw_okq (⟨"PocketLawsModel", "note", "()V"⟩, 36) := ⟨⟨by decide +kernel, by decide +kernel⟩, List.mem_of_getElem? (i := 597) (by decide +kernel), List.mem_of_getElem? (i := 854) (by decide +kernel), List.mem_of_getElem? (i := 855) (by decide +kernel)⟩
theorem lw_p55 : lw_okq (⟨"PocketLawsModel", "taxOf", "(III)I"⟩, 36) := ⟨⟨by decide +kernel, by decide +kernel⟩, List.mem_of_getElem? (i := 597) (by decide +kernel), List.mem_of_getElem? (i := 858) (by decide +kernel), List.mem_of_getElem? (i := 859) (by decide +kernel)⟩
theorem lw_p56 : lw_okq (⟨"PocketLawsModel", "through", "(II)I"⟩, 36) := ⟨⟨by decide +kernel, by decide +kernel⟩, List.mem_of_getElem? (i := 597) (by decide +kernel), List.mem_of_getElem? (i := 866) (by decide +kernel), List.mem_of_getElem? (i := 867) (by decide +kernel)⟩
theorem lw_p57 : lw_okq (⟨"PocketLawsModel", "farOf", "(IIZ)I"⟩, 36) := ⟨⟨by decide +kernel, by decide +kernel⟩, List.mem_of_getElem? (i := 597) (by decide +kernel), List.mem_of_getElem? (i := 878) (by decide +kernel), List.mem_of_getElem? (i := 879) (by decide +kernel)⟩
theorem lw_p58 : lw_okq (⟨"PocketLawsModel", "elsewhere", "()I"⟩, 36) := ⟨⟨by decide +kernel, by decide +kernel⟩, List.mem_of_getElem? (i := 597) (by decide +kernel), List.mem_of_getElem? (i := 892) (by decide +kernel), List.mem_of_getElem? (i := 893) (by decide +kernel)⟩
theorem lw_p59 : lw_okq (⟨"PocketLawsModel", "dropsFrom", "(III)I"⟩, 36) := ⟨⟨by decide +kernel, by decide +kernel⟩, List.mem_of_getElem? (i := 597) (by decide +kernel), List.mem_of_getElem? (i := 905) (by decide +kernel), List.mem_of_getElem? (i := 906) (by decide +kernel)⟩
theorem lw_p60 : lw_okq (⟨"PocketLawsModel", "asCoat", "(I)I"⟩, 36) := ⟨⟨by decide +kernel, by decide +kernel⟩, List.mem_of_getElem? (i := 597) (by decide +kernel), List.mem_of_getElem? (i := 932) (by decide +kernel), List.mem_of_getElem? (i := 933) (by decide +kernel)⟩
theorem lw_p61 : lw_okq (⟨"PocketLawsModel", "asPocket", "(I)I"⟩, 36) := ⟨⟨by decide +kernel, by decide +kernel⟩, List.mem_of_getElem? (i := 597) (by decide +kernel), List.mem_of_getElem? (i := 936) (by decide +kernel), List.mem_of_getElem? (i := 937) (by decide +kernel)⟩
theorem lw_p62 : lw_okq (⟨"PocketLawsModel", "asPurse", "(I)I"⟩, 36) := ⟨⟨by decide +kernel, by decide +kernel⟩, List.mem_of_getElem? (i := 597) (by decide +kernel), List.mem_of_getElem? (i := 941) (by decide +kernel), List.mem_of_getElem? (i := 942) (by decide +kernel)⟩
def lw_privs_4 : List (MethodName × Nat) := [(⟨"PocketLawsModel", "letting", "(I)I"⟩, 36), (⟨"PocketLawsModel", "fixedOf", "(I)I"⟩, 36), (⟨"PocketLawsModel", "holds", "(II)Z"⟩, 36), (⟨"PocketLawsModel", "allowsOwn", "(II)Z"⟩, 36), (⟨"PocketLawsModel", "parts", "()I"⟩, 36), (⟨"PocketLawsModel", "hasRoom", "(II)Z"⟩, 36), (⟨"PocketLawsModel", "note", "()V"⟩, 36), (⟨"PocketLawsModel", "taxOf", "(III)I"⟩, 36), (⟨"PocketLawsModel", "through", "(II)I"⟩, 36), (⟨"PocketLawsModel", "farOf", "(IIZ)I"⟩, 36), (⟨"PocketLawsModel", "elsewhere", "()I"⟩, 36), (⟨"PocketLawsModel", "dropsFrom", "(III)I"⟩, 36), (⟨"PocketLawsModel", "asCoat", "(I)I"⟩, 36), (⟨"PocketLawsModel", "asPocket", "(I)I"⟩, 36), (⟨"PocketLawsModel", "asPurse", "(I)I"⟩, 36)]
theorem lw_r4 : ∀ q ∈ lw_privs_4, lw_okq q := List.forall_mem_cons.mpr ⟨lw_p48, List.forall_mem_cons.mpr ⟨lw_p49, List.forall_mem_cons.mpr ⟨lw_p50, List.forall_mem_cons.mpr ⟨lw_p51, List.forall_mem_cons.mpr ⟨lw_p52, List.forall_mem_cons.mpr ⟨lw_p53, List.forall_mem_cons.mpr ⟨lw_p54, List.forall_mem_cons.mpr ⟨lw_p55, List.forall_mem_cons.mpr ⟨lw_p56, List.forall_mem_cons.mpr ⟨lw_p57, List.forall_mem_cons.mpr ⟨lw_p58, List.forall_mem_cons.mpr ⟨lw_p59, List.forall_mem_cons.mpr ⟨lw_p60, List.forall_mem_cons.mpr ⟨lw_p61, List.forall_mem_cons.mpr ⟨lw_p62, fun _ h => absurd h List.not_mem_nil⟩⟩⟩⟩⟩⟩⟩⟩⟩⟩⟩⟩⟩⟩⟩
def lw_privs : List (MethodName × Nat) := lw_privs_1 ++ (lw_privs_2 ++ (lw_privs_3 ++ (lw_privs_4)))
def lw_tbl : List Cond := k2_sels lw_privs ++ tables_1
theorem lw_privs_ok : ∀ q ∈ lw_privs, lw_okq q := by
  show ∀ q ∈ lw_privs_1 ++ (lw_privs_2 ++ (lw_privs_3 ++ (lw_privs_4))), lw_okq q
  exact List.forall_mem_append.mpr ⟨lw_r1, List.forall_mem_append.mpr ⟨lw_r2, List.forall_mem_append.mpr ⟨lw_r3, lw_r4⟩⟩⟩
end
section
def RX0 : String := "PocketLaws$Now"
def TX0 : u_T := fun k => match k with
  | 0 => ("PocketLaws$Now", "where", "[I", true)
  | 1 => ("PocketLaws$Now", "paid", "I", false)
  | _ => ("PocketLaws$Now", "days", "I", false)
def tyX0 : Nat → FieldType := fun k => match k with
  | 0 => .array .int
  | 1 => .int
  | _ => .int
theorem nmX0 : ∀ a, a < 3 → ∀ b, b < 3 → a ≠ b → (TX0 a).2.1 ≠ (TX0 b).2.1 := by decide +kernel
theorem tyX0_ok : ∀ k, k < 3 → parseFieldDescriptor (TX0 k).2.2.1 = some (tyX0 k) := by decide +kernel
abbrev cX0_init : ByteArray := prog_2_method_1_code
def yX0_init : MethodName := ⟨RX0, "<init>", "()V"⟩
abbrev cX0_become : ByteArray := prog_2_method_2_code
def yX0_become : MethodName := ⟨RX0, "become", "(LPocketLaws$Now;)V"⟩
abbrev cX0_begin : ByteArray := prog_2_method_3_code
def yX0_begin : MethodName := ⟨RX0, "begin", "(LPocketLaws$Realm;)V"⟩
def RX1 : String := "PocketLaws$Past"
def TX1 : u_T := fun k => match k with
  | 0 => ("PocketLaws$Past", "ring", "[LPocketLaws$Now;", true)
  | 1 => ("PocketLaws$Past", "known", "I", false)
  | _ => ("PocketLaws$Past", "top", "I", false)
def tyX1 : Nat → FieldType := fun k => match k with
  | 0 => .array (.object "PocketLaws$Now")
  | 1 => .int
  | _ => .int
theorem nmX1 : ∀ a, a < 3 → ∀ b, b < 3 → a ≠ b → (TX1 a).2.1 ≠ (TX1 b).2.1 := by decide +kernel
theorem tyX1_ok : ∀ k, k < 3 → parseFieldDescriptor (TX1 k).2.2.1 = some (tyX1 k) := by decide +kernel
abbrev cX1_init : ByteArray := prog_3_method_1_code
def yX1_init : MethodName := ⟨RX1, "<init>", "()V"⟩
abbrev cX1_push : ByteArray := prog_3_method_2_code
def yX1_push : MethodName := ⟨RX1, "push", "(LPocketLaws$Now;)V"⟩
abbrev cX1_popInto : ByteArray := prog_3_method_3_code
def yX1_popInto : MethodName := ⟨RX1, "popInto", "(LPocketLaws$Now;)V"⟩
def RX2 : String := "PocketLaws$Realm"
def TX2 : u_T := fun k => match k with
  | 0 => ("PocketLaws$Realm", "pockets", "I", false)
  | 1 => ("PocketLaws$Realm", "things", "I", false)
  | 2 => ("PocketLaws$Realm", "treaties", "I", false)
  | 3 => ("PocketLaws$Realm", "size", "[I", true)
  | 4 => ("PocketLaws$Realm", "forbids", "[I", true)
  | 5 => ("PocketLaws$Realm", "tax", "[I", true)
  | 6 => ("PocketLaws$Realm", "outer", "[I", true)
  | 7 => ("PocketLaws$Realm", "law", "[I", true)
  | 8 => ("PocketLaws$Realm", "lawOf", "[I", true)
  | 9 => ("PocketLaws$Realm", "seams", "[I", true)
  | 10 => ("PocketLaws$Realm", "hole", "[I", true)
  | 11 => ("PocketLaws$Realm", "holeFor", "[I", true)
  | 12 => ("PocketLaws$Realm", "treaty", "[[I", true)
  | 13 => ("PocketLaws$Realm", "sort", "[I", true)
  | 14 => ("PocketLaws$Realm", "bulk", "[I", true)
  | 15 => ("PocketLaws$Realm", "worth", "[I", true)
  | 16 => ("PocketLaws$Realm", "home", "[I", true)
  | 17 => ("PocketLaws$Realm", "lets", "[I", true)
  | _ => ("PocketLaws$Realm", "fixedPoints", "[I", true)
def tyX2 : Nat → FieldType := fun k => match k with
  | 0 => .int
  | 1 => .int
  | 2 => .int
  | 3 => .array .int
  | 4 => .array .int
  | 5 => .array .int
  | 6 => .array .int
  | 7 => .array .int
  | 8 => .array .int
  | 9 => .array .int
  | 10 => .array .int
  | 11 => .array .int
  | 12 => .array (.array .int)
  | 13 => .array .int
  | 14 => .array .int
  | 15 => .array .int
  | 16 => .array .int
  | 17 => .array .int
  | _ => .array .int
theorem nmX2 : ∀ a, a < 19 → ∀ b, b < 19 → a ≠ b → (TX2 a).2.1 ≠ (TX2 b).2.1 := by decide +kernel
theorem tyX2_ok : ∀ k, k < 19 → parseFieldDescriptor (TX2 k).2.2.1 = some (tyX2 k) := by decide +kernel
abbrev cX2_init : ByteArray := prog_4_method_1_code
def yX2_init : MethodName := ⟨RX2, "<init>", "()V"⟩
abbrev cX2_forgetAll : ByteArray := prog_4_method_2_code
def yX2_forgetAll : MethodName := ⟨RX2, "forgetAll", "()V"⟩
abbrev cX2_hasRoomFor : ByteArray := prog_4_method_3_code
def yX2_hasRoomFor : MethodName := ⟨RX2, "hasRoomFor", "(I)Z"⟩
abbrev cX2_tell : ByteArray := prog_4_method_4_code
def yX2_tell : MethodName := ⟨RX2, "tell", "(I[I)V"⟩
abbrev cX2_tellPocket : ByteArray := prog_4_method_5_code
def yX2_tellPocket : MethodName := ⟨RX2, "tellPocket", "([I)V"⟩
abbrev cX2_tellLaw : ByteArray := prog_4_method_6_code
def yX2_tellLaw : MethodName := ⟨RX2, "tellLaw", "(III)V"⟩
abbrev cX2_tellSeam : ByteArray := prog_4_method_7_code
def yX2_tellSeam : MethodName := ⟨RX2, "tellSeam", "(II)V"⟩
abbrev cX2_tellHole : ByteArray := prog_4_method_8_code
def yX2_tellHole : MethodName := ⟨RX2, "tellHole", "(III)V"⟩
abbrev cX2_tellTreaty : ByteArray := prog_4_method_9_code
def yX2_tellTreaty : MethodName := ⟨RX2, "tellTreaty", "(III)V"⟩
abbrev cX2_tellThing : ByteArray := prog_4_method_10_code
def yX2_tellThing : MethodName := ⟨RX2, "tellThing", "([I)V"⟩
abbrev cX2_settleLaws : ByteArray := prog_4_method_11_code
def yX2_settleLaws : MethodName := ⟨RX2, "settleLaws", "()V"⟩
abbrev cX2_settleLawsOf : ByteArray := prog_4_method_12_code
def yX2_settleLawsOf : MethodName := ⟨RX2, "settleLawsOf", "(I)V"⟩
abbrev cX2_outerLetsIn : ByteArray := prog_4_method_13_code
def yX2_outerLetsIn : MethodName := ⟨RX2, "outerLetsIn", "(II)Z"⟩
abbrev cX2_allHold : ByteArray := prog_4_method_14_code
def yX2_allHold : MethodName := ⟨RX2, "allHold", "(II)Z"⟩
abbrev cX2_lawSays : ByteArray := prog_4_method_15_code
def yX2_lawSays : MethodName := ⟨RX2, "lawSays", "(III)Z"⟩
abbrev cX2_depth : ByteArray := prog_4_method_16_code
def yX2_depth : MethodName := ⟨RX2, "depth", "(I)I"⟩
abbrev cX2_parts : ByteArray := prog_4_method_17_code
def yX2_parts : MethodName := ⟨RX2, "parts", "()I"⟩
abbrev cX2_partOf : ByteArray := prog_4_method_18_code
def yX2_partOf : MethodName := ⟨RX2, "partOf", "(I)I"⟩
abbrev cX2_opens : ByteArray := prog_4_method_19_code
def yX2_opens : MethodName := ⟨RX2, "opens", "(III)Z"⟩
abbrev cX2_price : ByteArray := prog_4_method_20_code
def yX2_price : MethodName := ⟨RX2, "price", "(III)I"⟩
abbrev cX2_worthOf : ByteArray := prog_4_method_21_code
def yX2_worthOf : MethodName := ⟨RX2, "worthOf", "(II)I"⟩
abbrev cX2_behindNight : ByteArray := prog_4_method_22_code
def yX2_behindNight : MethodName := ⟨RX2, "behindNight", "(II)I"⟩
abbrev cX2_behindNights : ByteArray := prog_4_method_23_code
def yX2_behindNights : MethodName := ⟨RX2, "behindNights", "(III)I"⟩
abbrev cX2_dropsAsFarAs : ByteArray := prog_4_method_24_code
def yX2_dropsAsFarAs : MethodName := ⟨RX2, "dropsAsFarAs", "(III)Z"⟩
abbrev cX2_firstStitch : ByteArray := prog_4_method_25_code
def yX2_firstStitch : MethodName := ⟨RX2, "firstStitch", "(II)I"⟩
def RX3 : String := "PocketLaws$Stowing"
def TX3 : u_T := fun k => match k with
  | 0 => ("PocketLaws$Stowing", "plan", "[I", true)
  | _ => ("PocketLaws$Stowing", "load", "[I", true)
def tyX3 : Nat → FieldType := fun k => match k with
  | 0 => .array .int
  | _ => .array .int
theorem nmX3 : ∀ a, a < 2 → ∀ b, b < 2 → a ≠ b → (TX3 a).2.1 ≠ (TX3 b).2.1 := by decide +kernel
theorem tyX3_ok : ∀ k, k < 2 → parseFieldDescriptor (TX3 k).2.2.1 = some (tyX3 k) := by decide +kernel
abbrev cX3_init : ByteArray := prog_5_method_1_code
def yX3_init : MethodName := ⟨RX3, "<init>", "()V"⟩
abbrev cX3_fewestMoved : ByteArray := prog_5_method_2_code
def yX3_fewestMoved : MethodName := ⟨RX3, "fewestMoved", "(LPocketLaws$Realm;LPocketLaws$Now;)I"⟩
abbrev cX3_eachHasAPlace : ByteArray := prog_5_method_3_code
def yX3_eachHasAPlace : MethodName := ⟨RX3, "eachHasAPlace", "(LPocketLaws$Realm;)Z"⟩
abbrev cX3_putFrom : ByteArray := prog_5_method_4_code
def yX3_putFrom : MethodName := ⟨RX3, "putFrom", "(LPocketLaws$Stowing;LPocketLaws$Realm;LPocketLaws$Now;II)Z"⟩
def RX4 : String := "PocketLaws$Text"
def TX4 : u_T := fun k => match k with
  | 0 => ("PocketLaws$Text", "letters", "[I", true)
  | 1 => ("PocketLaws$Text", "said", "[I", true)
  | 2 => ("PocketLaws$Text", "length", "I", false)
  | 3 => ("PocketLaws$Text", "place", "I", false)
  | 4 => ("PocketLaws$Text", "token", "I", false)
  | 5 => ("PocketLaws$Text", "tokenPlace", "I", false)
  | _ => ("PocketLaws$Text", "value", "I", false)
def tyX4 : Nat → FieldType := fun k => match k with
  | 0 => .array .int
  | 1 => .array .int
  | 2 => .int
  | 3 => .int
  | 4 => .int
  | 5 => .int
  | _ => .int
theorem nmX4 : ∀ a, a < 7 → ∀ b, b < 7 → a ≠ b → (TX4 a).2.1 ≠ (TX4 b).2.1 := by decide +kernel
theorem tyX4_ok : ∀ k, k < 7 → parseFieldDescriptor (TX4 k).2.2.1 = some (tyX4 k) := by decide +kernel
abbrev cX4_init : ByteArray := prog_6_method_1_code
def yX4_init : MethodName := ⟨RX4, "<init>", "()V"⟩
abbrev cX4_readInto : ByteArray := prog_6_method_2_code
def yX4_readInto : MethodName := ⟨RX4, "readInto", "(LPocketLaws$Realm;)I"⟩
abbrev cX4_readItem : ByteArray := prog_6_method_3_code
def yX4_readItem : MethodName := ⟨RX4, "readItem", "(LPocketLaws$Realm;)Z"⟩
abbrev cX4_formOf : ByteArray := prog_6_method_4_code
def yX4_formOf : MethodName := ⟨RX4, "formOf", "(I)[I"⟩
abbrev cX4_mayBe : ByteArray := prog_6_method_5_code
def yX4_mayBe : MethodName := ⟨RX4, "mayBe", "(II)Z"⟩
abbrev cX4_readToken : ByteArray := prog_6_method_6_code
def yX4_readToken : MethodName := ⟨RX4, "readToken", "()V"⟩
abbrev cX4_readNumber : ByteArray := prog_6_method_7_code
def yX4_readNumber : MethodName := ⟨RX4, "readNumber", "()V"⟩
abbrev cX4_isDigit : ByteArray := prog_6_method_8_code
def yX4_isDigit : MethodName := ⟨RX4, "isDigit", "(I)Z"⟩
def RX5 : String := "PocketLaws"
def TX5 : u_T := fun k => match k with
  | 0 => ("PocketLaws", "text", "LPocketLaws$Text;", true)
  | 1 => ("PocketLaws", "present", "LPocketLaws$Now;", true)
  | 2 => ("PocketLaws", "past", "LPocketLaws$Past;", true)
  | 3 => ("PocketLaws", "images", "[LPocketLaws$Now;", true)
  | 4 => ("PocketLaws", "kept", "[Z", true)
  | 5 => ("PocketLaws", "stowing", "LPocketLaws$Stowing;", true)
  | 6 => ("PocketLaws", "cost", "[I", true)
  | 7 => ("PocketLaws", "chance", "[I", true)
  | 8 => ("PocketLaws", "chanceBehind", "[I", true)
  | 9 => ("PocketLaws", "told", "LPocketLaws$Realm;", false)
  | 10 => ("PocketLaws", "spare", "LPocketLaws$Realm;", false)
  | _ => ("PocketLaws", "traced", "J", false)
def tyX5 : Nat → FieldType := fun k => match k with
  | 0 => .object "PocketLaws$Text"
  | 1 => .object "PocketLaws$Now"
  | 2 => .object "PocketLaws$Past"
  | 3 => .array (.object "PocketLaws$Now")
  | 4 => .array .boolean
  | 5 => .object "PocketLaws$Stowing"
  | 6 => .array .int
  | 7 => .array .int
  | 8 => .array .int
  | 9 => .object "PocketLaws$Realm"
  | 10 => .object "PocketLaws$Realm"
  | _ => .long
theorem nmX5 : ∀ a, a < 12 → ∀ b, b < 12 → a ≠ b → (TX5 a).2.1 ≠ (TX5 b).2.1 := by decide +kernel
theorem tyX5_ok : ∀ k, k < 12 → parseFieldDescriptor (TX5 k).2.2.1 = some (tyX5 k) := by decide +kernel
abbrev cX5_init : ByteArray := prog_1_method_1_code
def yX5_init : MethodName := ⟨RX5, "<init>", "()V"⟩
abbrev cX5_type : ByteArray := prog_1_method_2_code
def yX5_type : MethodName := ⟨RX5, "type", "(I)I"⟩
abbrev cX5_clear : ByteArray := prog_1_method_3_code
def yX5_clear : MethodName := ⟨RX5, "clear", "()I"⟩
abbrev cX5_realm : ByteArray := prog_1_method_4_code
def yX5_realm : MethodName := ⟨RX5, "realm", "()I"⟩
abbrev cX5_pocket : ByteArray := prog_1_method_5_code
def yX5_pocket : MethodName := ⟨RX5, "pocket", "(II)I"⟩
abbrev cX5_thing : ByteArray := prog_1_method_6_code
def yX5_thing : MethodName := ⟨RX5, "thing", "(II)I"⟩
abbrev cX5_letsIn : ByteArray := prog_1_method_7_code
def yX5_letsIn : MethodName := ⟨RX5, "letsIn", "(II)I"⟩
abbrev cX5_fixed : ByteArray := prog_1_method_8_code
def yX5_fixed : MethodName := ⟨RX5, "fixed", "(I)I"⟩
abbrev cX5_now : ByteArray := prog_1_method_9_code
def yX5_now : MethodName := ⟨RX5, "now", "(I)I"⟩
abbrev cX5_moves : ByteArray := prog_1_method_10_code
def yX5_moves : MethodName := ⟨RX5, "moves", "(II)I"⟩
abbrev cX5_night : ByteArray := prog_1_method_11_code
def yX5_night : MethodName := ⟨RX5, "night", "()I"⟩
abbrev cX5_undo : ByteArray := prog_1_method_12_code
def yX5_undo : MethodName := ⟨RX5, "undo", "()I"⟩
abbrev cX5_way : ByteArray := prog_1_method_13_code
def yX5_way : MethodName := ⟨RX5, "way", "(III)I"⟩
abbrev cX5_stow : ByteArray := prog_1_method_14_code
def yX5_stow : MethodName := ⟨RX5, "stow", "(I)I"⟩
abbrev cX5_hoard : ByteArray := prog_1_method_15_code
def yX5_hoard : MethodName := ⟨RX5, "hoard", "(I)I"⟩
abbrev cX5_saves : ByteArray := prog_1_method_16_code
def yX5_saves : MethodName := ⟨RX5, "saves", "(II)I"⟩
abbrev cX5_drops : ByteArray := prog_1_method_17_code
def yX5_drops : MethodName := ⟨RX5, "drops", "(II)I"⟩
abbrev cX5_lay : ByteArray := prog_1_method_18_code
def yX5_lay : MethodName := ⟨RX5, "lay", "(II)I"⟩
abbrev cX5_stitches : ByteArray := prog_1_method_19_code
def yX5_stitches : MethodName := ⟨RX5, "stitches", "(III)I"⟩
abbrev cX5_odds : ByteArray := prog_1_method_20_code
def yX5_odds : MethodName := ⟨RX5, "odds", "(IIIII)I"⟩
abbrev cX5_rate : ByteArray := prog_1_method_21_code
def yX5_rate : MethodName := ⟨RX5, "rate", "(II)I"⟩
abbrev cX5_keep : ByteArray := prog_1_method_22_code
def yX5_keep : MethodName := ⟨RX5, "keep", "(I)I"⟩
abbrev cX5_back : ByteArray := prog_1_method_23_code
def yX5_back : MethodName := ⟨RX5, "back", "(I)I"⟩
abbrev cX5_count : ByteArray := prog_1_method_24_code
def yX5_count : MethodName := ⟨RX5, "count", "(I)I"⟩
abbrev cX5_trace : ByteArray := prog_1_method_25_code
def yX5_trace : MethodName := ⟨RX5, "trace", "()J"⟩
abbrev cX5_isPocket : ByteArray := prog_1_method_26_code
def yX5_isPocket : MethodName := ⟨RX5, "isPocket", "(I)Z"⟩
abbrev cX5_isThing : ByteArray := prog_1_method_27_code
def yX5_isThing : MethodName := ⟨RX5, "isThing", "(I)Z"⟩
abbrev cX5_filled : ByteArray := prog_1_method_28_code
def yX5_filled : MethodName := ⟨RX5, "filled", "(I)I"⟩
abbrev cX5_hasRoom : ByteArray := prog_1_method_29_code
def yX5_hasRoom : MethodName := ⟨RX5, "hasRoom", "(II)Z"⟩
abbrev cX5_isOutlawed : ByteArray := prog_1_method_30_code
def yX5_isOutlawed : MethodName := ⟨RX5, "isOutlawed", "(I)Z"⟩
abbrev cX5_outlawed : ByteArray := prog_1_method_31_code
def yX5_outlawed : MethodName := ⟨RX5, "outlawed", "()I"⟩
abbrev cX5_fallsThrough : ByteArray := prog_1_method_32_code
def yX5_fallsThrough : MethodName := ⟨RX5, "fallsThrough", "(I)Z"⟩
abbrev cX5_least : ByteArray := prog_1_method_33_code
def yX5_least : MethodName := ⟨RX5, "least", "(IIZII)I"⟩
abbrev cX5_lowerCosts : ByteArray := prog_1_method_34_code
def yX5_lowerCosts : MethodName := ⟨RX5, "lowerCosts", "(IIZII)V"⟩
abbrev cX5_spreadChance : ByteArray := prog_1_method_35_code
def yX5_spreadChance : MethodName := ⟨RX5, "spreadChance", "(II)V"⟩
abbrev cX5_asPocket : ByteArray := prog_1_method_36_code
def yX5_asPocket : MethodName := ⟨RX5, "asPocket", "(I)I"⟩
abbrev cX5_asCoat : ByteArray := prog_1_method_37_code
def yX5_asCoat : MethodName := ⟨RX5, "asCoat", "(I)I"⟩
abbrev cX5_asPurse : ByteArray := prog_1_method_38_code
def yX5_asPurse : MethodName := ⟨RX5, "asPurse", "(I)I"⟩
abbrev cX5_asLeague : ByteArray := prog_1_method_39_code
def yX5_asLeague : MethodName := ⟨RX5, "asLeague", "(I)I"⟩
abbrev cX5_asBeggar : ByteArray := prog_1_method_40_code
def yX5_asBeggar : MethodName := ⟨RX5, "asBeggar", "(I)I"⟩
abbrev cX5_asLining : ByteArray := prog_1_method_41_code
def yX5_asLining : MethodName := ⟨RX5, "asLining", "(I)I"⟩
abbrev cX5_within : ByteArray := prog_1_method_42_code
def yX5_within : MethodName := ⟨RX5, "within", "(III)Z"⟩
abbrev cX5_has : ByteArray := prog_1_method_43_code
def yX5_has : MethodName := ⟨RX5, "has", "(II)Z"⟩
abbrev cX5_commonDivisor : ByteArray := prog_1_method_44_code
def yX5_commonDivisor : MethodName := ⟨RX5, "commonDivisor", "(II)I"⟩
def RX6 : String := "PocketLawsModel"
def TX6 : u_T := fun k => match k with
  | 0 => ("PocketLawsModel", "text", "[I", true)
  | 1 => ("PocketLawsModel", "letters", "I", false)
  | 2 => ("PocketLawsModel", "of", "[I", true)
  | 3 => ("PocketLawsModel", "pockets", "I", false)
  | 4 => ("PocketLawsModel", "seams", "[Z", true)
  | 5 => ("PocketLawsModel", "treaties", "[I", true)
  | 6 => ("PocketLawsModel", "treatyMany", "I", false)
  | 7 => ("PocketLawsModel", "sorts", "[I", true)
  | 8 => ("PocketLawsModel", "bulks", "[I", true)
  | 9 => ("PocketLawsModel", "worths", "[I", true)
  | 10 => ("PocketLawsModel", "things", "I", false)
  | 11 => ("PocketLawsModel", "st", "[I", true)
  | 12 => ("PocketLawsModel", "ahead", "[I", true)
  | 13 => ("PocketLawsModel", "undoMany", "I", false)
  | 14 => ("PocketLawsModel", "trace", "J", false)
  | 15 => ("PocketLawsModel", "place", "I", false)
  | 16 => ("PocketLawsModel", "token", "I", false)
  | 17 => ("PocketLawsModel", "value", "I", false)
  | 18 => ("PocketLawsModel", "begins", "I", false)
  | 19 => ("PocketLawsModel", "readOf", "[I", true)
  | 20 => ("PocketLawsModel", "readPockets", "I", false)
  | 21 => ("PocketLawsModel", "readSeams", "[Z", true)
  | 22 => ("PocketLawsModel", "readTreaties", "[I", true)
  | 23 => ("PocketLawsModel", "readTreatyMany", "I", false)
  | 24 => ("PocketLawsModel", "readThings", "[I", true)
  | 25 => ("PocketLawsModel", "readMany", "I", false)
  | 26 => ("PocketLawsModel", "number", "[I", true)
  | 27 => ("PocketLawsModel", "items", "I", false)
  | 28 => ("PocketLawsModel", "far", "[I", true)
  | 29 => ("PocketLawsModel", "row", "[I", true)
  | 30 => ("PocketLawsModel", "bestRow", "[I", true)
  | 31 => ("PocketLawsModel", "lets", "[I", true)
  | 32 => ("PocketLawsModel", "shares", "[J", true)
  | 33 => ("PocketLawsModel", "then", "[J", true)
  | 34 => ("PocketLawsModel", "isKept", "[Z", true)
  | _ => ("PocketLawsModel", "kept", "[I", true)
def tyX6 : Nat → FieldType := fun k => match k with
  | 0 => .array .int
  | 1 => .int
  | 2 => .array .int
  | 3 => .int
  | 4 => .array .boolean
  | 5 => .array .int
  | 6 => .int
  | 7 => .array .int
  | 8 => .array .int
  | 9 => .array .int
  | 10 => .int
  | 11 => .array .int
  | 12 => .array .int
  | 13 => .int
  | 14 => .long
  | 15 => .int
  | 16 => .int
  | 17 => .int
  | 18 => .int
  | 19 => .array .int
  | 20 => .int
  | 21 => .array .boolean
  | 22 => .array .int
  | 23 => .int
  | 24 => .array .int
  | 25 => .int
  | 26 => .array .int
  | 27 => .int
  | 28 => .array .int
  | 29 => .array .int
  | 30 => .array .int
  | 31 => .array .int
  | 32 => .array .long
  | 33 => .array .long
  | 34 => .array .boolean
  | _ => .array .int
theorem nmX6 : ∀ a, a < 36 → ∀ b, b < 36 → a ≠ b → (TX6 a).2.1 ≠ (TX6 b).2.1 := by decide +kernel
theorem tyX6_ok : ∀ k, k < 36 → parseFieldDescriptor (TX6 k).2.2.1 = some (tyX6 k) := by decide +kernel
abbrev cX6_init : ByteArray := prog_8_method_1_code
def yX6_init : MethodName := ⟨RX6, "<init>", "()V"⟩
abbrev cX6_in : ByteArray := prog_8_method_2_code
def yX6_in : MethodName := ⟨RX6, "in", "(JJJ)Z"⟩
abbrev cX6_has : ByteArray := prog_8_method_3_code
def yX6_has : MethodName := ⟨RX6, "has", "(II)Z"⟩
abbrev cX6_isPocket : ByteArray := prog_8_method_4_code
def yX6_isPocket : MethodName := ⟨RX6, "isPocket", "(I)Z"⟩
abbrev cX6_isThing : ByteArray := prog_8_method_5_code
def yX6_isThing : MethodName := ⟨RX6, "isThing", "(I)Z"⟩
abbrev cX6_type : ByteArray := prog_8_method_6_code
def yX6_type : MethodName := ⟨RX6, "type", "(I)I"⟩
abbrev cX6_clear : ByteArray := prog_8_method_7_code
def yX6_clear : MethodName := ⟨RX6, "clear", "()I"⟩
abbrev cX6_letterAt : ByteArray := prog_8_method_8_code
def yX6_letterAt : MethodName := ⟨RX6, "letterAt", "(I)I"⟩
abbrev cX6_nextToken : ByteArray := prog_8_method_9_code
def yX6_nextToken : MethodName := ⟨RX6, "nextToken", "()V"⟩
abbrev cX6_takes : ByteArray := prog_8_method_10_code
def yX6_takes : MethodName := ⟨RX6, "takes", "(III)Z"⟩
abbrev cX6_takesTwo : ByteArray := prog_8_method_11_code
def yX6_takesTwo : MethodName := ⟨RX6, "takesTwo", "()Z"⟩
abbrev cX6_readPocket : ByteArray := prog_8_method_12_code
def yX6_readPocket : MethodName := ⟨RX6, "readPocket", "()Z"⟩
abbrev cX6_readThing : ByteArray := prog_8_method_13_code
def yX6_readThing : MethodName := ⟨RX6, "readThing", "()Z"⟩
abbrev cX6_readLaw : ByteArray := prog_8_method_14_code
def yX6_readLaw : MethodName := ⟨RX6, "readLaw", "(I)Z"⟩
abbrev cX6_readSeam : ByteArray := prog_8_method_15_code
def yX6_readSeam : MethodName := ⟨RX6, "readSeam", "()Z"⟩
abbrev cX6_readHole : ByteArray := prog_8_method_16_code
def yX6_readHole : MethodName := ⟨RX6, "readHole", "()Z"⟩
abbrev cX6_readTreaty : ByteArray := prog_8_method_17_code
def yX6_readTreaty : MethodName := ⟨RX6, "readTreaty", "()Z"⟩
abbrev cX6_readRealm : ByteArray := prog_8_method_18_code
def yX6_readRealm : MethodName := ⟨RX6, "readRealm", "()Z"⟩
abbrev cX6_realm : ByteArray := prog_8_method_19_code
def yX6_realm : MethodName := ⟨RX6, "realm", "()I"⟩
abbrev cX6_allowsOwn : ByteArray := prog_8_method_20_code
def yX6_allowsOwn : MethodName := ⟨RX6, "allowsOwn", "(II)Z"⟩
abbrev cX6_holds : ByteArray := prog_8_method_21_code
def yX6_holds : MethodName := ⟨RX6, "holds", "(II)Z"⟩
abbrev cX6_fixedOf : ByteArray := prog_8_method_22_code
def yX6_fixedOf : MethodName := ⟨RX6, "fixedOf", "(I)I"⟩
abbrev cX6_letting : ByteArray := prog_8_method_23_code
def yX6_letting : MethodName := ⟨RX6, "letting", "(I)I"⟩
abbrev cX6_filled : ByteArray := prog_8_method_24_code
def yX6_filled : MethodName := ⟨RX6, "filled", "(I)I"⟩
abbrev cX6_depthOf : ByteArray := prog_8_method_25_code
def yX6_depthOf : MethodName := ⟨RX6, "depthOf", "(I)I"⟩
abbrev cX6_seamsOf : ByteArray := prog_8_method_26_code
def yX6_seamsOf : MethodName := ⟨RX6, "seamsOf", "(I)I"⟩
abbrev cX6_pocket : ByteArray := prog_8_method_27_code
def yX6_pocket : MethodName := ⟨RX6, "pocket", "(II)I"⟩
abbrev cX6_isOutlawed : ByteArray := prog_8_method_28_code
def yX6_isOutlawed : MethodName := ⟨RX6, "isOutlawed", "(I)Z"⟩
abbrev cX6_thing : ByteArray := prog_8_method_29_code
def yX6_thing : MethodName := ⟨RX6, "thing", "(II)I"⟩
abbrev cX6_isSort : ByteArray := prog_8_method_30_code
def yX6_isSort : MethodName := ⟨RX6, "isSort", "(I)Z"⟩
abbrev cX6_letsIn : ByteArray := prog_8_method_31_code
def yX6_letsIn : MethodName := ⟨RX6, "letsIn", "(II)I"⟩
abbrev cX6_fixed : ByteArray := prog_8_method_32_code
def yX6_fixed : MethodName := ⟨RX6, "fixed", "(I)I"⟩
abbrev cX6_parts : ByteArray := prog_8_method_33_code
def yX6_parts : MethodName := ⟨RX6, "parts", "()I"⟩
abbrev cX6_now : ByteArray := prog_8_method_34_code
def yX6_now : MethodName := ⟨RX6, "now", "(I)I"⟩
abbrev cX6_note : ByteArray := prog_8_method_35_code
def yX6_note : MethodName := ⟨RX6, "note", "()V"⟩
abbrev cX6_taxOf : ByteArray := prog_8_method_36_code
def yX6_taxOf : MethodName := ⟨RX6, "taxOf", "(III)I"⟩
abbrev cX6_hasRoom : ByteArray := prog_8_method_37_code
def yX6_hasRoom : MethodName := ⟨RX6, "hasRoom", "(II)Z"⟩
abbrev cX6_moves : ByteArray := prog_8_method_38_code
def yX6_moves : MethodName := ⟨RX6, "moves", "(II)I"⟩
abbrev cX6_through : ByteArray := prog_8_method_39_code
def yX6_through : MethodName := ⟨RX6, "through", "(II)I"⟩
abbrev cX6_night : ByteArray := prog_8_method_40_code
def yX6_night : MethodName := ⟨RX6, "night", "()I"⟩
abbrev cX6_undo : ByteArray := prog_8_method_41_code
def yX6_undo : MethodName := ⟨RX6, "undo", "()I"⟩
abbrev cX6_farOf : ByteArray := prog_8_method_42_code
def yX6_farOf : MethodName := ⟨RX6, "farOf", "(IIZ)I"⟩
abbrev cX6_way : ByteArray := prog_8_method_43_code
def yX6_way : MethodName := ⟨RX6, "way", "(III)I"⟩
abbrev cX6_saves : ByteArray := prog_8_method_44_code
def yX6_saves : MethodName := ⟨RX6, "saves", "(II)I"⟩
abbrev cX6_elsewhere : ByteArray := prog_8_method_45_code
def yX6_elsewhere : MethodName := ⟨RX6, "elsewhere", "()I"⟩
abbrev cX6_stow : ByteArray := prog_8_method_46_code
def yX6_stow : MethodName := ⟨RX6, "stow", "(I)I"⟩
abbrev cX6_hoard : ByteArray := prog_8_method_47_code
def yX6_hoard : MethodName := ⟨RX6, "hoard", "(I)I"⟩
abbrev cX6_dropsFrom : ByteArray := prog_8_method_48_code
def yX6_dropsFrom : MethodName := ⟨RX6, "dropsFrom", "(III)I"⟩
abbrev cX6_drops : ByteArray := prog_8_method_49_code
def yX6_drops : MethodName := ⟨RX6, "drops", "(II)I"⟩
abbrev cX6_lay : ByteArray := prog_8_method_50_code
def yX6_lay : MethodName := ⟨RX6, "lay", "(II)I"⟩
abbrev cX6_stitches : ByteArray := prog_8_method_51_code
def yX6_stitches : MethodName := ⟨RX6, "stitches", "(III)I"⟩
abbrev cX6_common : ByteArray := prog_8_method_52_code
def yX6_common : MethodName := ⟨RX6, "common", "(JJ)J"⟩
abbrev cX6_odds : ByteArray := prog_8_method_53_code
def yX6_odds : MethodName := ⟨RX6, "odds", "(IIIII)I"⟩
abbrev cX6_asPocket : ByteArray := prog_8_method_54_code
def yX6_asPocket : MethodName := ⟨RX6, "asPocket", "(I)I"⟩
abbrev cX6_asCoat : ByteArray := prog_8_method_55_code
def yX6_asCoat : MethodName := ⟨RX6, "asCoat", "(I)I"⟩
abbrev cX6_asPurse : ByteArray := prog_8_method_56_code
def yX6_asPurse : MethodName := ⟨RX6, "asPurse", "(I)I"⟩
abbrev cX6_rate : ByteArray := prog_8_method_57_code
def yX6_rate : MethodName := ⟨RX6, "rate", "(II)I"⟩
abbrev cX6_keep : ByteArray := prog_8_method_58_code
def yX6_keep : MethodName := ⟨RX6, "keep", "(I)I"⟩
abbrev cX6_back : ByteArray := prog_8_method_59_code
def yX6_back : MethodName := ⟨RX6, "back", "(I)I"⟩
abbrev cX6_count : ByteArray := prog_8_method_60_code
def yX6_count : MethodName := ⟨RX6, "count", "(I)I"⟩
abbrev cX6_trace : ByteArray := prog_8_method_61_code
def yX6_trace : MethodName := ⟨RX6, "trace", "()J"⟩
def RJ9 : String := "java/lang/Math"
def TJ9 : u_T := fun k => match k with
  | _ => ("", "", "", false)
def tyJ9 : Nat → FieldType := fun k => match k with
  | _ => .int
theorem nmJ9 : ∀ a, a < 0 → ∀ b, b < 0 → a ≠ b → (TJ9 a).2.1 ≠ (TJ9 b).2.1 := by decide +kernel
theorem tyJ9_ok : ∀ k, k < 0 → parseFieldDescriptor (TJ9 k).2.2.1 = some (tyJ9 k) := by decide +kernel
abbrev cJ9_max_7cf53 : ByteArray := prog_9_method_65_code
def yJ9_max_7cf53 : MethodName := ⟨RJ9, "max", "(II)I"⟩
abbrev cJ9_min_7cf53 : ByteArray := prog_9_method_69_code
def yJ9_min_7cf53 : MethodName := ⟨RJ9, "min", "(II)I"⟩
def RJ10 : String := "java/lang/System"
def TJ10 : u_T := fun k => match k with
  | _ => ("", "", "", false)
def tyJ10 : Nat → FieldType := fun k => match k with
  | _ => .int
theorem nmJ10 : ∀ a, a < 0 → ∀ b, b < 0 → a ≠ b → (TJ10 a).2.1 ≠ (TJ10 b).2.1 := by decide +kernel
theorem tyJ10_ok : ∀ k, k < 0 → parseFieldDescriptor (TJ10 k).2.2.1 = some (tyJ10 k) := by decide +kernel
def RJ7 : String := "java/util/Arrays"
def TJ7 : u_T := fun k => match k with
  | _ => ("", "", "", false)
def tyJ7 : Nat → FieldType := fun k => match k with
  | _ => .int
theorem nmJ7 : ∀ a, a < 0 → ∀ b, b < 0 → a ≠ b → (TJ7 a).2.1 ≠ (TJ7 b).2.1 := by decide +kernel
theorem tyJ7_ok : ∀ k, k < 0 → parseFieldDescriptor (TJ7 k).2.2.1 = some (tyJ7 k) := by decide +kernel
abbrev cJ7_fill_53178 : ByteArray := prog_11_method_103_code
def yJ7_fill_53178 : MethodName := ⟨RJ7, "fill", "([II)V"⟩
def RL : String := "PocketLawsLaw"
abbrev cL_law : ByteArray := code
def yL_law : MethodName := ⟨RL, "law", "([I)Z"⟩
abbrev vwCl : List vw_C := [(RX0, TX0, 3), (RX1, TX1, 3), (RX2, TX2, 19), (RX3, TX3, 2), (RX4, TX4, 7), (RX5, TX5, 12), (RX6, TX6, 36)]
end
section
theorem dX0_init_0 : decode cX0_init 0 = .ok (.aload_n 0, 1) := by decide +kernel
theorem dX0_init_1 : decode cX0_init 1 = .ok (.invokespecial 3, 3) := by decide +kernel
theorem dX0_init_4 : decode cX0_init 4 = .ok (.aload_n 0, 1) := by decide +kernel
theorem dX0_init_5 : decode cX0_init 5 = .ok (.bipush 6, 2) := by decide +kernel
theorem dX0_init_7 : decode cX0_init 7 = .ok (.newarray .int, 2) := by decide +kernel
theorem dX0_init_9 : decode cX0_init 9 = .ok (.putfield 9, 3) := by decide +kernel
theorem dX0_init_12 : decode cX0_init 12 = .ok (.return_, 1) := by decide +kernel
theorem dX0_become_0 : decode cX0_become 0 = .ok (.aload_n 1, 1) := by decide +kernel
theorem dX0_become_1 : decode cX0_become 1 = .ok (.getfield 9, 3) := by decide +kernel
theorem dX0_become_4 : decode cX0_become 4 = .ok (.iconst 0, 1) := by decide +kernel
theorem dX0_become_5 : decode cX0_become 5 = .ok (.aload_n 0, 1) := by decide +kernel
theorem dX0_become_6 : decode cX0_become 6 = .ok (.getfield 9, 3) := by decide +kernel
theorem dX0_become_9 : decode cX0_become 9 = .ok (.iconst 0, 1) := by decide +kernel
theorem dX0_become_10 : decode cX0_become 10 = .ok (.bipush 6, 2) := by decide +kernel
theorem dX0_become_12 : decode cX0_become 12 = .ok (.invokestatic 15, 3) := by decide +kernel
theorem dX0_become_15 : decode cX0_become 15 = .ok (.aload_n 0, 1) := by decide +kernel
theorem dX0_become_16 : decode cX0_become 16 = .ok (.aload_n 1, 1) := by decide +kernel
theorem dX0_become_17 : decode cX0_become 17 = .ok (.getfield 21, 3) := by decide +kernel
theorem dX0_become_20 : decode cX0_become 20 = .ok (.putfield 21, 3) := by decide +kernel
theorem dX0_become_23 : decode cX0_become 23 = .ok (.aload_n 0, 1) := by decide +kernel
theorem dX0_become_24 : decode cX0_become 24 = .ok (.aload_n 1, 1) := by decide +kernel
theorem dX0_become_25 : decode cX0_become 25 = .ok (.getfield 25, 3) := by decide +kernel
theorem dX0_become_28 : decode cX0_become 28 = .ok (.putfield 25, 3) := by decide +kernel
theorem dX0_become_31 : decode cX0_become 31 = .ok (.return_, 1) := by decide +kernel
theorem dX0_begin_0 : decode cX0_begin 0 = .ok (.aload_n 1, 1) := by decide +kernel
theorem dX0_begin_1 : decode cX0_begin 1 = .ok (.getfield 28, 3) := by decide +kernel
theorem dX0_begin_4 : decode cX0_begin 4 = .ok (.iconst 0, 1) := by decide +kernel
theorem dX0_begin_5 : decode cX0_begin 5 = .ok (.aload_n 0, 1) := by decide +kernel
theorem dX0_begin_6 : decode cX0_begin 6 = .ok (.getfield 9, 3) := by decide +kernel
theorem dX0_begin_9 : decode cX0_begin 9 = .ok (.iconst 0, 1) := by decide +kernel
theorem dX0_begin_10 : decode cX0_begin 10 = .ok (.bipush 6, 2) := by decide +kernel
theorem dX0_begin_12 : decode cX0_begin 12 = .ok (.invokestatic 15, 3) := by decide +kernel
theorem dX0_begin_15 : decode cX0_begin 15 = .ok (.aload_n 0, 1) := by decide +kernel
theorem dX0_begin_16 : decode cX0_begin 16 = .ok (.iconst 0, 1) := by decide +kernel
theorem dX0_begin_17 : decode cX0_begin 17 = .ok (.putfield 21, 3) := by decide +kernel
theorem dX0_begin_20 : decode cX0_begin 20 = .ok (.aload_n 0, 1) := by decide +kernel
theorem dX0_begin_21 : decode cX0_begin 21 = .ok (.iconst 0, 1) := by decide +kernel
theorem dX0_begin_22 : decode cX0_begin 22 = .ok (.putfield 25, 3) := by decide +kernel
theorem dX0_begin_25 : decode cX0_begin 25 = .ok (.return_, 1) := by decide +kernel
theorem dX1_init_0 : decode cX1_init 0 = .ok (.aload_n 0, 1) := by decide +kernel
theorem dX1_init_1 : decode cX1_init 1 = .ok (.invokespecial 3, 3) := by decide +kernel
theorem dX1_init_4 : decode cX1_init 4 = .ok (.aload_n 0, 1) := by decide +kernel
theorem dX1_init_5 : decode cX1_init 5 = .ok (.bipush 10, 2) := by decide +kernel
theorem dX1_init_7 : decode cX1_init 7 = .ok (.anewarray 9, 3) := by decide +kernel
theorem dX1_init_10 : decode cX1_init 10 = .ok (.putfield 11, 3) := by decide +kernel
theorem dX1_init_13 : decode cX1_init 13 = .ok (.iconst 0, 1) := by decide +kernel
theorem dX1_init_14 : decode cX1_init 14 = .ok (.istore_n 1, 1) := by decide +kernel
theorem dX1_init_15 : decode cX1_init 15 = .ok (.iload_n 1, 1) := by decide +kernel
theorem dX1_init_16 : decode cX1_init 16 = .ok (.bipush 10, 2) := by decide +kernel
theorem dX1_init_18 : decode cX1_init 18 = .ok (.if_icmp .ge 22, 3) := by decide +kernel
theorem dX1_init_21 : decode cX1_init 21 = .ok (.aload_n 0, 1) := by decide +kernel
theorem dX1_init_22 : decode cX1_init 22 = .ok (.getfield 11, 3) := by decide +kernel
theorem dX1_init_25 : decode cX1_init 25 = .ok (.iload_n 1, 1) := by decide +kernel
theorem dX1_init_26 : decode cX1_init 26 = .ok (.new 9, 3) := by decide +kernel
theorem dX1_init_29 : decode cX1_init 29 = .ok (.dup, 1) := by decide +kernel
theorem dX1_init_30 : decode cX1_init 30 = .ok (.invokespecial 17, 3) := by decide +kernel
theorem dX1_init_33 : decode cX1_init 33 = .ok (.aastore, 1) := by decide +kernel
theorem dX1_init_34 : decode cX1_init 34 = .ok (.iinc 1 1, 3) := by decide +kernel
theorem dX1_init_37 : decode cX1_init 37 = .ok (.goto (-22), 3) := by decide +kernel
theorem dX1_init_40 : decode cX1_init 40 = .ok (.return_, 1) := by decide +kernel
theorem dX1_push_0 : decode cX1_push 0 = .ok (.aload_n 0, 1) := by decide +kernel
theorem dX1_push_1 : decode cX1_push 1 = .ok (.getfield 11, 3) := by decide +kernel
theorem dX1_push_4 : decode cX1_push 4 = .ok (.aload_n 0, 1) := by decide +kernel
theorem dX1_push_5 : decode cX1_push 5 = .ok (.getfield 18, 3) := by decide +kernel
theorem dX1_push_8 : decode cX1_push 8 = .ok (.aaload, 1) := by decide +kernel
theorem dX1_push_9 : decode cX1_push 9 = .ok (.aload_n 1, 1) := by decide +kernel
theorem dX1_push_10 : decode cX1_push 10 = .ok (.invokevirtual 22, 3) := by decide +kernel
theorem dX1_push_13 : decode cX1_push 13 = .ok (.aload_n 0, 1) := by decide +kernel
theorem dX1_push_14 : decode cX1_push 14 = .ok (.aload_n 0, 1) := by decide +kernel
theorem dX1_push_15 : decode cX1_push 15 = .ok (.getfield 18, 3) := by decide +kernel
theorem dX1_push_18 : decode cX1_push 18 = .ok (.iconst 1, 1) := by decide +kernel
theorem dX1_push_19 : decode cX1_push 19 = .ok (.iadd, 1) := by decide +kernel
theorem dX1_push_20 : decode cX1_push 20 = .ok (.bipush 10, 2) := by decide +kernel
theorem dX1_push_22 : decode cX1_push 22 = .ok (.if_icmp .ge 12, 3) := by decide +kernel
theorem dX1_push_25 : decode cX1_push 25 = .ok (.aload_n 0, 1) := by decide +kernel
theorem dX1_push_26 : decode cX1_push 26 = .ok (.getfield 18, 3) := by decide +kernel
theorem dX1_push_29 : decode cX1_push 29 = .ok (.iconst 1, 1) := by decide +kernel
theorem dX1_push_30 : decode cX1_push 30 = .ok (.iadd, 1) := by decide +kernel
theorem dX1_push_31 : decode cX1_push 31 = .ok (.goto 4, 3) := by decide +kernel
theorem dX1_push_34 : decode cX1_push 34 = .ok (.iconst 0, 1) := by decide +kernel
theorem dX1_push_35 : decode cX1_push 35 = .ok (.putfield 18, 3) := by decide +kernel
theorem dX1_push_38 : decode cX1_push 38 = .ok (.aload_n 0, 1) := by decide +kernel
theorem dX1_push_39 : decode cX1_push 39 = .ok (.bipush 10, 2) := by decide +kernel
theorem dX1_push_41 : decode cX1_push 41 = .ok (.aload_n 0, 1) := by decide +kernel
theorem dX1_push_42 : decode cX1_push 42 = .ok (.getfield 26, 3) := by decide +kernel
theorem dX1_push_45 : decode cX1_push 45 = .ok (.iconst 1, 1) := by decide +kernel
theorem dX1_push_46 : decode cX1_push 46 = .ok (.iadd, 1) := by decide +kernel
theorem dX1_push_47 : decode cX1_push 47 = .ok (.invokestatic 29, 3) := by decide +kernel
theorem dX1_push_50 : decode cX1_push 50 = .ok (.putfield 26, 3) := by decide +kernel
theorem dX1_push_53 : decode cX1_push 53 = .ok (.return_, 1) := by decide +kernel
theorem dX1_popInto_0 : decode cX1_popInto 0 = .ok (.aload_n 0, 1) := by decide +kernel
theorem dX1_popInto_1 : decode cX1_popInto 1 = .ok (.aload_n 0, 1) := by decide +kernel
theorem dX1_popInto_2 : decode cX1_popInto 2 = .ok (.getfield 18, 3) := by decide +kernel
theorem dX1_popInto_5 : decode cX1_popInto 5 = .ok (.ifCond .le 12, 3) := by decide +kernel
theorem dX1_popInto_8 : decode cX1_popInto 8 = .ok (.aload_n 0, 1) := by decide +kernel
theorem dX1_popInto_9 : decode cX1_popInto 9 = .ok (.getfield 18, 3) := by decide +kernel
theorem dX1_popInto_12 : decode cX1_popInto 12 = .ok (.iconst 1, 1) := by decide +kernel
theorem dX1_popInto_13 : decode cX1_popInto 13 = .ok (.isub, 1) := by decide +kernel
theorem dX1_popInto_14 : decode cX1_popInto 14 = .ok (.goto 5, 3) := by decide +kernel
theorem dX1_popInto_17 : decode cX1_popInto 17 = .ok (.bipush 9, 2) := by decide +kernel
theorem dX1_popInto_19 : decode cX1_popInto 19 = .ok (.putfield 18, 3) := by decide +kernel
theorem dX1_popInto_22 : decode cX1_popInto 22 = .ok (.aload_n 1, 1) := by decide +kernel
theorem dX1_popInto_23 : decode cX1_popInto 23 = .ok (.aload_n 0, 1) := by decide +kernel
theorem dX1_popInto_24 : decode cX1_popInto 24 = .ok (.getfield 11, 3) := by decide +kernel
theorem dX1_popInto_27 : decode cX1_popInto 27 = .ok (.aload_n 0, 1) := by decide +kernel
theorem dX1_popInto_28 : decode cX1_popInto 28 = .ok (.getfield 18, 3) := by decide +kernel
theorem dX1_popInto_31 : decode cX1_popInto 31 = .ok (.aaload, 1) := by decide +kernel
theorem dX1_popInto_32 : decode cX1_popInto 32 = .ok (.invokevirtual 22, 3) := by decide +kernel
theorem dX1_popInto_35 : decode cX1_popInto 35 = .ok (.aload_n 0, 1) := by decide +kernel
theorem dX1_popInto_36 : decode cX1_popInto 36 = .ok (.dup, 1) := by decide +kernel
theorem dX1_popInto_37 : decode cX1_popInto 37 = .ok (.getfield 26, 3) := by decide +kernel
theorem dX1_popInto_40 : decode cX1_popInto 40 = .ok (.iconst 1, 1) := by decide +kernel
theorem dX1_popInto_41 : decode cX1_popInto 41 = .ok (.isub, 1) := by decide +kernel
theorem dX1_popInto_42 : decode cX1_popInto 42 = .ok (.putfield 26, 3) := by decide +kernel
theorem dX1_popInto_45 : decode cX1_popInto 45 = .ok (.return_, 1) := by decide +kernel
theorem dX2_init_0 : decode cX2_init 0 = .ok (.aload_n 0, 1) := by decide +kernel
theorem dX2_init_1 : decode cX2_init 1 = .ok (.invokespecial 3, 3) := by decide +kernel
theorem dX2_init_4 : decode cX2_init 4 = .ok (.aload_n 0, 1) := by decide +kernel
theorem dX2_init_5 : decode cX2_init 5 = .ok (.bipush 6, 2) := by decide +kernel
theorem dX2_init_7 : decode cX2_init 7 = .ok (.newarray .int, 2) := by decide +kernel
theorem dX2_init_9 : decode cX2_init 9 = .ok (.putfield 9, 3) := by decide +kernel
theorem dX2_init_12 : decode cX2_init 12 = .ok (.aload_n 0, 1) := by decide +kernel
theorem dX2_init_13 : decode cX2_init 13 = .ok (.bipush 6, 2) := by decide +kernel
theorem dX2_init_15 : decode cX2_init 15 = .ok (.newarray .int, 2) := by decide +kernel
theorem dX2_init_17 : decode cX2_init 17 = .ok (.putfield 15, 3) := by decide +kernel
theorem dX2_init_20 : decode cX2_init 20 = .ok (.aload_n 0, 1) := by decide +kernel
theorem dX2_init_21 : decode cX2_init 21 = .ok (.bipush 6, 2) := by decide +kernel
theorem dX2_init_23 : decode cX2_init 23 = .ok (.newarray .int, 2) := by decide +kernel
theorem dX2_init_25 : decode cX2_init 25 = .ok (.putfield 18, 3) := by decide +kernel
theorem dX2_init_28 : decode cX2_init 28 = .ok (.aload_n 0, 1) := by decide +kernel
theorem dX2_init_29 : decode cX2_init 29 = .ok (.bipush 6, 2) := by decide +kernel
theorem dX2_init_31 : decode cX2_init 31 = .ok (.newarray .int, 2) := by decide +kernel
theorem dX2_init_33 : decode cX2_init 33 = .ok (.putfield 21, 3) := by decide +kernel
theorem dX2_init_36 : decode cX2_init 36 = .ok (.aload_n 0, 1) := by decide +kernel
theorem dX2_init_37 : decode cX2_init 37 = .ok (.bipush 6, 2) := by decide +kernel
theorem dX2_init_39 : decode cX2_init 39 = .ok (.newarray .int, 2) := by decide +kernel
theorem dX2_init_41 : decode cX2_init 41 = .ok (.putfield 24, 3) := by decide +kernel
theorem dX2_init_44 : decode cX2_init 44 = .ok (.aload_n 0, 1) := by decide +kernel
theorem dX2_init_45 : decode cX2_init 45 = .ok (.bipush 6, 2) := by decide +kernel
theorem dX2_init_47 : decode cX2_init 47 = .ok (.newarray .int, 2) := by decide +kernel
theorem dX2_init_49 : decode cX2_init 49 = .ok (.putfield 27, 3) := by decide +kernel
theorem dX2_init_52 : decode cX2_init 52 = .ok (.aload_n 0, 1) := by decide +kernel
theorem dX2_init_53 : decode cX2_init 53 = .ok (.bipush 6, 2) := by decide +kernel
theorem dX2_init_55 : decode cX2_init 55 = .ok (.newarray .int, 2) := by decide +kernel
theorem dX2_init_57 : decode cX2_init 57 = .ok (.putfield 30, 3) := by decide +kernel
theorem dX2_init_60 : decode cX2_init 60 = .ok (.aload_n 0, 1) := by decide +kernel
theorem dX2_init_61 : decode cX2_init 61 = .ok (.bipush 6, 2) := by decide +kernel
theorem dX2_init_63 : decode cX2_init 63 = .ok (.newarray .int, 2) := by decide +kernel
theorem dX2_init_65 : decode cX2_init 65 = .ok (.putfield 33, 3) := by decide +kernel
theorem dX2_init_68 : decode cX2_init 68 = .ok (.aload_n 0, 1) := by decide +kernel
theorem dX2_init_69 : decode cX2_init 69 = .ok (.bipush 6, 2) := by decide +kernel
theorem dX2_init_71 : decode cX2_init 71 = .ok (.newarray .int, 2) := by decide +kernel
theorem dX2_init_73 : decode cX2_init 73 = .ok (.putfield 36, 3) := by decide +kernel
theorem dX2_init_76 : decode cX2_init 76 = .ok (.aload_n 0, 1) := by decide +kernel
theorem dX2_init_77 : decode cX2_init 77 = .ok (.bipush 6, 2) := by decide +kernel
theorem dX2_init_79 : decode cX2_init 79 = .ok (.bipush 6, 2) := by decide +kernel
theorem dX2_init_81 : decode cX2_init 81 = .ok (.multianewarray 39 2, 4) := by decide +kernel
theorem dX2_init_85 : decode cX2_init 85 = .ok (.putfield 41, 3) := by decide +kernel
theorem dX2_init_88 : decode cX2_init 88 = .ok (.aload_n 0, 1) := by decide +kernel
theorem dX2_init_89 : decode cX2_init 89 = .ok (.bipush 6, 2) := by decide +kernel
theorem dX2_init_91 : decode cX2_init 91 = .ok (.newarray .int, 2) := by decide +kernel
theorem dX2_init_93 : decode cX2_init 93 = .ok (.putfield 44, 3) := by decide +kernel
theorem dX2_init_96 : decode cX2_init 96 = .ok (.aload_n 0, 1) := by decide +kernel
theorem dX2_init_97 : decode cX2_init 97 = .ok (.bipush 6, 2) := by decide +kernel
theorem dX2_init_99 : decode cX2_init 99 = .ok (.newarray .int, 2) := by decide +kernel
theorem dX2_init_101 : decode cX2_init 101 = .ok (.putfield 47, 3) := by decide +kernel
theorem dX2_init_104 : decode cX2_init 104 = .ok (.aload_n 0, 1) := by decide +kernel
theorem dX2_init_105 : decode cX2_init 105 = .ok (.bipush 6, 2) := by decide +kernel
theorem dX2_init_107 : decode cX2_init 107 = .ok (.newarray .int, 2) := by decide +kernel
theorem dX2_init_109 : decode cX2_init 109 = .ok (.putfield 50, 3) := by decide +kernel
theorem dX2_init_112 : decode cX2_init 112 = .ok (.aload_n 0, 1) := by decide +kernel
theorem dX2_init_113 : decode cX2_init 113 = .ok (.bipush 6, 2) := by decide +kernel
theorem dX2_init_115 : decode cX2_init 115 = .ok (.newarray .int, 2) := by decide +kernel
theorem dX2_init_117 : decode cX2_init 117 = .ok (.putfield 53, 3) := by decide +kernel
theorem dX2_init_120 : decode cX2_init 120 = .ok (.aload_n 0, 1) := by decide +kernel
theorem dX2_init_121 : decode cX2_init 121 = .ok (.bipush 6, 2) := by decide +kernel
theorem dX2_init_123 : decode cX2_init 123 = .ok (.newarray .int, 2) := by decide +kernel
theorem dX2_init_125 : decode cX2_init 125 = .ok (.putfield 56, 3) := by decide +kernel
theorem dX2_init_128 : decode cX2_init 128 = .ok (.aload_n 0, 1) := by decide +kernel
theorem dX2_init_129 : decode cX2_init 129 = .ok (.bipush 6, 2) := by decide +kernel
theorem dX2_init_131 : decode cX2_init 131 = .ok (.newarray .int, 2) := by decide +kernel
theorem dX2_init_133 : decode cX2_init 133 = .ok (.putfield 59, 3) := by decide +kernel
theorem dX2_init_136 : decode cX2_init 136 = .ok (.return_, 1) := by decide +kernel
theorem dX2_forgetAll_0 : decode cX2_forgetAll 0 = .ok (.aload_n 0, 1) := by decide +kernel
theorem dX2_forgetAll_1 : decode cX2_forgetAll 1 = .ok (.iconst 0, 1) := by decide +kernel
theorem dX2_forgetAll_2 : decode cX2_forgetAll 2 = .ok (.putfield 62, 3) := by decide +kernel
theorem dX2_forgetAll_5 : decode cX2_forgetAll 5 = .ok (.aload_n 0, 1) := by decide +kernel
theorem dX2_forgetAll_6 : decode cX2_forgetAll 6 = .ok (.iconst 0, 1) := by decide +kernel
theorem dX2_forgetAll_7 : decode cX2_forgetAll 7 = .ok (.putfield 66, 3) := by decide +kernel
theorem dX2_forgetAll_10 : decode cX2_forgetAll 10 = .ok (.aload_n 0, 1) := by decide +kernel
theorem dX2_forgetAll_11 : decode cX2_forgetAll 11 = .ok (.iconst 0, 1) := by decide +kernel
theorem dX2_forgetAll_12 : decode cX2_forgetAll 12 = .ok (.putfield 69, 3) := by decide +kernel
theorem dX2_forgetAll_15 : decode cX2_forgetAll 15 = .ok (.aload_n 0, 1) := by decide +kernel
theorem dX2_forgetAll_16 : decode cX2_forgetAll 16 = .ok (.getfield 24, 3) := by decide +kernel
theorem dX2_forgetAll_19 : decode cX2_forgetAll 19 = .ok (.iconst 0, 1) := by decide +kernel
theorem dX2_forgetAll_20 : decode cX2_forgetAll 20 = .ok (.invokestatic 72, 3) := by decide +kernel
theorem dX2_forgetAll_23 : decode cX2_forgetAll 23 = .ok (.aload_n 0, 1) := by decide +kernel
theorem dX2_forgetAll_24 : decode cX2_forgetAll 24 = .ok (.getfield 30, 3) := by decide +kernel
theorem dX2_forgetAll_27 : decode cX2_forgetAll 27 = .ok (.iconst 0, 1) := by decide +kernel
theorem dX2_forgetAll_28 : decode cX2_forgetAll 28 = .ok (.invokestatic 72, 3) := by decide +kernel
theorem dX2_forgetAll_31 : decode cX2_forgetAll 31 = .ok (.aload_n 0, 1) := by decide +kernel
theorem dX2_forgetAll_32 : decode cX2_forgetAll 32 = .ok (.getfield 33, 3) := by decide +kernel
theorem dX2_forgetAll_35 : decode cX2_forgetAll 35 = .ok (.bipush (-9), 2) := by decide +kernel
theorem dX2_forgetAll_37 : decode cX2_forgetAll 37 = .ok (.invokestatic 72, 3) := by decide +kernel
theorem dX2_forgetAll_40 : decode cX2_forgetAll 40 = .ok (.iconst 0, 1) := by decide +kernel
theorem dX2_forgetAll_41 : decode cX2_forgetAll 41 = .ok (.istore_n 1, 1) := by decide +kernel
theorem dX2_forgetAll_42 : decode cX2_forgetAll 42 = .ok (.iload_n 1, 1) := by decide +kernel
theorem dX2_forgetAll_43 : decode cX2_forgetAll 43 = .ok (.bipush 6, 2) := by decide +kernel
theorem dX2_forgetAll_45 : decode cX2_forgetAll 45 = .ok (.if_icmp .ge 19, 3) := by decide +kernel
theorem dX2_forgetAll_48 : decode cX2_forgetAll 48 = .ok (.aload_n 0, 1) := by decide +kernel
theorem dX2_forgetAll_49 : decode cX2_forgetAll 49 = .ok (.getfield 41, 3) := by decide +kernel
theorem dX2_forgetAll_52 : decode cX2_forgetAll 52 = .ok (.iload_n 1, 1) := by decide +kernel
theorem dX2_forgetAll_53 : decode cX2_forgetAll 53 = .ok (.aaload, 1) := by decide +kernel
theorem dX2_forgetAll_54 : decode cX2_forgetAll 54 = .ok (.iconst 0, 1) := by decide +kernel
theorem dX2_forgetAll_55 : decode cX2_forgetAll 55 = .ok (.invokestatic 72, 3) := by decide +kernel
theorem dX2_forgetAll_58 : decode cX2_forgetAll 58 = .ok (.iinc 1 1, 3) := by decide +kernel
theorem dX2_forgetAll_61 : decode cX2_forgetAll 61 = .ok (.goto (-19), 3) := by decide +kernel
theorem dX2_forgetAll_64 : decode cX2_forgetAll 64 = .ok (.return_, 1) := by decide +kernel
theorem dX2_hasRoomFor_0 : decode cX2_hasRoomFor 0 = .ok (.iload_n 1, 1) := by decide +kernel
theorem dX2_hasRoomFor_1 : decode cX2_hasRoomFor 1 = .ok (.lookupswitch 80 #[(107, 35), (116, 50), (121, 65)], 35) := by decide +kernel
theorem dX2_hasRoomFor_36 : decode cX2_hasRoomFor 36 = .ok (.aload_n 0, 1) := by decide +kernel
theorem dX2_hasRoomFor_37 : decode cX2_hasRoomFor 37 = .ok (.getfield 62, 3) := by decide +kernel
theorem dX2_hasRoomFor_40 : decode cX2_hasRoomFor 40 = .ok (.bipush 6, 2) := by decide +kernel
theorem dX2_hasRoomFor_42 : decode cX2_hasRoomFor 42 = .ok (.if_icmp .ge 7, 3) := by decide +kernel
theorem dX2_hasRoomFor_45 : decode cX2_hasRoomFor 45 = .ok (.iconst 1, 1) := by decide +kernel
theorem dX2_hasRoomFor_46 : decode cX2_hasRoomFor 46 = .ok (.goto 4, 3) := by decide +kernel
theorem dX2_hasRoomFor_49 : decode cX2_hasRoomFor 49 = .ok (.iconst 0, 1) := by decide +kernel
theorem dX2_hasRoomFor_50 : decode cX2_hasRoomFor 50 = .ok (.ireturn, 1) := by decide +kernel
theorem dX2_hasRoomFor_51 : decode cX2_hasRoomFor 51 = .ok (.aload_n 0, 1) := by decide +kernel
theorem dX2_hasRoomFor_52 : decode cX2_hasRoomFor 52 = .ok (.getfield 66, 3) := by decide +kernel
theorem dX2_hasRoomFor_55 : decode cX2_hasRoomFor 55 = .ok (.bipush 6, 2) := by decide +kernel
theorem dX2_hasRoomFor_57 : decode cX2_hasRoomFor 57 = .ok (.if_icmp .ge 7, 3) := by decide +kernel
theorem dX2_hasRoomFor_60 : decode cX2_hasRoomFor 60 = .ok (.iconst 1, 1) := by decide +kernel
theorem dX2_hasRoomFor_61 : decode cX2_hasRoomFor 61 = .ok (.goto 4, 3) := by decide +kernel
theorem dX2_hasRoomFor_64 : decode cX2_hasRoomFor 64 = .ok (.iconst 0, 1) := by decide +kernel
theorem dX2_hasRoomFor_65 : decode cX2_hasRoomFor 65 = .ok (.ireturn, 1) := by decide +kernel
theorem dX2_hasRoomFor_66 : decode cX2_hasRoomFor 66 = .ok (.aload_n 0, 1) := by decide +kernel
theorem dX2_hasRoomFor_67 : decode cX2_hasRoomFor 67 = .ok (.getfield 69, 3) := by decide +kernel
theorem dX2_hasRoomFor_70 : decode cX2_hasRoomFor 70 = .ok (.bipush 12, 2) := by decide +kernel
theorem dX2_hasRoomFor_72 : decode cX2_hasRoomFor 72 = .ok (.if_icmp .ge 7, 3) := by decide +kernel
theorem dX2_hasRoomFor_75 : decode cX2_hasRoomFor 75 = .ok (.iconst 1, 1) := by decide +kernel
theorem dX2_hasRoomFor_76 : decode cX2_hasRoomFor 76 = .ok (.goto 4, 3) := by decide +kernel
theorem dX2_hasRoomFor_79 : decode cX2_hasRoomFor 79 = .ok (.iconst 0, 1) := by decide +kernel
theorem dX2_hasRoomFor_80 : decode cX2_hasRoomFor 80 = .ok (.ireturn, 1) := by decide +kernel
theorem dX2_hasRoomFor_81 : decode cX2_hasRoomFor 81 = .ok (.iconst 1, 1) := by decide +kernel
theorem dX2_hasRoomFor_82 : decode cX2_hasRoomFor 82 = .ok (.ireturn, 1) := by decide +kernel
theorem dX2_tell_0 : decode cX2_tell 0 = .ok (.aload_n 2, 1) := by decide +kernel
theorem dX2_tell_1 : decode cX2_tell 1 = .ok (.iconst 0, 1) := by decide +kernel
theorem dX2_tell_2 : decode cX2_tell 2 = .ok (.iaload, 1) := by decide +kernel
theorem dX2_tell_3 : decode cX2_tell 3 = .ok (.istore_n 3, 1) := by decide +kernel
theorem dX2_tell_4 : decode cX2_tell 4 = .ok (.aload_n 2, 1) := by decide +kernel
theorem dX2_tell_5 : decode cX2_tell 5 = .ok (.iconst 1, 1) := by decide +kernel
theorem dX2_tell_6 : decode cX2_tell 6 = .ok (.iaload, 1) := by decide +kernel
theorem dX2_tell_7 : decode cX2_tell 7 = .ok (.istore 4, 2) := by decide +kernel
theorem dX2_tell_9 : decode cX2_tell 9 = .ok (.iload_n 1, 1) := by decide +kernel
theorem dX2_tell_10 : decode cX2_tell 10 = .ok (.tableswitch 188 97 121 #[122, 188, 188, 188, 188, 188, 188, 154, 188, 188, 114, 188, 188, 133, 188, 188, 188, 188, 144, 180, 188, 188, 188, 188, 167], 114) := by decide +kernel
theorem dX2_tell_124 : decode cX2_tell 124 = .ok (.aload_n 0, 1) := by decide +kernel
theorem dX2_tell_125 : decode cX2_tell 125 = .ok (.aload_n 2, 1) := by decide +kernel
theorem dX2_tell_126 : decode cX2_tell 126 = .ok (.invokevirtual 78, 3) := by decide +kernel
theorem dX2_tell_129 : decode cX2_tell 129 = .ok (.goto 69, 3) := by decide +kernel
theorem dX2_tell_132 : decode cX2_tell 132 = .ok (.aload_n 0, 1) := by decide +kernel
theorem dX2_tell_133 : decode cX2_tell 133 = .ok (.iconst 1, 1) := by decide +kernel
theorem dX2_tell_134 : decode cX2_tell 134 = .ok (.iload_n 3, 1) := by decide +kernel
theorem dX2_tell_135 : decode cX2_tell 135 = .ok (.iload 4, 2) := by decide +kernel
theorem dX2_tell_137 : decode cX2_tell 137 = .ok (.invokevirtual 82, 3) := by decide +kernel
theorem dX2_tell_140 : decode cX2_tell 140 = .ok (.goto 58, 3) := by decide +kernel
theorem dX2_tell_143 : decode cX2_tell 143 = .ok (.aload_n 0, 1) := by decide +kernel
theorem dX2_tell_144 : decode cX2_tell 144 = .ok (.iconst 2, 1) := by decide +kernel
theorem dX2_tell_145 : decode cX2_tell 145 = .ok (.iload_n 3, 1) := by decide +kernel
theorem dX2_tell_146 : decode cX2_tell 146 = .ok (.iload 4, 2) := by decide +kernel
theorem dX2_tell_148 : decode cX2_tell 148 = .ok (.invokevirtual 82, 3) := by decide +kernel
theorem dX2_tell_151 : decode cX2_tell 151 = .ok (.goto 47, 3) := by decide +kernel
theorem dX2_tell_154 : decode cX2_tell 154 = .ok (.aload_n 0, 1) := by decide +kernel
theorem dX2_tell_155 : decode cX2_tell 155 = .ok (.iload_n 3, 1) := by decide +kernel
theorem dX2_tell_156 : decode cX2_tell 156 = .ok (.iload 4, 2) := by decide +kernel
theorem dX2_tell_158 : decode cX2_tell 158 = .ok (.invokevirtual 86, 3) := by decide +kernel
theorem dX2_tell_161 : decode cX2_tell 161 = .ok (.goto 37, 3) := by decide +kernel
theorem dX2_tell_164 : decode cX2_tell 164 = .ok (.aload_n 0, 1) := by decide +kernel
theorem dX2_tell_165 : decode cX2_tell 165 = .ok (.iload_n 3, 1) := by decide +kernel
theorem dX2_tell_166 : decode cX2_tell 166 = .ok (.iload 4, 2) := by decide +kernel
theorem dX2_tell_168 : decode cX2_tell 168 = .ok (.aload_n 2, 1) := by decide +kernel
theorem dX2_tell_169 : decode cX2_tell 169 = .ok (.iconst 2, 1) := by decide +kernel
theorem dX2_tell_170 : decode cX2_tell 170 = .ok (.iaload, 1) := by decide +kernel
theorem dX2_tell_171 : decode cX2_tell 171 = .ok (.invokevirtual 90, 3) := by decide +kernel
theorem dX2_tell_174 : decode cX2_tell 174 = .ok (.goto 24, 3) := by decide +kernel
theorem dX2_tell_177 : decode cX2_tell 177 = .ok (.aload_n 0, 1) := by decide +kernel
theorem dX2_tell_178 : decode cX2_tell 178 = .ok (.iload_n 3, 1) := by decide +kernel
theorem dX2_tell_179 : decode cX2_tell 179 = .ok (.iload 4, 2) := by decide +kernel
theorem dX2_tell_181 : decode cX2_tell 181 = .ok (.aload_n 2, 1) := by decide +kernel
theorem dX2_tell_182 : decode cX2_tell 182 = .ok (.iconst 2, 1) := by decide +kernel
theorem dX2_tell_183 : decode cX2_tell 183 = .ok (.iaload, 1) := by decide +kernel
theorem dX2_tell_184 : decode cX2_tell 184 = .ok (.invokevirtual 93, 3) := by decide +kernel
theorem dX2_tell_187 : decode cX2_tell 187 = .ok (.goto 11, 3) := by decide +kernel
theorem dX2_tell_190 : decode cX2_tell 190 = .ok (.aload_n 0, 1) := by decide +kernel
theorem dX2_tell_191 : decode cX2_tell 191 = .ok (.aload_n 2, 1) := by decide +kernel
theorem dX2_tell_192 : decode cX2_tell 192 = .ok (.invokevirtual 96, 3) := by decide +kernel
theorem dX2_tell_195 : decode cX2_tell 195 = .ok (.goto 3, 3) := by decide +kernel
theorem dX2_tell_198 : decode cX2_tell 198 = .ok (.return_, 1) := by decide +kernel
theorem dX2_tellPocket_0 : decode cX2_tellPocket 0 = .ok (.aload_n 0, 1) := by decide +kernel
theorem dX2_tellPocket_1 : decode cX2_tellPocket 1 = .ok (.getfield 9, 3) := by decide +kernel
theorem dX2_tellPocket_4 : decode cX2_tellPocket 4 = .ok (.aload_n 0, 1) := by decide +kernel
theorem dX2_tellPocket_5 : decode cX2_tellPocket 5 = .ok (.getfield 62, 3) := by decide +kernel
theorem dX2_tellPocket_8 : decode cX2_tellPocket 8 = .ok (.aload_n 1, 1) := by decide +kernel
theorem dX2_tellPocket_9 : decode cX2_tellPocket 9 = .ok (.iconst 0, 1) := by decide +kernel
theorem dX2_tellPocket_10 : decode cX2_tellPocket 10 = .ok (.iaload, 1) := by decide +kernel
theorem dX2_tellPocket_11 : decode cX2_tellPocket 11 = .ok (.iastore, 1) := by decide +kernel
theorem dX2_tellPocket_12 : decode cX2_tellPocket 12 = .ok (.aload_n 0, 1) := by decide +kernel
theorem dX2_tellPocket_13 : decode cX2_tellPocket 13 = .ok (.getfield 15, 3) := by decide +kernel
theorem dX2_tellPocket_16 : decode cX2_tellPocket 16 = .ok (.aload_n 0, 1) := by decide +kernel
theorem dX2_tellPocket_17 : decode cX2_tellPocket 17 = .ok (.getfield 62, 3) := by decide +kernel
theorem dX2_tellPocket_20 : decode cX2_tellPocket 20 = .ok (.aload_n 1, 1) := by decide +kernel
theorem dX2_tellPocket_21 : decode cX2_tellPocket 21 = .ok (.iconst 1, 1) := by decide +kernel
theorem dX2_tellPocket_22 : decode cX2_tellPocket 22 = .ok (.iaload, 1) := by decide +kernel
theorem dX2_tellPocket_23 : decode cX2_tellPocket 23 = .ok (.iastore, 1) := by decide +kernel
theorem dX2_tellPocket_24 : decode cX2_tellPocket 24 = .ok (.aload_n 0, 1) := by decide +kernel
theorem dX2_tellPocket_25 : decode cX2_tellPocket 25 = .ok (.getfield 18, 3) := by decide +kernel
theorem dX2_tellPocket_28 : decode cX2_tellPocket 28 = .ok (.aload_n 0, 1) := by decide +kernel
theorem dX2_tellPocket_29 : decode cX2_tellPocket 29 = .ok (.getfield 62, 3) := by decide +kernel
theorem dX2_tellPocket_32 : decode cX2_tellPocket 32 = .ok (.aload_n 1, 1) := by decide +kernel
theorem dX2_tellPocket_33 : decode cX2_tellPocket 33 = .ok (.iconst 2, 1) := by decide +kernel
theorem dX2_tellPocket_34 : decode cX2_tellPocket 34 = .ok (.iaload, 1) := by decide +kernel
theorem dX2_tellPocket_35 : decode cX2_tellPocket 35 = .ok (.iastore, 1) := by decide +kernel
theorem dX2_tellPocket_36 : decode cX2_tellPocket 36 = .ok (.aload_n 0, 1) := by decide +kernel
theorem dX2_tellPocket_37 : decode cX2_tellPocket 37 = .ok (.getfield 21, 3) := by decide +kernel
theorem dX2_tellPocket_40 : decode cX2_tellPocket 40 = .ok (.aload_n 0, 1) := by decide +kernel
theorem dX2_tellPocket_41 : decode cX2_tellPocket 41 = .ok (.getfield 62, 3) := by decide +kernel
theorem dX2_tellPocket_44 : decode cX2_tellPocket 44 = .ok (.aload_n 1, 1) := by decide +kernel
theorem dX2_tellPocket_45 : decode cX2_tellPocket 45 = .ok (.iconst 3, 1) := by decide +kernel
theorem dX2_tellPocket_46 : decode cX2_tellPocket 46 = .ok (.iaload, 1) := by decide +kernel
theorem dX2_tellPocket_47 : decode cX2_tellPocket 47 = .ok (.iastore, 1) := by decide +kernel
theorem dX2_tellPocket_48 : decode cX2_tellPocket 48 = .ok (.aload_n 0, 1) := by decide +kernel
theorem dX2_tellPocket_49 : decode cX2_tellPocket 49 = .ok (.dup, 1) := by decide +kernel
theorem dX2_tellPocket_50 : decode cX2_tellPocket 50 = .ok (.getfield 62, 3) := by decide +kernel
theorem dX2_tellPocket_53 : decode cX2_tellPocket 53 = .ok (.iconst 1, 1) := by decide +kernel
theorem dX2_tellPocket_54 : decode cX2_tellPocket 54 = .ok (.iadd, 1) := by decide +kernel
theorem dX2_tellPocket_55 : decode cX2_tellPocket 55 = .ok (.putfield 62, 3) := by decide +kernel
theorem dX2_tellPocket_58 : decode cX2_tellPocket 58 = .ok (.return_, 1) := by decide +kernel
theorem dX2_tellLaw_0 : decode cX2_tellLaw 0 = .ok (.aload_n 0, 1) := by decide +kernel
theorem dX2_tellLaw_1 : decode cX2_tellLaw 1 = .ok (.getfield 24, 3) := by decide +kernel
theorem dX2_tellLaw_4 : decode cX2_tellLaw 4 = .ok (.iload_n 2, 1) := by decide +kernel
theorem dX2_tellLaw_5 : decode cX2_tellLaw 5 = .ok (.iload_n 1, 1) := by decide +kernel
theorem dX2_tellLaw_6 : decode cX2_tellLaw 6 = .ok (.iastore, 1) := by decide +kernel
theorem dX2_tellLaw_7 : decode cX2_tellLaw 7 = .ok (.aload_n 0, 1) := by decide +kernel
theorem dX2_tellLaw_8 : decode cX2_tellLaw 8 = .ok (.getfield 27, 3) := by decide +kernel
theorem dX2_tellLaw_11 : decode cX2_tellLaw 11 = .ok (.iload_n 2, 1) := by decide +kernel
theorem dX2_tellLaw_12 : decode cX2_tellLaw 12 = .ok (.iload_n 3, 1) := by decide +kernel
theorem dX2_tellLaw_13 : decode cX2_tellLaw 13 = .ok (.iastore, 1) := by decide +kernel
theorem dX2_tellLaw_14 : decode cX2_tellLaw 14 = .ok (.return_, 1) := by decide +kernel
theorem dX2_tellSeam_0 : decode cX2_tellSeam 0 = .ok (.aload_n 0, 1) := by decide +kernel
theorem dX2_tellSeam_1 : decode cX2_tellSeam 1 = .ok (.getfield 30, 3) := by decide +kernel
theorem dX2_tellSeam_4 : decode cX2_tellSeam 4 = .ok (.iload_n 1, 1) := by decide +kernel
theorem dX2_tellSeam_5 : decode cX2_tellSeam 5 = .ok (.dup2, 1) := by decide +kernel
theorem dX2_tellSeam_6 : decode cX2_tellSeam 6 = .ok (.iaload, 1) := by decide +kernel
theorem dX2_tellSeam_7 : decode cX2_tellSeam 7 = .ok (.iconst 1, 1) := by decide +kernel
theorem dX2_tellSeam_8 : decode cX2_tellSeam 8 = .ok (.iload_n 2, 1) := by decide +kernel
theorem dX2_tellSeam_9 : decode cX2_tellSeam 9 = .ok (.ishl, 1) := by decide +kernel
theorem dX2_tellSeam_10 : decode cX2_tellSeam 10 = .ok (.ior, 1) := by decide +kernel
theorem dX2_tellSeam_11 : decode cX2_tellSeam 11 = .ok (.iastore, 1) := by decide +kernel
theorem dX2_tellSeam_12 : decode cX2_tellSeam 12 = .ok (.aload_n 0, 1) := by decide +kernel
theorem dX2_tellSeam_13 : decode cX2_tellSeam 13 = .ok (.getfield 30, 3) := by decide +kernel
theorem dX2_tellSeam_16 : decode cX2_tellSeam 16 = .ok (.iload_n 2, 1) := by decide +kernel
theorem dX2_tellSeam_17 : decode cX2_tellSeam 17 = .ok (.dup2, 1) := by decide +kernel
theorem dX2_tellSeam_18 : decode cX2_tellSeam 18 = .ok (.iaload, 1) := by decide +kernel
theorem dX2_tellSeam_19 : decode cX2_tellSeam 19 = .ok (.iconst 1, 1) := by decide +kernel
theorem dX2_tellSeam_20 : decode cX2_tellSeam 20 = .ok (.iload_n 1, 1) := by decide +kernel
theorem dX2_tellSeam_21 : decode cX2_tellSeam 21 = .ok (.ishl, 1) := by decide +kernel
theorem dX2_tellSeam_22 : decode cX2_tellSeam 22 = .ok (.ior, 1) := by decide +kernel
theorem dX2_tellSeam_23 : decode cX2_tellSeam 23 = .ok (.iastore, 1) := by decide +kernel
theorem dX2_tellSeam_24 : decode cX2_tellSeam 24 = .ok (.return_, 1) := by decide +kernel
theorem dX2_tellHole_0 : decode cX2_tellHole 0 = .ok (.aload_n 0, 1) := by decide +kernel
theorem dX2_tellHole_1 : decode cX2_tellHole 1 = .ok (.getfield 33, 3) := by decide +kernel
theorem dX2_tellHole_4 : decode cX2_tellHole 4 = .ok (.iload_n 1, 1) := by decide +kernel
theorem dX2_tellHole_5 : decode cX2_tellHole 5 = .ok (.iload_n 2, 1) := by decide +kernel
theorem dX2_tellHole_6 : decode cX2_tellHole 6 = .ok (.iastore, 1) := by decide +kernel
theorem dX2_tellHole_7 : decode cX2_tellHole 7 = .ok (.aload_n 0, 1) := by decide +kernel
theorem dX2_tellHole_8 : decode cX2_tellHole 8 = .ok (.getfield 36, 3) := by decide +kernel
theorem dX2_tellHole_11 : decode cX2_tellHole 11 = .ok (.iload_n 1, 1) := by decide +kernel
theorem dX2_tellHole_12 : decode cX2_tellHole 12 = .ok (.iload_n 3, 1) := by decide +kernel
theorem dX2_tellHole_13 : decode cX2_tellHole 13 = .ok (.iastore, 1) := by decide +kernel
theorem dX2_tellHole_14 : decode cX2_tellHole 14 = .ok (.return_, 1) := by decide +kernel
theorem dX2_tellTreaty_0 : decode cX2_tellTreaty 0 = .ok (.aload_n 0, 1) := by decide +kernel
theorem dX2_tellTreaty_1 : decode cX2_tellTreaty 1 = .ok (.getfield 41, 3) := by decide +kernel
theorem dX2_tellTreaty_4 : decode cX2_tellTreaty 4 = .ok (.iload_n 1, 1) := by decide +kernel
theorem dX2_tellTreaty_5 : decode cX2_tellTreaty 5 = .ok (.aaload, 1) := by decide +kernel
theorem dX2_tellTreaty_6 : decode cX2_tellTreaty 6 = .ok (.iload_n 2, 1) := by decide +kernel
theorem dX2_tellTreaty_7 : decode cX2_tellTreaty 7 = .ok (.dup2, 1) := by decide +kernel
theorem dX2_tellTreaty_8 : decode cX2_tellTreaty 8 = .ok (.iaload, 1) := by decide +kernel
theorem dX2_tellTreaty_9 : decode cX2_tellTreaty 9 = .ok (.iconst 1, 1) := by decide +kernel
theorem dX2_tellTreaty_10 : decode cX2_tellTreaty 10 = .ok (.iload_n 3, 1) := by decide +kernel
theorem dX2_tellTreaty_11 : decode cX2_tellTreaty 11 = .ok (.ishl, 1) := by decide +kernel
theorem dX2_tellTreaty_12 : decode cX2_tellTreaty 12 = .ok (.ior, 1) := by decide +kernel
theorem dX2_tellTreaty_13 : decode cX2_tellTreaty 13 = .ok (.iastore, 1) := by decide +kernel
theorem dX2_tellTreaty_14 : decode cX2_tellTreaty 14 = .ok (.aload_n 0, 1) := by decide +kernel
theorem dX2_tellTreaty_15 : decode cX2_tellTreaty 15 = .ok (.getfield 41, 3) := by decide +kernel
theorem dX2_tellTreaty_18 : decode cX2_tellTreaty 18 = .ok (.iload_n 2, 1) := by decide +kernel
theorem dX2_tellTreaty_19 : decode cX2_tellTreaty 19 = .ok (.aaload, 1) := by decide +kernel
theorem dX2_tellTreaty_20 : decode cX2_tellTreaty 20 = .ok (.iload_n 1, 1) := by decide +kernel
theorem dX2_tellTreaty_21 : decode cX2_tellTreaty 21 = .ok (.dup2, 1) := by decide +kernel
theorem dX2_tellTreaty_22 : decode cX2_tellTreaty 22 = .ok (.iaload, 1) := by decide +kernel
theorem dX2_tellTreaty_23 : decode cX2_tellTreaty 23 = .ok (.iconst 1, 1) := by decide +kernel
theorem dX2_tellTreaty_24 : decode cX2_tellTreaty 24 = .ok (.iload_n 3, 1) := by decide +kernel
theorem dX2_tellTreaty_25 : decode cX2_tellTreaty 25 = .ok (.ishl, 1) := by decide +kernel
theorem dX2_tellTreaty_26 : decode cX2_tellTreaty 26 = .ok (.ior, 1) := by decide +kernel
theorem dX2_tellTreaty_27 : decode cX2_tellTreaty 27 = .ok (.iastore, 1) := by decide +kernel
theorem dX2_tellTreaty_28 : decode cX2_tellTreaty 28 = .ok (.aload_n 0, 1) := by decide +kernel
theorem dX2_tellTreaty_29 : decode cX2_tellTreaty 29 = .ok (.dup, 1) := by decide +kernel
theorem dX2_tellTreaty_30 : decode cX2_tellTreaty 30 = .ok (.getfield 69, 3) := by decide +kernel
theorem dX2_tellTreaty_33 : decode cX2_tellTreaty 33 = .ok (.iconst 1, 1) := by decide +kernel
theorem dX2_tellTreaty_34 : decode cX2_tellTreaty 34 = .ok (.iadd, 1) := by decide +kernel
theorem dX2_tellTreaty_35 : decode cX2_tellTreaty 35 = .ok (.putfield 69, 3) := by decide +kernel
theorem dX2_tellTreaty_38 : decode cX2_tellTreaty 38 = .ok (.return_, 1) := by decide +kernel
theorem dX2_tellThing_0 : decode cX2_tellThing 0 = .ok (.aload_n 0, 1) := by decide +kernel
theorem dX2_tellThing_1 : decode cX2_tellThing 1 = .ok (.getfield 44, 3) := by decide +kernel
theorem dX2_tellThing_4 : decode cX2_tellThing 4 = .ok (.aload_n 0, 1) := by decide +kernel
theorem dX2_tellThing_5 : decode cX2_tellThing 5 = .ok (.getfield 66, 3) := by decide +kernel
theorem dX2_tellThing_8 : decode cX2_tellThing 8 = .ok (.aload_n 1, 1) := by decide +kernel
theorem dX2_tellThing_9 : decode cX2_tellThing 9 = .ok (.iconst 0, 1) := by decide +kernel
theorem dX2_tellThing_10 : decode cX2_tellThing 10 = .ok (.iaload, 1) := by decide +kernel
theorem dX2_tellThing_11 : decode cX2_tellThing 11 = .ok (.iastore, 1) := by decide +kernel
theorem dX2_tellThing_12 : decode cX2_tellThing 12 = .ok (.aload_n 0, 1) := by decide +kernel
theorem dX2_tellThing_13 : decode cX2_tellThing 13 = .ok (.getfield 47, 3) := by decide +kernel
theorem dX2_tellThing_16 : decode cX2_tellThing 16 = .ok (.aload_n 0, 1) := by decide +kernel
theorem dX2_tellThing_17 : decode cX2_tellThing 17 = .ok (.getfield 66, 3) := by decide +kernel
theorem dX2_tellThing_20 : decode cX2_tellThing 20 = .ok (.aload_n 1, 1) := by decide +kernel
theorem dX2_tellThing_21 : decode cX2_tellThing 21 = .ok (.iconst 1, 1) := by decide +kernel
theorem dX2_tellThing_22 : decode cX2_tellThing 22 = .ok (.iaload, 1) := by decide +kernel
theorem dX2_tellThing_23 : decode cX2_tellThing 23 = .ok (.iastore, 1) := by decide +kernel
theorem dX2_tellThing_24 : decode cX2_tellThing 24 = .ok (.aload_n 0, 1) := by decide +kernel
theorem dX2_tellThing_25 : decode cX2_tellThing 25 = .ok (.getfield 50, 3) := by decide +kernel
theorem dX2_tellThing_28 : decode cX2_tellThing 28 = .ok (.aload_n 0, 1) := by decide +kernel
theorem dX2_tellThing_29 : decode cX2_tellThing 29 = .ok (.getfield 66, 3) := by decide +kernel
theorem dX2_tellThing_32 : decode cX2_tellThing 32 = .ok (.aload_n 1, 1) := by decide +kernel
theorem dX2_tellThing_33 : decode cX2_tellThing 33 = .ok (.iconst 2, 1) := by decide +kernel
theorem dX2_tellThing_34 : decode cX2_tellThing 34 = .ok (.iaload, 1) := by decide +kernel
theorem dX2_tellThing_35 : decode cX2_tellThing 35 = .ok (.iastore, 1) := by decide +kernel
theorem dX2_tellThing_36 : decode cX2_tellThing 36 = .ok (.aload_n 0, 1) := by decide +kernel
theorem dX2_tellThing_37 : decode cX2_tellThing 37 = .ok (.getfield 53, 3) := by decide +kernel
theorem dX2_tellThing_40 : decode cX2_tellThing 40 = .ok (.aload_n 0, 1) := by decide +kernel
theorem dX2_tellThing_41 : decode cX2_tellThing 41 = .ok (.getfield 66, 3) := by decide +kernel
theorem dX2_tellThing_44 : decode cX2_tellThing 44 = .ok (.aload_n 1, 1) := by decide +kernel
theorem dX2_tellThing_45 : decode cX2_tellThing 45 = .ok (.iconst 3, 1) := by decide +kernel
theorem dX2_tellThing_46 : decode cX2_tellThing 46 = .ok (.iaload, 1) := by decide +kernel
theorem dX2_tellThing_47 : decode cX2_tellThing 47 = .ok (.iastore, 1) := by decide +kernel
theorem dX2_tellThing_48 : decode cX2_tellThing 48 = .ok (.aload_n 0, 1) := by decide +kernel
theorem dX2_tellThing_49 : decode cX2_tellThing 49 = .ok (.dup, 1) := by decide +kernel
theorem dX2_tellThing_50 : decode cX2_tellThing 50 = .ok (.getfield 66, 3) := by decide +kernel
theorem dX2_tellThing_53 : decode cX2_tellThing 53 = .ok (.iconst 1, 1) := by decide +kernel
theorem dX2_tellThing_54 : decode cX2_tellThing 54 = .ok (.iadd, 1) := by decide +kernel
theorem dX2_tellThing_55 : decode cX2_tellThing 55 = .ok (.putfield 66, 3) := by decide +kernel
theorem dX2_tellThing_58 : decode cX2_tellThing 58 = .ok (.return_, 1) := by decide +kernel
theorem dX2_settleLaws_0 : decode cX2_settleLaws 0 = .ok (.aload_n 0, 1) := by decide +kernel
theorem dX2_settleLaws_1 : decode cX2_settleLaws 1 = .ok (.getfield 56, 3) := by decide +kernel
theorem dX2_settleLaws_4 : decode cX2_settleLaws 4 = .ok (.iconst 0, 1) := by decide +kernel
theorem dX2_settleLaws_5 : decode cX2_settleLaws 5 = .ok (.invokestatic 72, 3) := by decide +kernel
theorem dX2_settleLaws_8 : decode cX2_settleLaws 8 = .ok (.iconst 0, 1) := by decide +kernel
theorem dX2_settleLaws_9 : decode cX2_settleLaws 9 = .ok (.istore_n 1, 1) := by decide +kernel
theorem dX2_settleLaws_10 : decode cX2_settleLaws 10 = .ok (.iload_n 1, 1) := by decide +kernel
theorem dX2_settleLaws_11 : decode cX2_settleLaws 11 = .ok (.bipush 6, 2) := by decide +kernel
theorem dX2_settleLaws_13 : decode cX2_settleLaws 13 = .ok (.if_icmp .ge 14, 3) := by decide +kernel
theorem dX2_settleLaws_16 : decode cX2_settleLaws 16 = .ok (.aload_n 0, 1) := by decide +kernel
theorem dX2_settleLaws_17 : decode cX2_settleLaws 17 = .ok (.iload_n 1, 1) := by decide +kernel
theorem dX2_settleLaws_18 : decode cX2_settleLaws 18 = .ok (.invokevirtual 99, 3) := by decide +kernel
theorem dX2_settleLaws_21 : decode cX2_settleLaws 21 = .ok (.iinc 1 1, 3) := by decide +kernel
theorem dX2_settleLaws_24 : decode cX2_settleLaws 24 = .ok (.goto (-14), 3) := by decide +kernel
theorem dX2_settleLaws_27 : decode cX2_settleLaws 27 = .ok (.return_, 1) := by decide +kernel
theorem dX2_settleLawsOf_0 : decode cX2_settleLawsOf 0 = .ok (.iconst 0, 1) := by decide +kernel
theorem dX2_settleLawsOf_1 : decode cX2_settleLawsOf 1 = .ok (.istore_n 2, 1) := by decide +kernel
theorem dX2_settleLawsOf_2 : decode cX2_settleLawsOf 2 = .ok (.iconst 1, 1) := by decide +kernel
theorem dX2_settleLawsOf_3 : decode cX2_settleLawsOf 3 = .ok (.aload_n 0, 1) := by decide +kernel
theorem dX2_settleLawsOf_4 : decode cX2_settleLawsOf 4 = .ok (.getfield 62, 3) := by decide +kernel
theorem dX2_settleLawsOf_7 : decode cX2_settleLawsOf 7 = .ok (.ishl, 1) := by decide +kernel
theorem dX2_settleLawsOf_8 : decode cX2_settleLawsOf 8 = .ok (.iconst 1, 1) := by decide +kernel
theorem dX2_settleLawsOf_9 : decode cX2_settleLawsOf 9 = .ok (.isub, 1) := by decide +kernel
theorem dX2_settleLawsOf_10 : decode cX2_settleLawsOf 10 = .ok (.istore_n 3, 1) := by decide +kernel
theorem dX2_settleLawsOf_11 : decode cX2_settleLawsOf 11 = .ok (.iconst 0, 1) := by decide +kernel
theorem dX2_settleLawsOf_12 : decode cX2_settleLawsOf 12 = .ok (.istore 4, 2) := by decide +kernel
theorem dX2_settleLawsOf_14 : decode cX2_settleLawsOf 14 = .ok (.iload 4, 2) := by decide +kernel
theorem dX2_settleLawsOf_16 : decode cX2_settleLawsOf 16 = .ok (.iconst 1, 1) := by decide +kernel
theorem dX2_settleLawsOf_17 : decode cX2_settleLawsOf 17 = .ok (.aload_n 0, 1) := by decide +kernel
theorem dX2_settleLawsOf_18 : decode cX2_settleLawsOf 18 = .ok (.getfield 62, 3) := by decide +kernel
theorem dX2_settleLawsOf_21 : decode cX2_settleLawsOf 21 = .ok (.ishl, 1) := by decide +kernel
theorem dX2_settleLawsOf_22 : decode cX2_settleLawsOf 22 = .ok (.if_icmp .ge 27, 3) := by decide +kernel
theorem dX2_settleLawsOf_25 : decode cX2_settleLawsOf 25 = .ok (.aload_n 0, 1) := by decide +kernel
theorem dX2_settleLawsOf_26 : decode cX2_settleLawsOf 26 = .ok (.iload 4, 2) := by decide +kernel
theorem dX2_settleLawsOf_28 : decode cX2_settleLawsOf 28 = .ok (.iload_n 1, 1) := by decide +kernel
theorem dX2_settleLawsOf_29 : decode cX2_settleLawsOf 29 = .ok (.invokevirtual 103, 3) := by decide +kernel
theorem dX2_settleLawsOf_32 : decode cX2_settleLawsOf 32 = .ok (.ifCond .eq 11, 3) := by decide +kernel
theorem dX2_settleLawsOf_35 : decode cX2_settleLawsOf 35 = .ok (.iinc 2 1, 3) := by decide +kernel
theorem dX2_settleLawsOf_38 : decode cX2_settleLawsOf 38 = .ok (.iload_n 3, 1) := by decide +kernel
theorem dX2_settleLawsOf_39 : decode cX2_settleLawsOf 39 = .ok (.iload 4, 2) := by decide +kernel
theorem dX2_settleLawsOf_41 : decode cX2_settleLawsOf 41 = .ok (.iand, 1) := by decide +kernel
theorem dX2_settleLawsOf_42 : decode cX2_settleLawsOf 42 = .ok (.istore_n 3, 1) := by decide +kernel
theorem dX2_settleLawsOf_43 : decode cX2_settleLawsOf 43 = .ok (.iinc 4 1, 3) := by decide +kernel
theorem dX2_settleLawsOf_46 : decode cX2_settleLawsOf 46 = .ok (.goto (-32), 3) := by decide +kernel
theorem dX2_settleLawsOf_49 : decode cX2_settleLawsOf 49 = .ok (.aload_n 0, 1) := by decide +kernel
theorem dX2_settleLawsOf_50 : decode cX2_settleLawsOf 50 = .ok (.getfield 59, 3) := by decide +kernel
theorem dX2_settleLawsOf_53 : decode cX2_settleLawsOf 53 = .ok (.iload_n 1, 1) := by decide +kernel
theorem dX2_settleLawsOf_54 : decode cX2_settleLawsOf 54 = .ok (.iload_n 2, 1) := by decide +kernel
theorem dX2_settleLawsOf_55 : decode cX2_settleLawsOf 55 = .ok (.iastore, 1) := by decide +kernel
theorem dX2_settleLawsOf_56 : decode cX2_settleLawsOf 56 = .ok (.iconst 0, 1) := by decide +kernel
theorem dX2_settleLawsOf_57 : decode cX2_settleLawsOf 57 = .ok (.istore 4, 2) := by decide +kernel
theorem dX2_settleLawsOf_59 : decode cX2_settleLawsOf 59 = .ok (.iload 4, 2) := by decide +kernel
theorem dX2_settleLawsOf_61 : decode cX2_settleLawsOf 61 = .ok (.aload_n 0, 1) := by decide +kernel
theorem dX2_settleLawsOf_62 : decode cX2_settleLawsOf 62 = .ok (.getfield 62, 3) := by decide +kernel
theorem dX2_settleLawsOf_65 : decode cX2_settleLawsOf 65 = .ok (.if_icmp .ge 45, 3) := by decide +kernel
theorem dX2_settleLawsOf_68 : decode cX2_settleLawsOf 68 = .ok (.iload_n 2, 1) := by decide +kernel
theorem dX2_settleLawsOf_69 : decode cX2_settleLawsOf 69 = .ok (.ifCond .le 35, 3) := by decide +kernel
theorem dX2_settleLawsOf_72 : decode cX2_settleLawsOf 72 = .ok (.iload_n 3, 1) := by decide +kernel
theorem dX2_settleLawsOf_73 : decode cX2_settleLawsOf 73 = .ok (.iload 4, 2) := by decide +kernel
theorem dX2_settleLawsOf_75 : decode cX2_settleLawsOf 75 = .ok (.invokestatic 107, 3) := by decide +kernel
theorem dX2_settleLawsOf_78 : decode cX2_settleLawsOf 78 = .ok (.ifCond .eq 26, 3) := by decide +kernel
theorem dX2_settleLawsOf_81 : decode cX2_settleLawsOf 81 = .ok (.aload_n 0, 1) := by decide +kernel
theorem dX2_settleLawsOf_82 : decode cX2_settleLawsOf 82 = .ok (.iload 4, 2) := by decide +kernel
theorem dX2_settleLawsOf_84 : decode cX2_settleLawsOf 84 = .ok (.iload_n 1, 1) := by decide +kernel
theorem dX2_settleLawsOf_85 : decode cX2_settleLawsOf 85 = .ok (.invokevirtual 110, 3) := by decide +kernel
theorem dX2_settleLawsOf_88 : decode cX2_settleLawsOf 88 = .ok (.ifCond .eq 16, 3) := by decide +kernel
theorem dX2_settleLawsOf_91 : decode cX2_settleLawsOf 91 = .ok (.aload_n 0, 1) := by decide +kernel
theorem dX2_settleLawsOf_92 : decode cX2_settleLawsOf 92 = .ok (.getfield 56, 3) := by decide +kernel
theorem dX2_settleLawsOf_95 : decode cX2_settleLawsOf 95 = .ok (.iload 4, 2) := by decide +kernel
theorem dX2_settleLawsOf_97 : decode cX2_settleLawsOf 97 = .ok (.dup2, 1) := by decide +kernel
theorem dX2_settleLawsOf_98 : decode cX2_settleLawsOf 98 = .ok (.iaload, 1) := by decide +kernel
theorem dX2_settleLawsOf_99 : decode cX2_settleLawsOf 99 = .ok (.iconst 1, 1) := by decide +kernel
theorem dX2_settleLawsOf_100 : decode cX2_settleLawsOf 100 = .ok (.iload_n 1, 1) := by decide +kernel
theorem dX2_settleLawsOf_101 : decode cX2_settleLawsOf 101 = .ok (.ishl, 1) := by decide +kernel
theorem dX2_settleLawsOf_102 : decode cX2_settleLawsOf 102 = .ok (.ior, 1) := by decide +kernel
theorem dX2_settleLawsOf_103 : decode cX2_settleLawsOf 103 = .ok (.iastore, 1) := by decide +kernel
theorem dX2_settleLawsOf_104 : decode cX2_settleLawsOf 104 = .ok (.iinc 4 1, 3) := by decide +kernel
theorem dX2_settleLawsOf_107 : decode cX2_settleLawsOf 107 = .ok (.goto (-48), 3) := by decide +kernel
theorem dX2_settleLawsOf_110 : decode cX2_settleLawsOf 110 = .ok (.return_, 1) := by decide +kernel
theorem dX2_outerLetsIn_0 : decode cX2_outerLetsIn 0 = .ok (.aload_n 0, 1) := by decide +kernel
theorem dX2_outerLetsIn_1 : decode cX2_outerLetsIn 1 = .ok (.getfield 21, 3) := by decide +kernel
theorem dX2_outerLetsIn_4 : decode cX2_outerLetsIn 4 = .ok (.iload_n 1, 1) := by decide +kernel
theorem dX2_outerLetsIn_5 : decode cX2_outerLetsIn 5 = .ok (.iaload, 1) := by decide +kernel
theorem dX2_outerLetsIn_6 : decode cX2_outerLetsIn 6 = .ok (.bipush 9, 2) := by decide +kernel
theorem dX2_outerLetsIn_8 : decode cX2_outerLetsIn 8 = .ok (.if_icmp .eq 21, 3) := by decide +kernel
theorem dX2_outerLetsIn_11 : decode cX2_outerLetsIn 11 = .ok (.aload_n 0, 1) := by decide +kernel
theorem dX2_outerLetsIn_12 : decode cX2_outerLetsIn 12 = .ok (.getfield 56, 3) := by decide +kernel
theorem dX2_outerLetsIn_15 : decode cX2_outerLetsIn 15 = .ok (.aload_n 0, 1) := by decide +kernel
theorem dX2_outerLetsIn_16 : decode cX2_outerLetsIn 16 = .ok (.getfield 21, 3) := by decide +kernel
theorem dX2_outerLetsIn_19 : decode cX2_outerLetsIn 19 = .ok (.iload_n 1, 1) := by decide +kernel
theorem dX2_outerLetsIn_20 : decode cX2_outerLetsIn 20 = .ok (.iaload, 1) := by decide +kernel
theorem dX2_outerLetsIn_21 : decode cX2_outerLetsIn 21 = .ok (.iaload, 1) := by decide +kernel
theorem dX2_outerLetsIn_22 : decode cX2_outerLetsIn 22 = .ok (.iload_n 2, 1) := by decide +kernel
theorem dX2_outerLetsIn_23 : decode cX2_outerLetsIn 23 = .ok (.invokestatic 107, 3) := by decide +kernel
theorem dX2_outerLetsIn_26 : decode cX2_outerLetsIn 26 = .ok (.ifCond .eq 7, 3) := by decide +kernel
theorem dX2_outerLetsIn_29 : decode cX2_outerLetsIn 29 = .ok (.iconst 1, 1) := by decide +kernel
theorem dX2_outerLetsIn_30 : decode cX2_outerLetsIn 30 = .ok (.goto 4, 3) := by decide +kernel
theorem dX2_outerLetsIn_33 : decode cX2_outerLetsIn 33 = .ok (.iconst 0, 1) := by decide +kernel
theorem dX2_outerLetsIn_34 : decode cX2_outerLetsIn 34 = .ok (.ireturn, 1) := by decide +kernel
theorem dX2_allHold_0 : decode cX2_allHold 0 = .ok (.iconst 0, 1) := by decide +kernel
theorem dX2_allHold_1 : decode cX2_allHold 1 = .ok (.istore_n 3, 1) := by decide +kernel
theorem dX2_allHold_2 : decode cX2_allHold 2 = .ok (.iload_n 3, 1) := by decide +kernel
theorem dX2_allHold_3 : decode cX2_allHold 3 = .ok (.aload_n 0, 1) := by decide +kernel
theorem dX2_allHold_4 : decode cX2_allHold 4 = .ok (.getfield 62, 3) := by decide +kernel
theorem dX2_allHold_7 : decode cX2_allHold 7 = .ok (.if_icmp .ge 26, 3) := by decide +kernel
theorem dX2_allHold_10 : decode cX2_allHold 10 = .ok (.iload_n 1, 1) := by decide +kernel
theorem dX2_allHold_11 : decode cX2_allHold 11 = .ok (.iload_n 3, 1) := by decide +kernel
theorem dX2_allHold_12 : decode cX2_allHold 12 = .ok (.invokestatic 107, 3) := by decide +kernel
theorem dX2_allHold_15 : decode cX2_allHold 15 = .ok (.aload_n 0, 1) := by decide +kernel
theorem dX2_allHold_16 : decode cX2_allHold 16 = .ok (.iload_n 3, 1) := by decide +kernel
theorem dX2_allHold_17 : decode cX2_allHold 17 = .ok (.iload_n 1, 1) := by decide +kernel
theorem dX2_allHold_18 : decode cX2_allHold 18 = .ok (.iload_n 2, 1) := by decide +kernel
theorem dX2_allHold_19 : decode cX2_allHold 19 = .ok (.invokevirtual 113, 3) := by decide +kernel
theorem dX2_allHold_22 : decode cX2_allHold 22 = .ok (.if_icmp .eq 5, 3) := by decide +kernel
theorem dX2_allHold_25 : decode cX2_allHold 25 = .ok (.iconst 0, 1) := by decide +kernel
theorem dX2_allHold_26 : decode cX2_allHold 26 = .ok (.ireturn, 1) := by decide +kernel
theorem dX2_allHold_27 : decode cX2_allHold 27 = .ok (.iinc 3 1, 3) := by decide +kernel
theorem dX2_allHold_30 : decode cX2_allHold 30 = .ok (.goto (-28), 3) := by decide +kernel
theorem dX2_allHold_33 : decode cX2_allHold 33 = .ok (.iconst 1, 1) := by decide +kernel
theorem dX2_allHold_34 : decode cX2_allHold 34 = .ok (.ireturn, 1) := by decide +kernel
theorem dX2_lawSays_0 : decode cX2_lawSays 0 = .ok (.aload_n 0, 1) := by decide +kernel
theorem dX2_lawSays_1 : decode cX2_lawSays 1 = .ok (.getfield 24, 3) := by decide +kernel
theorem dX2_lawSays_4 : decode cX2_lawSays 4 = .ok (.iload_n 1, 1) := by decide +kernel
theorem dX2_lawSays_5 : decode cX2_lawSays 5 = .ok (.iaload, 1) := by decide +kernel
theorem dX2_lawSays_6 : decode cX2_lawSays 6 = .ok (.lookupswitch 56 #[(1, 26), (2, 37)], 26) := by decide +kernel
theorem dX2_lawSays_32 : decode cX2_lawSays 32 = .ok (.iload_n 2, 1) := by decide +kernel
theorem dX2_lawSays_33 : decode cX2_lawSays 33 = .ok (.aload_n 0, 1) := by decide +kernel
theorem dX2_lawSays_34 : decode cX2_lawSays 34 = .ok (.getfield 27, 3) := by decide +kernel
theorem dX2_lawSays_37 : decode cX2_lawSays 37 = .ok (.iload_n 1, 1) := by decide +kernel
theorem dX2_lawSays_38 : decode cX2_lawSays 38 = .ok (.iaload, 1) := by decide +kernel
theorem dX2_lawSays_39 : decode cX2_lawSays 39 = .ok (.invokestatic 107, 3) := by decide +kernel
theorem dX2_lawSays_42 : decode cX2_lawSays 42 = .ok (.ireturn, 1) := by decide +kernel
theorem dX2_lawSays_43 : decode cX2_lawSays 43 = .ok (.iload_n 2, 1) := by decide +kernel
theorem dX2_lawSays_44 : decode cX2_lawSays 44 = .ok (.aload_n 0, 1) := by decide +kernel
theorem dX2_lawSays_45 : decode cX2_lawSays 45 = .ok (.getfield 27, 3) := by decide +kernel
theorem dX2_lawSays_48 : decode cX2_lawSays 48 = .ok (.iload_n 1, 1) := by decide +kernel
theorem dX2_lawSays_49 : decode cX2_lawSays 49 = .ok (.iaload, 1) := by decide +kernel
theorem dX2_lawSays_50 : decode cX2_lawSays 50 = .ok (.invokestatic 107, 3) := by decide +kernel
theorem dX2_lawSays_53 : decode cX2_lawSays 53 = .ok (.ifCond .ne 7, 3) := by decide +kernel
theorem dX2_lawSays_56 : decode cX2_lawSays 56 = .ok (.iconst 1, 1) := by decide +kernel
theorem dX2_lawSays_57 : decode cX2_lawSays 57 = .ok (.goto 4, 3) := by decide +kernel
theorem dX2_lawSays_60 : decode cX2_lawSays 60 = .ok (.iconst 0, 1) := by decide +kernel
theorem dX2_lawSays_61 : decode cX2_lawSays 61 = .ok (.ireturn, 1) := by decide +kernel
theorem dX2_lawSays_62 : decode cX2_lawSays 62 = .ok (.aload_n 0, 1) := by decide +kernel
theorem dX2_lawSays_63 : decode cX2_lawSays 63 = .ok (.getfield 15, 3) := by decide +kernel
theorem dX2_lawSays_66 : decode cX2_lawSays 66 = .ok (.iload_n 1, 1) := by decide +kernel
theorem dX2_lawSays_67 : decode cX2_lawSays 67 = .ok (.iaload, 1) := by decide +kernel
theorem dX2_lawSays_68 : decode cX2_lawSays 68 = .ok (.iload_n 3, 1) := by decide +kernel
theorem dX2_lawSays_69 : decode cX2_lawSays 69 = .ok (.invokestatic 107, 3) := by decide +kernel
theorem dX2_lawSays_72 : decode cX2_lawSays 72 = .ok (.ifCond .ne 7, 3) := by decide +kernel
theorem dX2_lawSays_75 : decode cX2_lawSays 75 = .ok (.iconst 1, 1) := by decide +kernel
theorem dX2_lawSays_76 : decode cX2_lawSays 76 = .ok (.goto 4, 3) := by decide +kernel
theorem dX2_lawSays_79 : decode cX2_lawSays 79 = .ok (.iconst 0, 1) := by decide +kernel
theorem dX2_lawSays_80 : decode cX2_lawSays 80 = .ok (.ireturn, 1) := by decide +kernel
theorem dX2_depth_0 : decode cX2_depth 0 = .ok (.iconst 0, 1) := by decide +kernel
theorem dX2_depth_1 : decode cX2_depth 1 = .ok (.istore_n 2, 1) := by decide +kernel
theorem dX2_depth_2 : decode cX2_depth 2 = .ok (.aload_n 0, 1) := by decide +kernel
theorem dX2_depth_3 : decode cX2_depth 3 = .ok (.getfield 21, 3) := by decide +kernel
theorem dX2_depth_6 : decode cX2_depth 6 = .ok (.iload_n 1, 1) := by decide +kernel
theorem dX2_depth_7 : decode cX2_depth 7 = .ok (.iaload, 1) := by decide +kernel
theorem dX2_depth_8 : decode cX2_depth 8 = .ok (.istore_n 3, 1) := by decide +kernel
theorem dX2_depth_9 : decode cX2_depth 9 = .ok (.iconst 0, 1) := by decide +kernel
theorem dX2_depth_10 : decode cX2_depth 10 = .ok (.istore 4, 2) := by decide +kernel
theorem dX2_depth_12 : decode cX2_depth 12 = .ok (.iload 4, 2) := by decide +kernel
theorem dX2_depth_14 : decode cX2_depth 14 = .ok (.bipush 6, 2) := by decide +kernel
theorem dX2_depth_16 : decode cX2_depth 16 = .ok (.if_icmp .ge 25, 3) := by decide +kernel
theorem dX2_depth_19 : decode cX2_depth 19 = .ok (.iload_n 3, 1) := by decide +kernel
theorem dX2_depth_20 : decode cX2_depth 20 = .ok (.bipush 9, 2) := by decide +kernel
theorem dX2_depth_22 : decode cX2_depth 22 = .ok (.if_icmp .eq 19, 3) := by decide +kernel
theorem dX2_depth_25 : decode cX2_depth 25 = .ok (.iinc 2 1, 3) := by decide +kernel
theorem dX2_depth_28 : decode cX2_depth 28 = .ok (.aload_n 0, 1) := by decide +kernel
theorem dX2_depth_29 : decode cX2_depth 29 = .ok (.getfield 21, 3) := by decide +kernel
theorem dX2_depth_32 : decode cX2_depth 32 = .ok (.iload_n 3, 1) := by decide +kernel
theorem dX2_depth_33 : decode cX2_depth 33 = .ok (.iaload, 1) := by decide +kernel
theorem dX2_depth_34 : decode cX2_depth 34 = .ok (.istore_n 3, 1) := by decide +kernel
theorem dX2_depth_35 : decode cX2_depth 35 = .ok (.iinc 4 1, 3) := by decide +kernel
theorem dX2_depth_38 : decode cX2_depth 38 = .ok (.goto (-26), 3) := by decide +kernel
theorem dX2_depth_41 : decode cX2_depth 41 = .ok (.iload_n 2, 1) := by decide +kernel
theorem dX2_depth_42 : decode cX2_depth 42 = .ok (.ireturn, 1) := by decide +kernel
theorem dX2_parts_0 : decode cX2_parts 0 = .ok (.iconst 0, 1) := by decide +kernel
theorem dX2_parts_1 : decode cX2_parts 1 = .ok (.istore_n 1, 1) := by decide +kernel
theorem dX2_parts_2 : decode cX2_parts 2 = .ok (.iconst 0, 1) := by decide +kernel
theorem dX2_parts_3 : decode cX2_parts 3 = .ok (.istore_n 2, 1) := by decide +kernel
theorem dX2_parts_4 : decode cX2_parts 4 = .ok (.iconst 0, 1) := by decide +kernel
theorem dX2_parts_5 : decode cX2_parts 5 = .ok (.istore_n 3, 1) := by decide +kernel
theorem dX2_parts_6 : decode cX2_parts 6 = .ok (.iload_n 3, 1) := by decide +kernel
theorem dX2_parts_7 : decode cX2_parts 7 = .ok (.aload_n 0, 1) := by decide +kernel
theorem dX2_parts_8 : decode cX2_parts 8 = .ok (.getfield 62, 3) := by decide +kernel
theorem dX2_parts_11 : decode cX2_parts 11 = .ok (.if_icmp .ge 28, 3) := by decide +kernel
theorem dX2_parts_14 : decode cX2_parts 14 = .ok (.iload_n 1, 1) := by decide +kernel
theorem dX2_parts_15 : decode cX2_parts 15 = .ok (.iload_n 3, 1) := by decide +kernel
theorem dX2_parts_16 : decode cX2_parts 16 = .ok (.invokestatic 107, 3) := by decide +kernel
theorem dX2_parts_19 : decode cX2_parts 19 = .ok (.ifCond .ne 14, 3) := by decide +kernel
theorem dX2_parts_22 : decode cX2_parts 22 = .ok (.iinc 2 1, 3) := by decide +kernel
theorem dX2_parts_25 : decode cX2_parts 25 = .ok (.iload_n 1, 1) := by decide +kernel
theorem dX2_parts_26 : decode cX2_parts 26 = .ok (.aload_n 0, 1) := by decide +kernel
theorem dX2_parts_27 : decode cX2_parts 27 = .ok (.iload_n 3, 1) := by decide +kernel
theorem dX2_parts_28 : decode cX2_parts 28 = .ok (.invokevirtual 117, 3) := by decide +kernel
theorem dX2_parts_31 : decode cX2_parts 31 = .ok (.ior, 1) := by decide +kernel
theorem dX2_parts_32 : decode cX2_parts 32 = .ok (.istore_n 1, 1) := by decide +kernel
theorem dX2_parts_33 : decode cX2_parts 33 = .ok (.iinc 3 1, 3) := by decide +kernel
theorem dX2_parts_36 : decode cX2_parts 36 = .ok (.goto (-30), 3) := by decide +kernel
theorem dX2_parts_39 : decode cX2_parts 39 = .ok (.iload_n 2, 1) := by decide +kernel
theorem dX2_parts_40 : decode cX2_parts 40 = .ok (.ireturn, 1) := by decide +kernel
theorem dX2_partOf_0 : decode cX2_partOf 0 = .ok (.iconst 1, 1) := by decide +kernel
theorem dX2_partOf_1 : decode cX2_partOf 1 = .ok (.iload_n 1, 1) := by decide +kernel
theorem dX2_partOf_2 : decode cX2_partOf 2 = .ok (.ishl, 1) := by decide +kernel
theorem dX2_partOf_3 : decode cX2_partOf 3 = .ok (.istore_n 2, 1) := by decide +kernel
theorem dX2_partOf_4 : decode cX2_partOf 4 = .ok (.iconst 1, 1) := by decide +kernel
theorem dX2_partOf_5 : decode cX2_partOf 5 = .ok (.istore_n 3, 1) := by decide +kernel
theorem dX2_partOf_6 : decode cX2_partOf 6 = .ok (.iload_n 3, 1) := by decide +kernel
theorem dX2_partOf_7 : decode cX2_partOf 7 = .ok (.aload_n 0, 1) := by decide +kernel
theorem dX2_partOf_8 : decode cX2_partOf 8 = .ok (.getfield 62, 3) := by decide +kernel
theorem dX2_partOf_11 : decode cX2_partOf 11 = .ok (.if_icmp .ge 46, 3) := by decide +kernel
theorem dX2_partOf_14 : decode cX2_partOf 14 = .ok (.iconst 0, 1) := by decide +kernel
theorem dX2_partOf_15 : decode cX2_partOf 15 = .ok (.istore 4, 2) := by decide +kernel
theorem dX2_partOf_17 : decode cX2_partOf 17 = .ok (.iload 4, 2) := by decide +kernel
theorem dX2_partOf_19 : decode cX2_partOf 19 = .ok (.aload_n 0, 1) := by decide +kernel
theorem dX2_partOf_20 : decode cX2_partOf 20 = .ok (.getfield 62, 3) := by decide +kernel
theorem dX2_partOf_23 : decode cX2_partOf 23 = .ok (.if_icmp .ge 28, 3) := by decide +kernel
theorem dX2_partOf_26 : decode cX2_partOf 26 = .ok (.iload_n 2, 1) := by decide +kernel
theorem dX2_partOf_27 : decode cX2_partOf 27 = .ok (.iload 4, 2) := by decide +kernel
theorem dX2_partOf_29 : decode cX2_partOf 29 = .ok (.invokestatic 107, 3) := by decide +kernel
theorem dX2_partOf_32 : decode cX2_partOf 32 = .ok (.ifCond .eq 13, 3) := by decide +kernel
theorem dX2_partOf_35 : decode cX2_partOf 35 = .ok (.iload_n 2, 1) := by decide +kernel
theorem dX2_partOf_36 : decode cX2_partOf 36 = .ok (.aload_n 0, 1) := by decide +kernel
theorem dX2_partOf_37 : decode cX2_partOf 37 = .ok (.getfield 30, 3) := by decide +kernel
theorem dX2_partOf_40 : decode cX2_partOf 40 = .ok (.iload 4, 2) := by decide +kernel
theorem dX2_partOf_42 : decode cX2_partOf 42 = .ok (.iaload, 1) := by decide +kernel
theorem dX2_partOf_43 : decode cX2_partOf 43 = .ok (.ior, 1) := by decide +kernel
theorem dX2_partOf_44 : decode cX2_partOf 44 = .ok (.istore_n 2, 1) := by decide +kernel
theorem dX2_partOf_45 : decode cX2_partOf 45 = .ok (.iinc 4 1, 3) := by decide +kernel
theorem dX2_partOf_48 : decode cX2_partOf 48 = .ok (.goto (-31), 3) := by decide +kernel
theorem dX2_partOf_51 : decode cX2_partOf 51 = .ok (.iinc 3 1, 3) := by decide +kernel
theorem dX2_partOf_54 : decode cX2_partOf 54 = .ok (.goto (-48), 3) := by decide +kernel
theorem dX2_partOf_57 : decode cX2_partOf 57 = .ok (.iload_n 2, 1) := by decide +kernel
theorem dX2_partOf_58 : decode cX2_partOf 58 = .ok (.ireturn, 1) := by decide +kernel
theorem dX2_opens_0 : decode cX2_opens 0 = .ok (.aload_n 0, 1) := by decide +kernel
theorem dX2_opens_1 : decode cX2_opens 1 = .ok (.getfield 30, 3) := by decide +kernel
theorem dX2_opens_4 : decode cX2_opens 4 = .ok (.iload_n 1, 1) := by decide +kernel
theorem dX2_opens_5 : decode cX2_opens 5 = .ok (.iaload, 1) := by decide +kernel
theorem dX2_opens_6 : decode cX2_opens 6 = .ok (.iload_n 2, 1) := by decide +kernel
theorem dX2_opens_7 : decode cX2_opens 7 = .ok (.invokestatic 107, 3) := by decide +kernel
theorem dX2_opens_10 : decode cX2_opens 10 = .ok (.ifCond .eq 20, 3) := by decide +kernel
theorem dX2_opens_13 : decode cX2_opens 13 = .ok (.aload_n 0, 1) := by decide +kernel
theorem dX2_opens_14 : decode cX2_opens 14 = .ok (.getfield 56, 3) := by decide +kernel
theorem dX2_opens_17 : decode cX2_opens 17 = .ok (.iload_n 2, 1) := by decide +kernel
theorem dX2_opens_18 : decode cX2_opens 18 = .ok (.iaload, 1) := by decide +kernel
theorem dX2_opens_19 : decode cX2_opens 19 = .ok (.iload_n 3, 1) := by decide +kernel
theorem dX2_opens_20 : decode cX2_opens 20 = .ok (.invokestatic 107, 3) := by decide +kernel
theorem dX2_opens_23 : decode cX2_opens 23 = .ok (.ifCond .eq 7, 3) := by decide +kernel
theorem dX2_opens_26 : decode cX2_opens 26 = .ok (.iconst 1, 1) := by decide +kernel
theorem dX2_opens_27 : decode cX2_opens 27 = .ok (.goto 4, 3) := by decide +kernel
theorem dX2_opens_30 : decode cX2_opens 30 = .ok (.iconst 0, 1) := by decide +kernel
theorem dX2_opens_31 : decode cX2_opens 31 = .ok (.ireturn, 1) := by decide +kernel
theorem dX2_price_0 : decode cX2_price 0 = .ok (.aload_n 0, 1) := by decide +kernel
theorem dX2_price_1 : decode cX2_price 1 = .ok (.getfield 41, 3) := by decide +kernel
theorem dX2_price_4 : decode cX2_price 4 = .ok (.iload_n 1, 1) := by decide +kernel
theorem dX2_price_5 : decode cX2_price 5 = .ok (.aaload, 1) := by decide +kernel
theorem dX2_price_6 : decode cX2_price 6 = .ok (.iload_n 2, 1) := by decide +kernel
theorem dX2_price_7 : decode cX2_price 7 = .ok (.iaload, 1) := by decide +kernel
theorem dX2_price_8 : decode cX2_price 8 = .ok (.iload_n 3, 1) := by decide +kernel
theorem dX2_price_9 : decode cX2_price 9 = .ok (.invokestatic 107, 3) := by decide +kernel
theorem dX2_price_12 : decode cX2_price 12 = .ok (.ifCond .eq 7, 3) := by decide +kernel
theorem dX2_price_15 : decode cX2_price 15 = .ok (.iconst 0, 1) := by decide +kernel
theorem dX2_price_16 : decode cX2_price 16 = .ok (.goto 9, 3) := by decide +kernel
theorem dX2_price_19 : decode cX2_price 19 = .ok (.aload_n 0, 1) := by decide +kernel
theorem dX2_price_20 : decode cX2_price 20 = .ok (.getfield 18, 3) := by decide +kernel
theorem dX2_price_23 : decode cX2_price 23 = .ok (.iload_n 2, 1) := by decide +kernel
theorem dX2_price_24 : decode cX2_price 24 = .ok (.iaload, 1) := by decide +kernel
theorem dX2_price_25 : decode cX2_price 25 = .ok (.ireturn, 1) := by decide +kernel
theorem dX2_worthOf_0 : decode cX2_worthOf 0 = .ok (.iconst 0, 1) := by decide +kernel
theorem dX2_worthOf_1 : decode cX2_worthOf 1 = .ok (.istore_n 3, 1) := by decide +kernel
theorem dX2_worthOf_2 : decode cX2_worthOf 2 = .ok (.iconst 0, 1) := by decide +kernel
theorem dX2_worthOf_3 : decode cX2_worthOf 3 = .ok (.istore 4, 2) := by decide +kernel
theorem dX2_worthOf_5 : decode cX2_worthOf 5 = .ok (.iconst 0, 1) := by decide +kernel
theorem dX2_worthOf_6 : decode cX2_worthOf 6 = .ok (.istore 5, 2) := by decide +kernel
theorem dX2_worthOf_8 : decode cX2_worthOf 8 = .ok (.iload 5, 2) := by decide +kernel
theorem dX2_worthOf_10 : decode cX2_worthOf 10 = .ok (.aload_n 0, 1) := by decide +kernel
theorem dX2_worthOf_11 : decode cX2_worthOf 11 = .ok (.getfield 66, 3) := by decide +kernel
theorem dX2_worthOf_14 : decode cX2_worthOf 14 = .ok (.if_icmp .ge 61, 3) := by decide +kernel
theorem dX2_worthOf_17 : decode cX2_worthOf 17 = .ok (.iload_n 1, 1) := by decide +kernel
theorem dX2_worthOf_18 : decode cX2_worthOf 18 = .ok (.iload 5, 2) := by decide +kernel
theorem dX2_worthOf_20 : decode cX2_worthOf 20 = .ok (.invokestatic 107, 3) := by decide +kernel
theorem dX2_worthOf_23 : decode cX2_worthOf 23 = .ok (.ifCond .eq 46, 3) := by decide +kernel
theorem dX2_worthOf_26 : decode cX2_worthOf 26 = .ok (.aload_n 0, 1) := by decide +kernel
theorem dX2_worthOf_27 : decode cX2_worthOf 27 = .ok (.getfield 56, 3) := by decide +kernel
theorem dX2_worthOf_30 : decode cX2_worthOf 30 = .ok (.iload_n 2, 1) := by decide +kernel
theorem dX2_worthOf_31 : decode cX2_worthOf 31 = .ok (.iaload, 1) := by decide +kernel
theorem dX2_worthOf_32 : decode cX2_worthOf 32 = .ok (.aload_n 0, 1) := by decide +kernel
theorem dX2_worthOf_33 : decode cX2_worthOf 33 = .ok (.getfield 44, 3) := by decide +kernel
theorem dX2_worthOf_36 : decode cX2_worthOf 36 = .ok (.iload 5, 2) := by decide +kernel
theorem dX2_worthOf_38 : decode cX2_worthOf 38 = .ok (.iaload, 1) := by decide +kernel
theorem dX2_worthOf_39 : decode cX2_worthOf 39 = .ok (.invokestatic 107, 3) := by decide +kernel
theorem dX2_worthOf_42 : decode cX2_worthOf 42 = .ok (.ifCond .ne 5, 3) := by decide +kernel
theorem dX2_worthOf_45 : decode cX2_worthOf 45 = .ok (.iconst (-1), 1) := by decide +kernel
theorem dX2_worthOf_46 : decode cX2_worthOf 46 = .ok (.ireturn, 1) := by decide +kernel
theorem dX2_worthOf_47 : decode cX2_worthOf 47 = .ok (.iload_n 3, 1) := by decide +kernel
theorem dX2_worthOf_48 : decode cX2_worthOf 48 = .ok (.aload_n 0, 1) := by decide +kernel
theorem dX2_worthOf_49 : decode cX2_worthOf 49 = .ok (.getfield 50, 3) := by decide +kernel
theorem dX2_worthOf_52 : decode cX2_worthOf 52 = .ok (.iload 5, 2) := by decide +kernel
theorem dX2_worthOf_54 : decode cX2_worthOf 54 = .ok (.iaload, 1) := by decide +kernel
theorem dX2_worthOf_55 : decode cX2_worthOf 55 = .ok (.iadd, 1) := by decide +kernel
theorem dX2_worthOf_56 : decode cX2_worthOf 56 = .ok (.istore_n 3, 1) := by decide +kernel
theorem dX2_worthOf_57 : decode cX2_worthOf 57 = .ok (.iload 4, 2) := by decide +kernel
theorem dX2_worthOf_59 : decode cX2_worthOf 59 = .ok (.aload_n 0, 1) := by decide +kernel
theorem dX2_worthOf_60 : decode cX2_worthOf 60 = .ok (.getfield 47, 3) := by decide +kernel
theorem dX2_worthOf_63 : decode cX2_worthOf 63 = .ok (.iload 5, 2) := by decide +kernel
theorem dX2_worthOf_65 : decode cX2_worthOf 65 = .ok (.iaload, 1) := by decide +kernel
theorem dX2_worthOf_66 : decode cX2_worthOf 66 = .ok (.iadd, 1) := by decide +kernel
theorem dX2_worthOf_67 : decode cX2_worthOf 67 = .ok (.istore 4, 2) := by decide +kernel
theorem dX2_worthOf_69 : decode cX2_worthOf 69 = .ok (.iinc 5 1, 3) := by decide +kernel
theorem dX2_worthOf_72 : decode cX2_worthOf 72 = .ok (.goto (-64), 3) := by decide +kernel
theorem dX2_worthOf_75 : decode cX2_worthOf 75 = .ok (.iload 4, 2) := by decide +kernel
theorem dX2_worthOf_77 : decode cX2_worthOf 77 = .ok (.aload_n 0, 1) := by decide +kernel
theorem dX2_worthOf_78 : decode cX2_worthOf 78 = .ok (.getfield 9, 3) := by decide +kernel
theorem dX2_worthOf_81 : decode cX2_worthOf 81 = .ok (.iload_n 2, 1) := by decide +kernel
theorem dX2_worthOf_82 : decode cX2_worthOf 82 = .ok (.iaload, 1) := by decide +kernel
theorem dX2_worthOf_83 : decode cX2_worthOf 83 = .ok (.if_icmp .gt 7, 3) := by decide +kernel
theorem dX2_worthOf_86 : decode cX2_worthOf 86 = .ok (.iload_n 3, 1) := by decide +kernel
theorem dX2_worthOf_87 : decode cX2_worthOf 87 = .ok (.goto 4, 3) := by decide +kernel
theorem dX2_worthOf_90 : decode cX2_worthOf 90 = .ok (.iconst (-1), 1) := by decide +kernel
theorem dX2_worthOf_91 : decode cX2_worthOf 91 = .ok (.ireturn, 1) := by decide +kernel
theorem dX2_behindNight_0 : decode cX2_behindNight 0 = .ok (.aload_n 0, 1) := by decide +kernel
theorem dX2_behindNight_1 : decode cX2_behindNight 1 = .ok (.getfield 33, 3) := by decide +kernel
theorem dX2_behindNight_4 : decode cX2_behindNight 4 = .ok (.iload_n 1, 1) := by decide +kernel
theorem dX2_behindNight_5 : decode cX2_behindNight 5 = .ok (.iaload, 1) := by decide +kernel
theorem dX2_behindNight_6 : decode cX2_behindNight 6 = .ok (.istore_n 3, 1) := by decide +kernel
theorem dX2_behindNight_7 : decode cX2_behindNight 7 = .ok (.iload_n 3, 1) := by decide +kernel
theorem dX2_behindNight_8 : decode cX2_behindNight 8 = .ok (.bipush (-9), 2) := by decide +kernel
theorem dX2_behindNight_10 : decode cX2_behindNight 10 = .ok (.if_icmp .eq 27, 3) := by decide +kernel
theorem dX2_behindNight_13 : decode cX2_behindNight 13 = .ok (.iload_n 2, 1) := by decide +kernel
theorem dX2_behindNight_14 : decode cX2_behindNight 14 = .ok (.aload_n 0, 1) := by decide +kernel
theorem dX2_behindNight_15 : decode cX2_behindNight 15 = .ok (.getfield 36, 3) := by decide +kernel
theorem dX2_behindNight_18 : decode cX2_behindNight 18 = .ok (.iload_n 1, 1) := by decide +kernel
theorem dX2_behindNight_19 : decode cX2_behindNight 19 = .ok (.iaload, 1) := by decide +kernel
theorem dX2_behindNight_20 : decode cX2_behindNight 20 = .ok (.if_icmp .gt 17, 3) := by decide +kernel
theorem dX2_behindNight_23 : decode cX2_behindNight 23 = .ok (.iload_n 2, 1) := by decide +kernel
theorem dX2_behindNight_24 : decode cX2_behindNight 24 = .ok (.aload_n 0, 1) := by decide +kernel
theorem dX2_behindNight_25 : decode cX2_behindNight 25 = .ok (.getfield 9, 3) := by decide +kernel
theorem dX2_behindNight_28 : decode cX2_behindNight 28 = .ok (.iload_n 3, 1) := by decide +kernel
theorem dX2_behindNight_29 : decode cX2_behindNight 29 = .ok (.iaload, 1) := by decide +kernel
theorem dX2_behindNight_30 : decode cX2_behindNight 30 = .ok (.if_icmp .gt 7, 3) := by decide +kernel
theorem dX2_behindNight_33 : decode cX2_behindNight 33 = .ok (.iload_n 3, 1) := by decide +kernel
theorem dX2_behindNight_34 : decode cX2_behindNight 34 = .ok (.goto 4, 3) := by decide +kernel
theorem dX2_behindNight_37 : decode cX2_behindNight 37 = .ok (.iload_n 1, 1) := by decide +kernel
theorem dX2_behindNight_38 : decode cX2_behindNight 38 = .ok (.ireturn, 1) := by decide +kernel
theorem dX2_behindNights_0 : decode cX2_behindNights 0 = .ok (.iload_n 1, 1) := by decide +kernel
theorem dX2_behindNights_1 : decode cX2_behindNights 1 = .ok (.istore 4, 2) := by decide +kernel
theorem dX2_behindNights_3 : decode cX2_behindNights 3 = .ok (.iconst 0, 1) := by decide +kernel
theorem dX2_behindNights_4 : decode cX2_behindNights 4 = .ok (.istore 5, 2) := by decide +kernel
theorem dX2_behindNights_6 : decode cX2_behindNights 6 = .ok (.iload 5, 2) := by decide +kernel
theorem dX2_behindNights_8 : decode cX2_behindNights 8 = .ok (.iload_n 3, 1) := by decide +kernel
theorem dX2_behindNights_9 : decode cX2_behindNights 9 = .ok (.if_icmp .ge 18, 3) := by decide +kernel
theorem dX2_behindNights_12 : decode cX2_behindNights 12 = .ok (.aload_n 0, 1) := by decide +kernel
theorem dX2_behindNights_13 : decode cX2_behindNights 13 = .ok (.iload 4, 2) := by decide +kernel
theorem dX2_behindNights_15 : decode cX2_behindNights 15 = .ok (.iload_n 2, 1) := by decide +kernel
theorem dX2_behindNights_16 : decode cX2_behindNights 16 = .ok (.invokevirtual 121, 3) := by decide +kernel
theorem dX2_behindNights_19 : decode cX2_behindNights 19 = .ok (.istore 4, 2) := by decide +kernel
theorem dX2_behindNights_21 : decode cX2_behindNights 21 = .ok (.iinc 5 1, 3) := by decide +kernel
theorem dX2_behindNights_24 : decode cX2_behindNights 24 = .ok (.goto (-18), 3) := by decide +kernel
theorem dX2_behindNights_27 : decode cX2_behindNights 27 = .ok (.iload 4, 2) := by decide +kernel
theorem dX2_behindNights_29 : decode cX2_behindNights 29 = .ok (.ireturn, 1) := by decide +kernel
theorem dX2_dropsAsFarAs_0 : decode cX2_dropsAsFarAs 0 = .ok (.iload_n 1, 1) := by decide +kernel
theorem dX2_dropsAsFarAs_1 : decode cX2_dropsAsFarAs 1 = .ok (.istore 4, 2) := by decide +kernel
theorem dX2_dropsAsFarAs_3 : decode cX2_dropsAsFarAs 3 = .ok (.iconst 0, 1) := by decide +kernel
theorem dX2_dropsAsFarAs_4 : decode cX2_dropsAsFarAs 4 = .ok (.istore 5, 2) := by decide +kernel
theorem dX2_dropsAsFarAs_6 : decode cX2_dropsAsFarAs 6 = .ok (.iload 5, 2) := by decide +kernel
theorem dX2_dropsAsFarAs_8 : decode cX2_dropsAsFarAs 8 = .ok (.aload_n 0, 1) := by decide +kernel
theorem dX2_dropsAsFarAs_9 : decode cX2_dropsAsFarAs 9 = .ok (.getfield 62, 3) := by decide +kernel
theorem dX2_dropsAsFarAs_12 : decode cX2_dropsAsFarAs 12 = .ok (.if_icmp .ge 35, 3) := by decide +kernel
theorem dX2_dropsAsFarAs_15 : decode cX2_dropsAsFarAs 15 = .ok (.iload 4, 2) := by decide +kernel
theorem dX2_dropsAsFarAs_17 : decode cX2_dropsAsFarAs 17 = .ok (.iload_n 2, 1) := by decide +kernel
theorem dX2_dropsAsFarAs_18 : decode cX2_dropsAsFarAs 18 = .ok (.if_icmp .eq 29, 3) := by decide +kernel
theorem dX2_dropsAsFarAs_21 : decode cX2_dropsAsFarAs 21 = .ok (.iload 4, 2) := by decide +kernel
theorem dX2_dropsAsFarAs_23 : decode cX2_dropsAsFarAs 23 = .ok (.iload_n 3, 1) := by decide +kernel
theorem dX2_dropsAsFarAs_24 : decode cX2_dropsAsFarAs 24 = .ok (.if_icmp .ne 8, 3) := by decide +kernel
theorem dX2_dropsAsFarAs_27 : decode cX2_dropsAsFarAs 27 = .ok (.iload 4, 2) := by decide +kernel
theorem dX2_dropsAsFarAs_29 : decode cX2_dropsAsFarAs 29 = .ok (.goto 10, 3) := by decide +kernel
theorem dX2_dropsAsFarAs_32 : decode cX2_dropsAsFarAs 32 = .ok (.aload_n 0, 1) := by decide +kernel
theorem dX2_dropsAsFarAs_33 : decode cX2_dropsAsFarAs 33 = .ok (.iload 4, 2) := by decide +kernel
theorem dX2_dropsAsFarAs_35 : decode cX2_dropsAsFarAs 35 = .ok (.iconst 1, 1) := by decide +kernel
theorem dX2_dropsAsFarAs_36 : decode cX2_dropsAsFarAs 36 = .ok (.invokevirtual 121, 3) := by decide +kernel
theorem dX2_dropsAsFarAs_39 : decode cX2_dropsAsFarAs 39 = .ok (.istore 4, 2) := by decide +kernel
theorem dX2_dropsAsFarAs_41 : decode cX2_dropsAsFarAs 41 = .ok (.iinc 5 1, 3) := by decide +kernel
theorem dX2_dropsAsFarAs_44 : decode cX2_dropsAsFarAs 44 = .ok (.goto (-38), 3) := by decide +kernel
theorem dX2_dropsAsFarAs_47 : decode cX2_dropsAsFarAs 47 = .ok (.iload 4, 2) := by decide +kernel
theorem dX2_dropsAsFarAs_49 : decode cX2_dropsAsFarAs 49 = .ok (.iload_n 2, 1) := by decide +kernel
theorem dX2_dropsAsFarAs_50 : decode cX2_dropsAsFarAs 50 = .ok (.if_icmp .ne 7, 3) := by decide +kernel
theorem dX2_dropsAsFarAs_53 : decode cX2_dropsAsFarAs 53 = .ok (.iconst 1, 1) := by decide +kernel
theorem dX2_dropsAsFarAs_54 : decode cX2_dropsAsFarAs 54 = .ok (.goto 4, 3) := by decide +kernel
theorem dX2_dropsAsFarAs_57 : decode cX2_dropsAsFarAs 57 = .ok (.iconst 0, 1) := by decide +kernel
theorem dX2_dropsAsFarAs_58 : decode cX2_dropsAsFarAs 58 = .ok (.ireturn, 1) := by decide +kernel
theorem dX2_firstStitch_0 : decode cX2_firstStitch 0 = .ok (.iconst 0, 1) := by decide +kernel
theorem dX2_firstStitch_1 : decode cX2_firstStitch 1 = .ok (.istore_n 3, 1) := by decide +kernel
theorem dX2_firstStitch_2 : decode cX2_firstStitch 2 = .ok (.iload_n 3, 1) := by decide +kernel
theorem dX2_firstStitch_3 : decode cX2_firstStitch 3 = .ok (.aload_n 0, 1) := by decide +kernel
theorem dX2_firstStitch_4 : decode cX2_firstStitch 4 = .ok (.getfield 62, 3) := by decide +kernel
theorem dX2_firstStitch_7 : decode cX2_firstStitch 7 = .ok (.if_icmp .ge 21, 3) := by decide +kernel
theorem dX2_firstStitch_10 : decode cX2_firstStitch 10 = .ok (.aload_n 0, 1) := by decide +kernel
theorem dX2_firstStitch_11 : decode cX2_firstStitch 11 = .ok (.iload_n 1, 1) := by decide +kernel
theorem dX2_firstStitch_12 : decode cX2_firstStitch 12 = .ok (.iload_n 2, 1) := by decide +kernel
theorem dX2_firstStitch_13 : decode cX2_firstStitch 13 = .ok (.iload_n 3, 1) := by decide +kernel
theorem dX2_firstStitch_14 : decode cX2_firstStitch 14 = .ok (.invokevirtual 125, 3) := by decide +kernel
theorem dX2_firstStitch_17 : decode cX2_firstStitch 17 = .ok (.ifCond .ne 5, 3) := by decide +kernel
theorem dX2_firstStitch_20 : decode cX2_firstStitch 20 = .ok (.iload_n 3, 1) := by decide +kernel
theorem dX2_firstStitch_21 : decode cX2_firstStitch 21 = .ok (.ireturn, 1) := by decide +kernel
theorem dX2_firstStitch_22 : decode cX2_firstStitch 22 = .ok (.iinc 3 1, 3) := by decide +kernel
theorem dX2_firstStitch_25 : decode cX2_firstStitch 25 = .ok (.goto (-23), 3) := by decide +kernel
theorem dX2_firstStitch_28 : decode cX2_firstStitch 28 = .ok (.bipush (-9), 2) := by decide +kernel
theorem dX2_firstStitch_30 : decode cX2_firstStitch 30 = .ok (.ireturn, 1) := by decide +kernel
theorem dX3_init_0 : decode cX3_init 0 = .ok (.aload_n 0, 1) := by decide +kernel
theorem dX3_init_1 : decode cX3_init 1 = .ok (.invokespecial 3, 3) := by decide +kernel
theorem dX3_init_4 : decode cX3_init 4 = .ok (.aload_n 0, 1) := by decide +kernel
theorem dX3_init_5 : decode cX3_init 5 = .ok (.bipush 6, 2) := by decide +kernel
theorem dX3_init_7 : decode cX3_init 7 = .ok (.newarray .int, 2) := by decide +kernel
theorem dX3_init_9 : decode cX3_init 9 = .ok (.putfield 9, 3) := by decide +kernel
theorem dX3_init_12 : decode cX3_init 12 = .ok (.aload_n 0, 1) := by decide +kernel
theorem dX3_init_13 : decode cX3_init 13 = .ok (.bipush 6, 2) := by decide +kernel
theorem dX3_init_15 : decode cX3_init 15 = .ok (.newarray .int, 2) := by decide +kernel
theorem dX3_init_17 : decode cX3_init 17 = .ok (.putfield 15, 3) := by decide +kernel
theorem dX3_init_20 : decode cX3_init 20 = .ok (.return_, 1) := by decide +kernel
theorem dX3_fewestMoved_0 : decode cX3_fewestMoved 0 = .ok (.aload_n 1, 1) := by decide +kernel
theorem dX3_fewestMoved_1 : decode cX3_fewestMoved 1 = .ok (.invokestatic 18, 3) := by decide +kernel
theorem dX3_fewestMoved_4 : decode cX3_fewestMoved 4 = .ok (.ifCond .ne 6, 3) := by decide +kernel
theorem dX3_fewestMoved_7 : decode cX3_fewestMoved 7 = .ok (.bipush (-9), 2) := by decide +kernel
theorem dX3_fewestMoved_9 : decode cX3_fewestMoved 9 = .ok (.ireturn, 1) := by decide +kernel
theorem dX3_fewestMoved_10 : decode cX3_fewestMoved 10 = .ok (.iconst 0, 1) := by decide +kernel
theorem dX3_fewestMoved_11 : decode cX3_fewestMoved 11 = .ok (.istore_n 3, 1) := by decide +kernel
theorem dX3_fewestMoved_12 : decode cX3_fewestMoved 12 = .ok (.iload_n 3, 1) := by decide +kernel
theorem dX3_fewestMoved_13 : decode cX3_fewestMoved 13 = .ok (.aload_n 1, 1) := by decide +kernel
theorem dX3_fewestMoved_14 : decode cX3_fewestMoved 14 = .ok (.getfield 22, 3) := by decide +kernel
theorem dX3_fewestMoved_17 : decode cX3_fewestMoved 17 = .ok (.if_icmp .gt 30, 3) := by decide +kernel
theorem dX3_fewestMoved_20 : decode cX3_fewestMoved 20 = .ok (.aload_n 0, 1) := by decide +kernel
theorem dX3_fewestMoved_21 : decode cX3_fewestMoved 21 = .ok (.getfield 15, 3) := by decide +kernel
theorem dX3_fewestMoved_24 : decode cX3_fewestMoved 24 = .ok (.iconst 0, 1) := by decide +kernel
theorem dX3_fewestMoved_25 : decode cX3_fewestMoved 25 = .ok (.invokestatic 28, 3) := by decide +kernel
theorem dX3_fewestMoved_28 : decode cX3_fewestMoved 28 = .ok (.aload_n 0, 1) := by decide +kernel
theorem dX3_fewestMoved_29 : decode cX3_fewestMoved 29 = .ok (.aload_n 1, 1) := by decide +kernel
theorem dX3_fewestMoved_30 : decode cX3_fewestMoved 30 = .ok (.aload_n 2, 1) := by decide +kernel
theorem dX3_fewestMoved_31 : decode cX3_fewestMoved 31 = .ok (.iconst 0, 1) := by decide +kernel
theorem dX3_fewestMoved_32 : decode cX3_fewestMoved 32 = .ok (.iload_n 3, 1) := by decide +kernel
theorem dX3_fewestMoved_33 : decode cX3_fewestMoved 33 = .ok (.invokestatic 34, 3) := by decide +kernel
theorem dX3_fewestMoved_36 : decode cX3_fewestMoved 36 = .ok (.ifCond .eq 5, 3) := by decide +kernel
theorem dX3_fewestMoved_39 : decode cX3_fewestMoved 39 = .ok (.iload_n 3, 1) := by decide +kernel
theorem dX3_fewestMoved_40 : decode cX3_fewestMoved 40 = .ok (.ireturn, 1) := by decide +kernel
theorem dX3_fewestMoved_41 : decode cX3_fewestMoved 41 = .ok (.iinc 3 1, 3) := by decide +kernel
theorem dX3_fewestMoved_44 : decode cX3_fewestMoved 44 = .ok (.goto (-32), 3) := by decide +kernel
theorem dX3_fewestMoved_47 : decode cX3_fewestMoved 47 = .ok (.bipush (-9), 2) := by decide +kernel
theorem dX3_fewestMoved_49 : decode cX3_fewestMoved 49 = .ok (.ireturn, 1) := by decide +kernel
theorem dX3_eachHasAPlace_0 : decode cX3_eachHasAPlace 0 = .ok (.iconst 0, 1) := by decide +kernel
theorem dX3_eachHasAPlace_1 : decode cX3_eachHasAPlace 1 = .ok (.istore_n 1, 1) := by decide +kernel
theorem dX3_eachHasAPlace_2 : decode cX3_eachHasAPlace 2 = .ok (.iload_n 1, 1) := by decide +kernel
theorem dX3_eachHasAPlace_3 : decode cX3_eachHasAPlace 3 = .ok (.aload_n 0, 1) := by decide +kernel
theorem dX3_eachHasAPlace_4 : decode cX3_eachHasAPlace 4 = .ok (.getfield 22, 3) := by decide +kernel
theorem dX3_eachHasAPlace_7 : decode cX3_eachHasAPlace 7 = .ok (.if_icmp .ge 69, 3) := by decide +kernel
theorem dX3_eachHasAPlace_10 : decode cX3_eachHasAPlace 10 = .ok (.iconst 0, 1) := by decide +kernel
theorem dX3_eachHasAPlace_11 : decode cX3_eachHasAPlace 11 = .ok (.istore_n 2, 1) := by decide +kernel
theorem dX3_eachHasAPlace_12 : decode cX3_eachHasAPlace 12 = .ok (.iconst 0, 1) := by decide +kernel
theorem dX3_eachHasAPlace_13 : decode cX3_eachHasAPlace 13 = .ok (.istore_n 3, 1) := by decide +kernel
theorem dX3_eachHasAPlace_14 : decode cX3_eachHasAPlace 14 = .ok (.iload_n 3, 1) := by decide +kernel
theorem dX3_eachHasAPlace_15 : decode cX3_eachHasAPlace 15 = .ok (.aload_n 0, 1) := by decide +kernel
theorem dX3_eachHasAPlace_16 : decode cX3_eachHasAPlace 16 = .ok (.getfield 38, 3) := by decide +kernel
theorem dX3_eachHasAPlace_19 : decode cX3_eachHasAPlace 19 = .ok (.if_icmp .ge 45, 3) := by decide +kernel
theorem dX3_eachHasAPlace_22 : decode cX3_eachHasAPlace 22 = .ok (.aload_n 0, 1) := by decide +kernel
theorem dX3_eachHasAPlace_23 : decode cX3_eachHasAPlace 23 = .ok (.getfield 41, 3) := by decide +kernel
theorem dX3_eachHasAPlace_26 : decode cX3_eachHasAPlace 26 = .ok (.iload_n 3, 1) := by decide +kernel
theorem dX3_eachHasAPlace_27 : decode cX3_eachHasAPlace 27 = .ok (.iaload, 1) := by decide +kernel
theorem dX3_eachHasAPlace_28 : decode cX3_eachHasAPlace 28 = .ok (.aload_n 0, 1) := by decide +kernel
theorem dX3_eachHasAPlace_29 : decode cX3_eachHasAPlace 29 = .ok (.getfield 44, 3) := by decide +kernel
theorem dX3_eachHasAPlace_32 : decode cX3_eachHasAPlace 32 = .ok (.iload_n 1, 1) := by decide +kernel
theorem dX3_eachHasAPlace_33 : decode cX3_eachHasAPlace 33 = .ok (.iaload, 1) := by decide +kernel
theorem dX3_eachHasAPlace_34 : decode cX3_eachHasAPlace 34 = .ok (.invokestatic 47, 3) := by decide +kernel
theorem dX3_eachHasAPlace_37 : decode cX3_eachHasAPlace 37 = .ok (.ifCond .eq 21, 3) := by decide +kernel
theorem dX3_eachHasAPlace_40 : decode cX3_eachHasAPlace 40 = .ok (.aload_n 0, 1) := by decide +kernel
theorem dX3_eachHasAPlace_41 : decode cX3_eachHasAPlace 41 = .ok (.getfield 51, 3) := by decide +kernel
theorem dX3_eachHasAPlace_44 : decode cX3_eachHasAPlace 44 = .ok (.iload_n 1, 1) := by decide +kernel
theorem dX3_eachHasAPlace_45 : decode cX3_eachHasAPlace 45 = .ok (.iaload, 1) := by decide +kernel
theorem dX3_eachHasAPlace_46 : decode cX3_eachHasAPlace 46 = .ok (.aload_n 0, 1) := by decide +kernel
theorem dX3_eachHasAPlace_47 : decode cX3_eachHasAPlace 47 = .ok (.getfield 54, 3) := by decide +kernel
theorem dX3_eachHasAPlace_50 : decode cX3_eachHasAPlace 50 = .ok (.iload_n 3, 1) := by decide +kernel
theorem dX3_eachHasAPlace_51 : decode cX3_eachHasAPlace 51 = .ok (.iaload, 1) := by decide +kernel
theorem dX3_eachHasAPlace_52 : decode cX3_eachHasAPlace 52 = .ok (.if_icmp .gt 6, 3) := by decide +kernel
theorem dX3_eachHasAPlace_55 : decode cX3_eachHasAPlace 55 = .ok (.iinc 2 1, 3) := by decide +kernel
theorem dX3_eachHasAPlace_58 : decode cX3_eachHasAPlace 58 = .ok (.iinc 3 1, 3) := by decide +kernel
theorem dX3_eachHasAPlace_61 : decode cX3_eachHasAPlace 61 = .ok (.goto (-47), 3) := by decide +kernel
theorem dX3_eachHasAPlace_64 : decode cX3_eachHasAPlace 64 = .ok (.iload_n 2, 1) := by decide +kernel
theorem dX3_eachHasAPlace_65 : decode cX3_eachHasAPlace 65 = .ok (.ifCond .ne 5, 3) := by decide +kernel
theorem dX3_eachHasAPlace_68 : decode cX3_eachHasAPlace 68 = .ok (.iconst 0, 1) := by decide +kernel
theorem dX3_eachHasAPlace_69 : decode cX3_eachHasAPlace 69 = .ok (.ireturn, 1) := by decide +kernel
theorem dX3_eachHasAPlace_70 : decode cX3_eachHasAPlace 70 = .ok (.iinc 1 1, 3) := by decide +kernel
theorem dX3_eachHasAPlace_73 : decode cX3_eachHasAPlace 73 = .ok (.goto (-71), 3) := by decide +kernel
theorem dX3_eachHasAPlace_76 : decode cX3_eachHasAPlace 76 = .ok (.iconst 1, 1) := by decide +kernel
theorem dX3_eachHasAPlace_77 : decode cX3_eachHasAPlace 77 = .ok (.ireturn, 1) := by decide +kernel
theorem dX3_putFrom_0 : decode cX3_putFrom 0 = .ok (.iload_n 3, 1) := by decide +kernel
theorem dX3_putFrom_1 : decode cX3_putFrom 1 = .ok (.aload_n 1, 1) := by decide +kernel
theorem dX3_putFrom_2 : decode cX3_putFrom 2 = .ok (.getfield 22, 3) := by decide +kernel
theorem dX3_putFrom_5 : decode cX3_putFrom 5 = .ok (.if_icmp .lt 5, 3) := by decide +kernel
theorem dX3_putFrom_8 : decode cX3_putFrom 8 = .ok (.iconst 1, 1) := by decide +kernel
theorem dX3_putFrom_9 : decode cX3_putFrom 9 = .ok (.ireturn, 1) := by decide +kernel
theorem dX3_putFrom_10 : decode cX3_putFrom 10 = .ok (.aload_n 1, 1) := by decide +kernel
theorem dX3_putFrom_11 : decode cX3_putFrom 11 = .ok (.getfield 51, 3) := by decide +kernel
theorem dX3_putFrom_14 : decode cX3_putFrom 14 = .ok (.iload_n 3, 1) := by decide +kernel
theorem dX3_putFrom_15 : decode cX3_putFrom 15 = .ok (.iaload, 1) := by decide +kernel
theorem dX3_putFrom_16 : decode cX3_putFrom 16 = .ok (.istore 5, 2) := by decide +kernel
theorem dX3_putFrom_18 : decode cX3_putFrom 18 = .ok (.iconst 0, 1) := by decide +kernel
theorem dX3_putFrom_19 : decode cX3_putFrom 19 = .ok (.istore 6, 2) := by decide +kernel
theorem dX3_putFrom_21 : decode cX3_putFrom 21 = .ok (.iload 6, 2) := by decide +kernel
theorem dX3_putFrom_23 : decode cX3_putFrom 23 = .ok (.aload_n 1, 1) := by decide +kernel
theorem dX3_putFrom_24 : decode cX3_putFrom 24 = .ok (.getfield 38, 3) := by decide +kernel
theorem dX3_putFrom_27 : decode cX3_putFrom 27 = .ok (.if_icmp .ge 123, 3) := by decide +kernel
theorem dX3_putFrom_30 : decode cX3_putFrom 30 = .ok (.iload 6, 2) := by decide +kernel
theorem dX3_putFrom_32 : decode cX3_putFrom 32 = .ok (.aload_n 2, 1) := by decide +kernel
theorem dX3_putFrom_33 : decode cX3_putFrom 33 = .ok (.getfield 57, 3) := by decide +kernel
theorem dX3_putFrom_36 : decode cX3_putFrom 36 = .ok (.iload_n 3, 1) := by decide +kernel
theorem dX3_putFrom_37 : decode cX3_putFrom 37 = .ok (.iaload, 1) := by decide +kernel
theorem dX3_putFrom_38 : decode cX3_putFrom 38 = .ok (.if_icmp .ne 8, 3) := by decide +kernel
theorem dX3_putFrom_41 : decode cX3_putFrom 41 = .ok (.iload 4, 2) := by decide +kernel
theorem dX3_putFrom_43 : decode cX3_putFrom 43 = .ok (.goto 7, 3) := by decide +kernel
theorem dX3_putFrom_46 : decode cX3_putFrom 46 = .ok (.iload 4, 2) := by decide +kernel
theorem dX3_putFrom_48 : decode cX3_putFrom 48 = .ok (.iconst 1, 1) := by decide +kernel
theorem dX3_putFrom_49 : decode cX3_putFrom 49 = .ok (.isub, 1) := by decide +kernel
theorem dX3_putFrom_50 : decode cX3_putFrom 50 = .ok (.istore 7, 2) := by decide +kernel
theorem dX3_putFrom_52 : decode cX3_putFrom 52 = .ok (.iload 7, 2) := by decide +kernel
theorem dX3_putFrom_54 : decode cX3_putFrom 54 = .ok (.ifCond .lt 90, 3) := by decide +kernel
theorem dX3_putFrom_57 : decode cX3_putFrom 57 = .ok (.aload_n 1, 1) := by decide +kernel
theorem dX3_putFrom_58 : decode cX3_putFrom 58 = .ok (.getfield 41, 3) := by decide +kernel
theorem dX3_putFrom_61 : decode cX3_putFrom 61 = .ok (.iload 6, 2) := by decide +kernel
theorem dX3_putFrom_63 : decode cX3_putFrom 63 = .ok (.iaload, 1) := by decide +kernel
theorem dX3_putFrom_64 : decode cX3_putFrom 64 = .ok (.aload_n 1, 1) := by decide +kernel
theorem dX3_putFrom_65 : decode cX3_putFrom 65 = .ok (.getfield 44, 3) := by decide +kernel
theorem dX3_putFrom_68 : decode cX3_putFrom 68 = .ok (.iload_n 3, 1) := by decide +kernel
theorem dX3_putFrom_69 : decode cX3_putFrom 69 = .ok (.iaload, 1) := by decide +kernel
theorem dX3_putFrom_70 : decode cX3_putFrom 70 = .ok (.invokestatic 47, 3) := by decide +kernel
theorem dX3_putFrom_73 : decode cX3_putFrom 73 = .ok (.ifCond .eq 71, 3) := by decide +kernel
theorem dX3_putFrom_76 : decode cX3_putFrom 76 = .ok (.aload_n 0, 1) := by decide +kernel
theorem dX3_putFrom_77 : decode cX3_putFrom 77 = .ok (.getfield 15, 3) := by decide +kernel
theorem dX3_putFrom_80 : decode cX3_putFrom 80 = .ok (.iload 6, 2) := by decide +kernel
theorem dX3_putFrom_82 : decode cX3_putFrom 82 = .ok (.iaload, 1) := by decide +kernel
theorem dX3_putFrom_83 : decode cX3_putFrom 83 = .ok (.iload 5, 2) := by decide +kernel
theorem dX3_putFrom_85 : decode cX3_putFrom 85 = .ok (.iadd, 1) := by decide +kernel
theorem dX3_putFrom_86 : decode cX3_putFrom 86 = .ok (.aload_n 1, 1) := by decide +kernel
theorem dX3_putFrom_87 : decode cX3_putFrom 87 = .ok (.getfield 54, 3) := by decide +kernel
theorem dX3_putFrom_90 : decode cX3_putFrom 90 = .ok (.iload 6, 2) := by decide +kernel
theorem dX3_putFrom_92 : decode cX3_putFrom 92 = .ok (.iaload, 1) := by decide +kernel
theorem dX3_putFrom_93 : decode cX3_putFrom 93 = .ok (.if_icmp .gt 51, 3) := by decide +kernel
theorem dX3_putFrom_96 : decode cX3_putFrom 96 = .ok (.aload_n 0, 1) := by decide +kernel
theorem dX3_putFrom_97 : decode cX3_putFrom 97 = .ok (.getfield 9, 3) := by decide +kernel
theorem dX3_putFrom_100 : decode cX3_putFrom 100 = .ok (.iload_n 3, 1) := by decide +kernel
theorem dX3_putFrom_101 : decode cX3_putFrom 101 = .ok (.iload 6, 2) := by decide +kernel
theorem dX3_putFrom_103 : decode cX3_putFrom 103 = .ok (.iastore, 1) := by decide +kernel
theorem dX3_putFrom_104 : decode cX3_putFrom 104 = .ok (.aload_n 0, 1) := by decide +kernel
theorem dX3_putFrom_105 : decode cX3_putFrom 105 = .ok (.getfield 15, 3) := by decide +kernel
theorem dX3_putFrom_108 : decode cX3_putFrom 108 = .ok (.iload 6, 2) := by decide +kernel
theorem dX3_putFrom_110 : decode cX3_putFrom 110 = .ok (.dup2, 1) := by decide +kernel
theorem dX3_putFrom_111 : decode cX3_putFrom 111 = .ok (.iaload, 1) := by decide +kernel
theorem dX3_putFrom_112 : decode cX3_putFrom 112 = .ok (.iload 5, 2) := by decide +kernel
theorem dX3_putFrom_114 : decode cX3_putFrom 114 = .ok (.iadd, 1) := by decide +kernel
theorem dX3_putFrom_115 : decode cX3_putFrom 115 = .ok (.iastore, 1) := by decide +kernel
theorem dX3_putFrom_116 : decode cX3_putFrom 116 = .ok (.aload_n 0, 1) := by decide +kernel
theorem dX3_putFrom_117 : decode cX3_putFrom 117 = .ok (.aload_n 1, 1) := by decide +kernel
theorem dX3_putFrom_118 : decode cX3_putFrom 118 = .ok (.aload_n 2, 1) := by decide +kernel
theorem dX3_putFrom_119 : decode cX3_putFrom 119 = .ok (.iload_n 3, 1) := by decide +kernel
theorem dX3_putFrom_120 : decode cX3_putFrom 120 = .ok (.iconst 1, 1) := by decide +kernel
theorem dX3_putFrom_121 : decode cX3_putFrom 121 = .ok (.iadd, 1) := by decide +kernel
theorem dX3_putFrom_122 : decode cX3_putFrom 122 = .ok (.iload 7, 2) := by decide +kernel
theorem dX3_putFrom_124 : decode cX3_putFrom 124 = .ok (.invokestatic 34, 3) := by decide +kernel
theorem dX3_putFrom_127 : decode cX3_putFrom 127 = .ok (.ifCond .eq 5, 3) := by decide +kernel
theorem dX3_putFrom_130 : decode cX3_putFrom 130 = .ok (.iconst 1, 1) := by decide +kernel
theorem dX3_putFrom_131 : decode cX3_putFrom 131 = .ok (.ireturn, 1) := by decide +kernel
theorem dX3_putFrom_132 : decode cX3_putFrom 132 = .ok (.aload_n 0, 1) := by decide +kernel
theorem dX3_putFrom_133 : decode cX3_putFrom 133 = .ok (.getfield 15, 3) := by decide +kernel
theorem dX3_putFrom_136 : decode cX3_putFrom 136 = .ok (.iload 6, 2) := by decide +kernel
theorem dX3_putFrom_138 : decode cX3_putFrom 138 = .ok (.dup2, 1) := by decide +kernel
theorem dX3_putFrom_139 : decode cX3_putFrom 139 = .ok (.iaload, 1) := by decide +kernel
theorem dX3_putFrom_140 : decode cX3_putFrom 140 = .ok (.iload 5, 2) := by decide +kernel
theorem dX3_putFrom_142 : decode cX3_putFrom 142 = .ok (.isub, 1) := by decide +kernel
theorem dX3_putFrom_143 : decode cX3_putFrom 143 = .ok (.iastore, 1) := by decide +kernel
theorem dX3_putFrom_144 : decode cX3_putFrom 144 = .ok (.iinc 6 1, 3) := by decide +kernel
theorem dX3_putFrom_147 : decode cX3_putFrom 147 = .ok (.goto (-126), 3) := by decide +kernel
theorem dX3_putFrom_150 : decode cX3_putFrom 150 = .ok (.iconst 0, 1) := by decide +kernel
theorem dX3_putFrom_151 : decode cX3_putFrom 151 = .ok (.ireturn, 1) := by decide +kernel
theorem dX4_init_0 : decode cX4_init 0 = .ok (.aload_n 0, 1) := by decide +kernel
theorem dX4_init_1 : decode cX4_init 1 = .ok (.invokespecial 3, 3) := by decide +kernel
theorem dX4_init_4 : decode cX4_init 4 = .ok (.aload_n 0, 1) := by decide +kernel
theorem dX4_init_5 : decode cX4_init 5 = .ok (.sipush 200, 3) := by decide +kernel
theorem dX4_init_8 : decode cX4_init 8 = .ok (.newarray .int, 2) := by decide +kernel
theorem dX4_init_10 : decode cX4_init 10 = .ok (.putfield 9, 3) := by decide +kernel
theorem dX4_init_13 : decode cX4_init 13 = .ok (.aload_n 0, 1) := by decide +kernel
theorem dX4_init_14 : decode cX4_init 14 = .ok (.iconst 4, 1) := by decide +kernel
theorem dX4_init_15 : decode cX4_init 15 = .ok (.newarray .int, 2) := by decide +kernel
theorem dX4_init_17 : decode cX4_init 17 = .ok (.putfield 15, 3) := by decide +kernel
theorem dX4_init_20 : decode cX4_init 20 = .ok (.return_, 1) := by decide +kernel
theorem dX4_readInto_0 : decode cX4_readInto 0 = .ok (.aload_n 1, 1) := by decide +kernel
theorem dX4_readInto_1 : decode cX4_readInto 1 = .ok (.invokevirtual 18, 3) := by decide +kernel
theorem dX4_readInto_4 : decode cX4_readInto 4 = .ok (.aload_n 0, 1) := by decide +kernel
theorem dX4_readInto_5 : decode cX4_readInto 5 = .ok (.iconst 0, 1) := by decide +kernel
theorem dX4_readInto_6 : decode cX4_readInto 6 = .ok (.putfield 23, 3) := by decide +kernel
theorem dX4_readInto_9 : decode cX4_readInto 9 = .ok (.iconst 0, 1) := by decide +kernel
theorem dX4_readInto_10 : decode cX4_readInto 10 = .ok (.istore_n 2, 1) := by decide +kernel
theorem dX4_readInto_11 : decode cX4_readInto 11 = .ok (.aload_n 0, 1) := by decide +kernel
theorem dX4_readInto_12 : decode cX4_readInto 12 = .ok (.invokevirtual 27, 3) := by decide +kernel
theorem dX4_readInto_15 : decode cX4_readInto 15 = .ok (.iconst 0, 1) := by decide +kernel
theorem dX4_readInto_16 : decode cX4_readInto 16 = .ok (.istore_n 3, 1) := by decide +kernel
theorem dX4_readInto_17 : decode cX4_readInto 17 = .ok (.iload_n 3, 1) := by decide +kernel
theorem dX4_readInto_18 : decode cX4_readInto 18 = .ok (.sipush 200, 3) := by decide +kernel
theorem dX4_readInto_21 : decode cX4_readInto 21 = .ok (.if_icmp .ge 42, 3) := by decide +kernel
theorem dX4_readInto_24 : decode cX4_readInto 24 = .ok (.aload_n 0, 1) := by decide +kernel
theorem dX4_readInto_25 : decode cX4_readInto 25 = .ok (.getfield 30, 3) := by decide +kernel
theorem dX4_readInto_28 : decode cX4_readInto 28 = .ok (.sipush 257, 3) := by decide +kernel
theorem dX4_readInto_31 : decode cX4_readInto 31 = .ok (.if_icmp .eq 32, 3) := by decide +kernel
theorem dX4_readInto_34 : decode cX4_readInto 34 = .ok (.aload_n 0, 1) := by decide +kernel
theorem dX4_readInto_35 : decode cX4_readInto 35 = .ok (.aload_n 1, 1) := by decide +kernel
theorem dX4_readInto_36 : decode cX4_readInto 36 = .ok (.invokevirtual 33, 3) := by decide +kernel
theorem dX4_readInto_39 : decode cX4_readInto 39 = .ok (.ifCond .ne 11, 3) := by decide +kernel
theorem dX4_readInto_42 : decode cX4_readInto 42 = .ok (.bipush (-10), 2) := by decide +kernel
theorem dX4_readInto_44 : decode cX4_readInto 44 = .ok (.aload_n 0, 1) := by decide +kernel
theorem dX4_readInto_45 : decode cX4_readInto 45 = .ok (.getfield 37, 3) := by decide +kernel
theorem dX4_readInto_48 : decode cX4_readInto 48 = .ok (.isub, 1) := by decide +kernel
theorem dX4_readInto_49 : decode cX4_readInto 49 = .ok (.ireturn, 1) := by decide +kernel
theorem dX4_readInto_50 : decode cX4_readInto 50 = .ok (.iinc 2 1, 3) := by decide +kernel
theorem dX4_readInto_53 : decode cX4_readInto 53 = .ok (.aload_n 0, 1) := by decide +kernel
theorem dX4_readInto_54 : decode cX4_readInto 54 = .ok (.invokevirtual 27, 3) := by decide +kernel
theorem dX4_readInto_57 : decode cX4_readInto 57 = .ok (.iinc 3 1, 3) := by decide +kernel
theorem dX4_readInto_60 : decode cX4_readInto 60 = .ok (.goto (-43), 3) := by decide +kernel
theorem dX4_readInto_63 : decode cX4_readInto 63 = .ok (.iload_n 2, 1) := by decide +kernel
theorem dX4_readInto_64 : decode cX4_readInto 64 = .ok (.ireturn, 1) := by decide +kernel
theorem dX4_readItem_0 : decode cX4_readItem 0 = .ok (.aload_n 0, 1) := by decide +kernel
theorem dX4_readItem_1 : decode cX4_readItem 1 = .ok (.getfield 30, 3) := by decide +kernel
theorem dX4_readItem_4 : decode cX4_readItem 4 = .ok (.istore_n 2, 1) := by decide +kernel
theorem dX4_readItem_5 : decode cX4_readItem 5 = .ok (.iload_n 2, 1) := by decide +kernel
theorem dX4_readItem_6 : decode cX4_readItem 6 = .ok (.invokestatic 40, 3) := by decide +kernel
theorem dX4_readItem_9 : decode cX4_readItem 9 = .ok (.astore_n 3, 1) := by decide +kernel
theorem dX4_readItem_10 : decode cX4_readItem 10 = .ok (.aload_n 3, 1) := by decide +kernel
theorem dX4_readItem_11 : decode cX4_readItem 11 = .ok (.arraylength, 1) := by decide +kernel
theorem dX4_readItem_12 : decode cX4_readItem 12 = .ok (.ifCond .eq 11, 3) := by decide +kernel
theorem dX4_readItem_15 : decode cX4_readItem 15 = .ok (.aload_n 1, 1) := by decide +kernel
theorem dX4_readItem_16 : decode cX4_readItem 16 = .ok (.iload_n 2, 1) := by decide +kernel
theorem dX4_readItem_17 : decode cX4_readItem 17 = .ok (.invokevirtual 44, 3) := by decide +kernel
theorem dX4_readItem_20 : decode cX4_readItem 20 = .ok (.ifCond .ne 5, 3) := by decide +kernel
theorem dX4_readItem_23 : decode cX4_readItem 23 = .ok (.iconst 0, 1) := by decide +kernel
theorem dX4_readItem_24 : decode cX4_readItem 24 = .ok (.ireturn, 1) := by decide +kernel
theorem dX4_readItem_25 : decode cX4_readItem 25 = .ok (.iconst 0, 1) := by decide +kernel
theorem dX4_readItem_26 : decode cX4_readItem 26 = .ok (.istore 4, 2) := by decide +kernel
theorem dX4_readItem_28 : decode cX4_readItem 28 = .ok (.iload 4, 2) := by decide +kernel
theorem dX4_readItem_30 : decode cX4_readItem 30 = .ok (.aload_n 3, 1) := by decide +kernel
theorem dX4_readItem_31 : decode cX4_readItem 31 = .ok (.arraylength, 1) := by decide +kernel
theorem dX4_readItem_32 : decode cX4_readItem 32 = .ok (.if_icmp .ge 61, 3) := by decide +kernel
theorem dX4_readItem_35 : decode cX4_readItem 35 = .ok (.iload 4, 2) := by decide +kernel
theorem dX4_readItem_37 : decode cX4_readItem 37 = .ok (.aload_n 0, 1) := by decide +kernel
theorem dX4_readItem_38 : decode cX4_readItem 38 = .ok (.getfield 15, 3) := by decide +kernel
theorem dX4_readItem_41 : decode cX4_readItem 41 = .ok (.arraylength, 1) := by decide +kernel
theorem dX4_readItem_42 : decode cX4_readItem 42 = .ok (.if_icmp .ge 51, 3) := by decide +kernel
theorem dX4_readItem_45 : decode cX4_readItem 45 = .ok (.aload_n 0, 1) := by decide +kernel
theorem dX4_readItem_46 : decode cX4_readItem 46 = .ok (.invokevirtual 27, 3) := by decide +kernel
theorem dX4_readItem_49 : decode cX4_readItem 49 = .ok (.aload_n 0, 1) := by decide +kernel
theorem dX4_readItem_50 : decode cX4_readItem 50 = .ok (.getfield 30, 3) := by decide +kernel
theorem dX4_readItem_53 : decode cX4_readItem 53 = .ok (.sipush 256, 3) := by decide +kernel
theorem dX4_readItem_56 : decode cX4_readItem 56 = .ok (.if_icmp .ne 18, 3) := by decide +kernel
theorem dX4_readItem_59 : decode cX4_readItem 59 = .ok (.aload_n 0, 1) := by decide +kernel
theorem dX4_readItem_60 : decode cX4_readItem 60 = .ok (.aload_n 3, 1) := by decide +kernel
theorem dX4_readItem_61 : decode cX4_readItem 61 = .ok (.iload 4, 2) := by decide +kernel
theorem dX4_readItem_63 : decode cX4_readItem 63 = .ok (.iaload, 1) := by decide +kernel
theorem dX4_readItem_64 : decode cX4_readItem 64 = .ok (.aload_n 1, 1) := by decide +kernel
theorem dX4_readItem_65 : decode cX4_readItem 65 = .ok (.getfield 48, 3) := by decide +kernel
theorem dX4_readItem_68 : decode cX4_readItem 68 = .ok (.invokevirtual 51, 3) := by decide +kernel
theorem dX4_readItem_71 : decode cX4_readItem 71 = .ok (.ifCond .ne 5, 3) := by decide +kernel
theorem dX4_readItem_74 : decode cX4_readItem 74 = .ok (.iconst 0, 1) := by decide +kernel
theorem dX4_readItem_75 : decode cX4_readItem 75 = .ok (.ireturn, 1) := by decide +kernel
theorem dX4_readItem_76 : decode cX4_readItem 76 = .ok (.aload_n 0, 1) := by decide +kernel
theorem dX4_readItem_77 : decode cX4_readItem 77 = .ok (.getfield 15, 3) := by decide +kernel
theorem dX4_readItem_80 : decode cX4_readItem 80 = .ok (.iload 4, 2) := by decide +kernel
theorem dX4_readItem_82 : decode cX4_readItem 82 = .ok (.aload_n 0, 1) := by decide +kernel
theorem dX4_readItem_83 : decode cX4_readItem 83 = .ok (.getfield 55, 3) := by decide +kernel
theorem dX4_readItem_86 : decode cX4_readItem 86 = .ok (.iastore, 1) := by decide +kernel
theorem dX4_readItem_87 : decode cX4_readItem 87 = .ok (.iinc 4 1, 3) := by decide +kernel
theorem dX4_readItem_90 : decode cX4_readItem 90 = .ok (.goto (-62), 3) := by decide +kernel
theorem dX4_readItem_93 : decode cX4_readItem 93 = .ok (.aload_n 0, 1) := by decide +kernel
theorem dX4_readItem_94 : decode cX4_readItem 94 = .ok (.invokevirtual 27, 3) := by decide +kernel
theorem dX4_readItem_97 : decode cX4_readItem 97 = .ok (.aload_n 0, 1) := by decide +kernel
theorem dX4_readItem_98 : decode cX4_readItem 98 = .ok (.getfield 30, 3) := by decide +kernel
theorem dX4_readItem_101 : decode cX4_readItem 101 = .ok (.bipush 59, 2) := by decide +kernel
theorem dX4_readItem_103 : decode cX4_readItem 103 = .ok (.if_icmp .eq 5, 3) := by decide +kernel
theorem dX4_readItem_106 : decode cX4_readItem 106 = .ok (.iconst 0, 1) := by decide +kernel
theorem dX4_readItem_107 : decode cX4_readItem 107 = .ok (.ireturn, 1) := by decide +kernel
theorem dX4_readItem_108 : decode cX4_readItem 108 = .ok (.aload_n 1, 1) := by decide +kernel
theorem dX4_readItem_109 : decode cX4_readItem 109 = .ok (.iload_n 2, 1) := by decide +kernel
theorem dX4_readItem_110 : decode cX4_readItem 110 = .ok (.aload_n 0, 1) := by decide +kernel
theorem dX4_readItem_111 : decode cX4_readItem 111 = .ok (.getfield 15, 3) := by decide +kernel
theorem dX4_readItem_114 : decode cX4_readItem 114 = .ok (.invokevirtual 58, 3) := by decide +kernel
theorem dX4_readItem_117 : decode cX4_readItem 117 = .ok (.iconst 1, 1) := by decide +kernel
theorem dX4_readItem_118 : decode cX4_readItem 118 = .ok (.ireturn, 1) := by decide +kernel
theorem dX4_formOf_0 : decode cX4_formOf 0 = .ok (.iload_n 0, 1) := by decide +kernel
theorem dX4_formOf_1 : decode cX4_formOf 1 = .ok (.tableswitch 143 97 121 #[119, 143, 143, 143, 143, 143, 143, 131, 143, 143, 115, 143, 143, 123, 143, 143, 143, 143, 127, 139, 143, 143, 143, 143, 135], 115) := by decide +kernel
theorem dX4_formOf_116 : decode cX4_formOf 116 = .ok (.getstatic 62, 3) := by decide +kernel
theorem dX4_formOf_119 : decode cX4_formOf 119 = .ok (.areturn, 1) := by decide +kernel
theorem dX4_formOf_120 : decode cX4_formOf 120 = .ok (.getstatic 65, 3) := by decide +kernel
theorem dX4_formOf_123 : decode cX4_formOf 123 = .ok (.areturn, 1) := by decide +kernel
theorem dX4_formOf_124 : decode cX4_formOf 124 = .ok (.getstatic 65, 3) := by decide +kernel
theorem dX4_formOf_127 : decode cX4_formOf 127 = .ok (.areturn, 1) := by decide +kernel
theorem dX4_formOf_128 : decode cX4_formOf 128 = .ok (.getstatic 65, 3) := by decide +kernel
theorem dX4_formOf_131 : decode cX4_formOf 131 = .ok (.areturn, 1) := by decide +kernel
theorem dX4_formOf_132 : decode cX4_formOf 132 = .ok (.getstatic 68, 3) := by decide +kernel
theorem dX4_formOf_135 : decode cX4_formOf 135 = .ok (.areturn, 1) := by decide +kernel
theorem dX4_formOf_136 : decode cX4_formOf 136 = .ok (.getstatic 71, 3) := by decide +kernel
theorem dX4_formOf_139 : decode cX4_formOf 139 = .ok (.areturn, 1) := by decide +kernel
theorem dX4_formOf_140 : decode cX4_formOf 140 = .ok (.getstatic 74, 3) := by decide +kernel
theorem dX4_formOf_143 : decode cX4_formOf 143 = .ok (.areturn, 1) := by decide +kernel
theorem dX4_formOf_144 : decode cX4_formOf 144 = .ok (.getstatic 77, 3) := by decide +kernel
theorem dX4_formOf_147 : decode cX4_formOf 147 = .ok (.areturn, 1) := by decide +kernel
theorem dX4_mayBe_0 : decode cX4_mayBe 0 = .ok (.iload_n 1, 1) := by decide +kernel
theorem dX4_mayBe_1 : decode cX4_mayBe 1 = .ok (.tableswitch 91 5 7 #[27, 50, 64], 27) := by decide +kernel
theorem dX4_mayBe_28 : decode cX4_mayBe 28 = .ok (.aload_n 0, 1) := by decide +kernel
theorem dX4_mayBe_29 : decode cX4_mayBe 29 = .ok (.getfield 55, 3) := by decide +kernel
theorem dX4_mayBe_32 : decode cX4_mayBe 32 = .ok (.iload_n 2, 1) := by decide +kernel
theorem dX4_mayBe_33 : decode cX4_mayBe 33 = .ok (.if_icmp .lt 12, 3) := by decide +kernel
theorem dX4_mayBe_36 : decode cX4_mayBe 36 = .ok (.aload_n 0, 1) := by decide +kernel
theorem dX4_mayBe_37 : decode cX4_mayBe 37 = .ok (.getfield 55, 3) := by decide +kernel
theorem dX4_mayBe_40 : decode cX4_mayBe 40 = .ok (.bipush 9, 2) := by decide +kernel
theorem dX4_mayBe_42 : decode cX4_mayBe 42 = .ok (.if_icmp .ne 7, 3) := by decide +kernel
theorem dX4_mayBe_45 : decode cX4_mayBe 45 = .ok (.iconst 1, 1) := by decide +kernel
theorem dX4_mayBe_46 : decode cX4_mayBe 46 = .ok (.goto 4, 3) := by decide +kernel
theorem dX4_mayBe_49 : decode cX4_mayBe 49 = .ok (.iconst 0, 1) := by decide +kernel
theorem dX4_mayBe_50 : decode cX4_mayBe 50 = .ok (.ireturn, 1) := by decide +kernel
theorem dX4_mayBe_51 : decode cX4_mayBe 51 = .ok (.aload_n 0, 1) := by decide +kernel
theorem dX4_mayBe_52 : decode cX4_mayBe 52 = .ok (.getfield 55, 3) := by decide +kernel
theorem dX4_mayBe_55 : decode cX4_mayBe 55 = .ok (.iload_n 2, 1) := by decide +kernel
theorem dX4_mayBe_56 : decode cX4_mayBe 56 = .ok (.if_icmp .ge 7, 3) := by decide +kernel
theorem dX4_mayBe_59 : decode cX4_mayBe 59 = .ok (.iconst 1, 1) := by decide +kernel
theorem dX4_mayBe_60 : decode cX4_mayBe 60 = .ok (.goto 4, 3) := by decide +kernel
theorem dX4_mayBe_63 : decode cX4_mayBe 63 = .ok (.iconst 0, 1) := by decide +kernel
theorem dX4_mayBe_64 : decode cX4_mayBe 64 = .ok (.ireturn, 1) := by decide +kernel
theorem dX4_mayBe_65 : decode cX4_mayBe 65 = .ok (.aload_n 0, 1) := by decide +kernel
theorem dX4_mayBe_66 : decode cX4_mayBe 66 = .ok (.getfield 55, 3) := by decide +kernel
theorem dX4_mayBe_69 : decode cX4_mayBe 69 = .ok (.iload_n 2, 1) := by decide +kernel
theorem dX4_mayBe_70 : decode cX4_mayBe 70 = .ok (.if_icmp .ge 20, 3) := by decide +kernel
theorem dX4_mayBe_73 : decode cX4_mayBe 73 = .ok (.aload_n 0, 1) := by decide +kernel
theorem dX4_mayBe_74 : decode cX4_mayBe 74 = .ok (.getfield 55, 3) := by decide +kernel
theorem dX4_mayBe_77 : decode cX4_mayBe 77 = .ok (.aload_n 0, 1) := by decide +kernel
theorem dX4_mayBe_78 : decode cX4_mayBe 78 = .ok (.getfield 15, 3) := by decide +kernel
theorem dX4_mayBe_81 : decode cX4_mayBe 81 = .ok (.iconst 0, 1) := by decide +kernel
theorem dX4_mayBe_82 : decode cX4_mayBe 82 = .ok (.iaload, 1) := by decide +kernel
theorem dX4_mayBe_83 : decode cX4_mayBe 83 = .ok (.if_icmp .eq 7, 3) := by decide +kernel
theorem dX4_mayBe_86 : decode cX4_mayBe 86 = .ok (.iconst 1, 1) := by decide +kernel
theorem dX4_mayBe_87 : decode cX4_mayBe 87 = .ok (.goto 4, 3) := by decide +kernel
theorem dX4_mayBe_90 : decode cX4_mayBe 90 = .ok (.iconst 0, 1) := by decide +kernel
theorem dX4_mayBe_91 : decode cX4_mayBe 91 = .ok (.ireturn, 1) := by decide +kernel
theorem dX4_mayBe_92 : decode cX4_mayBe 92 = .ok (.aload_n 0, 1) := by decide +kernel
theorem dX4_mayBe_93 : decode cX4_mayBe 93 = .ok (.getfield 55, 3) := by decide +kernel
theorem dX4_mayBe_96 : decode cX4_mayBe 96 = .ok (.getstatic 80, 3) := by decide +kernel
theorem dX4_mayBe_99 : decode cX4_mayBe 99 = .ok (.iload_n 1, 1) := by decide +kernel
theorem dX4_mayBe_100 : decode cX4_mayBe 100 = .ok (.iaload, 1) := by decide +kernel
theorem dX4_mayBe_101 : decode cX4_mayBe 101 = .ok (.getstatic 83, 3) := by decide +kernel
theorem dX4_mayBe_104 : decode cX4_mayBe 104 = .ok (.iload_n 1, 1) := by decide +kernel
theorem dX4_mayBe_105 : decode cX4_mayBe 105 = .ok (.iaload, 1) := by decide +kernel
theorem dX4_mayBe_106 : decode cX4_mayBe 106 = .ok (.invokestatic 86, 3) := by decide +kernel
theorem dX4_mayBe_109 : decode cX4_mayBe 109 = .ok (.ireturn, 1) := by decide +kernel
theorem dX4_readToken_0 : decode cX4_readToken 0 = .ok (.aload_n 0, 1) := by decide +kernel
theorem dX4_readToken_1 : decode cX4_readToken 1 = .ok (.getfield 23, 3) := by decide +kernel
theorem dX4_readToken_4 : decode cX4_readToken 4 = .ok (.aload_n 0, 1) := by decide +kernel
theorem dX4_readToken_5 : decode cX4_readToken 5 = .ok (.getfield 90, 3) := by decide +kernel
theorem dX4_readToken_8 : decode cX4_readToken 8 = .ok (.if_icmp .ge 30, 3) := by decide +kernel
theorem dX4_readToken_11 : decode cX4_readToken 11 = .ok (.aload_n 0, 1) := by decide +kernel
theorem dX4_readToken_12 : decode cX4_readToken 12 = .ok (.getfield 9, 3) := by decide +kernel
theorem dX4_readToken_15 : decode cX4_readToken 15 = .ok (.aload_n 0, 1) := by decide +kernel
theorem dX4_readToken_16 : decode cX4_readToken 16 = .ok (.getfield 23, 3) := by decide +kernel
theorem dX4_readToken_19 : decode cX4_readToken 19 = .ok (.iaload, 1) := by decide +kernel
theorem dX4_readToken_20 : decode cX4_readToken 20 = .ok (.bipush 32, 2) := by decide +kernel
theorem dX4_readToken_22 : decode cX4_readToken 22 = .ok (.if_icmp .ne 16, 3) := by decide +kernel
theorem dX4_readToken_25 : decode cX4_readToken 25 = .ok (.aload_n 0, 1) := by decide +kernel
theorem dX4_readToken_26 : decode cX4_readToken 26 = .ok (.dup, 1) := by decide +kernel
theorem dX4_readToken_27 : decode cX4_readToken 27 = .ok (.getfield 23, 3) := by decide +kernel
theorem dX4_readToken_30 : decode cX4_readToken 30 = .ok (.iconst 1, 1) := by decide +kernel
theorem dX4_readToken_31 : decode cX4_readToken 31 = .ok (.iadd, 1) := by decide +kernel
theorem dX4_readToken_32 : decode cX4_readToken 32 = .ok (.putfield 23, 3) := by decide +kernel
theorem dX4_readToken_35 : decode cX4_readToken 35 = .ok (.goto (-35), 3) := by decide +kernel
theorem dX4_readToken_38 : decode cX4_readToken 38 = .ok (.aload_n 0, 1) := by decide +kernel
theorem dX4_readToken_39 : decode cX4_readToken 39 = .ok (.aload_n 0, 1) := by decide +kernel
theorem dX4_readToken_40 : decode cX4_readToken 40 = .ok (.getfield 23, 3) := by decide +kernel
theorem dX4_readToken_43 : decode cX4_readToken 43 = .ok (.putfield 37, 3) := by decide +kernel
theorem dX4_readToken_46 : decode cX4_readToken 46 = .ok (.aload_n 0, 1) := by decide +kernel
theorem dX4_readToken_47 : decode cX4_readToken 47 = .ok (.getfield 23, 3) := by decide +kernel
theorem dX4_readToken_50 : decode cX4_readToken 50 = .ok (.aload_n 0, 1) := by decide +kernel
theorem dX4_readToken_51 : decode cX4_readToken 51 = .ok (.getfield 90, 3) := by decide +kernel
theorem dX4_readToken_54 : decode cX4_readToken 54 = .ok (.if_icmp .lt 13, 3) := by decide +kernel
theorem dX4_readToken_57 : decode cX4_readToken 57 = .ok (.aload_n 0, 1) := by decide +kernel
theorem dX4_readToken_58 : decode cX4_readToken 58 = .ok (.sipush 257, 3) := by decide +kernel
theorem dX4_readToken_61 : decode cX4_readToken 61 = .ok (.putfield 30, 3) := by decide +kernel
theorem dX4_readToken_64 : decode cX4_readToken 64 = .ok (.goto 48, 3) := by decide +kernel
theorem dX4_readToken_67 : decode cX4_readToken 67 = .ok (.aload_n 0, 1) := by decide +kernel
theorem dX4_readToken_68 : decode cX4_readToken 68 = .ok (.getfield 9, 3) := by decide +kernel
theorem dX4_readToken_71 : decode cX4_readToken 71 = .ok (.aload_n 0, 1) := by decide +kernel
theorem dX4_readToken_72 : decode cX4_readToken 72 = .ok (.getfield 23, 3) := by decide +kernel
theorem dX4_readToken_75 : decode cX4_readToken 75 = .ok (.iaload, 1) := by decide +kernel
theorem dX4_readToken_76 : decode cX4_readToken 76 = .ok (.invokestatic 93, 3) := by decide +kernel
theorem dX4_readToken_79 : decode cX4_readToken 79 = .ok (.ifCond .eq 10, 3) := by decide +kernel
theorem dX4_readToken_82 : decode cX4_readToken 82 = .ok (.aload_n 0, 1) := by decide +kernel
theorem dX4_readToken_83 : decode cX4_readToken 83 = .ok (.invokevirtual 96, 3) := by decide +kernel
theorem dX4_readToken_86 : decode cX4_readToken 86 = .ok (.goto 26, 3) := by decide +kernel
theorem dX4_readToken_89 : decode cX4_readToken 89 = .ok (.aload_n 0, 1) := by decide +kernel
theorem dX4_readToken_90 : decode cX4_readToken 90 = .ok (.aload_n 0, 1) := by decide +kernel
theorem dX4_readToken_91 : decode cX4_readToken 91 = .ok (.getfield 9, 3) := by decide +kernel
theorem dX4_readToken_94 : decode cX4_readToken 94 = .ok (.aload_n 0, 1) := by decide +kernel
theorem dX4_readToken_95 : decode cX4_readToken 95 = .ok (.getfield 23, 3) := by decide +kernel
theorem dX4_readToken_98 : decode cX4_readToken 98 = .ok (.iaload, 1) := by decide +kernel
theorem dX4_readToken_99 : decode cX4_readToken 99 = .ok (.putfield 30, 3) := by decide +kernel
theorem dX4_readToken_102 : decode cX4_readToken 102 = .ok (.aload_n 0, 1) := by decide +kernel
theorem dX4_readToken_103 : decode cX4_readToken 103 = .ok (.dup, 1) := by decide +kernel
theorem dX4_readToken_104 : decode cX4_readToken 104 = .ok (.getfield 23, 3) := by decide +kernel
theorem dX4_readToken_107 : decode cX4_readToken 107 = .ok (.iconst 1, 1) := by decide +kernel
theorem dX4_readToken_108 : decode cX4_readToken 108 = .ok (.iadd, 1) := by decide +kernel
theorem dX4_readToken_109 : decode cX4_readToken 109 = .ok (.putfield 23, 3) := by decide +kernel
theorem dX4_readToken_112 : decode cX4_readToken 112 = .ok (.return_, 1) := by decide +kernel
theorem dX4_readNumber_0 : decode cX4_readNumber 0 = .ok (.aload_n 0, 1) := by decide +kernel
theorem dX4_readNumber_1 : decode cX4_readNumber 1 = .ok (.iconst 0, 1) := by decide +kernel
theorem dX4_readNumber_2 : decode cX4_readNumber 2 = .ok (.putfield 55, 3) := by decide +kernel
theorem dX4_readNumber_5 : decode cX4_readNumber 5 = .ok (.aload_n 0, 1) := by decide +kernel
theorem dX4_readNumber_6 : decode cX4_readNumber 6 = .ok (.getfield 23, 3) := by decide +kernel
theorem dX4_readNumber_9 : decode cX4_readNumber 9 = .ok (.aload_n 0, 1) := by decide +kernel
theorem dX4_readNumber_10 : decode cX4_readNumber 10 = .ok (.getfield 90, 3) := by decide +kernel
theorem dX4_readNumber_13 : decode cX4_readNumber 13 = .ok (.if_icmp .ge 60, 3) := by decide +kernel
theorem dX4_readNumber_16 : decode cX4_readNumber 16 = .ok (.aload_n 0, 1) := by decide +kernel
theorem dX4_readNumber_17 : decode cX4_readNumber 17 = .ok (.getfield 9, 3) := by decide +kernel
theorem dX4_readNumber_20 : decode cX4_readNumber 20 = .ok (.aload_n 0, 1) := by decide +kernel
theorem dX4_readNumber_21 : decode cX4_readNumber 21 = .ok (.getfield 23, 3) := by decide +kernel
theorem dX4_readNumber_24 : decode cX4_readNumber 24 = .ok (.iaload, 1) := by decide +kernel
theorem dX4_readNumber_25 : decode cX4_readNumber 25 = .ok (.invokestatic 93, 3) := by decide +kernel
theorem dX4_readNumber_28 : decode cX4_readNumber 28 = .ok (.ifCond .eq 45, 3) := by decide +kernel
theorem dX4_readNumber_31 : decode cX4_readNumber 31 = .ok (.aload_n 0, 1) := by decide +kernel
theorem dX4_readNumber_32 : decode cX4_readNumber 32 = .ok (.bipush 100, 2) := by decide +kernel
theorem dX4_readNumber_34 : decode cX4_readNumber 34 = .ok (.aload_n 0, 1) := by decide +kernel
theorem dX4_readNumber_35 : decode cX4_readNumber 35 = .ok (.getfield 55, 3) := by decide +kernel
theorem dX4_readNumber_38 : decode cX4_readNumber 38 = .ok (.bipush 10, 2) := by decide +kernel
theorem dX4_readNumber_40 : decode cX4_readNumber 40 = .ok (.imul, 1) := by decide +kernel
theorem dX4_readNumber_41 : decode cX4_readNumber 41 = .ok (.aload_n 0, 1) := by decide +kernel
theorem dX4_readNumber_42 : decode cX4_readNumber 42 = .ok (.getfield 9, 3) := by decide +kernel
theorem dX4_readNumber_45 : decode cX4_readNumber 45 = .ok (.aload_n 0, 1) := by decide +kernel
theorem dX4_readNumber_46 : decode cX4_readNumber 46 = .ok (.getfield 23, 3) := by decide +kernel
theorem dX4_readNumber_49 : decode cX4_readNumber 49 = .ok (.iaload, 1) := by decide +kernel
theorem dX4_readNumber_50 : decode cX4_readNumber 50 = .ok (.iadd, 1) := by decide +kernel
theorem dX4_readNumber_51 : decode cX4_readNumber 51 = .ok (.bipush 48, 2) := by decide +kernel
theorem dX4_readNumber_53 : decode cX4_readNumber 53 = .ok (.isub, 1) := by decide +kernel
theorem dX4_readNumber_54 : decode cX4_readNumber 54 = .ok (.invokestatic 99, 3) := by decide +kernel
theorem dX4_readNumber_57 : decode cX4_readNumber 57 = .ok (.putfield 55, 3) := by decide +kernel
theorem dX4_readNumber_60 : decode cX4_readNumber 60 = .ok (.aload_n 0, 1) := by decide +kernel
theorem dX4_readNumber_61 : decode cX4_readNumber 61 = .ok (.dup, 1) := by decide +kernel
theorem dX4_readNumber_62 : decode cX4_readNumber 62 = .ok (.getfield 23, 3) := by decide +kernel
theorem dX4_readNumber_65 : decode cX4_readNumber 65 = .ok (.iconst 1, 1) := by decide +kernel
theorem dX4_readNumber_66 : decode cX4_readNumber 66 = .ok (.iadd, 1) := by decide +kernel
theorem dX4_readNumber_67 : decode cX4_readNumber 67 = .ok (.putfield 23, 3) := by decide +kernel
theorem dX4_readNumber_70 : decode cX4_readNumber 70 = .ok (.goto (-65), 3) := by decide +kernel
theorem dX4_readNumber_73 : decode cX4_readNumber 73 = .ok (.aload_n 0, 1) := by decide +kernel
theorem dX4_readNumber_74 : decode cX4_readNumber 74 = .ok (.getfield 23, 3) := by decide +kernel
theorem dX4_readNumber_77 : decode cX4_readNumber 77 = .ok (.aload_n 0, 1) := by decide +kernel
theorem dX4_readNumber_78 : decode cX4_readNumber 78 = .ok (.getfield 37, 3) := by decide +kernel
theorem dX4_readNumber_81 : decode cX4_readNumber 81 = .ok (.isub, 1) := by decide +kernel
theorem dX4_readNumber_82 : decode cX4_readNumber 82 = .ok (.istore_n 1, 1) := by decide +kernel
theorem dX4_readNumber_83 : decode cX4_readNumber 83 = .ok (.iload_n 1, 1) := by decide +kernel
theorem dX4_readNumber_84 : decode cX4_readNumber 84 = .ok (.iconst 1, 1) := by decide +kernel
theorem dX4_readNumber_85 : decode cX4_readNumber 85 = .ok (.if_icmp .le 21, 3) := by decide +kernel
theorem dX4_readNumber_88 : decode cX4_readNumber 88 = .ok (.aload_n 0, 1) := by decide +kernel
theorem dX4_readNumber_89 : decode cX4_readNumber 89 = .ok (.getfield 9, 3) := by decide +kernel
theorem dX4_readNumber_92 : decode cX4_readNumber 92 = .ok (.aload_n 0, 1) := by decide +kernel
theorem dX4_readNumber_93 : decode cX4_readNumber 93 = .ok (.getfield 37, 3) := by decide +kernel
theorem dX4_readNumber_96 : decode cX4_readNumber 96 = .ok (.iaload, 1) := by decide +kernel
theorem dX4_readNumber_97 : decode cX4_readNumber 97 = .ok (.bipush 48, 2) := by decide +kernel
theorem dX4_readNumber_99 : decode cX4_readNumber 99 = .ok (.if_icmp .ne 7, 3) := by decide +kernel
theorem dX4_readNumber_102 : decode cX4_readNumber 102 = .ok (.iconst 1, 1) := by decide +kernel
theorem dX4_readNumber_103 : decode cX4_readNumber 103 = .ok (.goto 4, 3) := by decide +kernel
theorem dX4_readNumber_106 : decode cX4_readNumber 106 = .ok (.iconst 0, 1) := by decide +kernel
theorem dX4_readNumber_107 : decode cX4_readNumber 107 = .ok (.istore_n 2, 1) := by decide +kernel
theorem dX4_readNumber_108 : decode cX4_readNumber 108 = .ok (.aload_n 0, 1) := by decide +kernel
theorem dX4_readNumber_109 : decode cX4_readNumber 109 = .ok (.aload_n 0, 1) := by decide +kernel
theorem dX4_readNumber_110 : decode cX4_readNumber 110 = .ok (.getfield 55, 3) := by decide +kernel
theorem dX4_readNumber_113 : decode cX4_readNumber 113 = .ok (.bipush 99, 2) := by decide +kernel
theorem dX4_readNumber_115 : decode cX4_readNumber 115 = .ok (.if_icmp .gt 7, 3) := by decide +kernel
theorem dX4_readNumber_118 : decode cX4_readNumber 118 = .ok (.iload_n 2, 1) := by decide +kernel
theorem dX4_readNumber_119 : decode cX4_readNumber 119 = .ok (.ifCond .eq 9, 3) := by decide +kernel
theorem dX4_readNumber_122 : decode cX4_readNumber 122 = .ok (.sipush 258, 3) := by decide +kernel
theorem dX4_readNumber_125 : decode cX4_readNumber 125 = .ok (.goto 6, 3) := by decide +kernel
theorem dX4_readNumber_128 : decode cX4_readNumber 128 = .ok (.sipush 256, 3) := by decide +kernel
theorem dX4_readNumber_131 : decode cX4_readNumber 131 = .ok (.putfield 30, 3) := by decide +kernel
theorem dX4_readNumber_134 : decode cX4_readNumber 134 = .ok (.return_, 1) := by decide +kernel
theorem dX4_isDigit_0 : decode cX4_isDigit 0 = .ok (.iload_n 0, 1) := by decide +kernel
theorem dX4_isDigit_1 : decode cX4_isDigit 1 = .ok (.bipush 48, 2) := by decide +kernel
theorem dX4_isDigit_3 : decode cX4_isDigit 3 = .ok (.bipush 57, 2) := by decide +kernel
theorem dX4_isDigit_5 : decode cX4_isDigit 5 = .ok (.invokestatic 86, 3) := by decide +kernel
theorem dX4_isDigit_8 : decode cX4_isDigit 8 = .ok (.ireturn, 1) := by decide +kernel
theorem dX5_init_0 : decode cX5_init 0 = .ok (.aload_n 0, 1) := by decide +kernel
theorem dX5_init_1 : decode cX5_init 1 = .ok (.invokespecial 1, 3) := by decide +kernel
theorem dX5_init_4 : decode cX5_init 4 = .ok (.aload_n 0, 1) := by decide +kernel
theorem dX5_init_5 : decode cX5_init 5 = .ok (.new 7, 3) := by decide +kernel
theorem dX5_init_8 : decode cX5_init 8 = .ok (.dup, 1) := by decide +kernel
theorem dX5_init_9 : decode cX5_init 9 = .ok (.invokespecial 9, 3) := by decide +kernel
theorem dX5_init_12 : decode cX5_init 12 = .ok (.putfield 10, 3) := by decide +kernel
theorem dX5_init_15 : decode cX5_init 15 = .ok (.aload_n 0, 1) := by decide +kernel
theorem dX5_init_16 : decode cX5_init 16 = .ok (.new 16, 3) := by decide +kernel
theorem dX5_init_19 : decode cX5_init 19 = .ok (.dup, 1) := by decide +kernel
theorem dX5_init_20 : decode cX5_init 20 = .ok (.invokespecial 18, 3) := by decide +kernel
theorem dX5_init_23 : decode cX5_init 23 = .ok (.putfield 19, 3) := by decide +kernel
theorem dX5_init_26 : decode cX5_init 26 = .ok (.aload_n 0, 1) := by decide +kernel
theorem dX5_init_27 : decode cX5_init 27 = .ok (.new 23, 3) := by decide +kernel
theorem dX5_init_30 : decode cX5_init 30 = .ok (.dup, 1) := by decide +kernel
theorem dX5_init_31 : decode cX5_init 31 = .ok (.invokespecial 25, 3) := by decide +kernel
theorem dX5_init_34 : decode cX5_init 34 = .ok (.putfield 26, 3) := by decide +kernel
theorem dX5_init_37 : decode cX5_init 37 = .ok (.aload_n 0, 1) := by decide +kernel
theorem dX5_init_38 : decode cX5_init 38 = .ok (.iconst 2, 1) := by decide +kernel
theorem dX5_init_39 : decode cX5_init 39 = .ok (.anewarray 16, 3) := by decide +kernel
theorem dX5_init_42 : decode cX5_init 42 = .ok (.putfield 30, 3) := by decide +kernel
theorem dX5_init_45 : decode cX5_init 45 = .ok (.iconst 0, 1) := by decide +kernel
theorem dX5_init_46 : decode cX5_init 46 = .ok (.istore_n 1, 1) := by decide +kernel
theorem dX5_init_47 : decode cX5_init 47 = .ok (.iload_n 1, 1) := by decide +kernel
theorem dX5_init_48 : decode cX5_init 48 = .ok (.iconst 2, 1) := by decide +kernel
theorem dX5_init_49 : decode cX5_init 49 = .ok (.if_icmp .ge 22, 3) := by decide +kernel
theorem dX5_init_52 : decode cX5_init 52 = .ok (.aload_n 0, 1) := by decide +kernel
theorem dX5_init_53 : decode cX5_init 53 = .ok (.getfield 30, 3) := by decide +kernel
theorem dX5_init_56 : decode cX5_init 56 = .ok (.iload_n 1, 1) := by decide +kernel
theorem dX5_init_57 : decode cX5_init 57 = .ok (.new 16, 3) := by decide +kernel
theorem dX5_init_60 : decode cX5_init 60 = .ok (.dup, 1) := by decide +kernel
theorem dX5_init_61 : decode cX5_init 61 = .ok (.invokespecial 18, 3) := by decide +kernel
theorem dX5_init_64 : decode cX5_init 64 = .ok (.aastore, 1) := by decide +kernel
theorem dX5_init_65 : decode cX5_init 65 = .ok (.iinc 1 1, 3) := by decide +kernel
theorem dX5_init_68 : decode cX5_init 68 = .ok (.goto (-21), 3) := by decide +kernel
theorem dX5_init_71 : decode cX5_init 71 = .ok (.aload_n 0, 1) := by decide +kernel
theorem dX5_init_72 : decode cX5_init 72 = .ok (.iconst 2, 1) := by decide +kernel
theorem dX5_init_73 : decode cX5_init 73 = .ok (.newarray .boolean, 2) := by decide +kernel
theorem dX5_init_75 : decode cX5_init 75 = .ok (.putfield 34, 3) := by decide +kernel
theorem dX5_init_78 : decode cX5_init 78 = .ok (.aload_n 0, 1) := by decide +kernel
theorem dX5_init_79 : decode cX5_init 79 = .ok (.new 38, 3) := by decide +kernel
theorem dX5_init_82 : decode cX5_init 82 = .ok (.dup, 1) := by decide +kernel
theorem dX5_init_83 : decode cX5_init 83 = .ok (.invokespecial 40, 3) := by decide +kernel
theorem dX5_init_86 : decode cX5_init 86 = .ok (.putfield 41, 3) := by decide +kernel
theorem dX5_init_89 : decode cX5_init 89 = .ok (.aload_n 0, 1) := by decide +kernel
theorem dX5_init_90 : decode cX5_init 90 = .ok (.bipush 6, 2) := by decide +kernel
theorem dX5_init_92 : decode cX5_init 92 = .ok (.newarray .int, 2) := by decide +kernel
theorem dX5_init_94 : decode cX5_init 94 = .ok (.putfield 45, 3) := by decide +kernel
theorem dX5_init_97 : decode cX5_init 97 = .ok (.aload_n 0, 1) := by decide +kernel
theorem dX5_init_98 : decode cX5_init 98 = .ok (.bipush 6, 2) := by decide +kernel
theorem dX5_init_100 : decode cX5_init 100 = .ok (.newarray .int, 2) := by decide +kernel
theorem dX5_init_102 : decode cX5_init 102 = .ok (.putfield 49, 3) := by decide +kernel
theorem dX5_init_105 : decode cX5_init 105 = .ok (.aload_n 0, 1) := by decide +kernel
theorem dX5_init_106 : decode cX5_init 106 = .ok (.bipush 6, 2) := by decide +kernel
theorem dX5_init_108 : decode cX5_init 108 = .ok (.newarray .int, 2) := by decide +kernel
theorem dX5_init_110 : decode cX5_init 110 = .ok (.putfield 52, 3) := by decide +kernel
theorem dX5_init_113 : decode cX5_init 113 = .ok (.aload_n 0, 1) := by decide +kernel
theorem dX5_init_114 : decode cX5_init 114 = .ok (.new 55, 3) := by decide +kernel
theorem dX5_init_117 : decode cX5_init 117 = .ok (.dup, 1) := by decide +kernel
theorem dX5_init_118 : decode cX5_init 118 = .ok (.invokespecial 57, 3) := by decide +kernel
theorem dX5_init_121 : decode cX5_init 121 = .ok (.putfield 58, 3) := by decide +kernel
theorem dX5_init_124 : decode cX5_init 124 = .ok (.aload_n 0, 1) := by decide +kernel
theorem dX5_init_125 : decode cX5_init 125 = .ok (.new 55, 3) := by decide +kernel
theorem dX5_init_128 : decode cX5_init 128 = .ok (.dup, 1) := by decide +kernel
theorem dX5_init_129 : decode cX5_init 129 = .ok (.invokespecial 57, 3) := by decide +kernel
theorem dX5_init_132 : decode cX5_init 132 = .ok (.putfield 62, 3) := by decide +kernel
theorem dX5_init_135 : decode cX5_init 135 = .ok (.aload_n 0, 1) := by decide +kernel
theorem dX5_init_136 : decode cX5_init 136 = .ok (.getfield 58, 3) := by decide +kernel
theorem dX5_init_139 : decode cX5_init 139 = .ok (.invokevirtual 65, 3) := by decide +kernel
theorem dX5_init_142 : decode cX5_init 142 = .ok (.aload_n 0, 1) := by decide +kernel
theorem dX5_init_143 : decode cX5_init 143 = .ok (.getfield 58, 3) := by decide +kernel
theorem dX5_init_146 : decode cX5_init 146 = .ok (.invokevirtual 68, 3) := by decide +kernel
theorem dX5_init_149 : decode cX5_init 149 = .ok (.return_, 1) := by decide +kernel
theorem dX5_type_0 : decode cX5_type 0 = .ok (.iload_n 1, 1) := by decide +kernel
theorem dX5_type_1 : decode cX5_type 1 = .ok (.iconst 0, 1) := by decide +kernel
theorem dX5_type_2 : decode cX5_type 2 = .ok (.sipush 255, 3) := by decide +kernel
theorem dX5_type_5 : decode cX5_type 5 = .ok (.invokestatic 71, 3) := by decide +kernel
theorem dX5_type_8 : decode cX5_type 8 = .ok (.ifCond .ne 5, 3) := by decide +kernel
theorem dX5_type_11 : decode cX5_type 11 = .ok (.iconst (-1), 1) := by decide +kernel
theorem dX5_type_12 : decode cX5_type 12 = .ok (.ireturn, 1) := by decide +kernel
theorem dX5_type_13 : decode cX5_type 13 = .ok (.aload_n 0, 1) := by decide +kernel
theorem dX5_type_14 : decode cX5_type 14 = .ok (.getfield 10, 3) := by decide +kernel
theorem dX5_type_17 : decode cX5_type 17 = .ok (.getfield 75, 3) := by decide +kernel
theorem dX5_type_20 : decode cX5_type 20 = .ok (.sipush 200, 3) := by decide +kernel
theorem dX5_type_23 : decode cX5_type 23 = .ok (.if_icmp .lt 6, 3) := by decide +kernel
theorem dX5_type_26 : decode cX5_type 26 = .ok (.bipush (-3), 2) := by decide +kernel
theorem dX5_type_28 : decode cX5_type 28 = .ok (.ireturn, 1) := by decide +kernel
theorem dX5_type_29 : decode cX5_type 29 = .ok (.aload_n 0, 1) := by decide +kernel
theorem dX5_type_30 : decode cX5_type 30 = .ok (.getfield 10, 3) := by decide +kernel
theorem dX5_type_33 : decode cX5_type 33 = .ok (.getfield 79, 3) := by decide +kernel
theorem dX5_type_36 : decode cX5_type 36 = .ok (.aload_n 0, 1) := by decide +kernel
theorem dX5_type_37 : decode cX5_type 37 = .ok (.getfield 10, 3) := by decide +kernel
theorem dX5_type_40 : decode cX5_type 40 = .ok (.getfield 75, 3) := by decide +kernel
theorem dX5_type_43 : decode cX5_type 43 = .ok (.iload_n 1, 1) := by decide +kernel
theorem dX5_type_44 : decode cX5_type 44 = .ok (.iastore, 1) := by decide +kernel
theorem dX5_type_45 : decode cX5_type 45 = .ok (.aload_n 0, 1) := by decide +kernel
theorem dX5_type_46 : decode cX5_type 46 = .ok (.getfield 10, 3) := by decide +kernel
theorem dX5_type_49 : decode cX5_type 49 = .ok (.dup, 1) := by decide +kernel
theorem dX5_type_50 : decode cX5_type 50 = .ok (.getfield 75, 3) := by decide +kernel
theorem dX5_type_53 : decode cX5_type 53 = .ok (.iconst 1, 1) := by decide +kernel
theorem dX5_type_54 : decode cX5_type 54 = .ok (.iadd, 1) := by decide +kernel
theorem dX5_type_55 : decode cX5_type 55 = .ok (.putfield 75, 3) := by decide +kernel
theorem dX5_type_58 : decode cX5_type 58 = .ok (.aload_n 0, 1) := by decide +kernel
theorem dX5_type_59 : decode cX5_type 59 = .ok (.getfield 10, 3) := by decide +kernel
theorem dX5_type_62 : decode cX5_type 62 = .ok (.getfield 75, 3) := by decide +kernel
theorem dX5_type_65 : decode cX5_type 65 = .ok (.ireturn, 1) := by decide +kernel
theorem dX5_clear_0 : decode cX5_clear 0 = .ok (.aload_n 0, 1) := by decide +kernel
theorem dX5_clear_1 : decode cX5_clear 1 = .ok (.getfield 10, 3) := by decide +kernel
theorem dX5_clear_4 : decode cX5_clear 4 = .ok (.getfield 75, 3) := by decide +kernel
theorem dX5_clear_7 : decode cX5_clear 7 = .ok (.istore_n 1, 1) := by decide +kernel
theorem dX5_clear_8 : decode cX5_clear 8 = .ok (.aload_n 0, 1) := by decide +kernel
theorem dX5_clear_9 : decode cX5_clear 9 = .ok (.getfield 10, 3) := by decide +kernel
theorem dX5_clear_12 : decode cX5_clear 12 = .ok (.iconst 0, 1) := by decide +kernel
theorem dX5_clear_13 : decode cX5_clear 13 = .ok (.putfield 75, 3) := by decide +kernel
theorem dX5_clear_16 : decode cX5_clear 16 = .ok (.iload_n 1, 1) := by decide +kernel
theorem dX5_clear_17 : decode cX5_clear 17 = .ok (.ireturn, 1) := by decide +kernel
theorem dX5_realm_0 : decode cX5_realm 0 = .ok (.aload_n 0, 1) := by decide +kernel
theorem dX5_realm_1 : decode cX5_realm 1 = .ok (.getfield 10, 3) := by decide +kernel
theorem dX5_realm_4 : decode cX5_realm 4 = .ok (.aload_n 0, 1) := by decide +kernel
theorem dX5_realm_5 : decode cX5_realm 5 = .ok (.getfield 62, 3) := by decide +kernel
theorem dX5_realm_8 : decode cX5_realm 8 = .ok (.invokevirtual 82, 3) := by decide +kernel
theorem dX5_realm_11 : decode cX5_realm 11 = .ok (.istore_n 1, 1) := by decide +kernel
theorem dX5_realm_12 : decode cX5_realm 12 = .ok (.iload_n 1, 1) := by decide +kernel
theorem dX5_realm_13 : decode cX5_realm 13 = .ok (.ifCond .ge 5, 3) := by decide +kernel
theorem dX5_realm_16 : decode cX5_realm 16 = .ok (.iload_n 1, 1) := by decide +kernel
theorem dX5_realm_17 : decode cX5_realm 17 = .ok (.ireturn, 1) := by decide +kernel
theorem dX5_realm_18 : decode cX5_realm 18 = .ok (.aload_n 0, 1) := by decide +kernel
theorem dX5_realm_19 : decode cX5_realm 19 = .ok (.getfield 58, 3) := by decide +kernel
theorem dX5_realm_22 : decode cX5_realm 22 = .ok (.astore_n 2, 1) := by decide +kernel
theorem dX5_realm_23 : decode cX5_realm 23 = .ok (.aload_n 0, 1) := by decide +kernel
theorem dX5_realm_24 : decode cX5_realm 24 = .ok (.aload_n 0, 1) := by decide +kernel
theorem dX5_realm_25 : decode cX5_realm 25 = .ok (.getfield 62, 3) := by decide +kernel
theorem dX5_realm_28 : decode cX5_realm 28 = .ok (.putfield 58, 3) := by decide +kernel
theorem dX5_realm_31 : decode cX5_realm 31 = .ok (.aload_n 0, 1) := by decide +kernel
theorem dX5_realm_32 : decode cX5_realm 32 = .ok (.aload_n 2, 1) := by decide +kernel
theorem dX5_realm_33 : decode cX5_realm 33 = .ok (.putfield 62, 3) := by decide +kernel
theorem dX5_realm_36 : decode cX5_realm 36 = .ok (.aload_n 0, 1) := by decide +kernel
theorem dX5_realm_37 : decode cX5_realm 37 = .ok (.getfield 58, 3) := by decide +kernel
theorem dX5_realm_40 : decode cX5_realm 40 = .ok (.invokevirtual 68, 3) := by decide +kernel
theorem dX5_realm_43 : decode cX5_realm 43 = .ok (.aload_n 0, 1) := by decide +kernel
theorem dX5_realm_44 : decode cX5_realm 44 = .ok (.getfield 19, 3) := by decide +kernel
theorem dX5_realm_47 : decode cX5_realm 47 = .ok (.aload_n 0, 1) := by decide +kernel
theorem dX5_realm_48 : decode cX5_realm 48 = .ok (.getfield 58, 3) := by decide +kernel
theorem dX5_realm_51 : decode cX5_realm 51 = .ok (.invokevirtual 86, 3) := by decide +kernel
theorem dX5_realm_54 : decode cX5_realm 54 = .ok (.aload_n 0, 1) := by decide +kernel
theorem dX5_realm_55 : decode cX5_realm 55 = .ok (.getfield 26, 3) := by decide +kernel
theorem dX5_realm_58 : decode cX5_realm 58 = .ok (.iconst 0, 1) := by decide +kernel
theorem dX5_realm_59 : decode cX5_realm 59 = .ok (.putfield 90, 3) := by decide +kernel
theorem dX5_realm_62 : decode cX5_realm 62 = .ok (.iconst 0, 1) := by decide +kernel
theorem dX5_realm_63 : decode cX5_realm 63 = .ok (.istore_n 3, 1) := by decide +kernel
theorem dX5_realm_64 : decode cX5_realm 64 = .ok (.iload_n 3, 1) := by decide +kernel
theorem dX5_realm_65 : decode cX5_realm 65 = .ok (.iconst 2, 1) := by decide +kernel
theorem dX5_realm_66 : decode cX5_realm 66 = .ok (.if_icmp .ge 16, 3) := by decide +kernel
theorem dX5_realm_69 : decode cX5_realm 69 = .ok (.aload_n 0, 1) := by decide +kernel
theorem dX5_realm_70 : decode cX5_realm 70 = .ok (.getfield 34, 3) := by decide +kernel
theorem dX5_realm_73 : decode cX5_realm 73 = .ok (.iload_n 3, 1) := by decide +kernel
theorem dX5_realm_74 : decode cX5_realm 74 = .ok (.iconst 0, 1) := by decide +kernel
theorem dX5_realm_75 : decode cX5_realm 75 = .ok (.bastore, 1) := by decide +kernel
theorem dX5_realm_76 : decode cX5_realm 76 = .ok (.iinc 3 1, 3) := by decide +kernel
theorem dX5_realm_79 : decode cX5_realm 79 = .ok (.goto (-15), 3) := by decide +kernel
theorem dX5_realm_82 : decode cX5_realm 82 = .ok (.aload_n 0, 1) := by decide +kernel
theorem dX5_realm_83 : decode cX5_realm 83 = .ok (.getfield 10, 3) := by decide +kernel
theorem dX5_realm_86 : decode cX5_realm 86 = .ok (.iconst 0, 1) := by decide +kernel
theorem dX5_realm_87 : decode cX5_realm 87 = .ok (.putfield 75, 3) := by decide +kernel
theorem dX5_realm_90 : decode cX5_realm 90 = .ok (.iload_n 1, 1) := by decide +kernel
theorem dX5_realm_91 : decode cX5_realm 91 = .ok (.ireturn, 1) := by decide +kernel
theorem dX5_pocket_0 : decode cX5_pocket 0 = .ok (.aload_n 0, 1) := by decide +kernel
theorem dX5_pocket_1 : decode cX5_pocket 1 = .ok (.iload_n 1, 1) := by decide +kernel
theorem dX5_pocket_2 : decode cX5_pocket 2 = .ok (.invokevirtual 93, 3) := by decide +kernel
theorem dX5_pocket_5 : decode cX5_pocket 5 = .ok (.ifCond .ne 5, 3) := by decide +kernel
theorem dX5_pocket_8 : decode cX5_pocket 8 = .ok (.iconst (-1), 1) := by decide +kernel
theorem dX5_pocket_9 : decode cX5_pocket 9 = .ok (.ireturn, 1) := by decide +kernel
theorem dX5_pocket_10 : decode cX5_pocket 10 = .ok (.iload_n 2, 1) := by decide +kernel
theorem dX5_pocket_11 : decode cX5_pocket 11 = .ok (.tableswitch 120 0 7 #[45, 55, 65, 75, 85, 91, 100, 110], 45) := by decide +kernel
theorem dX5_pocket_56 : decode cX5_pocket 56 = .ok (.aload_n 0, 1) := by decide +kernel
theorem dX5_pocket_57 : decode cX5_pocket 57 = .ok (.getfield 58, 3) := by decide +kernel
theorem dX5_pocket_60 : decode cX5_pocket 60 = .ok (.getfield 97, 3) := by decide +kernel
theorem dX5_pocket_63 : decode cX5_pocket 63 = .ok (.iload_n 1, 1) := by decide +kernel
theorem dX5_pocket_64 : decode cX5_pocket 64 = .ok (.iaload, 1) := by decide +kernel
theorem dX5_pocket_65 : decode cX5_pocket 65 = .ok (.ireturn, 1) := by decide +kernel
theorem dX5_pocket_66 : decode cX5_pocket 66 = .ok (.aload_n 0, 1) := by decide +kernel
theorem dX5_pocket_67 : decode cX5_pocket 67 = .ok (.getfield 58, 3) := by decide +kernel
theorem dX5_pocket_70 : decode cX5_pocket 70 = .ok (.getfield 100, 3) := by decide +kernel
theorem dX5_pocket_73 : decode cX5_pocket 73 = .ok (.iload_n 1, 1) := by decide +kernel
theorem dX5_pocket_74 : decode cX5_pocket 74 = .ok (.iaload, 1) := by decide +kernel
theorem dX5_pocket_75 : decode cX5_pocket 75 = .ok (.ireturn, 1) := by decide +kernel
theorem dX5_pocket_76 : decode cX5_pocket 76 = .ok (.aload_n 0, 1) := by decide +kernel
theorem dX5_pocket_77 : decode cX5_pocket 77 = .ok (.getfield 58, 3) := by decide +kernel
theorem dX5_pocket_80 : decode cX5_pocket 80 = .ok (.getfield 103, 3) := by decide +kernel
theorem dX5_pocket_83 : decode cX5_pocket 83 = .ok (.iload_n 1, 1) := by decide +kernel
theorem dX5_pocket_84 : decode cX5_pocket 84 = .ok (.iaload, 1) := by decide +kernel
theorem dX5_pocket_85 : decode cX5_pocket 85 = .ok (.ireturn, 1) := by decide +kernel
theorem dX5_pocket_86 : decode cX5_pocket 86 = .ok (.aload_n 0, 1) := by decide +kernel
theorem dX5_pocket_87 : decode cX5_pocket 87 = .ok (.getfield 58, 3) := by decide +kernel
theorem dX5_pocket_90 : decode cX5_pocket 90 = .ok (.getfield 106, 3) := by decide +kernel
theorem dX5_pocket_93 : decode cX5_pocket 93 = .ok (.iload_n 1, 1) := by decide +kernel
theorem dX5_pocket_94 : decode cX5_pocket 94 = .ok (.iaload, 1) := by decide +kernel
theorem dX5_pocket_95 : decode cX5_pocket 95 = .ok (.ireturn, 1) := by decide +kernel
theorem dX5_pocket_96 : decode cX5_pocket 96 = .ok (.aload_n 0, 1) := by decide +kernel
theorem dX5_pocket_97 : decode cX5_pocket 97 = .ok (.iload_n 1, 1) := by decide +kernel
theorem dX5_pocket_98 : decode cX5_pocket 98 = .ok (.invokevirtual 109, 3) := by decide +kernel
theorem dX5_pocket_101 : decode cX5_pocket 101 = .ok (.ireturn, 1) := by decide +kernel
theorem dX5_pocket_102 : decode cX5_pocket 102 = .ok (.aload_n 0, 1) := by decide +kernel
theorem dX5_pocket_103 : decode cX5_pocket 103 = .ok (.getfield 58, 3) := by decide +kernel
theorem dX5_pocket_106 : decode cX5_pocket 106 = .ok (.iload_n 1, 1) := by decide +kernel
theorem dX5_pocket_107 : decode cX5_pocket 107 = .ok (.invokevirtual 113, 3) := by decide +kernel
theorem dX5_pocket_110 : decode cX5_pocket 110 = .ok (.ireturn, 1) := by decide +kernel
theorem dX5_pocket_111 : decode cX5_pocket 111 = .ok (.aload_n 0, 1) := by decide +kernel
theorem dX5_pocket_112 : decode cX5_pocket 112 = .ok (.getfield 58, 3) := by decide +kernel
theorem dX5_pocket_115 : decode cX5_pocket 115 = .ok (.getfield 116, 3) := by decide +kernel
theorem dX5_pocket_118 : decode cX5_pocket 118 = .ok (.iload_n 1, 1) := by decide +kernel
theorem dX5_pocket_119 : decode cX5_pocket 119 = .ok (.iaload, 1) := by decide +kernel
theorem dX5_pocket_120 : decode cX5_pocket 120 = .ok (.ireturn, 1) := by decide +kernel
theorem dX5_pocket_121 : decode cX5_pocket 121 = .ok (.aload_n 0, 1) := by decide +kernel
theorem dX5_pocket_122 : decode cX5_pocket 122 = .ok (.getfield 58, 3) := by decide +kernel
theorem dX5_pocket_125 : decode cX5_pocket 125 = .ok (.getfield 119, 3) := by decide +kernel
theorem dX5_pocket_128 : decode cX5_pocket 128 = .ok (.iload_n 1, 1) := by decide +kernel
theorem dX5_pocket_129 : decode cX5_pocket 129 = .ok (.iaload, 1) := by decide +kernel
theorem dX5_pocket_130 : decode cX5_pocket 130 = .ok (.ireturn, 1) := by decide +kernel
theorem dX5_pocket_131 : decode cX5_pocket 131 = .ok (.iconst (-1), 1) := by decide +kernel
theorem dX5_pocket_132 : decode cX5_pocket 132 = .ok (.ireturn, 1) := by decide +kernel
theorem dX5_thing_0 : decode cX5_thing 0 = .ok (.aload_n 0, 1) := by decide +kernel
theorem dX5_thing_1 : decode cX5_thing 1 = .ok (.iload_n 1, 1) := by decide +kernel
theorem dX5_thing_2 : decode cX5_thing 2 = .ok (.invokevirtual 122, 3) := by decide +kernel
theorem dX5_thing_5 : decode cX5_thing 5 = .ok (.ifCond .ne 5, 3) := by decide +kernel
theorem dX5_thing_8 : decode cX5_thing 8 = .ok (.iconst (-1), 1) := by decide +kernel
theorem dX5_thing_9 : decode cX5_thing 9 = .ok (.ireturn, 1) := by decide +kernel
theorem dX5_thing_10 : decode cX5_thing 10 = .ok (.iload_n 2, 1) := by decide +kernel
theorem dX5_thing_11 : decode cX5_thing 11 = .ok (.tableswitch 87 0 4 #[33, 43, 53, 63, 73], 33) := by decide +kernel
theorem dX5_thing_44 : decode cX5_thing 44 = .ok (.aload_n 0, 1) := by decide +kernel
theorem dX5_thing_45 : decode cX5_thing 45 = .ok (.getfield 58, 3) := by decide +kernel
theorem dX5_thing_48 : decode cX5_thing 48 = .ok (.getfield 125, 3) := by decide +kernel
theorem dX5_thing_51 : decode cX5_thing 51 = .ok (.iload_n 1, 1) := by decide +kernel
theorem dX5_thing_52 : decode cX5_thing 52 = .ok (.iaload, 1) := by decide +kernel
theorem dX5_thing_53 : decode cX5_thing 53 = .ok (.ireturn, 1) := by decide +kernel
theorem dX5_thing_54 : decode cX5_thing 54 = .ok (.aload_n 0, 1) := by decide +kernel
theorem dX5_thing_55 : decode cX5_thing 55 = .ok (.getfield 58, 3) := by decide +kernel
theorem dX5_thing_58 : decode cX5_thing 58 = .ok (.getfield 128, 3) := by decide +kernel
theorem dX5_thing_61 : decode cX5_thing 61 = .ok (.iload_n 1, 1) := by decide +kernel
theorem dX5_thing_62 : decode cX5_thing 62 = .ok (.iaload, 1) := by decide +kernel
theorem dX5_thing_63 : decode cX5_thing 63 = .ok (.ireturn, 1) := by decide +kernel
theorem dX5_thing_64 : decode cX5_thing 64 = .ok (.aload_n 0, 1) := by decide +kernel
theorem dX5_thing_65 : decode cX5_thing 65 = .ok (.getfield 58, 3) := by decide +kernel
theorem dX5_thing_68 : decode cX5_thing 68 = .ok (.getfield 131, 3) := by decide +kernel
theorem dX5_thing_71 : decode cX5_thing 71 = .ok (.iload_n 1, 1) := by decide +kernel
theorem dX5_thing_72 : decode cX5_thing 72 = .ok (.iaload, 1) := by decide +kernel
theorem dX5_thing_73 : decode cX5_thing 73 = .ok (.ireturn, 1) := by decide +kernel
theorem dX5_thing_74 : decode cX5_thing 74 = .ok (.aload_n 0, 1) := by decide +kernel
theorem dX5_thing_75 : decode cX5_thing 75 = .ok (.getfield 19, 3) := by decide +kernel
theorem dX5_thing_78 : decode cX5_thing 78 = .ok (.getfield 134, 3) := by decide +kernel
theorem dX5_thing_81 : decode cX5_thing 81 = .ok (.iload_n 1, 1) := by decide +kernel
theorem dX5_thing_82 : decode cX5_thing 82 = .ok (.iaload, 1) := by decide +kernel
theorem dX5_thing_83 : decode cX5_thing 83 = .ok (.ireturn, 1) := by decide +kernel
theorem dX5_thing_84 : decode cX5_thing 84 = .ok (.aload_n 0, 1) := by decide +kernel
theorem dX5_thing_85 : decode cX5_thing 85 = .ok (.iload_n 1, 1) := by decide +kernel
theorem dX5_thing_86 : decode cX5_thing 86 = .ok (.invokevirtual 137, 3) := by decide +kernel
theorem dX5_thing_89 : decode cX5_thing 89 = .ok (.ifCond .eq 7, 3) := by decide +kernel
theorem dX5_thing_92 : decode cX5_thing 92 = .ok (.iconst 1, 1) := by decide +kernel
theorem dX5_thing_93 : decode cX5_thing 93 = .ok (.goto 4, 3) := by decide +kernel
theorem dX5_thing_96 : decode cX5_thing 96 = .ok (.iconst 0, 1) := by decide +kernel
theorem dX5_thing_97 : decode cX5_thing 97 = .ok (.ireturn, 1) := by decide +kernel
theorem dX5_thing_98 : decode cX5_thing 98 = .ok (.iconst (-1), 1) := by decide +kernel
end
section
theorem dX5_thing_99 : decode cX5_thing 99 = .ok (.ireturn, 1) := by decide +kernel
theorem dX5_letsIn_0 : decode cX5_letsIn 0 = .ok (.aload_n 0, 1) := by decide +kernel
theorem dX5_letsIn_1 : decode cX5_letsIn 1 = .ok (.iload_n 1, 1) := by decide +kernel
theorem dX5_letsIn_2 : decode cX5_letsIn 2 = .ok (.invokevirtual 93, 3) := by decide +kernel
theorem dX5_letsIn_5 : decode cX5_letsIn 5 = .ok (.ifCond .eq 12, 3) := by decide +kernel
theorem dX5_letsIn_8 : decode cX5_letsIn 8 = .ok (.iload_n 2, 1) := by decide +kernel
theorem dX5_letsIn_9 : decode cX5_letsIn 9 = .ok (.iconst 0, 1) := by decide +kernel
theorem dX5_letsIn_10 : decode cX5_letsIn 10 = .ok (.iconst 5, 1) := by decide +kernel
theorem dX5_letsIn_11 : decode cX5_letsIn 11 = .ok (.invokestatic 71, 3) := by decide +kernel
theorem dX5_letsIn_14 : decode cX5_letsIn 14 = .ok (.ifCond .ne 5, 3) := by decide +kernel
theorem dX5_letsIn_17 : decode cX5_letsIn 17 = .ok (.iconst (-1), 1) := by decide +kernel
theorem dX5_letsIn_18 : decode cX5_letsIn 18 = .ok (.ireturn, 1) := by decide +kernel
theorem dX5_letsIn_19 : decode cX5_letsIn 19 = .ok (.aload_n 0, 1) := by decide +kernel
theorem dX5_letsIn_20 : decode cX5_letsIn 20 = .ok (.getfield 58, 3) := by decide +kernel
theorem dX5_letsIn_23 : decode cX5_letsIn 23 = .ok (.getfield 140, 3) := by decide +kernel
theorem dX5_letsIn_26 : decode cX5_letsIn 26 = .ok (.iload_n 1, 1) := by decide +kernel
theorem dX5_letsIn_27 : decode cX5_letsIn 27 = .ok (.iaload, 1) := by decide +kernel
theorem dX5_letsIn_28 : decode cX5_letsIn 28 = .ok (.iload_n 2, 1) := by decide +kernel
theorem dX5_letsIn_29 : decode cX5_letsIn 29 = .ok (.invokestatic 143, 3) := by decide +kernel
theorem dX5_letsIn_32 : decode cX5_letsIn 32 = .ok (.ifCond .eq 7, 3) := by decide +kernel
theorem dX5_letsIn_35 : decode cX5_letsIn 35 = .ok (.iconst 1, 1) := by decide +kernel
theorem dX5_letsIn_36 : decode cX5_letsIn 36 = .ok (.goto 4, 3) := by decide +kernel
theorem dX5_letsIn_39 : decode cX5_letsIn 39 = .ok (.iconst 0, 1) := by decide +kernel
theorem dX5_letsIn_40 : decode cX5_letsIn 40 = .ok (.ireturn, 1) := by decide +kernel
theorem dX5_fixed_0 : decode cX5_fixed 0 = .ok (.iload_n 1, 1) := by decide +kernel
theorem dX5_fixed_1 : decode cX5_fixed 1 = .ok (.iconst 0, 1) := by decide +kernel
theorem dX5_fixed_2 : decode cX5_fixed 2 = .ok (.iconst 5, 1) := by decide +kernel
theorem dX5_fixed_3 : decode cX5_fixed 3 = .ok (.invokestatic 71, 3) := by decide +kernel
theorem dX5_fixed_6 : decode cX5_fixed 6 = .ok (.ifCond .eq 15, 3) := by decide +kernel
theorem dX5_fixed_9 : decode cX5_fixed 9 = .ok (.aload_n 0, 1) := by decide +kernel
theorem dX5_fixed_10 : decode cX5_fixed 10 = .ok (.getfield 58, 3) := by decide +kernel
theorem dX5_fixed_13 : decode cX5_fixed 13 = .ok (.getfield 147, 3) := by decide +kernel
theorem dX5_fixed_16 : decode cX5_fixed 16 = .ok (.iload_n 1, 1) := by decide +kernel
theorem dX5_fixed_17 : decode cX5_fixed 17 = .ok (.iaload, 1) := by decide +kernel
theorem dX5_fixed_18 : decode cX5_fixed 18 = .ok (.goto 4, 3) := by decide +kernel
theorem dX5_fixed_21 : decode cX5_fixed 21 = .ok (.iconst (-1), 1) := by decide +kernel
theorem dX5_fixed_22 : decode cX5_fixed 22 = .ok (.ireturn, 1) := by decide +kernel
theorem dX5_now_0 : decode cX5_now 0 = .ok (.iload_n 1, 1) := by decide +kernel
theorem dX5_now_1 : decode cX5_now 1 = .ok (.tableswitch 72 0 4 #[35, 43, 51, 56, 64], 35) := by decide +kernel
theorem dX5_now_36 : decode cX5_now 36 = .ok (.aload_n 0, 1) := by decide +kernel
theorem dX5_now_37 : decode cX5_now 37 = .ok (.getfield 19, 3) := by decide +kernel
theorem dX5_now_40 : decode cX5_now 40 = .ok (.getfield 150, 3) := by decide +kernel
theorem dX5_now_43 : decode cX5_now 43 = .ok (.ireturn, 1) := by decide +kernel
theorem dX5_now_44 : decode cX5_now 44 = .ok (.aload_n 0, 1) := by decide +kernel
theorem dX5_now_45 : decode cX5_now 45 = .ok (.getfield 19, 3) := by decide +kernel
theorem dX5_now_48 : decode cX5_now 48 = .ok (.getfield 153, 3) := by decide +kernel
theorem dX5_now_51 : decode cX5_now 51 = .ok (.ireturn, 1) := by decide +kernel
theorem dX5_now_52 : decode cX5_now 52 = .ok (.aload_n 0, 1) := by decide +kernel
theorem dX5_now_53 : decode cX5_now 53 = .ok (.invokevirtual 156, 3) := by decide +kernel
theorem dX5_now_56 : decode cX5_now 56 = .ok (.ireturn, 1) := by decide +kernel
theorem dX5_now_57 : decode cX5_now 57 = .ok (.aload_n 0, 1) := by decide +kernel
theorem dX5_now_58 : decode cX5_now 58 = .ok (.getfield 58, 3) := by decide +kernel
theorem dX5_now_61 : decode cX5_now 61 = .ok (.invokevirtual 160, 3) := by decide +kernel
theorem dX5_now_64 : decode cX5_now 64 = .ok (.ireturn, 1) := by decide +kernel
theorem dX5_now_65 : decode cX5_now 65 = .ok (.aload_n 0, 1) := by decide +kernel
theorem dX5_now_66 : decode cX5_now 66 = .ok (.getfield 26, 3) := by decide +kernel
theorem dX5_now_69 : decode cX5_now 69 = .ok (.getfield 90, 3) := by decide +kernel
theorem dX5_now_72 : decode cX5_now 72 = .ok (.ireturn, 1) := by decide +kernel
theorem dX5_now_73 : decode cX5_now 73 = .ok (.iconst (-1), 1) := by decide +kernel
theorem dX5_now_74 : decode cX5_now 74 = .ok (.ireturn, 1) := by decide +kernel
theorem dX5_moves_0 : decode cX5_moves 0 = .ok (.aload_n 0, 1) := by decide +kernel
theorem dX5_moves_1 : decode cX5_moves 1 = .ok (.iload_n 1, 1) := by decide +kernel
theorem dX5_moves_2 : decode cX5_moves 2 = .ok (.invokevirtual 122, 3) := by decide +kernel
theorem dX5_moves_5 : decode cX5_moves 5 = .ok (.ifCond .eq 11, 3) := by decide +kernel
theorem dX5_moves_8 : decode cX5_moves 8 = .ok (.aload_n 0, 1) := by decide +kernel
theorem dX5_moves_9 : decode cX5_moves 9 = .ok (.iload_n 2, 1) := by decide +kernel
theorem dX5_moves_10 : decode cX5_moves 10 = .ok (.invokevirtual 93, 3) := by decide +kernel
theorem dX5_moves_13 : decode cX5_moves 13 = .ok (.ifCond .ne 5, 3) := by decide +kernel
theorem dX5_moves_16 : decode cX5_moves 16 = .ok (.iconst (-1), 1) := by decide +kernel
theorem dX5_moves_17 : decode cX5_moves 17 = .ok (.ireturn, 1) := by decide +kernel
theorem dX5_moves_18 : decode cX5_moves 18 = .ok (.aload_n 0, 1) := by decide +kernel
theorem dX5_moves_19 : decode cX5_moves 19 = .ok (.getfield 19, 3) := by decide +kernel
theorem dX5_moves_22 : decode cX5_moves 22 = .ok (.getfield 134, 3) := by decide +kernel
theorem dX5_moves_25 : decode cX5_moves 25 = .ok (.iload_n 1, 1) := by decide +kernel
theorem dX5_moves_26 : decode cX5_moves 26 = .ok (.iaload, 1) := by decide +kernel
theorem dX5_moves_27 : decode cX5_moves 27 = .ok (.istore_n 3, 1) := by decide +kernel
theorem dX5_moves_28 : decode cX5_moves 28 = .ok (.aload_n 0, 1) := by decide +kernel
theorem dX5_moves_29 : decode cX5_moves 29 = .ok (.getfield 58, 3) := by decide +kernel
theorem dX5_moves_32 : decode cX5_moves 32 = .ok (.getfield 125, 3) := by decide +kernel
theorem dX5_moves_35 : decode cX5_moves 35 = .ok (.iload_n 1, 1) := by decide +kernel
theorem dX5_moves_36 : decode cX5_moves 36 = .ok (.iaload, 1) := by decide +kernel
theorem dX5_moves_37 : decode cX5_moves 37 = .ok (.istore 4, 2) := by decide +kernel
theorem dX5_moves_39 : decode cX5_moves 39 = .ok (.aload_n 0, 1) := by decide +kernel
theorem dX5_moves_40 : decode cX5_moves 40 = .ok (.getfield 58, 3) := by decide +kernel
theorem dX5_moves_43 : decode cX5_moves 43 = .ok (.iload_n 3, 1) := by decide +kernel
theorem dX5_moves_44 : decode cX5_moves 44 = .ok (.iload_n 2, 1) := by decide +kernel
theorem dX5_moves_45 : decode cX5_moves 45 = .ok (.iload 4, 2) := by decide +kernel
theorem dX5_moves_47 : decode cX5_moves 47 = .ok (.invokevirtual 163, 3) := by decide +kernel
theorem dX5_moves_50 : decode cX5_moves 50 = .ok (.ifCond .eq 20, 3) := by decide +kernel
theorem dX5_moves_53 : decode cX5_moves 53 = .ok (.aload_n 0, 1) := by decide +kernel
theorem dX5_moves_54 : decode cX5_moves 54 = .ok (.iload_n 2, 1) := by decide +kernel
theorem dX5_moves_55 : decode cX5_moves 55 = .ok (.aload_n 0, 1) := by decide +kernel
theorem dX5_moves_56 : decode cX5_moves 56 = .ok (.getfield 58, 3) := by decide +kernel
theorem dX5_moves_59 : decode cX5_moves 59 = .ok (.getfield 128, 3) := by decide +kernel
theorem dX5_moves_62 : decode cX5_moves 62 = .ok (.iload_n 1, 1) := by decide +kernel
theorem dX5_moves_63 : decode cX5_moves 63 = .ok (.iaload, 1) := by decide +kernel
theorem dX5_moves_64 : decode cX5_moves 64 = .ok (.invokevirtual 166, 3) := by decide +kernel
theorem dX5_moves_67 : decode cX5_moves 67 = .ok (.ifCond .ne 6, 3) := by decide +kernel
theorem dX5_moves_70 : decode cX5_moves 70 = .ok (.bipush (-2), 2) := by decide +kernel
theorem dX5_moves_72 : decode cX5_moves 72 = .ok (.ireturn, 1) := by decide +kernel
theorem dX5_moves_73 : decode cX5_moves 73 = .ok (.aload_n 0, 1) := by decide +kernel
theorem dX5_moves_74 : decode cX5_moves 74 = .ok (.getfield 26, 3) := by decide +kernel
theorem dX5_moves_77 : decode cX5_moves 77 = .ok (.aload_n 0, 1) := by decide +kernel
theorem dX5_moves_78 : decode cX5_moves 78 = .ok (.getfield 19, 3) := by decide +kernel
theorem dX5_moves_81 : decode cX5_moves 81 = .ok (.invokevirtual 169, 3) := by decide +kernel
theorem dX5_moves_84 : decode cX5_moves 84 = .ok (.aload_n 0, 1) := by decide +kernel
theorem dX5_moves_85 : decode cX5_moves 85 = .ok (.getfield 58, 3) := by decide +kernel
theorem dX5_moves_88 : decode cX5_moves 88 = .ok (.iload_n 3, 1) := by decide +kernel
theorem dX5_moves_89 : decode cX5_moves 89 = .ok (.iload_n 2, 1) := by decide +kernel
theorem dX5_moves_90 : decode cX5_moves 90 = .ok (.iload 4, 2) := by decide +kernel
theorem dX5_moves_92 : decode cX5_moves 92 = .ok (.invokevirtual 173, 3) := by decide +kernel
theorem dX5_moves_95 : decode cX5_moves 95 = .ok (.istore 5, 2) := by decide +kernel
theorem dX5_moves_97 : decode cX5_moves 97 = .ok (.aload_n 0, 1) := by decide +kernel
theorem dX5_moves_98 : decode cX5_moves 98 = .ok (.getfield 19, 3) := by decide +kernel
theorem dX5_moves_101 : decode cX5_moves 101 = .ok (.getfield 134, 3) := by decide +kernel
theorem dX5_moves_104 : decode cX5_moves 104 = .ok (.iload_n 1, 1) := by decide +kernel
theorem dX5_moves_105 : decode cX5_moves 105 = .ok (.iload_n 2, 1) := by decide +kernel
theorem dX5_moves_106 : decode cX5_moves 106 = .ok (.iastore, 1) := by decide +kernel
theorem dX5_moves_107 : decode cX5_moves 107 = .ok (.aload_n 0, 1) := by decide +kernel
theorem dX5_moves_108 : decode cX5_moves 108 = .ok (.getfield 19, 3) := by decide +kernel
theorem dX5_moves_111 : decode cX5_moves 111 = .ok (.dup, 1) := by decide +kernel
theorem dX5_moves_112 : decode cX5_moves 112 = .ok (.getfield 153, 3) := by decide +kernel
theorem dX5_moves_115 : decode cX5_moves 115 = .ok (.iload 5, 2) := by decide +kernel
theorem dX5_moves_117 : decode cX5_moves 117 = .ok (.iadd, 1) := by decide +kernel
theorem dX5_moves_118 : decode cX5_moves 118 = .ok (.putfield 153, 3) := by decide +kernel
theorem dX5_moves_121 : decode cX5_moves 121 = .ok (.iload 5, 2) := by decide +kernel
theorem dX5_moves_123 : decode cX5_moves 123 = .ok (.ireturn, 1) := by decide +kernel
theorem dX5_night_0 : decode cX5_night 0 = .ok (.aload_n 0, 1) := by decide +kernel
theorem dX5_night_1 : decode cX5_night 1 = .ok (.getfield 19, 3) := by decide +kernel
theorem dX5_night_4 : decode cX5_night 4 = .ok (.getfield 150, 3) := by decide +kernel
theorem dX5_night_7 : decode cX5_night 7 = .ok (.sipush 999, 3) := by decide +kernel
theorem dX5_night_10 : decode cX5_night 10 = .ok (.if_icmp .lt 6, 3) := by decide +kernel
theorem dX5_night_13 : decode cX5_night 13 = .ok (.bipush (-2), 2) := by decide +kernel
theorem dX5_night_15 : decode cX5_night 15 = .ok (.ireturn, 1) := by decide +kernel
theorem dX5_night_16 : decode cX5_night 16 = .ok (.aload_n 0, 1) := by decide +kernel
theorem dX5_night_17 : decode cX5_night 17 = .ok (.getfield 26, 3) := by decide +kernel
theorem dX5_night_20 : decode cX5_night 20 = .ok (.aload_n 0, 1) := by decide +kernel
theorem dX5_night_21 : decode cX5_night 21 = .ok (.getfield 19, 3) := by decide +kernel
theorem dX5_night_24 : decode cX5_night 24 = .ok (.invokevirtual 169, 3) := by decide +kernel
theorem dX5_night_27 : decode cX5_night 27 = .ok (.iconst 0, 1) := by decide +kernel
theorem dX5_night_28 : decode cX5_night 28 = .ok (.istore_n 1, 1) := by decide +kernel
theorem dX5_night_29 : decode cX5_night 29 = .ok (.iconst 0, 1) := by decide +kernel
theorem dX5_night_30 : decode cX5_night 30 = .ok (.istore_n 2, 1) := by decide +kernel
theorem dX5_night_31 : decode cX5_night 31 = .ok (.iload_n 2, 1) := by decide +kernel
theorem dX5_night_32 : decode cX5_night 32 = .ok (.aload_n 0, 1) := by decide +kernel
theorem dX5_night_33 : decode cX5_night 33 = .ok (.getfield 58, 3) := by decide +kernel
theorem dX5_night_36 : decode cX5_night 36 = .ok (.getfield 177, 3) := by decide +kernel
theorem dX5_night_39 : decode cX5_night 39 = .ok (.if_icmp .ge 20, 3) := by decide +kernel
theorem dX5_night_42 : decode cX5_night 42 = .ok (.aload_n 0, 1) := by decide +kernel
theorem dX5_night_43 : decode cX5_night 43 = .ok (.iload_n 2, 1) := by decide +kernel
theorem dX5_night_44 : decode cX5_night 44 = .ok (.invokevirtual 180, 3) := by decide +kernel
theorem dX5_night_47 : decode cX5_night 47 = .ok (.ifCond .eq 6, 3) := by decide +kernel
theorem dX5_night_50 : decode cX5_night 50 = .ok (.iinc 1 1, 3) := by decide +kernel
theorem dX5_night_53 : decode cX5_night 53 = .ok (.iinc 2 1, 3) := by decide +kernel
theorem dX5_night_56 : decode cX5_night 56 = .ok (.goto (-25), 3) := by decide +kernel
theorem dX5_night_59 : decode cX5_night 59 = .ok (.aload_n 0, 1) := by decide +kernel
theorem dX5_night_60 : decode cX5_night 60 = .ok (.getfield 19, 3) := by decide +kernel
theorem dX5_night_63 : decode cX5_night 63 = .ok (.dup, 1) := by decide +kernel
theorem dX5_night_64 : decode cX5_night 64 = .ok (.getfield 150, 3) := by decide +kernel
theorem dX5_night_67 : decode cX5_night 67 = .ok (.iconst 1, 1) := by decide +kernel
theorem dX5_night_68 : decode cX5_night 68 = .ok (.iadd, 1) := by decide +kernel
theorem dX5_night_69 : decode cX5_night 69 = .ok (.putfield 150, 3) := by decide +kernel
theorem dX5_night_72 : decode cX5_night 72 = .ok (.iload_n 1, 1) := by decide +kernel
theorem dX5_night_73 : decode cX5_night 73 = .ok (.ireturn, 1) := by decide +kernel
theorem dX5_undo_0 : decode cX5_undo 0 = .ok (.aload_n 0, 1) := by decide +kernel
theorem dX5_undo_1 : decode cX5_undo 1 = .ok (.getfield 26, 3) := by decide +kernel
theorem dX5_undo_4 : decode cX5_undo 4 = .ok (.getfield 90, 3) := by decide +kernel
theorem dX5_undo_7 : decode cX5_undo 7 = .ok (.ifCond .ne 6, 3) := by decide +kernel
theorem dX5_undo_10 : decode cX5_undo 10 = .ok (.bipush (-2), 2) := by decide +kernel
theorem dX5_undo_12 : decode cX5_undo 12 = .ok (.ireturn, 1) := by decide +kernel
theorem dX5_undo_13 : decode cX5_undo 13 = .ok (.aload_n 0, 1) := by decide +kernel
theorem dX5_undo_14 : decode cX5_undo 14 = .ok (.getfield 26, 3) := by decide +kernel
theorem dX5_undo_17 : decode cX5_undo 17 = .ok (.aload_n 0, 1) := by decide +kernel
theorem dX5_undo_18 : decode cX5_undo 18 = .ok (.getfield 19, 3) := by decide +kernel
theorem dX5_undo_21 : decode cX5_undo 21 = .ok (.invokevirtual 183, 3) := by decide +kernel
theorem dX5_undo_24 : decode cX5_undo 24 = .ok (.aload_n 0, 1) := by decide +kernel
theorem dX5_undo_25 : decode cX5_undo 25 = .ok (.getfield 26, 3) := by decide +kernel
theorem dX5_undo_28 : decode cX5_undo 28 = .ok (.getfield 90, 3) := by decide +kernel
theorem dX5_undo_31 : decode cX5_undo 31 = .ok (.ireturn, 1) := by decide +kernel
theorem dX5_way_0 : decode cX5_way 0 = .ok (.aload_n 0, 1) := by decide +kernel
theorem dX5_way_1 : decode cX5_way 1 = .ok (.iload_n 1, 1) := by decide +kernel
theorem dX5_way_2 : decode cX5_way 2 = .ok (.invokevirtual 122, 3) := by decide +kernel
theorem dX5_way_5 : decode cX5_way 5 = .ok (.ifCond .eq 20, 3) := by decide +kernel
theorem dX5_way_8 : decode cX5_way 8 = .ok (.aload_n 0, 1) := by decide +kernel
theorem dX5_way_9 : decode cX5_way 9 = .ok (.iload_n 2, 1) := by decide +kernel
theorem dX5_way_10 : decode cX5_way 10 = .ok (.invokevirtual 93, 3) := by decide +kernel
theorem dX5_way_13 : decode cX5_way 13 = .ok (.ifCond .eq 12, 3) := by decide +kernel
theorem dX5_way_16 : decode cX5_way 16 = .ok (.iload_n 3, 1) := by decide +kernel
theorem dX5_way_17 : decode cX5_way 17 = .ok (.iconst 0, 1) := by decide +kernel
theorem dX5_way_18 : decode cX5_way 18 = .ok (.iconst 1, 1) := by decide +kernel
theorem dX5_way_19 : decode cX5_way 19 = .ok (.invokestatic 71, 3) := by decide +kernel
theorem dX5_way_22 : decode cX5_way 22 = .ok (.ifCond .ne 5, 3) := by decide +kernel
theorem dX5_way_25 : decode cX5_way 25 = .ok (.iconst (-1), 1) := by decide +kernel
theorem dX5_way_26 : decode cX5_way 26 = .ok (.ireturn, 1) := by decide +kernel
theorem dX5_way_27 : decode cX5_way 27 = .ok (.aload_n 0, 1) := by decide +kernel
theorem dX5_way_28 : decode cX5_way 28 = .ok (.iload_n 1, 1) := by decide +kernel
theorem dX5_way_29 : decode cX5_way 29 = .ok (.iload_n 2, 1) := by decide +kernel
theorem dX5_way_30 : decode cX5_way 30 = .ok (.iload_n 3, 1) := by decide +kernel
theorem dX5_way_31 : decode cX5_way 31 = .ok (.iconst 1, 1) := by decide +kernel
theorem dX5_way_32 : decode cX5_way 32 = .ok (.if_icmp .ne 7, 3) := by decide +kernel
theorem dX5_way_35 : decode cX5_way 35 = .ok (.iconst 1, 1) := by decide +kernel
theorem dX5_way_36 : decode cX5_way 36 = .ok (.goto 4, 3) := by decide +kernel
theorem dX5_way_39 : decode cX5_way 39 = .ok (.iconst 0, 1) := by decide +kernel
theorem dX5_way_40 : decode cX5_way 40 = .ok (.bipush (-9), 2) := by decide +kernel
theorem dX5_way_42 : decode cX5_way 42 = .ok (.bipush (-9), 2) := by decide +kernel
theorem dX5_way_44 : decode cX5_way 44 = .ok (.invokevirtual 186, 3) := by decide +kernel
theorem dX5_way_47 : decode cX5_way 47 = .ok (.ireturn, 1) := by decide +kernel
theorem dX5_stow_0 : decode cX5_stow 0 = .ok (.iload_n 1, 1) := by decide +kernel
theorem dX5_stow_1 : decode cX5_stow 1 = .ok (.iconst (-1), 1) := by decide +kernel
theorem dX5_stow_2 : decode cX5_stow 2 = .ok (.if_icmp .eq 13, 3) := by decide +kernel
theorem dX5_stow_5 : decode cX5_stow 5 = .ok (.aload_n 0, 1) := by decide +kernel
theorem dX5_stow_6 : decode cX5_stow 6 = .ok (.iload_n 1, 1) := by decide +kernel
theorem dX5_stow_7 : decode cX5_stow 7 = .ok (.invokevirtual 122, 3) := by decide +kernel
theorem dX5_stow_10 : decode cX5_stow 10 = .ok (.ifCond .ne 5, 3) := by decide +kernel
theorem dX5_stow_13 : decode cX5_stow 13 = .ok (.iconst (-1), 1) := by decide +kernel
theorem dX5_stow_14 : decode cX5_stow 14 = .ok (.ireturn, 1) := by decide +kernel
theorem dX5_stow_15 : decode cX5_stow 15 = .ok (.aload_n 0, 1) := by decide +kernel
theorem dX5_stow_16 : decode cX5_stow 16 = .ok (.getfield 41, 3) := by decide +kernel
theorem dX5_stow_19 : decode cX5_stow 19 = .ok (.aload_n 0, 1) := by decide +kernel
theorem dX5_stow_20 : decode cX5_stow 20 = .ok (.getfield 58, 3) := by decide +kernel
theorem dX5_stow_23 : decode cX5_stow 23 = .ok (.aload_n 0, 1) := by decide +kernel
theorem dX5_stow_24 : decode cX5_stow 24 = .ok (.getfield 19, 3) := by decide +kernel
theorem dX5_stow_27 : decode cX5_stow 27 = .ok (.invokevirtual 190, 3) := by decide +kernel
theorem dX5_stow_30 : decode cX5_stow 30 = .ok (.istore_n 2, 1) := by decide +kernel
theorem dX5_stow_31 : decode cX5_stow 31 = .ok (.iload_n 2, 1) := by decide +kernel
theorem dX5_stow_32 : decode cX5_stow 32 = .ok (.bipush (-9), 2) := by decide +kernel
theorem dX5_stow_34 : decode cX5_stow 34 = .ok (.if_icmp .eq 8, 3) := by decide +kernel
theorem dX5_stow_37 : decode cX5_stow 37 = .ok (.iload_n 1, 1) := by decide +kernel
theorem dX5_stow_38 : decode cX5_stow 38 = .ok (.iconst (-1), 1) := by decide +kernel
theorem dX5_stow_39 : decode cX5_stow 39 = .ok (.if_icmp .ne 7, 3) := by decide +kernel
theorem dX5_stow_42 : decode cX5_stow 42 = .ok (.iload_n 2, 1) := by decide +kernel
theorem dX5_stow_43 : decode cX5_stow 43 = .ok (.goto 12, 3) := by decide +kernel
theorem dX5_stow_46 : decode cX5_stow 46 = .ok (.aload_n 0, 1) := by decide +kernel
theorem dX5_stow_47 : decode cX5_stow 47 = .ok (.getfield 41, 3) := by decide +kernel
theorem dX5_stow_50 : decode cX5_stow 50 = .ok (.getfield 194, 3) := by decide +kernel
theorem dX5_stow_53 : decode cX5_stow 53 = .ok (.iload_n 1, 1) := by decide +kernel
theorem dX5_stow_54 : decode cX5_stow 54 = .ok (.iaload, 1) := by decide +kernel
theorem dX5_stow_55 : decode cX5_stow 55 = .ok (.ireturn, 1) := by decide +kernel
theorem dX5_hoard_0 : decode cX5_hoard 0 = .ok (.aload_n 0, 1) := by decide +kernel
theorem dX5_hoard_1 : decode cX5_hoard 1 = .ok (.iload_n 1, 1) := by decide +kernel
theorem dX5_hoard_2 : decode cX5_hoard 2 = .ok (.invokevirtual 93, 3) := by decide +kernel
theorem dX5_hoard_5 : decode cX5_hoard 5 = .ok (.ifCond .ne 5, 3) := by decide +kernel
theorem dX5_hoard_8 : decode cX5_hoard 8 = .ok (.iconst (-1), 1) := by decide +kernel
theorem dX5_hoard_9 : decode cX5_hoard 9 = .ok (.ireturn, 1) := by decide +kernel
theorem dX5_hoard_10 : decode cX5_hoard 10 = .ok (.iconst 0, 1) := by decide +kernel
theorem dX5_hoard_11 : decode cX5_hoard 11 = .ok (.istore_n 2, 1) := by decide +kernel
theorem dX5_hoard_12 : decode cX5_hoard 12 = .ok (.iconst 0, 1) := by decide +kernel
theorem dX5_hoard_13 : decode cX5_hoard 13 = .ok (.istore_n 3, 1) := by decide +kernel
theorem dX5_hoard_14 : decode cX5_hoard 14 = .ok (.iload_n 3, 1) := by decide +kernel
theorem dX5_hoard_15 : decode cX5_hoard 15 = .ok (.iconst 1, 1) := by decide +kernel
theorem dX5_hoard_16 : decode cX5_hoard 16 = .ok (.aload_n 0, 1) := by decide +kernel
theorem dX5_hoard_17 : decode cX5_hoard 17 = .ok (.getfield 58, 3) := by decide +kernel
theorem dX5_hoard_20 : decode cX5_hoard 20 = .ok (.getfield 177, 3) := by decide +kernel
theorem dX5_hoard_23 : decode cX5_hoard 23 = .ok (.ishl, 1) := by decide +kernel
theorem dX5_hoard_24 : decode cX5_hoard 24 = .ok (.if_icmp .ge 23, 3) := by decide +kernel
theorem dX5_hoard_27 : decode cX5_hoard 27 = .ok (.iload_n 2, 1) := by decide +kernel
theorem dX5_hoard_28 : decode cX5_hoard 28 = .ok (.aload_n 0, 1) := by decide +kernel
theorem dX5_hoard_29 : decode cX5_hoard 29 = .ok (.getfield 58, 3) := by decide +kernel
theorem dX5_hoard_32 : decode cX5_hoard 32 = .ok (.iload_n 3, 1) := by decide +kernel
theorem dX5_hoard_33 : decode cX5_hoard 33 = .ok (.iload_n 1, 1) := by decide +kernel
theorem dX5_hoard_34 : decode cX5_hoard 34 = .ok (.invokevirtual 197, 3) := by decide +kernel
theorem dX5_hoard_37 : decode cX5_hoard 37 = .ok (.invokestatic 201, 3) := by decide +kernel
theorem dX5_hoard_40 : decode cX5_hoard 40 = .ok (.istore_n 2, 1) := by decide +kernel
theorem dX5_hoard_41 : decode cX5_hoard 41 = .ok (.iinc 3 1, 3) := by decide +kernel
theorem dX5_hoard_44 : decode cX5_hoard 44 = .ok (.goto (-30), 3) := by decide +kernel
theorem dX5_hoard_47 : decode cX5_hoard 47 = .ok (.iload_n 2, 1) := by decide +kernel
theorem dX5_hoard_48 : decode cX5_hoard 48 = .ok (.ireturn, 1) := by decide +kernel
theorem dX5_saves_0 : decode cX5_saves 0 = .ok (.aload_n 0, 1) := by decide +kernel
theorem dX5_saves_1 : decode cX5_saves 1 = .ok (.iload_n 1, 1) := by decide +kernel
theorem dX5_saves_2 : decode cX5_saves 2 = .ok (.invokevirtual 122, 3) := by decide +kernel
theorem dX5_saves_5 : decode cX5_saves 5 = .ok (.ifCond .eq 11, 3) := by decide +kernel
theorem dX5_saves_8 : decode cX5_saves 8 = .ok (.aload_n 0, 1) := by decide +kernel
theorem dX5_saves_9 : decode cX5_saves 9 = .ok (.iload_n 2, 1) := by decide +kernel
theorem dX5_saves_10 : decode cX5_saves 10 = .ok (.invokevirtual 93, 3) := by decide +kernel
theorem dX5_saves_13 : decode cX5_saves 13 = .ok (.ifCond .ne 5, 3) := by decide +kernel
theorem dX5_saves_16 : decode cX5_saves 16 = .ok (.iconst (-1), 1) := by decide +kernel
theorem dX5_saves_17 : decode cX5_saves 17 = .ok (.ireturn, 1) := by decide +kernel
theorem dX5_saves_18 : decode cX5_saves 18 = .ok (.aload_n 0, 1) := by decide +kernel
theorem dX5_saves_19 : decode cX5_saves 19 = .ok (.getfield 58, 3) := by decide +kernel
theorem dX5_saves_22 : decode cX5_saves 22 = .ok (.getfield 125, 3) := by decide +kernel
theorem dX5_saves_25 : decode cX5_saves 25 = .ok (.iload_n 1, 1) := by decide +kernel
theorem dX5_saves_26 : decode cX5_saves 26 = .ok (.iaload, 1) := by decide +kernel
theorem dX5_saves_27 : decode cX5_saves 27 = .ok (.istore_n 3, 1) := by decide +kernel
theorem dX5_saves_28 : decode cX5_saves 28 = .ok (.aload_n 0, 1) := by decide +kernel
theorem dX5_saves_29 : decode cX5_saves 29 = .ok (.iload_n 1, 1) := by decide +kernel
theorem dX5_saves_30 : decode cX5_saves 30 = .ok (.iload_n 2, 1) := by decide +kernel
theorem dX5_saves_31 : decode cX5_saves 31 = .ok (.iconst 1, 1) := by decide +kernel
theorem dX5_saves_32 : decode cX5_saves 32 = .ok (.bipush (-9), 2) := by decide +kernel
theorem dX5_saves_34 : decode cX5_saves 34 = .ok (.bipush (-9), 2) := by decide +kernel
theorem dX5_saves_36 : decode cX5_saves 36 = .ok (.invokevirtual 186, 3) := by decide +kernel
theorem dX5_saves_39 : decode cX5_saves 39 = .ok (.istore 4, 2) := by decide +kernel
theorem dX5_saves_41 : decode cX5_saves 41 = .ok (.bipush (-9), 2) := by decide +kernel
theorem dX5_saves_43 : decode cX5_saves 43 = .ok (.istore 5, 2) := by decide +kernel
theorem dX5_saves_45 : decode cX5_saves 45 = .ok (.iconst 0, 1) := by decide +kernel
theorem dX5_saves_46 : decode cX5_saves 46 = .ok (.istore 6, 2) := by decide +kernel
theorem dX5_saves_48 : decode cX5_saves 48 = .ok (.iload 6, 2) := by decide +kernel
theorem dX5_saves_50 : decode cX5_saves 50 = .ok (.aload_n 0, 1) := by decide +kernel
theorem dX5_saves_51 : decode cX5_saves 51 = .ok (.getfield 58, 3) := by decide +kernel
theorem dX5_saves_54 : decode cX5_saves 54 = .ok (.getfield 206, 3) := by decide +kernel
theorem dX5_saves_57 : decode cX5_saves 57 = .ok (.if_icmp .ge 110, 3) := by decide +kernel
theorem dX5_saves_60 : decode cX5_saves 60 = .ok (.iload 6, 2) := by decide +kernel
theorem dX5_saves_62 : decode cX5_saves 62 = .ok (.iconst 1, 1) := by decide +kernel
theorem dX5_saves_63 : decode cX5_saves 63 = .ok (.iadd, 1) := by decide +kernel
theorem dX5_saves_64 : decode cX5_saves 64 = .ok (.istore 7, 2) := by decide +kernel
theorem dX5_saves_66 : decode cX5_saves 66 = .ok (.iload 7, 2) := by decide +kernel
theorem dX5_saves_68 : decode cX5_saves 68 = .ok (.aload_n 0, 1) := by decide +kernel
theorem dX5_saves_69 : decode cX5_saves 69 = .ok (.getfield 58, 3) := by decide +kernel
theorem dX5_saves_72 : decode cX5_saves 72 = .ok (.getfield 206, 3) := by decide +kernel
theorem dX5_saves_75 : decode cX5_saves 75 = .ok (.if_icmp .ge 86, 3) := by decide +kernel
theorem dX5_saves_78 : decode cX5_saves 78 = .ok (.aload_n 0, 1) := by decide +kernel
theorem dX5_saves_79 : decode cX5_saves 79 = .ok (.getfield 58, 3) := by decide +kernel
theorem dX5_saves_82 : decode cX5_saves 82 = .ok (.getfield 116, 3) := by decide +kernel
theorem dX5_saves_85 : decode cX5_saves 85 = .ok (.iload 6, 2) := by decide +kernel
theorem dX5_saves_87 : decode cX5_saves 87 = .ok (.iaload, 1) := by decide +kernel
theorem dX5_saves_88 : decode cX5_saves 88 = .ok (.iload 7, 2) := by decide +kernel
theorem dX5_saves_90 : decode cX5_saves 90 = .ok (.invokestatic 143, 3) := by decide +kernel
theorem dX5_saves_93 : decode cX5_saves 93 = .ok (.ifCond .eq 62, 3) := by decide +kernel
theorem dX5_saves_96 : decode cX5_saves 96 = .ok (.aload_n 0, 1) := by decide +kernel
theorem dX5_saves_97 : decode cX5_saves 97 = .ok (.getfield 58, 3) := by decide +kernel
theorem dX5_saves_100 : decode cX5_saves 100 = .ok (.getfield 209, 3) := by decide +kernel
theorem dX5_saves_103 : decode cX5_saves 103 = .ok (.iload 6, 2) := by decide +kernel
theorem dX5_saves_105 : decode cX5_saves 105 = .ok (.aaload, 1) := by decide +kernel
theorem dX5_saves_106 : decode cX5_saves 106 = .ok (.iload 7, 2) := by decide +kernel
theorem dX5_saves_108 : decode cX5_saves 108 = .ok (.iaload, 1) := by decide +kernel
theorem dX5_saves_109 : decode cX5_saves 109 = .ok (.iload_n 3, 1) := by decide +kernel
theorem dX5_saves_110 : decode cX5_saves 110 = .ok (.invokestatic 143, 3) := by decide +kernel
theorem dX5_saves_113 : decode cX5_saves 113 = .ok (.ifCond .ne 42, 3) := by decide +kernel
theorem dX5_saves_116 : decode cX5_saves 116 = .ok (.aload_n 0, 1) := by decide +kernel
theorem dX5_saves_117 : decode cX5_saves 117 = .ok (.iload_n 1, 1) := by decide +kernel
theorem dX5_saves_118 : decode cX5_saves 118 = .ok (.iload_n 2, 1) := by decide +kernel
theorem dX5_saves_119 : decode cX5_saves 119 = .ok (.iconst 1, 1) := by decide +kernel
theorem dX5_saves_120 : decode cX5_saves 120 = .ok (.iload 6, 2) := by decide +kernel
theorem dX5_saves_122 : decode cX5_saves 122 = .ok (.iload 7, 2) := by decide +kernel
theorem dX5_saves_124 : decode cX5_saves 124 = .ok (.invokevirtual 186, 3) := by decide +kernel
theorem dX5_saves_127 : decode cX5_saves 127 = .ok (.istore 8, 2) := by decide +kernel
theorem dX5_saves_129 : decode cX5_saves 129 = .ok (.iload 8, 2) := by decide +kernel
theorem dX5_saves_131 : decode cX5_saves 131 = .ok (.iload 4, 2) := by decide +kernel
theorem dX5_saves_133 : decode cX5_saves 133 = .ok (.if_icmp .ge 22, 3) := by decide +kernel
theorem dX5_saves_136 : decode cX5_saves 136 = .ok (.iload 8, 2) := by decide +kernel
theorem dX5_saves_138 : decode cX5_saves 138 = .ok (.istore 4, 2) := by decide +kernel
theorem dX5_saves_140 : decode cX5_saves 140 = .ok (.bipush 100, 2) := by decide +kernel
theorem dX5_saves_142 : decode cX5_saves 142 = .ok (.iload 6, 2) := by decide +kernel
theorem dX5_saves_144 : decode cX5_saves 144 = .ok (.imul, 1) := by decide +kernel
theorem dX5_saves_145 : decode cX5_saves 145 = .ok (.bipush 10, 2) := by decide +kernel
theorem dX5_saves_147 : decode cX5_saves 147 = .ok (.iload 7, 2) := by decide +kernel
theorem dX5_saves_149 : decode cX5_saves 149 = .ok (.imul, 1) := by decide +kernel
theorem dX5_saves_150 : decode cX5_saves 150 = .ok (.iadd, 1) := by decide +kernel
theorem dX5_saves_151 : decode cX5_saves 151 = .ok (.iload_n 3, 1) := by decide +kernel
theorem dX5_saves_152 : decode cX5_saves 152 = .ok (.iadd, 1) := by decide +kernel
theorem dX5_saves_153 : decode cX5_saves 153 = .ok (.istore 5, 2) := by decide +kernel
theorem dX5_saves_155 : decode cX5_saves 155 = .ok (.iinc 7 1, 3) := by decide +kernel
theorem dX5_saves_158 : decode cX5_saves 158 = .ok (.goto (-92), 3) := by decide +kernel
theorem dX5_saves_161 : decode cX5_saves 161 = .ok (.iinc 6 1, 3) := by decide +kernel
theorem dX5_saves_164 : decode cX5_saves 164 = .ok (.goto (-116), 3) := by decide +kernel
theorem dX5_saves_167 : decode cX5_saves 167 = .ok (.iload 5, 2) := by decide +kernel
theorem dX5_saves_169 : decode cX5_saves 169 = .ok (.ireturn, 1) := by decide +kernel
theorem dX5_drops_0 : decode cX5_drops 0 = .ok (.aload_n 0, 1) := by decide +kernel
theorem dX5_drops_1 : decode cX5_drops 1 = .ok (.iload_n 1, 1) := by decide +kernel
theorem dX5_drops_2 : decode cX5_drops 2 = .ok (.invokevirtual 122, 3) := by decide +kernel
theorem dX5_drops_5 : decode cX5_drops 5 = .ok (.ifCond .eq 13, 3) := by decide +kernel
theorem dX5_drops_8 : decode cX5_drops 8 = .ok (.iload_n 2, 1) := by decide +kernel
theorem dX5_drops_9 : decode cX5_drops 9 = .ok (.iconst 0, 1) := by decide +kernel
theorem dX5_drops_10 : decode cX5_drops 10 = .ok (.bipush 20, 2) := by decide +kernel
theorem dX5_drops_12 : decode cX5_drops 12 = .ok (.invokestatic 71, 3) := by decide +kernel
theorem dX5_drops_15 : decode cX5_drops 15 = .ok (.ifCond .ne 5, 3) := by decide +kernel
theorem dX5_drops_18 : decode cX5_drops 18 = .ok (.iconst (-1), 1) := by decide +kernel
theorem dX5_drops_19 : decode cX5_drops 19 = .ok (.ireturn, 1) := by decide +kernel
theorem dX5_drops_20 : decode cX5_drops 20 = .ok (.aload_n 0, 1) := by decide +kernel
theorem dX5_drops_21 : decode cX5_drops 21 = .ok (.getfield 58, 3) := by decide +kernel
theorem dX5_drops_24 : decode cX5_drops 24 = .ok (.aload_n 0, 1) := by decide +kernel
theorem dX5_drops_25 : decode cX5_drops 25 = .ok (.getfield 19, 3) := by decide +kernel
theorem dX5_drops_28 : decode cX5_drops 28 = .ok (.getfield 134, 3) := by decide +kernel
theorem dX5_drops_31 : decode cX5_drops 31 = .ok (.iload_n 1, 1) := by decide +kernel
theorem dX5_drops_32 : decode cX5_drops 32 = .ok (.iaload, 1) := by decide +kernel
theorem dX5_drops_33 : decode cX5_drops 33 = .ok (.aload_n 0, 1) := by decide +kernel
theorem dX5_drops_34 : decode cX5_drops 34 = .ok (.getfield 58, 3) := by decide +kernel
theorem dX5_drops_37 : decode cX5_drops 37 = .ok (.getfield 128, 3) := by decide +kernel
theorem dX5_drops_40 : decode cX5_drops 40 = .ok (.iload_n 1, 1) := by decide +kernel
theorem dX5_drops_41 : decode cX5_drops 41 = .ok (.iaload, 1) := by decide +kernel
theorem dX5_drops_42 : decode cX5_drops 42 = .ok (.iload_n 2, 1) := by decide +kernel
theorem dX5_drops_43 : decode cX5_drops 43 = .ok (.invokevirtual 213, 3) := by decide +kernel
theorem dX5_drops_46 : decode cX5_drops 46 = .ok (.ireturn, 1) := by decide +kernel
theorem dX5_lay_0 : decode cX5_lay 0 = .ok (.aload_n 0, 1) := by decide +kernel
theorem dX5_lay_1 : decode cX5_lay 1 = .ok (.iload_n 1, 1) := by decide +kernel
theorem dX5_lay_2 : decode cX5_lay 2 = .ok (.invokevirtual 122, 3) := by decide +kernel
theorem dX5_lay_5 : decode cX5_lay 5 = .ok (.ifCond .eq 13, 3) := by decide +kernel
theorem dX5_lay_8 : decode cX5_lay 8 = .ok (.iload_n 2, 1) := by decide +kernel
theorem dX5_lay_9 : decode cX5_lay 9 = .ok (.iconst 0, 1) := by decide +kernel
theorem dX5_lay_10 : decode cX5_lay 10 = .ok (.bipush 20, 2) := by decide +kernel
theorem dX5_lay_12 : decode cX5_lay 12 = .ok (.invokestatic 71, 3) := by decide +kernel
theorem dX5_lay_15 : decode cX5_lay 15 = .ok (.ifCond .ne 5, 3) := by decide +kernel
theorem dX5_lay_18 : decode cX5_lay 18 = .ok (.iconst (-1), 1) := by decide +kernel
theorem dX5_lay_19 : decode cX5_lay 19 = .ok (.ireturn, 1) := by decide +kernel
theorem dX5_lay_20 : decode cX5_lay 20 = .ok (.iconst 0, 1) := by decide +kernel
theorem dX5_lay_21 : decode cX5_lay 21 = .ok (.istore_n 3, 1) := by decide +kernel
theorem dX5_lay_22 : decode cX5_lay 22 = .ok (.iconst 0, 1) := by decide +kernel
theorem dX5_lay_23 : decode cX5_lay 23 = .ok (.istore 4, 2) := by decide +kernel
theorem dX5_lay_25 : decode cX5_lay 25 = .ok (.iload 4, 2) := by decide +kernel
theorem dX5_lay_27 : decode cX5_lay 27 = .ok (.aload_n 0, 1) := by decide +kernel
theorem dX5_lay_28 : decode cX5_lay 28 = .ok (.getfield 58, 3) := by decide +kernel
theorem dX5_lay_31 : decode cX5_lay 31 = .ok (.getfield 206, 3) := by decide +kernel
theorem dX5_lay_34 : decode cX5_lay 34 = .ok (.if_icmp .ge 47, 3) := by decide +kernel
theorem dX5_lay_37 : decode cX5_lay 37 = .ok (.aload_n 0, 1) := by decide +kernel
theorem dX5_lay_38 : decode cX5_lay 38 = .ok (.getfield 58, 3) := by decide +kernel
theorem dX5_lay_41 : decode cX5_lay 41 = .ok (.iload 4, 2) := by decide +kernel
theorem dX5_lay_43 : decode cX5_lay 43 = .ok (.aload_n 0, 1) := by decide +kernel
theorem dX5_lay_44 : decode cX5_lay 44 = .ok (.getfield 58, 3) := by decide +kernel
theorem dX5_lay_47 : decode cX5_lay 47 = .ok (.getfield 128, 3) := by decide +kernel
theorem dX5_lay_50 : decode cX5_lay 50 = .ok (.iload_n 1, 1) := by decide +kernel
theorem dX5_lay_51 : decode cX5_lay 51 = .ok (.iaload, 1) := by decide +kernel
theorem dX5_lay_52 : decode cX5_lay 52 = .ok (.iload_n 2, 1) := by decide +kernel
theorem dX5_lay_53 : decode cX5_lay 53 = .ok (.invokevirtual 213, 3) := by decide +kernel
theorem dX5_lay_56 : decode cX5_lay 56 = .ok (.aload_n 0, 1) := by decide +kernel
theorem dX5_lay_57 : decode cX5_lay 57 = .ok (.getfield 19, 3) := by decide +kernel
theorem dX5_lay_60 : decode cX5_lay 60 = .ok (.getfield 134, 3) := by decide +kernel
theorem dX5_lay_63 : decode cX5_lay 63 = .ok (.iload_n 1, 1) := by decide +kernel
theorem dX5_lay_64 : decode cX5_lay 64 = .ok (.iaload, 1) := by decide +kernel
theorem dX5_lay_65 : decode cX5_lay 65 = .ok (.if_icmp .ne 10, 3) := by decide +kernel
theorem dX5_lay_68 : decode cX5_lay 68 = .ok (.iload_n 3, 1) := by decide +kernel
theorem dX5_lay_69 : decode cX5_lay 69 = .ok (.iconst 1, 1) := by decide +kernel
theorem dX5_lay_70 : decode cX5_lay 70 = .ok (.iload 4, 2) := by decide +kernel
theorem dX5_lay_72 : decode cX5_lay 72 = .ok (.ishl, 1) := by decide +kernel
theorem dX5_lay_73 : decode cX5_lay 73 = .ok (.ior, 1) := by decide +kernel
theorem dX5_lay_74 : decode cX5_lay 74 = .ok (.istore_n 3, 1) := by decide +kernel
theorem dX5_lay_75 : decode cX5_lay 75 = .ok (.iinc 4 1, 3) := by decide +kernel
theorem dX5_lay_78 : decode cX5_lay 78 = .ok (.goto (-53), 3) := by decide +kernel
theorem dX5_lay_81 : decode cX5_lay 81 = .ok (.iload_n 3, 1) := by decide +kernel
theorem dX5_lay_82 : decode cX5_lay 82 = .ok (.ireturn, 1) := by decide +kernel
theorem dX5_stitches_0 : decode cX5_stitches 0 = .ok (.aload_n 0, 1) := by decide +kernel
theorem dX5_stitches_1 : decode cX5_stitches 1 = .ok (.iload_n 1, 1) := by decide +kernel
theorem dX5_stitches_2 : decode cX5_stitches 2 = .ok (.invokevirtual 93, 3) := by decide +kernel
theorem dX5_stitches_5 : decode cX5_stitches 5 = .ok (.ifCond .eq 25, 3) := by decide +kernel
theorem dX5_stitches_8 : decode cX5_stitches 8 = .ok (.aload_n 0, 1) := by decide +kernel
theorem dX5_stitches_9 : decode cX5_stitches 9 = .ok (.iload_n 2, 1) := by decide +kernel
theorem dX5_stitches_10 : decode cX5_stitches 10 = .ok (.invokevirtual 93, 3) := by decide +kernel
theorem dX5_stitches_13 : decode cX5_stitches 13 = .ok (.ifCond .eq 17, 3) := by decide +kernel
theorem dX5_stitches_16 : decode cX5_stitches 16 = .ok (.iload_n 1, 1) := by decide +kernel
theorem dX5_stitches_17 : decode cX5_stitches 17 = .ok (.iload_n 2, 1) := by decide +kernel
theorem dX5_stitches_18 : decode cX5_stitches 18 = .ok (.if_icmp .eq 12, 3) := by decide +kernel
theorem dX5_stitches_21 : decode cX5_stitches 21 = .ok (.iload_n 3, 1) := by decide +kernel
theorem dX5_stitches_22 : decode cX5_stitches 22 = .ok (.iconst 0, 1) := by decide +kernel
theorem dX5_stitches_23 : decode cX5_stitches 23 = .ok (.iconst 1, 1) := by decide +kernel
theorem dX5_stitches_24 : decode cX5_stitches 24 = .ok (.invokestatic 71, 3) := by decide +kernel
theorem dX5_stitches_27 : decode cX5_stitches 27 = .ok (.ifCond .ne 5, 3) := by decide +kernel
theorem dX5_stitches_30 : decode cX5_stitches 30 = .ok (.iconst (-1), 1) := by decide +kernel
theorem dX5_stitches_31 : decode cX5_stitches 31 = .ok (.ireturn, 1) := by decide +kernel
theorem dX5_stitches_32 : decode cX5_stitches 32 = .ok (.aload_n 0, 1) := by decide +kernel
theorem dX5_stitches_33 : decode cX5_stitches 33 = .ok (.getfield 58, 3) := by decide +kernel
theorem dX5_stitches_36 : decode cX5_stitches 36 = .ok (.iload_n 1, 1) := by decide +kernel
theorem dX5_stitches_37 : decode cX5_stitches 37 = .ok (.iload_n 2, 1) := by decide +kernel
theorem dX5_stitches_38 : decode cX5_stitches 38 = .ok (.bipush (-9), 2) := by decide +kernel
theorem dX5_stitches_40 : decode cX5_stitches 40 = .ok (.invokevirtual 216, 3) := by decide +kernel
theorem dX5_stitches_43 : decode cX5_stitches 43 = .ok (.istore 4, 2) := by decide +kernel
theorem dX5_stitches_45 : decode cX5_stitches 45 = .ok (.iload_n 3, 1) := by decide +kernel
theorem dX5_stitches_46 : decode cX5_stitches 46 = .ok (.ifCond .ne 14, 3) := by decide +kernel
theorem dX5_stitches_49 : decode cX5_stitches 49 = .ok (.iload 4, 2) := by decide +kernel
theorem dX5_stitches_51 : decode cX5_stitches 51 = .ok (.ifCond .eq 7, 3) := by decide +kernel
theorem dX5_stitches_54 : decode cX5_stitches 54 = .ok (.iconst 1, 1) := by decide +kernel
theorem dX5_stitches_55 : decode cX5_stitches 55 = .ok (.goto 4, 3) := by decide +kernel
theorem dX5_stitches_58 : decode cX5_stitches 58 = .ok (.iconst 0, 1) := by decide +kernel
theorem dX5_stitches_59 : decode cX5_stitches 59 = .ok (.ireturn, 1) := by decide +kernel
theorem dX5_stitches_60 : decode cX5_stitches 60 = .ok (.iload 4, 2) := by decide +kernel
theorem dX5_stitches_62 : decode cX5_stitches 62 = .ok (.ifCond .eq 15, 3) := by decide +kernel
theorem dX5_stitches_65 : decode cX5_stitches 65 = .ok (.aload_n 0, 1) := by decide +kernel
theorem dX5_stitches_66 : decode cX5_stitches 66 = .ok (.getfield 58, 3) := by decide +kernel
theorem dX5_stitches_69 : decode cX5_stitches 69 = .ok (.iload_n 1, 1) := by decide +kernel
theorem dX5_stitches_70 : decode cX5_stitches 70 = .ok (.iload_n 2, 1) := by decide +kernel
theorem dX5_stitches_71 : decode cX5_stitches 71 = .ok (.invokevirtual 219, 3) := by decide +kernel
theorem dX5_stitches_74 : decode cX5_stitches 74 = .ok (.goto 5, 3) := by decide +kernel
theorem dX5_stitches_77 : decode cX5_stitches 77 = .ok (.bipush (-9), 2) := by decide +kernel
theorem dX5_stitches_79 : decode cX5_stitches 79 = .ok (.ireturn, 1) := by decide +kernel
theorem dX5_odds_0 : decode cX5_odds 0 = .ok (.aload_n 0, 1) := by decide +kernel
theorem dX5_odds_1 : decode cX5_odds 1 = .ok (.iload_n 1, 1) := by decide +kernel
theorem dX5_odds_2 : decode cX5_odds 2 = .ok (.invokevirtual 122, 3) := by decide +kernel
theorem dX5_odds_5 : decode cX5_odds 5 = .ok (.ifCond .eq 21, 3) := by decide +kernel
theorem dX5_odds_8 : decode cX5_odds 8 = .ok (.aload_n 0, 1) := by decide +kernel
theorem dX5_odds_9 : decode cX5_odds 9 = .ok (.iload_n 2, 1) := by decide +kernel
theorem dX5_odds_10 : decode cX5_odds 10 = .ok (.invokevirtual 93, 3) := by decide +kernel
theorem dX5_odds_13 : decode cX5_odds 13 = .ok (.ifCond .eq 13, 3) := by decide +kernel
theorem dX5_odds_16 : decode cX5_odds 16 = .ok (.iload 5, 2) := by decide +kernel
theorem dX5_odds_18 : decode cX5_odds 18 = .ok (.iconst 0, 1) := by decide +kernel
theorem dX5_odds_19 : decode cX5_odds 19 = .ok (.iconst 1, 1) := by decide +kernel
theorem dX5_odds_20 : decode cX5_odds 20 = .ok (.invokestatic 71, 3) := by decide +kernel
theorem dX5_odds_23 : decode cX5_odds 23 = .ok (.ifCond .ne 5, 3) := by decide +kernel
theorem dX5_odds_26 : decode cX5_odds 26 = .ok (.iconst (-1), 1) := by decide +kernel
theorem dX5_odds_27 : decode cX5_odds 27 = .ok (.ireturn, 1) := by decide +kernel
theorem dX5_odds_28 : decode cX5_odds 28 = .ok (.iload_n 3, 1) := by decide +kernel
theorem dX5_odds_29 : decode cX5_odds 29 = .ok (.iconst 0, 1) := by decide +kernel
theorem dX5_odds_30 : decode cX5_odds 30 = .ok (.bipush 10, 2) := by decide +kernel
theorem dX5_odds_32 : decode cX5_odds 32 = .ok (.invokestatic 71, 3) := by decide +kernel
theorem dX5_odds_35 : decode cX5_odds 35 = .ok (.ifCond .eq 14, 3) := by decide +kernel
theorem dX5_odds_38 : decode cX5_odds 38 = .ok (.iload 4, 2) := by decide +kernel
theorem dX5_odds_40 : decode cX5_odds 40 = .ok (.iconst 0, 1) := by decide +kernel
theorem dX5_odds_41 : decode cX5_odds 41 = .ok (.bipush 6, 2) := by decide +kernel
theorem dX5_odds_43 : decode cX5_odds 43 = .ok (.invokestatic 71, 3) := by decide +kernel
theorem dX5_odds_46 : decode cX5_odds 46 = .ok (.ifCond .ne 5, 3) := by decide +kernel
theorem dX5_odds_49 : decode cX5_odds 49 = .ok (.iconst (-1), 1) := by decide +kernel
theorem dX5_odds_50 : decode cX5_odds 50 = .ok (.ireturn, 1) := by decide +kernel
theorem dX5_odds_51 : decode cX5_odds 51 = .ok (.aload_n 0, 1) := by decide +kernel
theorem dX5_odds_52 : decode cX5_odds 52 = .ok (.getfield 49, 3) := by decide +kernel
theorem dX5_odds_55 : decode cX5_odds 55 = .ok (.iconst 0, 1) := by decide +kernel
theorem dX5_odds_56 : decode cX5_odds 56 = .ok (.invokestatic 222, 3) := by decide +kernel
theorem dX5_odds_59 : decode cX5_odds 59 = .ok (.aload_n 0, 1) := by decide +kernel
theorem dX5_odds_60 : decode cX5_odds 60 = .ok (.getfield 49, 3) := by decide +kernel
theorem dX5_odds_63 : decode cX5_odds 63 = .ok (.aload_n 0, 1) := by decide +kernel
theorem dX5_odds_64 : decode cX5_odds 64 = .ok (.getfield 19, 3) := by decide +kernel
theorem dX5_odds_67 : decode cX5_odds 67 = .ok (.getfield 134, 3) := by decide +kernel
theorem dX5_odds_70 : decode cX5_odds 70 = .ok (.iload_n 1, 1) := by decide +kernel
theorem dX5_odds_71 : decode cX5_odds 71 = .ok (.iaload, 1) := by decide +kernel
theorem dX5_odds_72 : decode cX5_odds 72 = .ok (.iconst 1, 1) := by decide +kernel
theorem dX5_odds_73 : decode cX5_odds 73 = .ok (.iastore, 1) := by decide +kernel
theorem dX5_odds_74 : decode cX5_odds 74 = .ok (.iconst 1, 1) := by decide +kernel
theorem dX5_odds_75 : decode cX5_odds 75 = .ok (.istore 6, 2) := by decide +kernel
theorem dX5_odds_77 : decode cX5_odds 77 = .ok (.iconst 0, 1) := by decide +kernel
theorem dX5_odds_78 : decode cX5_odds 78 = .ok (.istore 7, 2) := by decide +kernel
theorem dX5_odds_80 : decode cX5_odds 80 = .ok (.iload 7, 2) := by decide +kernel
theorem dX5_odds_82 : decode cX5_odds 82 = .ok (.iload 4, 2) := by decide +kernel
theorem dX5_odds_84 : decode cX5_odds 84 = .ok (.if_icmp .ge 30, 3) := by decide +kernel
theorem dX5_odds_87 : decode cX5_odds 87 = .ok (.aload_n 0, 1) := by decide +kernel
theorem dX5_odds_88 : decode cX5_odds 88 = .ok (.aload_n 0, 1) := by decide +kernel
theorem dX5_odds_89 : decode cX5_odds 89 = .ok (.getfield 58, 3) := by decide +kernel
theorem dX5_odds_92 : decode cX5_odds 92 = .ok (.getfield 128, 3) := by decide +kernel
theorem dX5_odds_95 : decode cX5_odds 95 = .ok (.iload_n 1, 1) := by decide +kernel
theorem dX5_odds_96 : decode cX5_odds 96 = .ok (.iaload, 1) := by decide +kernel
theorem dX5_odds_97 : decode cX5_odds 97 = .ok (.iload_n 3, 1) := by decide +kernel
theorem dX5_odds_98 : decode cX5_odds 98 = .ok (.invokevirtual 228, 3) := by decide +kernel
theorem dX5_odds_101 : decode cX5_odds 101 = .ok (.iload 6, 2) := by decide +kernel
theorem dX5_odds_103 : decode cX5_odds 103 = .ok (.bipush 10, 2) := by decide +kernel
theorem dX5_odds_105 : decode cX5_odds 105 = .ok (.imul, 1) := by decide +kernel
theorem dX5_odds_106 : decode cX5_odds 106 = .ok (.istore 6, 2) := by decide +kernel
theorem dX5_odds_108 : decode cX5_odds 108 = .ok (.iinc 7 1, 3) := by decide +kernel
theorem dX5_odds_111 : decode cX5_odds 111 = .ok (.goto (-31), 3) := by decide +kernel
theorem dX5_odds_114 : decode cX5_odds 114 = .ok (.aload_n 0, 1) := by decide +kernel
theorem dX5_odds_115 : decode cX5_odds 115 = .ok (.getfield 49, 3) := by decide +kernel
theorem dX5_odds_118 : decode cX5_odds 118 = .ok (.iload_n 2, 1) := by decide +kernel
theorem dX5_odds_119 : decode cX5_odds 119 = .ok (.iaload, 1) := by decide +kernel
theorem dX5_odds_120 : decode cX5_odds 120 = .ok (.istore 7, 2) := by decide +kernel
theorem dX5_odds_122 : decode cX5_odds 122 = .ok (.iload 7, 2) := by decide +kernel
theorem dX5_odds_124 : decode cX5_odds 124 = .ok (.iload 6, 2) := by decide +kernel
theorem dX5_odds_126 : decode cX5_odds 126 = .ok (.invokestatic 232, 3) := by decide +kernel
theorem dX5_odds_129 : decode cX5_odds 129 = .ok (.istore 8, 2) := by decide +kernel
theorem dX5_odds_131 : decode cX5_odds 131 = .ok (.iload 5, 2) := by decide +kernel
theorem dX5_odds_133 : decode cX5_odds 133 = .ok (.ifCond .ne 8, 3) := by decide +kernel
theorem dX5_odds_136 : decode cX5_odds 136 = .ok (.iload 7, 2) := by decide +kernel
theorem dX5_odds_138 : decode cX5_odds 138 = .ok (.goto 5, 3) := by decide +kernel
theorem dX5_odds_141 : decode cX5_odds 141 = .ok (.iload 6, 2) := by decide +kernel
theorem dX5_odds_143 : decode cX5_odds 143 = .ok (.iload 8, 2) := by decide +kernel
theorem dX5_odds_145 : decode cX5_odds 145 = .ok (.idiv, 1) := by decide +kernel
theorem dX5_odds_146 : decode cX5_odds 146 = .ok (.ireturn, 1) := by decide +kernel
theorem dX5_rate_0 : decode cX5_rate 0 = .ok (.aload_n 0, 1) := by decide +kernel
theorem dX5_rate_1 : decode cX5_rate 1 = .ok (.iload_n 2, 1) := by decide +kernel
theorem dX5_rate_2 : decode cX5_rate 2 = .ok (.invokevirtual 93, 3) := by decide +kernel
theorem dX5_rate_5 : decode cX5_rate 5 = .ok (.ifCond .ne 6, 3) := by decide +kernel
theorem dX5_rate_8 : decode cX5_rate 8 = .ok (.ldc 235, 2) := by decide +kernel
theorem dX5_rate_10 : decode cX5_rate 10 = .ok (.ireturn, 1) := by decide +kernel
theorem dX5_rate_11 : decode cX5_rate 11 = .ok (.iload_n 1, 1) := by decide +kernel
theorem dX5_rate_12 : decode cX5_rate 12 = .ok (.tableswitch 76 0 5 #[40, 46, 52, 58, 64, 70], 40) := by decide +kernel
theorem dX5_rate_52 : decode cX5_rate 52 = .ok (.aload_n 0, 1) := by decide +kernel
theorem dX5_rate_53 : decode cX5_rate 53 = .ok (.iload_n 2, 1) := by decide +kernel
theorem dX5_rate_54 : decode cX5_rate 54 = .ok (.invokevirtual 236, 3) := by decide +kernel
theorem dX5_rate_57 : decode cX5_rate 57 = .ok (.ireturn, 1) := by decide +kernel
theorem dX5_rate_58 : decode cX5_rate 58 = .ok (.aload_n 0, 1) := by decide +kernel
theorem dX5_rate_59 : decode cX5_rate 59 = .ok (.iload_n 2, 1) := by decide +kernel
theorem dX5_rate_60 : decode cX5_rate 60 = .ok (.invokevirtual 239, 3) := by decide +kernel
theorem dX5_rate_63 : decode cX5_rate 63 = .ok (.ireturn, 1) := by decide +kernel
theorem dX5_rate_64 : decode cX5_rate 64 = .ok (.aload_n 0, 1) := by decide +kernel
theorem dX5_rate_65 : decode cX5_rate 65 = .ok (.iload_n 2, 1) := by decide +kernel
theorem dX5_rate_66 : decode cX5_rate 66 = .ok (.invokevirtual 242, 3) := by decide +kernel
theorem dX5_rate_69 : decode cX5_rate 69 = .ok (.ireturn, 1) := by decide +kernel
theorem dX5_rate_70 : decode cX5_rate 70 = .ok (.aload_n 0, 1) := by decide +kernel
theorem dX5_rate_71 : decode cX5_rate 71 = .ok (.iload_n 2, 1) := by decide +kernel
theorem dX5_rate_72 : decode cX5_rate 72 = .ok (.invokevirtual 245, 3) := by decide +kernel
theorem dX5_rate_75 : decode cX5_rate 75 = .ok (.ireturn, 1) := by decide +kernel
theorem dX5_rate_76 : decode cX5_rate 76 = .ok (.aload_n 0, 1) := by decide +kernel
theorem dX5_rate_77 : decode cX5_rate 77 = .ok (.iload_n 2, 1) := by decide +kernel
theorem dX5_rate_78 : decode cX5_rate 78 = .ok (.invokevirtual 248, 3) := by decide +kernel
theorem dX5_rate_81 : decode cX5_rate 81 = .ok (.ireturn, 1) := by decide +kernel
theorem dX5_rate_82 : decode cX5_rate 82 = .ok (.aload_n 0, 1) := by decide +kernel
theorem dX5_rate_83 : decode cX5_rate 83 = .ok (.iload_n 2, 1) := by decide +kernel
theorem dX5_rate_84 : decode cX5_rate 84 = .ok (.invokevirtual 251, 3) := by decide +kernel
theorem dX5_rate_87 : decode cX5_rate 87 = .ok (.ireturn, 1) := by decide +kernel
theorem dX5_rate_88 : decode cX5_rate 88 = .ok (.ldc 235, 2) := by decide +kernel
theorem dX5_rate_90 : decode cX5_rate 90 = .ok (.ireturn, 1) := by decide +kernel
theorem dX5_keep_0 : decode cX5_keep 0 = .ok (.iload_n 1, 1) := by decide +kernel
theorem dX5_keep_1 : decode cX5_keep 1 = .ok (.iconst 0, 1) := by decide +kernel
theorem dX5_keep_2 : decode cX5_keep 2 = .ok (.iconst 1, 1) := by decide +kernel
theorem dX5_keep_3 : decode cX5_keep 3 = .ok (.invokestatic 71, 3) := by decide +kernel
theorem dX5_keep_6 : decode cX5_keep 6 = .ok (.ifCond .ne 5, 3) := by decide +kernel
theorem dX5_keep_9 : decode cX5_keep 9 = .ok (.iconst (-1), 1) := by decide +kernel
theorem dX5_keep_10 : decode cX5_keep 10 = .ok (.ireturn, 1) := by decide +kernel
theorem dX5_keep_11 : decode cX5_keep 11 = .ok (.aload_n 0, 1) := by decide +kernel
theorem dX5_keep_12 : decode cX5_keep 12 = .ok (.getfield 30, 3) := by decide +kernel
theorem dX5_keep_15 : decode cX5_keep 15 = .ok (.iload_n 1, 1) := by decide +kernel
theorem dX5_keep_16 : decode cX5_keep 16 = .ok (.aaload, 1) := by decide +kernel
theorem dX5_keep_17 : decode cX5_keep 17 = .ok (.aload_n 0, 1) := by decide +kernel
theorem dX5_keep_18 : decode cX5_keep 18 = .ok (.getfield 19, 3) := by decide +kernel
theorem dX5_keep_21 : decode cX5_keep 21 = .ok (.invokevirtual 254, 3) := by decide +kernel
theorem dX5_keep_24 : decode cX5_keep 24 = .ok (.aload_n 0, 1) := by decide +kernel
theorem dX5_keep_25 : decode cX5_keep 25 = .ok (.getfield 34, 3) := by decide +kernel
theorem dX5_keep_28 : decode cX5_keep 28 = .ok (.iload_n 1, 1) := by decide +kernel
theorem dX5_keep_29 : decode cX5_keep 29 = .ok (.iconst 1, 1) := by decide +kernel
theorem dX5_keep_30 : decode cX5_keep 30 = .ok (.bastore, 1) := by decide +kernel
theorem dX5_keep_31 : decode cX5_keep 31 = .ok (.aload_n 0, 1) := by decide +kernel
theorem dX5_keep_32 : decode cX5_keep 32 = .ok (.getfield 19, 3) := by decide +kernel
theorem dX5_keep_35 : decode cX5_keep 35 = .ok (.getfield 150, 3) := by decide +kernel
theorem dX5_keep_38 : decode cX5_keep 38 = .ok (.ireturn, 1) := by decide +kernel
theorem dX5_back_0 : decode cX5_back 0 = .ok (.iload_n 1, 1) := by decide +kernel
theorem dX5_back_1 : decode cX5_back 1 = .ok (.iconst 0, 1) := by decide +kernel
theorem dX5_back_2 : decode cX5_back 2 = .ok (.iconst 1, 1) := by decide +kernel
theorem dX5_back_3 : decode cX5_back 3 = .ok (.invokestatic 71, 3) := by decide +kernel
theorem dX5_back_6 : decode cX5_back 6 = .ok (.ifCond .ne 5, 3) := by decide +kernel
theorem dX5_back_9 : decode cX5_back 9 = .ok (.iconst (-1), 1) := by decide +kernel
theorem dX5_back_10 : decode cX5_back 10 = .ok (.ireturn, 1) := by decide +kernel
theorem dX5_back_11 : decode cX5_back 11 = .ok (.aload_n 0, 1) := by decide +kernel
theorem dX5_back_12 : decode cX5_back 12 = .ok (.getfield 34, 3) := by decide +kernel
theorem dX5_back_15 : decode cX5_back 15 = .ok (.iload_n 1, 1) := by decide +kernel
theorem dX5_back_16 : decode cX5_back 16 = .ok (.baload, 1) := by decide +kernel
theorem dX5_back_17 : decode cX5_back 17 = .ok (.ifCond .ne 6, 3) := by decide +kernel
theorem dX5_back_20 : decode cX5_back 20 = .ok (.bipush (-2), 2) := by decide +kernel
theorem dX5_back_22 : decode cX5_back 22 = .ok (.ireturn, 1) := by decide +kernel
theorem dX5_back_23 : decode cX5_back 23 = .ok (.aload_n 0, 1) := by decide +kernel
theorem dX5_back_24 : decode cX5_back 24 = .ok (.getfield 19, 3) := by decide +kernel
theorem dX5_back_27 : decode cX5_back 27 = .ok (.aload_n 0, 1) := by decide +kernel
theorem dX5_back_28 : decode cX5_back 28 = .ok (.getfield 30, 3) := by decide +kernel
theorem dX5_back_31 : decode cX5_back 31 = .ok (.iload_n 1, 1) := by decide +kernel
theorem dX5_back_32 : decode cX5_back 32 = .ok (.aaload, 1) := by decide +kernel
theorem dX5_back_33 : decode cX5_back 33 = .ok (.invokevirtual 254, 3) := by decide +kernel
theorem dX5_back_36 : decode cX5_back 36 = .ok (.aload_n 0, 1) := by decide +kernel
theorem dX5_back_37 : decode cX5_back 37 = .ok (.getfield 26, 3) := by decide +kernel
theorem dX5_back_40 : decode cX5_back 40 = .ok (.iconst 0, 1) := by decide +kernel
theorem dX5_back_41 : decode cX5_back 41 = .ok (.putfield 90, 3) := by decide +kernel
theorem dX5_back_44 : decode cX5_back 44 = .ok (.aload_n 0, 1) := by decide +kernel
theorem dX5_back_45 : decode cX5_back 45 = .ok (.getfield 19, 3) := by decide +kernel
theorem dX5_back_48 : decode cX5_back 48 = .ok (.getfield 150, 3) := by decide +kernel
theorem dX5_back_51 : decode cX5_back 51 = .ok (.ireturn, 1) := by decide +kernel
theorem dX5_count_0 : decode cX5_count 0 = .ok (.iload_n 1, 1) := by decide +kernel
theorem dX5_count_1 : decode cX5_count 1 = .ok (.tableswitch 63 0 3 #[31, 39, 47, 55], 31) := by decide +kernel
theorem dX5_count_32 : decode cX5_count 32 = .ok (.aload_n 0, 1) := by decide +kernel
theorem dX5_count_33 : decode cX5_count 33 = .ok (.getfield 58, 3) := by decide +kernel
theorem dX5_count_36 : decode cX5_count 36 = .ok (.getfield 206, 3) := by decide +kernel
theorem dX5_count_39 : decode cX5_count 39 = .ok (.ireturn, 1) := by decide +kernel
theorem dX5_count_40 : decode cX5_count 40 = .ok (.aload_n 0, 1) := by decide +kernel
theorem dX5_count_41 : decode cX5_count 41 = .ok (.getfield 58, 3) := by decide +kernel
theorem dX5_count_44 : decode cX5_count 44 = .ok (.getfield 177, 3) := by decide +kernel
theorem dX5_count_47 : decode cX5_count 47 = .ok (.ireturn, 1) := by decide +kernel
theorem dX5_count_48 : decode cX5_count 48 = .ok (.aload_n 0, 1) := by decide +kernel
theorem dX5_count_49 : decode cX5_count 49 = .ok (.getfield 58, 3) := by decide +kernel
theorem dX5_count_52 : decode cX5_count 52 = .ok (.getfield 257, 3) := by decide +kernel
theorem dX5_count_55 : decode cX5_count 55 = .ok (.ireturn, 1) := by decide +kernel
theorem dX5_count_56 : decode cX5_count 56 = .ok (.aload_n 0, 1) := by decide +kernel
theorem dX5_count_57 : decode cX5_count 57 = .ok (.getfield 10, 3) := by decide +kernel
theorem dX5_count_60 : decode cX5_count 60 = .ok (.getfield 75, 3) := by decide +kernel
theorem dX5_count_63 : decode cX5_count 63 = .ok (.ireturn, 1) := by decide +kernel
theorem dX5_count_64 : decode cX5_count 64 = .ok (.iconst (-1), 1) := by decide +kernel
theorem dX5_count_65 : decode cX5_count 65 = .ok (.ireturn, 1) := by decide +kernel
theorem dX5_trace_0 : decode cX5_trace 0 = .ok (.aload_n 0, 1) := by decide +kernel
theorem dX5_trace_1 : decode cX5_trace 1 = .ok (.getfield 260, 3) := by decide +kernel
theorem dX5_trace_4 : decode cX5_trace 4 = .ok (.lreturn, 1) := by decide +kernel
theorem dX5_isPocket_0 : decode cX5_isPocket 0 = .ok (.iload_n 1, 1) := by decide +kernel
theorem dX5_isPocket_1 : decode cX5_isPocket 1 = .ok (.iconst 0, 1) := by decide +kernel
theorem dX5_isPocket_2 : decode cX5_isPocket 2 = .ok (.aload_n 0, 1) := by decide +kernel
theorem dX5_isPocket_3 : decode cX5_isPocket 3 = .ok (.getfield 58, 3) := by decide +kernel
theorem dX5_isPocket_6 : decode cX5_isPocket 6 = .ok (.getfield 206, 3) := by decide +kernel
theorem dX5_isPocket_9 : decode cX5_isPocket 9 = .ok (.iconst 1, 1) := by decide +kernel
theorem dX5_isPocket_10 : decode cX5_isPocket 10 = .ok (.isub, 1) := by decide +kernel
theorem dX5_isPocket_11 : decode cX5_isPocket 11 = .ok (.invokestatic 71, 3) := by decide +kernel
theorem dX5_isPocket_14 : decode cX5_isPocket 14 = .ok (.ireturn, 1) := by decide +kernel
theorem dX5_isThing_0 : decode cX5_isThing 0 = .ok (.iload_n 1, 1) := by decide +kernel
theorem dX5_isThing_1 : decode cX5_isThing 1 = .ok (.iconst 0, 1) := by decide +kernel
theorem dX5_isThing_2 : decode cX5_isThing 2 = .ok (.aload_n 0, 1) := by decide +kernel
theorem dX5_isThing_3 : decode cX5_isThing 3 = .ok (.getfield 58, 3) := by decide +kernel
theorem dX5_isThing_6 : decode cX5_isThing 6 = .ok (.getfield 177, 3) := by decide +kernel
theorem dX5_isThing_9 : decode cX5_isThing 9 = .ok (.iconst 1, 1) := by decide +kernel
theorem dX5_isThing_10 : decode cX5_isThing 10 = .ok (.isub, 1) := by decide +kernel
theorem dX5_isThing_11 : decode cX5_isThing 11 = .ok (.invokestatic 71, 3) := by decide +kernel
theorem dX5_isThing_14 : decode cX5_isThing 14 = .ok (.ireturn, 1) := by decide +kernel
theorem dX5_filled_0 : decode cX5_filled 0 = .ok (.iconst 0, 1) := by decide +kernel
theorem dX5_filled_1 : decode cX5_filled 1 = .ok (.istore_n 2, 1) := by decide +kernel
theorem dX5_filled_2 : decode cX5_filled 2 = .ok (.iconst 0, 1) := by decide +kernel
theorem dX5_filled_3 : decode cX5_filled 3 = .ok (.istore_n 3, 1) := by decide +kernel
theorem dX5_filled_4 : decode cX5_filled 4 = .ok (.iload_n 3, 1) := by decide +kernel
theorem dX5_filled_5 : decode cX5_filled 5 = .ok (.aload_n 0, 1) := by decide +kernel
theorem dX5_filled_6 : decode cX5_filled 6 = .ok (.getfield 58, 3) := by decide +kernel
theorem dX5_filled_9 : decode cX5_filled 9 = .ok (.getfield 177, 3) := by decide +kernel
theorem dX5_filled_12 : decode cX5_filled 12 = .ok (.if_icmp .ge 34, 3) := by decide +kernel
theorem dX5_filled_15 : decode cX5_filled 15 = .ok (.aload_n 0, 1) := by decide +kernel
theorem dX5_filled_16 : decode cX5_filled 16 = .ok (.getfield 19, 3) := by decide +kernel
theorem dX5_filled_19 : decode cX5_filled 19 = .ok (.getfield 134, 3) := by decide +kernel
theorem dX5_filled_22 : decode cX5_filled 22 = .ok (.iload_n 3, 1) := by decide +kernel
theorem dX5_filled_23 : decode cX5_filled 23 = .ok (.iaload, 1) := by decide +kernel
theorem dX5_filled_24 : decode cX5_filled 24 = .ok (.iload_n 1, 1) := by decide +kernel
theorem dX5_filled_25 : decode cX5_filled 25 = .ok (.if_icmp .ne 15, 3) := by decide +kernel
theorem dX5_filled_28 : decode cX5_filled 28 = .ok (.iload_n 2, 1) := by decide +kernel
theorem dX5_filled_29 : decode cX5_filled 29 = .ok (.aload_n 0, 1) := by decide +kernel
theorem dX5_filled_30 : decode cX5_filled 30 = .ok (.getfield 58, 3) := by decide +kernel
theorem dX5_filled_33 : decode cX5_filled 33 = .ok (.getfield 128, 3) := by decide +kernel
theorem dX5_filled_36 : decode cX5_filled 36 = .ok (.iload_n 3, 1) := by decide +kernel
theorem dX5_filled_37 : decode cX5_filled 37 = .ok (.iaload, 1) := by decide +kernel
theorem dX5_filled_38 : decode cX5_filled 38 = .ok (.iadd, 1) := by decide +kernel
theorem dX5_filled_39 : decode cX5_filled 39 = .ok (.istore_n 2, 1) := by decide +kernel
theorem dX5_filled_40 : decode cX5_filled 40 = .ok (.iinc 3 1, 3) := by decide +kernel
theorem dX5_filled_43 : decode cX5_filled 43 = .ok (.goto (-39), 3) := by decide +kernel
theorem dX5_filled_46 : decode cX5_filled 46 = .ok (.iload_n 2, 1) := by decide +kernel
theorem dX5_filled_47 : decode cX5_filled 47 = .ok (.ireturn, 1) := by decide +kernel
theorem dX5_hasRoom_0 : decode cX5_hasRoom 0 = .ok (.aload_n 0, 1) := by decide +kernel
theorem dX5_hasRoom_1 : decode cX5_hasRoom 1 = .ok (.iload_n 1, 1) := by decide +kernel
theorem dX5_hasRoom_2 : decode cX5_hasRoom 2 = .ok (.invokevirtual 109, 3) := by decide +kernel
theorem dX5_hasRoom_5 : decode cX5_hasRoom 5 = .ok (.iload_n 2, 1) := by decide +kernel
theorem dX5_hasRoom_6 : decode cX5_hasRoom 6 = .ok (.iadd, 1) := by decide +kernel
theorem dX5_hasRoom_7 : decode cX5_hasRoom 7 = .ok (.aload_n 0, 1) := by decide +kernel
theorem dX5_hasRoom_8 : decode cX5_hasRoom 8 = .ok (.getfield 58, 3) := by decide +kernel
theorem dX5_hasRoom_11 : decode cX5_hasRoom 11 = .ok (.getfield 97, 3) := by decide +kernel
theorem dX5_hasRoom_14 : decode cX5_hasRoom 14 = .ok (.iload_n 1, 1) := by decide +kernel
theorem dX5_hasRoom_15 : decode cX5_hasRoom 15 = .ok (.iaload, 1) := by decide +kernel
theorem dX5_hasRoom_16 : decode cX5_hasRoom 16 = .ok (.if_icmp .gt 7, 3) := by decide +kernel
theorem dX5_hasRoom_19 : decode cX5_hasRoom 19 = .ok (.iconst 1, 1) := by decide +kernel
theorem dX5_hasRoom_20 : decode cX5_hasRoom 20 = .ok (.goto 4, 3) := by decide +kernel
theorem dX5_hasRoom_23 : decode cX5_hasRoom 23 = .ok (.iconst 0, 1) := by decide +kernel
theorem dX5_hasRoom_24 : decode cX5_hasRoom 24 = .ok (.ireturn, 1) := by decide +kernel
theorem dX5_isOutlawed_0 : decode cX5_isOutlawed 0 = .ok (.aload_n 0, 1) := by decide +kernel
theorem dX5_isOutlawed_1 : decode cX5_isOutlawed 1 = .ok (.getfield 58, 3) := by decide +kernel
theorem dX5_isOutlawed_4 : decode cX5_isOutlawed 4 = .ok (.getfield 140, 3) := by decide +kernel
theorem dX5_isOutlawed_7 : decode cX5_isOutlawed 7 = .ok (.aload_n 0, 1) := by decide +kernel
theorem dX5_isOutlawed_8 : decode cX5_isOutlawed 8 = .ok (.getfield 19, 3) := by decide +kernel
theorem dX5_isOutlawed_11 : decode cX5_isOutlawed 11 = .ok (.getfield 134, 3) := by decide +kernel
theorem dX5_isOutlawed_14 : decode cX5_isOutlawed 14 = .ok (.iload_n 1, 1) := by decide +kernel
theorem dX5_isOutlawed_15 : decode cX5_isOutlawed 15 = .ok (.iaload, 1) := by decide +kernel
theorem dX5_isOutlawed_16 : decode cX5_isOutlawed 16 = .ok (.iaload, 1) := by decide +kernel
theorem dX5_isOutlawed_17 : decode cX5_isOutlawed 17 = .ok (.aload_n 0, 1) := by decide +kernel
theorem dX5_isOutlawed_18 : decode cX5_isOutlawed 18 = .ok (.getfield 58, 3) := by decide +kernel
theorem dX5_isOutlawed_21 : decode cX5_isOutlawed 21 = .ok (.getfield 125, 3) := by decide +kernel
theorem dX5_isOutlawed_24 : decode cX5_isOutlawed 24 = .ok (.iload_n 1, 1) := by decide +kernel
theorem dX5_isOutlawed_25 : decode cX5_isOutlawed 25 = .ok (.iaload, 1) := by decide +kernel
theorem dX5_isOutlawed_26 : decode cX5_isOutlawed 26 = .ok (.invokestatic 143, 3) := by decide +kernel
theorem dX5_isOutlawed_29 : decode cX5_isOutlawed 29 = .ok (.ifCond .ne 7, 3) := by decide +kernel
theorem dX5_isOutlawed_32 : decode cX5_isOutlawed 32 = .ok (.iconst 1, 1) := by decide +kernel
theorem dX5_isOutlawed_33 : decode cX5_isOutlawed 33 = .ok (.goto 4, 3) := by decide +kernel
theorem dX5_isOutlawed_36 : decode cX5_isOutlawed 36 = .ok (.iconst 0, 1) := by decide +kernel
theorem dX5_isOutlawed_37 : decode cX5_isOutlawed 37 = .ok (.ireturn, 1) := by decide +kernel
theorem dX5_outlawed_0 : decode cX5_outlawed 0 = .ok (.iconst 0, 1) := by decide +kernel
theorem dX5_outlawed_1 : decode cX5_outlawed 1 = .ok (.istore_n 1, 1) := by decide +kernel
theorem dX5_outlawed_2 : decode cX5_outlawed 2 = .ok (.iconst 0, 1) := by decide +kernel
theorem dX5_outlawed_3 : decode cX5_outlawed 3 = .ok (.istore_n 2, 1) := by decide +kernel
theorem dX5_outlawed_4 : decode cX5_outlawed 4 = .ok (.iload_n 2, 1) := by decide +kernel
theorem dX5_outlawed_5 : decode cX5_outlawed 5 = .ok (.aload_n 0, 1) := by decide +kernel
theorem dX5_outlawed_6 : decode cX5_outlawed 6 = .ok (.getfield 58, 3) := by decide +kernel
theorem dX5_outlawed_9 : decode cX5_outlawed 9 = .ok (.getfield 177, 3) := by decide +kernel
theorem dX5_outlawed_12 : decode cX5_outlawed 12 = .ok (.if_icmp .ge 23, 3) := by decide +kernel
theorem dX5_outlawed_15 : decode cX5_outlawed 15 = .ok (.aload_n 0, 1) := by decide +kernel
theorem dX5_outlawed_16 : decode cX5_outlawed 16 = .ok (.iload_n 2, 1) := by decide +kernel
theorem dX5_outlawed_17 : decode cX5_outlawed 17 = .ok (.invokevirtual 137, 3) := by decide +kernel
theorem dX5_outlawed_20 : decode cX5_outlawed 20 = .ok (.ifCond .eq 9, 3) := by decide +kernel
theorem dX5_outlawed_23 : decode cX5_outlawed 23 = .ok (.iload_n 1, 1) := by decide +kernel
theorem dX5_outlawed_24 : decode cX5_outlawed 24 = .ok (.iconst 1, 1) := by decide +kernel
theorem dX5_outlawed_25 : decode cX5_outlawed 25 = .ok (.iload_n 2, 1) := by decide +kernel
theorem dX5_outlawed_26 : decode cX5_outlawed 26 = .ok (.ishl, 1) := by decide +kernel
theorem dX5_outlawed_27 : decode cX5_outlawed 27 = .ok (.ior, 1) := by decide +kernel
theorem dX5_outlawed_28 : decode cX5_outlawed 28 = .ok (.istore_n 1, 1) := by decide +kernel
theorem dX5_outlawed_29 : decode cX5_outlawed 29 = .ok (.iinc 2 1, 3) := by decide +kernel
theorem dX5_outlawed_32 : decode cX5_outlawed 32 = .ok (.goto (-28), 3) := by decide +kernel
theorem dX5_outlawed_35 : decode cX5_outlawed 35 = .ok (.iload_n 1, 1) := by decide +kernel
theorem dX5_outlawed_36 : decode cX5_outlawed 36 = .ok (.ireturn, 1) := by decide +kernel
theorem dX5_fallsThrough_0 : decode cX5_fallsThrough 0 = .ok (.aload_n 0, 1) := by decide +kernel
theorem dX5_fallsThrough_1 : decode cX5_fallsThrough 1 = .ok (.getfield 19, 3) := by decide +kernel
theorem dX5_fallsThrough_4 : decode cX5_fallsThrough 4 = .ok (.getfield 134, 3) := by decide +kernel
theorem dX5_fallsThrough_7 : decode cX5_fallsThrough 7 = .ok (.iload_n 1, 1) := by decide +kernel
theorem dX5_fallsThrough_8 : decode cX5_fallsThrough 8 = .ok (.iaload, 1) := by decide +kernel
theorem dX5_fallsThrough_9 : decode cX5_fallsThrough 9 = .ok (.istore_n 2, 1) := by decide +kernel
theorem dX5_fallsThrough_10 : decode cX5_fallsThrough 10 = .ok (.aload_n 0, 1) := by decide +kernel
theorem dX5_fallsThrough_11 : decode cX5_fallsThrough 11 = .ok (.getfield 58, 3) := by decide +kernel
theorem dX5_fallsThrough_14 : decode cX5_fallsThrough 14 = .ok (.getfield 119, 3) := by decide +kernel
theorem dX5_fallsThrough_17 : decode cX5_fallsThrough 17 = .ok (.iload_n 2, 1) := by decide +kernel
theorem dX5_fallsThrough_18 : decode cX5_fallsThrough 18 = .ok (.iaload, 1) := by decide +kernel
theorem dX5_fallsThrough_19 : decode cX5_fallsThrough 19 = .ok (.istore_n 3, 1) := by decide +kernel
theorem dX5_fallsThrough_20 : decode cX5_fallsThrough 20 = .ok (.iload_n 3, 1) := by decide +kernel
theorem dX5_fallsThrough_21 : decode cX5_fallsThrough 21 = .ok (.bipush (-9), 2) := by decide +kernel
theorem dX5_fallsThrough_23 : decode cX5_fallsThrough 23 = .ok (.if_icmp .eq 41, 3) := by decide +kernel
theorem dX5_fallsThrough_26 : decode cX5_fallsThrough 26 = .ok (.aload_n 0, 1) := by decide +kernel
theorem dX5_fallsThrough_27 : decode cX5_fallsThrough 27 = .ok (.getfield 58, 3) := by decide +kernel
theorem dX5_fallsThrough_30 : decode cX5_fallsThrough 30 = .ok (.getfield 128, 3) := by decide +kernel
theorem dX5_fallsThrough_33 : decode cX5_fallsThrough 33 = .ok (.iload_n 1, 1) := by decide +kernel
theorem dX5_fallsThrough_34 : decode cX5_fallsThrough 34 = .ok (.iaload, 1) := by decide +kernel
theorem dX5_fallsThrough_35 : decode cX5_fallsThrough 35 = .ok (.aload_n 0, 1) := by decide +kernel
theorem dX5_fallsThrough_36 : decode cX5_fallsThrough 36 = .ok (.getfield 58, 3) := by decide +kernel
theorem dX5_fallsThrough_39 : decode cX5_fallsThrough 39 = .ok (.getfield 264, 3) := by decide +kernel
theorem dX5_fallsThrough_42 : decode cX5_fallsThrough 42 = .ok (.iload_n 2, 1) := by decide +kernel
theorem dX5_fallsThrough_43 : decode cX5_fallsThrough 43 = .ok (.iaload, 1) := by decide +kernel
theorem dX5_fallsThrough_44 : decode cX5_fallsThrough 44 = .ok (.if_icmp .gt 20, 3) := by decide +kernel
theorem dX5_fallsThrough_47 : decode cX5_fallsThrough 47 = .ok (.aload_n 0, 1) := by decide +kernel
theorem dX5_fallsThrough_48 : decode cX5_fallsThrough 48 = .ok (.iload_n 3, 1) := by decide +kernel
theorem dX5_fallsThrough_49 : decode cX5_fallsThrough 49 = .ok (.aload_n 0, 1) := by decide +kernel
theorem dX5_fallsThrough_50 : decode cX5_fallsThrough 50 = .ok (.getfield 58, 3) := by decide +kernel
theorem dX5_fallsThrough_53 : decode cX5_fallsThrough 53 = .ok (.getfield 128, 3) := by decide +kernel
theorem dX5_fallsThrough_56 : decode cX5_fallsThrough 56 = .ok (.iload_n 1, 1) := by decide +kernel
theorem dX5_fallsThrough_57 : decode cX5_fallsThrough 57 = .ok (.iaload, 1) := by decide +kernel
theorem dX5_fallsThrough_58 : decode cX5_fallsThrough 58 = .ok (.invokevirtual 166, 3) := by decide +kernel
theorem dX5_fallsThrough_61 : decode cX5_fallsThrough 61 = .ok (.ifCond .ne 5, 3) := by decide +kernel
theorem dX5_fallsThrough_64 : decode cX5_fallsThrough 64 = .ok (.iconst 0, 1) := by decide +kernel
theorem dX5_fallsThrough_65 : decode cX5_fallsThrough 65 = .ok (.ireturn, 1) := by decide +kernel
theorem dX5_fallsThrough_66 : decode cX5_fallsThrough 66 = .ok (.aload_n 0, 1) := by decide +kernel
theorem dX5_fallsThrough_67 : decode cX5_fallsThrough 67 = .ok (.getfield 19, 3) := by decide +kernel
theorem dX5_fallsThrough_70 : decode cX5_fallsThrough 70 = .ok (.getfield 134, 3) := by decide +kernel
theorem dX5_fallsThrough_73 : decode cX5_fallsThrough 73 = .ok (.iload_n 1, 1) := by decide +kernel
theorem dX5_fallsThrough_74 : decode cX5_fallsThrough 74 = .ok (.iload_n 3, 1) := by decide +kernel
theorem dX5_fallsThrough_75 : decode cX5_fallsThrough 75 = .ok (.iastore, 1) := by decide +kernel
theorem dX5_fallsThrough_76 : decode cX5_fallsThrough 76 = .ok (.iconst 1, 1) := by decide +kernel
theorem dX5_fallsThrough_77 : decode cX5_fallsThrough 77 = .ok (.ireturn, 1) := by decide +kernel
theorem dX5_least_0 : decode cX5_least 0 = .ok (.aload_n 0, 1) := by decide +kernel
theorem dX5_least_1 : decode cX5_least 1 = .ok (.getfield 45, 3) := by decide +kernel
theorem dX5_least_4 : decode cX5_least 4 = .ok (.ldc_w 267, 3) := by decide +kernel
theorem dX5_least_7 : decode cX5_least 7 = .ok (.invokestatic 222, 3) := by decide +kernel
theorem dX5_least_10 : decode cX5_least 10 = .ok (.aload_n 0, 1) := by decide +kernel
theorem dX5_least_11 : decode cX5_least 11 = .ok (.getfield 45, 3) := by decide +kernel
theorem dX5_least_14 : decode cX5_least 14 = .ok (.aload_n 0, 1) := by decide +kernel
theorem dX5_least_15 : decode cX5_least 15 = .ok (.getfield 19, 3) := by decide +kernel
theorem dX5_least_18 : decode cX5_least 18 = .ok (.getfield 134, 3) := by decide +kernel
theorem dX5_least_21 : decode cX5_least 21 = .ok (.iload_n 1, 1) := by decide +kernel
theorem dX5_least_22 : decode cX5_least 22 = .ok (.iaload, 1) := by decide +kernel
theorem dX5_least_23 : decode cX5_least 23 = .ok (.iconst 0, 1) := by decide +kernel
theorem dX5_least_24 : decode cX5_least 24 = .ok (.iastore, 1) := by decide +kernel
theorem dX5_least_25 : decode cX5_least 25 = .ok (.iconst 1, 1) := by decide +kernel
theorem dX5_least_26 : decode cX5_least 26 = .ok (.istore 6, 2) := by decide +kernel
theorem dX5_least_28 : decode cX5_least 28 = .ok (.iload 6, 2) := by decide +kernel
theorem dX5_least_30 : decode cX5_least 30 = .ok (.aload_n 0, 1) := by decide +kernel
theorem dX5_least_31 : decode cX5_least 31 = .ok (.getfield 58, 3) := by decide +kernel
theorem dX5_least_34 : decode cX5_least 34 = .ok (.getfield 206, 3) := by decide +kernel
theorem dX5_least_37 : decode cX5_least 37 = .ok (.if_icmp .ge 50, 3) := by decide +kernel
theorem dX5_least_40 : decode cX5_least 40 = .ok (.iconst 0, 1) := by decide +kernel
theorem dX5_least_41 : decode cX5_least 41 = .ok (.istore 7, 2) := by decide +kernel
theorem dX5_least_43 : decode cX5_least 43 = .ok (.iload 7, 2) := by decide +kernel
theorem dX5_least_45 : decode cX5_least 45 = .ok (.aload_n 0, 1) := by decide +kernel
theorem dX5_least_46 : decode cX5_least 46 = .ok (.getfield 58, 3) := by decide +kernel
theorem dX5_least_49 : decode cX5_least 49 = .ok (.getfield 206, 3) := by decide +kernel
theorem dX5_least_52 : decode cX5_least 52 = .ok (.if_icmp .ge 29, 3) := by decide +kernel
theorem dX5_least_55 : decode cX5_least 55 = .ok (.aload_n 0, 1) := by decide +kernel
theorem dX5_least_56 : decode cX5_least 56 = .ok (.iload 7, 2) := by decide +kernel
theorem dX5_least_58 : decode cX5_least 58 = .ok (.aload_n 0, 1) := by decide +kernel
theorem dX5_least_59 : decode cX5_least 59 = .ok (.getfield 58, 3) := by decide +kernel
theorem dX5_least_62 : decode cX5_least 62 = .ok (.getfield 125, 3) := by decide +kernel
theorem dX5_least_65 : decode cX5_least 65 = .ok (.iload_n 1, 1) := by decide +kernel
theorem dX5_least_66 : decode cX5_least 66 = .ok (.iaload, 1) := by decide +kernel
theorem dX5_least_67 : decode cX5_least 67 = .ok (.iload_n 3, 1) := by decide +kernel
theorem dX5_least_68 : decode cX5_least 68 = .ok (.iload 4, 2) := by decide +kernel
theorem dX5_least_70 : decode cX5_least 70 = .ok (.iload 5, 2) := by decide +kernel
theorem dX5_least_72 : decode cX5_least 72 = .ok (.invokevirtual 268, 3) := by decide +kernel
theorem dX5_least_75 : decode cX5_least 75 = .ok (.iinc 7 1, 3) := by decide +kernel
theorem dX5_least_78 : decode cX5_least 78 = .ok (.goto (-35), 3) := by decide +kernel
theorem dX5_least_81 : decode cX5_least 81 = .ok (.iinc 6 1, 3) := by decide +kernel
theorem dX5_least_84 : decode cX5_least 84 = .ok (.goto (-56), 3) := by decide +kernel
theorem dX5_least_87 : decode cX5_least 87 = .ok (.aload_n 0, 1) := by decide +kernel
theorem dX5_least_88 : decode cX5_least 88 = .ok (.getfield 45, 3) := by decide +kernel
theorem dX5_least_91 : decode cX5_least 91 = .ok (.iload_n 2, 1) := by decide +kernel
theorem dX5_least_92 : decode cX5_least 92 = .ok (.iaload, 1) := by decide +kernel
theorem dX5_least_93 : decode cX5_least 93 = .ok (.ldc_w 267, 3) := by decide +kernel
theorem dX5_least_96 : decode cX5_least 96 = .ok (.if_icmp .ge 12, 3) := by decide +kernel
theorem dX5_least_99 : decode cX5_least 99 = .ok (.aload_n 0, 1) := by decide +kernel
theorem dX5_least_100 : decode cX5_least 100 = .ok (.getfield 45, 3) := by decide +kernel
theorem dX5_least_103 : decode cX5_least 103 = .ok (.iload_n 2, 1) := by decide +kernel
theorem dX5_least_104 : decode cX5_least 104 = .ok (.iaload, 1) := by decide +kernel
theorem dX5_least_105 : decode cX5_least 105 = .ok (.goto 5, 3) := by decide +kernel
theorem dX5_least_108 : decode cX5_least 108 = .ok (.bipush (-9), 2) := by decide +kernel
theorem dX5_least_110 : decode cX5_least 110 = .ok (.ireturn, 1) := by decide +kernel
theorem dX5_lowerCosts_0 : decode cX5_lowerCosts 0 = .ok (.iconst 0, 1) := by decide +kernel
theorem dX5_lowerCosts_1 : decode cX5_lowerCosts 1 = .ok (.istore 6, 2) := by decide +kernel
theorem dX5_lowerCosts_3 : decode cX5_lowerCosts 3 = .ok (.iload 6, 2) := by decide +kernel
theorem dX5_lowerCosts_5 : decode cX5_lowerCosts 5 = .ok (.aload_n 0, 1) := by decide +kernel
theorem dX5_lowerCosts_6 : decode cX5_lowerCosts 6 = .ok (.getfield 58, 3) := by decide +kernel
theorem dX5_lowerCosts_9 : decode cX5_lowerCosts 9 = .ok (.getfield 206, 3) := by decide +kernel
theorem dX5_lowerCosts_12 : decode cX5_lowerCosts 12 = .ok (.if_icmp .ge 112, 3) := by decide +kernel
theorem dX5_lowerCosts_15 : decode cX5_lowerCosts 15 = .ok (.aload_n 0, 1) := by decide +kernel
theorem dX5_lowerCosts_16 : decode cX5_lowerCosts 16 = .ok (.getfield 58, 3) := by decide +kernel
theorem dX5_lowerCosts_19 : decode cX5_lowerCosts 19 = .ok (.iload_n 1, 1) := by decide +kernel
theorem dX5_lowerCosts_20 : decode cX5_lowerCosts 20 = .ok (.iload 6, 2) := by decide +kernel
theorem dX5_lowerCosts_22 : decode cX5_lowerCosts 22 = .ok (.iload_n 2, 1) := by decide +kernel
theorem dX5_lowerCosts_23 : decode cX5_lowerCosts 23 = .ok (.invokevirtual 163, 3) := by decide +kernel
theorem dX5_lowerCosts_26 : decode cX5_lowerCosts 26 = .ok (.ifCond .eq 92, 3) := by decide +kernel
theorem dX5_lowerCosts_29 : decode cX5_lowerCosts 29 = .ok (.iload_n 1, 1) := by decide +kernel
theorem dX5_lowerCosts_30 : decode cX5_lowerCosts 30 = .ok (.iload 4, 2) := by decide +kernel
theorem dX5_lowerCosts_32 : decode cX5_lowerCosts 32 = .ok (.if_icmp .ne 10, 3) := by decide +kernel
theorem dX5_lowerCosts_35 : decode cX5_lowerCosts 35 = .ok (.iload 6, 2) := by decide +kernel
theorem dX5_lowerCosts_37 : decode cX5_lowerCosts 37 = .ok (.iload 5, 2) := by decide +kernel
theorem dX5_lowerCosts_39 : decode cX5_lowerCosts 39 = .ok (.if_icmp .eq 16, 3) := by decide +kernel
theorem dX5_lowerCosts_42 : decode cX5_lowerCosts 42 = .ok (.iload_n 1, 1) := by decide +kernel
theorem dX5_lowerCosts_43 : decode cX5_lowerCosts 43 = .ok (.iload 5, 2) := by decide +kernel
theorem dX5_lowerCosts_45 : decode cX5_lowerCosts 45 = .ok (.if_icmp .ne 14, 3) := by decide +kernel
theorem dX5_lowerCosts_48 : decode cX5_lowerCosts 48 = .ok (.iload 6, 2) := by decide +kernel
theorem dX5_lowerCosts_50 : decode cX5_lowerCosts 50 = .ok (.iload 4, 2) := by decide +kernel
theorem dX5_lowerCosts_52 : decode cX5_lowerCosts 52 = .ok (.if_icmp .ne 7, 3) := by decide +kernel
theorem dX5_lowerCosts_55 : decode cX5_lowerCosts 55 = .ok (.iconst 1, 1) := by decide +kernel
theorem dX5_lowerCosts_56 : decode cX5_lowerCosts 56 = .ok (.goto 4, 3) := by decide +kernel
theorem dX5_lowerCosts_59 : decode cX5_lowerCosts 59 = .ok (.iconst 0, 1) := by decide +kernel
theorem dX5_lowerCosts_60 : decode cX5_lowerCosts 60 = .ok (.istore 7, 2) := by decide +kernel
theorem dX5_lowerCosts_62 : decode cX5_lowerCosts 62 = .ok (.iload_n 3, 1) := by decide +kernel
theorem dX5_lowerCosts_63 : decode cX5_lowerCosts 63 = .ok (.ifCond .ne 7, 3) := by decide +kernel
theorem dX5_lowerCosts_66 : decode cX5_lowerCosts 66 = .ok (.iconst 1, 1) := by decide +kernel
theorem dX5_lowerCosts_67 : decode cX5_lowerCosts 67 = .ok (.goto 23, 3) := by decide +kernel
theorem dX5_lowerCosts_70 : decode cX5_lowerCosts 70 = .ok (.iload 7, 2) := by decide +kernel
theorem dX5_lowerCosts_72 : decode cX5_lowerCosts 72 = .ok (.ifCond .eq 7, 3) := by decide +kernel
theorem dX5_lowerCosts_75 : decode cX5_lowerCosts 75 = .ok (.iconst 0, 1) := by decide +kernel
theorem dX5_lowerCosts_76 : decode cX5_lowerCosts 76 = .ok (.goto 14, 3) := by decide +kernel
theorem dX5_lowerCosts_79 : decode cX5_lowerCosts 79 = .ok (.aload_n 0, 1) := by decide +kernel
theorem dX5_lowerCosts_80 : decode cX5_lowerCosts 80 = .ok (.getfield 58, 3) := by decide +kernel
theorem dX5_lowerCosts_83 : decode cX5_lowerCosts 83 = .ok (.iload_n 1, 1) := by decide +kernel
theorem dX5_lowerCosts_84 : decode cX5_lowerCosts 84 = .ok (.iload 6, 2) := by decide +kernel
theorem dX5_lowerCosts_86 : decode cX5_lowerCosts 86 = .ok (.iload_n 2, 1) := by decide +kernel
theorem dX5_lowerCosts_87 : decode cX5_lowerCosts 87 = .ok (.invokevirtual 173, 3) := by decide +kernel
theorem dX5_lowerCosts_90 : decode cX5_lowerCosts 90 = .ok (.istore 8, 2) := by decide +kernel
theorem dX5_lowerCosts_92 : decode cX5_lowerCosts 92 = .ok (.aload_n 0, 1) := by decide +kernel
theorem dX5_lowerCosts_93 : decode cX5_lowerCosts 93 = .ok (.getfield 45, 3) := by decide +kernel
theorem dX5_lowerCosts_96 : decode cX5_lowerCosts 96 = .ok (.iload 6, 2) := by decide +kernel
theorem dX5_lowerCosts_98 : decode cX5_lowerCosts 98 = .ok (.aload_n 0, 1) := by decide +kernel
theorem dX5_lowerCosts_99 : decode cX5_lowerCosts 99 = .ok (.getfield 45, 3) := by decide +kernel
theorem dX5_lowerCosts_102 : decode cX5_lowerCosts 102 = .ok (.iload 6, 2) := by decide +kernel
theorem dX5_lowerCosts_104 : decode cX5_lowerCosts 104 = .ok (.iaload, 1) := by decide +kernel
theorem dX5_lowerCosts_105 : decode cX5_lowerCosts 105 = .ok (.aload_n 0, 1) := by decide +kernel
theorem dX5_lowerCosts_106 : decode cX5_lowerCosts 106 = .ok (.getfield 45, 3) := by decide +kernel
theorem dX5_lowerCosts_109 : decode cX5_lowerCosts 109 = .ok (.iload_n 1, 1) := by decide +kernel
theorem dX5_lowerCosts_110 : decode cX5_lowerCosts 110 = .ok (.iaload, 1) := by decide +kernel
theorem dX5_lowerCosts_111 : decode cX5_lowerCosts 111 = .ok (.iload 8, 2) := by decide +kernel
theorem dX5_lowerCosts_113 : decode cX5_lowerCosts 113 = .ok (.iadd, 1) := by decide +kernel
theorem dX5_lowerCosts_114 : decode cX5_lowerCosts 114 = .ok (.invokestatic 272, 3) := by decide +kernel
theorem dX5_lowerCosts_117 : decode cX5_lowerCosts 117 = .ok (.iastore, 1) := by decide +kernel
theorem dX5_lowerCosts_118 : decode cX5_lowerCosts 118 = .ok (.iinc 6 1, 3) := by decide +kernel
theorem dX5_lowerCosts_121 : decode cX5_lowerCosts 121 = .ok (.goto (-118), 3) := by decide +kernel
theorem dX5_lowerCosts_124 : decode cX5_lowerCosts 124 = .ok (.return_, 1) := by decide +kernel
theorem dX5_spreadChance_0 : decode cX5_spreadChance 0 = .ok (.aload_n 0, 1) := by decide +kernel
theorem dX5_spreadChance_1 : decode cX5_spreadChance 1 = .ok (.getfield 52, 3) := by decide +kernel
theorem dX5_spreadChance_4 : decode cX5_spreadChance 4 = .ok (.iconst 0, 1) := by decide +kernel
theorem dX5_spreadChance_5 : decode cX5_spreadChance 5 = .ok (.invokestatic 222, 3) := by decide +kernel
theorem dX5_spreadChance_8 : decode cX5_spreadChance 8 = .ok (.iconst 0, 1) := by decide +kernel
theorem dX5_spreadChance_9 : decode cX5_spreadChance 9 = .ok (.istore_n 3, 1) := by decide +kernel
theorem dX5_spreadChance_10 : decode cX5_spreadChance 10 = .ok (.iload_n 3, 1) := by decide +kernel
theorem dX5_spreadChance_11 : decode cX5_spreadChance 11 = .ok (.aload_n 0, 1) := by decide +kernel
theorem dX5_spreadChance_12 : decode cX5_spreadChance 12 = .ok (.getfield 58, 3) := by decide +kernel
theorem dX5_spreadChance_15 : decode cX5_spreadChance 15 = .ok (.getfield 206, 3) := by decide +kernel
theorem dX5_spreadChance_18 : decode cX5_spreadChance 18 = .ok (.if_icmp .ge 58, 3) := by decide +kernel
theorem dX5_spreadChance_21 : decode cX5_spreadChance 21 = .ok (.aload_n 0, 1) := by decide +kernel
theorem dX5_spreadChance_22 : decode cX5_spreadChance 22 = .ok (.getfield 58, 3) := by decide +kernel
theorem dX5_spreadChance_25 : decode cX5_spreadChance 25 = .ok (.iload_n 3, 1) := by decide +kernel
theorem dX5_spreadChance_26 : decode cX5_spreadChance 26 = .ok (.iload_n 1, 1) := by decide +kernel
theorem dX5_spreadChance_27 : decode cX5_spreadChance 27 = .ok (.invokevirtual 275, 3) := by decide +kernel
theorem dX5_spreadChance_30 : decode cX5_spreadChance 30 = .ok (.istore 4, 2) := by decide +kernel
theorem dX5_spreadChance_32 : decode cX5_spreadChance 32 = .ok (.aload_n 0, 1) := by decide +kernel
theorem dX5_spreadChance_33 : decode cX5_spreadChance 33 = .ok (.getfield 52, 3) := by decide +kernel
theorem dX5_spreadChance_36 : decode cX5_spreadChance 36 = .ok (.iload 4, 2) := by decide +kernel
theorem dX5_spreadChance_38 : decode cX5_spreadChance 38 = .ok (.dup2, 1) := by decide +kernel
theorem dX5_spreadChance_39 : decode cX5_spreadChance 39 = .ok (.iaload, 1) := by decide +kernel
theorem dX5_spreadChance_40 : decode cX5_spreadChance 40 = .ok (.aload_n 0, 1) := by decide +kernel
theorem dX5_spreadChance_41 : decode cX5_spreadChance 41 = .ok (.getfield 49, 3) := by decide +kernel
theorem dX5_spreadChance_44 : decode cX5_spreadChance 44 = .ok (.iload_n 3, 1) := by decide +kernel
theorem dX5_spreadChance_45 : decode cX5_spreadChance 45 = .ok (.iaload, 1) := by decide +kernel
theorem dX5_spreadChance_46 : decode cX5_spreadChance 46 = .ok (.iload_n 2, 1) := by decide +kernel
theorem dX5_spreadChance_47 : decode cX5_spreadChance 47 = .ok (.imul, 1) := by decide +kernel
theorem dX5_spreadChance_48 : decode cX5_spreadChance 48 = .ok (.iadd, 1) := by decide +kernel
theorem dX5_spreadChance_49 : decode cX5_spreadChance 49 = .ok (.iastore, 1) := by decide +kernel
theorem dX5_spreadChance_50 : decode cX5_spreadChance 50 = .ok (.aload_n 0, 1) := by decide +kernel
theorem dX5_spreadChance_51 : decode cX5_spreadChance 51 = .ok (.getfield 52, 3) := by decide +kernel
theorem dX5_spreadChance_54 : decode cX5_spreadChance 54 = .ok (.iload_n 3, 1) := by decide +kernel
theorem dX5_spreadChance_55 : decode cX5_spreadChance 55 = .ok (.dup2, 1) := by decide +kernel
theorem dX5_spreadChance_56 : decode cX5_spreadChance 56 = .ok (.iaload, 1) := by decide +kernel
theorem dX5_spreadChance_57 : decode cX5_spreadChance 57 = .ok (.aload_n 0, 1) := by decide +kernel
theorem dX5_spreadChance_58 : decode cX5_spreadChance 58 = .ok (.getfield 49, 3) := by decide +kernel
theorem dX5_spreadChance_61 : decode cX5_spreadChance 61 = .ok (.iload_n 3, 1) := by decide +kernel
theorem dX5_spreadChance_62 : decode cX5_spreadChance 62 = .ok (.iaload, 1) := by decide +kernel
theorem dX5_spreadChance_63 : decode cX5_spreadChance 63 = .ok (.bipush 10, 2) := by decide +kernel
theorem dX5_spreadChance_65 : decode cX5_spreadChance 65 = .ok (.iload_n 2, 1) := by decide +kernel
theorem dX5_spreadChance_66 : decode cX5_spreadChance 66 = .ok (.isub, 1) := by decide +kernel
theorem dX5_spreadChance_67 : decode cX5_spreadChance 67 = .ok (.imul, 1) := by decide +kernel
theorem dX5_spreadChance_68 : decode cX5_spreadChance 68 = .ok (.iadd, 1) := by decide +kernel
theorem dX5_spreadChance_69 : decode cX5_spreadChance 69 = .ok (.iastore, 1) := by decide +kernel
theorem dX5_spreadChance_70 : decode cX5_spreadChance 70 = .ok (.iinc 3 1, 3) := by decide +kernel
theorem dX5_spreadChance_73 : decode cX5_spreadChance 73 = .ok (.goto (-63), 3) := by decide +kernel
theorem dX5_spreadChance_76 : decode cX5_spreadChance 76 = .ok (.aload_n 0, 1) := by decide +kernel
theorem dX5_spreadChance_77 : decode cX5_spreadChance 77 = .ok (.getfield 52, 3) := by decide +kernel
theorem dX5_spreadChance_80 : decode cX5_spreadChance 80 = .ok (.iconst 0, 1) := by decide +kernel
theorem dX5_spreadChance_81 : decode cX5_spreadChance 81 = .ok (.aload_n 0, 1) := by decide +kernel
theorem dX5_spreadChance_82 : decode cX5_spreadChance 82 = .ok (.getfield 49, 3) := by decide +kernel
theorem dX5_spreadChance_85 : decode cX5_spreadChance 85 = .ok (.iconst 0, 1) := by decide +kernel
theorem dX5_spreadChance_86 : decode cX5_spreadChance 86 = .ok (.bipush 6, 2) := by decide +kernel
theorem dX5_spreadChance_88 : decode cX5_spreadChance 88 = .ok (.invokestatic 278, 3) := by decide +kernel
theorem dX5_spreadChance_91 : decode cX5_spreadChance 91 = .ok (.return_, 1) := by decide +kernel
theorem dX5_asPocket_0 : decode cX5_asPocket 0 = .ok (.aload_n 0, 1) := by decide +kernel
theorem dX5_asPocket_1 : decode cX5_asPocket 1 = .ok (.dup, 1) := by decide +kernel
theorem dX5_asPocket_2 : decode cX5_asPocket 2 = .ok (.getfield 260, 3) := by decide +kernel
theorem dX5_asPocket_5 : decode cX5_asPocket 5 = .ok (.lconst 1, 1) := by decide +kernel
theorem dX5_asPocket_6 : decode cX5_asPocket 6 = .ok (.ladd, 1) := by decide +kernel
theorem dX5_asPocket_7 : decode cX5_asPocket 7 = .ok (.putfield 260, 3) := by decide +kernel
theorem dX5_asPocket_10 : decode cX5_asPocket 10 = .ok (.aload_n 0, 1) := by decide +kernel
theorem dX5_asPocket_11 : decode cX5_asPocket 11 = .ok (.iload_n 1, 1) := by decide +kernel
theorem dX5_asPocket_12 : decode cX5_asPocket 12 = .ok (.invokevirtual 109, 3) := by decide +kernel
theorem dX5_asPocket_15 : decode cX5_asPocket 15 = .ok (.ireturn, 1) := by decide +kernel
theorem dX5_asCoat_0 : decode cX5_asCoat 0 = .ok (.aload_n 0, 1) := by decide +kernel
theorem dX5_asCoat_1 : decode cX5_asCoat 1 = .ok (.dup, 1) := by decide +kernel
theorem dX5_asCoat_2 : decode cX5_asCoat 2 = .ok (.getfield 260, 3) := by decide +kernel
theorem dX5_asCoat_5 : decode cX5_asCoat 5 = .ok (.ldc2_w 284, 3) := by decide +kernel
theorem dX5_asCoat_8 : decode cX5_asCoat 8 = .ok (.ladd, 1) := by decide +kernel
theorem dX5_asCoat_9 : decode cX5_asCoat 9 = .ok (.putfield 260, 3) := by decide +kernel
theorem dX5_asCoat_12 : decode cX5_asCoat 12 = .ok (.aload_n 0, 1) := by decide +kernel
theorem dX5_asCoat_13 : decode cX5_asCoat 13 = .ok (.iload_n 1, 1) := by decide +kernel
theorem dX5_asCoat_14 : decode cX5_asCoat 14 = .ok (.invokevirtual 236, 3) := by decide +kernel
theorem dX5_asCoat_17 : decode cX5_asCoat 17 = .ok (.aload_n 0, 1) := by decide +kernel
theorem dX5_asCoat_18 : decode cX5_asCoat 18 = .ok (.getfield 58, 3) := by decide +kernel
theorem dX5_asCoat_21 : decode cX5_asCoat 21 = .ok (.getfield 97, 3) := by decide +kernel
theorem dX5_asCoat_24 : decode cX5_asCoat 24 = .ok (.iload_n 1, 1) := by decide +kernel
theorem dX5_asCoat_25 : decode cX5_asCoat 25 = .ok (.iaload, 1) := by decide +kernel
theorem dX5_asCoat_26 : decode cX5_asCoat 26 = .ok (.iadd, 1) := by decide +kernel
theorem dX5_asCoat_27 : decode cX5_asCoat 27 = .ok (.ireturn, 1) := by decide +kernel
theorem dX5_asPurse_0 : decode cX5_asPurse 0 = .ok (.aload_n 0, 1) := by decide +kernel
theorem dX5_asPurse_1 : decode cX5_asPurse 1 = .ok (.dup, 1) := by decide +kernel
theorem dX5_asPurse_2 : decode cX5_asPurse 2 = .ok (.getfield 260, 3) := by decide +kernel
theorem dX5_asPurse_5 : decode cX5_asPurse 5 = .ok (.ldc2_w 286, 3) := by decide +kernel
theorem dX5_asPurse_8 : decode cX5_asPurse 8 = .ok (.ladd, 1) := by decide +kernel
theorem dX5_asPurse_9 : decode cX5_asPurse 9 = .ok (.putfield 260, 3) := by decide +kernel
theorem dX5_asPurse_12 : decode cX5_asPurse 12 = .ok (.aload_n 0, 1) := by decide +kernel
theorem dX5_asPurse_13 : decode cX5_asPurse 13 = .ok (.iload_n 1, 1) := by decide +kernel
theorem dX5_asPurse_14 : decode cX5_asPurse 14 = .ok (.invokevirtual 236, 3) := by decide +kernel
theorem dX5_asPurse_17 : decode cX5_asPurse 17 = .ok (.aload_n 0, 1) := by decide +kernel
theorem dX5_asPurse_18 : decode cX5_asPurse 18 = .ok (.getfield 58, 3) := by decide +kernel
theorem dX5_asPurse_21 : decode cX5_asPurse 21 = .ok (.getfield 103, 3) := by decide +kernel
theorem dX5_asPurse_24 : decode cX5_asPurse 24 = .ok (.iload_n 1, 1) := by decide +kernel
theorem dX5_asPurse_25 : decode cX5_asPurse 25 = .ok (.iaload, 1) := by decide +kernel
theorem dX5_asPurse_26 : decode cX5_asPurse 26 = .ok (.isub, 1) := by decide +kernel
theorem dX5_asPurse_27 : decode cX5_asPurse 27 = .ok (.ireturn, 1) := by decide +kernel
theorem dX5_asLeague_0 : decode cX5_asLeague 0 = .ok (.aload_n 0, 1) := by decide +kernel
theorem dX5_asLeague_1 : decode cX5_asLeague 1 = .ok (.dup, 1) := by decide +kernel
theorem dX5_asLeague_2 : decode cX5_asLeague 2 = .ok (.getfield 260, 3) := by decide +kernel
theorem dX5_asLeague_5 : decode cX5_asLeague 5 = .ok (.ldc2_w 288, 3) := by decide +kernel
theorem dX5_asLeague_8 : decode cX5_asLeague 8 = .ok (.ladd, 1) := by decide +kernel
theorem dX5_asLeague_9 : decode cX5_asLeague 9 = .ok (.putfield 260, 3) := by decide +kernel
theorem dX5_asLeague_12 : decode cX5_asLeague 12 = .ok (.iconst 2, 1) := by decide +kernel
theorem dX5_asLeague_13 : decode cX5_asLeague 13 = .ok (.aload_n 0, 1) := by decide +kernel
theorem dX5_asLeague_14 : decode cX5_asLeague 14 = .ok (.iload_n 1, 1) := by decide +kernel
theorem dX5_asLeague_15 : decode cX5_asLeague 15 = .ok (.invokevirtual 239, 3) := by decide +kernel
theorem dX5_asLeague_18 : decode cX5_asLeague 18 = .ok (.imul, 1) := by decide +kernel
theorem dX5_asLeague_19 : decode cX5_asLeague 19 = .ok (.ireturn, 1) := by decide +kernel
theorem dX5_asBeggar_0 : decode cX5_asBeggar 0 = .ok (.aload_n 0, 1) := by decide +kernel
theorem dX5_asBeggar_1 : decode cX5_asBeggar 1 = .ok (.dup, 1) := by decide +kernel
theorem dX5_asBeggar_2 : decode cX5_asBeggar 2 = .ok (.getfield 260, 3) := by decide +kernel
theorem dX5_asBeggar_5 : decode cX5_asBeggar 5 = .ok (.ldc2_w 290, 3) := by decide +kernel
theorem dX5_asBeggar_8 : decode cX5_asBeggar 8 = .ok (.ladd, 1) := by decide +kernel
theorem dX5_asBeggar_9 : decode cX5_asBeggar 9 = .ok (.putfield 260, 3) := by decide +kernel
theorem dX5_asBeggar_12 : decode cX5_asBeggar 12 = .ok (.aload_n 0, 1) := by decide +kernel
theorem dX5_asBeggar_13 : decode cX5_asBeggar 13 = .ok (.iload_n 1, 1) := by decide +kernel
theorem dX5_asBeggar_14 : decode cX5_asBeggar 14 = .ok (.invokevirtual 242, 3) := by decide +kernel
theorem dX5_asBeggar_17 : decode cX5_asBeggar 17 = .ok (.iload_n 1, 1) := by decide +kernel
theorem dX5_asBeggar_18 : decode cX5_asBeggar 18 = .ok (.iadd, 1) := by decide +kernel
theorem dX5_asBeggar_19 : decode cX5_asBeggar 19 = .ok (.ireturn, 1) := by decide +kernel
theorem dX5_asLining_0 : decode cX5_asLining 0 = .ok (.aload_n 0, 1) := by decide +kernel
theorem dX5_asLining_1 : decode cX5_asLining 1 = .ok (.dup, 1) := by decide +kernel
theorem dX5_asLining_2 : decode cX5_asLining 2 = .ok (.getfield 260, 3) := by decide +kernel
theorem dX5_asLining_5 : decode cX5_asLining 5 = .ok (.ldc2_w 292, 3) := by decide +kernel
theorem dX5_asLining_8 : decode cX5_asLining 8 = .ok (.ladd, 1) := by decide +kernel
theorem dX5_asLining_9 : decode cX5_asLining 9 = .ok (.putfield 260, 3) := by decide +kernel
theorem dX5_asLining_12 : decode cX5_asLining 12 = .ok (.aload_n 0, 1) := by decide +kernel
theorem dX5_asLining_13 : decode cX5_asLining 13 = .ok (.iload_n 1, 1) := by decide +kernel
theorem dX5_asLining_14 : decode cX5_asLining 14 = .ok (.invokevirtual 236, 3) := by decide +kernel
theorem dX5_asLining_17 : decode cX5_asLining 17 = .ok (.aload_n 0, 1) := by decide +kernel
theorem dX5_asLining_18 : decode cX5_asLining 18 = .ok (.getfield 58, 3) := by decide +kernel
theorem dX5_asLining_21 : decode cX5_asLining 21 = .ok (.iload_n 1, 1) := by decide +kernel
theorem dX5_asLining_22 : decode cX5_asLining 22 = .ok (.invokevirtual 113, 3) := by decide +kernel
theorem dX5_asLining_25 : decode cX5_asLining 25 = .ok (.iadd, 1) := by decide +kernel
theorem dX5_asLining_26 : decode cX5_asLining 26 = .ok (.ireturn, 1) := by decide +kernel
theorem dX5_within_0 : decode cX5_within 0 = .ok (.iload_n 0, 1) := by decide +kernel
theorem dX5_within_1 : decode cX5_within 1 = .ok (.iload_n 1, 1) := by decide +kernel
theorem dX5_within_2 : decode cX5_within 2 = .ok (.if_icmp .lt 12, 3) := by decide +kernel
theorem dX5_within_5 : decode cX5_within 5 = .ok (.iload_n 0, 1) := by decide +kernel
theorem dX5_within_6 : decode cX5_within 6 = .ok (.iload_n 2, 1) := by decide +kernel
theorem dX5_within_7 : decode cX5_within 7 = .ok (.if_icmp .gt 7, 3) := by decide +kernel
theorem dX5_within_10 : decode cX5_within 10 = .ok (.iconst 1, 1) := by decide +kernel
theorem dX5_within_11 : decode cX5_within 11 = .ok (.goto 4, 3) := by decide +kernel
theorem dX5_within_14 : decode cX5_within 14 = .ok (.iconst 0, 1) := by decide +kernel
theorem dX5_within_15 : decode cX5_within 15 = .ok (.ireturn, 1) := by decide +kernel
theorem dX5_has_0 : decode cX5_has 0 = .ok (.iload_n 0, 1) := by decide +kernel
theorem dX5_has_1 : decode cX5_has 1 = .ok (.iload_n 1, 1) := by decide +kernel
theorem dX5_has_2 : decode cX5_has 2 = .ok (.ishr, 1) := by decide +kernel
theorem dX5_has_3 : decode cX5_has 3 = .ok (.iconst 1, 1) := by decide +kernel
theorem dX5_has_4 : decode cX5_has 4 = .ok (.iand, 1) := by decide +kernel
theorem dX5_has_5 : decode cX5_has 5 = .ok (.iconst 1, 1) := by decide +kernel
theorem dX5_has_6 : decode cX5_has 6 = .ok (.if_icmp .ne 7, 3) := by decide +kernel
theorem dX5_has_9 : decode cX5_has 9 = .ok (.iconst 1, 1) := by decide +kernel
theorem dX5_has_10 : decode cX5_has 10 = .ok (.goto 4, 3) := by decide +kernel
theorem dX5_has_13 : decode cX5_has 13 = .ok (.iconst 0, 1) := by decide +kernel
theorem dX5_has_14 : decode cX5_has 14 = .ok (.ireturn, 1) := by decide +kernel
theorem dX5_commonDivisor_0 : decode cX5_commonDivisor 0 = .ok (.iload_n 0, 1) := by decide +kernel
theorem dX5_commonDivisor_1 : decode cX5_commonDivisor 1 = .ok (.istore_n 2, 1) := by decide +kernel
theorem dX5_commonDivisor_2 : decode cX5_commonDivisor 2 = .ok (.iload_n 1, 1) := by decide +kernel
theorem dX5_commonDivisor_3 : decode cX5_commonDivisor 3 = .ok (.istore_n 3, 1) := by decide +kernel
theorem dX5_commonDivisor_4 : decode cX5_commonDivisor 4 = .ok (.iconst 0, 1) := by decide +kernel
theorem dX5_commonDivisor_5 : decode cX5_commonDivisor 5 = .ok (.istore 4, 2) := by decide +kernel
theorem dX5_commonDivisor_7 : decode cX5_commonDivisor 7 = .ok (.iload 4, 2) := by decide +kernel
theorem dX5_commonDivisor_9 : decode cX5_commonDivisor 9 = .ok (.bipush 64, 2) := by decide +kernel
theorem dX5_commonDivisor_11 : decode cX5_commonDivisor 11 = .ok (.if_icmp .ge 23, 3) := by decide +kernel
theorem dX5_commonDivisor_14 : decode cX5_commonDivisor 14 = .ok (.iload_n 3, 1) := by decide +kernel
theorem dX5_commonDivisor_15 : decode cX5_commonDivisor 15 = .ok (.ifCond .eq 19, 3) := by decide +kernel
theorem dX5_commonDivisor_18 : decode cX5_commonDivisor 18 = .ok (.iload_n 2, 1) := by decide +kernel
theorem dX5_commonDivisor_19 : decode cX5_commonDivisor 19 = .ok (.iload_n 3, 1) := by decide +kernel
theorem dX5_commonDivisor_20 : decode cX5_commonDivisor 20 = .ok (.irem, 1) := by decide +kernel
theorem dX5_commonDivisor_21 : decode cX5_commonDivisor 21 = .ok (.istore 5, 2) := by decide +kernel
theorem dX5_commonDivisor_23 : decode cX5_commonDivisor 23 = .ok (.iload_n 3, 1) := by decide +kernel
theorem dX5_commonDivisor_24 : decode cX5_commonDivisor 24 = .ok (.istore_n 2, 1) := by decide +kernel
theorem dX5_commonDivisor_25 : decode cX5_commonDivisor 25 = .ok (.iload 5, 2) := by decide +kernel
theorem dX5_commonDivisor_27 : decode cX5_commonDivisor 27 = .ok (.istore_n 3, 1) := by decide +kernel
theorem dX5_commonDivisor_28 : decode cX5_commonDivisor 28 = .ok (.iinc 4 1, 3) := by decide +kernel
theorem dX5_commonDivisor_31 : decode cX5_commonDivisor 31 = .ok (.goto (-24), 3) := by decide +kernel
theorem dX5_commonDivisor_34 : decode cX5_commonDivisor 34 = .ok (.iconst 1, 1) := by decide +kernel
theorem dX5_commonDivisor_35 : decode cX5_commonDivisor 35 = .ok (.iload_n 2, 1) := by decide +kernel
theorem dX5_commonDivisor_36 : decode cX5_commonDivisor 36 = .ok (.invokestatic 201, 3) := by decide +kernel
theorem dX5_commonDivisor_39 : decode cX5_commonDivisor 39 = .ok (.ireturn, 1) := by decide +kernel
theorem dX6_init_0 : decode cX6_init 0 = .ok (.aload_n 0, 1) := by decide +kernel
theorem dX6_init_1 : decode cX6_init 1 = .ok (.invokespecial 1, 3) := by decide +kernel
theorem dX6_init_4 : decode cX6_init 4 = .ok (.aload_n 0, 1) := by decide +kernel
theorem dX6_init_5 : decode cX6_init 5 = .ok (.sipush 200, 3) := by decide +kernel
theorem dX6_init_8 : decode cX6_init 8 = .ok (.newarray .int, 2) := by decide +kernel
theorem dX6_init_10 : decode cX6_init 10 = .ok (.putfield 7, 3) := by decide +kernel
theorem dX6_init_13 : decode cX6_init 13 = .ok (.aload_n 0, 1) := by decide +kernel
theorem dX6_init_14 : decode cX6_init 14 = .ok (.bipush 48, 2) := by decide +kernel
theorem dX6_init_16 : decode cX6_init 16 = .ok (.newarray .int, 2) := by decide +kernel
theorem dX6_init_18 : decode cX6_init 18 = .ok (.putfield 13, 3) := by decide +kernel
theorem dX6_init_21 : decode cX6_init 21 = .ok (.aload_n 0, 1) := by decide +kernel
theorem dX6_init_22 : decode cX6_init 22 = .ok (.bipush 36, 2) := by decide +kernel
theorem dX6_init_24 : decode cX6_init 24 = .ok (.newarray .boolean, 2) := by decide +kernel
theorem dX6_init_26 : decode cX6_init 26 = .ok (.putfield 16, 3) := by decide +kernel
theorem dX6_init_29 : decode cX6_init 29 = .ok (.aload_n 0, 1) := by decide +kernel
theorem dX6_init_30 : decode cX6_init 30 = .ok (.bipush 36, 2) := by decide +kernel
theorem dX6_init_32 : decode cX6_init 32 = .ok (.newarray .int, 2) := by decide +kernel
theorem dX6_init_34 : decode cX6_init 34 = .ok (.putfield 20, 3) := by decide +kernel
theorem dX6_init_37 : decode cX6_init 37 = .ok (.aload_n 0, 1) := by decide +kernel
theorem dX6_init_38 : decode cX6_init 38 = .ok (.bipush 6, 2) := by decide +kernel
theorem dX6_init_40 : decode cX6_init 40 = .ok (.newarray .int, 2) := by decide +kernel
theorem dX6_init_42 : decode cX6_init 42 = .ok (.putfield 23, 3) := by decide +kernel
theorem dX6_init_45 : decode cX6_init 45 = .ok (.aload_n 0, 1) := by decide +kernel
theorem dX6_init_46 : decode cX6_init 46 = .ok (.bipush 6, 2) := by decide +kernel
theorem dX6_init_48 : decode cX6_init 48 = .ok (.newarray .int, 2) := by decide +kernel
theorem dX6_init_50 : decode cX6_init 50 = .ok (.putfield 26, 3) := by decide +kernel
theorem dX6_init_53 : decode cX6_init 53 = .ok (.aload_n 0, 1) := by decide +kernel
theorem dX6_init_54 : decode cX6_init 54 = .ok (.bipush 6, 2) := by decide +kernel
theorem dX6_init_56 : decode cX6_init 56 = .ok (.newarray .int, 2) := by decide +kernel
theorem dX6_init_58 : decode cX6_init 58 = .ok (.putfield 29, 3) := by decide +kernel
theorem dX6_init_61 : decode cX6_init 61 = .ok (.aload_n 0, 1) := by decide +kernel
theorem dX6_init_62 : decode cX6_init 62 = .ok (.bipush 8, 2) := by decide +kernel
theorem dX6_init_64 : decode cX6_init 64 = .ok (.newarray .int, 2) := by decide +kernel
theorem dX6_init_66 : decode cX6_init 66 = .ok (.putfield 32, 3) := by decide +kernel
theorem dX6_init_69 : decode cX6_init 69 = .ok (.aload_n 0, 1) := by decide +kernel
theorem dX6_init_70 : decode cX6_init 70 = .ok (.bipush 80, 2) := by decide +kernel
theorem dX6_init_72 : decode cX6_init 72 = .ok (.newarray .int, 2) := by decide +kernel
theorem dX6_init_74 : decode cX6_init 74 = .ok (.putfield 35, 3) := by decide +kernel
theorem dX6_init_77 : decode cX6_init 77 = .ok (.aload_n 0, 1) := by decide +kernel
theorem dX6_init_78 : decode cX6_init 78 = .ok (.bipush 48, 2) := by decide +kernel
theorem dX6_init_80 : decode cX6_init 80 = .ok (.newarray .int, 2) := by decide +kernel
theorem dX6_init_82 : decode cX6_init 82 = .ok (.putfield 38, 3) := by decide +kernel
theorem dX6_init_85 : decode cX6_init 85 = .ok (.aload_n 0, 1) := by decide +kernel
theorem dX6_init_86 : decode cX6_init 86 = .ok (.bipush 36, 2) := by decide +kernel
theorem dX6_init_88 : decode cX6_init 88 = .ok (.newarray .boolean, 2) := by decide +kernel
theorem dX6_init_90 : decode cX6_init 90 = .ok (.putfield 41, 3) := by decide +kernel
theorem dX6_init_93 : decode cX6_init 93 = .ok (.aload_n 0, 1) := by decide +kernel
theorem dX6_init_94 : decode cX6_init 94 = .ok (.bipush 36, 2) := by decide +kernel
theorem dX6_init_96 : decode cX6_init 96 = .ok (.newarray .int, 2) := by decide +kernel
theorem dX6_init_98 : decode cX6_init 98 = .ok (.putfield 44, 3) := by decide +kernel
theorem dX6_init_101 : decode cX6_init 101 = .ok (.aload_n 0, 1) := by decide +kernel
theorem dX6_init_102 : decode cX6_init 102 = .ok (.bipush 24, 2) := by decide +kernel
theorem dX6_init_104 : decode cX6_init 104 = .ok (.newarray .int, 2) := by decide +kernel
theorem dX6_init_106 : decode cX6_init 106 = .ok (.putfield 47, 3) := by decide +kernel
theorem dX6_init_109 : decode cX6_init 109 = .ok (.aload_n 0, 1) := by decide +kernel
theorem dX6_init_110 : decode cX6_init 110 = .ok (.iconst 4, 1) := by decide +kernel
theorem dX6_init_111 : decode cX6_init 111 = .ok (.newarray .int, 2) := by decide +kernel
theorem dX6_init_113 : decode cX6_init 113 = .ok (.putfield 50, 3) := by decide +kernel
theorem dX6_init_116 : decode cX6_init 116 = .ok (.aload_n 0, 1) := by decide +kernel
theorem dX6_init_117 : decode cX6_init 117 = .ok (.bipush 6, 2) := by decide +kernel
theorem dX6_init_119 : decode cX6_init 119 = .ok (.newarray .int, 2) := by decide +kernel
theorem dX6_init_121 : decode cX6_init 121 = .ok (.putfield 53, 3) := by decide +kernel
theorem dX6_init_124 : decode cX6_init 124 = .ok (.aload_n 0, 1) := by decide +kernel
theorem dX6_init_125 : decode cX6_init 125 = .ok (.bipush 6, 2) := by decide +kernel
theorem dX6_init_127 : decode cX6_init 127 = .ok (.newarray .int, 2) := by decide +kernel
theorem dX6_init_129 : decode cX6_init 129 = .ok (.putfield 56, 3) := by decide +kernel
theorem dX6_init_132 : decode cX6_init 132 = .ok (.aload_n 0, 1) := by decide +kernel
theorem dX6_init_133 : decode cX6_init 133 = .ok (.bipush 6, 2) := by decide +kernel
theorem dX6_init_135 : decode cX6_init 135 = .ok (.newarray .int, 2) := by decide +kernel
theorem dX6_init_137 : decode cX6_init 137 = .ok (.putfield 59, 3) := by decide +kernel
theorem dX6_init_140 : decode cX6_init 140 = .ok (.aload_n 0, 1) := by decide +kernel
theorem dX6_init_141 : decode cX6_init 141 = .ok (.bipush 6, 2) := by decide +kernel
theorem dX6_init_143 : decode cX6_init 143 = .ok (.newarray .int, 2) := by decide +kernel
theorem dX6_init_145 : decode cX6_init 145 = .ok (.putfield 62, 3) := by decide +kernel
theorem dX6_init_148 : decode cX6_init 148 = .ok (.aload_n 0, 1) := by decide +kernel
theorem dX6_init_149 : decode cX6_init 149 = .ok (.bipush 6, 2) := by decide +kernel
theorem dX6_init_151 : decode cX6_init 151 = .ok (.newarray .long, 2) := by decide +kernel
theorem dX6_init_153 : decode cX6_init 153 = .ok (.putfield 65, 3) := by decide +kernel
theorem dX6_init_156 : decode cX6_init 156 = .ok (.aload_n 0, 1) := by decide +kernel
theorem dX6_init_157 : decode cX6_init 157 = .ok (.bipush 6, 2) := by decide +kernel
theorem dX6_init_159 : decode cX6_init 159 = .ok (.newarray .long, 2) := by decide +kernel
theorem dX6_init_161 : decode cX6_init 161 = .ok (.putfield 69, 3) := by decide +kernel
theorem dX6_init_164 : decode cX6_init 164 = .ok (.aload_n 0, 1) := by decide +kernel
theorem dX6_init_165 : decode cX6_init 165 = .ok (.iconst 2, 1) := by decide +kernel
theorem dX6_init_166 : decode cX6_init 166 = .ok (.newarray .boolean, 2) := by decide +kernel
theorem dX6_init_168 : decode cX6_init 168 = .ok (.putfield 72, 3) := by decide +kernel
theorem dX6_init_171 : decode cX6_init 171 = .ok (.aload_n 0, 1) := by decide +kernel
theorem dX6_init_172 : decode cX6_init 172 = .ok (.bipush 16, 2) := by decide +kernel
theorem dX6_init_174 : decode cX6_init 174 = .ok (.newarray .int, 2) := by decide +kernel
theorem dX6_init_176 : decode cX6_init 176 = .ok (.putfield 75, 3) := by decide +kernel
theorem dX6_init_179 : decode cX6_init 179 = .ok (.return_, 1) := by decide +kernel
theorem dX6_in_0 : decode cX6_in 0 = .ok (.lload_n 0, 1) := by decide +kernel
theorem dX6_in_1 : decode cX6_in 1 = .ok (.lload_n 2, 1) := by decide +kernel
theorem dX6_in_2 : decode cX6_in 2 = .ok (.lcmp, 1) := by decide +kernel
theorem dX6_in_3 : decode cX6_in 3 = .ok (.ifCond .lt 14, 3) := by decide +kernel
theorem dX6_in_6 : decode cX6_in 6 = .ok (.lload_n 0, 1) := by decide +kernel
theorem dX6_in_7 : decode cX6_in 7 = .ok (.lload 4, 2) := by decide +kernel
theorem dX6_in_9 : decode cX6_in 9 = .ok (.lcmp, 1) := by decide +kernel
theorem dX6_in_10 : decode cX6_in 10 = .ok (.ifCond .gt 7, 3) := by decide +kernel
theorem dX6_in_13 : decode cX6_in 13 = .ok (.iconst 1, 1) := by decide +kernel
theorem dX6_in_14 : decode cX6_in 14 = .ok (.goto 4, 3) := by decide +kernel
theorem dX6_in_17 : decode cX6_in 17 = .ok (.iconst 0, 1) := by decide +kernel
theorem dX6_in_18 : decode cX6_in 18 = .ok (.ireturn, 1) := by decide +kernel
theorem dX6_has_0 : decode cX6_has 0 = .ok (.iload_n 0, 1) := by decide +kernel
theorem dX6_has_1 : decode cX6_has 1 = .ok (.iload_n 1, 1) := by decide +kernel
theorem dX6_has_2 : decode cX6_has 2 = .ok (.ishr, 1) := by decide +kernel
theorem dX6_has_3 : decode cX6_has 3 = .ok (.iconst 1, 1) := by decide +kernel
theorem dX6_has_4 : decode cX6_has 4 = .ok (.iand, 1) := by decide +kernel
theorem dX6_has_5 : decode cX6_has 5 = .ok (.iconst 1, 1) := by decide +kernel
theorem dX6_has_6 : decode cX6_has 6 = .ok (.if_icmp .ne 7, 3) := by decide +kernel
theorem dX6_has_9 : decode cX6_has 9 = .ok (.iconst 1, 1) := by decide +kernel
theorem dX6_has_10 : decode cX6_has 10 = .ok (.goto 4, 3) := by decide +kernel
theorem dX6_has_13 : decode cX6_has 13 = .ok (.iconst 0, 1) := by decide +kernel
theorem dX6_has_14 : decode cX6_has 14 = .ok (.ireturn, 1) := by decide +kernel
theorem dX6_isPocket_0 : decode cX6_isPocket 0 = .ok (.iload_n 1, 1) := by decide +kernel
theorem dX6_isPocket_1 : decode cX6_isPocket 1 = .ok (.i2l, 1) := by decide +kernel
theorem dX6_isPocket_2 : decode cX6_isPocket 2 = .ok (.lconst 0, 1) := by decide +kernel
theorem dX6_isPocket_3 : decode cX6_isPocket 3 = .ok (.aload_n 0, 1) := by decide +kernel
theorem dX6_isPocket_4 : decode cX6_isPocket 4 = .ok (.getfield 78, 3) := by decide +kernel
theorem dX6_isPocket_7 : decode cX6_isPocket 7 = .ok (.iconst 1, 1) := by decide +kernel
theorem dX6_isPocket_8 : decode cX6_isPocket 8 = .ok (.isub, 1) := by decide +kernel
theorem dX6_isPocket_9 : decode cX6_isPocket 9 = .ok (.i2l, 1) := by decide +kernel
theorem dX6_isPocket_10 : decode cX6_isPocket 10 = .ok (.invokestatic 82, 3) := by decide +kernel
theorem dX6_isPocket_13 : decode cX6_isPocket 13 = .ok (.ireturn, 1) := by decide +kernel
theorem dX6_isThing_0 : decode cX6_isThing 0 = .ok (.iload_n 1, 1) := by decide +kernel
theorem dX6_isThing_1 : decode cX6_isThing 1 = .ok (.i2l, 1) := by decide +kernel
theorem dX6_isThing_2 : decode cX6_isThing 2 = .ok (.lconst 0, 1) := by decide +kernel
theorem dX6_isThing_3 : decode cX6_isThing 3 = .ok (.aload_n 0, 1) := by decide +kernel
theorem dX6_isThing_4 : decode cX6_isThing 4 = .ok (.getfield 86, 3) := by decide +kernel
theorem dX6_isThing_7 : decode cX6_isThing 7 = .ok (.iconst 1, 1) := by decide +kernel
theorem dX6_isThing_8 : decode cX6_isThing 8 = .ok (.isub, 1) := by decide +kernel
theorem dX6_isThing_9 : decode cX6_isThing 9 = .ok (.i2l, 1) := by decide +kernel
theorem dX6_isThing_10 : decode cX6_isThing 10 = .ok (.invokestatic 82, 3) := by decide +kernel
theorem dX6_isThing_13 : decode cX6_isThing 13 = .ok (.ireturn, 1) := by decide +kernel
theorem dX6_type_0 : decode cX6_type 0 = .ok (.iload_n 1, 1) := by decide +kernel
theorem dX6_type_1 : decode cX6_type 1 = .ok (.i2l, 1) := by decide +kernel
theorem dX6_type_2 : decode cX6_type 2 = .ok (.lconst 0, 1) := by decide +kernel
theorem dX6_type_3 : decode cX6_type 3 = .ok (.ldc2_w 89, 3) := by decide +kernel
theorem dX6_type_6 : decode cX6_type 6 = .ok (.invokestatic 82, 3) := by decide +kernel
theorem dX6_type_9 : decode cX6_type 9 = .ok (.ifCond .ne 5, 3) := by decide +kernel
theorem dX6_type_12 : decode cX6_type 12 = .ok (.iconst (-1), 1) := by decide +kernel
theorem dX6_type_13 : decode cX6_type 13 = .ok (.ireturn, 1) := by decide +kernel
theorem dX6_type_14 : decode cX6_type 14 = .ok (.aload_n 0, 1) := by decide +kernel
theorem dX6_type_15 : decode cX6_type 15 = .ok (.getfield 91, 3) := by decide +kernel
theorem dX6_type_18 : decode cX6_type 18 = .ok (.sipush 200, 3) := by decide +kernel
theorem dX6_type_21 : decode cX6_type 21 = .ok (.if_icmp .ne 6, 3) := by decide +kernel
theorem dX6_type_24 : decode cX6_type 24 = .ok (.bipush (-3), 2) := by decide +kernel
theorem dX6_type_26 : decode cX6_type 26 = .ok (.ireturn, 1) := by decide +kernel
theorem dX6_type_27 : decode cX6_type 27 = .ok (.aload_n 0, 1) := by decide +kernel
theorem dX6_type_28 : decode cX6_type 28 = .ok (.getfield 7, 3) := by decide +kernel
theorem dX6_type_31 : decode cX6_type 31 = .ok (.aload_n 0, 1) := by decide +kernel
theorem dX6_type_32 : decode cX6_type 32 = .ok (.getfield 91, 3) := by decide +kernel
theorem dX6_type_35 : decode cX6_type 35 = .ok (.iload_n 1, 1) := by decide +kernel
theorem dX6_type_36 : decode cX6_type 36 = .ok (.iastore, 1) := by decide +kernel
theorem dX6_type_37 : decode cX6_type 37 = .ok (.aload_n 0, 1) := by decide +kernel
theorem dX6_type_38 : decode cX6_type 38 = .ok (.dup, 1) := by decide +kernel
theorem dX6_type_39 : decode cX6_type 39 = .ok (.getfield 91, 3) := by decide +kernel
theorem dX6_type_42 : decode cX6_type 42 = .ok (.iconst 1, 1) := by decide +kernel
theorem dX6_type_43 : decode cX6_type 43 = .ok (.iadd, 1) := by decide +kernel
theorem dX6_type_44 : decode cX6_type 44 = .ok (.putfield 91, 3) := by decide +kernel
theorem dX6_type_47 : decode cX6_type 47 = .ok (.aload_n 0, 1) := by decide +kernel
theorem dX6_type_48 : decode cX6_type 48 = .ok (.getfield 91, 3) := by decide +kernel
theorem dX6_type_51 : decode cX6_type 51 = .ok (.ireturn, 1) := by decide +kernel
theorem dX6_clear_0 : decode cX6_clear 0 = .ok (.aload_n 0, 1) := by decide +kernel
theorem dX6_clear_1 : decode cX6_clear 1 = .ok (.getfield 91, 3) := by decide +kernel
theorem dX6_clear_4 : decode cX6_clear 4 = .ok (.istore_n 1, 1) := by decide +kernel
theorem dX6_clear_5 : decode cX6_clear 5 = .ok (.aload_n 0, 1) := by decide +kernel
theorem dX6_clear_6 : decode cX6_clear 6 = .ok (.iconst 0, 1) := by decide +kernel
theorem dX6_clear_7 : decode cX6_clear 7 = .ok (.putfield 91, 3) := by decide +kernel
theorem dX6_clear_10 : decode cX6_clear 10 = .ok (.iload_n 1, 1) := by decide +kernel
theorem dX6_clear_11 : decode cX6_clear 11 = .ok (.ireturn, 1) := by decide +kernel
theorem dX6_letterAt_0 : decode cX6_letterAt 0 = .ok (.iload_n 1, 1) := by decide +kernel
theorem dX6_letterAt_1 : decode cX6_letterAt 1 = .ok (.aload_n 0, 1) := by decide +kernel
theorem dX6_letterAt_2 : decode cX6_letterAt 2 = .ok (.getfield 91, 3) := by decide +kernel
theorem dX6_letterAt_5 : decode cX6_letterAt 5 = .ok (.if_icmp .ge 12, 3) := by decide +kernel
theorem dX6_letterAt_8 : decode cX6_letterAt 8 = .ok (.aload_n 0, 1) := by decide +kernel
theorem dX6_letterAt_9 : decode cX6_letterAt 9 = .ok (.getfield 7, 3) := by decide +kernel
theorem dX6_letterAt_12 : decode cX6_letterAt 12 = .ok (.iload_n 1, 1) := by decide +kernel
theorem dX6_letterAt_13 : decode cX6_letterAt 13 = .ok (.iaload, 1) := by decide +kernel
theorem dX6_letterAt_14 : decode cX6_letterAt 14 = .ok (.goto 4, 3) := by decide +kernel
theorem dX6_letterAt_17 : decode cX6_letterAt 17 = .ok (.iconst 0, 1) := by decide +kernel
theorem dX6_letterAt_18 : decode cX6_letterAt 18 = .ok (.ireturn, 1) := by decide +kernel
theorem dX6_nextToken_0 : decode cX6_nextToken 0 = .ok (.aload_n 0, 1) := by decide +kernel
theorem dX6_nextToken_1 : decode cX6_nextToken 1 = .ok (.aload_n 0, 1) := by decide +kernel
theorem dX6_nextToken_2 : decode cX6_nextToken 2 = .ok (.getfield 94, 3) := by decide +kernel
theorem dX6_nextToken_5 : decode cX6_nextToken 5 = .ok (.invokevirtual 97, 3) := by decide +kernel
theorem dX6_nextToken_8 : decode cX6_nextToken 8 = .ok (.bipush 32, 2) := by decide +kernel
theorem dX6_nextToken_10 : decode cX6_nextToken 10 = .ok (.if_icmp .ne 16, 3) := by decide +kernel
theorem dX6_nextToken_13 : decode cX6_nextToken 13 = .ok (.aload_n 0, 1) := by decide +kernel
theorem dX6_nextToken_14 : decode cX6_nextToken 14 = .ok (.dup, 1) := by decide +kernel
theorem dX6_nextToken_15 : decode cX6_nextToken 15 = .ok (.getfield 94, 3) := by decide +kernel
theorem dX6_nextToken_18 : decode cX6_nextToken 18 = .ok (.iconst 1, 1) := by decide +kernel
theorem dX6_nextToken_19 : decode cX6_nextToken 19 = .ok (.iadd, 1) := by decide +kernel
theorem dX6_nextToken_20 : decode cX6_nextToken 20 = .ok (.putfield 94, 3) := by decide +kernel
theorem dX6_nextToken_23 : decode cX6_nextToken 23 = .ok (.goto (-23), 3) := by decide +kernel
theorem dX6_nextToken_26 : decode cX6_nextToken 26 = .ok (.aload_n 0, 1) := by decide +kernel
theorem dX6_nextToken_27 : decode cX6_nextToken 27 = .ok (.aload_n 0, 1) := by decide +kernel
theorem dX6_nextToken_28 : decode cX6_nextToken 28 = .ok (.getfield 94, 3) := by decide +kernel
theorem dX6_nextToken_31 : decode cX6_nextToken 31 = .ok (.putfield 101, 3) := by decide +kernel
theorem dX6_nextToken_34 : decode cX6_nextToken 34 = .ok (.aload_n 0, 1) := by decide +kernel
theorem dX6_nextToken_35 : decode cX6_nextToken 35 = .ok (.iconst 0, 1) := by decide +kernel
theorem dX6_nextToken_36 : decode cX6_nextToken 36 = .ok (.putfield 104, 3) := by decide +kernel
theorem dX6_nextToken_39 : decode cX6_nextToken 39 = .ok (.aload_n 0, 1) := by decide +kernel
theorem dX6_nextToken_40 : decode cX6_nextToken 40 = .ok (.getfield 94, 3) := by decide +kernel
theorem dX6_nextToken_43 : decode cX6_nextToken 43 = .ok (.aload_n 0, 1) := by decide +kernel
theorem dX6_nextToken_44 : decode cX6_nextToken 44 = .ok (.getfield 91, 3) := by decide +kernel
theorem dX6_nextToken_47 : decode cX6_nextToken 47 = .ok (.if_icmp .ne 11, 3) := by decide +kernel
theorem dX6_nextToken_50 : decode cX6_nextToken 50 = .ok (.aload_n 0, 1) := by decide +kernel
theorem dX6_nextToken_51 : decode cX6_nextToken 51 = .ok (.iconst 2, 1) := by decide +kernel
theorem dX6_nextToken_52 : decode cX6_nextToken 52 = .ok (.putfield 107, 3) := by decide +kernel
theorem dX6_nextToken_55 : decode cX6_nextToken 55 = .ok (.goto 200, 3) := by decide +kernel
theorem dX6_nextToken_58 : decode cX6_nextToken 58 = .ok (.aload_n 0, 1) := by decide +kernel
theorem dX6_nextToken_59 : decode cX6_nextToken 59 = .ok (.aload_n 0, 1) := by decide +kernel
theorem dX6_nextToken_60 : decode cX6_nextToken 60 = .ok (.getfield 94, 3) := by decide +kernel
theorem dX6_nextToken_63 : decode cX6_nextToken 63 = .ok (.invokevirtual 97, 3) := by decide +kernel
theorem dX6_nextToken_66 : decode cX6_nextToken 66 = .ok (.i2l, 1) := by decide +kernel
theorem dX6_nextToken_67 : decode cX6_nextToken 67 = .ok (.ldc2_w 110, 3) := by decide +kernel
theorem dX6_nextToken_70 : decode cX6_nextToken 70 = .ok (.ldc2_w 112, 3) := by decide +kernel
theorem dX6_nextToken_73 : decode cX6_nextToken 73 = .ok (.invokestatic 82, 3) := by decide +kernel
theorem dX6_nextToken_76 : decode cX6_nextToken 76 = .ok (.ifCond .eq 151, 3) := by decide +kernel
theorem dX6_nextToken_79 : decode cX6_nextToken 79 = .ok (.aload_n 0, 1) := by decide +kernel
theorem dX6_nextToken_80 : decode cX6_nextToken 80 = .ok (.aload_n 0, 1) := by decide +kernel
theorem dX6_nextToken_81 : decode cX6_nextToken 81 = .ok (.getfield 94, 3) := by decide +kernel
theorem dX6_nextToken_84 : decode cX6_nextToken 84 = .ok (.invokevirtual 97, 3) := by decide +kernel
theorem dX6_nextToken_87 : decode cX6_nextToken 87 = .ok (.i2l, 1) := by decide +kernel
theorem dX6_nextToken_88 : decode cX6_nextToken 88 = .ok (.ldc2_w 110, 3) := by decide +kernel
theorem dX6_nextToken_91 : decode cX6_nextToken 91 = .ok (.ldc2_w 112, 3) := by decide +kernel
theorem dX6_nextToken_94 : decode cX6_nextToken 94 = .ok (.invokestatic 82, 3) := by decide +kernel
theorem dX6_nextToken_97 : decode cX6_nextToken 97 = .ok (.ifCond .eq 56, 3) := by decide +kernel
theorem dX6_nextToken_100 : decode cX6_nextToken 100 = .ok (.aload_n 0, 1) := by decide +kernel
theorem dX6_nextToken_101 : decode cX6_nextToken 101 = .ok (.aload_n 0, 1) := by decide +kernel
theorem dX6_nextToken_102 : decode cX6_nextToken 102 = .ok (.getfield 104, 3) := by decide +kernel
theorem dX6_nextToken_105 : decode cX6_nextToken 105 = .ok (.bipush 99, 2) := by decide +kernel
theorem dX6_nextToken_107 : decode cX6_nextToken 107 = .ok (.if_icmp .le 10, 3) := by decide +kernel
theorem dX6_nextToken_110 : decode cX6_nextToken 110 = .ok (.aload_n 0, 1) := by decide +kernel
theorem dX6_nextToken_111 : decode cX6_nextToken 111 = .ok (.getfield 104, 3) := by decide +kernel
theorem dX6_nextToken_114 : decode cX6_nextToken 114 = .ok (.goto 23, 3) := by decide +kernel
theorem dX6_nextToken_117 : decode cX6_nextToken 117 = .ok (.bipush 10, 2) := by decide +kernel
theorem dX6_nextToken_119 : decode cX6_nextToken 119 = .ok (.aload_n 0, 1) := by decide +kernel
theorem dX6_nextToken_120 : decode cX6_nextToken 120 = .ok (.getfield 104, 3) := by decide +kernel
theorem dX6_nextToken_123 : decode cX6_nextToken 123 = .ok (.imul, 1) := by decide +kernel
theorem dX6_nextToken_124 : decode cX6_nextToken 124 = .ok (.aload_n 0, 1) := by decide +kernel
theorem dX6_nextToken_125 : decode cX6_nextToken 125 = .ok (.getfield 7, 3) := by decide +kernel
theorem dX6_nextToken_128 : decode cX6_nextToken 128 = .ok (.aload_n 0, 1) := by decide +kernel
theorem dX6_nextToken_129 : decode cX6_nextToken 129 = .ok (.getfield 94, 3) := by decide +kernel
theorem dX6_nextToken_132 : decode cX6_nextToken 132 = .ok (.iaload, 1) := by decide +kernel
theorem dX6_nextToken_133 : decode cX6_nextToken 133 = .ok (.iadd, 1) := by decide +kernel
theorem dX6_nextToken_134 : decode cX6_nextToken 134 = .ok (.bipush 48, 2) := by decide +kernel
theorem dX6_nextToken_136 : decode cX6_nextToken 136 = .ok (.isub, 1) := by decide +kernel
theorem dX6_nextToken_137 : decode cX6_nextToken 137 = .ok (.putfield 104, 3) := by decide +kernel
theorem dX6_nextToken_140 : decode cX6_nextToken 140 = .ok (.aload_n 0, 1) := by decide +kernel
theorem dX6_nextToken_141 : decode cX6_nextToken 141 = .ok (.dup, 1) := by decide +kernel
theorem dX6_nextToken_142 : decode cX6_nextToken 142 = .ok (.getfield 94, 3) := by decide +kernel
theorem dX6_nextToken_145 : decode cX6_nextToken 145 = .ok (.iconst 1, 1) := by decide +kernel
theorem dX6_nextToken_146 : decode cX6_nextToken 146 = .ok (.iadd, 1) := by decide +kernel
theorem dX6_nextToken_147 : decode cX6_nextToken 147 = .ok (.putfield 94, 3) := by decide +kernel
theorem dX6_nextToken_150 : decode cX6_nextToken 150 = .ok (.goto (-71), 3) := by decide +kernel
theorem dX6_nextToken_153 : decode cX6_nextToken 153 = .ok (.aload_n 0, 1) := by decide +kernel
theorem dX6_nextToken_154 : decode cX6_nextToken 154 = .ok (.getfield 94, 3) := by decide +kernel
theorem dX6_nextToken_157 : decode cX6_nextToken 157 = .ok (.aload_n 0, 1) := by decide +kernel
theorem dX6_nextToken_158 : decode cX6_nextToken 158 = .ok (.getfield 101, 3) := by decide +kernel
theorem dX6_nextToken_161 : decode cX6_nextToken 161 = .ok (.isub, 1) := by decide +kernel
theorem dX6_nextToken_162 : decode cX6_nextToken 162 = .ok (.iconst 1, 1) := by decide +kernel
theorem dX6_nextToken_163 : decode cX6_nextToken 163 = .ok (.if_icmp .eq 26, 3) := by decide +kernel
theorem dX6_nextToken_166 : decode cX6_nextToken 166 = .ok (.aload_n 0, 1) := by decide +kernel
theorem dX6_nextToken_167 : decode cX6_nextToken 167 = .ok (.getfield 7, 3) := by decide +kernel
theorem dX6_nextToken_170 : decode cX6_nextToken 170 = .ok (.aload_n 0, 1) := by decide +kernel
theorem dX6_nextToken_171 : decode cX6_nextToken 171 = .ok (.getfield 101, 3) := by decide +kernel
theorem dX6_nextToken_174 : decode cX6_nextToken 174 = .ok (.iaload, 1) := by decide +kernel
theorem dX6_nextToken_175 : decode cX6_nextToken 175 = .ok (.bipush 48, 2) := by decide +kernel
theorem dX6_nextToken_177 : decode cX6_nextToken 177 = .ok (.if_icmp .eq 16, 3) := by decide +kernel
theorem dX6_nextToken_180 : decode cX6_nextToken 180 = .ok (.aload_n 0, 1) := by decide +kernel
theorem dX6_nextToken_181 : decode cX6_nextToken 181 = .ok (.getfield 104, 3) := by decide +kernel
theorem dX6_nextToken_184 : decode cX6_nextToken 184 = .ok (.bipush 100, 2) := by decide +kernel
theorem dX6_nextToken_186 : decode cX6_nextToken 186 = .ok (.if_icmp .ge 7, 3) := by decide +kernel
theorem dX6_nextToken_189 : decode cX6_nextToken 189 = .ok (.iconst 1, 1) := by decide +kernel
theorem dX6_nextToken_190 : decode cX6_nextToken 190 = .ok (.goto 4, 3) := by decide +kernel
theorem dX6_nextToken_193 : decode cX6_nextToken 193 = .ok (.iconst 0, 1) := by decide +kernel
theorem dX6_nextToken_194 : decode cX6_nextToken 194 = .ok (.istore_n 1, 1) := by decide +kernel
theorem dX6_nextToken_195 : decode cX6_nextToken 195 = .ok (.aload_n 0, 1) := by decide +kernel
theorem dX6_nextToken_196 : decode cX6_nextToken 196 = .ok (.iload_n 1, 1) := by decide +kernel
theorem dX6_nextToken_197 : decode cX6_nextToken 197 = .ok (.ifCond .eq 7, 3) := by decide +kernel
theorem dX6_nextToken_200 : decode cX6_nextToken 200 = .ok (.iconst 1, 1) := by decide +kernel
theorem dX6_nextToken_201 : decode cX6_nextToken 201 = .ok (.goto 4, 3) := by decide +kernel
theorem dX6_nextToken_204 : decode cX6_nextToken 204 = .ok (.iconst 0, 1) := by decide +kernel
theorem dX6_nextToken_205 : decode cX6_nextToken 205 = .ok (.putfield 107, 3) := by decide +kernel
theorem dX6_nextToken_208 : decode cX6_nextToken 208 = .ok (.aload_n 0, 1) := by decide +kernel
theorem dX6_nextToken_209 : decode cX6_nextToken 209 = .ok (.iload_n 1, 1) := by decide +kernel
theorem dX6_nextToken_210 : decode cX6_nextToken 210 = .ok (.ifCond .eq 10, 3) := by decide +kernel
theorem dX6_nextToken_213 : decode cX6_nextToken 213 = .ok (.aload_n 0, 1) := by decide +kernel
theorem dX6_nextToken_214 : decode cX6_nextToken 214 = .ok (.getfield 104, 3) := by decide +kernel
theorem dX6_nextToken_217 : decode cX6_nextToken 217 = .ok (.goto 4, 3) := by decide +kernel
theorem dX6_nextToken_220 : decode cX6_nextToken 220 = .ok (.iconst 0, 1) := by decide +kernel
theorem dX6_nextToken_221 : decode cX6_nextToken 221 = .ok (.putfield 104, 3) := by decide +kernel
theorem dX6_nextToken_224 : decode cX6_nextToken 224 = .ok (.goto 31, 3) := by decide +kernel
theorem dX6_nextToken_227 : decode cX6_nextToken 227 = .ok (.aload_n 0, 1) := by decide +kernel
theorem dX6_nextToken_228 : decode cX6_nextToken 228 = .ok (.iconst 0, 1) := by decide +kernel
theorem dX6_nextToken_229 : decode cX6_nextToken 229 = .ok (.putfield 107, 3) := by decide +kernel
theorem dX6_nextToken_232 : decode cX6_nextToken 232 = .ok (.aload_n 0, 1) := by decide +kernel
theorem dX6_nextToken_233 : decode cX6_nextToken 233 = .ok (.aload_n 0, 1) := by decide +kernel
theorem dX6_nextToken_234 : decode cX6_nextToken 234 = .ok (.getfield 7, 3) := by decide +kernel
theorem dX6_nextToken_237 : decode cX6_nextToken 237 = .ok (.aload_n 0, 1) := by decide +kernel
theorem dX6_nextToken_238 : decode cX6_nextToken 238 = .ok (.getfield 94, 3) := by decide +kernel
theorem dX6_nextToken_241 : decode cX6_nextToken 241 = .ok (.iaload, 1) := by decide +kernel
theorem dX6_nextToken_242 : decode cX6_nextToken 242 = .ok (.putfield 104, 3) := by decide +kernel
theorem dX6_nextToken_245 : decode cX6_nextToken 245 = .ok (.aload_n 0, 1) := by decide +kernel
theorem dX6_nextToken_246 : decode cX6_nextToken 246 = .ok (.dup, 1) := by decide +kernel
theorem dX6_nextToken_247 : decode cX6_nextToken 247 = .ok (.getfield 94, 3) := by decide +kernel
theorem dX6_nextToken_250 : decode cX6_nextToken 250 = .ok (.iconst 1, 1) := by decide +kernel
theorem dX6_nextToken_251 : decode cX6_nextToken 251 = .ok (.iadd, 1) := by decide +kernel
theorem dX6_nextToken_252 : decode cX6_nextToken 252 = .ok (.putfield 94, 3) := by decide +kernel
theorem dX6_nextToken_255 : decode cX6_nextToken 255 = .ok (.return_, 1) := by decide +kernel
theorem dX6_takes_0 : decode cX6_takes 0 = .ok (.aload_n 0, 1) := by decide +kernel
theorem dX6_takes_1 : decode cX6_takes 1 = .ok (.invokevirtual 114, 3) := by decide +kernel
theorem dX6_takes_4 : decode cX6_takes 4 = .ok (.aload_n 0, 1) := by decide +kernel
theorem dX6_takes_5 : decode cX6_takes 5 = .ok (.getfield 50, 3) := by decide +kernel
theorem dX6_takes_8 : decode cX6_takes 8 = .ok (.iload_n 1, 1) := by decide +kernel
theorem dX6_takes_9 : decode cX6_takes 9 = .ok (.aload_n 0, 1) := by decide +kernel
theorem dX6_takes_10 : decode cX6_takes 10 = .ok (.getfield 104, 3) := by decide +kernel
theorem dX6_takes_13 : decode cX6_takes 13 = .ok (.iastore, 1) := by decide +kernel
theorem dX6_takes_14 : decode cX6_takes 14 = .ok (.aload_n 0, 1) := by decide +kernel
theorem dX6_takes_15 : decode cX6_takes 15 = .ok (.getfield 107, 3) := by decide +kernel
theorem dX6_takes_18 : decode cX6_takes 18 = .ok (.iconst 1, 1) := by decide +kernel
theorem dX6_takes_19 : decode cX6_takes 19 = .ok (.if_icmp .ne 22, 3) := by decide +kernel
theorem dX6_takes_22 : decode cX6_takes 22 = .ok (.aload_n 0, 1) := by decide +kernel
theorem dX6_takes_23 : decode cX6_takes 23 = .ok (.getfield 104, 3) := by decide +kernel
theorem dX6_takes_26 : decode cX6_takes 26 = .ok (.i2l, 1) := by decide +kernel
theorem dX6_takes_27 : decode cX6_takes 27 = .ok (.iload_n 2, 1) := by decide +kernel
theorem dX6_takes_28 : decode cX6_takes 28 = .ok (.i2l, 1) := by decide +kernel
theorem dX6_takes_29 : decode cX6_takes 29 = .ok (.iload_n 3, 1) := by decide +kernel
theorem dX6_takes_30 : decode cX6_takes 30 = .ok (.i2l, 1) := by decide +kernel
theorem dX6_takes_31 : decode cX6_takes 31 = .ok (.invokestatic 82, 3) := by decide +kernel
theorem dX6_takes_34 : decode cX6_takes 34 = .ok (.ifCond .eq 7, 3) := by decide +kernel
theorem dX6_takes_37 : decode cX6_takes 37 = .ok (.iconst 1, 1) := by decide +kernel
theorem dX6_takes_38 : decode cX6_takes 38 = .ok (.goto 4, 3) := by decide +kernel
theorem dX6_takes_41 : decode cX6_takes 41 = .ok (.iconst 0, 1) := by decide +kernel
theorem dX6_takes_42 : decode cX6_takes 42 = .ok (.ireturn, 1) := by decide +kernel
theorem dX6_takesTwo_0 : decode cX6_takesTwo 0 = .ok (.aload_n 0, 1) := by decide +kernel
theorem dX6_takesTwo_1 : decode cX6_takesTwo 1 = .ok (.iconst 0, 1) := by decide +kernel
theorem dX6_takesTwo_2 : decode cX6_takesTwo 2 = .ok (.iconst 0, 1) := by decide +kernel
theorem dX6_takesTwo_3 : decode cX6_takesTwo 3 = .ok (.aload_n 0, 1) := by decide +kernel
theorem dX6_takesTwo_4 : decode cX6_takesTwo 4 = .ok (.getfield 117, 3) := by decide +kernel
theorem dX6_takesTwo_7 : decode cX6_takesTwo 7 = .ok (.iconst 1, 1) := by decide +kernel
theorem dX6_takesTwo_8 : decode cX6_takesTwo 8 = .ok (.isub, 1) := by decide +kernel
theorem dX6_takesTwo_9 : decode cX6_takesTwo 9 = .ok (.invokevirtual 120, 3) := by decide +kernel
theorem dX6_takesTwo_12 : decode cX6_takesTwo 12 = .ok (.ifCond .eq 37, 3) := by decide +kernel
theorem dX6_takesTwo_15 : decode cX6_takesTwo 15 = .ok (.aload_n 0, 1) := by decide +kernel
theorem dX6_takesTwo_16 : decode cX6_takesTwo 16 = .ok (.iconst 1, 1) := by decide +kernel
theorem dX6_takesTwo_17 : decode cX6_takesTwo 17 = .ok (.iconst 0, 1) := by decide +kernel
theorem dX6_takesTwo_18 : decode cX6_takesTwo 18 = .ok (.aload_n 0, 1) := by decide +kernel
theorem dX6_takesTwo_19 : decode cX6_takesTwo 19 = .ok (.getfield 117, 3) := by decide +kernel
theorem dX6_takesTwo_22 : decode cX6_takesTwo 22 = .ok (.iconst 1, 1) := by decide +kernel
theorem dX6_takesTwo_23 : decode cX6_takesTwo 23 = .ok (.isub, 1) := by decide +kernel
theorem dX6_takesTwo_24 : decode cX6_takesTwo 24 = .ok (.invokevirtual 120, 3) := by decide +kernel
theorem dX6_takesTwo_27 : decode cX6_takesTwo 27 = .ok (.ifCond .eq 22, 3) := by decide +kernel
theorem dX6_takesTwo_30 : decode cX6_takesTwo 30 = .ok (.aload_n 0, 1) := by decide +kernel
theorem dX6_takesTwo_31 : decode cX6_takesTwo 31 = .ok (.getfield 50, 3) := by decide +kernel
theorem dX6_takesTwo_34 : decode cX6_takesTwo 34 = .ok (.iconst 0, 1) := by decide +kernel
theorem dX6_takesTwo_35 : decode cX6_takesTwo 35 = .ok (.iaload, 1) := by decide +kernel
theorem dX6_takesTwo_36 : decode cX6_takesTwo 36 = .ok (.aload_n 0, 1) := by decide +kernel
theorem dX6_takesTwo_37 : decode cX6_takesTwo 37 = .ok (.getfield 50, 3) := by decide +kernel
theorem dX6_takesTwo_40 : decode cX6_takesTwo 40 = .ok (.iconst 1, 1) := by decide +kernel
theorem dX6_takesTwo_41 : decode cX6_takesTwo 41 = .ok (.iaload, 1) := by decide +kernel
theorem dX6_takesTwo_42 : decode cX6_takesTwo 42 = .ok (.if_icmp .eq 7, 3) := by decide +kernel
theorem dX6_takesTwo_45 : decode cX6_takesTwo 45 = .ok (.iconst 1, 1) := by decide +kernel
theorem dX6_takesTwo_46 : decode cX6_takesTwo 46 = .ok (.goto 4, 3) := by decide +kernel
theorem dX6_takesTwo_49 : decode cX6_takesTwo 49 = .ok (.iconst 0, 1) := by decide +kernel
theorem dX6_takesTwo_50 : decode cX6_takesTwo 50 = .ok (.ireturn, 1) := by decide +kernel
theorem dX6_readPocket_0 : decode cX6_readPocket 0 = .ok (.aload_n 0, 1) := by decide +kernel
theorem dX6_readPocket_1 : decode cX6_readPocket 1 = .ok (.getfield 117, 3) := by decide +kernel
theorem dX6_readPocket_4 : decode cX6_readPocket 4 = .ok (.bipush 6, 2) := by decide +kernel
theorem dX6_readPocket_6 : decode cX6_readPocket 6 = .ok (.if_icmp .eq 36, 3) := by decide +kernel
theorem dX6_readPocket_9 : decode cX6_readPocket 9 = .ok (.aload_n 0, 1) := by decide +kernel
theorem dX6_readPocket_10 : decode cX6_readPocket 10 = .ok (.iconst 0, 1) := by decide +kernel
theorem dX6_readPocket_11 : decode cX6_readPocket 11 = .ok (.iconst 1, 1) := by decide +kernel
theorem dX6_readPocket_12 : decode cX6_readPocket 12 = .ok (.bipush 20, 2) := by decide +kernel
theorem dX6_readPocket_14 : decode cX6_readPocket 14 = .ok (.invokevirtual 120, 3) := by decide +kernel
theorem dX6_readPocket_17 : decode cX6_readPocket 17 = .ok (.ifCond .eq 25, 3) := by decide +kernel
theorem dX6_readPocket_20 : decode cX6_readPocket 20 = .ok (.aload_n 0, 1) := by decide +kernel
theorem dX6_readPocket_21 : decode cX6_readPocket 21 = .ok (.iconst 1, 1) := by decide +kernel
theorem dX6_readPocket_22 : decode cX6_readPocket 22 = .ok (.iconst 0, 1) := by decide +kernel
theorem dX6_readPocket_23 : decode cX6_readPocket 23 = .ok (.bipush 63, 2) := by decide +kernel
theorem dX6_readPocket_25 : decode cX6_readPocket 25 = .ok (.invokevirtual 120, 3) := by decide +kernel
theorem dX6_readPocket_28 : decode cX6_readPocket 28 = .ok (.ifCond .eq 14, 3) := by decide +kernel
theorem dX6_readPocket_31 : decode cX6_readPocket 31 = .ok (.aload_n 0, 1) := by decide +kernel
theorem dX6_readPocket_32 : decode cX6_readPocket 32 = .ok (.iconst 2, 1) := by decide +kernel
theorem dX6_readPocket_33 : decode cX6_readPocket 33 = .ok (.iconst 0, 1) := by decide +kernel
theorem dX6_readPocket_34 : decode cX6_readPocket 34 = .ok (.bipush 9, 2) := by decide +kernel
theorem dX6_readPocket_36 : decode cX6_readPocket 36 = .ok (.invokevirtual 120, 3) := by decide +kernel
theorem dX6_readPocket_39 : decode cX6_readPocket 39 = .ok (.ifCond .ne 5, 3) := by decide +kernel
theorem dX6_readPocket_42 : decode cX6_readPocket 42 = .ok (.iconst 0, 1) := by decide +kernel
theorem dX6_readPocket_43 : decode cX6_readPocket 43 = .ok (.ireturn, 1) := by decide +kernel
theorem dX6_readPocket_44 : decode cX6_readPocket 44 = .ok (.aload_n 0, 1) := by decide +kernel
theorem dX6_readPocket_45 : decode cX6_readPocket 45 = .ok (.invokevirtual 114, 3) := by decide +kernel
theorem dX6_readPocket_48 : decode cX6_readPocket 48 = .ok (.aload_n 0, 1) := by decide +kernel
theorem dX6_readPocket_49 : decode cX6_readPocket 49 = .ok (.getfield 107, 3) := by decide +kernel
theorem dX6_readPocket_52 : decode cX6_readPocket 52 = .ok (.iconst 1, 1) := by decide +kernel
theorem dX6_readPocket_53 : decode cX6_readPocket 53 = .ok (.if_icmp .ne 23, 3) := by decide +kernel
theorem dX6_readPocket_56 : decode cX6_readPocket 56 = .ok (.aload_n 0, 1) := by decide +kernel
theorem dX6_readPocket_57 : decode cX6_readPocket 57 = .ok (.getfield 104, 3) := by decide +kernel
theorem dX6_readPocket_60 : decode cX6_readPocket 60 = .ok (.bipush 9, 2) := by decide +kernel
theorem dX6_readPocket_62 : decode cX6_readPocket 62 = .ok (.if_icmp .eq 16, 3) := by decide +kernel
theorem dX6_readPocket_65 : decode cX6_readPocket 65 = .ok (.aload_n 0, 1) := by decide +kernel
theorem dX6_readPocket_66 : decode cX6_readPocket 66 = .ok (.getfield 104, 3) := by decide +kernel
theorem dX6_readPocket_69 : decode cX6_readPocket 69 = .ok (.aload_n 0, 1) := by decide +kernel
theorem dX6_readPocket_70 : decode cX6_readPocket 70 = .ok (.getfield 117, 3) := by decide +kernel
theorem dX6_readPocket_73 : decode cX6_readPocket 73 = .ok (.if_icmp .lt 5, 3) := by decide +kernel
theorem dX6_readPocket_76 : decode cX6_readPocket 76 = .ok (.iconst 0, 1) := by decide +kernel
theorem dX6_readPocket_77 : decode cX6_readPocket 77 = .ok (.ireturn, 1) := by decide +kernel
theorem dX6_readPocket_78 : decode cX6_readPocket 78 = .ok (.bipush 8, 2) := by decide +kernel
theorem dX6_readPocket_80 : decode cX6_readPocket 80 = .ok (.aload_n 0, 1) := by decide +kernel
theorem dX6_readPocket_81 : decode cX6_readPocket 81 = .ok (.getfield 117, 3) := by decide +kernel
theorem dX6_readPocket_84 : decode cX6_readPocket 84 = .ok (.imul, 1) := by decide +kernel
theorem dX6_readPocket_85 : decode cX6_readPocket 85 = .ok (.istore_n 1, 1) := by decide +kernel
theorem dX6_readPocket_86 : decode cX6_readPocket 86 = .ok (.aload_n 0, 1) := by decide +kernel
theorem dX6_readPocket_87 : decode cX6_readPocket 87 = .ok (.getfield 38, 3) := by decide +kernel
theorem dX6_readPocket_90 : decode cX6_readPocket 90 = .ok (.iload_n 1, 1) := by decide +kernel
theorem dX6_readPocket_91 : decode cX6_readPocket 91 = .ok (.aload_n 0, 1) := by decide +kernel
theorem dX6_readPocket_92 : decode cX6_readPocket 92 = .ok (.getfield 50, 3) := by decide +kernel
theorem dX6_readPocket_95 : decode cX6_readPocket 95 = .ok (.iconst 0, 1) := by decide +kernel
theorem dX6_readPocket_96 : decode cX6_readPocket 96 = .ok (.iaload, 1) := by decide +kernel
theorem dX6_readPocket_97 : decode cX6_readPocket 97 = .ok (.iastore, 1) := by decide +kernel
theorem dX6_readPocket_98 : decode cX6_readPocket 98 = .ok (.aload_n 0, 1) := by decide +kernel
theorem dX6_readPocket_99 : decode cX6_readPocket 99 = .ok (.getfield 38, 3) := by decide +kernel
theorem dX6_readPocket_102 : decode cX6_readPocket 102 = .ok (.iload_n 1, 1) := by decide +kernel
theorem dX6_readPocket_103 : decode cX6_readPocket 103 = .ok (.iconst 1, 1) := by decide +kernel
theorem dX6_readPocket_104 : decode cX6_readPocket 104 = .ok (.iadd, 1) := by decide +kernel
theorem dX6_readPocket_105 : decode cX6_readPocket 105 = .ok (.aload_n 0, 1) := by decide +kernel
theorem dX6_readPocket_106 : decode cX6_readPocket 106 = .ok (.getfield 50, 3) := by decide +kernel
theorem dX6_readPocket_109 : decode cX6_readPocket 109 = .ok (.iconst 1, 1) := by decide +kernel
theorem dX6_readPocket_110 : decode cX6_readPocket 110 = .ok (.iaload, 1) := by decide +kernel
theorem dX6_readPocket_111 : decode cX6_readPocket 111 = .ok (.iastore, 1) := by decide +kernel
theorem dX6_readPocket_112 : decode cX6_readPocket 112 = .ok (.aload_n 0, 1) := by decide +kernel
theorem dX6_readPocket_113 : decode cX6_readPocket 113 = .ok (.getfield 38, 3) := by decide +kernel
theorem dX6_readPocket_116 : decode cX6_readPocket 116 = .ok (.iload_n 1, 1) := by decide +kernel
theorem dX6_readPocket_117 : decode cX6_readPocket 117 = .ok (.iconst 2, 1) := by decide +kernel
theorem dX6_readPocket_118 : decode cX6_readPocket 118 = .ok (.iadd, 1) := by decide +kernel
theorem dX6_readPocket_119 : decode cX6_readPocket 119 = .ok (.aload_n 0, 1) := by decide +kernel
theorem dX6_readPocket_120 : decode cX6_readPocket 120 = .ok (.getfield 50, 3) := by decide +kernel
theorem dX6_readPocket_123 : decode cX6_readPocket 123 = .ok (.iconst 2, 1) := by decide +kernel
theorem dX6_readPocket_124 : decode cX6_readPocket 124 = .ok (.iaload, 1) := by decide +kernel
theorem dX6_readPocket_125 : decode cX6_readPocket 125 = .ok (.iastore, 1) := by decide +kernel
theorem dX6_readPocket_126 : decode cX6_readPocket 126 = .ok (.aload_n 0, 1) := by decide +kernel
theorem dX6_readPocket_127 : decode cX6_readPocket 127 = .ok (.getfield 38, 3) := by decide +kernel
theorem dX6_readPocket_130 : decode cX6_readPocket 130 = .ok (.iload_n 1, 1) := by decide +kernel
theorem dX6_readPocket_131 : decode cX6_readPocket 131 = .ok (.iconst 3, 1) := by decide +kernel
theorem dX6_readPocket_132 : decode cX6_readPocket 132 = .ok (.iadd, 1) := by decide +kernel
theorem dX6_readPocket_133 : decode cX6_readPocket 133 = .ok (.aload_n 0, 1) := by decide +kernel
theorem dX6_readPocket_134 : decode cX6_readPocket 134 = .ok (.getfield 104, 3) := by decide +kernel
theorem dX6_readPocket_137 : decode cX6_readPocket 137 = .ok (.iastore, 1) := by decide +kernel
theorem dX6_readPocket_138 : decode cX6_readPocket 138 = .ok (.aload_n 0, 1) := by decide +kernel
theorem dX6_readPocket_139 : decode cX6_readPocket 139 = .ok (.getfield 38, 3) := by decide +kernel
theorem dX6_readPocket_142 : decode cX6_readPocket 142 = .ok (.iload_n 1, 1) := by decide +kernel
theorem dX6_readPocket_143 : decode cX6_readPocket 143 = .ok (.iconst 4, 1) := by decide +kernel
theorem dX6_readPocket_144 : decode cX6_readPocket 144 = .ok (.iadd, 1) := by decide +kernel
theorem dX6_readPocket_145 : decode cX6_readPocket 145 = .ok (.iconst 0, 1) := by decide +kernel
theorem dX6_readPocket_146 : decode cX6_readPocket 146 = .ok (.iastore, 1) := by decide +kernel
theorem dX6_readPocket_147 : decode cX6_readPocket 147 = .ok (.aload_n 0, 1) := by decide +kernel
theorem dX6_readPocket_148 : decode cX6_readPocket 148 = .ok (.getfield 38, 3) := by decide +kernel
theorem dX6_readPocket_151 : decode cX6_readPocket 151 = .ok (.iload_n 1, 1) := by decide +kernel
theorem dX6_readPocket_152 : decode cX6_readPocket 152 = .ok (.bipush 6, 2) := by decide +kernel
theorem dX6_readPocket_154 : decode cX6_readPocket 154 = .ok (.iadd, 1) := by decide +kernel
theorem dX6_readPocket_155 : decode cX6_readPocket 155 = .ok (.bipush (-9), 2) := by decide +kernel
theorem dX6_readPocket_157 : decode cX6_readPocket 157 = .ok (.iastore, 1) := by decide +kernel
theorem dX6_readPocket_158 : decode cX6_readPocket 158 = .ok (.aload_n 0, 1) := by decide +kernel
theorem dX6_readPocket_159 : decode cX6_readPocket 159 = .ok (.dup, 1) := by decide +kernel
theorem dX6_readPocket_160 : decode cX6_readPocket 160 = .ok (.getfield 117, 3) := by decide +kernel
theorem dX6_readPocket_163 : decode cX6_readPocket 163 = .ok (.iconst 1, 1) := by decide +kernel
theorem dX6_readPocket_164 : decode cX6_readPocket 164 = .ok (.iadd, 1) := by decide +kernel
theorem dX6_readPocket_165 : decode cX6_readPocket 165 = .ok (.putfield 117, 3) := by decide +kernel
theorem dX6_readPocket_168 : decode cX6_readPocket 168 = .ok (.iconst 1, 1) := by decide +kernel
theorem dX6_readPocket_169 : decode cX6_readPocket 169 = .ok (.ireturn, 1) := by decide +kernel
theorem dX6_readThing_0 : decode cX6_readThing 0 = .ok (.aload_n 0, 1) := by decide +kernel
theorem dX6_readThing_1 : decode cX6_readThing 1 = .ok (.getfield 124, 3) := by decide +kernel
theorem dX6_readThing_4 : decode cX6_readThing 4 = .ok (.bipush 6, 2) := by decide +kernel
theorem dX6_readThing_6 : decode cX6_readThing 6 = .ok (.if_icmp .eq 49, 3) := by decide +kernel
theorem dX6_readThing_9 : decode cX6_readThing 9 = .ok (.aload_n 0, 1) := by decide +kernel
theorem dX6_readThing_10 : decode cX6_readThing 10 = .ok (.iconst 0, 1) := by decide +kernel
theorem dX6_readThing_11 : decode cX6_readThing 11 = .ok (.iconst 0, 1) := by decide +kernel
theorem dX6_readThing_12 : decode cX6_readThing 12 = .ok (.iconst 5, 1) := by decide +kernel
theorem dX6_readThing_13 : decode cX6_readThing 13 = .ok (.invokevirtual 120, 3) := by decide +kernel
theorem dX6_readThing_16 : decode cX6_readThing 16 = .ok (.ifCond .eq 39, 3) := by decide +kernel
theorem dX6_readThing_19 : decode cX6_readThing 19 = .ok (.aload_n 0, 1) := by decide +kernel
theorem dX6_readThing_20 : decode cX6_readThing 20 = .ok (.iconst 1, 1) := by decide +kernel
theorem dX6_readThing_21 : decode cX6_readThing 21 = .ok (.iconst 1, 1) := by decide +kernel
theorem dX6_readThing_22 : decode cX6_readThing 22 = .ok (.iconst 5, 1) := by decide +kernel
theorem dX6_readThing_23 : decode cX6_readThing 23 = .ok (.invokevirtual 120, 3) := by decide +kernel
theorem dX6_readThing_26 : decode cX6_readThing 26 = .ok (.ifCond .eq 29, 3) := by decide +kernel
theorem dX6_readThing_29 : decode cX6_readThing 29 = .ok (.aload_n 0, 1) := by decide +kernel
theorem dX6_readThing_30 : decode cX6_readThing 30 = .ok (.iconst 2, 1) := by decide +kernel
theorem dX6_readThing_31 : decode cX6_readThing 31 = .ok (.iconst 0, 1) := by decide +kernel
theorem dX6_readThing_32 : decode cX6_readThing 32 = .ok (.bipush 9, 2) := by decide +kernel
end
section
theorem dX6_readThing_34 : decode cX6_readThing 34 = .ok (.invokevirtual 120, 3) := by decide +kernel
theorem dX6_readThing_37 : decode cX6_readThing 37 = .ok (.ifCond .eq 18, 3) := by decide +kernel
theorem dX6_readThing_40 : decode cX6_readThing 40 = .ok (.aload_n 0, 1) := by decide +kernel
theorem dX6_readThing_41 : decode cX6_readThing 41 = .ok (.iconst 3, 1) := by decide +kernel
theorem dX6_readThing_42 : decode cX6_readThing 42 = .ok (.iconst 0, 1) := by decide +kernel
theorem dX6_readThing_43 : decode cX6_readThing 43 = .ok (.aload_n 0, 1) := by decide +kernel
theorem dX6_readThing_44 : decode cX6_readThing 44 = .ok (.getfield 117, 3) := by decide +kernel
theorem dX6_readThing_47 : decode cX6_readThing 47 = .ok (.iconst 1, 1) := by decide +kernel
theorem dX6_readThing_48 : decode cX6_readThing 48 = .ok (.isub, 1) := by decide +kernel
theorem dX6_readThing_49 : decode cX6_readThing 49 = .ok (.invokevirtual 120, 3) := by decide +kernel
theorem dX6_readThing_52 : decode cX6_readThing 52 = .ok (.ifCond .ne 5, 3) := by decide +kernel
theorem dX6_readThing_55 : decode cX6_readThing 55 = .ok (.iconst 0, 1) := by decide +kernel
theorem dX6_readThing_56 : decode cX6_readThing 56 = .ok (.ireturn, 1) := by decide +kernel
theorem dX6_readThing_57 : decode cX6_readThing 57 = .ok (.iconst 0, 1) := by decide +kernel
theorem dX6_readThing_58 : decode cX6_readThing 58 = .ok (.istore_n 1, 1) := by decide +kernel
theorem dX6_readThing_59 : decode cX6_readThing 59 = .ok (.iload_n 1, 1) := by decide +kernel
theorem dX6_readThing_60 : decode cX6_readThing 60 = .ok (.iconst 4, 1) := by decide +kernel
theorem dX6_readThing_61 : decode cX6_readThing 61 = .ok (.if_icmp .ge 28, 3) := by decide +kernel
theorem dX6_readThing_64 : decode cX6_readThing 64 = .ok (.aload_n 0, 1) := by decide +kernel
theorem dX6_readThing_65 : decode cX6_readThing 65 = .ok (.getfield 47, 3) := by decide +kernel
theorem dX6_readThing_68 : decode cX6_readThing 68 = .ok (.iconst 4, 1) := by decide +kernel
theorem dX6_readThing_69 : decode cX6_readThing 69 = .ok (.aload_n 0, 1) := by decide +kernel
theorem dX6_readThing_70 : decode cX6_readThing 70 = .ok (.getfield 124, 3) := by decide +kernel
theorem dX6_readThing_73 : decode cX6_readThing 73 = .ok (.imul, 1) := by decide +kernel
theorem dX6_readThing_74 : decode cX6_readThing 74 = .ok (.iload_n 1, 1) := by decide +kernel
theorem dX6_readThing_75 : decode cX6_readThing 75 = .ok (.iadd, 1) := by decide +kernel
theorem dX6_readThing_76 : decode cX6_readThing 76 = .ok (.aload_n 0, 1) := by decide +kernel
theorem dX6_readThing_77 : decode cX6_readThing 77 = .ok (.getfield 50, 3) := by decide +kernel
theorem dX6_readThing_80 : decode cX6_readThing 80 = .ok (.iload_n 1, 1) := by decide +kernel
theorem dX6_readThing_81 : decode cX6_readThing 81 = .ok (.iaload, 1) := by decide +kernel
theorem dX6_readThing_82 : decode cX6_readThing 82 = .ok (.iastore, 1) := by decide +kernel
theorem dX6_readThing_83 : decode cX6_readThing 83 = .ok (.iinc 1 1, 3) := by decide +kernel
theorem dX6_readThing_86 : decode cX6_readThing 86 = .ok (.goto (-27), 3) := by decide +kernel
theorem dX6_readThing_89 : decode cX6_readThing 89 = .ok (.aload_n 0, 1) := by decide +kernel
theorem dX6_readThing_90 : decode cX6_readThing 90 = .ok (.dup, 1) := by decide +kernel
theorem dX6_readThing_91 : decode cX6_readThing 91 = .ok (.getfield 124, 3) := by decide +kernel
theorem dX6_readThing_94 : decode cX6_readThing 94 = .ok (.iconst 1, 1) := by decide +kernel
theorem dX6_readThing_95 : decode cX6_readThing 95 = .ok (.iadd, 1) := by decide +kernel
theorem dX6_readThing_96 : decode cX6_readThing 96 = .ok (.putfield 124, 3) := by decide +kernel
theorem dX6_readThing_99 : decode cX6_readThing 99 = .ok (.iconst 1, 1) := by decide +kernel
theorem dX6_readThing_100 : decode cX6_readThing 100 = .ok (.ireturn, 1) := by decide +kernel
theorem dX6_readLaw_0 : decode cX6_readLaw 0 = .ok (.aload_n 0, 1) := by decide +kernel
theorem dX6_readLaw_1 : decode cX6_readLaw 1 = .ok (.invokevirtual 127, 3) := by decide +kernel
theorem dX6_readLaw_4 : decode cX6_readLaw 4 = .ok (.ifCond .ne 5, 3) := by decide +kernel
theorem dX6_readLaw_7 : decode cX6_readLaw 7 = .ok (.iconst 0, 1) := by decide +kernel
theorem dX6_readLaw_8 : decode cX6_readLaw 8 = .ok (.ireturn, 1) := by decide +kernel
theorem dX6_readLaw_9 : decode cX6_readLaw 9 = .ok (.aload_n 0, 1) := by decide +kernel
theorem dX6_readLaw_10 : decode cX6_readLaw 10 = .ok (.getfield 38, 3) := by decide +kernel
theorem dX6_readLaw_13 : decode cX6_readLaw 13 = .ok (.bipush 8, 2) := by decide +kernel
theorem dX6_readLaw_15 : decode cX6_readLaw 15 = .ok (.aload_n 0, 1) := by decide +kernel
theorem dX6_readLaw_16 : decode cX6_readLaw 16 = .ok (.getfield 50, 3) := by decide +kernel
theorem dX6_readLaw_19 : decode cX6_readLaw 19 = .ok (.iconst 0, 1) := by decide +kernel
theorem dX6_readLaw_20 : decode cX6_readLaw 20 = .ok (.iaload, 1) := by decide +kernel
theorem dX6_readLaw_21 : decode cX6_readLaw 21 = .ok (.imul, 1) := by decide +kernel
theorem dX6_readLaw_22 : decode cX6_readLaw 22 = .ok (.iconst 4, 1) := by decide +kernel
theorem dX6_readLaw_23 : decode cX6_readLaw 23 = .ok (.iadd, 1) := by decide +kernel
theorem dX6_readLaw_24 : decode cX6_readLaw 24 = .ok (.iload_n 1, 1) := by decide +kernel
theorem dX6_readLaw_25 : decode cX6_readLaw 25 = .ok (.iastore, 1) := by decide +kernel
theorem dX6_readLaw_26 : decode cX6_readLaw 26 = .ok (.aload_n 0, 1) := by decide +kernel
theorem dX6_readLaw_27 : decode cX6_readLaw 27 = .ok (.getfield 38, 3) := by decide +kernel
theorem dX6_readLaw_30 : decode cX6_readLaw 30 = .ok (.bipush 8, 2) := by decide +kernel
theorem dX6_readLaw_32 : decode cX6_readLaw 32 = .ok (.aload_n 0, 1) := by decide +kernel
theorem dX6_readLaw_33 : decode cX6_readLaw 33 = .ok (.getfield 50, 3) := by decide +kernel
theorem dX6_readLaw_36 : decode cX6_readLaw 36 = .ok (.iconst 0, 1) := by decide +kernel
theorem dX6_readLaw_37 : decode cX6_readLaw 37 = .ok (.iaload, 1) := by decide +kernel
theorem dX6_readLaw_38 : decode cX6_readLaw 38 = .ok (.imul, 1) := by decide +kernel
theorem dX6_readLaw_39 : decode cX6_readLaw 39 = .ok (.iconst 5, 1) := by decide +kernel
theorem dX6_readLaw_40 : decode cX6_readLaw 40 = .ok (.iadd, 1) := by decide +kernel
theorem dX6_readLaw_41 : decode cX6_readLaw 41 = .ok (.aload_n 0, 1) := by decide +kernel
theorem dX6_readLaw_42 : decode cX6_readLaw 42 = .ok (.getfield 50, 3) := by decide +kernel
theorem dX6_readLaw_45 : decode cX6_readLaw 45 = .ok (.iconst 1, 1) := by decide +kernel
theorem dX6_readLaw_46 : decode cX6_readLaw 46 = .ok (.iaload, 1) := by decide +kernel
theorem dX6_readLaw_47 : decode cX6_readLaw 47 = .ok (.iastore, 1) := by decide +kernel
theorem dX6_readLaw_48 : decode cX6_readLaw 48 = .ok (.iconst 1, 1) := by decide +kernel
theorem dX6_readLaw_49 : decode cX6_readLaw 49 = .ok (.ireturn, 1) := by decide +kernel
theorem dX6_readSeam_0 : decode cX6_readSeam 0 = .ok (.aload_n 0, 1) := by decide +kernel
theorem dX6_readSeam_1 : decode cX6_readSeam 1 = .ok (.invokevirtual 127, 3) := by decide +kernel
theorem dX6_readSeam_4 : decode cX6_readSeam 4 = .ok (.ifCond .ne 5, 3) := by decide +kernel
theorem dX6_readSeam_7 : decode cX6_readSeam 7 = .ok (.iconst 0, 1) := by decide +kernel
theorem dX6_readSeam_8 : decode cX6_readSeam 8 = .ok (.ireturn, 1) := by decide +kernel
theorem dX6_readSeam_9 : decode cX6_readSeam 9 = .ok (.aload_n 0, 1) := by decide +kernel
theorem dX6_readSeam_10 : decode cX6_readSeam 10 = .ok (.getfield 41, 3) := by decide +kernel
theorem dX6_readSeam_13 : decode cX6_readSeam 13 = .ok (.bipush 6, 2) := by decide +kernel
theorem dX6_readSeam_15 : decode cX6_readSeam 15 = .ok (.aload_n 0, 1) := by decide +kernel
theorem dX6_readSeam_16 : decode cX6_readSeam 16 = .ok (.getfield 50, 3) := by decide +kernel
theorem dX6_readSeam_19 : decode cX6_readSeam 19 = .ok (.iconst 0, 1) := by decide +kernel
theorem dX6_readSeam_20 : decode cX6_readSeam 20 = .ok (.iaload, 1) := by decide +kernel
theorem dX6_readSeam_21 : decode cX6_readSeam 21 = .ok (.imul, 1) := by decide +kernel
theorem dX6_readSeam_22 : decode cX6_readSeam 22 = .ok (.aload_n 0, 1) := by decide +kernel
theorem dX6_readSeam_23 : decode cX6_readSeam 23 = .ok (.getfield 50, 3) := by decide +kernel
theorem dX6_readSeam_26 : decode cX6_readSeam 26 = .ok (.iconst 1, 1) := by decide +kernel
theorem dX6_readSeam_27 : decode cX6_readSeam 27 = .ok (.iaload, 1) := by decide +kernel
theorem dX6_readSeam_28 : decode cX6_readSeam 28 = .ok (.iadd, 1) := by decide +kernel
theorem dX6_readSeam_29 : decode cX6_readSeam 29 = .ok (.iconst 1, 1) := by decide +kernel
theorem dX6_readSeam_30 : decode cX6_readSeam 30 = .ok (.bastore, 1) := by decide +kernel
theorem dX6_readSeam_31 : decode cX6_readSeam 31 = .ok (.aload_n 0, 1) := by decide +kernel
theorem dX6_readSeam_32 : decode cX6_readSeam 32 = .ok (.getfield 41, 3) := by decide +kernel
theorem dX6_readSeam_35 : decode cX6_readSeam 35 = .ok (.bipush 6, 2) := by decide +kernel
theorem dX6_readSeam_37 : decode cX6_readSeam 37 = .ok (.aload_n 0, 1) := by decide +kernel
theorem dX6_readSeam_38 : decode cX6_readSeam 38 = .ok (.getfield 50, 3) := by decide +kernel
theorem dX6_readSeam_41 : decode cX6_readSeam 41 = .ok (.iconst 1, 1) := by decide +kernel
theorem dX6_readSeam_42 : decode cX6_readSeam 42 = .ok (.iaload, 1) := by decide +kernel
theorem dX6_readSeam_43 : decode cX6_readSeam 43 = .ok (.imul, 1) := by decide +kernel
theorem dX6_readSeam_44 : decode cX6_readSeam 44 = .ok (.aload_n 0, 1) := by decide +kernel
theorem dX6_readSeam_45 : decode cX6_readSeam 45 = .ok (.getfield 50, 3) := by decide +kernel
theorem dX6_readSeam_48 : decode cX6_readSeam 48 = .ok (.iconst 0, 1) := by decide +kernel
theorem dX6_readSeam_49 : decode cX6_readSeam 49 = .ok (.iaload, 1) := by decide +kernel
theorem dX6_readSeam_50 : decode cX6_readSeam 50 = .ok (.iadd, 1) := by decide +kernel
theorem dX6_readSeam_51 : decode cX6_readSeam 51 = .ok (.iconst 1, 1) := by decide +kernel
theorem dX6_readSeam_52 : decode cX6_readSeam 52 = .ok (.bastore, 1) := by decide +kernel
theorem dX6_readSeam_53 : decode cX6_readSeam 53 = .ok (.iconst 1, 1) := by decide +kernel
theorem dX6_readSeam_54 : decode cX6_readSeam 54 = .ok (.ireturn, 1) := by decide +kernel
theorem dX6_readHole_0 : decode cX6_readHole 0 = .ok (.aload_n 0, 1) := by decide +kernel
theorem dX6_readHole_1 : decode cX6_readHole 1 = .ok (.invokevirtual 127, 3) := by decide +kernel
theorem dX6_readHole_4 : decode cX6_readHole 4 = .ok (.ifCond .eq 13, 3) := by decide +kernel
theorem dX6_readHole_7 : decode cX6_readHole 7 = .ok (.aload_n 0, 1) := by decide +kernel
theorem dX6_readHole_8 : decode cX6_readHole 8 = .ok (.iconst 2, 1) := by decide +kernel
theorem dX6_readHole_9 : decode cX6_readHole 9 = .ok (.iconst 1, 1) := by decide +kernel
theorem dX6_readHole_10 : decode cX6_readHole 10 = .ok (.iconst 5, 1) := by decide +kernel
theorem dX6_readHole_11 : decode cX6_readHole 11 = .ok (.invokevirtual 120, 3) := by decide +kernel
theorem dX6_readHole_14 : decode cX6_readHole 14 = .ok (.ifCond .ne 5, 3) := by decide +kernel
theorem dX6_readHole_17 : decode cX6_readHole 17 = .ok (.iconst 0, 1) := by decide +kernel
theorem dX6_readHole_18 : decode cX6_readHole 18 = .ok (.ireturn, 1) := by decide +kernel
theorem dX6_readHole_19 : decode cX6_readHole 19 = .ok (.aload_n 0, 1) := by decide +kernel
theorem dX6_readHole_20 : decode cX6_readHole 20 = .ok (.getfield 38, 3) := by decide +kernel
theorem dX6_readHole_23 : decode cX6_readHole 23 = .ok (.bipush 8, 2) := by decide +kernel
theorem dX6_readHole_25 : decode cX6_readHole 25 = .ok (.aload_n 0, 1) := by decide +kernel
theorem dX6_readHole_26 : decode cX6_readHole 26 = .ok (.getfield 50, 3) := by decide +kernel
theorem dX6_readHole_29 : decode cX6_readHole 29 = .ok (.iconst 0, 1) := by decide +kernel
theorem dX6_readHole_30 : decode cX6_readHole 30 = .ok (.iaload, 1) := by decide +kernel
theorem dX6_readHole_31 : decode cX6_readHole 31 = .ok (.imul, 1) := by decide +kernel
theorem dX6_readHole_32 : decode cX6_readHole 32 = .ok (.bipush 6, 2) := by decide +kernel
theorem dX6_readHole_34 : decode cX6_readHole 34 = .ok (.iadd, 1) := by decide +kernel
theorem dX6_readHole_35 : decode cX6_readHole 35 = .ok (.aload_n 0, 1) := by decide +kernel
theorem dX6_readHole_36 : decode cX6_readHole 36 = .ok (.getfield 50, 3) := by decide +kernel
theorem dX6_readHole_39 : decode cX6_readHole 39 = .ok (.iconst 1, 1) := by decide +kernel
theorem dX6_readHole_40 : decode cX6_readHole 40 = .ok (.iaload, 1) := by decide +kernel
theorem dX6_readHole_41 : decode cX6_readHole 41 = .ok (.iastore, 1) := by decide +kernel
theorem dX6_readHole_42 : decode cX6_readHole 42 = .ok (.aload_n 0, 1) := by decide +kernel
theorem dX6_readHole_43 : decode cX6_readHole 43 = .ok (.getfield 38, 3) := by decide +kernel
theorem dX6_readHole_46 : decode cX6_readHole 46 = .ok (.bipush 8, 2) := by decide +kernel
theorem dX6_readHole_48 : decode cX6_readHole 48 = .ok (.aload_n 0, 1) := by decide +kernel
theorem dX6_readHole_49 : decode cX6_readHole 49 = .ok (.getfield 50, 3) := by decide +kernel
theorem dX6_readHole_52 : decode cX6_readHole 52 = .ok (.iconst 0, 1) := by decide +kernel
theorem dX6_readHole_53 : decode cX6_readHole 53 = .ok (.iaload, 1) := by decide +kernel
theorem dX6_readHole_54 : decode cX6_readHole 54 = .ok (.imul, 1) := by decide +kernel
theorem dX6_readHole_55 : decode cX6_readHole 55 = .ok (.bipush 7, 2) := by decide +kernel
theorem dX6_readHole_57 : decode cX6_readHole 57 = .ok (.iadd, 1) := by decide +kernel
theorem dX6_readHole_58 : decode cX6_readHole 58 = .ok (.aload_n 0, 1) := by decide +kernel
theorem dX6_readHole_59 : decode cX6_readHole 59 = .ok (.getfield 50, 3) := by decide +kernel
theorem dX6_readHole_62 : decode cX6_readHole 62 = .ok (.iconst 2, 1) := by decide +kernel
theorem dX6_readHole_63 : decode cX6_readHole 63 = .ok (.iaload, 1) := by decide +kernel
theorem dX6_readHole_64 : decode cX6_readHole 64 = .ok (.iastore, 1) := by decide +kernel
theorem dX6_readHole_65 : decode cX6_readHole 65 = .ok (.iconst 1, 1) := by decide +kernel
theorem dX6_readHole_66 : decode cX6_readHole 66 = .ok (.ireturn, 1) := by decide +kernel
theorem dX6_readTreaty_0 : decode cX6_readTreaty 0 = .ok (.aload_n 0, 1) := by decide +kernel
theorem dX6_readTreaty_1 : decode cX6_readTreaty 1 = .ok (.getfield 131, 3) := by decide +kernel
theorem dX6_readTreaty_4 : decode cX6_readTreaty 4 = .ok (.bipush 12, 2) := by decide +kernel
theorem dX6_readTreaty_6 : decode cX6_readTreaty 6 = .ok (.if_icmp .eq 20, 3) := by decide +kernel
theorem dX6_readTreaty_9 : decode cX6_readTreaty 9 = .ok (.aload_n 0, 1) := by decide +kernel
theorem dX6_readTreaty_10 : decode cX6_readTreaty 10 = .ok (.invokevirtual 127, 3) := by decide +kernel
theorem dX6_readTreaty_13 : decode cX6_readTreaty 13 = .ok (.ifCond .eq 13, 3) := by decide +kernel
theorem dX6_readTreaty_16 : decode cX6_readTreaty 16 = .ok (.aload_n 0, 1) := by decide +kernel
theorem dX6_readTreaty_17 : decode cX6_readTreaty 17 = .ok (.iconst 2, 1) := by decide +kernel
theorem dX6_readTreaty_18 : decode cX6_readTreaty 18 = .ok (.iconst 0, 1) := by decide +kernel
theorem dX6_readTreaty_19 : decode cX6_readTreaty 19 = .ok (.iconst 5, 1) := by decide +kernel
theorem dX6_readTreaty_20 : decode cX6_readTreaty 20 = .ok (.invokevirtual 120, 3) := by decide +kernel
theorem dX6_readTreaty_23 : decode cX6_readTreaty 23 = .ok (.ifCond .ne 5, 3) := by decide +kernel
theorem dX6_readTreaty_26 : decode cX6_readTreaty 26 = .ok (.iconst 0, 1) := by decide +kernel
theorem dX6_readTreaty_27 : decode cX6_readTreaty 27 = .ok (.ireturn, 1) := by decide +kernel
theorem dX6_readTreaty_28 : decode cX6_readTreaty 28 = .ok (.aload_n 0, 1) := by decide +kernel
theorem dX6_readTreaty_29 : decode cX6_readTreaty 29 = .ok (.getfield 44, 3) := by decide +kernel
theorem dX6_readTreaty_32 : decode cX6_readTreaty 32 = .ok (.bipush 6, 2) := by decide +kernel
theorem dX6_readTreaty_34 : decode cX6_readTreaty 34 = .ok (.aload_n 0, 1) := by decide +kernel
theorem dX6_readTreaty_35 : decode cX6_readTreaty 35 = .ok (.getfield 50, 3) := by decide +kernel
theorem dX6_readTreaty_38 : decode cX6_readTreaty 38 = .ok (.iconst 0, 1) := by decide +kernel
theorem dX6_readTreaty_39 : decode cX6_readTreaty 39 = .ok (.iaload, 1) := by decide +kernel
theorem dX6_readTreaty_40 : decode cX6_readTreaty 40 = .ok (.imul, 1) := by decide +kernel
theorem dX6_readTreaty_41 : decode cX6_readTreaty 41 = .ok (.aload_n 0, 1) := by decide +kernel
theorem dX6_readTreaty_42 : decode cX6_readTreaty 42 = .ok (.getfield 50, 3) := by decide +kernel
theorem dX6_readTreaty_45 : decode cX6_readTreaty 45 = .ok (.iconst 1, 1) := by decide +kernel
theorem dX6_readTreaty_46 : decode cX6_readTreaty 46 = .ok (.iaload, 1) := by decide +kernel
theorem dX6_readTreaty_47 : decode cX6_readTreaty 47 = .ok (.iadd, 1) := by decide +kernel
theorem dX6_readTreaty_48 : decode cX6_readTreaty 48 = .ok (.dup2, 1) := by decide +kernel
theorem dX6_readTreaty_49 : decode cX6_readTreaty 49 = .ok (.iaload, 1) := by decide +kernel
theorem dX6_readTreaty_50 : decode cX6_readTreaty 50 = .ok (.iconst 1, 1) := by decide +kernel
theorem dX6_readTreaty_51 : decode cX6_readTreaty 51 = .ok (.aload_n 0, 1) := by decide +kernel
theorem dX6_readTreaty_52 : decode cX6_readTreaty 52 = .ok (.getfield 50, 3) := by decide +kernel
theorem dX6_readTreaty_55 : decode cX6_readTreaty 55 = .ok (.iconst 2, 1) := by decide +kernel
theorem dX6_readTreaty_56 : decode cX6_readTreaty 56 = .ok (.iaload, 1) := by decide +kernel
theorem dX6_readTreaty_57 : decode cX6_readTreaty 57 = .ok (.ishl, 1) := by decide +kernel
theorem dX6_readTreaty_58 : decode cX6_readTreaty 58 = .ok (.ior, 1) := by decide +kernel
theorem dX6_readTreaty_59 : decode cX6_readTreaty 59 = .ok (.iastore, 1) := by decide +kernel
theorem dX6_readTreaty_60 : decode cX6_readTreaty 60 = .ok (.aload_n 0, 1) := by decide +kernel
theorem dX6_readTreaty_61 : decode cX6_readTreaty 61 = .ok (.getfield 44, 3) := by decide +kernel
theorem dX6_readTreaty_64 : decode cX6_readTreaty 64 = .ok (.bipush 6, 2) := by decide +kernel
theorem dX6_readTreaty_66 : decode cX6_readTreaty 66 = .ok (.aload_n 0, 1) := by decide +kernel
theorem dX6_readTreaty_67 : decode cX6_readTreaty 67 = .ok (.getfield 50, 3) := by decide +kernel
theorem dX6_readTreaty_70 : decode cX6_readTreaty 70 = .ok (.iconst 1, 1) := by decide +kernel
theorem dX6_readTreaty_71 : decode cX6_readTreaty 71 = .ok (.iaload, 1) := by decide +kernel
theorem dX6_readTreaty_72 : decode cX6_readTreaty 72 = .ok (.imul, 1) := by decide +kernel
theorem dX6_readTreaty_73 : decode cX6_readTreaty 73 = .ok (.aload_n 0, 1) := by decide +kernel
theorem dX6_readTreaty_74 : decode cX6_readTreaty 74 = .ok (.getfield 50, 3) := by decide +kernel
theorem dX6_readTreaty_77 : decode cX6_readTreaty 77 = .ok (.iconst 0, 1) := by decide +kernel
theorem dX6_readTreaty_78 : decode cX6_readTreaty 78 = .ok (.iaload, 1) := by decide +kernel
theorem dX6_readTreaty_79 : decode cX6_readTreaty 79 = .ok (.iadd, 1) := by decide +kernel
theorem dX6_readTreaty_80 : decode cX6_readTreaty 80 = .ok (.dup2, 1) := by decide +kernel
theorem dX6_readTreaty_81 : decode cX6_readTreaty 81 = .ok (.iaload, 1) := by decide +kernel
theorem dX6_readTreaty_82 : decode cX6_readTreaty 82 = .ok (.iconst 1, 1) := by decide +kernel
theorem dX6_readTreaty_83 : decode cX6_readTreaty 83 = .ok (.aload_n 0, 1) := by decide +kernel
theorem dX6_readTreaty_84 : decode cX6_readTreaty 84 = .ok (.getfield 50, 3) := by decide +kernel
theorem dX6_readTreaty_87 : decode cX6_readTreaty 87 = .ok (.iconst 2, 1) := by decide +kernel
theorem dX6_readTreaty_88 : decode cX6_readTreaty 88 = .ok (.iaload, 1) := by decide +kernel
theorem dX6_readTreaty_89 : decode cX6_readTreaty 89 = .ok (.ishl, 1) := by decide +kernel
theorem dX6_readTreaty_90 : decode cX6_readTreaty 90 = .ok (.ior, 1) := by decide +kernel
theorem dX6_readTreaty_91 : decode cX6_readTreaty 91 = .ok (.iastore, 1) := by decide +kernel
theorem dX6_readTreaty_92 : decode cX6_readTreaty 92 = .ok (.aload_n 0, 1) := by decide +kernel
theorem dX6_readTreaty_93 : decode cX6_readTreaty 93 = .ok (.dup, 1) := by decide +kernel
theorem dX6_readTreaty_94 : decode cX6_readTreaty 94 = .ok (.getfield 131, 3) := by decide +kernel
theorem dX6_readTreaty_97 : decode cX6_readTreaty 97 = .ok (.iconst 1, 1) := by decide +kernel
theorem dX6_readTreaty_98 : decode cX6_readTreaty 98 = .ok (.iadd, 1) := by decide +kernel
theorem dX6_readTreaty_99 : decode cX6_readTreaty 99 = .ok (.putfield 131, 3) := by decide +kernel
theorem dX6_readTreaty_102 : decode cX6_readTreaty 102 = .ok (.iconst 1, 1) := by decide +kernel
theorem dX6_readTreaty_103 : decode cX6_readTreaty 103 = .ok (.ireturn, 1) := by decide +kernel
theorem dX6_readRealm_0 : decode cX6_readRealm 0 = .ok (.aload_n 0, 1) := by decide +kernel
theorem dX6_readRealm_1 : decode cX6_readRealm 1 = .ok (.iconst 0, 1) := by decide +kernel
theorem dX6_readRealm_2 : decode cX6_readRealm 2 = .ok (.putfield 94, 3) := by decide +kernel
theorem dX6_readRealm_5 : decode cX6_readRealm 5 = .ok (.aload_n 0, 1) := by decide +kernel
theorem dX6_readRealm_6 : decode cX6_readRealm 6 = .ok (.iconst 0, 1) := by decide +kernel
theorem dX6_readRealm_7 : decode cX6_readRealm 7 = .ok (.putfield 134, 3) := by decide +kernel
theorem dX6_readRealm_10 : decode cX6_readRealm 10 = .ok (.aload_n 0, 1) := by decide +kernel
theorem dX6_readRealm_11 : decode cX6_readRealm 11 = .ok (.iconst 0, 1) := by decide +kernel
theorem dX6_readRealm_12 : decode cX6_readRealm 12 = .ok (.putfield 117, 3) := by decide +kernel
theorem dX6_readRealm_15 : decode cX6_readRealm 15 = .ok (.aload_n 0, 1) := by decide +kernel
theorem dX6_readRealm_16 : decode cX6_readRealm 16 = .ok (.iconst 0, 1) := by decide +kernel
theorem dX6_readRealm_17 : decode cX6_readRealm 17 = .ok (.putfield 131, 3) := by decide +kernel
theorem dX6_readRealm_20 : decode cX6_readRealm 20 = .ok (.aload_n 0, 1) := by decide +kernel
theorem dX6_readRealm_21 : decode cX6_readRealm 21 = .ok (.iconst 0, 1) := by decide +kernel
theorem dX6_readRealm_22 : decode cX6_readRealm 22 = .ok (.putfield 124, 3) := by decide +kernel
theorem dX6_readRealm_25 : decode cX6_readRealm 25 = .ok (.iconst 0, 1) := by decide +kernel
theorem dX6_readRealm_26 : decode cX6_readRealm 26 = .ok (.istore_n 1, 1) := by decide +kernel
theorem dX6_readRealm_27 : decode cX6_readRealm 27 = .ok (.iload_n 1, 1) := by decide +kernel
theorem dX6_readRealm_28 : decode cX6_readRealm 28 = .ok (.bipush 36, 2) := by decide +kernel
theorem dX6_readRealm_30 : decode cX6_readRealm 30 = .ok (.if_icmp .ge 23, 3) := by decide +kernel
theorem dX6_readRealm_33 : decode cX6_readRealm 33 = .ok (.aload_n 0, 1) := by decide +kernel
theorem dX6_readRealm_34 : decode cX6_readRealm 34 = .ok (.getfield 41, 3) := by decide +kernel
theorem dX6_readRealm_37 : decode cX6_readRealm 37 = .ok (.iload_n 1, 1) := by decide +kernel
theorem dX6_readRealm_38 : decode cX6_readRealm 38 = .ok (.iconst 0, 1) := by decide +kernel
theorem dX6_readRealm_39 : decode cX6_readRealm 39 = .ok (.bastore, 1) := by decide +kernel
theorem dX6_readRealm_40 : decode cX6_readRealm 40 = .ok (.aload_n 0, 1) := by decide +kernel
theorem dX6_readRealm_41 : decode cX6_readRealm 41 = .ok (.getfield 44, 3) := by decide +kernel
theorem dX6_readRealm_44 : decode cX6_readRealm 44 = .ok (.iload_n 1, 1) := by decide +kernel
theorem dX6_readRealm_45 : decode cX6_readRealm 45 = .ok (.iconst 0, 1) := by decide +kernel
theorem dX6_readRealm_46 : decode cX6_readRealm 46 = .ok (.iastore, 1) := by decide +kernel
theorem dX6_readRealm_47 : decode cX6_readRealm 47 = .ok (.iinc 1 1, 3) := by decide +kernel
theorem dX6_readRealm_50 : decode cX6_readRealm 50 = .ok (.goto (-23), 3) := by decide +kernel
theorem dX6_readRealm_53 : decode cX6_readRealm 53 = .ok (.aload_n 0, 1) := by decide +kernel
theorem dX6_readRealm_54 : decode cX6_readRealm 54 = .ok (.invokevirtual 114, 3) := by decide +kernel
theorem dX6_readRealm_57 : decode cX6_readRealm 57 = .ok (.aload_n 0, 1) := by decide +kernel
theorem dX6_readRealm_58 : decode cX6_readRealm 58 = .ok (.getfield 107, 3) := by decide +kernel
theorem dX6_readRealm_61 : decode cX6_readRealm 61 = .ok (.iconst 2, 1) := by decide +kernel
theorem dX6_readRealm_62 : decode cX6_readRealm 62 = .ok (.if_icmp .eq 163, 3) := by decide +kernel
theorem dX6_readRealm_65 : decode cX6_readRealm 65 = .ok (.aload_n 0, 1) := by decide +kernel
theorem dX6_readRealm_66 : decode cX6_readRealm 66 = .ok (.getfield 107, 3) := by decide +kernel
theorem dX6_readRealm_69 : decode cX6_readRealm 69 = .ok (.ifCond .ne 10, 3) := by decide +kernel
theorem dX6_readRealm_72 : decode cX6_readRealm 72 = .ok (.aload_n 0, 1) := by decide +kernel
theorem dX6_readRealm_73 : decode cX6_readRealm 73 = .ok (.getfield 104, 3) := by decide +kernel
theorem dX6_readRealm_76 : decode cX6_readRealm 76 = .ok (.goto 4, 3) := by decide +kernel
theorem dX6_readRealm_79 : decode cX6_readRealm 79 = .ok (.iconst 0, 1) := by decide +kernel
theorem dX6_readRealm_80 : decode cX6_readRealm 80 = .ok (.istore_n 1, 1) := by decide +kernel
theorem dX6_readRealm_81 : decode cX6_readRealm 81 = .ok (.iload_n 1, 1) := by decide +kernel
theorem dX6_readRealm_82 : decode cX6_readRealm 82 = .ok (.bipush 107, 2) := by decide +kernel
theorem dX6_readRealm_84 : decode cX6_readRealm 84 = .ok (.if_icmp .ne 10, 3) := by decide +kernel
theorem dX6_readRealm_87 : decode cX6_readRealm 87 = .ok (.aload_n 0, 1) := by decide +kernel
theorem dX6_readRealm_88 : decode cX6_readRealm 88 = .ok (.invokevirtual 137, 3) := by decide +kernel
theorem dX6_readRealm_91 : decode cX6_readRealm 91 = .ok (.goto 88, 3) := by decide +kernel
theorem dX6_readRealm_94 : decode cX6_readRealm 94 = .ok (.iload_n 1, 1) := by decide +kernel
theorem dX6_readRealm_95 : decode cX6_readRealm 95 = .ok (.bipush 97, 2) := by decide +kernel
theorem dX6_readRealm_97 : decode cX6_readRealm 97 = .ok (.if_icmp .ne 11, 3) := by decide +kernel
theorem dX6_readRealm_100 : decode cX6_readRealm 100 = .ok (.aload_n 0, 1) := by decide +kernel
theorem dX6_readRealm_101 : decode cX6_readRealm 101 = .ok (.iconst 1, 1) := by decide +kernel
theorem dX6_readRealm_102 : decode cX6_readRealm 102 = .ok (.invokevirtual 140, 3) := by decide +kernel
theorem dX6_readRealm_105 : decode cX6_readRealm 105 = .ok (.goto 74, 3) := by decide +kernel
theorem dX6_readRealm_108 : decode cX6_readRealm 108 = .ok (.iload_n 1, 1) := by decide +kernel
theorem dX6_readRealm_109 : decode cX6_readRealm 109 = .ok (.bipush 110, 2) := by decide +kernel
theorem dX6_readRealm_111 : decode cX6_readRealm 111 = .ok (.if_icmp .ne 11, 3) := by decide +kernel
theorem dX6_readRealm_114 : decode cX6_readRealm 114 = .ok (.aload_n 0, 1) := by decide +kernel
theorem dX6_readRealm_115 : decode cX6_readRealm 115 = .ok (.iconst 2, 1) := by decide +kernel
theorem dX6_readRealm_116 : decode cX6_readRealm 116 = .ok (.invokevirtual 140, 3) := by decide +kernel
theorem dX6_readRealm_119 : decode cX6_readRealm 119 = .ok (.goto 60, 3) := by decide +kernel
theorem dX6_readRealm_122 : decode cX6_readRealm 122 = .ok (.iload_n 1, 1) := by decide +kernel
theorem dX6_readRealm_123 : decode cX6_readRealm 123 = .ok (.bipush 115, 2) := by decide +kernel
theorem dX6_readRealm_125 : decode cX6_readRealm 125 = .ok (.if_icmp .ne 10, 3) := by decide +kernel
theorem dX6_readRealm_128 : decode cX6_readRealm 128 = .ok (.aload_n 0, 1) := by decide +kernel
theorem dX6_readRealm_129 : decode cX6_readRealm 129 = .ok (.invokevirtual 144, 3) := by decide +kernel
theorem dX6_readRealm_132 : decode cX6_readRealm 132 = .ok (.goto 47, 3) := by decide +kernel
theorem dX6_readRealm_135 : decode cX6_readRealm 135 = .ok (.iload_n 1, 1) := by decide +kernel
theorem dX6_readRealm_136 : decode cX6_readRealm 136 = .ok (.bipush 104, 2) := by decide +kernel
theorem dX6_readRealm_138 : decode cX6_readRealm 138 = .ok (.if_icmp .ne 10, 3) := by decide +kernel
theorem dX6_readRealm_141 : decode cX6_readRealm 141 = .ok (.aload_n 0, 1) := by decide +kernel
theorem dX6_readRealm_142 : decode cX6_readRealm 142 = .ok (.invokevirtual 147, 3) := by decide +kernel
theorem dX6_readRealm_145 : decode cX6_readRealm 145 = .ok (.goto 34, 3) := by decide +kernel
theorem dX6_readRealm_148 : decode cX6_readRealm 148 = .ok (.iload_n 1, 1) := by decide +kernel
theorem dX6_readRealm_149 : decode cX6_readRealm 149 = .ok (.bipush 121, 2) := by decide +kernel
theorem dX6_readRealm_151 : decode cX6_readRealm 151 = .ok (.if_icmp .ne 10, 3) := by decide +kernel
theorem dX6_readRealm_154 : decode cX6_readRealm 154 = .ok (.aload_n 0, 1) := by decide +kernel
theorem dX6_readRealm_155 : decode cX6_readRealm 155 = .ok (.invokevirtual 150, 3) := by decide +kernel
theorem dX6_readRealm_158 : decode cX6_readRealm 158 = .ok (.goto 21, 3) := by decide +kernel
theorem dX6_readRealm_161 : decode cX6_readRealm 161 = .ok (.iload_n 1, 1) := by decide +kernel
theorem dX6_readRealm_162 : decode cX6_readRealm 162 = .ok (.bipush 116, 2) := by decide +kernel
theorem dX6_readRealm_164 : decode cX6_readRealm 164 = .ok (.if_icmp .ne 14, 3) := by decide +kernel
theorem dX6_readRealm_167 : decode cX6_readRealm 167 = .ok (.aload_n 0, 1) := by decide +kernel
theorem dX6_readRealm_168 : decode cX6_readRealm 168 = .ok (.invokevirtual 153, 3) := by decide +kernel
theorem dX6_readRealm_171 : decode cX6_readRealm 171 = .ok (.ifCond .eq 7, 3) := by decide +kernel
theorem dX6_readRealm_174 : decode cX6_readRealm 174 = .ok (.iconst 1, 1) := by decide +kernel
theorem dX6_readRealm_175 : decode cX6_readRealm 175 = .ok (.goto 4, 3) := by decide +kernel
theorem dX6_readRealm_178 : decode cX6_readRealm 178 = .ok (.iconst 0, 1) := by decide +kernel
theorem dX6_readRealm_179 : decode cX6_readRealm 179 = .ok (.istore_n 2, 1) := by decide +kernel
theorem dX6_readRealm_180 : decode cX6_readRealm 180 = .ok (.iload_n 2, 1) := by decide +kernel
theorem dX6_readRealm_181 : decode cX6_readRealm 181 = .ok (.ifCond .ne 5, 3) := by decide +kernel
theorem dX6_readRealm_184 : decode cX6_readRealm 184 = .ok (.iconst 0, 1) := by decide +kernel
theorem dX6_readRealm_185 : decode cX6_readRealm 185 = .ok (.ireturn, 1) := by decide +kernel
theorem dX6_readRealm_186 : decode cX6_readRealm 186 = .ok (.aload_n 0, 1) := by decide +kernel
theorem dX6_readRealm_187 : decode cX6_readRealm 187 = .ok (.invokevirtual 114, 3) := by decide +kernel
theorem dX6_readRealm_190 : decode cX6_readRealm 190 = .ok (.aload_n 0, 1) := by decide +kernel
theorem dX6_readRealm_191 : decode cX6_readRealm 191 = .ok (.getfield 107, 3) := by decide +kernel
theorem dX6_readRealm_194 : decode cX6_readRealm 194 = .ok (.ifCond .ne 12, 3) := by decide +kernel
theorem dX6_readRealm_197 : decode cX6_readRealm 197 = .ok (.aload_n 0, 1) := by decide +kernel
theorem dX6_readRealm_198 : decode cX6_readRealm 198 = .ok (.getfield 104, 3) := by decide +kernel
theorem dX6_readRealm_201 : decode cX6_readRealm 201 = .ok (.bipush 59, 2) := by decide +kernel
theorem dX6_readRealm_203 : decode cX6_readRealm 203 = .ok (.if_icmp .eq 5, 3) := by decide +kernel
theorem dX6_readRealm_206 : decode cX6_readRealm 206 = .ok (.iconst 0, 1) := by decide +kernel
theorem dX6_readRealm_207 : decode cX6_readRealm 207 = .ok (.ireturn, 1) := by decide +kernel
theorem dX6_readRealm_208 : decode cX6_readRealm 208 = .ok (.aload_n 0, 1) := by decide +kernel
theorem dX6_readRealm_209 : decode cX6_readRealm 209 = .ok (.dup, 1) := by decide +kernel
theorem dX6_readRealm_210 : decode cX6_readRealm 210 = .ok (.getfield 134, 3) := by decide +kernel
theorem dX6_readRealm_213 : decode cX6_readRealm 213 = .ok (.iconst 1, 1) := by decide +kernel
theorem dX6_readRealm_214 : decode cX6_readRealm 214 = .ok (.iadd, 1) := by decide +kernel
theorem dX6_readRealm_215 : decode cX6_readRealm 215 = .ok (.putfield 134, 3) := by decide +kernel
theorem dX6_readRealm_218 : decode cX6_readRealm 218 = .ok (.aload_n 0, 1) := by decide +kernel
theorem dX6_readRealm_219 : decode cX6_readRealm 219 = .ok (.invokevirtual 114, 3) := by decide +kernel
theorem dX6_readRealm_222 : decode cX6_readRealm 222 = .ok (.goto (-165), 3) := by decide +kernel
theorem dX6_readRealm_225 : decode cX6_readRealm 225 = .ok (.iconst 1, 1) := by decide +kernel
theorem dX6_readRealm_226 : decode cX6_readRealm 226 = .ok (.ireturn, 1) := by decide +kernel
theorem dX6_realm_0 : decode cX6_realm 0 = .ok (.aload_n 0, 1) := by decide +kernel
theorem dX6_realm_1 : decode cX6_realm 1 = .ok (.invokevirtual 156, 3) := by decide +kernel
theorem dX6_realm_4 : decode cX6_realm 4 = .ok (.ifCond .ne 11, 3) := by decide +kernel
theorem dX6_realm_7 : decode cX6_realm 7 = .ok (.bipush (-10), 2) := by decide +kernel
theorem dX6_realm_9 : decode cX6_realm 9 = .ok (.aload_n 0, 1) := by decide +kernel
theorem dX6_realm_10 : decode cX6_realm 10 = .ok (.getfield 101, 3) := by decide +kernel
theorem dX6_realm_13 : decode cX6_realm 13 = .ok (.isub, 1) := by decide +kernel
theorem dX6_realm_14 : decode cX6_realm 14 = .ok (.ireturn, 1) := by decide +kernel
theorem dX6_realm_15 : decode cX6_realm 15 = .ok (.aload_n 0, 1) := by decide +kernel
theorem dX6_realm_16 : decode cX6_realm 16 = .ok (.iconst 0, 1) := by decide +kernel
theorem dX6_realm_17 : decode cX6_realm 17 = .ok (.putfield 91, 3) := by decide +kernel
theorem dX6_realm_20 : decode cX6_realm 20 = .ok (.aload_n 0, 1) := by decide +kernel
theorem dX6_realm_21 : decode cX6_realm 21 = .ok (.aload_n 0, 1) := by decide +kernel
theorem dX6_realm_22 : decode cX6_realm 22 = .ok (.getfield 117, 3) := by decide +kernel
theorem dX6_realm_25 : decode cX6_realm 25 = .ok (.putfield 78, 3) := by decide +kernel
theorem dX6_realm_28 : decode cX6_realm 28 = .ok (.aload_n 0, 1) := by decide +kernel
theorem dX6_realm_29 : decode cX6_realm 29 = .ok (.aload_n 0, 1) := by decide +kernel
theorem dX6_realm_30 : decode cX6_realm 30 = .ok (.getfield 124, 3) := by decide +kernel
theorem dX6_realm_33 : decode cX6_realm 33 = .ok (.putfield 86, 3) := by decide +kernel
theorem dX6_realm_36 : decode cX6_realm 36 = .ok (.aload_n 0, 1) := by decide +kernel
theorem dX6_realm_37 : decode cX6_realm 37 = .ok (.aload_n 0, 1) := by decide +kernel
theorem dX6_realm_38 : decode cX6_realm 38 = .ok (.getfield 131, 3) := by decide +kernel
theorem dX6_realm_41 : decode cX6_realm 41 = .ok (.putfield 159, 3) := by decide +kernel
theorem dX6_realm_44 : decode cX6_realm 44 = .ok (.iconst 0, 1) := by decide +kernel
theorem dX6_realm_45 : decode cX6_realm 45 = .ok (.istore_n 1, 1) := by decide +kernel
theorem dX6_realm_46 : decode cX6_realm 46 = .ok (.iload_n 1, 1) := by decide +kernel
theorem dX6_realm_47 : decode cX6_realm 47 = .ok (.bipush 48, 2) := by decide +kernel
theorem dX6_realm_49 : decode cX6_realm 49 = .ok (.if_icmp .ge 21, 3) := by decide +kernel
theorem dX6_realm_52 : decode cX6_realm 52 = .ok (.aload_n 0, 1) := by decide +kernel
theorem dX6_realm_53 : decode cX6_realm 53 = .ok (.getfield 13, 3) := by decide +kernel
theorem dX6_realm_56 : decode cX6_realm 56 = .ok (.iload_n 1, 1) := by decide +kernel
theorem dX6_realm_57 : decode cX6_realm 57 = .ok (.aload_n 0, 1) := by decide +kernel
theorem dX6_realm_58 : decode cX6_realm 58 = .ok (.getfield 38, 3) := by decide +kernel
theorem dX6_realm_61 : decode cX6_realm 61 = .ok (.iload_n 1, 1) := by decide +kernel
theorem dX6_realm_62 : decode cX6_realm 62 = .ok (.iaload, 1) := by decide +kernel
theorem dX6_realm_63 : decode cX6_realm 63 = .ok (.iastore, 1) := by decide +kernel
theorem dX6_realm_64 : decode cX6_realm 64 = .ok (.iinc 1 1, 3) := by decide +kernel
theorem dX6_realm_67 : decode cX6_realm 67 = .ok (.goto (-21), 3) := by decide +kernel
theorem dX6_realm_70 : decode cX6_realm 70 = .ok (.iconst 0, 1) := by decide +kernel
theorem dX6_realm_71 : decode cX6_realm 71 = .ok (.istore_n 1, 1) := by decide +kernel
theorem dX6_realm_72 : decode cX6_realm 72 = .ok (.iload_n 1, 1) := by decide +kernel
theorem dX6_realm_73 : decode cX6_realm 73 = .ok (.bipush 36, 2) := by decide +kernel
theorem dX6_realm_75 : decode cX6_realm 75 = .ok (.if_icmp .ge 33, 3) := by decide +kernel
theorem dX6_realm_78 : decode cX6_realm 78 = .ok (.aload_n 0, 1) := by decide +kernel
theorem dX6_realm_79 : decode cX6_realm 79 = .ok (.getfield 16, 3) := by decide +kernel
theorem dX6_realm_82 : decode cX6_realm 82 = .ok (.iload_n 1, 1) := by decide +kernel
theorem dX6_realm_83 : decode cX6_realm 83 = .ok (.aload_n 0, 1) := by decide +kernel
theorem dX6_realm_84 : decode cX6_realm 84 = .ok (.getfield 41, 3) := by decide +kernel
theorem dX6_realm_87 : decode cX6_realm 87 = .ok (.iload_n 1, 1) := by decide +kernel
theorem dX6_realm_88 : decode cX6_realm 88 = .ok (.baload, 1) := by decide +kernel
theorem dX6_realm_89 : decode cX6_realm 89 = .ok (.bastore, 1) := by decide +kernel
theorem dX6_realm_90 : decode cX6_realm 90 = .ok (.aload_n 0, 1) := by decide +kernel
theorem dX6_realm_91 : decode cX6_realm 91 = .ok (.getfield 20, 3) := by decide +kernel
theorem dX6_realm_94 : decode cX6_realm 94 = .ok (.iload_n 1, 1) := by decide +kernel
theorem dX6_realm_95 : decode cX6_realm 95 = .ok (.aload_n 0, 1) := by decide +kernel
theorem dX6_realm_96 : decode cX6_realm 96 = .ok (.getfield 44, 3) := by decide +kernel
theorem dX6_realm_99 : decode cX6_realm 99 = .ok (.iload_n 1, 1) := by decide +kernel
theorem dX6_realm_100 : decode cX6_realm 100 = .ok (.iaload, 1) := by decide +kernel
theorem dX6_realm_101 : decode cX6_realm 101 = .ok (.iastore, 1) := by decide +kernel
theorem dX6_realm_102 : decode cX6_realm 102 = .ok (.iinc 1 1, 3) := by decide +kernel
theorem dX6_realm_105 : decode cX6_realm 105 = .ok (.goto (-33), 3) := by decide +kernel
theorem dX6_realm_108 : decode cX6_realm 108 = .ok (.iconst 0, 1) := by decide +kernel
theorem dX6_realm_109 : decode cX6_realm 109 = .ok (.istore_n 1, 1) := by decide +kernel
theorem dX6_realm_110 : decode cX6_realm 110 = .ok (.iload_n 1, 1) := by decide +kernel
theorem dX6_realm_111 : decode cX6_realm 111 = .ok (.bipush 6, 2) := by decide +kernel
theorem dX6_realm_113 : decode cX6_realm 113 = .ok (.if_icmp .ge 71, 3) := by decide +kernel
theorem dX6_realm_116 : decode cX6_realm 116 = .ok (.aload_n 0, 1) := by decide +kernel
theorem dX6_realm_117 : decode cX6_realm 117 = .ok (.getfield 23, 3) := by decide +kernel
theorem dX6_realm_120 : decode cX6_realm 120 = .ok (.iload_n 1, 1) := by decide +kernel
theorem dX6_realm_121 : decode cX6_realm 121 = .ok (.aload_n 0, 1) := by decide +kernel
theorem dX6_realm_122 : decode cX6_realm 122 = .ok (.getfield 47, 3) := by decide +kernel
theorem dX6_realm_125 : decode cX6_realm 125 = .ok (.iconst 4, 1) := by decide +kernel
theorem dX6_realm_126 : decode cX6_realm 126 = .ok (.iload_n 1, 1) := by decide +kernel
theorem dX6_realm_127 : decode cX6_realm 127 = .ok (.imul, 1) := by decide +kernel
theorem dX6_realm_128 : decode cX6_realm 128 = .ok (.iaload, 1) := by decide +kernel
theorem dX6_realm_129 : decode cX6_realm 129 = .ok (.iastore, 1) := by decide +kernel
theorem dX6_realm_130 : decode cX6_realm 130 = .ok (.aload_n 0, 1) := by decide +kernel
theorem dX6_realm_131 : decode cX6_realm 131 = .ok (.getfield 26, 3) := by decide +kernel
theorem dX6_realm_134 : decode cX6_realm 134 = .ok (.iload_n 1, 1) := by decide +kernel
theorem dX6_realm_135 : decode cX6_realm 135 = .ok (.aload_n 0, 1) := by decide +kernel
theorem dX6_realm_136 : decode cX6_realm 136 = .ok (.getfield 47, 3) := by decide +kernel
theorem dX6_realm_139 : decode cX6_realm 139 = .ok (.iconst 4, 1) := by decide +kernel
theorem dX6_realm_140 : decode cX6_realm 140 = .ok (.iload_n 1, 1) := by decide +kernel
theorem dX6_realm_141 : decode cX6_realm 141 = .ok (.imul, 1) := by decide +kernel
theorem dX6_realm_142 : decode cX6_realm 142 = .ok (.iconst 1, 1) := by decide +kernel
theorem dX6_realm_143 : decode cX6_realm 143 = .ok (.iadd, 1) := by decide +kernel
theorem dX6_realm_144 : decode cX6_realm 144 = .ok (.iaload, 1) := by decide +kernel
theorem dX6_realm_145 : decode cX6_realm 145 = .ok (.iastore, 1) := by decide +kernel
theorem dX6_realm_146 : decode cX6_realm 146 = .ok (.aload_n 0, 1) := by decide +kernel
theorem dX6_realm_147 : decode cX6_realm 147 = .ok (.getfield 29, 3) := by decide +kernel
theorem dX6_realm_150 : decode cX6_realm 150 = .ok (.iload_n 1, 1) := by decide +kernel
theorem dX6_realm_151 : decode cX6_realm 151 = .ok (.aload_n 0, 1) := by decide +kernel
theorem dX6_realm_152 : decode cX6_realm 152 = .ok (.getfield 47, 3) := by decide +kernel
theorem dX6_realm_155 : decode cX6_realm 155 = .ok (.iconst 4, 1) := by decide +kernel
theorem dX6_realm_156 : decode cX6_realm 156 = .ok (.iload_n 1, 1) := by decide +kernel
theorem dX6_realm_157 : decode cX6_realm 157 = .ok (.imul, 1) := by decide +kernel
theorem dX6_realm_158 : decode cX6_realm 158 = .ok (.iconst 2, 1) := by decide +kernel
theorem dX6_realm_159 : decode cX6_realm 159 = .ok (.iadd, 1) := by decide +kernel
theorem dX6_realm_160 : decode cX6_realm 160 = .ok (.iaload, 1) := by decide +kernel
theorem dX6_realm_161 : decode cX6_realm 161 = .ok (.iastore, 1) := by decide +kernel
theorem dX6_realm_162 : decode cX6_realm 162 = .ok (.aload_n 0, 1) := by decide +kernel
theorem dX6_realm_163 : decode cX6_realm 163 = .ok (.getfield 32, 3) := by decide +kernel
theorem dX6_realm_166 : decode cX6_realm 166 = .ok (.iload_n 1, 1) := by decide +kernel
theorem dX6_realm_167 : decode cX6_realm 167 = .ok (.aload_n 0, 1) := by decide +kernel
theorem dX6_realm_168 : decode cX6_realm 168 = .ok (.getfield 47, 3) := by decide +kernel
theorem dX6_realm_171 : decode cX6_realm 171 = .ok (.iconst 4, 1) := by decide +kernel
theorem dX6_realm_172 : decode cX6_realm 172 = .ok (.iload_n 1, 1) := by decide +kernel
theorem dX6_realm_173 : decode cX6_realm 173 = .ok (.imul, 1) := by decide +kernel
theorem dX6_realm_174 : decode cX6_realm 174 = .ok (.iconst 3, 1) := by decide +kernel
theorem dX6_realm_175 : decode cX6_realm 175 = .ok (.iadd, 1) := by decide +kernel
theorem dX6_realm_176 : decode cX6_realm 176 = .ok (.iaload, 1) := by decide +kernel
theorem dX6_realm_177 : decode cX6_realm 177 = .ok (.iastore, 1) := by decide +kernel
theorem dX6_realm_178 : decode cX6_realm 178 = .ok (.iinc 1 1, 3) := by decide +kernel
theorem dX6_realm_181 : decode cX6_realm 181 = .ok (.goto (-71), 3) := by decide +kernel
theorem dX6_realm_184 : decode cX6_realm 184 = .ok (.aload_n 0, 1) := by decide +kernel
theorem dX6_realm_185 : decode cX6_realm 185 = .ok (.getfield 32, 3) := by decide +kernel
theorem dX6_realm_188 : decode cX6_realm 188 = .ok (.bipush 6, 2) := by decide +kernel
theorem dX6_realm_190 : decode cX6_realm 190 = .ok (.iconst 0, 1) := by decide +kernel
theorem dX6_realm_191 : decode cX6_realm 191 = .ok (.iastore, 1) := by decide +kernel
theorem dX6_realm_192 : decode cX6_realm 192 = .ok (.aload_n 0, 1) := by decide +kernel
theorem dX6_realm_193 : decode cX6_realm 193 = .ok (.getfield 32, 3) := by decide +kernel
theorem dX6_realm_196 : decode cX6_realm 196 = .ok (.bipush 7, 2) := by decide +kernel
theorem dX6_realm_198 : decode cX6_realm 198 = .ok (.iconst 0, 1) := by decide +kernel
theorem dX6_realm_199 : decode cX6_realm 199 = .ok (.iastore, 1) := by decide +kernel
theorem dX6_realm_200 : decode cX6_realm 200 = .ok (.aload_n 0, 1) := by decide +kernel
theorem dX6_realm_201 : decode cX6_realm 201 = .ok (.iconst 0, 1) := by decide +kernel
theorem dX6_realm_202 : decode cX6_realm 202 = .ok (.putfield 162, 3) := by decide +kernel
theorem dX6_realm_205 : decode cX6_realm 205 = .ok (.aload_n 0, 1) := by decide +kernel
theorem dX6_realm_206 : decode cX6_realm 206 = .ok (.getfield 72, 3) := by decide +kernel
theorem dX6_realm_209 : decode cX6_realm 209 = .ok (.iconst 0, 1) := by decide +kernel
theorem dX6_realm_210 : decode cX6_realm 210 = .ok (.iconst 0, 1) := by decide +kernel
theorem dX6_realm_211 : decode cX6_realm 211 = .ok (.bastore, 1) := by decide +kernel
theorem dX6_realm_212 : decode cX6_realm 212 = .ok (.aload_n 0, 1) := by decide +kernel
theorem dX6_realm_213 : decode cX6_realm 213 = .ok (.getfield 72, 3) := by decide +kernel
theorem dX6_realm_216 : decode cX6_realm 216 = .ok (.iconst 1, 1) := by decide +kernel
theorem dX6_realm_217 : decode cX6_realm 217 = .ok (.iconst 0, 1) := by decide +kernel
theorem dX6_realm_218 : decode cX6_realm 218 = .ok (.bastore, 1) := by decide +kernel
theorem dX6_realm_219 : decode cX6_realm 219 = .ok (.aload_n 0, 1) := by decide +kernel
theorem dX6_realm_220 : decode cX6_realm 220 = .ok (.getfield 134, 3) := by decide +kernel
theorem dX6_realm_223 : decode cX6_realm 223 = .ok (.ireturn, 1) := by decide +kernel
theorem dX6_allowsOwn_0 : decode cX6_allowsOwn 0 = .ok (.aload_n 0, 1) := by decide +kernel
theorem dX6_allowsOwn_1 : decode cX6_allowsOwn 1 = .ok (.getfield 13, 3) := by decide +kernel
theorem dX6_allowsOwn_4 : decode cX6_allowsOwn 4 = .ok (.bipush 8, 2) := by decide +kernel
theorem dX6_allowsOwn_6 : decode cX6_allowsOwn 6 = .ok (.iload_n 1, 1) := by decide +kernel
theorem dX6_allowsOwn_7 : decode cX6_allowsOwn 7 = .ok (.imul, 1) := by decide +kernel
theorem dX6_allowsOwn_8 : decode cX6_allowsOwn 8 = .ok (.iconst 1, 1) := by decide +kernel
theorem dX6_allowsOwn_9 : decode cX6_allowsOwn 9 = .ok (.iadd, 1) := by decide +kernel
theorem dX6_allowsOwn_10 : decode cX6_allowsOwn 10 = .ok (.iaload, 1) := by decide +kernel
theorem dX6_allowsOwn_11 : decode cX6_allowsOwn 11 = .ok (.iload_n 2, 1) := by decide +kernel
theorem dX6_allowsOwn_12 : decode cX6_allowsOwn 12 = .ok (.invokestatic 165, 3) := by decide +kernel
theorem dX6_allowsOwn_15 : decode cX6_allowsOwn 15 = .ok (.ifCond .ne 7, 3) := by decide +kernel
theorem dX6_allowsOwn_18 : decode cX6_allowsOwn 18 = .ok (.iconst 1, 1) := by decide +kernel
theorem dX6_allowsOwn_19 : decode cX6_allowsOwn 19 = .ok (.goto 4, 3) := by decide +kernel
theorem dX6_allowsOwn_22 : decode cX6_allowsOwn 22 = .ok (.iconst 0, 1) := by decide +kernel
theorem dX6_allowsOwn_23 : decode cX6_allowsOwn 23 = .ok (.ireturn, 1) := by decide +kernel
theorem dX6_holds_0 : decode cX6_holds 0 = .ok (.iconst 1, 1) := by decide +kernel
theorem dX6_holds_1 : decode cX6_holds 1 = .ok (.istore_n 3, 1) := by decide +kernel
theorem dX6_holds_2 : decode cX6_holds 2 = .ok (.iconst 0, 1) := by decide +kernel
theorem dX6_holds_3 : decode cX6_holds 3 = .ok (.istore 4, 2) := by decide +kernel
theorem dX6_holds_5 : decode cX6_holds 5 = .ok (.iload 4, 2) := by decide +kernel
theorem dX6_holds_7 : decode cX6_holds 7 = .ok (.aload_n 0, 1) := by decide +kernel
theorem dX6_holds_8 : decode cX6_holds 8 = .ok (.getfield 78, 3) := by decide +kernel
theorem dX6_holds_11 : decode cX6_holds 11 = .ok (.if_icmp .ge 113, 3) := by decide +kernel
theorem dX6_holds_14 : decode cX6_holds 14 = .ok (.aload_n 0, 1) := by decide +kernel
theorem dX6_holds_15 : decode cX6_holds 15 = .ok (.getfield 13, 3) := by decide +kernel
theorem dX6_holds_18 : decode cX6_holds 18 = .ok (.bipush 8, 2) := by decide +kernel
theorem dX6_holds_20 : decode cX6_holds 20 = .ok (.iload 4, 2) := by decide +kernel
theorem dX6_holds_22 : decode cX6_holds 22 = .ok (.imul, 1) := by decide +kernel
theorem dX6_holds_23 : decode cX6_holds 23 = .ok (.iconst 4, 1) := by decide +kernel
theorem dX6_holds_24 : decode cX6_holds 24 = .ok (.iadd, 1) := by decide +kernel
theorem dX6_holds_25 : decode cX6_holds 25 = .ok (.iaload, 1) := by decide +kernel
theorem dX6_holds_26 : decode cX6_holds 26 = .ok (.istore 5, 2) := by decide +kernel
theorem dX6_holds_28 : decode cX6_holds 28 = .ok (.iload 5, 2) := by decide +kernel
theorem dX6_holds_30 : decode cX6_holds 30 = .ok (.ifCond .eq 26, 3) := by decide +kernel
theorem dX6_holds_33 : decode cX6_holds 33 = .ok (.iload_n 1, 1) := by decide +kernel
theorem dX6_holds_34 : decode cX6_holds 34 = .ok (.aload_n 0, 1) := by decide +kernel
theorem dX6_holds_35 : decode cX6_holds 35 = .ok (.getfield 13, 3) := by decide +kernel
theorem dX6_holds_38 : decode cX6_holds 38 = .ok (.bipush 8, 2) := by decide +kernel
theorem dX6_holds_40 : decode cX6_holds 40 = .ok (.iload 4, 2) := by decide +kernel
theorem dX6_holds_42 : decode cX6_holds 42 = .ok (.imul, 1) := by decide +kernel
theorem dX6_holds_43 : decode cX6_holds 43 = .ok (.iconst 5, 1) := by decide +kernel
theorem dX6_holds_44 : decode cX6_holds 44 = .ok (.iadd, 1) := by decide +kernel
theorem dX6_holds_45 : decode cX6_holds 45 = .ok (.iaload, 1) := by decide +kernel
theorem dX6_holds_46 : decode cX6_holds 46 = .ok (.invokestatic 165, 3) := by decide +kernel
theorem dX6_holds_49 : decode cX6_holds 49 = .ok (.ifCond .eq 7, 3) := by decide +kernel
theorem dX6_holds_52 : decode cX6_holds 52 = .ok (.iconst 1, 1) := by decide +kernel
theorem dX6_holds_53 : decode cX6_holds 53 = .ok (.goto 4, 3) := by decide +kernel
theorem dX6_holds_56 : decode cX6_holds 56 = .ok (.iconst 0, 1) := by decide +kernel
theorem dX6_holds_57 : decode cX6_holds 57 = .ok (.istore 6, 2) := by decide +kernel
theorem dX6_holds_59 : decode cX6_holds 59 = .ok (.iload 5, 2) := by decide +kernel
theorem dX6_holds_61 : decode cX6_holds 61 = .ok (.ifCond .ne 13, 3) := by decide +kernel
theorem dX6_holds_64 : decode cX6_holds 64 = .ok (.aload_n 0, 1) := by decide +kernel
theorem dX6_holds_65 : decode cX6_holds 65 = .ok (.iload 4, 2) := by decide +kernel
theorem dX6_holds_67 : decode cX6_holds 67 = .ok (.iload_n 2, 1) := by decide +kernel
theorem dX6_holds_68 : decode cX6_holds 68 = .ok (.invokevirtual 169, 3) := by decide +kernel
theorem dX6_holds_71 : decode cX6_holds 71 = .ok (.goto 24, 3) := by decide +kernel
theorem dX6_holds_74 : decode cX6_holds 74 = .ok (.iload 5, 2) := by decide +kernel
theorem dX6_holds_76 : decode cX6_holds 76 = .ok (.iconst 1, 1) := by decide +kernel
theorem dX6_holds_77 : decode cX6_holds 77 = .ok (.if_icmp .ne 8, 3) := by decide +kernel
theorem dX6_holds_80 : decode cX6_holds 80 = .ok (.iload 6, 2) := by decide +kernel
theorem dX6_holds_82 : decode cX6_holds 82 = .ok (.goto 13, 3) := by decide +kernel
theorem dX6_holds_85 : decode cX6_holds 85 = .ok (.iload 6, 2) := by decide +kernel
theorem dX6_holds_87 : decode cX6_holds 87 = .ok (.ifCond .ne 7, 3) := by decide +kernel
theorem dX6_holds_90 : decode cX6_holds 90 = .ok (.iconst 1, 1) := by decide +kernel
theorem dX6_holds_91 : decode cX6_holds 91 = .ok (.goto 4, 3) := by decide +kernel
theorem dX6_holds_94 : decode cX6_holds 94 = .ok (.iconst 0, 1) := by decide +kernel
theorem dX6_holds_95 : decode cX6_holds 95 = .ok (.istore 7, 2) := by decide +kernel
theorem dX6_holds_97 : decode cX6_holds 97 = .ok (.iload_n 3, 1) := by decide +kernel
theorem dX6_holds_98 : decode cX6_holds 98 = .ok (.ifCond .eq 18, 3) := by decide +kernel
theorem dX6_holds_101 : decode cX6_holds 101 = .ok (.iload_n 1, 1) := by decide +kernel
theorem dX6_holds_102 : decode cX6_holds 102 = .ok (.iload 4, 2) := by decide +kernel
theorem dX6_holds_104 : decode cX6_holds 104 = .ok (.invokestatic 165, 3) := by decide +kernel
theorem dX6_holds_107 : decode cX6_holds 107 = .ok (.iload 7, 2) := by decide +kernel
theorem dX6_holds_109 : decode cX6_holds 109 = .ok (.if_icmp .ne 7, 3) := by decide +kernel
theorem dX6_holds_112 : decode cX6_holds 112 = .ok (.iconst 1, 1) := by decide +kernel
theorem dX6_holds_113 : decode cX6_holds 113 = .ok (.goto 4, 3) := by decide +kernel
theorem dX6_holds_116 : decode cX6_holds 116 = .ok (.iconst 0, 1) := by decide +kernel
theorem dX6_holds_117 : decode cX6_holds 117 = .ok (.istore_n 3, 1) := by decide +kernel
theorem dX6_holds_118 : decode cX6_holds 118 = .ok (.iinc 4 1, 3) := by decide +kernel
theorem dX6_holds_121 : decode cX6_holds 121 = .ok (.goto (-116), 3) := by decide +kernel
theorem dX6_holds_124 : decode cX6_holds 124 = .ok (.iload_n 3, 1) := by decide +kernel
theorem dX6_holds_125 : decode cX6_holds 125 = .ok (.ireturn, 1) := by decide +kernel
theorem dX6_fixedOf_0 : decode cX6_fixedOf 0 = .ok (.iconst 0, 1) := by decide +kernel
theorem dX6_fixedOf_1 : decode cX6_fixedOf 1 = .ok (.istore_n 2, 1) := by decide +kernel
theorem dX6_fixedOf_2 : decode cX6_fixedOf 2 = .ok (.iconst 0, 1) := by decide +kernel
theorem dX6_fixedOf_3 : decode cX6_fixedOf 3 = .ok (.istore_n 3, 1) := by decide +kernel
theorem dX6_fixedOf_4 : decode cX6_fixedOf 4 = .ok (.iload_n 3, 1) := by decide +kernel
theorem dX6_fixedOf_5 : decode cX6_fixedOf 5 = .ok (.iconst 1, 1) := by decide +kernel
theorem dX6_fixedOf_6 : decode cX6_fixedOf 6 = .ok (.aload_n 0, 1) := by decide +kernel
theorem dX6_fixedOf_7 : decode cX6_fixedOf 7 = .ok (.getfield 78, 3) := by decide +kernel
theorem dX6_fixedOf_10 : decode cX6_fixedOf 10 = .ok (.ishl, 1) := by decide +kernel
theorem dX6_fixedOf_11 : decode cX6_fixedOf 11 = .ok (.if_icmp .ge 26, 3) := by decide +kernel
theorem dX6_fixedOf_14 : decode cX6_fixedOf 14 = .ok (.iload_n 2, 1) := by decide +kernel
theorem dX6_fixedOf_15 : decode cX6_fixedOf 15 = .ok (.aload_n 0, 1) := by decide +kernel
theorem dX6_fixedOf_16 : decode cX6_fixedOf 16 = .ok (.iload_n 3, 1) := by decide +kernel
theorem dX6_fixedOf_17 : decode cX6_fixedOf 17 = .ok (.iload_n 1, 1) := by decide +kernel
theorem dX6_fixedOf_18 : decode cX6_fixedOf 18 = .ok (.invokevirtual 172, 3) := by decide +kernel
theorem dX6_fixedOf_21 : decode cX6_fixedOf 21 = .ok (.ifCond .eq 7, 3) := by decide +kernel
theorem dX6_fixedOf_24 : decode cX6_fixedOf 24 = .ok (.iconst 1, 1) := by decide +kernel
theorem dX6_fixedOf_25 : decode cX6_fixedOf 25 = .ok (.goto 4, 3) := by decide +kernel
theorem dX6_fixedOf_28 : decode cX6_fixedOf 28 = .ok (.iconst 0, 1) := by decide +kernel
theorem dX6_fixedOf_29 : decode cX6_fixedOf 29 = .ok (.iadd, 1) := by decide +kernel
theorem dX6_fixedOf_30 : decode cX6_fixedOf 30 = .ok (.istore_n 2, 1) := by decide +kernel
theorem dX6_fixedOf_31 : decode cX6_fixedOf 31 = .ok (.iinc 3 1, 3) := by decide +kernel
theorem dX6_fixedOf_34 : decode cX6_fixedOf 34 = .ok (.goto (-30), 3) := by decide +kernel
theorem dX6_fixedOf_37 : decode cX6_fixedOf 37 = .ok (.iload_n 2, 1) := by decide +kernel
theorem dX6_fixedOf_38 : decode cX6_fixedOf 38 = .ok (.ireturn, 1) := by decide +kernel
theorem dX6_letting_0 : decode cX6_letting 0 = .ok (.aload_n 0, 1) := by decide +kernel
theorem dX6_letting_1 : decode cX6_letting 1 = .ok (.iload_n 1, 1) := by decide +kernel
theorem dX6_letting_2 : decode cX6_letting 2 = .ok (.invokevirtual 175, 3) := by decide +kernel
theorem dX6_letting_5 : decode cX6_letting 5 = .ok (.ifCond .ne 7, 3) := by decide +kernel
theorem dX6_letting_8 : decode cX6_letting 8 = .ok (.iconst 0, 1) := by decide +kernel
theorem dX6_letting_9 : decode cX6_letting 9 = .ok (.goto 11, 3) := by decide +kernel
theorem dX6_letting_12 : decode cX6_letting 12 = .ok (.iconst 1, 1) := by decide +kernel
theorem dX6_letting_13 : decode cX6_letting 13 = .ok (.aload_n 0, 1) := by decide +kernel
theorem dX6_letting_14 : decode cX6_letting 14 = .ok (.getfield 78, 3) := by decide +kernel
theorem dX6_letting_17 : decode cX6_letting 17 = .ok (.ishl, 1) := by decide +kernel
theorem dX6_letting_18 : decode cX6_letting 18 = .ok (.iconst 1, 1) := by decide +kernel
theorem dX6_letting_19 : decode cX6_letting 19 = .ok (.isub, 1) := by decide +kernel
theorem dX6_letting_20 : decode cX6_letting 20 = .ok (.istore_n 2, 1) := by decide +kernel
theorem dX6_letting_21 : decode cX6_letting 21 = .ok (.iconst 0, 1) := by decide +kernel
theorem dX6_letting_22 : decode cX6_letting 22 = .ok (.istore_n 3, 1) := by decide +kernel
theorem dX6_letting_23 : decode cX6_letting 23 = .ok (.iload_n 3, 1) := by decide +kernel
theorem dX6_letting_24 : decode cX6_letting 24 = .ok (.iconst 1, 1) := by decide +kernel
theorem dX6_letting_25 : decode cX6_letting 25 = .ok (.aload_n 0, 1) := by decide +kernel
theorem dX6_letting_26 : decode cX6_letting 26 = .ok (.getfield 78, 3) := by decide +kernel
theorem dX6_letting_29 : decode cX6_letting 29 = .ok (.ishl, 1) := by decide +kernel
theorem dX6_letting_30 : decode cX6_letting 30 = .ok (.if_icmp .ge 26, 3) := by decide +kernel
theorem dX6_letting_33 : decode cX6_letting 33 = .ok (.iload_n 2, 1) := by decide +kernel
theorem dX6_letting_34 : decode cX6_letting 34 = .ok (.aload_n 0, 1) := by decide +kernel
theorem dX6_letting_35 : decode cX6_letting 35 = .ok (.iload_n 3, 1) := by decide +kernel
theorem dX6_letting_36 : decode cX6_letting 36 = .ok (.iload_n 1, 1) := by decide +kernel
theorem dX6_letting_37 : decode cX6_letting 37 = .ok (.invokevirtual 172, 3) := by decide +kernel
theorem dX6_letting_40 : decode cX6_letting 40 = .ok (.ifCond .eq 7, 3) := by decide +kernel
theorem dX6_letting_43 : decode cX6_letting 43 = .ok (.iload_n 3, 1) := by decide +kernel
theorem dX6_letting_44 : decode cX6_letting 44 = .ok (.goto 4, 3) := by decide +kernel
theorem dX6_letting_47 : decode cX6_letting 47 = .ok (.iconst (-1), 1) := by decide +kernel
theorem dX6_letting_48 : decode cX6_letting 48 = .ok (.iand, 1) := by decide +kernel
theorem dX6_letting_49 : decode cX6_letting 49 = .ok (.istore_n 2, 1) := by decide +kernel
theorem dX6_letting_50 : decode cX6_letting 50 = .ok (.iinc 3 1, 3) := by decide +kernel
theorem dX6_letting_53 : decode cX6_letting 53 = .ok (.goto (-30), 3) := by decide +kernel
theorem dX6_letting_56 : decode cX6_letting 56 = .ok (.iconst 0, 1) := by decide +kernel
theorem dX6_letting_57 : decode cX6_letting 57 = .ok (.istore_n 3, 1) := by decide +kernel
theorem dX6_letting_58 : decode cX6_letting 58 = .ok (.iconst 0, 1) := by decide +kernel
theorem dX6_letting_59 : decode cX6_letting 59 = .ok (.istore 4, 2) := by decide +kernel
theorem dX6_letting_61 : decode cX6_letting 61 = .ok (.iload 4, 2) := by decide +kernel
theorem dX6_letting_63 : decode cX6_letting 63 = .ok (.aload_n 0, 1) := by decide +kernel
theorem dX6_letting_64 : decode cX6_letting 64 = .ok (.getfield 78, 3) := by decide +kernel
theorem dX6_letting_67 : decode cX6_letting 67 = .ok (.if_icmp .ge 59, 3) := by decide +kernel
theorem dX6_letting_70 : decode cX6_letting 70 = .ok (.aload_n 0, 1) := by decide +kernel
theorem dX6_letting_71 : decode cX6_letting 71 = .ok (.getfield 13, 3) := by decide +kernel
theorem dX6_letting_74 : decode cX6_letting 74 = .ok (.bipush 8, 2) := by decide +kernel
theorem dX6_letting_76 : decode cX6_letting 76 = .ok (.iload 4, 2) := by decide +kernel
theorem dX6_letting_78 : decode cX6_letting 78 = .ok (.imul, 1) := by decide +kernel
theorem dX6_letting_79 : decode cX6_letting 79 = .ok (.iconst 3, 1) := by decide +kernel
theorem dX6_letting_80 : decode cX6_letting 80 = .ok (.iadd, 1) := by decide +kernel
theorem dX6_letting_81 : decode cX6_letting 81 = .ok (.iaload, 1) := by decide +kernel
theorem dX6_letting_82 : decode cX6_letting 82 = .ok (.istore 5, 2) := by decide +kernel
theorem dX6_letting_84 : decode cX6_letting 84 = .ok (.iload_n 3, 1) := by decide +kernel
theorem dX6_letting_85 : decode cX6_letting 85 = .ok (.iload_n 2, 1) := by decide +kernel
theorem dX6_letting_86 : decode cX6_letting 86 = .ok (.iload 4, 2) := by decide +kernel
theorem dX6_letting_88 : decode cX6_letting 88 = .ok (.invokestatic 165, 3) := by decide +kernel
theorem dX6_letting_91 : decode cX6_letting 91 = .ok (.ifCond .eq 26, 3) := by decide +kernel
theorem dX6_letting_94 : decode cX6_letting 94 = .ok (.iload 5, 2) := by decide +kernel
theorem dX6_letting_96 : decode cX6_letting 96 = .ok (.bipush 9, 2) := by decide +kernel
theorem dX6_letting_98 : decode cX6_letting 98 = .ok (.if_icmp .eq 12, 3) := by decide +kernel
theorem dX6_letting_101 : decode cX6_letting 101 = .ok (.iload_n 3, 1) := by decide +kernel
theorem dX6_letting_102 : decode cX6_letting 102 = .ok (.iload 5, 2) := by decide +kernel
theorem dX6_letting_104 : decode cX6_letting 104 = .ok (.invokestatic 165, 3) := by decide +kernel
theorem dX6_letting_107 : decode cX6_letting 107 = .ok (.ifCond .eq 10, 3) := by decide +kernel
theorem dX6_letting_110 : decode cX6_letting 110 = .ok (.iconst 1, 1) := by decide +kernel
theorem dX6_letting_111 : decode cX6_letting 111 = .ok (.iload 4, 2) := by decide +kernel
theorem dX6_letting_113 : decode cX6_letting 113 = .ok (.ishl, 1) := by decide +kernel
theorem dX6_letting_114 : decode cX6_letting 114 = .ok (.goto 4, 3) := by decide +kernel
theorem dX6_letting_117 : decode cX6_letting 117 = .ok (.iconst 0, 1) := by decide +kernel
theorem dX6_letting_118 : decode cX6_letting 118 = .ok (.ior, 1) := by decide +kernel
theorem dX6_letting_119 : decode cX6_letting 119 = .ok (.istore_n 3, 1) := by decide +kernel
theorem dX6_letting_120 : decode cX6_letting 120 = .ok (.iinc 4 1, 3) := by decide +kernel
theorem dX6_letting_123 : decode cX6_letting 123 = .ok (.goto (-62), 3) := by decide +kernel
theorem dX6_letting_126 : decode cX6_letting 126 = .ok (.iload_n 3, 1) := by decide +kernel
theorem dX6_letting_127 : decode cX6_letting 127 = .ok (.ireturn, 1) := by decide +kernel
theorem dX6_filled_0 : decode cX6_filled 0 = .ok (.iconst 0, 1) := by decide +kernel
theorem dX6_filled_1 : decode cX6_filled 1 = .ok (.istore_n 2, 1) := by decide +kernel
theorem dX6_filled_2 : decode cX6_filled 2 = .ok (.iconst 0, 1) := by decide +kernel
theorem dX6_filled_3 : decode cX6_filled 3 = .ok (.istore_n 3, 1) := by decide +kernel
theorem dX6_filled_4 : decode cX6_filled 4 = .ok (.iload_n 3, 1) := by decide +kernel
theorem dX6_filled_5 : decode cX6_filled 5 = .ok (.aload_n 0, 1) := by decide +kernel
theorem dX6_filled_6 : decode cX6_filled 6 = .ok (.getfield 86, 3) := by decide +kernel
theorem dX6_filled_9 : decode cX6_filled 9 = .ok (.if_icmp .ge 32, 3) := by decide +kernel
theorem dX6_filled_12 : decode cX6_filled 12 = .ok (.iload_n 2, 1) := by decide +kernel
theorem dX6_filled_13 : decode cX6_filled 13 = .ok (.aload_n 0, 1) := by decide +kernel
theorem dX6_filled_14 : decode cX6_filled 14 = .ok (.getfield 32, 3) := by decide +kernel
theorem dX6_filled_17 : decode cX6_filled 17 = .ok (.iload_n 3, 1) := by decide +kernel
theorem dX6_filled_18 : decode cX6_filled 18 = .ok (.iaload, 1) := by decide +kernel
theorem dX6_filled_19 : decode cX6_filled 19 = .ok (.iload_n 1, 1) := by decide +kernel
theorem dX6_filled_20 : decode cX6_filled 20 = .ok (.if_icmp .ne 12, 3) := by decide +kernel
theorem dX6_filled_23 : decode cX6_filled 23 = .ok (.aload_n 0, 1) := by decide +kernel
theorem dX6_filled_24 : decode cX6_filled 24 = .ok (.getfield 26, 3) := by decide +kernel
theorem dX6_filled_27 : decode cX6_filled 27 = .ok (.iload_n 3, 1) := by decide +kernel
theorem dX6_filled_28 : decode cX6_filled 28 = .ok (.iaload, 1) := by decide +kernel
theorem dX6_filled_29 : decode cX6_filled 29 = .ok (.goto 4, 3) := by decide +kernel
theorem dX6_filled_32 : decode cX6_filled 32 = .ok (.iconst 0, 1) := by decide +kernel
theorem dX6_filled_33 : decode cX6_filled 33 = .ok (.iadd, 1) := by decide +kernel
theorem dX6_filled_34 : decode cX6_filled 34 = .ok (.istore_n 2, 1) := by decide +kernel
theorem dX6_filled_35 : decode cX6_filled 35 = .ok (.iinc 3 1, 3) := by decide +kernel
theorem dX6_filled_38 : decode cX6_filled 38 = .ok (.goto (-34), 3) := by decide +kernel
theorem dX6_filled_41 : decode cX6_filled 41 = .ok (.iload_n 2, 1) := by decide +kernel
theorem dX6_filled_42 : decode cX6_filled 42 = .ok (.ireturn, 1) := by decide +kernel
theorem dX6_depthOf_0 : decode cX6_depthOf 0 = .ok (.iconst 0, 1) := by decide +kernel
theorem dX6_depthOf_1 : decode cX6_depthOf 1 = .ok (.istore_n 2, 1) := by decide +kernel
theorem dX6_depthOf_2 : decode cX6_depthOf 2 = .ok (.aload_n 0, 1) := by decide +kernel
theorem dX6_depthOf_3 : decode cX6_depthOf 3 = .ok (.getfield 13, 3) := by decide +kernel
theorem dX6_depthOf_6 : decode cX6_depthOf 6 = .ok (.bipush 8, 2) := by decide +kernel
theorem dX6_depthOf_8 : decode cX6_depthOf 8 = .ok (.iload_n 1, 1) := by decide +kernel
theorem dX6_depthOf_9 : decode cX6_depthOf 9 = .ok (.imul, 1) := by decide +kernel
theorem dX6_depthOf_10 : decode cX6_depthOf 10 = .ok (.iconst 3, 1) := by decide +kernel
theorem dX6_depthOf_11 : decode cX6_depthOf 11 = .ok (.iadd, 1) := by decide +kernel
theorem dX6_depthOf_12 : decode cX6_depthOf 12 = .ok (.iaload, 1) := by decide +kernel
theorem dX6_depthOf_13 : decode cX6_depthOf 13 = .ok (.istore_n 3, 1) := by decide +kernel
theorem dX6_depthOf_14 : decode cX6_depthOf 14 = .ok (.iload_n 3, 1) := by decide +kernel
theorem dX6_depthOf_15 : decode cX6_depthOf 15 = .ok (.bipush 9, 2) := by decide +kernel
theorem dX6_depthOf_17 : decode cX6_depthOf 17 = .ok (.if_icmp .eq 21, 3) := by decide +kernel
theorem dX6_depthOf_20 : decode cX6_depthOf 20 = .ok (.iinc 2 1, 3) := by decide +kernel
theorem dX6_depthOf_23 : decode cX6_depthOf 23 = .ok (.aload_n 0, 1) := by decide +kernel
theorem dX6_depthOf_24 : decode cX6_depthOf 24 = .ok (.getfield 13, 3) := by decide +kernel
theorem dX6_depthOf_27 : decode cX6_depthOf 27 = .ok (.bipush 8, 2) := by decide +kernel
theorem dX6_depthOf_29 : decode cX6_depthOf 29 = .ok (.iload_n 3, 1) := by decide +kernel
theorem dX6_depthOf_30 : decode cX6_depthOf 30 = .ok (.imul, 1) := by decide +kernel
theorem dX6_depthOf_31 : decode cX6_depthOf 31 = .ok (.iconst 3, 1) := by decide +kernel
theorem dX6_depthOf_32 : decode cX6_depthOf 32 = .ok (.iadd, 1) := by decide +kernel
theorem dX6_depthOf_33 : decode cX6_depthOf 33 = .ok (.iaload, 1) := by decide +kernel
theorem dX6_depthOf_34 : decode cX6_depthOf 34 = .ok (.istore_n 3, 1) := by decide +kernel
theorem dX6_depthOf_35 : decode cX6_depthOf 35 = .ok (.goto (-21), 3) := by decide +kernel
theorem dX6_depthOf_38 : decode cX6_depthOf 38 = .ok (.iload_n 2, 1) := by decide +kernel
theorem dX6_depthOf_39 : decode cX6_depthOf 39 = .ok (.ireturn, 1) := by decide +kernel
theorem dX6_seamsOf_0 : decode cX6_seamsOf 0 = .ok (.iconst 0, 1) := by decide +kernel
theorem dX6_seamsOf_1 : decode cX6_seamsOf 1 = .ok (.istore_n 2, 1) := by decide +kernel
theorem dX6_seamsOf_2 : decode cX6_seamsOf 2 = .ok (.iconst 0, 1) := by decide +kernel
theorem dX6_seamsOf_3 : decode cX6_seamsOf 3 = .ok (.istore_n 3, 1) := by decide +kernel
theorem dX6_seamsOf_4 : decode cX6_seamsOf 4 = .ok (.iload_n 3, 1) := by decide +kernel
theorem dX6_seamsOf_5 : decode cX6_seamsOf 5 = .ok (.aload_n 0, 1) := by decide +kernel
theorem dX6_seamsOf_6 : decode cX6_seamsOf 6 = .ok (.getfield 78, 3) := by decide +kernel
theorem dX6_seamsOf_9 : decode cX6_seamsOf 9 = .ok (.if_icmp .ge 33, 3) := by decide +kernel
theorem dX6_seamsOf_12 : decode cX6_seamsOf 12 = .ok (.iload_n 2, 1) := by decide +kernel
theorem dX6_seamsOf_13 : decode cX6_seamsOf 13 = .ok (.aload_n 0, 1) := by decide +kernel
theorem dX6_seamsOf_14 : decode cX6_seamsOf 14 = .ok (.getfield 16, 3) := by decide +kernel
theorem dX6_seamsOf_17 : decode cX6_seamsOf 17 = .ok (.bipush 6, 2) := by decide +kernel
theorem dX6_seamsOf_19 : decode cX6_seamsOf 19 = .ok (.iload_n 1, 1) := by decide +kernel
theorem dX6_seamsOf_20 : decode cX6_seamsOf 20 = .ok (.imul, 1) := by decide +kernel
theorem dX6_seamsOf_21 : decode cX6_seamsOf 21 = .ok (.iload_n 3, 1) := by decide +kernel
theorem dX6_seamsOf_22 : decode cX6_seamsOf 22 = .ok (.iadd, 1) := by decide +kernel
theorem dX6_seamsOf_23 : decode cX6_seamsOf 23 = .ok (.baload, 1) := by decide +kernel
theorem dX6_seamsOf_24 : decode cX6_seamsOf 24 = .ok (.ifCond .eq 9, 3) := by decide +kernel
theorem dX6_seamsOf_27 : decode cX6_seamsOf 27 = .ok (.iconst 1, 1) := by decide +kernel
theorem dX6_seamsOf_28 : decode cX6_seamsOf 28 = .ok (.iload_n 3, 1) := by decide +kernel
theorem dX6_seamsOf_29 : decode cX6_seamsOf 29 = .ok (.ishl, 1) := by decide +kernel
theorem dX6_seamsOf_30 : decode cX6_seamsOf 30 = .ok (.goto 4, 3) := by decide +kernel
theorem dX6_seamsOf_33 : decode cX6_seamsOf 33 = .ok (.iconst 0, 1) := by decide +kernel
theorem dX6_seamsOf_34 : decode cX6_seamsOf 34 = .ok (.ior, 1) := by decide +kernel
theorem dX6_seamsOf_35 : decode cX6_seamsOf 35 = .ok (.istore_n 2, 1) := by decide +kernel
theorem dX6_seamsOf_36 : decode cX6_seamsOf 36 = .ok (.iinc 3 1, 3) := by decide +kernel
theorem dX6_seamsOf_39 : decode cX6_seamsOf 39 = .ok (.goto (-35), 3) := by decide +kernel
theorem dX6_seamsOf_42 : decode cX6_seamsOf 42 = .ok (.iload_n 2, 1) := by decide +kernel
theorem dX6_seamsOf_43 : decode cX6_seamsOf 43 = .ok (.ireturn, 1) := by decide +kernel
theorem dX6_pocket_0 : decode cX6_pocket 0 = .ok (.aload_n 0, 1) := by decide +kernel
theorem dX6_pocket_1 : decode cX6_pocket 1 = .ok (.iload_n 1, 1) := by decide +kernel
theorem dX6_pocket_2 : decode cX6_pocket 2 = .ok (.invokevirtual 178, 3) := by decide +kernel
theorem dX6_pocket_5 : decode cX6_pocket 5 = .ok (.ifCond .ne 5, 3) := by decide +kernel
theorem dX6_pocket_8 : decode cX6_pocket 8 = .ok (.iconst (-1), 1) := by decide +kernel
theorem dX6_pocket_9 : decode cX6_pocket 9 = .ok (.ireturn, 1) := by decide +kernel
theorem dX6_pocket_10 : decode cX6_pocket 10 = .ok (.iload_n 2, 1) := by decide +kernel
theorem dX6_pocket_11 : decode cX6_pocket 11 = .ok (.tableswitch 88 0 7 #[45, 45, 45, 45, 57, 63, 69, 75], 45) := by decide +kernel
theorem dX6_pocket_56 : decode cX6_pocket 56 = .ok (.aload_n 0, 1) := by decide +kernel
theorem dX6_pocket_57 : decode cX6_pocket 57 = .ok (.getfield 13, 3) := by decide +kernel
theorem dX6_pocket_60 : decode cX6_pocket 60 = .ok (.bipush 8, 2) := by decide +kernel
theorem dX6_pocket_62 : decode cX6_pocket 62 = .ok (.iload_n 1, 1) := by decide +kernel
theorem dX6_pocket_63 : decode cX6_pocket 63 = .ok (.imul, 1) := by decide +kernel
theorem dX6_pocket_64 : decode cX6_pocket 64 = .ok (.iload_n 2, 1) := by decide +kernel
theorem dX6_pocket_65 : decode cX6_pocket 65 = .ok (.iadd, 1) := by decide +kernel
theorem dX6_pocket_66 : decode cX6_pocket 66 = .ok (.iaload, 1) := by decide +kernel
theorem dX6_pocket_67 : decode cX6_pocket 67 = .ok (.ireturn, 1) := by decide +kernel
theorem dX6_pocket_68 : decode cX6_pocket 68 = .ok (.aload_n 0, 1) := by decide +kernel
theorem dX6_pocket_69 : decode cX6_pocket 69 = .ok (.iload_n 1, 1) := by decide +kernel
theorem dX6_pocket_70 : decode cX6_pocket 70 = .ok (.invokevirtual 181, 3) := by decide +kernel
theorem dX6_pocket_73 : decode cX6_pocket 73 = .ok (.ireturn, 1) := by decide +kernel
theorem dX6_pocket_74 : decode cX6_pocket 74 = .ok (.aload_n 0, 1) := by decide +kernel
theorem dX6_pocket_75 : decode cX6_pocket 75 = .ok (.iload_n 1, 1) := by decide +kernel
theorem dX6_pocket_76 : decode cX6_pocket 76 = .ok (.invokevirtual 184, 3) := by decide +kernel
theorem dX6_pocket_79 : decode cX6_pocket 79 = .ok (.ireturn, 1) := by decide +kernel
theorem dX6_pocket_80 : decode cX6_pocket 80 = .ok (.aload_n 0, 1) := by decide +kernel
theorem dX6_pocket_81 : decode cX6_pocket 81 = .ok (.iload_n 1, 1) := by decide +kernel
theorem dX6_pocket_82 : decode cX6_pocket 82 = .ok (.invokevirtual 187, 3) := by decide +kernel
theorem dX6_pocket_85 : decode cX6_pocket 85 = .ok (.ireturn, 1) := by decide +kernel
theorem dX6_pocket_86 : decode cX6_pocket 86 = .ok (.aload_n 0, 1) := by decide +kernel
theorem dX6_pocket_87 : decode cX6_pocket 87 = .ok (.getfield 13, 3) := by decide +kernel
theorem dX6_pocket_90 : decode cX6_pocket 90 = .ok (.bipush 8, 2) := by decide +kernel
theorem dX6_pocket_92 : decode cX6_pocket 92 = .ok (.iload_n 1, 1) := by decide +kernel
theorem dX6_pocket_93 : decode cX6_pocket 93 = .ok (.imul, 1) := by decide +kernel
theorem dX6_pocket_94 : decode cX6_pocket 94 = .ok (.bipush 6, 2) := by decide +kernel
theorem dX6_pocket_96 : decode cX6_pocket 96 = .ok (.iadd, 1) := by decide +kernel
theorem dX6_pocket_97 : decode cX6_pocket 97 = .ok (.iaload, 1) := by decide +kernel
theorem dX6_pocket_98 : decode cX6_pocket 98 = .ok (.ireturn, 1) := by decide +kernel
theorem dX6_pocket_99 : decode cX6_pocket 99 = .ok (.iconst (-1), 1) := by decide +kernel
theorem dX6_pocket_100 : decode cX6_pocket 100 = .ok (.ireturn, 1) := by decide +kernel
theorem dX6_isOutlawed_0 : decode cX6_isOutlawed 0 = .ok (.aload_n 0, 1) := by decide +kernel
theorem dX6_isOutlawed_1 : decode cX6_isOutlawed 1 = .ok (.aload_n 0, 1) := by decide +kernel
theorem dX6_isOutlawed_2 : decode cX6_isOutlawed 2 = .ok (.getfield 23, 3) := by decide +kernel
theorem dX6_isOutlawed_5 : decode cX6_isOutlawed 5 = .ok (.iload_n 1, 1) := by decide +kernel
theorem dX6_isOutlawed_6 : decode cX6_isOutlawed 6 = .ok (.iaload, 1) := by decide +kernel
theorem dX6_isOutlawed_7 : decode cX6_isOutlawed 7 = .ok (.invokevirtual 190, 3) := by decide +kernel
theorem dX6_isOutlawed_10 : decode cX6_isOutlawed 10 = .ok (.aload_n 0, 1) := by decide +kernel
theorem dX6_isOutlawed_11 : decode cX6_isOutlawed 11 = .ok (.getfield 32, 3) := by decide +kernel
theorem dX6_isOutlawed_14 : decode cX6_isOutlawed 14 = .ok (.iload_n 1, 1) := by decide +kernel
theorem dX6_isOutlawed_15 : decode cX6_isOutlawed 15 = .ok (.iaload, 1) := by decide +kernel
theorem dX6_isOutlawed_16 : decode cX6_isOutlawed 16 = .ok (.invokestatic 165, 3) := by decide +kernel
theorem dX6_isOutlawed_19 : decode cX6_isOutlawed 19 = .ok (.ifCond .ne 7, 3) := by decide +kernel
theorem dX6_isOutlawed_22 : decode cX6_isOutlawed 22 = .ok (.iconst 1, 1) := by decide +kernel
theorem dX6_isOutlawed_23 : decode cX6_isOutlawed 23 = .ok (.goto 4, 3) := by decide +kernel
theorem dX6_isOutlawed_26 : decode cX6_isOutlawed 26 = .ok (.iconst 0, 1) := by decide +kernel
theorem dX6_isOutlawed_27 : decode cX6_isOutlawed 27 = .ok (.ireturn, 1) := by decide +kernel
theorem dX6_thing_0 : decode cX6_thing 0 = .ok (.aload_n 0, 1) := by decide +kernel
theorem dX6_thing_1 : decode cX6_thing 1 = .ok (.iload_n 1, 1) := by decide +kernel
theorem dX6_thing_2 : decode cX6_thing 2 = .ok (.invokevirtual 193, 3) := by decide +kernel
theorem dX6_thing_5 : decode cX6_thing 5 = .ok (.ifCond .ne 5, 3) := by decide +kernel
theorem dX6_thing_8 : decode cX6_thing 8 = .ok (.iconst (-1), 1) := by decide +kernel
theorem dX6_thing_9 : decode cX6_thing 9 = .ok (.ireturn, 1) := by decide +kernel
theorem dX6_thing_10 : decode cX6_thing 10 = .ok (.iload_n 2, 1) := by decide +kernel
theorem dX6_thing_11 : decode cX6_thing 11 = .ok (.tableswitch 75 0 4 #[33, 40, 47, 54, 61], 33) := by decide +kernel
theorem dX6_thing_44 : decode cX6_thing 44 = .ok (.aload_n 0, 1) := by decide +kernel
theorem dX6_thing_45 : decode cX6_thing 45 = .ok (.getfield 23, 3) := by decide +kernel
theorem dX6_thing_48 : decode cX6_thing 48 = .ok (.iload_n 1, 1) := by decide +kernel
theorem dX6_thing_49 : decode cX6_thing 49 = .ok (.iaload, 1) := by decide +kernel
theorem dX6_thing_50 : decode cX6_thing 50 = .ok (.ireturn, 1) := by decide +kernel
theorem dX6_thing_51 : decode cX6_thing 51 = .ok (.aload_n 0, 1) := by decide +kernel
theorem dX6_thing_52 : decode cX6_thing 52 = .ok (.getfield 26, 3) := by decide +kernel
theorem dX6_thing_55 : decode cX6_thing 55 = .ok (.iload_n 1, 1) := by decide +kernel
theorem dX6_thing_56 : decode cX6_thing 56 = .ok (.iaload, 1) := by decide +kernel
theorem dX6_thing_57 : decode cX6_thing 57 = .ok (.ireturn, 1) := by decide +kernel
theorem dX6_thing_58 : decode cX6_thing 58 = .ok (.aload_n 0, 1) := by decide +kernel
theorem dX6_thing_59 : decode cX6_thing 59 = .ok (.getfield 29, 3) := by decide +kernel
theorem dX6_thing_62 : decode cX6_thing 62 = .ok (.iload_n 1, 1) := by decide +kernel
theorem dX6_thing_63 : decode cX6_thing 63 = .ok (.iaload, 1) := by decide +kernel
theorem dX6_thing_64 : decode cX6_thing 64 = .ok (.ireturn, 1) := by decide +kernel
theorem dX6_thing_65 : decode cX6_thing 65 = .ok (.aload_n 0, 1) := by decide +kernel
theorem dX6_thing_66 : decode cX6_thing 66 = .ok (.getfield 32, 3) := by decide +kernel
theorem dX6_thing_69 : decode cX6_thing 69 = .ok (.iload_n 1, 1) := by decide +kernel
theorem dX6_thing_70 : decode cX6_thing 70 = .ok (.iaload, 1) := by decide +kernel
theorem dX6_thing_71 : decode cX6_thing 71 = .ok (.ireturn, 1) := by decide +kernel
theorem dX6_thing_72 : decode cX6_thing 72 = .ok (.aload_n 0, 1) := by decide +kernel
theorem dX6_thing_73 : decode cX6_thing 73 = .ok (.iload_n 1, 1) := by decide +kernel
theorem dX6_thing_74 : decode cX6_thing 74 = .ok (.invokevirtual 196, 3) := by decide +kernel
theorem dX6_thing_77 : decode cX6_thing 77 = .ok (.ifCond .eq 7, 3) := by decide +kernel
theorem dX6_thing_80 : decode cX6_thing 80 = .ok (.iconst 1, 1) := by decide +kernel
theorem dX6_thing_81 : decode cX6_thing 81 = .ok (.goto 4, 3) := by decide +kernel
theorem dX6_thing_84 : decode cX6_thing 84 = .ok (.iconst 0, 1) := by decide +kernel
theorem dX6_thing_85 : decode cX6_thing 85 = .ok (.ireturn, 1) := by decide +kernel
theorem dX6_thing_86 : decode cX6_thing 86 = .ok (.iconst (-1), 1) := by decide +kernel
theorem dX6_thing_87 : decode cX6_thing 87 = .ok (.ireturn, 1) := by decide +kernel
theorem dX6_isSort_0 : decode cX6_isSort 0 = .ok (.iload_n 0, 1) := by decide +kernel
theorem dX6_isSort_1 : decode cX6_isSort 1 = .ok (.i2l, 1) := by decide +kernel
theorem dX6_isSort_2 : decode cX6_isSort 2 = .ok (.lconst 0, 1) := by decide +kernel
theorem dX6_isSort_3 : decode cX6_isSort 3 = .ok (.ldc2_w 199, 3) := by decide +kernel
theorem dX6_isSort_6 : decode cX6_isSort 6 = .ok (.invokestatic 82, 3) := by decide +kernel
theorem dX6_isSort_9 : decode cX6_isSort 9 = .ok (.ireturn, 1) := by decide +kernel
theorem dX6_letsIn_0 : decode cX6_letsIn 0 = .ok (.aload_n 0, 1) := by decide +kernel
theorem dX6_letsIn_1 : decode cX6_letsIn 1 = .ok (.iload_n 1, 1) := by decide +kernel
theorem dX6_letsIn_2 : decode cX6_letsIn 2 = .ok (.invokevirtual 178, 3) := by decide +kernel
theorem dX6_letsIn_5 : decode cX6_letsIn 5 = .ok (.ifCond .eq 10, 3) := by decide +kernel
theorem dX6_letsIn_8 : decode cX6_letsIn 8 = .ok (.iload_n 2, 1) := by decide +kernel
theorem dX6_letsIn_9 : decode cX6_letsIn 9 = .ok (.invokestatic 201, 3) := by decide +kernel
theorem dX6_letsIn_12 : decode cX6_letsIn 12 = .ok (.ifCond .ne 5, 3) := by decide +kernel
theorem dX6_letsIn_15 : decode cX6_letsIn 15 = .ok (.iconst (-1), 1) := by decide +kernel
theorem dX6_letsIn_16 : decode cX6_letsIn 16 = .ok (.ireturn, 1) := by decide +kernel
theorem dX6_letsIn_17 : decode cX6_letsIn 17 = .ok (.aload_n 0, 1) := by decide +kernel
theorem dX6_letsIn_18 : decode cX6_letsIn 18 = .ok (.iload_n 2, 1) := by decide +kernel
theorem dX6_letsIn_19 : decode cX6_letsIn 19 = .ok (.invokevirtual 190, 3) := by decide +kernel
theorem dX6_letsIn_22 : decode cX6_letsIn 22 = .ok (.iload_n 1, 1) := by decide +kernel
theorem dX6_letsIn_23 : decode cX6_letsIn 23 = .ok (.ishr, 1) := by decide +kernel
theorem dX6_letsIn_24 : decode cX6_letsIn 24 = .ok (.iconst 1, 1) := by decide +kernel
theorem dX6_letsIn_25 : decode cX6_letsIn 25 = .ok (.iand, 1) := by decide +kernel
theorem dX6_letsIn_26 : decode cX6_letsIn 26 = .ok (.ireturn, 1) := by decide +kernel
theorem dX6_fixed_0 : decode cX6_fixed 0 = .ok (.iload_n 1, 1) := by decide +kernel
theorem dX6_fixed_1 : decode cX6_fixed 1 = .ok (.invokestatic 201, 3) := by decide +kernel
theorem dX6_fixed_4 : decode cX6_fixed 4 = .ok (.ifCond .eq 11, 3) := by decide +kernel
theorem dX6_fixed_7 : decode cX6_fixed 7 = .ok (.aload_n 0, 1) := by decide +kernel
theorem dX6_fixed_8 : decode cX6_fixed 8 = .ok (.iload_n 1, 1) := by decide +kernel
theorem dX6_fixed_9 : decode cX6_fixed 9 = .ok (.invokevirtual 175, 3) := by decide +kernel
theorem dX6_fixed_12 : decode cX6_fixed 12 = .ok (.goto 4, 3) := by decide +kernel
theorem dX6_fixed_15 : decode cX6_fixed 15 = .ok (.iconst (-1), 1) := by decide +kernel
theorem dX6_fixed_16 : decode cX6_fixed 16 = .ok (.ireturn, 1) := by decide +kernel
theorem dX6_parts_0 : decode cX6_parts 0 = .ok (.iconst 0, 1) := by decide +kernel
theorem dX6_parts_1 : decode cX6_parts 1 = .ok (.istore_n 1, 1) := by decide +kernel
theorem dX6_parts_2 : decode cX6_parts 2 = .ok (.iconst 0, 1) := by decide +kernel
theorem dX6_parts_3 : decode cX6_parts 3 = .ok (.istore_n 2, 1) := by decide +kernel
theorem dX6_parts_4 : decode cX6_parts 4 = .ok (.iconst 0, 1) := by decide +kernel
theorem dX6_parts_5 : decode cX6_parts 5 = .ok (.istore_n 3, 1) := by decide +kernel
theorem dX6_parts_6 : decode cX6_parts 6 = .ok (.iload_n 3, 1) := by decide +kernel
theorem dX6_parts_7 : decode cX6_parts 7 = .ok (.aload_n 0, 1) := by decide +kernel
theorem dX6_parts_8 : decode cX6_parts 8 = .ok (.getfield 78, 3) := by decide +kernel
theorem dX6_parts_11 : decode cX6_parts 11 = .ok (.if_icmp .ge 82, 3) := by decide +kernel
theorem dX6_parts_14 : decode cX6_parts 14 = .ok (.iload_n 2, 1) := by decide +kernel
theorem dX6_parts_15 : decode cX6_parts 15 = .ok (.iload_n 3, 1) := by decide +kernel
theorem dX6_parts_16 : decode cX6_parts 16 = .ok (.invokestatic 165, 3) := by decide +kernel
theorem dX6_parts_19 : decode cX6_parts 19 = .ok (.ifCond .ne 68, 3) := by decide +kernel
theorem dX6_parts_22 : decode cX6_parts 22 = .ok (.iinc 1 1, 3) := by decide +kernel
theorem dX6_parts_25 : decode cX6_parts 25 = .ok (.iload_n 2, 1) := by decide +kernel
theorem dX6_parts_26 : decode cX6_parts 26 = .ok (.iconst 1, 1) := by decide +kernel
theorem dX6_parts_27 : decode cX6_parts 27 = .ok (.iload_n 3, 1) := by decide +kernel
theorem dX6_parts_28 : decode cX6_parts 28 = .ok (.ishl, 1) := by decide +kernel
theorem dX6_parts_29 : decode cX6_parts 29 = .ok (.ior, 1) := by decide +kernel
theorem dX6_parts_30 : decode cX6_parts 30 = .ok (.istore_n 2, 1) := by decide +kernel
theorem dX6_parts_31 : decode cX6_parts 31 = .ok (.iconst 0, 1) := by decide +kernel
theorem dX6_parts_32 : decode cX6_parts 32 = .ok (.istore 4, 2) := by decide +kernel
theorem dX6_parts_34 : decode cX6_parts 34 = .ok (.iload 4, 2) := by decide +kernel
theorem dX6_parts_36 : decode cX6_parts 36 = .ok (.bipush 6, 2) := by decide +kernel
theorem dX6_parts_38 : decode cX6_parts 38 = .ok (.if_icmp .ge 49, 3) := by decide +kernel
theorem dX6_parts_41 : decode cX6_parts 41 = .ok (.iconst 0, 1) := by decide +kernel
theorem dX6_parts_42 : decode cX6_parts 42 = .ok (.istore 5, 2) := by decide +kernel
theorem dX6_parts_44 : decode cX6_parts 44 = .ok (.iload 5, 2) := by decide +kernel
theorem dX6_parts_46 : decode cX6_parts 46 = .ok (.aload_n 0, 1) := by decide +kernel
theorem dX6_parts_47 : decode cX6_parts 47 = .ok (.getfield 78, 3) := by decide +kernel
theorem dX6_parts_50 : decode cX6_parts 50 = .ok (.if_icmp .ge 31, 3) := by decide +kernel
theorem dX6_parts_53 : decode cX6_parts 53 = .ok (.iload_n 2, 1) := by decide +kernel
theorem dX6_parts_54 : decode cX6_parts 54 = .ok (.iload_n 2, 1) := by decide +kernel
theorem dX6_parts_55 : decode cX6_parts 55 = .ok (.iload 5, 2) := by decide +kernel
theorem dX6_parts_57 : decode cX6_parts 57 = .ok (.invokestatic 165, 3) := by decide +kernel
theorem dX6_parts_60 : decode cX6_parts 60 = .ok (.ifCond .eq 12, 3) := by decide +kernel
theorem dX6_parts_63 : decode cX6_parts 63 = .ok (.aload_n 0, 1) := by decide +kernel
theorem dX6_parts_64 : decode cX6_parts 64 = .ok (.iload 5, 2) := by decide +kernel
theorem dX6_parts_66 : decode cX6_parts 66 = .ok (.invokevirtual 187, 3) := by decide +kernel
theorem dX6_parts_69 : decode cX6_parts 69 = .ok (.goto 4, 3) := by decide +kernel
theorem dX6_parts_72 : decode cX6_parts 72 = .ok (.iconst 0, 1) := by decide +kernel
theorem dX6_parts_73 : decode cX6_parts 73 = .ok (.ior, 1) := by decide +kernel
theorem dX6_parts_74 : decode cX6_parts 74 = .ok (.istore_n 2, 1) := by decide +kernel
theorem dX6_parts_75 : decode cX6_parts 75 = .ok (.iinc 5 1, 3) := by decide +kernel
theorem dX6_parts_78 : decode cX6_parts 78 = .ok (.goto (-34), 3) := by decide +kernel
theorem dX6_parts_81 : decode cX6_parts 81 = .ok (.iinc 4 1, 3) := by decide +kernel
theorem dX6_parts_84 : decode cX6_parts 84 = .ok (.goto (-50), 3) := by decide +kernel
theorem dX6_parts_87 : decode cX6_parts 87 = .ok (.iinc 3 1, 3) := by decide +kernel
theorem dX6_parts_90 : decode cX6_parts 90 = .ok (.goto (-84), 3) := by decide +kernel
theorem dX6_parts_93 : decode cX6_parts 93 = .ok (.iload_n 1, 1) := by decide +kernel
theorem dX6_parts_94 : decode cX6_parts 94 = .ok (.ireturn, 1) := by decide +kernel
theorem dX6_now_0 : decode cX6_now 0 = .ok (.iconst 0, 1) := by decide +kernel
theorem dX6_now_1 : decode cX6_now 1 = .ok (.istore_n 2, 1) := by decide +kernel
theorem dX6_now_2 : decode cX6_now 2 = .ok (.iconst 0, 1) := by decide +kernel
theorem dX6_now_3 : decode cX6_now 3 = .ok (.istore_n 3, 1) := by decide +kernel
theorem dX6_now_4 : decode cX6_now 4 = .ok (.iload_n 3, 1) := by decide +kernel
theorem dX6_now_5 : decode cX6_now 5 = .ok (.aload_n 0, 1) := by decide +kernel
theorem dX6_now_6 : decode cX6_now 6 = .ok (.getfield 86, 3) := by decide +kernel
theorem dX6_now_9 : decode cX6_now 9 = .ok (.if_icmp .ge 27, 3) := by decide +kernel
theorem dX6_now_12 : decode cX6_now 12 = .ok (.iload_n 2, 1) := by decide +kernel
theorem dX6_now_13 : decode cX6_now 13 = .ok (.aload_n 0, 1) := by decide +kernel
theorem dX6_now_14 : decode cX6_now 14 = .ok (.iload_n 3, 1) := by decide +kernel
theorem dX6_now_15 : decode cX6_now 15 = .ok (.invokevirtual 196, 3) := by decide +kernel
theorem dX6_now_18 : decode cX6_now 18 = .ok (.ifCond .eq 9, 3) := by decide +kernel
theorem dX6_now_21 : decode cX6_now 21 = .ok (.iconst 1, 1) := by decide +kernel
theorem dX6_now_22 : decode cX6_now 22 = .ok (.iload_n 3, 1) := by decide +kernel
theorem dX6_now_23 : decode cX6_now 23 = .ok (.ishl, 1) := by decide +kernel
theorem dX6_now_24 : decode cX6_now 24 = .ok (.goto 4, 3) := by decide +kernel
theorem dX6_now_27 : decode cX6_now 27 = .ok (.iconst 0, 1) := by decide +kernel
theorem dX6_now_28 : decode cX6_now 28 = .ok (.ior, 1) := by decide +kernel
theorem dX6_now_29 : decode cX6_now 29 = .ok (.istore_n 2, 1) := by decide +kernel
theorem dX6_now_30 : decode cX6_now 30 = .ok (.iinc 3 1, 3) := by decide +kernel
theorem dX6_now_33 : decode cX6_now 33 = .ok (.goto (-29), 3) := by decide +kernel
theorem dX6_now_36 : decode cX6_now 36 = .ok (.iload_n 1, 1) := by decide +kernel
theorem dX6_now_37 : decode cX6_now 37 = .ok (.tableswitch 63 0 4 #[35, 43, 51, 53, 58], 35) := by decide +kernel
theorem dX6_now_72 : decode cX6_now 72 = .ok (.aload_n 0, 1) := by decide +kernel
theorem dX6_now_73 : decode cX6_now 73 = .ok (.getfield 32, 3) := by decide +kernel
theorem dX6_now_76 : decode cX6_now 76 = .ok (.bipush 7, 2) := by decide +kernel
theorem dX6_now_78 : decode cX6_now 78 = .ok (.iaload, 1) := by decide +kernel
theorem dX6_now_79 : decode cX6_now 79 = .ok (.ireturn, 1) := by decide +kernel
theorem dX6_now_80 : decode cX6_now 80 = .ok (.aload_n 0, 1) := by decide +kernel
theorem dX6_now_81 : decode cX6_now 81 = .ok (.getfield 32, 3) := by decide +kernel
theorem dX6_now_84 : decode cX6_now 84 = .ok (.bipush 6, 2) := by decide +kernel
theorem dX6_now_86 : decode cX6_now 86 = .ok (.iaload, 1) := by decide +kernel
theorem dX6_now_87 : decode cX6_now 87 = .ok (.ireturn, 1) := by decide +kernel
theorem dX6_now_88 : decode cX6_now 88 = .ok (.iload_n 2, 1) := by decide +kernel
theorem dX6_now_89 : decode cX6_now 89 = .ok (.ireturn, 1) := by decide +kernel
theorem dX6_now_90 : decode cX6_now 90 = .ok (.aload_n 0, 1) := by decide +kernel
theorem dX6_now_91 : decode cX6_now 91 = .ok (.invokevirtual 204, 3) := by decide +kernel
theorem dX6_now_94 : decode cX6_now 94 = .ok (.ireturn, 1) := by decide +kernel
theorem dX6_now_95 : decode cX6_now 95 = .ok (.aload_n 0, 1) := by decide +kernel
theorem dX6_now_96 : decode cX6_now 96 = .ok (.getfield 162, 3) := by decide +kernel
theorem dX6_now_99 : decode cX6_now 99 = .ok (.ireturn, 1) := by decide +kernel
theorem dX6_now_100 : decode cX6_now 100 = .ok (.iconst (-1), 1) := by decide +kernel
theorem dX6_now_101 : decode cX6_now 101 = .ok (.ireturn, 1) := by decide +kernel
theorem dX6_note_0 : decode cX6_note 0 = .ok (.aload_n 0, 1) := by decide +kernel
theorem dX6_note_1 : decode cX6_note 1 = .ok (.getfield 162, 3) := by decide +kernel
theorem dX6_note_4 : decode cX6_note 4 = .ok (.bipush 10, 2) := by decide +kernel
theorem dX6_note_6 : decode cX6_note 6 = .ok (.if_icmp .ne 42, 3) := by decide +kernel
theorem dX6_note_9 : decode cX6_note 9 = .ok (.iconst 0, 1) := by decide +kernel
theorem dX6_note_10 : decode cX6_note 10 = .ok (.istore_n 1, 1) := by decide +kernel
theorem dX6_note_11 : decode cX6_note 11 = .ok (.iload_n 1, 1) := by decide +kernel
theorem dX6_note_12 : decode cX6_note 12 = .ok (.bipush 72, 2) := by decide +kernel
theorem dX6_note_14 : decode cX6_note 14 = .ok (.if_icmp .ge 24, 3) := by decide +kernel
theorem dX6_note_17 : decode cX6_note 17 = .ok (.aload_n 0, 1) := by decide +kernel
theorem dX6_note_18 : decode cX6_note 18 = .ok (.getfield 35, 3) := by decide +kernel
theorem dX6_note_21 : decode cX6_note 21 = .ok (.iload_n 1, 1) := by decide +kernel
theorem dX6_note_22 : decode cX6_note 22 = .ok (.aload_n 0, 1) := by decide +kernel
theorem dX6_note_23 : decode cX6_note 23 = .ok (.getfield 35, 3) := by decide +kernel
theorem dX6_note_26 : decode cX6_note 26 = .ok (.iload_n 1, 1) := by decide +kernel
theorem dX6_note_27 : decode cX6_note 27 = .ok (.bipush 8, 2) := by decide +kernel
theorem dX6_note_29 : decode cX6_note 29 = .ok (.iadd, 1) := by decide +kernel
theorem dX6_note_30 : decode cX6_note 30 = .ok (.iaload, 1) := by decide +kernel
theorem dX6_note_31 : decode cX6_note 31 = .ok (.iastore, 1) := by decide +kernel
theorem dX6_note_32 : decode cX6_note 32 = .ok (.iinc 1 1, 3) := by decide +kernel
theorem dX6_note_35 : decode cX6_note 35 = .ok (.goto (-24), 3) := by decide +kernel
theorem dX6_note_38 : decode cX6_note 38 = .ok (.aload_n 0, 1) := by decide +kernel
theorem dX6_note_39 : decode cX6_note 39 = .ok (.dup, 1) := by decide +kernel
theorem dX6_note_40 : decode cX6_note 40 = .ok (.getfield 162, 3) := by decide +kernel
theorem dX6_note_43 : decode cX6_note 43 = .ok (.iconst 1, 1) := by decide +kernel
theorem dX6_note_44 : decode cX6_note 44 = .ok (.isub, 1) := by decide +kernel
theorem dX6_note_45 : decode cX6_note 45 = .ok (.putfield 162, 3) := by decide +kernel
theorem dX6_note_48 : decode cX6_note 48 = .ok (.iconst 0, 1) := by decide +kernel
theorem dX6_note_49 : decode cX6_note 49 = .ok (.istore_n 1, 1) := by decide +kernel
theorem dX6_note_50 : decode cX6_note 50 = .ok (.iload_n 1, 1) := by decide +kernel
theorem dX6_note_51 : decode cX6_note 51 = .ok (.bipush 8, 2) := by decide +kernel
theorem dX6_note_53 : decode cX6_note 53 = .ok (.if_icmp .ge 29, 3) := by decide +kernel
theorem dX6_note_56 : decode cX6_note 56 = .ok (.aload_n 0, 1) := by decide +kernel
theorem dX6_note_57 : decode cX6_note 57 = .ok (.getfield 35, 3) := by decide +kernel
theorem dX6_note_60 : decode cX6_note 60 = .ok (.bipush 8, 2) := by decide +kernel
theorem dX6_note_62 : decode cX6_note 62 = .ok (.aload_n 0, 1) := by decide +kernel
theorem dX6_note_63 : decode cX6_note 63 = .ok (.getfield 162, 3) := by decide +kernel
theorem dX6_note_66 : decode cX6_note 66 = .ok (.imul, 1) := by decide +kernel
theorem dX6_note_67 : decode cX6_note 67 = .ok (.iload_n 1, 1) := by decide +kernel
theorem dX6_note_68 : decode cX6_note 68 = .ok (.iadd, 1) := by decide +kernel
theorem dX6_note_69 : decode cX6_note 69 = .ok (.aload_n 0, 1) := by decide +kernel
theorem dX6_note_70 : decode cX6_note 70 = .ok (.getfield 32, 3) := by decide +kernel
theorem dX6_note_73 : decode cX6_note 73 = .ok (.iload_n 1, 1) := by decide +kernel
theorem dX6_note_74 : decode cX6_note 74 = .ok (.iaload, 1) := by decide +kernel
theorem dX6_note_75 : decode cX6_note 75 = .ok (.iastore, 1) := by decide +kernel
theorem dX6_note_76 : decode cX6_note 76 = .ok (.iinc 1 1, 3) := by decide +kernel
theorem dX6_note_79 : decode cX6_note 79 = .ok (.goto (-29), 3) := by decide +kernel
theorem dX6_note_82 : decode cX6_note 82 = .ok (.aload_n 0, 1) := by decide +kernel
theorem dX6_note_83 : decode cX6_note 83 = .ok (.dup, 1) := by decide +kernel
theorem dX6_note_84 : decode cX6_note 84 = .ok (.getfield 162, 3) := by decide +kernel
theorem dX6_note_87 : decode cX6_note 87 = .ok (.iconst 1, 1) := by decide +kernel
theorem dX6_note_88 : decode cX6_note 88 = .ok (.iadd, 1) := by decide +kernel
theorem dX6_note_89 : decode cX6_note 89 = .ok (.putfield 162, 3) := by decide +kernel
theorem dX6_note_92 : decode cX6_note 92 = .ok (.return_, 1) := by decide +kernel
theorem dX6_taxOf_0 : decode cX6_taxOf 0 = .ok (.aload_n 0, 1) := by decide +kernel
theorem dX6_taxOf_1 : decode cX6_taxOf 1 = .ok (.getfield 20, 3) := by decide +kernel
theorem dX6_taxOf_4 : decode cX6_taxOf 4 = .ok (.bipush 6, 2) := by decide +kernel
theorem dX6_taxOf_6 : decode cX6_taxOf 6 = .ok (.iload_n 1, 1) := by decide +kernel
theorem dX6_taxOf_7 : decode cX6_taxOf 7 = .ok (.imul, 1) := by decide +kernel
theorem dX6_taxOf_8 : decode cX6_taxOf 8 = .ok (.iload_n 2, 1) := by decide +kernel
theorem dX6_taxOf_9 : decode cX6_taxOf 9 = .ok (.iadd, 1) := by decide +kernel
theorem dX6_taxOf_10 : decode cX6_taxOf 10 = .ok (.iaload, 1) := by decide +kernel
theorem dX6_taxOf_11 : decode cX6_taxOf 11 = .ok (.iload_n 3, 1) := by decide +kernel
theorem dX6_taxOf_12 : decode cX6_taxOf 12 = .ok (.invokestatic 165, 3) := by decide +kernel
theorem dX6_taxOf_15 : decode cX6_taxOf 15 = .ok (.ifCond .eq 7, 3) := by decide +kernel
theorem dX6_taxOf_18 : decode cX6_taxOf 18 = .ok (.iconst 0, 1) := by decide +kernel
theorem dX6_taxOf_19 : decode cX6_taxOf 19 = .ok (.goto 14, 3) := by decide +kernel
theorem dX6_taxOf_22 : decode cX6_taxOf 22 = .ok (.aload_n 0, 1) := by decide +kernel
theorem dX6_taxOf_23 : decode cX6_taxOf 23 = .ok (.getfield 13, 3) := by decide +kernel
theorem dX6_taxOf_26 : decode cX6_taxOf 26 = .ok (.bipush 8, 2) := by decide +kernel
theorem dX6_taxOf_28 : decode cX6_taxOf 28 = .ok (.iload_n 2, 1) := by decide +kernel
theorem dX6_taxOf_29 : decode cX6_taxOf 29 = .ok (.imul, 1) := by decide +kernel
theorem dX6_taxOf_30 : decode cX6_taxOf 30 = .ok (.iconst 2, 1) := by decide +kernel
theorem dX6_taxOf_31 : decode cX6_taxOf 31 = .ok (.iadd, 1) := by decide +kernel
theorem dX6_taxOf_32 : decode cX6_taxOf 32 = .ok (.iaload, 1) := by decide +kernel
theorem dX6_taxOf_33 : decode cX6_taxOf 33 = .ok (.ireturn, 1) := by decide +kernel
theorem dX6_hasRoom_0 : decode cX6_hasRoom 0 = .ok (.aload_n 0, 1) := by decide +kernel
theorem dX6_hasRoom_1 : decode cX6_hasRoom 1 = .ok (.iload_n 1, 1) := by decide +kernel
theorem dX6_hasRoom_2 : decode cX6_hasRoom 2 = .ok (.invokevirtual 181, 3) := by decide +kernel
theorem dX6_hasRoom_5 : decode cX6_hasRoom 5 = .ok (.iload_n 2, 1) := by decide +kernel
theorem dX6_hasRoom_6 : decode cX6_hasRoom 6 = .ok (.iadd, 1) := by decide +kernel
theorem dX6_hasRoom_7 : decode cX6_hasRoom 7 = .ok (.aload_n 0, 1) := by decide +kernel
theorem dX6_hasRoom_8 : decode cX6_hasRoom 8 = .ok (.getfield 13, 3) := by decide +kernel
theorem dX6_hasRoom_11 : decode cX6_hasRoom 11 = .ok (.bipush 8, 2) := by decide +kernel
theorem dX6_hasRoom_13 : decode cX6_hasRoom 13 = .ok (.iload_n 1, 1) := by decide +kernel
theorem dX6_hasRoom_14 : decode cX6_hasRoom 14 = .ok (.imul, 1) := by decide +kernel
theorem dX6_hasRoom_15 : decode cX6_hasRoom 15 = .ok (.iaload, 1) := by decide +kernel
theorem dX6_hasRoom_16 : decode cX6_hasRoom 16 = .ok (.if_icmp .gt 7, 3) := by decide +kernel
theorem dX6_hasRoom_19 : decode cX6_hasRoom 19 = .ok (.iconst 1, 1) := by decide +kernel
theorem dX6_hasRoom_20 : decode cX6_hasRoom 20 = .ok (.goto 4, 3) := by decide +kernel
theorem dX6_hasRoom_23 : decode cX6_hasRoom 23 = .ok (.iconst 0, 1) := by decide +kernel
theorem dX6_hasRoom_24 : decode cX6_hasRoom 24 = .ok (.ireturn, 1) := by decide +kernel
theorem dX6_moves_0 : decode cX6_moves 0 = .ok (.aload_n 0, 1) := by decide +kernel
theorem dX6_moves_1 : decode cX6_moves 1 = .ok (.iload_n 1, 1) := by decide +kernel
theorem dX6_moves_2 : decode cX6_moves 2 = .ok (.invokevirtual 193, 3) := by decide +kernel
theorem dX6_moves_5 : decode cX6_moves 5 = .ok (.ifCond .eq 11, 3) := by decide +kernel
theorem dX6_moves_8 : decode cX6_moves 8 = .ok (.aload_n 0, 1) := by decide +kernel
theorem dX6_moves_9 : decode cX6_moves 9 = .ok (.iload_n 2, 1) := by decide +kernel
theorem dX6_moves_10 : decode cX6_moves 10 = .ok (.invokevirtual 178, 3) := by decide +kernel
theorem dX6_moves_13 : decode cX6_moves 13 = .ok (.ifCond .ne 5, 3) := by decide +kernel
theorem dX6_moves_16 : decode cX6_moves 16 = .ok (.iconst (-1), 1) := by decide +kernel
theorem dX6_moves_17 : decode cX6_moves 17 = .ok (.ireturn, 1) := by decide +kernel
theorem dX6_moves_18 : decode cX6_moves 18 = .ok (.aload_n 0, 1) := by decide +kernel
theorem dX6_moves_19 : decode cX6_moves 19 = .ok (.getfield 16, 3) := by decide +kernel
theorem dX6_moves_22 : decode cX6_moves 22 = .ok (.bipush 6, 2) := by decide +kernel
theorem dX6_moves_24 : decode cX6_moves 24 = .ok (.aload_n 0, 1) := by decide +kernel
theorem dX6_moves_25 : decode cX6_moves 25 = .ok (.getfield 32, 3) := by decide +kernel
theorem dX6_moves_28 : decode cX6_moves 28 = .ok (.iload_n 1, 1) := by decide +kernel
theorem dX6_moves_29 : decode cX6_moves 29 = .ok (.iaload, 1) := by decide +kernel
theorem dX6_moves_30 : decode cX6_moves 30 = .ok (.imul, 1) := by decide +kernel
theorem dX6_moves_31 : decode cX6_moves 31 = .ok (.iload_n 2, 1) := by decide +kernel
theorem dX6_moves_32 : decode cX6_moves 32 = .ok (.iadd, 1) := by decide +kernel
theorem dX6_moves_33 : decode cX6_moves 33 = .ok (.baload, 1) := by decide +kernel
theorem dX6_moves_34 : decode cX6_moves 34 = .ok (.ifCond .eq 34, 3) := by decide +kernel
theorem dX6_moves_37 : decode cX6_moves 37 = .ok (.aload_n 0, 1) := by decide +kernel
theorem dX6_moves_38 : decode cX6_moves 38 = .ok (.aload_n 0, 1) := by decide +kernel
theorem dX6_moves_39 : decode cX6_moves 39 = .ok (.getfield 23, 3) := by decide +kernel
theorem dX6_moves_42 : decode cX6_moves 42 = .ok (.iload_n 1, 1) := by decide +kernel
theorem dX6_moves_43 : decode cX6_moves 43 = .ok (.iaload, 1) := by decide +kernel
theorem dX6_moves_44 : decode cX6_moves 44 = .ok (.invokevirtual 190, 3) := by decide +kernel
theorem dX6_moves_47 : decode cX6_moves 47 = .ok (.iload_n 2, 1) := by decide +kernel
theorem dX6_moves_48 : decode cX6_moves 48 = .ok (.invokestatic 165, 3) := by decide +kernel
theorem dX6_moves_51 : decode cX6_moves 51 = .ok (.ifCond .eq 17, 3) := by decide +kernel
theorem dX6_moves_54 : decode cX6_moves 54 = .ok (.aload_n 0, 1) := by decide +kernel
theorem dX6_moves_55 : decode cX6_moves 55 = .ok (.iload_n 2, 1) := by decide +kernel
theorem dX6_moves_56 : decode cX6_moves 56 = .ok (.aload_n 0, 1) := by decide +kernel
theorem dX6_moves_57 : decode cX6_moves 57 = .ok (.getfield 26, 3) := by decide +kernel
theorem dX6_moves_60 : decode cX6_moves 60 = .ok (.iload_n 1, 1) := by decide +kernel
theorem dX6_moves_61 : decode cX6_moves 61 = .ok (.iaload, 1) := by decide +kernel
theorem dX6_moves_62 : decode cX6_moves 62 = .ok (.invokevirtual 208, 3) := by decide +kernel
theorem dX6_moves_65 : decode cX6_moves 65 = .ok (.ifCond .ne 6, 3) := by decide +kernel
theorem dX6_moves_68 : decode cX6_moves 68 = .ok (.bipush (-2), 2) := by decide +kernel
theorem dX6_moves_70 : decode cX6_moves 70 = .ok (.ireturn, 1) := by decide +kernel
theorem dX6_moves_71 : decode cX6_moves 71 = .ok (.aload_n 0, 1) := by decide +kernel
theorem dX6_moves_72 : decode cX6_moves 72 = .ok (.invokevirtual 211, 3) := by decide +kernel
theorem dX6_moves_75 : decode cX6_moves 75 = .ok (.aload_n 0, 1) := by decide +kernel
theorem dX6_moves_76 : decode cX6_moves 76 = .ok (.aload_n 0, 1) := by decide +kernel
theorem dX6_moves_77 : decode cX6_moves 77 = .ok (.getfield 32, 3) := by decide +kernel
theorem dX6_moves_80 : decode cX6_moves 80 = .ok (.iload_n 1, 1) := by decide +kernel
theorem dX6_moves_81 : decode cX6_moves 81 = .ok (.iaload, 1) := by decide +kernel
theorem dX6_moves_82 : decode cX6_moves 82 = .ok (.iload_n 2, 1) := by decide +kernel
theorem dX6_moves_83 : decode cX6_moves 83 = .ok (.aload_n 0, 1) := by decide +kernel
theorem dX6_moves_84 : decode cX6_moves 84 = .ok (.getfield 23, 3) := by decide +kernel
theorem dX6_moves_87 : decode cX6_moves 87 = .ok (.iload_n 1, 1) := by decide +kernel
theorem dX6_moves_88 : decode cX6_moves 88 = .ok (.iaload, 1) := by decide +kernel
theorem dX6_moves_89 : decode cX6_moves 89 = .ok (.invokevirtual 214, 3) := by decide +kernel
theorem dX6_moves_92 : decode cX6_moves 92 = .ok (.istore_n 3, 1) := by decide +kernel
theorem dX6_moves_93 : decode cX6_moves 93 = .ok (.aload_n 0, 1) := by decide +kernel
theorem dX6_moves_94 : decode cX6_moves 94 = .ok (.getfield 32, 3) := by decide +kernel
theorem dX6_moves_97 : decode cX6_moves 97 = .ok (.bipush 6, 2) := by decide +kernel
theorem dX6_moves_99 : decode cX6_moves 99 = .ok (.dup2, 1) := by decide +kernel
theorem dX6_moves_100 : decode cX6_moves 100 = .ok (.iaload, 1) := by decide +kernel
theorem dX6_moves_101 : decode cX6_moves 101 = .ok (.iload_n 3, 1) := by decide +kernel
theorem dX6_moves_102 : decode cX6_moves 102 = .ok (.iadd, 1) := by decide +kernel
theorem dX6_moves_103 : decode cX6_moves 103 = .ok (.iastore, 1) := by decide +kernel
theorem dX6_moves_104 : decode cX6_moves 104 = .ok (.aload_n 0, 1) := by decide +kernel
theorem dX6_moves_105 : decode cX6_moves 105 = .ok (.getfield 32, 3) := by decide +kernel
theorem dX6_moves_108 : decode cX6_moves 108 = .ok (.iload_n 1, 1) := by decide +kernel
theorem dX6_moves_109 : decode cX6_moves 109 = .ok (.iload_n 2, 1) := by decide +kernel
theorem dX6_moves_110 : decode cX6_moves 110 = .ok (.iastore, 1) := by decide +kernel
theorem dX6_moves_111 : decode cX6_moves 111 = .ok (.iload_n 3, 1) := by decide +kernel
theorem dX6_moves_112 : decode cX6_moves 112 = .ok (.ireturn, 1) := by decide +kernel
theorem dX6_through_0 : decode cX6_through 0 = .ok (.aload_n 0, 1) := by decide +kernel
theorem dX6_through_1 : decode cX6_through 1 = .ok (.getfield 13, 3) := by decide +kernel
theorem dX6_through_4 : decode cX6_through 4 = .ok (.bipush 8, 2) := by decide +kernel
theorem dX6_through_6 : decode cX6_through 6 = .ok (.iload_n 1, 1) := by decide +kernel
theorem dX6_through_7 : decode cX6_through 7 = .ok (.imul, 1) := by decide +kernel
theorem dX6_through_8 : decode cX6_through 8 = .ok (.bipush 6, 2) := by decide +kernel
theorem dX6_through_10 : decode cX6_through 10 = .ok (.iadd, 1) := by decide +kernel
theorem dX6_through_11 : decode cX6_through 11 = .ok (.iaload, 1) := by decide +kernel
theorem dX6_through_12 : decode cX6_through 12 = .ok (.istore_n 3, 1) := by decide +kernel
theorem dX6_through_13 : decode cX6_through 13 = .ok (.iload_n 3, 1) := by decide +kernel
theorem dX6_through_14 : decode cX6_through 14 = .ok (.ifCond .lt 36, 3) := by decide +kernel
theorem dX6_through_17 : decode cX6_through 17 = .ok (.iload_n 2, 1) := by decide +kernel
theorem dX6_through_18 : decode cX6_through 18 = .ok (.aload_n 0, 1) := by decide +kernel
theorem dX6_through_19 : decode cX6_through 19 = .ok (.getfield 13, 3) := by decide +kernel
theorem dX6_through_22 : decode cX6_through 22 = .ok (.bipush 8, 2) := by decide +kernel
theorem dX6_through_24 : decode cX6_through 24 = .ok (.iload_n 1, 1) := by decide +kernel
theorem dX6_through_25 : decode cX6_through 25 = .ok (.imul, 1) := by decide +kernel
theorem dX6_through_26 : decode cX6_through 26 = .ok (.bipush 7, 2) := by decide +kernel
theorem dX6_through_28 : decode cX6_through 28 = .ok (.iadd, 1) := by decide +kernel
theorem dX6_through_29 : decode cX6_through 29 = .ok (.iaload, 1) := by decide +kernel
theorem dX6_through_30 : decode cX6_through 30 = .ok (.if_icmp .gt 20, 3) := by decide +kernel
theorem dX6_through_33 : decode cX6_through 33 = .ok (.iload_n 2, 1) := by decide +kernel
theorem dX6_through_34 : decode cX6_through 34 = .ok (.aload_n 0, 1) := by decide +kernel
theorem dX6_through_35 : decode cX6_through 35 = .ok (.getfield 13, 3) := by decide +kernel
theorem dX6_through_38 : decode cX6_through 38 = .ok (.bipush 8, 2) := by decide +kernel
theorem dX6_through_40 : decode cX6_through 40 = .ok (.iload_n 3, 1) := by decide +kernel
theorem dX6_through_41 : decode cX6_through 41 = .ok (.imul, 1) := by decide +kernel
theorem dX6_through_42 : decode cX6_through 42 = .ok (.iaload, 1) := by decide +kernel
theorem dX6_through_43 : decode cX6_through 43 = .ok (.if_icmp .gt 7, 3) := by decide +kernel
theorem dX6_through_46 : decode cX6_through 46 = .ok (.iload_n 3, 1) := by decide +kernel
theorem dX6_through_47 : decode cX6_through 47 = .ok (.goto 4, 3) := by decide +kernel
theorem dX6_through_50 : decode cX6_through 50 = .ok (.iload_n 1, 1) := by decide +kernel
theorem dX6_through_51 : decode cX6_through 51 = .ok (.ireturn, 1) := by decide +kernel
theorem dX6_night_0 : decode cX6_night 0 = .ok (.aload_n 0, 1) := by decide +kernel
theorem dX6_night_1 : decode cX6_night 1 = .ok (.getfield 32, 3) := by decide +kernel
theorem dX6_night_4 : decode cX6_night 4 = .ok (.bipush 7, 2) := by decide +kernel
theorem dX6_night_6 : decode cX6_night 6 = .ok (.iaload, 1) := by decide +kernel
theorem dX6_night_7 : decode cX6_night 7 = .ok (.sipush 999, 3) := by decide +kernel
theorem dX6_night_10 : decode cX6_night 10 = .ok (.if_icmp .ne 6, 3) := by decide +kernel
theorem dX6_night_13 : decode cX6_night 13 = .ok (.bipush (-2), 2) := by decide +kernel
theorem dX6_night_15 : decode cX6_night 15 = .ok (.ireturn, 1) := by decide +kernel
theorem dX6_night_16 : decode cX6_night 16 = .ok (.aload_n 0, 1) := by decide +kernel
theorem dX6_night_17 : decode cX6_night 17 = .ok (.invokevirtual 211, 3) := by decide +kernel
theorem dX6_night_20 : decode cX6_night 20 = .ok (.iconst 0, 1) := by decide +kernel
theorem dX6_night_21 : decode cX6_night 21 = .ok (.istore_n 1, 1) := by decide +kernel
theorem dX6_night_22 : decode cX6_night 22 = .ok (.iconst 0, 1) := by decide +kernel
theorem dX6_night_23 : decode cX6_night 23 = .ok (.istore_n 2, 1) := by decide +kernel
theorem dX6_night_24 : decode cX6_night 24 = .ok (.iload_n 2, 1) := by decide +kernel
theorem dX6_night_25 : decode cX6_night 25 = .ok (.aload_n 0, 1) := by decide +kernel
theorem dX6_night_26 : decode cX6_night 26 = .ok (.getfield 86, 3) := by decide +kernel
theorem dX6_night_29 : decode cX6_night 29 = .ok (.if_icmp .ge 60, 3) := by decide +kernel
theorem dX6_night_32 : decode cX6_night 32 = .ok (.aload_n 0, 1) := by decide +kernel
theorem dX6_night_33 : decode cX6_night 33 = .ok (.aload_n 0, 1) := by decide +kernel
theorem dX6_night_34 : decode cX6_night 34 = .ok (.getfield 32, 3) := by decide +kernel
theorem dX6_night_37 : decode cX6_night 37 = .ok (.iload_n 2, 1) := by decide +kernel
theorem dX6_night_38 : decode cX6_night 38 = .ok (.iaload, 1) := by decide +kernel
theorem dX6_night_39 : decode cX6_night 39 = .ok (.aload_n 0, 1) := by decide +kernel
theorem dX6_night_40 : decode cX6_night 40 = .ok (.getfield 26, 3) := by decide +kernel
theorem dX6_night_43 : decode cX6_night 43 = .ok (.iload_n 2, 1) := by decide +kernel
theorem dX6_night_44 : decode cX6_night 44 = .ok (.iaload, 1) := by decide +kernel
theorem dX6_night_45 : decode cX6_night 45 = .ok (.invokevirtual 218, 3) := by decide +kernel
theorem dX6_night_48 : decode cX6_night 48 = .ok (.istore_n 3, 1) := by decide +kernel
theorem dX6_night_49 : decode cX6_night 49 = .ok (.iload_n 3, 1) := by decide +kernel
theorem dX6_night_50 : decode cX6_night 50 = .ok (.aload_n 0, 1) := by decide +kernel
theorem dX6_night_51 : decode cX6_night 51 = .ok (.getfield 32, 3) := by decide +kernel
theorem dX6_night_54 : decode cX6_night 54 = .ok (.iload_n 2, 1) := by decide +kernel
theorem dX6_night_55 : decode cX6_night 55 = .ok (.iaload, 1) := by decide +kernel
theorem dX6_night_56 : decode cX6_night 56 = .ok (.if_icmp .eq 27, 3) := by decide +kernel
theorem dX6_night_59 : decode cX6_night 59 = .ok (.aload_n 0, 1) := by decide +kernel
theorem dX6_night_60 : decode cX6_night 60 = .ok (.iload_n 3, 1) := by decide +kernel
theorem dX6_night_61 : decode cX6_night 61 = .ok (.aload_n 0, 1) := by decide +kernel
theorem dX6_night_62 : decode cX6_night 62 = .ok (.getfield 26, 3) := by decide +kernel
theorem dX6_night_65 : decode cX6_night 65 = .ok (.iload_n 2, 1) := by decide +kernel
theorem dX6_night_66 : decode cX6_night 66 = .ok (.iaload, 1) := by decide +kernel
theorem dX6_night_67 : decode cX6_night 67 = .ok (.invokevirtual 208, 3) := by decide +kernel
theorem dX6_night_70 : decode cX6_night 70 = .ok (.ifCond .eq 13, 3) := by decide +kernel
theorem dX6_night_73 : decode cX6_night 73 = .ok (.aload_n 0, 1) := by decide +kernel
theorem dX6_night_74 : decode cX6_night 74 = .ok (.getfield 32, 3) := by decide +kernel
theorem dX6_night_77 : decode cX6_night 77 = .ok (.iload_n 2, 1) := by decide +kernel
theorem dX6_night_78 : decode cX6_night 78 = .ok (.iload_n 3, 1) := by decide +kernel
theorem dX6_night_79 : decode cX6_night 79 = .ok (.iastore, 1) := by decide +kernel
theorem dX6_night_80 : decode cX6_night 80 = .ok (.iinc 1 1, 3) := by decide +kernel
theorem dX6_night_83 : decode cX6_night 83 = .ok (.iinc 2 1, 3) := by decide +kernel
theorem dX6_night_86 : decode cX6_night 86 = .ok (.goto (-62), 3) := by decide +kernel
theorem dX6_night_89 : decode cX6_night 89 = .ok (.aload_n 0, 1) := by decide +kernel
theorem dX6_night_90 : decode cX6_night 90 = .ok (.getfield 32, 3) := by decide +kernel
theorem dX6_night_93 : decode cX6_night 93 = .ok (.bipush 7, 2) := by decide +kernel
theorem dX6_night_95 : decode cX6_night 95 = .ok (.dup2, 1) := by decide +kernel
theorem dX6_night_96 : decode cX6_night 96 = .ok (.iaload, 1) := by decide +kernel
theorem dX6_night_97 : decode cX6_night 97 = .ok (.iconst 1, 1) := by decide +kernel
theorem dX6_night_98 : decode cX6_night 98 = .ok (.iadd, 1) := by decide +kernel
theorem dX6_night_99 : decode cX6_night 99 = .ok (.iastore, 1) := by decide +kernel
theorem dX6_night_100 : decode cX6_night 100 = .ok (.iload_n 1, 1) := by decide +kernel
theorem dX6_night_101 : decode cX6_night 101 = .ok (.ireturn, 1) := by decide +kernel
theorem dX6_undo_0 : decode cX6_undo 0 = .ok (.aload_n 0, 1) := by decide +kernel
theorem dX6_undo_1 : decode cX6_undo 1 = .ok (.getfield 162, 3) := by decide +kernel
theorem dX6_undo_4 : decode cX6_undo 4 = .ok (.ifCond .ne 6, 3) := by decide +kernel
theorem dX6_undo_7 : decode cX6_undo 7 = .ok (.bipush (-2), 2) := by decide +kernel
theorem dX6_undo_9 : decode cX6_undo 9 = .ok (.ireturn, 1) := by decide +kernel
theorem dX6_undo_10 : decode cX6_undo 10 = .ok (.aload_n 0, 1) := by decide +kernel
theorem dX6_undo_11 : decode cX6_undo 11 = .ok (.dup, 1) := by decide +kernel
theorem dX6_undo_12 : decode cX6_undo 12 = .ok (.getfield 162, 3) := by decide +kernel
theorem dX6_undo_15 : decode cX6_undo 15 = .ok (.iconst 1, 1) := by decide +kernel
theorem dX6_undo_16 : decode cX6_undo 16 = .ok (.isub, 1) := by decide +kernel
theorem dX6_undo_17 : decode cX6_undo 17 = .ok (.putfield 162, 3) := by decide +kernel
theorem dX6_undo_20 : decode cX6_undo 20 = .ok (.iconst 0, 1) := by decide +kernel
theorem dX6_undo_21 : decode cX6_undo 21 = .ok (.istore_n 1, 1) := by decide +kernel
theorem dX6_undo_22 : decode cX6_undo 22 = .ok (.iload_n 1, 1) := by decide +kernel
theorem dX6_undo_23 : decode cX6_undo 23 = .ok (.bipush 8, 2) := by decide +kernel
theorem dX6_undo_25 : decode cX6_undo 25 = .ok (.if_icmp .ge 29, 3) := by decide +kernel
theorem dX6_undo_28 : decode cX6_undo 28 = .ok (.aload_n 0, 1) := by decide +kernel
theorem dX6_undo_29 : decode cX6_undo 29 = .ok (.getfield 32, 3) := by decide +kernel
theorem dX6_undo_32 : decode cX6_undo 32 = .ok (.iload_n 1, 1) := by decide +kernel
theorem dX6_undo_33 : decode cX6_undo 33 = .ok (.aload_n 0, 1) := by decide +kernel
theorem dX6_undo_34 : decode cX6_undo 34 = .ok (.getfield 35, 3) := by decide +kernel
theorem dX6_undo_37 : decode cX6_undo 37 = .ok (.bipush 8, 2) := by decide +kernel
theorem dX6_undo_39 : decode cX6_undo 39 = .ok (.aload_n 0, 1) := by decide +kernel
theorem dX6_undo_40 : decode cX6_undo 40 = .ok (.getfield 162, 3) := by decide +kernel
theorem dX6_undo_43 : decode cX6_undo 43 = .ok (.imul, 1) := by decide +kernel
theorem dX6_undo_44 : decode cX6_undo 44 = .ok (.iload_n 1, 1) := by decide +kernel
theorem dX6_undo_45 : decode cX6_undo 45 = .ok (.iadd, 1) := by decide +kernel
theorem dX6_undo_46 : decode cX6_undo 46 = .ok (.iaload, 1) := by decide +kernel
theorem dX6_undo_47 : decode cX6_undo 47 = .ok (.iastore, 1) := by decide +kernel
theorem dX6_undo_48 : decode cX6_undo 48 = .ok (.iinc 1 1, 3) := by decide +kernel
theorem dX6_undo_51 : decode cX6_undo 51 = .ok (.goto (-29), 3) := by decide +kernel
theorem dX6_undo_54 : decode cX6_undo 54 = .ok (.aload_n 0, 1) := by decide +kernel
theorem dX6_undo_55 : decode cX6_undo 55 = .ok (.getfield 162, 3) := by decide +kernel
theorem dX6_undo_58 : decode cX6_undo 58 = .ok (.ireturn, 1) := by decide +kernel
theorem dX6_farOf_0 : decode cX6_farOf 0 = .ok (.aload_n 0, 1) := by decide +kernel
theorem dX6_farOf_1 : decode cX6_farOf 1 = .ok (.aload_n 0, 1) := by decide +kernel
theorem dX6_farOf_2 : decode cX6_farOf 2 = .ok (.getfield 23, 3) := by decide +kernel
theorem dX6_farOf_5 : decode cX6_farOf 5 = .ok (.iload_n 1, 1) := by decide +kernel
theorem dX6_farOf_6 : decode cX6_farOf 6 = .ok (.iaload, 1) := by decide +kernel
theorem dX6_farOf_7 : decode cX6_farOf 7 = .ok (.invokevirtual 190, 3) := by decide +kernel
theorem dX6_farOf_10 : decode cX6_farOf 10 = .ok (.istore 4, 2) := by decide +kernel
theorem dX6_farOf_12 : decode cX6_farOf 12 = .ok (.iconst 0, 1) := by decide +kernel
theorem dX6_farOf_13 : decode cX6_farOf 13 = .ok (.istore 5, 2) := by decide +kernel
theorem dX6_farOf_15 : decode cX6_farOf 15 = .ok (.iload 5, 2) := by decide +kernel
theorem dX6_farOf_17 : decode cX6_farOf 17 = .ok (.bipush 6, 2) := by decide +kernel
theorem dX6_farOf_19 : decode cX6_farOf 19 = .ok (.if_icmp .ge 33, 3) := by decide +kernel
theorem dX6_farOf_22 : decode cX6_farOf 22 = .ok (.aload_n 0, 1) := by decide +kernel
theorem dX6_farOf_23 : decode cX6_farOf 23 = .ok (.getfield 53, 3) := by decide +kernel
theorem dX6_farOf_26 : decode cX6_farOf 26 = .ok (.iload 5, 2) := by decide +kernel
theorem dX6_farOf_28 : decode cX6_farOf 28 = .ok (.iload 5, 2) := by decide +kernel
theorem dX6_farOf_30 : decode cX6_farOf 30 = .ok (.aload_n 0, 1) := by decide +kernel
theorem dX6_farOf_31 : decode cX6_farOf 31 = .ok (.getfield 32, 3) := by decide +kernel
theorem dX6_farOf_34 : decode cX6_farOf 34 = .ok (.iload_n 1, 1) := by decide +kernel
theorem dX6_farOf_35 : decode cX6_farOf 35 = .ok (.iaload, 1) := by decide +kernel
theorem dX6_farOf_36 : decode cX6_farOf 36 = .ok (.if_icmp .ne 7, 3) := by decide +kernel
theorem dX6_farOf_39 : decode cX6_farOf 39 = .ok (.iconst 0, 1) := by decide +kernel
theorem dX6_farOf_40 : decode cX6_farOf 40 = .ok (.goto 5, 3) := by decide +kernel
theorem dX6_farOf_43 : decode cX6_farOf 43 = .ok (.ldc 222, 2) := by decide +kernel
theorem dX6_farOf_45 : decode cX6_farOf 45 = .ok (.iastore, 1) := by decide +kernel
theorem dX6_farOf_46 : decode cX6_farOf 46 = .ok (.iinc 5 1, 3) := by decide +kernel
theorem dX6_farOf_49 : decode cX6_farOf 49 = .ok (.goto (-34), 3) := by decide +kernel
theorem dX6_farOf_52 : decode cX6_farOf 52 = .ok (.iconst 0, 1) := by decide +kernel
theorem dX6_farOf_53 : decode cX6_farOf 53 = .ok (.istore 5, 2) := by decide +kernel
theorem dX6_farOf_55 : decode cX6_farOf 55 = .ok (.iload 5, 2) := by decide +kernel
theorem dX6_farOf_57 : decode cX6_farOf 57 = .ok (.bipush 6, 2) := by decide +kernel
theorem dX6_farOf_59 : decode cX6_farOf 59 = .ok (.if_icmp .ge 122, 3) := by decide +kernel
theorem dX6_farOf_62 : decode cX6_farOf 62 = .ok (.iconst 0, 1) := by decide +kernel
theorem dX6_farOf_63 : decode cX6_farOf 63 = .ok (.istore 6, 2) := by decide +kernel
theorem dX6_farOf_65 : decode cX6_farOf 65 = .ok (.iload 6, 2) := by decide +kernel
theorem dX6_farOf_67 : decode cX6_farOf 67 = .ok (.bipush 36, 2) := by decide +kernel
theorem dX6_farOf_69 : decode cX6_farOf 69 = .ok (.if_icmp .ge 106, 3) := by decide +kernel
theorem dX6_farOf_72 : decode cX6_farOf 72 = .ok (.iload 6, 2) := by decide +kernel
theorem dX6_farOf_74 : decode cX6_farOf 74 = .ok (.bipush 6, 2) := by decide +kernel
theorem dX6_farOf_76 : decode cX6_farOf 76 = .ok (.idiv, 1) := by decide +kernel
theorem dX6_farOf_77 : decode cX6_farOf 77 = .ok (.istore 7, 2) := by decide +kernel
theorem dX6_farOf_79 : decode cX6_farOf 79 = .ok (.iload 6, 2) := by decide +kernel
theorem dX6_farOf_81 : decode cX6_farOf 81 = .ok (.bipush 6, 2) := by decide +kernel
theorem dX6_farOf_83 : decode cX6_farOf 83 = .ok (.irem, 1) := by decide +kernel
theorem dX6_farOf_84 : decode cX6_farOf 84 = .ok (.istore 8, 2) := by decide +kernel
theorem dX6_farOf_86 : decode cX6_farOf 86 = .ok (.aload_n 0, 1) := by decide +kernel
theorem dX6_farOf_87 : decode cX6_farOf 87 = .ok (.getfield 16, 3) := by decide +kernel
theorem dX6_farOf_90 : decode cX6_farOf 90 = .ok (.iload 6, 2) := by decide +kernel
theorem dX6_farOf_92 : decode cX6_farOf 92 = .ok (.baload, 1) := by decide +kernel
theorem dX6_farOf_93 : decode cX6_farOf 93 = .ok (.ifCond .eq 76, 3) := by decide +kernel
theorem dX6_farOf_96 : decode cX6_farOf 96 = .ok (.iload 4, 2) := by decide +kernel
theorem dX6_farOf_98 : decode cX6_farOf 98 = .ok (.iload 8, 2) := by decide +kernel
theorem dX6_farOf_100 : decode cX6_farOf 100 = .ok (.invokestatic 165, 3) := by decide +kernel
theorem dX6_farOf_103 : decode cX6_farOf 103 = .ok (.ifCond .eq 66, 3) := by decide +kernel
theorem dX6_farOf_106 : decode cX6_farOf 106 = .ok (.aload_n 0, 1) := by decide +kernel
theorem dX6_farOf_107 : decode cX6_farOf 107 = .ok (.getfield 53, 3) := by decide +kernel
theorem dX6_farOf_110 : decode cX6_farOf 110 = .ok (.iload 7, 2) := by decide +kernel
theorem dX6_farOf_112 : decode cX6_farOf 112 = .ok (.iaload, 1) := by decide +kernel
theorem dX6_farOf_113 : decode cX6_farOf 113 = .ok (.iload_n 3, 1) := by decide +kernel
theorem dX6_farOf_114 : decode cX6_farOf 114 = .ok (.ifCond .eq 20, 3) := by decide +kernel
theorem dX6_farOf_117 : decode cX6_farOf 117 = .ok (.aload_n 0, 1) := by decide +kernel
theorem dX6_farOf_118 : decode cX6_farOf 118 = .ok (.iload 7, 2) := by decide +kernel
theorem dX6_farOf_120 : decode cX6_farOf 120 = .ok (.iload 8, 2) := by decide +kernel
theorem dX6_farOf_122 : decode cX6_farOf 122 = .ok (.aload_n 0, 1) := by decide +kernel
theorem dX6_farOf_123 : decode cX6_farOf 123 = .ok (.getfield 23, 3) := by decide +kernel
theorem dX6_farOf_126 : decode cX6_farOf 126 = .ok (.iload_n 1, 1) := by decide +kernel
theorem dX6_farOf_127 : decode cX6_farOf 127 = .ok (.iaload, 1) := by decide +kernel
theorem dX6_farOf_128 : decode cX6_farOf 128 = .ok (.invokevirtual 214, 3) := by decide +kernel
theorem dX6_farOf_131 : decode cX6_farOf 131 = .ok (.goto 4, 3) := by decide +kernel
theorem dX6_farOf_134 : decode cX6_farOf 134 = .ok (.iconst 1, 1) := by decide +kernel
theorem dX6_farOf_135 : decode cX6_farOf 135 = .ok (.iadd, 1) := by decide +kernel
theorem dX6_farOf_136 : decode cX6_farOf 136 = .ok (.istore 9, 2) := by decide +kernel
theorem dX6_farOf_138 : decode cX6_farOf 138 = .ok (.aload_n 0, 1) := by decide +kernel
theorem dX6_farOf_139 : decode cX6_farOf 139 = .ok (.getfield 53, 3) := by decide +kernel
theorem dX6_farOf_142 : decode cX6_farOf 142 = .ok (.iload 8, 2) := by decide +kernel
theorem dX6_farOf_144 : decode cX6_farOf 144 = .ok (.iload 9, 2) := by decide +kernel
theorem dX6_farOf_146 : decode cX6_farOf 146 = .ok (.aload_n 0, 1) := by decide +kernel
theorem dX6_farOf_147 : decode cX6_farOf 147 = .ok (.getfield 53, 3) := by decide +kernel
theorem dX6_farOf_150 : decode cX6_farOf 150 = .ok (.iload 8, 2) := by decide +kernel
theorem dX6_farOf_152 : decode cX6_farOf 152 = .ok (.iaload, 1) := by decide +kernel
theorem dX6_farOf_153 : decode cX6_farOf 153 = .ok (.if_icmp .ge 8, 3) := by decide +kernel
theorem dX6_farOf_156 : decode cX6_farOf 156 = .ok (.iload 9, 2) := by decide +kernel
theorem dX6_farOf_158 : decode cX6_farOf 158 = .ok (.goto 10, 3) := by decide +kernel
theorem dX6_farOf_161 : decode cX6_farOf 161 = .ok (.aload_n 0, 1) := by decide +kernel
theorem dX6_farOf_162 : decode cX6_farOf 162 = .ok (.getfield 53, 3) := by decide +kernel
theorem dX6_farOf_165 : decode cX6_farOf 165 = .ok (.iload 8, 2) := by decide +kernel
theorem dX6_farOf_167 : decode cX6_farOf 167 = .ok (.iaload, 1) := by decide +kernel
theorem dX6_farOf_168 : decode cX6_farOf 168 = .ok (.iastore, 1) := by decide +kernel
theorem dX6_farOf_169 : decode cX6_farOf 169 = .ok (.iinc 6 1, 3) := by decide +kernel
theorem dX6_farOf_172 : decode cX6_farOf 172 = .ok (.goto (-107), 3) := by decide +kernel
theorem dX6_farOf_175 : decode cX6_farOf 175 = .ok (.iinc 5 1, 3) := by decide +kernel
theorem dX6_farOf_178 : decode cX6_farOf 178 = .ok (.goto (-123), 3) := by decide +kernel
theorem dX6_farOf_181 : decode cX6_farOf 181 = .ok (.aload_n 0, 1) := by decide +kernel
theorem dX6_farOf_182 : decode cX6_farOf 182 = .ok (.getfield 53, 3) := by decide +kernel
theorem dX6_farOf_185 : decode cX6_farOf 185 = .ok (.iload_n 2, 1) := by decide +kernel
theorem dX6_farOf_186 : decode cX6_farOf 186 = .ok (.iaload, 1) := by decide +kernel
theorem dX6_farOf_187 : decode cX6_farOf 187 = .ok (.ireturn, 1) := by decide +kernel
theorem dX6_way_0 : decode cX6_way 0 = .ok (.aload_n 0, 1) := by decide +kernel
theorem dX6_way_1 : decode cX6_way 1 = .ok (.iload_n 1, 1) := by decide +kernel
theorem dX6_way_2 : decode cX6_way 2 = .ok (.invokevirtual 193, 3) := by decide +kernel
theorem dX6_way_5 : decode cX6_way 5 = .ok (.ifCond .eq 21, 3) := by decide +kernel
theorem dX6_way_8 : decode cX6_way 8 = .ok (.aload_n 0, 1) := by decide +kernel
theorem dX6_way_9 : decode cX6_way 9 = .ok (.iload_n 2, 1) := by decide +kernel
theorem dX6_way_10 : decode cX6_way 10 = .ok (.invokevirtual 178, 3) := by decide +kernel
theorem dX6_way_13 : decode cX6_way 13 = .ok (.ifCond .eq 13, 3) := by decide +kernel
theorem dX6_way_16 : decode cX6_way 16 = .ok (.iload_n 3, 1) := by decide +kernel
theorem dX6_way_17 : decode cX6_way 17 = .ok (.i2l, 1) := by decide +kernel
theorem dX6_way_18 : decode cX6_way 18 = .ok (.lconst 0, 1) := by decide +kernel
theorem dX6_way_19 : decode cX6_way 19 = .ok (.lconst 1, 1) := by decide +kernel
theorem dX6_way_20 : decode cX6_way 20 = .ok (.invokestatic 82, 3) := by decide +kernel
theorem dX6_way_23 : decode cX6_way 23 = .ok (.ifCond .ne 5, 3) := by decide +kernel
theorem dX6_way_26 : decode cX6_way 26 = .ok (.iconst (-1), 1) := by decide +kernel
theorem dX6_way_27 : decode cX6_way 27 = .ok (.ireturn, 1) := by decide +kernel
theorem dX6_way_28 : decode cX6_way 28 = .ok (.aload_n 0, 1) := by decide +kernel
theorem dX6_way_29 : decode cX6_way 29 = .ok (.iload_n 1, 1) := by decide +kernel
theorem dX6_way_30 : decode cX6_way 30 = .ok (.iload_n 2, 1) := by decide +kernel
theorem dX6_way_31 : decode cX6_way 31 = .ok (.iload_n 3, 1) := by decide +kernel
theorem dX6_way_32 : decode cX6_way 32 = .ok (.iconst 1, 1) := by decide +kernel
theorem dX6_way_33 : decode cX6_way 33 = .ok (.if_icmp .ne 7, 3) := by decide +kernel
theorem dX6_way_36 : decode cX6_way 36 = .ok (.iconst 1, 1) := by decide +kernel
theorem dX6_way_37 : decode cX6_way 37 = .ok (.goto 4, 3) := by decide +kernel
theorem dX6_way_40 : decode cX6_way 40 = .ok (.iconst 0, 1) := by decide +kernel
theorem dX6_way_41 : decode cX6_way 41 = .ok (.invokevirtual 223, 3) := by decide +kernel
theorem dX6_way_44 : decode cX6_way 44 = .ok (.istore 4, 2) := by decide +kernel
theorem dX6_way_46 : decode cX6_way 46 = .ok (.iload 4, 2) := by decide +kernel
theorem dX6_way_48 : decode cX6_way 48 = .ok (.ldc 222, 2) := by decide +kernel
theorem dX6_way_50 : decode cX6_way 50 = .ok (.if_icmp .ge 8, 3) := by decide +kernel
theorem dX6_way_53 : decode cX6_way 53 = .ok (.iload 4, 2) := by decide +kernel
theorem dX6_way_55 : decode cX6_way 55 = .ok (.goto 5, 3) := by decide +kernel
theorem dX6_way_58 : decode cX6_way 58 = .ok (.bipush (-9), 2) := by decide +kernel
theorem dX6_way_60 : decode cX6_way 60 = .ok (.ireturn, 1) := by decide +kernel
theorem dX6_saves_0 : decode cX6_saves 0 = .ok (.aload_n 0, 1) := by decide +kernel
theorem dX6_saves_1 : decode cX6_saves 1 = .ok (.iload_n 1, 1) := by decide +kernel
theorem dX6_saves_2 : decode cX6_saves 2 = .ok (.invokevirtual 193, 3) := by decide +kernel
theorem dX6_saves_5 : decode cX6_saves 5 = .ok (.ifCond .eq 11, 3) := by decide +kernel
theorem dX6_saves_8 : decode cX6_saves 8 = .ok (.aload_n 0, 1) := by decide +kernel
theorem dX6_saves_9 : decode cX6_saves 9 = .ok (.iload_n 2, 1) := by decide +kernel
theorem dX6_saves_10 : decode cX6_saves 10 = .ok (.invokevirtual 178, 3) := by decide +kernel
theorem dX6_saves_13 : decode cX6_saves 13 = .ok (.ifCond .ne 5, 3) := by decide +kernel
theorem dX6_saves_16 : decode cX6_saves 16 = .ok (.iconst (-1), 1) := by decide +kernel
theorem dX6_saves_17 : decode cX6_saves 17 = .ok (.ireturn, 1) := by decide +kernel
theorem dX6_saves_18 : decode cX6_saves 18 = .ok (.aload_n 0, 1) := by decide +kernel
theorem dX6_saves_19 : decode cX6_saves 19 = .ok (.iload_n 1, 1) := by decide +kernel
theorem dX6_saves_20 : decode cX6_saves 20 = .ok (.iload_n 2, 1) := by decide +kernel
theorem dX6_saves_21 : decode cX6_saves 21 = .ok (.iconst 1, 1) := by decide +kernel
theorem dX6_saves_22 : decode cX6_saves 22 = .ok (.invokevirtual 223, 3) := by decide +kernel
theorem dX6_saves_25 : decode cX6_saves 25 = .ok (.istore_n 3, 1) := by decide +kernel
theorem dX6_saves_26 : decode cX6_saves 26 = .ok (.bipush (-9), 2) := by decide +kernel
theorem dX6_saves_28 : decode cX6_saves 28 = .ok (.istore 4, 2) := by decide +kernel
theorem dX6_saves_30 : decode cX6_saves 30 = .ok (.iconst 1, 1) := by decide +kernel
theorem dX6_saves_31 : decode cX6_saves 31 = .ok (.aload_n 0, 1) := by decide +kernel
theorem dX6_saves_32 : decode cX6_saves 32 = .ok (.getfield 23, 3) := by decide +kernel
theorem dX6_saves_35 : decode cX6_saves 35 = .ok (.iload_n 1, 1) := by decide +kernel
theorem dX6_saves_36 : decode cX6_saves 36 = .ok (.iaload, 1) := by decide +kernel
theorem dX6_saves_37 : decode cX6_saves 37 = .ok (.ishl, 1) := by decide +kernel
theorem dX6_saves_38 : decode cX6_saves 38 = .ok (.istore 5, 2) := by decide +kernel
theorem dX6_saves_40 : decode cX6_saves 40 = .ok (.iconst 0, 1) := by decide +kernel
theorem dX6_saves_41 : decode cX6_saves 41 = .ok (.istore 6, 2) := by decide +kernel
theorem dX6_saves_43 : decode cX6_saves 43 = .ok (.iload 6, 2) := by decide +kernel
theorem dX6_saves_45 : decode cX6_saves 45 = .ok (.bipush 36, 2) := by decide +kernel
theorem dX6_saves_47 : decode cX6_saves 47 = .ok (.if_icmp .ge 172, 3) := by decide +kernel
theorem dX6_saves_50 : decode cX6_saves 50 = .ok (.iload 6, 2) := by decide +kernel
theorem dX6_saves_52 : decode cX6_saves 52 = .ok (.bipush 6, 2) := by decide +kernel
theorem dX6_saves_54 : decode cX6_saves 54 = .ok (.irem, 1) := by decide +kernel
theorem dX6_saves_55 : decode cX6_saves 55 = .ok (.bipush 6, 2) := by decide +kernel
theorem dX6_saves_57 : decode cX6_saves 57 = .ok (.imul, 1) := by decide +kernel
theorem dX6_saves_58 : decode cX6_saves 58 = .ok (.iload 6, 2) := by decide +kernel
theorem dX6_saves_60 : decode cX6_saves 60 = .ok (.bipush 6, 2) := by decide +kernel
theorem dX6_saves_62 : decode cX6_saves 62 = .ok (.idiv, 1) := by decide +kernel
theorem dX6_saves_63 : decode cX6_saves 63 = .ok (.iadd, 1) := by decide +kernel
theorem dX6_saves_64 : decode cX6_saves 64 = .ok (.istore 7, 2) := by decide +kernel
theorem dX6_saves_66 : decode cX6_saves 66 = .ok (.iload 6, 2) := by decide +kernel
theorem dX6_saves_68 : decode cX6_saves 68 = .ok (.bipush 6, 2) := by decide +kernel
theorem dX6_saves_70 : decode cX6_saves 70 = .ok (.idiv, 1) := by decide +kernel
theorem dX6_saves_71 : decode cX6_saves 71 = .ok (.iload 6, 2) := by decide +kernel
theorem dX6_saves_73 : decode cX6_saves 73 = .ok (.bipush 6, 2) := by decide +kernel
theorem dX6_saves_75 : decode cX6_saves 75 = .ok (.irem, 1) := by decide +kernel
theorem dX6_saves_76 : decode cX6_saves 76 = .ok (.if_icmp .ge 137, 3) := by decide +kernel
theorem dX6_saves_79 : decode cX6_saves 79 = .ok (.aload_n 0, 1) := by decide +kernel
theorem dX6_saves_80 : decode cX6_saves 80 = .ok (.getfield 16, 3) := by decide +kernel
theorem dX6_saves_83 : decode cX6_saves 83 = .ok (.iload 6, 2) := by decide +kernel
theorem dX6_saves_85 : decode cX6_saves 85 = .ok (.baload, 1) := by decide +kernel
theorem dX6_saves_86 : decode cX6_saves 86 = .ok (.ifCond .eq 127, 3) := by decide +kernel
theorem dX6_saves_89 : decode cX6_saves 89 = .ok (.aload_n 0, 1) := by decide +kernel
theorem dX6_saves_90 : decode cX6_saves 90 = .ok (.getfield 20, 3) := by decide +kernel
theorem dX6_saves_93 : decode cX6_saves 93 = .ok (.iload 6, 2) := by decide +kernel
theorem dX6_saves_95 : decode cX6_saves 95 = .ok (.iaload, 1) := by decide +kernel
theorem dX6_saves_96 : decode cX6_saves 96 = .ok (.iload 5, 2) := by decide +kernel
theorem dX6_saves_98 : decode cX6_saves 98 = .ok (.iand, 1) := by decide +kernel
theorem dX6_saves_99 : decode cX6_saves 99 = .ok (.ifCond .ne 114, 3) := by decide +kernel
theorem dX6_saves_102 : decode cX6_saves 102 = .ok (.aload_n 0, 1) := by decide +kernel
theorem dX6_saves_103 : decode cX6_saves 103 = .ok (.getfield 20, 3) := by decide +kernel
theorem dX6_saves_106 : decode cX6_saves 106 = .ok (.iload 6, 2) := by decide +kernel
theorem dX6_saves_108 : decode cX6_saves 108 = .ok (.dup2, 1) := by decide +kernel
theorem dX6_saves_109 : decode cX6_saves 109 = .ok (.iaload, 1) := by decide +kernel
theorem dX6_saves_110 : decode cX6_saves 110 = .ok (.iload 5, 2) := by decide +kernel
theorem dX6_saves_112 : decode cX6_saves 112 = .ok (.ior, 1) := by decide +kernel
theorem dX6_saves_113 : decode cX6_saves 113 = .ok (.iastore, 1) := by decide +kernel
theorem dX6_saves_114 : decode cX6_saves 114 = .ok (.aload_n 0, 1) := by decide +kernel
theorem dX6_saves_115 : decode cX6_saves 115 = .ok (.getfield 20, 3) := by decide +kernel
theorem dX6_saves_118 : decode cX6_saves 118 = .ok (.iload 7, 2) := by decide +kernel
theorem dX6_saves_120 : decode cX6_saves 120 = .ok (.dup2, 1) := by decide +kernel
theorem dX6_saves_121 : decode cX6_saves 121 = .ok (.iaload, 1) := by decide +kernel
theorem dX6_saves_122 : decode cX6_saves 122 = .ok (.iload 5, 2) := by decide +kernel
theorem dX6_saves_124 : decode cX6_saves 124 = .ok (.ior, 1) := by decide +kernel
theorem dX6_saves_125 : decode cX6_saves 125 = .ok (.iastore, 1) := by decide +kernel
theorem dX6_saves_126 : decode cX6_saves 126 = .ok (.aload_n 0, 1) := by decide +kernel
theorem dX6_saves_127 : decode cX6_saves 127 = .ok (.iload_n 1, 1) := by decide +kernel
theorem dX6_saves_128 : decode cX6_saves 128 = .ok (.iload_n 2, 1) := by decide +kernel
theorem dX6_saves_129 : decode cX6_saves 129 = .ok (.iconst 1, 1) := by decide +kernel
theorem dX6_saves_130 : decode cX6_saves 130 = .ok (.invokevirtual 223, 3) := by decide +kernel
theorem dX6_saves_133 : decode cX6_saves 133 = .ok (.istore 8, 2) := by decide +kernel
theorem dX6_saves_135 : decode cX6_saves 135 = .ok (.aload_n 0, 1) := by decide +kernel
theorem dX6_saves_136 : decode cX6_saves 136 = .ok (.getfield 20, 3) := by decide +kernel
theorem dX6_saves_139 : decode cX6_saves 139 = .ok (.iload 6, 2) := by decide +kernel
theorem dX6_saves_141 : decode cX6_saves 141 = .ok (.dup2, 1) := by decide +kernel
theorem dX6_saves_142 : decode cX6_saves 142 = .ok (.iaload, 1) := by decide +kernel
theorem dX6_saves_143 : decode cX6_saves 143 = .ok (.iload 5, 2) := by decide +kernel
theorem dX6_saves_145 : decode cX6_saves 145 = .ok (.iconst (-1), 1) := by decide +kernel
theorem dX6_saves_146 : decode cX6_saves 146 = .ok (.ixor, 1) := by decide +kernel
theorem dX6_saves_147 : decode cX6_saves 147 = .ok (.iand, 1) := by decide +kernel
theorem dX6_saves_148 : decode cX6_saves 148 = .ok (.iastore, 1) := by decide +kernel
theorem dX6_saves_149 : decode cX6_saves 149 = .ok (.aload_n 0, 1) := by decide +kernel
theorem dX6_saves_150 : decode cX6_saves 150 = .ok (.getfield 20, 3) := by decide +kernel
theorem dX6_saves_153 : decode cX6_saves 153 = .ok (.iload 7, 2) := by decide +kernel
theorem dX6_saves_155 : decode cX6_saves 155 = .ok (.dup2, 1) := by decide +kernel
theorem dX6_saves_156 : decode cX6_saves 156 = .ok (.iaload, 1) := by decide +kernel
theorem dX6_saves_157 : decode cX6_saves 157 = .ok (.iload 5, 2) := by decide +kernel
theorem dX6_saves_159 : decode cX6_saves 159 = .ok (.iconst (-1), 1) := by decide +kernel
theorem dX6_saves_160 : decode cX6_saves 160 = .ok (.ixor, 1) := by decide +kernel
theorem dX6_saves_161 : decode cX6_saves 161 = .ok (.iand, 1) := by decide +kernel
theorem dX6_saves_162 : decode cX6_saves 162 = .ok (.iastore, 1) := by decide +kernel
theorem dX6_saves_163 : decode cX6_saves 163 = .ok (.iload 8, 2) := by decide +kernel
theorem dX6_saves_165 : decode cX6_saves 165 = .ok (.iload_n 3, 1) := by decide +kernel
theorem dX6_saves_166 : decode cX6_saves 166 = .ok (.if_icmp .ge 30, 3) := by decide +kernel
theorem dX6_saves_169 : decode cX6_saves 169 = .ok (.bipush 100, 2) := by decide +kernel
theorem dX6_saves_171 : decode cX6_saves 171 = .ok (.iload 6, 2) := by decide +kernel
theorem dX6_saves_173 : decode cX6_saves 173 = .ok (.bipush 6, 2) := by decide +kernel
theorem dX6_saves_175 : decode cX6_saves 175 = .ok (.idiv, 1) := by decide +kernel
theorem dX6_saves_176 : decode cX6_saves 176 = .ok (.imul, 1) := by decide +kernel
theorem dX6_saves_177 : decode cX6_saves 177 = .ok (.bipush 10, 2) := by decide +kernel
theorem dX6_saves_179 : decode cX6_saves 179 = .ok (.iload 6, 2) := by decide +kernel
theorem dX6_saves_181 : decode cX6_saves 181 = .ok (.bipush 6, 2) := by decide +kernel
theorem dX6_saves_183 : decode cX6_saves 183 = .ok (.irem, 1) := by decide +kernel
theorem dX6_saves_184 : decode cX6_saves 184 = .ok (.imul, 1) := by decide +kernel
theorem dX6_saves_185 : decode cX6_saves 185 = .ok (.iadd, 1) := by decide +kernel
theorem dX6_saves_186 : decode cX6_saves 186 = .ok (.aload_n 0, 1) := by decide +kernel
theorem dX6_saves_187 : decode cX6_saves 187 = .ok (.getfield 23, 3) := by decide +kernel
theorem dX6_saves_190 : decode cX6_saves 190 = .ok (.iload_n 1, 1) := by decide +kernel
theorem dX6_saves_191 : decode cX6_saves 191 = .ok (.iaload, 1) := by decide +kernel
theorem dX6_saves_192 : decode cX6_saves 192 = .ok (.iadd, 1) := by decide +kernel
theorem dX6_saves_193 : decode cX6_saves 193 = .ok (.goto 5, 3) := by decide +kernel
theorem dX6_saves_196 : decode cX6_saves 196 = .ok (.iload 4, 2) := by decide +kernel
theorem dX6_saves_198 : decode cX6_saves 198 = .ok (.istore 4, 2) := by decide +kernel
theorem dX6_saves_200 : decode cX6_saves 200 = .ok (.iload 8, 2) := by decide +kernel
theorem dX6_saves_202 : decode cX6_saves 202 = .ok (.iload_n 3, 1) := by decide +kernel
theorem dX6_saves_203 : decode cX6_saves 203 = .ok (.if_icmp .ge 8, 3) := by decide +kernel
theorem dX6_saves_206 : decode cX6_saves 206 = .ok (.iload 8, 2) := by decide +kernel
theorem dX6_saves_208 : decode cX6_saves 208 = .ok (.goto 4, 3) := by decide +kernel
theorem dX6_saves_211 : decode cX6_saves 211 = .ok (.iload_n 3, 1) := by decide +kernel
theorem dX6_saves_212 : decode cX6_saves 212 = .ok (.istore_n 3, 1) := by decide +kernel
theorem dX6_saves_213 : decode cX6_saves 213 = .ok (.iinc 6 1, 3) := by decide +kernel
theorem dX6_saves_216 : decode cX6_saves 216 = .ok (.goto (-173), 3) := by decide +kernel
theorem dX6_saves_219 : decode cX6_saves 219 = .ok (.iload 4, 2) := by decide +kernel
theorem dX6_saves_221 : decode cX6_saves 221 = .ok (.ireturn, 1) := by decide +kernel
theorem dX6_elsewhere_0 : decode cX6_elsewhere 0 = .ok (.iconst 0, 1) := by decide +kernel
theorem dX6_elsewhere_1 : decode cX6_elsewhere 1 = .ok (.istore_n 1, 1) := by decide +kernel
theorem dX6_elsewhere_2 : decode cX6_elsewhere 2 = .ok (.iconst 0, 1) := by decide +kernel
theorem dX6_elsewhere_3 : decode cX6_elsewhere 3 = .ok (.istore_n 2, 1) := by decide +kernel
theorem dX6_elsewhere_4 : decode cX6_elsewhere 4 = .ok (.iload_n 2, 1) := by decide +kernel
theorem dX6_elsewhere_5 : decode cX6_elsewhere 5 = .ok (.aload_n 0, 1) := by decide +kernel
theorem dX6_elsewhere_6 : decode cX6_elsewhere 6 = .ok (.getfield 86, 3) := by decide +kernel
theorem dX6_elsewhere_9 : decode cX6_elsewhere 9 = .ok (.if_icmp .ge 52, 3) := by decide +kernel
theorem dX6_elsewhere_12 : decode cX6_elsewhere 12 = .ok (.aload_n 0, 1) := by decide +kernel
theorem dX6_elsewhere_13 : decode cX6_elsewhere 13 = .ok (.getfield 62, 3) := by decide +kernel
theorem dX6_elsewhere_16 : decode cX6_elsewhere 16 = .ok (.iload_n 2, 1) := by decide +kernel
theorem dX6_elsewhere_17 : decode cX6_elsewhere 17 = .ok (.iaload, 1) := by decide +kernel
theorem dX6_elsewhere_18 : decode cX6_elsewhere 18 = .ok (.aload_n 0, 1) := by decide +kernel
theorem dX6_elsewhere_19 : decode cX6_elsewhere 19 = .ok (.getfield 56, 3) := by decide +kernel
theorem dX6_elsewhere_22 : decode cX6_elsewhere 22 = .ok (.iload_n 2, 1) := by decide +kernel
theorem dX6_elsewhere_23 : decode cX6_elsewhere 23 = .ok (.iaload, 1) := by decide +kernel
theorem dX6_elsewhere_24 : decode cX6_elsewhere 24 = .ok (.invokestatic 165, 3) := by decide +kernel
theorem dX6_elsewhere_27 : decode cX6_elsewhere 27 = .ok (.ifCond .ne 5, 3) := by decide +kernel
theorem dX6_elsewhere_30 : decode cX6_elsewhere 30 = .ok (.iconst (-1), 1) := by decide +kernel
theorem dX6_elsewhere_31 : decode cX6_elsewhere 31 = .ok (.ireturn, 1) := by decide +kernel
theorem dX6_elsewhere_32 : decode cX6_elsewhere 32 = .ok (.iload_n 1, 1) := by decide +kernel
theorem dX6_elsewhere_33 : decode cX6_elsewhere 33 = .ok (.aload_n 0, 1) := by decide +kernel
theorem dX6_elsewhere_34 : decode cX6_elsewhere 34 = .ok (.getfield 56, 3) := by decide +kernel
theorem dX6_elsewhere_37 : decode cX6_elsewhere 37 = .ok (.iload_n 2, 1) := by decide +kernel
theorem dX6_elsewhere_38 : decode cX6_elsewhere 38 = .ok (.iaload, 1) := by decide +kernel
theorem dX6_elsewhere_39 : decode cX6_elsewhere 39 = .ok (.aload_n 0, 1) := by decide +kernel
theorem dX6_elsewhere_40 : decode cX6_elsewhere 40 = .ok (.getfield 32, 3) := by decide +kernel
theorem dX6_elsewhere_43 : decode cX6_elsewhere 43 = .ok (.iload_n 2, 1) := by decide +kernel
theorem dX6_elsewhere_44 : decode cX6_elsewhere 44 = .ok (.iaload, 1) := by decide +kernel
theorem dX6_elsewhere_45 : decode cX6_elsewhere 45 = .ok (.if_icmp .ne 7, 3) := by decide +kernel
theorem dX6_elsewhere_48 : decode cX6_elsewhere 48 = .ok (.iconst 0, 1) := by decide +kernel
theorem dX6_elsewhere_49 : decode cX6_elsewhere 49 = .ok (.goto 4, 3) := by decide +kernel
theorem dX6_elsewhere_52 : decode cX6_elsewhere 52 = .ok (.iconst 1, 1) := by decide +kernel
theorem dX6_elsewhere_53 : decode cX6_elsewhere 53 = .ok (.iadd, 1) := by decide +kernel
theorem dX6_elsewhere_54 : decode cX6_elsewhere 54 = .ok (.istore_n 1, 1) := by decide +kernel
theorem dX6_elsewhere_55 : decode cX6_elsewhere 55 = .ok (.iinc 2 1, 3) := by decide +kernel
theorem dX6_elsewhere_58 : decode cX6_elsewhere 58 = .ok (.goto (-54), 3) := by decide +kernel
theorem dX6_elsewhere_61 : decode cX6_elsewhere 61 = .ok (.iconst 0, 1) := by decide +kernel
theorem dX6_elsewhere_62 : decode cX6_elsewhere 62 = .ok (.istore_n 2, 1) := by decide +kernel
theorem dX6_elsewhere_63 : decode cX6_elsewhere 63 = .ok (.iload_n 2, 1) := by decide +kernel
theorem dX6_elsewhere_64 : decode cX6_elsewhere 64 = .ok (.aload_n 0, 1) := by decide +kernel
theorem dX6_elsewhere_65 : decode cX6_elsewhere 65 = .ok (.getfield 78, 3) := by decide +kernel
theorem dX6_elsewhere_68 : decode cX6_elsewhere 68 = .ok (.if_icmp .ge 69, 3) := by decide +kernel
theorem dX6_elsewhere_71 : decode cX6_elsewhere 71 = .ok (.iconst 0, 1) := by decide +kernel
theorem dX6_elsewhere_72 : decode cX6_elsewhere 72 = .ok (.istore_n 3, 1) := by decide +kernel
theorem dX6_elsewhere_73 : decode cX6_elsewhere 73 = .ok (.iconst 0, 1) := by decide +kernel
theorem dX6_elsewhere_74 : decode cX6_elsewhere 74 = .ok (.istore 4, 2) := by decide +kernel
theorem dX6_elsewhere_76 : decode cX6_elsewhere 76 = .ok (.iload 4, 2) := by decide +kernel
theorem dX6_elsewhere_78 : decode cX6_elsewhere 78 = .ok (.aload_n 0, 1) := by decide +kernel
theorem dX6_elsewhere_79 : decode cX6_elsewhere 79 = .ok (.getfield 86, 3) := by decide +kernel
theorem dX6_elsewhere_82 : decode cX6_elsewhere 82 = .ok (.if_icmp .ge 34, 3) := by decide +kernel
theorem dX6_elsewhere_85 : decode cX6_elsewhere 85 = .ok (.iload_n 3, 1) := by decide +kernel
theorem dX6_elsewhere_86 : decode cX6_elsewhere 86 = .ok (.aload_n 0, 1) := by decide +kernel
theorem dX6_elsewhere_87 : decode cX6_elsewhere 87 = .ok (.getfield 56, 3) := by decide +kernel
theorem dX6_elsewhere_90 : decode cX6_elsewhere 90 = .ok (.iload 4, 2) := by decide +kernel
theorem dX6_elsewhere_92 : decode cX6_elsewhere 92 = .ok (.iaload, 1) := by decide +kernel
theorem dX6_elsewhere_93 : decode cX6_elsewhere 93 = .ok (.iload_n 2, 1) := by decide +kernel
theorem dX6_elsewhere_94 : decode cX6_elsewhere 94 = .ok (.if_icmp .ne 13, 3) := by decide +kernel
theorem dX6_elsewhere_97 : decode cX6_elsewhere 97 = .ok (.aload_n 0, 1) := by decide +kernel
theorem dX6_elsewhere_98 : decode cX6_elsewhere 98 = .ok (.getfield 26, 3) := by decide +kernel
theorem dX6_elsewhere_101 : decode cX6_elsewhere 101 = .ok (.iload 4, 2) := by decide +kernel
theorem dX6_elsewhere_103 : decode cX6_elsewhere 103 = .ok (.iaload, 1) := by decide +kernel
theorem dX6_elsewhere_104 : decode cX6_elsewhere 104 = .ok (.goto 4, 3) := by decide +kernel
theorem dX6_elsewhere_107 : decode cX6_elsewhere 107 = .ok (.iconst 0, 1) := by decide +kernel
theorem dX6_elsewhere_108 : decode cX6_elsewhere 108 = .ok (.iadd, 1) := by decide +kernel
theorem dX6_elsewhere_109 : decode cX6_elsewhere 109 = .ok (.istore_n 3, 1) := by decide +kernel
theorem dX6_elsewhere_110 : decode cX6_elsewhere 110 = .ok (.iinc 4 1, 3) := by decide +kernel
theorem dX6_elsewhere_113 : decode cX6_elsewhere 113 = .ok (.goto (-37), 3) := by decide +kernel
theorem dX6_elsewhere_116 : decode cX6_elsewhere 116 = .ok (.iload_n 3, 1) := by decide +kernel
theorem dX6_elsewhere_117 : decode cX6_elsewhere 117 = .ok (.aload_n 0, 1) := by decide +kernel
theorem dX6_elsewhere_118 : decode cX6_elsewhere 118 = .ok (.getfield 13, 3) := by decide +kernel
theorem dX6_elsewhere_121 : decode cX6_elsewhere 121 = .ok (.bipush 8, 2) := by decide +kernel
theorem dX6_elsewhere_123 : decode cX6_elsewhere 123 = .ok (.iload_n 2, 1) := by decide +kernel
theorem dX6_elsewhere_124 : decode cX6_elsewhere 124 = .ok (.imul, 1) := by decide +kernel
theorem dX6_elsewhere_125 : decode cX6_elsewhere 125 = .ok (.iaload, 1) := by decide +kernel
end
section
theorem dX6_elsewhere_126 : decode cX6_elsewhere 126 = .ok (.if_icmp .le 5, 3) := by decide +kernel
theorem dX6_elsewhere_129 : decode cX6_elsewhere 129 = .ok (.iconst (-1), 1) := by decide +kernel
theorem dX6_elsewhere_130 : decode cX6_elsewhere 130 = .ok (.ireturn, 1) := by decide +kernel
theorem dX6_elsewhere_131 : decode cX6_elsewhere 131 = .ok (.iinc 2 1, 3) := by decide +kernel
theorem dX6_elsewhere_134 : decode cX6_elsewhere 134 = .ok (.goto (-71), 3) := by decide +kernel
theorem dX6_elsewhere_137 : decode cX6_elsewhere 137 = .ok (.iload_n 1, 1) := by decide +kernel
theorem dX6_elsewhere_138 : decode cX6_elsewhere 138 = .ok (.ireturn, 1) := by decide +kernel
theorem dX6_stow_0 : decode cX6_stow 0 = .ok (.iload_n 1, 1) := by decide +kernel
theorem dX6_stow_1 : decode cX6_stow 1 = .ok (.i2l, 1) := by decide +kernel
theorem dX6_stow_2 : decode cX6_stow 2 = .ok (.ldc2_w 227, 3) := by decide +kernel
theorem dX6_stow_5 : decode cX6_stow 5 = .ok (.aload_n 0, 1) := by decide +kernel
theorem dX6_stow_6 : decode cX6_stow 6 = .ok (.getfield 86, 3) := by decide +kernel
theorem dX6_stow_9 : decode cX6_stow 9 = .ok (.iconst 1, 1) := by decide +kernel
theorem dX6_stow_10 : decode cX6_stow 10 = .ok (.isub, 1) := by decide +kernel
theorem dX6_stow_11 : decode cX6_stow 11 = .ok (.i2l, 1) := by decide +kernel
theorem dX6_stow_12 : decode cX6_stow 12 = .ok (.invokestatic 82, 3) := by decide +kernel
theorem dX6_stow_15 : decode cX6_stow 15 = .ok (.ifCond .ne 5, 3) := by decide +kernel
theorem dX6_stow_18 : decode cX6_stow 18 = .ok (.iconst (-1), 1) := by decide +kernel
theorem dX6_stow_19 : decode cX6_stow 19 = .ok (.ireturn, 1) := by decide +kernel
theorem dX6_stow_20 : decode cX6_stow 20 = .ok (.iconst 1, 1) := by decide +kernel
theorem dX6_stow_21 : decode cX6_stow 21 = .ok (.istore_n 2, 1) := by decide +kernel
theorem dX6_stow_22 : decode cX6_stow 22 = .ok (.iconst 0, 1) := by decide +kernel
theorem dX6_stow_23 : decode cX6_stow 23 = .ok (.istore_n 3, 1) := by decide +kernel
theorem dX6_stow_24 : decode cX6_stow 24 = .ok (.iload_n 3, 1) := by decide +kernel
theorem dX6_stow_25 : decode cX6_stow 25 = .ok (.aload_n 0, 1) := by decide +kernel
theorem dX6_stow_26 : decode cX6_stow 26 = .ok (.getfield 86, 3) := by decide +kernel
theorem dX6_stow_29 : decode cX6_stow 29 = .ok (.if_icmp .ge 32, 3) := by decide +kernel
theorem dX6_stow_32 : decode cX6_stow 32 = .ok (.iload_n 2, 1) := by decide +kernel
theorem dX6_stow_33 : decode cX6_stow 33 = .ok (.aload_n 0, 1) := by decide +kernel
theorem dX6_stow_34 : decode cX6_stow 34 = .ok (.getfield 78, 3) := by decide +kernel
theorem dX6_stow_37 : decode cX6_stow 37 = .ok (.imul, 1) := by decide +kernel
theorem dX6_stow_38 : decode cX6_stow 38 = .ok (.istore_n 2, 1) := by decide +kernel
theorem dX6_stow_39 : decode cX6_stow 39 = .ok (.aload_n 0, 1) := by decide +kernel
theorem dX6_stow_40 : decode cX6_stow 40 = .ok (.getfield 62, 3) := by decide +kernel
theorem dX6_stow_43 : decode cX6_stow 43 = .ok (.iload_n 3, 1) := by decide +kernel
theorem dX6_stow_44 : decode cX6_stow 44 = .ok (.aload_n 0, 1) := by decide +kernel
theorem dX6_stow_45 : decode cX6_stow 45 = .ok (.aload_n 0, 1) := by decide +kernel
theorem dX6_stow_46 : decode cX6_stow 46 = .ok (.getfield 23, 3) := by decide +kernel
theorem dX6_stow_49 : decode cX6_stow 49 = .ok (.iload_n 3, 1) := by decide +kernel
theorem dX6_stow_50 : decode cX6_stow 50 = .ok (.iaload, 1) := by decide +kernel
theorem dX6_stow_51 : decode cX6_stow 51 = .ok (.invokevirtual 190, 3) := by decide +kernel
theorem dX6_stow_54 : decode cX6_stow 54 = .ok (.iastore, 1) := by decide +kernel
theorem dX6_stow_55 : decode cX6_stow 55 = .ok (.iinc 3 1, 3) := by decide +kernel
theorem dX6_stow_58 : decode cX6_stow 58 = .ok (.goto (-34), 3) := by decide +kernel
theorem dX6_stow_61 : decode cX6_stow 61 = .ok (.ldc 222, 2) := by decide +kernel
theorem dX6_stow_63 : decode cX6_stow 63 = .ok (.istore_n 3, 1) := by decide +kernel
theorem dX6_stow_64 : decode cX6_stow 64 = .ok (.iconst 0, 1) := by decide +kernel
theorem dX6_stow_65 : decode cX6_stow 65 = .ok (.istore 4, 2) := by decide +kernel
theorem dX6_stow_67 : decode cX6_stow 67 = .ok (.iload 4, 2) := by decide +kernel
theorem dX6_stow_69 : decode cX6_stow 69 = .ok (.iload_n 2, 1) := by decide +kernel
theorem dX6_stow_70 : decode cX6_stow 70 = .ok (.if_icmp .ge 107, 3) := by decide +kernel
theorem dX6_stow_73 : decode cX6_stow 73 = .ok (.iload 4, 2) := by decide +kernel
theorem dX6_stow_75 : decode cX6_stow 75 = .ok (.istore 5, 2) := by decide +kernel
theorem dX6_stow_77 : decode cX6_stow 77 = .ok (.aload_n 0, 1) := by decide +kernel
theorem dX6_stow_78 : decode cX6_stow 78 = .ok (.getfield 86, 3) := by decide +kernel
theorem dX6_stow_81 : decode cX6_stow 81 = .ok (.iconst 1, 1) := by decide +kernel
theorem dX6_stow_82 : decode cX6_stow 82 = .ok (.isub, 1) := by decide +kernel
theorem dX6_stow_83 : decode cX6_stow 83 = .ok (.istore 6, 2) := by decide +kernel
theorem dX6_stow_85 : decode cX6_stow 85 = .ok (.iload 6, 2) := by decide +kernel
theorem dX6_stow_87 : decode cX6_stow 87 = .ok (.ifCond .lt 32, 3) := by decide +kernel
theorem dX6_stow_90 : decode cX6_stow 90 = .ok (.aload_n 0, 1) := by decide +kernel
theorem dX6_stow_91 : decode cX6_stow 91 = .ok (.getfield 56, 3) := by decide +kernel
theorem dX6_stow_94 : decode cX6_stow 94 = .ok (.iload 6, 2) := by decide +kernel
theorem dX6_stow_96 : decode cX6_stow 96 = .ok (.iload 5, 2) := by decide +kernel
theorem dX6_stow_98 : decode cX6_stow 98 = .ok (.aload_n 0, 1) := by decide +kernel
theorem dX6_stow_99 : decode cX6_stow 99 = .ok (.getfield 78, 3) := by decide +kernel
theorem dX6_stow_102 : decode cX6_stow 102 = .ok (.irem, 1) := by decide +kernel
theorem dX6_stow_103 : decode cX6_stow 103 = .ok (.iastore, 1) := by decide +kernel
theorem dX6_stow_104 : decode cX6_stow 104 = .ok (.iload 5, 2) := by decide +kernel
theorem dX6_stow_106 : decode cX6_stow 106 = .ok (.aload_n 0, 1) := by decide +kernel
theorem dX6_stow_107 : decode cX6_stow 107 = .ok (.getfield 78, 3) := by decide +kernel
theorem dX6_stow_110 : decode cX6_stow 110 = .ok (.idiv, 1) := by decide +kernel
theorem dX6_stow_111 : decode cX6_stow 111 = .ok (.istore 5, 2) := by decide +kernel
theorem dX6_stow_113 : decode cX6_stow 113 = .ok (.iinc 6 (-1), 3) := by decide +kernel
theorem dX6_stow_116 : decode cX6_stow 116 = .ok (.goto (-31), 3) := by decide +kernel
theorem dX6_stow_119 : decode cX6_stow 119 = .ok (.aload_n 0, 1) := by decide +kernel
theorem dX6_stow_120 : decode cX6_stow 120 = .ok (.invokevirtual 229, 3) := by decide +kernel
theorem dX6_stow_123 : decode cX6_stow 123 = .ok (.istore 6, 2) := by decide +kernel
theorem dX6_stow_125 : decode cX6_stow 125 = .ok (.iload 6, 2) := by decide +kernel
theorem dX6_stow_127 : decode cX6_stow 127 = .ok (.ifCond .lt 44, 3) := by decide +kernel
theorem dX6_stow_130 : decode cX6_stow 130 = .ok (.iload 6, 2) := by decide +kernel
theorem dX6_stow_132 : decode cX6_stow 132 = .ok (.iload_n 3, 1) := by decide +kernel
theorem dX6_stow_133 : decode cX6_stow 133 = .ok (.if_icmp .ge 38, 3) := by decide +kernel
theorem dX6_stow_136 : decode cX6_stow 136 = .ok (.iload 6, 2) := by decide +kernel
theorem dX6_stow_138 : decode cX6_stow 138 = .ok (.istore_n 3, 1) := by decide +kernel
theorem dX6_stow_139 : decode cX6_stow 139 = .ok (.iconst 0, 1) := by decide +kernel
theorem dX6_stow_140 : decode cX6_stow 140 = .ok (.istore 7, 2) := by decide +kernel
theorem dX6_stow_142 : decode cX6_stow 142 = .ok (.iload 7, 2) := by decide +kernel
theorem dX6_stow_144 : decode cX6_stow 144 = .ok (.aload_n 0, 1) := by decide +kernel
theorem dX6_stow_145 : decode cX6_stow 145 = .ok (.getfield 86, 3) := by decide +kernel
theorem dX6_stow_148 : decode cX6_stow 148 = .ok (.if_icmp .ge 23, 3) := by decide +kernel
theorem dX6_stow_151 : decode cX6_stow 151 = .ok (.aload_n 0, 1) := by decide +kernel
theorem dX6_stow_152 : decode cX6_stow 152 = .ok (.getfield 59, 3) := by decide +kernel
theorem dX6_stow_155 : decode cX6_stow 155 = .ok (.iload 7, 2) := by decide +kernel
theorem dX6_stow_157 : decode cX6_stow 157 = .ok (.aload_n 0, 1) := by decide +kernel
theorem dX6_stow_158 : decode cX6_stow 158 = .ok (.getfield 56, 3) := by decide +kernel
theorem dX6_stow_161 : decode cX6_stow 161 = .ok (.iload 7, 2) := by decide +kernel
theorem dX6_stow_163 : decode cX6_stow 163 = .ok (.iaload, 1) := by decide +kernel
theorem dX6_stow_164 : decode cX6_stow 164 = .ok (.iastore, 1) := by decide +kernel
theorem dX6_stow_165 : decode cX6_stow 165 = .ok (.iinc 7 1, 3) := by decide +kernel
theorem dX6_stow_168 : decode cX6_stow 168 = .ok (.goto (-26), 3) := by decide +kernel
theorem dX6_stow_171 : decode cX6_stow 171 = .ok (.iinc 4 1, 3) := by decide +kernel
theorem dX6_stow_174 : decode cX6_stow 174 = .ok (.goto (-107), 3) := by decide +kernel
theorem dX6_stow_177 : decode cX6_stow 177 = .ok (.iload_n 3, 1) := by decide +kernel
theorem dX6_stow_178 : decode cX6_stow 178 = .ok (.ldc 222, 2) := by decide +kernel
theorem dX6_stow_180 : decode cX6_stow 180 = .ok (.if_icmp .ne 8, 3) := by decide +kernel
theorem dX6_stow_183 : decode cX6_stow 183 = .ok (.bipush (-9), 2) := by decide +kernel
theorem dX6_stow_185 : decode cX6_stow 185 = .ok (.goto 17, 3) := by decide +kernel
theorem dX6_stow_188 : decode cX6_stow 188 = .ok (.iload_n 1, 1) := by decide +kernel
theorem dX6_stow_189 : decode cX6_stow 189 = .ok (.ifCond .ge 7, 3) := by decide +kernel
theorem dX6_stow_192 : decode cX6_stow 192 = .ok (.iload_n 3, 1) := by decide +kernel
theorem dX6_stow_193 : decode cX6_stow 193 = .ok (.goto 9, 3) := by decide +kernel
theorem dX6_stow_196 : decode cX6_stow 196 = .ok (.aload_n 0, 1) := by decide +kernel
theorem dX6_stow_197 : decode cX6_stow 197 = .ok (.getfield 59, 3) := by decide +kernel
theorem dX6_stow_200 : decode cX6_stow 200 = .ok (.iload_n 1, 1) := by decide +kernel
theorem dX6_stow_201 : decode cX6_stow 201 = .ok (.iaload, 1) := by decide +kernel
theorem dX6_stow_202 : decode cX6_stow 202 = .ok (.ireturn, 1) := by decide +kernel
theorem dX6_hoard_0 : decode cX6_hoard 0 = .ok (.aload_n 0, 1) := by decide +kernel
theorem dX6_hoard_1 : decode cX6_hoard 1 = .ok (.iload_n 1, 1) := by decide +kernel
theorem dX6_hoard_2 : decode cX6_hoard 2 = .ok (.invokevirtual 178, 3) := by decide +kernel
theorem dX6_hoard_5 : decode cX6_hoard 5 = .ok (.ifCond .ne 5, 3) := by decide +kernel
theorem dX6_hoard_8 : decode cX6_hoard 8 = .ok (.iconst (-1), 1) := by decide +kernel
theorem dX6_hoard_9 : decode cX6_hoard 9 = .ok (.ireturn, 1) := by decide +kernel
theorem dX6_hoard_10 : decode cX6_hoard 10 = .ok (.iconst 0, 1) := by decide +kernel
theorem dX6_hoard_11 : decode cX6_hoard 11 = .ok (.istore_n 2, 1) := by decide +kernel
theorem dX6_hoard_12 : decode cX6_hoard 12 = .ok (.iconst 0, 1) := by decide +kernel
theorem dX6_hoard_13 : decode cX6_hoard 13 = .ok (.istore_n 3, 1) := by decide +kernel
theorem dX6_hoard_14 : decode cX6_hoard 14 = .ok (.iload_n 3, 1) := by decide +kernel
theorem dX6_hoard_15 : decode cX6_hoard 15 = .ok (.iconst 1, 1) := by decide +kernel
theorem dX6_hoard_16 : decode cX6_hoard 16 = .ok (.aload_n 0, 1) := by decide +kernel
theorem dX6_hoard_17 : decode cX6_hoard 17 = .ok (.getfield 86, 3) := by decide +kernel
theorem dX6_hoard_20 : decode cX6_hoard 20 = .ok (.ishl, 1) := by decide +kernel
theorem dX6_hoard_21 : decode cX6_hoard 21 = .ok (.if_icmp .ge 134, 3) := by decide +kernel
theorem dX6_hoard_24 : decode cX6_hoard 24 = .ok (.iconst 0, 1) := by decide +kernel
theorem dX6_hoard_25 : decode cX6_hoard 25 = .ok (.istore 4, 2) := by decide +kernel
theorem dX6_hoard_27 : decode cX6_hoard 27 = .ok (.iconst 0, 1) := by decide +kernel
theorem dX6_hoard_28 : decode cX6_hoard 28 = .ok (.istore 5, 2) := by decide +kernel
theorem dX6_hoard_30 : decode cX6_hoard 30 = .ok (.iconst 0, 1) := by decide +kernel
theorem dX6_hoard_31 : decode cX6_hoard 31 = .ok (.istore 6, 2) := by decide +kernel
theorem dX6_hoard_33 : decode cX6_hoard 33 = .ok (.iload 6, 2) := by decide +kernel
theorem dX6_hoard_35 : decode cX6_hoard 35 = .ok (.aload_n 0, 1) := by decide +kernel
theorem dX6_hoard_36 : decode cX6_hoard 36 = .ok (.getfield 86, 3) := by decide +kernel
theorem dX6_hoard_39 : decode cX6_hoard 39 = .ok (.if_icmp .ge 83, 3) := by decide +kernel
theorem dX6_hoard_42 : decode cX6_hoard 42 = .ok (.iload_n 3, 1) := by decide +kernel
theorem dX6_hoard_43 : decode cX6_hoard 43 = .ok (.iload 6, 2) := by decide +kernel
theorem dX6_hoard_45 : decode cX6_hoard 45 = .ok (.invokestatic 165, 3) := by decide +kernel
theorem dX6_hoard_48 : decode cX6_hoard 48 = .ok (.istore 7, 2) := by decide +kernel
theorem dX6_hoard_50 : decode cX6_hoard 50 = .ok (.iload 4, 2) := by decide +kernel
theorem dX6_hoard_52 : decode cX6_hoard 52 = .ok (.iload 7, 2) := by decide +kernel
theorem dX6_hoard_54 : decode cX6_hoard 54 = .ok (.ifCond .ne 7, 3) := by decide +kernel
theorem dX6_hoard_57 : decode cX6_hoard 57 = .ok (.iconst 0, 1) := by decide +kernel
theorem dX6_hoard_58 : decode cX6_hoard 58 = .ok (.goto 34, 3) := by decide +kernel
theorem dX6_hoard_61 : decode cX6_hoard 61 = .ok (.aload_n 0, 1) := by decide +kernel
theorem dX6_hoard_62 : decode cX6_hoard 62 = .ok (.aload_n 0, 1) := by decide +kernel
theorem dX6_hoard_63 : decode cX6_hoard 63 = .ok (.getfield 23, 3) := by decide +kernel
theorem dX6_hoard_66 : decode cX6_hoard 66 = .ok (.iload 6, 2) := by decide +kernel
theorem dX6_hoard_68 : decode cX6_hoard 68 = .ok (.iaload, 1) := by decide +kernel
theorem dX6_hoard_69 : decode cX6_hoard 69 = .ok (.invokevirtual 190, 3) := by decide +kernel
theorem dX6_hoard_72 : decode cX6_hoard 72 = .ok (.iload_n 1, 1) := by decide +kernel
theorem dX6_hoard_73 : decode cX6_hoard 73 = .ok (.invokestatic 165, 3) := by decide +kernel
theorem dX6_hoard_76 : decode cX6_hoard 76 = .ok (.ifCond .eq 13, 3) := by decide +kernel
theorem dX6_hoard_79 : decode cX6_hoard 79 = .ok (.aload_n 0, 1) := by decide +kernel
theorem dX6_hoard_80 : decode cX6_hoard 80 = .ok (.getfield 26, 3) := by decide +kernel
theorem dX6_hoard_83 : decode cX6_hoard 83 = .ok (.iload 6, 2) := by decide +kernel
theorem dX6_hoard_85 : decode cX6_hoard 85 = .ok (.iaload, 1) := by decide +kernel
theorem dX6_hoard_86 : decode cX6_hoard 86 = .ok (.goto 6, 3) := by decide +kernel
theorem dX6_hoard_89 : decode cX6_hoard 89 = .ok (.sipush 200, 3) := by decide +kernel
theorem dX6_hoard_92 : decode cX6_hoard 92 = .ok (.iadd, 1) := by decide +kernel
theorem dX6_hoard_93 : decode cX6_hoard 93 = .ok (.istore 4, 2) := by decide +kernel
theorem dX6_hoard_95 : decode cX6_hoard 95 = .ok (.iload 5, 2) := by decide +kernel
theorem dX6_hoard_97 : decode cX6_hoard 97 = .ok (.iload 7, 2) := by decide +kernel
theorem dX6_hoard_99 : decode cX6_hoard 99 = .ok (.ifCond .eq 13, 3) := by decide +kernel
theorem dX6_hoard_102 : decode cX6_hoard 102 = .ok (.aload_n 0, 1) := by decide +kernel
theorem dX6_hoard_103 : decode cX6_hoard 103 = .ok (.getfield 29, 3) := by decide +kernel
theorem dX6_hoard_106 : decode cX6_hoard 106 = .ok (.iload 6, 2) := by decide +kernel
theorem dX6_hoard_108 : decode cX6_hoard 108 = .ok (.iaload, 1) := by decide +kernel
theorem dX6_hoard_109 : decode cX6_hoard 109 = .ok (.goto 4, 3) := by decide +kernel
theorem dX6_hoard_112 : decode cX6_hoard 112 = .ok (.iconst 0, 1) := by decide +kernel
theorem dX6_hoard_113 : decode cX6_hoard 113 = .ok (.iadd, 1) := by decide +kernel
theorem dX6_hoard_114 : decode cX6_hoard 114 = .ok (.istore 5, 2) := by decide +kernel
theorem dX6_hoard_116 : decode cX6_hoard 116 = .ok (.iinc 6 1, 3) := by decide +kernel
theorem dX6_hoard_119 : decode cX6_hoard 119 = .ok (.goto (-86), 3) := by decide +kernel
theorem dX6_hoard_122 : decode cX6_hoard 122 = .ok (.iload 4, 2) := by decide +kernel
theorem dX6_hoard_124 : decode cX6_hoard 124 = .ok (.aload_n 0, 1) := by decide +kernel
theorem dX6_hoard_125 : decode cX6_hoard 125 = .ok (.getfield 13, 3) := by decide +kernel
theorem dX6_hoard_128 : decode cX6_hoard 128 = .ok (.bipush 8, 2) := by decide +kernel
theorem dX6_hoard_130 : decode cX6_hoard 130 = .ok (.iload_n 1, 1) := by decide +kernel
theorem dX6_hoard_131 : decode cX6_hoard 131 = .ok (.imul, 1) := by decide +kernel
theorem dX6_hoard_132 : decode cX6_hoard 132 = .ok (.iaload, 1) := by decide +kernel
theorem dX6_hoard_133 : decode cX6_hoard 133 = .ok (.if_icmp .gt 14, 3) := by decide +kernel
theorem dX6_hoard_136 : decode cX6_hoard 136 = .ok (.iload 5, 2) := by decide +kernel
theorem dX6_hoard_138 : decode cX6_hoard 138 = .ok (.iload_n 2, 1) := by decide +kernel
theorem dX6_hoard_139 : decode cX6_hoard 139 = .ok (.if_icmp .le 8, 3) := by decide +kernel
theorem dX6_hoard_142 : decode cX6_hoard 142 = .ok (.iload 5, 2) := by decide +kernel
theorem dX6_hoard_144 : decode cX6_hoard 144 = .ok (.goto 4, 3) := by decide +kernel
theorem dX6_hoard_147 : decode cX6_hoard 147 = .ok (.iload_n 2, 1) := by decide +kernel
theorem dX6_hoard_148 : decode cX6_hoard 148 = .ok (.istore_n 2, 1) := by decide +kernel
theorem dX6_hoard_149 : decode cX6_hoard 149 = .ok (.iinc 3 1, 3) := by decide +kernel
theorem dX6_hoard_152 : decode cX6_hoard 152 = .ok (.goto (-138), 3) := by decide +kernel
theorem dX6_hoard_155 : decode cX6_hoard 155 = .ok (.iload_n 2, 1) := by decide +kernel
theorem dX6_hoard_156 : decode cX6_hoard 156 = .ok (.ireturn, 1) := by decide +kernel
theorem dX6_dropsFrom_0 : decode cX6_dropsFrom 0 = .ok (.iload_n 1, 1) := by decide +kernel
theorem dX6_dropsFrom_1 : decode cX6_dropsFrom 1 = .ok (.istore 4, 2) := by decide +kernel
theorem dX6_dropsFrom_3 : decode cX6_dropsFrom 3 = .ok (.iconst 0, 1) := by decide +kernel
theorem dX6_dropsFrom_4 : decode cX6_dropsFrom 4 = .ok (.istore 5, 2) := by decide +kernel
theorem dX6_dropsFrom_6 : decode cX6_dropsFrom 6 = .ok (.iload 5, 2) := by decide +kernel
theorem dX6_dropsFrom_8 : decode cX6_dropsFrom 8 = .ok (.iload_n 3, 1) := by decide +kernel
theorem dX6_dropsFrom_9 : decode cX6_dropsFrom 9 = .ok (.if_icmp .ge 18, 3) := by decide +kernel
theorem dX6_dropsFrom_12 : decode cX6_dropsFrom 12 = .ok (.aload_n 0, 1) := by decide +kernel
theorem dX6_dropsFrom_13 : decode cX6_dropsFrom 13 = .ok (.iload 4, 2) := by decide +kernel
theorem dX6_dropsFrom_15 : decode cX6_dropsFrom 15 = .ok (.iload_n 2, 1) := by decide +kernel
theorem dX6_dropsFrom_16 : decode cX6_dropsFrom 16 = .ok (.invokevirtual 218, 3) := by decide +kernel
theorem dX6_dropsFrom_19 : decode cX6_dropsFrom 19 = .ok (.istore 4, 2) := by decide +kernel
theorem dX6_dropsFrom_21 : decode cX6_dropsFrom 21 = .ok (.iinc 5 1, 3) := by decide +kernel
theorem dX6_dropsFrom_24 : decode cX6_dropsFrom 24 = .ok (.goto (-18), 3) := by decide +kernel
theorem dX6_dropsFrom_27 : decode cX6_dropsFrom 27 = .ok (.iload 4, 2) := by decide +kernel
theorem dX6_dropsFrom_29 : decode cX6_dropsFrom 29 = .ok (.ireturn, 1) := by decide +kernel
theorem dX6_drops_0 : decode cX6_drops 0 = .ok (.aload_n 0, 1) := by decide +kernel
theorem dX6_drops_1 : decode cX6_drops 1 = .ok (.iload_n 1, 1) := by decide +kernel
theorem dX6_drops_2 : decode cX6_drops 2 = .ok (.invokevirtual 193, 3) := by decide +kernel
theorem dX6_drops_5 : decode cX6_drops 5 = .ok (.ifCond .eq 35, 3) := by decide +kernel
theorem dX6_drops_8 : decode cX6_drops 8 = .ok (.iload_n 2, 1) := by decide +kernel
theorem dX6_drops_9 : decode cX6_drops 9 = .ok (.i2l, 1) := by decide +kernel
theorem dX6_drops_10 : decode cX6_drops 10 = .ok (.lconst 0, 1) := by decide +kernel
theorem dX6_drops_11 : decode cX6_drops 11 = .ok (.ldc2_w 232, 3) := by decide +kernel
theorem dX6_drops_14 : decode cX6_drops 14 = .ok (.invokestatic 82, 3) := by decide +kernel
theorem dX6_drops_17 : decode cX6_drops 17 = .ok (.ifCond .eq 23, 3) := by decide +kernel
theorem dX6_drops_20 : decode cX6_drops 20 = .ok (.aload_n 0, 1) := by decide +kernel
theorem dX6_drops_21 : decode cX6_drops 21 = .ok (.aload_n 0, 1) := by decide +kernel
theorem dX6_drops_22 : decode cX6_drops 22 = .ok (.getfield 32, 3) := by decide +kernel
theorem dX6_drops_25 : decode cX6_drops 25 = .ok (.iload_n 1, 1) := by decide +kernel
theorem dX6_drops_26 : decode cX6_drops 26 = .ok (.iaload, 1) := by decide +kernel
theorem dX6_drops_27 : decode cX6_drops 27 = .ok (.aload_n 0, 1) := by decide +kernel
theorem dX6_drops_28 : decode cX6_drops 28 = .ok (.getfield 26, 3) := by decide +kernel
theorem dX6_drops_31 : decode cX6_drops 31 = .ok (.iload_n 1, 1) := by decide +kernel
theorem dX6_drops_32 : decode cX6_drops 32 = .ok (.iaload, 1) := by decide +kernel
theorem dX6_drops_33 : decode cX6_drops 33 = .ok (.iload_n 2, 1) := by decide +kernel
theorem dX6_drops_34 : decode cX6_drops 34 = .ok (.invokevirtual 234, 3) := by decide +kernel
theorem dX6_drops_37 : decode cX6_drops 37 = .ok (.goto 4, 3) := by decide +kernel
theorem dX6_drops_40 : decode cX6_drops 40 = .ok (.iconst (-1), 1) := by decide +kernel
theorem dX6_drops_41 : decode cX6_drops 41 = .ok (.ireturn, 1) := by decide +kernel
theorem dX6_lay_0 : decode cX6_lay 0 = .ok (.aload_n 0, 1) := by decide +kernel
theorem dX6_lay_1 : decode cX6_lay 1 = .ok (.iload_n 1, 1) := by decide +kernel
theorem dX6_lay_2 : decode cX6_lay 2 = .ok (.invokevirtual 193, 3) := by decide +kernel
theorem dX6_lay_5 : decode cX6_lay 5 = .ok (.ifCond .eq 15, 3) := by decide +kernel
theorem dX6_lay_8 : decode cX6_lay 8 = .ok (.iload_n 2, 1) := by decide +kernel
theorem dX6_lay_9 : decode cX6_lay 9 = .ok (.i2l, 1) := by decide +kernel
theorem dX6_lay_10 : decode cX6_lay 10 = .ok (.lconst 0, 1) := by decide +kernel
theorem dX6_lay_11 : decode cX6_lay 11 = .ok (.ldc2_w 232, 3) := by decide +kernel
theorem dX6_lay_14 : decode cX6_lay 14 = .ok (.invokestatic 82, 3) := by decide +kernel
theorem dX6_lay_17 : decode cX6_lay 17 = .ok (.ifCond .ne 5, 3) := by decide +kernel
theorem dX6_lay_20 : decode cX6_lay 20 = .ok (.iconst (-1), 1) := by decide +kernel
theorem dX6_lay_21 : decode cX6_lay 21 = .ok (.ireturn, 1) := by decide +kernel
theorem dX6_lay_22 : decode cX6_lay 22 = .ok (.iconst 0, 1) := by decide +kernel
theorem dX6_lay_23 : decode cX6_lay 23 = .ok (.istore_n 3, 1) := by decide +kernel
theorem dX6_lay_24 : decode cX6_lay 24 = .ok (.iconst 0, 1) := by decide +kernel
theorem dX6_lay_25 : decode cX6_lay 25 = .ok (.istore 4, 2) := by decide +kernel
theorem dX6_lay_27 : decode cX6_lay 27 = .ok (.iload 4, 2) := by decide +kernel
theorem dX6_lay_29 : decode cX6_lay 29 = .ok (.aload_n 0, 1) := by decide +kernel
theorem dX6_lay_30 : decode cX6_lay 30 = .ok (.getfield 78, 3) := by decide +kernel
theorem dX6_lay_33 : decode cX6_lay 33 = .ok (.if_icmp .ge 42, 3) := by decide +kernel
theorem dX6_lay_36 : decode cX6_lay 36 = .ok (.iload_n 3, 1) := by decide +kernel
theorem dX6_lay_37 : decode cX6_lay 37 = .ok (.aload_n 0, 1) := by decide +kernel
theorem dX6_lay_38 : decode cX6_lay 38 = .ok (.iload 4, 2) := by decide +kernel
theorem dX6_lay_40 : decode cX6_lay 40 = .ok (.aload_n 0, 1) := by decide +kernel
theorem dX6_lay_41 : decode cX6_lay 41 = .ok (.getfield 26, 3) := by decide +kernel
theorem dX6_lay_44 : decode cX6_lay 44 = .ok (.iload_n 1, 1) := by decide +kernel
theorem dX6_lay_45 : decode cX6_lay 45 = .ok (.iaload, 1) := by decide +kernel
theorem dX6_lay_46 : decode cX6_lay 46 = .ok (.iload_n 2, 1) := by decide +kernel
theorem dX6_lay_47 : decode cX6_lay 47 = .ok (.invokevirtual 234, 3) := by decide +kernel
theorem dX6_lay_50 : decode cX6_lay 50 = .ok (.aload_n 0, 1) := by decide +kernel
theorem dX6_lay_51 : decode cX6_lay 51 = .ok (.getfield 32, 3) := by decide +kernel
theorem dX6_lay_54 : decode cX6_lay 54 = .ok (.iload_n 1, 1) := by decide +kernel
theorem dX6_lay_55 : decode cX6_lay 55 = .ok (.iaload, 1) := by decide +kernel
theorem dX6_lay_56 : decode cX6_lay 56 = .ok (.if_icmp .ne 10, 3) := by decide +kernel
theorem dX6_lay_59 : decode cX6_lay 59 = .ok (.iconst 1, 1) := by decide +kernel
theorem dX6_lay_60 : decode cX6_lay 60 = .ok (.iload 4, 2) := by decide +kernel
theorem dX6_lay_62 : decode cX6_lay 62 = .ok (.ishl, 1) := by decide +kernel
theorem dX6_lay_63 : decode cX6_lay 63 = .ok (.goto 4, 3) := by decide +kernel
theorem dX6_lay_66 : decode cX6_lay 66 = .ok (.iconst 0, 1) := by decide +kernel
theorem dX6_lay_67 : decode cX6_lay 67 = .ok (.ior, 1) := by decide +kernel
theorem dX6_lay_68 : decode cX6_lay 68 = .ok (.istore_n 3, 1) := by decide +kernel
theorem dX6_lay_69 : decode cX6_lay 69 = .ok (.iinc 4 1, 3) := by decide +kernel
theorem dX6_lay_72 : decode cX6_lay 72 = .ok (.goto (-45), 3) := by decide +kernel
theorem dX6_lay_75 : decode cX6_lay 75 = .ok (.iload_n 3, 1) := by decide +kernel
theorem dX6_lay_76 : decode cX6_lay 76 = .ok (.ireturn, 1) := by decide +kernel
theorem dX6_stitches_0 : decode cX6_stitches 0 = .ok (.aload_n 0, 1) := by decide +kernel
theorem dX6_stitches_1 : decode cX6_stitches 1 = .ok (.iload_n 1, 1) := by decide +kernel
theorem dX6_stitches_2 : decode cX6_stitches 2 = .ok (.invokevirtual 178, 3) := by decide +kernel
theorem dX6_stitches_5 : decode cX6_stitches 5 = .ok (.ifCond .eq 26, 3) := by decide +kernel
theorem dX6_stitches_8 : decode cX6_stitches 8 = .ok (.aload_n 0, 1) := by decide +kernel
theorem dX6_stitches_9 : decode cX6_stitches 9 = .ok (.iload_n 2, 1) := by decide +kernel
theorem dX6_stitches_10 : decode cX6_stitches 10 = .ok (.invokevirtual 178, 3) := by decide +kernel
theorem dX6_stitches_13 : decode cX6_stitches 13 = .ok (.ifCond .eq 18, 3) := by decide +kernel
theorem dX6_stitches_16 : decode cX6_stitches 16 = .ok (.iload_n 1, 1) := by decide +kernel
theorem dX6_stitches_17 : decode cX6_stitches 17 = .ok (.iload_n 2, 1) := by decide +kernel
theorem dX6_stitches_18 : decode cX6_stitches 18 = .ok (.if_icmp .eq 13, 3) := by decide +kernel
theorem dX6_stitches_21 : decode cX6_stitches 21 = .ok (.iload_n 3, 1) := by decide +kernel
theorem dX6_stitches_22 : decode cX6_stitches 22 = .ok (.i2l, 1) := by decide +kernel
theorem dX6_stitches_23 : decode cX6_stitches 23 = .ok (.lconst 0, 1) := by decide +kernel
theorem dX6_stitches_24 : decode cX6_stitches 24 = .ok (.lconst 1, 1) := by decide +kernel
theorem dX6_stitches_25 : decode cX6_stitches 25 = .ok (.invokestatic 82, 3) := by decide +kernel
theorem dX6_stitches_28 : decode cX6_stitches 28 = .ok (.ifCond .ne 5, 3) := by decide +kernel
theorem dX6_stitches_31 : decode cX6_stitches 31 = .ok (.iconst (-1), 1) := by decide +kernel
theorem dX6_stitches_32 : decode cX6_stitches 32 = .ok (.ireturn, 1) := by decide +kernel
theorem dX6_stitches_33 : decode cX6_stitches 33 = .ok (.bipush 6, 2) := by decide +kernel
theorem dX6_stitches_35 : decode cX6_stitches 35 = .ok (.istore 4, 2) := by decide +kernel
theorem dX6_stitches_37 : decode cX6_stitches 37 = .ok (.iload_n 1, 1) := by decide +kernel
theorem dX6_stitches_38 : decode cX6_stitches 38 = .ok (.istore 5, 2) := by decide +kernel
theorem dX6_stitches_40 : decode cX6_stitches 40 = .ok (.iconst 0, 1) := by decide +kernel
theorem dX6_stitches_41 : decode cX6_stitches 41 = .ok (.istore 6, 2) := by decide +kernel
theorem dX6_stitches_43 : decode cX6_stitches 43 = .ok (.iload 6, 2) := by decide +kernel
theorem dX6_stitches_45 : decode cX6_stitches 45 = .ok (.bipush 6, 2) := by decide +kernel
theorem dX6_stitches_47 : decode cX6_stitches 47 = .ok (.if_icmp .ge 40, 3) := by decide +kernel
theorem dX6_stitches_50 : decode cX6_stitches 50 = .ok (.iload 5, 2) := by decide +kernel
theorem dX6_stitches_52 : decode cX6_stitches 52 = .ok (.iload_n 2, 1) := by decide +kernel
theorem dX6_stitches_53 : decode cX6_stitches 53 = .ok (.if_icmp .eq 34, 3) := by decide +kernel
theorem dX6_stitches_56 : decode cX6_stitches 56 = .ok (.iload 5, 2) := by decide +kernel
theorem dX6_stitches_58 : decode cX6_stitches 58 = .ok (.iload 4, 2) := by decide +kernel
theorem dX6_stitches_60 : decode cX6_stitches 60 = .ok (.if_icmp .ge 8, 3) := by decide +kernel
theorem dX6_stitches_63 : decode cX6_stitches 63 = .ok (.iload 5, 2) := by decide +kernel
theorem dX6_stitches_65 : decode cX6_stitches 65 = .ok (.goto 5, 3) := by decide +kernel
theorem dX6_stitches_68 : decode cX6_stitches 68 = .ok (.iload 4, 2) := by decide +kernel
theorem dX6_stitches_70 : decode cX6_stitches 70 = .ok (.istore 4, 2) := by decide +kernel
theorem dX6_stitches_72 : decode cX6_stitches 72 = .ok (.aload_n 0, 1) := by decide +kernel
theorem dX6_stitches_73 : decode cX6_stitches 73 = .ok (.iload 5, 2) := by decide +kernel
theorem dX6_stitches_75 : decode cX6_stitches 75 = .ok (.iconst 1, 1) := by decide +kernel
theorem dX6_stitches_76 : decode cX6_stitches 76 = .ok (.invokevirtual 218, 3) := by decide +kernel
theorem dX6_stitches_79 : decode cX6_stitches 79 = .ok (.istore 5, 2) := by decide +kernel
theorem dX6_stitches_81 : decode cX6_stitches 81 = .ok (.iinc 6 1, 3) := by decide +kernel
theorem dX6_stitches_84 : decode cX6_stitches 84 = .ok (.goto (-41), 3) := by decide +kernel
theorem dX6_stitches_87 : decode cX6_stitches 87 = .ok (.iload 5, 2) := by decide +kernel
theorem dX6_stitches_89 : decode cX6_stitches 89 = .ok (.iload_n 2, 1) := by decide +kernel
theorem dX6_stitches_90 : decode cX6_stitches 90 = .ok (.if_icmp .ne 7, 3) := by decide +kernel
theorem dX6_stitches_93 : decode cX6_stitches 93 = .ok (.iconst 1, 1) := by decide +kernel
theorem dX6_stitches_94 : decode cX6_stitches 94 = .ok (.goto 4, 3) := by decide +kernel
theorem dX6_stitches_97 : decode cX6_stitches 97 = .ok (.iconst 0, 1) := by decide +kernel
theorem dX6_stitches_98 : decode cX6_stitches 98 = .ok (.istore 6, 2) := by decide +kernel
theorem dX6_stitches_100 : decode cX6_stitches 100 = .ok (.iload_n 3, 1) := by decide +kernel
theorem dX6_stitches_101 : decode cX6_stitches 101 = .ok (.ifCond .ne 16, 3) := by decide +kernel
theorem dX6_stitches_104 : decode cX6_stitches 104 = .ok (.iload 6, 2) := by decide +kernel
theorem dX6_stitches_106 : decode cX6_stitches 106 = .ok (.ifCond .eq 7, 3) := by decide +kernel
theorem dX6_stitches_109 : decode cX6_stitches 109 = .ok (.iconst 1, 1) := by decide +kernel
theorem dX6_stitches_110 : decode cX6_stitches 110 = .ok (.goto 19, 3) := by decide +kernel
theorem dX6_stitches_113 : decode cX6_stitches 113 = .ok (.iconst 0, 1) := by decide +kernel
theorem dX6_stitches_114 : decode cX6_stitches 114 = .ok (.goto 15, 3) := by decide +kernel
theorem dX6_stitches_117 : decode cX6_stitches 117 = .ok (.iload 6, 2) := by decide +kernel
theorem dX6_stitches_119 : decode cX6_stitches 119 = .ok (.ifCond .eq 8, 3) := by decide +kernel
theorem dX6_stitches_122 : decode cX6_stitches 122 = .ok (.iload 4, 2) := by decide +kernel
theorem dX6_stitches_124 : decode cX6_stitches 124 = .ok (.goto 5, 3) := by decide +kernel
theorem dX6_stitches_127 : decode cX6_stitches 127 = .ok (.bipush (-9), 2) := by decide +kernel
theorem dX6_stitches_129 : decode cX6_stitches 129 = .ok (.ireturn, 1) := by decide +kernel
theorem dX6_common_0 : decode cX6_common 0 = .ok (.lload_n 0, 1) := by decide +kernel
theorem dX6_common_1 : decode cX6_common 1 = .ok (.lstore 4, 2) := by decide +kernel
theorem dX6_common_3 : decode cX6_common 3 = .ok (.lload_n 2, 1) := by decide +kernel
theorem dX6_common_4 : decode cX6_common 4 = .ok (.lstore 6, 2) := by decide +kernel
theorem dX6_common_6 : decode cX6_common 6 = .ok (.lload 6, 2) := by decide +kernel
theorem dX6_common_8 : decode cX6_common 8 = .ok (.lconst 0, 1) := by decide +kernel
theorem dX6_common_9 : decode cX6_common 9 = .ok (.lcmp, 1) := by decide +kernel
theorem dX6_common_10 : decode cX6_common 10 = .ok (.ifCond .eq 21, 3) := by decide +kernel
theorem dX6_common_13 : decode cX6_common 13 = .ok (.lload 4, 2) := by decide +kernel
theorem dX6_common_15 : decode cX6_common 15 = .ok (.lload 6, 2) := by decide +kernel
theorem dX6_common_17 : decode cX6_common 17 = .ok (.lrem, 1) := by decide +kernel
theorem dX6_common_18 : decode cX6_common 18 = .ok (.lstore 8, 2) := by decide +kernel
theorem dX6_common_20 : decode cX6_common 20 = .ok (.lload 6, 2) := by decide +kernel
theorem dX6_common_22 : decode cX6_common 22 = .ok (.lstore 4, 2) := by decide +kernel
theorem dX6_common_24 : decode cX6_common 24 = .ok (.lload 8, 2) := by decide +kernel
theorem dX6_common_26 : decode cX6_common 26 = .ok (.lstore 6, 2) := by decide +kernel
theorem dX6_common_28 : decode cX6_common 28 = .ok (.goto (-22), 3) := by decide +kernel
theorem dX6_common_31 : decode cX6_common 31 = .ok (.lload 4, 2) := by decide +kernel
theorem dX6_common_33 : decode cX6_common 33 = .ok (.lreturn, 1) := by decide +kernel
theorem dX6_odds_0 : decode cX6_odds 0 = .ok (.aload_n 0, 1) := by decide +kernel
theorem dX6_odds_1 : decode cX6_odds 1 = .ok (.iload_n 1, 1) := by decide +kernel
theorem dX6_odds_2 : decode cX6_odds 2 = .ok (.invokevirtual 193, 3) := by decide +kernel
theorem dX6_odds_5 : decode cX6_odds 5 = .ok (.ifCond .eq 47, 3) := by decide +kernel
theorem dX6_odds_8 : decode cX6_odds 8 = .ok (.aload_n 0, 1) := by decide +kernel
theorem dX6_odds_9 : decode cX6_odds 9 = .ok (.iload_n 2, 1) := by decide +kernel
theorem dX6_odds_10 : decode cX6_odds 10 = .ok (.invokevirtual 178, 3) := by decide +kernel
theorem dX6_odds_13 : decode cX6_odds 13 = .ok (.ifCond .eq 39, 3) := by decide +kernel
theorem dX6_odds_16 : decode cX6_odds 16 = .ok (.iload_n 3, 1) := by decide +kernel
theorem dX6_odds_17 : decode cX6_odds 17 = .ok (.i2l, 1) := by decide +kernel
theorem dX6_odds_18 : decode cX6_odds 18 = .ok (.lconst 0, 1) := by decide +kernel
theorem dX6_odds_19 : decode cX6_odds 19 = .ok (.ldc2_w 237, 3) := by decide +kernel
theorem dX6_odds_22 : decode cX6_odds 22 = .ok (.invokestatic 82, 3) := by decide +kernel
theorem dX6_odds_25 : decode cX6_odds 25 = .ok (.ifCond .eq 27, 3) := by decide +kernel
theorem dX6_odds_28 : decode cX6_odds 28 = .ok (.iload 4, 2) := by decide +kernel
theorem dX6_odds_30 : decode cX6_odds 30 = .ok (.i2l, 1) := by decide +kernel
theorem dX6_odds_31 : decode cX6_odds 31 = .ok (.lconst 0, 1) := by decide +kernel
theorem dX6_odds_32 : decode cX6_odds 32 = .ok (.ldc2_w 239, 3) := by decide +kernel
theorem dX6_odds_35 : decode cX6_odds 35 = .ok (.invokestatic 82, 3) := by decide +kernel
theorem dX6_odds_38 : decode cX6_odds 38 = .ok (.ifCond .eq 14, 3) := by decide +kernel
theorem dX6_odds_41 : decode cX6_odds 41 = .ok (.iload 5, 2) := by decide +kernel
theorem dX6_odds_43 : decode cX6_odds 43 = .ok (.i2l, 1) := by decide +kernel
theorem dX6_odds_44 : decode cX6_odds 44 = .ok (.lconst 0, 1) := by decide +kernel
theorem dX6_odds_45 : decode cX6_odds 45 = .ok (.lconst 1, 1) := by decide +kernel
theorem dX6_odds_46 : decode cX6_odds 46 = .ok (.invokestatic 82, 3) := by decide +kernel
theorem dX6_odds_49 : decode cX6_odds 49 = .ok (.ifCond .ne 5, 3) := by decide +kernel
theorem dX6_odds_52 : decode cX6_odds 52 = .ok (.iconst (-1), 1) := by decide +kernel
theorem dX6_odds_53 : decode cX6_odds 53 = .ok (.ireturn, 1) := by decide +kernel
theorem dX6_odds_54 : decode cX6_odds 54 = .ok (.iconst 0, 1) := by decide +kernel
theorem dX6_odds_55 : decode cX6_odds 55 = .ok (.istore 6, 2) := by decide +kernel
theorem dX6_odds_57 : decode cX6_odds 57 = .ok (.iload 6, 2) := by decide +kernel
theorem dX6_odds_59 : decode cX6_odds 59 = .ok (.bipush 6, 2) := by decide +kernel
theorem dX6_odds_61 : decode cX6_odds 61 = .ok (.if_icmp .ge 32, 3) := by decide +kernel
theorem dX6_odds_64 : decode cX6_odds 64 = .ok (.aload_n 0, 1) := by decide +kernel
theorem dX6_odds_65 : decode cX6_odds 65 = .ok (.getfield 65, 3) := by decide +kernel
theorem dX6_odds_68 : decode cX6_odds 68 = .ok (.iload 6, 2) := by decide +kernel
theorem dX6_odds_70 : decode cX6_odds 70 = .ok (.iload 6, 2) := by decide +kernel
theorem dX6_odds_72 : decode cX6_odds 72 = .ok (.aload_n 0, 1) := by decide +kernel
theorem dX6_odds_73 : decode cX6_odds 73 = .ok (.getfield 32, 3) := by decide +kernel
theorem dX6_odds_76 : decode cX6_odds 76 = .ok (.iload_n 1, 1) := by decide +kernel
theorem dX6_odds_77 : decode cX6_odds 77 = .ok (.iaload, 1) := by decide +kernel
theorem dX6_odds_78 : decode cX6_odds 78 = .ok (.if_icmp .ne 7, 3) := by decide +kernel
theorem dX6_odds_81 : decode cX6_odds 81 = .ok (.lconst 1, 1) := by decide +kernel
theorem dX6_odds_82 : decode cX6_odds 82 = .ok (.goto 4, 3) := by decide +kernel
theorem dX6_odds_85 : decode cX6_odds 85 = .ok (.lconst 0, 1) := by decide +kernel
theorem dX6_odds_86 : decode cX6_odds 86 = .ok (.lastore, 1) := by decide +kernel
theorem dX6_odds_87 : decode cX6_odds 87 = .ok (.iinc 6 1, 3) := by decide +kernel
theorem dX6_odds_90 : decode cX6_odds 90 = .ok (.goto (-33), 3) := by decide +kernel
theorem dX6_odds_93 : decode cX6_odds 93 = .ok (.lconst 1, 1) := by decide +kernel
theorem dX6_odds_94 : decode cX6_odds 94 = .ok (.lstore 6, 2) := by decide +kernel
theorem dX6_odds_96 : decode cX6_odds 96 = .ok (.iconst 0, 1) := by decide +kernel
theorem dX6_odds_97 : decode cX6_odds 97 = .ok (.istore 8, 2) := by decide +kernel
theorem dX6_odds_99 : decode cX6_odds 99 = .ok (.iload 8, 2) := by decide +kernel
theorem dX6_odds_101 : decode cX6_odds 101 = .ok (.iload 4, 2) := by decide +kernel
theorem dX6_odds_103 : decode cX6_odds 103 = .ok (.if_icmp .ge 142, 3) := by decide +kernel
theorem dX6_odds_106 : decode cX6_odds 106 = .ok (.lload 6, 2) := by decide +kernel
theorem dX6_odds_108 : decode cX6_odds 108 = .ok (.ldc2_w 237, 3) := by decide +kernel
theorem dX6_odds_111 : decode cX6_odds 111 = .ok (.lmul, 1) := by decide +kernel
theorem dX6_odds_112 : decode cX6_odds 112 = .ok (.lstore 6, 2) := by decide +kernel
theorem dX6_odds_114 : decode cX6_odds 114 = .ok (.iconst 0, 1) := by decide +kernel
theorem dX6_odds_115 : decode cX6_odds 115 = .ok (.istore 9, 2) := by decide +kernel
theorem dX6_odds_117 : decode cX6_odds 117 = .ok (.iload 9, 2) := by decide +kernel
theorem dX6_odds_119 : decode cX6_odds 119 = .ok (.bipush 6, 2) := by decide +kernel
theorem dX6_odds_121 : decode cX6_odds 121 = .ok (.if_icmp .ge 17, 3) := by decide +kernel
theorem dX6_odds_124 : decode cX6_odds 124 = .ok (.aload_n 0, 1) := by decide +kernel
theorem dX6_odds_125 : decode cX6_odds 125 = .ok (.getfield 69, 3) := by decide +kernel
theorem dX6_odds_128 : decode cX6_odds 128 = .ok (.iload 9, 2) := by decide +kernel
theorem dX6_odds_130 : decode cX6_odds 130 = .ok (.lconst 0, 1) := by decide +kernel
theorem dX6_odds_131 : decode cX6_odds 131 = .ok (.lastore, 1) := by decide +kernel
theorem dX6_odds_132 : decode cX6_odds 132 = .ok (.iinc 9 1, 3) := by decide +kernel
theorem dX6_odds_135 : decode cX6_odds 135 = .ok (.goto (-18), 3) := by decide +kernel
theorem dX6_odds_138 : decode cX6_odds 138 = .ok (.iconst 0, 1) := by decide +kernel
theorem dX6_odds_139 : decode cX6_odds 139 = .ok (.istore 9, 2) := by decide +kernel
theorem dX6_odds_141 : decode cX6_odds 141 = .ok (.iload 9, 2) := by decide +kernel
theorem dX6_odds_143 : decode cX6_odds 143 = .ok (.aload_n 0, 1) := by decide +kernel
theorem dX6_odds_144 : decode cX6_odds 144 = .ok (.getfield 78, 3) := by decide +kernel
theorem dX6_odds_147 : decode cX6_odds 147 = .ok (.if_icmp .ge 62, 3) := by decide +kernel
theorem dX6_odds_150 : decode cX6_odds 150 = .ok (.aload_n 0, 1) := by decide +kernel
theorem dX6_odds_151 : decode cX6_odds 151 = .ok (.getfield 69, 3) := by decide +kernel
theorem dX6_odds_154 : decode cX6_odds 154 = .ok (.aload_n 0, 1) := by decide +kernel
theorem dX6_odds_155 : decode cX6_odds 155 = .ok (.iload 9, 2) := by decide +kernel
theorem dX6_odds_157 : decode cX6_odds 157 = .ok (.aload_n 0, 1) := by decide +kernel
theorem dX6_odds_158 : decode cX6_odds 158 = .ok (.getfield 26, 3) := by decide +kernel
theorem dX6_odds_161 : decode cX6_odds 161 = .ok (.iload_n 1, 1) := by decide +kernel
theorem dX6_odds_162 : decode cX6_odds 162 = .ok (.iaload, 1) := by decide +kernel
theorem dX6_odds_163 : decode cX6_odds 163 = .ok (.invokevirtual 218, 3) := by decide +kernel
theorem dX6_odds_166 : decode cX6_odds 166 = .ok (.dup2, 1) := by decide +kernel
theorem dX6_odds_167 : decode cX6_odds 167 = .ok (.laload, 1) := by decide +kernel
theorem dX6_odds_168 : decode cX6_odds 168 = .ok (.iload_n 3, 1) := by decide +kernel
theorem dX6_odds_169 : decode cX6_odds 169 = .ok (.i2l, 1) := by decide +kernel
theorem dX6_odds_170 : decode cX6_odds 170 = .ok (.aload_n 0, 1) := by decide +kernel
theorem dX6_odds_171 : decode cX6_odds 171 = .ok (.getfield 65, 3) := by decide +kernel
theorem dX6_odds_174 : decode cX6_odds 174 = .ok (.iload 9, 2) := by decide +kernel
theorem dX6_odds_176 : decode cX6_odds 176 = .ok (.laload, 1) := by decide +kernel
theorem dX6_odds_177 : decode cX6_odds 177 = .ok (.lmul, 1) := by decide +kernel
theorem dX6_odds_178 : decode cX6_odds 178 = .ok (.ladd, 1) := by decide +kernel
theorem dX6_odds_179 : decode cX6_odds 179 = .ok (.lastore, 1) := by decide +kernel
theorem dX6_odds_180 : decode cX6_odds 180 = .ok (.aload_n 0, 1) := by decide +kernel
theorem dX6_odds_181 : decode cX6_odds 181 = .ok (.getfield 69, 3) := by decide +kernel
theorem dX6_odds_184 : decode cX6_odds 184 = .ok (.iload 9, 2) := by decide +kernel
theorem dX6_odds_186 : decode cX6_odds 186 = .ok (.dup2, 1) := by decide +kernel
theorem dX6_odds_187 : decode cX6_odds 187 = .ok (.laload, 1) := by decide +kernel
theorem dX6_odds_188 : decode cX6_odds 188 = .ok (.bipush 10, 2) := by decide +kernel
theorem dX6_odds_190 : decode cX6_odds 190 = .ok (.iload_n 3, 1) := by decide +kernel
theorem dX6_odds_191 : decode cX6_odds 191 = .ok (.isub, 1) := by decide +kernel
theorem dX6_odds_192 : decode cX6_odds 192 = .ok (.i2l, 1) := by decide +kernel
theorem dX6_odds_193 : decode cX6_odds 193 = .ok (.aload_n 0, 1) := by decide +kernel
theorem dX6_odds_194 : decode cX6_odds 194 = .ok (.getfield 65, 3) := by decide +kernel
theorem dX6_odds_197 : decode cX6_odds 197 = .ok (.iload 9, 2) := by decide +kernel
theorem dX6_odds_199 : decode cX6_odds 199 = .ok (.laload, 1) := by decide +kernel
theorem dX6_odds_200 : decode cX6_odds 200 = .ok (.lmul, 1) := by decide +kernel
theorem dX6_odds_201 : decode cX6_odds 201 = .ok (.ladd, 1) := by decide +kernel
theorem dX6_odds_202 : decode cX6_odds 202 = .ok (.lastore, 1) := by decide +kernel
theorem dX6_odds_203 : decode cX6_odds 203 = .ok (.iinc 9 1, 3) := by decide +kernel
theorem dX6_odds_206 : decode cX6_odds 206 = .ok (.goto (-65), 3) := by decide +kernel
theorem dX6_odds_209 : decode cX6_odds 209 = .ok (.iconst 0, 1) := by decide +kernel
theorem dX6_odds_210 : decode cX6_odds 210 = .ok (.istore 9, 2) := by decide +kernel
theorem dX6_odds_212 : decode cX6_odds 212 = .ok (.iload 9, 2) := by decide +kernel
theorem dX6_odds_214 : decode cX6_odds 214 = .ok (.bipush 6, 2) := by decide +kernel
theorem dX6_odds_216 : decode cX6_odds 216 = .ok (.if_icmp .ge 23, 3) := by decide +kernel
theorem dX6_odds_219 : decode cX6_odds 219 = .ok (.aload_n 0, 1) := by decide +kernel
theorem dX6_odds_220 : decode cX6_odds 220 = .ok (.getfield 65, 3) := by decide +kernel
theorem dX6_odds_223 : decode cX6_odds 223 = .ok (.iload 9, 2) := by decide +kernel
theorem dX6_odds_225 : decode cX6_odds 225 = .ok (.aload_n 0, 1) := by decide +kernel
theorem dX6_odds_226 : decode cX6_odds 226 = .ok (.getfield 69, 3) := by decide +kernel
theorem dX6_odds_229 : decode cX6_odds 229 = .ok (.iload 9, 2) := by decide +kernel
theorem dX6_odds_231 : decode cX6_odds 231 = .ok (.laload, 1) := by decide +kernel
theorem dX6_odds_232 : decode cX6_odds 232 = .ok (.lastore, 1) := by decide +kernel
theorem dX6_odds_233 : decode cX6_odds 233 = .ok (.iinc 9 1, 3) := by decide +kernel
theorem dX6_odds_236 : decode cX6_odds 236 = .ok (.goto (-24), 3) := by decide +kernel
theorem dX6_odds_239 : decode cX6_odds 239 = .ok (.iinc 8 1, 3) := by decide +kernel
theorem dX6_odds_242 : decode cX6_odds 242 = .ok (.goto (-143), 3) := by decide +kernel
theorem dX6_odds_245 : decode cX6_odds 245 = .ok (.aload_n 0, 1) := by decide +kernel
theorem dX6_odds_246 : decode cX6_odds 246 = .ok (.getfield 65, 3) := by decide +kernel
theorem dX6_odds_249 : decode cX6_odds 249 = .ok (.iload_n 2, 1) := by decide +kernel
theorem dX6_odds_250 : decode cX6_odds 250 = .ok (.laload, 1) := by decide +kernel
theorem dX6_odds_251 : decode cX6_odds 251 = .ok (.lload 6, 2) := by decide +kernel
theorem dX6_odds_253 : decode cX6_odds 253 = .ok (.invokestatic 241, 3) := by decide +kernel
theorem dX6_odds_256 : decode cX6_odds 256 = .ok (.lstore 8, 2) := by decide +kernel
theorem dX6_odds_258 : decode cX6_odds 258 = .ok (.iload 5, 2) := by decide +kernel
theorem dX6_odds_260 : decode cX6_odds 260 = .ok (.ifCond .ne 15, 3) := by decide +kernel
theorem dX6_odds_263 : decode cX6_odds 263 = .ok (.aload_n 0, 1) := by decide +kernel
theorem dX6_odds_264 : decode cX6_odds 264 = .ok (.getfield 65, 3) := by decide +kernel
theorem dX6_odds_267 : decode cX6_odds 267 = .ok (.iload_n 2, 1) := by decide +kernel
theorem dX6_odds_268 : decode cX6_odds 268 = .ok (.laload, 1) := by decide +kernel
theorem dX6_odds_269 : decode cX6_odds 269 = .ok (.lload 8, 2) := by decide +kernel
theorem dX6_odds_271 : decode cX6_odds 271 = .ok (.ldiv, 1) := by decide +kernel
theorem dX6_odds_272 : decode cX6_odds 272 = .ok (.goto 8, 3) := by decide +kernel
theorem dX6_odds_275 : decode cX6_odds 275 = .ok (.lload 6, 2) := by decide +kernel
theorem dX6_odds_277 : decode cX6_odds 277 = .ok (.lload 8, 2) := by decide +kernel
theorem dX6_odds_279 : decode cX6_odds 279 = .ok (.ldiv, 1) := by decide +kernel
theorem dX6_odds_280 : decode cX6_odds 280 = .ok (.l2i, 1) := by decide +kernel
theorem dX6_odds_281 : decode cX6_odds 281 = .ok (.ireturn, 1) := by decide +kernel
theorem dX6_asPocket_0 : decode cX6_asPocket 0 = .ok (.aload_n 0, 1) := by decide +kernel
theorem dX6_asPocket_1 : decode cX6_asPocket 1 = .ok (.dup, 1) := by decide +kernel
theorem dX6_asPocket_2 : decode cX6_asPocket 2 = .ok (.getfield 245, 3) := by decide +kernel
theorem dX6_asPocket_5 : decode cX6_asPocket 5 = .ok (.lconst 1, 1) := by decide +kernel
theorem dX6_asPocket_6 : decode cX6_asPocket 6 = .ok (.ladd, 1) := by decide +kernel
theorem dX6_asPocket_7 : decode cX6_asPocket 7 = .ok (.putfield 245, 3) := by decide +kernel
theorem dX6_asPocket_10 : decode cX6_asPocket 10 = .ok (.aload_n 0, 1) := by decide +kernel
theorem dX6_asPocket_11 : decode cX6_asPocket 11 = .ok (.iload_n 1, 1) := by decide +kernel
theorem dX6_asPocket_12 : decode cX6_asPocket 12 = .ok (.invokevirtual 181, 3) := by decide +kernel
theorem dX6_asPocket_15 : decode cX6_asPocket 15 = .ok (.ireturn, 1) := by decide +kernel
theorem dX6_asCoat_0 : decode cX6_asCoat 0 = .ok (.aload_n 0, 1) := by decide +kernel
theorem dX6_asCoat_1 : decode cX6_asCoat 1 = .ok (.dup, 1) := by decide +kernel
theorem dX6_asCoat_2 : decode cX6_asCoat 2 = .ok (.getfield 245, 3) := by decide +kernel
theorem dX6_asCoat_5 : decode cX6_asCoat 5 = .ok (.ldc2_w 237, 3) := by decide +kernel
theorem dX6_asCoat_8 : decode cX6_asCoat 8 = .ok (.ladd, 1) := by decide +kernel
theorem dX6_asCoat_9 : decode cX6_asCoat 9 = .ok (.putfield 245, 3) := by decide +kernel
theorem dX6_asCoat_12 : decode cX6_asCoat 12 = .ok (.aload_n 0, 1) := by decide +kernel
theorem dX6_asCoat_13 : decode cX6_asCoat 13 = .ok (.iload_n 1, 1) := by decide +kernel
theorem dX6_asCoat_14 : decode cX6_asCoat 14 = .ok (.invokevirtual 249, 3) := by decide +kernel
theorem dX6_asCoat_17 : decode cX6_asCoat 17 = .ok (.aload_n 0, 1) := by decide +kernel
theorem dX6_asCoat_18 : decode cX6_asCoat 18 = .ok (.getfield 13, 3) := by decide +kernel
theorem dX6_asCoat_21 : decode cX6_asCoat 21 = .ok (.bipush 8, 2) := by decide +kernel
theorem dX6_asCoat_23 : decode cX6_asCoat 23 = .ok (.iload_n 1, 1) := by decide +kernel
theorem dX6_asCoat_24 : decode cX6_asCoat 24 = .ok (.imul, 1) := by decide +kernel
theorem dX6_asCoat_25 : decode cX6_asCoat 25 = .ok (.iaload, 1) := by decide +kernel
theorem dX6_asCoat_26 : decode cX6_asCoat 26 = .ok (.iadd, 1) := by decide +kernel
theorem dX6_asCoat_27 : decode cX6_asCoat 27 = .ok (.ireturn, 1) := by decide +kernel
theorem dX6_asPurse_0 : decode cX6_asPurse 0 = .ok (.aload_n 0, 1) := by decide +kernel
theorem dX6_asPurse_1 : decode cX6_asPurse 1 = .ok (.dup, 1) := by decide +kernel
theorem dX6_asPurse_2 : decode cX6_asPurse 2 = .ok (.getfield 245, 3) := by decide +kernel
theorem dX6_asPurse_5 : decode cX6_asPurse 5 = .ok (.ldc2_w 252, 3) := by decide +kernel
theorem dX6_asPurse_8 : decode cX6_asPurse 8 = .ok (.ladd, 1) := by decide +kernel
theorem dX6_asPurse_9 : decode cX6_asPurse 9 = .ok (.putfield 245, 3) := by decide +kernel
theorem dX6_asPurse_12 : decode cX6_asPurse 12 = .ok (.aload_n 0, 1) := by decide +kernel
theorem dX6_asPurse_13 : decode cX6_asPurse 13 = .ok (.iload_n 1, 1) := by decide +kernel
theorem dX6_asPurse_14 : decode cX6_asPurse 14 = .ok (.invokevirtual 249, 3) := by decide +kernel
theorem dX6_asPurse_17 : decode cX6_asPurse 17 = .ok (.aload_n 0, 1) := by decide +kernel
theorem dX6_asPurse_18 : decode cX6_asPurse 18 = .ok (.getfield 13, 3) := by decide +kernel
theorem dX6_asPurse_21 : decode cX6_asPurse 21 = .ok (.bipush 8, 2) := by decide +kernel
theorem dX6_asPurse_23 : decode cX6_asPurse 23 = .ok (.iload_n 1, 1) := by decide +kernel
theorem dX6_asPurse_24 : decode cX6_asPurse 24 = .ok (.imul, 1) := by decide +kernel
theorem dX6_asPurse_25 : decode cX6_asPurse 25 = .ok (.iconst 2, 1) := by decide +kernel
theorem dX6_asPurse_26 : decode cX6_asPurse 26 = .ok (.iadd, 1) := by decide +kernel
theorem dX6_asPurse_27 : decode cX6_asPurse 27 = .ok (.iaload, 1) := by decide +kernel
theorem dX6_asPurse_28 : decode cX6_asPurse 28 = .ok (.isub, 1) := by decide +kernel
theorem dX6_asPurse_29 : decode cX6_asPurse 29 = .ok (.ireturn, 1) := by decide +kernel
theorem dX6_rate_0 : decode cX6_rate 0 = .ok (.iload_n 1, 1) := by decide +kernel
theorem dX6_rate_1 : decode cX6_rate 1 = .ok (.i2l, 1) := by decide +kernel
theorem dX6_rate_2 : decode cX6_rate 2 = .ok (.lconst 0, 1) := by decide +kernel
theorem dX6_rate_3 : decode cX6_rate 3 = .ok (.ldc2_w 199, 3) := by decide +kernel
theorem dX6_rate_6 : decode cX6_rate 6 = .ok (.invokestatic 82, 3) := by decide +kernel
theorem dX6_rate_9 : decode cX6_rate 9 = .ok (.ifCond .eq 11, 3) := by decide +kernel
theorem dX6_rate_12 : decode cX6_rate 12 = .ok (.aload_n 0, 1) := by decide +kernel
theorem dX6_rate_13 : decode cX6_rate 13 = .ok (.iload_n 2, 1) := by decide +kernel
theorem dX6_rate_14 : decode cX6_rate 14 = .ok (.invokevirtual 178, 3) := by decide +kernel
theorem dX6_rate_17 : decode cX6_rate 17 = .ok (.ifCond .ne 6, 3) := by decide +kernel
theorem dX6_rate_20 : decode cX6_rate 20 = .ok (.ldc 254, 2) := by decide +kernel
theorem dX6_rate_22 : decode cX6_rate 22 = .ok (.ireturn, 1) := by decide +kernel
theorem dX6_rate_23 : decode cX6_rate 23 = .ok (.iload_n 1, 1) := by decide +kernel
theorem dX6_rate_24 : decode cX6_rate 24 = .ok (.iconst 3, 1) := by decide +kernel
theorem dX6_rate_25 : decode cX6_rate 25 = .ok (.if_icmp .ne 23, 3) := by decide +kernel
theorem dX6_rate_28 : decode cX6_rate 28 = .ok (.aload_n 0, 1) := by decide +kernel
theorem dX6_rate_29 : decode cX6_rate 29 = .ok (.dup, 1) := by decide +kernel
theorem dX6_rate_30 : decode cX6_rate 30 = .ok (.getfield 245, 3) := by decide +kernel
theorem dX6_rate_33 : decode cX6_rate 33 = .ok (.ldc2_w 255, 3) := by decide +kernel
theorem dX6_rate_36 : decode cX6_rate 36 = .ok (.ladd, 1) := by decide +kernel
theorem dX6_rate_37 : decode cX6_rate 37 = .ok (.putfield 245, 3) := by decide +kernel
theorem dX6_rate_40 : decode cX6_rate 40 = .ok (.iconst 2, 1) := by decide +kernel
theorem dX6_rate_41 : decode cX6_rate 41 = .ok (.aload_n 0, 1) := by decide +kernel
theorem dX6_rate_42 : decode cX6_rate 42 = .ok (.iload_n 2, 1) := by decide +kernel
theorem dX6_rate_43 : decode cX6_rate 43 = .ok (.invokevirtual 257, 3) := by decide +kernel
theorem dX6_rate_46 : decode cX6_rate 46 = .ok (.imul, 1) := by decide +kernel
theorem dX6_rate_47 : decode cX6_rate 47 = .ok (.ireturn, 1) := by decide +kernel
theorem dX6_rate_48 : decode cX6_rate 48 = .ok (.iload_n 1, 1) := by decide +kernel
theorem dX6_rate_49 : decode cX6_rate 49 = .ok (.iconst 4, 1) := by decide +kernel
theorem dX6_rate_50 : decode cX6_rate 50 = .ok (.if_icmp .ne 23, 3) := by decide +kernel
theorem dX6_rate_53 : decode cX6_rate 53 = .ok (.aload_n 0, 1) := by decide +kernel
theorem dX6_rate_54 : decode cX6_rate 54 = .ok (.dup, 1) := by decide +kernel
theorem dX6_rate_55 : decode cX6_rate 55 = .ok (.getfield 245, 3) := by decide +kernel
theorem dX6_rate_58 : decode cX6_rate 58 = .ok (.ldc2_w 260, 3) := by decide +kernel
theorem dX6_rate_61 : decode cX6_rate 61 = .ok (.ladd, 1) := by decide +kernel
theorem dX6_rate_62 : decode cX6_rate 62 = .ok (.putfield 245, 3) := by decide +kernel
theorem dX6_rate_65 : decode cX6_rate 65 = .ok (.aload_n 0, 1) := by decide +kernel
theorem dX6_rate_66 : decode cX6_rate 66 = .ok (.iload_n 2, 1) := by decide +kernel
theorem dX6_rate_67 : decode cX6_rate 67 = .ok (.invokevirtual 262, 3) := by decide +kernel
theorem dX6_rate_70 : decode cX6_rate 70 = .ok (.iload_n 2, 1) := by decide +kernel
theorem dX6_rate_71 : decode cX6_rate 71 = .ok (.iadd, 1) := by decide +kernel
theorem dX6_rate_72 : decode cX6_rate 72 = .ok (.ireturn, 1) := by decide +kernel
theorem dX6_rate_73 : decode cX6_rate 73 = .ok (.iload_n 1, 1) := by decide +kernel
theorem dX6_rate_74 : decode cX6_rate 74 = .ok (.iconst 5, 1) := by decide +kernel
theorem dX6_rate_75 : decode cX6_rate 75 = .ok (.if_icmp .ne 27, 3) := by decide +kernel
theorem dX6_rate_78 : decode cX6_rate 78 = .ok (.aload_n 0, 1) := by decide +kernel
theorem dX6_rate_79 : decode cX6_rate 79 = .ok (.dup, 1) := by decide +kernel
theorem dX6_rate_80 : decode cX6_rate 80 = .ok (.getfield 245, 3) := by decide +kernel
theorem dX6_rate_83 : decode cX6_rate 83 = .ok (.ldc2_w 265, 3) := by decide +kernel
theorem dX6_rate_86 : decode cX6_rate 86 = .ok (.ladd, 1) := by decide +kernel
theorem dX6_rate_87 : decode cX6_rate 87 = .ok (.putfield 245, 3) := by decide +kernel
theorem dX6_rate_90 : decode cX6_rate 90 = .ok (.aload_n 0, 1) := by decide +kernel
theorem dX6_rate_91 : decode cX6_rate 91 = .ok (.iload_n 2, 1) := by decide +kernel
theorem dX6_rate_92 : decode cX6_rate 92 = .ok (.invokevirtual 249, 3) := by decide +kernel
theorem dX6_rate_95 : decode cX6_rate 95 = .ok (.aload_n 0, 1) := by decide +kernel
theorem dX6_rate_96 : decode cX6_rate 96 = .ok (.iload_n 2, 1) := by decide +kernel
theorem dX6_rate_97 : decode cX6_rate 97 = .ok (.invokevirtual 184, 3) := by decide +kernel
theorem dX6_rate_100 : decode cX6_rate 100 = .ok (.iadd, 1) := by decide +kernel
theorem dX6_rate_101 : decode cX6_rate 101 = .ok (.ireturn, 1) := by decide +kernel
theorem dX6_rate_102 : decode cX6_rate 102 = .ok (.iload_n 1, 1) := by decide +kernel
theorem dX6_rate_103 : decode cX6_rate 103 = .ok (.ifCond .ne 11, 3) := by decide +kernel
theorem dX6_rate_106 : decode cX6_rate 106 = .ok (.aload_n 0, 1) := by decide +kernel
theorem dX6_rate_107 : decode cX6_rate 107 = .ok (.iload_n 2, 1) := by decide +kernel
theorem dX6_rate_108 : decode cX6_rate 108 = .ok (.invokevirtual 249, 3) := by decide +kernel
theorem dX6_rate_111 : decode cX6_rate 111 = .ok (.goto 21, 3) := by decide +kernel
theorem dX6_rate_114 : decode cX6_rate 114 = .ok (.iload_n 1, 1) := by decide +kernel
theorem dX6_rate_115 : decode cX6_rate 115 = .ok (.iconst 1, 1) := by decide +kernel
theorem dX6_rate_116 : decode cX6_rate 116 = .ok (.if_icmp .ne 11, 3) := by decide +kernel
theorem dX6_rate_119 : decode cX6_rate 119 = .ok (.aload_n 0, 1) := by decide +kernel
theorem dX6_rate_120 : decode cX6_rate 120 = .ok (.iload_n 2, 1) := by decide +kernel
theorem dX6_rate_121 : decode cX6_rate 121 = .ok (.invokevirtual 257, 3) := by decide +kernel
theorem dX6_rate_124 : decode cX6_rate 124 = .ok (.goto 8, 3) := by decide +kernel
theorem dX6_rate_127 : decode cX6_rate 127 = .ok (.aload_n 0, 1) := by decide +kernel
theorem dX6_rate_128 : decode cX6_rate 128 = .ok (.iload_n 2, 1) := by decide +kernel
theorem dX6_rate_129 : decode cX6_rate 129 = .ok (.invokevirtual 262, 3) := by decide +kernel
theorem dX6_rate_132 : decode cX6_rate 132 = .ok (.ireturn, 1) := by decide +kernel
theorem dX6_keep_0 : decode cX6_keep 0 = .ok (.iload_n 1, 1) := by decide +kernel
theorem dX6_keep_1 : decode cX6_keep 1 = .ok (.i2l, 1) := by decide +kernel
theorem dX6_keep_2 : decode cX6_keep 2 = .ok (.lconst 0, 1) := by decide +kernel
theorem dX6_keep_3 : decode cX6_keep 3 = .ok (.lconst 1, 1) := by decide +kernel
theorem dX6_keep_4 : decode cX6_keep 4 = .ok (.invokestatic 82, 3) := by decide +kernel
theorem dX6_keep_7 : decode cX6_keep 7 = .ok (.ifCond .ne 5, 3) := by decide +kernel
theorem dX6_keep_10 : decode cX6_keep 10 = .ok (.iconst (-1), 1) := by decide +kernel
theorem dX6_keep_11 : decode cX6_keep 11 = .ok (.ireturn, 1) := by decide +kernel
theorem dX6_keep_12 : decode cX6_keep 12 = .ok (.iconst 0, 1) := by decide +kernel
theorem dX6_keep_13 : decode cX6_keep 13 = .ok (.istore_n 2, 1) := by decide +kernel
theorem dX6_keep_14 : decode cX6_keep 14 = .ok (.iload_n 2, 1) := by decide +kernel
theorem dX6_keep_15 : decode cX6_keep 15 = .ok (.bipush 8, 2) := by decide +kernel
theorem dX6_keep_17 : decode cX6_keep 17 = .ok (.if_icmp .ge 26, 3) := by decide +kernel
theorem dX6_keep_20 : decode cX6_keep 20 = .ok (.aload_n 0, 1) := by decide +kernel
theorem dX6_keep_21 : decode cX6_keep 21 = .ok (.getfield 75, 3) := by decide +kernel
theorem dX6_keep_24 : decode cX6_keep 24 = .ok (.bipush 8, 2) := by decide +kernel
theorem dX6_keep_26 : decode cX6_keep 26 = .ok (.iload_n 1, 1) := by decide +kernel
theorem dX6_keep_27 : decode cX6_keep 27 = .ok (.imul, 1) := by decide +kernel
theorem dX6_keep_28 : decode cX6_keep 28 = .ok (.iload_n 2, 1) := by decide +kernel
theorem dX6_keep_29 : decode cX6_keep 29 = .ok (.iadd, 1) := by decide +kernel
theorem dX6_keep_30 : decode cX6_keep 30 = .ok (.aload_n 0, 1) := by decide +kernel
theorem dX6_keep_31 : decode cX6_keep 31 = .ok (.getfield 32, 3) := by decide +kernel
theorem dX6_keep_34 : decode cX6_keep 34 = .ok (.iload_n 2, 1) := by decide +kernel
theorem dX6_keep_35 : decode cX6_keep 35 = .ok (.iaload, 1) := by decide +kernel
theorem dX6_keep_36 : decode cX6_keep 36 = .ok (.iastore, 1) := by decide +kernel
theorem dX6_keep_37 : decode cX6_keep 37 = .ok (.iinc 2 1, 3) := by decide +kernel
theorem dX6_keep_40 : decode cX6_keep 40 = .ok (.goto (-26), 3) := by decide +kernel
theorem dX6_keep_43 : decode cX6_keep 43 = .ok (.aload_n 0, 1) := by decide +kernel
theorem dX6_keep_44 : decode cX6_keep 44 = .ok (.getfield 72, 3) := by decide +kernel
theorem dX6_keep_47 : decode cX6_keep 47 = .ok (.iload_n 1, 1) := by decide +kernel
theorem dX6_keep_48 : decode cX6_keep 48 = .ok (.iconst 1, 1) := by decide +kernel
theorem dX6_keep_49 : decode cX6_keep 49 = .ok (.bastore, 1) := by decide +kernel
theorem dX6_keep_50 : decode cX6_keep 50 = .ok (.aload_n 0, 1) := by decide +kernel
theorem dX6_keep_51 : decode cX6_keep 51 = .ok (.getfield 32, 3) := by decide +kernel
theorem dX6_keep_54 : decode cX6_keep 54 = .ok (.bipush 7, 2) := by decide +kernel
theorem dX6_keep_56 : decode cX6_keep 56 = .ok (.iaload, 1) := by decide +kernel
theorem dX6_keep_57 : decode cX6_keep 57 = .ok (.ireturn, 1) := by decide +kernel
theorem dX6_back_0 : decode cX6_back 0 = .ok (.iload_n 1, 1) := by decide +kernel
theorem dX6_back_1 : decode cX6_back 1 = .ok (.i2l, 1) := by decide +kernel
theorem dX6_back_2 : decode cX6_back 2 = .ok (.lconst 0, 1) := by decide +kernel
theorem dX6_back_3 : decode cX6_back 3 = .ok (.lconst 1, 1) := by decide +kernel
theorem dX6_back_4 : decode cX6_back 4 = .ok (.invokestatic 82, 3) := by decide +kernel
theorem dX6_back_7 : decode cX6_back 7 = .ok (.ifCond .ne 5, 3) := by decide +kernel
theorem dX6_back_10 : decode cX6_back 10 = .ok (.iconst (-1), 1) := by decide +kernel
theorem dX6_back_11 : decode cX6_back 11 = .ok (.ireturn, 1) := by decide +kernel
theorem dX6_back_12 : decode cX6_back 12 = .ok (.aload_n 0, 1) := by decide +kernel
theorem dX6_back_13 : decode cX6_back 13 = .ok (.getfield 72, 3) := by decide +kernel
theorem dX6_back_16 : decode cX6_back 16 = .ok (.iload_n 1, 1) := by decide +kernel
theorem dX6_back_17 : decode cX6_back 17 = .ok (.baload, 1) := by decide +kernel
theorem dX6_back_18 : decode cX6_back 18 = .ok (.ifCond .ne 6, 3) := by decide +kernel
theorem dX6_back_21 : decode cX6_back 21 = .ok (.bipush (-2), 2) := by decide +kernel
theorem dX6_back_23 : decode cX6_back 23 = .ok (.ireturn, 1) := by decide +kernel
theorem dX6_back_24 : decode cX6_back 24 = .ok (.iconst 0, 1) := by decide +kernel
theorem dX6_back_25 : decode cX6_back 25 = .ok (.istore_n 2, 1) := by decide +kernel
theorem dX6_back_26 : decode cX6_back 26 = .ok (.iload_n 2, 1) := by decide +kernel
theorem dX6_back_27 : decode cX6_back 27 = .ok (.bipush 8, 2) := by decide +kernel
theorem dX6_back_29 : decode cX6_back 29 = .ok (.if_icmp .ge 26, 3) := by decide +kernel
theorem dX6_back_32 : decode cX6_back 32 = .ok (.aload_n 0, 1) := by decide +kernel
theorem dX6_back_33 : decode cX6_back 33 = .ok (.getfield 32, 3) := by decide +kernel
theorem dX6_back_36 : decode cX6_back 36 = .ok (.iload_n 2, 1) := by decide +kernel
theorem dX6_back_37 : decode cX6_back 37 = .ok (.aload_n 0, 1) := by decide +kernel
theorem dX6_back_38 : decode cX6_back 38 = .ok (.getfield 75, 3) := by decide +kernel
theorem dX6_back_41 : decode cX6_back 41 = .ok (.bipush 8, 2) := by decide +kernel
theorem dX6_back_43 : decode cX6_back 43 = .ok (.iload_n 1, 1) := by decide +kernel
theorem dX6_back_44 : decode cX6_back 44 = .ok (.imul, 1) := by decide +kernel
theorem dX6_back_45 : decode cX6_back 45 = .ok (.iload_n 2, 1) := by decide +kernel
theorem dX6_back_46 : decode cX6_back 46 = .ok (.iadd, 1) := by decide +kernel
theorem dX6_back_47 : decode cX6_back 47 = .ok (.iaload, 1) := by decide +kernel
theorem dX6_back_48 : decode cX6_back 48 = .ok (.iastore, 1) := by decide +kernel
theorem dX6_back_49 : decode cX6_back 49 = .ok (.iinc 2 1, 3) := by decide +kernel
theorem dX6_back_52 : decode cX6_back 52 = .ok (.goto (-26), 3) := by decide +kernel
theorem dX6_back_55 : decode cX6_back 55 = .ok (.aload_n 0, 1) := by decide +kernel
theorem dX6_back_56 : decode cX6_back 56 = .ok (.iconst 0, 1) := by decide +kernel
theorem dX6_back_57 : decode cX6_back 57 = .ok (.putfield 162, 3) := by decide +kernel
theorem dX6_back_60 : decode cX6_back 60 = .ok (.aload_n 0, 1) := by decide +kernel
theorem dX6_back_61 : decode cX6_back 61 = .ok (.getfield 32, 3) := by decide +kernel
theorem dX6_back_64 : decode cX6_back 64 = .ok (.bipush 7, 2) := by decide +kernel
theorem dX6_back_66 : decode cX6_back 66 = .ok (.iaload, 1) := by decide +kernel
theorem dX6_back_67 : decode cX6_back 67 = .ok (.ireturn, 1) := by decide +kernel
theorem dX6_count_0 : decode cX6_count 0 = .ok (.iload_n 1, 1) := by decide +kernel
theorem dX6_count_1 : decode cX6_count 1 = .ok (.ifCond .ne 10, 3) := by decide +kernel
theorem dX6_count_4 : decode cX6_count 4 = .ok (.aload_n 0, 1) := by decide +kernel
theorem dX6_count_5 : decode cX6_count 5 = .ok (.getfield 78, 3) := by decide +kernel
theorem dX6_count_8 : decode cX6_count 8 = .ok (.goto 40, 3) := by decide +kernel
theorem dX6_count_11 : decode cX6_count 11 = .ok (.iload_n 1, 1) := by decide +kernel
theorem dX6_count_12 : decode cX6_count 12 = .ok (.iconst 1, 1) := by decide +kernel
theorem dX6_count_13 : decode cX6_count 13 = .ok (.if_icmp .ne 10, 3) := by decide +kernel
theorem dX6_count_16 : decode cX6_count 16 = .ok (.aload_n 0, 1) := by decide +kernel
theorem dX6_count_17 : decode cX6_count 17 = .ok (.getfield 86, 3) := by decide +kernel
theorem dX6_count_20 : decode cX6_count 20 = .ok (.goto 28, 3) := by decide +kernel
theorem dX6_count_23 : decode cX6_count 23 = .ok (.iload_n 1, 1) := by decide +kernel
theorem dX6_count_24 : decode cX6_count 24 = .ok (.iconst 2, 1) := by decide +kernel
theorem dX6_count_25 : decode cX6_count 25 = .ok (.if_icmp .ne 10, 3) := by decide +kernel
theorem dX6_count_28 : decode cX6_count 28 = .ok (.aload_n 0, 1) := by decide +kernel
theorem dX6_count_29 : decode cX6_count 29 = .ok (.getfield 159, 3) := by decide +kernel
theorem dX6_count_32 : decode cX6_count 32 = .ok (.goto 16, 3) := by decide +kernel
theorem dX6_count_35 : decode cX6_count 35 = .ok (.iload_n 1, 1) := by decide +kernel
theorem dX6_count_36 : decode cX6_count 36 = .ok (.iconst 3, 1) := by decide +kernel
theorem dX6_count_37 : decode cX6_count 37 = .ok (.if_icmp .ne 10, 3) := by decide +kernel
theorem dX6_count_40 : decode cX6_count 40 = .ok (.aload_n 0, 1) := by decide +kernel
theorem dX6_count_41 : decode cX6_count 41 = .ok (.getfield 91, 3) := by decide +kernel
theorem dX6_count_44 : decode cX6_count 44 = .ok (.goto 4, 3) := by decide +kernel
theorem dX6_count_47 : decode cX6_count 47 = .ok (.iconst (-1), 1) := by decide +kernel
theorem dX6_count_48 : decode cX6_count 48 = .ok (.ireturn, 1) := by decide +kernel
theorem dX6_trace_0 : decode cX6_trace 0 = .ok (.aload_n 0, 1) := by decide +kernel
theorem dX6_trace_1 : decode cX6_trace 1 = .ok (.getfield 245, 3) := by decide +kernel
theorem dX6_trace_4 : decode cX6_trace 4 = .ok (.lreturn, 1) := by decide +kernel
theorem dJ9_max_7cf53_0 : decode cJ9_max_7cf53 0 = .ok (.iload_n 0, 1) := by decide +kernel
theorem dJ9_max_7cf53_1 : decode cJ9_max_7cf53 1 = .ok (.iload_n 1, 1) := by decide +kernel
theorem dJ9_max_7cf53_2 : decode cJ9_max_7cf53 2 = .ok (.if_icmp .lt 7, 3) := by decide +kernel
theorem dJ9_max_7cf53_5 : decode cJ9_max_7cf53 5 = .ok (.iload_n 0, 1) := by decide +kernel
theorem dJ9_max_7cf53_6 : decode cJ9_max_7cf53 6 = .ok (.goto 4, 3) := by decide +kernel
theorem dJ9_max_7cf53_9 : decode cJ9_max_7cf53 9 = .ok (.iload_n 1, 1) := by decide +kernel
theorem dJ9_max_7cf53_10 : decode cJ9_max_7cf53 10 = .ok (.ireturn, 1) := by decide +kernel
theorem dJ9_min_7cf53_0 : decode cJ9_min_7cf53 0 = .ok (.iload_n 0, 1) := by decide +kernel
theorem dJ9_min_7cf53_1 : decode cJ9_min_7cf53 1 = .ok (.iload_n 1, 1) := by decide +kernel
theorem dJ9_min_7cf53_2 : decode cJ9_min_7cf53 2 = .ok (.if_icmp .gt 7, 3) := by decide +kernel
theorem dJ9_min_7cf53_5 : decode cJ9_min_7cf53 5 = .ok (.iload_n 0, 1) := by decide +kernel
theorem dJ9_min_7cf53_6 : decode cJ9_min_7cf53 6 = .ok (.goto 4, 3) := by decide +kernel
theorem dJ9_min_7cf53_9 : decode cJ9_min_7cf53 9 = .ok (.iload_n 1, 1) := by decide +kernel
theorem dJ9_min_7cf53_10 : decode cJ9_min_7cf53 10 = .ok (.ireturn, 1) := by decide +kernel
theorem dJ7_fill_53178_0 : decode cJ7_fill_53178 0 = .ok (.iconst 0, 1) := by decide +kernel
theorem dJ7_fill_53178_1 : decode cJ7_fill_53178 1 = .ok (.istore_n 2, 1) := by decide +kernel
theorem dJ7_fill_53178_2 : decode cJ7_fill_53178 2 = .ok (.aload_n 0, 1) := by decide +kernel
theorem dJ7_fill_53178_3 : decode cJ7_fill_53178 3 = .ok (.arraylength, 1) := by decide +kernel
theorem dJ7_fill_53178_4 : decode cJ7_fill_53178 4 = .ok (.istore_n 3, 1) := by decide +kernel
theorem dJ7_fill_53178_5 : decode cJ7_fill_53178 5 = .ok (.iload_n 2, 1) := by decide +kernel
theorem dJ7_fill_53178_6 : decode cJ7_fill_53178 6 = .ok (.iload_n 3, 1) := by decide +kernel
theorem dJ7_fill_53178_7 : decode cJ7_fill_53178 7 = .ok (.if_icmp .ge 13, 3) := by decide +kernel
theorem dJ7_fill_53178_10 : decode cJ7_fill_53178 10 = .ok (.aload_n 0, 1) := by decide +kernel
theorem dJ7_fill_53178_11 : decode cJ7_fill_53178 11 = .ok (.iload_n 2, 1) := by decide +kernel
theorem dJ7_fill_53178_12 : decode cJ7_fill_53178 12 = .ok (.iload_n 1, 1) := by decide +kernel
theorem dJ7_fill_53178_13 : decode cJ7_fill_53178 13 = .ok (.iastore, 1) := by decide +kernel
theorem dJ7_fill_53178_14 : decode cJ7_fill_53178 14 = .ok (.iinc 2 1, 3) := by decide +kernel
theorem dJ7_fill_53178_17 : decode cJ7_fill_53178 17 = .ok (.goto (-12), 3) := by decide +kernel
theorem dJ7_fill_53178_20 : decode cJ7_fill_53178 20 = .ok (.return_, 1) := by decide +kernel
theorem dL_law_0 : decode cL_law 0 = .ok (.new 7, 3) := by decide +kernel
theorem dL_law_3 : decode cL_law 3 = .ok (.dup, 1) := by decide +kernel
theorem dL_law_4 : decode cL_law 4 = .ok (.invokespecial 9, 3) := by decide +kernel
theorem dL_law_7 : decode cL_law 7 = .ok (.astore_n 1, 1) := by decide +kernel
theorem dL_law_8 : decode cL_law 8 = .ok (.new 10, 3) := by decide +kernel
theorem dL_law_11 : decode cL_law 11 = .ok (.dup, 1) := by decide +kernel
theorem dL_law_12 : decode cL_law 12 = .ok (.invokespecial 12, 3) := by decide +kernel
theorem dL_law_15 : decode cL_law 15 = .ok (.astore_n 2, 1) := by decide +kernel
theorem dL_law_16 : decode cL_law 16 = .ok (.iconst 0, 1) := by decide +kernel
theorem dL_law_17 : decode cL_law 17 = .ok (.istore_n 3, 1) := by decide +kernel
theorem dL_law_18 : decode cL_law 18 = .ok (.iload_n 3, 1) := by decide +kernel
theorem dL_law_19 : decode cL_law 19 = .ok (.aload_n 0, 1) := by decide +kernel
theorem dL_law_20 : decode cL_law 20 = .ok (.arraylength, 1) := by decide +kernel
theorem dL_law_21 : decode cL_law 21 = .ok (.bipush 6, 2) := by decide +kernel
theorem dL_law_23 : decode cL_law 23 = .ok (.isub, 1) := by decide +kernel
theorem dL_law_24 : decode cL_law 24 = .ok (.if_icmp .gt 789, 3) := by decide +kernel
theorem dL_law_27 : decode cL_law 27 = .ok (.aload_n 0, 1) := by decide +kernel
theorem dL_law_28 : decode cL_law 28 = .ok (.iload_n 3, 1) := by decide +kernel
theorem dL_law_29 : decode cL_law 29 = .ok (.iaload, 1) := by decide +kernel
theorem dL_law_30 : decode cL_law 30 = .ok (.bipush 31, 2) := by decide +kernel
theorem dL_law_32 : decode cL_law 32 = .ok (.iand, 1) := by decide +kernel
theorem dL_law_33 : decode cL_law 33 = .ok (.tableswitch 774 0 23 #[111, 134, 147, 160, 193, 226, 259, 282, 305, 338, 351, 364, 407, 430, 453, 486, 519, 552, 595, 658, 691, 714, 737, 760], 111) := by decide +kernel
theorem dL_law_144 : decode cL_law 144 = .ok (.aload_n 1, 1) := by decide +kernel
theorem dL_law_145 : decode cL_law 145 = .ok (.aload_n 0, 1) := by decide +kernel
theorem dL_law_146 : decode cL_law 146 = .ok (.iload_n 3, 1) := by decide +kernel
theorem dL_law_147 : decode cL_law 147 = .ok (.iconst 1, 1) := by decide +kernel
theorem dL_law_148 : decode cL_law 148 = .ok (.iadd, 1) := by decide +kernel
theorem dL_law_149 : decode cL_law 149 = .ok (.iaload, 1) := by decide +kernel
theorem dL_law_150 : decode cL_law 150 = .ok (.invokevirtual 13, 3) := by decide +kernel
theorem dL_law_153 : decode cL_law 153 = .ok (.aload_n 2, 1) := by decide +kernel
theorem dL_law_154 : decode cL_law 154 = .ok (.aload_n 0, 1) := by decide +kernel
theorem dL_law_155 : decode cL_law 155 = .ok (.iload_n 3, 1) := by decide +kernel
theorem dL_law_156 : decode cL_law 156 = .ok (.iconst 1, 1) := by decide +kernel
theorem dL_law_157 : decode cL_law 157 = .ok (.iadd, 1) := by decide +kernel
theorem dL_law_158 : decode cL_law 158 = .ok (.iaload, 1) := by decide +kernel
theorem dL_law_159 : decode cL_law 159 = .ok (.invokevirtual 17, 3) := by decide +kernel
theorem dL_law_162 : decode cL_law 162 = .ok (.if_icmp .eq 645, 3) := by decide +kernel
theorem dL_law_165 : decode cL_law 165 = .ok (.iconst 0, 1) := by decide +kernel
theorem dL_law_166 : decode cL_law 166 = .ok (.ireturn, 1) := by decide +kernel
theorem dL_law_167 : decode cL_law 167 = .ok (.aload_n 1, 1) := by decide +kernel
theorem dL_law_168 : decode cL_law 168 = .ok (.invokevirtual 18, 3) := by decide +kernel
theorem dL_law_171 : decode cL_law 171 = .ok (.aload_n 2, 1) := by decide +kernel
theorem dL_law_172 : decode cL_law 172 = .ok (.invokevirtual 22, 3) := by decide +kernel
theorem dL_law_175 : decode cL_law 175 = .ok (.if_icmp .eq 632, 3) := by decide +kernel
theorem dL_law_178 : decode cL_law 178 = .ok (.iconst 0, 1) := by decide +kernel
theorem dL_law_179 : decode cL_law 179 = .ok (.ireturn, 1) := by decide +kernel
theorem dL_law_180 : decode cL_law 180 = .ok (.aload_n 1, 1) := by decide +kernel
theorem dL_law_181 : decode cL_law 181 = .ok (.invokevirtual 23, 3) := by decide +kernel
theorem dL_law_184 : decode cL_law 184 = .ok (.aload_n 2, 1) := by decide +kernel
theorem dL_law_185 : decode cL_law 185 = .ok (.invokevirtual 26, 3) := by decide +kernel
theorem dL_law_188 : decode cL_law 188 = .ok (.if_icmp .eq 619, 3) := by decide +kernel
theorem dL_law_191 : decode cL_law 191 = .ok (.iconst 0, 1) := by decide +kernel
theorem dL_law_192 : decode cL_law 192 = .ok (.ireturn, 1) := by decide +kernel
theorem dL_law_193 : decode cL_law 193 = .ok (.aload_n 1, 1) := by decide +kernel
theorem dL_law_194 : decode cL_law 194 = .ok (.aload_n 0, 1) := by decide +kernel
theorem dL_law_195 : decode cL_law 195 = .ok (.iload_n 3, 1) := by decide +kernel
theorem dL_law_196 : decode cL_law 196 = .ok (.iconst 1, 1) := by decide +kernel
theorem dL_law_197 : decode cL_law 197 = .ok (.iadd, 1) := by decide +kernel
theorem dL_law_198 : decode cL_law 198 = .ok (.iaload, 1) := by decide +kernel
theorem dL_law_199 : decode cL_law 199 = .ok (.aload_n 0, 1) := by decide +kernel
theorem dL_law_200 : decode cL_law 200 = .ok (.iload_n 3, 1) := by decide +kernel
theorem dL_law_201 : decode cL_law 201 = .ok (.iconst 2, 1) := by decide +kernel
theorem dL_law_202 : decode cL_law 202 = .ok (.iadd, 1) := by decide +kernel
theorem dL_law_203 : decode cL_law 203 = .ok (.iaload, 1) := by decide +kernel
theorem dL_law_204 : decode cL_law 204 = .ok (.invokevirtual 27, 3) := by decide +kernel
theorem dL_law_207 : decode cL_law 207 = .ok (.aload_n 2, 1) := by decide +kernel
theorem dL_law_208 : decode cL_law 208 = .ok (.aload_n 0, 1) := by decide +kernel
theorem dL_law_209 : decode cL_law 209 = .ok (.iload_n 3, 1) := by decide +kernel
theorem dL_law_210 : decode cL_law 210 = .ok (.iconst 1, 1) := by decide +kernel
theorem dL_law_211 : decode cL_law 211 = .ok (.iadd, 1) := by decide +kernel
theorem dL_law_212 : decode cL_law 212 = .ok (.iaload, 1) := by decide +kernel
theorem dL_law_213 : decode cL_law 213 = .ok (.aload_n 0, 1) := by decide +kernel
theorem dL_law_214 : decode cL_law 214 = .ok (.iload_n 3, 1) := by decide +kernel
theorem dL_law_215 : decode cL_law 215 = .ok (.iconst 2, 1) := by decide +kernel
theorem dL_law_216 : decode cL_law 216 = .ok (.iadd, 1) := by decide +kernel
theorem dL_law_217 : decode cL_law 217 = .ok (.iaload, 1) := by decide +kernel
theorem dL_law_218 : decode cL_law 218 = .ok (.invokevirtual 31, 3) := by decide +kernel
theorem dL_law_221 : decode cL_law 221 = .ok (.if_icmp .eq 586, 3) := by decide +kernel
theorem dL_law_224 : decode cL_law 224 = .ok (.iconst 0, 1) := by decide +kernel
theorem dL_law_225 : decode cL_law 225 = .ok (.ireturn, 1) := by decide +kernel
theorem dL_law_226 : decode cL_law 226 = .ok (.aload_n 1, 1) := by decide +kernel
theorem dL_law_227 : decode cL_law 227 = .ok (.aload_n 0, 1) := by decide +kernel
theorem dL_law_228 : decode cL_law 228 = .ok (.iload_n 3, 1) := by decide +kernel
theorem dL_law_229 : decode cL_law 229 = .ok (.iconst 1, 1) := by decide +kernel
theorem dL_law_230 : decode cL_law 230 = .ok (.iadd, 1) := by decide +kernel
theorem dL_law_231 : decode cL_law 231 = .ok (.iaload, 1) := by decide +kernel
theorem dL_law_232 : decode cL_law 232 = .ok (.aload_n 0, 1) := by decide +kernel
theorem dL_law_233 : decode cL_law 233 = .ok (.iload_n 3, 1) := by decide +kernel
theorem dL_law_234 : decode cL_law 234 = .ok (.iconst 2, 1) := by decide +kernel
theorem dL_law_235 : decode cL_law 235 = .ok (.iadd, 1) := by decide +kernel
theorem dL_law_236 : decode cL_law 236 = .ok (.iaload, 1) := by decide +kernel
theorem dL_law_237 : decode cL_law 237 = .ok (.invokevirtual 32, 3) := by decide +kernel
theorem dL_law_240 : decode cL_law 240 = .ok (.aload_n 2, 1) := by decide +kernel
theorem dL_law_241 : decode cL_law 241 = .ok (.aload_n 0, 1) := by decide +kernel
theorem dL_law_242 : decode cL_law 242 = .ok (.iload_n 3, 1) := by decide +kernel
theorem dL_law_243 : decode cL_law 243 = .ok (.iconst 1, 1) := by decide +kernel
theorem dL_law_244 : decode cL_law 244 = .ok (.iadd, 1) := by decide +kernel
theorem dL_law_245 : decode cL_law 245 = .ok (.iaload, 1) := by decide +kernel
theorem dL_law_246 : decode cL_law 246 = .ok (.aload_n 0, 1) := by decide +kernel
theorem dL_law_247 : decode cL_law 247 = .ok (.iload_n 3, 1) := by decide +kernel
theorem dL_law_248 : decode cL_law 248 = .ok (.iconst 2, 1) := by decide +kernel
theorem dL_law_249 : decode cL_law 249 = .ok (.iadd, 1) := by decide +kernel
theorem dL_law_250 : decode cL_law 250 = .ok (.iaload, 1) := by decide +kernel
theorem dL_law_251 : decode cL_law 251 = .ok (.invokevirtual 35, 3) := by decide +kernel
theorem dL_law_254 : decode cL_law 254 = .ok (.if_icmp .eq 553, 3) := by decide +kernel
theorem dL_law_257 : decode cL_law 257 = .ok (.iconst 0, 1) := by decide +kernel
theorem dL_law_258 : decode cL_law 258 = .ok (.ireturn, 1) := by decide +kernel
theorem dL_law_259 : decode cL_law 259 = .ok (.aload_n 1, 1) := by decide +kernel
theorem dL_law_260 : decode cL_law 260 = .ok (.aload_n 0, 1) := by decide +kernel
theorem dL_law_261 : decode cL_law 261 = .ok (.iload_n 3, 1) := by decide +kernel
theorem dL_law_262 : decode cL_law 262 = .ok (.iconst 1, 1) := by decide +kernel
theorem dL_law_263 : decode cL_law 263 = .ok (.iadd, 1) := by decide +kernel
theorem dL_law_264 : decode cL_law 264 = .ok (.iaload, 1) := by decide +kernel
theorem dL_law_265 : decode cL_law 265 = .ok (.aload_n 0, 1) := by decide +kernel
theorem dL_law_266 : decode cL_law 266 = .ok (.iload_n 3, 1) := by decide +kernel
theorem dL_law_267 : decode cL_law 267 = .ok (.iconst 2, 1) := by decide +kernel
theorem dL_law_268 : decode cL_law 268 = .ok (.iadd, 1) := by decide +kernel
theorem dL_law_269 : decode cL_law 269 = .ok (.iaload, 1) := by decide +kernel
theorem dL_law_270 : decode cL_law 270 = .ok (.invokevirtual 36, 3) := by decide +kernel
theorem dL_law_273 : decode cL_law 273 = .ok (.aload_n 2, 1) := by decide +kernel
theorem dL_law_274 : decode cL_law 274 = .ok (.aload_n 0, 1) := by decide +kernel
theorem dL_law_275 : decode cL_law 275 = .ok (.iload_n 3, 1) := by decide +kernel
theorem dL_law_276 : decode cL_law 276 = .ok (.iconst 1, 1) := by decide +kernel
theorem dL_law_277 : decode cL_law 277 = .ok (.iadd, 1) := by decide +kernel
theorem dL_law_278 : decode cL_law 278 = .ok (.iaload, 1) := by decide +kernel
theorem dL_law_279 : decode cL_law 279 = .ok (.aload_n 0, 1) := by decide +kernel
theorem dL_law_280 : decode cL_law 280 = .ok (.iload_n 3, 1) := by decide +kernel
theorem dL_law_281 : decode cL_law 281 = .ok (.iconst 2, 1) := by decide +kernel
theorem dL_law_282 : decode cL_law 282 = .ok (.iadd, 1) := by decide +kernel
theorem dL_law_283 : decode cL_law 283 = .ok (.iaload, 1) := by decide +kernel
theorem dL_law_284 : decode cL_law 284 = .ok (.invokevirtual 39, 3) := by decide +kernel
theorem dL_law_287 : decode cL_law 287 = .ok (.if_icmp .eq 520, 3) := by decide +kernel
theorem dL_law_290 : decode cL_law 290 = .ok (.iconst 0, 1) := by decide +kernel
theorem dL_law_291 : decode cL_law 291 = .ok (.ireturn, 1) := by decide +kernel
theorem dL_law_292 : decode cL_law 292 = .ok (.aload_n 1, 1) := by decide +kernel
theorem dL_law_293 : decode cL_law 293 = .ok (.aload_n 0, 1) := by decide +kernel
theorem dL_law_294 : decode cL_law 294 = .ok (.iload_n 3, 1) := by decide +kernel
theorem dL_law_295 : decode cL_law 295 = .ok (.iconst 1, 1) := by decide +kernel
theorem dL_law_296 : decode cL_law 296 = .ok (.iadd, 1) := by decide +kernel
theorem dL_law_297 : decode cL_law 297 = .ok (.iaload, 1) := by decide +kernel
theorem dL_law_298 : decode cL_law 298 = .ok (.invokevirtual 40, 3) := by decide +kernel
theorem dL_law_301 : decode cL_law 301 = .ok (.aload_n 2, 1) := by decide +kernel
theorem dL_law_302 : decode cL_law 302 = .ok (.aload_n 0, 1) := by decide +kernel
theorem dL_law_303 : decode cL_law 303 = .ok (.iload_n 3, 1) := by decide +kernel
theorem dL_law_304 : decode cL_law 304 = .ok (.iconst 1, 1) := by decide +kernel
theorem dL_law_305 : decode cL_law 305 = .ok (.iadd, 1) := by decide +kernel
theorem dL_law_306 : decode cL_law 306 = .ok (.iaload, 1) := by decide +kernel
theorem dL_law_307 : decode cL_law 307 = .ok (.invokevirtual 43, 3) := by decide +kernel
theorem dL_law_310 : decode cL_law 310 = .ok (.if_icmp .eq 497, 3) := by decide +kernel
theorem dL_law_313 : decode cL_law 313 = .ok (.iconst 0, 1) := by decide +kernel
theorem dL_law_314 : decode cL_law 314 = .ok (.ireturn, 1) := by decide +kernel
theorem dL_law_315 : decode cL_law 315 = .ok (.aload_n 1, 1) := by decide +kernel
theorem dL_law_316 : decode cL_law 316 = .ok (.aload_n 0, 1) := by decide +kernel
theorem dL_law_317 : decode cL_law 317 = .ok (.iload_n 3, 1) := by decide +kernel
theorem dL_law_318 : decode cL_law 318 = .ok (.iconst 1, 1) := by decide +kernel
theorem dL_law_319 : decode cL_law 319 = .ok (.iadd, 1) := by decide +kernel
theorem dL_law_320 : decode cL_law 320 = .ok (.iaload, 1) := by decide +kernel
theorem dL_law_321 : decode cL_law 321 = .ok (.invokevirtual 44, 3) := by decide +kernel
theorem dL_law_324 : decode cL_law 324 = .ok (.aload_n 2, 1) := by decide +kernel
theorem dL_law_325 : decode cL_law 325 = .ok (.aload_n 0, 1) := by decide +kernel
theorem dL_law_326 : decode cL_law 326 = .ok (.iload_n 3, 1) := by decide +kernel
theorem dL_law_327 : decode cL_law 327 = .ok (.iconst 1, 1) := by decide +kernel
theorem dL_law_328 : decode cL_law 328 = .ok (.iadd, 1) := by decide +kernel
theorem dL_law_329 : decode cL_law 329 = .ok (.iaload, 1) := by decide +kernel
theorem dL_law_330 : decode cL_law 330 = .ok (.invokevirtual 47, 3) := by decide +kernel
theorem dL_law_333 : decode cL_law 333 = .ok (.if_icmp .eq 474, 3) := by decide +kernel
theorem dL_law_336 : decode cL_law 336 = .ok (.iconst 0, 1) := by decide +kernel
theorem dL_law_337 : decode cL_law 337 = .ok (.ireturn, 1) := by decide +kernel
theorem dL_law_338 : decode cL_law 338 = .ok (.aload_n 1, 1) := by decide +kernel
theorem dL_law_339 : decode cL_law 339 = .ok (.aload_n 0, 1) := by decide +kernel
theorem dL_law_340 : decode cL_law 340 = .ok (.iload_n 3, 1) := by decide +kernel
theorem dL_law_341 : decode cL_law 341 = .ok (.iconst 1, 1) := by decide +kernel
theorem dL_law_342 : decode cL_law 342 = .ok (.iadd, 1) := by decide +kernel
theorem dL_law_343 : decode cL_law 343 = .ok (.iaload, 1) := by decide +kernel
theorem dL_law_344 : decode cL_law 344 = .ok (.aload_n 0, 1) := by decide +kernel
theorem dL_law_345 : decode cL_law 345 = .ok (.iload_n 3, 1) := by decide +kernel
theorem dL_law_346 : decode cL_law 346 = .ok (.iconst 2, 1) := by decide +kernel
theorem dL_law_347 : decode cL_law 347 = .ok (.iadd, 1) := by decide +kernel
theorem dL_law_348 : decode cL_law 348 = .ok (.iaload, 1) := by decide +kernel
theorem dL_law_349 : decode cL_law 349 = .ok (.invokevirtual 48, 3) := by decide +kernel
theorem dL_law_352 : decode cL_law 352 = .ok (.aload_n 2, 1) := by decide +kernel
theorem dL_law_353 : decode cL_law 353 = .ok (.aload_n 0, 1) := by decide +kernel
theorem dL_law_354 : decode cL_law 354 = .ok (.iload_n 3, 1) := by decide +kernel
theorem dL_law_355 : decode cL_law 355 = .ok (.iconst 1, 1) := by decide +kernel
theorem dL_law_356 : decode cL_law 356 = .ok (.iadd, 1) := by decide +kernel
theorem dL_law_357 : decode cL_law 357 = .ok (.iaload, 1) := by decide +kernel
theorem dL_law_358 : decode cL_law 358 = .ok (.aload_n 0, 1) := by decide +kernel
theorem dL_law_359 : decode cL_law 359 = .ok (.iload_n 3, 1) := by decide +kernel
theorem dL_law_360 : decode cL_law 360 = .ok (.iconst 2, 1) := by decide +kernel
theorem dL_law_361 : decode cL_law 361 = .ok (.iadd, 1) := by decide +kernel
theorem dL_law_362 : decode cL_law 362 = .ok (.iaload, 1) := by decide +kernel
theorem dL_law_363 : decode cL_law 363 = .ok (.invokevirtual 51, 3) := by decide +kernel
theorem dL_law_366 : decode cL_law 366 = .ok (.if_icmp .eq 441, 3) := by decide +kernel
theorem dL_law_369 : decode cL_law 369 = .ok (.iconst 0, 1) := by decide +kernel
theorem dL_law_370 : decode cL_law 370 = .ok (.ireturn, 1) := by decide +kernel
theorem dL_law_371 : decode cL_law 371 = .ok (.aload_n 1, 1) := by decide +kernel
theorem dL_law_372 : decode cL_law 372 = .ok (.invokevirtual 52, 3) := by decide +kernel
theorem dL_law_375 : decode cL_law 375 = .ok (.aload_n 2, 1) := by decide +kernel
theorem dL_law_376 : decode cL_law 376 = .ok (.invokevirtual 55, 3) := by decide +kernel
theorem dL_law_379 : decode cL_law 379 = .ok (.if_icmp .eq 428, 3) := by decide +kernel
theorem dL_law_382 : decode cL_law 382 = .ok (.iconst 0, 1) := by decide +kernel
theorem dL_law_383 : decode cL_law 383 = .ok (.ireturn, 1) := by decide +kernel
theorem dL_law_384 : decode cL_law 384 = .ok (.aload_n 1, 1) := by decide +kernel
theorem dL_law_385 : decode cL_law 385 = .ok (.invokevirtual 56, 3) := by decide +kernel
theorem dL_law_388 : decode cL_law 388 = .ok (.aload_n 2, 1) := by decide +kernel
theorem dL_law_389 : decode cL_law 389 = .ok (.invokevirtual 59, 3) := by decide +kernel
theorem dL_law_392 : decode cL_law 392 = .ok (.if_icmp .eq 415, 3) := by decide +kernel
theorem dL_law_395 : decode cL_law 395 = .ok (.iconst 0, 1) := by decide +kernel
theorem dL_law_396 : decode cL_law 396 = .ok (.ireturn, 1) := by decide +kernel
theorem dL_law_397 : decode cL_law 397 = .ok (.aload_n 1, 1) := by decide +kernel
theorem dL_law_398 : decode cL_law 398 = .ok (.aload_n 0, 1) := by decide +kernel
theorem dL_law_399 : decode cL_law 399 = .ok (.iload_n 3, 1) := by decide +kernel
theorem dL_law_400 : decode cL_law 400 = .ok (.iconst 1, 1) := by decide +kernel
theorem dL_law_401 : decode cL_law 401 = .ok (.iadd, 1) := by decide +kernel
theorem dL_law_402 : decode cL_law 402 = .ok (.iaload, 1) := by decide +kernel
theorem dL_law_403 : decode cL_law 403 = .ok (.aload_n 0, 1) := by decide +kernel
theorem dL_law_404 : decode cL_law 404 = .ok (.iload_n 3, 1) := by decide +kernel
theorem dL_law_405 : decode cL_law 405 = .ok (.iconst 2, 1) := by decide +kernel
theorem dL_law_406 : decode cL_law 406 = .ok (.iadd, 1) := by decide +kernel
theorem dL_law_407 : decode cL_law 407 = .ok (.iaload, 1) := by decide +kernel
theorem dL_law_408 : decode cL_law 408 = .ok (.aload_n 0, 1) := by decide +kernel
theorem dL_law_409 : decode cL_law 409 = .ok (.iload_n 3, 1) := by decide +kernel
theorem dL_law_410 : decode cL_law 410 = .ok (.iconst 3, 1) := by decide +kernel
theorem dL_law_411 : decode cL_law 411 = .ok (.iadd, 1) := by decide +kernel
theorem dL_law_412 : decode cL_law 412 = .ok (.iaload, 1) := by decide +kernel
theorem dL_law_413 : decode cL_law 413 = .ok (.invokevirtual 60, 3) := by decide +kernel
theorem dL_law_416 : decode cL_law 416 = .ok (.aload_n 2, 1) := by decide +kernel
theorem dL_law_417 : decode cL_law 417 = .ok (.aload_n 0, 1) := by decide +kernel
theorem dL_law_418 : decode cL_law 418 = .ok (.iload_n 3, 1) := by decide +kernel
theorem dL_law_419 : decode cL_law 419 = .ok (.iconst 1, 1) := by decide +kernel
theorem dL_law_420 : decode cL_law 420 = .ok (.iadd, 1) := by decide +kernel
theorem dL_law_421 : decode cL_law 421 = .ok (.iaload, 1) := by decide +kernel
theorem dL_law_422 : decode cL_law 422 = .ok (.aload_n 0, 1) := by decide +kernel
theorem dL_law_423 : decode cL_law 423 = .ok (.iload_n 3, 1) := by decide +kernel
theorem dL_law_424 : decode cL_law 424 = .ok (.iconst 2, 1) := by decide +kernel
theorem dL_law_425 : decode cL_law 425 = .ok (.iadd, 1) := by decide +kernel
theorem dL_law_426 : decode cL_law 426 = .ok (.iaload, 1) := by decide +kernel
theorem dL_law_427 : decode cL_law 427 = .ok (.aload_n 0, 1) := by decide +kernel
theorem dL_law_428 : decode cL_law 428 = .ok (.iload_n 3, 1) := by decide +kernel
theorem dL_law_429 : decode cL_law 429 = .ok (.iconst 3, 1) := by decide +kernel
theorem dL_law_430 : decode cL_law 430 = .ok (.iadd, 1) := by decide +kernel
theorem dL_law_431 : decode cL_law 431 = .ok (.iaload, 1) := by decide +kernel
theorem dL_law_432 : decode cL_law 432 = .ok (.invokevirtual 64, 3) := by decide +kernel
theorem dL_law_435 : decode cL_law 435 = .ok (.if_icmp .eq 372, 3) := by decide +kernel
theorem dL_law_438 : decode cL_law 438 = .ok (.iconst 0, 1) := by decide +kernel
theorem dL_law_439 : decode cL_law 439 = .ok (.ireturn, 1) := by decide +kernel
theorem dL_law_440 : decode cL_law 440 = .ok (.aload_n 1, 1) := by decide +kernel
theorem dL_law_441 : decode cL_law 441 = .ok (.aload_n 0, 1) := by decide +kernel
theorem dL_law_442 : decode cL_law 442 = .ok (.iload_n 3, 1) := by decide +kernel
theorem dL_law_443 : decode cL_law 443 = .ok (.iconst 1, 1) := by decide +kernel
theorem dL_law_444 : decode cL_law 444 = .ok (.iadd, 1) := by decide +kernel
theorem dL_law_445 : decode cL_law 445 = .ok (.iaload, 1) := by decide +kernel
theorem dL_law_446 : decode cL_law 446 = .ok (.invokevirtual 65, 3) := by decide +kernel
theorem dL_law_449 : decode cL_law 449 = .ok (.aload_n 2, 1) := by decide +kernel
theorem dL_law_450 : decode cL_law 450 = .ok (.aload_n 0, 1) := by decide +kernel
theorem dL_law_451 : decode cL_law 451 = .ok (.iload_n 3, 1) := by decide +kernel
theorem dL_law_452 : decode cL_law 452 = .ok (.iconst 1, 1) := by decide +kernel
theorem dL_law_453 : decode cL_law 453 = .ok (.iadd, 1) := by decide +kernel
theorem dL_law_454 : decode cL_law 454 = .ok (.iaload, 1) := by decide +kernel
theorem dL_law_455 : decode cL_law 455 = .ok (.invokevirtual 68, 3) := by decide +kernel
theorem dL_law_458 : decode cL_law 458 = .ok (.if_icmp .eq 349, 3) := by decide +kernel
theorem dL_law_461 : decode cL_law 461 = .ok (.iconst 0, 1) := by decide +kernel
theorem dL_law_462 : decode cL_law 462 = .ok (.ireturn, 1) := by decide +kernel
theorem dL_law_463 : decode cL_law 463 = .ok (.aload_n 1, 1) := by decide +kernel
theorem dL_law_464 : decode cL_law 464 = .ok (.aload_n 0, 1) := by decide +kernel
theorem dL_law_465 : decode cL_law 465 = .ok (.iload_n 3, 1) := by decide +kernel
theorem dL_law_466 : decode cL_law 466 = .ok (.iconst 1, 1) := by decide +kernel
theorem dL_law_467 : decode cL_law 467 = .ok (.iadd, 1) := by decide +kernel
theorem dL_law_468 : decode cL_law 468 = .ok (.iaload, 1) := by decide +kernel
theorem dL_law_469 : decode cL_law 469 = .ok (.invokevirtual 69, 3) := by decide +kernel
theorem dL_law_472 : decode cL_law 472 = .ok (.aload_n 2, 1) := by decide +kernel
theorem dL_law_473 : decode cL_law 473 = .ok (.aload_n 0, 1) := by decide +kernel
theorem dL_law_474 : decode cL_law 474 = .ok (.iload_n 3, 1) := by decide +kernel
theorem dL_law_475 : decode cL_law 475 = .ok (.iconst 1, 1) := by decide +kernel
theorem dL_law_476 : decode cL_law 476 = .ok (.iadd, 1) := by decide +kernel
theorem dL_law_477 : decode cL_law 477 = .ok (.iaload, 1) := by decide +kernel
theorem dL_law_478 : decode cL_law 478 = .ok (.invokevirtual 72, 3) := by decide +kernel
theorem dL_law_481 : decode cL_law 481 = .ok (.if_icmp .eq 326, 3) := by decide +kernel
theorem dL_law_484 : decode cL_law 484 = .ok (.iconst 0, 1) := by decide +kernel
theorem dL_law_485 : decode cL_law 485 = .ok (.ireturn, 1) := by decide +kernel
theorem dL_law_486 : decode cL_law 486 = .ok (.aload_n 1, 1) := by decide +kernel
theorem dL_law_487 : decode cL_law 487 = .ok (.aload_n 0, 1) := by decide +kernel
theorem dL_law_488 : decode cL_law 488 = .ok (.iload_n 3, 1) := by decide +kernel
theorem dL_law_489 : decode cL_law 489 = .ok (.iconst 1, 1) := by decide +kernel
theorem dL_law_490 : decode cL_law 490 = .ok (.iadd, 1) := by decide +kernel
theorem dL_law_491 : decode cL_law 491 = .ok (.iaload, 1) := by decide +kernel
theorem dL_law_492 : decode cL_law 492 = .ok (.aload_n 0, 1) := by decide +kernel
theorem dL_law_493 : decode cL_law 493 = .ok (.iload_n 3, 1) := by decide +kernel
theorem dL_law_494 : decode cL_law 494 = .ok (.iconst 2, 1) := by decide +kernel
theorem dL_law_495 : decode cL_law 495 = .ok (.iadd, 1) := by decide +kernel
theorem dL_law_496 : decode cL_law 496 = .ok (.iaload, 1) := by decide +kernel
theorem dL_law_497 : decode cL_law 497 = .ok (.invokevirtual 73, 3) := by decide +kernel
theorem dL_law_500 : decode cL_law 500 = .ok (.aload_n 2, 1) := by decide +kernel
theorem dL_law_501 : decode cL_law 501 = .ok (.aload_n 0, 1) := by decide +kernel
theorem dL_law_502 : decode cL_law 502 = .ok (.iload_n 3, 1) := by decide +kernel
theorem dL_law_503 : decode cL_law 503 = .ok (.iconst 1, 1) := by decide +kernel
theorem dL_law_504 : decode cL_law 504 = .ok (.iadd, 1) := by decide +kernel
theorem dL_law_505 : decode cL_law 505 = .ok (.iaload, 1) := by decide +kernel
theorem dL_law_506 : decode cL_law 506 = .ok (.aload_n 0, 1) := by decide +kernel
theorem dL_law_507 : decode cL_law 507 = .ok (.iload_n 3, 1) := by decide +kernel
theorem dL_law_508 : decode cL_law 508 = .ok (.iconst 2, 1) := by decide +kernel
theorem dL_law_509 : decode cL_law 509 = .ok (.iadd, 1) := by decide +kernel
theorem dL_law_510 : decode cL_law 510 = .ok (.iaload, 1) := by decide +kernel
theorem dL_law_511 : decode cL_law 511 = .ok (.invokevirtual 76, 3) := by decide +kernel
theorem dL_law_514 : decode cL_law 514 = .ok (.if_icmp .eq 293, 3) := by decide +kernel
theorem dL_law_517 : decode cL_law 517 = .ok (.iconst 0, 1) := by decide +kernel
theorem dL_law_518 : decode cL_law 518 = .ok (.ireturn, 1) := by decide +kernel
theorem dL_law_519 : decode cL_law 519 = .ok (.aload_n 1, 1) := by decide +kernel
theorem dL_law_520 : decode cL_law 520 = .ok (.aload_n 0, 1) := by decide +kernel
theorem dL_law_521 : decode cL_law 521 = .ok (.iload_n 3, 1) := by decide +kernel
theorem dL_law_522 : decode cL_law 522 = .ok (.iconst 1, 1) := by decide +kernel
theorem dL_law_523 : decode cL_law 523 = .ok (.iadd, 1) := by decide +kernel
theorem dL_law_524 : decode cL_law 524 = .ok (.iaload, 1) := by decide +kernel
theorem dL_law_525 : decode cL_law 525 = .ok (.aload_n 0, 1) := by decide +kernel
theorem dL_law_526 : decode cL_law 526 = .ok (.iload_n 3, 1) := by decide +kernel
theorem dL_law_527 : decode cL_law 527 = .ok (.iconst 2, 1) := by decide +kernel
theorem dL_law_528 : decode cL_law 528 = .ok (.iadd, 1) := by decide +kernel
theorem dL_law_529 : decode cL_law 529 = .ok (.iaload, 1) := by decide +kernel
theorem dL_law_530 : decode cL_law 530 = .ok (.invokevirtual 77, 3) := by decide +kernel
theorem dL_law_533 : decode cL_law 533 = .ok (.aload_n 2, 1) := by decide +kernel
theorem dL_law_534 : decode cL_law 534 = .ok (.aload_n 0, 1) := by decide +kernel
theorem dL_law_535 : decode cL_law 535 = .ok (.iload_n 3, 1) := by decide +kernel
theorem dL_law_536 : decode cL_law 536 = .ok (.iconst 1, 1) := by decide +kernel
theorem dL_law_537 : decode cL_law 537 = .ok (.iadd, 1) := by decide +kernel
theorem dL_law_538 : decode cL_law 538 = .ok (.iaload, 1) := by decide +kernel
theorem dL_law_539 : decode cL_law 539 = .ok (.aload_n 0, 1) := by decide +kernel
theorem dL_law_540 : decode cL_law 540 = .ok (.iload_n 3, 1) := by decide +kernel
theorem dL_law_541 : decode cL_law 541 = .ok (.iconst 2, 1) := by decide +kernel
theorem dL_law_542 : decode cL_law 542 = .ok (.iadd, 1) := by decide +kernel
theorem dL_law_543 : decode cL_law 543 = .ok (.iaload, 1) := by decide +kernel
theorem dL_law_544 : decode cL_law 544 = .ok (.invokevirtual 80, 3) := by decide +kernel
theorem dL_law_547 : decode cL_law 547 = .ok (.if_icmp .eq 260, 3) := by decide +kernel
theorem dL_law_550 : decode cL_law 550 = .ok (.iconst 0, 1) := by decide +kernel
theorem dL_law_551 : decode cL_law 551 = .ok (.ireturn, 1) := by decide +kernel
theorem dL_law_552 : decode cL_law 552 = .ok (.aload_n 1, 1) := by decide +kernel
theorem dL_law_553 : decode cL_law 553 = .ok (.aload_n 0, 1) := by decide +kernel
theorem dL_law_554 : decode cL_law 554 = .ok (.iload_n 3, 1) := by decide +kernel
theorem dL_law_555 : decode cL_law 555 = .ok (.iconst 1, 1) := by decide +kernel
theorem dL_law_556 : decode cL_law 556 = .ok (.iadd, 1) := by decide +kernel
theorem dL_law_557 : decode cL_law 557 = .ok (.iaload, 1) := by decide +kernel
theorem dL_law_558 : decode cL_law 558 = .ok (.aload_n 0, 1) := by decide +kernel
theorem dL_law_559 : decode cL_law 559 = .ok (.iload_n 3, 1) := by decide +kernel
theorem dL_law_560 : decode cL_law 560 = .ok (.iconst 2, 1) := by decide +kernel
theorem dL_law_561 : decode cL_law 561 = .ok (.iadd, 1) := by decide +kernel
theorem dL_law_562 : decode cL_law 562 = .ok (.iaload, 1) := by decide +kernel
theorem dL_law_563 : decode cL_law 563 = .ok (.invokevirtual 81, 3) := by decide +kernel
theorem dL_law_566 : decode cL_law 566 = .ok (.aload_n 2, 1) := by decide +kernel
theorem dL_law_567 : decode cL_law 567 = .ok (.aload_n 0, 1) := by decide +kernel
theorem dL_law_568 : decode cL_law 568 = .ok (.iload_n 3, 1) := by decide +kernel
theorem dL_law_569 : decode cL_law 569 = .ok (.iconst 1, 1) := by decide +kernel
theorem dL_law_570 : decode cL_law 570 = .ok (.iadd, 1) := by decide +kernel
theorem dL_law_571 : decode cL_law 571 = .ok (.iaload, 1) := by decide +kernel
theorem dL_law_572 : decode cL_law 572 = .ok (.aload_n 0, 1) := by decide +kernel
theorem dL_law_573 : decode cL_law 573 = .ok (.iload_n 3, 1) := by decide +kernel
theorem dL_law_574 : decode cL_law 574 = .ok (.iconst 2, 1) := by decide +kernel
theorem dL_law_575 : decode cL_law 575 = .ok (.iadd, 1) := by decide +kernel
theorem dL_law_576 : decode cL_law 576 = .ok (.iaload, 1) := by decide +kernel
theorem dL_law_577 : decode cL_law 577 = .ok (.invokevirtual 84, 3) := by decide +kernel
theorem dL_law_580 : decode cL_law 580 = .ok (.if_icmp .eq 227, 3) := by decide +kernel
theorem dL_law_583 : decode cL_law 583 = .ok (.iconst 0, 1) := by decide +kernel
theorem dL_law_584 : decode cL_law 584 = .ok (.ireturn, 1) := by decide +kernel
theorem dL_law_585 : decode cL_law 585 = .ok (.aload_n 1, 1) := by decide +kernel
theorem dL_law_586 : decode cL_law 586 = .ok (.aload_n 0, 1) := by decide +kernel
theorem dL_law_587 : decode cL_law 587 = .ok (.iload_n 3, 1) := by decide +kernel
theorem dL_law_588 : decode cL_law 588 = .ok (.iconst 1, 1) := by decide +kernel
theorem dL_law_589 : decode cL_law 589 = .ok (.iadd, 1) := by decide +kernel
theorem dL_law_590 : decode cL_law 590 = .ok (.iaload, 1) := by decide +kernel
theorem dL_law_591 : decode cL_law 591 = .ok (.aload_n 0, 1) := by decide +kernel
theorem dL_law_592 : decode cL_law 592 = .ok (.iload_n 3, 1) := by decide +kernel
theorem dL_law_593 : decode cL_law 593 = .ok (.iconst 2, 1) := by decide +kernel
theorem dL_law_594 : decode cL_law 594 = .ok (.iadd, 1) := by decide +kernel
theorem dL_law_595 : decode cL_law 595 = .ok (.iaload, 1) := by decide +kernel
theorem dL_law_596 : decode cL_law 596 = .ok (.aload_n 0, 1) := by decide +kernel
theorem dL_law_597 : decode cL_law 597 = .ok (.iload_n 3, 1) := by decide +kernel
theorem dL_law_598 : decode cL_law 598 = .ok (.iconst 3, 1) := by decide +kernel
theorem dL_law_599 : decode cL_law 599 = .ok (.iadd, 1) := by decide +kernel
theorem dL_law_600 : decode cL_law 600 = .ok (.iaload, 1) := by decide +kernel
theorem dL_law_601 : decode cL_law 601 = .ok (.invokevirtual 85, 3) := by decide +kernel
theorem dL_law_604 : decode cL_law 604 = .ok (.aload_n 2, 1) := by decide +kernel
theorem dL_law_605 : decode cL_law 605 = .ok (.aload_n 0, 1) := by decide +kernel
theorem dL_law_606 : decode cL_law 606 = .ok (.iload_n 3, 1) := by decide +kernel
theorem dL_law_607 : decode cL_law 607 = .ok (.iconst 1, 1) := by decide +kernel
theorem dL_law_608 : decode cL_law 608 = .ok (.iadd, 1) := by decide +kernel
theorem dL_law_609 : decode cL_law 609 = .ok (.iaload, 1) := by decide +kernel
theorem dL_law_610 : decode cL_law 610 = .ok (.aload_n 0, 1) := by decide +kernel
theorem dL_law_611 : decode cL_law 611 = .ok (.iload_n 3, 1) := by decide +kernel
theorem dL_law_612 : decode cL_law 612 = .ok (.iconst 2, 1) := by decide +kernel
theorem dL_law_613 : decode cL_law 613 = .ok (.iadd, 1) := by decide +kernel
theorem dL_law_614 : decode cL_law 614 = .ok (.iaload, 1) := by decide +kernel
theorem dL_law_615 : decode cL_law 615 = .ok (.aload_n 0, 1) := by decide +kernel
theorem dL_law_616 : decode cL_law 616 = .ok (.iload_n 3, 1) := by decide +kernel
theorem dL_law_617 : decode cL_law 617 = .ok (.iconst 3, 1) := by decide +kernel
theorem dL_law_618 : decode cL_law 618 = .ok (.iadd, 1) := by decide +kernel
theorem dL_law_619 : decode cL_law 619 = .ok (.iaload, 1) := by decide +kernel
theorem dL_law_620 : decode cL_law 620 = .ok (.invokevirtual 88, 3) := by decide +kernel
theorem dL_law_623 : decode cL_law 623 = .ok (.if_icmp .eq 184, 3) := by decide +kernel
theorem dL_law_626 : decode cL_law 626 = .ok (.iconst 0, 1) := by decide +kernel
theorem dL_law_627 : decode cL_law 627 = .ok (.ireturn, 1) := by decide +kernel
theorem dL_law_628 : decode cL_law 628 = .ok (.aload_n 1, 1) := by decide +kernel
theorem dL_law_629 : decode cL_law 629 = .ok (.aload_n 0, 1) := by decide +kernel
theorem dL_law_630 : decode cL_law 630 = .ok (.iload_n 3, 1) := by decide +kernel
theorem dL_law_631 : decode cL_law 631 = .ok (.iconst 1, 1) := by decide +kernel
theorem dL_law_632 : decode cL_law 632 = .ok (.iadd, 1) := by decide +kernel
theorem dL_law_633 : decode cL_law 633 = .ok (.iaload, 1) := by decide +kernel
theorem dL_law_634 : decode cL_law 634 = .ok (.aload_n 0, 1) := by decide +kernel
theorem dL_law_635 : decode cL_law 635 = .ok (.iload_n 3, 1) := by decide +kernel
theorem dL_law_636 : decode cL_law 636 = .ok (.iconst 2, 1) := by decide +kernel
theorem dL_law_637 : decode cL_law 637 = .ok (.iadd, 1) := by decide +kernel
theorem dL_law_638 : decode cL_law 638 = .ok (.iaload, 1) := by decide +kernel
theorem dL_law_639 : decode cL_law 639 = .ok (.aload_n 0, 1) := by decide +kernel
theorem dL_law_640 : decode cL_law 640 = .ok (.iload_n 3, 1) := by decide +kernel
theorem dL_law_641 : decode cL_law 641 = .ok (.iconst 3, 1) := by decide +kernel
theorem dL_law_642 : decode cL_law 642 = .ok (.iadd, 1) := by decide +kernel
theorem dL_law_643 : decode cL_law 643 = .ok (.iaload, 1) := by decide +kernel
theorem dL_law_644 : decode cL_law 644 = .ok (.aload_n 0, 1) := by decide +kernel
theorem dL_law_645 : decode cL_law 645 = .ok (.iload_n 3, 1) := by decide +kernel
theorem dL_law_646 : decode cL_law 646 = .ok (.iconst 4, 1) := by decide +kernel
theorem dL_law_647 : decode cL_law 647 = .ok (.iadd, 1) := by decide +kernel
theorem dL_law_648 : decode cL_law 648 = .ok (.iaload, 1) := by decide +kernel
theorem dL_law_649 : decode cL_law 649 = .ok (.aload_n 0, 1) := by decide +kernel
theorem dL_law_650 : decode cL_law 650 = .ok (.iload_n 3, 1) := by decide +kernel
theorem dL_law_651 : decode cL_law 651 = .ok (.iconst 5, 1) := by decide +kernel
theorem dL_law_652 : decode cL_law 652 = .ok (.iadd, 1) := by decide +kernel
theorem dL_law_653 : decode cL_law 653 = .ok (.iaload, 1) := by decide +kernel
theorem dL_law_654 : decode cL_law 654 = .ok (.invokevirtual 89, 3) := by decide +kernel
theorem dL_law_657 : decode cL_law 657 = .ok (.aload_n 2, 1) := by decide +kernel
theorem dL_law_658 : decode cL_law 658 = .ok (.aload_n 0, 1) := by decide +kernel
theorem dL_law_659 : decode cL_law 659 = .ok (.iload_n 3, 1) := by decide +kernel
theorem dL_law_660 : decode cL_law 660 = .ok (.iconst 1, 1) := by decide +kernel
theorem dL_law_661 : decode cL_law 661 = .ok (.iadd, 1) := by decide +kernel
theorem dL_law_662 : decode cL_law 662 = .ok (.iaload, 1) := by decide +kernel
theorem dL_law_663 : decode cL_law 663 = .ok (.aload_n 0, 1) := by decide +kernel
theorem dL_law_664 : decode cL_law 664 = .ok (.iload_n 3, 1) := by decide +kernel
theorem dL_law_665 : decode cL_law 665 = .ok (.iconst 2, 1) := by decide +kernel
theorem dL_law_666 : decode cL_law 666 = .ok (.iadd, 1) := by decide +kernel
theorem dL_law_667 : decode cL_law 667 = .ok (.iaload, 1) := by decide +kernel
theorem dL_law_668 : decode cL_law 668 = .ok (.aload_n 0, 1) := by decide +kernel
theorem dL_law_669 : decode cL_law 669 = .ok (.iload_n 3, 1) := by decide +kernel
theorem dL_law_670 : decode cL_law 670 = .ok (.iconst 3, 1) := by decide +kernel
theorem dL_law_671 : decode cL_law 671 = .ok (.iadd, 1) := by decide +kernel
theorem dL_law_672 : decode cL_law 672 = .ok (.iaload, 1) := by decide +kernel
theorem dL_law_673 : decode cL_law 673 = .ok (.aload_n 0, 1) := by decide +kernel
theorem dL_law_674 : decode cL_law 674 = .ok (.iload_n 3, 1) := by decide +kernel
theorem dL_law_675 : decode cL_law 675 = .ok (.iconst 4, 1) := by decide +kernel
theorem dL_law_676 : decode cL_law 676 = .ok (.iadd, 1) := by decide +kernel
theorem dL_law_677 : decode cL_law 677 = .ok (.iaload, 1) := by decide +kernel
theorem dL_law_678 : decode cL_law 678 = .ok (.aload_n 0, 1) := by decide +kernel
theorem dL_law_679 : decode cL_law 679 = .ok (.iload_n 3, 1) := by decide +kernel
theorem dL_law_680 : decode cL_law 680 = .ok (.iconst 5, 1) := by decide +kernel
theorem dL_law_681 : decode cL_law 681 = .ok (.iadd, 1) := by decide +kernel
theorem dL_law_682 : decode cL_law 682 = .ok (.iaload, 1) := by decide +kernel
theorem dL_law_683 : decode cL_law 683 = .ok (.invokevirtual 93, 3) := by decide +kernel
theorem dL_law_686 : decode cL_law 686 = .ok (.if_icmp .eq 121, 3) := by decide +kernel
theorem dL_law_689 : decode cL_law 689 = .ok (.iconst 0, 1) := by decide +kernel
theorem dL_law_690 : decode cL_law 690 = .ok (.ireturn, 1) := by decide +kernel
theorem dL_law_691 : decode cL_law 691 = .ok (.aload_n 1, 1) := by decide +kernel
theorem dL_law_692 : decode cL_law 692 = .ok (.aload_n 0, 1) := by decide +kernel
theorem dL_law_693 : decode cL_law 693 = .ok (.iload_n 3, 1) := by decide +kernel
theorem dL_law_694 : decode cL_law 694 = .ok (.iconst 1, 1) := by decide +kernel
theorem dL_law_695 : decode cL_law 695 = .ok (.iadd, 1) := by decide +kernel
theorem dL_law_696 : decode cL_law 696 = .ok (.iaload, 1) := by decide +kernel
theorem dL_law_697 : decode cL_law 697 = .ok (.aload_n 0, 1) := by decide +kernel
theorem dL_law_698 : decode cL_law 698 = .ok (.iload_n 3, 1) := by decide +kernel
theorem dL_law_699 : decode cL_law 699 = .ok (.iconst 2, 1) := by decide +kernel
theorem dL_law_700 : decode cL_law 700 = .ok (.iadd, 1) := by decide +kernel
theorem dL_law_701 : decode cL_law 701 = .ok (.iaload, 1) := by decide +kernel
theorem dL_law_702 : decode cL_law 702 = .ok (.invokevirtual 94, 3) := by decide +kernel
theorem dL_law_705 : decode cL_law 705 = .ok (.aload_n 2, 1) := by decide +kernel
theorem dL_law_706 : decode cL_law 706 = .ok (.aload_n 0, 1) := by decide +kernel
theorem dL_law_707 : decode cL_law 707 = .ok (.iload_n 3, 1) := by decide +kernel
theorem dL_law_708 : decode cL_law 708 = .ok (.iconst 1, 1) := by decide +kernel
theorem dL_law_709 : decode cL_law 709 = .ok (.iadd, 1) := by decide +kernel
theorem dL_law_710 : decode cL_law 710 = .ok (.iaload, 1) := by decide +kernel
theorem dL_law_711 : decode cL_law 711 = .ok (.aload_n 0, 1) := by decide +kernel
theorem dL_law_712 : decode cL_law 712 = .ok (.iload_n 3, 1) := by decide +kernel
theorem dL_law_713 : decode cL_law 713 = .ok (.iconst 2, 1) := by decide +kernel
theorem dL_law_714 : decode cL_law 714 = .ok (.iadd, 1) := by decide +kernel
theorem dL_law_715 : decode cL_law 715 = .ok (.iaload, 1) := by decide +kernel
theorem dL_law_716 : decode cL_law 716 = .ok (.invokevirtual 97, 3) := by decide +kernel
theorem dL_law_719 : decode cL_law 719 = .ok (.if_icmp .eq 88, 3) := by decide +kernel
theorem dL_law_722 : decode cL_law 722 = .ok (.iconst 0, 1) := by decide +kernel
theorem dL_law_723 : decode cL_law 723 = .ok (.ireturn, 1) := by decide +kernel
theorem dL_law_724 : decode cL_law 724 = .ok (.aload_n 1, 1) := by decide +kernel
theorem dL_law_725 : decode cL_law 725 = .ok (.aload_n 0, 1) := by decide +kernel
theorem dL_law_726 : decode cL_law 726 = .ok (.iload_n 3, 1) := by decide +kernel
theorem dL_law_727 : decode cL_law 727 = .ok (.iconst 1, 1) := by decide +kernel
theorem dL_law_728 : decode cL_law 728 = .ok (.iadd, 1) := by decide +kernel
theorem dL_law_729 : decode cL_law 729 = .ok (.iaload, 1) := by decide +kernel
theorem dL_law_730 : decode cL_law 730 = .ok (.invokevirtual 98, 3) := by decide +kernel
theorem dL_law_733 : decode cL_law 733 = .ok (.aload_n 2, 1) := by decide +kernel
theorem dL_law_734 : decode cL_law 734 = .ok (.aload_n 0, 1) := by decide +kernel
theorem dL_law_735 : decode cL_law 735 = .ok (.iload_n 3, 1) := by decide +kernel
theorem dL_law_736 : decode cL_law 736 = .ok (.iconst 1, 1) := by decide +kernel
theorem dL_law_737 : decode cL_law 737 = .ok (.iadd, 1) := by decide +kernel
theorem dL_law_738 : decode cL_law 738 = .ok (.iaload, 1) := by decide +kernel
theorem dL_law_739 : decode cL_law 739 = .ok (.invokevirtual 101, 3) := by decide +kernel
theorem dL_law_742 : decode cL_law 742 = .ok (.if_icmp .eq 65, 3) := by decide +kernel
theorem dL_law_745 : decode cL_law 745 = .ok (.iconst 0, 1) := by decide +kernel
theorem dL_law_746 : decode cL_law 746 = .ok (.ireturn, 1) := by decide +kernel
theorem dL_law_747 : decode cL_law 747 = .ok (.aload_n 1, 1) := by decide +kernel
theorem dL_law_748 : decode cL_law 748 = .ok (.aload_n 0, 1) := by decide +kernel
theorem dL_law_749 : decode cL_law 749 = .ok (.iload_n 3, 1) := by decide +kernel
theorem dL_law_750 : decode cL_law 750 = .ok (.iconst 1, 1) := by decide +kernel
theorem dL_law_751 : decode cL_law 751 = .ok (.iadd, 1) := by decide +kernel
theorem dL_law_752 : decode cL_law 752 = .ok (.iaload, 1) := by decide +kernel
theorem dL_law_753 : decode cL_law 753 = .ok (.invokevirtual 102, 3) := by decide +kernel
theorem dL_law_756 : decode cL_law 756 = .ok (.aload_n 2, 1) := by decide +kernel
theorem dL_law_757 : decode cL_law 757 = .ok (.aload_n 0, 1) := by decide +kernel
theorem dL_law_758 : decode cL_law 758 = .ok (.iload_n 3, 1) := by decide +kernel
theorem dL_law_759 : decode cL_law 759 = .ok (.iconst 1, 1) := by decide +kernel
theorem dL_law_760 : decode cL_law 760 = .ok (.iadd, 1) := by decide +kernel
theorem dL_law_761 : decode cL_law 761 = .ok (.iaload, 1) := by decide +kernel
theorem dL_law_762 : decode cL_law 762 = .ok (.invokevirtual 105, 3) := by decide +kernel
theorem dL_law_765 : decode cL_law 765 = .ok (.if_icmp .eq 42, 3) := by decide +kernel
theorem dL_law_768 : decode cL_law 768 = .ok (.iconst 0, 1) := by decide +kernel
theorem dL_law_769 : decode cL_law 769 = .ok (.ireturn, 1) := by decide +kernel
theorem dL_law_770 : decode cL_law 770 = .ok (.aload_n 1, 1) := by decide +kernel
theorem dL_law_771 : decode cL_law 771 = .ok (.aload_n 0, 1) := by decide +kernel
theorem dL_law_772 : decode cL_law 772 = .ok (.iload_n 3, 1) := by decide +kernel
theorem dL_law_773 : decode cL_law 773 = .ok (.iconst 1, 1) := by decide +kernel
theorem dL_law_774 : decode cL_law 774 = .ok (.iadd, 1) := by decide +kernel
theorem dL_law_775 : decode cL_law 775 = .ok (.iaload, 1) := by decide +kernel
theorem dL_law_776 : decode cL_law 776 = .ok (.invokevirtual 106, 3) := by decide +kernel
theorem dL_law_779 : decode cL_law 779 = .ok (.aload_n 2, 1) := by decide +kernel
theorem dL_law_780 : decode cL_law 780 = .ok (.aload_n 0, 1) := by decide +kernel
theorem dL_law_781 : decode cL_law 781 = .ok (.iload_n 3, 1) := by decide +kernel
theorem dL_law_782 : decode cL_law 782 = .ok (.iconst 1, 1) := by decide +kernel
theorem dL_law_783 : decode cL_law 783 = .ok (.iadd, 1) := by decide +kernel
theorem dL_law_784 : decode cL_law 784 = .ok (.iaload, 1) := by decide +kernel
theorem dL_law_785 : decode cL_law 785 = .ok (.invokevirtual 109, 3) := by decide +kernel
theorem dL_law_788 : decode cL_law 788 = .ok (.if_icmp .eq 19, 3) := by decide +kernel
theorem dL_law_791 : decode cL_law 791 = .ok (.iconst 0, 1) := by decide +kernel
theorem dL_law_792 : decode cL_law 792 = .ok (.ireturn, 1) := by decide +kernel
theorem dL_law_793 : decode cL_law 793 = .ok (.aload_n 1, 1) := by decide +kernel
theorem dL_law_794 : decode cL_law 794 = .ok (.invokevirtual 110, 3) := by decide +kernel
theorem dL_law_797 : decode cL_law 797 = .ok (.aload_n 2, 1) := by decide +kernel
theorem dL_law_798 : decode cL_law 798 = .ok (.invokevirtual 114, 3) := by decide +kernel
theorem dL_law_801 : decode cL_law 801 = .ok (.lcmp, 1) := by decide +kernel
theorem dL_law_802 : decode cL_law 802 = .ok (.ifCond .eq 5, 3) := by decide +kernel
theorem dL_law_805 : decode cL_law 805 = .ok (.iconst 0, 1) := by decide +kernel
theorem dL_law_806 : decode cL_law 806 = .ok (.ireturn, 1) := by decide +kernel
theorem dL_law_807 : decode cL_law 807 = .ok (.iinc 3 6, 3) := by decide +kernel
theorem dL_law_810 : decode cL_law 810 = .ok (.goto (-792), 3) := by decide +kernel
theorem dL_law_813 : decode cL_law 813 = .ok (.iconst 1, 1) := by decide +kernel
theorem dL_law_814 : decode cL_law 814 = .ok (.ireturn, 1) := by decide +kernel
end
section
/-! ===== the pure logic: a memory of cells by number (the first nine are read only: eight static rows, the script), and what the machine does to it ===== -/
abbrev pw_E : Type := (Nat × Nat × ((Nat → Int32) ⊕ (Nat → Int64) ⊕ (Nat → Option Nat))) ⊕ (Nat × List Value)
abbrev pw_M : Type := List pw_E
abbrev pw_G : Type := va_G × (Nat → ClassId) × Nat × (Nat → Nat)
abbrev pw_Y : Type := MethodName × ByteArray × Nat × Option FieldType
def pw_ad (G : pw_G) (r : Nat) : Nat := if r < 9 then G.2.2.2 r else G.2.2.1 + (r - 9)
def pw_v (G : pw_G) : Value → Value
  | .ref r => .ref (pw_ad G r)
  | v => v
def pw_e (G : pw_G) : pw_E → va_E
  | .inl (t, n, .inl f) => .inl (G.2.1 t, n, .inl f)
  | .inl (t, n, .inr (.inl f)) => .inl (G.2.1 t, n, .inr (.inl f))
  | .inl (t, n, .inr (.inr f)) => .inl (G.2.1 t, n, .inr (.inr (.inr (.inr (fun i => (f i).map (pw_ad G))))))
  | .inr (c, vs) => .inr (c, vs.map (pw_v G))
def pw_ws (G : pw_G) (mem : pw_M) : va_W := (mem.drop 9).mapIdx (fun i e => (G.2.2.1 + i, pw_e G e))
theorem pw_ws_at (G : pw_G) (mem : pw_M) (k : Nat) : (pw_ws G mem)[k]? = (mem[9 + k]?).map (fun e => (G.2.2.1 + k, pw_e G e)) := by
  simp [pw_ws, List.getElem?_mapIdx, List.getElem?_drop]
theorem pw_ws_get {G : pw_G} {mem : pw_M} {r : Nat} {x : pw_E} (h9 : 9 ≤ r) (h : mem[r]? = some x) : (pw_ws G mem)[r - 9]? = some (pw_ad G r, pw_e G x) := by
  rw [pw_ws_at, show 9 + (r - 9) = r by omega, h]
  simp only [Option.map_some, pw_ad, if_neg (show ¬ r < 9 by omega)]
theorem pw_ws_set {G : pw_G} {mem : pw_M} {r : Nat} {x : pw_E} (h9 : 9 ≤ r) : pw_ws G (mem.set r x) = (pw_ws G mem).set (r - 9) (pw_ad G r, pw_e G x) := by
  apply List.ext_getElem?
  intro k
  rw [pw_ws_at, List.getElem?_set, List.getElem?_set, pw_ws_at]
  have hlen : (pw_ws G mem).length = mem.length - 9 := by simp [pw_ws]
  by_cases hk : r = 9 + k
  · subst hk
    rw [if_pos rfl, show 9 + k - 9 = k by omega, if_pos rfl, hlen]
    by_cases hl : 9 + k < mem.length
    · rw [if_pos hl, if_pos (by omega)]
      simp only [Option.map_some, pw_ad, if_neg (show ¬ 9 + k < 9 by omega), show 9 + k - 9 = k by omega]
    · rw [if_neg hl, if_neg (by omega)]
      rfl
  · rw [if_neg hk, if_neg (by omega)]
theorem pw_ws_app {G : pw_G} {mem : pw_M} {x : pw_E} (h : 9 ≤ mem.length) : pw_ws G (mem ++ [x]) = pw_ws G mem ++ [(pw_ad G mem.length, pw_e G x)] := by
  have e : pw_ad G mem.length = G.2.2.1 + (mem.length - 9) := by simp only [pw_ad, if_neg (show ¬ mem.length < 9 by omega)]
  rw [e]
  simp [pw_ws, List.drop_append_of_le_length h, List.mapIdx_append]
def pw_A (G : pw_G) : Nat → Prop := fun q => G.2.2.1 ≤ q
theorem pw_D (G : pw_G) (mem : pw_M) : va_D (pw_A G) (pw_ws G mem) := by
  have at' : ∀ (k : Nat) (q : Nat × va_E), (pw_ws G mem)[k]? = some q → q.1 = G.2.2.1 + k := by
    intro k q h
    rw [pw_ws_at] at h
    obtain ⟨x, -, hx⟩ := Option.map_eq_some_iff.mp h
    rw [← hx]
  refine ⟨fun i j p q hi hj hpq => ?_, fun k q hk => ?_⟩
  · have h1 := at' i p hi
    have h2 := at' j q hj
    omega
  · have h1 := at' k q hk
    show G.2.2.1 ≤ q.1
    omega
def pw_tys (G : pw_G) : List (ClassId × FieldType) := [(G.2.1 0, .int), (G.2.1 1, .boolean), (G.2.1 2, .long), (G.2.1 3, .object "PocketLaws$Now"), (G.2.1 4, .array .int)]
def pw_sn : Nat → String
  | 0 => "POCKET_ITEM"
  | 1 => "PAIR_ITEM"
  | 2 => "HOLE_ITEM"
  | 3 => "TREATY_ITEM"
  | 4 => "THING_ITEM"
  | 5 => "NO_ITEM"
  | 6 => "LEAST"
  | _ => "MOST"
def pw_RO (G : pw_G) (mem : pw_M) (U : State) (H : Heap) : Prop :=
  (∀ (r n : Nat) (f : Nat → Int32), r < 9 → mem[r]? = some (.inl (0, n, .inl f)) → va_T .int (G.2.2.2 r) n (fun j => .int (f j)) (pw_A G) U H) ∧
  ∀ k, k < 8 → va_Z "PocketLaws$Text" (pw_sn k) "[I" (.ref (G.2.2.2 k)) (pw_A G) U H
theorem pw_RO.moved {G : pw_G} {mem : pw_M} {u U : State} {H : Heap} (hvm : u.vm.Alike U.vm) (h : pw_RO G mem u H) : pw_RO G mem U H :=
  ⟨fun r n f hr hm => (h.1 r n f hr hm).moved hvm, fun k hk => (h.2 k hk).moved hvm⟩
theorem pw_RO.kept {G : pw_G} {mem : pw_M} {U : State} {H H1 : Heap} (h : pw_RO G mem U H) (hq : ∀ a : Nat, a < H.size → ¬ pw_A G a → H1[a]? = H[a]?) : pw_RO G mem U H1 :=
  ⟨fun r n f hr hm => (h.1 r n f hr hm).kept hq, fun k hk => (h.2 k hk).kept hq⟩
theorem pw_RO.set {G : pw_G} {mem : pw_M} {U : State} {H : Heap} (h : pw_RO G mem U H) {r : Nat} (h9 : 9 ≤ r) (x : pw_E) : pw_RO G (mem.set r x) U H :=
  ⟨fun r' n f hr hm => h.1 r' n f hr (by rw [List.getElem?_set, if_neg (show ¬ r = r' by omega)] at hm; exact hm), h.2⟩
theorem pw_RO.app {G : pw_G} {mem : pw_M} {U : State} {H : Heap} (h : pw_RO G mem U H) (h9 : 9 ≤ mem.length) (x : pw_M) : pw_RO G (mem ++ x) U H :=
  ⟨fun r' n f hr hm => h.1 r' n f hr (by rw [List.getElem?_append_left (by omega)] at hm; exact hm), h.2⟩
def pw_Wd (G : pw_G) (mem : pw_M) (U : State) (H : Heap) : Prop :=
  9 ≤ mem.length ∧ H.size = G.2.2.1 + (mem.length - 9) ∧ va_P G.1 vwCl (pw_ws G mem) H ∧ va_K G.1 vwCl (pw_tys G) U ∧ pw_RO G mem U H
theorem pw_Wd.moved {G : pw_G} {mem : pw_M} {u U : State} {H : Heap} (hvm : u.vm.Alike U.vm) (h : pw_Wd G mem u H) : pw_Wd G mem U H :=
  ⟨h.1, h.2.1, h.2.2.1, h.2.2.2.1.moved hvm, h.2.2.2.2.moved hvm⟩
def pw_tbl : List Cond := lw_tbl.filter goodWord
theorem pw_in {w : Cond} (h : w ∈ lw_tbl) (hg : goodWord w = true) : w ∈ pw_tbl := List.mem_filter.mpr ⟨h, hg⟩
theorem pw_good : GoodIn pw_tbl pw_tbl := fun w h => ⟨h, good_of_word (List.mem_filter.mp h).2⟩
/-- words that stay only as the tables of a state have them: links to nest mates' private members, rows over a class -/
def pw_N (U : State) : Prop := (∀ (a : String) (i : Nat) (x : MethodName) (h : String), Cond.methodLinkNest a i x h ∈ lw_tbl → va_Nw (.methodLinkNest a i x h) U) ∧ va_AO "PocketLaws$Now" U ∧ (Cond.arrayOver (.array .int)).before #[] U = true
theorem pw_N.warm {s U : State} (hW : s.WarmedH U.vm) (h : pw_N s) : pw_N U := ⟨fun a i x y hx => va_Nw.warmM hW (h.1 a i x y hx), h.2.1.moved hW.alike, over_moved hW.alike h.2.2⟩
theorem pw_N.same {u U : State} (hv : u.vm = U.vm) (h : pw_N u) : pw_N U := ⟨fun a i x y hx => va_Nw.same rfl hv (h.1 a i x y hx), h.2.1.moved (by rw [hv]; exact Vm.Alike.refl _), over_moved (by rw [hv]; exact Vm.Alike.refl _) h.2.2⟩
def pw_rm (h mc ms : Nat) : Room := { frames := h, cells := mc, slots := ms, locals := 100 * h }
def pw_Qc (G : pw_G) (Q : Option Value → pw_M → Prop) : Array Value → State → Outcome → State → Prop := fun _ st oc t =>
  ∃ (v : Option Value) (mem : pw_M), oc = .returned (v.map (pw_v G)) ∧ Q v mem ∧ pw_Wd G mem t t.heap ∧ va_F (pw_A G) st t
def pw_Cx (p : Program) (s : State) (m : MethodId) (args : Array Value) (meth : Method) (c : Code) (Y : pw_Y) : Prop :=
  p.tables.exec = Jvm.exec ∧ c.code = Y.2.1 ∧ c.maxLocals = Y.2.2.1 ∧ meth.sig.returnType = Y.2.2.2 ∧ meth.locks = false ∧ meth.name = Y.1.name ∧ s.vm.findClass Y.1.cls = some m.cls ∧ (∀ w ∈ pw_tbl, w.before args s = true) ∧ pw_N s
abbrev pw_X : Type := Launch × pw_G × pw_Y × Room × Nat × Nat
def pw_ls (G : pw_G) (ls : List (Nat × Value)) : List (Nat × Value) := ls.map (fun q => (q.1, pw_v G q.2))
/-- the machine, at pc of the method, with the locals ls, the stack st, the memory mem, comes to a return with Q -/
def PW (X : pw_X) (k n : Nat) (pc : Nat) (ls : List (Nat × Value)) (st : List Value) (mem : pw_M) (Q : Option Value → pw_M → Prop) : Prop :=
  ∀ (p : Program) (e : Env) (s : State) (m : MethodId) (args : Array Value) (below : List Frame) (meth : Method) (c : Code) (H : Heap) (locs : List Loc) (la : Array Slot),
    pw_Cx p s m args meth c X.2.2.1 → pw_Wd X.2.1 mem s H → va_S (pw_A X.2.1) s.heap H locs → X.2.1.2.2.1 ≤ s.heap.size → lv_has la X.2.2.1.2.2.1 (pw_ls X.2.1 ls) →
    W p X.1 e X.2.2.2.1 s m args below meth c H locs k n (MQ below (pw_Qc X.2.1 Q) args s X.2.2.2.2.1 X.2.2.2.2.2 (pw_A X.2.1)) (F0 m pc la (st.map (pw_v X.2.1)))
def lk : List (Nat × Value) → Nat → Option Value
  | [], _ => none
  | (j, v) :: t, i => if j = i then some v else lk t i
theorem pw_lk {G : pw_G} {la : Array Slot} {nL : Nat} {v : Value} : ∀ {ls : List (Nat × Value)} {i : Nat}, lv_has la nL (pw_ls G ls) → lk ls i = some v → la[i]? = some (.val (pw_v G v)) := by
  intro ls i h hl
  have key : ∀ (l : List (Nat × Value)), lk l i = some v → (i, v) ∈ l := by
    intro l
    induction l with
    | nil => intro h; cases h
    | cons q t ih =>
      obtain ⟨j, w⟩ := q
      intro h
      simp only [lk] at h
      by_cases e : j = i
      · rw [if_pos e] at h
        cases h
        subst e
        exact List.mem_cons_self
      · rw [if_neg e] at h
        exact List.mem_cons_of_mem _ (ih h)
  exact h.2.2 (i, pw_v G v) (List.mem_map.mpr ⟨(i, v), key ls hl, rfl⟩)
/-- fewer locals -/
theorem pw_fewer {G : pw_G} {la : Array Slot} {nL : Nat} {ls ls' : List (Nat × Value)} (h : lv_has la nL (pw_ls G ls)) (hs : ∀ q ∈ ls', q ∈ ls) : lv_has la nL (pw_ls G ls') :=
  ⟨h.1, h.2.1, fun q hq => by
    obtain ⟨x, hx, e⟩ := List.mem_map.mp hq
    exact h.2.2 q (List.mem_map.mpr ⟨x, hs x hx, e⟩)⟩
def ins : List (Nat × Value) → Nat → Value → List (Nat × Value)
  | [], i, v => [(i, v)]
  | (j, w) :: t, i, v => if i < j then (i, v) :: (j, w) :: t else (j, w) :: ins t i v
theorem ins_mem {q : Nat × Value} : ∀ {l : List (Nat × Value)} {i : Nat} {v : Value}, q ∈ ins l i v → q = (i, v) ∨ q ∈ l := by
  intro l
  induction l with
  | nil => intro i v h; simp only [ins, List.mem_singleton] at h; exact Or.inl h
  | cons x t ih =>
    obtain ⟨j, w⟩ := x
    intro i v h
    simp only [ins] at h
    by_cases e : i < j
    · rw [if_pos e] at h
      rcases List.mem_cons.mp h with h | h
      · exact Or.inl h
      · exact Or.inr h
    · rw [if_neg e] at h
      rcases List.mem_cons.mp h with h | h
      · exact Or.inr (by rw [h]; exact List.mem_cons_self)
      · rcases ih h with h | h
        · exact Or.inl h
        · exact Or.inr (List.mem_cons_of_mem _ h)
def st1 (l : List (Nat × Value)) (i : Nat) (v : Value) : List (Nat × Value) := ins (l.filter (fun q => !(q.1 == i) && !(q.1 + 1 == i && q.2.category == 2))) i v
def st2 (l : List (Nat × Value)) (i : Nat) (v : Value) : List (Nat × Value) := ins (l.filter (fun q => !(q.1 == i) && (!(q.1 == i + 1) && !(q.1 + 1 == i && q.2.category == 2)))) i v
theorem pw_cat (G : pw_G) (v : Value) : (pw_v G v).category = v.category := by cases v <;> rfl
theorem pw_st1 {G : pw_G} {ls : List (Nat × Value)} {i : Nat} {v : Value} {la : Array Slot} {nL : Nat} (h : lv_has la nL ((i, pw_v G v) :: (pw_ls G ls).filter (fun q => !(q.1 == i) && !(q.1 + 1 == i && q.2.category == 2)))) : lv_has la nL (pw_ls G (st1 ls i v)) := by
  refine ⟨h.1, h.2.1, fun q hq => h.2.2 q ?_⟩
  obtain ⟨x, hx, rfl⟩ := List.mem_map.mp hq
  rcases ins_mem hx with rfl | hx
  · exact List.mem_cons_self
  · obtain ⟨h1, h2⟩ := List.mem_filter.mp hx
    refine List.mem_cons_of_mem _ (List.mem_filter.mpr ⟨List.mem_map.mpr ⟨x, h1, rfl⟩, ?_⟩)
    simpa only [pw_cat] using h2
theorem pw_st2 {G : pw_G} {ls : List (Nat × Value)} {i : Nat} {v : Value} {la : Array Slot} {nL : Nat} (h : lv_has la nL ((i, pw_v G v) :: (pw_ls G ls).filter (fun q => !(q.1 == i) && (!(q.1 == i + 1) && !(q.1 + 1 == i && q.2.category == 2))))) : lv_has la nL (pw_ls G (st2 ls i v)) := by
  refine ⟨h.1, h.2.1, fun q hq => h.2.2 q ?_⟩
  obtain ⟨x, hx, rfl⟩ := List.mem_map.mp hq
  rcases ins_mem hx with rfl | hx
  · exact List.mem_cons_self
  · obtain ⟨h1, h2⟩ := List.mem_filter.mp hx
    refine List.mem_cons_of_mem _ (List.mem_filter.mpr ⟨List.mem_map.mpr ⟨x, h1, rfl⟩, ?_⟩)
    simpa only [pw_cat] using h2
section PWR
variable {l : Launch} {G : pw_G} {Y : pw_Y} {R : Room} {mc ms k n pc : Nat} {ls : List (Nat × Value)} {st : List Value} {mem : pw_M} {Q : Option Value → pw_M → Prop}
theorem PW.drop {X : pw_X} (ls' : List (Nat × Value)) (hs : ∀ q ∈ ls', q ∈ ls) (kk : PW X k n pc ls' st mem Q) : PW X k n pc ls st mem Q :=
  fun p e s m args below meth c H locs la C Wd S0 hz hl0 => kk p e s m args below meth c H locs la C Wd S0 hz (pw_fewer hl0 hs)
theorem PW.wide {X : pw_X} {k' n' : Nat} (h1 : k ≤ k') (h2 : n ≤ n') (kk : PW X k' n' pc ls st mem Q) : PW X k n pc ls st mem Q :=
  fun p e s m args below meth c H locs la C Wd S0 hz hl0 => W.widen h1 h2 (kk p e s m args below meth c H locs la C Wd S0 hz hl0)
theorem PW.iconst {z : Int} {v : Int32} (hv : Int32.ofInt z = v) (d : decode Y.2.1 pc = .ok (.iconst z, 1)) (kk : PW (l, G, Y, R, mc, ms) k n (pc + 1) ls (.int v :: st) mem Q) : PW (l, G, Y, R, mc, ms) k n pc ls st mem Q := by
  intro p e s m args below meth c H locs la C Wd S0 hz hl0
  refine lv_iconst C.1 C.2.1 d hv ?_
  exact kk p e s m args below meth c H locs la C Wd S0 hz hl0
theorem PW.bipush {z : Int} {v : Int32} (hv : (Int8.ofInt z).toInt32 = v) (d : decode Y.2.1 pc = .ok (.bipush z, 2)) (kk : PW (l, G, Y, R, mc, ms) k n (pc + 2) ls (.int v :: st) mem Q) : PW (l, G, Y, R, mc, ms) k n pc ls st mem Q := by
  intro p e s m args below meth c H locs la C Wd S0 hz hl0
  refine lv_bipush C.1 C.2.1 d hv ?_
  exact kk p e s m args below meth c H locs la C Wd S0 hz hl0
theorem PW.sipush {z : Int} {v : Int32} (hv : (Int16.ofInt z).toInt32 = v) (d : decode Y.2.1 pc = .ok (.sipush z, 3)) (kk : PW (l, G, Y, R, mc, ms) k n (pc + 3) ls (.int v :: st) mem Q) : PW (l, G, Y, R, mc, ms) k n pc ls st mem Q := by
  intro p e s m args below meth c H locs la C Wd S0 hz hl0
  refine lv_sipush C.1 C.2.1 d hv ?_
  exact kk p e s m args below meth c H locs la C Wd S0 hz hl0
theorem PW.lconst {z : Fin 2} {v : Int64} (hv : Int64.ofNat (z : Nat) = v) (d : decode Y.2.1 pc = .ok (.lconst z, 1)) (kk : PW (l, G, Y, R, mc, ms) k n (pc + 1) ls (.long v :: st) mem Q) : PW (l, G, Y, R, mc, ms) k n pc ls st mem Q := by
  intro p e s m args below meth c H locs la C Wd S0 hz hl0
  refine lv_lconst C.1 C.2.1 d hv ?_
  exact kk p e s m args below meth c H locs la C Wd S0 hz hl0
theorem PW.iload_n {i : Fin 4} {j : Nat} {x : Int32} (hi : (i : Nat) = j) (hl : lk ls j = some (.int x)) (d : decode Y.2.1 pc = .ok (.iload_n i, 1)) (kk : PW (l, G, Y, R, mc, ms) k n (pc + 1) ls (.int x :: st) mem Q) : PW (l, G, Y, R, mc, ms) k n pc ls st mem Q := by
  intro p e s m args below meth c H locs la C Wd S0 hz hl0
  refine lv_iload_n C.1 C.2.1 d hi (pw_lk hl0 hl) ?_
  exact kk p e s m args below meth c H locs la C Wd S0 hz hl0
theorem PW.lload_n {i : Fin 4} {j : Nat} {x : Int64} (hi : (i : Nat) = j) (hl : lk ls j = some (.long x)) (d : decode Y.2.1 pc = .ok (.lload_n i, 1)) (kk : PW (l, G, Y, R, mc, ms) k n (pc + 1) ls (.long x :: st) mem Q) : PW (l, G, Y, R, mc, ms) k n pc ls st mem Q := by
  intro p e s m args below meth c H locs la C Wd S0 hz hl0
  refine lv_lload_n C.1 C.2.1 d hi (pw_lk hl0 hl) ?_
  exact kk p e s m args below meth c H locs la C Wd S0 hz hl0
theorem PW.aload_n {i : Fin 4} {j : Nat} {x : Nat} (hi : (i : Nat) = j) (hl : lk ls j = some (.ref x)) (d : decode Y.2.1 pc = .ok (.aload_n i, 1)) (kk : PW (l, G, Y, R, mc, ms) k n (pc + 1) ls (.ref x :: st) mem Q) : PW (l, G, Y, R, mc, ms) k n pc ls st mem Q := by
  intro p e s m args below meth c H locs la C Wd S0 hz hl0
  refine lv_aload_n C.1 C.2.1 d hi (pw_lk hl0 hl) ?_
  exact kk p e s m args below meth c H locs la C Wd S0 hz hl0
theorem PW.iload {i : Nat} {x : Int32} (hl : lk ls i = some (.int x)) (d : decode Y.2.1 pc = .ok (.iload i, 2)) (kk : PW (l, G, Y, R, mc, ms) k n (pc + 2) ls (.int x :: st) mem Q) : PW (l, G, Y, R, mc, ms) k n pc ls st mem Q := by
  intro p e s m args below meth c H locs la C Wd S0 hz hl0
  refine lv_iload C.1 C.2.1 d (pw_lk hl0 hl) ?_
  exact kk p e s m args below meth c H locs la C Wd S0 hz hl0
theorem PW.lload {i : Nat} {x : Int64} (hl : lk ls i = some (.long x)) (d : decode Y.2.1 pc = .ok (.lload i, 2)) (kk : PW (l, G, Y, R, mc, ms) k n (pc + 2) ls (.long x :: st) mem Q) : PW (l, G, Y, R, mc, ms) k n pc ls st mem Q := by
  intro p e s m args below meth c H locs la C Wd S0 hz hl0
  refine lv_lload C.1 C.2.1 d (pw_lk hl0 hl) ?_
  exact kk p e s m args below meth c H locs la C Wd S0 hz hl0
theorem PW.aload {i : Nat} {x : Nat} (hl : lk ls i = some (.ref x)) (d : decode Y.2.1 pc = .ok (.aload i, 2)) (kk : PW (l, G, Y, R, mc, ms) k n (pc + 2) ls (.ref x :: st) mem Q) : PW (l, G, Y, R, mc, ms) k n pc ls st mem Q := by
  intro p e s m args below meth c H locs la C Wd S0 hz hl0
  refine lv_aload C.1 C.2.1 d (pw_lk hl0 hl) ?_
  exact kk p e s m args below meth c H locs la C Wd S0 hz hl0
theorem PW.istore_n {i : Fin 4} {j : Nat} {x : Int32} (hi : (i : Nat) = j) (hn : j < Y.2.2.1) (d : decode Y.2.1 pc = .ok (.istore_n i, 1)) (kk : PW (l, G, Y, R, mc, ms) k n (pc + 1) (st1 ls j (.int x)) st mem Q) : PW (l, G, Y, R, mc, ms) k n pc ls (.int x :: st) mem Q := by
  intro p e s m args below meth c H locs la C Wd S0 hz hl0
  refine lv_istore_n C.1 C.2.1 d hi hl0 hn rfl (fun la' hl1 => ?_)
  exact kk p e s m args below meth c H locs la' C Wd S0 hz (pw_st1 (v := .int x) hl1)
theorem PW.istore {j : Nat} {x : Int32} (hn : j < Y.2.2.1) (d : decode Y.2.1 pc = .ok (.istore j, 2)) (kk : PW (l, G, Y, R, mc, ms) k n (pc + 2) (st1 ls j (.int x)) st mem Q) : PW (l, G, Y, R, mc, ms) k n pc ls (.int x :: st) mem Q := by
  intro p e s m args below meth c H locs la C Wd S0 hz hl0
  refine lv_istore C.1 C.2.1 d hl0 hn rfl (fun la' hl1 => ?_)
  exact kk p e s m args below meth c H locs la' C Wd S0 hz (pw_st1 (v := .int x) hl1)
theorem PW.lstore_n {i : Fin 4} {j : Nat} {x : Int64} (hi : (i : Nat) = j) (hn : j + 1 < Y.2.2.1) (d : decode Y.2.1 pc = .ok (.lstore_n i, 1)) (kk : PW (l, G, Y, R, mc, ms) k n (pc + 1) (st2 ls j (.long x)) st mem Q) : PW (l, G, Y, R, mc, ms) k n pc ls (.long x :: st) mem Q := by
  intro p e s m args below meth c H locs la C Wd S0 hz hl0
  refine lv_lstore_n C.1 C.2.1 d hi hl0 hn rfl (fun la' hl1 => ?_)
  exact kk p e s m args below meth c H locs la' C Wd S0 hz (pw_st2 (v := .long x) hl1)
theorem PW.lstore {j : Nat} {x : Int64} (hn : j + 1 < Y.2.2.1) (d : decode Y.2.1 pc = .ok (.lstore j, 2)) (kk : PW (l, G, Y, R, mc, ms) k n (pc + 2) (st2 ls j (.long x)) st mem Q) : PW (l, G, Y, R, mc, ms) k n pc ls (.long x :: st) mem Q := by
  intro p e s m args below meth c H locs la C Wd S0 hz hl0
  refine lv_lstore C.1 C.2.1 d hl0 hn rfl (fun la' hl1 => ?_)
  exact kk p e s m args below meth c H locs la' C Wd S0 hz (pw_st2 (v := .long x) hl1)
theorem PW.astore_n {i : Fin 4} {j : Nat} {x : Nat} (hi : (i : Nat) = j) (hn : j < Y.2.2.1) (d : decode Y.2.1 pc = .ok (.astore_n i, 1)) (kk : PW (l, G, Y, R, mc, ms) k n (pc + 1) (st1 ls j (.ref x)) st mem Q) : PW (l, G, Y, R, mc, ms) k n pc ls (.ref x :: st) mem Q := by
  intro p e s m args below meth c H locs la C Wd S0 hz hl0
  refine lv_astore_n C.1 C.2.1 d hi hl0 hn rfl (fun la' hl1 => ?_)
  exact kk p e s m args below meth c H locs la' C Wd S0 hz (pw_st1 (v := .ref x) hl1)
theorem PW.astore {j : Nat} {x : Nat} (hn : j < Y.2.2.1) (d : decode Y.2.1 pc = .ok (.astore j, 2)) (kk : PW (l, G, Y, R, mc, ms) k n (pc + 2) (st1 ls j (.ref x)) st mem Q) : PW (l, G, Y, R, mc, ms) k n pc ls (.ref x :: st) mem Q := by
  intro p e s m args below meth c H locs la C Wd S0 hz hl0
  refine lv_astore C.1 C.2.1 d hl0 hn rfl (fun la' hl1 => ?_)
  exact kk p e s m args below meth c H locs la' C Wd S0 hz (pw_st1 (v := .ref x) hl1)
theorem PW.iinc {i : Nat} {z : Int} {x v : Int32} (hl : lk ls i = some (.int x)) (hv : x + Int32.ofInt z = v) (hn : i < Y.2.2.1) (d : decode Y.2.1 pc = .ok (.iinc i z, 3)) (kk : PW (l, G, Y, R, mc, ms) k n (pc + 3) (st1 ls i (.int v)) st mem Q) : PW (l, G, Y, R, mc, ms) k n pc ls st mem Q := by
  intro p e s m args below meth c H locs la C Wd S0 hz hl0
  have hm : (i, Value.int x) ∈ pw_ls G ls ++ [(i, Value.int x)] := List.mem_append_right _ (List.mem_singleton.mpr rfl)
  have ha : lv_has la Y.2.2.1 (pw_ls G ls ++ [(i, Value.int x)]) := ⟨hl0.1, hl0.2.1, fun q hq => by
    rcases List.mem_append.mp hq with hq | hq
    · exact hl0.2.2 q hq
    · rw [List.mem_singleton.mp hq]
      exact pw_lk hl0 hl⟩
  refine lv_iinc C.1 C.2.1 d ha (k := (pw_ls G ls).length) (by simp) hv hn rfl (fun la' hl1 => ?_)
  refine kk p e s m args below meth c H locs la' C Wd S0 hz (pw_st1 (v := .int v) ⟨hl1.1, hl1.2.1, fun q hq => hl1.2.2 q ?_⟩)
  rcases List.mem_cons.mp hq with hq | hq
  · rw [hq]
    exact List.mem_cons_self
  · refine List.mem_cons_of_mem _ ?_
    rw [List.filter_append]
    exact List.mem_append_left _ hq
theorem PW.iadd {x y : Int32} (d : decode Y.2.1 pc = .ok (.iadd, 1)) (kk : PW (l, G, Y, R, mc, ms) k n (pc + 1) ls (.int (x + y) :: st) mem Q) : PW (l, G, Y, R, mc, ms) k n pc ls (.int y :: .int x :: st) mem Q := by
  intro p e s m args below meth c H locs la C Wd S0 hz hl0
  refine lv_iadd C.1 C.2.1 d ?_
  exact kk p e s m args below meth c H locs la C Wd S0 hz hl0
theorem PW.isub {x y : Int32} (d : decode Y.2.1 pc = .ok (.isub, 1)) (kk : PW (l, G, Y, R, mc, ms) k n (pc + 1) ls (.int (x - y) :: st) mem Q) : PW (l, G, Y, R, mc, ms) k n pc ls (.int y :: .int x :: st) mem Q := by
  intro p e s m args below meth c H locs la C Wd S0 hz hl0
  refine lv_isub C.1 C.2.1 d ?_
  exact kk p e s m args below meth c H locs la C Wd S0 hz hl0
theorem PW.imul {x y : Int32} (d : decode Y.2.1 pc = .ok (.imul, 1)) (kk : PW (l, G, Y, R, mc, ms) k n (pc + 1) ls (.int (x * y) :: st) mem Q) : PW (l, G, Y, R, mc, ms) k n pc ls (.int y :: .int x :: st) mem Q := by
  intro p e s m args below meth c H locs la C Wd S0 hz hl0
  refine lv_imul C.1 C.2.1 d ?_
  exact kk p e s m args below meth c H locs la C Wd S0 hz hl0
theorem PW.iand {x y : Int32} (d : decode Y.2.1 pc = .ok (.iand, 1)) (kk : PW (l, G, Y, R, mc, ms) k n (pc + 1) ls (.int (x &&& y) :: st) mem Q) : PW (l, G, Y, R, mc, ms) k n pc ls (.int y :: .int x :: st) mem Q := by
  intro p e s m args below meth c H locs la C Wd S0 hz hl0
  refine lv_iand C.1 C.2.1 d ?_
  exact kk p e s m args below meth c H locs la C Wd S0 hz hl0
theorem PW.ior {x y : Int32} (d : decode Y.2.1 pc = .ok (.ior, 1)) (kk : PW (l, G, Y, R, mc, ms) k n (pc + 1) ls (.int (x ||| y) :: st) mem Q) : PW (l, G, Y, R, mc, ms) k n pc ls (.int y :: .int x :: st) mem Q := by
  intro p e s m args below meth c H locs la C Wd S0 hz hl0
  refine lv_ior C.1 C.2.1 d ?_
  exact kk p e s m args below meth c H locs la C Wd S0 hz hl0
theorem PW.ixor {x y : Int32} (d : decode Y.2.1 pc = .ok (.ixor, 1)) (kk : PW (l, G, Y, R, mc, ms) k n (pc + 1) ls (.int (x ^^^ y) :: st) mem Q) : PW (l, G, Y, R, mc, ms) k n pc ls (.int y :: .int x :: st) mem Q := by
  intro p e s m args below meth c H locs la C Wd S0 hz hl0
  refine lv_ixor C.1 C.2.1 d ?_
  exact kk p e s m args below meth c H locs la C Wd S0 hz hl0
theorem PW.ishl {x y : Int32} (d : decode Y.2.1 pc = .ok (.ishl, 1)) (kk : PW (l, G, Y, R, mc, ms) k n (pc + 1) ls (.int (x <<< (y &&& 31)) :: st) mem Q) : PW (l, G, Y, R, mc, ms) k n pc ls (.int y :: .int x :: st) mem Q := by
  intro p e s m args below meth c H locs la C Wd S0 hz hl0
  refine lv_ishl C.1 C.2.1 d ?_
  exact kk p e s m args below meth c H locs la C Wd S0 hz hl0
theorem PW.ishr {x y : Int32} (d : decode Y.2.1 pc = .ok (.ishr, 1)) (kk : PW (l, G, Y, R, mc, ms) k n (pc + 1) ls (.int (x >>> (y &&& 31)) :: st) mem Q) : PW (l, G, Y, R, mc, ms) k n pc ls (.int y :: .int x :: st) mem Q := by
  intro p e s m args below meth c H locs la C Wd S0 hz hl0
  refine lv_ishr C.1 C.2.1 d ?_
  exact kk p e s m args below meth c H locs la C Wd S0 hz hl0
theorem PW.idiv {x y : Int32} (hne : ¬ y = 0) (d : decode Y.2.1 pc = .ok (.idiv, 1)) (kk : PW (l, G, Y, R, mc, ms) k n (pc + 1) ls (.int (x / y) :: st) mem Q) : PW (l, G, Y, R, mc, ms) k n pc ls (.int y :: .int x :: st) mem Q := by
  intro p e s m args below meth c H locs la C Wd S0 hz hl0
  refine lv_idiv C.1 C.2.1 d hne ?_
  exact kk p e s m args below meth c H locs la C Wd S0 hz hl0
theorem PW.irem {x y : Int32} (hne : ¬ y = 0) (d : decode Y.2.1 pc = .ok (.irem, 1)) (kk : PW (l, G, Y, R, mc, ms) k n (pc + 1) ls (.int (x - x / y * y) :: st) mem Q) : PW (l, G, Y, R, mc, ms) k n pc ls (.int y :: .int x :: st) mem Q := by
  intro p e s m args below meth c H locs la C Wd S0 hz hl0
  refine lv_irem C.1 C.2.1 d hne ?_
  exact kk p e s m args below meth c H locs la C Wd S0 hz hl0
theorem PW.ladd {x y : Int64} (d : decode Y.2.1 pc = .ok (.ladd, 1)) (kk : PW (l, G, Y, R, mc, ms) k n (pc + 1) ls (.long (x + y) :: st) mem Q) : PW (l, G, Y, R, mc, ms) k n pc ls (.long y :: .long x :: st) mem Q := by
  intro p e s m args below meth c H locs la C Wd S0 hz hl0
  refine lv_ladd C.1 C.2.1 d ?_
  exact kk p e s m args below meth c H locs la C Wd S0 hz hl0
theorem PW.lsub {x y : Int64} (d : decode Y.2.1 pc = .ok (.lsub, 1)) (kk : PW (l, G, Y, R, mc, ms) k n (pc + 1) ls (.long (x - y) :: st) mem Q) : PW (l, G, Y, R, mc, ms) k n pc ls (.long y :: .long x :: st) mem Q := by
  intro p e s m args below meth c H locs la C Wd S0 hz hl0
  refine lv_lsub C.1 C.2.1 d ?_
  exact kk p e s m args below meth c H locs la C Wd S0 hz hl0
theorem PW.lmul {x y : Int64} (d : decode Y.2.1 pc = .ok (.lmul, 1)) (kk : PW (l, G, Y, R, mc, ms) k n (pc + 1) ls (.long (x * y) :: st) mem Q) : PW (l, G, Y, R, mc, ms) k n pc ls (.long y :: .long x :: st) mem Q := by
  intro p e s m args below meth c H locs la C Wd S0 hz hl0
  refine lv_lmul C.1 C.2.1 d ?_
  exact kk p e s m args below meth c H locs la C Wd S0 hz hl0
theorem PW.ldiv {x y : Int64} (hne : ¬ y = 0) (d : decode Y.2.1 pc = .ok (.ldiv, 1)) (kk : PW (l, G, Y, R, mc, ms) k n (pc + 1) ls (.long (x / y) :: st) mem Q) : PW (l, G, Y, R, mc, ms) k n pc ls (.long y :: .long x :: st) mem Q := by
  intro p e s m args below meth c H locs la C Wd S0 hz hl0
  refine lv_ldiv C.1 C.2.1 d hne ?_
  exact kk p e s m args below meth c H locs la C Wd S0 hz hl0
theorem PW.lrem {x y : Int64} (hne : ¬ y = 0) (d : decode Y.2.1 pc = .ok (.lrem, 1)) (kk : PW (l, G, Y, R, mc, ms) k n (pc + 1) ls (.long (x - x / y * y) :: st) mem Q) : PW (l, G, Y, R, mc, ms) k n pc ls (.long y :: .long x :: st) mem Q := by
  intro p e s m args below meth c H locs la C Wd S0 hz hl0
  refine lv_lrem C.1 C.2.1 d hne ?_
  exact kk p e s m args below meth c H locs la C Wd S0 hz hl0
theorem PW.lcmp {x y : Int64} (d : decode Y.2.1 pc = .ok (.lcmp, 1)) (kk : PW (l, G, Y, R, mc, ms) k n (pc + 1) ls (.int (lg_cmp x y) :: st) mem Q) : PW (l, G, Y, R, mc, ms) k n pc ls (.long y :: .long x :: st) mem Q := by
  intro p e s m args below meth c H locs la C Wd S0 hz hl0
  refine W.lcmp C.1 C.2.1 d ?_
  exact kk p e s m args below meth c H locs la C Wd S0 hz hl0
theorem PW.i2l {x : Int32} (d : decode Y.2.1 pc = .ok (.i2l, 1)) (kk : PW (l, G, Y, R, mc, ms) k n (pc + 1) ls (.long x.toInt64 :: st) mem Q) : PW (l, G, Y, R, mc, ms) k n pc ls (.int x :: st) mem Q := by
  intro p e s m args below meth c H locs la C Wd S0 hz hl0
  refine lv_i2l C.1 C.2.1 d rfl ?_
  exact kk p e s m args below meth c H locs la C Wd S0 hz hl0
theorem PW.l2i {x : Int64} (d : decode Y.2.1 pc = .ok (.l2i, 1)) (kk : PW (l, G, Y, R, mc, ms) k n (pc + 1) ls (.int x.toInt32 :: st) mem Q) : PW (l, G, Y, R, mc, ms) k n pc ls (.long x :: st) mem Q := by
  intro p e s m args below meth c H locs la C Wd S0 hz hl0
  refine lv_l2i C.1 C.2.1 d rfl ?_
  exact kk p e s m args below meth c H locs la C Wd S0 hz hl0
theorem PW.dup {v : Value} (hv : v.category = 1) (d : decode Y.2.1 pc = .ok (.dup, 1)) (kk : PW (l, G, Y, R, mc, ms) k n (pc + 1) ls (v :: v :: st) mem Q) : PW (l, G, Y, R, mc, ms) k n pc ls (v :: st) mem Q := by
  intro p e s m args below meth c H locs la C Wd S0 hz hl0
  refine lv_dup C.1 C.2.1 d ((pw_cat G v).trans hv) ?_
  exact kk p e s m args below meth c H locs la C Wd S0 hz hl0
theorem PW.pop {v : Value} (hv : v.category = 1) (d : decode Y.2.1 pc = .ok (.pop, 1)) (kk : PW (l, G, Y, R, mc, ms) k n (pc + 1) ls st mem Q) : PW (l, G, Y, R, mc, ms) k n pc ls (v :: st) mem Q := by
  intro p e s m args below meth c H locs la C Wd S0 hz hl0
  refine lv_pop C.1 C.2.1 d ((pw_cat G v).trans hv) ?_
  exact kk p e s m args below meth c H locs la C Wd S0 hz hl0
theorem PW.dup2 {v u : Value} (hv : v.category = 1) (hu : u.category = 1) (d : decode Y.2.1 pc = .ok (.dup2, 1)) (kk : PW (l, G, Y, R, mc, ms) k n (pc + 1) ls (v :: u :: v :: u :: st) mem Q) : PW (l, G, Y, R, mc, ms) k n pc ls (v :: u :: st) mem Q := by
  intro p e s m args below meth c H locs la C Wd S0 hz hl0
  refine lv_dup2_11 C.1 C.2.1 d ((pw_cat G v).trans hv) ((pw_cat G u).trans hu) ?_
  exact kk p e s m args below meth c H locs la C Wd S0 hz hl0
theorem PW.goto {off : Int} (tgt : Nat) (ht : (pc : Int) + off = (tgt : Int)) (d : decode Y.2.1 pc = .ok (.goto off, 3)) (kk : PW (l, G, Y, R, mc, ms) k n tgt ls st mem Q) : PW (l, G, Y, R, mc, ms) k n pc ls st mem Q := by
  intro p e s m args below meth c H locs la C Wd S0 hz hl0
  refine lv_goto C.1 C.2.1 d ht ?_
  exact kk p e s m args below meth c H locs la C Wd S0 hz hl0
theorem PW.if_eq {x : Int32} {off : Int} (tgt : Nat) (ht : (pc : Int) + off = (tgt : Int)) (d : decode Y.2.1 pc = .ok (.ifCond .eq off, 3)) (kt : x = 0 → PW (l, G, Y, R, mc, ms) k n tgt ls st mem Q) (kf : ¬ x = 0 → PW (l, G, Y, R, mc, ms) k n (pc + 3) ls st mem Q) : PW (l, G, Y, R, mc, ms) k n pc ls (.int x :: st) mem Q := by
  intro p e s m args below meth c H locs la C Wd S0 hz hl0
  exact lv_if_eq C.1 C.2.1 d ht (fun hc => kt hc p e s m args below meth c H locs la C Wd S0 hz hl0) (fun hc => kf hc p e s m args below meth c H locs la C Wd S0 hz hl0)
theorem PW.icmp_eq {x y : Int32} {off : Int} (tgt : Nat) (ht : (pc : Int) + off = (tgt : Int)) (d : decode Y.2.1 pc = .ok (.if_icmp .eq off, 3)) (kt : x = y → PW (l, G, Y, R, mc, ms) k n tgt ls st mem Q) (kf : ¬ x = y → PW (l, G, Y, R, mc, ms) k n (pc + 3) ls st mem Q) : PW (l, G, Y, R, mc, ms) k n pc ls (.int y :: .int x :: st) mem Q := by
  intro p e s m args below meth c H locs la C Wd S0 hz hl0
  exact lv_icmp_eq C.1 C.2.1 d ht (fun hc => kt hc p e s m args below meth c H locs la C Wd S0 hz hl0) (fun hc => kf hc p e s m args below meth c H locs la C Wd S0 hz hl0)
theorem PW.if_ne {x : Int32} {off : Int} (tgt : Nat) (ht : (pc : Int) + off = (tgt : Int)) (d : decode Y.2.1 pc = .ok (.ifCond .ne off, 3)) (kt : ¬ x = 0 → PW (l, G, Y, R, mc, ms) k n tgt ls st mem Q) (kf : x = 0 → PW (l, G, Y, R, mc, ms) k n (pc + 3) ls st mem Q) : PW (l, G, Y, R, mc, ms) k n pc ls (.int x :: st) mem Q := by
  intro p e s m args below meth c H locs la C Wd S0 hz hl0
  exact lv_if_ne C.1 C.2.1 d ht (fun hc => kt hc p e s m args below meth c H locs la C Wd S0 hz hl0) (fun hc => kf hc p e s m args below meth c H locs la C Wd S0 hz hl0)
theorem PW.icmp_ne {x y : Int32} {off : Int} (tgt : Nat) (ht : (pc : Int) + off = (tgt : Int)) (d : decode Y.2.1 pc = .ok (.if_icmp .ne off, 3)) (kt : ¬ x = y → PW (l, G, Y, R, mc, ms) k n tgt ls st mem Q) (kf : x = y → PW (l, G, Y, R, mc, ms) k n (pc + 3) ls st mem Q) : PW (l, G, Y, R, mc, ms) k n pc ls (.int y :: .int x :: st) mem Q := by
  intro p e s m args below meth c H locs la C Wd S0 hz hl0
  exact lv_icmp_ne C.1 C.2.1 d ht (fun hc => kt hc p e s m args below meth c H locs la C Wd S0 hz hl0) (fun hc => kf hc p e s m args below meth c H locs la C Wd S0 hz hl0)
theorem PW.if_lt {x : Int32} {off : Int} (tgt : Nat) (ht : (pc : Int) + off = (tgt : Int)) (d : decode Y.2.1 pc = .ok (.ifCond .lt off, 3)) (kt : x < 0 → PW (l, G, Y, R, mc, ms) k n tgt ls st mem Q) (kf : ¬ x < 0 → PW (l, G, Y, R, mc, ms) k n (pc + 3) ls st mem Q) : PW (l, G, Y, R, mc, ms) k n pc ls (.int x :: st) mem Q := by
  intro p e s m args below meth c H locs la C Wd S0 hz hl0
  exact lv_if_lt C.1 C.2.1 d ht (fun hc => kt hc p e s m args below meth c H locs la C Wd S0 hz hl0) (fun hc => kf hc p e s m args below meth c H locs la C Wd S0 hz hl0)
theorem PW.icmp_lt {x y : Int32} {off : Int} (tgt : Nat) (ht : (pc : Int) + off = (tgt : Int)) (d : decode Y.2.1 pc = .ok (.if_icmp .lt off, 3)) (kt : x < y → PW (l, G, Y, R, mc, ms) k n tgt ls st mem Q) (kf : ¬ x < y → PW (l, G, Y, R, mc, ms) k n (pc + 3) ls st mem Q) : PW (l, G, Y, R, mc, ms) k n pc ls (.int y :: .int x :: st) mem Q := by
  intro p e s m args below meth c H locs la C Wd S0 hz hl0
  exact lv_icmp_lt C.1 C.2.1 d ht (fun hc => kt hc p e s m args below meth c H locs la C Wd S0 hz hl0) (fun hc => kf hc p e s m args below meth c H locs la C Wd S0 hz hl0)
theorem PW.if_ge {x : Int32} {off : Int} (tgt : Nat) (ht : (pc : Int) + off = (tgt : Int)) (d : decode Y.2.1 pc = .ok (.ifCond .ge off, 3)) (kt : 0 ≤ x → PW (l, G, Y, R, mc, ms) k n tgt ls st mem Q) (kf : ¬ 0 ≤ x → PW (l, G, Y, R, mc, ms) k n (pc + 3) ls st mem Q) : PW (l, G, Y, R, mc, ms) k n pc ls (.int x :: st) mem Q := by
  intro p e s m args below meth c H locs la C Wd S0 hz hl0
  exact lv_if_ge C.1 C.2.1 d ht (fun hc => kt hc p e s m args below meth c H locs la C Wd S0 hz hl0) (fun hc => kf hc p e s m args below meth c H locs la C Wd S0 hz hl0)
theorem PW.icmp_ge {x y : Int32} {off : Int} (tgt : Nat) (ht : (pc : Int) + off = (tgt : Int)) (d : decode Y.2.1 pc = .ok (.if_icmp .ge off, 3)) (kt : y ≤ x → PW (l, G, Y, R, mc, ms) k n tgt ls st mem Q) (kf : ¬ y ≤ x → PW (l, G, Y, R, mc, ms) k n (pc + 3) ls st mem Q) : PW (l, G, Y, R, mc, ms) k n pc ls (.int y :: .int x :: st) mem Q := by
  intro p e s m args below meth c H locs la C Wd S0 hz hl0
  exact lv_icmp_ge C.1 C.2.1 d ht (fun hc => kt hc p e s m args below meth c H locs la C Wd S0 hz hl0) (fun hc => kf hc p e s m args below meth c H locs la C Wd S0 hz hl0)
theorem PW.if_gt {x : Int32} {off : Int} (tgt : Nat) (ht : (pc : Int) + off = (tgt : Int)) (d : decode Y.2.1 pc = .ok (.ifCond .gt off, 3)) (kt : 0 < x → PW (l, G, Y, R, mc, ms) k n tgt ls st mem Q) (kf : ¬ 0 < x → PW (l, G, Y, R, mc, ms) k n (pc + 3) ls st mem Q) : PW (l, G, Y, R, mc, ms) k n pc ls (.int x :: st) mem Q := by
  intro p e s m args below meth c H locs la C Wd S0 hz hl0
  exact lv_if_gt C.1 C.2.1 d ht (fun hc => kt hc p e s m args below meth c H locs la C Wd S0 hz hl0) (fun hc => kf hc p e s m args below meth c H locs la C Wd S0 hz hl0)
theorem PW.icmp_gt {x y : Int32} {off : Int} (tgt : Nat) (ht : (pc : Int) + off = (tgt : Int)) (d : decode Y.2.1 pc = .ok (.if_icmp .gt off, 3)) (kt : y < x → PW (l, G, Y, R, mc, ms) k n tgt ls st mem Q) (kf : ¬ y < x → PW (l, G, Y, R, mc, ms) k n (pc + 3) ls st mem Q) : PW (l, G, Y, R, mc, ms) k n pc ls (.int y :: .int x :: st) mem Q := by
  intro p e s m args below meth c H locs la C Wd S0 hz hl0
  exact lv_icmp_gt C.1 C.2.1 d ht (fun hc => kt hc p e s m args below meth c H locs la C Wd S0 hz hl0) (fun hc => kf hc p e s m args below meth c H locs la C Wd S0 hz hl0)
theorem PW.if_le {x : Int32} {off : Int} (tgt : Nat) (ht : (pc : Int) + off = (tgt : Int)) (d : decode Y.2.1 pc = .ok (.ifCond .le off, 3)) (kt : x ≤ 0 → PW (l, G, Y, R, mc, ms) k n tgt ls st mem Q) (kf : ¬ x ≤ 0 → PW (l, G, Y, R, mc, ms) k n (pc + 3) ls st mem Q) : PW (l, G, Y, R, mc, ms) k n pc ls (.int x :: st) mem Q := by
  intro p e s m args below meth c H locs la C Wd S0 hz hl0
  exact lv_if_le C.1 C.2.1 d ht (fun hc => kt hc p e s m args below meth c H locs la C Wd S0 hz hl0) (fun hc => kf hc p e s m args below meth c H locs la C Wd S0 hz hl0)
theorem PW.icmp_le {x y : Int32} {off : Int} (tgt : Nat) (ht : (pc : Int) + off = (tgt : Int)) (d : decode Y.2.1 pc = .ok (.if_icmp .le off, 3)) (kt : x ≤ y → PW (l, G, Y, R, mc, ms) k n tgt ls st mem Q) (kf : ¬ x ≤ y → PW (l, G, Y, R, mc, ms) k n (pc + 3) ls st mem Q) : PW (l, G, Y, R, mc, ms) k n pc ls (.int y :: .int x :: st) mem Q := by
  intro p e s m args below meth c H locs la C Wd S0 hz hl0
  exact lv_icmp_le C.1 C.2.1 d ht (fun hc => kt hc p e s m args below meth c H locs la C Wd S0 hz hl0) (fun hc => kf hc p e s m args below meth c H locs la C Wd S0 hz hl0)
theorem PW.lookup {dflt : Int} {ps : Array (Int × Int)} {len : Nat} {x : Int32} {off : Int} (tgt : Nat) (hp : (ps.toList.zip (ps.toList.drop 1)).all (fun (a, next) => a.1 < next.1) = true) (ho : Op.lookupswitch.offset ps.toList dflt x.toInt = off) (ht : (pc : Int) + off = (tgt : Int)) (d : decode Y.2.1 pc = .ok (.lookupswitch dflt ps, len)) (kk : PW (l, G, Y, R, mc, ms) k n tgt ls st mem Q) : PW (l, G, Y, R, mc, ms) k n pc ls (.int x :: st) mem Q := by
  intro p e s m args below meth c H locs la C Wd S0 hz hl0
  refine lv_lookup C.1 C.2.1 d hp ho ht ?_
  exact kk p e s m args below meth c H locs la C Wd S0 hz hl0
theorem PW.tableOut {dflt lo hi : Int} {offs : Array Int} {len : Nat} {x : Int32} (tgt : Nat) (hx : x.toInt < lo ∨ hi < x.toInt) (ht : (pc : Int) + dflt = (tgt : Int)) (d : decode Y.2.1 pc = .ok (.tableswitch dflt lo hi offs, len)) (kk : PW (l, G, Y, R, mc, ms) k n tgt ls st mem Q) : PW (l, G, Y, R, mc, ms) k n pc ls (.int x :: st) mem Q := by
  intro p e s m args below meth c H locs la C Wd S0 hz hl0
  refine lv_tableOut C.1 C.2.1 d hx ht ?_
  exact kk p e s m args below meth c H locs la C Wd S0 hz hl0
theorem PW.tableIn {dflt lo hi : Int} {offs : Array Int} {len : Nat} {x : Int32} {off : Int} (tgt : Nat) (h1 : ¬ x.toInt < lo) (h2 : ¬ hi < x.toInt) (ho : offs[(x.toInt - lo).toNat]? = some off) (ht : (pc : Int) + off = (tgt : Int)) (d : decode Y.2.1 pc = .ok (.tableswitch dflt lo hi offs, len)) (kk : PW (l, G, Y, R, mc, ms) k n tgt ls st mem Q) : PW (l, G, Y, R, mc, ms) k n pc ls (.int x :: st) mem Q := by
  intro p e s m args below meth c H locs la C Wd S0 hz hl0
  refine lv_tableIn C.1 C.2.1 d h1 h2 ho ht ?_
  exact kk p e s m args below meth c H locs la C Wd S0 hz hl0
def pw_F (own : String) (idx ci j : Nat) : Prop := ∃ (C : String) (T : u_T) (N : Nat), vwCl[ci]? = some (C, T, N) ∧ j < N ∧ (∀ w ∈ u_ws C T N, w ∈ pw_tbl) ∧ Cond.fieldLink own idx (T j).1 (T j).2.1 (T j).2.2.1 ∈ pw_tbl
def pw_FP (own : String) (idx ci j : Nat) (ty : FieldType) (fin : Bool) : Prop := ∃ (C : String) (T : u_T) (N : Nat) (tys : Nat → FieldType), vwCl[ci]? = some (C, T, N) ∧ j < N ∧ (∀ w ∈ u_ws C T N, w ∈ pw_tbl) ∧ Cond.fieldLink own idx (T j).1 (T j).2.1 (T j).2.2.1 ∈ pw_tbl ∧ (∀ k, k < N → parseFieldDescriptor (T k).2.2.1 = some (tys k)) ∧ (∀ a, a < N → ∀ b, b < N → a ≠ b → (T a).2.1 ≠ (T b).2.1) ∧ (T j).2.2.2 = fin ∧ parseFieldDescriptor (T j).2.2.1 = some ty ∧ (T j).1 = C
theorem PW.get {idx ci j r : Nat} {fs : List Value} {v : Value} (hs : pw_F Y.1.cls idx ci j) (h9 : 9 ≤ r) (hm : mem[r]? = some (.inr (ci, fs))) (hv : fs[j]? = some v) (d : decode Y.2.1 pc = .ok (.getfield idx, 3)) (kk : PW (l, G, Y, R, mc, ms) k n (pc + 3) ls (v :: st) mem Q) : PW (l, G, Y, R, mc, ms) k n pc ls (.ref r :: st) mem Q := by
  intro p e s m args below meth c H locs la C Wd S0 hz hl0
  obtain ⟨C0, T0, N0, s1, s2, s3, s4⟩ := hs
  refine va_get (D := G.1) (ci := ci) (v := pw_v G v) (C := C0) (T := T0) (N := N0) C.1 C.2.1 C.2.2.2.2.2.2.2.1 s3 C.2.2.2.2.2.2.1 Wd.2.2.2.1 Wd.2.2.1 (r - 9) (fs := fs.map (pw_v G)) (pw_ws_get h9 hm) s1 j s2 (C.2.2.2.2.2.2.2.1 _ s4) (fun _ h => h) (by rw [List.getElem?_map, hv]; rfl) d ?_
  exact kk p e s m args below meth c H locs la C Wd S0 hz hl0
theorem pw_Ar {G : pw_G} {r : Nat} (h9 : 9 ≤ r) : pw_A G (pw_ad G r) := by
  show G.2.2.1 ≤ pw_ad G r
  simp only [pw_ad, if_neg (show ¬ r < 9 by omega)]
  omega
/-- the world behind a write to a cell -/
theorem pw_put {r : Nat} {x0 x : pw_E} {s : State} {H H1 : Heap} {G : pw_G} {mem : pw_M} (Wd : pw_Wd G mem s H) (h9 : 9 ≤ r) (hm : mem[r]? = some x0) (hz1 : H1.size = H.size) (hq : ∀ a : Nat, a ≠ pw_ad G r → H1[a]? = H[a]?) (hx : va_at G.1 vwCl (pw_ad G r, pw_e G x) H1) : pw_Wd G (mem.set r x) s H1 := by
  refine ⟨by rw [List.length_set]; exact Wd.1, by rw [List.length_set, hz1]; exact Wd.2.1, by rw [pw_ws_set h9]; exact Wd.2.2.1.set (pw_D G mem) (pw_ws_get h9 hm) hx hq, Wd.2.2.2.1, (Wd.2.2.2.2.kept (fun a _ h2 => hq a (fun z => h2 (by rw [z]; exact pw_Ar h9)))).set h9 x⟩
theorem PW.put {idx ci j r : Nat} {fs : List Value} {v : Value} {ty : FieldType} (hs : pw_FP Y.1.cls idx ci j ty false) (hty : ∀ G : pw_G, narrow ty (pw_v G v) = pw_v G v ∧ fits ty (pw_v G v) = true) (h9 : 9 ≤ r) (hm : mem[r]? = some (.inr (ci, fs))) (hl : j < fs.length) (d : decode Y.2.1 pc = .ok (.putfield idx, 3)) (kk : PW (l, G, Y, R, mc, ms) k n (pc + 3) ls st (mem.set r (.inr (ci, fs.set j v))) Q) : PW (l, G, Y, R, mc, ms) k n pc ls (v :: .ref r :: st) mem Q := by
  intro p e s m args below meth c H locs la C Wd S0 hz hl0
  obtain ⟨C0, T0, N0, ty0, s1, s2, s3, s4, s5, s6, s7, s8, -⟩ := hs
  have hts := C.2.2.2.2.2.2.2.1
  have hK := Wd.2.2.2.1
  have hat := pw_ws_get (G := G) h9 hm
  have hap := va_apart (own := Y.1.cls) hts s3 ty0 s5 s6 hK s1
  obtain ⟨r0, h1, cell, q1, q2, q3, q4⟩ := Wd.2.2.1 (r - 9) _ hat
  have hr : r0 = (C0, T0, N0) := Option.some.inj (h1.symm.trans s1)
  subst hr
  obtain ⟨hS, hfc, kC, hkC, hkind⟩ := hK.1 ci _ s1
  obtain ⟨cf, kf, fi, f, hi, hsl⟩ := hS j s2
  have hlay := hts _ (s3 _ (u_in_lay s2))
  unfold u_lay at hlay
  rw [if_neg (by rw [s7]; decide)] at hlay
  have hst := (u_facts hfc hkC (u_lays hts s3 s2) hi).1
  have h6 := u_store hfc hkC hkind hlay hi s8 (hty G).1 (hty G).2
  refine W.putK C.1 C.2.1 (f := f) ⟨C.2.2.2.2.2.2.1, hts _ s4, ⟨_, _, _, hi⟩, hst⟩ (by rw [q2]; exact h6) q1 q3 (by rw [hsl]; exact k2_hasslot (q4 j s2)) rfl rfl d fun H' e1 e2 e3 => ?_
  rw [hsl] at e1 ⊢
  refine kk p e s m args below meth c H' _ la C (pw_put Wd h9 hm e2 e3 ⟨_, s1, t_OB.to (V := updV (vp_V (fs.map (pw_v G))) j (pw_v G v)) ⟨_, e1, q2, q3, t_set q4 hap s2 (pw_v G v)⟩ (fun i _ => ?_)⟩) (S0.put e2 e3 (pw_Ar h9)) hz hl0
  rw [vp_updV_set (by rw [List.length_map]; exact hl) (pw_v G v) i, List.map_set]
theorem PW.putF {idx ci j r : Nat} {fs : List Value} {v : Value} {ty : FieldType} (hs : pw_FP Y.1.cls idx ci j ty true) (hin : Y.1.name = "<init>") (hcl : vwCl[ci]?.map (fun q => q.1) = some Y.1.cls) (hty : ∀ G : pw_G, narrow ty (pw_v G v) = pw_v G v ∧ fits ty (pw_v G v) = true) (h9 : 9 ≤ r) (hm : mem[r]? = some (.inr (ci, fs))) (hl : j < fs.length) (d : decode Y.2.1 pc = .ok (.putfield idx, 3)) (kk : PW (l, G, Y, R, mc, ms) k n (pc + 3) ls st (mem.set r (.inr (ci, fs.set j v))) Q) : PW (l, G, Y, R, mc, ms) k n pc ls (v :: .ref r :: st) mem Q := by
  intro p e s m args below meth c H locs la C Wd S0 hz hl0
  obtain ⟨C0, T0, N0, ty0, s1, s2, s3, s4, s5, s6, s7, s8, s9⟩ := hs
  rw [s1] at hcl
  have hCo : C0 = Y.1.cls := Option.some.inj hcl
  have hts := C.2.2.2.2.2.2.2.1
  have hown := C.2.2.2.2.2.2.1
  have hK := Wd.2.2.2.1
  have hat := pw_ws_get (G := G) h9 hm
  have hap := va_apart (own := Y.1.cls) hts s3 ty0 s5 s6 hK s1
  obtain ⟨r0, h1, cell, q1, q2, q3, q4⟩ := Wd.2.2.1 (r - 9) _ hat
  have hr : r0 = (C0, T0, N0) := Option.some.inj (h1.symm.trans s1)
  subst hr
  obtain ⟨hS, hfc, kC, hkC, hkind⟩ := hK.1 ci _ s1
  obtain ⟨cf, kf, fi, f, hi, hsl⟩ := hS j s2
  have hlay := hts _ (s3 _ (u_in_lay s2))
  unfold u_lay at hlay
  rw [if_pos s7] at hlay
  have hst := (u_facts hfc hkC (u_lays hts s3 s2) hi).1
  have hcf : m.cls = cf := by
    obtain ⟨_, _, c', _, _, _, -, -, hf', -, -, -, hown2, -⟩ := Cond.laysFinal_spec hlay
    have e1 : c' = cf := by have := hi.symm.trans hf'; simp at this; exact this.1.symm
    rw [s9, hCo] at hown2
    rw [← e1]; exact Option.some.inj (hown.symm.trans hown2)
  have h6 := u_fits hfc hkC hkind (Or.inr hlay) hi s8 (hty G).1 (hty G).2
  refine W.putFinK C.1 C.2.1 hown (hts _ s4) hi hst hcf (C.2.2.2.2.2.1.trans hin) (by rw [q2]; exact h6) q1 q3 (by rw [hsl]; exact k2_hasslot (q4 j s2)) rfl rfl d fun H' e1 e2 e3 => ?_
  rw [hsl] at e1 ⊢
  refine kk p e s m args below meth c H' _ la C (pw_put Wd h9 hm e2 e3 ⟨_, s1, t_OB.to (V := updV (vp_V (fs.map (pw_v G))) j (pw_v G v)) ⟨_, e1, q2, q3, t_set q4 hap s2 (pw_v G v)⟩ (fun i _ => ?_)⟩) (S0.put e2 e3 (pw_Ar h9)) hz hl0
  rw [vp_updV_set (by rw [List.length_map]; exact hl) (pw_v G v) i, List.map_set]
theorem PW.iald {r N : Nat} {f : Nat → Int32} {i : Int32} (hm : mem[r]? = some (.inl (0, N, .inl f))) (hin : vp_in i N) (d : decode Y.2.1 pc = .ok (.iaload, 1)) (kk : PW (l, G, Y, R, mc, ms) k n (pc + 1) ls (.int (f i.toNatClampNeg) :: st) mem Q) : PW (l, G, Y, R, mc, ms) k n pc ls (.int i :: .ref r :: st) mem Q := by
  intro p e s m args below meth c H locs la C Wd S0 hz hl0
  have hlt : i.toNatClampNeg < N := Nat.not_le.mp fun q => hin (Or.inr q)
  by_cases h9 : r < 9
  · have ea : pw_ad G r = G.2.2.2 r := by simp only [pw_ad, if_pos h9]
    obtain ⟨cell, t1, t2, t3, t4, t5, t6, t7⟩ := Wd.2.2.2.2.1 r N f h9 hm
    refine W.iald (v := .int (f i.toNatClampNeg)) C.1 C.2.1 (a := pw_ad G r) (by rw [ea]; exact t1) t2 t3 (fun q => hin (q.imp id (fun z => Nat.le_trans t4 z))) (t6 _ hlt) rfl rfl d ?_
    exact kk p e s m args below meth c H locs la C Wd S0 hz hl0
  · refine va_iald (D := G.1) C.1 C.2.1 Wd.2.2.2.1 Wd.2.2.1 (r - 9) 0 (pw_ws_get (Nat.not_lt.mp h9) hm) rfl hin d ?_
    exact kk p e s m args below meth c H locs la C Wd S0 hz hl0
theorem PW.zald {r N : Nat} {f : Nat → Int32} {i : Int32} (h9 : 9 ≤ r) (hm : mem[r]? = some (.inl (1, N, .inl f))) (hin : vp_in i N) (d : decode Y.2.1 pc = .ok (.baload, 1)) (kk : PW (l, G, Y, R, mc, ms) k n (pc + 1) ls (.int (f i.toNatClampNeg) :: st) mem Q) : PW (l, G, Y, R, mc, ms) k n pc ls (.int i :: .ref r :: st) mem Q := by
  intro p e s m args below meth c H locs la C Wd S0 hz hl0
  refine va_zald (D := G.1) C.1 C.2.1 Wd.2.2.2.1 Wd.2.2.1 (r - 9) 1 (pw_ws_get h9 hm) rfl hin d ?_
  exact kk p e s m args below meth c H locs la C Wd S0 hz hl0
theorem PW.lald {r N : Nat} {f : Nat → Int64} {i : Int32} (h9 : 9 ≤ r) (hm : mem[r]? = some (.inl (2, N, .inr (.inl f)))) (hin : vp_in i N) (d : decode Y.2.1 pc = .ok (.laload, 1)) (kk : PW (l, G, Y, R, mc, ms) k n (pc + 1) ls (.long (f i.toNatClampNeg) :: st) mem Q) : PW (l, G, Y, R, mc, ms) k n pc ls (.int i :: .ref r :: st) mem Q := by
  intro p e s m args below meth c H locs la C Wd S0 hz hl0
  refine va_lald (D := G.1) C.1 C.2.1 Wd.2.2.2.1 Wd.2.2.1 (r - 9) 2 (pw_ws_get h9 hm) rfl hin d ?_
  exact kk p e s m args below meth c H locs la C Wd S0 hz hl0
theorem PW.aald {r N t0 q : Nat} {ty : FieldType} {f : Nat → Option Nat} {i : Int32} (h9 : 9 ≤ r) (hm : mem[r]? = some (.inl (t0, N, .inr (.inr f)))) (ht : ∀ G : pw_G, (pw_tys G)[t0]? = some (G.2.1 t0, ty)) (hty : ty.isReference = true) (hin : vp_in i N) (hq : f i.toNatClampNeg = some q) (d : decode Y.2.1 pc = .ok (.aaload, 1)) (kk : PW (l, G, Y, R, mc, ms) k n (pc + 1) ls (.ref q :: st) mem Q) : PW (l, G, Y, R, mc, ms) k n pc ls (.int i :: .ref r :: st) mem Q := by
  intro p e s m args below meth c H locs la C Wd S0 hz hl0
  have hlt : i.toNatClampNeg < N := Nat.not_le.mp fun q => hin (Or.inr q)
  refine W.aald (v := .ref (pw_ad G q)) (ty := ty) C.1 C.2.1 (Wd.2.2.1 (r - 9) _ (pw_ws_get h9 hm)) ((Wd.2.2.2.1.2 t0 _ (ht G)).1 N (fun j => va_rf ((f j).map (pw_ad G)))) hty (fun q => by cases q) (by show ¬ (i < 0 ∨ (arrV _ _ _).slots.size ≤ _); rw [arrV_size]; exact hin) (by show (arrV _ _ _).slots[_]? = _; rw [arrV_read _ _ hlt]; show some (va_rf ((f i.toNatClampNeg).map (pw_ad G))) = _; rw [hq]; rfl) rfl rfl d ?_
  exact kk p e s m args below meth c H locs la C Wd S0 hz hl0
theorem PW.alen {r N t0 : Nat} {x : (Nat → Int32) ⊕ (Nat → Int64) ⊕ (Nat → Option Nat)} {ty : FieldType} (hm : mem[r]? = some (.inl (t0, N, x))) (h9 : 9 ≤ r) (ht : ∀ G : pw_G, (pw_tys G)[t0]? = some (G.2.1 t0, ty)) (d : decode Y.2.1 pc = .ok (.arraylength, 1)) (kk : PW (l, G, Y, R, mc, ms) k n (pc + 1) ls (.int (Int32.ofNat N) :: st) mem Q) : PW (l, G, Y, R, mc, ms) k n pc ls (.ref r :: st) mem Q := by
  intro p e s m args below meth c H locs la C Wd S0 hz hl0
  have hat := pw_ws_get (G := G) h9 hm
  rcases x with f | f | f
  · refine va_alen (D := G.1) C.1 C.2.1 Wd.2.2.2.1 Wd.2.2.1 (r - 9) t0 hat (ht G) rfl d ?_
    exact kk p e s m args below meth c H locs la C Wd S0 hz hl0
  · refine va_alen (D := G.1) C.1 C.2.1 Wd.2.2.2.1 Wd.2.2.1 (r - 9) t0 hat (ht G) rfl d ?_
    exact kk p e s m args below meth c H locs la C Wd S0 hz hl0
  · refine va_alen (D := G.1) C.1 C.2.1 Wd.2.2.2.1 Wd.2.2.1 (r - 9) t0 hat (ht G) rfl d ?_
    exact kk p e s m args below meth c H locs la C Wd S0 hz hl0
theorem PW.alen0 {r N : Nat} {f : Nat → Int32} (hm : mem[r]? = some (.inl (0, N, .inl f))) (h9 : r < 9) (d : decode Y.2.1 pc = .ok (.arraylength, 1)) (kk : PW (l, G, Y, R, mc, ms) k n (pc + 1) ls (.int (Int32.ofNat N) :: st) mem Q) : PW (l, G, Y, R, mc, ms) k n pc ls (.ref r :: st) mem Q := by
  intro p e s m args below meth c H locs la C Wd S0 hz hl0
  have ea : pw_ad G r = G.2.2.2 r := by simp only [pw_ad, if_pos h9]
  obtain ⟨cell, t1, t2, t3, t4, t5, t6, t7⟩ := Wd.2.2.2.2.1 r N f h9 hm
  refine W.alen (n := Int32.ofNat N) C.1 C.2.1 (a := pw_ad G r) (by rw [ea]; exact t1) t2 t5 rfl rfl d ?_
  exact kk p e s m args below meth c H locs la C Wd S0 hz hl0
theorem PW.iast {r N : Nat} {f : Nat → Int32} {i x : Int32} (h9 : 9 ≤ r) (hm : mem[r]? = some (.inl (0, N, .inl f))) (hin : vp_in i N) (d : decode Y.2.1 pc = .ok (.iastore, 1)) (kk : PW (l, G, Y, R, mc, ms) k n (pc + 1) ls st (mem.set r (.inl (0, N, .inl (upd f i.toNatClampNeg x)))) Q) : PW (l, G, Y, R, mc, ms) k n pc ls (.int x :: .int i :: .ref r :: st) mem Q := by
  intro p e s m args below meth c H locs la C Wd S0 hz hl0
  have hat := pw_ws_get (G := G) h9 hm
  refine W.iast C.1 C.2.1 (Wd.2.2.1 (r - 9) _ hat) ((Wd.2.2.2.1.2 0 _ rfl).1 N (fun j => .int (f j))) (fun q => by cases q) (by show ¬ (i < 0 ∨ (arrV _ _ _).slots.size ≤ _); rw [arrV_size]; exact hin) rfl rfl d fun H1 ee z oq => ?_
  refine kk p e s m args below meth c H1 _ la C (pw_put Wd h9 hm z oq ?_) (S0.put z oq (pw_Ar h9)) hz hl0
  show H1[pw_ad G r]? = some (vp_cell _ _)
  rw [ee]
  rw [vp_cell_i, vp_cell_i, arrV_store]
  congr 2
  funext q
  by_cases hq : q = i.toNatClampNeg
  · subst hq
    simp [updV, upd]
  · simp [updV, upd, hq]
theorem PW.zast {r N : Nat} {f : Nat → Int32} {i x : Int32} (h9 : 9 ≤ r) (hm : mem[r]? = some (.inl (1, N, .inl f))) (hin : vp_in i N) (d : decode Y.2.1 pc = .ok (.bastore, 1)) (kk : PW (l, G, Y, R, mc, ms) k n (pc + 1) ls st (mem.set r (.inl (1, N, .inl (upd f i.toNatClampNeg (vp_nar .boolean x))))) Q) : PW (l, G, Y, R, mc, ms) k n pc ls (.int x :: .int i :: .ref r :: st) mem Q := by
  intro p e s m args below meth c H locs la C Wd S0 hz hl0
  have hat := pw_ws_get (G := G) h9 hm
  refine W.zast C.1 C.2.1 (Wd.2.2.1 (r - 9) _ hat) ((Wd.2.2.2.1.2 1 _ rfl).1 N (fun j => .int (f j))) (fun q => by cases q) (by show ¬ (i < 0 ∨ (arrV _ _ _).slots.size ≤ _); rw [arrV_size]; exact hin) rfl rfl d fun H1 ee z oq => ?_
  refine kk p e s m args below meth c H1 _ la C (pw_put Wd h9 hm z oq ?_) (S0.put z oq (pw_Ar h9)) hz hl0
  show H1[pw_ad G r]? = some (vp_cell _ _)
  rw [ee]
  rw [vp_cell_i, vp_cell_i, arrV_store]
  congr 2
  funext q
  by_cases hq : q = i.toNatClampNeg
  · subst hq
    simp [updV, upd, vp_nar]
    try rfl
  · simp [updV, upd, hq]
theorem PW.last {r N : Nat} {f : Nat → Int64} {i : Int32} {x : Int64} (h9 : 9 ≤ r) (hm : mem[r]? = some (.inl (2, N, .inr (.inl f)))) (hin : vp_in i N) (d : decode Y.2.1 pc = .ok (.lastore, 1)) (kk : PW (l, G, Y, R, mc, ms) k n (pc + 1) ls st (mem.set r (.inl (2, N, .inr (.inl (vp_updL f i.toNatClampNeg x))))) Q) : PW (l, G, Y, R, mc, ms) k n pc ls (.long x :: .int i :: .ref r :: st) mem Q := by
  intro p e s m args below meth c H locs la C Wd S0 hz hl0
  have hat := pw_ws_get (G := G) h9 hm
  refine W.last C.1 C.2.1 (Wd.2.2.1 (r - 9) _ hat) ((Wd.2.2.2.1.2 2 _ rfl).1 N (fun j => .long (f j))) (fun q => by cases q) (by show ¬ (i < 0 ∨ (arrV _ _ _).slots.size ≤ _); rw [arrV_size]; exact hin) rfl rfl d fun H1 ee z oq => ?_
  refine kk p e s m args below meth c H1 _ la C (pw_put Wd h9 hm z oq ?_) (S0.put z oq (pw_Ar h9)) hz hl0
  show H1[pw_ad G r]? = some (vp_cell _ _)
  rw [ee]
  rw [vp_cell_l, vp_cell_l, arrV_store]
  congr 2
  funext q
  by_cases hq : q = i.toNatClampNeg
  · subst hq
    simp [updV, vp_updL]
  · simp [updV, vp_updL, hq]
theorem PW.gets {idx q : Nat} (hq : q < 8) (hs : Cond.fieldLink Y.1.cls idx "PocketLaws$Text" (pw_sn q) "[I" ∈ pw_tbl) (d : decode Y.2.1 pc = .ok (.getstatic idx, 3)) (kk : PW (l, G, Y, R, mc, ms) k n (pc + 3) ls (.ref q :: st) mem Q) : PW (l, G, Y, R, mc, ms) k n pc ls st mem Q := by
  intro p e s m args below meth c H locs la C Wd S0 hz hl0
  obtain ⟨cf, kf, fi, f, a, cell, h1, h2, h3, h4, h5, h6, h7, h8⟩ := Wd.2.2.2.2.2 q hq
  have ea : pw_ad G q = G.2.2.2 q := by simp only [pw_ad, if_pos (show q < 9 by omega)]
  refine W.gets C.1 C.2.1 C.2.2.2.2.2.2.1 (C.2.2.2.2.2.2.2.1 _ hs) h1 h2 h3 h4 h5 (fun e => by rw [e] at h6; cases h6) h7 rfl d ?_
  rw [← ea]
  exact kk p e s m args below meth c H locs la C Wd S0 hz hl0
theorem PW.ldc {idx : Nat} {v : Int32} (hs : Cond.constant Y.1.cls idx v ∈ pw_tbl) (d : decode Y.2.1 pc = .ok (.ldc idx, 2)) (kk : PW (l, G, Y, R, mc, ms) k n (pc + 2) ls (.int v :: st) mem Q) : PW (l, G, Y, R, mc, ms) k n pc ls st mem Q := by
  intro p e s m args below meth c H locs la C Wd S0 hz hl0
  refine lv_ldc C.1 C.2.1 C.2.2.2.2.2.2.1 (C.2.2.2.2.2.2.2.1 _ hs) d ?_
  exact kk p e s m args below meth c H locs la C Wd S0 hz hl0
theorem PW.ldcw {idx : Nat} {v : Int32} (hs : Cond.constant Y.1.cls idx v ∈ pw_tbl) (d : decode Y.2.1 pc = .ok (.ldc_w idx, 3)) (kk : PW (l, G, Y, R, mc, ms) k n (pc + 3) ls (.int v :: st) mem Q) : PW (l, G, Y, R, mc, ms) k n pc ls st mem Q := by
  intro p e s m args below meth c H locs la C Wd S0 hz hl0
  refine lv_ldcw C.1 C.2.1 C.2.2.2.2.2.2.1 (C.2.2.2.2.2.2.2.1 _ hs) d ?_
  exact kk p e s m args below meth c H locs la C Wd S0 hz hl0
theorem PW.ldc2 {idx : Nat} {v : Int64} (hs : Cond.constantLong Y.1.cls idx v ∈ pw_tbl) (d : decode Y.2.1 pc = .ok (.ldc2_w idx, 3)) (kk : PW (l, G, Y, R, mc, ms) k n (pc + 3) ls (.long v :: st) mem Q) : PW (l, G, Y, R, mc, ms) k n pc ls st mem Q := by
  intro p e s m args below meth c H locs la C Wd S0 hz hl0
  refine lv_ldc2 C.1 C.2.1 C.2.2.2.2.2.2.1 (C.2.2.2.2.2.2.2.1 _ hs) d ?_
  exact kk p e s m args below meth c H locs la C Wd S0 hz hl0
theorem PW.iret {x : Int32} (hr : Y.2.2.2 = some .int) (hk : k ≤ mc) (hn : n ≤ ms) (d : decode Y.2.1 pc = .ok (.ireturn, 1)) (kk : Q (some (.int x)) mem) : PW (l, G, Y, R, mc, ms) k n pc ls [.int x] mem Q := by
  intro p e s m args below meth c H locs la C Wd S0 hz hl0
  refine W.widen hk hn ?_
  exact W.iret (v := x) C.1 C.2.1 (C.2.2.2.1.trans hr) (fun t ht hW => ⟨some (.int x), mem, rfl, kk, by rw [ht]; exact Wd.moved hW.alike, S0.F ht⟩) S0.2.2 d C.2.2.2.2.1
theorem PW.zret {x : Int32} (hr : Y.2.2.2 = some .boolean) (hx : narrow .boolean (.int x) = .int x) (hk : k ≤ mc) (hn : n ≤ ms) (d : decode Y.2.1 pc = .ok (.ireturn, 1)) (kk : Q (some (.int x)) mem) : PW (l, G, Y, R, mc, ms) k n pc ls [.int x] mem Q := by
  intro p e s m args below meth c H locs la C Wd S0 hz hl0
  refine W.widen hk hn ?_
  exact W.zret (v := x) C.1 C.2.1 (C.2.2.2.1.trans hr) hx (fun t ht hW => ⟨some (.int x), mem, rfl, kk, by rw [ht]; exact Wd.moved hW.alike, S0.F ht⟩) S0.2.2 d C.2.2.2.2.1
theorem PW.lret {x : Int64} (hr : Y.2.2.2 = some .long) (hk : k ≤ mc) (hn : n ≤ ms) (d : decode Y.2.1 pc = .ok (.lreturn, 1)) (kk : Q (some (.long x)) mem) : PW (l, G, Y, R, mc, ms) k n pc ls [.long x] mem Q := by
  intro p e s m args below meth c H locs la C Wd S0 hz hl0
  refine W.widen hk hn ?_
  exact W.lret (v := x) C.1 C.2.1 (C.2.2.2.1.trans hr) (fun t ht hW => ⟨some (.long x), mem, rfl, kk, by rw [ht]; exact Wd.moved hW.alike, S0.F ht⟩) S0.2.2 d C.2.2.2.2.1
theorem PW.aret {x : Nat} {rt : FieldType} (hr : Y.2.2.2 = some rt) (hrt : (∃ n, rt = .object n) ∨ ∃ t, rt = .array t) (hk : k ≤ mc) (hn : n ≤ ms) (d : decode Y.2.1 pc = .ok (.areturn, 1)) (kk : Q (some (.ref x)) mem) : PW (l, G, Y, R, mc, ms) k n pc ls [.ref x] mem Q := by
  intro p e s m args below meth c H locs la C Wd S0 hz hl0
  refine W.widen hk hn ?_
  exact W.aret (v := .ref (pw_ad G x)) C.1 C.2.1 (C.2.2.2.1.trans hr) hrt (Or.inr ⟨_, rfl⟩) (fun t ht hW => ⟨some (.ref x), mem, rfl, kk, by rw [ht]; exact Wd.moved hW.alike, S0.F ht⟩) S0.2.2 d C.2.2.2.2.1
theorem PW.vret (hr : Y.2.2.2 = none) (hk : k ≤ mc) (hn : n ≤ ms) (d : decode Y.2.1 pc = .ok (.return_, 1)) (kk : Q none mem) : PW (l, G, Y, R, mc, ms) k n pc ls [] mem Q := by
  intro p e s m args below meth c H locs la C Wd S0 hz hl0
  refine W.widen hk hn ?_
  exact W.vret C.1 C.2.1 (C.2.2.2.1.trans hr) (fun t ht hW => ⟨none, mem, rfl, kk, by rw [ht]; exact Wd.moved hW.alike, S0.F ht⟩) S0.2.2 d C.2.2.2.2.1
end PWR
end
section
def pw_Wo (Y : pw_Y) : List Cond := Cond.code Y.1 Y.2.1 Y.2.2.1 Y.2.2.2 :: pw_tbl
def pw_Pre (G : pw_G) (av : List Value) (mem : pw_M) : Array Value → State → Prop := va_Pc (av.map (pw_v G)) (fun U => G.2.2.1 ≤ U.heap.size ∧ pw_Wd G mem U U.heap ∧ pw_N U)
/-- the method's contract: from the arguments av and the memory mem it comes back with Q; h: how deep it calls; mc, ms: what it makes -/
def Ret (h mc ms : Nat) (Y : pw_Y) (av : List Value) (mem : pw_M) (Q : Option Value → pw_M → Prop) : Prop :=
  ∀ (l : Launch) (G : pw_G), Met l Y.1 (pw_Wo Y) (pw_rm h mc ms) (pw_Pre G av mem) (pw_Qc G Q) mc ms (pw_A G)
abbrev Rf (h : Nat) (Y : pw_Y) (av : List Value) (mem : pw_M) (v : Option Value) (mem1 : pw_M) : Prop := Ret h 0 0 Y av mem (fun u m1 => u = v ∧ m1 = mem1)
theorem pw_blind {G : pw_G} {av : List Value} {mem : pw_M} : FrameBlind (pw_Pre G av mem) := fun a U g mk q => ⟨q.1, q.2.1, q.2.2.1.moved (u := U) (U := U.calling g mk a) (Vm.Alike.refl U.vm), q.2.2.2.same rfl⟩
theorem pw_args (G : pw_G) : ∀ (av : List Value) (i : Nat), lv_args i (av.map (pw_v G)) = pw_ls G (lv_args i av)
  | [], _ => rfl
  | v :: av, i => by
    show (i, pw_v G v) :: lv_args (if (pw_v G v).category = 2 then i + 2 else i + 1) (av.map (pw_v G)) = (i, pw_v G v) :: pw_ls G (lv_args (if v.category = 2 then i + 2 else i + 1) av)
    rw [pw_cat, pw_args G av]
theorem pw_sl (G : pw_G) : ∀ (av : List Value), (lg_sl (av.map (pw_v G))).length = (lg_sl av).length
  | [] => rfl
  | v :: av => by
    have ih := pw_sl G av
    unfold lg_sl at ih ⊢
    rw [List.map_cons, List.flatMap_cons, List.flatMap_cons, List.length_append, List.length_append, ih, pw_cat]
    by_cases h : v.category = 2
    · rw [if_pos h, if_pos h]; rfl
    · rw [if_neg h, if_neg h]; rfl
theorem Ret.of {h mc ms : Nat} {Y : pw_Y} {av : List Value} {mem : pw_M} {Q : Option Value → pw_M → Prop} (hp : plainName Y.1.cls = true) (hlen : (lg_sl av).length ≤ Y.2.2.1) (body : ∀ (l : Launch) (G : pw_G), PW (l, G, Y, pw_rm h mc ms, mc, ms) 0 0 0 (lv_args 0 av) [] mem Q) : Ret h mc ms Y av mem Q := by
  intro l G
  refine Met.ofW (cc := Y.2.1) (maxL := Y.2.2.1) (ret := Y.2.2.2) hp rfl ?_
  intro p e s m args below meth c s₁ B hml hv
  obtain ⟨rfl, hz, hWd, hN⟩ := hv
  have hts := atoms_spec (ws := pw_Wo Y) B.pre
  have hown : s.vm.findClass Y.1.cls = some m.cls := findClass_of_methodNamed B.named
  have hin : meth.name = Y.1.name := (name_of_methodNamed B.named B.method).1
  have hl := lv_entry (av.map (pw_v G)) (n := Y.2.2.1) (by rw [pw_sl]; exact hlen)
  rw [pw_args] at hl
  rw [lg_entry_eq]
  exact body l G p e s m _ below meth c s.heap [] _ ⟨B.exec, B.bytes, hml, B.returns, B.notSynchronized, hin, hown, fun w hw => hts w (List.mem_cons_of_mem _ hw), hN⟩ hWd va_S.rf hz hl
theorem Ret.mono {h mc ms : Nat} {Y : pw_Y} {av : List Value} {mem : pw_M} {Q Q' : Option Value → pw_M → Prop} (hR : Ret h mc ms Y av mem Q) (hQ : ∀ v m1, Q v m1 → Q' v m1) : Ret h mc ms Y av mem Q' := by
  intro l G p e ha hc hk s m args below hf happ hP hK
  obtain ⟨t, o, h1, h2, h3, ⟨v, m1, e1, e2, e3⟩, h5⟩ := hR l G p e ha hc hk s m args below hf happ hP hK
  exact ⟨t, o, h1, h2, h3, ⟨v, m1, e1, hQ v m1 e2, e3⟩, h5⟩
def pw_ok (Y : pw_Y) (nA : Nat) : Prop := Cond.initialized Y.1.cls ∈ pw_tbl ∧ Cond.code Y.1 Y.2.1 Y.2.2.1 Y.2.2.2 ∈ pw_tbl ∧ (Y.1.cls ≠ "java/lang/invoke/MethodHandle" ∧ Y.1.cls ≠ "java/lang/invoke/VarHandle" ∧ (parseMethodDescriptor Y.1.desc).map (fun d => d.parameters.length) = some nA) ∧ Y.2.2.1 ≤ 60
def pw_CV (own : String) (idx : Nat) (Y : pw_Y) (nA : Nat) : Prop := pw_ok Y nA ∧ Cond.methodLink own idx Y.1 ∈ pw_tbl ∧ Cond.instanceMethod Y.1 ∈ pw_tbl ∧ Cond.selects Y.1.cls Y.1 Y.1 ∈ pw_tbl
def pw_CS (own : String) (idx : Nat) (Y : pw_Y) (nA : Nat) : Prop := pw_ok Y nA ∧ Cond.methodLink own idx Y.1 ∈ pw_tbl ∧ Cond.static Y.1 ∈ pw_tbl
def pw_CI (own : String) (idx : Nat) (Y : pw_Y) (nA : Nat) : Prop := pw_ok Y nA ∧ Cond.methodLink own idx Y.1 ∈ pw_tbl ∧ Cond.instanceMethod Y.1 ∈ pw_tbl ∧ Y.1.name = "<init>" ∧ Y.2.2.2 = none
def pw_CSN (own : String) (idx : Nat) (Y : pw_Y) (nA : Nat) (host : String) : Prop := pw_ok Y nA ∧ Cond.methodLinkNest own idx Y.1 host ∈ lw_tbl ∧ Cond.static Y.1 ∈ pw_tbl
def pw_CIN (own : String) (idx : Nat) (Y : pw_Y) (nA : Nat) (host : String) : Prop := pw_ok Y nA ∧ Cond.methodLinkNest own idx Y.1 host ∈ lw_tbl ∧ Cond.instanceMethod Y.1 ∈ pw_tbl ∧ Y.1.name = "<init>" ∧ Y.2.2.2 = none
theorem pw_goodY {Y : pw_Y} (hc : Cond.code Y.1 Y.2.1 Y.2.2.1 Y.2.2.2 ∈ pw_tbl) : GoodIn pw_tbl (pw_Wo Y) := fun w h => (List.mem_cons.mp h).elim (fun e => by rw [e]; exact pw_good _ hc) (fun h => pw_good w h)
section PWC
variable {l : Launch} {G : pw_G} {Y : pw_Y} {R : Room} {mc ms k n pc : Nat} {ls : List (Nat × Value)} {st : List Value} {mem : pw_M} {Q : Option Value → pw_M → Prop}
/-- behind any call -/
theorem PW.called {Y' : pw_Y} {mc' ms' : Nat} {st0 : List Value} {Q' : Option Value → pw_M → Prop} {p : Program} {e : Env} {s : State} {m : MethodId} {args : Array Value} {below : List Frame} {meth : Method} {c : Code} {H : Heap} {locs : List Loc} {la : Array Slot} {a : Array Value} (C : pw_Cx p s m args meth c Y) (S0 : va_S (pw_A G) s.heap H locs) (hz : G.2.2.1 ≤ s.heap.size) (hl0 : lv_has la Y.2.2.1 (pw_ls G ls))
    (hr : va_Run p l e R s m args below meth c H locs k n mc' ms' (F0 m pc la st0) (st.map (pw_v G)) (pw_Qc G Q' a) (pw_A G))
    (kk : ∀ v mem1, Q' v mem1 → PW (l, G, Y, R, mc, ms) (k + mc') (n + ms') (pc + 3) ls (v.toList ++ st) mem1 Q) :
    W p l e R s m args below meth c H locs k n (MQ below (pw_Qc G Q) args s mc ms (pw_A G)) (F0 m pc la st0) := by
  intro T hT X0
  obtain ⟨v, st₀, t, T', L, h0, X', hL, e1, e2, ⟨v', mem', hv, hq, hwd, hF⟩, stp⟩ := hr T hT X0
  cases hv
  obtain ⟨hz1, hk1⟩ := hF
  rw [h0] at hz1 hk1
  have hal : s.vm.Alike t.vm := by rw [← e2]; exact X'.warmed.alike
  obtain ⟨t2, a1, b1⟩ := kk v' mem' hq p e s m args below meth c T'.heap (locs ++ L) la C (by rw [e1]; exact hwd.moved hal.symm)
    ⟨Nat.le_trans S0.1 (by rw [e1]; exact hz1), fun q h1 h2 => by rw [e1, hk1 q (Nat.lt_of_lt_of_le h1 S0.1) h2]; exact S0.2.1 q h1 h2, fun q hq => by
      rcases List.mem_append.mp hq with h | h
      · exact S0.2.2 q h
      · exact hL q h⟩ hz hl0 T' rfl X'
  refine ⟨t2, stp t2 ?_, b1⟩
  have es : (v'.toList ++ st).map (pw_v G) = (v'.map (pw_v G)).toList ++ st.map (pw_v G) := by cases v' <;> rfl
  rw [es] at a1
  exact a1
theorem pw_room {h mc' ms' mL : Nat} (hh : h + 1 ≤ R.frames ∧ 100 * h + 100 ≤ R.locals) (hm : mL ≤ 60) : (pw_rm h mc' ms').frames + 1 ≤ R.frames ∧ 8 + (mL + 11) + (pw_rm h mc' ms').locals ≤ R.locals := ⟨hh.1, by have := hh.2; show 8 + (mL + 11) + 100 * h ≤ R.locals; omega⟩
theorem pw_st {g : JFrame} (hg : g.monitorRoom = 0) (hr : (st.map fun v => v.category).sum ≤ 8) : 2 * g.monitorRoom + ((st.map (pw_v G)).map fun v => v.category).sum ≤ 8 := by
  rw [hg, List.map_map]
  have e : (fun v : Value => v.category) ∘ pw_v G = fun v => v.category := funext fun v => pw_cat G v
  rw [e]
  omega
theorem pw_preV {p : Program} {s : State} {m : MethodId} {args : Array Value} {meth : Method} {c : Code} {H : Heap} {locs : List Loc} {av : List Value} (C : pw_Cx p s m args meth c Y) (Wd : pw_Wd G mem s H) (S0 : va_S (pw_A G) s.heap H locs) (hz : G.2.2.1 ≤ s.heap.size) : ∀ U : State, U.heap = H → s.WarmedH U.vm → pw_Pre G av mem (av.map (pw_v G)).toArray U :=
  fun U hU hW => ⟨rfl, by rw [hU]; exact Nat.le_trans hz S0.1, by rw [hU]; exact Wd.moved hW.alike, C.2.2.2.2.2.2.2.2.warm hW⟩
theorem PW.callV {Y' : pw_Y} {h' mc' ms' idx nA b ci : Nat} {fs : List Value} {st0 : List Value} {Q' : Option Value → pw_M → Prop} (av : List Value) (hs : pw_CV Y.1.cls idx Y' nA) (hM : Ret h' mc' ms' Y' (.ref b :: av) mem Q') (hst : st0 = av.reverse ++ .ref b :: st) (hn : av.length = nA) (hr : (st.map fun v => v.category).sum ≤ 8) (h9 : 9 ≤ b) (hobj : mem[b]? = some (.inr (ci, fs))) (hC : vwCl[ci]?.map (fun q => q.1) = some Y'.1.cls)
    (hh : h' + 1 ≤ R.frames ∧ 100 * h' + 100 ≤ R.locals) (hc : k + mc' ≤ R.cells ∧ n + ms' ≤ R.slots) (d : decode Y.2.1 pc = .ok (.invokevirtual idx, 3)) (kk : ∀ v mem1, Q' v mem1 → PW (l, G, Y, R, mc, ms) (k + mc') (n + ms') (pc + 3) ls (v.toList ++ st) mem1 Q) : PW (l, G, Y, R, mc, ms) k n pc ls st0 mem Q := by
  intro p e s m args below meth c H locs la C Wd S0 hz hl0
  obtain ⟨⟨o1, o2, o3, o4⟩, o5, o6, o7⟩ := hs
  have hts := C.2.2.2.2.2.2.2.1
  obtain ⟨q, hq, hqc⟩ := Option.map_eq_some_iff.mp hC
  refine PW.called (Y' := Y') (mc' := mc') (ms' := ms') C S0 hz hl0 (va_runV (C := Y'.1.cls) (As := av.map (pw_v G)) (b := pw_ad G b) (Ts := pw_tbl) ⟨C.1, C.2.1, C.2.2.1, C.2.2.2.2.2.2.1, hts⟩ (hM l G)
    ⟨callB_of nA hts (pw_goodY o2) rfl rfl rfl (hts _ o1) (hts _ o5) o3 (pw_room hh o4), hts _ o6, hts _ o7⟩
    ⟨pw_blind, ?_, pw_preV C Wd S0 hz⟩ rfl (by rw [List.length_map]; exact hn) hl0.1 ?_ (pw_st rfl hr) d hc) kk
  · rw [← hqc]
    exact va_recv Wd.2.2.2.1 Wd.2.2.1 hq (pw_ws_get h9 hobj)
  · show st0.map (pw_v G) = _
    rw [hst, List.map_append, List.map_reverse]
    rfl
theorem PW.callS {Y' : pw_Y} {h' mc' ms' idx nA : Nat} {st0 : List Value} {Q' : Option Value → pw_M → Prop} (av : List Value) (hs : pw_CS Y.1.cls idx Y' nA) (hM : Ret h' mc' ms' Y' av mem Q') (hst : st0 = av.reverse ++ st) (hn : av.length = nA) (hr : (st.map fun v => v.category).sum ≤ 8)
    (hh : h' + 1 ≤ R.frames ∧ 100 * h' + 100 ≤ R.locals) (hc : k + mc' ≤ R.cells ∧ n + ms' ≤ R.slots) (d : decode Y.2.1 pc = .ok (.invokestatic idx, 3)) (kk : ∀ v mem1, Q' v mem1 → PW (l, G, Y, R, mc, ms) (k + mc') (n + ms') (pc + 3) ls (v.toList ++ st) mem1 Q) : PW (l, G, Y, R, mc, ms) k n pc ls st0 mem Q := by
  intro p e s m args below meth c H locs la C Wd S0 hz hl0
  obtain ⟨⟨o1, o2, o3, o4⟩, o5, o6⟩ := hs
  have hts := C.2.2.2.2.2.2.2.1
  refine PW.called (Y' := Y') (mc' := mc') (ms' := ms') C S0 hz hl0 (va_runS (As := av.map (pw_v G)) (Ts := pw_tbl) ⟨C.1, C.2.1, C.2.2.1, C.2.2.2.2.2.2.1, hts⟩ (hM l G)
    ⟨callB_of nA hts (pw_goodY o2) rfl rfl rfl (hts _ o1) (hts _ o5) o3 (pw_room hh o4), hts _ o6⟩
    ⟨pw_blind, pw_preV C Wd S0 hz⟩ rfl (by rw [List.length_map]; exact hn) hl0.1 ?_ (pw_st rfl hr) d hc) kk
  show st0.map (pw_v G) = _
  rw [hst, List.map_append, List.map_reverse]
theorem PW.callSN {Y' : pw_Y} {h' mc' ms' idx nA : Nat} {host : String} {st0 : List Value} {Q' : Option Value → pw_M → Prop} (av : List Value) (hs : pw_CSN Y.1.cls idx Y' nA host) (hM : Ret h' mc' ms' Y' av mem Q') (hst : st0 = av.reverse ++ st) (hn : av.length = nA) (hr : (st.map fun v => v.category).sum ≤ 8)
    (hh : h' + 1 ≤ R.frames ∧ 100 * h' + 100 ≤ R.locals) (hc : k + mc' ≤ R.cells ∧ n + ms' ≤ R.slots) (d : decode Y.2.1 pc = .ok (.invokestatic idx, 3)) (kk : ∀ v mem1, Q' v mem1 → PW (l, G, Y, R, mc, ms) (k + mc') (n + ms') (pc + 3) ls (v.toList ++ st) mem1 Q) : PW (l, G, Y, R, mc, ms) k n pc ls st0 mem Q := by
  intro p e s m args below meth c H locs la C Wd S0 hz hl0
  obtain ⟨⟨o1, o2, o3, o4⟩, o5, o6⟩ := hs
  have hts := C.2.2.2.2.2.2.2.1
  refine PW.called (Y' := Y') (mc' := mc') (ms' := ms') C S0 hz hl0 (va_runSN (As := av.map (pw_v G)) (Ts := pw_tbl) ⟨C.1, C.2.1, C.2.2.1, C.2.2.2.2.2.2.1, hts⟩ (hM l G)
    ⟨va_cnB nA hts (pw_goodY o2) rfl rfl rfl (C.2.2.2.2.2.2.2.2.1 _ _ _ _ o5) (hts _ o1) o3 (pw_room hh o4), hts _ o6, trivial⟩
    ⟨pw_blind, pw_preV C Wd S0 hz⟩ rfl (by rw [List.length_map]; exact hn) hl0.1 ?_ (pw_st rfl hr) d hc) kk
  show st0.map (pw_v G) = _
  rw [hst, List.map_append, List.map_reverse]
theorem PW.callI {Y' : pw_Y} {h' mc' ms' idx nA b : Nat} {st0 : List Value} {Q' : Option Value → pw_M → Prop} (av : List Value) (hs : pw_CI Y.1.cls idx Y' nA) (hM : Ret h' mc' ms' Y' (.ref b :: av) mem Q') (hst : st0 = av.reverse ++ .ref b :: st) (hn : av.length = nA) (hr : (st.map fun v => v.category).sum ≤ 8)
    (hh : h' + 1 ≤ R.frames ∧ 100 * h' + 100 ≤ R.locals) (hc : k + mc' ≤ R.cells ∧ n + ms' ≤ R.slots) (d : decode Y.2.1 pc = .ok (.invokespecial idx, 3)) (kk : ∀ v mem1, Q' v mem1 → PW (l, G, Y, R, mc, ms) (k + mc') (n + ms') (pc + 3) ls (v.toList ++ st) mem1 Q) : PW (l, G, Y, R, mc, ms) k n pc ls st0 mem Q := by
  intro p e s m args below meth c H locs la C Wd S0 hz hl0
  obtain ⟨⟨o1, o2, o3, o4⟩, o5, o6, o7, o8⟩ := hs
  have hts := C.2.2.2.2.2.2.2.1
  refine PW.called (Y' := Y') (mc' := mc') (ms' := ms') C S0 hz hl0 (va_runI (As := av.map (pw_v G)) (b := pw_ad G b) (Ts := pw_tbl) ⟨C.1, C.2.1, C.2.2.1, C.2.2.2.2.2.2.1, hts⟩ (hM l G)
    ⟨o8 ▸ callB_of nA hts (pw_goodY o2) rfl rfl rfl (hts _ o1) (hts _ o5) o3 (pw_room hh o4), o7, hts _ o6⟩
    ⟨pw_blind, pw_preV C Wd S0 hz⟩ rfl (by rw [List.length_map]; exact hn) hl0.1 ?_ (pw_st rfl hr) d hc) kk
  show st0.map (pw_v G) = _
  rw [hst, List.map_append, List.map_reverse]
  rfl
theorem PW.callIN {Y' : pw_Y} {h' mc' ms' idx nA b : Nat} {host : String} {st0 : List Value} {Q' : Option Value → pw_M → Prop} (av : List Value) (hs : pw_CIN Y.1.cls idx Y' nA host) (hM : Ret h' mc' ms' Y' (.ref b :: av) mem Q') (hst : st0 = av.reverse ++ .ref b :: st) (hn : av.length = nA) (hr : (st.map fun v => v.category).sum ≤ 8)
    (hh : h' + 1 ≤ R.frames ∧ 100 * h' + 100 ≤ R.locals) (hc : k + mc' ≤ R.cells ∧ n + ms' ≤ R.slots) (d : decode Y.2.1 pc = .ok (.invokespecial idx, 3)) (kk : ∀ v mem1, Q' v mem1 → PW (l, G, Y, R, mc, ms) (k + mc') (n + ms') (pc + 3) ls (v.toList ++ st) mem1 Q) : PW (l, G, Y, R, mc, ms) k n pc ls st0 mem Q := by
  intro p e s m args below meth c H locs la C Wd S0 hz hl0
  obtain ⟨⟨o1, o2, o3, o4⟩, o5, o6, o7, o8⟩ := hs
  have hts := C.2.2.2.2.2.2.2.1
  refine PW.called (Y' := Y') (mc' := mc') (ms' := ms') C S0 hz hl0 (va_runIN (As := av.map (pw_v G)) (b := pw_ad G b) (Ts := pw_tbl) ⟨C.1, C.2.1, C.2.2.1, C.2.2.2.2.2.2.1, hts⟩ (hM l G)
    ⟨o8 ▸ va_cnB nA hts (pw_goodY o2) rfl rfl rfl (C.2.2.2.2.2.2.2.2.1 _ _ _ _ o5) (hts _ o1) o3 (pw_room hh o4), o7, hts _ o6⟩
    ⟨pw_blind, pw_preV C Wd S0 hz⟩ rfl (by rw [List.length_map]; exact hn) hl0.1 ?_ (pw_st rfl hr) d hc) kk
  show st0.map (pw_v G) = _
  rw [hst, List.map_append, List.map_reverse]
  rfl
theorem PW.objInit {idx b : Nat} (h1 : Cond.methodLink Y.1.cls idx Lib.objectInit ∈ pw_tbl) (h2 : Cond.instanceMethod Lib.objectInit ∈ pw_tbl) (h3 : Cond.code Lib.objectInit ⟨#[0xb1]⟩ 1 none ∈ pw_tbl) (hr : (st.map fun v => v.category).sum ≤ 8) (hf : 1 ≤ R.frames ∧ 20 ≤ R.locals) (d : decode Y.2.1 pc = .ok (.invokespecial idx, 3)) (kk : PW (l, G, Y, R, mc, ms) k n (pc + 3) ls st mem Q) : PW (l, G, Y, R, mc, ms) k n pc ls (.ref b :: st) mem Q := by
  intro p e s m args below meth c H locs la C Wd S0 hz hl0
  have hts := C.2.2.2.2.2.2.2.1
  refine W.objInit C.1 C.2.1 C.2.2.2.2.2.2.1 (hts _ h1) (hts _ h2) (hts _ h3) rfl (hl0.1.trans C.2.2.1.symm) rfl d hf.1 (Nat.le_trans (Nat.add_le_add_right (pw_st (G := G) (g := F0 m pc la ((.ref b :: st).map (pw_v G))) rfl hr) 12) hf.2) ?_
  exact kk p e s m args below meth c H locs la C Wd S0 hz hl0
/-- the world behind a making -/
theorem pw_push {x : pw_E} {s : State} {H H1 : Heap} {G : pw_G} {mem : pw_M} (Wd : pw_Wd G mem s H) (hz1 : H1.size = H.size + 1) (hq : ∀ a : Nat, a < H.size → H1[a]? = H[a]?) (hx : va_at G.1 vwCl (pw_ad G mem.length, pw_e G x) H1) : pw_Wd G (mem ++ [x]) s H1 := by
  refine ⟨by rw [List.length_append]; exact Nat.le_trans Wd.1 (Nat.le_add_right _ _), by rw [List.length_append, hz1, Wd.2.1]; have := Wd.1; show _ = _ + (mem.length + 1 - 9); omega, ?_, Wd.2.2.2.1, (Wd.2.2.2.2.kept (fun a h1 _ => hq a h1)).app Wd.1 _⟩
  rw [pw_ws_app Wd.1]
  refine (Wd.2.2.1.kept (fun k q hk => hq q.1 ((Wd.2.2.1 k q hk).lt))).app (fun k q hk => ?_)
  have h0 : k < 1 := (List.getElem?_eq_some_iff.mp hk).1
  rw [show k = 0 by omega] at hk
  cases hk
  exact hx
theorem pw_next {s : State} {H : Heap} (Wd : pw_Wd G mem s H) : pw_ad G mem.length = H.size := by
  rw [Wd.2.1]
  simp only [pw_ad, if_neg (show ¬ mem.length < 9 by have := Wd.1; omega)]
theorem pw_S {s : State} {H H1 : Heap} {locs : List Loc} (S0 : va_S (pw_A G) s.heap H locs) (hz1 : H.size ≤ H1.size) (hq : ∀ a : Nat, a < H.size → H1[a]? = H[a]?) : va_S (pw_A G) s.heap H1 locs :=
  ⟨Nat.le_trans S0.1 hz1, fun q h1 h2 => (hq q (Nat.lt_of_lt_of_le h1 S0.1)).trans (S0.2.1 q h1 h2), S0.2.2⟩
def pw_NW (own : String) (idx ci N : Nat) (fs : List Value) : Prop := ∃ (C : String) (T : u_T) (tys : Nat → FieldType), vwCl[ci]? = some (C, T, N) ∧ (∀ w ∈ u_ws C T N, w ∈ pw_tbl) ∧ (∀ k, k < N → parseFieldDescriptor (T k).2.2.1 = some (tys k)) ∧ Cond.classLink own idx C ∈ pw_tbl ∧ Cond.instantiable C N ∈ pw_tbl ∧ Cond.initialized C ∈ pw_tbl ∧ (∀ j, j < N → defaultValue (tys j) = vp_V fs j) ∧ ∀ G : pw_G, fs.map (pw_v G) = fs
theorem PW.new {idx ci N : Nat} {fs : List Value} (hs : pw_NW Y.1.cls idx ci N fs) (hc : k + 1 ≤ R.cells ∧ n + N ≤ R.slots) (d : decode Y.2.1 pc = .ok (.new idx, 3)) (kk : PW (l, G, Y, R, mc, ms) (k + 1) (n + N) (pc + 3) ls (.ref mem.length :: st) (mem ++ [.inr (ci, fs)]) Q) : PW (l, G, Y, R, mc, ms) k n pc ls st mem Q := by
  intro p e s m args below meth c H locs la C Wd S0 hz hl0
  obtain ⟨C0, T0, ty, s1, s2, s3, s4, s5, s6, s7, s8⟩ := hs
  have hts := C.2.2.2.2.2.2.2.1
  have hKn := Wd.2.2.2.1.1 ci _ s1
  refine W.newcK C.1 C.2.1 C.2.2.2.2.2.2.1 (hts _ s4) (hts _ s5) (hts _ s6) rfl d hc.1 hc.2 hKn.2.1 rfl fun H1 kC hkC e1 z1 o1 => ?_
  rw [← pw_next Wd]
  refine kk p e s m args below meth c H1 locs la C (pw_push Wd z1 o1 ?_) (pw_S S0 (by omega) o1) hz hl0
  rw [pw_next Wd]
  refine ⟨_, s1, (u_born ty hts s2 hKn hkC e1 s3).to (fun j hj => ?_)⟩
  rw [s8 G]
  exact s7 j hj
theorem PW.newI {N : Nat} {z : Int32} (hw : Cond.arrayClass .int ∈ pw_tbl) (hz0 : ¬ z < 0) (hN : z.toNatClampNeg = N) (hb : N ≤ 1000) (hc : k + 1 ≤ R.cells ∧ n + N ≤ R.slots) (d : decode Y.2.1 pc = .ok (.newarray .int, 2)) (kk : PW (l, G, Y, R, mc, ms) (k + 1) (n + N) (pc + 2) ls (.ref mem.length :: st) (mem ++ [.inl (0, N, .inl (fun _ => 0))]) Q) : PW (l, G, Y, R, mc, ms) k n pc ls (.int z :: st) mem Q := by
  intro p e s m args below meth c H locs la C Wd S0 hz hl0
  refine va_newaK (atype := .int) C.1 C.2.1 (C.2.2.2.2.2.2.2.1 _ hw) rfl d rfl hz0 hN (by show N * 4 ≤ 536870912; omega) hc.1 hc.2 rfl fun H1 cA e1 z1 o1 hAr hNm => ?_
  have hcA : cA = G.2.1 0 := Option.some.inj (hNm.symm.trans (Wd.2.2.2.1.2 0 _ rfl).2)
  subst hcA
  rw [← pw_next Wd]
  refine kk p e s m args below meth c H1 locs la C (pw_push Wd z1 o1 ?_) (pw_S S0 (by omega) o1) hz hl0
  rw [pw_next Wd]
  exact e1
theorem PW.newZ {N : Nat} {z : Int32} (hw : Cond.arrayClass .boolean ∈ pw_tbl) (hz0 : ¬ z < 0) (hN : z.toNatClampNeg = N) (hb : N ≤ 1000) (hc : k + 1 ≤ R.cells ∧ n + N ≤ R.slots) (d : decode Y.2.1 pc = .ok (.newarray .boolean, 2)) (kk : PW (l, G, Y, R, mc, ms) (k + 1) (n + N) (pc + 2) ls (.ref mem.length :: st) (mem ++ [.inl (1, N, .inl (fun _ => 0))]) Q) : PW (l, G, Y, R, mc, ms) k n pc ls (.int z :: st) mem Q := by
  intro p e s m args below meth c H locs la C Wd S0 hz hl0
  refine va_newaK (atype := .boolean) C.1 C.2.1 (C.2.2.2.2.2.2.2.1 _ hw) rfl d rfl hz0 hN (by show N * 1 ≤ 536870912; omega) hc.1 hc.2 rfl fun H1 cA e1 z1 o1 hAr hNm => ?_
  have hcA : cA = G.2.1 1 := Option.some.inj (hNm.symm.trans (Wd.2.2.2.1.2 1 _ rfl).2)
  subst hcA
  rw [← pw_next Wd]
  refine kk p e s m args below meth c H1 locs la C (pw_push Wd z1 o1 ?_) (pw_S S0 (by omega) o1) hz hl0
  rw [pw_next Wd]
  exact e1
theorem PW.newJ {N : Nat} {z : Int32} (hw : Cond.arrayClass .long ∈ pw_tbl) (hz0 : ¬ z < 0) (hN : z.toNatClampNeg = N) (hb : N ≤ 1000) (hc : k + 1 ≤ R.cells ∧ n + N ≤ R.slots) (d : decode Y.2.1 pc = .ok (.newarray .long, 2)) (kk : PW (l, G, Y, R, mc, ms) (k + 1) (n + N) (pc + 2) ls (.ref mem.length :: st) (mem ++ [.inl (2, N, .inr (.inl (fun _ => 0)))]) Q) : PW (l, G, Y, R, mc, ms) k n pc ls (.int z :: st) mem Q := by
  intro p e s m args below meth c H locs la C Wd S0 hz hl0
  refine va_newaK (atype := .long) C.1 C.2.1 (C.2.2.2.2.2.2.2.1 _ hw) rfl d rfl hz0 hN (by show N * 8 ≤ 536870912; omega) hc.1 hc.2 rfl fun H1 cA e1 z1 o1 hAr hNm => ?_
  have hcA : cA = G.2.1 2 := Option.some.inj (hNm.symm.trans (Wd.2.2.2.1.2 2 _ rfl).2)
  subst hcA
  rw [← pw_next Wd]
  refine kk p e s m args below meth c H1 locs la C (pw_push Wd z1 o1 ?_) (pw_S S0 (by omega) o1) hz hl0
  rw [pw_next Wd]
  exact e1
theorem PW.newQ {N idx : Nat} {z : Int32} (hw : Cond.classLink Y.1.cls idx "PocketLaws$Now" ∈ pw_tbl) (hz0 : ¬ z < 0) (hN : z.toNatClampNeg = N) (hb : N ≤ 1000) (hc : k + 1 ≤ R.cells ∧ n + N ≤ R.slots) (d : decode Y.2.1 pc = .ok (.anewarray idx, 3)) (kk : PW (l, G, Y, R, mc, ms) (k + 1) (n + N) (pc + 3) ls (.ref mem.length :: st) (mem ++ [.inl (3, N, .inr (.inr (fun _ => none)))]) Q) : PW (l, G, Y, R, mc, ms) k n pc ls (.int z :: st) mem Q := by
  intro p e s m args below meth c H locs la C Wd S0 hz hl0
  subst hN
  refine W.anew C.1 C.2.1 C.2.2.2.2.2.2.1 (C.2.2.2.2.2.2.2.1 _ hw) (va_AO.use C.2.2.2.2.2.2.2.2.2.1) rfl d rfl hz0 (by omega) hc.1 hc.2 fun cA kA comp f1 f2 f3 f4 => ?_
  obtain ⟨kA', comp', g1, g2, g3, g4⟩ := (Wd.2.2.2.1.2 3 _ rfl).2
  have hcA : cA = G.2.1 3 := Option.some.inj (f1.symm.trans g4)
  subst hcA
  rw [← pw_next Wd]
  have o1 : ∀ q : Nat, q < H.size → (H.push ({ cls := G.2.1 3, slots := Array.replicate z.toNatClampNeg .null, vm := .none } : Cell))[q]? = H[q]? := fun q hq => by rw [Array.getElem?_push, if_neg (Nat.ne_of_lt hq)]
  refine kk p e s m args below meth c _ locs la C (pw_push Wd (by rw [Array.size_push]) o1 ?_) (pw_S S0 (by rw [Array.size_push]; omega) o1) hz hl0
  rw [pw_next Wd]
  show (H.push _)[H.size]? = some (vp_cell _ _)
  rw [Array.getElem?_push_size, arrV_new, vp_cell_q]
  rfl
theorem PW.aast {r N q ci : Nat} {f : Nat → Option Nat} {i : Int32} {vs : List Value} (h9 : 9 ≤ r) (hm : mem[r]? = some (.inl (3, N, .inr (.inr f)))) (hq9 : 9 ≤ q) (hq : mem[q]? = some (.inr (0, vs))) (hin : vp_in i N) (d : decode Y.2.1 pc = .ok (.aastore, 1)) (kk : PW (l, G, Y, R, mc, ms) k n (pc + 1) ls st (mem.set r (.inl (3, N, .inr (.inr (va_up f i.toNatClampNeg (some q)))))) Q) : PW (l, G, Y, R, mc, ms) k n pc ls (.ref q :: .int i :: .ref r :: st) mem Q := by
  intro p e s m args below meth c H locs la C Wd S0 hz hl0
  have hlt : i.toNatClampNeg < N := Nat.not_le.mp fun q => hin (Or.inr q)
  have h0 : ¬ i < 0 := fun q => hin (Or.inl q)
  have ha := pw_ws_get (G := G) h9 hm
  have hv := pw_ws_get (G := G) hq9 hq
  obtain ⟨r', hr', cellV, g1, g2, g3, -⟩ := Wd.2.2.1 (q - 9) _ hv
  have hcls := (Wd.2.2.2.1.1 0 _ rfl).2
  obtain ⟨kA, comp, k1, k2, k3, -⟩ := (Wd.2.2.2.1.2 3 _ rfl).2
  have hcomp : comp = G.1.1 0 := Option.some.inj (k3.symm.trans hcls.1)
  subst hcomp
  obtain ⟨kC, hkC, -⟩ := hcls.2
  refine W.aast C.1 C.2.1 (Wd.2.2.1 (r - 9) _ ha) (fun q h => by cases h) (fun h => by cases h) k1 k2 rfl hkC ⟨h0, by show _ < (arrV _ _ _).slots.size; rw [arrV_size]; exact hlt⟩ g1 (fun q h => by rw [g3] at h; cases h) (by rw [g2]; exact hkC) (by rw [g2]; exact va_assign hcls) rfl rfl d fun H1 ee z oq => ?_
  refine kk p e s m args below meth c H1 _ la C (pw_put Wd h9 hm z oq ?_) (S0.put z oq (pw_Ar h9)) hz hl0
  show H1[pw_ad G r]? = some (vp_cell _ _)
  rw [ee]
  rw [vp_cell_q, vp_cell_q, arrV_store]
  congr 2
  funext x
  by_cases hx : x = i.toNatClampNeg
  · subst hx
    simp [updV, va_up, va_rf]
  · simp [updV, va_up, hx]
end PWC
end
section
abbrev mX5_init : pw_Y := (yX5_init, cX5_init, 2, none)
abbrev mX4_init : pw_Y := (yX4_init, cX4_init, 1, none)
abbrev mX0_init : pw_Y := (yX0_init, cX0_init, 1, none)
abbrev mX1_init : pw_Y := (yX1_init, cX1_init, 2, none)
abbrev mX3_init : pw_Y := (yX3_init, cX3_init, 1, none)
abbrev mX2_init : pw_Y := (yX2_init, cX2_init, 1, none)
abbrev mX2_forgetAll : pw_Y := (yX2_forgetAll, cX2_forgetAll, 2, none)
abbrev mJ7_fill_53178 : pw_Y := (yJ7_fill_53178, cJ7_fill_53178, 4, none)
abbrev mX2_settleLaws : pw_Y := (yX2_settleLaws, cX2_settleLaws, 2, none)
abbrev mX2_settleLawsOf : pw_Y := (yX2_settleLawsOf, cX2_settleLawsOf, 5, none)
abbrev mX2_allHold : pw_Y := (yX2_allHold, cX2_allHold, 4, some .boolean)
abbrev mX5_has : pw_Y := (yX5_has, cX5_has, 2, some .boolean)
abbrev mX2_lawSays : pw_Y := (yX2_lawSays, cX2_lawSays, 4, some .boolean)
abbrev mX2_outerLetsIn : pw_Y := (yX2_outerLetsIn, cX2_outerLetsIn, 3, some .boolean)
abbrev mX5_type : pw_Y := (yX5_type, cX5_type, 2, some .int)
abbrev mX5_within : pw_Y := (yX5_within, cX5_within, 3, some .boolean)
abbrev mX5_clear : pw_Y := (yX5_clear, cX5_clear, 2, some .int)
abbrev mX5_realm : pw_Y := (yX5_realm, cX5_realm, 4, some .int)
abbrev mX4_readInto : pw_Y := (yX4_readInto, cX4_readInto, 4, some .int)
abbrev mX4_readToken : pw_Y := (yX4_readToken, cX4_readToken, 1, none)
abbrev mX4_isDigit : pw_Y := (yX4_isDigit, cX4_isDigit, 1, some .boolean)
abbrev mX4_readNumber : pw_Y := (yX4_readNumber, cX4_readNumber, 3, none)
abbrev mJ9_min_7cf53 : pw_Y := (yJ9_min_7cf53, cJ9_min_7cf53, 2, some .int)
abbrev mX4_readItem : pw_Y := (yX4_readItem, cX4_readItem, 5, some .boolean)
abbrev mX4_formOf : pw_Y := (yX4_formOf, cX4_formOf, 1, some (.array .int))
abbrev mX2_hasRoomFor : pw_Y := (yX2_hasRoomFor, cX2_hasRoomFor, 2, some .boolean)
abbrev mX4_mayBe : pw_Y := (yX4_mayBe, cX4_mayBe, 3, some .boolean)
abbrev mX2_tell : pw_Y := (yX2_tell, cX2_tell, 5, none)
abbrev mX2_tellPocket : pw_Y := (yX2_tellPocket, cX2_tellPocket, 2, none)
abbrev mX2_tellLaw : pw_Y := (yX2_tellLaw, cX2_tellLaw, 4, none)
abbrev mX2_tellSeam : pw_Y := (yX2_tellSeam, cX2_tellSeam, 3, none)
abbrev mX2_tellHole : pw_Y := (yX2_tellHole, cX2_tellHole, 4, none)
abbrev mX2_tellTreaty : pw_Y := (yX2_tellTreaty, cX2_tellTreaty, 4, none)
abbrev mX2_tellThing : pw_Y := (yX2_tellThing, cX2_tellThing, 2, none)
abbrev mX0_begin : pw_Y := (yX0_begin, cX0_begin, 2, none)
abbrev mX5_pocket : pw_Y := (yX5_pocket, cX5_pocket, 3, some .int)
abbrev mX5_isPocket : pw_Y := (yX5_isPocket, cX5_isPocket, 2, some .boolean)
abbrev mX5_filled : pw_Y := (yX5_filled, cX5_filled, 4, some .int)
abbrev mX2_depth : pw_Y := (yX2_depth, cX2_depth, 5, some .int)
abbrev mX5_thing : pw_Y := (yX5_thing, cX5_thing, 3, some .int)
abbrev mX5_isThing : pw_Y := (yX5_isThing, cX5_isThing, 2, some .boolean)
abbrev mX5_isOutlawed : pw_Y := (yX5_isOutlawed, cX5_isOutlawed, 2, some .boolean)
abbrev mX5_letsIn : pw_Y := (yX5_letsIn, cX5_letsIn, 3, some .int)
abbrev mX5_fixed : pw_Y := (yX5_fixed, cX5_fixed, 2, some .int)
abbrev mX5_now : pw_Y := (yX5_now, cX5_now, 2, some .int)
abbrev mX5_outlawed : pw_Y := (yX5_outlawed, cX5_outlawed, 3, some .int)
abbrev mX2_parts : pw_Y := (yX2_parts, cX2_parts, 4, some .int)
abbrev mX2_partOf : pw_Y := (yX2_partOf, cX2_partOf, 5, some .int)
abbrev mX5_moves : pw_Y := (yX5_moves, cX5_moves, 6, some .int)
abbrev mX2_opens : pw_Y := (yX2_opens, cX2_opens, 4, some .boolean)
abbrev mX5_hasRoom : pw_Y := (yX5_hasRoom, cX5_hasRoom, 3, some .boolean)
abbrev mX1_push : pw_Y := (yX1_push, cX1_push, 2, none)
abbrev mX0_become : pw_Y := (yX0_become, cX0_become, 2, none)
abbrev mX2_price : pw_Y := (yX2_price, cX2_price, 4, some .int)
abbrev mX5_night : pw_Y := (yX5_night, cX5_night, 3, some .int)
abbrev mX5_fallsThrough : pw_Y := (yX5_fallsThrough, cX5_fallsThrough, 4, some .boolean)
abbrev mX5_undo : pw_Y := (yX5_undo, cX5_undo, 1, some .int)
abbrev mX1_popInto : pw_Y := (yX1_popInto, cX1_popInto, 2, none)
abbrev mX5_way : pw_Y := (yX5_way, cX5_way, 4, some .int)
abbrev mX5_least : pw_Y := (yX5_least, cX5_least, 8, some .int)
abbrev mX5_lowerCosts : pw_Y := (yX5_lowerCosts, cX5_lowerCosts, 9, none)
abbrev mX5_stow : pw_Y := (yX5_stow, cX5_stow, 3, some .int)
abbrev mX3_fewestMoved : pw_Y := (yX3_fewestMoved, cX3_fewestMoved, 4, some .int)
abbrev mX3_eachHasAPlace : pw_Y := (yX3_eachHasAPlace, cX3_eachHasAPlace, 4, some .boolean)
abbrev mX3_putFrom : pw_Y := (yX3_putFrom, cX3_putFrom, 8, some .boolean)
abbrev mX5_hoard : pw_Y := (yX5_hoard, cX5_hoard, 4, some .int)
abbrev mX2_worthOf : pw_Y := (yX2_worthOf, cX2_worthOf, 6, some .int)
abbrev mJ9_max_7cf53 : pw_Y := (yJ9_max_7cf53, cJ9_max_7cf53, 2, some .int)
abbrev mX5_saves : pw_Y := (yX5_saves, cX5_saves, 9, some .int)
abbrev mX5_drops : pw_Y := (yX5_drops, cX5_drops, 3, some .int)
abbrev mX2_behindNights : pw_Y := (yX2_behindNights, cX2_behindNights, 6, some .int)
abbrev mX2_behindNight : pw_Y := (yX2_behindNight, cX2_behindNight, 4, some .int)
abbrev mX5_lay : pw_Y := (yX5_lay, cX5_lay, 5, some .int)
abbrev mX5_stitches : pw_Y := (yX5_stitches, cX5_stitches, 5, some .int)
abbrev mX2_dropsAsFarAs : pw_Y := (yX2_dropsAsFarAs, cX2_dropsAsFarAs, 6, some .boolean)
abbrev mX2_firstStitch : pw_Y := (yX2_firstStitch, cX2_firstStitch, 4, some .int)
abbrev mX5_odds : pw_Y := (yX5_odds, cX5_odds, 9, some .int)
abbrev mX5_spreadChance : pw_Y := (yX5_spreadChance, cX5_spreadChance, 5, none)
abbrev mX5_commonDivisor : pw_Y := (yX5_commonDivisor, cX5_commonDivisor, 6, some .int)
abbrev mX5_rate : pw_Y := (yX5_rate, cX5_rate, 3, some .int)
abbrev mX5_asPocket : pw_Y := (yX5_asPocket, cX5_asPocket, 2, some .int)
abbrev mX5_asCoat : pw_Y := (yX5_asCoat, cX5_asCoat, 2, some .int)
abbrev mX5_asPurse : pw_Y := (yX5_asPurse, cX5_asPurse, 2, some .int)
abbrev mX5_asLeague : pw_Y := (yX5_asLeague, cX5_asLeague, 2, some .int)
abbrev mX5_asBeggar : pw_Y := (yX5_asBeggar, cX5_asBeggar, 2, some .int)
abbrev mX5_asLining : pw_Y := (yX5_asLining, cX5_asLining, 2, some .int)
abbrev mX5_keep : pw_Y := (yX5_keep, cX5_keep, 2, some .int)
abbrev mX5_back : pw_Y := (yX5_back, cX5_back, 2, some .int)
abbrev mX5_count : pw_Y := (yX5_count, cX5_count, 2, some .int)
abbrev mX5_trace : pw_Y := (yX5_trace, cX5_trace, 1, some .long)
abbrev mX6_init : pw_Y := (yX6_init, cX6_init, 1, none)
abbrev mX6_type : pw_Y := (yX6_type, cX6_type, 2, some .int)
abbrev mX6_in : pw_Y := (yX6_in, cX6_in, 6, some .boolean)
abbrev mX6_clear : pw_Y := (yX6_clear, cX6_clear, 2, some .int)
abbrev mX6_realm : pw_Y := (yX6_realm, cX6_realm, 2, some .int)
abbrev mX6_readRealm : pw_Y := (yX6_readRealm, cX6_readRealm, 3, some .boolean)
abbrev mX6_nextToken : pw_Y := (yX6_nextToken, cX6_nextToken, 2, none)
abbrev mX6_letterAt : pw_Y := (yX6_letterAt, cX6_letterAt, 2, some .int)
abbrev mX6_readPocket : pw_Y := (yX6_readPocket, cX6_readPocket, 2, some .boolean)
abbrev mX6_takes : pw_Y := (yX6_takes, cX6_takes, 4, some .boolean)
abbrev mX6_readLaw : pw_Y := (yX6_readLaw, cX6_readLaw, 2, some .boolean)
abbrev mX6_takesTwo : pw_Y := (yX6_takesTwo, cX6_takesTwo, 1, some .boolean)
abbrev mX6_readSeam : pw_Y := (yX6_readSeam, cX6_readSeam, 1, some .boolean)
abbrev mX6_readHole : pw_Y := (yX6_readHole, cX6_readHole, 1, some .boolean)
abbrev mX6_readTreaty : pw_Y := (yX6_readTreaty, cX6_readTreaty, 1, some .boolean)
abbrev mX6_readThing : pw_Y := (yX6_readThing, cX6_readThing, 2, some .boolean)
abbrev mX6_pocket : pw_Y := (yX6_pocket, cX6_pocket, 3, some .int)
abbrev mX6_isPocket : pw_Y := (yX6_isPocket, cX6_isPocket, 2, some .boolean)
abbrev mX6_filled : pw_Y := (yX6_filled, cX6_filled, 4, some .int)
abbrev mX6_depthOf : pw_Y := (yX6_depthOf, cX6_depthOf, 4, some .int)
abbrev mX6_seamsOf : pw_Y := (yX6_seamsOf, cX6_seamsOf, 4, some .int)
abbrev mX6_thing : pw_Y := (yX6_thing, cX6_thing, 3, some .int)
abbrev mX6_isThing : pw_Y := (yX6_isThing, cX6_isThing, 2, some .boolean)
abbrev mX6_isOutlawed : pw_Y := (yX6_isOutlawed, cX6_isOutlawed, 2, some .boolean)
abbrev mX6_letting : pw_Y := (yX6_letting, cX6_letting, 6, some .int)
abbrev mX6_fixedOf : pw_Y := (yX6_fixedOf, cX6_fixedOf, 4, some .int)
abbrev mX6_holds : pw_Y := (yX6_holds, cX6_holds, 8, some .boolean)
abbrev mX6_has : pw_Y := (yX6_has, cX6_has, 2, some .boolean)
abbrev mX6_allowsOwn : pw_Y := (yX6_allowsOwn, cX6_allowsOwn, 3, some .boolean)
abbrev mX6_letsIn : pw_Y := (yX6_letsIn, cX6_letsIn, 3, some .int)
abbrev mX6_isSort : pw_Y := (yX6_isSort, cX6_isSort, 1, some .boolean)
abbrev mX6_fixed : pw_Y := (yX6_fixed, cX6_fixed, 2, some .int)
abbrev mX6_now : pw_Y := (yX6_now, cX6_now, 4, some .int)
abbrev mX6_parts : pw_Y := (yX6_parts, cX6_parts, 6, some .int)
abbrev mX6_moves : pw_Y := (yX6_moves, cX6_moves, 4, some .int)
abbrev mX6_hasRoom : pw_Y := (yX6_hasRoom, cX6_hasRoom, 3, some .boolean)
abbrev mX6_note : pw_Y := (yX6_note, cX6_note, 2, none)
abbrev mX6_taxOf : pw_Y := (yX6_taxOf, cX6_taxOf, 4, some .int)
abbrev mX6_night : pw_Y := (yX6_night, cX6_night, 4, some .int)
abbrev mX6_through : pw_Y := (yX6_through, cX6_through, 4, some .int)
abbrev mX6_undo : pw_Y := (yX6_undo, cX6_undo, 2, some .int)
abbrev mX6_way : pw_Y := (yX6_way, cX6_way, 5, some .int)
abbrev mX6_farOf : pw_Y := (yX6_farOf, cX6_farOf, 10, some .int)
abbrev mX6_saves : pw_Y := (yX6_saves, cX6_saves, 9, some .int)
abbrev mX6_stow : pw_Y := (yX6_stow, cX6_stow, 8, some .int)
abbrev mX6_elsewhere : pw_Y := (yX6_elsewhere, cX6_elsewhere, 5, some .int)
abbrev mX6_hoard : pw_Y := (yX6_hoard, cX6_hoard, 8, some .int)
abbrev mX6_drops : pw_Y := (yX6_drops, cX6_drops, 3, some .int)
abbrev mX6_dropsFrom : pw_Y := (yX6_dropsFrom, cX6_dropsFrom, 6, some .int)
abbrev mX6_lay : pw_Y := (yX6_lay, cX6_lay, 5, some .int)
abbrev mX6_stitches : pw_Y := (yX6_stitches, cX6_stitches, 7, some .int)
abbrev mX6_odds : pw_Y := (yX6_odds, cX6_odds, 10, some .int)
abbrev mX6_common : pw_Y := (yX6_common, cX6_common, 10, some .long)
abbrev mX6_rate : pw_Y := (yX6_rate, cX6_rate, 3, some .int)
abbrev mX6_asCoat : pw_Y := (yX6_asCoat, cX6_asCoat, 2, some .int)
abbrev mX6_asPocket : pw_Y := (yX6_asPocket, cX6_asPocket, 2, some .int)
abbrev mX6_asPurse : pw_Y := (yX6_asPurse, cX6_asPurse, 2, some .int)
abbrev mX6_keep : pw_Y := (yX6_keep, cX6_keep, 3, some .int)
abbrev mX6_back : pw_Y := (yX6_back, cX6_back, 3, some .int)
abbrev mX6_count : pw_Y := (yX6_count, cX6_count, 2, some .int)
abbrev mX6_trace : pw_Y := (yX6_trace, cX6_trace, 1, some .long)
theorem lyX0_0 : u_lay RX0 TX0 0 ∈ pw_tbl := (pw_in (List.mem_of_getElem? (i := 126) (by decide +kernel)) (by decide +kernel))
theorem lyX0_1 : u_lay RX0 TX0 1 ∈ pw_tbl := (pw_in (List.mem_of_getElem? (i := 128) (by decide +kernel)) (by decide +kernel))
theorem lyX0_2 : u_lay RX0 TX0 2 ∈ pw_tbl := (pw_in (List.mem_of_getElem? (i := 130) (by decide +kernel)) (by decide +kernel))
set_option maxRecDepth 20000 in
theorem inX0 : ∀ w ∈ u_ws RX0 TX0 3, w ∈ pw_tbl := show ∀ w ∈ [u_lay RX0 TX0 0, u_lay RX0 TX0 1, u_lay RX0 TX0 2], w ∈ pw_tbl from List.forall_mem_cons.mpr ⟨lyX0_0, List.forall_mem_cons.mpr ⟨lyX0_1, List.forall_mem_cons.mpr ⟨lyX0_2, fun _ h => absurd h List.not_mem_nil⟩⟩⟩
theorem lyX1_0 : u_lay RX1 TX1 0 ∈ pw_tbl := (pw_in (List.mem_of_getElem? (i := 146) (by decide +kernel)) (by decide +kernel))
theorem lyX1_1 : u_lay RX1 TX1 1 ∈ pw_tbl := (pw_in (List.mem_of_getElem? (i := 148) (by decide +kernel)) (by decide +kernel))
theorem lyX1_2 : u_lay RX1 TX1 2 ∈ pw_tbl := (pw_in (List.mem_of_getElem? (i := 150) (by decide +kernel)) (by decide +kernel))
set_option maxRecDepth 20000 in
theorem inX1 : ∀ w ∈ u_ws RX1 TX1 3, w ∈ pw_tbl := show ∀ w ∈ [u_lay RX1 TX1 0, u_lay RX1 TX1 1, u_lay RX1 TX1 2], w ∈ pw_tbl from List.forall_mem_cons.mpr ⟨lyX1_0, List.forall_mem_cons.mpr ⟨lyX1_1, List.forall_mem_cons.mpr ⟨lyX1_2, fun _ h => absurd h List.not_mem_nil⟩⟩⟩
theorem lyX2_0 : u_lay RX2 TX2 0 ∈ pw_tbl := (pw_in (List.mem_of_getElem? (i := 219) (by decide +kernel)) (by decide +kernel))
theorem lyX2_1 : u_lay RX2 TX2 1 ∈ pw_tbl := (pw_in (List.mem_of_getElem? (i := 221) (by decide +kernel)) (by decide +kernel))
theorem lyX2_2 : u_lay RX2 TX2 2 ∈ pw_tbl := (pw_in (List.mem_of_getElem? (i := 223) (by decide +kernel)) (by decide +kernel))
theorem lyX2_3 : u_lay RX2 TX2 3 ∈ pw_tbl := (pw_in (List.mem_of_getElem? (i := 225) (by decide +kernel)) (by decide +kernel))
theorem lyX2_4 : u_lay RX2 TX2 4 ∈ pw_tbl := (pw_in (List.mem_of_getElem? (i := 227) (by decide +kernel)) (by decide +kernel))
theorem lyX2_5 : u_lay RX2 TX2 5 ∈ pw_tbl := (pw_in (List.mem_of_getElem? (i := 229) (by decide +kernel)) (by decide +kernel))
theorem lyX2_6 : u_lay RX2 TX2 6 ∈ pw_tbl := (pw_in (List.mem_of_getElem? (i := 231) (by decide +kernel)) (by decide +kernel))
theorem lyX2_7 : u_lay RX2 TX2 7 ∈ pw_tbl := (pw_in (List.mem_of_getElem? (i := 233) (by decide +kernel)) (by decide +kernel))
theorem lyX2_8 : u_lay RX2 TX2 8 ∈ pw_tbl := (pw_in (List.mem_of_getElem? (i := 235) (by decide +kernel)) (by decide +kernel))
theorem lyX2_9 : u_lay RX2 TX2 9 ∈ pw_tbl := (pw_in (List.mem_of_getElem? (i := 237) (by decide +kernel)) (by decide +kernel))
theorem lyX2_10 : u_lay RX2 TX2 10 ∈ pw_tbl := (pw_in (List.mem_of_getElem? (i := 239) (by decide +kernel)) (by decide +kernel))
theorem lyX2_11 : u_lay RX2 TX2 11 ∈ pw_tbl := (pw_in (List.mem_of_getElem? (i := 241) (by decide +kernel)) (by decide +kernel))
theorem lyX2_12 : u_lay RX2 TX2 12 ∈ pw_tbl := (pw_in (List.mem_of_getElem? (i := 243) (by decide +kernel)) (by decide +kernel))
theorem lyX2_13 : u_lay RX2 TX2 13 ∈ pw_tbl := (pw_in (List.mem_of_getElem? (i := 245) (by decide +kernel)) (by decide +kernel))
theorem lyX2_14 : u_lay RX2 TX2 14 ∈ pw_tbl := (pw_in (List.mem_of_getElem? (i := 247) (by decide +kernel)) (by decide +kernel))
theorem lyX2_15 : u_lay RX2 TX2 15 ∈ pw_tbl := (pw_in (List.mem_of_getElem? (i := 249) (by decide +kernel)) (by decide +kernel))
theorem lyX2_16 : u_lay RX2 TX2 16 ∈ pw_tbl := (pw_in (List.mem_of_getElem? (i := 251) (by decide +kernel)) (by decide +kernel))
theorem lyX2_17 : u_lay RX2 TX2 17 ∈ pw_tbl := (pw_in (List.mem_of_getElem? (i := 253) (by decide +kernel)) (by decide +kernel))
theorem lyX2_18 : u_lay RX2 TX2 18 ∈ pw_tbl := (pw_in (List.mem_of_getElem? (i := 255) (by decide +kernel)) (by decide +kernel))
set_option maxRecDepth 20000 in
theorem inX2 : ∀ w ∈ u_ws RX2 TX2 19, w ∈ pw_tbl := show ∀ w ∈ [u_lay RX2 TX2 0, u_lay RX2 TX2 1, u_lay RX2 TX2 2, u_lay RX2 TX2 3, u_lay RX2 TX2 4, u_lay RX2 TX2 5, u_lay RX2 TX2 6, u_lay RX2 TX2 7, u_lay RX2 TX2 8, u_lay RX2 TX2 9, u_lay RX2 TX2 10, u_lay RX2 TX2 11, u_lay RX2 TX2 12, u_lay RX2 TX2 13, u_lay RX2 TX2 14, u_lay RX2 TX2 15, u_lay RX2 TX2 16, u_lay RX2 TX2 17, u_lay RX2 TX2 18], w ∈ pw_tbl from List.forall_mem_cons.mpr ⟨lyX2_0, List.forall_mem_cons.mpr ⟨lyX2_1, List.forall_mem_cons.mpr ⟨lyX2_2, List.forall_mem_cons.mpr ⟨lyX2_3, List.forall_mem_cons.mpr ⟨lyX2_4, List.forall_mem_cons.mpr ⟨lyX2_5, List.forall_mem_cons.mpr ⟨lyX2_6, List.forall_mem_cons.mpr ⟨lyX2_7, List.forall_mem_cons.mpr ⟨lyX2_8, List.forall_mem_cons.mpr ⟨lyX2_9, List.forall_mem_cons.mpr ⟨lyX2_10, List.forall_mem_cons.mpr ⟨lyX2_11, List.forall_mem_cons.mpr ⟨lyX2_12, List.forall_mem_cons.mpr ⟨lyX2_13, List.forall_mem_cons.mpr ⟨lyX2_14, List.forall_mem_cons.mpr ⟨lyX2_15, List.forall_mem_cons.mpr ⟨lyX2_16, List.forall_mem_cons.mpr ⟨lyX2_17, List.forall_mem_cons.mpr ⟨lyX2_18, fun _ h => absurd h List.not_mem_nil⟩⟩⟩⟩⟩⟩⟩⟩⟩⟩⟩⟩⟩⟩⟩⟩⟩⟩⟩
theorem lyX3_0 : u_lay RX3 TX3 0 ∈ pw_tbl := (pw_in (List.mem_of_getElem? (i := 162) (by decide +kernel)) (by decide +kernel))
theorem lyX3_1 : u_lay RX3 TX3 1 ∈ pw_tbl := (pw_in (List.mem_of_getElem? (i := 164) (by decide +kernel)) (by decide +kernel))
set_option maxRecDepth 20000 in
theorem inX3 : ∀ w ∈ u_ws RX3 TX3 2, w ∈ pw_tbl := show ∀ w ∈ [u_lay RX3 TX3 0, u_lay RX3 TX3 1], w ∈ pw_tbl from List.forall_mem_cons.mpr ⟨lyX3_0, List.forall_mem_cons.mpr ⟨lyX3_1, fun _ h => absurd h List.not_mem_nil⟩⟩
theorem lyX4_0 : u_lay RX4 TX4 0 ∈ pw_tbl := (pw_in (List.mem_of_getElem? (i := 97) (by decide +kernel)) (by decide +kernel))
theorem lyX4_1 : u_lay RX4 TX4 1 ∈ pw_tbl := (pw_in (List.mem_of_getElem? (i := 99) (by decide +kernel)) (by decide +kernel))
theorem lyX4_2 : u_lay RX4 TX4 2 ∈ pw_tbl := (pw_in (List.mem_of_getElem? (i := 101) (by decide +kernel)) (by decide +kernel))
theorem lyX4_3 : u_lay RX4 TX4 3 ∈ pw_tbl := (pw_in (List.mem_of_getElem? (i := 103) (by decide +kernel)) (by decide +kernel))
theorem lyX4_4 : u_lay RX4 TX4 4 ∈ pw_tbl := (pw_in (List.mem_of_getElem? (i := 105) (by decide +kernel)) (by decide +kernel))
theorem lyX4_5 : u_lay RX4 TX4 5 ∈ pw_tbl := (pw_in (List.mem_of_getElem? (i := 107) (by decide +kernel)) (by decide +kernel))
theorem lyX4_6 : u_lay RX4 TX4 6 ∈ pw_tbl := (pw_in (List.mem_of_getElem? (i := 109) (by decide +kernel)) (by decide +kernel))
set_option maxRecDepth 20000 in
theorem inX4 : ∀ w ∈ u_ws RX4 TX4 7, w ∈ pw_tbl := show ∀ w ∈ [u_lay RX4 TX4 0, u_lay RX4 TX4 1, u_lay RX4 TX4 2, u_lay RX4 TX4 3, u_lay RX4 TX4 4, u_lay RX4 TX4 5, u_lay RX4 TX4 6], w ∈ pw_tbl from List.forall_mem_cons.mpr ⟨lyX4_0, List.forall_mem_cons.mpr ⟨lyX4_1, List.forall_mem_cons.mpr ⟨lyX4_2, List.forall_mem_cons.mpr ⟨lyX4_3, List.forall_mem_cons.mpr ⟨lyX4_4, List.forall_mem_cons.mpr ⟨lyX4_5, List.forall_mem_cons.mpr ⟨lyX4_6, fun _ h => absurd h List.not_mem_nil⟩⟩⟩⟩⟩⟩⟩
theorem lyX5_0 : u_lay RX5 TX5 0 ∈ pw_tbl := (pw_in (List.mem_of_getElem? (i := 300) (by decide +kernel)) (by decide +kernel))
theorem lyX5_1 : u_lay RX5 TX5 1 ∈ pw_tbl := (pw_in (List.mem_of_getElem? (i := 302) (by decide +kernel)) (by decide +kernel))
theorem lyX5_2 : u_lay RX5 TX5 2 ∈ pw_tbl := (pw_in (List.mem_of_getElem? (i := 304) (by decide +kernel)) (by decide +kernel))
theorem lyX5_3 : u_lay RX5 TX5 3 ∈ pw_tbl := (pw_in (List.mem_of_getElem? (i := 306) (by decide +kernel)) (by decide +kernel))
theorem lyX5_4 : u_lay RX5 TX5 4 ∈ pw_tbl := (pw_in (List.mem_of_getElem? (i := 308) (by decide +kernel)) (by decide +kernel))
theorem lyX5_5 : u_lay RX5 TX5 5 ∈ pw_tbl := (pw_in (List.mem_of_getElem? (i := 310) (by decide +kernel)) (by decide +kernel))
theorem lyX5_6 : u_lay RX5 TX5 6 ∈ pw_tbl := (pw_in (List.mem_of_getElem? (i := 312) (by decide +kernel)) (by decide +kernel))
theorem lyX5_7 : u_lay RX5 TX5 7 ∈ pw_tbl := (pw_in (List.mem_of_getElem? (i := 314) (by decide +kernel)) (by decide +kernel))
theorem lyX5_8 : u_lay RX5 TX5 8 ∈ pw_tbl := (pw_in (List.mem_of_getElem? (i := 316) (by decide +kernel)) (by decide +kernel))
theorem lyX5_9 : u_lay RX5 TX5 9 ∈ pw_tbl := (pw_in (List.mem_of_getElem? (i := 318) (by decide +kernel)) (by decide +kernel))
theorem lyX5_10 : u_lay RX5 TX5 10 ∈ pw_tbl := (pw_in (List.mem_of_getElem? (i := 320) (by decide +kernel)) (by decide +kernel))
theorem lyX5_11 : u_lay RX5 TX5 11 ∈ pw_tbl := (pw_in (List.mem_of_getElem? (i := 322) (by decide +kernel)) (by decide +kernel))
set_option maxRecDepth 20000 in
theorem inX5 : ∀ w ∈ u_ws RX5 TX5 12, w ∈ pw_tbl := show ∀ w ∈ [u_lay RX5 TX5 0, u_lay RX5 TX5 1, u_lay RX5 TX5 2, u_lay RX5 TX5 3, u_lay RX5 TX5 4, u_lay RX5 TX5 5, u_lay RX5 TX5 6, u_lay RX5 TX5 7, u_lay RX5 TX5 8, u_lay RX5 TX5 9, u_lay RX5 TX5 10, u_lay RX5 TX5 11], w ∈ pw_tbl from List.forall_mem_cons.mpr ⟨lyX5_0, List.forall_mem_cons.mpr ⟨lyX5_1, List.forall_mem_cons.mpr ⟨lyX5_2, List.forall_mem_cons.mpr ⟨lyX5_3, List.forall_mem_cons.mpr ⟨lyX5_4, List.forall_mem_cons.mpr ⟨lyX5_5, List.forall_mem_cons.mpr ⟨lyX5_6, List.forall_mem_cons.mpr ⟨lyX5_7, List.forall_mem_cons.mpr ⟨lyX5_8, List.forall_mem_cons.mpr ⟨lyX5_9, List.forall_mem_cons.mpr ⟨lyX5_10, List.forall_mem_cons.mpr ⟨lyX5_11, fun _ h => absurd h List.not_mem_nil⟩⟩⟩⟩⟩⟩⟩⟩⟩⟩⟩⟩
theorem lyX6_0 : u_lay RX6 TX6 0 ∈ pw_tbl := (pw_in (List.mem_of_getElem? (i := 701) (by decide +kernel)) (by decide +kernel))
theorem lyX6_1 : u_lay RX6 TX6 1 ∈ pw_tbl := (pw_in (List.mem_of_getElem? (i := 703) (by decide +kernel)) (by decide +kernel))
theorem lyX6_2 : u_lay RX6 TX6 2 ∈ pw_tbl := (pw_in (List.mem_of_getElem? (i := 705) (by decide +kernel)) (by decide +kernel))
theorem lyX6_3 : u_lay RX6 TX6 3 ∈ pw_tbl := (pw_in (List.mem_of_getElem? (i := 707) (by decide +kernel)) (by decide +kernel))
theorem lyX6_4 : u_lay RX6 TX6 4 ∈ pw_tbl := (pw_in (List.mem_of_getElem? (i := 709) (by decide +kernel)) (by decide +kernel))
theorem lyX6_5 : u_lay RX6 TX6 5 ∈ pw_tbl := (pw_in (List.mem_of_getElem? (i := 711) (by decide +kernel)) (by decide +kernel))
theorem lyX6_6 : u_lay RX6 TX6 6 ∈ pw_tbl := (pw_in (List.mem_of_getElem? (i := 713) (by decide +kernel)) (by decide +kernel))
theorem lyX6_7 : u_lay RX6 TX6 7 ∈ pw_tbl := (pw_in (List.mem_of_getElem? (i := 715) (by decide +kernel)) (by decide +kernel))
theorem lyX6_8 : u_lay RX6 TX6 8 ∈ pw_tbl := (pw_in (List.mem_of_getElem? (i := 717) (by decide +kernel)) (by decide +kernel))
theorem lyX6_9 : u_lay RX6 TX6 9 ∈ pw_tbl := (pw_in (List.mem_of_getElem? (i := 719) (by decide +kernel)) (by decide +kernel))
theorem lyX6_10 : u_lay RX6 TX6 10 ∈ pw_tbl := (pw_in (List.mem_of_getElem? (i := 721) (by decide +kernel)) (by decide +kernel))
theorem lyX6_11 : u_lay RX6 TX6 11 ∈ pw_tbl := (pw_in (List.mem_of_getElem? (i := 723) (by decide +kernel)) (by decide +kernel))
theorem lyX6_12 : u_lay RX6 TX6 12 ∈ pw_tbl := (pw_in (List.mem_of_getElem? (i := 725) (by decide +kernel)) (by decide +kernel))
theorem lyX6_13 : u_lay RX6 TX6 13 ∈ pw_tbl := (pw_in (List.mem_of_getElem? (i := 727) (by decide +kernel)) (by decide +kernel))
theorem lyX6_14 : u_lay RX6 TX6 14 ∈ pw_tbl := (pw_in (List.mem_of_getElem? (i := 729) (by decide +kernel)) (by decide +kernel))
theorem lyX6_15 : u_lay RX6 TX6 15 ∈ pw_tbl := (pw_in (List.mem_of_getElem? (i := 731) (by decide +kernel)) (by decide +kernel))
theorem lyX6_16 : u_lay RX6 TX6 16 ∈ pw_tbl := (pw_in (List.mem_of_getElem? (i := 733) (by decide +kernel)) (by decide +kernel))
theorem lyX6_17 : u_lay RX6 TX6 17 ∈ pw_tbl := (pw_in (List.mem_of_getElem? (i := 735) (by decide +kernel)) (by decide +kernel))
theorem lyX6_18 : u_lay RX6 TX6 18 ∈ pw_tbl := (pw_in (List.mem_of_getElem? (i := 737) (by decide +kernel)) (by decide +kernel))
theorem lyX6_19 : u_lay RX6 TX6 19 ∈ pw_tbl := (pw_in (List.mem_of_getElem? (i := 739) (by decide +kernel)) (by decide +kernel))
theorem lyX6_20 : u_lay RX6 TX6 20 ∈ pw_tbl := (pw_in (List.mem_of_getElem? (i := 741) (by decide +kernel)) (by decide +kernel))
theorem lyX6_21 : u_lay RX6 TX6 21 ∈ pw_tbl := (pw_in (List.mem_of_getElem? (i := 743) (by decide +kernel)) (by decide +kernel))
theorem lyX6_22 : u_lay RX6 TX6 22 ∈ pw_tbl := (pw_in (List.mem_of_getElem? (i := 745) (by decide +kernel)) (by decide +kernel))
theorem lyX6_23 : u_lay RX6 TX6 23 ∈ pw_tbl := (pw_in (List.mem_of_getElem? (i := 747) (by decide +kernel)) (by decide +kernel))
theorem lyX6_24 : u_lay RX6 TX6 24 ∈ pw_tbl := (pw_in (List.mem_of_getElem? (i := 749) (by decide +kernel)) (by decide +kernel))
theorem lyX6_25 : u_lay RX6 TX6 25 ∈ pw_tbl := (pw_in (List.mem_of_getElem? (i := 751) (by decide +kernel)) (by decide +kernel))
theorem lyX6_26 : u_lay RX6 TX6 26 ∈ pw_tbl := (pw_in (List.mem_of_getElem? (i := 753) (by decide +kernel)) (by decide +kernel))
theorem lyX6_27 : u_lay RX6 TX6 27 ∈ pw_tbl := (pw_in (List.mem_of_getElem? (i := 755) (by decide +kernel)) (by decide +kernel))
theorem lyX6_28 : u_lay RX6 TX6 28 ∈ pw_tbl := (pw_in (List.mem_of_getElem? (i := 757) (by decide +kernel)) (by decide +kernel))
theorem lyX6_29 : u_lay RX6 TX6 29 ∈ pw_tbl := (pw_in (List.mem_of_getElem? (i := 759) (by decide +kernel)) (by decide +kernel))
theorem lyX6_30 : u_lay RX6 TX6 30 ∈ pw_tbl := (pw_in (List.mem_of_getElem? (i := 761) (by decide +kernel)) (by decide +kernel))
theorem lyX6_31 : u_lay RX6 TX6 31 ∈ pw_tbl := (pw_in (List.mem_of_getElem? (i := 763) (by decide +kernel)) (by decide +kernel))
theorem lyX6_32 : u_lay RX6 TX6 32 ∈ pw_tbl := (pw_in (List.mem_of_getElem? (i := 765) (by decide +kernel)) (by decide +kernel))
theorem lyX6_33 : u_lay RX6 TX6 33 ∈ pw_tbl := (pw_in (List.mem_of_getElem? (i := 767) (by decide +kernel)) (by decide +kernel))
theorem lyX6_34 : u_lay RX6 TX6 34 ∈ pw_tbl := (pw_in (List.mem_of_getElem? (i := 769) (by decide +kernel)) (by decide +kernel))
theorem lyX6_35 : u_lay RX6 TX6 35 ∈ pw_tbl := (pw_in (List.mem_of_getElem? (i := 771) (by decide +kernel)) (by decide +kernel))
set_option maxRecDepth 20000 in
theorem inX6 : ∀ w ∈ u_ws RX6 TX6 36, w ∈ pw_tbl := show ∀ w ∈ [u_lay RX6 TX6 0, u_lay RX6 TX6 1, u_lay RX6 TX6 2, u_lay RX6 TX6 3, u_lay RX6 TX6 4, u_lay RX6 TX6 5, u_lay RX6 TX6 6, u_lay RX6 TX6 7, u_lay RX6 TX6 8, u_lay RX6 TX6 9, u_lay RX6 TX6 10, u_lay RX6 TX6 11, u_lay RX6 TX6 12, u_lay RX6 TX6 13, u_lay RX6 TX6 14, u_lay RX6 TX6 15, u_lay RX6 TX6 16, u_lay RX6 TX6 17, u_lay RX6 TX6 18, u_lay RX6 TX6 19, u_lay RX6 TX6 20, u_lay RX6 TX6 21, u_lay RX6 TX6 22, u_lay RX6 TX6 23, u_lay RX6 TX6 24, u_lay RX6 TX6 25, u_lay RX6 TX6 26, u_lay RX6 TX6 27, u_lay RX6 TX6 28, u_lay RX6 TX6 29, u_lay RX6 TX6 30, u_lay RX6 TX6 31, u_lay RX6 TX6 32, u_lay RX6 TX6 33, u_lay RX6 TX6 34, u_lay RX6 TX6 35], w ∈ pw_tbl from List.forall_mem_cons.mpr ⟨lyX6_0, List.forall_mem_cons.mpr ⟨lyX6_1, List.forall_mem_cons.mpr ⟨lyX6_2, List.forall_mem_cons.mpr ⟨lyX6_3, List.forall_mem_cons.mpr ⟨lyX6_4, List.forall_mem_cons.mpr ⟨lyX6_5, List.forall_mem_cons.mpr ⟨lyX6_6, List.forall_mem_cons.mpr ⟨lyX6_7, List.forall_mem_cons.mpr ⟨lyX6_8, List.forall_mem_cons.mpr ⟨lyX6_9, List.forall_mem_cons.mpr ⟨lyX6_10, List.forall_mem_cons.mpr ⟨lyX6_11, List.forall_mem_cons.mpr ⟨lyX6_12, List.forall_mem_cons.mpr ⟨lyX6_13, List.forall_mem_cons.mpr ⟨lyX6_14, List.forall_mem_cons.mpr ⟨lyX6_15, List.forall_mem_cons.mpr ⟨lyX6_16, List.forall_mem_cons.mpr ⟨lyX6_17, List.forall_mem_cons.mpr ⟨lyX6_18, List.forall_mem_cons.mpr ⟨lyX6_19, List.forall_mem_cons.mpr ⟨lyX6_20, List.forall_mem_cons.mpr ⟨lyX6_21, List.forall_mem_cons.mpr ⟨lyX6_22, List.forall_mem_cons.mpr ⟨lyX6_23, List.forall_mem_cons.mpr ⟨lyX6_24, List.forall_mem_cons.mpr ⟨lyX6_25, List.forall_mem_cons.mpr ⟨lyX6_26, List.forall_mem_cons.mpr ⟨lyX6_27, List.forall_mem_cons.mpr ⟨lyX6_28, List.forall_mem_cons.mpr ⟨lyX6_29, List.forall_mem_cons.mpr ⟨lyX6_30, List.forall_mem_cons.mpr ⟨lyX6_31, List.forall_mem_cons.mpr ⟨lyX6_32, List.forall_mem_cons.mpr ⟨lyX6_33, List.forall_mem_cons.mpr ⟨lyX6_34, List.forall_mem_cons.mpr ⟨lyX6_35, fun _ h => absurd h List.not_mem_nil⟩⟩⟩⟩⟩⟩⟩⟩⟩⟩⟩⟩⟩⟩⟩⟩⟩⟩⟩⟩⟩⟩⟩⟩⟩⟩⟩⟩⟩⟩⟩⟩⟩⟩⟩⟩
theorem okX5_init : pw_ok mX5_init 0 := ⟨(pw_in (List.mem_of_getElem? (i := 64) (by decide +kernel)) (by decide +kernel)), (pw_in (List.mem_of_getElem? (i := 78) (by decide +kernel)) (by decide +kernel)), by decide +kernel, by decide⟩
theorem kL_9 : pw_CI RL 9 mX5_init 0 := ⟨okX5_init, (pw_in (List.mem_of_getElem? (i := 76) (by decide +kernel)) (by decide +kernel)), (pw_in (List.mem_of_getElem? (i := 77) (by decide +kernel)) (by decide +kernel)), rfl, rfl⟩
theorem okX6_init : pw_ok mX6_init 0 := ⟨(pw_in (List.mem_of_getElem? (i := 71) (by decide +kernel)) (by decide +kernel)), (pw_in (List.mem_of_getElem? (i := 663) (by decide +kernel)) (by decide +kernel)), by decide +kernel, by decide⟩
theorem kL_12 : pw_CI RL 12 mX6_init 0 := ⟨okX6_init, (pw_in (List.mem_of_getElem? (i := 661) (by decide +kernel)) (by decide +kernel)), (pw_in (List.mem_of_getElem? (i := 662) (by decide +kernel)) (by decide +kernel)), rfl, rfl⟩
theorem okX5_type : pw_ok mX5_type 1 := ⟨(pw_in (List.mem_of_getElem? (i := 64) (by decide +kernel)) (by decide +kernel)), (pw_in (List.mem_of_getElem? (i := 328) (by decide +kernel)) (by decide +kernel)), by decide +kernel, by decide⟩
theorem kL_13 : pw_CV RL 13 mX5_type 1 := ⟨okX5_type, (pw_in (List.mem_of_getElem? (i := 325) (by decide +kernel)) (by decide +kernel)), (pw_in (List.mem_of_getElem? (i := 326) (by decide +kernel)) (by decide +kernel)), (pw_in (List.mem_of_getElem? (i := 327) (by decide +kernel)) (by decide +kernel))⟩
theorem okX6_type : pw_ok mX6_type 1 := ⟨(pw_in (List.mem_of_getElem? (i := 71) (by decide +kernel)) (by decide +kernel)), (pw_in (List.mem_of_getElem? (i := 778) (by decide +kernel)) (by decide +kernel)), by decide +kernel, by decide⟩
theorem kL_17 : pw_CV RL 17 mX6_type 1 := ⟨okX6_type, (pw_in (List.mem_of_getElem? (i := 775) (by decide +kernel)) (by decide +kernel)), (pw_in (List.mem_of_getElem? (i := 776) (by decide +kernel)) (by decide +kernel)), (pw_in (List.mem_of_getElem? (i := 777) (by decide +kernel)) (by decide +kernel))⟩
theorem okX5_clear : pw_ok mX5_clear 0 := ⟨(pw_in (List.mem_of_getElem? (i := 64) (by decide +kernel)) (by decide +kernel)), (pw_in (List.mem_of_getElem? (i := 335) (by decide +kernel)) (by decide +kernel)), by decide +kernel, by decide⟩
theorem kL_18 : pw_CV RL 18 mX5_clear 0 := ⟨okX5_clear, (pw_in (List.mem_of_getElem? (i := 332) (by decide +kernel)) (by decide +kernel)), (pw_in (List.mem_of_getElem? (i := 333) (by decide +kernel)) (by decide +kernel)), (pw_in (List.mem_of_getElem? (i := 334) (by decide +kernel)) (by decide +kernel))⟩
theorem okX6_clear : pw_ok mX6_clear 0 := ⟨(pw_in (List.mem_of_getElem? (i := 71) (by decide +kernel)) (by decide +kernel)), (pw_in (List.mem_of_getElem? (i := 786) (by decide +kernel)) (by decide +kernel)), by decide +kernel, by decide⟩
theorem kL_22 : pw_CV RL 22 mX6_clear 0 := ⟨okX6_clear, (pw_in (List.mem_of_getElem? (i := 783) (by decide +kernel)) (by decide +kernel)), (pw_in (List.mem_of_getElem? (i := 784) (by decide +kernel)) (by decide +kernel)), (pw_in (List.mem_of_getElem? (i := 785) (by decide +kernel)) (by decide +kernel))⟩
theorem okX5_realm : pw_ok mX5_realm 0 := ⟨(pw_in (List.mem_of_getElem? (i := 64) (by decide +kernel)) (by decide +kernel)), (pw_in (List.mem_of_getElem? (i := 339) (by decide +kernel)) (by decide +kernel)), by decide +kernel, by decide⟩
theorem kL_23 : pw_CV RL 23 mX5_realm 0 := ⟨okX5_realm, (pw_in (List.mem_of_getElem? (i := 336) (by decide +kernel)) (by decide +kernel)), (pw_in (List.mem_of_getElem? (i := 337) (by decide +kernel)) (by decide +kernel)), (pw_in (List.mem_of_getElem? (i := 338) (by decide +kernel)) (by decide +kernel))⟩
theorem okX6_realm : pw_ok mX6_realm 0 := ⟨(pw_in (List.mem_of_getElem? (i := 71) (by decide +kernel)) (by decide +kernel)), (pw_in (List.mem_of_getElem? (i := 790) (by decide +kernel)) (by decide +kernel)), by decide +kernel, by decide⟩
theorem kL_26 : pw_CV RL 26 mX6_realm 0 := ⟨okX6_realm, (pw_in (List.mem_of_getElem? (i := 787) (by decide +kernel)) (by decide +kernel)), (pw_in (List.mem_of_getElem? (i := 788) (by decide +kernel)) (by decide +kernel)), (pw_in (List.mem_of_getElem? (i := 789) (by decide +kernel)) (by decide +kernel))⟩
theorem okX5_pocket : pw_ok mX5_pocket 2 := ⟨(pw_in (List.mem_of_getElem? (i := 64) (by decide +kernel)) (by decide +kernel)), (pw_in (List.mem_of_getElem? (i := 429) (by decide +kernel)) (by decide +kernel)), by decide +kernel, by decide⟩
theorem kL_27 : pw_CV RL 27 mX5_pocket 2 := ⟨okX5_pocket, (pw_in (List.mem_of_getElem? (i := 426) (by decide +kernel)) (by decide +kernel)), (pw_in (List.mem_of_getElem? (i := 427) (by decide +kernel)) (by decide +kernel)), (pw_in (List.mem_of_getElem? (i := 428) (by decide +kernel)) (by decide +kernel))⟩
theorem okX6_pocket : pw_ok mX6_pocket 2 := ⟨(pw_in (List.mem_of_getElem? (i := 71) (by decide +kernel)) (by decide +kernel)), (pw_in (List.mem_of_getElem? (i := 840) (by decide +kernel)) (by decide +kernel)), by decide +kernel, by decide⟩
theorem kL_31 : pw_CV RL 31 mX6_pocket 2 := ⟨okX6_pocket, (pw_in (List.mem_of_getElem? (i := 837) (by decide +kernel)) (by decide +kernel)), (pw_in (List.mem_of_getElem? (i := 838) (by decide +kernel)) (by decide +kernel)), (pw_in (List.mem_of_getElem? (i := 839) (by decide +kernel)) (by decide +kernel))⟩
theorem okX5_thing : pw_ok mX5_thing 2 := ⟨(pw_in (List.mem_of_getElem? (i := 64) (by decide +kernel)) (by decide +kernel)), (pw_in (List.mem_of_getElem? (i := 445) (by decide +kernel)) (by decide +kernel)), by decide +kernel, by decide⟩
theorem kL_32 : pw_CV RL 32 mX5_thing 2 := ⟨okX5_thing, (pw_in (List.mem_of_getElem? (i := 442) (by decide +kernel)) (by decide +kernel)), (pw_in (List.mem_of_getElem? (i := 443) (by decide +kernel)) (by decide +kernel)), (pw_in (List.mem_of_getElem? (i := 444) (by decide +kernel)) (by decide +kernel))⟩
theorem okX6_thing : pw_ok mX6_thing 2 := ⟨(pw_in (List.mem_of_getElem? (i := 71) (by decide +kernel)) (by decide +kernel)), (pw_in (List.mem_of_getElem? (i := 860) (by decide +kernel)) (by decide +kernel)), by decide +kernel, by decide⟩
theorem kL_35 : pw_CV RL 35 mX6_thing 2 := ⟨okX6_thing, (pw_in (List.mem_of_getElem? (i := 857) (by decide +kernel)) (by decide +kernel)), (pw_in (List.mem_of_getElem? (i := 858) (by decide +kernel)) (by decide +kernel)), (pw_in (List.mem_of_getElem? (i := 859) (by decide +kernel)) (by decide +kernel))⟩
theorem okX5_letsIn : pw_ok mX5_letsIn 2 := ⟨(pw_in (List.mem_of_getElem? (i := 64) (by decide +kernel)) (by decide +kernel)), (pw_in (List.mem_of_getElem? (i := 458) (by decide +kernel)) (by decide +kernel)), by decide +kernel, by decide⟩
theorem kL_36 : pw_CV RL 36 mX5_letsIn 2 := ⟨okX5_letsIn, (pw_in (List.mem_of_getElem? (i := 455) (by decide +kernel)) (by decide +kernel)), (pw_in (List.mem_of_getElem? (i := 456) (by decide +kernel)) (by decide +kernel)), (pw_in (List.mem_of_getElem? (i := 457) (by decide +kernel)) (by decide +kernel))⟩
theorem okX6_letsIn : pw_ok mX6_letsIn 2 := ⟨(pw_in (List.mem_of_getElem? (i := 71) (by decide +kernel)) (by decide +kernel)), (pw_in (List.mem_of_getElem? (i := 891) (by decide +kernel)) (by decide +kernel)), by decide +kernel, by decide⟩
theorem kL_39 : pw_CV RL 39 mX6_letsIn 2 := ⟨okX6_letsIn, (pw_in (List.mem_of_getElem? (i := 888) (by decide +kernel)) (by decide +kernel)), (pw_in (List.mem_of_getElem? (i := 889) (by decide +kernel)) (by decide +kernel)), (pw_in (List.mem_of_getElem? (i := 890) (by decide +kernel)) (by decide +kernel))⟩
theorem okX5_fixed : pw_ok mX5_fixed 1 := ⟨(pw_in (List.mem_of_getElem? (i := 64) (by decide +kernel)) (by decide +kernel)), (pw_in (List.mem_of_getElem? (i := 462) (by decide +kernel)) (by decide +kernel)), by decide +kernel, by decide⟩
theorem kL_40 : pw_CV RL 40 mX5_fixed 1 := ⟨okX5_fixed, (pw_in (List.mem_of_getElem? (i := 459) (by decide +kernel)) (by decide +kernel)), (pw_in (List.mem_of_getElem? (i := 460) (by decide +kernel)) (by decide +kernel)), (pw_in (List.mem_of_getElem? (i := 461) (by decide +kernel)) (by decide +kernel))⟩
theorem okX6_fixed : pw_ok mX6_fixed 1 := ⟨(pw_in (List.mem_of_getElem? (i := 71) (by decide +kernel)) (by decide +kernel)), (pw_in (List.mem_of_getElem? (i := 899) (by decide +kernel)) (by decide +kernel)), by decide +kernel, by decide⟩
theorem kL_43 : pw_CV RL 43 mX6_fixed 1 := ⟨okX6_fixed, (pw_in (List.mem_of_getElem? (i := 896) (by decide +kernel)) (by decide +kernel)), (pw_in (List.mem_of_getElem? (i := 897) (by decide +kernel)) (by decide +kernel)), (pw_in (List.mem_of_getElem? (i := 898) (by decide +kernel)) (by decide +kernel))⟩
theorem okX5_now : pw_ok mX5_now 1 := ⟨(pw_in (List.mem_of_getElem? (i := 64) (by decide +kernel)) (by decide +kernel)), (pw_in (List.mem_of_getElem? (i := 466) (by decide +kernel)) (by decide +kernel)), by decide +kernel, by decide⟩
theorem kL_44 : pw_CV RL 44 mX5_now 1 := ⟨okX5_now, (pw_in (List.mem_of_getElem? (i := 463) (by decide +kernel)) (by decide +kernel)), (pw_in (List.mem_of_getElem? (i := 464) (by decide +kernel)) (by decide +kernel)), (pw_in (List.mem_of_getElem? (i := 465) (by decide +kernel)) (by decide +kernel))⟩
theorem okX6_now : pw_ok mX6_now 1 := ⟨(pw_in (List.mem_of_getElem? (i := 71) (by decide +kernel)) (by decide +kernel)), (pw_in (List.mem_of_getElem? (i := 903) (by decide +kernel)) (by decide +kernel)), by decide +kernel, by decide⟩
theorem kL_47 : pw_CV RL 47 mX6_now 1 := ⟨okX6_now, (pw_in (List.mem_of_getElem? (i := 900) (by decide +kernel)) (by decide +kernel)), (pw_in (List.mem_of_getElem? (i := 901) (by decide +kernel)) (by decide +kernel)), (pw_in (List.mem_of_getElem? (i := 902) (by decide +kernel)) (by decide +kernel))⟩
theorem okX5_moves : pw_ok mX5_moves 2 := ⟨(pw_in (List.mem_of_getElem? (i := 64) (by decide +kernel)) (by decide +kernel)), (pw_in (List.mem_of_getElem? (i := 482) (by decide +kernel)) (by decide +kernel)), by decide +kernel, by decide⟩
theorem kL_48 : pw_CV RL 48 mX5_moves 2 := ⟨okX5_moves, (pw_in (List.mem_of_getElem? (i := 479) (by decide +kernel)) (by decide +kernel)), (pw_in (List.mem_of_getElem? (i := 480) (by decide +kernel)) (by decide +kernel)), (pw_in (List.mem_of_getElem? (i := 481) (by decide +kernel)) (by decide +kernel))⟩
theorem okX6_moves : pw_ok mX6_moves 2 := ⟨(pw_in (List.mem_of_getElem? (i := 71) (by decide +kernel)) (by decide +kernel)), (pw_in (List.mem_of_getElem? (i := 911) (by decide +kernel)) (by decide +kernel)), by decide +kernel, by decide⟩
theorem kL_51 : pw_CV RL 51 mX6_moves 2 := ⟨okX6_moves, (pw_in (List.mem_of_getElem? (i := 908) (by decide +kernel)) (by decide +kernel)), (pw_in (List.mem_of_getElem? (i := 909) (by decide +kernel)) (by decide +kernel)), (pw_in (List.mem_of_getElem? (i := 910) (by decide +kernel)) (by decide +kernel))⟩
theorem okX5_night : pw_ok mX5_night 0 := ⟨(pw_in (List.mem_of_getElem? (i := 64) (by decide +kernel)) (by decide +kernel)), (pw_in (List.mem_of_getElem? (i := 507) (by decide +kernel)) (by decide +kernel)), by decide +kernel, by decide⟩
theorem kL_52 : pw_CV RL 52 mX5_night 0 := ⟨okX5_night, (pw_in (List.mem_of_getElem? (i := 504) (by decide +kernel)) (by decide +kernel)), (pw_in (List.mem_of_getElem? (i := 505) (by decide +kernel)) (by decide +kernel)), (pw_in (List.mem_of_getElem? (i := 506) (by decide +kernel)) (by decide +kernel))⟩
theorem okX6_night : pw_ok mX6_night 0 := ⟨(pw_in (List.mem_of_getElem? (i := 71) (by decide +kernel)) (by decide +kernel)), (pw_in (List.mem_of_getElem? (i := 927) (by decide +kernel)) (by decide +kernel)), by decide +kernel, by decide⟩
theorem kL_55 : pw_CV RL 55 mX6_night 0 := ⟨okX6_night, (pw_in (List.mem_of_getElem? (i := 924) (by decide +kernel)) (by decide +kernel)), (pw_in (List.mem_of_getElem? (i := 925) (by decide +kernel)) (by decide +kernel)), (pw_in (List.mem_of_getElem? (i := 926) (by decide +kernel)) (by decide +kernel))⟩
theorem okX5_undo : pw_ok mX5_undo 0 := ⟨(pw_in (List.mem_of_getElem? (i := 64) (by decide +kernel)) (by decide +kernel)), (pw_in (List.mem_of_getElem? (i := 515) (by decide +kernel)) (by decide +kernel)), by decide +kernel, by decide⟩
theorem kL_56 : pw_CV RL 56 mX5_undo 0 := ⟨okX5_undo, (pw_in (List.mem_of_getElem? (i := 512) (by decide +kernel)) (by decide +kernel)), (pw_in (List.mem_of_getElem? (i := 513) (by decide +kernel)) (by decide +kernel)), (pw_in (List.mem_of_getElem? (i := 514) (by decide +kernel)) (by decide +kernel))⟩
theorem okX6_undo : pw_ok mX6_undo 0 := ⟨(pw_in (List.mem_of_getElem? (i := 71) (by decide +kernel)) (by decide +kernel)), (pw_in (List.mem_of_getElem? (i := 935) (by decide +kernel)) (by decide +kernel)), by decide +kernel, by decide⟩
theorem kL_59 : pw_CV RL 59 mX6_undo 0 := ⟨okX6_undo, (pw_in (List.mem_of_getElem? (i := 932) (by decide +kernel)) (by decide +kernel)), (pw_in (List.mem_of_getElem? (i := 933) (by decide +kernel)) (by decide +kernel)), (pw_in (List.mem_of_getElem? (i := 934) (by decide +kernel)) (by decide +kernel))⟩
theorem okX5_way : pw_ok mX5_way 3 := ⟨(pw_in (List.mem_of_getElem? (i := 64) (by decide +kernel)) (by decide +kernel)), (pw_in (List.mem_of_getElem? (i := 523) (by decide +kernel)) (by decide +kernel)), by decide +kernel, by decide⟩
theorem kL_60 : pw_CV RL 60 mX5_way 3 := ⟨okX5_way, (pw_in (List.mem_of_getElem? (i := 520) (by decide +kernel)) (by decide +kernel)), (pw_in (List.mem_of_getElem? (i := 521) (by decide +kernel)) (by decide +kernel)), (pw_in (List.mem_of_getElem? (i := 522) (by decide +kernel)) (by decide +kernel))⟩
theorem okX6_way : pw_ok mX6_way 3 := ⟨(pw_in (List.mem_of_getElem? (i := 71) (by decide +kernel)) (by decide +kernel)), (pw_in (List.mem_of_getElem? (i := 939) (by decide +kernel)) (by decide +kernel)), by decide +kernel, by decide⟩
theorem kL_64 : pw_CV RL 64 mX6_way 3 := ⟨okX6_way, (pw_in (List.mem_of_getElem? (i := 936) (by decide +kernel)) (by decide +kernel)), (pw_in (List.mem_of_getElem? (i := 937) (by decide +kernel)) (by decide +kernel)), (pw_in (List.mem_of_getElem? (i := 938) (by decide +kernel)) (by decide +kernel))⟩
theorem okX5_stow : pw_ok mX5_stow 1 := ⟨(pw_in (List.mem_of_getElem? (i := 64) (by decide +kernel)) (by decide +kernel)), (pw_in (List.mem_of_getElem? (i := 538) (by decide +kernel)) (by decide +kernel)), by decide +kernel, by decide⟩
theorem kL_65 : pw_CV RL 65 mX5_stow 1 := ⟨okX5_stow, (pw_in (List.mem_of_getElem? (i := 535) (by decide +kernel)) (by decide +kernel)), (pw_in (List.mem_of_getElem? (i := 536) (by decide +kernel)) (by decide +kernel)), (pw_in (List.mem_of_getElem? (i := 537) (by decide +kernel)) (by decide +kernel))⟩
theorem okX6_stow : pw_ok mX6_stow 1 := ⟨(pw_in (List.mem_of_getElem? (i := 71) (by decide +kernel)) (by decide +kernel)), (pw_in (List.mem_of_getElem? (i := 952) (by decide +kernel)) (by decide +kernel)), by decide +kernel, by decide⟩
theorem kL_68 : pw_CV RL 68 mX6_stow 1 := ⟨okX6_stow, (pw_in (List.mem_of_getElem? (i := 949) (by decide +kernel)) (by decide +kernel)), (pw_in (List.mem_of_getElem? (i := 950) (by decide +kernel)) (by decide +kernel)), (pw_in (List.mem_of_getElem? (i := 951) (by decide +kernel)) (by decide +kernel))⟩
theorem okX5_hoard : pw_ok mX5_hoard 1 := ⟨(pw_in (List.mem_of_getElem? (i := 64) (by decide +kernel)) (by decide +kernel)), (pw_in (List.mem_of_getElem? (i := 554) (by decide +kernel)) (by decide +kernel)), by decide +kernel, by decide⟩
theorem kL_69 : pw_CV RL 69 mX5_hoard 1 := ⟨okX5_hoard, (pw_in (List.mem_of_getElem? (i := 551) (by decide +kernel)) (by decide +kernel)), (pw_in (List.mem_of_getElem? (i := 552) (by decide +kernel)) (by decide +kernel)), (pw_in (List.mem_of_getElem? (i := 553) (by decide +kernel)) (by decide +kernel))⟩
theorem okX6_hoard : pw_ok mX6_hoard 1 := ⟨(pw_in (List.mem_of_getElem? (i := 71) (by decide +kernel)) (by decide +kernel)), (pw_in (List.mem_of_getElem? (i := 961) (by decide +kernel)) (by decide +kernel)), by decide +kernel, by decide⟩
theorem kL_72 : pw_CV RL 72 mX6_hoard 1 := ⟨okX6_hoard, (pw_in (List.mem_of_getElem? (i := 958) (by decide +kernel)) (by decide +kernel)), (pw_in (List.mem_of_getElem? (i := 959) (by decide +kernel)) (by decide +kernel)), (pw_in (List.mem_of_getElem? (i := 960) (by decide +kernel)) (by decide +kernel))⟩
theorem okX5_saves : pw_ok mX5_saves 2 := ⟨(pw_in (List.mem_of_getElem? (i := 64) (by decide +kernel)) (by decide +kernel)), (pw_in (List.mem_of_getElem? (i := 565) (by decide +kernel)) (by decide +kernel)), by decide +kernel, by decide⟩
theorem kL_73 : pw_CV RL 73 mX5_saves 2 := ⟨okX5_saves, (pw_in (List.mem_of_getElem? (i := 562) (by decide +kernel)) (by decide +kernel)), (pw_in (List.mem_of_getElem? (i := 563) (by decide +kernel)) (by decide +kernel)), (pw_in (List.mem_of_getElem? (i := 564) (by decide +kernel)) (by decide +kernel))⟩
theorem okX6_saves : pw_ok mX6_saves 2 := ⟨(pw_in (List.mem_of_getElem? (i := 71) (by decide +kernel)) (by decide +kernel)), (pw_in (List.mem_of_getElem? (i := 948) (by decide +kernel)) (by decide +kernel)), by decide +kernel, by decide⟩
theorem kL_76 : pw_CV RL 76 mX6_saves 2 := ⟨okX6_saves, (pw_in (List.mem_of_getElem? (i := 945) (by decide +kernel)) (by decide +kernel)), (pw_in (List.mem_of_getElem? (i := 946) (by decide +kernel)) (by decide +kernel)), (pw_in (List.mem_of_getElem? (i := 947) (by decide +kernel)) (by decide +kernel))⟩
theorem okX5_drops : pw_ok mX5_drops 2 := ⟨(pw_in (List.mem_of_getElem? (i := 64) (by decide +kernel)) (by decide +kernel)), (pw_in (List.mem_of_getElem? (i := 569) (by decide +kernel)) (by decide +kernel)), by decide +kernel, by decide⟩
theorem kL_77 : pw_CV RL 77 mX5_drops 2 := ⟨okX5_drops, (pw_in (List.mem_of_getElem? (i := 566) (by decide +kernel)) (by decide +kernel)), (pw_in (List.mem_of_getElem? (i := 567) (by decide +kernel)) (by decide +kernel)), (pw_in (List.mem_of_getElem? (i := 568) (by decide +kernel)) (by decide +kernel))⟩
theorem okX6_drops : pw_ok mX6_drops 2 := ⟨(pw_in (List.mem_of_getElem? (i := 71) (by decide +kernel)) (by decide +kernel)), (pw_in (List.mem_of_getElem? (i := 965) (by decide +kernel)) (by decide +kernel)), by decide +kernel, by decide⟩
theorem kL_80 : pw_CV RL 80 mX6_drops 2 := ⟨okX6_drops, (pw_in (List.mem_of_getElem? (i := 962) (by decide +kernel)) (by decide +kernel)), (pw_in (List.mem_of_getElem? (i := 963) (by decide +kernel)) (by decide +kernel)), (pw_in (List.mem_of_getElem? (i := 964) (by decide +kernel)) (by decide +kernel))⟩
theorem okX5_lay : pw_ok mX5_lay 2 := ⟨(pw_in (List.mem_of_getElem? (i := 64) (by decide +kernel)) (by decide +kernel)), (pw_in (List.mem_of_getElem? (i := 581) (by decide +kernel)) (by decide +kernel)), by decide +kernel, by decide⟩
theorem kL_81 : pw_CV RL 81 mX5_lay 2 := ⟨okX5_lay, (pw_in (List.mem_of_getElem? (i := 578) (by decide +kernel)) (by decide +kernel)), (pw_in (List.mem_of_getElem? (i := 579) (by decide +kernel)) (by decide +kernel)), (pw_in (List.mem_of_getElem? (i := 580) (by decide +kernel)) (by decide +kernel))⟩
theorem okX6_lay : pw_ok mX6_lay 2 := ⟨(pw_in (List.mem_of_getElem? (i := 71) (by decide +kernel)) (by decide +kernel)), (pw_in (List.mem_of_getElem? (i := 974) (by decide +kernel)) (by decide +kernel)), by decide +kernel, by decide⟩
theorem kL_84 : pw_CV RL 84 mX6_lay 2 := ⟨okX6_lay, (pw_in (List.mem_of_getElem? (i := 971) (by decide +kernel)) (by decide +kernel)), (pw_in (List.mem_of_getElem? (i := 972) (by decide +kernel)) (by decide +kernel)), (pw_in (List.mem_of_getElem? (i := 973) (by decide +kernel)) (by decide +kernel))⟩
theorem okX5_stitches : pw_ok mX5_stitches 3 := ⟨(pw_in (List.mem_of_getElem? (i := 64) (by decide +kernel)) (by decide +kernel)), (pw_in (List.mem_of_getElem? (i := 585) (by decide +kernel)) (by decide +kernel)), by decide +kernel, by decide⟩
theorem kL_85 : pw_CV RL 85 mX5_stitches 3 := ⟨okX5_stitches, (pw_in (List.mem_of_getElem? (i := 582) (by decide +kernel)) (by decide +kernel)), (pw_in (List.mem_of_getElem? (i := 583) (by decide +kernel)) (by decide +kernel)), (pw_in (List.mem_of_getElem? (i := 584) (by decide +kernel)) (by decide +kernel))⟩
theorem okX6_stitches : pw_ok mX6_stitches 3 := ⟨(pw_in (List.mem_of_getElem? (i := 71) (by decide +kernel)) (by decide +kernel)), (pw_in (List.mem_of_getElem? (i := 978) (by decide +kernel)) (by decide +kernel)), by decide +kernel, by decide⟩
theorem kL_88 : pw_CV RL 88 mX6_stitches 3 := ⟨okX6_stitches, (pw_in (List.mem_of_getElem? (i := 975) (by decide +kernel)) (by decide +kernel)), (pw_in (List.mem_of_getElem? (i := 976) (by decide +kernel)) (by decide +kernel)), (pw_in (List.mem_of_getElem? (i := 977) (by decide +kernel)) (by decide +kernel))⟩
theorem okX5_odds : pw_ok mX5_odds 5 := ⟨(pw_in (List.mem_of_getElem? (i := 64) (by decide +kernel)) (by decide +kernel)), (pw_in (List.mem_of_getElem? (i := 598) (by decide +kernel)) (by decide +kernel)), by decide +kernel, by decide⟩
theorem kL_89 : pw_CV RL 89 mX5_odds 5 := ⟨okX5_odds, (pw_in (List.mem_of_getElem? (i := 595) (by decide +kernel)) (by decide +kernel)), (pw_in (List.mem_of_getElem? (i := 596) (by decide +kernel)) (by decide +kernel)), (pw_in (List.mem_of_getElem? (i := 597) (by decide +kernel)) (by decide +kernel))⟩
theorem okX6_odds : pw_ok mX6_odds 5 := ⟨(pw_in (List.mem_of_getElem? (i := 71) (by decide +kernel)) (by decide +kernel)), (pw_in (List.mem_of_getElem? (i := 982) (by decide +kernel)) (by decide +kernel)), by decide +kernel, by decide⟩
theorem kL_93 : pw_CV RL 93 mX6_odds 5 := ⟨okX6_odds, (pw_in (List.mem_of_getElem? (i := 979) (by decide +kernel)) (by decide +kernel)), (pw_in (List.mem_of_getElem? (i := 980) (by decide +kernel)) (by decide +kernel)), (pw_in (List.mem_of_getElem? (i := 981) (by decide +kernel)) (by decide +kernel))⟩
theorem okX5_rate : pw_ok mX5_rate 2 := ⟨(pw_in (List.mem_of_getElem? (i := 64) (by decide +kernel)) (by decide +kernel)), (pw_in (List.mem_of_getElem? (i := 611) (by decide +kernel)) (by decide +kernel)), by decide +kernel, by decide⟩
theorem kL_94 : pw_CV RL 94 mX5_rate 2 := ⟨okX5_rate, (pw_in (List.mem_of_getElem? (i := 608) (by decide +kernel)) (by decide +kernel)), (pw_in (List.mem_of_getElem? (i := 609) (by decide +kernel)) (by decide +kernel)), (pw_in (List.mem_of_getElem? (i := 610) (by decide +kernel)) (by decide +kernel))⟩
theorem okX6_rate : pw_ok mX6_rate 2 := ⟨(pw_in (List.mem_of_getElem? (i := 71) (by decide +kernel)) (by decide +kernel)), (pw_in (List.mem_of_getElem? (i := 991) (by decide +kernel)) (by decide +kernel)), by decide +kernel, by decide⟩
theorem kL_97 : pw_CV RL 97 mX6_rate 2 := ⟨okX6_rate, (pw_in (List.mem_of_getElem? (i := 988) (by decide +kernel)) (by decide +kernel)), (pw_in (List.mem_of_getElem? (i := 989) (by decide +kernel)) (by decide +kernel)), (pw_in (List.mem_of_getElem? (i := 990) (by decide +kernel)) (by decide +kernel))⟩
theorem okX5_keep : pw_ok mX5_keep 1 := ⟨(pw_in (List.mem_of_getElem? (i := 64) (by decide +kernel)) (by decide +kernel)), (pw_in (List.mem_of_getElem? (i := 645) (by decide +kernel)) (by decide +kernel)), by decide +kernel, by decide⟩
theorem kL_98 : pw_CV RL 98 mX5_keep 1 := ⟨okX5_keep, (pw_in (List.mem_of_getElem? (i := 642) (by decide +kernel)) (by decide +kernel)), (pw_in (List.mem_of_getElem? (i := 643) (by decide +kernel)) (by decide +kernel)), (pw_in (List.mem_of_getElem? (i := 644) (by decide +kernel)) (by decide +kernel))⟩
theorem okX6_keep : pw_ok mX6_keep 1 := ⟨(pw_in (List.mem_of_getElem? (i := 71) (by decide +kernel)) (by decide +kernel)), (pw_in (List.mem_of_getElem? (i := 1012) (by decide +kernel)) (by decide +kernel)), by decide +kernel, by decide⟩
theorem kL_101 : pw_CV RL 101 mX6_keep 1 := ⟨okX6_keep, (pw_in (List.mem_of_getElem? (i := 1009) (by decide +kernel)) (by decide +kernel)), (pw_in (List.mem_of_getElem? (i := 1010) (by decide +kernel)) (by decide +kernel)), (pw_in (List.mem_of_getElem? (i := 1011) (by decide +kernel)) (by decide +kernel))⟩
theorem okX5_back : pw_ok mX5_back 1 := ⟨(pw_in (List.mem_of_getElem? (i := 64) (by decide +kernel)) (by decide +kernel)), (pw_in (List.mem_of_getElem? (i := 650) (by decide +kernel)) (by decide +kernel)), by decide +kernel, by decide⟩
theorem kL_102 : pw_CV RL 102 mX5_back 1 := ⟨okX5_back, (pw_in (List.mem_of_getElem? (i := 647) (by decide +kernel)) (by decide +kernel)), (pw_in (List.mem_of_getElem? (i := 648) (by decide +kernel)) (by decide +kernel)), (pw_in (List.mem_of_getElem? (i := 649) (by decide +kernel)) (by decide +kernel))⟩
theorem okX6_back : pw_ok mX6_back 1 := ⟨(pw_in (List.mem_of_getElem? (i := 71) (by decide +kernel)) (by decide +kernel)), (pw_in (List.mem_of_getElem? (i := 1016) (by decide +kernel)) (by decide +kernel)), by decide +kernel, by decide⟩
theorem kL_105 : pw_CV RL 105 mX6_back 1 := ⟨okX6_back, (pw_in (List.mem_of_getElem? (i := 1013) (by decide +kernel)) (by decide +kernel)), (pw_in (List.mem_of_getElem? (i := 1014) (by decide +kernel)) (by decide +kernel)), (pw_in (List.mem_of_getElem? (i := 1015) (by decide +kernel)) (by decide +kernel))⟩
theorem okX5_count : pw_ok mX5_count 1 := ⟨(pw_in (List.mem_of_getElem? (i := 64) (by decide +kernel)) (by decide +kernel)), (pw_in (List.mem_of_getElem? (i := 654) (by decide +kernel)) (by decide +kernel)), by decide +kernel, by decide⟩
theorem kL_106 : pw_CV RL 106 mX5_count 1 := ⟨okX5_count, (pw_in (List.mem_of_getElem? (i := 651) (by decide +kernel)) (by decide +kernel)), (pw_in (List.mem_of_getElem? (i := 652) (by decide +kernel)) (by decide +kernel)), (pw_in (List.mem_of_getElem? (i := 653) (by decide +kernel)) (by decide +kernel))⟩
theorem okX6_count : pw_ok mX6_count 1 := ⟨(pw_in (List.mem_of_getElem? (i := 71) (by decide +kernel)) (by decide +kernel)), (pw_in (List.mem_of_getElem? (i := 1020) (by decide +kernel)) (by decide +kernel)), by decide +kernel, by decide⟩
theorem kL_109 : pw_CV RL 109 mX6_count 1 := ⟨okX6_count, (pw_in (List.mem_of_getElem? (i := 1017) (by decide +kernel)) (by decide +kernel)), (pw_in (List.mem_of_getElem? (i := 1018) (by decide +kernel)) (by decide +kernel)), (pw_in (List.mem_of_getElem? (i := 1019) (by decide +kernel)) (by decide +kernel))⟩
theorem okX5_trace : pw_ok mX5_trace 0 := ⟨(pw_in (List.mem_of_getElem? (i := 64) (by decide +kernel)) (by decide +kernel)), (pw_in (List.mem_of_getElem? (i := 658) (by decide +kernel)) (by decide +kernel)), by decide +kernel, by decide⟩
theorem kL_110 : pw_CV RL 110 mX5_trace 0 := ⟨okX5_trace, (pw_in (List.mem_of_getElem? (i := 655) (by decide +kernel)) (by decide +kernel)), (pw_in (List.mem_of_getElem? (i := 656) (by decide +kernel)) (by decide +kernel)), (pw_in (List.mem_of_getElem? (i := 657) (by decide +kernel)) (by decide +kernel))⟩
theorem okX6_trace : pw_ok mX6_trace 0 := ⟨(pw_in (List.mem_of_getElem? (i := 71) (by decide +kernel)) (by decide +kernel)), (pw_in (List.mem_of_getElem? (i := 1024) (by decide +kernel)) (by decide +kernel)), by decide +kernel, by decide⟩
theorem kL_114 : pw_CV RL 114 mX6_trace 0 := ⟨okX6_trace, (pw_in (List.mem_of_getElem? (i := 1021) (by decide +kernel)) (by decide +kernel)), (pw_in (List.mem_of_getElem? (i := 1022) (by decide +kernel)) (by decide +kernel)), (pw_in (List.mem_of_getElem? (i := 1023) (by decide +kernel)) (by decide +kernel))⟩
set_option maxRecDepth 20000 in
theorem nL_7 : pw_NW RL 7 5 12 [.null, .null, .null, .null, .null, .null, .null, .null, .null, .null, .null, .long 0] := ⟨RX5, TX5, tyX5, rfl, inX5, tyX5_ok, (pw_in (List.mem_of_getElem? (i := 74) (by decide +kernel)) (by decide +kernel)), (pw_in (List.mem_of_getElem? (i := 75) (by decide +kernel)) (by decide +kernel)), (pw_in (List.mem_of_getElem? (i := 64) (by decide +kernel)) (by decide +kernel)), by decide +kernel, fun _ => rfl⟩
set_option maxRecDepth 20000 in
theorem nL_10 : pw_NW RL 10 6 36 [.null, .int 0, .null, .int 0, .null, .null, .int 0, .null, .null, .null, .int 0, .null, .null, .int 0, .long 0, .int 0, .int 0, .int 0, .int 0, .null, .int 0, .null, .null, .int 0, .null, .int 0, .null, .int 0, .null, .null, .null, .null, .null, .null, .null, .null] := ⟨RX6, TX6, tyX6, rfl, inX6, tyX6_ok, (pw_in (List.mem_of_getElem? (i := 659) (by decide +kernel)) (by decide +kernel)), (pw_in (List.mem_of_getElem? (i := 660) (by decide +kernel)) (by decide +kernel)), (pw_in (List.mem_of_getElem? (i := 71) (by decide +kernel)) (by decide +kernel)), by decide +kernel, fun _ => rfl⟩
theorem fX0_9 : pw_F RX0 9 0 0 := ⟨RX0, TX0, 3, rfl, by decide, inX0, (pw_in (List.mem_of_getElem? (i := 119) (by decide +kernel)) (by decide +kernel))⟩
theorem fX0_21 : pw_F RX0 21 0 1 := ⟨RX0, TX0, 3, rfl, by decide, inX0, (pw_in (List.mem_of_getElem? (i := 122) (by decide +kernel)) (by decide +kernel))⟩
theorem fX0_25 : pw_F RX0 25 0 2 := ⟨RX0, TX0, 3, rfl, by decide, inX0, (pw_in (List.mem_of_getElem? (i := 124) (by decide +kernel)) (by decide +kernel))⟩
theorem fX0_28 : pw_F RX0 28 2 16 := ⟨RX2, TX2, 19, rfl, by decide, inX2, (pw_in (List.mem_of_getElem? (i := 213) (by decide +kernel)) (by decide +kernel))⟩
theorem kX0_3 : Cond.methodLink RX0 3 Lib.objectInit ∈ pw_tbl := (pw_in (List.mem_of_getElem? (i := 118) (by decide +kernel)) (by decide +kernel))
theorem kX0_15 : Cond.methodLink RX0 15 arraycopyName ∈ pw_tbl := (pw_in (List.mem_of_getElem? (i := 423) (by decide +kernel)) (by decide +kernel))
theorem pX0_9 : pw_FP RX0 9 0 0 (.array .int) true := ⟨RX0, TX0, 3, tyX0, rfl, by decide, inX0, (pw_in (List.mem_of_getElem? (i := 119) (by decide +kernel)) (by decide +kernel)), tyX0_ok, nmX0, rfl, by decide +kernel, rfl⟩
theorem pX0_21 : pw_FP RX0 21 0 1 (.int) false := ⟨RX0, TX0, 3, tyX0, rfl, by decide, inX0, (pw_in (List.mem_of_getElem? (i := 122) (by decide +kernel)) (by decide +kernel)), tyX0_ok, nmX0, rfl, by decide +kernel, rfl⟩
theorem pX0_25 : pw_FP RX0 25 0 2 (.int) false := ⟨RX0, TX0, 3, tyX0, rfl, by decide, inX0, (pw_in (List.mem_of_getElem? (i := 124) (by decide +kernel)) (by decide +kernel)), tyX0_ok, nmX0, rfl, by decide +kernel, rfl⟩
theorem aX1_9 : Cond.classLink RX1 9 "PocketLaws$Now" ∈ pw_tbl := (pw_in (List.mem_of_getElem? (i := 139) (by decide +kernel)) (by decide +kernel))
theorem fX1_11 : pw_F RX1 11 1 0 := ⟨RX1, TX1, 3, rfl, by decide, inX1, (pw_in (List.mem_of_getElem? (i := 142) (by decide +kernel)) (by decide +kernel))⟩
theorem fX1_18 : pw_F RX1 18 1 2 := ⟨RX1, TX1, 3, rfl, by decide, inX1, (pw_in (List.mem_of_getElem? (i := 145) (by decide +kernel)) (by decide +kernel))⟩
theorem fX1_26 : pw_F RX1 26 1 1 := ⟨RX1, TX1, 3, rfl, by decide, inX1, (pw_in (List.mem_of_getElem? (i := 143) (by decide +kernel)) (by decide +kernel))⟩
theorem kX1_3 : Cond.methodLink RX1 3 Lib.objectInit ∈ pw_tbl := (pw_in (List.mem_of_getElem? (i := 138) (by decide +kernel)) (by decide +kernel))
theorem okX0_init : pw_ok mX0_init 0 := ⟨(pw_in (List.mem_of_getElem? (i := 66) (by decide +kernel)) (by decide +kernel)), (pw_in (List.mem_of_getElem? (i := 117) (by decide +kernel)) (by decide +kernel)), by decide +kernel, by decide⟩
theorem kX1_17 : pw_CIN RX1 17 mX0_init 0 RX5 := ⟨okX0_init, (List.mem_of_getElem? (i := 141) (by decide +kernel)), (pw_in (List.mem_of_getElem? (i := 116) (by decide +kernel)) (by decide +kernel)), rfl, rfl⟩
theorem okJ9_min_7cf53 : pw_ok mJ9_min_7cf53 2 := ⟨(pw_in (List.mem_of_getElem? (i := 72) (by decide +kernel)) (by decide +kernel)), (pw_in (List.mem_of_getElem? (i := 359) (by decide +kernel)) (by decide +kernel)), by decide +kernel, by decide⟩
theorem kX1_29 : pw_CS RX1 29 mJ9_min_7cf53 2 := ⟨okJ9_min_7cf53, (pw_in (List.mem_of_getElem? (i := 499) (by decide +kernel)) (by decide +kernel)), (pw_in (List.mem_of_getElem? (i := 358) (by decide +kernel)) (by decide +kernel))⟩
theorem okX0_become : pw_ok mX0_become 1 := ⟨(pw_in (List.mem_of_getElem? (i := 66) (by decide +kernel)) (by decide +kernel)), (pw_in (List.mem_of_getElem? (i := 498) (by decide +kernel)) (by decide +kernel)), by decide +kernel, by decide⟩
theorem kX1_22 : pw_CV RX1 22 mX0_become 1 := ⟨okX0_become, (pw_in (List.mem_of_getElem? (i := 495) (by decide +kernel)) (by decide +kernel)), (pw_in (List.mem_of_getElem? (i := 496) (by decide +kernel)) (by decide +kernel)), (pw_in (List.mem_of_getElem? (i := 497) (by decide +kernel)) (by decide +kernel))⟩
set_option maxRecDepth 20000 in
theorem nX1_9 : pw_NW RX1 9 0 3 [.null, .int 0, .int 0] := ⟨RX0, TX0, tyX0, rfl, inX0, tyX0_ok, (pw_in (List.mem_of_getElem? (i := 139) (by decide +kernel)) (by decide +kernel)), (pw_in (List.mem_of_getElem? (i := 114) (by decide +kernel)) (by decide +kernel)), (pw_in (List.mem_of_getElem? (i := 66) (by decide +kernel)) (by decide +kernel)), by decide +kernel, fun _ => rfl⟩
theorem pX1_11 : pw_FP RX1 11 1 0 (.array (.object "PocketLaws$Now")) true := ⟨RX1, TX1, 3, tyX1, rfl, by decide, inX1, (pw_in (List.mem_of_getElem? (i := 142) (by decide +kernel)) (by decide +kernel)), tyX1_ok, nmX1, rfl, by decide +kernel, rfl⟩
theorem pX1_18 : pw_FP RX1 18 1 2 (.int) false := ⟨RX1, TX1, 3, tyX1, rfl, by decide, inX1, (pw_in (List.mem_of_getElem? (i := 145) (by decide +kernel)) (by decide +kernel)), tyX1_ok, nmX1, rfl, by decide +kernel, rfl⟩
theorem pX1_26 : pw_FP RX1 26 1 1 (.int) false := ⟨RX1, TX1, 3, tyX1, rfl, by decide, inX1, (pw_in (List.mem_of_getElem? (i := 143) (by decide +kernel)) (by decide +kernel)), tyX1_ok, nmX1, rfl, by decide +kernel, rfl⟩
theorem fX2_9 : pw_F RX2 9 2 3 := ⟨RX2, TX2, 19, rfl, by decide, inX2, (pw_in (List.mem_of_getElem? (i := 185) (by decide +kernel)) (by decide +kernel))⟩
theorem fX2_15 : pw_F RX2 15 2 4 := ⟨RX2, TX2, 19, rfl, by decide, inX2, (pw_in (List.mem_of_getElem? (i := 188) (by decide +kernel)) (by decide +kernel))⟩
theorem fX2_18 : pw_F RX2 18 2 5 := ⟨RX2, TX2, 19, rfl, by decide, inX2, (pw_in (List.mem_of_getElem? (i := 190) (by decide +kernel)) (by decide +kernel))⟩
theorem fX2_21 : pw_F RX2 21 2 6 := ⟨RX2, TX2, 19, rfl, by decide, inX2, (pw_in (List.mem_of_getElem? (i := 192) (by decide +kernel)) (by decide +kernel))⟩
theorem fX2_24 : pw_F RX2 24 2 7 := ⟨RX2, TX2, 19, rfl, by decide, inX2, (pw_in (List.mem_of_getElem? (i := 194) (by decide +kernel)) (by decide +kernel))⟩
theorem fX2_27 : pw_F RX2 27 2 8 := ⟨RX2, TX2, 19, rfl, by decide, inX2, (pw_in (List.mem_of_getElem? (i := 195) (by decide +kernel)) (by decide +kernel))⟩
theorem fX2_30 : pw_F RX2 30 2 9 := ⟨RX2, TX2, 19, rfl, by decide, inX2, (pw_in (List.mem_of_getElem? (i := 196) (by decide +kernel)) (by decide +kernel))⟩
theorem fX2_33 : pw_F RX2 33 2 10 := ⟨RX2, TX2, 19, rfl, by decide, inX2, (pw_in (List.mem_of_getElem? (i := 198) (by decide +kernel)) (by decide +kernel))⟩
theorem fX2_36 : pw_F RX2 36 2 11 := ⟨RX2, TX2, 19, rfl, by decide, inX2, (pw_in (List.mem_of_getElem? (i := 200) (by decide +kernel)) (by decide +kernel))⟩
theorem fX2_41 : pw_F RX2 41 2 12 := ⟨RX2, TX2, 19, rfl, by decide, inX2, (pw_in (List.mem_of_getElem? (i := 202) (by decide +kernel)) (by decide +kernel))⟩
theorem fX2_44 : pw_F RX2 44 2 13 := ⟨RX2, TX2, 19, rfl, by decide, inX2, (pw_in (List.mem_of_getElem? (i := 204) (by decide +kernel)) (by decide +kernel))⟩
theorem fX2_47 : pw_F RX2 47 2 14 := ⟨RX2, TX2, 19, rfl, by decide, inX2, (pw_in (List.mem_of_getElem? (i := 207) (by decide +kernel)) (by decide +kernel))⟩
theorem fX2_50 : pw_F RX2 50 2 15 := ⟨RX2, TX2, 19, rfl, by decide, inX2, (pw_in (List.mem_of_getElem? (i := 210) (by decide +kernel)) (by decide +kernel))⟩
theorem fX2_53 : pw_F RX2 53 2 16 := ⟨RX2, TX2, 19, rfl, by decide, inX2, (pw_in (List.mem_of_getElem? (i := 212) (by decide +kernel)) (by decide +kernel))⟩
theorem fX2_56 : pw_F RX2 56 2 17 := ⟨RX2, TX2, 19, rfl, by decide, inX2, (pw_in (List.mem_of_getElem? (i := 214) (by decide +kernel)) (by decide +kernel))⟩
theorem fX2_59 : pw_F RX2 59 2 18 := ⟨RX2, TX2, 19, rfl, by decide, inX2, (pw_in (List.mem_of_getElem? (i := 217) (by decide +kernel)) (by decide +kernel))⟩
theorem fX2_62 : pw_F RX2 62 2 0 := ⟨RX2, TX2, 19, rfl, by decide, inX2, (pw_in (List.mem_of_getElem? (i := 176) (by decide +kernel)) (by decide +kernel))⟩
theorem fX2_66 : pw_F RX2 66 2 1 := ⟨RX2, TX2, 19, rfl, by decide, inX2, (pw_in (List.mem_of_getElem? (i := 180) (by decide +kernel)) (by decide +kernel))⟩
theorem fX2_69 : pw_F RX2 69 2 2 := ⟨RX2, TX2, 19, rfl, by decide, inX2, (pw_in (List.mem_of_getElem? (i := 183) (by decide +kernel)) (by decide +kernel))⟩
theorem kX2_3 : Cond.methodLink RX2 3 Lib.objectInit ∈ pw_tbl := (pw_in (List.mem_of_getElem? (i := 173) (by decide +kernel)) (by decide +kernel))
theorem okJ7_fill_53178 : pw_ok mJ7_fill_53178 2 := ⟨(pw_in (List.mem_of_getElem? (i := 70) (by decide +kernel)) (by decide +kernel)), (pw_in (List.mem_of_getElem? (i := 264) (by decide +kernel)) (by decide +kernel)), by decide +kernel, by decide⟩
theorem kX2_72 : pw_CS RX2 72 mJ7_fill_53178 2 := ⟨okJ7_fill_53178, (pw_in (List.mem_of_getElem? (i := 262) (by decide +kernel)) (by decide +kernel)), (pw_in (List.mem_of_getElem? (i := 263) (by decide +kernel)) (by decide +kernel))⟩
theorem okX5_has : pw_ok mX5_has 2 := ⟨(pw_in (List.mem_of_getElem? (i := 64) (by decide +kernel)) (by decide +kernel)), (pw_in (List.mem_of_getElem? (i := 279) (by decide +kernel)) (by decide +kernel)), by decide +kernel, by decide⟩
theorem kX2_107 : pw_CSN RX2 107 mX5_has 2 RX5 := ⟨okX5_has, (List.mem_of_getElem? (i := 277) (by decide +kernel)), (pw_in (List.mem_of_getElem? (i := 278) (by decide +kernel)) (by decide +kernel))⟩
theorem okX2_tellPocket : pw_ok mX2_tellPocket 1 := ⟨(pw_in (List.mem_of_getElem? (i := 69) (by decide +kernel)) (by decide +kernel)), (pw_in (List.mem_of_getElem? (i := 398) (by decide +kernel)) (by decide +kernel)), by decide +kernel, by decide⟩
theorem kX2_78 : pw_CV RX2 78 mX2_tellPocket 1 := ⟨okX2_tellPocket, (pw_in (List.mem_of_getElem? (i := 395) (by decide +kernel)) (by decide +kernel)), (pw_in (List.mem_of_getElem? (i := 397) (by decide +kernel)) (by decide +kernel)), (pw_in (List.mem_of_getElem? (i := 8) (by decide +kernel)) (by decide +kernel))⟩
theorem okX2_tellLaw : pw_ok mX2_tellLaw 3 := ⟨(pw_in (List.mem_of_getElem? (i := 69) (by decide +kernel)) (by decide +kernel)), (pw_in (List.mem_of_getElem? (i := 402) (by decide +kernel)) (by decide +kernel)), by decide +kernel, by decide⟩
theorem kX2_82 : pw_CV RX2 82 mX2_tellLaw 3 := ⟨okX2_tellLaw, (pw_in (List.mem_of_getElem? (i := 399) (by decide +kernel)) (by decide +kernel)), (pw_in (List.mem_of_getElem? (i := 401) (by decide +kernel)) (by decide +kernel)), (pw_in (List.mem_of_getElem? (i := 9) (by decide +kernel)) (by decide +kernel))⟩
theorem okX2_tellSeam : pw_ok mX2_tellSeam 2 := ⟨(pw_in (List.mem_of_getElem? (i := 69) (by decide +kernel)) (by decide +kernel)), (pw_in (List.mem_of_getElem? (i := 406) (by decide +kernel)) (by decide +kernel)), by decide +kernel, by decide⟩
theorem kX2_86 : pw_CV RX2 86 mX2_tellSeam 2 := ⟨okX2_tellSeam, (pw_in (List.mem_of_getElem? (i := 403) (by decide +kernel)) (by decide +kernel)), (pw_in (List.mem_of_getElem? (i := 405) (by decide +kernel)) (by decide +kernel)), (pw_in (List.mem_of_getElem? (i := 10) (by decide +kernel)) (by decide +kernel))⟩
theorem okX2_tellHole : pw_ok mX2_tellHole 3 := ⟨(pw_in (List.mem_of_getElem? (i := 69) (by decide +kernel)) (by decide +kernel)), (pw_in (List.mem_of_getElem? (i := 410) (by decide +kernel)) (by decide +kernel)), by decide +kernel, by decide⟩
theorem kX2_90 : pw_CV RX2 90 mX2_tellHole 3 := ⟨okX2_tellHole, (pw_in (List.mem_of_getElem? (i := 407) (by decide +kernel)) (by decide +kernel)), (pw_in (List.mem_of_getElem? (i := 409) (by decide +kernel)) (by decide +kernel)), (pw_in (List.mem_of_getElem? (i := 11) (by decide +kernel)) (by decide +kernel))⟩
theorem okX2_tellTreaty : pw_ok mX2_tellTreaty 3 := ⟨(pw_in (List.mem_of_getElem? (i := 69) (by decide +kernel)) (by decide +kernel)), (pw_in (List.mem_of_getElem? (i := 414) (by decide +kernel)) (by decide +kernel)), by decide +kernel, by decide⟩
theorem kX2_93 : pw_CV RX2 93 mX2_tellTreaty 3 := ⟨okX2_tellTreaty, (pw_in (List.mem_of_getElem? (i := 411) (by decide +kernel)) (by decide +kernel)), (pw_in (List.mem_of_getElem? (i := 413) (by decide +kernel)) (by decide +kernel)), (pw_in (List.mem_of_getElem? (i := 12) (by decide +kernel)) (by decide +kernel))⟩
theorem okX2_tellThing : pw_ok mX2_tellThing 1 := ⟨(pw_in (List.mem_of_getElem? (i := 69) (by decide +kernel)) (by decide +kernel)), (pw_in (List.mem_of_getElem? (i := 418) (by decide +kernel)) (by decide +kernel)), by decide +kernel, by decide⟩
theorem kX2_96 : pw_CV RX2 96 mX2_tellThing 1 := ⟨okX2_tellThing, (pw_in (List.mem_of_getElem? (i := 415) (by decide +kernel)) (by decide +kernel)), (pw_in (List.mem_of_getElem? (i := 417) (by decide +kernel)) (by decide +kernel)), (pw_in (List.mem_of_getElem? (i := 13) (by decide +kernel)) (by decide +kernel))⟩
theorem okX2_settleLawsOf : pw_ok mX2_settleLawsOf 1 := ⟨(pw_in (List.mem_of_getElem? (i := 69) (by decide +kernel)) (by decide +kernel)), (pw_in (List.mem_of_getElem? (i := 272) (by decide +kernel)) (by decide +kernel)), by decide +kernel, by decide⟩
theorem kX2_99 : pw_CV RX2 99 mX2_settleLawsOf 1 := ⟨okX2_settleLawsOf, (pw_in (List.mem_of_getElem? (i := 269) (by decide +kernel)) (by decide +kernel)), (pw_in (List.mem_of_getElem? (i := 271) (by decide +kernel)) (by decide +kernel)), (pw_in (List.mem_of_getElem? (i := 0) (by decide +kernel)) (by decide +kernel))⟩
theorem okX2_allHold : pw_ok mX2_allHold 2 := ⟨(pw_in (List.mem_of_getElem? (i := 69) (by decide +kernel)) (by decide +kernel)), (pw_in (List.mem_of_getElem? (i := 276) (by decide +kernel)) (by decide +kernel)), by decide +kernel, by decide⟩
theorem kX2_103 : pw_CV RX2 103 mX2_allHold 2 := ⟨okX2_allHold, (pw_in (List.mem_of_getElem? (i := 273) (by decide +kernel)) (by decide +kernel)), (pw_in (List.mem_of_getElem? (i := 275) (by decide +kernel)) (by decide +kernel)), (pw_in (List.mem_of_getElem? (i := 1) (by decide +kernel)) (by decide +kernel))⟩
theorem okX2_outerLetsIn : pw_ok mX2_outerLetsIn 2 := ⟨(pw_in (List.mem_of_getElem? (i := 69) (by decide +kernel)) (by decide +kernel)), (pw_in (List.mem_of_getElem? (i := 287) (by decide +kernel)) (by decide +kernel)), by decide +kernel, by decide⟩
theorem kX2_110 : pw_CV RX2 110 mX2_outerLetsIn 2 := ⟨okX2_outerLetsIn, (pw_in (List.mem_of_getElem? (i := 284) (by decide +kernel)) (by decide +kernel)), (pw_in (List.mem_of_getElem? (i := 286) (by decide +kernel)) (by decide +kernel)), (pw_in (List.mem_of_getElem? (i := 3) (by decide +kernel)) (by decide +kernel))⟩
theorem okX2_lawSays : pw_ok mX2_lawSays 3 := ⟨(pw_in (List.mem_of_getElem? (i := 69) (by decide +kernel)) (by decide +kernel)), (pw_in (List.mem_of_getElem? (i := 283) (by decide +kernel)) (by decide +kernel)), by decide +kernel, by decide⟩
theorem kX2_113 : pw_CV RX2 113 mX2_lawSays 3 := ⟨okX2_lawSays, (pw_in (List.mem_of_getElem? (i := 280) (by decide +kernel)) (by decide +kernel)), (pw_in (List.mem_of_getElem? (i := 282) (by decide +kernel)) (by decide +kernel)), (pw_in (List.mem_of_getElem? (i := 2) (by decide +kernel)) (by decide +kernel))⟩
theorem okX2_partOf : pw_ok mX2_partOf 1 := ⟨(pw_in (List.mem_of_getElem? (i := 69) (by decide +kernel)) (by decide +kernel)), (pw_in (List.mem_of_getElem? (i := 478) (by decide +kernel)) (by decide +kernel)), by decide +kernel, by decide⟩
theorem kX2_117 : pw_CV RX2 117 mX2_partOf 1 := ⟨okX2_partOf, (pw_in (List.mem_of_getElem? (i := 475) (by decide +kernel)) (by decide +kernel)), (pw_in (List.mem_of_getElem? (i := 477) (by decide +kernel)) (by decide +kernel)), (pw_in (List.mem_of_getElem? (i := 19) (by decide +kernel)) (by decide +kernel))⟩
theorem okX2_behindNight : pw_ok mX2_behindNight 2 := ⟨(pw_in (List.mem_of_getElem? (i := 69) (by decide +kernel)) (by decide +kernel)), (pw_in (List.mem_of_getElem? (i := 577) (by decide +kernel)) (by decide +kernel)), by decide +kernel, by decide⟩
theorem kX2_121 : pw_CV RX2 121 mX2_behindNight 2 := ⟨okX2_behindNight, (pw_in (List.mem_of_getElem? (i := 574) (by decide +kernel)) (by decide +kernel)), (pw_in (List.mem_of_getElem? (i := 575) (by decide +kernel)) (by decide +kernel)), (pw_in (List.mem_of_getElem? (i := 576) (by decide +kernel)) (by decide +kernel))⟩
theorem okX2_dropsAsFarAs : pw_ok mX2_dropsAsFarAs 3 := ⟨(pw_in (List.mem_of_getElem? (i := 69) (by decide +kernel)) (by decide +kernel)), (pw_in (List.mem_of_getElem? (i := 589) (by decide +kernel)) (by decide +kernel)), by decide +kernel, by decide⟩
theorem kX2_125 : pw_CV RX2 125 mX2_dropsAsFarAs 3 := ⟨okX2_dropsAsFarAs, (pw_in (List.mem_of_getElem? (i := 594) (by decide +kernel)) (by decide +kernel)), (pw_in (List.mem_of_getElem? (i := 587) (by decide +kernel)) (by decide +kernel)), (pw_in (List.mem_of_getElem? (i := 588) (by decide +kernel)) (by decide +kernel))⟩
theorem aX2_39 : Cond.classLink RX2 39 ("[" ++ (FieldType.array .int).toString) ∈ pw_tbl := (pw_in (List.mem_of_getElem? (i := 174) (by decide +kernel)) (by decide +kernel))
theorem pX2_9 : pw_FP RX2 9 2 3 (.array .int) true := ⟨RX2, TX2, 19, tyX2, rfl, by decide, inX2, (pw_in (List.mem_of_getElem? (i := 185) (by decide +kernel)) (by decide +kernel)), tyX2_ok, nmX2, rfl, by decide +kernel, rfl⟩
theorem pX2_15 : pw_FP RX2 15 2 4 (.array .int) true := ⟨RX2, TX2, 19, tyX2, rfl, by decide, inX2, (pw_in (List.mem_of_getElem? (i := 188) (by decide +kernel)) (by decide +kernel)), tyX2_ok, nmX2, rfl, by decide +kernel, rfl⟩
theorem pX2_18 : pw_FP RX2 18 2 5 (.array .int) true := ⟨RX2, TX2, 19, tyX2, rfl, by decide, inX2, (pw_in (List.mem_of_getElem? (i := 190) (by decide +kernel)) (by decide +kernel)), tyX2_ok, nmX2, rfl, by decide +kernel, rfl⟩
theorem pX2_21 : pw_FP RX2 21 2 6 (.array .int) true := ⟨RX2, TX2, 19, tyX2, rfl, by decide, inX2, (pw_in (List.mem_of_getElem? (i := 192) (by decide +kernel)) (by decide +kernel)), tyX2_ok, nmX2, rfl, by decide +kernel, rfl⟩
theorem pX2_24 : pw_FP RX2 24 2 7 (.array .int) true := ⟨RX2, TX2, 19, tyX2, rfl, by decide, inX2, (pw_in (List.mem_of_getElem? (i := 194) (by decide +kernel)) (by decide +kernel)), tyX2_ok, nmX2, rfl, by decide +kernel, rfl⟩
theorem pX2_27 : pw_FP RX2 27 2 8 (.array .int) true := ⟨RX2, TX2, 19, tyX2, rfl, by decide, inX2, (pw_in (List.mem_of_getElem? (i := 195) (by decide +kernel)) (by decide +kernel)), tyX2_ok, nmX2, rfl, by decide +kernel, rfl⟩
theorem pX2_30 : pw_FP RX2 30 2 9 (.array .int) true := ⟨RX2, TX2, 19, tyX2, rfl, by decide, inX2, (pw_in (List.mem_of_getElem? (i := 196) (by decide +kernel)) (by decide +kernel)), tyX2_ok, nmX2, rfl, by decide +kernel, rfl⟩
theorem pX2_33 : pw_FP RX2 33 2 10 (.array .int) true := ⟨RX2, TX2, 19, tyX2, rfl, by decide, inX2, (pw_in (List.mem_of_getElem? (i := 198) (by decide +kernel)) (by decide +kernel)), tyX2_ok, nmX2, rfl, by decide +kernel, rfl⟩
theorem pX2_36 : pw_FP RX2 36 2 11 (.array .int) true := ⟨RX2, TX2, 19, tyX2, rfl, by decide, inX2, (pw_in (List.mem_of_getElem? (i := 200) (by decide +kernel)) (by decide +kernel)), tyX2_ok, nmX2, rfl, by decide +kernel, rfl⟩
theorem pX2_41 : pw_FP RX2 41 2 12 (.array (.array .int)) true := ⟨RX2, TX2, 19, tyX2, rfl, by decide, inX2, (pw_in (List.mem_of_getElem? (i := 202) (by decide +kernel)) (by decide +kernel)), tyX2_ok, nmX2, rfl, by decide +kernel, rfl⟩
theorem pX2_44 : pw_FP RX2 44 2 13 (.array .int) true := ⟨RX2, TX2, 19, tyX2, rfl, by decide, inX2, (pw_in (List.mem_of_getElem? (i := 204) (by decide +kernel)) (by decide +kernel)), tyX2_ok, nmX2, rfl, by decide +kernel, rfl⟩
theorem pX2_47 : pw_FP RX2 47 2 14 (.array .int) true := ⟨RX2, TX2, 19, tyX2, rfl, by decide, inX2, (pw_in (List.mem_of_getElem? (i := 207) (by decide +kernel)) (by decide +kernel)), tyX2_ok, nmX2, rfl, by decide +kernel, rfl⟩
theorem pX2_50 : pw_FP RX2 50 2 15 (.array .int) true := ⟨RX2, TX2, 19, tyX2, rfl, by decide, inX2, (pw_in (List.mem_of_getElem? (i := 210) (by decide +kernel)) (by decide +kernel)), tyX2_ok, nmX2, rfl, by decide +kernel, rfl⟩
theorem pX2_53 : pw_FP RX2 53 2 16 (.array .int) true := ⟨RX2, TX2, 19, tyX2, rfl, by decide, inX2, (pw_in (List.mem_of_getElem? (i := 212) (by decide +kernel)) (by decide +kernel)), tyX2_ok, nmX2, rfl, by decide +kernel, rfl⟩
theorem pX2_56 : pw_FP RX2 56 2 17 (.array .int) true := ⟨RX2, TX2, 19, tyX2, rfl, by decide, inX2, (pw_in (List.mem_of_getElem? (i := 214) (by decide +kernel)) (by decide +kernel)), tyX2_ok, nmX2, rfl, by decide +kernel, rfl⟩
theorem pX2_59 : pw_FP RX2 59 2 18 (.array .int) true := ⟨RX2, TX2, 19, tyX2, rfl, by decide, inX2, (pw_in (List.mem_of_getElem? (i := 217) (by decide +kernel)) (by decide +kernel)), tyX2_ok, nmX2, rfl, by decide +kernel, rfl⟩
theorem pX2_62 : pw_FP RX2 62 2 0 (.int) false := ⟨RX2, TX2, 19, tyX2, rfl, by decide, inX2, (pw_in (List.mem_of_getElem? (i := 176) (by decide +kernel)) (by decide +kernel)), tyX2_ok, nmX2, rfl, by decide +kernel, rfl⟩
theorem pX2_66 : pw_FP RX2 66 2 1 (.int) false := ⟨RX2, TX2, 19, tyX2, rfl, by decide, inX2, (pw_in (List.mem_of_getElem? (i := 180) (by decide +kernel)) (by decide +kernel)), tyX2_ok, nmX2, rfl, by decide +kernel, rfl⟩
theorem pX2_69 : pw_FP RX2 69 2 2 (.int) false := ⟨RX2, TX2, 19, tyX2, rfl, by decide, inX2, (pw_in (List.mem_of_getElem? (i := 183) (by decide +kernel)) (by decide +kernel)), tyX2_ok, nmX2, rfl, by decide +kernel, rfl⟩
theorem fX3_9 : pw_F RX3 9 3 0 := ⟨RX3, TX3, 2, rfl, by decide, inX3, (pw_in (List.mem_of_getElem? (i := 159) (by decide +kernel)) (by decide +kernel))⟩
theorem fX3_15 : pw_F RX3 15 3 1 := ⟨RX3, TX3, 2, rfl, by decide, inX3, (pw_in (List.mem_of_getElem? (i := 161) (by decide +kernel)) (by decide +kernel))⟩
theorem fX3_22 : pw_F RX3 22 2 1 := ⟨RX2, TX2, 19, rfl, by decide, inX2, (pw_in (List.mem_of_getElem? (i := 181) (by decide +kernel)) (by decide +kernel))⟩
theorem fX3_38 : pw_F RX3 38 2 0 := ⟨RX2, TX2, 19, rfl, by decide, inX2, (pw_in (List.mem_of_getElem? (i := 177) (by decide +kernel)) (by decide +kernel))⟩
theorem fX3_41 : pw_F RX3 41 2 17 := ⟨RX2, TX2, 19, rfl, by decide, inX2, (pw_in (List.mem_of_getElem? (i := 215) (by decide +kernel)) (by decide +kernel))⟩
theorem fX3_44 : pw_F RX3 44 2 13 := ⟨RX2, TX2, 19, rfl, by decide, inX2, (pw_in (List.mem_of_getElem? (i := 205) (by decide +kernel)) (by decide +kernel))⟩
theorem fX3_51 : pw_F RX3 51 2 14 := ⟨RX2, TX2, 19, rfl, by decide, inX2, (pw_in (List.mem_of_getElem? (i := 208) (by decide +kernel)) (by decide +kernel))⟩
theorem fX3_54 : pw_F RX3 54 2 3 := ⟨RX2, TX2, 19, rfl, by decide, inX2, (pw_in (List.mem_of_getElem? (i := 186) (by decide +kernel)) (by decide +kernel))⟩
theorem fX3_57 : pw_F RX3 57 0 0 := ⟨RX0, TX0, 3, rfl, by decide, inX0, (pw_in (List.mem_of_getElem? (i := 120) (by decide +kernel)) (by decide +kernel))⟩
theorem kX3_3 : Cond.methodLink RX3 3 Lib.objectInit ∈ pw_tbl := (pw_in (List.mem_of_getElem? (i := 158) (by decide +kernel)) (by decide +kernel))
theorem okX3_eachHasAPlace : pw_ok mX3_eachHasAPlace 1 := ⟨(pw_in (List.mem_of_getElem? (i := 68) (by decide +kernel)) (by decide +kernel)), (pw_in (List.mem_of_getElem? (i := 545) (by decide +kernel)) (by decide +kernel)), by decide +kernel, by decide⟩
theorem kX3_18 : pw_CS RX3 18 mX3_eachHasAPlace 1 := ⟨okX3_eachHasAPlace, (pw_in (List.mem_of_getElem? (i := 543) (by decide +kernel)) (by decide +kernel)), (pw_in (List.mem_of_getElem? (i := 544) (by decide +kernel)) (by decide +kernel))⟩
theorem kX3_28 : pw_CS RX3 28 mJ7_fill_53178 2 := ⟨okJ7_fill_53178, (pw_in (List.mem_of_getElem? (i := 547) (by decide +kernel)) (by decide +kernel)), (pw_in (List.mem_of_getElem? (i := 263) (by decide +kernel)) (by decide +kernel))⟩
theorem okX3_putFrom : pw_ok mX3_putFrom 5 := ⟨(pw_in (List.mem_of_getElem? (i := 68) (by decide +kernel)) (by decide +kernel)), (pw_in (List.mem_of_getElem? (i := 550) (by decide +kernel)) (by decide +kernel)), by decide +kernel, by decide⟩
theorem kX3_34 : pw_CS RX3 34 mX3_putFrom 5 := ⟨okX3_putFrom, (pw_in (List.mem_of_getElem? (i := 548) (by decide +kernel)) (by decide +kernel)), (pw_in (List.mem_of_getElem? (i := 549) (by decide +kernel)) (by decide +kernel))⟩
theorem kX3_47 : pw_CSN RX3 47 mX5_has 2 RX5 := ⟨okX5_has, (List.mem_of_getElem? (i := 546) (by decide +kernel)), (pw_in (List.mem_of_getElem? (i := 278) (by decide +kernel)) (by decide +kernel))⟩
theorem pX3_9 : pw_FP RX3 9 3 0 (.array .int) true := ⟨RX3, TX3, 2, tyX3, rfl, by decide, inX3, (pw_in (List.mem_of_getElem? (i := 159) (by decide +kernel)) (by decide +kernel)), tyX3_ok, nmX3, rfl, by decide +kernel, rfl⟩
theorem pX3_15 : pw_FP RX3 15 3 1 (.array .int) true := ⟨RX3, TX3, 2, tyX3, rfl, by decide, inX3, (pw_in (List.mem_of_getElem? (i := 161) (by decide +kernel)) (by decide +kernel)), tyX3_ok, nmX3, rfl, by decide +kernel, rfl⟩
theorem fX4_9 : pw_F RX4 9 4 0 := ⟨RX4, TX4, 7, rfl, by decide, inX4, (pw_in (List.mem_of_getElem? (i := 88) (by decide +kernel)) (by decide +kernel))⟩
theorem fX4_15 : pw_F RX4 15 4 1 := ⟨RX4, TX4, 7, rfl, by decide, inX4, (pw_in (List.mem_of_getElem? (i := 90) (by decide +kernel)) (by decide +kernel))⟩
theorem fX4_23 : pw_F RX4 23 4 3 := ⟨RX4, TX4, 7, rfl, by decide, inX4, (pw_in (List.mem_of_getElem? (i := 93) (by decide +kernel)) (by decide +kernel))⟩
theorem fX4_30 : pw_F RX4 30 4 4 := ⟨RX4, TX4, 7, rfl, by decide, inX4, (pw_in (List.mem_of_getElem? (i := 94) (by decide +kernel)) (by decide +kernel))⟩
theorem fX4_37 : pw_F RX4 37 4 5 := ⟨RX4, TX4, 7, rfl, by decide, inX4, (pw_in (List.mem_of_getElem? (i := 95) (by decide +kernel)) (by decide +kernel))⟩
theorem fX4_48 : pw_F RX4 48 2 0 := ⟨RX2, TX2, 19, rfl, by decide, inX2, (pw_in (List.mem_of_getElem? (i := 178) (by decide +kernel)) (by decide +kernel))⟩
theorem fX4_55 : pw_F RX4 55 4 6 := ⟨RX4, TX4, 7, rfl, by decide, inX4, (pw_in (List.mem_of_getElem? (i := 96) (by decide +kernel)) (by decide +kernel))⟩
theorem fX4_90 : pw_F RX4 90 4 2 := ⟨RX4, TX4, 7, rfl, by decide, inX4, (pw_in (List.mem_of_getElem? (i := 92) (by decide +kernel)) (by decide +kernel))⟩
theorem sX4_62 : Cond.fieldLink RX4 62 "PocketLaws$Text" (pw_sn 0) "[I" ∈ pw_tbl := (pw_in (List.mem_of_getElem? (i := 367) (by decide +kernel)) (by decide +kernel))
theorem sX4_65 : Cond.fieldLink RX4 65 "PocketLaws$Text" (pw_sn 1) "[I" ∈ pw_tbl := (pw_in (List.mem_of_getElem? (i := 369) (by decide +kernel)) (by decide +kernel))
theorem sX4_68 : Cond.fieldLink RX4 68 "PocketLaws$Text" (pw_sn 2) "[I" ∈ pw_tbl := (pw_in (List.mem_of_getElem? (i := 371) (by decide +kernel)) (by decide +kernel))
theorem sX4_71 : Cond.fieldLink RX4 71 "PocketLaws$Text" (pw_sn 3) "[I" ∈ pw_tbl := (pw_in (List.mem_of_getElem? (i := 373) (by decide +kernel)) (by decide +kernel))
theorem sX4_74 : Cond.fieldLink RX4 74 "PocketLaws$Text" (pw_sn 4) "[I" ∈ pw_tbl := (pw_in (List.mem_of_getElem? (i := 375) (by decide +kernel)) (by decide +kernel))
theorem sX4_77 : Cond.fieldLink RX4 77 "PocketLaws$Text" (pw_sn 5) "[I" ∈ pw_tbl := (pw_in (List.mem_of_getElem? (i := 377) (by decide +kernel)) (by decide +kernel))
theorem sX4_80 : Cond.fieldLink RX4 80 "PocketLaws$Text" (pw_sn 6) "[I" ∈ pw_tbl := (pw_in (List.mem_of_getElem? (i := 387) (by decide +kernel)) (by decide +kernel))
theorem sX4_83 : Cond.fieldLink RX4 83 "PocketLaws$Text" (pw_sn 7) "[I" ∈ pw_tbl := (pw_in (List.mem_of_getElem? (i := 389) (by decide +kernel)) (by decide +kernel))
theorem kX4_3 : Cond.methodLink RX4 3 Lib.objectInit ∈ pw_tbl := (pw_in (List.mem_of_getElem? (i := 87) (by decide +kernel)) (by decide +kernel))
theorem okX4_formOf : pw_ok mX4_formOf 1 := ⟨(pw_in (List.mem_of_getElem? (i := 65) (by decide +kernel)) (by decide +kernel)), (pw_in (List.mem_of_getElem? (i := 366) (by decide +kernel)) (by decide +kernel)), by decide +kernel, by decide⟩
theorem kX4_40 : pw_CS RX4 40 mX4_formOf 1 := ⟨okX4_formOf, (pw_in (List.mem_of_getElem? (i := 364) (by decide +kernel)) (by decide +kernel)), (pw_in (List.mem_of_getElem? (i := 365) (by decide +kernel)) (by decide +kernel))⟩
theorem okX5_within : pw_ok mX5_within 3 := ⟨(pw_in (List.mem_of_getElem? (i := 64) (by decide +kernel)) (by decide +kernel)), (pw_in (List.mem_of_getElem? (i := 331) (by decide +kernel)) (by decide +kernel)), by decide +kernel, by decide⟩
theorem kX4_86 : pw_CSN RX4 86 mX5_within 3 RX5 := ⟨okX5_within, (List.mem_of_getElem? (i := 352) (by decide +kernel)), (pw_in (List.mem_of_getElem? (i := 330) (by decide +kernel)) (by decide +kernel))⟩
theorem okX4_isDigit : pw_ok mX4_isDigit 1 := ⟨(pw_in (List.mem_of_getElem? (i := 65) (by decide +kernel)) (by decide +kernel)), (pw_in (List.mem_of_getElem? (i := 351) (by decide +kernel)) (by decide +kernel)), by decide +kernel, by decide⟩
theorem kX4_93 : pw_CS RX4 93 mX4_isDigit 1 := ⟨okX4_isDigit, (pw_in (List.mem_of_getElem? (i := 349) (by decide +kernel)) (by decide +kernel)), (pw_in (List.mem_of_getElem? (i := 350) (by decide +kernel)) (by decide +kernel))⟩
theorem kX4_99 : pw_CS RX4 99 mJ9_min_7cf53 2 := ⟨okJ9_min_7cf53, (pw_in (List.mem_of_getElem? (i := 357) (by decide +kernel)) (by decide +kernel)), (pw_in (List.mem_of_getElem? (i := 358) (by decide +kernel)) (by decide +kernel))⟩
theorem okX2_forgetAll : pw_ok mX2_forgetAll 0 := ⟨(pw_in (List.mem_of_getElem? (i := 69) (by decide +kernel)) (by decide +kernel)), (pw_in (List.mem_of_getElem? (i := 261) (by decide +kernel)) (by decide +kernel)), by decide +kernel, by decide⟩
theorem kX4_18 : pw_CV RX4 18 mX2_forgetAll 0 := ⟨okX2_forgetAll, (pw_in (List.mem_of_getElem? (i := 344) (by decide +kernel)) (by decide +kernel)), (pw_in (List.mem_of_getElem? (i := 259) (by decide +kernel)) (by decide +kernel)), (pw_in (List.mem_of_getElem? (i := 260) (by decide +kernel)) (by decide +kernel))⟩
theorem okX4_readToken : pw_ok mX4_readToken 0 := ⟨(pw_in (List.mem_of_getElem? (i := 65) (by decide +kernel)) (by decide +kernel)), (pw_in (List.mem_of_getElem? (i := 348) (by decide +kernel)) (by decide +kernel)), by decide +kernel, by decide⟩
theorem kX4_27 : pw_CV RX4 27 mX4_readToken 0 := ⟨okX4_readToken, (pw_in (List.mem_of_getElem? (i := 345) (by decide +kernel)) (by decide +kernel)), (pw_in (List.mem_of_getElem? (i := 347) (by decide +kernel)) (by decide +kernel)), (pw_in (List.mem_of_getElem? (i := 4) (by decide +kernel)) (by decide +kernel))⟩
theorem okX4_readItem : pw_ok mX4_readItem 1 := ⟨(pw_in (List.mem_of_getElem? (i := 65) (by decide +kernel)) (by decide +kernel)), (pw_in (List.mem_of_getElem? (i := 363) (by decide +kernel)) (by decide +kernel)), by decide +kernel, by decide⟩
theorem kX4_33 : pw_CV RX4 33 mX4_readItem 1 := ⟨okX4_readItem, (pw_in (List.mem_of_getElem? (i := 360) (by decide +kernel)) (by decide +kernel)), (pw_in (List.mem_of_getElem? (i := 362) (by decide +kernel)) (by decide +kernel)), (pw_in (List.mem_of_getElem? (i := 6) (by decide +kernel)) (by decide +kernel))⟩
theorem okX2_hasRoomFor : pw_ok mX2_hasRoomFor 1 := ⟨(pw_in (List.mem_of_getElem? (i := 69) (by decide +kernel)) (by decide +kernel)), (pw_in (List.mem_of_getElem? (i := 382) (by decide +kernel)) (by decide +kernel)), by decide +kernel, by decide⟩
theorem kX4_44 : pw_CV RX4 44 mX2_hasRoomFor 1 := ⟨okX2_hasRoomFor, (pw_in (List.mem_of_getElem? (i := 379) (by decide +kernel)) (by decide +kernel)), (pw_in (List.mem_of_getElem? (i := 380) (by decide +kernel)) (by decide +kernel)), (pw_in (List.mem_of_getElem? (i := 381) (by decide +kernel)) (by decide +kernel))⟩
theorem okX4_mayBe : pw_ok mX4_mayBe 2 := ⟨(pw_in (List.mem_of_getElem? (i := 65) (by decide +kernel)) (by decide +kernel)), (pw_in (List.mem_of_getElem? (i := 386) (by decide +kernel)) (by decide +kernel)), by decide +kernel, by decide⟩
theorem kX4_51 : pw_CV RX4 51 mX4_mayBe 2 := ⟨okX4_mayBe, (pw_in (List.mem_of_getElem? (i := 383) (by decide +kernel)) (by decide +kernel)), (pw_in (List.mem_of_getElem? (i := 385) (by decide +kernel)) (by decide +kernel)), (pw_in (List.mem_of_getElem? (i := 7) (by decide +kernel)) (by decide +kernel))⟩
theorem okX2_tell : pw_ok mX2_tell 2 := ⟨(pw_in (List.mem_of_getElem? (i := 69) (by decide +kernel)) (by decide +kernel)), (pw_in (List.mem_of_getElem? (i := 394) (by decide +kernel)) (by decide +kernel)), by decide +kernel, by decide⟩
theorem kX4_58 : pw_CV RX4 58 mX2_tell 2 := ⟨okX2_tell, (pw_in (List.mem_of_getElem? (i := 391) (by decide +kernel)) (by decide +kernel)), (pw_in (List.mem_of_getElem? (i := 392) (by decide +kernel)) (by decide +kernel)), (pw_in (List.mem_of_getElem? (i := 393) (by decide +kernel)) (by decide +kernel))⟩
theorem okX4_readNumber : pw_ok mX4_readNumber 0 := ⟨(pw_in (List.mem_of_getElem? (i := 65) (by decide +kernel)) (by decide +kernel)), (pw_in (List.mem_of_getElem? (i := 356) (by decide +kernel)) (by decide +kernel)), by decide +kernel, by decide⟩
theorem kX4_96 : pw_CV RX4 96 mX4_readNumber 0 := ⟨okX4_readNumber, (pw_in (List.mem_of_getElem? (i := 353) (by decide +kernel)) (by decide +kernel)), (pw_in (List.mem_of_getElem? (i := 355) (by decide +kernel)) (by decide +kernel)), (pw_in (List.mem_of_getElem? (i := 5) (by decide +kernel)) (by decide +kernel))⟩
theorem pX4_9 : pw_FP RX4 9 4 0 (.array .int) true := ⟨RX4, TX4, 7, tyX4, rfl, by decide, inX4, (pw_in (List.mem_of_getElem? (i := 88) (by decide +kernel)) (by decide +kernel)), tyX4_ok, nmX4, rfl, by decide +kernel, rfl⟩
theorem pX4_15 : pw_FP RX4 15 4 1 (.array .int) true := ⟨RX4, TX4, 7, tyX4, rfl, by decide, inX4, (pw_in (List.mem_of_getElem? (i := 90) (by decide +kernel)) (by decide +kernel)), tyX4_ok, nmX4, rfl, by decide +kernel, rfl⟩
theorem pX4_23 : pw_FP RX4 23 4 3 (.int) false := ⟨RX4, TX4, 7, tyX4, rfl, by decide, inX4, (pw_in (List.mem_of_getElem? (i := 93) (by decide +kernel)) (by decide +kernel)), tyX4_ok, nmX4, rfl, by decide +kernel, rfl⟩
theorem pX4_30 : pw_FP RX4 30 4 4 (.int) false := ⟨RX4, TX4, 7, tyX4, rfl, by decide, inX4, (pw_in (List.mem_of_getElem? (i := 94) (by decide +kernel)) (by decide +kernel)), tyX4_ok, nmX4, rfl, by decide +kernel, rfl⟩
theorem pX4_37 : pw_FP RX4 37 4 5 (.int) false := ⟨RX4, TX4, 7, tyX4, rfl, by decide, inX4, (pw_in (List.mem_of_getElem? (i := 95) (by decide +kernel)) (by decide +kernel)), tyX4_ok, nmX4, rfl, by decide +kernel, rfl⟩
theorem pX4_55 : pw_FP RX4 55 4 6 (.int) false := ⟨RX4, TX4, 7, tyX4, rfl, by decide, inX4, (pw_in (List.mem_of_getElem? (i := 96) (by decide +kernel)) (by decide +kernel)), tyX4_ok, nmX4, rfl, by decide +kernel, rfl⟩
theorem aX5_16 : Cond.classLink RX5 16 "PocketLaws$Now" ∈ pw_tbl := (pw_in (List.mem_of_getElem? (i := 113) (by decide +kernel)) (by decide +kernel))
theorem fX5_10 : pw_F RX5 10 5 0 := ⟨RX5, TX5, 12, rfl, by decide, inX5, (pw_in (List.mem_of_getElem? (i := 288) (by decide +kernel)) (by decide +kernel))⟩
theorem fX5_19 : pw_F RX5 19 5 1 := ⟨RX5, TX5, 12, rfl, by decide, inX5, (pw_in (List.mem_of_getElem? (i := 289) (by decide +kernel)) (by decide +kernel))⟩
theorem fX5_26 : pw_F RX5 26 5 2 := ⟨RX5, TX5, 12, rfl, by decide, inX5, (pw_in (List.mem_of_getElem? (i := 290) (by decide +kernel)) (by decide +kernel))⟩
theorem fX5_30 : pw_F RX5 30 5 3 := ⟨RX5, TX5, 12, rfl, by decide, inX5, (pw_in (List.mem_of_getElem? (i := 291) (by decide +kernel)) (by decide +kernel))⟩
theorem fX5_34 : pw_F RX5 34 5 4 := ⟨RX5, TX5, 12, rfl, by decide, inX5, (pw_in (List.mem_of_getElem? (i := 292) (by decide +kernel)) (by decide +kernel))⟩
theorem fX5_41 : pw_F RX5 41 5 5 := ⟨RX5, TX5, 12, rfl, by decide, inX5, (pw_in (List.mem_of_getElem? (i := 293) (by decide +kernel)) (by decide +kernel))⟩
theorem fX5_45 : pw_F RX5 45 5 6 := ⟨RX5, TX5, 12, rfl, by decide, inX5, (pw_in (List.mem_of_getElem? (i := 294) (by decide +kernel)) (by decide +kernel))⟩
theorem fX5_49 : pw_F RX5 49 5 7 := ⟨RX5, TX5, 12, rfl, by decide, inX5, (pw_in (List.mem_of_getElem? (i := 295) (by decide +kernel)) (by decide +kernel))⟩
theorem fX5_52 : pw_F RX5 52 5 8 := ⟨RX5, TX5, 12, rfl, by decide, inX5, (pw_in (List.mem_of_getElem? (i := 296) (by decide +kernel)) (by decide +kernel))⟩
theorem fX5_58 : pw_F RX5 58 5 9 := ⟨RX5, TX5, 12, rfl, by decide, inX5, (pw_in (List.mem_of_getElem? (i := 297) (by decide +kernel)) (by decide +kernel))⟩
theorem fX5_62 : pw_F RX5 62 5 10 := ⟨RX5, TX5, 12, rfl, by decide, inX5, (pw_in (List.mem_of_getElem? (i := 298) (by decide +kernel)) (by decide +kernel))⟩
theorem fX5_75 : pw_F RX5 75 4 2 := ⟨RX4, TX4, 7, rfl, by decide, inX4, (pw_in (List.mem_of_getElem? (i := 91) (by decide +kernel)) (by decide +kernel))⟩
theorem fX5_79 : pw_F RX5 79 4 0 := ⟨RX4, TX4, 7, rfl, by decide, inX4, (pw_in (List.mem_of_getElem? (i := 89) (by decide +kernel)) (by decide +kernel))⟩
theorem fX5_90 : pw_F RX5 90 1 1 := ⟨RX1, TX1, 3, rfl, by decide, inX1, (pw_in (List.mem_of_getElem? (i := 144) (by decide +kernel)) (by decide +kernel))⟩
theorem fX5_97 : pw_F RX5 97 2 3 := ⟨RX2, TX2, 19, rfl, by decide, inX2, (pw_in (List.mem_of_getElem? (i := 187) (by decide +kernel)) (by decide +kernel))⟩
theorem fX5_100 : pw_F RX5 100 2 4 := ⟨RX2, TX2, 19, rfl, by decide, inX2, (pw_in (List.mem_of_getElem? (i := 189) (by decide +kernel)) (by decide +kernel))⟩
theorem fX5_103 : pw_F RX5 103 2 5 := ⟨RX2, TX2, 19, rfl, by decide, inX2, (pw_in (List.mem_of_getElem? (i := 191) (by decide +kernel)) (by decide +kernel))⟩
theorem fX5_106 : pw_F RX5 106 2 6 := ⟨RX2, TX2, 19, rfl, by decide, inX2, (pw_in (List.mem_of_getElem? (i := 193) (by decide +kernel)) (by decide +kernel))⟩
theorem fX5_116 : pw_F RX5 116 2 9 := ⟨RX2, TX2, 19, rfl, by decide, inX2, (pw_in (List.mem_of_getElem? (i := 197) (by decide +kernel)) (by decide +kernel))⟩
theorem fX5_119 : pw_F RX5 119 2 10 := ⟨RX2, TX2, 19, rfl, by decide, inX2, (pw_in (List.mem_of_getElem? (i := 199) (by decide +kernel)) (by decide +kernel))⟩
theorem fX5_125 : pw_F RX5 125 2 13 := ⟨RX2, TX2, 19, rfl, by decide, inX2, (pw_in (List.mem_of_getElem? (i := 206) (by decide +kernel)) (by decide +kernel))⟩
theorem fX5_128 : pw_F RX5 128 2 14 := ⟨RX2, TX2, 19, rfl, by decide, inX2, (pw_in (List.mem_of_getElem? (i := 209) (by decide +kernel)) (by decide +kernel))⟩
theorem fX5_131 : pw_F RX5 131 2 15 := ⟨RX2, TX2, 19, rfl, by decide, inX2, (pw_in (List.mem_of_getElem? (i := 211) (by decide +kernel)) (by decide +kernel))⟩
theorem fX5_134 : pw_F RX5 134 0 0 := ⟨RX0, TX0, 3, rfl, by decide, inX0, (pw_in (List.mem_of_getElem? (i := 121) (by decide +kernel)) (by decide +kernel))⟩
theorem fX5_140 : pw_F RX5 140 2 17 := ⟨RX2, TX2, 19, rfl, by decide, inX2, (pw_in (List.mem_of_getElem? (i := 216) (by decide +kernel)) (by decide +kernel))⟩
theorem fX5_147 : pw_F RX5 147 2 18 := ⟨RX2, TX2, 19, rfl, by decide, inX2, (pw_in (List.mem_of_getElem? (i := 218) (by decide +kernel)) (by decide +kernel))⟩
theorem fX5_150 : pw_F RX5 150 0 2 := ⟨RX0, TX0, 3, rfl, by decide, inX0, (pw_in (List.mem_of_getElem? (i := 125) (by decide +kernel)) (by decide +kernel))⟩
theorem fX5_153 : pw_F RX5 153 0 1 := ⟨RX0, TX0, 3, rfl, by decide, inX0, (pw_in (List.mem_of_getElem? (i := 123) (by decide +kernel)) (by decide +kernel))⟩
theorem fX5_177 : pw_F RX5 177 2 1 := ⟨RX2, TX2, 19, rfl, by decide, inX2, (pw_in (List.mem_of_getElem? (i := 182) (by decide +kernel)) (by decide +kernel))⟩
theorem fX5_194 : pw_F RX5 194 3 0 := ⟨RX3, TX3, 2, rfl, by decide, inX3, (pw_in (List.mem_of_getElem? (i := 160) (by decide +kernel)) (by decide +kernel))⟩
theorem fX5_206 : pw_F RX5 206 2 0 := ⟨RX2, TX2, 19, rfl, by decide, inX2, (pw_in (List.mem_of_getElem? (i := 179) (by decide +kernel)) (by decide +kernel))⟩
theorem fX5_209 : pw_F RX5 209 2 12 := ⟨RX2, TX2, 19, rfl, by decide, inX2, (pw_in (List.mem_of_getElem? (i := 203) (by decide +kernel)) (by decide +kernel))⟩
theorem fX5_257 : pw_F RX5 257 2 2 := ⟨RX2, TX2, 19, rfl, by decide, inX2, (pw_in (List.mem_of_getElem? (i := 184) (by decide +kernel)) (by decide +kernel))⟩
theorem fX5_260 : pw_F RX5 260 5 11 := ⟨RX5, TX5, 12, rfl, by decide, inX5, (pw_in (List.mem_of_getElem? (i := 299) (by decide +kernel)) (by decide +kernel))⟩
theorem fX5_264 : pw_F RX5 264 2 11 := ⟨RX2, TX2, 19, rfl, by decide, inX2, (pw_in (List.mem_of_getElem? (i := 201) (by decide +kernel)) (by decide +kernel))⟩
theorem kX5_1 : Cond.methodLink RX5 1 Lib.objectInit ∈ pw_tbl := (pw_in (List.mem_of_getElem? (i := 79) (by decide +kernel)) (by decide +kernel))
theorem okX4_init : pw_ok mX4_init 0 := ⟨(pw_in (List.mem_of_getElem? (i := 65) (by decide +kernel)) (by decide +kernel)), (pw_in (List.mem_of_getElem? (i := 86) (by decide +kernel)) (by decide +kernel)), by decide +kernel, by decide⟩
theorem kX5_9 : pw_CIN RX5 9 mX4_init 0 RX5 := ⟨okX4_init, (List.mem_of_getElem? (i := 84) (by decide +kernel)), (pw_in (List.mem_of_getElem? (i := 85) (by decide +kernel)) (by decide +kernel)), rfl, rfl⟩
theorem kX5_18 : pw_CIN RX5 18 mX0_init 0 RX5 := ⟨okX0_init, (List.mem_of_getElem? (i := 115) (by decide +kernel)), (pw_in (List.mem_of_getElem? (i := 116) (by decide +kernel)) (by decide +kernel)), rfl, rfl⟩
theorem okX1_init : pw_ok mX1_init 0 := ⟨(pw_in (List.mem_of_getElem? (i := 67) (by decide +kernel)) (by decide +kernel)), (pw_in (List.mem_of_getElem? (i := 137) (by decide +kernel)) (by decide +kernel)), by decide +kernel, by decide⟩
theorem kX5_25 : pw_CI RX5 25 mX1_init 0 := ⟨okX1_init, (pw_in (List.mem_of_getElem? (i := 135) (by decide +kernel)) (by decide +kernel)), (pw_in (List.mem_of_getElem? (i := 136) (by decide +kernel)) (by decide +kernel)), rfl, rfl⟩
theorem okX3_init : pw_ok mX3_init 0 := ⟨(pw_in (List.mem_of_getElem? (i := 68) (by decide +kernel)) (by decide +kernel)), (pw_in (List.mem_of_getElem? (i := 157) (by decide +kernel)) (by decide +kernel)), by decide +kernel, by decide⟩
theorem kX5_40 : pw_CIN RX5 40 mX3_init 0 RX5 := ⟨okX3_init, (List.mem_of_getElem? (i := 155) (by decide +kernel)), (pw_in (List.mem_of_getElem? (i := 156) (by decide +kernel)) (by decide +kernel)), rfl, rfl⟩
theorem okX2_init : pw_ok mX2_init 0 := ⟨(pw_in (List.mem_of_getElem? (i := 69) (by decide +kernel)) (by decide +kernel)), (pw_in (List.mem_of_getElem? (i := 172) (by decide +kernel)) (by decide +kernel)), by decide +kernel, by decide⟩
theorem kX5_57 : pw_CIN RX5 57 mX2_init 0 RX5 := ⟨okX2_init, (List.mem_of_getElem? (i := 170) (by decide +kernel)), (pw_in (List.mem_of_getElem? (i := 171) (by decide +kernel)) (by decide +kernel)), rfl, rfl⟩
theorem kX5_71 : pw_CS RX5 71 mX5_within 3 := ⟨okX5_within, (pw_in (List.mem_of_getElem? (i := 329) (by decide +kernel)) (by decide +kernel)), (pw_in (List.mem_of_getElem? (i := 330) (by decide +kernel)) (by decide +kernel))⟩
theorem kX5_143 : pw_CS RX5 143 mX5_has 2 := ⟨okX5_has, (pw_in (List.mem_of_getElem? (i := 454) (by decide +kernel)) (by decide +kernel)), (pw_in (List.mem_of_getElem? (i := 278) (by decide +kernel)) (by decide +kernel))⟩
theorem okJ9_max_7cf53 : pw_ok mJ9_max_7cf53 2 := ⟨(pw_in (List.mem_of_getElem? (i := 72) (by decide +kernel)) (by decide +kernel)), (pw_in (List.mem_of_getElem? (i := 561) (by decide +kernel)) (by decide +kernel)), by decide +kernel, by decide⟩
theorem kX5_201 : pw_CS RX5 201 mJ9_max_7cf53 2 := ⟨okJ9_max_7cf53, (pw_in (List.mem_of_getElem? (i := 559) (by decide +kernel)) (by decide +kernel)), (pw_in (List.mem_of_getElem? (i := 560) (by decide +kernel)) (by decide +kernel))⟩
theorem kX5_222 : pw_CS RX5 222 mJ7_fill_53178 2 := ⟨okJ7_fill_53178, (pw_in (List.mem_of_getElem? (i := 529) (by decide +kernel)) (by decide +kernel)), (pw_in (List.mem_of_getElem? (i := 263) (by decide +kernel)) (by decide +kernel))⟩
theorem okX5_commonDivisor : pw_ok mX5_commonDivisor 2 := ⟨(pw_in (List.mem_of_getElem? (i := 64) (by decide +kernel)) (by decide +kernel)), (pw_in (List.mem_of_getElem? (i := 607) (by decide +kernel)) (by decide +kernel)), by decide +kernel, by decide⟩
theorem kX5_232 : pw_CS RX5 232 mX5_commonDivisor 2 := ⟨okX5_commonDivisor, (pw_in (List.mem_of_getElem? (i := 605) (by decide +kernel)) (by decide +kernel)), (pw_in (List.mem_of_getElem? (i := 606) (by decide +kernel)) (by decide +kernel))⟩
theorem kX5_272 : pw_CS RX5 272 mJ9_min_7cf53 2 := ⟨okJ9_min_7cf53, (pw_in (List.mem_of_getElem? (i := 534) (by decide +kernel)) (by decide +kernel)), (pw_in (List.mem_of_getElem? (i := 358) (by decide +kernel)) (by decide +kernel))⟩
theorem kX5_278 : Cond.methodLink RX5 278 arraycopyName ∈ pw_tbl := (pw_in (List.mem_of_getElem? (i := 604) (by decide +kernel)) (by decide +kernel))
theorem kX5_65 : pw_CV RX5 65 mX2_forgetAll 0 := ⟨okX2_forgetAll, (pw_in (List.mem_of_getElem? (i := 258) (by decide +kernel)) (by decide +kernel)), (pw_in (List.mem_of_getElem? (i := 259) (by decide +kernel)) (by decide +kernel)), (pw_in (List.mem_of_getElem? (i := 260) (by decide +kernel)) (by decide +kernel))⟩
theorem okX2_settleLaws : pw_ok mX2_settleLaws 0 := ⟨(pw_in (List.mem_of_getElem? (i := 69) (by decide +kernel)) (by decide +kernel)), (pw_in (List.mem_of_getElem? (i := 268) (by decide +kernel)) (by decide +kernel)), by decide +kernel, by decide⟩
theorem kX5_68 : pw_CV RX5 68 mX2_settleLaws 0 := ⟨okX2_settleLaws, (pw_in (List.mem_of_getElem? (i := 265) (by decide +kernel)) (by decide +kernel)), (pw_in (List.mem_of_getElem? (i := 266) (by decide +kernel)) (by decide +kernel)), (pw_in (List.mem_of_getElem? (i := 267) (by decide +kernel)) (by decide +kernel))⟩
theorem okX4_readInto : pw_ok mX4_readInto 1 := ⟨(pw_in (List.mem_of_getElem? (i := 65) (by decide +kernel)) (by decide +kernel)), (pw_in (List.mem_of_getElem? (i := 343) (by decide +kernel)) (by decide +kernel)), by decide +kernel, by decide⟩
theorem kX5_82 : pw_CV RX5 82 mX4_readInto 1 := ⟨okX4_readInto, (pw_in (List.mem_of_getElem? (i := 340) (by decide +kernel)) (by decide +kernel)), (pw_in (List.mem_of_getElem? (i := 341) (by decide +kernel)) (by decide +kernel)), (pw_in (List.mem_of_getElem? (i := 342) (by decide +kernel)) (by decide +kernel))⟩
theorem okX0_begin : pw_ok mX0_begin 1 := ⟨(pw_in (List.mem_of_getElem? (i := 66) (by decide +kernel)) (by decide +kernel)), (pw_in (List.mem_of_getElem? (i := 422) (by decide +kernel)) (by decide +kernel)), by decide +kernel, by decide⟩
theorem kX5_86 : pw_CV RX5 86 mX0_begin 1 := ⟨okX0_begin, (pw_in (List.mem_of_getElem? (i := 419) (by decide +kernel)) (by decide +kernel)), (pw_in (List.mem_of_getElem? (i := 420) (by decide +kernel)) (by decide +kernel)), (pw_in (List.mem_of_getElem? (i := 421) (by decide +kernel)) (by decide +kernel))⟩
theorem okX5_isPocket : pw_ok mX5_isPocket 1 := ⟨(pw_in (List.mem_of_getElem? (i := 64) (by decide +kernel)) (by decide +kernel)), (pw_in (List.mem_of_getElem? (i := 433) (by decide +kernel)) (by decide +kernel)), by decide +kernel, by decide⟩
theorem kX5_93 : pw_CV RX5 93 mX5_isPocket 1 := ⟨okX5_isPocket, (pw_in (List.mem_of_getElem? (i := 430) (by decide +kernel)) (by decide +kernel)), (pw_in (List.mem_of_getElem? (i := 432) (by decide +kernel)) (by decide +kernel)), (pw_in (List.mem_of_getElem? (i := 14) (by decide +kernel)) (by decide +kernel))⟩
theorem okX5_filled : pw_ok mX5_filled 1 := ⟨(pw_in (List.mem_of_getElem? (i := 64) (by decide +kernel)) (by decide +kernel)), (pw_in (List.mem_of_getElem? (i := 437) (by decide +kernel)) (by decide +kernel)), by decide +kernel, by decide⟩
theorem kX5_109 : pw_CV RX5 109 mX5_filled 1 := ⟨okX5_filled, (pw_in (List.mem_of_getElem? (i := 434) (by decide +kernel)) (by decide +kernel)), (pw_in (List.mem_of_getElem? (i := 436) (by decide +kernel)) (by decide +kernel)), (pw_in (List.mem_of_getElem? (i := 15) (by decide +kernel)) (by decide +kernel))⟩
theorem okX2_depth : pw_ok mX2_depth 1 := ⟨(pw_in (List.mem_of_getElem? (i := 69) (by decide +kernel)) (by decide +kernel)), (pw_in (List.mem_of_getElem? (i := 441) (by decide +kernel)) (by decide +kernel)), by decide +kernel, by decide⟩
theorem kX5_113 : pw_CV RX5 113 mX2_depth 1 := ⟨okX2_depth, (pw_in (List.mem_of_getElem? (i := 438) (by decide +kernel)) (by decide +kernel)), (pw_in (List.mem_of_getElem? (i := 439) (by decide +kernel)) (by decide +kernel)), (pw_in (List.mem_of_getElem? (i := 440) (by decide +kernel)) (by decide +kernel))⟩
theorem okX5_isThing : pw_ok mX5_isThing 1 := ⟨(pw_in (List.mem_of_getElem? (i := 64) (by decide +kernel)) (by decide +kernel)), (pw_in (List.mem_of_getElem? (i := 449) (by decide +kernel)) (by decide +kernel)), by decide +kernel, by decide⟩
theorem kX5_122 : pw_CV RX5 122 mX5_isThing 1 := ⟨okX5_isThing, (pw_in (List.mem_of_getElem? (i := 446) (by decide +kernel)) (by decide +kernel)), (pw_in (List.mem_of_getElem? (i := 448) (by decide +kernel)) (by decide +kernel)), (pw_in (List.mem_of_getElem? (i := 16) (by decide +kernel)) (by decide +kernel))⟩
theorem okX5_isOutlawed : pw_ok mX5_isOutlawed 1 := ⟨(pw_in (List.mem_of_getElem? (i := 64) (by decide +kernel)) (by decide +kernel)), (pw_in (List.mem_of_getElem? (i := 453) (by decide +kernel)) (by decide +kernel)), by decide +kernel, by decide⟩
theorem kX5_137 : pw_CV RX5 137 mX5_isOutlawed 1 := ⟨okX5_isOutlawed, (pw_in (List.mem_of_getElem? (i := 450) (by decide +kernel)) (by decide +kernel)), (pw_in (List.mem_of_getElem? (i := 452) (by decide +kernel)) (by decide +kernel)), (pw_in (List.mem_of_getElem? (i := 17) (by decide +kernel)) (by decide +kernel))⟩
theorem okX5_outlawed : pw_ok mX5_outlawed 0 := ⟨(pw_in (List.mem_of_getElem? (i := 64) (by decide +kernel)) (by decide +kernel)), (pw_in (List.mem_of_getElem? (i := 470) (by decide +kernel)) (by decide +kernel)), by decide +kernel, by decide⟩
theorem kX5_156 : pw_CV RX5 156 mX5_outlawed 0 := ⟨okX5_outlawed, (pw_in (List.mem_of_getElem? (i := 467) (by decide +kernel)) (by decide +kernel)), (pw_in (List.mem_of_getElem? (i := 469) (by decide +kernel)) (by decide +kernel)), (pw_in (List.mem_of_getElem? (i := 18) (by decide +kernel)) (by decide +kernel))⟩
theorem okX2_parts : pw_ok mX2_parts 0 := ⟨(pw_in (List.mem_of_getElem? (i := 69) (by decide +kernel)) (by decide +kernel)), (pw_in (List.mem_of_getElem? (i := 474) (by decide +kernel)) (by decide +kernel)), by decide +kernel, by decide⟩
theorem kX5_160 : pw_CV RX5 160 mX2_parts 0 := ⟨okX2_parts, (pw_in (List.mem_of_getElem? (i := 471) (by decide +kernel)) (by decide +kernel)), (pw_in (List.mem_of_getElem? (i := 472) (by decide +kernel)) (by decide +kernel)), (pw_in (List.mem_of_getElem? (i := 473) (by decide +kernel)) (by decide +kernel))⟩
theorem okX2_opens : pw_ok mX2_opens 3 := ⟨(pw_in (List.mem_of_getElem? (i := 69) (by decide +kernel)) (by decide +kernel)), (pw_in (List.mem_of_getElem? (i := 486) (by decide +kernel)) (by decide +kernel)), by decide +kernel, by decide⟩
theorem kX5_163 : pw_CV RX5 163 mX2_opens 3 := ⟨okX2_opens, (pw_in (List.mem_of_getElem? (i := 483) (by decide +kernel)) (by decide +kernel)), (pw_in (List.mem_of_getElem? (i := 484) (by decide +kernel)) (by decide +kernel)), (pw_in (List.mem_of_getElem? (i := 485) (by decide +kernel)) (by decide +kernel))⟩
theorem okX5_hasRoom : pw_ok mX5_hasRoom 2 := ⟨(pw_in (List.mem_of_getElem? (i := 64) (by decide +kernel)) (by decide +kernel)), (pw_in (List.mem_of_getElem? (i := 490) (by decide +kernel)) (by decide +kernel)), by decide +kernel, by decide⟩
theorem kX5_166 : pw_CV RX5 166 mX5_hasRoom 2 := ⟨okX5_hasRoom, (pw_in (List.mem_of_getElem? (i := 487) (by decide +kernel)) (by decide +kernel)), (pw_in (List.mem_of_getElem? (i := 489) (by decide +kernel)) (by decide +kernel)), (pw_in (List.mem_of_getElem? (i := 20) (by decide +kernel)) (by decide +kernel))⟩
theorem okX1_push : pw_ok mX1_push 1 := ⟨(pw_in (List.mem_of_getElem? (i := 67) (by decide +kernel)) (by decide +kernel)), (pw_in (List.mem_of_getElem? (i := 494) (by decide +kernel)) (by decide +kernel)), by decide +kernel, by decide⟩
theorem kX5_169 : pw_CV RX5 169 mX1_push 1 := ⟨okX1_push, (pw_in (List.mem_of_getElem? (i := 491) (by decide +kernel)) (by decide +kernel)), (pw_in (List.mem_of_getElem? (i := 492) (by decide +kernel)) (by decide +kernel)), (pw_in (List.mem_of_getElem? (i := 493) (by decide +kernel)) (by decide +kernel))⟩
theorem okX2_price : pw_ok mX2_price 3 := ⟨(pw_in (List.mem_of_getElem? (i := 69) (by decide +kernel)) (by decide +kernel)), (pw_in (List.mem_of_getElem? (i := 503) (by decide +kernel)) (by decide +kernel)), by decide +kernel, by decide⟩
theorem kX5_173 : pw_CV RX5 173 mX2_price 3 := ⟨okX2_price, (pw_in (List.mem_of_getElem? (i := 500) (by decide +kernel)) (by decide +kernel)), (pw_in (List.mem_of_getElem? (i := 501) (by decide +kernel)) (by decide +kernel)), (pw_in (List.mem_of_getElem? (i := 502) (by decide +kernel)) (by decide +kernel))⟩
theorem okX5_fallsThrough : pw_ok mX5_fallsThrough 1 := ⟨(pw_in (List.mem_of_getElem? (i := 64) (by decide +kernel)) (by decide +kernel)), (pw_in (List.mem_of_getElem? (i := 511) (by decide +kernel)) (by decide +kernel)), by decide +kernel, by decide⟩
theorem kX5_180 : pw_CV RX5 180 mX5_fallsThrough 1 := ⟨okX5_fallsThrough, (pw_in (List.mem_of_getElem? (i := 508) (by decide +kernel)) (by decide +kernel)), (pw_in (List.mem_of_getElem? (i := 510) (by decide +kernel)) (by decide +kernel)), (pw_in (List.mem_of_getElem? (i := 21) (by decide +kernel)) (by decide +kernel))⟩
theorem okX1_popInto : pw_ok mX1_popInto 1 := ⟨(pw_in (List.mem_of_getElem? (i := 67) (by decide +kernel)) (by decide +kernel)), (pw_in (List.mem_of_getElem? (i := 519) (by decide +kernel)) (by decide +kernel)), by decide +kernel, by decide⟩
theorem kX5_183 : pw_CV RX5 183 mX1_popInto 1 := ⟨okX1_popInto, (pw_in (List.mem_of_getElem? (i := 516) (by decide +kernel)) (by decide +kernel)), (pw_in (List.mem_of_getElem? (i := 517) (by decide +kernel)) (by decide +kernel)), (pw_in (List.mem_of_getElem? (i := 518) (by decide +kernel)) (by decide +kernel))⟩
theorem okX5_least : pw_ok mX5_least 5 := ⟨(pw_in (List.mem_of_getElem? (i := 64) (by decide +kernel)) (by decide +kernel)), (pw_in (List.mem_of_getElem? (i := 527) (by decide +kernel)) (by decide +kernel)), by decide +kernel, by decide⟩
theorem kX5_186 : pw_CV RX5 186 mX5_least 5 := ⟨okX5_least, (pw_in (List.mem_of_getElem? (i := 524) (by decide +kernel)) (by decide +kernel)), (pw_in (List.mem_of_getElem? (i := 526) (by decide +kernel)) (by decide +kernel)), (pw_in (List.mem_of_getElem? (i := 22) (by decide +kernel)) (by decide +kernel))⟩
theorem okX3_fewestMoved : pw_ok mX3_fewestMoved 2 := ⟨(pw_in (List.mem_of_getElem? (i := 68) (by decide +kernel)) (by decide +kernel)), (pw_in (List.mem_of_getElem? (i := 542) (by decide +kernel)) (by decide +kernel)), by decide +kernel, by decide⟩
theorem kX5_190 : pw_CV RX5 190 mX3_fewestMoved 2 := ⟨okX3_fewestMoved, (pw_in (List.mem_of_getElem? (i := 539) (by decide +kernel)) (by decide +kernel)), (pw_in (List.mem_of_getElem? (i := 540) (by decide +kernel)) (by decide +kernel)), (pw_in (List.mem_of_getElem? (i := 541) (by decide +kernel)) (by decide +kernel))⟩
theorem okX2_worthOf : pw_ok mX2_worthOf 2 := ⟨(pw_in (List.mem_of_getElem? (i := 69) (by decide +kernel)) (by decide +kernel)), (pw_in (List.mem_of_getElem? (i := 558) (by decide +kernel)) (by decide +kernel)), by decide +kernel, by decide⟩
theorem kX5_197 : pw_CV RX5 197 mX2_worthOf 2 := ⟨okX2_worthOf, (pw_in (List.mem_of_getElem? (i := 555) (by decide +kernel)) (by decide +kernel)), (pw_in (List.mem_of_getElem? (i := 556) (by decide +kernel)) (by decide +kernel)), (pw_in (List.mem_of_getElem? (i := 557) (by decide +kernel)) (by decide +kernel))⟩
theorem okX2_behindNights : pw_ok mX2_behindNights 3 := ⟨(pw_in (List.mem_of_getElem? (i := 69) (by decide +kernel)) (by decide +kernel)), (pw_in (List.mem_of_getElem? (i := 573) (by decide +kernel)) (by decide +kernel)), by decide +kernel, by decide⟩
theorem kX5_213 : pw_CV RX5 213 mX2_behindNights 3 := ⟨okX2_behindNights, (pw_in (List.mem_of_getElem? (i := 570) (by decide +kernel)) (by decide +kernel)), (pw_in (List.mem_of_getElem? (i := 571) (by decide +kernel)) (by decide +kernel)), (pw_in (List.mem_of_getElem? (i := 572) (by decide +kernel)) (by decide +kernel))⟩
theorem kX5_216 : pw_CV RX5 216 mX2_dropsAsFarAs 3 := ⟨okX2_dropsAsFarAs, (pw_in (List.mem_of_getElem? (i := 586) (by decide +kernel)) (by decide +kernel)), (pw_in (List.mem_of_getElem? (i := 587) (by decide +kernel)) (by decide +kernel)), (pw_in (List.mem_of_getElem? (i := 588) (by decide +kernel)) (by decide +kernel))⟩
theorem okX2_firstStitch : pw_ok mX2_firstStitch 2 := ⟨(pw_in (List.mem_of_getElem? (i := 69) (by decide +kernel)) (by decide +kernel)), (pw_in (List.mem_of_getElem? (i := 593) (by decide +kernel)) (by decide +kernel)), by decide +kernel, by decide⟩
theorem kX5_219 : pw_CV RX5 219 mX2_firstStitch 2 := ⟨okX2_firstStitch, (pw_in (List.mem_of_getElem? (i := 590) (by decide +kernel)) (by decide +kernel)), (pw_in (List.mem_of_getElem? (i := 591) (by decide +kernel)) (by decide +kernel)), (pw_in (List.mem_of_getElem? (i := 592) (by decide +kernel)) (by decide +kernel))⟩
theorem okX5_spreadChance : pw_ok mX5_spreadChance 2 := ⟨(pw_in (List.mem_of_getElem? (i := 64) (by decide +kernel)) (by decide +kernel)), (pw_in (List.mem_of_getElem? (i := 602) (by decide +kernel)) (by decide +kernel)), by decide +kernel, by decide⟩
theorem kX5_228 : pw_CV RX5 228 mX5_spreadChance 2 := ⟨okX5_spreadChance, (pw_in (List.mem_of_getElem? (i := 599) (by decide +kernel)) (by decide +kernel)), (pw_in (List.mem_of_getElem? (i := 601) (by decide +kernel)) (by decide +kernel)), (pw_in (List.mem_of_getElem? (i := 24) (by decide +kernel)) (by decide +kernel))⟩
theorem okX5_asPocket : pw_ok mX5_asPocket 1 := ⟨(pw_in (List.mem_of_getElem? (i := 64) (by decide +kernel)) (by decide +kernel)), (pw_in (List.mem_of_getElem? (i := 616) (by decide +kernel)) (by decide +kernel)), by decide +kernel, by decide⟩
theorem kX5_236 : pw_CV RX5 236 mX5_asPocket 1 := ⟨okX5_asPocket, (pw_in (List.mem_of_getElem? (i := 613) (by decide +kernel)) (by decide +kernel)), (pw_in (List.mem_of_getElem? (i := 615) (by decide +kernel)) (by decide +kernel)), (pw_in (List.mem_of_getElem? (i := 25) (by decide +kernel)) (by decide +kernel))⟩
theorem okX5_asCoat : pw_ok mX5_asCoat 1 := ⟨(pw_in (List.mem_of_getElem? (i := 64) (by decide +kernel)) (by decide +kernel)), (pw_in (List.mem_of_getElem? (i := 620) (by decide +kernel)) (by decide +kernel)), by decide +kernel, by decide⟩
theorem kX5_239 : pw_CV RX5 239 mX5_asCoat 1 := ⟨okX5_asCoat, (pw_in (List.mem_of_getElem? (i := 617) (by decide +kernel)) (by decide +kernel)), (pw_in (List.mem_of_getElem? (i := 619) (by decide +kernel)) (by decide +kernel)), (pw_in (List.mem_of_getElem? (i := 26) (by decide +kernel)) (by decide +kernel))⟩
theorem okX5_asPurse : pw_ok mX5_asPurse 1 := ⟨(pw_in (List.mem_of_getElem? (i := 64) (by decide +kernel)) (by decide +kernel)), (pw_in (List.mem_of_getElem? (i := 625) (by decide +kernel)) (by decide +kernel)), by decide +kernel, by decide⟩
theorem kX5_242 : pw_CV RX5 242 mX5_asPurse 1 := ⟨okX5_asPurse, (pw_in (List.mem_of_getElem? (i := 622) (by decide +kernel)) (by decide +kernel)), (pw_in (List.mem_of_getElem? (i := 624) (by decide +kernel)) (by decide +kernel)), (pw_in (List.mem_of_getElem? (i := 27) (by decide +kernel)) (by decide +kernel))⟩
theorem okX5_asLeague : pw_ok mX5_asLeague 1 := ⟨(pw_in (List.mem_of_getElem? (i := 64) (by decide +kernel)) (by decide +kernel)), (pw_in (List.mem_of_getElem? (i := 630) (by decide +kernel)) (by decide +kernel)), by decide +kernel, by decide⟩
theorem kX5_245 : pw_CV RX5 245 mX5_asLeague 1 := ⟨okX5_asLeague, (pw_in (List.mem_of_getElem? (i := 627) (by decide +kernel)) (by decide +kernel)), (pw_in (List.mem_of_getElem? (i := 629) (by decide +kernel)) (by decide +kernel)), (pw_in (List.mem_of_getElem? (i := 28) (by decide +kernel)) (by decide +kernel))⟩
theorem okX5_asBeggar : pw_ok mX5_asBeggar 1 := ⟨(pw_in (List.mem_of_getElem? (i := 64) (by decide +kernel)) (by decide +kernel)), (pw_in (List.mem_of_getElem? (i := 635) (by decide +kernel)) (by decide +kernel)), by decide +kernel, by decide⟩
theorem kX5_248 : pw_CV RX5 248 mX5_asBeggar 1 := ⟨okX5_asBeggar, (pw_in (List.mem_of_getElem? (i := 632) (by decide +kernel)) (by decide +kernel)), (pw_in (List.mem_of_getElem? (i := 634) (by decide +kernel)) (by decide +kernel)), (pw_in (List.mem_of_getElem? (i := 29) (by decide +kernel)) (by decide +kernel))⟩
theorem okX5_asLining : pw_ok mX5_asLining 1 := ⟨(pw_in (List.mem_of_getElem? (i := 64) (by decide +kernel)) (by decide +kernel)), (pw_in (List.mem_of_getElem? (i := 640) (by decide +kernel)) (by decide +kernel)), by decide +kernel, by decide⟩
theorem kX5_251 : pw_CV RX5 251 mX5_asLining 1 := ⟨okX5_asLining, (pw_in (List.mem_of_getElem? (i := 637) (by decide +kernel)) (by decide +kernel)), (pw_in (List.mem_of_getElem? (i := 639) (by decide +kernel)) (by decide +kernel)), (pw_in (List.mem_of_getElem? (i := 30) (by decide +kernel)) (by decide +kernel))⟩
theorem kX5_254 : pw_CV RX5 254 mX0_become 1 := ⟨okX0_become, (pw_in (List.mem_of_getElem? (i := 646) (by decide +kernel)) (by decide +kernel)), (pw_in (List.mem_of_getElem? (i := 496) (by decide +kernel)) (by decide +kernel)), (pw_in (List.mem_of_getElem? (i := 497) (by decide +kernel)) (by decide +kernel))⟩
theorem okX5_lowerCosts : pw_ok mX5_lowerCosts 5 := ⟨(pw_in (List.mem_of_getElem? (i := 64) (by decide +kernel)) (by decide +kernel)), (pw_in (List.mem_of_getElem? (i := 533) (by decide +kernel)) (by decide +kernel)), by decide +kernel, by decide⟩
theorem kX5_268 : pw_CV RX5 268 mX5_lowerCosts 5 := ⟨okX5_lowerCosts, (pw_in (List.mem_of_getElem? (i := 530) (by decide +kernel)) (by decide +kernel)), (pw_in (List.mem_of_getElem? (i := 532) (by decide +kernel)) (by decide +kernel)), (pw_in (List.mem_of_getElem? (i := 23) (by decide +kernel)) (by decide +kernel))⟩
theorem kX5_275 : pw_CV RX5 275 mX2_behindNight 2 := ⟨okX2_behindNight, (pw_in (List.mem_of_getElem? (i := 603) (by decide +kernel)) (by decide +kernel)), (pw_in (List.mem_of_getElem? (i := 575) (by decide +kernel)) (by decide +kernel)), (pw_in (List.mem_of_getElem? (i := 576) (by decide +kernel)) (by decide +kernel))⟩
theorem cX5_235 : Cond.constant RX5 235 (-1000000) ∈ pw_tbl := (pw_in (List.mem_of_getElem? (i := 612) (by decide +kernel)) (by decide +kernel))
theorem cX5_284 : Cond.constantLong RX5 284 (10) ∈ pw_tbl := (pw_in (List.mem_of_getElem? (i := 621) (by decide +kernel)) (by decide +kernel))
theorem cX5_286 : Cond.constantLong RX5 286 (100) ∈ pw_tbl := (pw_in (List.mem_of_getElem? (i := 626) (by decide +kernel)) (by decide +kernel))
theorem cX5_288 : Cond.constantLong RX5 288 (1000) ∈ pw_tbl := (pw_in (List.mem_of_getElem? (i := 631) (by decide +kernel)) (by decide +kernel))
theorem cX5_290 : Cond.constantLong RX5 290 (10000) ∈ pw_tbl := (pw_in (List.mem_of_getElem? (i := 636) (by decide +kernel)) (by decide +kernel))
theorem cX5_292 : Cond.constantLong RX5 292 (100000) ∈ pw_tbl := (pw_in (List.mem_of_getElem? (i := 641) (by decide +kernel)) (by decide +kernel))
theorem cX5_267 : Cond.constant RX5 267 (1000000) ∈ pw_tbl := (pw_in (List.mem_of_getElem? (i := 528) (by decide +kernel)) (by decide +kernel))
set_option maxRecDepth 20000 in
theorem nX5_7 : pw_NW RX5 7 4 7 [.null, .null, .int 0, .int 0, .int 0, .int 0, .int 0] := ⟨RX4, TX4, tyX4, rfl, inX4, tyX4_ok, (pw_in (List.mem_of_getElem? (i := 82) (by decide +kernel)) (by decide +kernel)), (pw_in (List.mem_of_getElem? (i := 83) (by decide +kernel)) (by decide +kernel)), (pw_in (List.mem_of_getElem? (i := 65) (by decide +kernel)) (by decide +kernel)), by decide +kernel, fun _ => rfl⟩
set_option maxRecDepth 20000 in
theorem nX5_16 : pw_NW RX5 16 0 3 [.null, .int 0, .int 0] := ⟨RX0, TX0, tyX0, rfl, inX0, tyX0_ok, (pw_in (List.mem_of_getElem? (i := 113) (by decide +kernel)) (by decide +kernel)), (pw_in (List.mem_of_getElem? (i := 114) (by decide +kernel)) (by decide +kernel)), (pw_in (List.mem_of_getElem? (i := 66) (by decide +kernel)) (by decide +kernel)), by decide +kernel, fun _ => rfl⟩
set_option maxRecDepth 20000 in
theorem nX5_23 : pw_NW RX5 23 1 3 [.null, .int 0, .int 0] := ⟨RX1, TX1, tyX1, rfl, inX1, tyX1_ok, (pw_in (List.mem_of_getElem? (i := 133) (by decide +kernel)) (by decide +kernel)), (pw_in (List.mem_of_getElem? (i := 134) (by decide +kernel)) (by decide +kernel)), (pw_in (List.mem_of_getElem? (i := 67) (by decide +kernel)) (by decide +kernel)), by decide +kernel, fun _ => rfl⟩
set_option maxRecDepth 20000 in
theorem nX5_38 : pw_NW RX5 38 3 2 [.null, .null] := ⟨RX3, TX3, tyX3, rfl, inX3, tyX3_ok, (pw_in (List.mem_of_getElem? (i := 153) (by decide +kernel)) (by decide +kernel)), (pw_in (List.mem_of_getElem? (i := 154) (by decide +kernel)) (by decide +kernel)), (pw_in (List.mem_of_getElem? (i := 68) (by decide +kernel)) (by decide +kernel)), by decide +kernel, fun _ => rfl⟩
set_option maxRecDepth 20000 in
theorem nX5_55 : pw_NW RX5 55 2 19 [.int 0, .int 0, .int 0, .null, .null, .null, .null, .null, .null, .null, .null, .null, .null, .null, .null, .null, .null, .null, .null] := ⟨RX2, TX2, tyX2, rfl, inX2, tyX2_ok, (pw_in (List.mem_of_getElem? (i := 168) (by decide +kernel)) (by decide +kernel)), (pw_in (List.mem_of_getElem? (i := 169) (by decide +kernel)) (by decide +kernel)), (pw_in (List.mem_of_getElem? (i := 69) (by decide +kernel)) (by decide +kernel)), by decide +kernel, fun _ => rfl⟩
theorem pX5_10 : pw_FP RX5 10 5 0 (.object "PocketLaws$Text") true := ⟨RX5, TX5, 12, tyX5, rfl, by decide, inX5, (pw_in (List.mem_of_getElem? (i := 288) (by decide +kernel)) (by decide +kernel)), tyX5_ok, nmX5, rfl, by decide +kernel, rfl⟩
theorem pX5_19 : pw_FP RX5 19 5 1 (.object "PocketLaws$Now") true := ⟨RX5, TX5, 12, tyX5, rfl, by decide, inX5, (pw_in (List.mem_of_getElem? (i := 289) (by decide +kernel)) (by decide +kernel)), tyX5_ok, nmX5, rfl, by decide +kernel, rfl⟩
theorem pX5_26 : pw_FP RX5 26 5 2 (.object "PocketLaws$Past") true := ⟨RX5, TX5, 12, tyX5, rfl, by decide, inX5, (pw_in (List.mem_of_getElem? (i := 290) (by decide +kernel)) (by decide +kernel)), tyX5_ok, nmX5, rfl, by decide +kernel, rfl⟩
theorem pX5_30 : pw_FP RX5 30 5 3 (.array (.object "PocketLaws$Now")) true := ⟨RX5, TX5, 12, tyX5, rfl, by decide, inX5, (pw_in (List.mem_of_getElem? (i := 291) (by decide +kernel)) (by decide +kernel)), tyX5_ok, nmX5, rfl, by decide +kernel, rfl⟩
theorem pX5_34 : pw_FP RX5 34 5 4 (.array .boolean) true := ⟨RX5, TX5, 12, tyX5, rfl, by decide, inX5, (pw_in (List.mem_of_getElem? (i := 292) (by decide +kernel)) (by decide +kernel)), tyX5_ok, nmX5, rfl, by decide +kernel, rfl⟩
theorem pX5_41 : pw_FP RX5 41 5 5 (.object "PocketLaws$Stowing") true := ⟨RX5, TX5, 12, tyX5, rfl, by decide, inX5, (pw_in (List.mem_of_getElem? (i := 293) (by decide +kernel)) (by decide +kernel)), tyX5_ok, nmX5, rfl, by decide +kernel, rfl⟩
theorem pX5_45 : pw_FP RX5 45 5 6 (.array .int) true := ⟨RX5, TX5, 12, tyX5, rfl, by decide, inX5, (pw_in (List.mem_of_getElem? (i := 294) (by decide +kernel)) (by decide +kernel)), tyX5_ok, nmX5, rfl, by decide +kernel, rfl⟩
theorem pX5_49 : pw_FP RX5 49 5 7 (.array .int) true := ⟨RX5, TX5, 12, tyX5, rfl, by decide, inX5, (pw_in (List.mem_of_getElem? (i := 295) (by decide +kernel)) (by decide +kernel)), tyX5_ok, nmX5, rfl, by decide +kernel, rfl⟩
theorem pX5_52 : pw_FP RX5 52 5 8 (.array .int) true := ⟨RX5, TX5, 12, tyX5, rfl, by decide, inX5, (pw_in (List.mem_of_getElem? (i := 296) (by decide +kernel)) (by decide +kernel)), tyX5_ok, nmX5, rfl, by decide +kernel, rfl⟩
theorem pX5_58 : pw_FP RX5 58 5 9 (.object "PocketLaws$Realm") false := ⟨RX5, TX5, 12, tyX5, rfl, by decide, inX5, (pw_in (List.mem_of_getElem? (i := 297) (by decide +kernel)) (by decide +kernel)), tyX5_ok, nmX5, rfl, by decide +kernel, rfl⟩
theorem pX5_62 : pw_FP RX5 62 5 10 (.object "PocketLaws$Realm") false := ⟨RX5, TX5, 12, tyX5, rfl, by decide, inX5, (pw_in (List.mem_of_getElem? (i := 298) (by decide +kernel)) (by decide +kernel)), tyX5_ok, nmX5, rfl, by decide +kernel, rfl⟩
theorem pX5_75 : pw_FP RX5 75 4 2 (.int) false := ⟨RX4, TX4, 7, tyX4, rfl, by decide, inX4, (pw_in (List.mem_of_getElem? (i := 91) (by decide +kernel)) (by decide +kernel)), tyX4_ok, nmX4, rfl, by decide +kernel, rfl⟩
theorem pX5_90 : pw_FP RX5 90 1 1 (.int) false := ⟨RX1, TX1, 3, tyX1, rfl, by decide, inX1, (pw_in (List.mem_of_getElem? (i := 144) (by decide +kernel)) (by decide +kernel)), tyX1_ok, nmX1, rfl, by decide +kernel, rfl⟩
theorem pX5_150 : pw_FP RX5 150 0 2 (.int) false := ⟨RX0, TX0, 3, tyX0, rfl, by decide, inX0, (pw_in (List.mem_of_getElem? (i := 125) (by decide +kernel)) (by decide +kernel)), tyX0_ok, nmX0, rfl, by decide +kernel, rfl⟩
theorem pX5_153 : pw_FP RX5 153 0 1 (.int) false := ⟨RX0, TX0, 3, tyX0, rfl, by decide, inX0, (pw_in (List.mem_of_getElem? (i := 123) (by decide +kernel)) (by decide +kernel)), tyX0_ok, nmX0, rfl, by decide +kernel, rfl⟩
theorem pX5_260 : pw_FP RX5 260 5 11 (.long) false := ⟨RX5, TX5, 12, tyX5, rfl, by decide, inX5, (pw_in (List.mem_of_getElem? (i := 299) (by decide +kernel)) (by decide +kernel)), tyX5_ok, nmX5, rfl, by decide +kernel, rfl⟩
theorem fX6_7 : pw_F RX6 7 6 0 := ⟨RX6, TX6, 36, rfl, by decide, inX6, (pw_in (List.mem_of_getElem? (i := 665) (by decide +kernel)) (by decide +kernel))⟩
theorem fX6_13 : pw_F RX6 13 6 2 := ⟨RX6, TX6, 36, rfl, by decide, inX6, (pw_in (List.mem_of_getElem? (i := 667) (by decide +kernel)) (by decide +kernel))⟩
theorem fX6_16 : pw_F RX6 16 6 4 := ⟨RX6, TX6, 36, rfl, by decide, inX6, (pw_in (List.mem_of_getElem? (i := 669) (by decide +kernel)) (by decide +kernel))⟩
theorem fX6_20 : pw_F RX6 20 6 5 := ⟨RX6, TX6, 36, rfl, by decide, inX6, (pw_in (List.mem_of_getElem? (i := 670) (by decide +kernel)) (by decide +kernel))⟩
theorem fX6_23 : pw_F RX6 23 6 7 := ⟨RX6, TX6, 36, rfl, by decide, inX6, (pw_in (List.mem_of_getElem? (i := 672) (by decide +kernel)) (by decide +kernel))⟩
theorem fX6_26 : pw_F RX6 26 6 8 := ⟨RX6, TX6, 36, rfl, by decide, inX6, (pw_in (List.mem_of_getElem? (i := 673) (by decide +kernel)) (by decide +kernel))⟩
theorem fX6_29 : pw_F RX6 29 6 9 := ⟨RX6, TX6, 36, rfl, by decide, inX6, (pw_in (List.mem_of_getElem? (i := 674) (by decide +kernel)) (by decide +kernel))⟩
theorem fX6_32 : pw_F RX6 32 6 11 := ⟨RX6, TX6, 36, rfl, by decide, inX6, (pw_in (List.mem_of_getElem? (i := 676) (by decide +kernel)) (by decide +kernel))⟩
theorem fX6_35 : pw_F RX6 35 6 12 := ⟨RX6, TX6, 36, rfl, by decide, inX6, (pw_in (List.mem_of_getElem? (i := 677) (by decide +kernel)) (by decide +kernel))⟩
theorem fX6_38 : pw_F RX6 38 6 19 := ⟨RX6, TX6, 36, rfl, by decide, inX6, (pw_in (List.mem_of_getElem? (i := 684) (by decide +kernel)) (by decide +kernel))⟩
theorem fX6_41 : pw_F RX6 41 6 21 := ⟨RX6, TX6, 36, rfl, by decide, inX6, (pw_in (List.mem_of_getElem? (i := 686) (by decide +kernel)) (by decide +kernel))⟩
theorem fX6_44 : pw_F RX6 44 6 22 := ⟨RX6, TX6, 36, rfl, by decide, inX6, (pw_in (List.mem_of_getElem? (i := 687) (by decide +kernel)) (by decide +kernel))⟩
theorem fX6_47 : pw_F RX6 47 6 24 := ⟨RX6, TX6, 36, rfl, by decide, inX6, (pw_in (List.mem_of_getElem? (i := 689) (by decide +kernel)) (by decide +kernel))⟩
theorem fX6_50 : pw_F RX6 50 6 26 := ⟨RX6, TX6, 36, rfl, by decide, inX6, (pw_in (List.mem_of_getElem? (i := 691) (by decide +kernel)) (by decide +kernel))⟩
theorem fX6_53 : pw_F RX6 53 6 28 := ⟨RX6, TX6, 36, rfl, by decide, inX6, (pw_in (List.mem_of_getElem? (i := 693) (by decide +kernel)) (by decide +kernel))⟩
theorem fX6_56 : pw_F RX6 56 6 29 := ⟨RX6, TX6, 36, rfl, by decide, inX6, (pw_in (List.mem_of_getElem? (i := 694) (by decide +kernel)) (by decide +kernel))⟩
theorem fX6_59 : pw_F RX6 59 6 30 := ⟨RX6, TX6, 36, rfl, by decide, inX6, (pw_in (List.mem_of_getElem? (i := 695) (by decide +kernel)) (by decide +kernel))⟩
theorem fX6_62 : pw_F RX6 62 6 31 := ⟨RX6, TX6, 36, rfl, by decide, inX6, (pw_in (List.mem_of_getElem? (i := 696) (by decide +kernel)) (by decide +kernel))⟩
theorem fX6_65 : pw_F RX6 65 6 32 := ⟨RX6, TX6, 36, rfl, by decide, inX6, (pw_in (List.mem_of_getElem? (i := 697) (by decide +kernel)) (by decide +kernel))⟩
theorem fX6_69 : pw_F RX6 69 6 33 := ⟨RX6, TX6, 36, rfl, by decide, inX6, (pw_in (List.mem_of_getElem? (i := 698) (by decide +kernel)) (by decide +kernel))⟩
theorem fX6_72 : pw_F RX6 72 6 34 := ⟨RX6, TX6, 36, rfl, by decide, inX6, (pw_in (List.mem_of_getElem? (i := 699) (by decide +kernel)) (by decide +kernel))⟩
theorem fX6_75 : pw_F RX6 75 6 35 := ⟨RX6, TX6, 36, rfl, by decide, inX6, (pw_in (List.mem_of_getElem? (i := 700) (by decide +kernel)) (by decide +kernel))⟩
theorem fX6_78 : pw_F RX6 78 6 3 := ⟨RX6, TX6, 36, rfl, by decide, inX6, (pw_in (List.mem_of_getElem? (i := 668) (by decide +kernel)) (by decide +kernel))⟩
theorem fX6_86 : pw_F RX6 86 6 10 := ⟨RX6, TX6, 36, rfl, by decide, inX6, (pw_in (List.mem_of_getElem? (i := 675) (by decide +kernel)) (by decide +kernel))⟩
theorem fX6_91 : pw_F RX6 91 6 1 := ⟨RX6, TX6, 36, rfl, by decide, inX6, (pw_in (List.mem_of_getElem? (i := 666) (by decide +kernel)) (by decide +kernel))⟩
theorem fX6_94 : pw_F RX6 94 6 15 := ⟨RX6, TX6, 36, rfl, by decide, inX6, (pw_in (List.mem_of_getElem? (i := 680) (by decide +kernel)) (by decide +kernel))⟩
theorem fX6_101 : pw_F RX6 101 6 18 := ⟨RX6, TX6, 36, rfl, by decide, inX6, (pw_in (List.mem_of_getElem? (i := 683) (by decide +kernel)) (by decide +kernel))⟩
theorem fX6_104 : pw_F RX6 104 6 17 := ⟨RX6, TX6, 36, rfl, by decide, inX6, (pw_in (List.mem_of_getElem? (i := 682) (by decide +kernel)) (by decide +kernel))⟩
theorem fX6_107 : pw_F RX6 107 6 16 := ⟨RX6, TX6, 36, rfl, by decide, inX6, (pw_in (List.mem_of_getElem? (i := 681) (by decide +kernel)) (by decide +kernel))⟩
theorem fX6_117 : pw_F RX6 117 6 20 := ⟨RX6, TX6, 36, rfl, by decide, inX6, (pw_in (List.mem_of_getElem? (i := 685) (by decide +kernel)) (by decide +kernel))⟩
theorem fX6_124 : pw_F RX6 124 6 25 := ⟨RX6, TX6, 36, rfl, by decide, inX6, (pw_in (List.mem_of_getElem? (i := 690) (by decide +kernel)) (by decide +kernel))⟩
theorem fX6_131 : pw_F RX6 131 6 23 := ⟨RX6, TX6, 36, rfl, by decide, inX6, (pw_in (List.mem_of_getElem? (i := 688) (by decide +kernel)) (by decide +kernel))⟩
theorem fX6_134 : pw_F RX6 134 6 27 := ⟨RX6, TX6, 36, rfl, by decide, inX6, (pw_in (List.mem_of_getElem? (i := 692) (by decide +kernel)) (by decide +kernel))⟩
theorem fX6_159 : pw_F RX6 159 6 6 := ⟨RX6, TX6, 36, rfl, by decide, inX6, (pw_in (List.mem_of_getElem? (i := 671) (by decide +kernel)) (by decide +kernel))⟩
theorem fX6_162 : pw_F RX6 162 6 13 := ⟨RX6, TX6, 36, rfl, by decide, inX6, (pw_in (List.mem_of_getElem? (i := 678) (by decide +kernel)) (by decide +kernel))⟩
theorem fX6_245 : pw_F RX6 245 6 14 := ⟨RX6, TX6, 36, rfl, by decide, inX6, (pw_in (List.mem_of_getElem? (i := 679) (by decide +kernel)) (by decide +kernel))⟩
theorem kX6_1 : Cond.methodLink RX6 1 Lib.objectInit ∈ pw_tbl := (pw_in (List.mem_of_getElem? (i := 664) (by decide +kernel)) (by decide +kernel))
theorem okX6_in : pw_ok mX6_in 3 := ⟨(pw_in (List.mem_of_getElem? (i := 71) (by decide +kernel)) (by decide +kernel)), (pw_in (List.mem_of_getElem? (i := 782) (by decide +kernel)) (by decide +kernel)), by decide +kernel, by decide⟩
theorem kX6_82 : pw_CS RX6 82 mX6_in 3 := ⟨okX6_in, (pw_in (List.mem_of_getElem? (i := 780) (by decide +kernel)) (by decide +kernel)), (pw_in (List.mem_of_getElem? (i := 781) (by decide +kernel)) (by decide +kernel))⟩
theorem okX6_has : pw_ok mX6_has 2 := ⟨(pw_in (List.mem_of_getElem? (i := 71) (by decide +kernel)) (by decide +kernel)), (pw_in (List.mem_of_getElem? (i := 883) (by decide +kernel)) (by decide +kernel)), by decide +kernel, by decide⟩
theorem kX6_165 : pw_CS RX6 165 mX6_has 2 := ⟨okX6_has, (pw_in (List.mem_of_getElem? (i := 881) (by decide +kernel)) (by decide +kernel)), (pw_in (List.mem_of_getElem? (i := 882) (by decide +kernel)) (by decide +kernel))⟩
theorem okX6_isSort : pw_ok mX6_isSort 1 := ⟨(pw_in (List.mem_of_getElem? (i := 71) (by decide +kernel)) (by decide +kernel)), (pw_in (List.mem_of_getElem? (i := 894) (by decide +kernel)) (by decide +kernel)), by decide +kernel, by decide⟩
theorem kX6_201 : pw_CS RX6 201 mX6_isSort 1 := ⟨okX6_isSort, (pw_in (List.mem_of_getElem? (i := 892) (by decide +kernel)) (by decide +kernel)), (pw_in (List.mem_of_getElem? (i := 893) (by decide +kernel)) (by decide +kernel))⟩
theorem okX6_common : pw_ok mX6_common 2 := ⟨(pw_in (List.mem_of_getElem? (i := 71) (by decide +kernel)) (by decide +kernel)), (pw_in (List.mem_of_getElem? (i := 987) (by decide +kernel)) (by decide +kernel)), by decide +kernel, by decide⟩
theorem kX6_241 : pw_CS RX6 241 mX6_common 2 := ⟨okX6_common, (pw_in (List.mem_of_getElem? (i := 985) (by decide +kernel)) (by decide +kernel)), (pw_in (List.mem_of_getElem? (i := 986) (by decide +kernel)) (by decide +kernel))⟩
theorem okX6_letterAt : pw_ok mX6_letterAt 1 := ⟨(pw_in (List.mem_of_getElem? (i := 71) (by decide +kernel)) (by decide +kernel)), (pw_in (List.mem_of_getElem? (i := 802) (by decide +kernel)) (by decide +kernel)), by decide +kernel, by decide⟩
theorem kX6_97 : pw_CV RX6 97 mX6_letterAt 1 := ⟨okX6_letterAt, (pw_in (List.mem_of_getElem? (i := 799) (by decide +kernel)) (by decide +kernel)), (pw_in (List.mem_of_getElem? (i := 801) (by decide +kernel)) (by decide +kernel)), (pw_in (List.mem_of_getElem? (i := 33) (by decide +kernel)) (by decide +kernel))⟩
theorem okX6_nextToken : pw_ok mX6_nextToken 0 := ⟨(pw_in (List.mem_of_getElem? (i := 71) (by decide +kernel)) (by decide +kernel)), (pw_in (List.mem_of_getElem? (i := 798) (by decide +kernel)) (by decide +kernel)), by decide +kernel, by decide⟩
theorem kX6_114 : pw_CV RX6 114 mX6_nextToken 0 := ⟨okX6_nextToken, (pw_in (List.mem_of_getElem? (i := 795) (by decide +kernel)) (by decide +kernel)), (pw_in (List.mem_of_getElem? (i := 797) (by decide +kernel)) (by decide +kernel)), (pw_in (List.mem_of_getElem? (i := 32) (by decide +kernel)) (by decide +kernel))⟩
theorem okX6_takes : pw_ok mX6_takes 3 := ⟨(pw_in (List.mem_of_getElem? (i := 71) (by decide +kernel)) (by decide +kernel)), (pw_in (List.mem_of_getElem? (i := 812) (by decide +kernel)) (by decide +kernel)), by decide +kernel, by decide⟩
theorem kX6_120 : pw_CV RX6 120 mX6_takes 3 := ⟨okX6_takes, (pw_in (List.mem_of_getElem? (i := 809) (by decide +kernel)) (by decide +kernel)), (pw_in (List.mem_of_getElem? (i := 811) (by decide +kernel)) (by decide +kernel)), (pw_in (List.mem_of_getElem? (i := 35) (by decide +kernel)) (by decide +kernel))⟩
theorem okX6_takesTwo : pw_ok mX6_takesTwo 0 := ⟨(pw_in (List.mem_of_getElem? (i := 71) (by decide +kernel)) (by decide +kernel)), (pw_in (List.mem_of_getElem? (i := 820) (by decide +kernel)) (by decide +kernel)), by decide +kernel, by decide⟩
theorem kX6_127 : pw_CV RX6 127 mX6_takesTwo 0 := ⟨okX6_takesTwo, (pw_in (List.mem_of_getElem? (i := 817) (by decide +kernel)) (by decide +kernel)), (pw_in (List.mem_of_getElem? (i := 819) (by decide +kernel)) (by decide +kernel)), (pw_in (List.mem_of_getElem? (i := 37) (by decide +kernel)) (by decide +kernel))⟩
theorem okX6_readPocket : pw_ok mX6_readPocket 0 := ⟨(pw_in (List.mem_of_getElem? (i := 71) (by decide +kernel)) (by decide +kernel)), (pw_in (List.mem_of_getElem? (i := 808) (by decide +kernel)) (by decide +kernel)), by decide +kernel, by decide⟩
theorem kX6_137 : pw_CV RX6 137 mX6_readPocket 0 := ⟨okX6_readPocket, (pw_in (List.mem_of_getElem? (i := 805) (by decide +kernel)) (by decide +kernel)), (pw_in (List.mem_of_getElem? (i := 807) (by decide +kernel)) (by decide +kernel)), (pw_in (List.mem_of_getElem? (i := 34) (by decide +kernel)) (by decide +kernel))⟩
theorem okX6_readLaw : pw_ok mX6_readLaw 1 := ⟨(pw_in (List.mem_of_getElem? (i := 71) (by decide +kernel)) (by decide +kernel)), (pw_in (List.mem_of_getElem? (i := 816) (by decide +kernel)) (by decide +kernel)), by decide +kernel, by decide⟩
theorem kX6_140 : pw_CV RX6 140 mX6_readLaw 1 := ⟨okX6_readLaw, (pw_in (List.mem_of_getElem? (i := 813) (by decide +kernel)) (by decide +kernel)), (pw_in (List.mem_of_getElem? (i := 815) (by decide +kernel)) (by decide +kernel)), (pw_in (List.mem_of_getElem? (i := 36) (by decide +kernel)) (by decide +kernel))⟩
theorem okX6_readSeam : pw_ok mX6_readSeam 0 := ⟨(pw_in (List.mem_of_getElem? (i := 71) (by decide +kernel)) (by decide +kernel)), (pw_in (List.mem_of_getElem? (i := 824) (by decide +kernel)) (by decide +kernel)), by decide +kernel, by decide⟩
theorem kX6_144 : pw_CV RX6 144 mX6_readSeam 0 := ⟨okX6_readSeam, (pw_in (List.mem_of_getElem? (i := 821) (by decide +kernel)) (by decide +kernel)), (pw_in (List.mem_of_getElem? (i := 823) (by decide +kernel)) (by decide +kernel)), (pw_in (List.mem_of_getElem? (i := 38) (by decide +kernel)) (by decide +kernel))⟩
theorem okX6_readHole : pw_ok mX6_readHole 0 := ⟨(pw_in (List.mem_of_getElem? (i := 71) (by decide +kernel)) (by decide +kernel)), (pw_in (List.mem_of_getElem? (i := 828) (by decide +kernel)) (by decide +kernel)), by decide +kernel, by decide⟩
theorem kX6_147 : pw_CV RX6 147 mX6_readHole 0 := ⟨okX6_readHole, (pw_in (List.mem_of_getElem? (i := 825) (by decide +kernel)) (by decide +kernel)), (pw_in (List.mem_of_getElem? (i := 827) (by decide +kernel)) (by decide +kernel)), (pw_in (List.mem_of_getElem? (i := 39) (by decide +kernel)) (by decide +kernel))⟩
theorem okX6_readTreaty : pw_ok mX6_readTreaty 0 := ⟨(pw_in (List.mem_of_getElem? (i := 71) (by decide +kernel)) (by decide +kernel)), (pw_in (List.mem_of_getElem? (i := 832) (by decide +kernel)) (by decide +kernel)), by decide +kernel, by decide⟩
theorem kX6_150 : pw_CV RX6 150 mX6_readTreaty 0 := ⟨okX6_readTreaty, (pw_in (List.mem_of_getElem? (i := 829) (by decide +kernel)) (by decide +kernel)), (pw_in (List.mem_of_getElem? (i := 831) (by decide +kernel)) (by decide +kernel)), (pw_in (List.mem_of_getElem? (i := 40) (by decide +kernel)) (by decide +kernel))⟩
theorem okX6_readThing : pw_ok mX6_readThing 0 := ⟨(pw_in (List.mem_of_getElem? (i := 71) (by decide +kernel)) (by decide +kernel)), (pw_in (List.mem_of_getElem? (i := 836) (by decide +kernel)) (by decide +kernel)), by decide +kernel, by decide⟩
theorem kX6_153 : pw_CV RX6 153 mX6_readThing 0 := ⟨okX6_readThing, (pw_in (List.mem_of_getElem? (i := 833) (by decide +kernel)) (by decide +kernel)), (pw_in (List.mem_of_getElem? (i := 835) (by decide +kernel)) (by decide +kernel)), (pw_in (List.mem_of_getElem? (i := 41) (by decide +kernel)) (by decide +kernel))⟩
theorem okX6_readRealm : pw_ok mX6_readRealm 0 := ⟨(pw_in (List.mem_of_getElem? (i := 71) (by decide +kernel)) (by decide +kernel)), (pw_in (List.mem_of_getElem? (i := 794) (by decide +kernel)) (by decide +kernel)), by decide +kernel, by decide⟩
theorem kX6_156 : pw_CV RX6 156 mX6_readRealm 0 := ⟨okX6_readRealm, (pw_in (List.mem_of_getElem? (i := 791) (by decide +kernel)) (by decide +kernel)), (pw_in (List.mem_of_getElem? (i := 793) (by decide +kernel)) (by decide +kernel)), (pw_in (List.mem_of_getElem? (i := 31) (by decide +kernel)) (by decide +kernel))⟩
theorem okX6_allowsOwn : pw_ok mX6_allowsOwn 2 := ⟨(pw_in (List.mem_of_getElem? (i := 71) (by decide +kernel)) (by decide +kernel)), (pw_in (List.mem_of_getElem? (i := 887) (by decide +kernel)) (by decide +kernel)), by decide +kernel, by decide⟩
theorem kX6_169 : pw_CV RX6 169 mX6_allowsOwn 2 := ⟨okX6_allowsOwn, (pw_in (List.mem_of_getElem? (i := 884) (by decide +kernel)) (by decide +kernel)), (pw_in (List.mem_of_getElem? (i := 886) (by decide +kernel)) (by decide +kernel)), (pw_in (List.mem_of_getElem? (i := 51) (by decide +kernel)) (by decide +kernel))⟩
theorem okX6_holds : pw_ok mX6_holds 2 := ⟨(pw_in (List.mem_of_getElem? (i := 71) (by decide +kernel)) (by decide +kernel)), (pw_in (List.mem_of_getElem? (i := 880) (by decide +kernel)) (by decide +kernel)), by decide +kernel, by decide⟩
theorem kX6_172 : pw_CV RX6 172 mX6_holds 2 := ⟨okX6_holds, (pw_in (List.mem_of_getElem? (i := 877) (by decide +kernel)) (by decide +kernel)), (pw_in (List.mem_of_getElem? (i := 879) (by decide +kernel)) (by decide +kernel)), (pw_in (List.mem_of_getElem? (i := 50) (by decide +kernel)) (by decide +kernel))⟩
theorem okX6_fixedOf : pw_ok mX6_fixedOf 1 := ⟨(pw_in (List.mem_of_getElem? (i := 71) (by decide +kernel)) (by decide +kernel)), (pw_in (List.mem_of_getElem? (i := 876) (by decide +kernel)) (by decide +kernel)), by decide +kernel, by decide⟩
theorem kX6_175 : pw_CV RX6 175 mX6_fixedOf 1 := ⟨okX6_fixedOf, (pw_in (List.mem_of_getElem? (i := 873) (by decide +kernel)) (by decide +kernel)), (pw_in (List.mem_of_getElem? (i := 875) (by decide +kernel)) (by decide +kernel)), (pw_in (List.mem_of_getElem? (i := 49) (by decide +kernel)) (by decide +kernel))⟩
theorem okX6_isPocket : pw_ok mX6_isPocket 1 := ⟨(pw_in (List.mem_of_getElem? (i := 71) (by decide +kernel)) (by decide +kernel)), (pw_in (List.mem_of_getElem? (i := 844) (by decide +kernel)) (by decide +kernel)), by decide +kernel, by decide⟩
theorem kX6_178 : pw_CV RX6 178 mX6_isPocket 1 := ⟨okX6_isPocket, (pw_in (List.mem_of_getElem? (i := 841) (by decide +kernel)) (by decide +kernel)), (pw_in (List.mem_of_getElem? (i := 843) (by decide +kernel)) (by decide +kernel)), (pw_in (List.mem_of_getElem? (i := 42) (by decide +kernel)) (by decide +kernel))⟩
theorem okX6_filled : pw_ok mX6_filled 1 := ⟨(pw_in (List.mem_of_getElem? (i := 71) (by decide +kernel)) (by decide +kernel)), (pw_in (List.mem_of_getElem? (i := 848) (by decide +kernel)) (by decide +kernel)), by decide +kernel, by decide⟩
theorem kX6_181 : pw_CV RX6 181 mX6_filled 1 := ⟨okX6_filled, (pw_in (List.mem_of_getElem? (i := 845) (by decide +kernel)) (by decide +kernel)), (pw_in (List.mem_of_getElem? (i := 847) (by decide +kernel)) (by decide +kernel)), (pw_in (List.mem_of_getElem? (i := 43) (by decide +kernel)) (by decide +kernel))⟩
theorem okX6_depthOf : pw_ok mX6_depthOf 1 := ⟨(pw_in (List.mem_of_getElem? (i := 71) (by decide +kernel)) (by decide +kernel)), (pw_in (List.mem_of_getElem? (i := 852) (by decide +kernel)) (by decide +kernel)), by decide +kernel, by decide⟩
theorem kX6_184 : pw_CV RX6 184 mX6_depthOf 1 := ⟨okX6_depthOf, (pw_in (List.mem_of_getElem? (i := 849) (by decide +kernel)) (by decide +kernel)), (pw_in (List.mem_of_getElem? (i := 851) (by decide +kernel)) (by decide +kernel)), (pw_in (List.mem_of_getElem? (i := 44) (by decide +kernel)) (by decide +kernel))⟩
theorem okX6_seamsOf : pw_ok mX6_seamsOf 1 := ⟨(pw_in (List.mem_of_getElem? (i := 71) (by decide +kernel)) (by decide +kernel)), (pw_in (List.mem_of_getElem? (i := 856) (by decide +kernel)) (by decide +kernel)), by decide +kernel, by decide⟩
theorem kX6_187 : pw_CV RX6 187 mX6_seamsOf 1 := ⟨okX6_seamsOf, (pw_in (List.mem_of_getElem? (i := 853) (by decide +kernel)) (by decide +kernel)), (pw_in (List.mem_of_getElem? (i := 855) (by decide +kernel)) (by decide +kernel)), (pw_in (List.mem_of_getElem? (i := 45) (by decide +kernel)) (by decide +kernel))⟩
theorem okX6_letting : pw_ok mX6_letting 1 := ⟨(pw_in (List.mem_of_getElem? (i := 71) (by decide +kernel)) (by decide +kernel)), (pw_in (List.mem_of_getElem? (i := 872) (by decide +kernel)) (by decide +kernel)), by decide +kernel, by decide⟩
theorem kX6_190 : pw_CV RX6 190 mX6_letting 1 := ⟨okX6_letting, (pw_in (List.mem_of_getElem? (i := 869) (by decide +kernel)) (by decide +kernel)), (pw_in (List.mem_of_getElem? (i := 871) (by decide +kernel)) (by decide +kernel)), (pw_in (List.mem_of_getElem? (i := 48) (by decide +kernel)) (by decide +kernel))⟩
theorem okX6_isThing : pw_ok mX6_isThing 1 := ⟨(pw_in (List.mem_of_getElem? (i := 71) (by decide +kernel)) (by decide +kernel)), (pw_in (List.mem_of_getElem? (i := 864) (by decide +kernel)) (by decide +kernel)), by decide +kernel, by decide⟩
theorem kX6_193 : pw_CV RX6 193 mX6_isThing 1 := ⟨okX6_isThing, (pw_in (List.mem_of_getElem? (i := 861) (by decide +kernel)) (by decide +kernel)), (pw_in (List.mem_of_getElem? (i := 863) (by decide +kernel)) (by decide +kernel)), (pw_in (List.mem_of_getElem? (i := 46) (by decide +kernel)) (by decide +kernel))⟩
theorem okX6_isOutlawed : pw_ok mX6_isOutlawed 1 := ⟨(pw_in (List.mem_of_getElem? (i := 71) (by decide +kernel)) (by decide +kernel)), (pw_in (List.mem_of_getElem? (i := 868) (by decide +kernel)) (by decide +kernel)), by decide +kernel, by decide⟩
theorem kX6_196 : pw_CV RX6 196 mX6_isOutlawed 1 := ⟨okX6_isOutlawed, (pw_in (List.mem_of_getElem? (i := 865) (by decide +kernel)) (by decide +kernel)), (pw_in (List.mem_of_getElem? (i := 867) (by decide +kernel)) (by decide +kernel)), (pw_in (List.mem_of_getElem? (i := 47) (by decide +kernel)) (by decide +kernel))⟩
theorem okX6_parts : pw_ok mX6_parts 0 := ⟨(pw_in (List.mem_of_getElem? (i := 71) (by decide +kernel)) (by decide +kernel)), (pw_in (List.mem_of_getElem? (i := 907) (by decide +kernel)) (by decide +kernel)), by decide +kernel, by decide⟩
theorem kX6_204 : pw_CV RX6 204 mX6_parts 0 := ⟨okX6_parts, (pw_in (List.mem_of_getElem? (i := 904) (by decide +kernel)) (by decide +kernel)), (pw_in (List.mem_of_getElem? (i := 906) (by decide +kernel)) (by decide +kernel)), (pw_in (List.mem_of_getElem? (i := 52) (by decide +kernel)) (by decide +kernel))⟩
theorem okX6_hasRoom : pw_ok mX6_hasRoom 2 := ⟨(pw_in (List.mem_of_getElem? (i := 71) (by decide +kernel)) (by decide +kernel)), (pw_in (List.mem_of_getElem? (i := 915) (by decide +kernel)) (by decide +kernel)), by decide +kernel, by decide⟩
theorem kX6_208 : pw_CV RX6 208 mX6_hasRoom 2 := ⟨okX6_hasRoom, (pw_in (List.mem_of_getElem? (i := 912) (by decide +kernel)) (by decide +kernel)), (pw_in (List.mem_of_getElem? (i := 914) (by decide +kernel)) (by decide +kernel)), (pw_in (List.mem_of_getElem? (i := 53) (by decide +kernel)) (by decide +kernel))⟩
theorem okX6_note : pw_ok mX6_note 0 := ⟨(pw_in (List.mem_of_getElem? (i := 71) (by decide +kernel)) (by decide +kernel)), (pw_in (List.mem_of_getElem? (i := 919) (by decide +kernel)) (by decide +kernel)), by decide +kernel, by decide⟩
theorem kX6_211 : pw_CV RX6 211 mX6_note 0 := ⟨okX6_note, (pw_in (List.mem_of_getElem? (i := 916) (by decide +kernel)) (by decide +kernel)), (pw_in (List.mem_of_getElem? (i := 918) (by decide +kernel)) (by decide +kernel)), (pw_in (List.mem_of_getElem? (i := 54) (by decide +kernel)) (by decide +kernel))⟩
theorem okX6_taxOf : pw_ok mX6_taxOf 3 := ⟨(pw_in (List.mem_of_getElem? (i := 71) (by decide +kernel)) (by decide +kernel)), (pw_in (List.mem_of_getElem? (i := 923) (by decide +kernel)) (by decide +kernel)), by decide +kernel, by decide⟩
theorem kX6_214 : pw_CV RX6 214 mX6_taxOf 3 := ⟨okX6_taxOf, (pw_in (List.mem_of_getElem? (i := 920) (by decide +kernel)) (by decide +kernel)), (pw_in (List.mem_of_getElem? (i := 922) (by decide +kernel)) (by decide +kernel)), (pw_in (List.mem_of_getElem? (i := 55) (by decide +kernel)) (by decide +kernel))⟩
theorem okX6_through : pw_ok mX6_through 2 := ⟨(pw_in (List.mem_of_getElem? (i := 71) (by decide +kernel)) (by decide +kernel)), (pw_in (List.mem_of_getElem? (i := 931) (by decide +kernel)) (by decide +kernel)), by decide +kernel, by decide⟩
theorem kX6_218 : pw_CV RX6 218 mX6_through 2 := ⟨okX6_through, (pw_in (List.mem_of_getElem? (i := 928) (by decide +kernel)) (by decide +kernel)), (pw_in (List.mem_of_getElem? (i := 930) (by decide +kernel)) (by decide +kernel)), (pw_in (List.mem_of_getElem? (i := 56) (by decide +kernel)) (by decide +kernel))⟩
theorem okX6_farOf : pw_ok mX6_farOf 3 := ⟨(pw_in (List.mem_of_getElem? (i := 71) (by decide +kernel)) (by decide +kernel)), (pw_in (List.mem_of_getElem? (i := 943) (by decide +kernel)) (by decide +kernel)), by decide +kernel, by decide⟩
theorem kX6_223 : pw_CV RX6 223 mX6_farOf 3 := ⟨okX6_farOf, (pw_in (List.mem_of_getElem? (i := 940) (by decide +kernel)) (by decide +kernel)), (pw_in (List.mem_of_getElem? (i := 942) (by decide +kernel)) (by decide +kernel)), (pw_in (List.mem_of_getElem? (i := 57) (by decide +kernel)) (by decide +kernel))⟩
theorem okX6_elsewhere : pw_ok mX6_elsewhere 0 := ⟨(pw_in (List.mem_of_getElem? (i := 71) (by decide +kernel)) (by decide +kernel)), (pw_in (List.mem_of_getElem? (i := 957) (by decide +kernel)) (by decide +kernel)), by decide +kernel, by decide⟩
theorem kX6_229 : pw_CV RX6 229 mX6_elsewhere 0 := ⟨okX6_elsewhere, (pw_in (List.mem_of_getElem? (i := 954) (by decide +kernel)) (by decide +kernel)), (pw_in (List.mem_of_getElem? (i := 956) (by decide +kernel)) (by decide +kernel)), (pw_in (List.mem_of_getElem? (i := 58) (by decide +kernel)) (by decide +kernel))⟩
theorem okX6_dropsFrom : pw_ok mX6_dropsFrom 3 := ⟨(pw_in (List.mem_of_getElem? (i := 71) (by decide +kernel)) (by decide +kernel)), (pw_in (List.mem_of_getElem? (i := 970) (by decide +kernel)) (by decide +kernel)), by decide +kernel, by decide⟩
theorem kX6_234 : pw_CV RX6 234 mX6_dropsFrom 3 := ⟨okX6_dropsFrom, (pw_in (List.mem_of_getElem? (i := 967) (by decide +kernel)) (by decide +kernel)), (pw_in (List.mem_of_getElem? (i := 969) (by decide +kernel)) (by decide +kernel)), (pw_in (List.mem_of_getElem? (i := 59) (by decide +kernel)) (by decide +kernel))⟩
theorem okX6_asPocket : pw_ok mX6_asPocket 1 := ⟨(pw_in (List.mem_of_getElem? (i := 71) (by decide +kernel)) (by decide +kernel)), (pw_in (List.mem_of_getElem? (i := 1001) (by decide +kernel)) (by decide +kernel)), by decide +kernel, by decide⟩
theorem kX6_249 : pw_CV RX6 249 mX6_asPocket 1 := ⟨okX6_asPocket, (pw_in (List.mem_of_getElem? (i := 998) (by decide +kernel)) (by decide +kernel)), (pw_in (List.mem_of_getElem? (i := 1000) (by decide +kernel)) (by decide +kernel)), (pw_in (List.mem_of_getElem? (i := 61) (by decide +kernel)) (by decide +kernel))⟩
theorem okX6_asCoat : pw_ok mX6_asCoat 1 := ⟨(pw_in (List.mem_of_getElem? (i := 71) (by decide +kernel)) (by decide +kernel)), (pw_in (List.mem_of_getElem? (i := 997) (by decide +kernel)) (by decide +kernel)), by decide +kernel, by decide⟩
theorem kX6_257 : pw_CV RX6 257 mX6_asCoat 1 := ⟨okX6_asCoat, (pw_in (List.mem_of_getElem? (i := 994) (by decide +kernel)) (by decide +kernel)), (pw_in (List.mem_of_getElem? (i := 996) (by decide +kernel)) (by decide +kernel)), (pw_in (List.mem_of_getElem? (i := 60) (by decide +kernel)) (by decide +kernel))⟩
theorem okX6_asPurse : pw_ok mX6_asPurse 1 := ⟨(pw_in (List.mem_of_getElem? (i := 71) (by decide +kernel)) (by decide +kernel)), (pw_in (List.mem_of_getElem? (i := 1006) (by decide +kernel)) (by decide +kernel)), by decide +kernel, by decide⟩
theorem kX6_262 : pw_CV RX6 262 mX6_asPurse 1 := ⟨okX6_asPurse, (pw_in (List.mem_of_getElem? (i := 1003) (by decide +kernel)) (by decide +kernel)), (pw_in (List.mem_of_getElem? (i := 1005) (by decide +kernel)) (by decide +kernel)), (pw_in (List.mem_of_getElem? (i := 62) (by decide +kernel)) (by decide +kernel))⟩
theorem cX6_222 : Cond.constant RX6 222 (100000) ∈ pw_tbl := (pw_in (List.mem_of_getElem? (i := 944) (by decide +kernel)) (by decide +kernel))
theorem cX6_254 : Cond.constant RX6 254 (-1000000) ∈ pw_tbl := (pw_in (List.mem_of_getElem? (i := 992) (by decide +kernel)) (by decide +kernel))
theorem cX6_89 : Cond.constantLong RX6 89 (255) ∈ pw_tbl := (pw_in (List.mem_of_getElem? (i := 779) (by decide +kernel)) (by decide +kernel))
theorem cX6_110 : Cond.constantLong RX6 110 (48) ∈ pw_tbl := (pw_in (List.mem_of_getElem? (i := 803) (by decide +kernel)) (by decide +kernel))
theorem cX6_112 : Cond.constantLong RX6 112 (57) ∈ pw_tbl := (pw_in (List.mem_of_getElem? (i := 804) (by decide +kernel)) (by decide +kernel))
theorem cX6_199 : Cond.constantLong RX6 199 (5) ∈ pw_tbl := (pw_in (List.mem_of_getElem? (i := 895) (by decide +kernel)) (by decide +kernel))
theorem cX6_227 : Cond.constantLong RX6 227 (-1) ∈ pw_tbl := (pw_in (List.mem_of_getElem? (i := 953) (by decide +kernel)) (by decide +kernel))
theorem cX6_232 : Cond.constantLong RX6 232 (20) ∈ pw_tbl := (pw_in (List.mem_of_getElem? (i := 966) (by decide +kernel)) (by decide +kernel))
theorem cX6_237 : Cond.constantLong RX6 237 (10) ∈ pw_tbl := (pw_in (List.mem_of_getElem? (i := 983) (by decide +kernel)) (by decide +kernel))
theorem cX6_239 : Cond.constantLong RX6 239 (6) ∈ pw_tbl := (pw_in (List.mem_of_getElem? (i := 984) (by decide +kernel)) (by decide +kernel))
theorem cX6_252 : Cond.constantLong RX6 252 (100) ∈ pw_tbl := (pw_in (List.mem_of_getElem? (i := 1007) (by decide +kernel)) (by decide +kernel))
theorem cX6_255 : Cond.constantLong RX6 255 (1000) ∈ pw_tbl := (pw_in (List.mem_of_getElem? (i := 993) (by decide +kernel)) (by decide +kernel))
theorem cX6_260 : Cond.constantLong RX6 260 (10000) ∈ pw_tbl := (pw_in (List.mem_of_getElem? (i := 1002) (by decide +kernel)) (by decide +kernel))
theorem cX6_265 : Cond.constantLong RX6 265 (100000) ∈ pw_tbl := (pw_in (List.mem_of_getElem? (i := 1008) (by decide +kernel)) (by decide +kernel))
theorem pX6_7 : pw_FP RX6 7 6 0 (.array .int) true := ⟨RX6, TX6, 36, tyX6, rfl, by decide, inX6, (pw_in (List.mem_of_getElem? (i := 665) (by decide +kernel)) (by decide +kernel)), tyX6_ok, nmX6, rfl, by decide +kernel, rfl⟩
theorem pX6_13 : pw_FP RX6 13 6 2 (.array .int) true := ⟨RX6, TX6, 36, tyX6, rfl, by decide, inX6, (pw_in (List.mem_of_getElem? (i := 667) (by decide +kernel)) (by decide +kernel)), tyX6_ok, nmX6, rfl, by decide +kernel, rfl⟩
theorem pX6_16 : pw_FP RX6 16 6 4 (.array .boolean) true := ⟨RX6, TX6, 36, tyX6, rfl, by decide, inX6, (pw_in (List.mem_of_getElem? (i := 669) (by decide +kernel)) (by decide +kernel)), tyX6_ok, nmX6, rfl, by decide +kernel, rfl⟩
theorem pX6_20 : pw_FP RX6 20 6 5 (.array .int) true := ⟨RX6, TX6, 36, tyX6, rfl, by decide, inX6, (pw_in (List.mem_of_getElem? (i := 670) (by decide +kernel)) (by decide +kernel)), tyX6_ok, nmX6, rfl, by decide +kernel, rfl⟩
theorem pX6_23 : pw_FP RX6 23 6 7 (.array .int) true := ⟨RX6, TX6, 36, tyX6, rfl, by decide, inX6, (pw_in (List.mem_of_getElem? (i := 672) (by decide +kernel)) (by decide +kernel)), tyX6_ok, nmX6, rfl, by decide +kernel, rfl⟩
theorem pX6_26 : pw_FP RX6 26 6 8 (.array .int) true := ⟨RX6, TX6, 36, tyX6, rfl, by decide, inX6, (pw_in (List.mem_of_getElem? (i := 673) (by decide +kernel)) (by decide +kernel)), tyX6_ok, nmX6, rfl, by decide +kernel, rfl⟩
theorem pX6_29 : pw_FP RX6 29 6 9 (.array .int) true := ⟨RX6, TX6, 36, tyX6, rfl, by decide, inX6, (pw_in (List.mem_of_getElem? (i := 674) (by decide +kernel)) (by decide +kernel)), tyX6_ok, nmX6, rfl, by decide +kernel, rfl⟩
theorem pX6_32 : pw_FP RX6 32 6 11 (.array .int) true := ⟨RX6, TX6, 36, tyX6, rfl, by decide, inX6, (pw_in (List.mem_of_getElem? (i := 676) (by decide +kernel)) (by decide +kernel)), tyX6_ok, nmX6, rfl, by decide +kernel, rfl⟩
theorem pX6_35 : pw_FP RX6 35 6 12 (.array .int) true := ⟨RX6, TX6, 36, tyX6, rfl, by decide, inX6, (pw_in (List.mem_of_getElem? (i := 677) (by decide +kernel)) (by decide +kernel)), tyX6_ok, nmX6, rfl, by decide +kernel, rfl⟩
theorem pX6_38 : pw_FP RX6 38 6 19 (.array .int) true := ⟨RX6, TX6, 36, tyX6, rfl, by decide, inX6, (pw_in (List.mem_of_getElem? (i := 684) (by decide +kernel)) (by decide +kernel)), tyX6_ok, nmX6, rfl, by decide +kernel, rfl⟩
theorem pX6_41 : pw_FP RX6 41 6 21 (.array .boolean) true := ⟨RX6, TX6, 36, tyX6, rfl, by decide, inX6, (pw_in (List.mem_of_getElem? (i := 686) (by decide +kernel)) (by decide +kernel)), tyX6_ok, nmX6, rfl, by decide +kernel, rfl⟩
theorem pX6_44 : pw_FP RX6 44 6 22 (.array .int) true := ⟨RX6, TX6, 36, tyX6, rfl, by decide, inX6, (pw_in (List.mem_of_getElem? (i := 687) (by decide +kernel)) (by decide +kernel)), tyX6_ok, nmX6, rfl, by decide +kernel, rfl⟩
theorem pX6_47 : pw_FP RX6 47 6 24 (.array .int) true := ⟨RX6, TX6, 36, tyX6, rfl, by decide, inX6, (pw_in (List.mem_of_getElem? (i := 689) (by decide +kernel)) (by decide +kernel)), tyX6_ok, nmX6, rfl, by decide +kernel, rfl⟩
theorem pX6_50 : pw_FP RX6 50 6 26 (.array .int) true := ⟨RX6, TX6, 36, tyX6, rfl, by decide, inX6, (pw_in (List.mem_of_getElem? (i := 691) (by decide +kernel)) (by decide +kernel)), tyX6_ok, nmX6, rfl, by decide +kernel, rfl⟩
theorem pX6_53 : pw_FP RX6 53 6 28 (.array .int) true := ⟨RX6, TX6, 36, tyX6, rfl, by decide, inX6, (pw_in (List.mem_of_getElem? (i := 693) (by decide +kernel)) (by decide +kernel)), tyX6_ok, nmX6, rfl, by decide +kernel, rfl⟩
theorem pX6_56 : pw_FP RX6 56 6 29 (.array .int) true := ⟨RX6, TX6, 36, tyX6, rfl, by decide, inX6, (pw_in (List.mem_of_getElem? (i := 694) (by decide +kernel)) (by decide +kernel)), tyX6_ok, nmX6, rfl, by decide +kernel, rfl⟩
theorem pX6_59 : pw_FP RX6 59 6 30 (.array .int) true := ⟨RX6, TX6, 36, tyX6, rfl, by decide, inX6, (pw_in (List.mem_of_getElem? (i := 695) (by decide +kernel)) (by decide +kernel)), tyX6_ok, nmX6, rfl, by decide +kernel, rfl⟩
theorem pX6_62 : pw_FP RX6 62 6 31 (.array .int) true := ⟨RX6, TX6, 36, tyX6, rfl, by decide, inX6, (pw_in (List.mem_of_getElem? (i := 696) (by decide +kernel)) (by decide +kernel)), tyX6_ok, nmX6, rfl, by decide +kernel, rfl⟩
theorem pX6_65 : pw_FP RX6 65 6 32 (.array .long) true := ⟨RX6, TX6, 36, tyX6, rfl, by decide, inX6, (pw_in (List.mem_of_getElem? (i := 697) (by decide +kernel)) (by decide +kernel)), tyX6_ok, nmX6, rfl, by decide +kernel, rfl⟩
theorem pX6_69 : pw_FP RX6 69 6 33 (.array .long) true := ⟨RX6, TX6, 36, tyX6, rfl, by decide, inX6, (pw_in (List.mem_of_getElem? (i := 698) (by decide +kernel)) (by decide +kernel)), tyX6_ok, nmX6, rfl, by decide +kernel, rfl⟩
theorem pX6_72 : pw_FP RX6 72 6 34 (.array .boolean) true := ⟨RX6, TX6, 36, tyX6, rfl, by decide, inX6, (pw_in (List.mem_of_getElem? (i := 699) (by decide +kernel)) (by decide +kernel)), tyX6_ok, nmX6, rfl, by decide +kernel, rfl⟩
theorem pX6_75 : pw_FP RX6 75 6 35 (.array .int) true := ⟨RX6, TX6, 36, tyX6, rfl, by decide, inX6, (pw_in (List.mem_of_getElem? (i := 700) (by decide +kernel)) (by decide +kernel)), tyX6_ok, nmX6, rfl, by decide +kernel, rfl⟩
theorem pX6_78 : pw_FP RX6 78 6 3 (.int) false := ⟨RX6, TX6, 36, tyX6, rfl, by decide, inX6, (pw_in (List.mem_of_getElem? (i := 668) (by decide +kernel)) (by decide +kernel)), tyX6_ok, nmX6, rfl, by decide +kernel, rfl⟩
theorem pX6_86 : pw_FP RX6 86 6 10 (.int) false := ⟨RX6, TX6, 36, tyX6, rfl, by decide, inX6, (pw_in (List.mem_of_getElem? (i := 675) (by decide +kernel)) (by decide +kernel)), tyX6_ok, nmX6, rfl, by decide +kernel, rfl⟩
theorem pX6_91 : pw_FP RX6 91 6 1 (.int) false := ⟨RX6, TX6, 36, tyX6, rfl, by decide, inX6, (pw_in (List.mem_of_getElem? (i := 666) (by decide +kernel)) (by decide +kernel)), tyX6_ok, nmX6, rfl, by decide +kernel, rfl⟩
theorem pX6_94 : pw_FP RX6 94 6 15 (.int) false := ⟨RX6, TX6, 36, tyX6, rfl, by decide, inX6, (pw_in (List.mem_of_getElem? (i := 680) (by decide +kernel)) (by decide +kernel)), tyX6_ok, nmX6, rfl, by decide +kernel, rfl⟩
theorem pX6_101 : pw_FP RX6 101 6 18 (.int) false := ⟨RX6, TX6, 36, tyX6, rfl, by decide, inX6, (pw_in (List.mem_of_getElem? (i := 683) (by decide +kernel)) (by decide +kernel)), tyX6_ok, nmX6, rfl, by decide +kernel, rfl⟩
theorem pX6_104 : pw_FP RX6 104 6 17 (.int) false := ⟨RX6, TX6, 36, tyX6, rfl, by decide, inX6, (pw_in (List.mem_of_getElem? (i := 682) (by decide +kernel)) (by decide +kernel)), tyX6_ok, nmX6, rfl, by decide +kernel, rfl⟩
theorem pX6_107 : pw_FP RX6 107 6 16 (.int) false := ⟨RX6, TX6, 36, tyX6, rfl, by decide, inX6, (pw_in (List.mem_of_getElem? (i := 681) (by decide +kernel)) (by decide +kernel)), tyX6_ok, nmX6, rfl, by decide +kernel, rfl⟩
theorem pX6_117 : pw_FP RX6 117 6 20 (.int) false := ⟨RX6, TX6, 36, tyX6, rfl, by decide, inX6, (pw_in (List.mem_of_getElem? (i := 685) (by decide +kernel)) (by decide +kernel)), tyX6_ok, nmX6, rfl, by decide +kernel, rfl⟩
theorem pX6_124 : pw_FP RX6 124 6 25 (.int) false := ⟨RX6, TX6, 36, tyX6, rfl, by decide, inX6, (pw_in (List.mem_of_getElem? (i := 690) (by decide +kernel)) (by decide +kernel)), tyX6_ok, nmX6, rfl, by decide +kernel, rfl⟩
theorem pX6_131 : pw_FP RX6 131 6 23 (.int) false := ⟨RX6, TX6, 36, tyX6, rfl, by decide, inX6, (pw_in (List.mem_of_getElem? (i := 688) (by decide +kernel)) (by decide +kernel)), tyX6_ok, nmX6, rfl, by decide +kernel, rfl⟩
theorem pX6_134 : pw_FP RX6 134 6 27 (.int) false := ⟨RX6, TX6, 36, tyX6, rfl, by decide, inX6, (pw_in (List.mem_of_getElem? (i := 692) (by decide +kernel)) (by decide +kernel)), tyX6_ok, nmX6, rfl, by decide +kernel, rfl⟩
theorem pX6_159 : pw_FP RX6 159 6 6 (.int) false := ⟨RX6, TX6, 36, tyX6, rfl, by decide, inX6, (pw_in (List.mem_of_getElem? (i := 671) (by decide +kernel)) (by decide +kernel)), tyX6_ok, nmX6, rfl, by decide +kernel, rfl⟩
theorem pX6_162 : pw_FP RX6 162 6 13 (.int) false := ⟨RX6, TX6, 36, tyX6, rfl, by decide, inX6, (pw_in (List.mem_of_getElem? (i := 678) (by decide +kernel)) (by decide +kernel)), tyX6_ok, nmX6, rfl, by decide +kernel, rfl⟩
theorem pX6_245 : pw_FP RX6 245 6 14 (.long) false := ⟨RX6, TX6, 36, tyX6, rfl, by decide, inX6, (pw_in (List.mem_of_getElem? (i := 679) (by decide +kernel)) (by decide +kernel)), tyX6_ok, nmX6, rfl, by decide +kernel, rfl⟩
theorem qObjI : Cond.instanceMethod Lib.objectInit ∈ pw_tbl := (pw_in (List.mem_of_getElem? (i := 80) (by decide +kernel)) (by decide +kernel))
theorem qObjC : Cond.code Lib.objectInit ⟨#[0xb1]⟩ 1 none ∈ pw_tbl := (pw_in (List.mem_of_getElem? (i := 81) (by decide +kernel)) (by decide +kernel))
theorem qCpN : Cond.native arraycopyName ∈ pw_tbl := (pw_in (List.mem_of_getElem? (i := 425) (by decide +kernel)) (by decide +kernel))
theorem qCpS : Cond.static arraycopyName ∈ pw_tbl := (pw_in (List.mem_of_getElem? (i := 424) (by decide +kernel)) (by decide +kernel))
theorem qCpI : Cond.initialized "java/lang/System" ∈ pw_tbl := (pw_in (List.mem_of_getElem? (i := 73) (by decide +kernel)) (by decide +kernel))
theorem qA_int : Cond.arrayClass .int ∈ pw_tbl := (pw_in (List.mem_of_getElem? (i := 112) (by decide +kernel)) (by decide +kernel))
theorem qA_boolean : Cond.arrayClass .boolean ∈ pw_tbl := (pw_in (List.mem_of_getElem? (i := 167) (by decide +kernel)) (by decide +kernel))
theorem qA_long : Cond.arrayClass .long ∈ pw_tbl := (pw_in (List.mem_of_getElem? (i := 774) (by decide +kernel)) (by decide +kernel))
end
section
abbrev pw_K : Type := (Nat × Nat × Nat × List (Option Nat)) ⊕ (Nat × List Value)
def sv : Value → Value
  | .int _ => .int 0
  | .long _ => .long 0
  | v => v
def sk1 : pw_E → pw_K
  | .inl (t, n, .inl _) => .inl (0, t, n, [])
  | .inl (t, n, .inr (.inl _)) => .inl (1, t, n, [])
  | .inl (t, n, .inr (.inr f)) => .inl (2, t, n, (List.range n).map f)
  | .inr (c, vs) => .inr (c, if c = 5 then ((vs.map sv).set 9 .null).set 10 .null else vs.map sv)
def SK : List pw_K := [.inr (5, [.ref 10, .ref 13, .ref 15, .ref 37, .ref 42, .ref 43, .ref 46, .ref 47, .ref 48, .null, .null, .long 0]),
  .inr (4, [.ref 11, .ref 12, .int 0, .int 0, .int 0, .int 0, .int 0]),
  .inl (0, 0, 200, []),
  .inl (0, 0, 4, []),
  .inr (0, [.ref 14, .int 0, .int 0]),
  .inl (0, 0, 6, []),
  .inr (1, [.ref 16, .int 0, .int 0]),
  .inl (2, 3, 10, [some 17, some 19, some 21, some 23, some 25, some 27, some 29, some 31, some 33, some 35]),
  .inr (0, [.ref 18, .int 0, .int 0]),
  .inl (0, 0, 6, []),
  .inr (0, [.ref 20, .int 0, .int 0]),
  .inl (0, 0, 6, []),
  .inr (0, [.ref 22, .int 0, .int 0]),
  .inl (0, 0, 6, []),
  .inr (0, [.ref 24, .int 0, .int 0]),
  .inl (0, 0, 6, []),
  .inr (0, [.ref 26, .int 0, .int 0]),
  .inl (0, 0, 6, []),
  .inr (0, [.ref 28, .int 0, .int 0]),
  .inl (0, 0, 6, []),
  .inr (0, [.ref 30, .int 0, .int 0]),
  .inl (0, 0, 6, []),
  .inr (0, [.ref 32, .int 0, .int 0]),
  .inl (0, 0, 6, []),
  .inr (0, [.ref 34, .int 0, .int 0]),
  .inl (0, 0, 6, []),
  .inr (0, [.ref 36, .int 0, .int 0]),
  .inl (0, 0, 6, []),
  .inl (2, 3, 2, [some 38, some 40]),
  .inr (0, [.ref 39, .int 0, .int 0]),
  .inl (0, 0, 6, []),
  .inr (0, [.ref 41, .int 0, .int 0]),
  .inl (0, 0, 6, []),
  .inl (0, 1, 2, []),
  .inr (3, [.ref 44, .ref 45]),
  .inl (0, 0, 6, []),
  .inl (0, 0, 6, []),
  .inl (0, 0, 6, []),
  .inl (0, 0, 6, []),
  .inl (0, 0, 6, []),
  .inr (2, [.int 0, .int 0, .int 0, .ref 50, .ref 51, .ref 52, .ref 53, .ref 54, .ref 55, .ref 56, .ref 57, .ref 58, .ref 59, .ref 66, .ref 67, .ref 68, .ref 69, .ref 70, .ref 71]),
  .inl (0, 0, 6, []),
  .inl (0, 0, 6, []),
  .inl (0, 0, 6, []),
  .inl (0, 0, 6, []),
  .inl (0, 0, 6, []),
  .inl (0, 0, 6, []),
  .inl (0, 0, 6, []),
  .inl (0, 0, 6, []),
  .inl (0, 0, 6, []),
  .inl (2, 4, 6, [some 60, some 61, some 62, some 63, some 64, some 65]),
  .inl (0, 0, 6, []),
  .inl (0, 0, 6, []),
  .inl (0, 0, 6, []),
  .inl (0, 0, 6, []),
  .inl (0, 0, 6, []),
  .inl (0, 0, 6, []),
  .inl (0, 0, 6, []),
  .inl (0, 0, 6, []),
  .inl (0, 0, 6, []),
  .inl (0, 0, 6, []),
  .inl (0, 0, 6, []),
  .inl (0, 0, 6, []),
  .inr (2, [.int 0, .int 0, .int 0, .ref 73, .ref 74, .ref 75, .ref 76, .ref 77, .ref 78, .ref 79, .ref 80, .ref 81, .ref 82, .ref 89, .ref 90, .ref 91, .ref 92, .ref 93, .ref 94]),
  .inl (0, 0, 6, []),
  .inl (0, 0, 6, []),
  .inl (0, 0, 6, []),
  .inl (0, 0, 6, []),
  .inl (0, 0, 6, []),
  .inl (0, 0, 6, []),
  .inl (0, 0, 6, []),
  .inl (0, 0, 6, []),
  .inl (0, 0, 6, []),
  .inl (2, 4, 6, [some 83, some 84, some 85, some 86, some 87, some 88]),
  .inl (0, 0, 6, []),
  .inl (0, 0, 6, []),
  .inl (0, 0, 6, []),
  .inl (0, 0, 6, []),
  .inl (0, 0, 6, []),
  .inl (0, 0, 6, []),
  .inl (0, 0, 6, []),
  .inl (0, 0, 6, []),
  .inl (0, 0, 6, []),
  .inl (0, 0, 6, []),
  .inl (0, 0, 6, []),
  .inl (0, 0, 6, []),
  .inr (6, [.ref 96, .int 0, .ref 97, .int 0, .ref 98, .ref 99, .int 0, .ref 100, .ref 101, .ref 102, .int 0, .ref 103, .ref 104, .int 0, .long 0, .int 0, .int 0, .int 0, .int 0, .ref 105, .int 0, .ref 106, .ref 107, .int 0, .ref 108, .int 0, .ref 109, .int 0, .ref 110, .ref 111, .ref 112, .ref 113, .ref 114, .ref 115, .ref 116, .ref 117]),
  .inl (0, 0, 200, []),
  .inl (0, 0, 48, []),
  .inl (0, 1, 36, []),
  .inl (0, 0, 36, []),
  .inl (0, 0, 6, []),
  .inl (0, 0, 6, []),
  .inl (0, 0, 6, []),
  .inl (0, 0, 8, []),
  .inl (0, 0, 80, []),
  .inl (0, 0, 48, []),
  .inl (0, 1, 36, []),
  .inl (0, 0, 36, []),
  .inl (0, 0, 24, []),
  .inl (0, 0, 4, []),
  .inl (0, 0, 6, []),
  .inl (0, 0, 6, []),
  .inl (0, 0, 6, []),
  .inl (0, 0, 6, []),
  .inl (1, 2, 6, []),
  .inl (1, 2, 6, []),
  .inl (0, 1, 2, []),
  .inl (0, 0, 16, [])]
def Sh (mem : pw_M) : Prop := 9 ≤ mem.length ∧ (mem.drop 9).map sk1 = SK
def iv (mem : pw_M) (r j : Nat) : Int32 := match mem[r]? with
  | some (.inl (_, _, .inl f)) => f j
  | _ => 0
def jv (mem : pw_M) (r j : Nat) : Int64 := match mem[r]? with
  | some (.inl (_, _, .inr (.inl f))) => f j
  | _ => 0
def fv (mem : pw_M) (r j : Nat) : Value := match mem[r]? with
  | some (.inr (_, vs)) => vs.getD j .null
  | _ => .null
def fi (mem : pw_M) (r j : Nat) : Int32 := match fv mem r j with
  | .int x => x
  | _ => 0
def fl (mem : pw_M) (r j : Nat) : Int64 := match fv mem r j with
  | .long x => x
  | _ => 0
def wI (mem : pw_M) (r j : Nat) (x : Int32) : pw_M := match mem[r]? with
  | some (.inl (t, n, .inl f)) => mem.set r (.inl (t, n, .inl (upd f j x)))
  | _ => mem
def wJ (mem : pw_M) (r j : Nat) (x : Int64) : pw_M := match mem[r]? with
  | some (.inl (t, n, .inr (.inl f))) => mem.set r (.inl (t, n, .inr (.inl (vp_updL f j x))))
  | _ => mem
def wF (mem : pw_M) (r j : Nat) (v : Value) : pw_M := match mem[r]? with
  | some (.inr (c, vs)) => mem.set r (.inr (c, vs.set j v))
  | _ => mem
theorem Sh.at {mem : pw_M} (h : Sh mem) {r : Nat} (h9 : 9 ≤ r) {x : pw_K} (hx : SK[r - 9]? = some x) : ∃ e, mem[r]? = some e ∧ sk1 e = x := by
  rw [← h.2, List.getElem?_map, List.getElem?_drop, show 9 + (r - 9) = r by omega] at hx
  exact Option.map_eq_some_iff.mp hx
theorem Sh.arr {mem : pw_M} (h : Sh mem) {r t n : Nat} (h9 : 9 ≤ r) (hx : SK[r - 9]? = some (.inl (0, t, n, []))) : mem[r]? = some (.inl (t, n, .inl (iv mem r))) := by
  obtain ⟨e, h1, h2⟩ := h.at h9 hx
  rcases e with ⟨t', n', f | f | f⟩ | ⟨c, vs⟩
  · simp only [sk1, Sum.inl.injEq, Prod.mk.injEq] at h2
    obtain ⟨-, rfl, rfl, -⟩ := h2
    have e2 : iv mem r = f := by funext j; simp only [iv, h1]
    rw [e2, h1]
  · simp [sk1] at h2
  · simp [sk1] at h2
  · simp [sk1] at h2
theorem Sh.arrJ {mem : pw_M} (h : Sh mem) {r t n : Nat} (h9 : 9 ≤ r) (hx : SK[r - 9]? = some (.inl (1, t, n, []))) : mem[r]? = some (.inl (t, n, .inr (.inl (jv mem r)))) := by
  obtain ⟨e, h1, h2⟩ := h.at h9 hx
  rcases e with ⟨t', n', f | f | f⟩ | ⟨c, vs⟩
  · simp [sk1] at h2
  · simp only [sk1, Sum.inl.injEq, Prod.mk.injEq] at h2
    obtain ⟨-, rfl, rfl, -⟩ := h2
    have e2 : jv mem r = f := by funext j; simp only [jv, h1]
    rw [e2, h1]
  · simp [sk1] at h2
  · simp [sk1] at h2
theorem Sh.arrQ {mem : pw_M} (h : Sh mem) {r t n : Nat} {l : List (Option Nat)} (h9 : 9 ≤ r) (hx : SK[r - 9]? = some (.inl (2, t, n, l))) : ∃ f, mem[r]? = some (.inl (t, n, .inr (.inr f))) ∧ ∀ j, j < n → f j = l.getD j none := by
  obtain ⟨e, h1, h2⟩ := h.at h9 hx
  rcases e with ⟨t', n', f | f | f⟩ | ⟨c, vs⟩
  · simp [sk1] at h2
  · simp [sk1] at h2
  · simp only [sk1, Sum.inl.injEq, Prod.mk.injEq] at h2
    obtain ⟨-, rfl, rfl, rfl⟩ := h2
    exact ⟨f, h1, fun j hj => by simp [List.getD_eq_getElem?_getD, hj]⟩
  · simp [sk1] at h2
def skf (r ci j : Nat) : Option Value := match SK[r - 9]? with
  | some (.inr (c, vs)) => if c = ci then vs[j]? else none
  | _ => none
theorem Sh.obj {mem : pw_M} (h : Sh mem) {r ci j : Nat} {v : Value} (h9 : 9 ≤ r) (hx : skf r ci j = some v) : ∃ vs, mem[r]? = some (.inr (ci, vs)) ∧ (if ci = 5 then ((vs.map sv).set 9 .null).set 10 .null else vs.map sv)[j]? = some v := by
  unfold skf at hx
  cases hs : SK[r - 9]? with
  | none => rw [hs] at hx; cases hx
  | some x =>
    rw [hs] at hx
    rcases x with x | ⟨c, vs0⟩
    · cases hx
    · obtain ⟨e, h1, h2⟩ := h.at h9 hs
      by_cases hc : c = ci
      · subst hc
        simp only [if_pos] at hx
        rcases e with ⟨t', n', f | f | f⟩ | ⟨c', vs⟩
        · simp [sk1] at h2
        · simp [sk1] at h2
        · simp [sk1] at h2
        · simp only [sk1, Sum.inr.injEq, Prod.mk.injEq] at h2
          obtain ⟨rfl, rfl⟩ := h2
          exact ⟨vs, h1, hx⟩
      · simp only [if_neg hc] at hx
        cases hx
theorem skf_get {ci j : Nat} {vs : List Value} {v : Value} (hx : (if ci = 5 then ((vs.map sv).set 9 .null).set 10 .null else vs.map sv)[j]? = some v) (hv : v ≠ .null) : ∃ u, vs[j]? = some u ∧ sv u = v := by
  by_cases h5 : ci = 5
  · rw [if_pos h5, List.getElem?_set, List.getElem?_set] at hx
    by_cases h1 : 10 = j
    · rw [if_pos h1] at hx
      split at hx
      · cases hx; exact absurd rfl hv
      · cases hx
    · rw [if_neg h1] at hx
      by_cases h2 : 9 = j
      · rw [if_pos h2] at hx
        split at hx
        · cases hx; exact absurd rfl hv
        · cases hx
      · rw [if_neg h2, List.getElem?_map] at hx
        exact Option.map_eq_some_iff.mp hx
  · rw [if_neg h5, List.getElem?_map] at hx
    exact Option.map_eq_some_iff.mp hx
theorem Sh.int {mem : pw_M} (h : Sh mem) {r ci j : Nat} (h9 : 9 ≤ r) (hx : skf r ci j = some (.int 0)) : ∃ vs, mem[r]? = some (.inr (ci, vs)) ∧ vs[j]? = some (.int (fi mem r j)) := by
  obtain ⟨vs, h1, h2⟩ := h.obj h9 hx
  obtain ⟨u, h3, h4⟩ := skf_get h2 (fun e => by cases e)
  refine ⟨vs, h1, ?_⟩
  have e : fv mem r j = u := by simp only [fv, h1, List.getD_eq_getElem?_getD, h3]; rfl
  cases u <;> simp [sv] at h4
  simp only [fi, e, h3]
theorem Sh.long {mem : pw_M} (h : Sh mem) {r ci j : Nat} (h9 : 9 ≤ r) (hx : skf r ci j = some (.long 0)) : ∃ vs, mem[r]? = some (.inr (ci, vs)) ∧ vs[j]? = some (.long (fl mem r j)) := by
  obtain ⟨vs, h1, h2⟩ := h.obj h9 hx
  obtain ⟨u, h3, h4⟩ := skf_get h2 (fun e => by cases e)
  refine ⟨vs, h1, ?_⟩
  have e : fv mem r j = u := by simp only [fv, h1, List.getD_eq_getElem?_getD, h3]; rfl
  cases u <;> simp [sv] at h4
  simp only [fl, e, h3]
theorem Sh.ref {mem : pw_M} (h : Sh mem) {r ci j q : Nat} (h9 : 9 ≤ r) (hx : skf r ci j = some (.ref q)) : ∃ vs, mem[r]? = some (.inr (ci, vs)) ∧ vs[j]? = some (.ref q) := by
  obtain ⟨vs, h1, h2⟩ := h.obj h9 hx
  obtain ⟨u, h3, h4⟩ := skf_get h2 (fun e => by cases e)
  refine ⟨vs, h1, ?_⟩
  cases u <;> simp [sv] at h4
  rw [h3, h4]
/-- the object's cell, and a field that is no constant -/
theorem Sh.var {mem : pw_M} (h : Sh mem) {r ci j q : Nat} {v : Value} (h9 : 9 ≤ r) (hx : skf r ci j = some v) (hq : fv mem r j = .ref q) : ∃ vs, mem[r]? = some (.inr (ci, vs)) ∧ vs[j]? = some (.ref q) := by
  obtain ⟨vs, h1, h2⟩ := h.obj h9 hx
  refine ⟨vs, h1, ?_⟩
  have e : fv mem r j = vs.getD j .null := by simp only [fv, h1]
  rw [hq, List.getD_eq_getElem?_getD] at e
  cases hj : vs[j]? with
  | none => rw [hj] at e; cases e
  | some u => rw [hj] at e; exact congrArg some e.symm
theorem sk1_len {mem : pw_M} {r : Nat} {x : pw_E} : (mem.set r x).length = mem.length := List.length_set
theorem Sh.set {mem : pw_M} (h : Sh mem) {r : Nat} {x y : pw_E} (hr : mem[r]? = some x) (hxy : sk1 y = sk1 x) : Sh (mem.set r y) := by
  refine ⟨by rw [List.length_set]; exact h.1, ?_⟩
  rw [← h.2]
  apply List.ext_getElem?
  intro k
  rw [List.getElem?_map, List.getElem?_map, List.getElem?_drop, List.getElem?_drop, List.getElem?_set]
  by_cases e : r = 9 + k
  · subst e
    have hlt := (List.getElem?_eq_some_iff.mp hr).1
    rw [if_pos rfl, if_pos hlt, hr]
    simp only [Option.map_some, hxy]
  · rw [if_neg e]
theorem Sh.shI {mem : pw_M} (h : Sh mem) (r j : Nat) (x : Int32) : Sh (wI mem r j x) := by
  unfold wI
  split
  · rename_i t n f hr
    exact h.set hr rfl
  · exact h
theorem Sh.shJ {mem : pw_M} (h : Sh mem) (r j : Nat) (x : Int64) : Sh (wJ mem r j x) := by
  unfold wJ
  split
  · rename_i t n f hr
    exact h.set hr rfl
  · exact h
theorem set_sv {vs : List Value} {j : Nat} {u v : Value} (hj : vs[j]? = some u) (h : sv v = sv u) : (vs.set j v).map sv = vs.map sv := by
  apply List.ext_getElem?
  intro k
  rw [List.getElem?_map, List.getElem?_map, List.getElem?_set]
  by_cases e : j = k
  · subst e
    rw [if_pos rfl, if_pos (List.getElem?_eq_some_iff.mp hj).1, hj]
    simp only [Option.map_some, h]
  · rw [if_neg e]
theorem Sh.shFI {mem : pw_M} (h : Sh mem) {r ci j : Nat} (h9 : 9 ≤ r) (hx : skf r ci j = some (.int 0)) (x : Int32) : Sh (wF mem r j (.int x)) := by
  obtain ⟨vs, h1, h2⟩ := h.int h9 hx
  have e : wF mem r j (.int x) = mem.set r (.inr (ci, vs.set j (.int x))) := by simp only [wF, h1]
  rw [e]
  refine h.set h1 ?_
  simp only [sk1]
  rw [set_sv (v := .int x) h2 rfl]
theorem Sh.shFL {mem : pw_M} (h : Sh mem) {r ci j : Nat} (h9 : 9 ≤ r) (hx : skf r ci j = some (.long 0)) (x : Int64) : Sh (wF mem r j (.long x)) := by
  obtain ⟨vs, h1, h2⟩ := h.long h9 hx
  have e : wF mem r j (.long x) = mem.set r (.inr (ci, vs.set j (.long x))) := by simp only [wF, h1]
  rw [e]
  refine h.set h1 ?_
  simp only [sk1]
  rw [set_sv (v := .long x) h2 rfl]
theorem Sh.shFR {mem : pw_M} (h : Sh mem) {j : Nat} (hj : j = 9 ∨ j = 10) (v : Value) : Sh (wF mem 9 j v) := by
  obtain ⟨vs, h1, h2⟩ := h.obj (r := 9) (ci := 5) (j := 9) (by omega) rfl
  have e : wF mem 9 j v = mem.set 9 (.inr (5, vs.set j v)) := by simp only [wF, h1]
  rw [e]
  refine h.set h1 ?_
  simp only [sk1, if_pos]
  congr 2
  apply List.ext_getElem?
  intro k
  simp only [List.getElem?_set, List.getElem?_map, List.length_set, List.length_map]
  rcases hj with rfl | rfl <;> by_cases e1 : 9 = k <;> by_cases e2 : 10 = k <;> simp [e1, e2] <;> omega
theorem get_set_ne {mem : pw_M} {r r' : Nat} {x : pw_E} (h : r' ≠ r) : (mem.set r x)[r']? = mem[r']? := by rw [List.getElem?_set, if_neg (fun e => h e.symm)]
theorem get_set_eq {mem : pw_M} {r : Nat} {x y : pw_E} (h : mem[r]? = some y) : (mem.set r x)[r]? = some x := by rw [List.getElem?_set, if_pos rfl, if_pos (List.getElem?_eq_some_iff.mp h).1]
theorem iv_wI_ne {mem : pw_M} {r r' j j' : Nat} {x : Int32} (h : r' ≠ r) : iv (wI mem r j x) r' j' = iv mem r' j' := by
  unfold wI
  split
  · simp only [iv, get_set_ne h]
  · rfl
theorem iv_wJ {mem : pw_M} {r r' j j' : Nat} {x : Int64} : iv (wJ mem r j x) r' j' = iv mem r' j' := by
  unfold wJ
  split
  · rename_i t n f hr
    by_cases e : r' = r
    · subst e
      simp only [iv, get_set_eq hr, hr]
    · simp only [iv, get_set_ne e]
  · rfl
theorem iv_wF {mem : pw_M} {r r' j j' : Nat} {v : Value} : iv (wF mem r j v) r' j' = iv mem r' j' := by
  unfold wF
  split
  · rename_i c vs hr
    by_cases e : r' = r
    · subst e
      simp only [iv, get_set_eq hr, hr]
    · simp only [iv, get_set_ne e]
  · rfl
theorem jv_wI {mem : pw_M} {r r' j j' : Nat} {x : Int32} : jv (wI mem r j x) r' j' = jv mem r' j' := by
  unfold wI
  split
  · rename_i t n f hr
    by_cases e : r' = r
    · subst e
      simp only [jv, get_set_eq hr, hr]
    · simp only [jv, get_set_ne e]
  · rfl
theorem jv_wJ_ne {mem : pw_M} {r r' j j' : Nat} {x : Int64} (h : r' ≠ r) : jv (wJ mem r j x) r' j' = jv mem r' j' := by
  unfold wJ
  split
  · simp only [jv, get_set_ne h]
  · rfl
theorem jv_wF {mem : pw_M} {r r' j j' : Nat} {v : Value} : jv (wF mem r j v) r' j' = jv mem r' j' := by
  unfold wF
  split
  · rename_i c vs hr
    by_cases e : r' = r
    · subst e
      simp only [jv, get_set_eq hr, hr]
    · simp only [jv, get_set_ne e]
  · rfl
theorem fv_wI {mem : pw_M} {r r' j j' : Nat} {x : Int32} : fv (wI mem r j x) r' j' = fv mem r' j' := by
  unfold wI
  split
  · rename_i t n f hr
    by_cases e : r' = r
    · subst e
      simp only [fv, get_set_eq hr, hr]
    · simp only [fv, get_set_ne e]
  · rfl
theorem fv_wJ {mem : pw_M} {r r' j j' : Nat} {x : Int64} : fv (wJ mem r j x) r' j' = fv mem r' j' := by
  unfold wJ
  split
  · rename_i t n f hr
    by_cases e : r' = r
    · subst e
      simp only [fv, get_set_eq hr, hr]
    · simp only [fv, get_set_ne e]
  · rfl
theorem fv_wF_ne {mem : pw_M} {r r' j j' : Nat} {v : Value} (h : r' ≠ r ∨ j' ≠ j) : fv (wF mem r j v) r' j' = fv mem r' j' := by
  unfold wF
  split
  · rename_i c vs hr
    by_cases e : r' = r
    · subst e
      have hj : j' ≠ j := h.resolve_left (fun q => q rfl)
      simp only [fv, get_set_eq hr, hr, List.getD_eq_getElem?_getD, List.getElem?_set, if_neg (fun q : j = j' => hj q.symm)]
    · simp only [fv, get_set_ne e]
  · rfl
theorem fi_wI {mem : pw_M} {r r' j j' : Nat} {x : Int32} : fi (wI mem r j x) r' j' = fi mem r' j' := by simp only [fi, fv_wI]
theorem fi_wJ {mem : pw_M} {r r' j j' : Nat} {x : Int64} : fi (wJ mem r j x) r' j' = fi mem r' j' := by simp only [fi, fv_wJ]
theorem fl_wI {mem : pw_M} {r r' j j' : Nat} {x : Int32} : fl (wI mem r j x) r' j' = fl mem r' j' := by simp only [fl, fv_wI]
theorem fl_wJ {mem : pw_M} {r r' j j' : Nat} {x : Int64} : fl (wJ mem r j x) r' j' = fl mem r' j' := by simp only [fl, fv_wJ]
theorem fi_wF_ne {mem : pw_M} {r r' j j' : Nat} {v : Value} (h : r' ≠ r ∨ j' ≠ j) : fi (wF mem r j v) r' j' = fi mem r' j' := by simp only [fi, fv_wF_ne h]
theorem fl_wF_ne {mem : pw_M} {r r' j j' : Nat} {v : Value} (h : r' ≠ r ∨ j' ≠ j) : fl (wF mem r j v) r' j' = fl mem r' j' := by simp only [fl, fv_wF_ne h]
theorem Sh.iv_wI {mem : pw_M} (h : Sh mem) {r t n j j' : Nat} {x : Int32} (h9 : 9 ≤ r) (hx : SK[r - 9]? = some (.inl (0, t, n, []))) : iv (wI mem r j x) r j' = if j' = j then x else iv mem r j' := by
  have hr := h.arr h9 hx
  have e : wI mem r j x = mem.set r (.inl (t, n, .inl (upd (iv mem r) j x))) := by simp only [wI, hr]
  rw [e]
  simp only [iv, get_set_eq hr, upd]
theorem Sh.jv_wJ {mem : pw_M} (h : Sh mem) {r t n j j' : Nat} {x : Int64} (h9 : 9 ≤ r) (hx : SK[r - 9]? = some (.inl (1, t, n, []))) : jv (wJ mem r j x) r j' = if j' = j then x else jv mem r j' := by
  have hr := h.arrJ h9 hx
  have e : wJ mem r j x = mem.set r (.inl (t, n, .inr (.inl (vp_updL (jv mem r) j x)))) := by simp only [wJ, hr]
  rw [e]
  simp only [jv, get_set_eq hr, vp_updL]
theorem Sh.fv_wF {mem : pw_M} (h : Sh mem) {r ci j : Nat} {u v : Value} (h9 : 9 ≤ r) (hx : skf r ci j = some u) : fv (wF mem r j v) r j = v := by
  obtain ⟨vs, h1, h2⟩ := h.obj h9 hx
  have e : wF mem r j v = mem.set r (.inr (ci, vs.set j v)) := by simp only [wF, h1]
  have hl : j < vs.length := by
    have := (List.getElem?_eq_some_iff.mp h2).1
    by_cases h5 : ci = 5
    · rw [if_pos h5] at this; simpa using this
    · rw [if_neg h5] at this; simpa using this
  rw [e]
  simp only [fv, get_set_eq h1, List.getD_eq_getElem?_getD, List.getElem?_set, if_pos rfl, if_pos hl]
  rfl
theorem Sh.fi_wF {mem : pw_M} (h : Sh mem) {r ci j : Nat} {u : Value} {x : Int32} (h9 : 9 ≤ r) (hx : skf r ci j = some u) : fi (wF mem r j (.int x)) r j = x := by simp only [fi, h.fv_wF h9 hx]
theorem Sh.fl_wF {mem : pw_M} (h : Sh mem) {r ci j : Nat} {u : Value} {x : Int64} (h9 : 9 ≤ r) (hx : skf r ci j = some u) : fl (wF mem r j (.long x)) r j = x := by simp only [fl, h.fv_wF h9 hx]
section PWA
variable {l : Launch} {G : pw_G} {Y : pw_Y} {R : Room} {mc ms k n pc : Nat} {ls : List (Nat × Value)} {st : List Value} {mem : pw_M} {Q : Option Value → pw_M → Prop}
theorem PW.gI {idx ci j r : Nat} {x : Int32} (hS : Sh mem) (h9 : 9 ≤ r) (hr : skf r ci j = some (.int 0)) (hv : fi mem r j = x) (hs : pw_F Y.1.cls idx ci j) (d : decode Y.2.1 pc = .ok (.getfield idx, 3)) (kk : PW (l, G, Y, R, mc, ms) k n (pc + 3) ls (.int x :: st) mem Q) : PW (l, G, Y, R, mc, ms) k n pc ls (.ref r :: st) mem Q := by
  obtain ⟨vs, h1, h2⟩ := hS.int h9 hr
  exact PW.get hs h9 h1 h2 d (by rw [hv]; exact kk)
theorem PW.gL {idx ci j r : Nat} {x : Int64} (hS : Sh mem) (h9 : 9 ≤ r) (hr : skf r ci j = some (.long 0)) (hv : fl mem r j = x) (hs : pw_F Y.1.cls idx ci j) (d : decode Y.2.1 pc = .ok (.getfield idx, 3)) (kk : PW (l, G, Y, R, mc, ms) k n (pc + 3) ls (.long x :: st) mem Q) : PW (l, G, Y, R, mc, ms) k n pc ls (.ref r :: st) mem Q := by
  obtain ⟨vs, h1, h2⟩ := hS.long h9 hr
  exact PW.get hs h9 h1 h2 d (by rw [hv]; exact kk)
theorem PW.gR {idx ci j r q : Nat} (hS : Sh mem) (h9 : 9 ≤ r) (hr : skf r ci j = some (.ref q)) (hs : pw_F Y.1.cls idx ci j) (d : decode Y.2.1 pc = .ok (.getfield idx, 3)) (kk : PW (l, G, Y, R, mc, ms) k n (pc + 3) ls (.ref q :: st) mem Q) : PW (l, G, Y, R, mc, ms) k n pc ls (.ref r :: st) mem Q := by
  obtain ⟨vs, h1, h2⟩ := hS.ref h9 hr
  exact PW.get hs h9 h1 h2 d kk
theorem PW.gV {idx ci j r q : Nat} {v : Value} (hS : Sh mem) (h9 : 9 ≤ r) (hr : skf r ci j = some v) (hq : fv mem r j = .ref q) (hs : pw_F Y.1.cls idx ci j) (d : decode Y.2.1 pc = .ok (.getfield idx, 3)) (kk : PW (l, G, Y, R, mc, ms) k n (pc + 3) ls (.ref q :: st) mem Q) : PW (l, G, Y, R, mc, ms) k n pc ls (.ref r :: st) mem Q := by
  obtain ⟨vs, h1, h2⟩ := hS.var h9 hr hq
  exact PW.get hs h9 h1 h2 d kk
theorem PW.pI {idx ci j r : Nat} {x : Int32} (hS : Sh mem) (h9 : 9 ≤ r) (hr : skf r ci j = some (.int 0)) (hs : pw_FP Y.1.cls idx ci j .int false) (d : decode Y.2.1 pc = .ok (.putfield idx, 3)) (kk : PW (l, G, Y, R, mc, ms) k n (pc + 3) ls st (wF mem r j (.int x)) Q) : PW (l, G, Y, R, mc, ms) k n pc ls (.int x :: .ref r :: st) mem Q := by
  obtain ⟨vs, h1, h2⟩ := hS.int h9 hr
  have e : wF mem r j (.int x) = mem.set r (.inr (ci, vs.set j (.int x))) := by simp only [wF, h1]
  rw [e] at kk
  exact PW.put hs (fun G => ⟨rfl, rfl⟩) h9 h1 (List.getElem?_eq_some_iff.mp h2).1 d kk
theorem PW.pL {idx ci j r : Nat} {x : Int64} (hS : Sh mem) (h9 : 9 ≤ r) (hr : skf r ci j = some (.long 0)) (hs : pw_FP Y.1.cls idx ci j .long false) (d : decode Y.2.1 pc = .ok (.putfield idx, 3)) (kk : PW (l, G, Y, R, mc, ms) k n (pc + 3) ls st (wF mem r j (.long x)) Q) : PW (l, G, Y, R, mc, ms) k n pc ls (.long x :: .ref r :: st) mem Q := by
  obtain ⟨vs, h1, h2⟩ := hS.long h9 hr
  have e : wF mem r j (.long x) = mem.set r (.inr (ci, vs.set j (.long x))) := by simp only [wF, h1]
  rw [e] at kk
  exact PW.put hs (fun G => ⟨rfl, rfl⟩) h9 h1 (List.getElem?_eq_some_iff.mp h2).1 d kk
theorem PW.aI {r N j : Nat} {i x : Int32} (hS : Sh mem) (h9 : 9 ≤ r) (hr : SK[r - 9]? = some (.inl (0, 0, N, []))) (hi : i = nI j) (hj : j < N ∧ N < 1000) (hv : iv mem r j = x) (d : decode Y.2.1 pc = .ok (.iaload, 1)) (kk : PW (l, G, Y, R, mc, ms) k n (pc + 1) ls (.int x :: st) mem Q) : PW (l, G, Y, R, mc, ms) k n pc ls (.int i :: .ref r :: st) mem Q := by
  subst hi
  have hc : (nI j).toNatClampNeg = j := nI_clamp (by omega)
  refine PW.iald (hS.arr h9 hr) (vp_in_nI hj.1 (by omega)) d ?_
  rw [hc, hv]
  exact kk
theorem PW.aZ {r N j : Nat} {i x : Int32} (hS : Sh mem) (h9 : 9 ≤ r) (hr : SK[r - 9]? = some (.inl (0, 1, N, []))) (hi : i = nI j) (hj : j < N ∧ N < 1000) (hv : iv mem r j = x) (d : decode Y.2.1 pc = .ok (.baload, 1)) (kk : PW (l, G, Y, R, mc, ms) k n (pc + 1) ls (.int x :: st) mem Q) : PW (l, G, Y, R, mc, ms) k n pc ls (.int i :: .ref r :: st) mem Q := by
  subst hi
  have hc : (nI j).toNatClampNeg = j := nI_clamp (by omega)
  refine PW.zald h9 (hS.arr h9 hr) (vp_in_nI hj.1 (by omega)) d ?_
  rw [hc, hv]
  exact kk
theorem PW.aL {r N j : Nat} {i : Int32} {x : Int64} (hS : Sh mem) (h9 : 9 ≤ r) (hr : SK[r - 9]? = some (.inl (1, 2, N, []))) (hi : i = nI j) (hj : j < N ∧ N < 1000) (hv : jv mem r j = x) (d : decode Y.2.1 pc = .ok (.laload, 1)) (kk : PW (l, G, Y, R, mc, ms) k n (pc + 1) ls (.long x :: st) mem Q) : PW (l, G, Y, R, mc, ms) k n pc ls (.int i :: .ref r :: st) mem Q := by
  subst hi
  have hc : (nI j).toNatClampNeg = j := nI_clamp (by omega)
  refine PW.lald h9 (hS.arrJ h9 hr) (vp_in_nI hj.1 (by omega)) d ?_
  rw [hc, hv]
  exact kk
theorem PW.aQ {r N j q : Nat} {i : Int32} {t0 : Nat} {ty : FieldType} {ql : List (Option Nat)} (hS : Sh mem) (h9 : 9 ≤ r) (hr : SK[r - 9]? = some (.inl (2, t0, N, ql))) (ht : ∀ G : pw_G, (pw_tys G)[t0]? = some (G.2.1 t0, ty)) (hty : ty.isReference = true) (hi : i = nI j) (hj : j < N ∧ N < 1000) (hq : ql.getD j none = some q) (d : decode Y.2.1 pc = .ok (.aaload, 1)) (kk : PW (l, G, Y, R, mc, ms) k n (pc + 1) ls (.ref q :: st) mem Q) : PW (l, G, Y, R, mc, ms) k n pc ls (.int i :: .ref r :: st) mem Q := by
  subst hi
  have hc : (nI j).toNatClampNeg = j := nI_clamp (by omega)
  obtain ⟨f, h1, h2⟩ := hS.arrQ h9 hr
  exact PW.aald h9 h1 ht hty (vp_in_nI hj.1 (by omega)) (by rw [hc, h2 j hj.1]; exact hq) d kk
theorem PW.sI {r N j : Nat} {i x : Int32} (hS : Sh mem) (h9 : 9 ≤ r) (hr : SK[r - 9]? = some (.inl (0, 0, N, []))) (hi : i = nI j) (hj : j < N ∧ N < 1000) (d : decode Y.2.1 pc = .ok (.iastore, 1)) (kk : PW (l, G, Y, R, mc, ms) k n (pc + 1) ls st (wI mem r j x) Q) : PW (l, G, Y, R, mc, ms) k n pc ls (.int x :: .int i :: .ref r :: st) mem Q := by
  subst hi
  have hc : (nI j).toNatClampNeg = j := nI_clamp (by omega)
  have h1 := hS.arr h9 hr
  have e : wI mem r j x = mem.set r (.inl (0, N, .inl (upd (iv mem r) j x))) := by simp only [wI, h1]
  rw [e] at kk
  exact PW.iast h9 h1 (vp_in_nI hj.1 (by omega)) d (by rw [hc]; exact kk)
theorem PW.sZ {r N j : Nat} {i x : Int32} (hS : Sh mem) (h9 : 9 ≤ r) (hr : SK[r - 9]? = some (.inl (0, 1, N, []))) (hi : i = nI j) (hj : j < N ∧ N < 1000) (hx : vp_nar .boolean x = x) (d : decode Y.2.1 pc = .ok (.bastore, 1)) (kk : PW (l, G, Y, R, mc, ms) k n (pc + 1) ls st (wI mem r j x) Q) : PW (l, G, Y, R, mc, ms) k n pc ls (.int x :: .int i :: .ref r :: st) mem Q := by
  subst hi
  have hc : (nI j).toNatClampNeg = j := nI_clamp (by omega)
  have h1 := hS.arr h9 hr
  have e : wI mem r j x = mem.set r (.inl (1, N, .inl (upd (iv mem r) j x))) := by simp only [wI, h1]
  rw [e] at kk
  exact PW.zast h9 h1 (vp_in_nI hj.1 (by omega)) d (by rw [hc, hx]; exact kk)
theorem PW.sL {r N j : Nat} {i : Int32} {x : Int64} (hS : Sh mem) (h9 : 9 ≤ r) (hr : SK[r - 9]? = some (.inl (1, 2, N, []))) (hi : i = nI j) (hj : j < N ∧ N < 1000) (d : decode Y.2.1 pc = .ok (.lastore, 1)) (kk : PW (l, G, Y, R, mc, ms) k n (pc + 1) ls st (wJ mem r j x) Q) : PW (l, G, Y, R, mc, ms) k n pc ls (.long x :: .int i :: .ref r :: st) mem Q := by
  subst hi
  have hc : (nI j).toNatClampNeg = j := nI_clamp (by omega)
  have h1 := hS.arrJ h9 hr
  have e : wJ mem r j x = mem.set r (.inl (2, N, .inr (.inl (vp_updL (jv mem r) j x)))) := by simp only [wJ, h1]
  rw [e] at kk
  exact PW.last h9 h1 (vp_in_nI hj.1 (by omega)) d (by rw [hc]; exact kk)
theorem PW.cV {Y' : pw_Y} {h' idx nA b : Nat} {ci j : Nat} {st0 : List Value} {r : Option Value} {mem1 : pw_M} {u : Value} (av : List Value) (hS : Sh mem) (h9 : 9 ≤ b) (hb : skf b ci j = some u) (hs : pw_CV Y.1.cls idx Y' nA) (hM : Rf h' Y' (.ref b :: av) mem r mem1) (hst : st0 = av.reverse ++ .ref b :: st) (hn : av.length = nA) (hr : (st.map fun v => v.category).sum ≤ 8) (hC : vwCl[ci]?.map (fun q => q.1) = some Y'.1.cls)
    (hh : h' + 1 ≤ R.frames ∧ 100 * h' + 100 ≤ R.locals) (hc : k ≤ R.cells ∧ n ≤ R.slots) (d : decode Y.2.1 pc = .ok (.invokevirtual idx, 3)) (kk : PW (l, G, Y, R, mc, ms) k n (pc + 3) ls (r.toList ++ st) mem1 Q) : PW (l, G, Y, R, mc, ms) k n pc ls st0 mem Q := by
  obtain ⟨vs, h1, h2⟩ := hS.obj h9 hb
  exact PW.callV av hs hM hst hn hr h9 h1 hC hh hc d (fun v m1 q => by obtain ⟨rfl, rfl⟩ := q; exact kk)
theorem PW.cS {Y' : pw_Y} {h' idx nA : Nat} {st0 : List Value} {r : Option Value} {mem1 : pw_M} (av : List Value) (hs : pw_CS Y.1.cls idx Y' nA) (hM : Rf h' Y' av mem r mem1) (hst : st0 = av.reverse ++ st) (hn : av.length = nA) (hr : (st.map fun v => v.category).sum ≤ 8)
    (hh : h' + 1 ≤ R.frames ∧ 100 * h' + 100 ≤ R.locals) (hc : k ≤ R.cells ∧ n ≤ R.slots) (d : decode Y.2.1 pc = .ok (.invokestatic idx, 3)) (kk : PW (l, G, Y, R, mc, ms) k n (pc + 3) ls (r.toList ++ st) mem1 Q) : PW (l, G, Y, R, mc, ms) k n pc ls st0 mem Q :=
  PW.callS av hs hM hst hn hr hh hc d (fun v m1 q => by obtain ⟨rfl, rfl⟩ := q; exact kk)
theorem PW.cSN {Y' : pw_Y} {h' idx nA : Nat} {host : String} {st0 : List Value} {r : Option Value} {mem1 : pw_M} (av : List Value) (hs : pw_CSN Y.1.cls idx Y' nA host) (hM : Rf h' Y' av mem r mem1) (hst : st0 = av.reverse ++ st) (hn : av.length = nA) (hr : (st.map fun v => v.category).sum ≤ 8)
    (hh : h' + 1 ≤ R.frames ∧ 100 * h' + 100 ≤ R.locals) (hc : k ≤ R.cells ∧ n ≤ R.slots) (d : decode Y.2.1 pc = .ok (.invokestatic idx, 3)) (kk : PW (l, G, Y, R, mc, ms) k n (pc + 3) ls (r.toList ++ st) mem1 Q) : PW (l, G, Y, R, mc, ms) k n pc ls st0 mem Q :=
  PW.callSN av hs hM hst hn hr hh hc d (fun v m1 q => by obtain ⟨rfl, rfl⟩ := q; exact kk)
/-- a loop that counts up: P j is the state at its head -/
theorem PW.up {X : pw_X} {k n pc : Nat} {Q : Option Value → pw_M → Prop} (P : Nat → List (Nat × Value)) (M : Nat → pw_M) (N : Nat) (hs : ∀ j, j < N → PW X k n pc (P (j + 1)) [] (M (j + 1)) Q → PW X k n pc (P j) [] (M j) Q) (hx : PW X k n pc (P N) [] (M N) Q) : PW X k n pc (P 0) [] (M 0) Q := by
  have key : ∀ i, i ≤ N → PW X k n pc (P (N - i)) [] (M (N - i)) Q := by
    intro i
    induction i with
    | zero => intro _; exact hx
    | succ i ih =>
      intro hi
      have h1 := ih (by omega)
      have e : N - i = (N - (i + 1)) + 1 := by omega
      rw [e] at h1
      exact hs (N - (i + 1)) (by omega) h1
  have h0 := key N (Nat.le_refl N)
  rw [Nat.sub_self] at h0
  exact h0
end PWA
end
section
def ro (xs : List Int32) : Nat → Int32 := fun j => xs.getD j 0
/-- the eight static rows of Text -/
def RO8 : List pw_E := [.inl (0, 4, .inl (ro [0, 1, 2, 5])), .inl (0, 2, .inl (ro [6, 7])), .inl (0, 3, .inl (ro [6, 7, 4])), .inl (0, 3, .inl (ro [6, 7, 3])), .inl (0, 4, .inl (ro [3, 4, 2, 6])), .inl (0, 0, .inl (ro [])), .inl (0, 5, .inl (ro [1, 0, 0, 0, 1])), .inl (0, 5, .inl (ro [20, 63, 9, 5, 5]))]
/-- what stands between calls and within them: the shape, which realm is told (b) and which is spare (s), the rows that nobody writes, the script -/
def St (b s : Nat) (sc : pw_E) (mem : pw_M) : Prop := Sh mem ∧ fv mem 9 9 = .ref b ∧ fv mem 9 10 = .ref s ∧ ((b = 49 ∧ s = 72) ∨ (b = 72 ∧ s = 49)) ∧ mem.take 9 = RO8 ++ [sc]
theorem St.b {b s : Nat} {sc : pw_E} {mem : pw_M} (h : St b s sc mem) : b = 49 ∨ b = 72 := h.2.2.2.1.elim (fun q => Or.inl q.1) (fun q => Or.inr q.1)
theorem St.s {b s : Nat} {sc : pw_E} {mem : pw_M} (h : St b s sc mem) : s = 49 ∨ s = 72 := h.2.2.2.1.elim (fun q => Or.inr q.2) (fun q => Or.inl q.2)
theorem St.ne {b s : Nat} {sc : pw_E} {mem : pw_M} (h : St b s sc mem) : b ≠ s := by rcases h.2.2.2.1 with ⟨rfl, rfl⟩ | ⟨rfl, rfl⟩ <;> decide
theorem St.far {b s : Nat} {sc : pw_E} {mem : pw_M} (h : St b s sc mem) : b + 23 = s ∨ s + 23 = b := by rcases h.2.2.2.1 with ⟨rfl, rfl⟩ | ⟨rfl, rfl⟩ <;> decide
theorem St.ro {b s : Nat} {sc : pw_E} {mem : pw_M} (h : St b s sc mem) {r : Nat} (hr : r < 9) : mem[r]? = (RO8 ++ [sc])[r]? := by rw [← h.2.2.2.2, List.getElem?_take, if_pos hr]
theorem take_set {mem : pw_M} {r : Nat} {x : pw_E} (h : 9 ≤ r) : (mem.set r x).take 9 = mem.take 9 := by
  apply List.ext_getElem?
  intro k
  rw [List.getElem?_take, List.getElem?_take, List.getElem?_set]
  by_cases hk : k < 9
  · rw [if_pos hk, if_pos hk, if_neg (by omega)]
  · rw [if_neg hk, if_neg hk]
theorem St.wI {b s : Nat} {sc : pw_E} {mem : pw_M} (h : St b s sc mem) {r : Nat} (h9 : 9 ≤ r) (j : Nat) (x : Int32) : St b s sc (wI mem r j x) := by
  refine ⟨h.1.shI r j x, by rw [fv_wI]; exact h.2.1, by rw [fv_wI]; exact h.2.2.1, h.2.2.2.1, ?_⟩
  rw [← h.2.2.2.2]
  unfold _root_.Jvm.Pilot.@@N@@.wI
  split
  · exact take_set h9
  · rfl
theorem St.wJ {b s : Nat} {sc : pw_E} {mem : pw_M} (h : St b s sc mem) {r : Nat} (h9 : 9 ≤ r) (j : Nat) (x : Int64) : St b s sc (wJ mem r j x) := by
  refine ⟨h.1.shJ r j x, by rw [fv_wJ]; exact h.2.1, by rw [fv_wJ]; exact h.2.2.1, h.2.2.2.1, ?_⟩
  rw [← h.2.2.2.2]
  unfold _root_.Jvm.Pilot.@@N@@.wJ
  split
  · exact take_set h9
  · rfl
theorem wF_take {mem : pw_M} {r j : Nat} {v : Value} (h9 : 9 ≤ r) : (wF mem r j v).take 9 = mem.take 9 := by
  unfold wF
  split
  · exact take_set h9
  · rfl
theorem St.wFI {b s : Nat} {sc : pw_E} {mem : pw_M} (h : St b s sc mem) {r ci j : Nat} (h9 : 9 ≤ r) (hx : skf r ci j = some (.int 0)) (x : Int32) : St b s sc (wF mem r j (.int x)) := by
  have hne : ∀ i, i = 9 ∨ i = 10 → (9 : Nat) ≠ r ∨ i ≠ j := fun i hi => by
    by_cases hr : 9 = r
    · right
      subst hr
      intro e
      subst e
      rcases hi with rfl | rfl <;> (simp only [skf, SK] at hx; revert hx; simp)
    · exact Or.inl hr
  exact ⟨h.1.shFI h9 hx x, by rw [fv_wF_ne (hne 9 (Or.inl rfl))]; exact h.2.1, by rw [fv_wF_ne (hne 10 (Or.inr rfl))]; exact h.2.2.1, h.2.2.2.1, by rw [wF_take h9]; exact h.2.2.2.2⟩
theorem St.wFL {b s : Nat} {sc : pw_E} {mem : pw_M} (h : St b s sc mem) {r ci j : Nat} (h9 : 9 ≤ r) (hx : skf r ci j = some (.long 0)) (x : Int64) : St b s sc (wF mem r j (.long x)) := by
  have hne : ∀ i, i = 9 ∨ i = 10 → (9 : Nat) ≠ r ∨ i ≠ j := fun i hi => by
    by_cases hr : 9 = r
    · right
      subst hr
      intro e
      subst e
      rcases hi with rfl | rfl <;> (simp only [skf, SK] at hx; revert hx; simp)
    · exact Or.inl hr
  exact ⟨h.1.shFL h9 hx x, by rw [fv_wF_ne (hne 9 (Or.inl rfl))]; exact h.2.1, by rw [fv_wF_ne (hne 10 (Or.inr rfl))]; exact h.2.2.1, h.2.2.2.1, by rw [wF_take h9]; exact h.2.2.2.2⟩
def bI (c : Bool) : Int32 := if c then 1 else 0
theorem bI_t : bI true = 1 := rfl
theorem bI_f : bI false = 0 := rfl
theorem bI_n (c : Bool) : bI c = nI (if c then 1 else 0) := by cases c <;> rfl
theorem bI_eq0 {c : Bool} : bI c = 0 ↔ c = false := by cases c <;> decide
theorem bI_nar (c : Bool) : narrow .boolean (.int (bI c)) = .int (bI c) := by cases c <;> rfl
theorem bI_vp (c : Bool) : vp_nar .boolean (bI c) = bI c := by cases c <;> rfl
theorem bI_ret {p : Prop} (inst : Decidable p) : (if p then (1 : Int32) else 0) = bI (decide p) := by by_cases h : p <;> simp [bI, h]
theorem skR0 {b : Nat} (hb : b = 49 ∨ b = 72) : skf b 2 0 = some (.int 0) := by rcases hb with rfl | rfl <;> rfl
theorem skR1 {b : Nat} (hb : b = 49 ∨ b = 72) : skf b 2 1 = some (.int 0) := by rcases hb with rfl | rfl <;> rfl
theorem skR2 {b : Nat} (hb : b = 49 ∨ b = 72) : skf b 2 2 = some (.int 0) := by rcases hb with rfl | rfl <;> rfl
theorem skR3 {b : Nat} (hb : b = 49 ∨ b = 72) : skf b 2 3 = some (.ref (b + 1)) := by rcases hb with rfl | rfl <;> rfl
theorem skR4 {b : Nat} (hb : b = 49 ∨ b = 72) : skf b 2 4 = some (.ref (b + 2)) := by rcases hb with rfl | rfl <;> rfl
theorem skR5 {b : Nat} (hb : b = 49 ∨ b = 72) : skf b 2 5 = some (.ref (b + 3)) := by rcases hb with rfl | rfl <;> rfl
theorem skR6 {b : Nat} (hb : b = 49 ∨ b = 72) : skf b 2 6 = some (.ref (b + 4)) := by rcases hb with rfl | rfl <;> rfl
theorem skR7 {b : Nat} (hb : b = 49 ∨ b = 72) : skf b 2 7 = some (.ref (b + 5)) := by rcases hb with rfl | rfl <;> rfl
theorem skR8 {b : Nat} (hb : b = 49 ∨ b = 72) : skf b 2 8 = some (.ref (b + 6)) := by rcases hb with rfl | rfl <;> rfl
theorem skR9 {b : Nat} (hb : b = 49 ∨ b = 72) : skf b 2 9 = some (.ref (b + 7)) := by rcases hb with rfl | rfl <;> rfl
theorem skR10 {b : Nat} (hb : b = 49 ∨ b = 72) : skf b 2 10 = some (.ref (b + 8)) := by rcases hb with rfl | rfl <;> rfl
theorem skR11 {b : Nat} (hb : b = 49 ∨ b = 72) : skf b 2 11 = some (.ref (b + 9)) := by rcases hb with rfl | rfl <;> rfl
theorem skR12 {b : Nat} (hb : b = 49 ∨ b = 72) : skf b 2 12 = some (.ref (b + 10)) := by rcases hb with rfl | rfl <;> rfl
theorem skR13 {b : Nat} (hb : b = 49 ∨ b = 72) : skf b 2 13 = some (.ref (b + 17)) := by rcases hb with rfl | rfl <;> rfl
theorem skR14 {b : Nat} (hb : b = 49 ∨ b = 72) : skf b 2 14 = some (.ref (b + 18)) := by rcases hb with rfl | rfl <;> rfl
theorem skR15 {b : Nat} (hb : b = 49 ∨ b = 72) : skf b 2 15 = some (.ref (b + 19)) := by rcases hb with rfl | rfl <;> rfl
theorem skR16 {b : Nat} (hb : b = 49 ∨ b = 72) : skf b 2 16 = some (.ref (b + 20)) := by rcases hb with rfl | rfl <;> rfl
theorem skR17 {b : Nat} (hb : b = 49 ∨ b = 72) : skf b 2 17 = some (.ref (b + 21)) := by rcases hb with rfl | rfl <;> rfl
theorem skR18 {b : Nat} (hb : b = 49 ∨ b = 72) : skf b 2 18 = some (.ref (b + 22)) := by rcases hb with rfl | rfl <;> rfl
theorem akR1 {b : Nat} (hb : b = 49 ∨ b = 72) : SK[b + 1 - 9]? = some (.inl (0, 0, 6, [])) := by rcases hb with rfl | rfl <;> rfl
theorem akR2 {b : Nat} (hb : b = 49 ∨ b = 72) : SK[b + 2 - 9]? = some (.inl (0, 0, 6, [])) := by rcases hb with rfl | rfl <;> rfl
theorem akR3 {b : Nat} (hb : b = 49 ∨ b = 72) : SK[b + 3 - 9]? = some (.inl (0, 0, 6, [])) := by rcases hb with rfl | rfl <;> rfl
theorem akR4 {b : Nat} (hb : b = 49 ∨ b = 72) : SK[b + 4 - 9]? = some (.inl (0, 0, 6, [])) := by rcases hb with rfl | rfl <;> rfl
theorem akR5 {b : Nat} (hb : b = 49 ∨ b = 72) : SK[b + 5 - 9]? = some (.inl (0, 0, 6, [])) := by rcases hb with rfl | rfl <;> rfl
theorem akR6 {b : Nat} (hb : b = 49 ∨ b = 72) : SK[b + 6 - 9]? = some (.inl (0, 0, 6, [])) := by rcases hb with rfl | rfl <;> rfl
theorem akR7 {b : Nat} (hb : b = 49 ∨ b = 72) : SK[b + 7 - 9]? = some (.inl (0, 0, 6, [])) := by rcases hb with rfl | rfl <;> rfl
theorem akR8 {b : Nat} (hb : b = 49 ∨ b = 72) : SK[b + 8 - 9]? = some (.inl (0, 0, 6, [])) := by rcases hb with rfl | rfl <;> rfl
theorem akR9 {b : Nat} (hb : b = 49 ∨ b = 72) : SK[b + 9 - 9]? = some (.inl (0, 0, 6, [])) := by rcases hb with rfl | rfl <;> rfl
theorem akR11 {b : Nat} (hb : b = 49 ∨ b = 72) : SK[b + 11 - 9]? = some (.inl (0, 0, 6, [])) := by rcases hb with rfl | rfl <;> rfl
theorem akR12 {b : Nat} (hb : b = 49 ∨ b = 72) : SK[b + 12 - 9]? = some (.inl (0, 0, 6, [])) := by rcases hb with rfl | rfl <;> rfl
theorem akR13 {b : Nat} (hb : b = 49 ∨ b = 72) : SK[b + 13 - 9]? = some (.inl (0, 0, 6, [])) := by rcases hb with rfl | rfl <;> rfl
theorem akR14 {b : Nat} (hb : b = 49 ∨ b = 72) : SK[b + 14 - 9]? = some (.inl (0, 0, 6, [])) := by rcases hb with rfl | rfl <;> rfl
theorem akR15 {b : Nat} (hb : b = 49 ∨ b = 72) : SK[b + 15 - 9]? = some (.inl (0, 0, 6, [])) := by rcases hb with rfl | rfl <;> rfl
theorem akR16 {b : Nat} (hb : b = 49 ∨ b = 72) : SK[b + 16 - 9]? = some (.inl (0, 0, 6, [])) := by rcases hb with rfl | rfl <;> rfl
theorem akR17 {b : Nat} (hb : b = 49 ∨ b = 72) : SK[b + 17 - 9]? = some (.inl (0, 0, 6, [])) := by rcases hb with rfl | rfl <;> rfl
theorem akR18 {b : Nat} (hb : b = 49 ∨ b = 72) : SK[b + 18 - 9]? = some (.inl (0, 0, 6, [])) := by rcases hb with rfl | rfl <;> rfl
theorem akR19 {b : Nat} (hb : b = 49 ∨ b = 72) : SK[b + 19 - 9]? = some (.inl (0, 0, 6, [])) := by rcases hb with rfl | rfl <;> rfl
theorem akR20 {b : Nat} (hb : b = 49 ∨ b = 72) : SK[b + 20 - 9]? = some (.inl (0, 0, 6, [])) := by rcases hb with rfl | rfl <;> rfl
theorem akR21 {b : Nat} (hb : b = 49 ∨ b = 72) : SK[b + 21 - 9]? = some (.inl (0, 0, 6, [])) := by rcases hb with rfl | rfl <;> rfl
theorem akR22 {b : Nat} (hb : b = 49 ∨ b = 72) : SK[b + 22 - 9]? = some (.inl (0, 0, 6, [])) := by rcases hb with rfl | rfl <;> rfl
theorem akR10 {b : Nat} (hb : b = 49 ∨ b = 72) : SK[b + 10 - 9]? = some (.inl (2, 4, 6, [some (b + 11), some (b + 12), some (b + 13), some (b + 14), some (b + 15), some (b + 16)])) := by rcases hb with rfl | rfl <;> rfl
theorem akRt {b k : Nat} (hb : b = 49 ∨ b = 72) (hk : k < 6) : SK[b + 11 + k - 9]? = some (.inl (0, 0, 6, [])) := by
  rcases hb with rfl | rfl <;> (rcases (show k = 0 ∨ k = 1 ∨ k = 2 ∨ k = 3 ∨ k = 4 ∨ k = 5 by omega) with rfl | rfl | rfl | rfl | rfl | rfl <;> rfl)
theorem akRq {b k : Nat} (hk : k < 6) : [some (b + 11), some (b + 12), some (b + 13), some (b + 14), some (b + 15), some (b + 16)].getD k none = some (b + 11 + k) := by
  rcases (show k = 0 ∨ k = 1 ∨ k = 2 ∨ k = 3 ∨ k = 4 ∨ k = 5 by omega) with rfl | rfl | rfl | rfl | rfl | rfl <;> rfl
/-- the objects that hold where things are: present, the ring's, the images' -/
def isN (r : Nat) : Prop := r = 13 ∨ r = 38 ∨ r = 40 ∨ ∃ i, i < 10 ∧ r = 17 + 2 * i
theorem isN.all {P : Nat → Prop} (h13 : P 13) (h38 : P 38) (h40 : P 40) (h0 : P 17) (h1 : P 19) (h2 : P 21) (h3 : P 23) (h4 : P 25) (h5 : P 27) (h6 : P 29) (h7 : P 31) (h8 : P 33) (h9 : P 35) {r : Nat} (hr : isN r) : P r := by
  rcases hr with rfl | rfl | rfl | ⟨i, hi, rfl⟩
  · exact h13
  · exact h38
  · exact h40
  · rcases (show i = 0 ∨ i = 1 ∨ i = 2 ∨ i = 3 ∨ i = 4 ∨ i = 5 ∨ i = 6 ∨ i = 7 ∨ i = 8 ∨ i = 9 by omega) with rfl | rfl | rfl | rfl | rfl | rfl | rfl | rfl | rfl | rfl <;> assumption
theorem skN0 {r : Nat} (hr : isN r) : skf r 0 0 = some (.ref (r + 1)) := hr.all (P := fun r => skf r 0 0 = some (.ref (r + 1))) rfl rfl rfl rfl rfl rfl rfl rfl rfl rfl rfl rfl rfl
theorem skN1 {r : Nat} (hr : isN r) : skf r 0 1 = some (.int 0) := hr.all (P := fun r => skf r 0 1 = some (.int 0)) rfl rfl rfl rfl rfl rfl rfl rfl rfl rfl rfl rfl rfl
theorem skN2 {r : Nat} (hr : isN r) : skf r 0 2 = some (.int 0) := hr.all (P := fun r => skf r 0 2 = some (.int 0)) rfl rfl rfl rfl rfl rfl rfl rfl rfl rfl rfl rfl rfl
theorem akN {r : Nat} (hr : isN r) : SK[r + 1 - 9]? = some (.inl (0, 0, 6, [])) := hr.all (P := fun r => SK[r + 1 - 9]? = some (.inl (0, 0, 6, []))) rfl rfl rfl rfl rfl rfl rfl rfl rfl rfl rfl rfl rfl
theorem isN.nine {r : Nat} (hr : isN r) : 9 ≤ r := by rcases hr with rfl | rfl | rfl | ⟨i, -, rfl⟩ <;> omega
section PWN
variable {l : Launch} {G : pw_G} {Y : pw_Y} {R : Room} {mc ms k n pc : Nat} {ls : List (Nat × Value)} {st : List Value} {mem : pw_M} {Q : Option Value → pw_M → Prop} {b s : Nat} {sc : pw_E}
theorem PW.tI {idx ci j r : Nat} {x : Int32} (hS : St b s sc mem) (h9 : 9 ≤ r) (hr : skf r ci j = some (.int 0)) (hs : pw_FP Y.1.cls idx ci j .int false) (d : decode Y.2.1 pc = .ok (.putfield idx, 3)) (kk : St b s sc (wF mem r j (.int x)) → fi (wF mem r j (.int x)) r j = x → PW (l, G, Y, R, mc, ms) k n (pc + 3) ls st (wF mem r j (.int x)) Q) : PW (l, G, Y, R, mc, ms) k n pc ls (.int x :: .ref r :: st) mem Q :=
  PW.pI hS.1 h9 hr hs d (kk (hS.wFI h9 hr x) (hS.1.fi_wF h9 hr))
theorem PW.tL {idx ci j r : Nat} {x : Int64} (hS : St b s sc mem) (h9 : 9 ≤ r) (hr : skf r ci j = some (.long 0)) (hs : pw_FP Y.1.cls idx ci j .long false) (d : decode Y.2.1 pc = .ok (.putfield idx, 3)) (kk : St b s sc (wF mem r j (.long x)) → fl (wF mem r j (.long x)) r j = x → PW (l, G, Y, R, mc, ms) k n (pc + 3) ls st (wF mem r j (.long x)) Q) : PW (l, G, Y, R, mc, ms) k n pc ls (.long x :: .ref r :: st) mem Q :=
  PW.pL hS.1 h9 hr hs d (kk (hS.wFL h9 hr x) (hS.1.fl_wF h9 hr))
theorem PW.uI {r N j : Nat} {i x : Int32} (hS : St b s sc mem) (h9 : 9 ≤ r) (hr : SK[r - 9]? = some (.inl (0, 0, N, []))) (hi : i = nI j) (hj : j < N ∧ N < 1000) (d : decode Y.2.1 pc = .ok (.iastore, 1)) (kk : St b s sc (wI mem r j x) → (∀ i, iv (wI mem r j x) r i = if i = j then x else iv mem r i) → PW (l, G, Y, R, mc, ms) k n (pc + 1) ls st (wI mem r j x) Q) : PW (l, G, Y, R, mc, ms) k n pc ls (.int x :: .int i :: .ref r :: st) mem Q :=
  PW.sI hS.1 h9 hr hi hj d (kk (hS.wI h9 j x) (fun i => hS.1.iv_wI h9 hr))
theorem PW.uZ {r N j : Nat} {i x : Int32} (hS : St b s sc mem) (h9 : 9 ≤ r) (hr : SK[r - 9]? = some (.inl (0, 1, N, []))) (hi : i = nI j) (hj : j < N ∧ N < 1000) (hx : vp_nar .boolean x = x) (d : decode Y.2.1 pc = .ok (.bastore, 1)) (kk : St b s sc (wI mem r j x) → (∀ i, iv (wI mem r j x) r i = if i = j then x else iv mem r i) → PW (l, G, Y, R, mc, ms) k n (pc + 1) ls st (wI mem r j x) Q) : PW (l, G, Y, R, mc, ms) k n pc ls (.int x :: .int i :: .ref r :: st) mem Q :=
  PW.sZ hS.1 h9 hr hi hj hx d (kk (hS.wI h9 j x) (fun i => hS.1.iv_wI h9 hr))
theorem PW.uL {r N j : Nat} {i : Int32} {x : Int64} (hS : St b s sc mem) (h9 : 9 ≤ r) (hr : SK[r - 9]? = some (.inl (1, 2, N, []))) (hi : i = nI j) (hj : j < N ∧ N < 1000) (d : decode Y.2.1 pc = .ok (.lastore, 1)) (kk : St b s sc (wJ mem r j x) → (∀ i, jv (wJ mem r j x) r i = if i = j then x else jv mem r i) → PW (l, G, Y, R, mc, ms) k n (pc + 1) ls st (wJ mem r j x) Q) : PW (l, G, Y, R, mc, ms) k n pc ls (.long x :: .int i :: .ref r :: st) mem Q :=
  PW.sL hS.1 h9 hr hi hj d (kk (hS.wJ h9 j x) (fun i => hS.1.jv_wJ h9 hr))
theorem PW.iaddN {a c : Nat} (d : decode Y.2.1 pc = .ok (.iadd, 1)) (kk : PW (l, G, Y, R, mc, ms) k n (pc + 1) ls (.int (nI (a + c)) :: st) mem Q) : PW (l, G, Y, R, mc, ms) k n pc ls (.int (nI c) :: .int (nI a) :: st) mem Q := PW.iadd d (by rw [nI_add]; exact kk)
theorem PW.imulN {a c : Nat} (d : decode Y.2.1 pc = .ok (.imul, 1)) (kk : PW (l, G, Y, R, mc, ms) k n (pc + 1) ls (.int (nI (a * c)) :: st) mem Q) : PW (l, G, Y, R, mc, ms) k n pc ls (.int (nI c) :: .int (nI a) :: st) mem Q := PW.imul d (by rw [pk_mul]; exact kk)
theorem PW.isubN {a c : Nat} (h : c ≤ a) (d : decode Y.2.1 pc = .ok (.isub, 1)) (kk : PW (l, G, Y, R, mc, ms) k n (pc + 1) ls (.int (nI (a - c)) :: st) mem Q) : PW (l, G, Y, R, mc, ms) k n pc ls (.int (nI c) :: .int (nI a) :: st) mem Q := PW.isub d (by rw [pk_sub h]; exact kk)
theorem PW.idivN {a c : Nat} (h : a < 2 ^ 31 ∧ 0 < c ∧ c < 2 ^ 31) (d : decode Y.2.1 pc = .ok (.idiv, 1)) (kk : PW (l, G, Y, R, mc, ms) k n (pc + 1) ls (.int (nI (a / c)) :: st) mem Q) : PW (l, G, Y, R, mc, ms) k n pc ls (.int (nI c) :: .int (nI a) :: st) mem Q := PW.idiv (nI_ne0 h.2.1 h.2.2) d (by rw [pk_div h.1 h.2.1 h.2.2]; exact kk)
theorem PW.iremN {a c : Nat} (h : a < 2 ^ 31 ∧ 0 < c ∧ c < 2 ^ 31) (d : decode Y.2.1 pc = .ok (.irem, 1)) (kk : PW (l, G, Y, R, mc, ms) k n (pc + 1) ls (.int (nI (a % c)) :: st) mem Q) : PW (l, G, Y, R, mc, ms) k n pc ls (.int (nI c) :: .int (nI a) :: st) mem Q := PW.irem (nI_ne0 h.2.1 h.2.2) d (by rw [pk_rem h.1 h.2.1 h.2.2]; exact kk)
theorem PW.iincN {i a : Nat} (hl : lk ls i = some (.int (nI a))) (hn : i < Y.2.2.1) (d : decode Y.2.1 pc = .ok (.iinc i 1, 3)) (kk : PW (l, G, Y, R, mc, ms) k n (pc + 3) (st1 ls i (.int (nI (a + 1)))) st mem Q) : PW (l, G, Y, R, mc, ms) k n pc ls st mem Q := PW.iinc hl (show nI a + Int32.ofInt 1 = nI (a + 1) from (by rw [show Int32.ofInt 1 = (1 : Int32) from by decide]; exact nI_1 a)) hn d kk
theorem PW.icmp_eqN {a c : Nat} {off : Int} (tgt : Nat) (ht : (pc : Int) + off = (tgt : Int)) (ha : a < 2 ^ 31) (hc : c < 2 ^ 31) (d : decode Y.2.1 pc = .ok (.if_icmp .eq off, 3)) (kt : a = c → PW (l, G, Y, R, mc, ms) k n tgt ls st mem Q) (kf : a ≠ c → PW (l, G, Y, R, mc, ms) k n (pc + 3) ls st mem Q) : PW (l, G, Y, R, mc, ms) k n pc ls (.int (nI c) :: .int (nI a) :: st) mem Q :=
  PW.icmp_eq tgt ht d (fun q => kt ((nI_eq ha hc).mp q)) (fun q => kf (fun z => q ((nI_eq ha hc).mpr z)))
theorem PW.icmp_neN {a c : Nat} {off : Int} (tgt : Nat) (ht : (pc : Int) + off = (tgt : Int)) (ha : a < 2 ^ 31) (hc : c < 2 ^ 31) (d : decode Y.2.1 pc = .ok (.if_icmp .ne off, 3)) (kt : a ≠ c → PW (l, G, Y, R, mc, ms) k n tgt ls st mem Q) (kf : a = c → PW (l, G, Y, R, mc, ms) k n (pc + 3) ls st mem Q) : PW (l, G, Y, R, mc, ms) k n pc ls (.int (nI c) :: .int (nI a) :: st) mem Q :=
  PW.icmp_ne tgt ht d (fun q => kt (fun z => q ((nI_eq ha hc).mpr z))) (fun q => kf ((nI_eq ha hc).mp q))
theorem PW.icmp_ltN {a c : Nat} {off : Int} (tgt : Nat) (ht : (pc : Int) + off = (tgt : Int)) (ha : a < 2 ^ 31) (hc : c < 2 ^ 31) (d : decode Y.2.1 pc = .ok (.if_icmp .lt off, 3)) (kt : a < c → PW (l, G, Y, R, mc, ms) k n tgt ls st mem Q) (kf : c ≤ a → PW (l, G, Y, R, mc, ms) k n (pc + 3) ls st mem Q) : PW (l, G, Y, R, mc, ms) k n pc ls (.int (nI c) :: .int (nI a) :: st) mem Q :=
  PW.icmp_lt tgt ht d (fun q => kt ((nI_ltI ha hc).mp q)) (fun q => kf (Nat.le_of_not_lt fun z => q ((nI_ltI ha hc).mpr z)))
theorem PW.icmp_geN {a c : Nat} {off : Int} (tgt : Nat) (ht : (pc : Int) + off = (tgt : Int)) (ha : a < 2 ^ 31) (hc : c < 2 ^ 31) (d : decode Y.2.1 pc = .ok (.if_icmp .ge off, 3)) (kt : c ≤ a → PW (l, G, Y, R, mc, ms) k n tgt ls st mem Q) (kf : a < c → PW (l, G, Y, R, mc, ms) k n (pc + 3) ls st mem Q) : PW (l, G, Y, R, mc, ms) k n pc ls (.int (nI c) :: .int (nI a) :: st) mem Q :=
  PW.icmp_ge tgt ht d (fun q => kt ((nI_leI hc ha).mp q)) (fun q => kf (Nat.lt_of_not_le fun z => q ((nI_leI hc ha).mpr z)))
theorem PW.icmp_gtN {a c : Nat} {off : Int} (tgt : Nat) (ht : (pc : Int) + off = (tgt : Int)) (ha : a < 2 ^ 31) (hc : c < 2 ^ 31) (d : decode Y.2.1 pc = .ok (.if_icmp .gt off, 3)) (kt : c < a → PW (l, G, Y, R, mc, ms) k n tgt ls st mem Q) (kf : a ≤ c → PW (l, G, Y, R, mc, ms) k n (pc + 3) ls st mem Q) : PW (l, G, Y, R, mc, ms) k n pc ls (.int (nI c) :: .int (nI a) :: st) mem Q :=
  PW.icmp_gt tgt ht d (fun q => kt ((nI_ltI hc ha).mp q)) (fun q => kf (Nat.le_of_not_lt fun z => q ((nI_ltI hc ha).mpr z)))
theorem PW.icmp_leN {a c : Nat} {off : Int} (tgt : Nat) (ht : (pc : Int) + off = (tgt : Int)) (ha : a < 2 ^ 31) (hc : c < 2 ^ 31) (d : decode Y.2.1 pc = .ok (.if_icmp .le off, 3)) (kt : a ≤ c → PW (l, G, Y, R, mc, ms) k n tgt ls st mem Q) (kf : c < a → PW (l, G, Y, R, mc, ms) k n (pc + 3) ls st mem Q) : PW (l, G, Y, R, mc, ms) k n pc ls (.int (nI c) :: .int (nI a) :: st) mem Q :=
  PW.icmp_le tgt ht d (fun q => kt ((nI_leI ha hc).mp q)) (fun q => kf (Nat.lt_of_not_le fun z => q ((nI_leI ha hc).mpr z)))
theorem ts_q {c : Bool} (h : ¬ bI c = 0) : c = true := by cases c <;> simp_all [bI]
theorem PW.if_eqB {c : Bool} {off : Int} (tgt : Nat) (ht : (pc : Int) + off = (tgt : Int)) (d : decode Y.2.1 pc = .ok (.ifCond .eq off, 3)) (kt : c = false → PW (l, G, Y, R, mc, ms) k n tgt ls st mem Q) (kf : c = true → PW (l, G, Y, R, mc, ms) k n (pc + 3) ls st mem Q) : PW (l, G, Y, R, mc, ms) k n pc ls (.int (bI c) :: st) mem Q :=
  PW.if_eq tgt ht d (fun q => kt (bI_eq0.mp q)) (fun q => kf (ts_q q))
theorem PW.if_neB {c : Bool} {off : Int} (tgt : Nat) (ht : (pc : Int) + off = (tgt : Int)) (d : decode Y.2.1 pc = .ok (.ifCond .ne off, 3)) (kt : c = true → PW (l, G, Y, R, mc, ms) k n tgt ls st mem Q) (kf : c = false → PW (l, G, Y, R, mc, ms) k n (pc + 3) ls st mem Q) : PW (l, G, Y, R, mc, ms) k n pc ls (.int (bI c) :: st) mem Q :=
  PW.if_ne tgt ht d (fun q => kt (ts_q q)) (fun q => kf (bI_eq0.mp q))
theorem PW.if_eqN {a : Nat} {off : Int} (tgt : Nat) (ht : (pc : Int) + off = (tgt : Int)) (ha : a < 2 ^ 31) (d : decode Y.2.1 pc = .ok (.ifCond .eq off, 3)) (kt : a = 0 → PW (l, G, Y, R, mc, ms) k n tgt ls st mem Q) (kf : a ≠ 0 → PW (l, G, Y, R, mc, ms) k n (pc + 3) ls st mem Q) : PW (l, G, Y, R, mc, ms) k n pc ls (.int (nI a) :: st) mem Q :=
  PW.if_eq tgt ht d (fun q => kt ((nI_eq ha (by decide)).mp (q.trans nI_0.symm))) (fun q => kf (fun z => q (by rw [z]; rfl)))
theorem PW.if_neN {a : Nat} {off : Int} (tgt : Nat) (ht : (pc : Int) + off = (tgt : Int)) (ha : a < 2 ^ 31) (d : decode Y.2.1 pc = .ok (.ifCond .ne off, 3)) (kt : a ≠ 0 → PW (l, G, Y, R, mc, ms) k n tgt ls st mem Q) (kf : a = 0 → PW (l, G, Y, R, mc, ms) k n (pc + 3) ls st mem Q) : PW (l, G, Y, R, mc, ms) k n pc ls (.int (nI a) :: st) mem Q :=
  PW.if_ne tgt ht d (fun q => kt (fun z => q (by rw [z]; rfl))) (fun q => kf ((nI_eq ha (by decide)).mp (q.trans nI_0.symm)))
theorem nI_and (a c : Nat) : nI a &&& nI c = nI (a &&& c) := by
  apply Int32.toBitVec_inj.1
  show BitVec.ofNat 32 a &&& BitVec.ofNat 32 c = BitVec.ofNat 32 (a &&& c)
  apply BitVec.eq_of_getLsbD_eq
  intro i hi
  simp [hi]
theorem nI_or (a c : Nat) : nI a ||| nI c = nI (a ||| c) := by
  apply Int32.toBitVec_inj.1
  show BitVec.ofNat 32 a ||| BitVec.ofNat 32 c = BitVec.ofNat 32 (a ||| c)
  apply BitVec.eq_of_getLsbD_eq
  intro i hi
  simp [hi]
theorem nI_shl1 {k : Nat} (hk : k < 31) : nI 1 <<< (nI k &&& 31) = nI (2 ^ k) := by
  have h : ∀ k : Fin 31, nI 1 <<< (nI k.val &&& 31) = nI (2 ^ k.val) := by decide +kernel
  exact h ⟨k, hk⟩
theorem nI_andm (a : Nat) : nI a &&& (-1) = nI a := by
  apply Int32.toBitVec_inj.1
  show BitVec.ofNat 32 a &&& (-1 : Int32).toBitVec = BitVec.ofNat 32 a
  rw [show (-1 : Int32).toBitVec = BitVec.allOnes 32 from by decide, BitVec.and_allOnes]
theorem PW.iandN {a c : Nat} (d : decode Y.2.1 pc = .ok (.iand, 1)) (kk : PW (l, G, Y, R, mc, ms) k n (pc + 1) ls (.int (nI (a &&& c)) :: st) mem Q) : PW (l, G, Y, R, mc, ms) k n pc ls (.int (nI c) :: .int (nI a) :: st) mem Q := PW.iand d (by rw [nI_and]; exact kk)
theorem PW.iandM {a : Nat} (d : decode Y.2.1 pc = .ok (.iand, 1)) (kk : PW (l, G, Y, R, mc, ms) k n (pc + 1) ls (.int (nI a) :: st) mem Q) : PW (l, G, Y, R, mc, ms) k n pc ls (.int (-1) :: .int (nI a) :: st) mem Q := PW.iand d (by rw [nI_andm]; exact kk)
theorem PW.iorN {a c : Nat} (d : decode Y.2.1 pc = .ok (.ior, 1)) (kk : PW (l, G, Y, R, mc, ms) k n (pc + 1) ls (.int (nI (a ||| c)) :: st) mem Q) : PW (l, G, Y, R, mc, ms) k n pc ls (.int (nI c) :: .int (nI a) :: st) mem Q := PW.ior d (by rw [nI_or]; exact kk)
theorem PW.iorZ {a : Nat} (d : decode Y.2.1 pc = .ok (.ior, 1)) (kk : PW (l, G, Y, R, mc, ms) k n (pc + 1) ls (.int (nI a) :: st) mem Q) : PW (l, G, Y, R, mc, ms) k n pc ls (.int (nI 0) :: .int (nI a) :: st) mem Q := PW.ior d (by rw [nI_or, Nat.or_zero]; exact kk)
theorem PW.ishl1 {c : Nat} (hc : c < 31) (d : decode Y.2.1 pc = .ok (.ishl, 1)) (kk : PW (l, G, Y, R, mc, ms) k n (pc + 1) ls (.int (nI (2 ^ c)) :: st) mem Q) : PW (l, G, Y, R, mc, ms) k n pc ls (.int (nI c) :: .int (nI 1) :: st) mem Q := PW.ishl d (by rw [nI_shl1 hc]; exact kk)
theorem bI_inj {a c : Bool} : bI a = bI c ↔ a = c := by cases a <;> cases c <;> decide
theorem PW.icmp_eqB {a c : Bool} {off : Int} (tgt : Nat) (ht : (pc : Int) + off = (tgt : Int)) (d : decode Y.2.1 pc = .ok (.if_icmp .eq off, 3)) (kt : a = c → PW (l, G, Y, R, mc, ms) k n tgt ls st mem Q) (kf : ¬ a = c → PW (l, G, Y, R, mc, ms) k n (pc + 3) ls st mem Q) : PW (l, G, Y, R, mc, ms) k n pc ls (.int (bI c) :: .int (bI a) :: st) mem Q :=
  PW.icmp_eq tgt ht d (fun q => kt (bI_inj.mp q)) (fun q => kf (fun z => q (bI_inj.mpr z)))
theorem PW.icmp_neB {a c : Bool} {off : Int} (tgt : Nat) (ht : (pc : Int) + off = (tgt : Int)) (d : decode Y.2.1 pc = .ok (.if_icmp .ne off, 3)) (kt : ¬ a = c → PW (l, G, Y, R, mc, ms) k n tgt ls st mem Q) (kf : a = c → PW (l, G, Y, R, mc, ms) k n (pc + 3) ls st mem Q) : PW (l, G, Y, R, mc, ms) k n pc ls (.int (bI c) :: .int (bI a) :: st) mem Q :=
  PW.icmp_ne tgt ht d (fun q => kt (fun z => q (bI_inj.mpr z))) (fun q => kf (bI_inj.mp q))
theorem PW.dV {Y' : pw_Y} {h' idx nA e : Nat} {ci j : Nat} {st0 : List Value} {Q' : Option Value → pw_M → Prop} {u : Value} (av : List Value) (hS : Sh mem) (h9 : 9 ≤ e) (hb : skf e ci j = some u) (hs : pw_CV Y.1.cls idx Y' nA) (hM : Ret h' 0 0 Y' (.ref e :: av) mem Q') (hst : st0 = av.reverse ++ .ref e :: st) (hn : av.length = nA) (hr : (st.map fun v => v.category).sum ≤ 8) (hC : vwCl[ci]?.map (fun q => q.1) = some Y'.1.cls)
    (hh : h' + 1 ≤ R.frames ∧ 100 * h' + 100 ≤ R.locals) (hc : k ≤ R.cells ∧ n ≤ R.slots) (d : decode Y.2.1 pc = .ok (.invokevirtual idx, 3)) (kk : ∀ v mem1, Q' v mem1 → PW (l, G, Y, R, mc, ms) k n (pc + 3) ls (v.toList ++ st) mem1 Q) : PW (l, G, Y, R, mc, ms) k n pc ls st0 mem Q := by
  obtain ⟨vs, h1, h2⟩ := hS.obj h9 hb
  exact PW.callV av hs hM hst hn hr h9 h1 hC hh hc d kk
theorem PW.dS {Y' : pw_Y} {h' idx nA : Nat} {st0 : List Value} {Q' : Option Value → pw_M → Prop} (av : List Value) (hs : pw_CS Y.1.cls idx Y' nA) (hM : Ret h' 0 0 Y' av mem Q') (hst : st0 = av.reverse ++ st) (hn : av.length = nA) (hr : (st.map fun v => v.category).sum ≤ 8)
    (hh : h' + 1 ≤ R.frames ∧ 100 * h' + 100 ≤ R.locals) (hc : k ≤ R.cells ∧ n ≤ R.slots) (d : decode Y.2.1 pc = .ok (.invokestatic idx, 3)) (kk : ∀ v mem1, Q' v mem1 → PW (l, G, Y, R, mc, ms) k n (pc + 3) ls (v.toList ++ st) mem1 Q) : PW (l, G, Y, R, mc, ms) k n pc ls st0 mem Q :=
  PW.callS av hs hM hst hn hr hh hc d kk
/-- a loop: I j s at its head, with s what the turns change; it may leave at any turn -/
theorem PW.loop {σ : Type} {X : pw_X} {k n pc : Nat} {Q : Option Value → pw_M → Prop} (I : Nat → σ → Prop) (P : Nat → σ → List (Nat × Value)) (M : Nat → σ → pw_M) (N : Nat) (hs : ∀ j s, j < N → I j s → (∀ s', I (j + 1) s' → PW X k n pc (P (j + 1) s') [] (M (j + 1) s') Q) → PW X k n pc (P j s) [] (M j s) Q) (hx : ∀ s, I N s → PW X k n pc (P N s) [] (M N s) Q) (s : σ) (h0 : I 0 s) : PW X k n pc (P 0 s) [] (M 0 s) Q := by
  have key : ∀ i, i ≤ N → ∀ s, I (N - i) s → PW X k n pc (P (N - i) s) [] (M (N - i) s) Q := by
    intro i
    induction i with
    | zero => intro _ s hI; exact hx s hI
    | succ i ih =>
      intro hi s hI
      have e : N - i = (N - (i + 1)) + 1 := by omega
      have h1 := ih (by omega)
      rw [e] at h1
      exact hs (N - (i + 1)) s (by omega) hI h1
  have h1 := key N (Nat.le_refl N)
  rw [Nat.sub_self] at h1
  exact h1 s h0
/-- cells of a kind are the same -/
def Ag (A : Nat → Prop) (m m1 : pw_M) : Prop := ∀ r, A r → m1[r]? = m[r]?
theorem Ag.rf {A : Nat → Prop} {m : pw_M} : Ag A m m := fun _ _ => rfl
theorem Ag.tr {A : Nat → Prop} {m m1 m2 : pw_M} (h1 : Ag A m m1) (h2 : Ag A m1 m2) : Ag A m m2 := fun r hr => (h2 r hr).trans (h1 r hr)
theorem Ag.mono {A B : Nat → Prop} {m m1 : pw_M} (h : Ag A m m1) (hB : ∀ r, B r → A r) : Ag B m m1 := fun r hr => h r (hB r hr)
theorem Ag.iv {A : Nat → Prop} {m m1 : pw_M} (h : Ag A m m1) {r : Nat} (hr : A r) (j : Nat) : iv m1 r j = iv m r j := by simp only [_root_.Jvm.Pilot.@@N@@.iv, h r hr]
theorem Ag.jv {A : Nat → Prop} {m m1 : pw_M} (h : Ag A m m1) {r : Nat} (hr : A r) (j : Nat) : jv m1 r j = jv m r j := by simp only [_root_.Jvm.Pilot.@@N@@.jv, h r hr]
theorem Ag.fv {A : Nat → Prop} {m m1 : pw_M} (h : Ag A m m1) {r : Nat} (hr : A r) (j : Nat) : fv m1 r j = fv m r j := by simp only [_root_.Jvm.Pilot.@@N@@.fv, h r hr]
theorem Ag.fi {A : Nat → Prop} {m m1 : pw_M} (h : Ag A m m1) {r : Nat} (hr : A r) (j : Nat) : fi m1 r j = fi m r j := by simp only [_root_.Jvm.Pilot.@@N@@.fi, h.fv hr]
theorem Ag.fl {A : Nat → Prop} {m m1 : pw_M} (h : Ag A m m1) {r : Nat} (hr : A r) (j : Nat) : fl m1 r j = fl m r j := by simp only [_root_.Jvm.Pilot.@@N@@.fl, h.fv hr]
theorem Ag.wI {A : Nat → Prop} {m : pw_M} {r j : Nat} {x : Int32} (hr : ¬ A r) : Ag A m (wI m r j x) := fun q hq => by
  unfold _root_.Jvm.Pilot.@@N@@.wI
  split
  · exact get_set_ne (fun e => hr (e ▸ hq))
  · rfl
theorem Ag.wJ {A : Nat → Prop} {m : pw_M} {r j : Nat} {x : Int64} (hr : ¬ A r) : Ag A m (wJ m r j x) := fun q hq => by
  unfold _root_.Jvm.Pilot.@@N@@.wJ
  split
  · exact get_set_ne (fun e => hr (e ▸ hq))
  · rfl
theorem Ag.wF {A : Nat → Prop} {m : pw_M} {r j : Nat} {v : Value} (hr : ¬ A r) : Ag A m (wF m r j v) := fun q hq => by
  unfold _root_.Jvm.Pilot.@@N@@.wF
  split
  · exact get_set_ne (fun e => hr (e ▸ hq))
  · rfl
theorem PW.if_leN {a : Nat} {off : Int} (tgt : Nat) (ht : (pc : Int) + off = (tgt : Int)) (ha : a < 2 ^ 31) (d : decode Y.2.1 pc = .ok (.ifCond .le off, 3)) (kt : a = 0 → PW (l, G, Y, R, mc, ms) k n tgt ls st mem Q) (kf : 0 < a → PW (l, G, Y, R, mc, ms) k n (pc + 3) ls st mem Q) : PW (l, G, Y, R, mc, ms) k n pc ls (.int (nI a) :: st) mem Q :=
  PW.if_le tgt ht d (fun q => kt (by have h := q; rw [Int32.le_iff_toInt_le, nI_toInt ha, Int32.toInt_zero] at h; omega)) (fun q => kf (by have h := q; rw [Int32.le_iff_toInt_le, nI_toInt ha, Int32.toInt_zero] at h; omega))
theorem PW.if_gtN {a : Nat} {off : Int} (tgt : Nat) (ht : (pc : Int) + off = (tgt : Int)) (ha : a < 2 ^ 31) (d : decode Y.2.1 pc = .ok (.ifCond .gt off, 3)) (kt : 0 < a → PW (l, G, Y, R, mc, ms) k n tgt ls st mem Q) (kf : a = 0 → PW (l, G, Y, R, mc, ms) k n (pc + 3) ls st mem Q) : PW (l, G, Y, R, mc, ms) k n pc ls (.int (nI a) :: st) mem Q :=
  PW.if_gt tgt ht d (fun q => kt (by have h := q; rw [Int32.lt_iff_toInt_lt, nI_toInt ha, Int32.toInt_zero] at h; omega)) (fun q => kf (by have h := q; rw [Int32.lt_iff_toInt_lt, nI_toInt ha, Int32.toInt_zero] at h; omega))
theorem PW.if_ltN {a : Nat} {off : Int} (tgt : Nat) (ht : (pc : Int) + off = (tgt : Int)) (ha : a < 2 ^ 31) (d : decode Y.2.1 pc = .ok (.ifCond .lt off, 3)) (kk : PW (l, G, Y, R, mc, ms) k n (pc + 3) ls st mem Q) : PW (l, G, Y, R, mc, ms) k n pc ls (.int (nI a) :: st) mem Q :=
  PW.if_lt tgt ht d (fun q => absurd q (nI_pos ha)) (fun _ => kk)
theorem PW.if_geN {a : Nat} {off : Int} (tgt : Nat) (ht : (pc : Int) + off = (tgt : Int)) (ha : a < 2 ^ 31) (d : decode Y.2.1 pc = .ok (.ifCond .ge off, 3)) (kk : PW (l, G, Y, R, mc, ms) k n tgt ls st mem Q) : PW (l, G, Y, R, mc, ms) k n pc ls (.int (nI a) :: st) mem Q :=
  PW.if_ge tgt ht d (fun _ => kk) (fun q => absurd (nI_pos' ha) q)
end PWN
end
section
/-! ===== what a realm is: numbers by field and place, as the class and as the model hold them ===== -/
abbrev DR : Type := Nat → Nat → Nat
def hI (h : Nat) : Int32 := if h < 6 then nI h else -9
def Dat (R : DR) : Prop := R 0 0 ≤ 6 ∧ R 1 0 ≤ 6 ∧ R 2 0 ≤ 12 ∧
  (∀ k, k < R 0 0 → 1 ≤ R 3 k ∧ R 3 k ≤ 20 ∧ R 4 k < 64 ∧ R 5 k ≤ 9 ∧ (R 6 k < k ∨ R 6 k = 9)) ∧
  (∀ k, k < 6 → R 7 k ≤ 2 ∧ (R 7 k ≠ 0 → R 8 k < R 0 0) ∧ R 9 k < 2 ^ R 0 0 ∧ (R 10 k < R 0 0 ∨ R 10 k = 9) ∧ (R 10 k ≠ 9 → R 11 k ≤ 5) ∧ (R 0 0 ≤ k → R 9 k = 0)) ∧
  (∀ a c, a < 6 → c < 6 → R 12 (6 * a + c) < 64) ∧
  (∀ t, t < R 1 0 → R 13 t < 6 ∧ 1 ≤ R 14 t ∧ R 14 t ≤ 5 ∧ R 15 t ≤ 9 ∧ R 16 t < R 0 0)
/-- the class's realm b holds R -/
def XD (mem : pw_M) (b : Nat) (R : DR) : Prop :=
  fi mem b 0 = nI (R 0 0) ∧ fi mem b 1 = nI (R 1 0) ∧ fi mem b 2 = nI (R 2 0) ∧
  (∀ k, k < R 0 0 → iv mem (b + 1) k = nI (R 3 k) ∧ iv mem (b + 2) k = nI (R 4 k) ∧ iv mem (b + 3) k = nI (R 5 k) ∧ iv mem (b + 4) k = nI (R 6 k)) ∧
  (∀ k, k < 6 → iv mem (b + 5) k = nI (R 7 k) ∧ (R 7 k ≠ 0 → iv mem (b + 6) k = nI (R 8 k)) ∧ iv mem (b + 7) k = nI (R 9 k) ∧ iv mem (b + 8) k = hI (R 10 k) ∧ (R 10 k ≠ 9 → iv mem (b + 9) k = nI (R 11 k))) ∧
  (∀ a c, a < 6 → c < 6 → iv mem (b + 11 + a) c = nI (R 12 (6 * a + c))) ∧
  (∀ t, t < R 1 0 → iv mem (b + 17) t = nI (R 13 t) ∧ iv mem (b + 18) t = nI (R 14 t) ∧ iv mem (b + 19) t = nI (R 15 t) ∧ iv mem (b + 20) t = nI (R 16 t))
/-- which law holds by a row of yes and no -/
def lawN (R : DR) (k a s : Nat) : Bool := if R 7 k = 1 then a.testBit (R 8 k) else if R 7 k = 2 then !a.testBit (R 8 k) else !(R 4 k).testBit s
def holdN (R : DR) (a s : Nat) : Nat → Bool
  | 0 => true
  | k + 1 => holdN R a s k && (a.testBit k == lawN R k a s)
def fixN (R : DR) (s : Nat) : Nat → Nat
  | 0 => 0
  | a + 1 => fixN R s a + if holdN R a s (R 0 0) then 1 else 0
def allN (R : DR) (s : Nat) : Nat → Nat
  | 0 => 2 ^ R 0 0 - 1
  | a + 1 => if holdN R a s (R 0 0) then allN R s a &&& a else allN R s a
/-- pocket k lets sort s in; by the number of its outers -/
def letB (R : DR) (s : Nat) : Nat → Nat → Bool
  | 0, _ => false
  | f + 1, k => decide (0 < fixN R s (2 ^ R 0 0)) && (allN R s (2 ^ R 0 0)).testBit k && (decide (R 6 k = 9) || letB R s f (R 6 k))
def letN (R : DR) (k s : Nat) : Bool := letB R s 7 k
/-- the sorts that a pocket lets in, as bits -/
def letsN (R : DR) (k : Nat) : Nat → Nat
  | 0 => 0
  | s + 1 => if letN R k s then letsN R k s ||| 2 ^ s else letsN R k s
/-- the pockets that let a sort in, as bits -/
def pockN (R : DR) (s : Nat) : Nat → Nat
  | 0 => 0
  | k + 1 => if letN R k s then pockN R s k ||| 2 ^ k else pockN R s k
def XL (mem : pw_M) (b : Nat) (R : DR) : Prop := (∀ k, k < R 0 0 → iv mem (b + 21) k = nI (letsN R k 6)) ∧ ∀ s, s < 6 → iv mem (b + 22) s = nI (fixN R s (2 ^ R 0 0))
/-- where things are, what was paid, days, as an object of the class holds them -/
def XN (mem : pw_M) (r T : Nat) (w : Nat → Nat) (p : Int32) (d : Nat) : Prop := (∀ t, t < T → iv mem (r + 1) t = nI (w t)) ∧ fi mem r 1 = p ∧ fi mem r 2 = nI d
/-- the model holds R -/
def MD (mem : pw_M) (R : DR) : Prop :=
  fi mem 95 3 = nI (R 0 0) ∧ fi mem 95 10 = nI (R 1 0) ∧ fi mem 95 6 = nI (R 2 0) ∧
  (∀ k, k < R 0 0 → iv mem 97 (8 * k) = nI (R 3 k) ∧ iv mem 97 (8 * k + 1) = nI (R 4 k) ∧ iv mem 97 (8 * k + 2) = nI (R 5 k) ∧ iv mem 97 (8 * k + 3) = nI (R 6 k) ∧ iv mem 97 (8 * k + 4) = nI (R 7 k) ∧ (R 7 k ≠ 0 → iv mem 97 (8 * k + 5) = nI (R 8 k)) ∧ iv mem 97 (8 * k + 6) = hI (R 10 k) ∧ (R 10 k ≠ 9 → iv mem 97 (8 * k + 7) = nI (R 11 k))) ∧
  (∀ a c, a < 6 → c < 6 → iv mem 98 (6 * a + c) = bI ((R 9 a).testBit c) ∧ iv mem 99 (6 * a + c) = nI (R 12 (6 * a + c))) ∧
  (∀ t, t < R 1 0 → iv mem 100 t = nI (R 13 t) ∧ iv mem 101 t = nI (R 14 t) ∧ iv mem 102 t = nI (R 15 t))
/-- the model's state -/
def MN (mem : pw_M) (T : Nat) (w : Nat → Nat) (p : Int32) (d : Nat) : Prop := (∀ t, t < T → iv mem 103 t = nI (w t)) ∧ iv mem 103 6 = p ∧ iv mem 103 7 = nI d
/-- a number within 0 .. n - 1 -/
def inR (k : Int32) (n : Nat) : Bool := decide (0 ≤ k.toInt ∧ k.toInt < n)
theorem inR_of {k : Int32} {n : Nat} (h : inR k n = true) : ∃ j, j < n ∧ k = nI j := by
  have h1 := of_decide_eq_true h
  have h2 : ¬ k < 0 := fun q => by rw [Int32.lt_iff_toInt_lt, Int32.toInt_zero] at q; omega
  obtain ⟨j, hj, rfl⟩ := nI_of h2
  rw [nI_toInt hj] at h1
  exact ⟨j, by omega, rfl⟩
theorem inR_nI {j n : Nat} (hj : j < n) (hn : n < 2 ^ 31) : inR (nI j) n = true := by
  unfold inR
  rw [nI_toInt (by omega)]
  exact decide_eq_true ⟨by omega, by omega⟩
theorem sub1_toInt {n : Nat} (hn : n < 2 ^ 30) : (nI n - nI 1).toInt = (n : Int) - 1 := pk_sub_toInt hn (by decide)
theorem inR_x {k : Int32} {n : Nat} (hn : n < 2 ^ 30) : decide (nI 0 ≤ k ∧ k ≤ nI n - nI 1) = inR k n := by
  unfold inR
  congr 1
  rw [Int32.le_iff_toInt_le, Int32.le_iff_toInt_le, sub1_toInt hn, show (nI 0).toInt = 0 from rfl]
  apply propext
  constructor <;> (intro h; omega)
theorem inR_m {k : Int32} {n : Nat} (hn : n < 2 ^ 30) : decide ((0 : Int64) ≤ k.toInt64 ∧ k.toInt64 ≤ (nI n - nI 1).toInt64) = inR k n := by
  unfold inR
  congr 1
  rw [Int64.le_iff_toInt_le, Int64.le_iff_toInt_le, Int32.toInt_toInt64, Int32.toInt_toInt64, sub1_toInt hn, show (0 : Int64).toInt = 0 from rfl]
  apply propext
  constructor <;> (intro h; omega)
/-- a constant range, as the class and as the model test it -/
theorem rng_x {x lo hi : Int32} : decide (lo ≤ x ∧ x ≤ hi) = decide (lo.toInt ≤ x.toInt ∧ x.toInt ≤ hi.toInt) := by
  congr 1
  rw [Int32.le_iff_toInt_le, Int32.le_iff_toInt_le]
theorem rng_m {x : Int32} {lo hi : Int64} : decide (lo ≤ x.toInt64 ∧ x.toInt64 ≤ hi) = decide (lo.toInt ≤ x.toInt ∧ x.toInt ≤ hi.toInt) := by
  congr 1
  rw [Int64.le_iff_toInt_le, Int64.le_iff_toInt_le, Int32.toInt_toInt64]

theorem or2_lt {a n : Nat} (h : a < 2 ^ n) : a ||| 2 ^ n < 2 ^ (n + 1) := Nat.or_lt_two_pow (Nat.lt_of_lt_of_le h (Nat.pow_le_pow_right (by decide) (Nat.le_succ n))) (Nat.pow_lt_pow_right (by decide) (Nat.lt_succ_self n))
theorem letsN_lt (R : DR) (k : Nat) : ∀ n, letsN R k n < 2 ^ n
  | 0 => Nat.zero_lt_one
  | n + 1 => by
    have ih := letsN_lt R k n
    unfold letsN
    split
    · exact or2_lt ih
    · exact Nat.lt_of_lt_of_le ih (Nat.pow_le_pow_right (by decide) (Nat.le_succ n))
theorem letsN_bit (R : DR) (k : Nat) : ∀ n s, (letsN R k n).testBit s = (decide (s < n) && letN R k s)
  | 0, s => by simp [letsN]
  | n + 1, s => by
    have ih := letsN_bit R k n s
    unfold letsN
    by_cases hs : s = n
    · subst hs
      by_cases h : letN R k s = true
      · rw [if_pos h, Nat.testBit_or, Nat.testBit_two_pow_self]
        simp [h]
      · rw [if_neg h, ih]
        simp [h]
    · have hd : decide (s < n + 1) = decide (s < n) := by
        by_cases h : s < n
        · rw [decide_eq_true h, decide_eq_true (show s < n + 1 by omega)]
        · rw [decide_eq_false h, decide_eq_false (show ¬ s < n + 1 by omega)]
      rw [hd]
      by_cases h : letN R k n = true
      · rw [if_pos h, Nat.testBit_or, ih, Nat.testBit_two_pow_of_ne (fun e => hs e.symm)]
        simp
      · rw [if_neg h, ih]
theorem pockN_lt (R : DR) (s : Nat) : ∀ n, pockN R s n < 2 ^ n
  | 0 => Nat.zero_lt_one
  | n + 1 => by
    have ih := pockN_lt R s n
    unfold pockN
    split
    · exact or2_lt ih
    · exact Nat.lt_of_lt_of_le ih (Nat.pow_le_pow_right (by decide) (Nat.le_succ n))
theorem pockN_bit (R : DR) (s : Nat) : ∀ n k, (pockN R s n).testBit k = (decide (k < n) && letN R k s)
  | 0, k => by simp [pockN]
  | n + 1, k => by
    have ih := pockN_bit R s n k
    unfold pockN
    by_cases hs : k = n
    · subst hs
      by_cases h : letN R k s = true
      · rw [if_pos h, Nat.testBit_or, Nat.testBit_two_pow_self]
        simp [h]
      · rw [if_neg h, ih]
        simp [h]
    · have hd : decide (k < n + 1) = decide (k < n) := by
        by_cases h : k < n
        · rw [decide_eq_true h, decide_eq_true (show k < n + 1 by omega)]
        · rw [decide_eq_false h, decide_eq_false (show ¬ k < n + 1 by omega)]
      rw [hd]
      by_cases h : letN R n s = true
      · rw [if_pos h, Nat.testBit_or, ih, Nat.testBit_two_pow_of_ne (fun e => hs e.symm)]
        simp
      · rw [if_neg h, ih]
theorem letB_fuel {R : DR} (hD : Dat R) (s : Nat) : ∀ f k, k < f → k < R 0 0 → letB R s f k = letB R s (f + 1) k
  | 0, k, h, _ => absurd h (Nat.not_lt_zero _)
  | f + 1, k, h, hk => by
    rw [letB, letB]
    by_cases h9 : R 6 k = 9
    · simp [h9]
    · have ho := (hD.2.2.2.1 k hk).2.2.2.2.resolve_right h9
      rw [letB_fuel hD s f (R 6 k) (by omega) (by omega)]
theorem letN_eq {R : DR} (hD : Dat R) {k : Nat} (hk : k < R 0 0) (s : Nat) : letN R k s = (decide (0 < fixN R s (2 ^ R 0 0)) && (allN R s (2 ^ R 0 0)).testBit k && (decide (R 6 k = 9) || letN R (R 6 k) s)) := by
  have h6 := hD.1
  show letB R s 7 k = _
  rw [letB]
  by_cases h9 : R 6 k = 9
  · simp [h9]
  · have ho := (hD.2.2.2.1 k hk).2.2.2.2.resolve_right h9
    rw [letB_fuel hD s 6 (R 6 k) (by omega) (by omega)]
    rfl
theorem fixN_le (R : DR) (s : Nat) : ∀ n, fixN R s n ≤ n
  | 0 => Nat.le_refl _
  | n + 1 => by
    have ih := fixN_le R s n
    unfold fixN
    split <;> omega
theorem allN_le (R : DR) (s : Nat) : ∀ n, allN R s n ≤ 2 ^ R 0 0 - 1
  | 0 => Nat.le_refl _
  | n + 1 => by
    have ih := allN_le R s n
    unfold allN
    split
    · exact Nat.le_trans Nat.and_le_left ih
    · exact ih
theorem pow6 {n : Nat} (h : n ≤ 6) : 1 ≤ 2 ^ n ∧ 2 ^ n ≤ 64 := ⟨Nat.one_le_two_pow, Nat.le_trans (Nat.pow_le_pow_right (by decide) h) (by decide)⟩
theorem holdN_off {R : DR} {a s k : Nat} (h : holdN R a s k = false) : ∀ {n}, k ≤ n → holdN R a s n = false := by
  intro n hn
  induction n with
  | zero => rw [show k = 0 by omega] at h; exact h
  | succ n ih =>
    by_cases e : k = n + 1
    · rw [← e]; exact h
    · unfold holdN
      rw [ih (by omega)]
      rfl

theorem XD.ag {mem m : pw_M} {e : Nat} {R : DR} {A : Nat → Prop} (h : XD mem e R) (hA : Ag A mem m) (hq : ∀ q, e ≤ q → q ≤ e + 20 → A q) : XD m e R := by
  obtain ⟨h0, h1, h2, h3, h4, h5, h6⟩ := h
  refine ⟨by rw [hA.fi (hq e (by omega) (by omega))]; exact h0, by rw [hA.fi (hq e (by omega) (by omega))]; exact h1, by rw [hA.fi (hq e (by omega) (by omega))]; exact h2, fun k hk => ?_, fun k hk => ?_, fun a c ha hc => by rw [hA.iv (hq (e + 11 + a) (by omega) (by omega))]; exact h5 a c ha hc, fun t ht => ?_⟩
  · rw [hA.iv (hq (e + 1) (by omega) (by omega)), hA.iv (hq (e + 2) (by omega) (by omega)), hA.iv (hq (e + 3) (by omega) (by omega)), hA.iv (hq (e + 4) (by omega) (by omega))]
    exact h3 k hk
  · rw [hA.iv (hq (e + 5) (by omega) (by omega)), hA.iv (hq (e + 6) (by omega) (by omega)), hA.iv (hq (e + 7) (by omega) (by omega)), hA.iv (hq (e + 8) (by omega) (by omega)), hA.iv (hq (e + 9) (by omega) (by omega))]
    exact h4 k hk
  · rw [hA.iv (hq (e + 17) (by omega) (by omega)), hA.iv (hq (e + 18) (by omega) (by omega)), hA.iv (hq (e + 19) (by omega) (by omega)), hA.iv (hq (e + 20) (by omega) (by omega))]
    exact h6 t ht
theorem XL.ag {mem m : pw_M} {e : Nat} {R : DR} {A : Nat → Prop} (h : XL mem e R) (hA : Ag A mem m) (h21 : A (e + 21)) (h22 : A (e + 22)) : XL m e R :=
  ⟨fun k hk => by rw [hA.iv h21]; exact h.1 k hk, fun s hs => by rw [hA.iv h22]; exact h.2 s hs⟩
theorem XN.ag {mem m : pw_M} {r T : Nat} {w : Nat → Nat} {p : Int32} {d : Nat} {A : Nat → Prop} (h : XN mem r T w p d) (hA : Ag A mem m) (h0 : A r) (h1 : A (r + 1)) : XN m r T w p d :=
  ⟨fun t ht => by rw [hA.iv h1]; exact h.1 t ht, by rw [hA.fi h0]; exact h.2.1, by rw [hA.fi h0]; exact h.2.2⟩
theorem MD.ag {mem m : pw_M} {R : DR} {A : Nat → Prop} (h : MD mem R) (hA : Ag A mem m) (h95 : A 95) (hq : ∀ q, 97 ≤ q → q ≤ 102 → A q) : MD m R := by
  obtain ⟨h0, h1, h2, h3, h4, h5⟩ := h
  refine ⟨by rw [hA.fi h95]; exact h0, by rw [hA.fi h95]; exact h1, by rw [hA.fi h95]; exact h2, fun k hk => ?_, fun a c ha hc => ?_, fun t ht => ?_⟩
  · rw [hA.iv (hq 97 (by omega) (by omega)), hA.iv (hq 97 (by omega) (by omega)), hA.iv (hq 97 (by omega) (by omega)), hA.iv (hq 97 (by omega) (by omega)), hA.iv (hq 97 (by omega) (by omega)), hA.iv (hq 97 (by omega) (by omega)), hA.iv (hq 97 (by omega) (by omega)), hA.iv (hq 97 (by omega) (by omega))]
    exact h3 k hk
  · rw [hA.iv (hq 98 (by omega) (by omega)), hA.iv (hq 99 (by omega) (by omega))]
    exact h4 a c ha hc
  · rw [hA.iv (hq 100 (by omega) (by omega)), hA.iv (hq 101 (by omega) (by omega)), hA.iv (hq 102 (by omega) (by omega))]
    exact h5 t ht
theorem MN.ag {mem m : pw_M} {T : Nat} {w : Nat → Nat} {p : Int32} {d : Nat} {A : Nat → Prop} (h : MN mem T w p d) (hA : Ag A mem m) (h0 : A 103) : MN m T w p d :=
  ⟨fun t ht => by rw [hA.iv h0]; exact h.1 t ht, by rw [hA.iv h0]; exact h.2.1, by rw [hA.iv h0]; exact h.2.2⟩
end
section
/-! ===== leaves of the class: tests of numbers, bits ===== -/
set_option maxRecDepth 20000 in
theorem has_bit {a k : Nat} (ha : a < 2 ^ 31) (hk : k < 31) : (nI a >>> (nI k &&& 31)) &&& nI 1 = nI (if a.testBit k then 1 else 0) := by
  have hs : ((nI k &&& 31).toBitVec.smod 32).toNat = k := by
    have h31 : ∀ k : Fin 31, ((nI k.val &&& 31).toBitVec.smod 32).toNat = k.val := by decide +kernel
    exact h31 ⟨k, hk⟩
  rw [pk_shrN ha _ k hs, show (nI 1) = (1 : Int32) from rfl]
  have e := pk_andN (n := a / 2 ^ k) (m := 1) (Nat.lt_of_le_of_lt (Nat.div_le_self _ _) (Nat.lt_trans ha (by decide))) 1 (by decide)
  rw [e]
  congr 1
  rw [Nat.testBit_eq_decide_div_mod_eq]
  by_cases h : a / 2 ^ k % 2 = 1
  · simp [h]
  · have : a / 2 ^ k % 2 = 0 := by omega
    simp [this]
theorem bit_ne {c : Bool} (h : (if c = true then 1 else 0 : Nat) ≠ 1) : c = false := by cases c <;> simp_all
theorem bit_eq {c : Bool} (h : (if c = true then 1 else 0 : Nat) = 1) : c = true := by cases c <;> simp_all
set_option maxHeartbeats 4000000 in
theorem x_has {a k : Nat} (ha : a < 2 ^ 31) (hk : k < 31) (mem : pw_M) : Rf 0 mX5_has [.int (nI a), .int (nI k)] mem (some (.int (bI (a.testBit k)))) mem := by
  refine Ret.of (by decide) (Nat.le_of_ble_eq_true rfl) fun l G => ?_
  show PW _ _ _ _ [(0, _), (1, _)] _ _ _
  refine PW.iload_n rfl rfl dX5_has_0 ?_
  refine PW.iload_n rfl rfl dX5_has_1 ?_
  refine PW.ishr dX5_has_2 ?_
  refine PW.iconst (v := nI 1) (by decide) dX5_has_3 ?_
  refine PW.iand dX5_has_4 ?_
  rw [has_bit ha hk]
  refine PW.iconst (v := nI 1) (by decide) dX5_has_5 ?_
  refine PW.icmp_neN 13 (by decide) (by first | omega | (split <;> omega)) (by first | omega | (split <;> omega)) dX5_has_6 (fun hc6 => ?_) (fun hc6 => ?_)
  · refine PW.iconst (v := nI 0) (by decide) dX5_has_13 ?_
    refine PW.zret rfl (by first | exact bI_nar _ | rfl) (Nat.le_refl _) (Nat.le_refl _) dX5_has_14 ?_
    first | exact ⟨by rw [bit_ne hc6]; rfl, rfl⟩ | exact ⟨by rw [bit_eq hc6]; rfl, rfl⟩
  · refine PW.iconst (v := nI 1) (by decide) dX5_has_9 ?_
    refine PW.goto 14 (by decide) dX5_has_10 ?_
    refine PW.zret rfl (by first | exact bI_nar _ | rfl) (Nat.le_refl _) (Nat.le_refl _) dX5_has_14 ?_
    first | exact ⟨by rw [bit_ne hc6]; rfl, rfl⟩ | exact ⟨by rw [bit_eq hc6]; rfl, rfl⟩
set_option maxHeartbeats 4000000 in
theorem m_has {a k : Nat} (ha : a < 2 ^ 31) (hk : k < 31) (mem : pw_M) : Rf 0 mX6_has [.int (nI a), .int (nI k)] mem (some (.int (bI (a.testBit k)))) mem := by
  refine Ret.of (by decide) (Nat.le_of_ble_eq_true rfl) fun l G => ?_
  show PW _ _ _ _ [(0, _), (1, _)] _ _ _
  refine PW.iload_n rfl rfl dX6_has_0 ?_
  refine PW.iload_n rfl rfl dX6_has_1 ?_
  refine PW.ishr dX6_has_2 ?_
  refine PW.iconst (v := nI 1) (by decide) dX6_has_3 ?_
  refine PW.iand dX6_has_4 ?_
  rw [has_bit ha hk]
  refine PW.iconst (v := nI 1) (by decide) dX6_has_5 ?_
  refine PW.icmp_neN 13 (by decide) (by first | omega | (split <;> omega)) (by first | omega | (split <;> omega)) dX6_has_6 (fun hc6 => ?_) (fun hc6 => ?_)
  · refine PW.iconst (v := nI 0) (by decide) dX6_has_13 ?_
    refine PW.zret rfl (by first | exact bI_nar _ | rfl) (Nat.le_refl _) (Nat.le_refl _) dX6_has_14 ?_
    first | exact ⟨by rw [bit_ne hc6]; rfl, rfl⟩ | exact ⟨by rw [bit_eq hc6]; rfl, rfl⟩
  · refine PW.iconst (v := nI 1) (by decide) dX6_has_9 ?_
    refine PW.goto 14 (by decide) dX6_has_10 ?_
    refine PW.zret rfl (by first | exact bI_nar _ | rfl) (Nat.le_refl _) (Nat.le_refl _) dX6_has_14 ?_
    first | exact ⟨by rw [bit_ne hc6]; rfl, rfl⟩ | exact ⟨by rw [bit_eq hc6]; rfl, rfl⟩
set_option maxHeartbeats 4000000 in
theorem x_within (x lo hi : Int32) (mem : pw_M) : Rf 0 mX5_within [.int x, .int lo, .int hi] mem (some (.int (bI (decide (lo ≤ x ∧ x ≤ hi))))) mem := by
  have key : ∀ {a b : Int32}, ¬ a < b → b ≤ a := fun h => Int32.not_lt.mp h
  refine Ret.of (by decide) (Nat.le_of_ble_eq_true rfl) fun l G => ?_
  show PW _ _ _ _ [(0, _), (1, _), (2, _)] _ _ _
  refine PW.iload_n rfl rfl dX5_within_0 ?_
  refine PW.iload_n rfl rfl dX5_within_1 ?_
  refine PW.icmp_lt 14 (by decide) dX5_within_2 (fun hc2 => ?_) (fun hc2 => ?_)
  · refine PW.iconst (v := nI 0) (by decide) dX5_within_14 ?_
    refine PW.zret rfl (by first | exact bI_nar _ | rfl) (Nat.le_refl _) (Nat.le_refl _) dX5_within_15 ?_
    first | exact ⟨by rw [decide_eq_true ⟨key hc2, key hc7⟩]; rfl, rfl⟩ | exact ⟨by rw [decide_eq_false (fun q => Int32.not_lt.mpr q.2 hc7)]; rfl, rfl⟩ | exact ⟨by rw [decide_eq_false (fun q => Int32.not_lt.mpr q.1 hc2)]; rfl, rfl⟩
  · refine PW.iload_n rfl rfl dX5_within_5 ?_
    refine PW.iload_n rfl rfl dX5_within_6 ?_
    refine PW.icmp_gt 14 (by decide) dX5_within_7 (fun hc7 => ?_) (fun hc7 => ?_)
    · refine PW.iconst (v := nI 0) (by decide) dX5_within_14 ?_
      refine PW.zret rfl (by first | exact bI_nar _ | rfl) (Nat.le_refl _) (Nat.le_refl _) dX5_within_15 ?_
      first | exact ⟨by rw [decide_eq_true ⟨key hc2, key hc7⟩]; rfl, rfl⟩ | exact ⟨by rw [decide_eq_false (fun q => Int32.not_lt.mpr q.2 hc7)]; rfl, rfl⟩ | exact ⟨by rw [decide_eq_false (fun q => Int32.not_lt.mpr q.1 hc2)]; rfl, rfl⟩
    · refine PW.iconst (v := nI 1) (by decide) dX5_within_10 ?_
      refine PW.goto 15 (by decide) dX5_within_11 ?_
      refine PW.zret rfl (by first | exact bI_nar _ | rfl) (Nat.le_refl _) (Nat.le_refl _) dX5_within_15 ?_
      first | exact ⟨by rw [decide_eq_true ⟨key hc2, key hc7⟩]; rfl, rfl⟩ | exact ⟨by rw [decide_eq_false (fun q => Int32.not_lt.mpr q.2 hc7)]; rfl, rfl⟩ | exact ⟨by rw [decide_eq_false (fun q => Int32.not_lt.mpr q.1 hc2)]; rfl, rfl⟩
set_option maxHeartbeats 4000000 in
theorem m_in (x lo hi : Int64) (mem : pw_M) : Rf 0 mX6_in [.long x, .long lo, .long hi] mem (some (.int (bI (decide (lo ≤ x ∧ x ≤ hi))))) mem := by
  have k1 : ∀ {a b : Int64}, ¬ lg_cmp a b < 0 → b ≤ a := fun h => Int64.not_lt.mp (fun q => h ((lg_cmp_lt _ _).mpr q))
  have k2 : ∀ {a b : Int64}, ¬ 0 < lg_cmp a b → a ≤ b := fun h => Int64.not_lt.mp (fun q => h ((lg_cmp_gt _ _).mpr q))
  refine Ret.of (by decide) (Nat.le_of_ble_eq_true rfl) fun l G => ?_
  show PW _ _ _ _ [(0, _), (2, _), (4, _)] _ _ _
  refine PW.lload_n rfl rfl dX6_in_0 ?_
  refine PW.lload_n rfl rfl dX6_in_1 ?_
  refine PW.lcmp dX6_in_2 ?_
  refine PW.if_lt 17 (by decide) dX6_in_3 (fun hc3 => ?_) (fun hc3 => ?_)
  · refine PW.iconst (v := nI 0) (by decide) dX6_in_17 ?_
    refine PW.zret rfl (by first | exact bI_nar _ | rfl) (Nat.le_refl _) (Nat.le_refl _) dX6_in_18 ?_
    first | exact ⟨by rw [decide_eq_true ⟨k1 hc3, k2 hc10⟩]; rfl, rfl⟩ | exact ⟨by rw [decide_eq_false (fun q => Int64.not_lt.mpr q.2 ((lg_cmp_gt _ _).mp hc10))]; rfl, rfl⟩ | exact ⟨by rw [decide_eq_false (fun q => Int64.not_lt.mpr q.1 ((lg_cmp_lt _ _).mp hc3))]; rfl, rfl⟩
  · refine PW.lload_n rfl rfl dX6_in_6 ?_
    refine PW.lload rfl dX6_in_7 ?_
    refine PW.lcmp dX6_in_9 ?_
    refine PW.if_gt 17 (by decide) dX6_in_10 (fun hc10 => ?_) (fun hc10 => ?_)
    · refine PW.iconst (v := nI 0) (by decide) dX6_in_17 ?_
      refine PW.zret rfl (by first | exact bI_nar _ | rfl) (Nat.le_refl _) (Nat.le_refl _) dX6_in_18 ?_
      first | exact ⟨by rw [decide_eq_true ⟨k1 hc3, k2 hc10⟩]; rfl, rfl⟩ | exact ⟨by rw [decide_eq_false (fun q => Int64.not_lt.mpr q.2 ((lg_cmp_gt _ _).mp hc10))]; rfl, rfl⟩ | exact ⟨by rw [decide_eq_false (fun q => Int64.not_lt.mpr q.1 ((lg_cmp_lt _ _).mp hc3))]; rfl, rfl⟩
    · refine PW.iconst (v := nI 1) (by decide) dX6_in_13 ?_
      refine PW.goto 18 (by decide) dX6_in_14 ?_
      refine PW.zret rfl (by first | exact bI_nar _ | rfl) (Nat.le_refl _) (Nat.le_refl _) dX6_in_18 ?_
      first | exact ⟨by rw [decide_eq_true ⟨k1 hc3, k2 hc10⟩]; rfl, rfl⟩ | exact ⟨by rw [decide_eq_false (fun q => Int64.not_lt.mpr q.2 ((lg_cmp_gt _ _).mp hc10))]; rfl, rfl⟩ | exact ⟨by rw [decide_eq_false (fun q => Int64.not_lt.mpr q.1 ((lg_cmp_lt _ _).mp hc3))]; rfl, rfl⟩
end
section
/-! ===== the class: what is told, filled, outlawed ===== -/
def fillN (R : DR) (w : Nat → Nat) (k : Nat) : Nat → Nat
  | 0 => 0
  | n + 1 => fillN R w k n + if w n = k then R 14 n else 0
theorem fillN_le {R : DR} {w : Nat → Nat} {k : Nat} : ∀ {n : Nat}, (∀ t, t < n → R 14 t ≤ 5) → fillN R w k n ≤ 5 * n := by
  intro n
  induction n with
  | zero => intro _; exact Nat.le_refl _
  | succ n ih =>
    intro h
    have h1 := ih (fun t ht => h t (by omega))
    have h2 := h n (by omega)
    show fillN R w k n + (if w n = k then R 14 n else 0) ≤ _
    split <;> omega
section XR
variable {b s : Nat} {sc : pw_E} {mem : pw_M} {R : DR} {w : Nat → Nat} {p : Int32} {d : Nat}
set_option maxHeartbeats 4000000 in
theorem x_isPocket (hS : St b s sc mem) (hX : XD mem b R) (hD : Dat R) (k : Int32) : Rf 1 mX5_isPocket [.ref 9, .int k] mem (some (.int (bI (inR k (R 0 0))))) mem := by
  have h6 := hD.1
  refine Ret.of (by decide) (Nat.le_of_ble_eq_true rfl) fun l G => ?_
  show PW _ _ _ _ [(0, _), (1, _)] _ _ _
  refine PW.iload_n rfl rfl dX5_isPocket_0 ?_
  refine PW.iconst (v := nI 0) (by decide) dX5_isPocket_1 ?_
  refine PW.aload_n rfl rfl dX5_isPocket_2 ?_
  refine PW.gV hS.1 (by decide) rfl hS.2.1 fX5_58 dX5_isPocket_3 ?_
  refine PW.gI hS.1 (by have := hS.b; omega) (skR0 hS.b) (by first | exact hX.1 | exact rfl) fX5_206 dX5_isPocket_6 ?_
  refine PW.iconst (v := nI 1) (by decide) dX5_isPocket_9 ?_
  refine PW.isub dX5_isPocket_10 ?_
  refine PW.cS _ kX5_71 (x_within k (nI 0) (nI (R 0 0) - nI 1) mem) rfl rfl (by decide) ⟨by decide, by decide⟩ ⟨Nat.zero_le _, Nat.zero_le _⟩ dX5_isPocket_11 ?_
  refine PW.zret rfl (by first | exact bI_nar _ | rfl) (Nat.le_refl _) (Nat.le_refl _) dX5_isPocket_14 ?_
  exact ⟨by rw [inR_x (by omega)], rfl⟩
set_option maxHeartbeats 4000000 in
theorem x_isThing (hS : St b s sc mem) (hX : XD mem b R) (hD : Dat R) (k : Int32) : Rf 1 mX5_isThing [.ref 9, .int k] mem (some (.int (bI (inR k (R 1 0))))) mem := by
  have h6 := hD.2.1
  refine Ret.of (by decide) (Nat.le_of_ble_eq_true rfl) fun l G => ?_
  show PW _ _ _ _ [(0, _), (1, _)] _ _ _
  refine PW.iload_n rfl rfl dX5_isThing_0 ?_
  refine PW.iconst (v := nI 0) (by decide) dX5_isThing_1 ?_
  refine PW.aload_n rfl rfl dX5_isThing_2 ?_
  refine PW.gV hS.1 (by decide) rfl hS.2.1 fX5_58 dX5_isThing_3 ?_
  refine PW.gI hS.1 (by have := hS.b; omega) (skR1 hS.b) (by first | exact hX.2.1 | exact rfl) fX5_177 dX5_isThing_6 ?_
  refine PW.iconst (v := nI 1) (by decide) dX5_isThing_9 ?_
  refine PW.isub dX5_isThing_10 ?_
  refine PW.cS _ kX5_71 (x_within k (nI 0) (nI (R 1 0) - nI 1) mem) rfl rfl (by decide) ⟨by decide, by decide⟩ ⟨Nat.zero_le _, Nat.zero_le _⟩ dX5_isThing_11 ?_
  refine PW.zret rfl (by first | exact bI_nar _ | rfl) (Nat.le_refl _) (Nat.le_refl _) dX5_isThing_14 ?_
  exact ⟨by rw [inR_x (by omega)], rfl⟩
set_option maxHeartbeats 4000000 in
theorem x_filled (hS : St b s sc mem) (hX : XD mem b R) (hD : Dat R) (hN : XN mem 13 (R 1 0) w p d) (hw : ∀ t, t < R 1 0 → w t < R 0 0) {k : Nat} (hk : k < 6) : Rf 0 mX5_filled [.ref 9, .int (nI k)] mem (some (.int (nI (fillN R w k (R 1 0))))) mem := by
  have h6 := hD.1
  have hT := hD.2.1
  have hb := hS.b
  refine Ret.of (by decide) (Nat.le_of_ble_eq_true rfl) fun l G => ?_
  show PW _ _ _ _ [(0, _), (1, _)] _ _ _
  refine PW.iconst (v := nI 0) (by decide) dX5_filled_0 ?_
  refine PW.istore_n rfl (by decide) dX5_filled_1 (?_ : PW _ _ _ _ [(0, _), (1, _), (2, _)] _ _ _)
  refine PW.iconst (v := nI 0) (by decide) dX5_filled_2 ?_
  refine PW.istore_n rfl (by decide) dX5_filled_3 (?_ : PW _ _ _ _ [(0, _), (1, _), (2, _), (3, _)] _ _ _)
  refine PW.up (fun j => [(0, .ref 9), (1, .int (nI k)), (2, .int (nI (fillN R w k j))), (3, .int (nI j))]) (fun _ => mem) (R 1 0) (fun j hj ih => ?_) ?_
  · have hwj := hw j hj
    have e : fillN R w k (j + 1) = fillN R w k j + if w j = k then R 14 j else 0 := rfl
    refine PW.iload_n rfl rfl dX5_filled_4 ?_
    refine PW.aload_n rfl rfl dX5_filled_5 ?_
    refine PW.gV hS.1 (by decide) rfl hS.2.1 fX5_58 dX5_filled_6 ?_
    refine PW.gI hS.1 (by have := hS.b; omega) (skR1 hS.b) (by first | exact hX.2.1 | exact hN.1 _ hj | exact (hX.2.2.2.2.2.2 _ hj).2.1 | exact rfl) fX5_177 dX5_filled_9 ?_
    refine PW.icmp_geN 46 (by decide) (by first | omega | (split <;> omega)) (by first | omega | (split <;> omega)) dX5_filled_12 (fun hc12 => ?_) (fun hc12 => ?_)
    · exfalso; omega
    · refine PW.aload_n rfl rfl dX5_filled_15 ?_
      refine PW.gR hS.1 (by decide) rfl fX5_19 dX5_filled_16 ?_
      refine PW.gR hS.1 (by decide) rfl fX5_134 dX5_filled_19 ?_
      refine PW.iload_n rfl rfl dX5_filled_22 ?_
      refine PW.aI hS.1 (by decide) rfl (by exact rfl) ⟨by omega, by decide⟩ (by first | exact hX.2.1 | exact hN.1 _ hj | exact (hX.2.2.2.2.2.2 _ hj).2.1 | exact rfl) dX5_filled_23 ?_
      refine PW.iload_n rfl rfl dX5_filled_24 ?_
      refine PW.icmp_neN 40 (by decide) (by first | omega | (split <;> omega)) (by first | omega | (split <;> omega)) dX5_filled_25 (fun hc25 => ?_) (fun hc25 => ?_)
      · refine PW.iincN rfl (by decide) dX5_filled_40 (?_ : PW _ _ _ _ [(0, _), (1, _), (2, _), (3, _)] _ _ _)
        refine PW.goto 4 (by decide) dX5_filled_43 ?_
        first | (rw [e, if_neg hc25] at ih; exact ih) | (rw [e, if_pos hc25] at ih; exact ih)
      · refine PW.iload_n rfl rfl dX5_filled_28 ?_
        refine PW.aload_n rfl rfl dX5_filled_29 ?_
        refine PW.gV hS.1 (by decide) rfl hS.2.1 fX5_58 dX5_filled_30 ?_
        refine PW.gR hS.1 (by have := hS.b; omega) (skR14 hS.b) fX5_128 dX5_filled_33 ?_
        refine PW.iload_n rfl rfl dX5_filled_36 ?_
        refine PW.aI hS.1 (by have := hS.b; omega) (akR18 hS.b) (by exact rfl) ⟨by omega, by decide⟩ (by first | exact hX.2.1 | exact hN.1 _ hj | exact (hX.2.2.2.2.2.2 _ hj).2.1 | exact rfl) dX5_filled_37 ?_
        refine PW.iaddN dX5_filled_38 ?_
        refine PW.istore_n rfl (by decide) dX5_filled_39 (?_ : PW _ _ _ _ [(0, _), (1, _), (2, _), (3, _)] _ _ _)
        refine PW.iincN rfl (by decide) dX5_filled_40 (?_ : PW _ _ _ _ [(0, _), (1, _), (2, _), (3, _)] _ _ _)
        refine PW.goto 4 (by decide) dX5_filled_43 ?_
        first | (rw [e, if_neg hc25] at ih; exact ih) | (rw [e, if_pos hc25] at ih; exact ih)
  · refine PW.iload_n rfl rfl dX5_filled_4 ?_
    refine PW.aload_n rfl rfl dX5_filled_5 ?_
    refine PW.gV hS.1 (by decide) rfl hS.2.1 fX5_58 dX5_filled_6 ?_
    refine PW.gI hS.1 (by have := hS.b; omega) (skR1 hS.b) (by first | exact hX.2.1 | exact rfl) fX5_177 dX5_filled_9 ?_
    refine PW.icmp_geN 46 (by decide) (by first | omega | (split <;> omega)) (by first | omega | (split <;> omega)) dX5_filled_12 (fun hc12 => ?_) (fun hc12 => ?_)
    · refine PW.iload_n rfl rfl dX5_filled_46 ?_
      refine PW.iret rfl (Nat.le_refl _) (Nat.le_refl _) dX5_filled_47 ?_
      exact ⟨rfl, rfl⟩
    · exfalso; omega
end XR
end
section
/-! ===== the class: Arrays.fill, laws ===== -/
section XLW
variable {b s : Nat} {sc : pw_E} {mem : pw_M} {R : DR} {e : Nat}
set_option maxHeartbeats 4000000 in
theorem j_fill (hS : St b s sc mem) {r : Nat} (h9 : 9 ≤ r) (hr : SK[r - 9]? = some (.inl (0, 0, 6, []))) (x : Int32) : Ret 0 0 0 mJ7_fill_53178 [.ref r, .int x] mem (fun u m1 => u = none ∧ St b s sc m1 ∧ Ag (fun q => q ≠ r) mem m1 ∧ ∀ i, i < 6 → iv m1 r i = x) := by
  refine Ret.of (by decide) (Nat.le_of_ble_eq_true rfl) fun l G => ?_
  show PW _ _ _ _ [(0, _), (1, _)] _ _ _
  refine PW.iconst (v := nI 0) (by decide) dJ7_fill_53178_0 ?_
  refine PW.istore_n rfl (by decide) dJ7_fill_53178_1 (?_ : PW _ _ _ _ [(0, _), (1, _), (2, _)] _ _ _)
  refine PW.aload_n rfl rfl dJ7_fill_53178_2 ?_
  refine PW.alen (hS.1.arr h9 hr) h9 (fun _ => rfl) dJ7_fill_53178_3 ?_
  refine PW.istore_n rfl (by decide) dJ7_fill_53178_4 (?_ : PW _ _ _ _ [(0, _), (1, _), (2, _), (3, _)] _ _ _)
  refine PW.loop (I := fun j m => St b s sc m ∧ Ag (fun q => q ≠ r) mem m ∧ ∀ i, i < j → iv m r i = x) (fun j _ => [(0, .ref r), (1, .int x), (2, .int (nI j)), (3, .int (nI 6))]) (fun _ m => m) 6 (fun j m hj hI ih => ?_) (fun m hI => ?_) mem ⟨hS, Ag.rf, fun i hi => absurd hi (Nat.not_lt_zero _)⟩
  · obtain ⟨hS, hA, hv⟩ := hI
    refine PW.iload_n rfl rfl dJ7_fill_53178_5 ?_
    refine PW.iload_n rfl rfl dJ7_fill_53178_6 ?_
    refine PW.icmp_geN 20 (by decide) (by first | omega | (split <;> omega)) (by first | omega | (split <;> omega)) dJ7_fill_53178_7 (fun hc7 => ?_) (fun hc7 => ?_)
    · exfalso; omega
    · refine PW.aload_n rfl rfl dJ7_fill_53178_10 ?_
      refine PW.iload_n rfl rfl dJ7_fill_53178_11 ?_
      refine PW.iload_n rfl rfl dJ7_fill_53178_12 ?_
      refine PW.uI hS h9 hr (by exact rfl) ⟨by omega, by decide⟩ dJ7_fill_53178_13 (fun hS hw13 => ?_)
      refine PW.iincN rfl (by decide) dJ7_fill_53178_14 (?_ : PW _ _ _ _ [(0, _), (1, _), (2, _), (3, _)] _ _ _)
      refine PW.goto 5 (by decide) dJ7_fill_53178_17 ?_
      refine ih _ ⟨hS, hA.tr (Ag.wI (fun h => h rfl)), fun i hi => ?_⟩
      rw [hw13]
      by_cases e : i = j
      · rw [if_pos e]
      · rw [if_neg e]; exact hv i (by omega)
  · obtain ⟨hS, hA, hv⟩ := hI
    refine PW.iload_n rfl rfl dJ7_fill_53178_5 ?_
    refine PW.iload_n rfl rfl dJ7_fill_53178_6 ?_
    refine PW.icmp_geN 20 (by decide) (by first | omega | (split <;> omega)) (by first | omega | (split <;> omega)) dJ7_fill_53178_7 (fun hc7 => ?_) (fun hc7 => ?_)
    · refine PW.vret rfl (Nat.le_refl _) (Nat.le_refl _) dJ7_fill_53178_20 ?_
      exact ⟨rfl, hS, hA, hv⟩
    · exfalso; omega
set_option maxHeartbeats 4000000 in
theorem x_opens (hS : St b s sc mem) (he : e = 49 ∨ e = 72) (hX : XD mem e R) (hL : XL mem e R) (hD : Dat R) {a c t : Nat} (ha : a < R 0 0) (hc : c < R 0 0) (ht : t < 6) : Rf 1 mX2_opens [.ref e, .int (nI a), .int (nI c), .int (nI t)] mem (some (.int (bI ((R 9 a).testBit c && letN R c t)))) mem := by
  have h6 := hD.1
  have h9 := (hD.2.2.2.2.1 a (by omega)).2.2.1
  have hp := pow6 h6
  have hl := letsN_lt R c 6
  have hb := letsN_bit R c 6 t
  rw [decide_eq_true ht, Bool.true_and] at hb
  refine Ret.of (by decide) (Nat.le_of_ble_eq_true rfl) fun l G => ?_
  show PW _ _ _ _ [(0, _), (1, _), (2, _), (3, _)] _ _ _
  refine PW.aload_n rfl rfl dX2_opens_0 ?_
  refine PW.gR hS.1 (by have := he; omega) (skR9 he) fX2_30 dX2_opens_1 ?_
  refine PW.iload_n rfl rfl dX2_opens_4 ?_
  refine PW.aI hS.1 (by have := he; omega) (akR7 he) (by exact rfl) ⟨by omega, by decide⟩ (by first | exact (hX.2.2.2.2.1 _ (by omega)).2.2.1 | exact hL.1 _ hc | exact rfl) dX2_opens_5 ?_
  refine PW.iload_n rfl rfl dX2_opens_6 ?_
  refine PW.cSN _ kX2_107 (x_has (a := R 9 a) (k := c) (by omega) (by omega) mem) rfl rfl (Nat.le_of_ble_eq_true rfl) ⟨by decide, by decide⟩ ⟨Nat.zero_le _, Nat.zero_le _⟩ dX2_opens_7 ?_
  refine PW.if_eqB 30 (by decide) dX2_opens_10 (fun hc10 => ?_) (fun hc10 => ?_)
  · refine PW.iconst (v := nI 0) (by decide) dX2_opens_30 ?_
    refine PW.zret rfl (by first | exact bI_nar _ | rfl) (Nat.le_refl _) (Nat.le_refl _) dX2_opens_31 ?_
    first | exact ⟨by rw [← hb, hc10, hc23]; rfl, rfl⟩ | exact ⟨by rw [hc10]; rfl, rfl⟩
  · refine PW.aload_n rfl rfl dX2_opens_13 ?_
    refine PW.gR hS.1 (by have := he; omega) (skR17 he) fX2_56 dX2_opens_14 ?_
    refine PW.iload_n rfl rfl dX2_opens_17 ?_
    refine PW.aI hS.1 (by have := he; omega) (akR21 he) (by exact rfl) ⟨by omega, by decide⟩ (by first | exact (hX.2.2.2.2.1 _ (by omega)).2.2.1 | exact hL.1 _ hc | exact rfl) dX2_opens_18 ?_
    refine PW.iload_n rfl rfl dX2_opens_19 ?_
    refine PW.cSN _ kX2_107 (x_has (a := letsN R c 6) (k := t) (by omega) (by omega) mem) rfl rfl (Nat.le_of_ble_eq_true rfl) ⟨by decide, by decide⟩ ⟨Nat.zero_le _, Nat.zero_le _⟩ dX2_opens_20 ?_
    refine PW.if_eqB 30 (by decide) dX2_opens_23 (fun hc23 => ?_) (fun hc23 => ?_)
    · refine PW.iconst (v := nI 0) (by decide) dX2_opens_30 ?_
      refine PW.zret rfl (by first | exact bI_nar _ | rfl) (Nat.le_refl _) (Nat.le_refl _) dX2_opens_31 ?_
      first | exact ⟨by rw [← hb, hc10, hc23]; rfl, rfl⟩ | exact ⟨by rw [hc10]; rfl, rfl⟩
    · refine PW.iconst (v := nI 1) (by decide) dX2_opens_26 ?_
      refine PW.goto 31 (by decide) dX2_opens_27 ?_
      refine PW.zret rfl (by first | exact bI_nar _ | rfl) (Nat.le_refl _) (Nat.le_refl _) dX2_opens_31 ?_
      first | exact ⟨by rw [← hb, hc10, hc23]; rfl, rfl⟩ | exact ⟨by rw [hc10]; rfl, rfl⟩
set_option maxHeartbeats 4000000 in
theorem x_price (hS : St b s sc mem) (he : e = 49 ∨ e = 72) (hX : XD mem e R) (hD : Dat R) {a c t : Nat} (ha : a < R 0 0) (hc : c < R 0 0) (ht : t < 6) : Rf 1 mX2_price [.ref e, .int (nI a), .int (nI c), .int (nI t)] mem (some (.int (nI (if (R 12 (6 * a + c)).testBit t then 0 else R 5 c)))) mem := by
  have h6 := hD.1
  have h64 := hD.2.2.2.2.2.1 a c (by omega) (by omega)
  refine Ret.of (by decide) (Nat.le_of_ble_eq_true rfl) fun l G => ?_
  show PW _ _ _ _ [(0, _), (1, _), (2, _), (3, _)] _ _ _
  refine PW.aload_n rfl rfl dX2_price_0 ?_
  refine PW.gR hS.1 (by have := he; omega) (skR12 he) fX2_41 dX2_price_1 ?_
  refine PW.iload_n rfl rfl dX2_price_4 ?_
  refine PW.aQ hS.1 (by have := he; omega) (akR10 he) (fun _ => rfl) rfl (by exact rfl) ⟨by omega, by decide⟩ (akRq (by omega)) dX2_price_5 ?_
  refine PW.iload_n rfl rfl dX2_price_6 ?_
  refine PW.aI hS.1 (by have := he; omega) (akRt he (by omega)) (by exact rfl) ⟨by omega, by decide⟩ (by first | exact (hX.2.2.2.2.2.1 _ _ (by omega) (by omega)) | exact (hX.2.2.2.1 _ hc).2.2.1 | exact rfl) dX2_price_7 ?_
  refine PW.iload_n rfl rfl dX2_price_8 ?_
  refine PW.cSN _ kX2_107 (x_has (a := R 12 (6 * a + c)) (k := t) (by omega) (by omega) mem) rfl rfl (Nat.le_of_ble_eq_true rfl) ⟨by decide, by decide⟩ ⟨Nat.zero_le _, Nat.zero_le _⟩ dX2_price_9 ?_
  refine PW.if_eqB 19 (by decide) dX2_price_12 (fun hc12 => ?_) (fun hc12 => ?_)
  · refine PW.aload_n rfl rfl dX2_price_19 ?_
    refine PW.gR hS.1 (by have := he; omega) (skR5 he) fX2_18 dX2_price_20 ?_
    refine PW.iload_n rfl rfl dX2_price_23 ?_
    refine PW.aI hS.1 (by have := he; omega) (akR3 he) (by exact rfl) ⟨by omega, by decide⟩ (by first | exact (hX.2.2.2.2.2.1 _ _ (by omega) (by omega)) | exact (hX.2.2.2.1 _ hc).2.2.1 | exact rfl) dX2_price_24 ?_
    refine PW.iret rfl (Nat.le_refl _) (Nat.le_refl _) dX2_price_25 ?_
    exact ⟨by rw [hc12]; rfl, rfl⟩
  · refine PW.iconst (v := nI 0) (by decide) dX2_price_15 ?_
    refine PW.goto 25 (by decide) dX2_price_16 ?_
    refine PW.iret rfl (Nat.le_refl _) (Nat.le_refl _) dX2_price_25 ?_
    exact ⟨by rw [hc12]; rfl, rfl⟩
set_option maxHeartbeats 4000000 in
theorem x_lawSays (hS : St b s sc mem) (he : e = 49 ∨ e = 72) (hX : XD mem e R) (hD : Dat R) {k a t : Nat} (hk : k < R 0 0) (ha : a < 64) (ht : t < 6) : Rf 1 mX2_lawSays [.ref e, .int (nI k), .int (nI a), .int (nI t)] mem (some (.int (bI (lawN R k a t)))) mem := by
  have h6 := hD.1
  obtain ⟨d7, d8, -⟩ := hD.2.2.2.2.1 k (by omega)
  obtain ⟨x5, x6, -⟩ := hX.2.2.2.2.1 k (by omega)
  have h4 := (hD.2.2.2.1 k hk).2.2.1
  rcases (show R 7 k = 0 ∨ R 7 k = 1 ∨ R 7 k = 2 by omega) with h7 | h7 | h7
  · have hl : lawN R k a t = !(R 4 k).testBit t := by simp [lawN, h7]
    have hsw : Op.lookupswitch.offset #[(1, 26), (2, 37)].toList 56 (nI 0).toInt = 56 := by decide
    refine Ret.of (by decide) (Nat.le_of_ble_eq_true rfl) fun l G => ?_
    show PW _ _ _ _ [(0, _), (1, _), (2, _), (3, _)] _ _ _
    refine PW.aload_n rfl rfl dX2_lawSays_0 ?_
    refine PW.gR hS.1 (by have := he; omega) (skR7 he) fX2_24 dX2_lawSays_1 ?_
    refine PW.iload_n rfl rfl dX2_lawSays_4 ?_
    refine PW.aI hS.1 (by have := he; omega) (akR5 he) (by exact rfl) ⟨by omega, by decide⟩ (by first | exact x5.trans (by rw [h7]) | exact (hX.2.2.2.1 k hk).2.1 | exact rfl) dX2_lawSays_5 ?_
    refine PW.lookup 62 (by decide) rfl (by decide) dX2_lawSays_6 ?_
    refine PW.aload_n rfl rfl dX2_lawSays_62 ?_
    refine PW.gR hS.1 (by have := he; omega) (skR4 he) fX2_15 dX2_lawSays_63 ?_
    refine PW.iload_n rfl rfl dX2_lawSays_66 ?_
    refine PW.aI hS.1 (by have := he; omega) (akR2 he) (by exact rfl) ⟨by omega, by decide⟩ (by first | exact x5.trans (by rw [h7]) | exact (hX.2.2.2.1 k hk).2.1 | exact rfl) dX2_lawSays_67 ?_
    refine PW.iload_n rfl rfl dX2_lawSays_68 ?_
    refine PW.cSN _ kX2_107 (x_has (a := R 4 k) (k := t) (by omega) (by omega) mem) rfl rfl (Nat.le_of_ble_eq_true rfl) ⟨by decide, by decide⟩ ⟨Nat.zero_le _, Nat.zero_le _⟩ dX2_lawSays_69 ?_
    refine PW.if_neB 79 (by decide) dX2_lawSays_72 (fun hc72 => ?_) (fun hc72 => ?_)
    · refine PW.iconst (v := nI 0) (by decide) dX2_lawSays_79 ?_
      refine PW.zret rfl (by first | exact bI_nar _ | rfl) (Nat.le_refl _) (Nat.le_refl _) dX2_lawSays_80 ?_
      exact ⟨by rw [hl, hc72]; rfl, rfl⟩
    · refine PW.iconst (v := nI 1) (by decide) dX2_lawSays_75 ?_
      refine PW.goto 80 (by decide) dX2_lawSays_76 ?_
      refine PW.zret rfl (by first | exact bI_nar _ | rfl) (Nat.le_refl _) (Nat.le_refl _) dX2_lawSays_80 ?_
      exact ⟨by rw [hl, hc72]; rfl, rfl⟩
  · have hl : lawN R k a t = a.testBit (R 8 k) := by simp [lawN, h7]
    have h8 := d8 (by omega)
    refine Ret.of (by decide) (Nat.le_of_ble_eq_true rfl) fun l G => ?_
    show PW _ _ _ _ [(0, _), (1, _), (2, _), (3, _)] _ _ _
    refine PW.aload_n rfl rfl dX2_lawSays_0 ?_
    refine PW.gR hS.1 (by have := he; omega) (skR7 he) fX2_24 dX2_lawSays_1 ?_
    refine PW.iload_n rfl rfl dX2_lawSays_4 ?_
    refine PW.aI hS.1 (by have := he; omega) (akR5 he) (by exact rfl) ⟨by omega, by decide⟩ (by first | exact x5.trans (by rw [h7]) | exact x6 (by omega) | exact rfl) dX2_lawSays_5 ?_
    refine PW.lookup 32 (by decide) rfl (by decide) dX2_lawSays_6 ?_
    refine PW.iload_n rfl rfl dX2_lawSays_32 ?_
    refine PW.aload_n rfl rfl dX2_lawSays_33 ?_
    refine PW.gR hS.1 (by have := he; omega) (skR8 he) fX2_27 dX2_lawSays_34 ?_
    refine PW.iload_n rfl rfl dX2_lawSays_37 ?_
    refine PW.aI hS.1 (by have := he; omega) (akR6 he) (by exact rfl) ⟨by omega, by decide⟩ (by first | exact x5.trans (by rw [h7]) | exact x6 (by omega) | exact rfl) dX2_lawSays_38 ?_
    refine PW.cSN _ kX2_107 (x_has (a := a) (k := R 8 k) (by omega) (by omega) mem) rfl rfl (Nat.le_of_ble_eq_true rfl) ⟨by decide, by decide⟩ ⟨Nat.zero_le _, Nat.zero_le _⟩ dX2_lawSays_39 ?_
    refine PW.zret rfl (by first | exact bI_nar _ | rfl) (Nat.le_refl _) (Nat.le_refl _) dX2_lawSays_42 ?_
    exact ⟨by rw [hl], rfl⟩
  · have hl : lawN R k a t = !a.testBit (R 8 k) := by simp [lawN, h7]
    have h8 := d8 (by omega)
    refine Ret.of (by decide) (Nat.le_of_ble_eq_true rfl) fun l G => ?_
    show PW _ _ _ _ [(0, _), (1, _), (2, _), (3, _)] _ _ _
    refine PW.aload_n rfl rfl dX2_lawSays_0 ?_
    refine PW.gR hS.1 (by have := he; omega) (skR7 he) fX2_24 dX2_lawSays_1 ?_
    refine PW.iload_n rfl rfl dX2_lawSays_4 ?_
    refine PW.aI hS.1 (by have := he; omega) (akR5 he) (by exact rfl) ⟨by omega, by decide⟩ (by first | exact x5.trans (by rw [h7]) | exact x6 (by omega) | exact rfl) dX2_lawSays_5 ?_
    refine PW.lookup 43 (by decide) rfl (by decide) dX2_lawSays_6 ?_
    refine PW.iload_n rfl rfl dX2_lawSays_43 ?_
    refine PW.aload_n rfl rfl dX2_lawSays_44 ?_
    refine PW.gR hS.1 (by have := he; omega) (skR8 he) fX2_27 dX2_lawSays_45 ?_
    refine PW.iload_n rfl rfl dX2_lawSays_48 ?_
    refine PW.aI hS.1 (by have := he; omega) (akR6 he) (by exact rfl) ⟨by omega, by decide⟩ (by first | exact x5.trans (by rw [h7]) | exact x6 (by omega) | exact rfl) dX2_lawSays_49 ?_
    refine PW.cSN _ kX2_107 (x_has (a := a) (k := R 8 k) (by omega) (by omega) mem) rfl rfl (Nat.le_of_ble_eq_true rfl) ⟨by decide, by decide⟩ ⟨Nat.zero_le _, Nat.zero_le _⟩ dX2_lawSays_50 ?_
    refine PW.if_neB 60 (by decide) dX2_lawSays_53 (fun hc53 => ?_) (fun hc53 => ?_)
    · refine PW.iconst (v := nI 0) (by decide) dX2_lawSays_60 ?_
      refine PW.zret rfl (by first | exact bI_nar _ | rfl) (Nat.le_refl _) (Nat.le_refl _) dX2_lawSays_61 ?_
      exact ⟨by rw [hl, hc53]; rfl, rfl⟩
    · refine PW.iconst (v := nI 1) (by decide) dX2_lawSays_56 ?_
      refine PW.goto 61 (by decide) dX2_lawSays_57 ?_
      refine PW.zret rfl (by first | exact bI_nar _ | rfl) (Nat.le_refl _) (Nat.le_refl _) dX2_lawSays_61 ?_
      exact ⟨by rw [hl, hc53]; rfl, rfl⟩
set_option maxHeartbeats 4000000 in
theorem x_allHold (hS : St b s sc mem) (he : e = 49 ∨ e = 72) (hX : XD mem e R) (hD : Dat R) {a t : Nat} (ha : a < 64) (ht : t < 6) : Rf 2 mX2_allHold [.ref e, .int (nI a), .int (nI t)] mem (some (.int (bI (holdN R a t (R 0 0))))) mem := by
  have h6 := hD.1
  refine Ret.of (by decide) (Nat.le_of_ble_eq_true rfl) fun l G => ?_
  show PW _ _ _ _ [(0, _), (1, _), (2, _)] _ _ _
  refine PW.iconst (v := nI 0) (by decide) dX2_allHold_0 ?_
  refine PW.istore_n rfl (by decide) dX2_allHold_1 (?_ : PW _ _ _ _ [(0, _), (1, _), (2, _), (3, _)] _ _ _)
  refine PW.loop (σ := Unit) (I := fun j _ => holdN R a t j = true) (fun j _ => [(0, .ref e), (1, .int (nI a)), (2, .int (nI t)), (3, .int (nI j))]) (fun _ _ => mem) (R 0 0) (fun j _ hj hI ih => ?_) (fun _ hI => ?_) () rfl
  · refine PW.iload_n rfl rfl dX2_allHold_2 ?_
    refine PW.aload_n rfl rfl dX2_allHold_3 ?_
    refine PW.gI hS.1 (by have := he; omega) (skR0 he) (by first | exact hX.1 | exact rfl) fX2_62 dX2_allHold_4 ?_
    refine PW.icmp_geN 33 (by decide) (by first | omega | (split <;> omega)) (by first | omega | (split <;> omega)) dX2_allHold_7 (fun hc7 => ?_) (fun hc7 => ?_)
    · exfalso; omega
    · refine PW.iload_n rfl rfl dX2_allHold_10 ?_
      refine PW.iload_n rfl rfl dX2_allHold_11 ?_
      refine PW.cSN _ kX2_107 (x_has (a := a) (k := j) (by omega) (by omega) mem) rfl rfl (Nat.le_of_ble_eq_true rfl) ⟨by decide, by decide⟩ ⟨Nat.zero_le _, Nat.zero_le _⟩ dX2_allHold_12 ?_
      refine PW.aload_n rfl rfl dX2_allHold_15 ?_
      refine PW.iload_n rfl rfl dX2_allHold_16 ?_
      refine PW.iload_n rfl rfl dX2_allHold_17 ?_
      refine PW.iload_n rfl rfl dX2_allHold_18 ?_
      refine PW.cV _ hS.1 (by have := he; omega) (skR0 he) kX2_113 (x_lawSays hS he hX hD hj ha ht) rfl rfl (Nat.le_of_ble_eq_true rfl) rfl ⟨by decide, by decide⟩ ⟨Nat.zero_le _, Nat.zero_le _⟩ dX2_allHold_19 ?_
      refine PW.icmp_eqB 27 (by decide) dX2_allHold_22 (fun hc22 => ?_) (fun hc22 => ?_)
      · refine PW.iincN rfl (by decide) dX2_allHold_27 (?_ : PW _ _ _ _ [(0, _), (1, _), (2, _), (3, _)] _ _ _)
        refine PW.goto 2 (by decide) dX2_allHold_30 ?_
        exact ih () (by show (holdN R a t j && (a.testBit j == lawN R j a t)) = true; rw [hI, hc22]; simp)
      · refine PW.iconst (v := nI 0) (by decide) dX2_allHold_25 ?_
        refine PW.zret rfl (by first | exact bI_nar _ | rfl) (Nat.le_refl _) (Nat.le_refl _) dX2_allHold_26 ?_
        exact ⟨by rw [holdN_off (k := j + 1) (by show (holdN R a t j && (a.testBit j == lawN R j a t)) = false; rw [hI]; simpa using hc22) (by omega)]; rfl, rfl⟩
  · refine PW.iload_n rfl rfl dX2_allHold_2 ?_
    refine PW.aload_n rfl rfl dX2_allHold_3 ?_
    refine PW.gI hS.1 (by have := he; omega) (skR0 he) (by first | exact hX.1 | exact rfl) fX2_62 dX2_allHold_4 ?_
    refine PW.icmp_geN 33 (by decide) (by first | omega | (split <;> omega)) (by first | omega | (split <;> omega)) dX2_allHold_7 (fun hc7 => ?_) (fun hc7 => ?_)
    · refine PW.iconst (v := nI 1) (by decide) dX2_allHold_33 ?_
      refine PW.zret rfl (by first | exact bI_nar _ | rfl) (Nat.le_refl _) (Nat.le_refl _) dX2_allHold_34 ?_
      exact ⟨by rw [hI]; rfl, rfl⟩
    · exfalso; omega
set_option maxHeartbeats 4000000 in
theorem x_outerLetsIn (hS : St b s sc mem) (he : e = 49 ∨ e = 72) (hX : XD mem e R) (hD : Dat R) {k t : Nat} (hk : k < R 0 0) (ht : t < 6) (hl : R 6 k ≠ 9 → iv mem (e + 21) (R 6 k) = nI (letsN R (R 6 k) (t + 1))) : Rf 1 mX2_outerLetsIn [.ref e, .int (nI k), .int (nI t)] mem (some (.int (bI (decide (R 6 k = 9) || letN R (R 6 k) t)))) mem := by
  have h6 := hD.1
  have h9 := (hD.2.2.2.1 k hk).2.2.2.2
  have hlt := letsN_lt R (R 6 k) (t + 1)
  have h64 : 2 ^ (t + 1) ≤ 64 := Nat.le_trans (Nat.pow_le_pow_right (by decide) (show t + 1 ≤ 6 by omega)) (by decide)
  have hb := letsN_bit R (R 6 k) (t + 1) t
  rw [decide_eq_true (by omega), Bool.true_and] at hb
  refine Ret.of (by decide) (Nat.le_of_ble_eq_true rfl) fun l G => ?_
  show PW _ _ _ _ [(0, _), (1, _), (2, _)] _ _ _
  refine PW.aload_n rfl rfl dX2_outerLetsIn_0 ?_
  refine PW.gR hS.1 (by have := he; omega) (skR6 he) fX2_21 dX2_outerLetsIn_1 ?_
  refine PW.iload_n rfl rfl dX2_outerLetsIn_4 ?_
  refine PW.aI hS.1 (by have := he; omega) (akR4 he) (by exact rfl) ⟨by omega, by decide⟩ (by first | exact (hX.2.2.2.1 k hk).2.2.2 | exact hl hc8 | exact rfl) dX2_outerLetsIn_5 ?_
  refine PW.bipush (v := nI 9) (by decide) dX2_outerLetsIn_6 ?_
  refine PW.icmp_eqN 29 (by decide) (by first | omega | (split <;> omega)) (by first | omega | (split <;> omega)) dX2_outerLetsIn_8 (fun hc8 => ?_) (fun hc8 => ?_)
  · refine PW.iconst (v := nI 1) (by decide) dX2_outerLetsIn_29 ?_
    refine PW.goto 34 (by decide) dX2_outerLetsIn_30 ?_
    refine PW.zret rfl (by first | exact bI_nar _ | rfl) (Nat.le_refl _) (Nat.le_refl _) dX2_outerLetsIn_34 ?_
    first | exact ⟨by rw [hc8]; rfl, rfl⟩ | exact ⟨by rw [decide_eq_false hc8, ← hb, hc26]; rfl, rfl⟩
  · refine PW.aload_n rfl rfl dX2_outerLetsIn_11 ?_
    refine PW.gR hS.1 (by have := he; omega) (skR17 he) fX2_56 dX2_outerLetsIn_12 ?_
    refine PW.aload_n rfl rfl dX2_outerLetsIn_15 ?_
    refine PW.gR hS.1 (by have := he; omega) (skR6 he) fX2_21 dX2_outerLetsIn_16 ?_
    refine PW.iload_n rfl rfl dX2_outerLetsIn_19 ?_
    refine PW.aI hS.1 (by have := he; omega) (akR4 he) (by exact rfl) ⟨by omega, by decide⟩ (by first | exact (hX.2.2.2.1 k hk).2.2.2 | exact hl hc8 | exact rfl) dX2_outerLetsIn_20 ?_
    refine PW.aI hS.1 (by have := he; omega) (akR21 he) (by exact rfl) ⟨by omega, by decide⟩ (by first | exact (hX.2.2.2.1 k hk).2.2.2 | exact hl hc8 | exact rfl) dX2_outerLetsIn_21 ?_
    refine PW.iload_n rfl rfl dX2_outerLetsIn_22 ?_
    refine PW.cSN _ kX2_107 (x_has (a := letsN R (R 6 k) (t + 1)) (k := t) (by omega) (by omega) mem) rfl rfl (Nat.le_of_ble_eq_true rfl) ⟨by decide, by decide⟩ ⟨Nat.zero_le _, Nat.zero_le _⟩ dX2_outerLetsIn_23 ?_
    refine PW.if_eqB 33 (by decide) dX2_outerLetsIn_26 (fun hc26 => ?_) (fun hc26 => ?_)
    · refine PW.iconst (v := nI 0) (by decide) dX2_outerLetsIn_33 ?_
      refine PW.zret rfl (by first | exact bI_nar _ | rfl) (Nat.le_refl _) (Nat.le_refl _) dX2_outerLetsIn_34 ?_
      first | exact ⟨by rw [hc8]; rfl, rfl⟩ | exact ⟨by rw [decide_eq_false hc8, ← hb, hc26]; rfl, rfl⟩
    · refine PW.iconst (v := nI 1) (by decide) dX2_outerLetsIn_29 ?_
      refine PW.goto 34 (by decide) dX2_outerLetsIn_30 ?_
      refine PW.zret rfl (by first | exact bI_nar _ | rfl) (Nat.le_refl _) (Nat.le_refl _) dX2_outerLetsIn_34 ?_
      first | exact ⟨by rw [hc8]; rfl, rfl⟩ | exact ⟨by rw [decide_eq_false hc8, ← hb, hc26]; rfl, rfl⟩
end XLW
section XLX
variable {b s : Nat} {sc : pw_E} {mem : pw_M} {R : DR} {e : Nat}
set_option maxHeartbeats 8000000 in
theorem x_settleLawsOf (hS : St b s sc mem) (he : e = 49 ∨ e = 72) (hX : XD mem e R) (hD : Dat R) {t : Nat} (ht : t < 6) (hl : ∀ k, k < R 0 0 → iv mem (e + 21) k = nI (letsN R k t)) :
    Ret 3 0 0 mX2_settleLawsOf [.ref e, .int (nI t)] mem (fun u m1 => u = none ∧ St b s sc m1 ∧ Ag (fun q => q ≠ e + 21 ∧ q ≠ e + 22) mem m1 ∧ (∀ k, k < R 0 0 → iv m1 (e + 21) k = nI (letsN R k (t + 1))) ∧ ∀ i, iv m1 (e + 22) i = if i = t then nI (fixN R t (2 ^ R 0 0)) else iv mem (e + 22) i) := by
  have h6 := hD.1
  have hp := pow6 h6
  have h2t : 2 ^ t ≤ 64 := Nat.le_trans (Nat.pow_le_pow_right (by decide) (show t ≤ 6 by omega)) (by decide)
  refine Ret.of (by decide) (Nat.le_of_ble_eq_true rfl) fun l G => ?_
  show PW _ _ _ _ [(0, _), (1, _)] _ _ _
  refine PW.iconst (v := nI 0) (by decide) dX2_settleLawsOf_0 ?_
  refine PW.istore_n rfl (by decide) dX2_settleLawsOf_1 (?_ : PW _ _ _ _ [(0, _), (1, _), (2, _)] _ _ _)
  refine PW.iconst (v := nI 1) (by decide) dX2_settleLawsOf_2 ?_
  refine PW.aload_n rfl rfl dX2_settleLawsOf_3 ?_
  refine PW.gI hS.1 (by have := he; omega) (skR0 he) (by first | exact hX.1 | exact rfl) fX2_62 dX2_settleLawsOf_4 ?_
  refine PW.ishl1 (by omega) dX2_settleLawsOf_7 ?_
  refine PW.iconst (v := nI 1) (by decide) dX2_settleLawsOf_8 ?_
  refine PW.isubN (by omega) dX2_settleLawsOf_9 ?_
  refine PW.istore_n rfl (by decide) dX2_settleLawsOf_10 (?_ : PW _ _ _ _ [(0, _), (1, _), (2, _), (3, _)] _ _ _)
  refine PW.iconst (v := nI 0) (by decide) dX2_settleLawsOf_11 ?_
  refine PW.istore (by decide) dX2_settleLawsOf_12 (?_ : PW _ _ _ _ [(0, _), (1, _), (2, _), (3, _), (4, _)] _ _ _)
  refine PW.up (fun j => [(0, .ref e), (1, .int (nI t)), (2, .int (nI (fixN R t j))), (3, .int (nI (allN R t j))), (4, .int (nI j))]) (fun _ => mem) (2 ^ R 0 0) (fun j hj ih => ?_) ?_
  · have ef : fixN R t (j + 1) = fixN R t j + if holdN R j t (R 0 0) then 1 else 0 := rfl
    have ea : allN R t (j + 1) = if holdN R j t (R 0 0) then allN R t j &&& j else allN R t j := rfl
    refine PW.iload rfl dX2_settleLawsOf_14 ?_
    refine PW.iconst (v := nI 1) (by decide) dX2_settleLawsOf_16 ?_
    refine PW.aload_n rfl rfl dX2_settleLawsOf_17 ?_
    refine PW.gI hS.1 (by have := he; omega) (skR0 he) (by first | exact hX.1 | exact rfl) fX2_62 dX2_settleLawsOf_18 ?_
    refine PW.ishl1 (by omega) dX2_settleLawsOf_21 ?_
    refine PW.icmp_geN 49 (by decide) (by first | omega | (split <;> omega)) (by first | omega | (split <;> omega)) dX2_settleLawsOf_22 (fun hc22 => ?_) (fun hc22 => ?_)
    · exfalso; omega
    · refine PW.aload_n rfl rfl dX2_settleLawsOf_25 ?_
      refine PW.iload rfl dX2_settleLawsOf_26 ?_
      refine PW.iload_n rfl rfl dX2_settleLawsOf_28 ?_
      refine PW.cV _ hS.1 (by have := he; omega) (skR0 he) kX2_103 (x_allHold hS he hX hD (a := j) (by omega) ht) rfl rfl (Nat.le_of_ble_eq_true rfl) rfl ⟨by decide, by decide⟩ ⟨Nat.zero_le _, Nat.zero_le _⟩ dX2_settleLawsOf_29 ?_
      refine PW.if_eqB 43 (by decide) dX2_settleLawsOf_32 (fun hc32 => ?_) (fun hc32 => ?_)
      · refine PW.iincN rfl (by decide) dX2_settleLawsOf_43 (?_ : PW _ _ _ _ [(0, _), (1, _), (2, _), (3, _), (4, _)] _ _ _)
        refine PW.goto 14 (by decide) dX2_settleLawsOf_46 ?_
        rw [ef, ea, hc32] at ih
        exact ih
      · refine PW.iincN rfl (by decide) dX2_settleLawsOf_35 (?_ : PW _ _ _ _ [(0, _), (1, _), (2, _), (3, _), (4, _)] _ _ _)
        refine PW.iload_n rfl rfl dX2_settleLawsOf_38 ?_
        refine PW.iload rfl dX2_settleLawsOf_39 ?_
        refine PW.iandN dX2_settleLawsOf_41 ?_
        refine PW.istore_n rfl (by decide) dX2_settleLawsOf_42 (?_ : PW _ _ _ _ [(0, _), (1, _), (2, _), (3, _), (4, _)] _ _ _)
        refine PW.iincN rfl (by decide) dX2_settleLawsOf_43 (?_ : PW _ _ _ _ [(0, _), (1, _), (2, _), (3, _), (4, _)] _ _ _)
        refine PW.goto 14 (by decide) dX2_settleLawsOf_46 ?_
        rw [ef, ea, hc32] at ih
        exact ih
  have hfl := fixN_le R t (2 ^ R 0 0)
  have hal := allN_le R t (2 ^ R 0 0)
  generalize hF : fixN R t (2 ^ R 0 0) = f at hfl ⊢
  generalize hA : allN R t (2 ^ R 0 0) = al at hal ⊢
  have h59 : ∀ m, St b s sc m → Ag (fun q => q ≠ e + 21 ∧ q ≠ e + 22) mem m → (∀ i, iv m (e + 21) i = iv mem (e + 21) i) → (∀ i, iv m (e + 22) i = if i = t then nI f else iv mem (e + 22) i) → PW (l, G, mX2_settleLawsOf, pw_rm 3 0 0, 0, 0) 0 0 59 [(0, .ref e), (1, .int (nI t)), (2, .int (nI f)), (3, .int (nI al)), (4, .int (nI 0))] [] m (fun u m1 => u = none ∧ St b s sc m1 ∧ Ag (fun q => q ≠ e + 21 ∧ q ≠ e + 22) mem m1 ∧ (∀ k, k < R 0 0 → iv m1 (e + 21) k = nI (letsN R k (t + 1))) ∧ ∀ i, iv m1 (e + 22) i = if i = t then nI f else iv mem (e + 22) i) := by
    intro m hS hAg h21 h22
    refine PW.loop (I := fun j m => St b s sc m ∧ Ag (fun q => q ≠ e + 21 ∧ q ≠ e + 22) mem m ∧ (∀ i, iv m (e + 22) i = if i = t then nI f else iv mem (e + 22) i) ∧ (∀ i, i < j → iv m (e + 21) i = nI (letsN R i (t + 1))) ∧ ∀ i, j ≤ i → i < R 0 0 → iv m (e + 21) i = nI (letsN R i t)) (fun j _ => [(0, .ref e), (1, .int (nI t)), (2, .int (nI f)), (3, .int (nI al)), (4, .int (nI j))]) (fun _ m => m) (R 0 0) (fun j m hj hI ih => ?_) (fun m hI => ?_) m ⟨hS, hAg, h22, fun i hi => absurd hi (Nat.not_lt_zero _), fun i _ hi => by rw [h21]; exact hl i hi⟩
    · obtain ⟨hS, hAg, h22, hlo, hhi⟩ := hI
      have hX := hX.ag hAg (fun q h1 h2 => ⟨by omega, by omega⟩)
      have hln := letN_eq hD hj t
      have hlj := letsN_lt R j t
      rw [hF, hA] at hln
      have hnext : ∀ m', letN R j t = false → (∀ i, iv m' (e + 21) i = iv m (e + 21) i) → (∀ i, i < j + 1 → iv m' (e + 21) i = nI (letsN R i (t + 1))) ∧ ∀ i, j + 1 ≤ i → i < R 0 0 → iv m' (e + 21) i = nI (letsN R i t) := by
        intro m' hf heq
        refine ⟨fun i hi => ?_, fun i h1 h2 => by rw [heq]; exact hhi i (by omega) h2⟩
        rw [heq]
        by_cases e1 : i = j
        · subst e1
          rw [hhi i (Nat.le_refl _) hj]
          show _ = nI (if letN R i t then letsN R i t ||| 2 ^ t else letsN R i t)
          rw [hf]
          rfl
        · exact hlo i (by omega)
      have hset : letN R j t = true → ∀ m', (∀ i, iv m' (e + 21) i = if i = j then nI (letsN R j t ||| 2 ^ t) else iv m (e + 21) i) → (∀ i, i < j + 1 → iv m' (e + 21) i = nI (letsN R i (t + 1))) ∧ ∀ i, j + 1 ≤ i → i < R 0 0 → iv m' (e + 21) i = nI (letsN R i t) := by
        intro hf m' heq
        refine ⟨fun i hi => ?_, fun i h1 h2 => by rw [heq, if_neg (by omega)]; exact hhi i (by omega) h2⟩
        rw [heq]
        by_cases e1 : i = j
        · subst e1
          rw [if_pos rfl]
          show _ = nI (if letN R i t then letsN R i t ||| 2 ^ t else letsN R i t)
          rw [hf]
          rfl
        · rw [if_neg e1]
          exact hlo i (by omega)
      have ho : R 6 j ≠ 9 → iv m (e + 21) (R 6 j) = nI (letsN R (R 6 j) (t + 1)) := fun h9 => hlo _ ((hD.2.2.2.1 j hj).2.2.2.2.resolve_right h9)
      have h104 : ∀ m', St b s sc m' → Ag (fun q => q ≠ e + 21 ∧ q ≠ e + 22) mem m' → (∀ i, iv m' (e + 22) i = if i = t then nI f else iv mem (e + 22) i) → ((∀ i, i < j + 1 → iv m' (e + 21) i = nI (letsN R i (t + 1))) ∧ ∀ i, j + 1 ≤ i → i < R 0 0 → iv m' (e + 21) i = nI (letsN R i t)) → PW (l, G, mX2_settleLawsOf, pw_rm 3 0 0, 0, 0) 0 0 104 [(0, .ref e), (1, .int (nI t)), (2, .int (nI f)), (3, .int (nI al)), (4, .int (nI j))] [] m' (fun u m1 => u = none ∧ St b s sc m1 ∧ Ag (fun q => q ≠ e + 21 ∧ q ≠ e + 22) mem m1 ∧ (∀ k, k < R 0 0 → iv m1 (e + 21) k = nI (letsN R k (t + 1))) ∧ ∀ i, iv m1 (e + 22) i = if i = t then nI f else iv mem (e + 22) i) := by
        intro m' hS hAg h22 h21
        refine PW.iincN rfl (by decide) dX2_settleLawsOf_104 (?_ : PW _ _ _ _ [(0, _), (1, _), (2, _), (3, _), (4, _)] _ _ _)
        refine PW.goto 59 (by decide) dX2_settleLawsOf_107 ?_
        exact ih m' ⟨hS, hAg, h22, h21.1, h21.2⟩
      refine PW.iload rfl dX2_settleLawsOf_59 ?_
      refine PW.aload_n rfl rfl dX2_settleLawsOf_61 ?_
      refine PW.gI hS.1 (by have := he; omega) (skR0 he) (by first | exact hX.1 | exact hhi _ (Nat.le_refl _) hj | exact rfl) fX2_62 dX2_settleLawsOf_62 ?_
      refine PW.icmp_geN 110 (by decide) (by first | omega | (split <;> omega)) (by first | omega | (split <;> omega)) dX2_settleLawsOf_65 (fun hc65 => ?_) (fun hc65 => ?_)
      · exfalso; omega
      · refine PW.iload_n rfl rfl dX2_settleLawsOf_68 ?_
        refine PW.if_leN 104 (by decide) (by first | omega | (split <;> omega)) dX2_settleLawsOf_69 (fun hc69 => ?_) (fun hc69 => ?_)
        · first | exact h104 m hS hAg h22 (hnext m (by rw [hln, hc69]; rfl) (fun _ => rfl)) | exact h104 m hS hAg h22 (hnext m (by rw [hln, hc78, Bool.and_false, Bool.false_and]) (fun _ => rfl)) | exact h104 m hS hAg h22 (hnext m (by rw [hln, hc88, Bool.and_false]) (fun _ => rfl)) | exact h104 _ hS (hAg.tr (Ag.wI (fun h => h.1 rfl))) (fun i => by rw [iv_wI_ne (by omega)]; exact h22 i) (hset (by rw [hln, hc78, hc88, decide_eq_true hc69]; rfl) _ hw103)
        · refine PW.iload_n rfl rfl dX2_settleLawsOf_72 ?_
          refine PW.iload rfl dX2_settleLawsOf_73 ?_
          refine PW.cSN _ kX2_107 (x_has (a := al) (k := j) (by omega) (by omega) m) rfl rfl (Nat.le_of_ble_eq_true rfl) ⟨by decide, by decide⟩ ⟨Nat.zero_le _, Nat.zero_le _⟩ dX2_settleLawsOf_75 ?_
          refine PW.if_eqB 104 (by decide) dX2_settleLawsOf_78 (fun hc78 => ?_) (fun hc78 => ?_)
          · first | exact h104 m hS hAg h22 (hnext m (by rw [hln, hc69]; rfl) (fun _ => rfl)) | exact h104 m hS hAg h22 (hnext m (by rw [hln, hc78, Bool.and_false, Bool.false_and]) (fun _ => rfl)) | exact h104 m hS hAg h22 (hnext m (by rw [hln, hc88, Bool.and_false]) (fun _ => rfl)) | exact h104 _ hS (hAg.tr (Ag.wI (fun h => h.1 rfl))) (fun i => by rw [iv_wI_ne (by omega)]; exact h22 i) (hset (by rw [hln, hc78, hc88, decide_eq_true hc69]; rfl) _ hw103)
          · refine PW.aload_n rfl rfl dX2_settleLawsOf_81 ?_
            refine PW.iload rfl dX2_settleLawsOf_82 ?_
            refine PW.iload_n rfl rfl dX2_settleLawsOf_84 ?_
            refine PW.cV _ hS.1 (by have := he; omega) (skR0 he) kX2_110 (x_outerLetsIn hS he hX hD hj ht ho) rfl rfl (Nat.le_of_ble_eq_true rfl) rfl ⟨by decide, by decide⟩ ⟨Nat.zero_le _, Nat.zero_le _⟩ dX2_settleLawsOf_85 ?_
            refine PW.if_eqB 104 (by decide) dX2_settleLawsOf_88 (fun hc88 => ?_) (fun hc88 => ?_)
            · first | exact h104 m hS hAg h22 (hnext m (by rw [hln, hc69]; rfl) (fun _ => rfl)) | exact h104 m hS hAg h22 (hnext m (by rw [hln, hc78, Bool.and_false, Bool.false_and]) (fun _ => rfl)) | exact h104 m hS hAg h22 (hnext m (by rw [hln, hc88, Bool.and_false]) (fun _ => rfl)) | exact h104 _ hS (hAg.tr (Ag.wI (fun h => h.1 rfl))) (fun i => by rw [iv_wI_ne (by omega)]; exact h22 i) (hset (by rw [hln, hc78, hc88, decide_eq_true hc69]; rfl) _ hw103)
            · refine PW.aload_n rfl rfl dX2_settleLawsOf_91 ?_
              refine PW.gR hS.1 (by have := he; omega) (skR17 he) fX2_56 dX2_settleLawsOf_92 ?_
              refine PW.iload rfl dX2_settleLawsOf_95 ?_
              refine PW.dup2 rfl rfl dX2_settleLawsOf_97 ?_
              refine PW.aI hS.1 (by have := he; omega) (akR21 he) (by exact rfl) ⟨by omega, by decide⟩ (by first | exact hX.1 | exact hhi _ (Nat.le_refl _) hj | exact rfl) dX2_settleLawsOf_98 ?_
              refine PW.iconst (v := nI 1) (by decide) dX2_settleLawsOf_99 ?_
              refine PW.iload_n rfl rfl dX2_settleLawsOf_100 ?_
              refine PW.ishl1 (by omega) dX2_settleLawsOf_101 ?_
              refine PW.iorN dX2_settleLawsOf_102 ?_
              refine PW.uI hS (by have := he; omega) (akR21 he) (by exact rfl) ⟨by omega, by decide⟩ dX2_settleLawsOf_103 (fun hS hw103 => ?_)
              first | exact h104 m hS hAg h22 (hnext m (by rw [hln, hc69]; rfl) (fun _ => rfl)) | exact h104 m hS hAg h22 (hnext m (by rw [hln, hc78, Bool.and_false, Bool.false_and]) (fun _ => rfl)) | exact h104 m hS hAg h22 (hnext m (by rw [hln, hc88, Bool.and_false]) (fun _ => rfl)) | exact h104 _ hS (hAg.tr (Ag.wI (fun h => h.1 rfl))) (fun i => by rw [iv_wI_ne (by omega)]; exact h22 i) (hset (by rw [hln, hc78, hc88, decide_eq_true hc69]; rfl) _ hw103)
    · obtain ⟨hS, hAg, h22, hlo, hhi⟩ := hI
      have hX := hX.ag hAg (fun q h1 h2 => ⟨by omega, by omega⟩)
      refine PW.iload rfl dX2_settleLawsOf_59 ?_
      refine PW.aload_n rfl rfl dX2_settleLawsOf_61 ?_
      refine PW.gI hS.1 (by have := he; omega) (skR0 he) (by first | exact hX.1 | exact hhi _ (Nat.le_refl _) hj | exact rfl) fX2_62 dX2_settleLawsOf_62 ?_
      refine PW.icmp_geN 110 (by decide) (by first | omega | (split <;> omega)) (by first | omega | (split <;> omega)) dX2_settleLawsOf_65 (fun hc65 => ?_) (fun hc65 => ?_)
      · refine PW.vret rfl (Nat.le_refl _) (Nat.le_refl _) dX2_settleLawsOf_110 ?_
        exact ⟨rfl, hS, hAg, hlo, h22⟩
      · exfalso; omega
  refine PW.iload rfl dX2_settleLawsOf_14 ?_
  refine PW.iconst (v := nI 1) (by decide) dX2_settleLawsOf_16 ?_
  refine PW.aload_n rfl rfl dX2_settleLawsOf_17 ?_
  refine PW.gI hS.1 (by have := he; omega) (skR0 he) (by first | exact hX.1 | exact hhi _ (Nat.le_refl _) hj | exact rfl) fX2_62 dX2_settleLawsOf_18 ?_
  refine PW.ishl1 (by omega) dX2_settleLawsOf_21 ?_
  refine PW.icmp_geN 49 (by decide) (by first | omega | (split <;> omega)) (by first | omega | (split <;> omega)) dX2_settleLawsOf_22 (fun hc22 => ?_) (fun hc22 => ?_)
  · refine PW.aload_n rfl rfl dX2_settleLawsOf_49 ?_
    refine PW.gR hS.1 (by have := he; omega) (skR18 he) fX2_59 dX2_settleLawsOf_50 ?_
    refine PW.iload_n rfl rfl dX2_settleLawsOf_53 ?_
    refine PW.iload_n rfl rfl dX2_settleLawsOf_54 ?_
    refine PW.uI hS (by have := he; omega) (akR22 he) (by exact rfl) ⟨by omega, by decide⟩ dX2_settleLawsOf_55 (fun hS hw55 => ?_)
    refine PW.iconst (v := nI 0) (by decide) dX2_settleLawsOf_56 ?_
    refine PW.istore (by decide) dX2_settleLawsOf_57 (?_ : PW _ _ _ _ [(0, _), (1, _), (2, _), (3, _), (4, _)] _ _ _)
    exact h59 _ hS (Ag.wI (fun h => h.2 rfl)) (fun i => iv_wI_ne (by omega)) hw55
  · exfalso; omega
end XLX
section XLY
variable {b s : Nat} {sc : pw_E} {mem : pw_M} {R : DR} {e : Nat}
set_option maxHeartbeats 4000000 in
theorem x_settleLaws (hS : St b s sc mem) (he : e = 49 ∨ e = 72) (hX : XD mem e R) (hD : Dat R) :
    Ret 4 0 0 mX2_settleLaws [.ref e] mem (fun u m1 => u = none ∧ St b s sc m1 ∧ Ag (fun q => q ≠ e + 21 ∧ q ≠ e + 22) mem m1 ∧ XL m1 e R) := by
  have h6 := hD.1
  refine Ret.of (by decide) (Nat.le_of_ble_eq_true rfl) fun l G => ?_
  show PW _ _ _ _ [(0, _)] _ _ _
  refine PW.aload_n rfl rfl dX2_settleLaws_0 ?_
  refine PW.gR hS.1 (by have := he; omega) (skR17 he) fX2_56 dX2_settleLaws_1 ?_
  refine PW.iconst (v := nI 0) (by decide) dX2_settleLaws_4 ?_
  refine PW.dS _ kX2_72 (j_fill hS (r := e + 21) (by omega) (akR21 he) (nI 0)) rfl rfl (Nat.le_of_ble_eq_true rfl) ⟨by decide, by decide⟩ ⟨Nat.zero_le _, Nat.zero_le _⟩ dX2_settleLaws_5 (fun v m1 q => ?_)
  obtain ⟨rfl, hS, hA, hv⟩ := q
  refine PW.iconst (v := nI 0) (by decide) dX2_settleLaws_8 ?_
  refine PW.istore_n rfl (by decide) dX2_settleLaws_9 (?_ : PW _ _ _ _ [(0, _), (1, _)] _ _ _)
  skip
  refine PW.loop (I := fun j m => St b s sc m ∧ Ag (fun q => q ≠ e + 21 ∧ q ≠ e + 22) mem m ∧ (∀ k, k < R 0 0 → iv m (e + 21) k = nI (letsN R k j)) ∧ ∀ i, i < j → iv m (e + 22) i = nI (fixN R i (2 ^ R 0 0))) (fun j _ => [(0, .ref e), (1, .int (nI j))]) (fun _ m => m) 6 (fun j m hj hI ih => ?_) (fun m hI => ?_) m1 ⟨hS, hA.mono (fun q h => h.1), fun k hk => hv k (by omega), fun i hi => absurd hi (Nat.not_lt_zero _)⟩
  · obtain ⟨hS, hAg, hlet, hfix⟩ := hI
    have hX := hX.ag hAg (fun q h1 h2 => ⟨by omega, by omega⟩)
    refine PW.iload_n rfl rfl dX2_settleLaws_10 ?_
    refine PW.bipush (v := nI 6) (by decide) dX2_settleLaws_11 ?_
    refine PW.icmp_geN 27 (by decide) (by first | omega | (split <;> omega)) (by first | omega | (split <;> omega)) dX2_settleLaws_13 (fun hc13 => ?_) (fun hc13 => ?_)
    · exfalso; omega
    · refine PW.aload_n rfl rfl dX2_settleLaws_16 ?_
      refine PW.iload_n rfl rfl dX2_settleLaws_17 ?_
      refine PW.dV _ hS.1 (by have := he; omega) (skR0 he) kX2_99 (x_settleLawsOf hS he hX hD hj hlet) rfl rfl (Nat.le_of_ble_eq_true rfl) rfl ⟨by decide, by decide⟩ ⟨Nat.zero_le _, Nat.zero_le _⟩ dX2_settleLaws_18 (fun v m1 q => ?_)
      obtain ⟨rfl, hS, hA2, hl2, hf2⟩ := q
      refine PW.iincN rfl (by decide) dX2_settleLaws_21 (?_ : PW _ _ _ _ [(0, _), (1, _)] _ _ _)
      refine PW.goto 10 (by decide) dX2_settleLaws_24 ?_
      refine ih _ ⟨hS, hAg.tr hA2, hl2, fun i hi => ?_⟩
      rw [hf2]
      by_cases e1 : i = j
      · rw [if_pos e1, e1]
      · rw [if_neg e1]; exact hfix i (by omega)
  · obtain ⟨hS, hAg, hlet, hfix⟩ := hI
    refine PW.iload_n rfl rfl dX2_settleLaws_10 ?_
    refine PW.bipush (v := nI 6) (by decide) dX2_settleLaws_11 ?_
    refine PW.icmp_geN 27 (by decide) (by first | omega | (split <;> omega)) (by first | omega | (split <;> omega)) dX2_settleLaws_13 (fun hc13 => ?_) (fun hc13 => ?_)
    · refine PW.vret rfl (Nat.le_refl _) (Nat.le_refl _) dX2_settleLaws_27 ?_
      exact ⟨rfl, hS, hAg, hlet, hfix⟩
    · exfalso; omega
end XLY
end
