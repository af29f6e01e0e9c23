-- ===== PART A: goes FIRST, ahead of the names: the tables' words, and 'selects' of the private methods out of them =====
/-- a private method of a class that the tables say can be made, by its rows of tables_1 -/
def lw_okq (q : MethodName × Nat) : Prop := (q.1.cls ≠ "java/lang/invoke/MethodHandle" ∧ q.1.cls ≠ "java/lang/invoke/VarHandle") ∧ Cond.instantiable q.1.cls q.2 ∈ tables_1 ∧ Cond.privateMethod q.1 ∈ tables_1 ∧ Cond.instanceMethod q.1 ∈ tables_1
theorem lw_p0 : lw_okq (⟨"HoundLicence$Reader", "takes", "(I)Z"⟩, 5) := ⟨⟨by decide +kernel, by decide +kernel⟩, List.mem_of_getElem? (i := 23) (by decide +kernel), List.mem_of_getElem? (i := 278) (by decide +kernel), List.mem_of_getElem? (i := 279) (by decide +kernel)⟩
theorem lw_p1 : lw_okq (⟨"HoundLicence$Reader", "opens", "(I)Z"⟩, 5) := ⟨⟨by decide +kernel, by decide +kernel⟩, List.mem_of_getElem? (i := 23) (by decide +kernel), List.mem_of_getElem? (i := 282) (by decide +kernel), List.mem_of_getElem? (i := 283) (by decide +kernel)⟩
theorem lw_p2 : lw_okq (⟨"HoundLicence$Reader", "mayOpen", "(I)Z"⟩, 5) := ⟨⟨by decide +kernel, by decide +kernel⟩, List.mem_of_getElem? (i := 23) (by decide +kernel), List.mem_of_getElem? (i := 286) (by decide +kernel), List.mem_of_getElem? (i := 287) (by decide +kernel)⟩
theorem lw_p3 : lw_okq (⟨"HoundLicence$Reader", "takesHead", "(I)Z"⟩, 5) := ⟨⟨by decide +kernel, by decide +kernel⟩, List.mem_of_getElem? (i := 23) (by decide +kernel), List.mem_of_getElem? (i := 297) (by decide +kernel), List.mem_of_getElem? (i := 298) (by decide +kernel)⟩
theorem lw_p4 : lw_okq (⟨"HoundLicence$Reader", "goesOn", "(ZI)Z"⟩, 5) := ⟨⟨by decide +kernel, by decide +kernel⟩, List.mem_of_getElem? (i := 23) (by decide +kernel), List.mem_of_getElem? (i := 307) (by decide +kernel), List.mem_of_getElem? (i := 308) (by decide +kernel)⟩
theorem lw_p5 : lw_okq (⟨"HoundLicence$Reader", "takesDog", "(I)Z"⟩, 5) := ⟨⟨by decide +kernel, by decide +kernel⟩, List.mem_of_getElem? (i := 23) (by decide +kernel), List.mem_of_getElem? (i := 311) (by decide +kernel), List.mem_of_getElem? (i := 312) (by decide +kernel)⟩
theorem lw_p6 : lw_okq (⟨"HoundLicence$Reader", "takesMan", "(I)Z"⟩, 5) := ⟨⟨by decide +kernel, by decide +kernel⟩, List.mem_of_getElem? (i := 23) (by decide +kernel), List.mem_of_getElem? (i := 315) (by decide +kernel), List.mem_of_getElem? (i := 316) (by decide +kernel)⟩
theorem lw_p7 : lw_okq (⟨"HoundLicence$Reader", "takesParent", "(I)Z"⟩, 5) := ⟨⟨by decide +kernel, by decide +kernel⟩, List.mem_of_getElem? (i := 23) (by decide +kernel), List.mem_of_getElem? (i := 337) (by decide +kernel), List.mem_of_getElem? (i := 338) (by decide +kernel)⟩
theorem lw_p8 : lw_okq (⟨"HoundLicence$Law", "comesFrom", "(II)Z"⟩, 8) := ⟨⟨by decide +kernel, by decide +kernel⟩, List.mem_of_getElem? (i := 29) (by decide +kernel), List.mem_of_getElem? (i := 345) (by decide +kernel), List.mem_of_getElem? (i := 346) (by decide +kernel)⟩
theorem lw_p9 : lw_okq (⟨"HoundLicence$Acts", "forgetFirst", "()V"⟩, 2) := ⟨⟨by decide +kernel, by decide +kernel⟩, List.mem_of_getElem? (i := 145) (by decide +kernel), List.mem_of_getElem? (i := 425) (by decide +kernel), List.mem_of_getElem? (i := 426) (by decide +kernel)⟩
theorem lw_p10 : lw_okq (⟨"HoundLicence$Town", "serve", "(LHoundLicence$Law;I)V"⟩, 7) := ⟨⟨by decide +kernel, by decide +kernel⟩, List.mem_of_getElem? (i := 83) (by decide +kernel), List.mem_of_getElem? (i := 460) (by decide +kernel), List.mem_of_getElem? (i := 461) (by decide +kernel)⟩
theorem lw_p11 : lw_okq (⟨"HoundLicence$Town", "mayBeCaught", "(LHoundLicence$Law;IZ)Z"⟩, 7) := ⟨⟨by decide +kernel, by decide +kernel⟩, List.mem_of_getElem? (i := 83) (by decide +kernel), List.mem_of_getElem? (i := 465) (by decide +kernel), List.mem_of_getElem? (i := 466) (by decide +kernel)⟩
theorem lw_p12 : lw_okq (⟨"HoundLicence$Town", "impound", "(LHoundLicence$Law;I)V"⟩, 7) := ⟨⟨by decide +kernel, by decide +kernel⟩, List.mem_of_getElem? (i := 83) (by decide +kernel), List.mem_of_getElem? (i := 471) (by decide +kernel), List.mem_of_getElem? (i := 472) (by decide +kernel)⟩
theorem lw_p13 : lw_okq (⟨"HoundLicence", "tryHours", "(III)I"⟩, 11) := ⟨⟨by decide +kernel, by decide +kernel⟩, List.mem_of_getElem? (i := 15) (by decide +kernel), List.mem_of_getElem? (i := 487) (by decide +kernel), List.mem_of_getElem? (i := 488) (by decide +kernel)⟩
theorem lw_p14 : lw_okq (⟨"HoundLicence$Ahead", "waysBy", "(II)I"⟩, 4) := ⟨⟨by decide +kernel, by decide +kernel⟩, List.mem_of_getElem? (i := 177) (by decide +kernel), List.mem_of_getElem? (i := 508) (by decide +kernel), List.mem_of_getElem? (i := 509) (by decide +kernel)⟩
theorem lw_p15 : lw_okq (⟨"HoundLicence$Ahead", "firstWay", "(II)I"⟩, 4) := ⟨⟨by decide +kernel, by decide +kernel⟩, List.mem_of_getElem? (i := 177) (by decide +kernel), List.mem_of_getElem? (i := 520) (by decide +kernel), List.mem_of_getElem? (i := 521) (by decide +kernel)⟩
def lw_privs_1 : List (MethodName × Nat) := [(⟨"HoundLicence$Reader", "takes", "(I)Z"⟩, 5), (⟨"HoundLicence$Reader", "opens", "(I)Z"⟩, 5), (⟨"HoundLicence$Reader", "mayOpen", "(I)Z"⟩, 5), (⟨"HoundLicence$Reader", "takesHead", "(I)Z"⟩, 5), (⟨"HoundLicence$Reader", "goesOn", "(ZI)Z"⟩, 5), (⟨"HoundLicence$Reader", "takesDog", "(I)Z"⟩, 5), (⟨"HoundLicence$Reader", "takesMan", "(I)Z"⟩, 5), (⟨"HoundLicence$Reader", "takesParent", "(I)Z"⟩, 5), (⟨"HoundLicence$Law", "comesFrom", "(II)Z"⟩, 8), (⟨"HoundLicence$Acts", "forgetFirst", "()V"⟩, 2), (⟨"HoundLicence$Town", "serve", "(LHoundLicence$Law;I)V"⟩, 7), (⟨"HoundLicence$Town", "mayBeCaught", "(LHoundLicence$Law;IZ)Z"⟩, 7), (⟨"HoundLicence$Town", "impound", "(LHoundLicence$Law;I)V"⟩, 7), (⟨"HoundLicence", "tryHours", "(III)I"⟩, 11), (⟨"HoundLicence$Ahead", "waysBy", "(II)I"⟩, 4), (⟨"HoundLicence$Ahead", "firstWay", "(II)I"⟩, 4)]
theorem lw_r1 : ∀ q ∈ lw_privs_1, lw_okq q := List.forall_mem_cons.mpr ⟨lw_p0, List.forall_mem_cons.mpr ⟨lw_p1, List.forall_mem_cons.mpr ⟨lw_p2, List.forall_mem_cons.mpr ⟨lw_p3, List.forall_mem_cons.mpr ⟨lw_p4, List.forall_mem_cons.mpr ⟨lw_p5, List.forall_mem_cons.mpr ⟨lw_p6, List.forall_mem_cons.mpr ⟨lw_p7, List.forall_mem_cons.mpr ⟨lw_p8, List.forall_mem_cons.mpr ⟨lw_p9, List.forall_mem_cons.mpr ⟨lw_p10, List.forall_mem_cons.mpr ⟨lw_p11, List.forall_mem_cons.mpr ⟨lw_p12, List.forall_mem_cons.mpr ⟨lw_p13, List.forall_mem_cons.mpr ⟨lw_p14, List.forall_mem_cons.mpr ⟨lw_p15, fun _ h => absurd h List.not_mem_nil⟩⟩⟩⟩⟩⟩⟩⟩⟩⟩⟩⟩⟩⟩⟩⟩
theorem lw_p16 : lw_okq (⟨"HoundLicence$Ahead", "clearNext", "()V"⟩, 4) := ⟨⟨by decide +kernel, by decide +kernel⟩, List.mem_of_getElem? (i := 177) (by decide +kernel), List.mem_of_getElem? (i := 536) (by decide +kernel), List.mem_of_getElem? (i := 537) (by decide +kernel)⟩
theorem lw_p17 : lw_okq (⟨"HoundLicence$Ahead", "swap", "()V"⟩, 4) := ⟨⟨by decide +kernel, by decide +kernel⟩, List.mem_of_getElem? (i := 177) (by decide +kernel), List.mem_of_getElem? (i := 540) (by decide +kernel), List.mem_of_getElem? (i := 541) (by decide +kernel)⟩
theorem lw_p18 : lw_okq (⟨"HoundLicence$Ahead", "spread", "(II)V"⟩, 4) := ⟨⟨by decide +kernel, by decide +kernel⟩, List.mem_of_getElem? (i := 177) (by decide +kernel), List.mem_of_getElem? (i := 544) (by decide +kernel), List.mem_of_getElem? (i := 545) (by decide +kernel)⟩
theorem lw_p19 : lw_okq (⟨"HoundLicence$Ahead", "allReached", "()Z"⟩, 4) := ⟨⟨by decide +kernel, by decide +kernel⟩, List.mem_of_getElem? (i := 177) (by decide +kernel), List.mem_of_getElem? (i := 551) (by decide +kernel), List.mem_of_getElem? (i := 552) (by decide +kernel)⟩
theorem lw_p20 : lw_okq (⟨"HoundLicence$Sightings", "fits", "(LHoundLicence$Law;LHoundLicence$Town;II)Z"⟩, 6) := ⟨⟨by decide +kernel, by decide +kernel⟩, List.mem_of_getElem? (i := 198) (by decide +kernel), List.mem_of_getElem? (i := 597) (by decide +kernel), List.mem_of_getElem? (i := 598) (by decide +kernel)⟩
theorem lw_p21 : lw_okq (⟨"HoundLicenceModel", "readLaw", "()I"⟩, 31) := ⟨⟨by decide +kernel, by decide +kernel⟩, List.mem_of_getElem? (i := 676) (by decide +kernel), List.mem_of_getElem? (i := 793) (by decide +kernel), List.mem_of_getElem? (i := 794) (by decide +kernel)⟩
theorem lw_p22 : lw_okq (⟨"HoundLicenceModel", "readHead", "()Z"⟩, 31) := ⟨⟨by decide +kernel, by decide +kernel⟩, List.mem_of_getElem? (i := 676) (by decide +kernel), List.mem_of_getElem? (i := 797) (by decide +kernel), List.mem_of_getElem? (i := 798) (by decide +kernel)⟩
theorem lw_p23 : lw_okq (⟨"HoundLicenceModel", "figure", "(II)I"⟩, 31) := ⟨⟨by decide +kernel, by decide +kernel⟩, List.mem_of_getElem? (i := 676) (by decide +kernel), List.mem_of_getElem? (i := 801) (by decide +kernel), List.mem_of_getElem? (i := 802) (by decide +kernel)⟩
theorem lw_p24 : lw_okq (⟨"HoundLicenceModel", "readPart", "()Z"⟩, 31) := ⟨⟨by decide +kernel, by decide +kernel⟩, List.mem_of_getElem? (i := 676) (by decide +kernel), List.mem_of_getElem? (i := 805) (by decide +kernel), List.mem_of_getElem? (i := 806) (by decide +kernel)⟩
theorem lw_p25 : lw_okq (⟨"HoundLicenceModel", "readDog", "()Z"⟩, 31) := ⟨⟨by decide +kernel, by decide +kernel⟩, List.mem_of_getElem? (i := 676) (by decide +kernel), List.mem_of_getElem? (i := 809) (by decide +kernel), List.mem_of_getElem? (i := 810) (by decide +kernel)⟩
theorem lw_p26 : lw_okq (⟨"HoundLicenceModel", "readMan", "()Z"⟩, 31) := ⟨⟨by decide +kernel, by decide +kernel⟩, List.mem_of_getElem? (i := 676) (by decide +kernel), List.mem_of_getElem? (i := 813) (by decide +kernel), List.mem_of_getElem? (i := 814) (by decide +kernel)⟩
theorem lw_p27 : lw_okq (⟨"HoundLicenceModel", "rooms", "()I"⟩, 31) := ⟨⟨by decide +kernel, by decide +kernel⟩, List.mem_of_getElem? (i := 676) (by decide +kernel), List.mem_of_getElem? (i := 817) (by decide +kernel), List.mem_of_getElem? (i := 818) (by decide +kernel)⟩
theorem lw_p28 : lw_okq (⟨"HoundLicenceModel", "one", "(I)I"⟩, 31) := ⟨⟨by decide +kernel, by decide +kernel⟩, List.mem_of_getElem? (i := 676) (by decide +kernel), List.mem_of_getElem? (i := 821) (by decide +kernel), List.mem_of_getElem? (i := 822) (by decide +kernel)⟩
theorem lw_p29 : lw_okq (⟨"HoundLicenceModel", "parents", "()I"⟩, 31) := ⟨⟨by decide +kernel, by decide +kernel⟩, List.mem_of_getElem? (i := 676) (by decide +kernel), List.mem_of_getElem? (i := 829) (by decide +kernel), List.mem_of_getElem? (i := 830) (by decide +kernel)⟩
theorem lw_p30 : lw_okq (⟨"HoundLicenceModel", "young", "(I)I"⟩, 31) := ⟨⟨by decide +kernel, by decide +kernel⟩, List.mem_of_getElem? (i := 676) (by decide +kernel), List.mem_of_getElem? (i := 833) (by decide +kernel), List.mem_of_getElem? (i := 834) (by decide +kernel)⟩
theorem lw_p31 : lw_okq (⟨"HoundLicenceModel", "comes", "(II)Z"⟩, 31) := ⟨⟨by decide +kernel, by decide +kernel⟩, List.mem_of_getElem? (i := 676) (by decide +kernel), List.mem_of_getElem? (i := 837) (by decide +kernel), List.mem_of_getElem? (i := 838) (by decide +kernel)⟩
def lw_privs_2 : List (MethodName × Nat) := [(⟨"HoundLicence$Ahead", "clearNext", "()V"⟩, 4), (⟨"HoundLicence$Ahead", "swap", "()V"⟩, 4), (⟨"HoundLicence$Ahead", "spread", "(II)V"⟩, 4), (⟨"HoundLicence$Ahead", "allReached", "()Z"⟩, 4), (⟨"HoundLicence$Sightings", "fits", "(LHoundLicence$Law;LHoundLicence$Town;II)Z"⟩, 6), (⟨"HoundLicenceModel", "readLaw", "()I"⟩, 31), (⟨"HoundLicenceModel", "readHead", "()Z"⟩, 31), (⟨"HoundLicenceModel", "figure", "(II)I"⟩, 31), (⟨"HoundLicenceModel", "readPart", "()Z"⟩, 31), (⟨"HoundLicenceModel", "readDog", "()Z"⟩, 31), (⟨"HoundLicenceModel", "readMan", "()Z"⟩, 31), (⟨"HoundLicenceModel", "rooms", "()I"⟩, 31), (⟨"HoundLicenceModel", "one", "(I)I"⟩, 31), (⟨"HoundLicenceModel", "parents", "()I"⟩, 31), (⟨"HoundLicenceModel", "young", "(I)I"⟩, 31), (⟨"HoundLicenceModel", "comes", "(II)Z"⟩, 31)]
theorem lw_r2 : ∀ q ∈ lw_privs_2, lw_okq q := List.forall_mem_cons.mpr ⟨lw_p16, List.forall_mem_cons.mpr ⟨lw_p17, List.forall_mem_cons.mpr ⟨lw_p18, List.forall_mem_cons.mpr ⟨lw_p19, List.forall_mem_cons.mpr ⟨lw_p20, List.forall_mem_cons.mpr ⟨lw_p21, List.forall_mem_cons.mpr ⟨lw_p22, List.forall_mem_cons.mpr ⟨lw_p23, List.forall_mem_cons.mpr ⟨lw_p24, List.forall_mem_cons.mpr ⟨lw_p25, List.forall_mem_cons.mpr ⟨lw_p26, List.forall_mem_cons.mpr ⟨lw_p27, List.forall_mem_cons.mpr ⟨lw_p28, List.forall_mem_cons.mpr ⟨lw_p29, List.forall_mem_cons.mpr ⟨lw_p30, List.forall_mem_cons.mpr ⟨lw_p31, fun _ h => absurd h List.not_mem_nil⟩⟩⟩⟩⟩⟩⟩⟩⟩⟩⟩⟩⟩⟩⟩⟩
theorem lw_p32 : lw_okq (⟨"HoundLicenceModel", "readParent", "()Z"⟩, 31) := ⟨⟨by decide +kernel, by decide +kernel⟩, List.mem_of_getElem? (i := 676) (by decide +kernel), List.mem_of_getElem? (i := 841) (by decide +kernel), List.mem_of_getElem? (i := 842) (by decide +kernel)⟩
theorem lw_p33 : lw_okq (⟨"HoundLicenceModel", "impounded", "()I"⟩, 31) := ⟨⟨by decide +kernel, by decide +kernel⟩, List.mem_of_getElem? (i := 676) (by decide +kernel), List.mem_of_getElem? (i := 853) (by decide +kernel), List.mem_of_getElem? (i := 854) (by decide +kernel)⟩
theorem lw_p34 : lw_okq (⟨"HoundLicenceModel", "noDog", "(I)Z"⟩, 31) := ⟨⟨by decide +kernel, by decide +kernel⟩, List.mem_of_getElem? (i := 676) (by decide +kernel), List.mem_of_getElem? (i := 864) (by decide +kernel), List.mem_of_getElem? (i := 865) (by decide +kernel)⟩
theorem lw_p35 : lw_okq (⟨"HoundLicenceModel", "keeps", "([II)I"⟩, 31) := ⟨⟨by decide +kernel, by decide +kernel⟩, List.mem_of_getElem? (i := 676) (by decide +kernel), List.mem_of_getElem? (i := 868) (by decide +kernel), List.mem_of_getElem? (i := 869) (by decide +kernel)⟩
theorem lw_p36 : lw_okq (⟨"HoundLicenceModel", "noMan", "(I)Z"⟩, 31) := ⟨⟨by decide +kernel, by decide +kernel⟩, List.mem_of_getElem? (i := 676) (by decide +kernel), List.mem_of_getElem? (i := 876) (by decide +kernel), List.mem_of_getElem? (i := 877) (by decide +kernel)⟩
theorem lw_p37 : lw_okq (⟨"HoundLicenceModel", "note", "()V"⟩, 31) := ⟨⟨by decide +kernel, by decide +kernel⟩, List.mem_of_getElem? (i := 676) (by decide +kernel), List.mem_of_getElem? (i := 885) (by decide +kernel), List.mem_of_getElem? (i := 886) (by decide +kernel)⟩
theorem lw_p38 : lw_okq (⟨"HoundLicenceModel", "goLead", "([III)V"⟩, 31) := ⟨⟨by decide +kernel, by decide +kernel⟩, List.mem_of_getElem? (i := 676) (by decide +kernel), List.mem_of_getElem? (i := 889) (by decide +kernel), List.mem_of_getElem? (i := 890) (by decide +kernel)⟩
theorem lw_p39 : lw_okq (⟨"HoundLicenceModel", "goHour", "([III)I"⟩, 31) := ⟨⟨by decide +kernel, by decide +kernel⟩, List.mem_of_getElem? (i := 676) (by decide +kernel), List.mem_of_getElem? (i := 908) (by decide +kernel), List.mem_of_getElem? (i := 909) (by decide +kernel)⟩
theorem lw_p40 : lw_okq (⟨"HoundLicenceModel", "begin", "()V"⟩, 31) := ⟨⟨by decide +kernel, by decide +kernel⟩, List.mem_of_getElem? (i := 676) (by decide +kernel), List.mem_of_getElem? (i := 921) (by decide +kernel), List.mem_of_getElem? (i := 922) (by decide +kernel)⟩
theorem lw_p41 : lw_okq (⟨"HoundLicenceModel", "goes", "(IIIZ)Z"⟩, 31) := ⟨⟨by decide +kernel, by decide +kernel⟩, List.mem_of_getElem? (i := 676) (by decide +kernel), List.mem_of_getElem? (i := 934) (by decide +kernel), List.mem_of_getElem? (i := 935) (by decide +kernel)⟩
theorem lw_p42 : lw_okq (⟨"HoundLicenceModel", "isAlone", "(I)Z"⟩, 31) := ⟨⟨by decide +kernel, by decide +kernel⟩, List.mem_of_getElem? (i := 676) (by decide +kernel), List.mem_of_getElem? (i := 938) (by decide +kernel), List.mem_of_getElem? (i := 939) (by decide +kernel)⟩
theorem lw_p43 : lw_okq (⟨"HoundLicenceModel", "streetsOf", "(III)I"⟩, 31) := ⟨⟨by decide +kernel, by decide +kernel⟩, List.mem_of_getElem? (i := 676) (by decide +kernel), List.mem_of_getElem? (i := 946) (by decide +kernel), List.mem_of_getElem? (i := 947) (by decide +kernel)⟩
theorem lw_p44 : lw_okq (⟨"HoundLicenceModel", "findWalks", "()V"⟩, 31) := ⟨⟨by decide +kernel, by decide +kernel⟩, List.mem_of_getElem? (i := 676) (by decide +kernel), List.mem_of_getElem? (i := 977) (by decide +kernel), List.mem_of_getElem? (i := 978) (by decide +kernel)⟩
theorem lw_p45 : lw_okq (⟨"HoundLicenceModel", "isWalk", "(I)Z"⟩, 31) := ⟨⟨by decide +kernel, by decide +kernel⟩, List.mem_of_getElem? (i := 676) (by decide +kernel), List.mem_of_getElem? (i := 981) (by decide +kernel), List.mem_of_getElem? (i := 982) (by decide +kernel)⟩
theorem lw_p46 : lw_okq (⟨"HoundLicenceModel", "wasAt", "(III)I"⟩, 31) := ⟨⟨by decide +kernel, by decide +kernel⟩, List.mem_of_getElem? (i := 676) (by decide +kernel), List.mem_of_getElem? (i := 985) (by decide +kernel), List.mem_of_getElem? (i := 986) (by decide +kernel)⟩
def lw_privs_3 : List (MethodName × Nat) := [(⟨"HoundLicenceModel", "readParent", "()Z"⟩, 31), (⟨"HoundLicenceModel", "impounded", "()I"⟩, 31), (⟨"HoundLicenceModel", "noDog", "(I)Z"⟩, 31), (⟨"HoundLicenceModel", "keeps", "([II)I"⟩, 31), (⟨"HoundLicenceModel", "noMan", "(I)Z"⟩, 31), (⟨"HoundLicenceModel", "note", "()V"⟩, 31), (⟨"HoundLicenceModel", "goLead", "([III)V"⟩, 31), (⟨"HoundLicenceModel", "goHour", "([III)I"⟩, 31), (⟨"HoundLicenceModel", "begin", "()V"⟩, 31), (⟨"HoundLicenceModel", "goes", "(IIIZ)Z"⟩, 31), (⟨"HoundLicenceModel", "isAlone", "(I)Z"⟩, 31), (⟨"HoundLicenceModel", "streetsOf", "(III)I"⟩, 31), (⟨"HoundLicenceModel", "findWalks", "()V"⟩, 31), (⟨"HoundLicenceModel", "isWalk", "(I)Z"⟩, 31), (⟨"HoundLicenceModel", "wasAt", "(III)I"⟩, 31)]
theorem lw_r3 : ∀ q ∈ lw_privs_3, lw_okq q := List.forall_mem_cons.mpr ⟨lw_p32, List.forall_mem_cons.mpr ⟨lw_p33, List.forall_mem_cons.mpr ⟨lw_p34, List.forall_mem_cons.mpr ⟨lw_p35, List.forall_mem_cons.mpr ⟨lw_p36, List.forall_mem_cons.mpr ⟨lw_p37, List.forall_mem_cons.mpr ⟨lw_p38, List.forall_mem_cons.mpr ⟨lw_p39, List.forall_mem_cons.mpr ⟨lw_p40, List.forall_mem_cons.mpr ⟨lw_p41, List.forall_mem_cons.mpr ⟨lw_p42, List.forall_mem_cons.mpr ⟨lw_p43, List.forall_mem_cons.mpr ⟨lw_p44, List.forall_mem_cons.mpr ⟨lw_p45, List.forall_mem_cons.mpr ⟨lw_p46, fun _ h => absurd h List.not_mem_nil⟩⟩⟩⟩⟩⟩⟩⟩⟩⟩⟩⟩⟩⟩⟩
def lw_privs : List (MethodName × Nat) := lw_privs_1 ++ (lw_privs_2 ++ (lw_privs_3))
def lw_tbl : List Cond := k2_sels lw_privs ++ tables_1
theorem lw_privs_ok : ∀ q ∈ lw_privs, lw_okq q := by
  show ∀ q ∈ lw_privs_1 ++ (lw_privs_2 ++ (lw_privs_3)), lw_okq q
  exact List.forall_mem_append.mpr ⟨lw_r1, List.forall_mem_append.mpr ⟨lw_r2, lw_r3⟩⟩
-- names
def RX0 : String := "HoundLicence$Acts"
def TX0 : u_T := fun k => match k with
  | 0 => ("HoundLicence$Acts", "count", "I", false)
  | _ => ("HoundLicence$Acts", "before", "[LHoundLicence$Town;", true)
def tyX0 : Nat → FieldType := fun k => match k with
  | 0 => .int
  | _ => .array (.object "HoundLicence$Town")
abbrev wsX00 : List Cond := u_ws RX0 TX0 2
theorem nmX0 : ∀ a, a < 2 → ∀ b, b < 2 → a ≠ b → (TX0 a).2.1 ≠ (TX0 b).2.1 := by decide +kernel
theorem tyX0_ok : ∀ k, k < 2 → parseFieldDescriptor (TX0 k).2.2.1 = some (tyX0 k) := by decide +kernel
abbrev cX0_init : ByteArray := prog_2_method_1_code
def yX0_init : MethodName := ⟨RX0, "<init>", "()V"⟩
abbrev cX0_forget : ByteArray := prog_2_method_2_code
def yX0_forget : MethodName := ⟨RX0, "forget", "()V"⟩
abbrev cX0_remember : ByteArray := prog_2_method_3_code
def yX0_remember : MethodName := ⟨RX0, "remember", "(LHoundLicence$Town;)V"⟩
abbrev cX0_takeBack : ByteArray := prog_2_method_4_code
def yX0_takeBack : MethodName := ⟨RX0, "takeBack", "(LHoundLicence$Town;)V"⟩
abbrev cX0_forgetFirst : ByteArray := prog_2_method_5_code
def yX0_forgetFirst : MethodName := ⟨RX0, "forgetFirst", "()V"⟩
def RX1 : String := "HoundLicence$Ahead"
def TX1 : u_T := fun k => match k with
  | 0 => ("HoundLicence$Ahead", "peril", "[I", true)
  | 1 => ("HoundLicence$Ahead", "ways", "[[I", true)
  | 2 => ("HoundLicence$Ahead", "reached", "[I", false)
  | _ => ("HoundLicence$Ahead", "reachedNext", "[I", false)
def tyX1 : Nat → FieldType := fun k => match k with
  | 0 => .array .int
  | 1 => .array (.array .int)
  | 2 => .array .int
  | _ => .array .int
abbrev wsX10 : List Cond := u_ws RX1 TX1 4
theorem nmX1 : ∀ a, a < 4 → ∀ b, b < 4 → a ≠ b → (TX1 a).2.1 ≠ (TX1 b).2.1 := by decide +kernel
theorem tyX1_ok : ∀ k, k < 4 → parseFieldDescriptor (TX1 k).2.2.1 = some (tyX1 k) := by decide +kernel
abbrev cX1_init : ByteArray := prog_3_method_1_code
def yX1_init : MethodName := ⟨RX1, "<init>", "()V"⟩
abbrev cX1_look : ByteArray := prog_3_method_2_code
def yX1_look : MethodName := ⟨RX1, "look", "(LHoundLicence$Law;LHoundLicence$Town;I)V"⟩
abbrev cX1_countWays : ByteArray := prog_3_method_3_code
def yX1_countWays : MethodName := ⟨RX1, "countWays", "(II)V"⟩
abbrev cX1_waysBy : ByteArray := prog_3_method_4_code
def yX1_waysBy : MethodName := ⟨RX1, "waysBy", "(II)I"⟩
abbrev cX1_waysFrom : ByteArray := prog_3_method_5_code
def yX1_waysFrom : MethodName := ⟨RX1, "waysFrom", "(I)I"⟩
abbrev cX1_firstRow : ByteArray := prog_3_method_6_code
def yX1_firstRow : MethodName := ⟨RX1, "firstRow", "(II)I"⟩
abbrev cX1_firstWay : ByteArray := prog_3_method_7_code
def yX1_firstWay : MethodName := ⟨RX1, "firstWay", "(II)I"⟩
abbrev cX1_fewestHours : ByteArray := prog_3_method_8_code
def yX1_fewestHours : MethodName := ⟨RX1, "fewestHours", "(I)I"⟩
abbrev cX1_clearNext : ByteArray := prog_3_method_9_code
def yX1_clearNext : MethodName := ⟨RX1, "clearNext", "()V"⟩
abbrev cX1_swap : ByteArray := prog_3_method_10_code
def yX1_swap : MethodName := ⟨RX1, "swap", "()V"⟩
abbrev cX1_spread : ByteArray := prog_3_method_11_code
def yX1_spread : MethodName := ⟨RX1, "spread", "(II)V"⟩
abbrev cX1_withStreet : ByteArray := prog_3_method_12_code
def yX1_withStreet : MethodName := ⟨RX1, "withStreet", "(II)I"⟩
abbrev cX1_allReached : ByteArray := prog_3_method_13_code
def yX1_allReached : MethodName := ⟨RX1, "allReached", "()Z"⟩
def RX2 : String := "HoundLicence$Law"
def TX2 : u_T := fun k => match k with
  | 0 => ("HoundLicence$Law", "dogs", "I", false)
  | 1 => ("HoundLicence$Law", "men", "I", false)
  | 2 => ("HoundLicence$Law", "leash", "I", false)
  | 3 => ("HoundLicence$Law", "singers", "I", false)
  | 4 => ("HoundLicence$Law", "round", "[I", true)
  | 5 => ("HoundLicence$Law", "rank", "[I", true)
  | 6 => ("HoundLicence$Law", "room", "[I", true)
  | _ => ("HoundLicence$Law", "parent", "[I", true)
def tyX2 : Nat → FieldType := fun k => match k with
  | 0 => .int
  | 1 => .int
  | 2 => .int
  | 3 => .int
  | 4 => .array .int
  | 5 => .array .int
  | 6 => .array .int
  | _ => .array .int
abbrev wsX20 : List Cond := u_ws RX2 TX2 8
theorem nmX2 : ∀ a, a < 8 → ∀ b, b < 8 → a ≠ b → (TX2 a).2.1 ≠ (TX2 b).2.1 := by decide +kernel
theorem tyX2_ok : ∀ k, k < 8 → parseFieldDescriptor (TX2 k).2.2.1 = some (tyX2 k) := by decide +kernel
abbrev cX2_init : ByteArray := prog_4_method_1_code
def yX2_init : MethodName := ⟨RX2, "<init>", "()V"⟩
abbrev cX2_clear : ByteArray := prog_4_method_2_code
def yX2_clear : MethodName := ⟨RX2, "clear", "()V"⟩
abbrev cX2_become : ByteArray := prog_4_method_3_code
def yX2_become : MethodName := ⟨RX2, "become", "(LHoundLicence$Law;)V"⟩
abbrev cX2_hasDog : ByteArray := prog_4_method_4_code
def yX2_hasDog : MethodName := ⟨RX2, "hasDog", "(I)Z"⟩
abbrev cX2_hasMan : ByteArray := prog_4_method_5_code
def yX2_hasMan : MethodName := ⟨RX2, "hasMan", "(I)Z"⟩
abbrev cX2_sings : ByteArray := prog_4_method_6_code
def yX2_sings : MethodName := ⟨RX2, "sings", "(I)Z"⟩
abbrev cX2_wardenAt : ByteArray := prog_4_method_7_code
def yX2_wardenAt : MethodName := ⟨RX2, "wardenAt", "(I)I"⟩
abbrev cX2_mayParent : ByteArray := prog_4_method_8_code
def yX2_mayParent : MethodName := ⟨RX2, "mayParent", "(II)Z"⟩
abbrev cX2_mayParentSome : ByteArray := prog_4_method_9_code
def yX2_mayParentSome : MethodName := ⟨RX2, "mayParentSome", "()Z"⟩
abbrev cX2_comesFrom : ByteArray := prog_4_method_10_code
def yX2_comesFrom : MethodName := ⟨RX2, "comesFrom", "(II)Z"⟩
abbrev cX2_hasRival : ByteArray := prog_4_method_11_code
def yX2_hasRival : MethodName := ⟨RX2, "hasRival", "(I)Z"⟩
abbrev cX2_degree : ByteArray := prog_4_method_12_code
def yX2_degree : MethodName := ⟨RX2, "degree", "(II)I"⟩
abbrev cX2_inheritsBefore : ByteArray := prog_4_method_13_code
def yX2_inheritsBefore : MethodName := ⟨RX2, "inheritsBefore", "(III)Z"⟩
def RX3 : String := "HoundLicence$Reader"
def TX3 : u_T := fun k => match k with
  | 0 => ("HoundLicence$Reader", "law", "LHoundLicence$Law;", true)
  | 1 => ("HoundLicence$Reader", "town", "LHoundLicence$Town;", true)
  | 2 => ("HoundLicence$Reader", "part", "I", false)
  | 3 => ("HoundLicence$Reader", "place", "I", false)
  | _ => ("HoundLicence$Reader", "parent", "I", false)
def tyX3 : Nat → FieldType := fun k => match k with
  | 0 => .object "HoundLicence$Law"
  | 1 => .object "HoundLicence$Town"
  | 2 => .int
  | 3 => .int
  | _ => .int
abbrev wsX30 : List Cond := u_ws RX3 TX3 5
theorem nmX3 : ∀ a, a < 5 → ∀ b, b < 5 → a ≠ b → (TX3 a).2.1 ≠ (TX3 b).2.1 := by decide +kernel
theorem tyX3_ok : ∀ k, k < 5 → parseFieldDescriptor (TX3 k).2.2.1 = some (tyX3 k) := by decide +kernel
abbrev cX3_init : ByteArray := prog_5_method_1_code
def yX3_init : MethodName := ⟨RX3, "<init>", "()V"⟩
abbrev cX3_firstFault : ByteArray := prog_5_method_2_code
def yX3_firstFault : MethodName := ⟨RX3, "firstFault", "([II)I"⟩
abbrev cX3_takes : ByteArray := prog_5_method_3_code
def yX3_takes : MethodName := ⟨RX3, "takes", "(I)Z"⟩
abbrev cX3_opens : ByteArray := prog_5_method_4_code
def yX3_opens : MethodName := ⟨RX3, "opens", "(I)Z"⟩
abbrev cX3_goesOn : ByteArray := prog_5_method_5_code
def yX3_goesOn : MethodName := ⟨RX3, "goesOn", "(ZI)Z"⟩
abbrev cX3_mayOpen : ByteArray := prog_5_method_6_code
def yX3_mayOpen : MethodName := ⟨RX3, "mayOpen", "(I)Z"⟩
abbrev cX3_figure : ByteArray := prog_5_method_7_code
def yX3_figure : MethodName := ⟨RX3, "figure", "(I)I"⟩
abbrev cX3_isStreet : ByteArray := prog_5_method_8_code
def yX3_isStreet : MethodName := ⟨RX3, "isStreet", "(I)Z"⟩
abbrev cX3_takesHead : ByteArray := prog_5_method_9_code
def yX3_takesHead : MethodName := ⟨RX3, "takesHead", "(I)Z"⟩
abbrev cX3_takesDog : ByteArray := prog_5_method_10_code
def yX3_takesDog : MethodName := ⟨RX3, "takesDog", "(I)Z"⟩
abbrev cX3_takesMan : ByteArray := prog_5_method_11_code
def yX3_takesMan : MethodName := ⟨RX3, "takesMan", "(I)Z"⟩
abbrev cX3_takesParent : ByteArray := prog_5_method_12_code
def yX3_takesParent : MethodName := ⟨RX3, "takesParent", "(I)Z"⟩
def RX4 : String := "HoundLicence$Rest"
def TX4 : u_T := fun k => match k with
  | _ => ("", "", "", false)
def tyX4 : Nat → FieldType := fun k => match k with
  | _ => .int
abbrev wsX40 : List Cond := u_ws RX4 TX4 0
theorem nmX4 : ∀ a, a < 0 → ∀ b, b < 0 → a ≠ b → (TX4 a).2.1 ≠ (TX4 b).2.1 := by decide +kernel
theorem tyX4_ok : ∀ k, k < 0 → parseFieldDescriptor (TX4 k).2.2.1 = some (tyX4 k) := by decide +kernel
abbrev cX4_holds : ByteArray := prog_6_method_2_code
def yX4_holds : MethodName := ⟨RX4, "holds", "(III)Z"⟩
abbrev cX4_wardens : ByteArray := prog_6_method_3_code
def yX4_wardens : MethodName := ⟨RX4, "wardens", "(III)I"⟩
abbrev cX4_bachelors : ByteArray := prog_6_method_4_code
def yX4_bachelors : MethodName := ⟨RX4, "bachelors", "(III)I"⟩
abbrev cX4_worth : ByteArray := prog_6_method_5_code
def yX4_worth : MethodName := ⟨RX4, "worth", "(II)I"⟩
def RX5 : String := "HoundLicence$Sightings"
def TX5 : u_T := fun k => match k with
  | 0 => ("HoundLicence$Sightings", "count", "I", false)
  | 1 => ("HoundLicence$Sightings", "man", "[I", true)
  | 2 => ("HoundLicence$Sightings", "street", "[I", true)
  | 3 => ("HoundLicence$Sightings", "hour", "[I", true)
  | 4 => ("HoundLicence$Sightings", "may", "[I", true)
  | _ => ("HoundLicence$Sightings", "roomLeft", "[I", true)
def tyX5 : Nat → FieldType := fun k => match k with
  | 0 => .int
  | 1 => .array .int
  | 2 => .array .int
  | 3 => .array .int
  | 4 => .array .int
  | _ => .array .int
abbrev wsX50 : List Cond := u_ws RX5 TX5 6
theorem nmX5 : ∀ a, a < 6 → ∀ b, b < 6 → a ≠ b → (TX5 a).2.1 ≠ (TX5 b).2.1 := by decide +kernel
theorem tyX5_ok : ∀ k, k < 6 → parseFieldDescriptor (TX5 k).2.2.1 = some (tyX5 k) := by decide +kernel
abbrev cX5_init : ByteArray := prog_7_method_1_code
def yX5_init : MethodName := ⟨RX5, "<init>", "()V"⟩
abbrev cX5_add : ByteArray := prog_7_method_2_code
def yX5_add : MethodName := ⟨RX5, "add", "(III)V"⟩
abbrev cX5_look : ByteArray := prog_7_method_3_code
def yX5_look : MethodName := ⟨RX5, "look", "(LHoundLicence$Law;LHoundLicence$Town;)V"⟩
abbrev cX5_fits : ByteArray := prog_7_method_4_code
def yX5_fits : MethodName := ⟨RX5, "fits", "(LHoundLicence$Law;LHoundLicence$Town;II)Z"⟩
abbrev cX5_streetWith : ByteArray := prog_7_method_5_code
def yX5_streetWith : MethodName := ⟨RX5, "streetWith", "(LHoundLicence$Law;LHoundLicence$Town;III)I"⟩
abbrev cX5_ways : ByteArray := prog_7_method_6_code
def yX5_ways : MethodName := ⟨RX5, "ways", "(LHoundLicence$Law;)I"⟩
abbrev cX5_share : ByteArray := prog_7_method_7_code
def yX5_share : MethodName := ⟨RX5, "share", "(LHoundLicence$Law;[I[II)I"⟩
abbrev cX5_onlyCompany : ByteArray := prog_7_method_8_code
def yX5_onlyCompany : MethodName := ⟨RX5, "onlyCompany", "(LHoundLicence$Law;I)I"⟩
def RX6 : String := "HoundLicence$Slots"
def TX6 : u_T := fun k => match k with
  | 0 => ("HoundLicence$Slots", "kept", "[LHoundLicence$Town;", true)
  | _ => ("HoundLicence$Slots", "full", "I", false)
def tyX6 : Nat → FieldType := fun k => match k with
  | 0 => .array (.object "HoundLicence$Town")
  | _ => .int
abbrev wsX60 : List Cond := u_ws RX6 TX6 2
theorem nmX6 : ∀ a, a < 2 → ∀ b, b < 2 → a ≠ b → (TX6 a).2.1 ≠ (TX6 b).2.1 := by decide +kernel
theorem tyX6_ok : ∀ k, k < 2 → parseFieldDescriptor (TX6 k).2.2.1 = some (tyX6 k) := by decide +kernel
abbrev cX6_init : ByteArray := prog_8_method_1_code
def yX6_init : MethodName := ⟨RX6, "<init>", "()V"⟩
abbrev cX6_forget : ByteArray := prog_8_method_2_code
def yX6_forget : MethodName := ⟨RX6, "forget", "()V"⟩
abbrev cX6_holds : ByteArray := prog_8_method_3_code
def yX6_holds : MethodName := ⟨RX6, "holds", "(I)Z"⟩
abbrev cX6_put : ByteArray := prog_8_method_4_code
def yX6_put : MethodName := ⟨RX6, "put", "(ILHoundLicence$Town;)V"⟩
abbrev cX6_restore : ByteArray := prog_8_method_5_code
def yX6_restore : MethodName := ⟨RX6, "restore", "(ILHoundLicence$Town;)V"⟩
def RX7 : String := "HoundLicence$Town"
def TX7 : u_T := fun k => match k with
  | 0 => ("HoundLicence$Town", "hour", "I", false)
  | 1 => ("HoundLicence$Town", "leashed", "I", false)
  | 2 => ("HoundLicence$Town", "dogStreet", "[I", true)
  | 3 => ("HoundLicence$Town", "bones", "[I", true)
  | 4 => ("HoundLicence$Town", "keeper", "[I", true)
  | 5 => ("HoundLicence$Town", "manStreet", "[I", true)
  | _ => ("HoundLicence$Town", "sentence", "[I", true)
def tyX7 : Nat → FieldType := fun k => match k with
  | 0 => .int
  | 1 => .int
  | 2 => .array .int
  | 3 => .array .int
  | 4 => .array .int
  | 5 => .array .int
  | _ => .array .int
abbrev wsX70 : List Cond := u_ws RX7 TX7 7
theorem nmX7 : ∀ a, a < 7 → ∀ b, b < 7 → a ≠ b → (TX7 a).2.1 ≠ (TX7 b).2.1 := by decide +kernel
theorem tyX7_ok : ∀ k, k < 7 → parseFieldDescriptor (TX7 k).2.2.1 = some (tyX7 k) := by decide +kernel
abbrev cX7_init : ByteArray := prog_9_method_1_code
def yX7_init : MethodName := ⟨RX7, "<init>", "()V"⟩
abbrev cX7_become : ByteArray := prog_9_method_2_code
def yX7_become : MethodName := ⟨RX7, "become", "(LHoundLicence$Town;)V"⟩
abbrev cX7_isLeashed : ByteArray := prog_9_method_3_code
def yX7_isLeashed : MethodName := ⟨RX7, "isLeashed", "(I)Z"⟩
abbrev cX7_isImpounded : ByteArray := prog_9_method_4_code
def yX7_isImpounded : MethodName := ⟨RX7, "isImpounded", "(I)Z"⟩
abbrev cX7_impounded : ByteArray := prog_9_method_5_code
def yX7_impounded : MethodName := ⟨RX7, "impounded", "(LHoundLicence$Law;)I"⟩
abbrev cX7_keptBy : ByteArray := prog_9_method_6_code
def yX7_keptBy : MethodName := ⟨RX7, "keptBy", "(LHoundLicence$Law;I)I"⟩
abbrev cX7_hasRoom : ByteArray := prog_9_method_7_code
def yX7_hasRoom : MethodName := ⟨RX7, "hasRoom", "(LHoundLicence$Law;I)Z"⟩
abbrev cX7_allBones : ByteArray := prog_9_method_8_code
def yX7_allBones : MethodName := ⟨RX7, "allBones", "(LHoundLicence$Law;)I"⟩
abbrev cX7_goes : ByteArray := prog_9_method_9_code
def yX7_goes : MethodName := ⟨RX7, "goes", "(LHoundLicence$Law;II)V"⟩
abbrev cX7_passHour : ByteArray := prog_9_method_10_code
def yX7_passHour : MethodName := ⟨RX7, "passHour", "(LHoundLicence$Law;II)I"⟩
abbrev cX7_isLate : ByteArray := prog_9_method_11_code
def yX7_isLate : MethodName := ⟨RX7, "isLate", "(II)Z"⟩
abbrev cX7_mayBeCaught : ByteArray := prog_9_method_12_code
def yX7_mayBeCaught : MethodName := ⟨RX7, "mayBeCaught", "(LHoundLicence$Law;IZ)Z"⟩
abbrev cX7_impound : ByteArray := prog_9_method_13_code
def yX7_impound : MethodName := ⟨RX7, "impound", "(LHoundLicence$Law;I)V"⟩
abbrev cX7_serve : ByteArray := prog_9_method_14_code
def yX7_serve : MethodName := ⟨RX7, "serve", "(LHoundLicence$Law;I)V"⟩
abbrev cX7_perilAt : ByteArray := prog_9_method_15_code
def yX7_perilAt : MethodName := ⟨RX7, "perilAt", "(LHoundLicence$Law;II)I"⟩
def RX8 : String := "HoundLicence"
def TX8 : u_T := fun k => match k with
  | 0 => ("HoundLicence", "text", "[I", true)
  | 1 => ("HoundLicence", "length", "I", false)
  | 2 => ("HoundLicence", "reader", "LHoundLicence$Reader;", true)
  | 3 => ("HoundLicence", "law", "LHoundLicence$Law;", true)
  | 4 => ("HoundLicence", "town", "LHoundLicence$Town;", true)
  | 5 => ("HoundLicence", "trial", "LHoundLicence$Town;", true)
  | 6 => ("HoundLicence", "acts", "LHoundLicence$Acts;", true)
  | 7 => ("HoundLicence", "slots", "LHoundLicence$Slots;", true)
  | 8 => ("HoundLicence", "ahead", "LHoundLicence$Ahead;", true)
  | 9 => ("HoundLicence", "sightings", "LHoundLicence$Sightings;", true)
  | _ => ("HoundLicence", "seed", "J", false)
def tyX8 : Nat → FieldType := fun k => match k with
  | 0 => .array .int
  | 1 => .int
  | 2 => .object "HoundLicence$Reader"
  | 3 => .object "HoundLicence$Law"
  | 4 => .object "HoundLicence$Town"
  | 5 => .object "HoundLicence$Town"
  | 6 => .object "HoundLicence$Acts"
  | 7 => .object "HoundLicence$Slots"
  | 8 => .object "HoundLicence$Ahead"
  | 9 => .object "HoundLicence$Sightings"
  | _ => .long
abbrev wsX80 : List Cond := u_ws RX8 TX8 11
theorem nmX8 : ∀ a, a < 11 → ∀ b, b < 11 → a ≠ b → (TX8 a).2.1 ≠ (TX8 b).2.1 := by decide +kernel
theorem tyX8_ok : ∀ k, k < 11 → parseFieldDescriptor (TX8 k).2.2.1 = some (tyX8 k) := by decide +kernel
abbrev cX8_init : ByteArray := prog_1_method_1_code
def yX8_init : MethodName := ⟨RX8, "<init>", "()V"⟩
abbrev cX8_write : ByteArray := prog_1_method_2_code
def yX8_write : MethodName := ⟨RX8, "write", "(I)I"⟩
abbrev cX8_wipe : ByteArray := prog_1_method_3_code
def yX8_wipe : MethodName := ⟨RX8, "wipe", "()I"⟩
abbrev cX8_fault : ByteArray := prog_1_method_4_code
def yX8_fault : MethodName := ⟨RX8, "fault", "()I"⟩
abbrev cX8_ordain : ByteArray := prog_1_method_5_code
def yX8_ordain : MethodName := ⟨RX8, "ordain", "()I"⟩
abbrev cX8_about : ByteArray := prog_1_method_6_code
def yX8_about : MethodName := ⟨RX8, "about", "(I)I"⟩
abbrev cX8_dog : ByteArray := prog_1_method_7_code
def yX8_dog : MethodName := ⟨RX8, "dog", "(II)I"⟩
abbrev cX8_man : ByteArray := prog_1_method_8_code
def yX8_man : MethodName := ⟨RX8, "man", "(II)I"⟩
abbrev cX8_lead : ByteArray := prog_1_method_9_code
def yX8_lead : MethodName := ⟨RX8, "lead", "(II)I"⟩
abbrev cX8_leash : ByteArray := prog_1_method_10_code
def yX8_leash : MethodName := ⟨RX8, "leash", "(I)I"⟩
abbrev cX8_give : ByteArray := prog_1_method_11_code
def yX8_give : MethodName := ⟨RX8, "give", "(II)I"⟩
abbrev cX8_hour : ByteArray := prog_1_method_12_code
def yX8_hour : MethodName := ⟨RX8, "hour", "()I"⟩
abbrev cX8_undo : ByteArray := prog_1_method_13_code
def yX8_undo : MethodName := ⟨RX8, "undo", "()I"⟩
abbrev cX8_caught : ByteArray := prog_1_method_14_code
def yX8_caught : MethodName := ⟨RX8, "caught", "(I)I"⟩
abbrev cX8_routes : ByteArray := prog_1_method_15_code
def yX8_routes : MethodName := ⟨RX8, "routes", "(IIII)I"⟩
abbrev cX8_aired : ByteArray := prog_1_method_16_code
def yX8_aired : MethodName := ⟨RX8, "aired", "(I)I"⟩
abbrev cX8_heir : ByteArray := prog_1_method_17_code
def yX8_heir : MethodName := ⟨RX8, "heir", "(I)I"⟩
abbrev cX8_pays : ByteArray := prog_1_method_18_code
def yX8_pays : MethodName := ⟨RX8, "pays", "(II)I"⟩
abbrev cX8_spans : ByteArray := prog_1_method_19_code
def yX8_spans : MethodName := ⟨RX8, "spans", "(III)I"⟩
abbrev cX8_tryHours : ByteArray := prog_1_method_20_code
def yX8_tryHours : MethodName := ⟨RX8, "tryHours", "(III)I"⟩
abbrev cX8_see : ByteArray := prog_1_method_21_code
def yX8_see : MethodName := ⟨RX8, "see", "(III)I"⟩
abbrev cX8_unsee : ByteArray := prog_1_method_22_code
def yX8_unsee : MethodName := ⟨RX8, "unsee", "()I"⟩
abbrev cX8_walks : ByteArray := prog_1_method_23_code
def yX8_walks : MethodName := ⟨RX8, "walks", "()I"⟩
abbrev cX8_sure : ByteArray := prog_1_method_24_code
def yX8_sure : MethodName := ⟨RX8, "sure", "(I)I"⟩
abbrev cX8_rests : ByteArray := prog_1_method_25_code
def yX8_rests : MethodName := ⟨RX8, "rests", "(II)I"⟩
abbrev cX8_chance : ByteArray := prog_1_method_26_code
def yX8_chance : MethodName := ⟨RX8, "chance", "(IIZ)I"⟩
abbrev cX8_seed : ByteArray := prog_1_method_27_code
def yX8_seed : MethodName := ⟨RX8, "seed", "(J)J"⟩
abbrev cX8_days : ByteArray := prog_1_method_28_code
def yX8_days : MethodName := ⟨RX8, "days", "(I)I"⟩
abbrev cX8_keep : ByteArray := prog_1_method_29_code
def yX8_keep : MethodName := ⟨RX8, "keep", "(I)I"⟩
abbrev cX8_again : ByteArray := prog_1_method_30_code
def yX8_again : MethodName := ⟨RX8, "again", "(I)I"⟩
abbrev cX8_streetBy : ByteArray := prog_1_method_31_code
def yX8_streetBy : MethodName := ⟨RX8, "streetBy", "(II)I"⟩
def RX9 : String := "HoundLicenceModel"
def TX9 : u_T := fun k => match k with
  | 0 => ("HoundLicenceModel", "thrown", "I", false)
  | 1 => ("HoundLicenceModel", "text", "[I", true)
  | 2 => ("HoundLicenceModel", "textSize", "I", false)
  | 3 => ("HoundLicenceModel", "place", "I", false)
  | 4 => ("HoundLicenceModel", "dogs", "I", false)
  | 5 => ("HoundLicenceModel", "men", "I", false)
  | 6 => ("HoundLicenceModel", "leash", "I", false)
  | 7 => ("HoundLicenceModel", "round", "[I", true)
  | 8 => ("HoundLicenceModel", "dog", "[I", true)
  | 9 => ("HoundLicenceModel", "man", "[I", true)
  | 10 => ("HoundLicenceModel", "readDogs", "I", false)
  | 11 => ("HoundLicenceModel", "readMen", "I", false)
  | 12 => ("HoundLicenceModel", "readLeash", "I", false)
  | 13 => ("HoundLicenceModel", "readRound", "[I", true)
  | 14 => ("HoundLicenceModel", "readDog", "[I", true)
  | 15 => ("HoundLicenceModel", "readMan", "[I", true)
  | 16 => ("HoundLicenceModel", "page", "[I", true)
  | 17 => ("HoundLicenceModel", "trial", "[I", true)
  | 18 => ("HoundLicenceModel", "book", "[I", true)
  | 19 => ("HoundLicenceModel", "acts", "I", false)
  | 20 => ("HoundLicenceModel", "kept", "[I", true)
  | 21 => ("HoundLicenceModel", "isKept", "[Z", true)
  | 22 => ("HoundLicenceModel", "seen", "I", false)
  | 23 => ("HoundLicenceModel", "seenMan", "[I", true)
  | 24 => ("HoundLicenceModel", "seenStreet", "[I", true)
  | 25 => ("HoundLicenceModel", "seenHour", "[I", true)
  | 26 => ("HoundLicenceModel", "seed", "J", false)
  | 27 => ("HoundLicenceModel", "steps", "[I", true)
  | 28 => ("HoundLicenceModel", "with", "[I", true)
  | 29 => ("HoundLicenceModel", "walkMany", "I", false)
  | _ => ("HoundLicenceModel", "routeFirst", "I", false)
def tyX9 : Nat → FieldType := fun k => match k with
  | 0 => .int
  | 1 => .array .int
  | 2 => .int
  | 3 => .int
  | 4 => .int
  | 5 => .int
  | 6 => .int
  | 7 => .array .int
  | 8 => .array .int
  | 9 => .array .int
  | 10 => .int
  | 11 => .int
  | 12 => .int
  | 13 => .array .int
  | 14 => .array .int
  | 15 => .array .int
  | 16 => .array .int
  | 17 => .array .int
  | 18 => .array .int
  | 19 => .int
  | 20 => .array .int
  | 21 => .array .boolean
  | 22 => .int
  | 23 => .array .int
  | 24 => .array .int
  | 25 => .array .int
  | 26 => .long
  | 27 => .array .int
  | 28 => .array .int
  | 29 => .int
  | _ => .int
abbrev wsX90 : List Cond := u_ws RX9 TX9 31
theorem nmX9 : ∀ a, a < 31 → ∀ b, b < 31 → a ≠ b → (TX9 a).2.1 ≠ (TX9 b).2.1 := by decide +kernel
theorem tyX9_ok : ∀ k, k < 31 → parseFieldDescriptor (TX9 k).2.2.1 = some (tyX9 k) := by decide +kernel
abbrev cX9_init : ByteArray := prog_11_method_1_code
def yX9_init : MethodName := ⟨RX9, "<init>", "()V"⟩
abbrev cX9_in : ByteArray := prog_11_method_3_code
def yX9_in : MethodName := ⟨RX9, "in", "(JJJ)Z"⟩
abbrev cX9_has : ByteArray := prog_11_method_4_code
def yX9_has : MethodName := ⟨RX9, "has", "(II)Z"⟩
abbrev cX9_noDog : ByteArray := prog_11_method_5_code
def yX9_noDog : MethodName := ⟨RX9, "noDog", "(I)Z"⟩
abbrev cX9_noMan : ByteArray := prog_11_method_6_code
def yX9_noMan : MethodName := ⟨RX9, "noMan", "(I)Z"⟩
abbrev cX9_write : ByteArray := prog_11_method_7_code
def yX9_write : MethodName := ⟨RX9, "write", "(I)I"⟩
abbrev cX9_wipe : ByteArray := prog_11_method_8_code
def yX9_wipe : MethodName := ⟨RX9, "wipe", "()I"⟩
abbrev cX9_figure : ByteArray := prog_11_method_9_code
def yX9_figure : MethodName := ⟨RX9, "figure", "(II)I"⟩
abbrev cX9_one : ByteArray := prog_11_method_10_code
def yX9_one : MethodName := ⟨RX9, "one", "(I)I"⟩
abbrev cX9_readHead : ByteArray := prog_11_method_11_code
def yX9_readHead : MethodName := ⟨RX9, "readHead", "()Z"⟩
abbrev cX9_readDog : ByteArray := prog_11_method_12_code
def yX9_readDog : MethodName := ⟨RX9, "readDog", "()Z"⟩
abbrev cX9_rooms : ByteArray := prog_11_method_13_code
def yX9_rooms : MethodName := ⟨RX9, "rooms", "()I"⟩
abbrev cX9_readMan : ByteArray := prog_11_method_14_code
def yX9_readMan : MethodName := ⟨RX9, "readMan", "()Z"⟩
abbrev cX9_comes : ByteArray := prog_11_method_15_code
def yX9_comes : MethodName := ⟨RX9, "comes", "(II)Z"⟩
abbrev cX9_young : ByteArray := prog_11_method_16_code
def yX9_young : MethodName := ⟨RX9, "young", "(I)I"⟩
abbrev cX9_parents : ByteArray := prog_11_method_17_code
def yX9_parents : MethodName := ⟨RX9, "parents", "()I"⟩
abbrev cX9_readParent : ByteArray := prog_11_method_18_code
def yX9_readParent : MethodName := ⟨RX9, "readParent", "()Z"⟩
abbrev cX9_readPart : ByteArray := prog_11_method_19_code
def yX9_readPart : MethodName := ⟨RX9, "readPart", "()Z"⟩
abbrev cX9_readLaw : ByteArray := prog_11_method_20_code
def yX9_readLaw : MethodName := ⟨RX9, "readLaw", "()I"⟩
abbrev cX9_fault : ByteArray := prog_11_method_21_code
def yX9_fault : MethodName := ⟨RX9, "fault", "()I"⟩
abbrev cX9_ordain : ByteArray := prog_11_method_22_code
def yX9_ordain : MethodName := ⟨RX9, "ordain", "()I"⟩
abbrev cX9_impounded : ByteArray := prog_11_method_23_code
def yX9_impounded : MethodName := ⟨RX9, "impounded", "()I"⟩
abbrev cX9_bonesOf : ByteArray := prog_11_method_24_code
def yX9_bonesOf : MethodName := ⟨RX9, "bonesOf", "([I)I"⟩
abbrev cX9_about : ByteArray := prog_11_method_25_code
def yX9_about : MethodName := ⟨RX9, "about", "(I)I"⟩
abbrev cX9_keeps : ByteArray := prog_11_method_26_code
def yX9_keeps : MethodName := ⟨RX9, "keeps", "([II)I"⟩
abbrev cX9_many : ByteArray := prog_11_method_27_code
def yX9_many : MethodName := ⟨RX9, "many", "(I)I"⟩
abbrev cX9_dog : ByteArray := prog_11_method_28_code
def yX9_dog : MethodName := ⟨RX9, "dog", "(II)I"⟩
abbrev cX9_man : ByteArray := prog_11_method_29_code
def yX9_man : MethodName := ⟨RX9, "man", "(II)I"⟩
abbrev cX9_note : ByteArray := prog_11_method_30_code
def yX9_note : MethodName := ⟨RX9, "note", "()V"⟩
abbrev cX9_goLead : ByteArray := prog_11_method_31_code
def yX9_goLead : MethodName := ⟨RX9, "goLead", "([III)V"⟩
abbrev cX9_goHour : ByteArray := prog_11_method_32_code
def yX9_goHour : MethodName := ⟨RX9, "goHour", "([III)I"⟩
abbrev cX9_lead : ByteArray := prog_11_method_33_code
def yX9_lead : MethodName := ⟨RX9, "lead", "(II)I"⟩
abbrev cX9_leash : ByteArray := prog_11_method_34_code
def yX9_leash : MethodName := ⟨RX9, "leash", "(I)I"⟩
abbrev cX9_give : ByteArray := prog_11_method_35_code
def yX9_give : MethodName := ⟨RX9, "give", "(II)I"⟩
abbrev cX9_hour : ByteArray := prog_11_method_36_code
def yX9_hour : MethodName := ⟨RX9, "hour", "()I"⟩
abbrev cX9_undo : ByteArray := prog_11_method_37_code
def yX9_undo : MethodName := ⟨RX9, "undo", "()I"⟩
abbrev cX9_begin : ByteArray := prog_11_method_38_code
def yX9_begin : MethodName := ⟨RX9, "begin", "()V"⟩
abbrev cX9_caught : ByteArray := prog_11_method_39_code
def yX9_caught : MethodName := ⟨RX9, "caught", "(I)I"⟩
abbrev cX9_power : ByteArray := prog_11_method_40_code
def yX9_power : MethodName := ⟨RX9, "power", "(II)I"⟩
abbrev cX9_goes : ByteArray := prog_11_method_41_code
def yX9_goes : MethodName := ⟨RX9, "goes", "(IIIZ)Z"⟩
abbrev cX9_isAlone : ByteArray := prog_11_method_42_code
def yX9_isAlone : MethodName := ⟨RX9, "isAlone", "(I)Z"⟩
abbrev cX9_routes : ByteArray := prog_11_method_43_code
def yX9_routes : MethodName := ⟨RX9, "routes", "(IIII)I"⟩
abbrev cX9_streetsOf : ByteArray := prog_11_method_44_code
def yX9_streetsOf : MethodName := ⟨RX9, "streetsOf", "(III)I"⟩
abbrev cX9_aired : ByteArray := prog_11_method_45_code
def yX9_aired : MethodName := ⟨RX9, "aired", "(I)I"⟩
abbrev cX9_heir : ByteArray := prog_11_method_46_code
def yX9_heir : MethodName := ⟨RX9, "heir", "(I)I"⟩
abbrev cX9_pays : ByteArray := prog_11_method_47_code
def yX9_pays : MethodName := ⟨RX9, "pays", "(II)I"⟩
abbrev cX9_spans : ByteArray := prog_11_method_48_code
def yX9_spans : MethodName := ⟨RX9, "spans", "(III)I"⟩
abbrev cX9_see : ByteArray := prog_11_method_49_code
def yX9_see : MethodName := ⟨RX9, "see", "(III)I"⟩
abbrev cX9_unsee : ByteArray := prog_11_method_50_code
def yX9_unsee : MethodName := ⟨RX9, "unsee", "()I"⟩
abbrev cX9_wasAt : ByteArray := prog_11_method_51_code
def yX9_wasAt : MethodName := ⟨RX9, "wasAt", "(III)I"⟩
abbrev cX9_isWalk : ByteArray := prog_11_method_52_code
def yX9_isWalk : MethodName := ⟨RX9, "isWalk", "(I)Z"⟩
abbrev cX9_findWalks : ByteArray := prog_11_method_53_code
def yX9_findWalks : MethodName := ⟨RX9, "findWalks", "()V"⟩
abbrev cX9_walks : ByteArray := prog_11_method_54_code
def yX9_walks : MethodName := ⟨RX9, "walks", "()I"⟩
abbrev cX9_sure : ByteArray := prog_11_method_55_code
def yX9_sure : MethodName := ⟨RX9, "sure", "(I)I"⟩
abbrev cX9_worthOf : ByteArray := prog_11_method_56_code
def yX9_worthOf : MethodName := ⟨RX9, "worthOf", "(II)I"⟩
abbrev cX9_rests : ByteArray := prog_11_method_57_code
def yX9_rests : MethodName := ⟨RX9, "rests", "(II)I"⟩
abbrev cX9_chance : ByteArray := prog_11_method_58_code
def yX9_chance : MethodName := ⟨RX9, "chance", "(IIZ)I"⟩
abbrev cX9_seed : ByteArray := prog_11_method_59_code
def yX9_seed : MethodName := ⟨RX9, "seed", "(J)J"⟩
abbrev cX9_days : ByteArray := prog_11_method_60_code
def yX9_days : MethodName := ⟨RX9, "days", "(I)I"⟩
abbrev cX9_keep : ByteArray := prog_11_method_61_code
def yX9_keep : MethodName := ⟨RX9, "keep", "(I)I"⟩
abbrev cX9_again : ByteArray := prog_11_method_62_code
def yX9_again : MethodName := ⟨RX9, "again", "(I)I"⟩
def RJ6 : String := "java/lang/Integer"
abbrev cJ6_bitCount_0f7a4 : ByteArray := prog_12_method_49_code
def yJ6_bitCount_0f7a4 : MethodName := ⟨RJ6, "bitCount", "(I)I"⟩
def RJ9 : String := "java/lang/Math"
abbrev cJ9_floorMod_7cf53 : ByteArray := prog_13_method_50_code
def yJ9_floorMod_7cf53 : MethodName := ⟨RJ9, "floorMod", "(II)I"⟩
def RJ10 : String := "java/lang/System"
def RL : String := "HoundLicenceLaw"
abbrev cL_law : ByteArray := code
def yL_law : MethodName := ⟨RL, "law", "([I)Z"⟩
abbrev vwCl : List vw_C := [(RX0, TX0, 2), (RX1, TX1, 4), (RX2, TX2, 8), (RX3, TX3, 5), (RX5, TX5, 6), (RX6, TX6, 2), (RX7, TX7, 7), (RX8, TX8, 11), (RX9, TX9, 31)]
