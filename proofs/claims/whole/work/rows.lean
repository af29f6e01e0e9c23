section
-- ===== PART A: goes FIRST, ahead of the names: the tables' words, and 'selects' of the private methods out of them =====
/-- a private method of a class that the tables say can be made, by its rows of tables_1 -/
def lw_okq (q : MethodName × Nat) : Prop := (q.1.cls ≠ "java/lang/invoke/MethodHandle" ∧ q.1.cls ≠ "java/lang/invoke/VarHandle") ∧ Cond.instantiable q.1.cls q.2 ∈ tables_1 ∧ Cond.privateMethod q.1 ∈ tables_1 ∧ Cond.instanceMethod q.1 ∈ tables_1
theorem lw_p0 : lw_okq (⟨"HoundLicence$Reader", "takes", "(I)Z"⟩, 5) := ⟨⟨by decide +kernel, by decide +kernel⟩, List.mem_of_getElem? (i := 23) (by decide +kernel), List.mem_of_getElem? (i := 278) (by decide +kernel), List.mem_of_getElem? (i := 279) (by decide +kernel)⟩
theorem lw_p1 : lw_okq (⟨"HoundLicence$Reader", "opens", "(I)Z"⟩, 5) := ⟨⟨by decide +kernel, by decide +kernel⟩, List.mem_of_getElem? (i := 23) (by decide +kernel), List.mem_of_getElem? (i := 282) (by decide +kernel), List.mem_of_getElem? (i := 283) (by decide +kernel)⟩
theorem lw_p2 : lw_okq (⟨"HoundLicence$Reader", "mayOpen", "(I)Z"⟩, 5) := ⟨⟨by decide +kernel, by decide +kernel⟩, List.mem_of_getElem? (i := 23) (by decide +kernel), List.mem_of_getElem? (i := 286) (by decide +kernel), List.mem_of_getElem? (i := 287) (by decide +kernel)⟩
theorem lw_p3 : lw_okq (⟨"HoundLicence$Reader", "takesHead", "(I)Z"⟩, 5) := ⟨⟨by decide +kernel, by decide +kernel⟩, List.mem_of_getElem? (i := 23) (by decide +kernel), List.mem_of_getElem? (i := 297) (by decide +kernel), List.mem_of_getElem? (i := 298) (by decide +kernel)⟩
theorem lw_p4 : lw_okq (⟨"HoundLicence$Reader", "goesOn", "(ZI)Z"⟩, 5) := ⟨⟨by decide +kernel, by decide +kernel⟩, List.mem_of_getElem? (i := 23) (by decide +kernel), List.mem_of_getElem? (i := 307) (by decide +kernel), List.mem_of_getElem? (i := 308) (by decide +kernel)⟩
theorem lw_p5 : lw_okq (⟨"HoundLicence$Reader", "takesDog", "(I)Z"⟩, 5) := ⟨⟨by decide +kernel, by decide +kernel⟩, List.mem_of_getElem? (i := 23) (by decide +kernel), List.mem_of_getElem? (i := 311) (by decide +kernel), List.mem_of_getElem? (i := 312) (by decide +kernel)⟩
theorem lw_p6 : lw_okq (⟨"HoundLicence$Reader", "takesMan", "(I)Z"⟩, 5) := ⟨⟨by decide +kernel, by decide +kernel⟩, List.mem_of_getElem? (i := 23) (by decide +kernel), List.mem_of_getElem? (i := 315) (by decide +kernel), List.mem_of_getElem? (i := 316) (by decide +kernel)⟩
theorem lw_p7 : lw_okq (⟨"HoundLicence$Reader", "takesParent", "(I)Z"⟩, 5) := ⟨⟨by decide +kernel, by decide +kernel⟩, List.mem_of_getElem? (i := 23) (by decide +kernel), List.mem_of_getElem? (i := 337) (by decide +kernel), List.mem_of_getElem? (i := 338) (by decide +kernel)⟩
theorem lw_p8 : lw_okq (⟨"HoundLicence$Law", "comesFrom", "(II)Z"⟩, 8) := ⟨⟨by decide +kernel, by decide +kernel⟩, List.mem_of_getElem? (i := 29) (by decide +kernel), List.mem_of_getElem? (i := 345) (by decide +kernel), List.mem_of_getElem? (i := 346) (by decide +kernel)⟩
theorem lw_p9 : lw_okq (⟨"HoundLicence$Acts", "forgetFirst", "()V"⟩, 2) := ⟨⟨by decide +kernel, by decide +kernel⟩, List.mem_of_getElem? (i := 145) (by decide +kernel), List.mem_of_getElem? (i := 425) (by decide +kernel), List.mem_of_getElem? (i := 426) (by decide +kernel)⟩
theorem lw_p10 : lw_okq (⟨"HoundLicence$Town", "serve", "(LHoundLicence$Law;I)V"⟩, 7) := ⟨⟨by decide +kernel, by decide +kernel⟩, List.mem_of_getElem? (i := 83) (by decide +kernel), List.mem_of_getElem? (i := 460) (by decide +kernel), List.mem_of_getElem? (i := 461) (by decide +kernel)⟩
theorem lw_p11 : lw_okq (⟨"HoundLicence$Town", "mayBeCaught", "(LHoundLicence$Law;IZ)Z"⟩, 7) := ⟨⟨by decide +kernel, by decide +kernel⟩, List.mem_of_getElem? (i := 83) (by decide +kernel), List.mem_of_getElem? (i := 465) (by decide +kernel), List.mem_of_getElem? (i := 466) (by decide +kernel)⟩
theorem lw_p12 : lw_okq (⟨"HoundLicence$Town", "impound", "(LHoundLicence$Law;I)V"⟩, 7) := ⟨⟨by decide +kernel, by decide +kernel⟩, List.mem_of_getElem? (i := 83) (by decide +kernel), List.mem_of_getElem? (i := 471) (by decide +kernel), List.mem_of_getElem? (i := 472) (by decide +kernel)⟩
theorem lw_p13 : lw_okq (⟨"HoundLicence", "tryHours", "(III)I"⟩, 11) := ⟨⟨by decide +kernel, by decide +kernel⟩, List.mem_of_getElem? (i := 15) (by decide +kernel), List.mem_of_getElem? (i := 487) (by decide +kernel), List.mem_of_getElem? (i := 488) (by decide +kernel)⟩
theorem lw_p14 : lw_okq (⟨"HoundLicence$Ahead", "waysBy", "(II)I"⟩, 4) := ⟨⟨by decide +kernel, by decide +kernel⟩, List.mem_of_getElem? (i := 177) (by decide +kernel), List.mem_of_getElem? (i := 508) (by decide +kernel), List.mem_of_getElem? (i := 509) (by decide +kernel)⟩
theorem lw_p15 : lw_okq (⟨"HoundLicence$Ahead", "firstWay", "(II)I"⟩, 4) := ⟨⟨by decide +kernel, by decide +kernel⟩, List.mem_of_getElem? (i := 177) (by decide +kernel), List.mem_of_getElem? (i := 520) (by decide +kernel), List.mem_of_getElem? (i := 521) (by decide +kernel)⟩
def lw_privs_1 : List (MethodName × Nat) := [(⟨"HoundLicence$Reader", "takes", "(I)Z"⟩, 5), (⟨"HoundLicence$Reader", "opens", "(I)Z"⟩, 5), (⟨"HoundLicence$Reader", "mayOpen", "(I)Z"⟩, 5), (⟨"HoundLicence$Reader", "takesHead", "(I)Z"⟩, 5), (⟨"HoundLicence$Reader", "goesOn", "(ZI)Z"⟩, 5), (⟨"HoundLicence$Reader", "takesDog", "(I)Z"⟩, 5), (⟨"HoundLicence$Reader", "takesMan", "(I)Z"⟩, 5), (⟨"HoundLicence$Reader", "takesParent", "(I)Z"⟩, 5), (⟨"HoundLicence$Law", "comesFrom", "(II)Z"⟩, 8), (⟨"HoundLicence$Acts", "forgetFirst", "()V"⟩, 2), (⟨"HoundLicence$Town", "serve", "(LHoundLicence$Law;I)V"⟩, 7), (⟨"HoundLicence$Town", "mayBeCaught", "(LHoundLicence$Law;IZ)Z"⟩, 7), (⟨"HoundLicence$Town", "impound", "(LHoundLicence$Law;I)V"⟩, 7), (⟨"HoundLicence", "tryHours", "(III)I"⟩, 11), (⟨"HoundLicence$Ahead", "waysBy", "(II)I"⟩, 4), (⟨"HoundLicence$Ahead", "firstWay", "(II)I"⟩, 4)]
theorem lw_r1 : ∀ q ∈ lw_privs_1, lw_okq q := List.forall_mem_cons.mpr ⟨lw_p0, List.forall_mem_cons.mpr ⟨lw_p1, List.forall_mem_cons.mpr ⟨lw_p2, List.forall_mem_cons.mpr ⟨lw_p3, List.forall_mem_cons.mpr ⟨lw_p4, List.forall_mem_cons.mpr ⟨lw_p5, List.forall_mem_cons.mpr ⟨lw_p6, List.forall_mem_cons.mpr ⟨lw_p7, List.forall_mem_cons.mpr ⟨lw_p8, List.forall_mem_cons.mpr ⟨lw_p9, List.forall_mem_cons.mpr ⟨lw_p10, List.forall_mem_cons.mpr ⟨lw_p11, List.forall_mem_cons.mpr ⟨lw_p12, List.forall_mem_cons.mpr ⟨lw_p13, List.forall_mem_cons.mpr ⟨lw_p14, List.forall_mem_cons.mpr ⟨lw_p15, fun _ h => absurd h List.not_mem_nil⟩⟩⟩⟩⟩⟩⟩⟩⟩⟩⟩⟩⟩⟩⟩⟩
theorem lw_p16 : lw_okq (⟨"HoundLicence$Ahead", "clearNext", "()V"⟩, 4) := ⟨⟨by decide +kernel, by decide +kernel⟩, List.mem_of_getElem? (i := 177) (by decide +kernel), List.mem_of_getElem? (i := 536) (by decide +kernel), List.mem_of_getElem? (i := 537) (by decide +kernel)⟩
theorem lw_p17 : lw_okq (⟨"HoundLicence$Ahead", "swap", "()V"⟩, 4) := ⟨⟨by decide +kernel, by decide +kernel⟩, List.mem_of_getElem? (i := 177) (by decide +kernel), List.mem_of_getElem? (i := 540) (by decide +kernel), List.mem_of_getElem? (i := 541) (by decide +kernel)⟩
theorem lw_p18 : lw_okq (⟨"HoundLicence$Ahead", "spread", "(II)V"⟩, 4) := ⟨⟨by decide +kernel, by decide +kernel⟩, List.mem_of_getElem? (i := 177) (by decide +kernel), List.mem_of_getElem? (i := 544) (by decide +kernel), List.mem_of_getElem? (i := 545) (by decide +kernel)⟩
theorem lw_p19 : lw_okq (⟨"HoundLicence$Ahead", "allReached", "()Z"⟩, 4) := ⟨⟨by decide +kernel, by decide +kernel⟩, List.mem_of_getElem? (i := 177) (by decide +kernel), List.mem_of_getElem? (i := 551) (by decide +kernel), List.mem_of_getElem? (i := 552) (by decide +kernel)⟩
theorem lw_p20 : lw_okq (⟨"HoundLicence$Sightings", "fits", "(LHoundLicence$Law;LHoundLicence$Town;II)Z"⟩, 6) := ⟨⟨by decide +kernel, by decide +kernel⟩, List.mem_of_getElem? (i := 198) (by decide +kernel), List.mem_of_getElem? (i := 597) (by decide +kernel), List.mem_of_getElem? (i := 598) (by decide +kernel)⟩
theorem lw_p21 : lw_okq (⟨"HoundLicence$Sightings", "share", "(LHoundLicence$Law;I)I"⟩, 6) := ⟨⟨by decide +kernel, by decide +kernel⟩, List.mem_of_getElem? (i := 198) (by decide +kernel), List.mem_of_getElem? (i := 609) (by decide +kernel), List.mem_of_getElem? (i := 610) (by decide +kernel)⟩
theorem lw_p22 : lw_okq (⟨"HoundLicenceModel", "readLaw", "()I"⟩, 31) := ⟨⟨by decide +kernel, by decide +kernel⟩, List.mem_of_getElem? (i := 677) (by decide +kernel), List.mem_of_getElem? (i := 794) (by decide +kernel), List.mem_of_getElem? (i := 795) (by decide +kernel)⟩
theorem lw_p23 : lw_okq (⟨"HoundLicenceModel", "readHead", "()Z"⟩, 31) := ⟨⟨by decide +kernel, by decide +kernel⟩, List.mem_of_getElem? (i := 677) (by decide +kernel), List.mem_of_getElem? (i := 798) (by decide +kernel), List.mem_of_getElem? (i := 799) (by decide +kernel)⟩
theorem lw_p24 : lw_okq (⟨"HoundLicenceModel", "figure", "(II)I"⟩, 31) := ⟨⟨by decide +kernel, by decide +kernel⟩, List.mem_of_getElem? (i := 677) (by decide +kernel), List.mem_of_getElem? (i := 802) (by decide +kernel), List.mem_of_getElem? (i := 803) (by decide +kernel)⟩
theorem lw_p25 : lw_okq (⟨"HoundLicenceModel", "readPart", "()Z"⟩, 31) := ⟨⟨by decide +kernel, by decide +kernel⟩, List.mem_of_getElem? (i := 677) (by decide +kernel), List.mem_of_getElem? (i := 806) (by decide +kernel), List.mem_of_getElem? (i := 807) (by decide +kernel)⟩
theorem lw_p26 : lw_okq (⟨"HoundLicenceModel", "readDog", "()Z"⟩, 31) := ⟨⟨by decide +kernel, by decide +kernel⟩, List.mem_of_getElem? (i := 677) (by decide +kernel), List.mem_of_getElem? (i := 810) (by decide +kernel), List.mem_of_getElem? (i := 811) (by decide +kernel)⟩
theorem lw_p27 : lw_okq (⟨"HoundLicenceModel", "readMan", "()Z"⟩, 31) := ⟨⟨by decide +kernel, by decide +kernel⟩, List.mem_of_getElem? (i := 677) (by decide +kernel), List.mem_of_getElem? (i := 814) (by decide +kernel), List.mem_of_getElem? (i := 815) (by decide +kernel)⟩
theorem lw_p28 : lw_okq (⟨"HoundLicenceModel", "rooms", "()I"⟩, 31) := ⟨⟨by decide +kernel, by decide +kernel⟩, List.mem_of_getElem? (i := 677) (by decide +kernel), List.mem_of_getElem? (i := 818) (by decide +kernel), List.mem_of_getElem? (i := 819) (by decide +kernel)⟩
theorem lw_p29 : lw_okq (⟨"HoundLicenceModel", "one", "(I)I"⟩, 31) := ⟨⟨by decide +kernel, by decide +kernel⟩, List.mem_of_getElem? (i := 677) (by decide +kernel), List.mem_of_getElem? (i := 822) (by decide +kernel), List.mem_of_getElem? (i := 823) (by decide +kernel)⟩
theorem lw_p30 : lw_okq (⟨"HoundLicenceModel", "parents", "()I"⟩, 31) := ⟨⟨by decide +kernel, by decide +kernel⟩, List.mem_of_getElem? (i := 677) (by decide +kernel), List.mem_of_getElem? (i := 830) (by decide +kernel), List.mem_of_getElem? (i := 831) (by decide +kernel)⟩
theorem lw_p31 : lw_okq (⟨"HoundLicenceModel", "young", "(I)I"⟩, 31) := ⟨⟨by decide +kernel, by decide +kernel⟩, List.mem_of_getElem? (i := 677) (by decide +kernel), List.mem_of_getElem? (i := 834) (by decide +kernel), List.mem_of_getElem? (i := 835) (by decide +kernel)⟩
def lw_privs_2 : List (MethodName × Nat) := [(⟨"HoundLicence$Ahead", "clearNext", "()V"⟩, 4), (⟨"HoundLicence$Ahead", "swap", "()V"⟩, 4), (⟨"HoundLicence$Ahead", "spread", "(II)V"⟩, 4), (⟨"HoundLicence$Ahead", "allReached", "()Z"⟩, 4), (⟨"HoundLicence$Sightings", "fits", "(LHoundLicence$Law;LHoundLicence$Town;II)Z"⟩, 6), (⟨"HoundLicence$Sightings", "share", "(LHoundLicence$Law;I)I"⟩, 6), (⟨"HoundLicenceModel", "readLaw", "()I"⟩, 31), (⟨"HoundLicenceModel", "readHead", "()Z"⟩, 31), (⟨"HoundLicenceModel", "figure", "(II)I"⟩, 31), (⟨"HoundLicenceModel", "readPart", "()Z"⟩, 31), (⟨"HoundLicenceModel", "readDog", "()Z"⟩, 31), (⟨"HoundLicenceModel", "readMan", "()Z"⟩, 31), (⟨"HoundLicenceModel", "rooms", "()I"⟩, 31), (⟨"HoundLicenceModel", "one", "(I)I"⟩, 31), (⟨"HoundLicenceModel", "parents", "()I"⟩, 31), (⟨"HoundLicenceModel", "young", "(I)I"⟩, 31)]
theorem lw_r2 : ∀ q ∈ lw_privs_2, lw_okq q := List.forall_mem_cons.mpr ⟨lw_p16, List.forall_mem_cons.mpr ⟨lw_p17, List.forall_mem_cons.mpr ⟨lw_p18, List.forall_mem_cons.mpr ⟨lw_p19, List.forall_mem_cons.mpr ⟨lw_p20, List.forall_mem_cons.mpr ⟨lw_p21, List.forall_mem_cons.mpr ⟨lw_p22, List.forall_mem_cons.mpr ⟨lw_p23, List.forall_mem_cons.mpr ⟨lw_p24, List.forall_mem_cons.mpr ⟨lw_p25, List.forall_mem_cons.mpr ⟨lw_p26, List.forall_mem_cons.mpr ⟨lw_p27, List.forall_mem_cons.mpr ⟨lw_p28, List.forall_mem_cons.mpr ⟨lw_p29, List.forall_mem_cons.mpr ⟨lw_p30, List.forall_mem_cons.mpr ⟨lw_p31, fun _ h => absurd h List.not_mem_nil⟩⟩⟩⟩⟩⟩⟩⟩⟩⟩⟩⟩⟩⟩⟩⟩
theorem lw_p32 : lw_okq (⟨"HoundLicenceModel", "comes", "(II)Z"⟩, 31) := ⟨⟨by decide +kernel, by decide +kernel⟩, List.mem_of_getElem? (i := 677) (by decide +kernel), List.mem_of_getElem? (i := 838) (by decide +kernel), List.mem_of_getElem? (i := 839) (by decide +kernel)⟩
theorem lw_p33 : lw_okq (⟨"HoundLicenceModel", "readParent", "()Z"⟩, 31) := ⟨⟨by decide +kernel, by decide +kernel⟩, List.mem_of_getElem? (i := 677) (by decide +kernel), List.mem_of_getElem? (i := 842) (by decide +kernel), List.mem_of_getElem? (i := 843) (by decide +kernel)⟩
theorem lw_p34 : lw_okq (⟨"HoundLicenceModel", "impounded", "()I"⟩, 31) := ⟨⟨by decide +kernel, by decide +kernel⟩, List.mem_of_getElem? (i := 677) (by decide +kernel), List.mem_of_getElem? (i := 854) (by decide +kernel), List.mem_of_getElem? (i := 855) (by decide +kernel)⟩
theorem lw_p35 : lw_okq (⟨"HoundLicenceModel", "noDog", "(I)Z"⟩, 31) := ⟨⟨by decide +kernel, by decide +kernel⟩, List.mem_of_getElem? (i := 677) (by decide +kernel), List.mem_of_getElem? (i := 865) (by decide +kernel), List.mem_of_getElem? (i := 866) (by decide +kernel)⟩
theorem lw_p36 : lw_okq (⟨"HoundLicenceModel", "keeps", "([II)I"⟩, 31) := ⟨⟨by decide +kernel, by decide +kernel⟩, List.mem_of_getElem? (i := 677) (by decide +kernel), List.mem_of_getElem? (i := 869) (by decide +kernel), List.mem_of_getElem? (i := 870) (by decide +kernel)⟩
theorem lw_p37 : lw_okq (⟨"HoundLicenceModel", "noMan", "(I)Z"⟩, 31) := ⟨⟨by decide +kernel, by decide +kernel⟩, List.mem_of_getElem? (i := 677) (by decide +kernel), List.mem_of_getElem? (i := 877) (by decide +kernel), List.mem_of_getElem? (i := 878) (by decide +kernel)⟩
theorem lw_p38 : lw_okq (⟨"HoundLicenceModel", "note", "()V"⟩, 31) := ⟨⟨by decide +kernel, by decide +kernel⟩, List.mem_of_getElem? (i := 677) (by decide +kernel), List.mem_of_getElem? (i := 886) (by decide +kernel), List.mem_of_getElem? (i := 887) (by decide +kernel)⟩
theorem lw_p39 : lw_okq (⟨"HoundLicenceModel", "goLead", "([III)V"⟩, 31) := ⟨⟨by decide +kernel, by decide +kernel⟩, List.mem_of_getElem? (i := 677) (by decide +kernel), List.mem_of_getElem? (i := 890) (by decide +kernel), List.mem_of_getElem? (i := 891) (by decide +kernel)⟩
theorem lw_p40 : lw_okq (⟨"HoundLicenceModel", "goHour", "([III)I"⟩, 31) := ⟨⟨by decide +kernel, by decide +kernel⟩, List.mem_of_getElem? (i := 677) (by decide +kernel), List.mem_of_getElem? (i := 909) (by decide +kernel), List.mem_of_getElem? (i := 910) (by decide +kernel)⟩
theorem lw_p41 : lw_okq (⟨"HoundLicenceModel", "begin", "()V"⟩, 31) := ⟨⟨by decide +kernel, by decide +kernel⟩, List.mem_of_getElem? (i := 677) (by decide +kernel), List.mem_of_getElem? (i := 922) (by decide +kernel), List.mem_of_getElem? (i := 923) (by decide +kernel)⟩
theorem lw_p42 : lw_okq (⟨"HoundLicenceModel", "goes", "(IIIZ)Z"⟩, 31) := ⟨⟨by decide +kernel, by decide +kernel⟩, List.mem_of_getElem? (i := 677) (by decide +kernel), List.mem_of_getElem? (i := 935) (by decide +kernel), List.mem_of_getElem? (i := 936) (by decide +kernel)⟩
theorem lw_p43 : lw_okq (⟨"HoundLicenceModel", "isAlone", "(I)Z"⟩, 31) := ⟨⟨by decide +kernel, by decide +kernel⟩, List.mem_of_getElem? (i := 677) (by decide +kernel), List.mem_of_getElem? (i := 939) (by decide +kernel), List.mem_of_getElem? (i := 940) (by decide +kernel)⟩
theorem lw_p44 : lw_okq (⟨"HoundLicenceModel", "streetsOf", "(III)I"⟩, 31) := ⟨⟨by decide +kernel, by decide +kernel⟩, List.mem_of_getElem? (i := 677) (by decide +kernel), List.mem_of_getElem? (i := 947) (by decide +kernel), List.mem_of_getElem? (i := 948) (by decide +kernel)⟩
theorem lw_p45 : lw_okq (⟨"HoundLicenceModel", "findWalks", "()V"⟩, 31) := ⟨⟨by decide +kernel, by decide +kernel⟩, List.mem_of_getElem? (i := 677) (by decide +kernel), List.mem_of_getElem? (i := 978) (by decide +kernel), List.mem_of_getElem? (i := 979) (by decide +kernel)⟩
theorem lw_p46 : lw_okq (⟨"HoundLicenceModel", "isWalk", "(I)Z"⟩, 31) := ⟨⟨by decide +kernel, by decide +kernel⟩, List.mem_of_getElem? (i := 677) (by decide +kernel), List.mem_of_getElem? (i := 982) (by decide +kernel), List.mem_of_getElem? (i := 983) (by decide +kernel)⟩
theorem lw_p47 : lw_okq (⟨"HoundLicenceModel", "wasAt", "(III)I"⟩, 31) := ⟨⟨by decide +kernel, by decide +kernel⟩, List.mem_of_getElem? (i := 677) (by decide +kernel), List.mem_of_getElem? (i := 986) (by decide +kernel), List.mem_of_getElem? (i := 987) (by decide +kernel)⟩
def lw_privs_3 : List (MethodName × Nat) := [(⟨"HoundLicenceModel", "comes", "(II)Z"⟩, 31), (⟨"HoundLicenceModel", "readParent", "()Z"⟩, 31), (⟨"HoundLicenceModel", "impounded", "()I"⟩, 31), (⟨"HoundLicenceModel", "noDog", "(I)Z"⟩, 31), (⟨"HoundLicenceModel", "keeps", "([II)I"⟩, 31), (⟨"HoundLicenceModel", "noMan", "(I)Z"⟩, 31), (⟨"HoundLicenceModel", "note", "()V"⟩, 31), (⟨"HoundLicenceModel", "goLead", "([III)V"⟩, 31), (⟨"HoundLicenceModel", "goHour", "([III)I"⟩, 31), (⟨"HoundLicenceModel", "begin", "()V"⟩, 31), (⟨"HoundLicenceModel", "goes", "(IIIZ)Z"⟩, 31), (⟨"HoundLicenceModel", "isAlone", "(I)Z"⟩, 31), (⟨"HoundLicenceModel", "streetsOf", "(III)I"⟩, 31), (⟨"HoundLicenceModel", "findWalks", "()V"⟩, 31), (⟨"HoundLicenceModel", "isWalk", "(I)Z"⟩, 31), (⟨"HoundLicenceModel", "wasAt", "(III)I"⟩, 31)]
theorem lw_r3 : ∀ q ∈ lw_privs_3, lw_okq q := List.forall_mem_cons.mpr ⟨lw_p32, List.forall_mem_cons.mpr ⟨lw_p33, List.forall_mem_cons.mpr ⟨lw_p34, List.forall_mem_cons.mpr ⟨lw_p35, List.forall_mem_cons.mpr ⟨lw_p36, List.forall_mem_cons.mpr ⟨lw_p37, List.forall_mem_cons.mpr ⟨lw_p38, List.forall_mem_cons.mpr ⟨lw_p39, List.forall_mem_cons.mpr ⟨lw_p40, List.forall_mem_cons.mpr ⟨lw_p41, List.forall_mem_cons.mpr ⟨lw_p42, List.forall_mem_cons.mpr ⟨lw_p43, List.forall_mem_cons.mpr ⟨lw_p44, List.forall_mem_cons.mpr ⟨lw_p45, List.forall_mem_cons.mpr ⟨lw_p46, List.forall_mem_cons.mpr ⟨lw_p47, fun _ h => absurd h List.not_mem_nil⟩⟩⟩⟩⟩⟩⟩⟩⟩⟩⟩⟩⟩⟩⟩⟩
def lw_privs : List (MethodName × Nat) := lw_privs_1 ++ (lw_privs_2 ++ (lw_privs_3))
def lw_tbl : List Cond := k2_sels lw_privs ++ tables_1
theorem lw_privs_ok : ∀ q ∈ lw_privs, lw_okq q := by
  show ∀ q ∈ lw_privs_1 ++ (lw_privs_2 ++ (lw_privs_3)), lw_okq q
  exact List.forall_mem_append.mpr ⟨lw_r1, List.forall_mem_append.mpr ⟨lw_r2, lw_r3⟩⟩
-- names
def RX0 : String := "HoundLicence$Acts"
def TX0 : u_T := fun k => match k with
  | 0 => ("HoundLicence$Acts", "count", "I", false)
  | _ => ("HoundLicence$Acts", "before", "[LHoundLicence$Town;", true)
def tyX0 : Nat → FieldType := fun k => match k with
  | 0 => .int
  | _ => .array (.object "HoundLicence$Town")
abbrev wsX00 : List Cond := u_ws RX0 TX0 2
theorem nmX0 : ∀ a, a < 2 → ∀ b, b < 2 → a ≠ b → (TX0 a).2.1 ≠ (TX0 b).2.1 := by decide +kernel
theorem tyX0_ok : ∀ k, k < 2 → parseFieldDescriptor (TX0 k).2.2.1 = some (tyX0 k) := by decide +kernel
abbrev cX0_init : ByteArray := prog_2_method_1_code
def yX0_init : MethodName := ⟨RX0, "<init>", "()V"⟩
abbrev cX0_forget : ByteArray := prog_2_method_2_code
def yX0_forget : MethodName := ⟨RX0, "forget", "()V"⟩
abbrev cX0_remember : ByteArray := prog_2_method_3_code
def yX0_remember : MethodName := ⟨RX0, "remember", "(LHoundLicence$Town;)V"⟩
abbrev cX0_takeBack : ByteArray := prog_2_method_4_code
def yX0_takeBack : MethodName := ⟨RX0, "takeBack", "(LHoundLicence$Town;)V"⟩
abbrev cX0_forgetFirst : ByteArray := prog_2_method_5_code
def yX0_forgetFirst : MethodName := ⟨RX0, "forgetFirst", "()V"⟩
def RX1 : String := "HoundLicence$Ahead"
def TX1 : u_T := fun k => match k with
  | 0 => ("HoundLicence$Ahead", "peril", "[I", true)
  | 1 => ("HoundLicence$Ahead", "ways", "[[I", true)
  | 2 => ("HoundLicence$Ahead", "reached", "[I", false)
  | _ => ("HoundLicence$Ahead", "reachedNext", "[I", false)
def tyX1 : Nat → FieldType := fun k => match k with
  | 0 => .array .int
  | 1 => .array (.array .int)
  | 2 => .array .int
  | _ => .array .int
abbrev wsX10 : List Cond := u_ws RX1 TX1 4
theorem nmX1 : ∀ a, a < 4 → ∀ b, b < 4 → a ≠ b → (TX1 a).2.1 ≠ (TX1 b).2.1 := by decide +kernel
theorem tyX1_ok : ∀ k, k < 4 → parseFieldDescriptor (TX1 k).2.2.1 = some (tyX1 k) := by decide +kernel
abbrev cX1_init : ByteArray := prog_3_method_1_code
def yX1_init : MethodName := ⟨RX1, "<init>", "()V"⟩
abbrev cX1_look : ByteArray := prog_3_method_2_code
def yX1_look : MethodName := ⟨RX1, "look", "(LHoundLicence$Law;LHoundLicence$Town;I)V"⟩
abbrev cX1_countWays : ByteArray := prog_3_method_3_code
def yX1_countWays : MethodName := ⟨RX1, "countWays", "(II)V"⟩
abbrev cX1_waysBy : ByteArray := prog_3_method_4_code
def yX1_waysBy : MethodName := ⟨RX1, "waysBy", "(II)I"⟩
abbrev cX1_waysFrom : ByteArray := prog_3_method_5_code
def yX1_waysFrom : MethodName := ⟨RX1, "waysFrom", "(I)I"⟩
abbrev cX1_firstRow : ByteArray := prog_3_method_6_code
def yX1_firstRow : MethodName := ⟨RX1, "firstRow", "(II)I"⟩
abbrev cX1_firstWay : ByteArray := prog_3_method_7_code
def yX1_firstWay : MethodName := ⟨RX1, "firstWay", "(II)I"⟩
abbrev cX1_fewestHours : ByteArray := prog_3_method_8_code
def yX1_fewestHours : MethodName := ⟨RX1, "fewestHours", "(I)I"⟩
abbrev cX1_clearNext : ByteArray := prog_3_method_9_code
def yX1_clearNext : MethodName := ⟨RX1, "clearNext", "()V"⟩
abbrev cX1_swap : ByteArray := prog_3_method_10_code
def yX1_swap : MethodName := ⟨RX1, "swap", "()V"⟩
abbrev cX1_spread : ByteArray := prog_3_method_11_code
def yX1_spread : MethodName := ⟨RX1, "spread", "(II)V"⟩
abbrev cX1_withStreet : ByteArray := prog_3_method_12_code
def yX1_withStreet : MethodName := ⟨RX1, "withStreet", "(II)I"⟩
abbrev cX1_allReached : ByteArray := prog_3_method_13_code
def yX1_allReached : MethodName := ⟨RX1, "allReached", "()Z"⟩
def RX2 : String := "HoundLicence$Law"
def TX2 : u_T := fun k => match k with
  | 0 => ("HoundLicence$Law", "dogs", "I", false)
  | 1 => ("HoundLicence$Law", "men", "I", false)
  | 2 => ("HoundLicence$Law", "leash", "I", false)
  | 3 => ("HoundLicence$Law", "singers", "I", false)
  | 4 => ("HoundLicence$Law", "round", "[I", true)
  | 5 => ("HoundLicence$Law", "rank", "[I", true)
  | 6 => ("HoundLicence$Law", "room", "[I", true)
  | _ => ("HoundLicence$Law", "parent", "[I", true)
def tyX2 : Nat → FieldType := fun k => match k with
  | 0 => .int
  | 1 => .int
  | 2 => .int
  | 3 => .int
  | 4 => .array .int
  | 5 => .array .int
  | 6 => .array .int
  | _ => .array .int
abbrev wsX20 : List Cond := u_ws RX2 TX2 8
theorem nmX2 : ∀ a, a < 8 → ∀ b, b < 8 → a ≠ b → (TX2 a).2.1 ≠ (TX2 b).2.1 := by decide +kernel
theorem tyX2_ok : ∀ k, k < 8 → parseFieldDescriptor (TX2 k).2.2.1 = some (tyX2 k) := by decide +kernel
abbrev cX2_init : ByteArray := prog_4_method_1_code
def yX2_init : MethodName := ⟨RX2, "<init>", "()V"⟩
abbrev cX2_clear : ByteArray := prog_4_method_2_code
def yX2_clear : MethodName := ⟨RX2, "clear", "()V"⟩
abbrev cX2_become : ByteArray := prog_4_method_3_code
def yX2_become : MethodName := ⟨RX2, "become", "(LHoundLicence$Law;)V"⟩
abbrev cX2_hasDog : ByteArray := prog_4_method_4_code
def yX2_hasDog : MethodName := ⟨RX2, "hasDog", "(I)Z"⟩
abbrev cX2_hasMan : ByteArray := prog_4_method_5_code
def yX2_hasMan : MethodName := ⟨RX2, "hasMan", "(I)Z"⟩
abbrev cX2_sings : ByteArray := prog_4_method_6_code
def yX2_sings : MethodName := ⟨RX2, "sings", "(I)Z"⟩
abbrev cX2_wardenAt : ByteArray := prog_4_method_7_code
def yX2_wardenAt : MethodName := ⟨RX2, "wardenAt", "(I)I"⟩
abbrev cX2_mayParent : ByteArray := prog_4_method_8_code
def yX2_mayParent : MethodName := ⟨RX2, "mayParent", "(II)Z"⟩
abbrev cX2_mayParentSome : ByteArray := prog_4_method_9_code
def yX2_mayParentSome : MethodName := ⟨RX2, "mayParentSome", "()Z"⟩
abbrev cX2_comesFrom : ByteArray := prog_4_method_10_code
def yX2_comesFrom : MethodName := ⟨RX2, "comesFrom", "(II)Z"⟩
abbrev cX2_hasRival : ByteArray := prog_4_method_11_code
def yX2_hasRival : MethodName := ⟨RX2, "hasRival", "(I)Z"⟩
abbrev cX2_degree : ByteArray := prog_4_method_12_code
def yX2_degree : MethodName := ⟨RX2, "degree", "(II)I"⟩
abbrev cX2_inheritsBefore : ByteArray := prog_4_method_13_code
def yX2_inheritsBefore : MethodName := ⟨RX2, "inheritsBefore", "(III)Z"⟩
def RX3 : String := "HoundLicence$Reader"
def TX3 : u_T := fun k => match k with
  | 0 => ("HoundLicence$Reader", "law", "LHoundLicence$Law;", true)
  | 1 => ("HoundLicence$Reader", "town", "LHoundLicence$Town;", true)
  | 2 => ("HoundLicence$Reader", "part", "I", false)
  | 3 => ("HoundLicence$Reader", "place", "I", false)
  | _ => ("HoundLicence$Reader", "parent", "I", false)
def tyX3 : Nat → FieldType := fun k => match k with
  | 0 => .object "HoundLicence$Law"
  | 1 => .object "HoundLicence$Town"
  | 2 => .int
  | 3 => .int
  | _ => .int
abbrev wsX30 : List Cond := u_ws RX3 TX3 5
theorem nmX3 : ∀ a, a < 5 → ∀ b, b < 5 → a ≠ b → (TX3 a).2.1 ≠ (TX3 b).2.1 := by decide +kernel
theorem tyX3_ok : ∀ k, k < 5 → parseFieldDescriptor (TX3 k).2.2.1 = some (tyX3 k) := by decide +kernel
abbrev cX3_init : ByteArray := prog_5_method_1_code
def yX3_init : MethodName := ⟨RX3, "<init>", "()V"⟩
abbrev cX3_firstFault : ByteArray := prog_5_method_2_code
def yX3_firstFault : MethodName := ⟨RX3, "firstFault", "([II)I"⟩
abbrev cX3_takes : ByteArray := prog_5_method_3_code
def yX3_takes : MethodName := ⟨RX3, "takes", "(I)Z"⟩
abbrev cX3_opens : ByteArray := prog_5_method_4_code
def yX3_opens : MethodName := ⟨RX3, "opens", "(I)Z"⟩
abbrev cX3_goesOn : ByteArray := prog_5_method_5_code
def yX3_goesOn : MethodName := ⟨RX3, "goesOn", "(ZI)Z"⟩
abbrev cX3_mayOpen : ByteArray := prog_5_method_6_code
def yX3_mayOpen : MethodName := ⟨RX3, "mayOpen", "(I)Z"⟩
abbrev cX3_figure : ByteArray := prog_5_method_7_code
def yX3_figure : MethodName := ⟨RX3, "figure", "(I)I"⟩
abbrev cX3_isStreet : ByteArray := prog_5_method_8_code
def yX3_isStreet : MethodName := ⟨RX3, "isStreet", "(I)Z"⟩
abbrev cX3_takesHead : ByteArray := prog_5_method_9_code
def yX3_takesHead : MethodName := ⟨RX3, "takesHead", "(I)Z"⟩
abbrev cX3_takesDog : ByteArray := prog_5_method_10_code
def yX3_takesDog : MethodName := ⟨RX3, "takesDog", "(I)Z"⟩
abbrev cX3_takesMan : ByteArray := prog_5_method_11_code
def yX3_takesMan : MethodName := ⟨RX3, "takesMan", "(I)Z"⟩
abbrev cX3_takesParent : ByteArray := prog_5_method_12_code
def yX3_takesParent : MethodName := ⟨RX3, "takesParent", "(I)Z"⟩
def RX4 : String := "HoundLicence$Rest"
def TX4 : u_T := fun k => match k with
  | _ => ("", "", "", false)
def tyX4 : Nat → FieldType := fun k => match k with
  | _ => .int
abbrev wsX40 : List Cond := u_ws RX4 TX4 0
theorem nmX4 : ∀ a, a < 0 → ∀ b, b < 0 → a ≠ b → (TX4 a).2.1 ≠ (TX4 b).2.1 := by decide +kernel
theorem tyX4_ok : ∀ k, k < 0 → parseFieldDescriptor (TX4 k).2.2.1 = some (tyX4 k) := by decide +kernel
abbrev cX4_holds : ByteArray := prog_6_method_2_code
def yX4_holds : MethodName := ⟨RX4, "holds", "(III)Z"⟩
abbrev cX4_wardens : ByteArray := prog_6_method_3_code
def yX4_wardens : MethodName := ⟨RX4, "wardens", "(III)I"⟩
abbrev cX4_bachelors : ByteArray := prog_6_method_4_code
def yX4_bachelors : MethodName := ⟨RX4, "bachelors", "(III)I"⟩
abbrev cX4_worth : ByteArray := prog_6_method_5_code
def yX4_worth : MethodName := ⟨RX4, "worth", "(II)I"⟩
def RX5 : String := "HoundLicence$Sightings"
def TX5 : u_T := fun k => match k with
  | 0 => ("HoundLicence$Sightings", "count", "I", false)
  | 1 => ("HoundLicence$Sightings", "man", "[I", true)
  | 2 => ("HoundLicence$Sightings", "street", "[I", true)
  | 3 => ("HoundLicence$Sightings", "hour", "[I", true)
  | 4 => ("HoundLicence$Sightings", "may", "[I", true)
  | _ => ("HoundLicence$Sightings", "roomLeft", "[I", true)
def tyX5 : Nat → FieldType := fun k => match k with
  | 0 => .int
  | 1 => .array .int
  | 2 => .array .int
  | 3 => .array .int
  | 4 => .array .int
  | _ => .array .int
abbrev wsX50 : List Cond := u_ws RX5 TX5 6
theorem nmX5 : ∀ a, a < 6 → ∀ b, b < 6 → a ≠ b → (TX5 a).2.1 ≠ (TX5 b).2.1 := by decide +kernel
theorem tyX5_ok : ∀ k, k < 6 → parseFieldDescriptor (TX5 k).2.2.1 = some (tyX5 k) := by decide +kernel
abbrev cX5_init : ByteArray := prog_7_method_1_code
def yX5_init : MethodName := ⟨RX5, "<init>", "()V"⟩
abbrev cX5_add : ByteArray := prog_7_method_2_code
def yX5_add : MethodName := ⟨RX5, "add", "(III)V"⟩
abbrev cX5_look : ByteArray := prog_7_method_3_code
def yX5_look : MethodName := ⟨RX5, "look", "(LHoundLicence$Law;LHoundLicence$Town;)V"⟩
abbrev cX5_fits : ByteArray := prog_7_method_4_code
def yX5_fits : MethodName := ⟨RX5, "fits", "(LHoundLicence$Law;LHoundLicence$Town;II)Z"⟩
abbrev cX5_streetWith : ByteArray := prog_7_method_5_code
def yX5_streetWith : MethodName := ⟨RX5, "streetWith", "(LHoundLicence$Law;LHoundLicence$Town;III)I"⟩
abbrev cX5_ways : ByteArray := prog_7_method_6_code
def yX5_ways : MethodName := ⟨RX5, "ways", "(LHoundLicence$Law;)I"⟩
abbrev cX5_share : ByteArray := prog_7_method_7_code
def yX5_share : MethodName := ⟨RX5, "share", "(LHoundLicence$Law;I)I"⟩
abbrev cX5_onlyCompany : ByteArray := prog_7_method_8_code
def yX5_onlyCompany : MethodName := ⟨RX5, "onlyCompany", "(LHoundLicence$Law;I)I"⟩
def RX6 : String := "HoundLicence$Slots"
def TX6 : u_T := fun k => match k with
  | 0 => ("HoundLicence$Slots", "kept", "[LHoundLicence$Town;", true)
  | _ => ("HoundLicence$Slots", "full", "I", false)
def tyX6 : Nat → FieldType := fun k => match k with
  | 0 => .array (.object "HoundLicence$Town")
  | _ => .int
abbrev wsX60 : List Cond := u_ws RX6 TX6 2
theorem nmX6 : ∀ a, a < 2 → ∀ b, b < 2 → a ≠ b → (TX6 a).2.1 ≠ (TX6 b).2.1 := by decide +kernel
theorem tyX6_ok : ∀ k, k < 2 → parseFieldDescriptor (TX6 k).2.2.1 = some (tyX6 k) := by decide +kernel
abbrev cX6_init : ByteArray := prog_8_method_1_code
def yX6_init : MethodName := ⟨RX6, "<init>", "()V"⟩
abbrev cX6_forget : ByteArray := prog_8_method_2_code
def yX6_forget : MethodName := ⟨RX6, "forget", "()V"⟩
abbrev cX6_holds : ByteArray := prog_8_method_3_code
def yX6_holds : MethodName := ⟨RX6, "holds", "(I)Z"⟩
abbrev cX6_put : ByteArray := prog_8_method_4_code
def yX6_put : MethodName := ⟨RX6, "put", "(ILHoundLicence$Town;)V"⟩
abbrev cX6_restore : ByteArray := prog_8_method_5_code
def yX6_restore : MethodName := ⟨RX6, "restore", "(ILHoundLicence$Town;)V"⟩
def RX7 : String := "HoundLicence$Town"
def TX7 : u_T := fun k => match k with
  | 0 => ("HoundLicence$Town", "hour", "I", false)
  | 1 => ("HoundLicence$Town", "leashed", "I", false)
  | 2 => ("HoundLicence$Town", "dogStreet", "[I", true)
  | 3 => ("HoundLicence$Town", "bones", "[I", true)
  | 4 => ("HoundLicence$Town", "keeper", "[I", true)
  | 5 => ("HoundLicence$Town", "manStreet", "[I", true)
  | _ => ("HoundLicence$Town", "sentence", "[I", true)
def tyX7 : Nat → FieldType := fun k => match k with
  | 0 => .int
  | 1 => .int
  | 2 => .array .int
  | 3 => .array .int
  | 4 => .array .int
  | 5 => .array .int
  | _ => .array .int
abbrev wsX70 : List Cond := u_ws RX7 TX7 7
theorem nmX7 : ∀ a, a < 7 → ∀ b, b < 7 → a ≠ b → (TX7 a).2.1 ≠ (TX7 b).2.1 := by decide +kernel
theorem tyX7_ok : ∀ k, k < 7 → parseFieldDescriptor (TX7 k).2.2.1 = some (tyX7 k) := by decide +kernel
abbrev cX7_init : ByteArray := prog_9_method_1_code
def yX7_init : MethodName := ⟨RX7, "<init>", "()V"⟩
abbrev cX7_become : ByteArray := prog_9_method_2_code
def yX7_become : MethodName := ⟨RX7, "become", "(LHoundLicence$Town;)V"⟩
abbrev cX7_isLeashed : ByteArray := prog_9_method_3_code
def yX7_isLeashed : MethodName := ⟨RX7, "isLeashed", "(I)Z"⟩
abbrev cX7_isImpounded : ByteArray := prog_9_method_4_code
def yX7_isImpounded : MethodName := ⟨RX7, "isImpounded", "(I)Z"⟩
abbrev cX7_impounded : ByteArray := prog_9_method_5_code
def yX7_impounded : MethodName := ⟨RX7, "impounded", "(LHoundLicence$Law;)I"⟩
abbrev cX7_keptBy : ByteArray := prog_9_method_6_code
def yX7_keptBy : MethodName := ⟨RX7, "keptBy", "(LHoundLicence$Law;I)I"⟩
abbrev cX7_hasRoom : ByteArray := prog_9_method_7_code
def yX7_hasRoom : MethodName := ⟨RX7, "hasRoom", "(LHoundLicence$Law;I)Z"⟩
abbrev cX7_allBones : ByteArray := prog_9_method_8_code
def yX7_allBones : MethodName := ⟨RX7, "allBones", "(LHoundLicence$Law;)I"⟩
abbrev cX7_goes : ByteArray := prog_9_method_9_code
def yX7_goes : MethodName := ⟨RX7, "goes", "(LHoundLicence$Law;II)V"⟩
abbrev cX7_passHour : ByteArray := prog_9_method_10_code
def yX7_passHour : MethodName := ⟨RX7, "passHour", "(LHoundLicence$Law;II)I"⟩
abbrev cX7_isLate : ByteArray := prog_9_method_11_code
def yX7_isLate : MethodName := ⟨RX7, "isLate", "(II)Z"⟩
abbrev cX7_mayBeCaught : ByteArray := prog_9_method_12_code
def yX7_mayBeCaught : MethodName := ⟨RX7, "mayBeCaught", "(LHoundLicence$Law;IZ)Z"⟩
abbrev cX7_impound : ByteArray := prog_9_method_13_code
def yX7_impound : MethodName := ⟨RX7, "impound", "(LHoundLicence$Law;I)V"⟩
abbrev cX7_serve : ByteArray := prog_9_method_14_code
def yX7_serve : MethodName := ⟨RX7, "serve", "(LHoundLicence$Law;I)V"⟩
abbrev cX7_perilAt : ByteArray := prog_9_method_15_code
def yX7_perilAt : MethodName := ⟨RX7, "perilAt", "(LHoundLicence$Law;II)I"⟩
def RX8 : String := "HoundLicence"
def TX8 : u_T := fun k => match k with
  | 0 => ("HoundLicence", "text", "[I", true)
  | 1 => ("HoundLicence", "length", "I", false)
  | 2 => ("HoundLicence", "reader", "LHoundLicence$Reader;", true)
  | 3 => ("HoundLicence", "law", "LHoundLicence$Law;", true)
  | 4 => ("HoundLicence", "town", "LHoundLicence$Town;", true)
  | 5 => ("HoundLicence", "trial", "LHoundLicence$Town;", true)
  | 6 => ("HoundLicence", "acts", "LHoundLicence$Acts;", true)
  | 7 => ("HoundLicence", "slots", "LHoundLicence$Slots;", true)
  | 8 => ("HoundLicence", "ahead", "LHoundLicence$Ahead;", true)
  | 9 => ("HoundLicence", "sightings", "LHoundLicence$Sightings;", true)
  | _ => ("HoundLicence", "seed", "J", false)
def tyX8 : Nat → FieldType := fun k => match k with
  | 0 => .array .int
  | 1 => .int
  | 2 => .object "HoundLicence$Reader"
  | 3 => .object "HoundLicence$Law"
  | 4 => .object "HoundLicence$Town"
  | 5 => .object "HoundLicence$Town"
  | 6 => .object "HoundLicence$Acts"
  | 7 => .object "HoundLicence$Slots"
  | 8 => .object "HoundLicence$Ahead"
  | 9 => .object "HoundLicence$Sightings"
  | _ => .long
abbrev wsX80 : List Cond := u_ws RX8 TX8 11
theorem nmX8 : ∀ a, a < 11 → ∀ b, b < 11 → a ≠ b → (TX8 a).2.1 ≠ (TX8 b).2.1 := by decide +kernel
theorem tyX8_ok : ∀ k, k < 11 → parseFieldDescriptor (TX8 k).2.2.1 = some (tyX8 k) := by decide +kernel
abbrev cX8_init : ByteArray := prog_1_method_1_code
def yX8_init : MethodName := ⟨RX8, "<init>", "()V"⟩
abbrev cX8_write : ByteArray := prog_1_method_2_code
def yX8_write : MethodName := ⟨RX8, "write", "(I)I"⟩
abbrev cX8_wipe : ByteArray := prog_1_method_3_code
def yX8_wipe : MethodName := ⟨RX8, "wipe", "()I"⟩
abbrev cX8_fault : ByteArray := prog_1_method_4_code
def yX8_fault : MethodName := ⟨RX8, "fault", "()I"⟩
abbrev cX8_ordain : ByteArray := prog_1_method_5_code
def yX8_ordain : MethodName := ⟨RX8, "ordain", "()I"⟩
abbrev cX8_about : ByteArray := prog_1_method_6_code
def yX8_about : MethodName := ⟨RX8, "about", "(I)I"⟩
abbrev cX8_dog : ByteArray := prog_1_method_7_code
def yX8_dog : MethodName := ⟨RX8, "dog", "(II)I"⟩
abbrev cX8_man : ByteArray := prog_1_method_8_code
def yX8_man : MethodName := ⟨RX8, "man", "(II)I"⟩
abbrev cX8_lead : ByteArray := prog_1_method_9_code
def yX8_lead : MethodName := ⟨RX8, "lead", "(II)I"⟩
abbrev cX8_leash : ByteArray := prog_1_method_10_code
def yX8_leash : MethodName := ⟨RX8, "leash", "(I)I"⟩
abbrev cX8_give : ByteArray := prog_1_method_11_code
def yX8_give : MethodName := ⟨RX8, "give", "(II)I"⟩
abbrev cX8_hour : ByteArray := prog_1_method_12_code
def yX8_hour : MethodName := ⟨RX8, "hour", "()I"⟩
abbrev cX8_undo : ByteArray := prog_1_method_13_code
def yX8_undo : MethodName := ⟨RX8, "undo", "()I"⟩
abbrev cX8_caught : ByteArray := prog_1_method_14_code
def yX8_caught : MethodName := ⟨RX8, "caught", "(I)I"⟩
abbrev cX8_routes : ByteArray := prog_1_method_15_code
def yX8_routes : MethodName := ⟨RX8, "routes", "(IIII)I"⟩
abbrev cX8_aired : ByteArray := prog_1_method_16_code
def yX8_aired : MethodName := ⟨RX8, "aired", "(I)I"⟩
abbrev cX8_heir : ByteArray := prog_1_method_17_code
def yX8_heir : MethodName := ⟨RX8, "heir", "(I)I"⟩
abbrev cX8_pays : ByteArray := prog_1_method_18_code
def yX8_pays : MethodName := ⟨RX8, "pays", "(II)I"⟩
abbrev cX8_spans : ByteArray := prog_1_method_19_code
def yX8_spans : MethodName := ⟨RX8, "spans", "(III)I"⟩
abbrev cX8_tryHours : ByteArray := prog_1_method_20_code
def yX8_tryHours : MethodName := ⟨RX8, "tryHours", "(III)I"⟩
abbrev cX8_see : ByteArray := prog_1_method_21_code
def yX8_see : MethodName := ⟨RX8, "see", "(III)I"⟩
abbrev cX8_unsee : ByteArray := prog_1_method_22_code
def yX8_unsee : MethodName := ⟨RX8, "unsee", "()I"⟩
abbrev cX8_walks : ByteArray := prog_1_method_23_code
def yX8_walks : MethodName := ⟨RX8, "walks", "()I"⟩
abbrev cX8_sure : ByteArray := prog_1_method_24_code
def yX8_sure : MethodName := ⟨RX8, "sure", "(I)I"⟩
abbrev cX8_rests : ByteArray := prog_1_method_25_code
def yX8_rests : MethodName := ⟨RX8, "rests", "(II)I"⟩
abbrev cX8_chance : ByteArray := prog_1_method_26_code
def yX8_chance : MethodName := ⟨RX8, "chance", "(IIZ)I"⟩
abbrev cX8_seed : ByteArray := prog_1_method_27_code
def yX8_seed : MethodName := ⟨RX8, "seed", "(J)J"⟩
abbrev cX8_days : ByteArray := prog_1_method_28_code
def yX8_days : MethodName := ⟨RX8, "days", "(I)I"⟩
abbrev cX8_keep : ByteArray := prog_1_method_29_code
def yX8_keep : MethodName := ⟨RX8, "keep", "(I)I"⟩
abbrev cX8_again : ByteArray := prog_1_method_30_code
def yX8_again : MethodName := ⟨RX8, "again", "(I)I"⟩
abbrev cX8_streetBy : ByteArray := prog_1_method_31_code
def yX8_streetBy : MethodName := ⟨RX8, "streetBy", "(II)I"⟩
def RX9 : String := "HoundLicenceModel"
def TX9 : u_T := fun k => match k with
  | 0 => ("HoundLicenceModel", "thrown", "I", false)
  | 1 => ("HoundLicenceModel", "text", "[I", true)
  | 2 => ("HoundLicenceModel", "textSize", "I", false)
  | 3 => ("HoundLicenceModel", "place", "I", false)
  | 4 => ("HoundLicenceModel", "dogs", "I", false)
  | 5 => ("HoundLicenceModel", "men", "I", false)
  | 6 => ("HoundLicenceModel", "leash", "I", false)
  | 7 => ("HoundLicenceModel", "round", "[I", true)
  | 8 => ("HoundLicenceModel", "dog", "[I", true)
  | 9 => ("HoundLicenceModel", "man", "[I", true)
  | 10 => ("HoundLicenceModel", "readDogs", "I", false)
  | 11 => ("HoundLicenceModel", "readMen", "I", false)
  | 12 => ("HoundLicenceModel", "readLeash", "I", false)
  | 13 => ("HoundLicenceModel", "readRound", "[I", true)
  | 14 => ("HoundLicenceModel", "readDog", "[I", true)
  | 15 => ("HoundLicenceModel", "readMan", "[I", true)
  | 16 => ("HoundLicenceModel", "page", "[I", true)
  | 17 => ("HoundLicenceModel", "trial", "[I", true)
  | 18 => ("HoundLicenceModel", "book", "[I", true)
  | 19 => ("HoundLicenceModel", "acts", "I", false)
  | 20 => ("HoundLicenceModel", "kept", "[I", true)
  | 21 => ("HoundLicenceModel", "isKept", "[Z", true)
  | 22 => ("HoundLicenceModel", "seen", "I", false)
  | 23 => ("HoundLicenceModel", "seenMan", "[I", true)
  | 24 => ("HoundLicenceModel", "seenStreet", "[I", true)
  | 25 => ("HoundLicenceModel", "seenHour", "[I", true)
  | 26 => ("HoundLicenceModel", "seed", "J", false)
  | 27 => ("HoundLicenceModel", "steps", "[I", true)
  | 28 => ("HoundLicenceModel", "with", "[I", true)
  | 29 => ("HoundLicenceModel", "walkMany", "I", false)
  | _ => ("HoundLicenceModel", "routeFirst", "I", false)
def tyX9 : Nat → FieldType := fun k => match k with
  | 0 => .int
  | 1 => .array .int
  | 2 => .int
  | 3 => .int
  | 4 => .int
  | 5 => .int
  | 6 => .int
  | 7 => .array .int
  | 8 => .array .int
  | 9 => .array .int
  | 10 => .int
  | 11 => .int
  | 12 => .int
  | 13 => .array .int
  | 14 => .array .int
  | 15 => .array .int
  | 16 => .array .int
  | 17 => .array .int
  | 18 => .array .int
  | 19 => .int
  | 20 => .array .int
  | 21 => .array .boolean
  | 22 => .int
  | 23 => .array .int
  | 24 => .array .int
  | 25 => .array .int
  | 26 => .long
  | 27 => .array .int
  | 28 => .array .int
  | 29 => .int
  | _ => .int
abbrev wsX90 : List Cond := u_ws RX9 TX9 31
theorem nmX9 : ∀ a, a < 31 → ∀ b, b < 31 → a ≠ b → (TX9 a).2.1 ≠ (TX9 b).2.1 := by decide +kernel
theorem tyX9_ok : ∀ k, k < 31 → parseFieldDescriptor (TX9 k).2.2.1 = some (tyX9 k) := by decide +kernel
abbrev cX9_init : ByteArray := prog_11_method_1_code
def yX9_init : MethodName := ⟨RX9, "<init>", "()V"⟩
abbrev cX9_in : ByteArray := prog_11_method_3_code
def yX9_in : MethodName := ⟨RX9, "in", "(JJJ)Z"⟩
abbrev cX9_has : ByteArray := prog_11_method_4_code
def yX9_has : MethodName := ⟨RX9, "has", "(II)Z"⟩
abbrev cX9_noDog : ByteArray := prog_11_method_5_code
def yX9_noDog : MethodName := ⟨RX9, "noDog", "(I)Z"⟩
abbrev cX9_noMan : ByteArray := prog_11_method_6_code
def yX9_noMan : MethodName := ⟨RX9, "noMan", "(I)Z"⟩
abbrev cX9_write : ByteArray := prog_11_method_7_code
def yX9_write : MethodName := ⟨RX9, "write", "(I)I"⟩
abbrev cX9_wipe : ByteArray := prog_11_method_8_code
def yX9_wipe : MethodName := ⟨RX9, "wipe", "()I"⟩
abbrev cX9_figure : ByteArray := prog_11_method_9_code
def yX9_figure : MethodName := ⟨RX9, "figure", "(II)I"⟩
abbrev cX9_one : ByteArray := prog_11_method_10_code
def yX9_one : MethodName := ⟨RX9, "one", "(I)I"⟩
abbrev cX9_readHead : ByteArray := prog_11_method_11_code
def yX9_readHead : MethodName := ⟨RX9, "readHead", "()Z"⟩
abbrev cX9_readDog : ByteArray := prog_11_method_12_code
def yX9_readDog : MethodName := ⟨RX9, "readDog", "()Z"⟩
abbrev cX9_rooms : ByteArray := prog_11_method_13_code
def yX9_rooms : MethodName := ⟨RX9, "rooms", "()I"⟩
abbrev cX9_readMan : ByteArray := prog_11_method_14_code
def yX9_readMan : MethodName := ⟨RX9, "readMan", "()Z"⟩
abbrev cX9_comes : ByteArray := prog_11_method_15_code
def yX9_comes : MethodName := ⟨RX9, "comes", "(II)Z"⟩
abbrev cX9_young : ByteArray := prog_11_method_16_code
def yX9_young : MethodName := ⟨RX9, "young", "(I)I"⟩
abbrev cX9_parents : ByteArray := prog_11_method_17_code
def yX9_parents : MethodName := ⟨RX9, "parents", "()I"⟩
abbrev cX9_readParent : ByteArray := prog_11_method_18_code
def yX9_readParent : MethodName := ⟨RX9, "readParent", "()Z"⟩
abbrev cX9_readPart : ByteArray := prog_11_method_19_code
def yX9_readPart : MethodName := ⟨RX9, "readPart", "()Z"⟩
abbrev cX9_readLaw : ByteArray := prog_11_method_20_code
def yX9_readLaw : MethodName := ⟨RX9, "readLaw", "()I"⟩
abbrev cX9_fault : ByteArray := prog_11_method_21_code
def yX9_fault : MethodName := ⟨RX9, "fault", "()I"⟩
abbrev cX9_ordain : ByteArray := prog_11_method_22_code
def yX9_ordain : MethodName := ⟨RX9, "ordain", "()I"⟩
abbrev cX9_impounded : ByteArray := prog_11_method_23_code
def yX9_impounded : MethodName := ⟨RX9, "impounded", "()I"⟩
abbrev cX9_bonesOf : ByteArray := prog_11_method_24_code
def yX9_bonesOf : MethodName := ⟨RX9, "bonesOf", "([I)I"⟩
abbrev cX9_about : ByteArray := prog_11_method_25_code
def yX9_about : MethodName := ⟨RX9, "about", "(I)I"⟩
abbrev cX9_keeps : ByteArray := prog_11_method_26_code
def yX9_keeps : MethodName := ⟨RX9, "keeps", "([II)I"⟩
abbrev cX9_many : ByteArray := prog_11_method_27_code
def yX9_many : MethodName := ⟨RX9, "many", "(I)I"⟩
abbrev cX9_dog : ByteArray := prog_11_method_28_code
def yX9_dog : MethodName := ⟨RX9, "dog", "(II)I"⟩
abbrev cX9_man : ByteArray := prog_11_method_29_code
def yX9_man : MethodName := ⟨RX9, "man", "(II)I"⟩
abbrev cX9_note : ByteArray := prog_11_method_30_code
def yX9_note : MethodName := ⟨RX9, "note", "()V"⟩
abbrev cX9_goLead : ByteArray := prog_11_method_31_code
def yX9_goLead : MethodName := ⟨RX9, "goLead", "([III)V"⟩
abbrev cX9_goHour : ByteArray := prog_11_method_32_code
def yX9_goHour : MethodName := ⟨RX9, "goHour", "([III)I"⟩
abbrev cX9_lead : ByteArray := prog_11_method_33_code
def yX9_lead : MethodName := ⟨RX9, "lead", "(II)I"⟩
abbrev cX9_leash : ByteArray := prog_11_method_34_code
def yX9_leash : MethodName := ⟨RX9, "leash", "(I)I"⟩
abbrev cX9_give : ByteArray := prog_11_method_35_code
def yX9_give : MethodName := ⟨RX9, "give", "(II)I"⟩
abbrev cX9_hour : ByteArray := prog_11_method_36_code
def yX9_hour : MethodName := ⟨RX9, "hour", "()I"⟩
abbrev cX9_undo : ByteArray := prog_11_method_37_code
def yX9_undo : MethodName := ⟨RX9, "undo", "()I"⟩
abbrev cX9_begin : ByteArray := prog_11_method_38_code
def yX9_begin : MethodName := ⟨RX9, "begin", "()V"⟩
abbrev cX9_caught : ByteArray := prog_11_method_39_code
def yX9_caught : MethodName := ⟨RX9, "caught", "(I)I"⟩
abbrev cX9_power : ByteArray := prog_11_method_40_code
def yX9_power : MethodName := ⟨RX9, "power", "(II)I"⟩
abbrev cX9_goes : ByteArray := prog_11_method_41_code
def yX9_goes : MethodName := ⟨RX9, "goes", "(IIIZ)Z"⟩
abbrev cX9_isAlone : ByteArray := prog_11_method_42_code
def yX9_isAlone : MethodName := ⟨RX9, "isAlone", "(I)Z"⟩
abbrev cX9_routes : ByteArray := prog_11_method_43_code
def yX9_routes : MethodName := ⟨RX9, "routes", "(IIII)I"⟩
abbrev cX9_streetsOf : ByteArray := prog_11_method_44_code
def yX9_streetsOf : MethodName := ⟨RX9, "streetsOf", "(III)I"⟩
abbrev cX9_aired : ByteArray := prog_11_method_45_code
def yX9_aired : MethodName := ⟨RX9, "aired", "(I)I"⟩
abbrev cX9_heir : ByteArray := prog_11_method_46_code
def yX9_heir : MethodName := ⟨RX9, "heir", "(I)I"⟩
abbrev cX9_pays : ByteArray := prog_11_method_47_code
def yX9_pays : MethodName := ⟨RX9, "pays", "(II)I"⟩
abbrev cX9_spans : ByteArray := prog_11_method_48_code
def yX9_spans : MethodName := ⟨RX9, "spans", "(III)I"⟩
abbrev cX9_see : ByteArray := prog_11_method_49_code
def yX9_see : MethodName := ⟨RX9, "see", "(III)I"⟩
abbrev cX9_unsee : ByteArray := prog_11_method_50_code
def yX9_unsee : MethodName := ⟨RX9, "unsee", "()I"⟩
abbrev cX9_wasAt : ByteArray := prog_11_method_51_code
def yX9_wasAt : MethodName := ⟨RX9, "wasAt", "(III)I"⟩
abbrev cX9_isWalk : ByteArray := prog_11_method_52_code
def yX9_isWalk : MethodName := ⟨RX9, "isWalk", "(I)Z"⟩
abbrev cX9_findWalks : ByteArray := prog_11_method_53_code
def yX9_findWalks : MethodName := ⟨RX9, "findWalks", "()V"⟩
abbrev cX9_walks : ByteArray := prog_11_method_54_code
def yX9_walks : MethodName := ⟨RX9, "walks", "()I"⟩
abbrev cX9_sure : ByteArray := prog_11_method_55_code
def yX9_sure : MethodName := ⟨RX9, "sure", "(I)I"⟩
abbrev cX9_worthOf : ByteArray := prog_11_method_56_code
def yX9_worthOf : MethodName := ⟨RX9, "worthOf", "(II)I"⟩
abbrev cX9_rests : ByteArray := prog_11_method_57_code
def yX9_rests : MethodName := ⟨RX9, "rests", "(II)I"⟩
abbrev cX9_chance : ByteArray := prog_11_method_58_code
def yX9_chance : MethodName := ⟨RX9, "chance", "(IIZ)I"⟩
abbrev cX9_seed : ByteArray := prog_11_method_59_code
def yX9_seed : MethodName := ⟨RX9, "seed", "(J)J"⟩
abbrev cX9_days : ByteArray := prog_11_method_60_code
def yX9_days : MethodName := ⟨RX9, "days", "(I)I"⟩
abbrev cX9_keep : ByteArray := prog_11_method_61_code
def yX9_keep : MethodName := ⟨RX9, "keep", "(I)I"⟩
abbrev cX9_again : ByteArray := prog_11_method_62_code
def yX9_again : MethodName := ⟨RX9, "again", "(I)I"⟩
def RJ6 : String := "java/lang/Integer"
abbrev cJ6_bitCount_0f7a4 : ByteArray := prog_12_method_49_code
def yJ6_bitCount_0f7a4 : MethodName := ⟨RJ6, "bitCount", "(I)I"⟩
def RJ9 : String := "java/lang/Math"
abbrev cJ9_floorMod_7cf53 : ByteArray := prog_13_method_50_code
def yJ9_floorMod_7cf53 : MethodName := ⟨RJ9, "floorMod", "(II)I"⟩
def RJ10 : String := "java/lang/System"
def RL : String := "HoundLicenceLaw"
abbrev cL_law : ByteArray := code
def yL_law : MethodName := ⟨RL, "law", "([I)Z"⟩
abbrev vwCl : List vw_C := [(RX0, TX0, 2), (RX1, TX1, 4), (RX2, TX2, 8), (RX3, TX3, 5), (RX5, TX5, 6), (RX6, TX6, 2), (RX7, TX7, 7), (RX8, TX8, 11), (RX9, TX9, 31)]
end
section
/-! A memory of numbered cells: what this proof says of the heap. A cell's kind and length stand in a list that never changes (ly); what the cells hold is a triple of functions (numbers, longs, references). -/
abbrev Mm : Type := (Nat → Nat → Int32) × (Nat → Nat → Int64) × (Nat → Nat → Option Nat)
abbrev CtxT : Type := Nat × va_G × (Nat → ClassId)
/-- the types of an object's fields: 0 int, 1 long, else a reference -/
def tcs (kd : Nat) : List Nat := match kd with
  | 0 => [0, 2]
  | 1 => [2, 2, 2, 2]
  | 2 => [0, 0, 0, 0, 2, 2, 2, 2]
  | 3 => [2, 2, 0, 0, 0]
  | 4 => [0, 2, 2, 2, 2, 2]
  | 5 => [2, 0]
  | 6 => [0, 0, 2, 2, 2, 2, 2]
  | 7 => [2, 0, 2, 2, 2, 2, 2, 2, 2, 2, 1]
  | _ => [0, 2, 0, 0, 0, 0, 0, 2, 2, 2, 0, 0, 0, 2, 2, 2, 2, 2, 2, 0, 2, 2, 0, 2, 2, 2, 1, 2, 2, 0, 0]
abbrev lyTown : List (Nat × Nat) := [(6, 0), (9, 4), (9, 4), (9, 5), (9, 5), (9, 5)]
abbrev lyLaw : List (Nat × Nat) := [(2, 0), (9, 4), (9, 4), (9, 4), (9, 4)]
def ly : List (Nat × Nat) := [(7, 0), (9, 60), (3, 0)] ++ lyLaw ++ lyTown ++ lyLaw ++ lyTown ++ lyTown ++ [(0, 0), (11, 14)] ++ (List.replicate 14 lyTown).flatten ++ [(5, 0), (11, 2)] ++ lyTown ++ lyTown
  ++ [(1, 0), (9, 7), (12, 8), (9, 5), (9, 5), (9, 5), (9, 5), (9, 5), (9, 5), (9, 5), (9, 5), (9, 5), (9, 5), (4, 0), (9, 6), (9, 6), (9, 6), (9, 5), (9, 4)]
  ++ [(8, 0), (9, 60), (9, 4), (9, 16), (9, 15), (9, 4), (9, 16), (9, 15), (9, 25), (9, 25), (9, 350), (9, 50), (10, 2), (9, 6), (9, 6), (9, 6), (9, 4), (9, 5)]
def lk (a : Nat) : Nat × Nat := ly.getD a (99, 0)
theorem lk_lt {a : Nat} (h : (lk a).1 ≠ 99) : a < 168 := by
  rcases Nat.lt_or_ge a 168 with q | q
  · exact q
  · refine absurd ?_ h
    unfold lk
    rw [List.getD_eq_getElem?_getD, List.getElem?_eq_none (by rw [show ly.length = 168 from by decide +kernel]; exact q)]
    rfl
def fv (b : Nat) (M : Mm) (a k t : Nat) : Value := if t = 0 then .int (M.1 a k) else if t = 1 then .long (M.2.1 a k) else va_rf ((M.2.2 a k).map (fun x => b + x))
def fvs (b : Nat) (M : Mm) (a : Nat) : Nat → List Nat → List Value
  | _, [] => []
  | k, t :: ts => fv b M a k t :: fvs b M a (k + 1) ts
theorem fvs_get (b : Nat) (M : Mm) (a : Nat) : ∀ (ts : List Nat) (j k : Nat), (fvs b M a j ts)[k]? = (ts[k]?).map (fun t => fv b M a (j + k) t)
  | [], j, k => by simp [fvs]
  | t :: ts, j, 0 => by simp [fvs]
  | t :: ts, j, k + 1 => by
    simp only [fvs, List.getElem?_cons_succ]
    rw [fvs_get b M a ts (j + 1) k]
    congr 2
    funext x
    congr 1
    omega
theorem fvs_len (b : Nat) (M : Mm) (a : Nat) : ∀ (ts : List Nat) (j : Nat), (fvs b M a j ts).length = ts.length
  | [], j => rfl
  | t :: ts, j => by simp only [fvs, List.length_cons]; rw [fvs_len b M a ts (j + 1)]
def ce (K : CtxT) (M : Mm) (a : Nat) : va_E :=
  if (lk a).1 < 9 then .inr ((lk a).1, fvs K.1 M a 0 (tcs (lk a).1))
  else if (lk a).1 < 11 then .inl (K.2.2 (lk a).1, (lk a).2, .inl (M.1 a))
  else .inl (K.2.2 (lk a).1, (lk a).2, .inr (.inr (.inr (.inr (fun j => (M.2.2 a j).map (fun x => K.1 + x))))))
def wo (K : CtxT) (M : Mm) (nx : Nat) : va_W := (List.range nx).map fun a => (K.1 + a, ce K M a)
theorem wo_get {K : CtxT} {M : Mm} {nx a : Nat} (h : a < nx) : (wo K M nx)[a]? = some (K.1 + a, ce K M a) := by
  unfold wo
  rw [List.getElem?_map, List.getElem?_range h]
  rfl
theorem wo_some {K : CtxT} {M : Mm} {nx i : Nat} {q : Nat × va_E} (h : (wo K M nx)[i]? = some q) : i < nx ∧ q = (K.1 + i, ce K M i) := by
  have hl : i < (wo K M nx).length := (List.getElem?_eq_some_iff.mp h).1
  have hn : i < nx := by simpa [wo] using hl
  rw [wo_get hn] at h
  exact ⟨hn, (Option.some.inj h).symm⟩
theorem wo_D (K : CtxT) (M : Mm) (nx : Nat) : va_D (fun q : Nat => K.1 ≤ q) (wo K M nx) := by
  refine ⟨fun i j p q hi hj hpq => ?_, fun k q hk => ?_⟩
  · obtain ⟨-, rfl⟩ := wo_some hi
    obtain ⟨-, rfl⟩ := wo_some hj
    have : K.1 + i = K.1 + j := hpq
    omega
  · obtain ⟨-, rfl⟩ := wo_some hk
    exact Nat.le_add_right _ _
/-- one cell changed -/
theorem wo_set {K : CtxT} {M M' : Mm} {nx a : Nat} {e : va_E} (he : e = ce K M' a) (ho : ∀ b, b ≠ a → ce K M' b = ce K M b) : (wo K M nx).set a (K.1 + a, e) = wo K M' nx := by
  subst he
  apply List.ext_getElem?
  intro i
  rw [List.getElem?_set]
  by_cases hi : a = i
  · subst hi
    rw [if_pos rfl]
    by_cases hl : a < nx
    · rw [wo_get hl, if_pos (by simpa [wo] using hl)]
    · rw [if_neg (by simpa [wo] using hl), List.getElem?_eq_none (by simp [wo]; omega)]
  · rw [if_neg hi]
    by_cases hl : i < nx
    · rw [wo_get hl, wo_get hl, ho i (Ne.symm hi)]
    · rw [List.getElem?_eq_none (by simp [wo]; omega), List.getElem?_eq_none (by simp [wo]; omega)]
theorem wo_push (K : CtxT) (M : Mm) (nx : Nat) : wo K M nx ++ [(K.1 + nx, ce K M nx)] = wo K M (nx + 1) := by
  unfold wo
  rw [List.range_succ, List.map_append]
  rfl
theorem ce_congr {K : CtxT} {M M' : Mm} {b : Nat} (h1 : ∀ k, M'.1 b k = M.1 b k) (h2 : ∀ k, M'.2.1 b k = M.2.1 b k) (h3 : ∀ k, M'.2.2 b k = M.2.2 b k) : ce K M' b = ce K M b := by
  have f1 : M'.1 b = M.1 b := funext h1
  have f3 : M'.2.2 b = M.2.2 b := funext h3
  have g : ∀ (ts : List Nat) (j : Nat), fvs K.1 M' b j ts = fvs K.1 M b j ts := by
    intro ts
    induction ts with
    | nil => intro j; rfl
    | cons t ts ih =>
      intro j
      simp only [fvs, fv, h1, h2, h3]
      rw [ih]
  unfold ce
  rw [g, f1]
  simp only [h3]
/-! what a write does -/
def wI (M : Mm) (a k : Nat) (x : Int32) : Mm := (fun b j => if b = a ∧ j = k then x else M.1 b j, M.2)
def wJ (M : Mm) (a k : Nat) (x : Int64) : Mm := (M.1, fun b j => if b = a ∧ j = k then x else M.2.1 b j, M.2.2)
def wR (M : Mm) (a k : Nat) (x : Option Nat) : Mm := (M.1, M.2.1, fun b j => if b = a ∧ j = k then x else M.2.2 b j)
/-- n numbers from the place sp of a0 on to the place dp of a on -/
def wC (M : Mm) (a0 sp a dp n : Nat) : Mm := (fun b j => if b = a ∧ dp ≤ j ∧ j < dp + n then M.1 a0 (sp + (j - dp)) else M.1 b j, M.2)
abbrev rI (M : Mm) (a k : Nat) : Int32 := M.1 a k
abbrev rJ (M : Mm) (a k : Nat) : Int64 := M.2.1 a k
abbrev rR (M : Mm) (a k : Nat) : Option Nat := M.2.2 a k
theorem fvs_set (b : Nat) (M M' : Mm) (a : Nat) (v : Value) : ∀ (ts : List Nat) (j k : Nat), (∀ t i, i ≠ k → fv b M' a (j + i) t = fv b M a (j + i) t) → (∀ t, ts[k]? = some t → fv b M' a (j + k) t = v) → (fvs b M a j ts).set k v = fvs b M' a j ts
  | [], j, k, _, _ => by simp [fvs]
  | t :: ts, j, 0, h, hk => by
    simp only [fvs, List.set_cons_zero]
    have e0 := hk t rfl
    rw [Nat.add_zero] at e0
    rw [e0]
    congr 1
    apply List.ext_getElem?
    intro i
    rw [fvs_get, fvs_get]
    congr 1
    funext x
    have := h x (i + 1) (by omega)
    rw [show j + (i + 1) = j + 1 + i by omega] at this
    exact this.symm
  | t :: ts, j, k + 1, h, hk => by
    simp only [fvs, List.set_cons_succ]
    have e0 := h t 0 (by omega)
    rw [Nat.add_zero] at e0
    rw [e0, fvs_set b M M' a v ts (j + 1) k (fun t i hi => by
      have := h t (i + 1) (by omega)
      rw [show j + (i + 1) = j + 1 + i by omega] at this
      exact this) (fun t ht => by
      have := hk t (by rw [List.getElem?_cons_succ]; exact ht)
      rw [show j + (k + 1) = j + 1 + k by omega] at this
      exact this)]
/-! the words that every method's contract asks, and those that travel apart -/
def gw : List Cond := lw_tbl.filter goodWord
def isEx : Cond → Bool
  | .methodLinkNest .. => true
  | _ => false
def exW : List Cond := lw_tbl.filter isEx
theorem exW_ok : ∀ w ∈ exW, isEx w = true := fun _ h => (List.mem_filter.mp h).2
abbrev aoT : List FieldType := [.object "HoundLicence$Town", .array .int]
theorem gw_of {w : Cond} (h : w ∈ lw_tbl) (hg : goodWord w = true) : w ∈ gw := List.mem_filter.mpr ⟨h, hg⟩
theorem ex_of {w : Cond} (h : w ∈ lw_tbl) (hg : isEx w = true) : w ∈ exW := List.mem_filter.mpr ⟨h, hg⟩
theorem gw_good : ∀ w ∈ gw, goodWord w = true := fun w h => (List.mem_filter.mp h).2
theorem gw_in {big : List Cond} {c c' : Cond} (hc : c' ∈ gw) : GoodIn (c :: gw) (c' :: gw) := by
  intro w hw
  have h1 : w ∈ gw := by
    rcases List.mem_cons.mp hw with rfl | h
    · exact hc
    · exact h
  exact ⟨List.mem_cons_of_mem _ h1, good_of_word (gw_good w h1)⟩
theorem gw_inb {big : List Cond} {c' : Cond} (hb : ∀ w ∈ gw, w ∈ big) (hc : c' ∈ gw) : GoodIn big (c' :: gw) := by
  intro w hw
  have h1 : w ∈ gw := by
    rcases List.mem_cons.mp hw with rfl | h
    · exact hc
    · exact h
  exact ⟨hb w h1, good_of_word (gw_good w h1)⟩
abbrev tysG (K : CtxT) : List (ClassId × FieldType) := [(K.2.2 9, .int), (K.2.2 10, .boolean), (K.2.2 11, .object "HoundLicence$Town"), (K.2.2 12, .array .int)]
def Kx (K : CtxT) (U : State) : Prop := va_K K.2.1 vwCl (tysG K) U ∧ (∀ w ∈ exW, va_Nw w U) ∧ ∀ ty ∈ aoT, (Cond.arrayOver ty).before #[] U = true
theorem ex_warm {w : Cond} (hw : isEx w = true) {s U : State} (hW : s.WarmedH U.vm) (h : va_Nw w s) : va_Nw w U := by
  cases w with
  | methodLinkNest a i x hh => exact va_Nw.warmM hW h
  | _ => cases hw
theorem ex_tab {w : Cond} (hw : isEx w = true) : w.onTables = true := by
  cases w <;> first | rfl | cases hw
theorem ao_vm {ty : FieldType} {A A' : Array Value} {u U : State} (hv : u.vm = U.vm) (h : (Cond.arrayOver ty).before A u = true) : (Cond.arrayOver ty).before A' U = true := by
  have e : (Cond.arrayOver ty).before A' (u.setVm U.vm) = (Cond.arrayOver ty).before A' U := by cases ty <;> rfl
  rw [← e]
  have e2 : u.setVm U.vm = u := by rw [← hv]; rfl
  rw [e2]
  have e3 : (Cond.arrayOver ty).before A' u = (Cond.arrayOver ty).before A u := by cases ty <;> rfl
  rw [e3]
  exact h
theorem ao_warm {ty : FieldType} {A A' : Array Value} {s U : State} (hW : s.WarmedH U.vm) (h : (Cond.arrayOver ty).before A s = true) : (Cond.arrayOver ty).before A' U = true := by
  have h1 : (Cond.arrayOver ty).before A (s.setVm U.vm) = true := by rw [Cond.arrayOver_setVmC hW.alike]; exact h
  exact ao_vm (u := s.setVm U.vm) rfl h1
theorem Kx.warm {K : CtxT} {s U : State} (h : Kx K s) (hW : s.WarmedH U.vm) : Kx K U := ⟨va_K.moved hW.alike h.1, fun w hw => ex_warm (exW_ok w hw) hW (h.2.1 w hw), fun ty ht => ao_warm hW (h.2.2 ty ht)⟩
theorem Kx.same {K : CtxT} {u U : State} (h : Kx K u) (hv : u.vm = U.vm) : Kx K U := ⟨va_K.moved (by rw [hv]; exact Vm.Alike.refl _) h.1, fun w hw => va_Nw.same (ex_tab (exW_ok w hw)) hv (h.2.1 w hw), fun ty ht => ao_vm hv (h.2.2 ty ht)⟩
/-! the locals as a row of places -/
def lR (ls : Array Slot) (nl : Nat) (L : List (Option Value)) : Prop := L.length = nl ∧ ∃ l, lv_has ls nl l ∧ ∀ (i : Nat) (v : Value), L[i]? = some (some v) → (i, v) ∈ l
theorem lR.at {ls : Array Slot} {nl : Nat} {L : List (Option Value)} (h : lR ls nl L) {i : Nat} {v : Value} (hi : L[i]? = some (some v)) : ls[i]? = some (.val v) := by
  obtain ⟨-, l, h1, h2⟩ := h
  exact h1.2.2 _ (h2 i v hi)
theorem lR.size {ls : Array Slot} {nl : Nat} {L : List (Option Value)} (h : lR ls nl L) : ls.size = nl := by
  obtain ⟨-, l, h1, -⟩ := h
  exact h1.1
/-- the place below holds no long -/
def nolong (L : List (Option Value)) (i : Nat) : Bool := match i with
  | 0 => true
  | j + 1 => match L[j]? with
    | some (some v) => v.category == 1
    | _ => true
theorem nolong_ne {L : List (Option Value)} {i j : Nat} {v : Value} (h : nolong L i = true) (hj : j + 1 = i) (hv : L[j]? = some (some v)) : ¬ v.category = 2 := by
  subst hj
  simp only [nolong, hv] at h
  have := eq_of_beq h
  omega
theorem lR.keep1 {ls' : Array Slot} {nl i : Nat} {v : Value} {L : List (Option Value)} {l : List (Nat × Value)} (hlen : L.length = nl) (hin : ∀ (i : Nat) (v : Value), L[i]? = some (some v) → (i, v) ∈ l) (hk : nolong L i = true)
    (h' : lv_has ls' nl ((i, v) :: l.filter (fun q => !(q.1 == i) && !(q.1 + 1 == i && q.2.category == 2)))) : lR ls' nl (L.set i (some v)) := by
  refine ⟨by rw [List.length_set]; exact hlen, _, h', fun j w hw => ?_⟩
  by_cases hj : j = i
  · subst hj
    have hl : j < L.length := by
      have := (List.getElem?_eq_some_iff.mp hw).1
      rwa [List.length_set] at this
    rw [List.getElem?_set_self hl] at hw
    cases hw
    exact List.mem_cons_self
  · rw [List.getElem?_set_ne (Ne.symm hj)] at hw
    refine List.mem_cons_of_mem _ (List.mem_filter.mpr ⟨hin j w hw, ?_⟩)
    have hc : ¬ (j + 1 = i ∧ w.category = 2) := fun q => nolong_ne hk q.1 hw q.2
    simp only [Bool.and_eq_true, Bool.not_eq_true', Bool.and_eq_false_imp, beq_iff_eq, beq_eq_false_iff_ne]
    refine ⟨hj, fun q1 q2 => hc ⟨q1, q2⟩⟩
theorem lR.keep2 {ls' : Array Slot} {nl i : Nat} {v : Value} {L : List (Option Value)} {l : List (Nat × Value)} (hlen : L.length = nl) (hin : ∀ (i : Nat) (v : Value), L[i]? = some (some v) → (i, v) ∈ l) (hk : nolong L i = true)
    (h' : lv_has ls' nl ((i, v) :: l.filter (fun q => !(q.1 == i) && (!(q.1 == i + 1) && !(q.1 + 1 == i && q.2.category == 2))))) : lR ls' nl ((L.set i (some v)).set (i + 1) none) := by
  refine ⟨by rw [List.length_set, List.length_set]; exact hlen, _, h', fun j w hw => ?_⟩
  by_cases hj1 : j = i + 1
  · subst hj1
    rw [List.getElem?_set] at hw
    simp at hw
  · rw [List.getElem?_set_ne (Ne.symm hj1)] at hw
    by_cases hj : j = i
    · subst hj
      have hl : j < L.length := by
        have := (List.getElem?_eq_some_iff.mp hw).1
        rwa [List.length_set] at this
      rw [List.getElem?_set_self hl] at hw
      cases hw
      exact List.mem_cons_self
    · rw [List.getElem?_set_ne (Ne.symm hj)] at hw
      refine List.mem_cons_of_mem _ (List.mem_filter.mpr ⟨hin j w hw, ?_⟩)
      have hc : ¬ (j + 1 = i ∧ w.category = 2) := fun q => nolong_ne hk q.1 hw q.2
      simp only [Bool.and_eq_true, Bool.not_eq_true', Bool.and_eq_false_imp, beq_iff_eq, beq_eq_false_iff_ne]
      exact ⟨hj, hj1, fun q1 q2 => hc ⟨q1, q2⟩⟩
def enl : List Value → List (Option Value)
  | [] => []
  | v :: vs => if v.category = 2 then some v :: none :: enl vs else some v :: enl vs
theorem enl_in : ∀ (vs : List Value) (k i : Nat) (v : Value), (enl vs)[i]? = some (some v) → (k + i, v) ∈ lv_args k vs
  | [], k, i, v, h => by simp [enl] at h
  | w :: vs, k, i, v, h => by
    unfold enl at h
    by_cases hc : w.category = 2
    · rw [if_pos hc] at h
      simp only [lv_args, hc, if_true]
      match i, h with
      | 0, h => cases h; exact List.mem_cons_self
      | 1, h => cases h
      | i + 2, h =>
        have := enl_in vs (k + 2) i v h
        rw [show k + 2 + i = k + (i + 2) by omega] at this
        exact List.mem_cons_of_mem _ this
    · rw [if_neg hc] at h
      simp only [lv_args, hc, if_false]
      match i, h with
      | 0, h => cases h; exact List.mem_cons_self
      | i + 1, h =>
        have := enl_in vs (k + 1) i v h
        rw [show k + 1 + i = k + (i + 1) by omega] at this
        exact List.mem_cons_of_mem _ this
/-! the run of a method from a place of its code on -/
abbrev EnvT : Type := Program × Launch × Env × Room × State × MethodId × Array Value × List Frame × Method × Code
abbrev ep (E : EnvT) : Program := E.1
abbrev el (E : EnvT) : Launch := E.2.1
abbrev ee (E : EnvT) : Env := E.2.2.1
abbrev eR (E : EnvT) : Room := E.2.2.2.1
abbrev es (E : EnvT) : State := E.2.2.2.2.1
abbrev em (E : EnvT) : MethodId := E.2.2.2.2.2.1
abbrev ea (E : EnvT) : Array Value := E.2.2.2.2.2.2.1
abbrev eb (E : EnvT) : List Frame := E.2.2.2.2.2.2.2.1
abbrev eM (E : EnvT) : Method := E.2.2.2.2.2.2.2.2.1
abbrev ec (E : EnvT) : Code := E.2.2.2.2.2.2.2.2.2
abbrev MI : Type := MethodName × ByteArray × Nat × Option FieldType
def Ok (E : EnvT) (K : CtxT) (μ : MI) (d : Nat) (f : Nat × Nat) : Prop :=
  (ep E).tables.exec = Jvm.exec ∧ (ec E).code = μ.2.1 ∧ (ec E).maxLocals = μ.2.2.1 ∧ (es E).vm.findClass μ.1.cls = some (em E).cls ∧ (∀ w ∈ gw, w.before (ea E) (es E) = true) ∧ (eM E).sig.returnType = μ.2.2.2 ∧ (eM E).locks = false ∧ Kx K (es E) ∧ (eM E).name = μ.1.name ∧
  d ≤ (eR E).frames ∧ 60 * d ≤ (eR E).locals ∧ f.1 ≤ (eR E).cells ∧ f.2 ≤ (eR E).slots ∧ K.1 ≤ (es E).heap.size
def Pw (K : CtxT) (nx : Nat) (M : Mm) (H : Heap) : Prop := va_P K.2.1 vwCl (wo K M nx) H ∧ H.size = K.1 + nx
def Wp (E : EnvT) (K : CtxT) (μ : MI) (d : Nat) (f : Nat × Nat) (pc : Nat) (L : List (Option Value)) (st : List Value) (nx : Nat) (M : Mm) (k n : Nat) (Z : State → Prop) : Prop :=
  Ok E K μ d f → ∀ (H : Heap) (locs : List Loc) (ls : Array Slot), Pw K nx M H → va_S (fun q : Nat => K.1 ≤ q) (es E).heap H locs → lR ls μ.2.2.1 L →
    W (ep E) (el E) (ee E) (eR E) (es E) (em E) (ea E) (eb E) (eM E) (ec E) H locs k n Z (F0 (em E) pc ls st)
/-- a contract: from the memory M (nx cells) the method returns, and answer and memory satisfy Q; dn cells of ds places are new -/
def Qc (K : CtxT) (nx : Nat) (Q : Option Value → Mm → Prop) : Array Value → State → Outcome → State → Prop := fun _ st o t =>
  (∃ (v : Option Value) (M' : Mm), o = .returned v ∧ Q v M' ∧ Pw K nx M' t.heap ∧ Kx K t) ∧ va_F (fun q : Nat => K.1 ≤ q) st t
def rmD (d dn ds : Nat) : Room := { frames := d, cells := dn, slots := ds, locals := 60 * d }
def Ct (l : Launch) (K : CtxT) (d : Nat) (μ : MI) (vs : List Value) (nx : Nat) (M : Mm) (dn ds : Nat) (Q : Option Value → Mm → Prop) : Prop :=
  Met l μ.1 (.code μ.1 μ.2.1 μ.2.2.1 μ.2.2.2 :: gw) (rmD d dn ds) (va_Pc vs (fun U => Pw K nx M U.heap ∧ Kx K U ∧ K.1 ≤ U.heap.size)) (Qc K (nx + dn) Q) dn ds (fun q : Nat => K.1 ≤ q)
abbrev zM (E : EnvT) (K : CtxT) (nx dn ds : Nat) (Q : Option Value → Mm → Prop) : State → Prop := MQ (eb E) (Qc K nx Q) (ea E) (es E) dn ds (fun q : Nat => K.1 ≤ q)
theorem ct_of {l : Launch} {K : CtxT} {d : Nat} {μ : MI} {vs : List Value} {nx : Nat} {M : Mm} {dn ds : Nat} {Q : Option Value → Mm → Prop} {L : List (Option Value)} (hp : plainName μ.1.cls = true) (hlen : (lg_sl vs).length ≤ μ.2.2.1) (hL : enl vs ++ List.replicate (μ.2.2.1 - (enl vs).length) none = L) (hL2 : L.length = μ.2.2.1)
    (body : ∀ E : EnvT, el E = l → Wp E K μ d (dn, ds) 0 L [] nx M 0 0 (zM E K (nx + dn) dn ds Q)) : Ct l K d μ vs nx M dn ds Q := by
  refine Met.ofW (cc := μ.2.1) (maxL := μ.2.2.1) (ret := μ.2.2.2) hp rfl ?_
  intro p e s m args below meth c s₁ B hml hv
  obtain ⟨rfl, hP, hK, hsz⟩ := hv
  have hts := atoms_spec (ws := Jvm.Cond.code μ.1 μ.2.1 μ.2.2.1 μ.2.2.2 :: gw) B.pre
  have hown : s.vm.findClass μ.1.cls = some m.cls := findClass_of_methodNamed B.named
  have h := body (p, l, e, rmD d dn ds, s, m, vs.toArray, below, meth, c) rfl ⟨B.exec, B.bytes, hml, hown, fun w hw => hts w (List.mem_cons_of_mem _ hw), B.returns, B.notSynchronized, hK, (name_of_methodNamed B.named B.method).1, Nat.le_refl _, Nat.le_refl _, Nat.le_refl _, Nat.le_refl _, hsz⟩ s.heap []
  have hl := lv_entry vs (n := μ.2.2.1) hlen
  rw [lg_entry_eq]
  refine h _ hP va_S.rf ⟨hL2, _, hl, fun i v hi => ?_⟩
  subst hL
  rcases Nat.lt_or_ge i (enl vs).length with q | q
  · rw [List.getElem?_append_left q] at hi
    have := enl_in vs 0 i v hi
    rwa [Nat.zero_add] at this
  · rw [List.getElem?_append_right q, List.getElem?_replicate] at hi
    split at hi <;> cases hi
end
section
section RULES
variable {E : EnvT} {K : CtxT} {μ : MI} {d : Nat} {f : Nat × Nat} {pc : Nat} {L : List (Option Value)} {st : List Value} {nx : Nat} {M : Mm} {k n : Nat} {Z : State → Prop}
theorem wp_iconst {c : Int} (hd : decode μ.2.1 pc = .ok (.iconst c, 1))  (kk : Wp E K μ d f (pc + 1) L (.int (Int32.ofInt c) :: st) nx M k n Z) : Wp E K μ d f pc L st nx M k n Z :=
  fun ok H locs ls hP hS hl => lv_iconst ok.1 ok.2.1 hd rfl (kk ok H locs ls hP hS hl)
theorem wp_bipush {c : Int} {x : Int32} (hd : decode μ.2.1 pc = .ok (.bipush c, 2)) (hx : (Int8.ofInt c).toInt32 = x) (kk : Wp E K μ d f (pc + 2) L (.int x :: st) nx M k n Z) : Wp E K μ d f pc L st nx M k n Z :=
  fun ok H locs ls hP hS hl => lv_bipush ok.1 ok.2.1 hd hx (kk ok H locs ls hP hS hl)
theorem wp_sipush {c : Int} {x : Int32} (hd : decode μ.2.1 pc = .ok (.sipush c, 3)) (hx : (Int16.ofInt c).toInt32 = x) (kk : Wp E K μ d f (pc + 3) L (.int x :: st) nx M k n Z) : Wp E K μ d f pc L st nx M k n Z :=
  fun ok H locs ls hP hS hl => lv_sipush ok.1 ok.2.1 hd hx (kk ok H locs ls hP hS hl)
theorem wp_ic {c : Int} {x : Int32} (hd : decode μ.2.1 pc = .ok (.iconst c, 1)) (hx : Int32.ofInt c = x) (kk : Wp E K μ d f (pc + 1) L (.int x :: st) nx M k n Z) : Wp E K μ d f pc L st nx M k n Z :=
  fun ok H locs ls hP hS hl => lv_iconst ok.1 ok.2.1 hd hx (kk ok H locs ls hP hS hl)
theorem wp_lconst {c : Fin 2} {x : Int64} (hd : decode μ.2.1 pc = .ok (.lconst c, 1)) (hx : Int64.ofNat (c : Nat) = x) (kk : Wp E K μ d f (pc + 1) L (.long x :: st) nx M k n Z) : Wp E K μ d f pc L st nx M k n Z :=
  fun ok H locs ls hP hS hl => lv_lconst ok.1 ok.2.1 hd hx (kk ok H locs ls hP hS hl)
theorem wp_iload_n {c : Fin 4} {x : Int32} (hd : decode μ.2.1 pc = .ok (.iload_n c, 1)) (hL : L[(c : Nat)]? = some (some (.int x))) (kk : Wp E K μ d f (pc + 1) L (.int x :: st) nx M k n Z) : Wp E K μ d f pc L st nx M k n Z :=
  fun ok H locs ls hP hS hl => lv_iload_n ok.1 ok.2.1 hd rfl (hl.at hL) (kk ok H locs ls hP hS hl)
theorem wp_iload {i : Nat} {x : Int32} (hd : decode μ.2.1 pc = .ok (.iload i, 2)) (hL : L[i]? = some (some (.int x))) (kk : Wp E K μ d f (pc + 2) L (.int x :: st) nx M k n Z) : Wp E K μ d f pc L st nx M k n Z :=
  fun ok H locs ls hP hS hl => lv_iload ok.1 ok.2.1 hd (hl.at hL) (kk ok H locs ls hP hS hl)
theorem wp_lload_n {c : Fin 4} {x : Int64} (hd : decode μ.2.1 pc = .ok (.lload_n c, 1)) (hL : L[(c : Nat)]? = some (some (.long x))) (kk : Wp E K μ d f (pc + 1) L (.long x :: st) nx M k n Z) : Wp E K μ d f pc L st nx M k n Z :=
  fun ok H locs ls hP hS hl => lv_lload_n ok.1 ok.2.1 hd rfl (hl.at hL) (kk ok H locs ls hP hS hl)
theorem wp_lload {i : Nat} {x : Int64} (hd : decode μ.2.1 pc = .ok (.lload i, 2)) (hL : L[i]? = some (some (.long x))) (kk : Wp E K μ d f (pc + 2) L (.long x :: st) nx M k n Z) : Wp E K μ d f pc L st nx M k n Z :=
  fun ok H locs ls hP hS hl => lv_lload ok.1 ok.2.1 hd (hl.at hL) (kk ok H locs ls hP hS hl)
theorem wp_aload_n {c : Fin 4} {x : Nat} (hd : decode μ.2.1 pc = .ok (.aload_n c, 1)) (hL : L[(c : Nat)]? = some (some (.ref x))) (kk : Wp E K μ d f (pc + 1) L (.ref x :: st) nx M k n Z) : Wp E K μ d f pc L st nx M k n Z :=
  fun ok H locs ls hP hS hl => lv_aload_n ok.1 ok.2.1 hd rfl (hl.at hL) (kk ok H locs ls hP hS hl)
theorem wp_aload {i : Nat} {x : Nat} (hd : decode μ.2.1 pc = .ok (.aload i, 2)) (hL : L[i]? = some (some (.ref x))) (kk : Wp E K μ d f (pc + 2) L (.ref x :: st) nx M k n Z) : Wp E K μ d f pc L st nx M k n Z :=
  fun ok H locs ls hP hS hl => lv_aload ok.1 ok.2.1 hd (hl.at hL) (kk ok H locs ls hP hS hl)
theorem wp_istore_n {c : Fin 4} {x : Int32} {L' : List (Option Value)} (hd : decode μ.2.1 pc = .ok (.istore_n c, 1)) (hi : (c : Nat) < L.length) (hk : nolong L (c : Nat) = true) (hL : L.set (c : Nat) (some (.int x)) = L') (kk : Wp E K μ d f (pc + 1) L' st nx M k n Z) : Wp E K μ d f pc L (.int x :: st) nx M k n Z := by
  intro ok H locs ls hP hS hl
  obtain ⟨h1, l, h2, h3⟩ := hl
  exact lv_istore_n ok.1 ok.2.1 hd rfl h2 (by rw [← h1]; exact hi) rfl (fun ls' h' => kk ok H locs ls' hP hS (hL ▸ lR.keep1 h1 h3 hk h'))
theorem wp_istore {i : Nat} {x : Int32} {L' : List (Option Value)} (hd : decode μ.2.1 pc = .ok (.istore i, 2)) (hi : i < L.length) (hk : nolong L i = true) (hL : L.set i (some (.int x)) = L') (kk : Wp E K μ d f (pc + 2) L' st nx M k n Z) : Wp E K μ d f pc L (.int x :: st) nx M k n Z := by
  intro ok H locs ls hP hS hl
  obtain ⟨h1, l, h2, h3⟩ := hl
  exact lv_istore ok.1 ok.2.1 hd h2 (by rw [← h1]; exact hi) rfl (fun ls' h' => kk ok H locs ls' hP hS (hL ▸ lR.keep1 h1 h3 hk h'))
theorem wp_astore_n {c : Fin 4} {x : Nat} {L' : List (Option Value)} (hd : decode μ.2.1 pc = .ok (.astore_n c, 1)) (hi : (c : Nat) < L.length) (hk : nolong L (c : Nat) = true) (hL : L.set (c : Nat) (some (.ref x)) = L') (kk : Wp E K μ d f (pc + 1) L' st nx M k n Z) : Wp E K μ d f pc L (.ref x :: st) nx M k n Z := by
  intro ok H locs ls hP hS hl
  obtain ⟨h1, l, h2, h3⟩ := hl
  exact lv_astore_n ok.1 ok.2.1 hd rfl h2 (by rw [← h1]; exact hi) rfl (fun ls' h' => kk ok H locs ls' hP hS (hL ▸ lR.keep1 h1 h3 hk h'))
theorem wp_astore {i : Nat} {x : Nat} {L' : List (Option Value)} (hd : decode μ.2.1 pc = .ok (.astore i, 2)) (hi : i < L.length) (hk : nolong L i = true) (hL : L.set i (some (.ref x)) = L') (kk : Wp E K μ d f (pc + 2) L' st nx M k n Z) : Wp E K μ d f pc L (.ref x :: st) nx M k n Z := by
  intro ok H locs ls hP hS hl
  obtain ⟨h1, l, h2, h3⟩ := hl
  exact lv_astore ok.1 ok.2.1 hd h2 (by rw [← h1]; exact hi) rfl (fun ls' h' => kk ok H locs ls' hP hS (hL ▸ lR.keep1 h1 h3 hk h'))
theorem wp_lstore_n {c : Fin 4} {x : Int64} {L' : List (Option Value)} (hd : decode μ.2.1 pc = .ok (.lstore_n c, 1)) (hi : (c : Nat) + 1 < L.length) (hk : nolong L (c : Nat) = true) (hL : (L.set (c : Nat) (some (.long x))).set ((c : Nat) + 1) none = L') (kk : Wp E K μ d f (pc + 1) L' st nx M k n Z) : Wp E K μ d f pc L (.long x :: st) nx M k n Z := by
  intro ok H locs ls hP hS hl
  obtain ⟨h1, l, h2, h3⟩ := hl
  exact lv_lstore_n ok.1 ok.2.1 hd rfl h2 (by rw [← h1]; exact hi) rfl (fun ls' h' => kk ok H locs ls' hP hS (hL ▸ lR.keep2 h1 h3 hk h'))
theorem wp_iinc {i : Nat} {c : Int} {x : Int32} {L' : List (Option Value)} (hd : decode μ.2.1 pc = .ok (.iinc i c, 3)) (hx : L[i]? = some (some (.int x))) (hk : nolong L i = true) (hL : L.set i (some (.int (x + Int32.ofInt c))) = L') (kk : Wp E K μ d f (pc + 3) L' st nx M k n Z) : Wp E K μ d f pc L st nx M k n Z := by
  intro ok H locs ls hP hS hl
  obtain ⟨h1, l, h2, h3⟩ := hl
  obtain ⟨q, hq⟩ := List.getElem?_of_mem (h3 i _ hx)
  exact lv_iinc ok.1 ok.2.1 hd h2 hq rfl (by rw [← h1]; exact (List.getElem?_eq_some_iff.mp hx).1) rfl (fun ls' h' => kk ok H locs ls' hP hS (hL ▸ lR.keep1 h1 h3 hk h'))
theorem wp_iadd {x y : Int32} (hd : decode μ.2.1 pc = .ok (.iadd, 1))  (kk : Wp E K μ d f (pc + 1) L (.int (x + y) :: st) nx M k n Z) : Wp E K μ d f pc L (.int y :: .int x :: st) nx M k n Z :=
  fun ok H locs ls hP hS hl => lv_iadd ok.1 ok.2.1 hd  (kk ok H locs ls hP hS hl)
theorem wp_isub {x y : Int32} (hd : decode μ.2.1 pc = .ok (.isub, 1))  (kk : Wp E K μ d f (pc + 1) L (.int (x - y) :: st) nx M k n Z) : Wp E K μ d f pc L (.int y :: .int x :: st) nx M k n Z :=
  fun ok H locs ls hP hS hl => lv_isub ok.1 ok.2.1 hd  (kk ok H locs ls hP hS hl)
theorem wp_imul {x y : Int32} (hd : decode μ.2.1 pc = .ok (.imul, 1))  (kk : Wp E K μ d f (pc + 1) L (.int (x * y) :: st) nx M k n Z) : Wp E K μ d f pc L (.int y :: .int x :: st) nx M k n Z :=
  fun ok H locs ls hP hS hl => lv_imul ok.1 ok.2.1 hd  (kk ok H locs ls hP hS hl)
theorem wp_iand {x y : Int32} (hd : decode μ.2.1 pc = .ok (.iand, 1))  (kk : Wp E K μ d f (pc + 1) L (.int (x &&& y) :: st) nx M k n Z) : Wp E K μ d f pc L (.int y :: .int x :: st) nx M k n Z :=
  fun ok H locs ls hP hS hl => lv_iand ok.1 ok.2.1 hd  (kk ok H locs ls hP hS hl)
theorem wp_ior {x y : Int32} (hd : decode μ.2.1 pc = .ok (.ior, 1))  (kk : Wp E K μ d f (pc + 1) L (.int (x ||| y) :: st) nx M k n Z) : Wp E K μ d f pc L (.int y :: .int x :: st) nx M k n Z :=
  fun ok H locs ls hP hS hl => lv_ior ok.1 ok.2.1 hd  (kk ok H locs ls hP hS hl)
theorem wp_ixor {x y : Int32} (hd : decode μ.2.1 pc = .ok (.ixor, 1))  (kk : Wp E K μ d f (pc + 1) L (.int (x ^^^ y) :: st) nx M k n Z) : Wp E K μ d f pc L (.int y :: .int x :: st) nx M k n Z :=
  fun ok H locs ls hP hS hl => lv_ixor ok.1 ok.2.1 hd  (kk ok H locs ls hP hS hl)
theorem wp_idiv {x y : Int32} (hd : decode μ.2.1 pc = .ok (.idiv, 1)) (hne : ¬ y = 0) (kk : Wp E K μ d f (pc + 1) L (.int (x / y) :: st) nx M k n Z) : Wp E K μ d f pc L (.int y :: .int x :: st) nx M k n Z :=
  fun ok H locs ls hP hS hl => lv_idiv ok.1 ok.2.1 hd hne (kk ok H locs ls hP hS hl)
theorem wp_irem {x y : Int32} (hd : decode μ.2.1 pc = .ok (.irem, 1)) (hne : ¬ y = 0) (kk : Wp E K μ d f (pc + 1) L (.int (x - x / y * y) :: st) nx M k n Z) : Wp E K μ d f pc L (.int y :: .int x :: st) nx M k n Z :=
  fun ok H locs ls hP hS hl => lv_irem ok.1 ok.2.1 hd hne (kk ok H locs ls hP hS hl)
theorem wp_ishl {x y : Int32} (hd : decode μ.2.1 pc = .ok (.ishl, 1))  (kk : Wp E K μ d f (pc + 1) L (.int (x <<< (y &&& 31)) :: st) nx M k n Z) : Wp E K μ d f pc L (.int y :: .int x :: st) nx M k n Z :=
  fun ok H locs ls hP hS hl => lv_ishl ok.1 ok.2.1 hd  (kk ok H locs ls hP hS hl)
theorem wp_ishr {x y : Int32} (hd : decode μ.2.1 pc = .ok (.ishr, 1))  (kk : Wp E K μ d f (pc + 1) L (.int (x >>> (y &&& 31)) :: st) nx M k n Z) : Wp E K μ d f pc L (.int y :: .int x :: st) nx M k n Z :=
  fun ok H locs ls hP hS hl => lv_ishr ok.1 ok.2.1 hd  (kk ok H locs ls hP hS hl)
theorem wp_iushr {x y : Int32} (hd : decode μ.2.1 pc = .ok (.iushr, 1))  (kk : Wp E K μ d f (pc + 1) L (.int (x.toUInt32 >>> (y.toUInt32 &&& Int32.toUInt32 31)).toInt32 :: st) nx M k n Z) : Wp E K μ d f pc L (.int y :: .int x :: st) nx M k n Z :=
  fun ok H locs ls hP hS hl => lv_iushr ok.1 ok.2.1 hd rfl (kk ok H locs ls hP hS hl)
theorem wp_ladd {x y : Int64} (hd : decode μ.2.1 pc = .ok (.ladd, 1))  (kk : Wp E K μ d f (pc + 1) L (.long (x + y) :: st) nx M k n Z) : Wp E K μ d f pc L (.long y :: .long x :: st) nx M k n Z :=
  fun ok H locs ls hP hS hl => lv_ladd ok.1 ok.2.1 hd  (kk ok H locs ls hP hS hl)
theorem wp_lmul {x y : Int64} (hd : decode μ.2.1 pc = .ok (.lmul, 1))  (kk : Wp E K μ d f (pc + 1) L (.long (x * y) :: st) nx M k n Z) : Wp E K μ d f pc L (.long y :: .long x :: st) nx M k n Z :=
  fun ok H locs ls hP hS hl => lv_lmul ok.1 ok.2.1 hd  (kk ok H locs ls hP hS hl)
theorem wp_land {x y : Int64} (hd : decode μ.2.1 pc = .ok (.land, 1))  (kk : Wp E K μ d f (pc + 1) L (.long (x &&& y) :: st) nx M k n Z) : Wp E K μ d f pc L (.long y :: .long x :: st) nx M k n Z :=
  fun ok H locs ls hP hS hl => lv_land ok.1 ok.2.1 hd  (kk ok H locs ls hP hS hl)
theorem wp_lor {x y : Int64} (hd : decode μ.2.1 pc = .ok (.lor, 1))  (kk : Wp E K μ d f (pc + 1) L (.long (x ||| y) :: st) nx M k n Z) : Wp E K μ d f pc L (.long y :: .long x :: st) nx M k n Z :=
  fun ok H locs ls hP hS hl => lv_lor ok.1 ok.2.1 hd  (kk ok H locs ls hP hS hl)
theorem wp_lrem {x y : Int64} (hd : decode μ.2.1 pc = .ok (.lrem, 1)) (hne : ¬ y = 0) (kk : Wp E K μ d f (pc + 1) L (.long (x - x / y * y) :: st) nx M k n Z) : Wp E K μ d f pc L (.long y :: .long x :: st) nx M k n Z :=
  fun ok H locs ls hP hS hl => lv_lrem ok.1 ok.2.1 hd hne (kk ok H locs ls hP hS hl)
theorem wp_lushr {x : Int64} {y : Int32} (hd : decode μ.2.1 pc = .ok (.lushr, 1))  (kk : Wp E K μ d f (pc + 1) L (.long (x.toUInt64 >>> (y.toInt64.toUInt64 &&& Int64.toUInt64 63)).toInt64 :: st) nx M k n Z) : Wp E K μ d f pc L (.int y :: .long x :: st) nx M k n Z :=
  fun ok H locs ls hP hS hl => lv_lushr ok.1 ok.2.1 hd rfl (kk ok H locs ls hP hS hl)
theorem wp_lshl {x : Int64} {y : Int32} (hd : decode μ.2.1 pc = .ok (.lshl, 1))  (kk : Wp E K μ d f (pc + 1) L (.long (x <<< (y.toInt64 &&& 63)) :: st) nx M k n Z) : Wp E K μ d f pc L (.int y :: .long x :: st) nx M k n Z :=
  fun ok H locs ls hP hS hl => lv_lshl ok.1 ok.2.1 hd rfl (kk ok H locs ls hP hS hl)
theorem wp_i2l {x : Int32} (hd : decode μ.2.1 pc = .ok (.i2l, 1))  (kk : Wp E K μ d f (pc + 1) L (.long x.toInt64 :: st) nx M k n Z) : Wp E K μ d f pc L (.int x :: st) nx M k n Z :=
  fun ok H locs ls hP hS hl => lv_i2l ok.1 ok.2.1 hd rfl (kk ok H locs ls hP hS hl)
theorem wp_l2i {x : Int64} (hd : decode μ.2.1 pc = .ok (.l2i, 1))  (kk : Wp E K μ d f (pc + 1) L (.int x.toInt32 :: st) nx M k n Z) : Wp E K μ d f pc L (.long x :: st) nx M k n Z :=
  fun ok H locs ls hP hS hl => lv_l2i ok.1 ok.2.1 hd rfl (kk ok H locs ls hP hS hl)
theorem wp_lcmp {x y : Int64} (hd : decode μ.2.1 pc = .ok (.lcmp, 1))  (kk : Wp E K μ d f (pc + 1) L (.int (lg_cmp x y) :: st) nx M k n Z) : Wp E K μ d f pc L (.long y :: .long x :: st) nx M k n Z :=
  fun ok H locs ls hP hS hl => W.lcmp ok.1 ok.2.1 hd  (kk ok H locs ls hP hS hl)
theorem wp_dup {v : Value} (hd : decode μ.2.1 pc = .ok (.dup, 1)) (hv : v.category = 1) (kk : Wp E K μ d f (pc + 1) L (v :: v :: st) nx M k n Z) : Wp E K μ d f pc L (v :: st) nx M k n Z :=
  fun ok H locs ls hP hS hl => lv_dup ok.1 ok.2.1 hd hv (kk ok H locs ls hP hS hl)
theorem wp_dup2 {v w : Value} (hd : decode μ.2.1 pc = .ok (.dup2, 1)) (hv : v.category = 1) (hw : w.category = 1) (kk : Wp E K μ d f (pc + 1) L (v :: w :: v :: w :: st) nx M k n Z) : Wp E K μ d f pc L (v :: w :: st) nx M k n Z :=
  fun ok H locs ls hP hS hl => lv_dup2_11 ok.1 ok.2.1 hd hv hw (kk ok H locs ls hP hS hl)
theorem wp_pop {v : Value} (hd : decode μ.2.1 pc = .ok (.pop, 1)) (hv : v.category = 1) (kk : Wp E K μ d f (pc + 1) L st nx M k n Z) : Wp E K μ d f pc L (v :: st) nx M k n Z :=
  fun ok H locs ls hP hS hl => lv_pop ok.1 ok.2.1 hd hv (kk ok H locs ls hP hS hl)
theorem wp_if_eq {x : Int32} {off : Int} (tgt : Nat) (hd : decode μ.2.1 pc = .ok (.ifCond .eq off, 3)) (ht : (pc : Int) + off = (tgt : Int)) (kt : x = 0 → Wp E K μ d f tgt L st nx M k n Z) (kf : ¬ x = 0 → Wp E K μ d f (pc + 3) L st nx M k n Z) : Wp E K μ d f pc L (.int x :: st) nx M k n Z :=
  fun ok H locs ls hP hS hl => lv_if_eq ok.1 ok.2.1 hd ht (fun q => kt q ok H locs ls hP hS hl) (fun q => kf q ok H locs ls hP hS hl)
theorem wp_icmp_eq {x y : Int32} {off : Int} (tgt : Nat) (hd : decode μ.2.1 pc = .ok (.if_icmp .eq off, 3)) (ht : (pc : Int) + off = (tgt : Int)) (kt : x = y → Wp E K μ d f tgt L st nx M k n Z) (kf : ¬ x = y → Wp E K μ d f (pc + 3) L st nx M k n Z) : Wp E K μ d f pc L (.int y :: .int x :: st) nx M k n Z :=
  fun ok H locs ls hP hS hl => lv_icmp_eq ok.1 ok.2.1 hd ht (fun q => kt q ok H locs ls hP hS hl) (fun q => kf q ok H locs ls hP hS hl)
theorem wp_if_ne {x : Int32} {off : Int} (tgt : Nat) (hd : decode μ.2.1 pc = .ok (.ifCond .ne off, 3)) (ht : (pc : Int) + off = (tgt : Int)) (kt : ¬ x = 0 → Wp E K μ d f tgt L st nx M k n Z) (kf : x = 0 → Wp E K μ d f (pc + 3) L st nx M k n Z) : Wp E K μ d f pc L (.int x :: st) nx M k n Z :=
  fun ok H locs ls hP hS hl => lv_if_ne ok.1 ok.2.1 hd ht (fun q => kt q ok H locs ls hP hS hl) (fun q => kf q ok H locs ls hP hS hl)
theorem wp_icmp_ne {x y : Int32} {off : Int} (tgt : Nat) (hd : decode μ.2.1 pc = .ok (.if_icmp .ne off, 3)) (ht : (pc : Int) + off = (tgt : Int)) (kt : ¬ x = y → Wp E K μ d f tgt L st nx M k n Z) (kf : x = y → Wp E K μ d f (pc + 3) L st nx M k n Z) : Wp E K μ d f pc L (.int y :: .int x :: st) nx M k n Z :=
  fun ok H locs ls hP hS hl => lv_icmp_ne ok.1 ok.2.1 hd ht (fun q => kt q ok H locs ls hP hS hl) (fun q => kf q ok H locs ls hP hS hl)
theorem wp_if_lt {x : Int32} {off : Int} (tgt : Nat) (hd : decode μ.2.1 pc = .ok (.ifCond .lt off, 3)) (ht : (pc : Int) + off = (tgt : Int)) (kt : x < 0 → Wp E K μ d f tgt L st nx M k n Z) (kf : ¬ x < 0 → Wp E K μ d f (pc + 3) L st nx M k n Z) : Wp E K μ d f pc L (.int x :: st) nx M k n Z :=
  fun ok H locs ls hP hS hl => lv_if_lt ok.1 ok.2.1 hd ht (fun q => kt q ok H locs ls hP hS hl) (fun q => kf q ok H locs ls hP hS hl)
theorem wp_icmp_lt {x y : Int32} {off : Int} (tgt : Nat) (hd : decode μ.2.1 pc = .ok (.if_icmp .lt off, 3)) (ht : (pc : Int) + off = (tgt : Int)) (kt : x < y → Wp E K μ d f tgt L st nx M k n Z) (kf : ¬ x < y → Wp E K μ d f (pc + 3) L st nx M k n Z) : Wp E K μ d f pc L (.int y :: .int x :: st) nx M k n Z :=
  fun ok H locs ls hP hS hl => lv_icmp_lt ok.1 ok.2.1 hd ht (fun q => kt q ok H locs ls hP hS hl) (fun q => kf q ok H locs ls hP hS hl)
theorem wp_if_ge {x : Int32} {off : Int} (tgt : Nat) (hd : decode μ.2.1 pc = .ok (.ifCond .ge off, 3)) (ht : (pc : Int) + off = (tgt : Int)) (kt : 0 ≤ x → Wp E K μ d f tgt L st nx M k n Z) (kf : ¬ 0 ≤ x → Wp E K μ d f (pc + 3) L st nx M k n Z) : Wp E K μ d f pc L (.int x :: st) nx M k n Z :=
  fun ok H locs ls hP hS hl => lv_if_ge ok.1 ok.2.1 hd ht (fun q => kt q ok H locs ls hP hS hl) (fun q => kf q ok H locs ls hP hS hl)
theorem wp_icmp_ge {x y : Int32} {off : Int} (tgt : Nat) (hd : decode μ.2.1 pc = .ok (.if_icmp .ge off, 3)) (ht : (pc : Int) + off = (tgt : Int)) (kt : y ≤ x → Wp E K μ d f tgt L st nx M k n Z) (kf : ¬ y ≤ x → Wp E K μ d f (pc + 3) L st nx M k n Z) : Wp E K μ d f pc L (.int y :: .int x :: st) nx M k n Z :=
  fun ok H locs ls hP hS hl => lv_icmp_ge ok.1 ok.2.1 hd ht (fun q => kt q ok H locs ls hP hS hl) (fun q => kf q ok H locs ls hP hS hl)
theorem wp_if_gt {x : Int32} {off : Int} (tgt : Nat) (hd : decode μ.2.1 pc = .ok (.ifCond .gt off, 3)) (ht : (pc : Int) + off = (tgt : Int)) (kt : 0 < x → Wp E K μ d f tgt L st nx M k n Z) (kf : ¬ 0 < x → Wp E K μ d f (pc + 3) L st nx M k n Z) : Wp E K μ d f pc L (.int x :: st) nx M k n Z :=
  fun ok H locs ls hP hS hl => lv_if_gt ok.1 ok.2.1 hd ht (fun q => kt q ok H locs ls hP hS hl) (fun q => kf q ok H locs ls hP hS hl)
theorem wp_icmp_gt {x y : Int32} {off : Int} (tgt : Nat) (hd : decode μ.2.1 pc = .ok (.if_icmp .gt off, 3)) (ht : (pc : Int) + off = (tgt : Int)) (kt : y < x → Wp E K μ d f tgt L st nx M k n Z) (kf : ¬ y < x → Wp E K μ d f (pc + 3) L st nx M k n Z) : Wp E K μ d f pc L (.int y :: .int x :: st) nx M k n Z :=
  fun ok H locs ls hP hS hl => lv_icmp_gt ok.1 ok.2.1 hd ht (fun q => kt q ok H locs ls hP hS hl) (fun q => kf q ok H locs ls hP hS hl)
theorem wp_if_le {x : Int32} {off : Int} (tgt : Nat) (hd : decode μ.2.1 pc = .ok (.ifCond .le off, 3)) (ht : (pc : Int) + off = (tgt : Int)) (kt : x ≤ 0 → Wp E K μ d f tgt L st nx M k n Z) (kf : ¬ x ≤ 0 → Wp E K μ d f (pc + 3) L st nx M k n Z) : Wp E K μ d f pc L (.int x :: st) nx M k n Z :=
  fun ok H locs ls hP hS hl => lv_if_le ok.1 ok.2.1 hd ht (fun q => kt q ok H locs ls hP hS hl) (fun q => kf q ok H locs ls hP hS hl)
theorem wp_icmp_le {x y : Int32} {off : Int} (tgt : Nat) (hd : decode μ.2.1 pc = .ok (.if_icmp .le off, 3)) (ht : (pc : Int) + off = (tgt : Int)) (kt : x ≤ y → Wp E K μ d f tgt L st nx M k n Z) (kf : ¬ x ≤ y → Wp E K μ d f (pc + 3) L st nx M k n Z) : Wp E K μ d f pc L (.int y :: .int x :: st) nx M k n Z :=
  fun ok H locs ls hP hS hl => lv_icmp_le ok.1 ok.2.1 hd ht (fun q => kt q ok H locs ls hP hS hl) (fun q => kf q ok H locs ls hP hS hl)
theorem wp_goto {off : Int} (tgt : Nat) (hd : decode μ.2.1 pc = .ok (.goto off, 3)) (ht : (pc : Int) + off = (tgt : Int)) (kk : Wp E K μ d f tgt L st nx M k n Z) : Wp E K μ d f pc L st nx M k n Z :=
  fun ok H locs ls hP hS hl => lv_goto ok.1 ok.2.1 hd ht (kk ok H locs ls hP hS hl)
theorem wp_tabOut {dflt lo hi : Int} {offs : Array Int} {len : Nat} {x : Int32} (tgt : Nat) (hd : decode μ.2.1 pc = .ok (.tableswitch dflt lo hi offs, len)) (h : x.toInt < lo ∨ hi < x.toInt) (ht : (pc : Int) + dflt = (tgt : Int)) (kk : Wp E K μ d f tgt L st nx M k n Z) : Wp E K μ d f pc L (.int x :: st) nx M k n Z :=
  fun ok H locs ls hP hS hl => lv_tableOut ok.1 ok.2.1 hd h ht (kk ok H locs ls hP hS hl)
theorem wp_tabIn {dflt lo hi : Int} {offs : Array Int} {len : Nat} {x : Int32} {off : Int} (tgt : Nat) (hd : decode μ.2.1 pc = .ok (.tableswitch dflt lo hi offs, len)) (h1 : ¬ x.toInt < lo) (h2 : ¬ hi < x.toInt) (ho : offs[(x.toInt - lo).toNat]? = some off) (ht : (pc : Int) + off = (tgt : Int)) (kk : Wp E K μ d f tgt L st nx M k n Z) : Wp E K μ d f pc L (.int x :: st) nx M k n Z :=
  fun ok H locs ls hP hS hl => lv_tableIn ok.1 ok.2.1 hd h1 h2 ho ht (kk ok H locs ls hP hS hl)
theorem wp_lookup {dflt : Int} {ps : Array (Int × Int)} {len : Nat} {x : Int32} {off : Int} (tgt : Nat) (hd : decode μ.2.1 pc = .ok (.lookupswitch dflt ps, len)) (hp : (ps.toList.zip (ps.toList.drop 1)).all (fun (a, next) => a.1 < next.1) = true) (ho : Op.lookupswitch.offset ps.toList dflt x.toInt = off) (ht : (pc : Int) + off = (tgt : Int)) (kk : Wp E K μ d f tgt L st nx M k n Z) : Wp E K μ d f pc L (.int x :: st) nx M k n Z :=
  fun ok H locs ls hP hS hl => lv_lookup ok.1 ok.2.1 hd hp ho ht (kk ok H locs ls hP hS hl)
theorem wp_ldc2 {i : Nat} {x : Int64} (hd : decode μ.2.1 pc = .ok (.ldc2_w i, 3)) (hw : Cond.constantLong μ.1.cls i x ∈ gw) (kk : Wp E K μ d f (pc + 3) L (.long x :: st) nx M k n Z) : Wp E K μ d f pc L st nx M k n Z :=
  fun ok H locs ls hP hS hl => lv_ldc2 ok.1 ok.2.1 ok.2.2.2.1 (ok.2.2.2.2.1 _ hw) hd (kk ok H locs ls hP hS hl)
theorem wp_ldc {i : Nat} {x : Int32} (hd : decode μ.2.1 pc = .ok (.ldc i, 2)) (hw : Cond.constant μ.1.cls i x ∈ gw) (kk : Wp E K μ d f (pc + 2) L (.int x :: st) nx M k n Z) : Wp E K μ d f pc L st nx M k n Z :=
  fun ok H locs ls hP hS hl => lv_ldc ok.1 ok.2.1 ok.2.2.2.1 (ok.2.2.2.2.1 _ hw) hd (kk ok H locs ls hP hS hl)
theorem wp_ldcw {i : Nat} {x : Int32} (hd : decode μ.2.1 pc = .ok (.ldc_w i, 3)) (hw : Cond.constant μ.1.cls i x ∈ gw) (kk : Wp E K μ d f (pc + 3) L (.int x :: st) nx M k n Z) : Wp E K μ d f pc L st nx M k n Z :=
  fun ok H locs ls hP hS hl => lv_ldcw ok.1 ok.2.1 ok.2.2.2.1 (ok.2.2.2.2.1 _ hw) hd (kk ok H locs ls hP hS hl)
theorem wp_iret {x : Int32} {Q : Option Value → Mm → Prop} (hd : decode μ.2.1 pc = .ok (.ireturn, 1)) (hr : μ.2.2.2 = some .int) (hq : Q (some (.int x)) M) : Wp E K μ d f pc L [.int x] nx M k n (zM E K nx k n Q) := by
  intro ok H locs ls hP hS hl
  refine W.iret ok.1 ok.2.1 (ok.2.2.2.2.2.1.trans hr) ?_ ?_ hd (hlocks := ok.2.2.2.2.2.2.1)
  · intro t ht hW
    exact ⟨⟨_, M, rfl, hq, by rw [ht]; exact hP, ok.2.2.2.2.2.2.2.1.warm hW⟩, hS.F ht⟩
  · exact hS.2.2
theorem wp_zret {x : Int32} {Q : Option Value → Mm → Prop} (hd : decode μ.2.1 pc = .ok (.ireturn, 1)) (hr : μ.2.2.2 = some .boolean) (hn : narrow .boolean (.int x) = .int x) (hq : Q (some (.int x)) M) : Wp E K μ d f pc L [.int x] nx M k n (zM E K nx k n Q) := by
  intro ok H locs ls hP hS hl
  refine W.zret ok.1 ok.2.1 (ok.2.2.2.2.2.1.trans hr) hn ?_ ?_ hd (hlocks := ok.2.2.2.2.2.2.1)
  · intro t ht hW
    exact ⟨⟨_, M, rfl, hq, by rw [ht]; exact hP, ok.2.2.2.2.2.2.2.1.warm hW⟩, hS.F ht⟩
  · exact hS.2.2
theorem wp_lret {x : Int64} {Q : Option Value → Mm → Prop} (hd : decode μ.2.1 pc = .ok (.lreturn, 1)) (hr : μ.2.2.2 = some .long) (hq : Q (some (.long x)) M) : Wp E K μ d f pc L [.long x] nx M k n (zM E K nx k n Q) := by
  intro ok H locs ls hP hS hl
  refine W.lret ok.1 ok.2.1 (ok.2.2.2.2.2.1.trans hr) ?_ ?_ hd (hlocks := ok.2.2.2.2.2.2.1)
  · intro t ht hW
    exact ⟨⟨_, M, rfl, hq, by rw [ht]; exact hP, ok.2.2.2.2.2.2.2.1.warm hW⟩, hS.F ht⟩
  · exact hS.2.2
theorem wp_vret {Q : Option Value → Mm → Prop} (hd : decode μ.2.1 pc = .ok (.return_, 1)) (hr : μ.2.2.2 = none) (hq : Q none M) : Wp E K μ d f pc L [] nx M k n (zM E K nx k n Q) := by
  intro ok H locs ls hP hS hl
  refine W.vret ok.1 ok.2.1 (ok.2.2.2.2.2.1.trans hr) ?_ ?_ hd (hlocks := ok.2.2.2.2.2.2.1)
  · intro t ht hW
    exact ⟨⟨_, M, rfl, hq, by rw [ht]; exact hP, ok.2.2.2.2.2.2.2.1.warm hW⟩, hS.F ht⟩
  · exact hS.2.2
end RULES
end
section
/-! the classes' words, types, names, by the class's number -/
def cl_t (ci : Nat) : Nat → FieldType := match ci with
  | 0 => tyX0
  | 1 => tyX1
  | 2 => tyX2
  | 3 => tyX3
  | 4 => tyX5
  | 5 => tyX6
  | 6 => tyX7
  | 7 => tyX8
  | _ => tyX9
theorem cl_lt {ci : Nat} {q : vw_C} (h : vwCl[ci]? = some q) : ci < 9 := (List.getElem?_eq_some_iff.mp h).1
theorem cl_w0 : ∀ q ∈ vwCl, ∀ w ∈ u_ws q.1 q.2.1 q.2.2, w ∈ lw_tbl ∧ goodWord w = true := by decide +kernel
theorem cl_ws {ci : Nat} {C : String} {T : u_T} {N : Nat} (h : vwCl[ci]? = some (C, T, N)) : ∀ w ∈ u_ws C T N, w ∈ gw := fun w hw => by
  have := cl_w0 _ (List.mem_of_getElem? h) w hw
  exact gw_of this.1 this.2
theorem cl_tok {ci : Nat} {C : String} {T : u_T} {N : Nat} (h : vwCl[ci]? = some (C, T, N)) : ∀ k, k < N → parseFieldDescriptor (T k).2.2.1 = some (cl_t ci k) := by
  match ci, h with
  | 0, h => cases h; exact tyX0_ok
  | 1, h => cases h; exact tyX1_ok
  | 2, h => cases h; exact tyX2_ok
  | 3, h => cases h; exact tyX3_ok
  | 4, h => cases h; exact tyX5_ok
  | 5, h => cases h; exact tyX6_ok
  | 6, h => cases h; exact tyX7_ok
  | 7, h => cases h; exact tyX8_ok
  | 8, h => cases h; exact tyX9_ok
  | n + 9, h => exact absurd (cl_lt h) (by omega)
theorem cl_nm {ci : Nat} {C : String} {T : u_T} {N : Nat} (h : vwCl[ci]? = some (C, T, N)) : ∀ a, a < N → ∀ b, b < N → a ≠ b → (T a).2.1 ≠ (T b).2.1 := by
  match ci, h with
  | 0, h => cases h; exact nmX0
  | 1, h => cases h; exact nmX1
  | 2, h => cases h; exact nmX2
  | 3, h => cases h; exact nmX3
  | 4, h => cases h; exact nmX5
  | 5, h => cases h; exact nmX6
  | 6, h => cases h; exact nmX7
  | 7, h => cases h; exact nmX8
  | 8, h => cases h; exact nmX9
  | n + 9, h => exact absurd (cl_lt h) (by omega)
theorem cl_len {ci : Nat} {C : String} {T : u_T} {N : Nat} (h : vwCl[ci]? = some (C, T, N)) : (tcs ci).length = N := by
  match ci, h with
  | 0, h => cases h; rfl
  | 1, h => cases h; rfl
  | 2, h => cases h; rfl
  | 3, h => cases h; rfl
  | 4, h => cases h; rfl
  | 5, h => cases h; rfl
  | 6, h => cases h; rfl
  | 7, h => cases h; rfl
  | 8, h => cases h; rfl
  | n + 9, h => exact absurd (cl_lt h) (by omega)
def isRefT : FieldType → Bool
  | .object _ => true
  | .array _ => true
  | _ => false
theorem cl_ty0 : ∀ ci, ci < 9 → ∀ k, k < 31 → ((tcs ci)[k]? = some 0 → cl_t ci k = .int) ∧ ((tcs ci)[k]? = some 1 → cl_t ci k = .long) ∧ ((tcs ci)[k]? = some 2 → isRefT (cl_t ci k) = true) ∧ ∀ t, (tcs ci)[k]? = some t → t = 0 ∨ t = 1 ∨ t = 2 := by
  intro ci hci k hk
  have h : ∀ ci, ci < 9 → ∀ k, k < 31 → ((tcs ci)[k]? = some 0 → cl_t ci k = .int) ∧ ((tcs ci)[k]? = some 1 → cl_t ci k = .long) ∧ ((tcs ci)[k]? = some 2 → isRefT (cl_t ci k) = true) ∧ ((tcs ci)[k]? = none ∨ (tcs ci)[k]? = some 0 ∨ (tcs ci)[k]? = some 1 ∨ (tcs ci)[k]? = some 2) := by decide +kernel
  obtain ⟨h1, h2, h3, h4⟩ := h ci hci k hk
  refine ⟨h1, h2, h3, fun t ht => ?_⟩
  rw [ht] at h4
  rcases h4 with q | q | q | q
  · cases q
  · exact Or.inl (Option.some.inj q)
  · exact Or.inr (Or.inl (Option.some.inj q))
  · exact Or.inr (Or.inr (Option.some.inj q))
theorem cl_n31 {ci : Nat} {C : String} {T : u_T} {N : Nat} (h : vwCl[ci]? = some (C, T, N)) : N ≤ 31 := by
  match ci, h with
  | 0, h => cases h; decide
  | 1, h => cases h; decide
  | 2, h => cases h; decide
  | 3, h => cases h; decide
  | 4, h => cases h; decide
  | 5, h => cases h; decide
  | 6, h => cases h; decide
  | 7, h => cases h; decide
  | 8, h => cases h; decide
  | n + 9, h => exact absurd (cl_lt h) (by omega)
/-- the field at an entry of a class file's pool: kind, place, type, final or not -/
def FL (own : String) (idx ci k t : Nat) (fin : Bool) : Prop := ∃ (C : String) (T : u_T) (N : Nat), vwCl[ci]? = some (C, T, N) ∧ k < N ∧ (T k).2.2.2 = fin ∧ Cond.fieldLink own idx (T k).1 (T k).2.1 (T k).2.2.1 ∈ gw ∧ (tcs ci)[k]? = some t ∧ (fin = true → (T k).1 = own)
theorem ce_obj {K : CtxT} {M : Mm} {a ci : Nat} (h : lk a = (ci, 0)) (hc : ci < 9) : ce K M a = .inr (ci, fvs K.1 M a 0 (tcs ci)) := by
  unfold ce
  rw [h, if_pos hc]
theorem ce_int {K : CtxT} {M : Mm} {a n : Nat} (h : lk a = (9, n)) : ce K M a = .inl (K.2.2 9, n, .inl (M.1 a)) := by
  unfold ce
  rw [h, if_neg (show ¬ (9 : Nat) < 9 by decide), if_pos (show (9 : Nat) < 11 by decide)]
theorem ce_boo {K : CtxT} {M : Mm} {a n : Nat} (h : lk a = (10, n)) : ce K M a = .inl (K.2.2 10, n, .inl (M.1 a)) := by
  unfold ce
  rw [h, if_neg (show ¬ (10 : Nat) < 9 by decide), if_pos (show (10 : Nat) < 11 by decide)]
theorem ce_ref {K : CtxT} {M : Mm} {a kd n : Nat} (h : lk a = (kd, n)) (hk : 11 ≤ kd) : ce K M a = .inl (K.2.2 kd, n, .inr (.inr (.inr (.inr (fun j => (M.2.2 a j).map (fun x => K.1 + x)))))) := by
  unfold ce
  rw [h, if_neg (by show ¬ kd < 9; omega), if_neg (by show ¬ kd < 11; omega)]
theorem Pw.at {K : CtxT} {nx : Nat} {M : Mm} {H : Heap} (hP : Pw K nx M H) {a : Nat} (ha : a < nx) {e : va_E} (he : ce K M a = e) : va_at K.2.1 vwCl (K.1 + a, e) H := by
  subst he
  exact hP.1 a _ (wo_get ha)
/-- one cell changed, the others as they were -/
theorem Pw.store {K : CtxT} {nx : Nat} {M M' : Mm} {H H1 : Heap} {a : Nat} {e : va_E} (hP : Pw K nx M H) (he : va_at K.2.1 vwCl (K.1 + a, e) H1) (hM : ce K M' a = e) (z : H1.size = H.size) (oq : ∀ q : Nat, q ≠ K.1 + a → H1[q]? = H[q]?) (ho : ∀ b, b ≠ a → ce K M' b = ce K M b) : Pw K nx M' H1 := by
  refine ⟨fun i q hi => ?_, by rw [z]; exact hP.2⟩
  obtain ⟨hn, rfl⟩ := wo_some hi
  by_cases h : i = a
  · subst h
    rw [hM]
    exact he
  · rw [ho i h]
    exact (hP.1 i _ (wo_get hn)).kept (oq _ (by show K.1 + i ≠ K.1 + a; omega))
theorem upd_wI (M : Mm) (a k : Nat) (x : Int32) : (wI M a k x).1 a = upd (M.1 a) k x := by
  funext j
  simp [wI, upd]
theorem wI_ne {K : CtxT} {M : Mm} {a k b : Nat} {x : Int32} (h : b ≠ a) : ce K (wI M a k x) b = ce K M b := ce_congr (fun j => by simp [wI, h]) (fun j => rfl) (fun j => rfl)
theorem wJ_ne {K : CtxT} {M : Mm} {a k b : Nat} {x : Int64} (h : b ≠ a) : ce K (wJ M a k x) b = ce K M b := ce_congr (fun j => rfl) (fun j => by simp [wJ, h]) (fun j => rfl)
theorem wR_ne {K : CtxT} {M : Mm} {a k b : Nat} {x : Option Nat} (h : b ≠ a) : ce K (wR M a k x) b = ce K M b := ce_congr (fun j => rfl) (fun j => rfl) (fun j => by simp [wR, h])
theorem wC_ne {K : CtxT} {M : Mm} {a0 sp a dp n b : Nat} (h : b ≠ a) : ce K (wC M a0 sp a dp n) b = ce K M b := ce_congr (fun j => by simp [wC, h]) (fun j => rfl) (fun j => rfl)
section HEAP
variable {E : EnvT} {K : CtxT} {μ : MI} {d : Nat} {f : Nat × Nat} {pc : Nat} {L : List (Option Value)} {st : List Value} {nx : Nat} {M : Mm} {k n : Nat} {Z : State → Prop}
theorem Ok.A {E : EnvT} {K : CtxT} {μ : MI} {d : Nat} {f : Nat × Nat} (ok : Ok E K μ d f) : ∀ q : Nat, (es E).heap.size ≤ q → K.1 ≤ q := fun q h => Nat.le_trans ok.2.2.2.2.2.2.2.2.2.2.2.2.2 h
theorem wp_getf {a idx ci kf t : Nat} {fin : Bool} (hd : decode μ.2.1 pc = .ok (.getfield idx, 3)) (hf : FL μ.1.cls idx ci kf t fin) (ha : lk a = (ci, 0)) (hn : a < nx) (kk : Wp E K μ d f (pc + 3) L (fv K.1 M a kf t :: st) nx M k n Z) : Wp E K μ d f pc L (.ref (K.1 + a) :: st) nx M k n Z := by
  intro ok H locs ls hP hS hl
  obtain ⟨C, T, N, h1, h2, -, h3, h5, -⟩ := hf
  refine va_get (C := C) (T := T) (N := N) (ci := ci) ok.1 ok.2.1 ok.2.2.2.2.1 (cl_ws h1) ok.2.2.2.1 ok.2.2.2.2.2.2.2.1.1 hP.1 a ((wo_get hn).trans (congrArg (fun e => some (K.1 + a, e)) (ce_obj ha (cl_lt h1)))) h1 kf h2 (ok.2.2.2.2.1 _ h3) (fun x hx => hx) (v := fv K.1 M a kf t) ?_ hd (kk ok H locs ls hP hS hl)
  rw [fvs_get, h5, Nat.zero_add]
  rfl
/-- a store into a field, of any type: M' is M but for that place -/
theorem wp_putAny {a idx ci kf t : Nat} {fin : Bool} {v : Value} {M' : Mm} (hd : decode μ.2.1 pc = .ok (.putfield idx, 3)) (hf : FL μ.1.cls idx ci kf t fin) (hfin : fin = true → μ.1.name = "<init>") (ha : lk a = (ci, 0)) (hn : a < nx) (hty : ∀ ty : FieldType, ty = cl_t ci kf → narrow ty v = v ∧ fits ty v = true)
    (hs : (fvs K.1 M a 0 (tcs ci)).set kf v = fvs K.1 M' a 0 (tcs ci)) (ho : ∀ b, b ≠ a → ce K M' b = ce K M b) (kk : Wp E K μ d f (pc + 3) L st nx M' k n Z) : Wp E K μ d f pc L (v :: .ref (K.1 + a) :: st) nx M k n Z := by
  intro ok H locs ls hP hS hl
  obtain ⟨C, T, N, h1, h2, h6, h3, h5, h7⟩ := hf
  have hts := ok.2.2.2.2.1
  have hKx := ok.2.2.2.2.2.2.2.1.1
  obtain ⟨nv, fv'⟩ := hty _ rfl
  have hap := va_apart (own := μ.1.cls) hts (cl_ws h1) (cl_t ci) (cl_tok h1) (cl_nm h1) hKx h1
  obtain ⟨r, g1, cell, q1, q2, q3, q4⟩ := hP.at hn (ce_obj ha (cl_lt h1))
  have hr : r = (C, T, N) := Option.some.inj (g1.symm.trans h1)
  subst hr
  obtain ⟨hSl, hfc, kC, hkC, hkind⟩ := hKx.1 ci _ h1
  obtain ⟨cf, kf', fi, fd, hi, hsl⟩ := hSl kf h2
  have hlay := hts _ (cl_ws h1 _ (u_in_lay h2))
  have hst := (u_facts hfc hkC (u_lays hts (cl_ws h1) h2) hi).1
  have hl5 : kf < (fvs K.1 M a 0 (tcs ci)).length := by rw [fvs_len]; exact (List.getElem?_eq_some_iff.mp h5).1
  have fin' : ∀ H' : Heap, H'[K.1 + a]? = some (cell.setSlot fd.slot v) → H'.size = H.size → (∀ q : Nat, q ≠ K.1 + a → H'[q]? = H[q]?) → Pw K nx M' H' ∧ va_S (fun q : Nat => K.1 ≤ q) (es E).heap H' (locs ++ [⟨K.1 + a, fd.slot⟩]) := by
    intro H' e1 e2 e3
    rw [hsl] at e1
    refine ⟨hP.store (e := .inr (ci, (fvs K.1 M a 0 (tcs ci)).set kf v)) ⟨_, h1, t_OB.to (V := updV (vp_V (fvs K.1 M a 0 (tcs ci))) kf v) ⟨_, e1, q2, q3, t_set q4 hap h2 v⟩ (fun j _ => vp_updV_set hl5 v j)⟩ ?_ e2 e3 ho, hS.put e2 e3 (Nat.le_add_right _ _)⟩
    rw [ce_obj ha (cl_lt h1), hs]
  cases fin with
  | false =>
    unfold u_lay at hlay
    rw [if_neg (by rw [h6]; decide)] at hlay
    have hh := u_store hfc hkC hkind hlay hi (cl_tok h1 kf h2) nv fv'
    exact W.putK ok.1 ok.2.1 (f := fd) ⟨ok.2.2.2.1, hts _ h3, ⟨_, _, _, hi⟩, hst⟩ (by rw [q2]; exact hh) q1 q3 (by rw [hsl]; exact k2_hasslot (q4 kf h2)) rfl rfl hd fun H' e1 e2 e3 => kk ok H' _ ls (fin' H' e1 e2 e3).1 (fin' H' e1 e2 e3).2 hl
  | true =>
    unfold u_lay at hlay
    rw [if_pos h6] at hlay
    have hcf : (em E).cls = cf := by
      obtain ⟨_, _, c', _, _, _, -, -, hf', -, -, -, hown2, -⟩ := Cond.laysFinal_spec hlay
      have e1 : c' = cf := by have := hi.symm.trans hf'; simp at this; exact this.1.symm
      rw [h7 rfl] at hown2
      rw [← e1]; exact Option.some.inj (ok.2.2.2.1.symm.trans hown2)
    have hh := u_fits hfc hkC hkind (Or.inr hlay) hi (cl_tok h1 kf h2) nv fv'
    exact W.putFinK ok.1 ok.2.1 ok.2.2.2.1 (hts _ h3) hi hst hcf (ok.2.2.2.2.2.2.2.2.1.trans (hfin rfl)) (by rw [q2]; exact hh) q1 q3 (by rw [hsl]; exact k2_hasslot (q4 kf h2)) rfl rfl hd fun H' e1 e2 e3 => kk ok H' _ ls (fin' H' e1 e2 e3).1 (fin' H' e1 e2 e3).2 hl
theorem FL.lt {own : String} {idx ci kf t : Nat} {fin : Bool} (hf : FL own idx ci kf t fin) : ci < 9 ∧ kf < 31 ∧ (tcs ci)[kf]? = some t := by
  obtain ⟨C, T, N, h1, h2, -, -, h5, -⟩ := hf
  exact ⟨cl_lt h1, Nat.lt_of_lt_of_le h2 (cl_n31 h1), h5⟩
theorem wp_putI {a idx ci kf : Nat} {fin : Bool} {x : Int32} (hd : decode μ.2.1 pc = .ok (.putfield idx, 3)) (hf : FL μ.1.cls idx ci kf 0 fin) (hfin : fin = true → μ.1.name = "<init>") (ha : lk a = (ci, 0)) (hn : a < nx) (kk : Wp E K μ d f (pc + 3) L st nx (wI M a kf x) k n Z) : Wp E K μ d f pc L (.int x :: .ref (K.1 + a) :: st) nx M k n Z := by
  obtain ⟨l1, l2, l3⟩ := hf.lt
  refine wp_putAny hd hf hfin ha hn (fun ty e => ?_) (fvs_set _ _ _ _ _ _ _ _ (fun t i hi => ?_) (fun t ht => ?_)) (fun b hb => wI_ne hb) kk
  · rw [e, (cl_ty0 ci l1 kf l2).1 l3]
    exact ⟨rfl, rfl⟩
  · simp [fv, wI, hi]
  · rw [l3] at ht
    cases ht
    simp [fv, wI]
theorem wp_putJ {a idx ci kf : Nat} {fin : Bool} {x : Int64} (hd : decode μ.2.1 pc = .ok (.putfield idx, 3)) (hf : FL μ.1.cls idx ci kf 1 fin) (hfin : fin = true → μ.1.name = "<init>") (ha : lk a = (ci, 0)) (hn : a < nx) (kk : Wp E K μ d f (pc + 3) L st nx (wJ M a kf x) k n Z) : Wp E K μ d f pc L (.long x :: .ref (K.1 + a) :: st) nx M k n Z := by
  obtain ⟨l1, l2, l3⟩ := hf.lt
  refine wp_putAny hd hf hfin ha hn (fun ty e => ?_) (fvs_set _ _ _ _ _ _ _ _ (fun t i hi => ?_) (fun t ht => ?_)) (fun b hb => wJ_ne hb) kk
  · rw [e, (cl_ty0 ci l1 kf l2).2.1 l3]
    exact ⟨rfl, rfl⟩
  · simp [fv, wJ, hi]
  · rw [l3] at ht
    cases ht
    simp [fv, wJ]
theorem wp_putR {a idx ci kf b : Nat} {fin : Bool} (hd : decode μ.2.1 pc = .ok (.putfield idx, 3)) (hf : FL μ.1.cls idx ci kf 2 fin) (hfin : fin = true → μ.1.name = "<init>") (ha : lk a = (ci, 0)) (hn : a < nx) (kk : Wp E K μ d f (pc + 3) L st nx (wR M a kf (some b)) k n Z) : Wp E K μ d f pc L (.ref (K.1 + b) :: .ref (K.1 + a) :: st) nx M k n Z := by
  obtain ⟨l1, l2, l3⟩ := hf.lt
  refine wp_putAny hd hf hfin ha hn (fun ty e => ?_) (fvs_set _ _ _ _ _ _ _ _ (fun t i hi => ?_) (fun t ht => ?_)) (fun b hb => wR_ne hb) kk
  · have := (cl_ty0 ci l1 kf l2).2.2.1 l3
    rw [← e] at this
    cases ty <;> first | exact ⟨rfl, rfl⟩ | cases this
  · simp [fv, wR, hi]
  · rw [l3] at ht
    cases ht
    simp [fv, wR, va_rf]
abbrev tI : Nat := 0
theorem wp_iald {a N : Nat} {i : Int32} (hd : decode μ.2.1 pc = .ok (.iaload, 1)) (ha : lk a = (9, N)) (hn : a < nx) (hin : vp_in i N) (kk : Wp E K μ d f (pc + 1) L (.int (M.1 a i.toNatClampNeg) :: st) nx M k n Z) : Wp E K μ d f pc L (.int i :: .ref (K.1 + a) :: st) nx M k n Z := by
  intro ok H locs ls hP hS hl
  exact va_iald ok.1 ok.2.1 ok.2.2.2.2.2.2.2.1.1 hP.1 a 0 (cA := K.2.2 9) (n := N) (f := M.1 a) ((wo_get hn).trans (congrArg (fun e => some (K.1 + a, e)) (ce_int ha))) rfl hin hd (kk ok H locs ls hP hS hl)
theorem wp_bald {a N : Nat} {i : Int32} (hd : decode μ.2.1 pc = .ok (.baload, 1)) (ha : lk a = (10, N)) (hn : a < nx) (hin : vp_in i N) (kk : Wp E K μ d f (pc + 1) L (.int (M.1 a i.toNatClampNeg) :: st) nx M k n Z) : Wp E K μ d f pc L (.int i :: .ref (K.1 + a) :: st) nx M k n Z := by
  intro ok H locs ls hP hS hl
  exact va_zald ok.1 ok.2.1 ok.2.2.2.2.2.2.2.1.1 hP.1 a 1 (cA := K.2.2 10) (n := N) (f := M.1 a) ((wo_get hn).trans (congrArg (fun e => some (K.1 + a, e)) (ce_boo ha))) rfl hin hd (kk ok H locs ls hP hS hl)
theorem wp_aaldT {a N : Nat} {i : Int32} (hd : decode μ.2.1 pc = .ok (.aaload, 1)) (ha : lk a = (11, N)) (hn : a < nx) (hin : vp_in i N) (kk : Wp E K μ d f (pc + 1) L (va_rf ((M.2.2 a i.toNatClampNeg).map (fun x => K.1 + x)) :: st) nx M k n Z) : Wp E K μ d f pc L (.int i :: .ref (K.1 + a) :: st) nx M k n Z := by
  intro ok H locs ls hP hS hl
  exact va_aldq ok.1 ok.2.1 ok.2.2.2.2.2.2.2.1.1 hP.1 a 2 (cA := K.2.2 11) (C := "HoundLicence$Town") (n := N) (f := fun j => (M.2.2 a j).map (fun x => K.1 + x)) ((wo_get hn).trans (congrArg (fun e => some (K.1 + a, e)) (ce_ref ha (by decide)))) rfl hin hd (kk ok H locs ls hP hS hl)
theorem wp_aaldA {a N : Nat} {i : Int32} (hd : decode μ.2.1 pc = .ok (.aaload, 1)) (ha : lk a = (12, N)) (hn : a < nx) (hin : vp_in i N) (kk : Wp E K μ d f (pc + 1) L (va_rf ((M.2.2 a i.toNatClampNeg).map (fun x => K.1 + x)) :: st) nx M k n Z) : Wp E K μ d f pc L (.int i :: .ref (K.1 + a) :: st) nx M k n Z := by
  intro ok H locs ls hP hS hl
  have hA := (hP.at hn (ce_ref (K := K) (M := M) ha (by decide)))
  have hlt : i.toNatClampNeg < N := Nat.not_le.mp fun q => hin (Or.inr q)
  have hT := (ok.2.2.2.2.2.2.2.1.1.2 3 _ rfl).1 N (fun j => va_rf ((M.2.2 a j).map (fun x => K.1 + x)))
  exact W.aald (v := va_rf ((M.2.2 a i.toNatClampNeg).map (fun x => K.1 + x))) (ty := .array .int) ok.1 ok.2.1 hA hT rfl (fun q => by cases q) (by show ¬ (i < 0 ∨ (arrV _ _ _).slots.size ≤ _); rw [arrV_size]; exact hin) (by show (arrV _ _ _).slots[_]? = _; rw [arrV_read _ _ hlt]) rfl rfl hd (kk ok H locs ls hP hS hl)
theorem wp_alen {a N : Nat} (hd : decode μ.2.1 pc = .ok (.arraylength, 1)) (ha : lk a = (9, N)) (hn : a < nx) (kk : Wp E K μ d f (pc + 1) L (.int (Int32.ofNat N) :: st) nx M k n Z) : Wp E K μ d f pc L (.ref (K.1 + a) :: st) nx M k n Z := by
  intro ok H locs ls hP hS hl
  exact va_alen ok.1 ok.2.1 ok.2.2.2.2.2.2.2.1.1 hP.1 a 0 (cA := K.2.2 9) (x := (N, .inl (M.1 a))) ((wo_get hn).trans (congrArg (fun e => some (K.1 + a, e)) (ce_int ha))) rfl rfl hd (kk ok H locs ls hP hS hl)
theorem wp_iast {a N : Nat} {i x : Int32} (hd : decode μ.2.1 pc = .ok (.iastore, 1)) (ha : lk a = (9, N)) (hn : a < nx) (hin : vp_in i N) (kk : Wp E K μ d f (pc + 1) L st nx (wI M a i.toNatClampNeg x) k n Z) : Wp E K μ d f pc L (.int x :: .int i :: .ref (K.1 + a) :: st) nx M k n Z := by
  intro ok H locs ls hP hS hl
  have hA := (hP.at hn (ce_int (K := K) (M := M) ha))
  refine W.iast ok.1 ok.2.1 hA ((ok.2.2.2.2.2.2.2.1.1.2 0 _ rfl).1 N (fun j => .int (M.1 a j))) (fun q => by cases q) (by show ¬ (i < 0 ∨ (arrV _ _ _).slots.size ≤ _); rw [arrV_size]; exact hin) rfl rfl hd fun H1 e z oq => ?_
  refine kk ok H1 _ ls (hP.store (e := .inl (K.2.2 9, N, .inl (upd (M.1 a) i.toNatClampNeg x))) ?_ (by rw [ce_int ha, upd_wI]) z oq (fun b hb => wI_ne hb)) (hS.put z oq (Nat.le_add_right _ _)) hl
  show H1[K.1 + a]? = some (vp_cell _ _)
  rw [e, vp_cell_i, vp_cell_i, arrV_store]
  congr 2
  funext q
  by_cases hq : q = i.toNatClampNeg
  · subst hq
    simp [updV, upd]
  · simp [updV, upd, hq]
theorem wp_bast {a N : Nat} {i x : Int32} (hd : decode μ.2.1 pc = .ok (.bastore, 1)) (ha : lk a = (10, N)) (hn : a < nx) (hx : narrow .boolean (.int x) = .int x) (hin : vp_in i N) (kk : Wp E K μ d f (pc + 1) L st nx (wI M a i.toNatClampNeg x) k n Z) : Wp E K μ d f pc L (.int x :: .int i :: .ref (K.1 + a) :: st) nx M k n Z := by
  intro ok H locs ls hP hS hl
  have hA := (hP.at hn (ce_boo (K := K) (M := M) ha))
  refine W.zast ok.1 ok.2.1 hA ((ok.2.2.2.2.2.2.2.1.1.2 1 _ rfl).1 N (fun j => .int (M.1 a j))) (fun q => by cases q) (by show ¬ (i < 0 ∨ (arrV _ _ _).slots.size ≤ _); rw [arrV_size]; exact hin) rfl rfl hd fun H1 e z oq => ?_
  refine kk ok H1 _ ls (hP.store (e := .inl (K.2.2 10, N, .inl (upd (M.1 a) i.toNatClampNeg x))) ?_ (by rw [ce_boo ha, upd_wI]) z oq (fun b hb => wI_ne hb)) (hS.put z oq (Nat.le_add_right _ _)) hl
  show H1[K.1 + a]? = some (vp_cell _ _)
  rw [e, vp_cell_i, vp_cell_i, arrV_store]
  congr 2
  funext q
  by_cases hq : q = i.toNatClampNeg
  · subst hq
    simp [updV, upd]
    exact hx
  · simp [updV, upd, hq]
end HEAP
end
section
/-! calls -/
/-- the words of a call of the method μ' (n parameters) from the class own, at the entry idx of its pool -/
def CLb (own : String) (μ' : MI) (n : Nat) : Prop := Cond.code μ'.1 μ'.2.1 μ'.2.2.1 μ'.2.2.2 ∈ gw ∧ Cond.initialized μ'.1.cls ∈ gw ∧ (μ'.1.cls ≠ "java/lang/invoke/MethodHandle" ∧ μ'.1.cls ≠ "java/lang/invoke/VarHandle" ∧ (parseMethodDescriptor μ'.1.desc).map (fun d => d.parameters.length) = some n) ∧ μ'.2.2.1 ≤ 40
def CLv (own : String) (idx : Nat) (μ' : MI) (n : Nat) : Prop := CLb own μ' n ∧ Cond.methodLink own idx μ'.1 ∈ gw ∧ Cond.instanceMethod μ'.1 ∈ gw ∧ Cond.selects μ'.1.cls μ'.1 μ'.1 ∈ gw
def CLs (own : String) (idx : Nat) (μ' : MI) (n : Nat) : Prop := CLb own μ' n ∧ Cond.methodLink own idx μ'.1 ∈ gw ∧ Cond.static μ'.1 ∈ gw
def CLi (own : String) (idx : Nat) (μ' : MI) (n : Nat) : Prop := CLb own μ' n ∧ Cond.methodLink own idx μ'.1 ∈ gw ∧ Cond.instanceMethod μ'.1 ∈ gw ∧ μ'.1.name = "<init>" ∧ μ'.2.2.2 = none
def CLsN (own : String) (idx : Nat) (μ' : MI) (n : Nat) (host : String) : Prop := CLb own μ' n ∧ Cond.methodLinkNest own idx μ'.1 host ∈ exW ∧ Cond.static μ'.1 ∈ gw
def CLiN (own : String) (idx : Nat) (μ' : MI) (n : Nat) (host : String) : Prop := CLb own μ' n ∧ Cond.methodLinkNest own idx μ'.1 host ∈ exW ∧ Cond.instanceMethod μ'.1 ∈ gw ∧ μ'.1.name = "<init>" ∧ μ'.2.2.2 = none
theorem cb_of {R : Room} {s : State} {args : Array Value} {own : String} {idx n d d' dn ds : Nat} {μ' : MI} (hts : ∀ w ∈ gw, w.before args s = true) (h : CLb own μ' n) (hl : Cond.methodLink own idx μ'.1 ∈ gw) (hd : d' < d) (h1 : d ≤ R.frames) (h2 : 60 * d ≤ R.locals) :
    CallB R s args own idx μ'.1 μ'.2.1 μ'.2.2.1 μ'.2.2.2 (.code μ'.1 μ'.2.1 μ'.2.2.1 μ'.2.2.2 :: gw) (rmD d' dn ds) dn ds n :=
  callB_of n hts (gw_inb (fun _ h => h) h.1) rfl rfl rfl (hts _ h.2.1) (hts _ hl) h.2.2.1 ⟨by show d' + 1 ≤ _; omega, by have := h.2.2.2; show 8 + (μ'.2.2.1 + 11) + 60 * d' ≤ _; omega⟩
theorem ct_blind {K : CtxT} {nx : Nat} {M : Mm} {vs : List Value} : FrameBlind (va_Pc vs (fun U => Pw K nx M U.heap ∧ Kx K U ∧ K.1 ≤ U.heap.size)) := fun a U g mk h => ⟨h.1, h.2.1, h.2.2.1.same rfl, h.2.2.2⟩
section CALL
variable {E : EnvT} {K : CtxT} {μ : MI} {d : Nat} {f : Nat × Nat} {pc : Nat} {L : List (Option Value)} {st : List Value} {nx : Nat} {M : Mm} {k n : Nat} {Z : State → Prop}
/-- behind a call -/
theorem wp_back {Q' : Option Value → Mm → Prop} {dn' ds' : Nat} {a : Array Value} {st0 rest : List Value} {H : Heap} {locs : List Loc} {ls : Array Slot} (ok : Ok E K μ d f) (hP : Pw K nx M H) (hS : va_S (fun q : Nat => K.1 ≤ q) (es E).heap H locs) (hl : lR ls μ.2.2.1 L)
    (hr : va_Run (ep E) (el E) (ee E) (eR E) (es E) (em E) (ea E) (eb E) (eM E) (ec E) H locs k n dn' ds' (F0 (em E) pc ls st0) rest (Qc K (nx + dn') Q' a) (fun q : Nat => K.1 ≤ q))
    (kk : ∀ v M', Q' v M' → Wp E K μ d f (pc + 3) L (v.toList ++ rest) (nx + dn') M' (k + dn') (n + ds') Z) : W (ep E) (el E) (ee E) (eR E) (es E) (em E) (ea E) (eb E) (eM E) (ec E) H locs k n Z (F0 (em E) pc ls st0) := by
  intro T hT X
  obtain ⟨v, st₀, t, T', Lc, h0, X', hL, e1, e2, ⟨⟨v', M', hv, hq, hP', -⟩, hz, hk⟩, stp⟩ := hr T hT X
  cases hv
  rw [h0] at hz hk
  obtain ⟨t2, a1, b1⟩ := kk v M' hq ok T'.heap (locs ++ Lc) ls (by rw [e1]; exact hP') ⟨Nat.le_trans hS.1 (by rw [e1]; exact hz), fun q h1 h2 => by rw [e1, hk q (Nat.lt_of_lt_of_le h1 hS.1) h2]; exact hS.2.1 q h1 h2, fun q hq => by
    rcases List.mem_append.mp hq with h | h
    · exact hS.2.2 q h
    · exact hL q h⟩ hl T' rfl X'
  exact ⟨t2, stp t2 a1, b1⟩
theorem wp_pre {vs : List Value} {s : State} {H : Heap} {H0 : Heap} {locs : List Loc} (hK : Kx K s) (hP : Pw K nx M H) : ∀ U : State, U.heap = H → s.WarmedH U.vm → va_Pc vs (fun U => Pw K nx M U.heap ∧ Kx K U ∧ K.1 ≤ U.heap.size) vs.toArray U :=
  fun U hU hW => ⟨rfl, by rw [hU]; exact hP, hK.warm hW, by rw [hU, hP.2]; exact Nat.le_add_right _ _⟩
theorem wp_callV {Q' : Option Value → Mm → Prop} {d' dn' ds' idx nn a ci : Nat} {μ' : MI} {As rest : List Value} {q : vw_C} (hd : decode μ.2.1 pc = .ok (.invokevirtual idx, 3)) (hw : CLv μ.1.cls idx μ' nn) (hC : Ct (el E) K d' μ' (.ref (K.1 + a) :: As) nx M dn' ds' Q') (ha : lk a = (ci, 0)) (hc : vwCl[ci]? = some q) (hq : q.1 = μ'.1.cls) (hn : a < nx)
    (hst : st = As.reverse ++ .ref (K.1 + a) :: rest) (hlen : As.length = nn) (hcat : (rest.map fun v => v.category).sum ≤ 8) (hdd : d' < d) (hrm : k + dn' ≤ f.1 ∧ n + ds' ≤ f.2) (kk : ∀ v M', Q' v M' → Wp E K μ d f (pc + 3) L (v.toList ++ rest) (nx + dn') M' (k + dn') (n + ds') Z) : Wp E K μ d f pc L st nx M k n Z := by
  intro ok H locs ls hP hS hl
  have ok' := ok
  obtain ⟨hx, hb, hml, hown, hts, -, -, hK, -, hfr, hlo, hcs, hss, -⟩ := ok'
  subst hst
  have hrec := va_recv hK.1 hP.1 hc ((wo_get hn).trans (congrArg (fun e => some (K.1 + a, e)) (ce_obj ha (cl_lt hc))))
  refine wp_back ok hP hS hl (va_runV (As := As) (rest := rest) ⟨hx, hb, hml, hown, hts⟩ hC ⟨cb_of hts hw.1 hw.2.1 hdd hfr hlo, hts _ hw.2.2.1, hts _ hw.2.2.2⟩ ⟨ct_blind, ?_, wp_pre (H0 := H) (locs := locs) hK hP⟩ rfl hlen hl.size rfl (lv_room hcat) hd ⟨Nat.le_trans hrm.1 hcs, Nat.le_trans hrm.2 hss⟩) kk
  rw [← hq]
  exact hrec
theorem wp_callS {Q' : Option Value → Mm → Prop} {d' dn' ds' idx nn : Nat} {μ' : MI} {As rest : List Value} (hd : decode μ.2.1 pc = .ok (.invokestatic idx, 3)) (hw : CLs μ.1.cls idx μ' nn) (hC : Ct (el E) K d' μ' As nx M dn' ds' Q')
    (hst : st = As.reverse ++ rest) (hlen : As.length = nn) (hcat : (rest.map fun v => v.category).sum ≤ 8) (hdd : d' < d) (hrm : k + dn' ≤ f.1 ∧ n + ds' ≤ f.2) (kk : ∀ v M', Q' v M' → Wp E K μ d f (pc + 3) L (v.toList ++ rest) (nx + dn') M' (k + dn') (n + ds') Z) : Wp E K μ d f pc L st nx M k n Z := by
  intro ok H locs ls hP hS hl
  have ok' := ok
  obtain ⟨hx, hb, hml, hown, hts, -, -, hK, -, hfr, hlo, hcs, hss, -⟩ := ok'
  subst hst
  exact wp_back ok hP hS hl (va_runS (As := As) (rest := rest) ⟨hx, hb, hml, hown, hts⟩ hC ⟨cb_of hts hw.1 hw.2.1 hdd hfr hlo, hts _ hw.2.2⟩ ⟨ct_blind, wp_pre (H0 := H) (locs := locs) hK hP⟩ rfl hlen hl.size rfl (lv_room hcat) hd ⟨Nat.le_trans hrm.1 hcs, Nat.le_trans hrm.2 hss⟩) kk
theorem wp_callI {Q' : Option Value → Mm → Prop} {d' dn' ds' idx nn b : Nat} {μ' : MI} {As rest : List Value} (hd : decode μ.2.1 pc = .ok (.invokespecial idx, 3)) (hw : CLi μ.1.cls idx μ' nn) (hC : Ct (el E) K d' μ' (.ref b :: As) nx M dn' ds' Q')
    (hst : st = As.reverse ++ .ref b :: rest) (hlen : As.length = nn) (hcat : (rest.map fun v => v.category).sum ≤ 8) (hdd : d' < d) (hrm : k + dn' ≤ f.1 ∧ n + ds' ≤ f.2) (kk : ∀ v M', Q' v M' → Wp E K μ d f (pc + 3) L (v.toList ++ rest) (nx + dn') M' (k + dn') (n + ds') Z) : Wp E K μ d f pc L st nx M k n Z := by
  intro ok H locs ls hP hS hl
  have ok' := ok
  obtain ⟨hx, hb, hml, hown, hts, -, -, hK, -, hfr, hlo, hcs, hss, -⟩ := ok'
  subst hst
  have cb := cb_of (dn := dn') (ds := ds') hts hw.1 hw.2.1 hdd hfr hlo
  unfold Ct at hC
  rw [hw.2.2.2.2] at cb hC
  exact wp_back ok hP hS hl (va_runI (As := As) (rest := rest) ⟨hx, hb, hml, hown, hts⟩ hC ⟨cb, hw.2.2.2.1, hts _ hw.2.2.1⟩ ⟨ct_blind, wp_pre (H0 := H) (locs := locs) hK hP⟩ rfl hlen hl.size rfl (lv_room hcat) hd ⟨Nat.le_trans hrm.1 hcs, Nat.le_trans hrm.2 hss⟩) kk
theorem wp_callSN {Q' : Option Value → Mm → Prop} {d' dn' ds' idx nn : Nat} {host : String} {μ' : MI} {As rest : List Value} (hd : decode μ.2.1 pc = .ok (.invokestatic idx, 3)) (hw : CLsN μ.1.cls idx μ' nn host) (hC : Ct (el E) K d' μ' As nx M dn' ds' Q')
    (hst : st = As.reverse ++ rest) (hlen : As.length = nn) (hcat : (rest.map fun v => v.category).sum ≤ 8) (hdd : d' < d) (hrm : k + dn' ≤ f.1 ∧ n + ds' ≤ f.2) (kk : ∀ v M', Q' v M' → Wp E K μ d f (pc + 3) L (v.toList ++ rest) (nx + dn') M' (k + dn') (n + ds') Z) : Wp E K μ d f pc L st nx M k n Z := by
  intro ok H locs ls hP hS hl
  have ok' := ok
  obtain ⟨hx, hb, hml, hown, hts, -, -, hK, -, hfr, hlo, hcs, hss, -⟩ := ok'
  subst hst
  have hm := hw.1.2.2.2
  exact wp_back ok hP hS hl (va_runSN (As := As) (rest := rest) (host := host) ⟨hx, hb, hml, hown, hts⟩ hC ⟨va_cnB nn hts (gw_inb (fun _ h => h) hw.1.1) rfl rfl rfl (hK.2.1 _ hw.2.1) (hts _ hw.1.2.1) hw.1.2.2.1 ⟨by show d' + 1 ≤ _; omega, by show 8 + (μ'.2.2.1 + 11) + 60 * d' ≤ _; omega⟩, hts _ hw.2.2, trivial⟩ ⟨ct_blind, wp_pre (H0 := H) (locs := locs) hK hP⟩ rfl hlen hl.size rfl (lv_room hcat) hd ⟨Nat.le_trans hrm.1 hcs, Nat.le_trans hrm.2 hss⟩) kk
theorem wp_callIN {Q' : Option Value → Mm → Prop} {d' dn' ds' idx nn b : Nat} {host : String} {μ' : MI} {As rest : List Value} (hd : decode μ.2.1 pc = .ok (.invokespecial idx, 3)) (hw : CLiN μ.1.cls idx μ' nn host) (hC : Ct (el E) K d' μ' (.ref b :: As) nx M dn' ds' Q')
    (hst : st = As.reverse ++ .ref b :: rest) (hlen : As.length = nn) (hcat : (rest.map fun v => v.category).sum ≤ 8) (hdd : d' < d) (hrm : k + dn' ≤ f.1 ∧ n + ds' ≤ f.2) (kk : ∀ v M', Q' v M' → Wp E K μ d f (pc + 3) L (v.toList ++ rest) (nx + dn') M' (k + dn') (n + ds') Z) : Wp E K μ d f pc L st nx M k n Z := by
  intro ok H locs ls hP hS hl
  have ok' := ok
  obtain ⟨hx, hb, hml, hown, hts, -, -, hK, -, hfr, hlo, hcs, hss, -⟩ := ok'
  subst hst
  have hm := hw.1.2.2.2
  have cb := va_cnB (R := eR E) (rm := rmD d' dn' ds') (own := μ.1.cls) (host := host) (index := idx) nn hts (gw_inb (fun _ h => h) hw.1.1) rfl rfl rfl (hK.2.1 _ hw.2.1) (hts _ hw.1.2.1) hw.1.2.2.1 ⟨by show d' + 1 ≤ _; omega, by show 8 + (μ'.2.2.1 + 11) + 60 * d' ≤ _; omega⟩
  unfold Ct at hC
  rw [hw.2.2.2.2] at cb hC
  exact wp_back ok hP hS hl (va_runIN (As := As) (rest := rest) (host := host) ⟨hx, hb, hml, hown, hts⟩ hC ⟨cb, hw.2.2.2.1, hts _ hw.2.2.1⟩ ⟨ct_blind, wp_pre (H0 := H) (locs := locs) hK hP⟩ rfl hlen hl.size rfl (lv_room hcat) hd ⟨Nat.le_trans hrm.1 hcs, Nat.le_trans hrm.2 hss⟩) kk
theorem wp_objInit {idx a : Nat} {rest : List Value} (hd : decode μ.2.1 pc = .ok (.invokespecial idx, 3)) (hw : Cond.methodLink μ.1.cls idx objectInit ∈ gw) (hcat : (rest.map fun v => v.category).sum ≤ 8) (hdd : 0 < d) (kk : Wp E K μ d f (pc + 3) L rest nx M k n Z) : Wp E K μ d f pc L (.ref a :: rest) nx M k n Z := by
  intro ok H locs ls hP hS hl
  have ok' := ok
  obtain ⟨hx, hb, hml, hown, hts, -, -, hK, -, hfr, hlo, hcs, hss, -⟩ := ok'
  refine W.objInit hx hb hown (hts _ hw) (hts _ (gw_of (by decide +kernel) rfl)) (hts _ (gw_of (by decide +kernel) rfl)) rfl (by rw [hml]; exact hl.size) rfl hd (by omega) ?_ (kk ok H locs ls hP hS hl)
  show 2 * 0 + _ + 12 ≤ _
  omega
/-! making -/
theorem Pw.grow {m : Nat} {M' : Mm} {H H1 : Heap} (hP : Pw K nx M H) (z : H1.size = K.1 + (nx + m)) (oq : ∀ q : Nat, q < K.1 + nx → H1[q]? = H[q]?) (ho : ∀ b, b < nx → ce K M' b = ce K M b) (he : ∀ j, j < m → va_at K.2.1 vwCl (K.1 + (nx + j), ce K M' (nx + j)) H1) : Pw K (nx + m) M' H1 := by
  refine ⟨fun i q hi => ?_, z⟩
  obtain ⟨hn, rfl⟩ := wo_some hi
  rcases Nat.lt_or_ge i nx with h | h
  · rw [ho i h]
    exact (hP.1 i _ (wo_get h)).kept (oq _ (by show K.1 + i < _; omega))
  · have := he (i - nx) (by omega)
    rwa [show nx + (i - nx) = i by omega] at this
theorem va_S.grow {A : Nat → Prop} {H0 H H1 : Heap} {locs : List Loc} (hS : va_S A H0 H locs) (z : H.size ≤ H1.size) (oq : ∀ q : Nat, q < H.size → H1[q]? = H[q]?) : va_S A H0 H1 locs :=
  ⟨Nat.le_trans hS.1 z, fun x h1 h2 => (oq x (Nat.lt_of_lt_of_le h1 hS.1)).trans (hS.2.1 x h1 h2), hS.2.2⟩
/-- the memory with zeros in the cell a -/
def wZ (M : Mm) (a : Nat) : Mm := (fun b j => if b = a then 0 else M.1 b j, fun b j => if b = a then 0 else M.2.1 b j, fun b j => if b = a then none else M.2.2 b j)
theorem wZ_ne {b a : Nat} (h : b ≠ a) : ce K (wZ M a) b = ce K M b := ce_congr (fun j => by simp [wZ, h]) (fun j => by simp [wZ, h]) (fun j => by simp [wZ, h])
theorem fvs_zero (b : Nat) (M : Mm) (a : Nat) {C : String} {T : u_T} {N ci : Nat} (h : vwCl[ci]? = some (C, T, N)) : ∀ j, j < N → defaultValue (cl_t ci j) = vp_V (fvs b (wZ M a) a 0 (tcs ci)) j := by
  intro j hj
  have hc := cl_lt h
  have hj31 : j < 31 := Nat.lt_of_lt_of_le hj (cl_n31 h)
  have hl : j < (tcs ci).length := by rw [cl_len h]; exact hj
  obtain ⟨t, ht⟩ : ∃ t, (tcs ci)[j]? = some t := ⟨_, List.getElem?_eq_getElem hl⟩
  have e : vp_V (fvs b (wZ M a) a 0 (tcs ci)) j = fv b (wZ M a) a j t := by
    unfold vp_V
    rw [List.getD_eq_getElem?_getD, fvs_get, ht, Nat.zero_add]
    rfl
  rw [e]
  obtain ⟨h0, h1, h2, h3⟩ := cl_ty0 ci hc j hj31
  rcases h3 t ht with rfl | rfl | rfl
  · rw [h0 ht]; simp [fv, wZ, defaultValue]
  · rw [h1 ht]; simp [fv, wZ, defaultValue]
  · have := h2 ht
    cases hty : cl_t ci j <;> rw [hty] at this <;> first | (simp [fv, wZ, defaultValue, va_rf]; done) | cases this
theorem wp_new {idx ci : Nat} {C : String} {T : u_T} {N : Nat} (hd : decode μ.2.1 pc = .ok (.new idx, 3)) (hc : vwCl[ci]? = some (C, T, N)) (hw1 : Cond.classLink μ.1.cls idx C ∈ gw) (hw2 : Cond.instantiable C N ∈ gw) (hw3 : Cond.initialized C ∈ gw) (ha : lk nx = (ci, 0)) (hrm : k + 1 ≤ f.1 ∧ n + N ≤ f.2)
    (kk : Wp E K μ d f (pc + 3) L (.ref (K.1 + nx) :: st) (nx + 1) (wZ M nx) (k + 1) (n + N) Z) : Wp E K μ d f pc L st nx M k n Z := by
  intro ok H locs ls hP hS hl
  have ok' := ok
  obtain ⟨hx, hb, hml, hown, hts, -, -, hK, -, hfr, hlo, hcs, hss, -⟩ := ok'
  have hKn := hK.1.1 ci _ hc
  refine W.newcK hx hb hown (hts _ hw1) (hts _ hw2) (hts _ hw3) rfl hd (Nat.le_trans hrm.1 hcs) (Nat.le_trans hrm.2 hss) hKn.2.1 hP.2 fun H1 kC hkC e1 z1 o1 => ?_
  refine kk ok H1 locs ls (hP.grow (m := 1) (by omega) o1 (fun b hb => wZ_ne (by omega)) (fun j hj => ?_)) (hS.grow (by rw [z1, hP.2]; omega) (fun q hq => o1 q (by rw [← hP.2]; exact hq))) hl
  have : j = 0 := by omega
  subst this
  rw [Nat.add_zero, ce_obj ha (cl_lt hc)]
  exact ⟨_, hc, (u_born (cl_t ci) hts (cl_ws hc) hKn hkC e1 (cl_tok hc)).to (fun j hj => fvs_zero _ _ _ hc j hj)⟩
theorem wp_newI {N : Nat} {x : Int32} (hd : decode μ.2.1 pc = .ok (.newarray .int, 2)) (hx : ¬ x < 0) (hN : x.toNatClampNeg = N) (hN2 : N ≤ 100000) (ha : lk nx = (9, N)) (hrm : k + 1 ≤ f.1 ∧ n + N ≤ f.2) (hw : Cond.arrayClass .int ∈ gw)
    (kk : Wp E K μ d f (pc + 2) L (.ref (K.1 + nx) :: st) (nx + 1) (wZ M nx) (k + 1) (n + N) Z) : Wp E K μ d f pc L (.int x :: st) nx M k n Z := by
  intro ok H locs ls hP hS hl
  have ok' := ok
  obtain ⟨hex, hb, hml, hown, hts, -, -, hK, -, hfr, hlo, hcs, hss, -⟩ := ok'
  refine va_newaK (atype := .int) hex hb (hts _ hw) rfl hd rfl hx hN (by show N * 4 ≤ _; omega) (Nat.le_trans hrm.1 hcs) (Nat.le_trans hrm.2 hss) hP.2 fun H1 cA e1 z1 o1 _ hnm => ?_
  have hcA : cA = K.2.2 9 := Option.some.inj (hnm.symm.trans (hK.1.2 0 _ rfl).2)
  subst hcA
  refine kk ok H1 locs ls (hP.grow (m := 1) (by omega) o1 (fun b hb => wZ_ne (by omega)) (fun j hj => ?_)) (hS.grow (by rw [z1, hP.2]; omega) (fun q hq => o1 q (by rw [← hP.2]; exact hq))) hl
  have : j = 0 := by omega
  subst this
  rw [Nat.add_zero, ce_int ha]
  show H1[K.1 + nx]? = some (vp_cell _ _)
  rw [e1, vp_cell_i]
  simp [wZ]
  rfl
theorem wp_newZ {N : Nat} {x : Int32} (hd : decode μ.2.1 pc = .ok (.newarray .boolean, 2)) (hx : ¬ x < 0) (hN : x.toNatClampNeg = N) (hN2 : N ≤ 100000) (ha : lk nx = (10, N)) (hrm : k + 1 ≤ f.1 ∧ n + N ≤ f.2) (hw : Cond.arrayClass .boolean ∈ gw)
    (kk : Wp E K μ d f (pc + 2) L (.ref (K.1 + nx) :: st) (nx + 1) (wZ M nx) (k + 1) (n + N) Z) : Wp E K μ d f pc L (.int x :: st) nx M k n Z := by
  intro ok H locs ls hP hS hl
  have ok' := ok
  obtain ⟨hex, hb, hml, hown, hts, -, -, hK, -, hfr, hlo, hcs, hss, -⟩ := ok'
  refine va_newaK (atype := .boolean) hex hb (hts _ hw) rfl hd rfl hx hN (by show N * 1 ≤ _; omega) (Nat.le_trans hrm.1 hcs) (Nat.le_trans hrm.2 hss) hP.2 fun H1 cA e1 z1 o1 _ hnm => ?_
  have hcA : cA = K.2.2 10 := Option.some.inj (hnm.symm.trans (hK.1.2 1 _ rfl).2)
  subst hcA
  refine kk ok H1 locs ls (hP.grow (m := 1) (by omega) o1 (fun b hb => wZ_ne (by omega)) (fun j hj => ?_)) (hS.grow (by rw [z1, hP.2]; omega) (fun q hq => o1 q (by rw [← hP.2]; exact hq))) hl
  have : j = 0 := by omega
  subst this
  rw [Nat.add_zero, ce_boo ha]
  show H1[K.1 + nx]? = some (vp_cell _ _)
  rw [e1, vp_cell_i]
  simp [wZ]
  rfl
theorem wp_newT {idx N : Nat} {x : Int32} (hd : decode μ.2.1 pc = .ok (.anewarray idx, 3)) (hw : Cond.classLink μ.1.cls idx "HoundLicence$Town" ∈ gw) (hx : ¬ x < 0) (hN : x.toNatClampNeg = N) (hN2 : N ≤ 100000) (ha : lk nx = (11, N)) (hrm : k + 1 ≤ f.1 ∧ n + N ≤ f.2)
    (kk : Wp E K μ d f (pc + 3) L (.ref (K.1 + nx) :: st) (nx + 1) (wZ M nx) (k + 1) (n + N) Z) : Wp E K μ d f pc L (.int x :: st) nx M k n Z := by
  intro ok H locs ls hP hS hl
  have ok' := ok
  obtain ⟨hex, hb, hml, hown, hts, -, -, hK, -, hfr, hlo, hcs, hss, -⟩ := ok'
  subst hN
  refine W.anew hex hb hown (hts _ hw) (ao_vm (A := #[]) rfl (hK.2.2 _ (by simp [aoT]))) rfl hd rfl hx (by omega) (Nat.le_trans hrm.1 hcs) (Nat.le_trans hrm.2 hss) fun cA kA comp f1 f2 f3 f4 => ?_
  obtain ⟨kA', comp', g1, g2, g3, g4⟩ := (hK.1.2 2 _ rfl).2
  have hcA : cA = K.2.2 11 := Option.some.inj (f1.symm.trans g4)
  subst hcA
  generalize hH1 : H.push ({ cls := K.2.2 11, slots := Array.replicate x.toNatClampNeg .null, vm := .none } : Cell) = H1
  have z1 : H1.size = H.size + 1 := by rw [← hH1, Array.size_push]
  have e1 : H1[H.size]? = some (arrV (K.2.2 11) x.toNatClampNeg (fun _ => .null)) := by rw [← hH1, Array.getElem?_push_size, ← arrV_new]
  have o1 : ∀ q : Nat, q < H.size → H1[q]? = H[q]? := fun q hq => by rw [← hH1, Array.getElem?_push, if_neg (Nat.ne_of_lt hq)]
  rw [hP.2] at e1 z1 o1 ⊢
  refine kk ok H1 locs ls (hP.grow (m := 1) (by omega) o1 (fun b hb => wZ_ne (by omega)) (fun j hj => ?_)) (hS.grow (by rw [z1, hP.2]; omega) (fun q hq => o1 q (by rw [← hP.2]; exact hq))) hl
  have : j = 0 := by omega
  subst this
  rw [Nat.add_zero, ce_ref ha (by decide)]
  show H1[K.1 + nx]? = some (vp_cell _ _)
  rw [e1, vp_cell_q]
  simp [wZ, va_rf]
/-- a town into an array of towns -/
theorem wp_aastT {a b N : Nat} {i : Int32} (hd : decode μ.2.1 pc = .ok (.aastore, 1)) (ha : lk a = (11, N)) (hn : a < nx) (hb : lk b = (6, 0)) (hbn : b < nx) (hin : vp_in i N) (kk : Wp E K μ d f (pc + 1) L st nx (wR M a i.toNatClampNeg (some b)) k n Z) : Wp E K μ d f pc L (.ref (K.1 + b) :: .int i :: .ref (K.1 + a) :: st) nx M k n Z := by
  intro ok H locs ls hP hS hl
  have hKx := ok.2.2.2.2.2.2.2.1.1
  have hlt : i.toNatClampNeg < N := Nat.not_le.mp fun q => hin (Or.inr q)
  have h0 : ¬ i < 0 := fun q => hin (Or.inl q)
  have hA := hP.at hn (ce_ref (K := K) (M := M) ha (by decide))
  obtain ⟨r', hr', cellV, g1, g2, g3, -⟩ := hP.at hbn (ce_obj (K := K) (M := M) hb (by decide))
  have hcls := (hKx.1 6 _ rfl).2
  obtain ⟨kA, comp, k1, k2, k3, -⟩ := (hKx.2 2 _ rfl).2
  have hcomp : comp = K.2.1.1 6 := Option.some.inj (k3.symm.trans hcls.1)
  subst hcomp
  obtain ⟨kC, hkC, -⟩ := hcls.2
  refine W.aast ok.1 ok.2.1 hA (fun q h => by cases h) (fun h => by cases h) k1 k2 rfl hkC ⟨h0, by show _ < (arrV _ _ _).slots.size; rw [arrV_size]; exact hlt⟩ g1 (fun q h => by rw [g3] at h; cases h) (by rw [g2]; exact hkC) (by rw [g2]; exact va_assign hcls) rfl rfl hd fun H1 e z oq => ?_
  refine kk ok H1 _ ls (hP.store (e := .inl (K.2.2 11, N, .inr (.inr (.inr (.inr (va_up (fun j => (M.2.2 a j).map (fun x => K.1 + x)) i.toNatClampNeg (some (K.1 + b)))))))) ?_ ?_ z oq (fun b hb => wR_ne hb)) (hS.put z oq (Nat.le_add_right _ _)) hl
  · show H1[K.1 + a]? = some (vp_cell _ _)
    rw [e, vp_cell_q, vp_cell_q, arrV_store]
    congr 2
    funext q
    by_cases hq : q = i.toNatClampNeg
    · subst hq
      simp [updV, va_up, va_rf]
    · simp [updV, va_up, hq]
  · rw [ce_ref ha (by decide)]
    congr 7
    funext j
    by_cases hj : j = i.toNatClampNeg
    · subst hj
      simp [wR, va_up]
    · simp [wR, va_up, hj]
end CALL
end
section
section COPY
variable {E : EnvT} {K : CtxT} {μ : MI} {d : Nat} {f : Nat × Nat} {pc : Nat} {L : List (Option Value)} {st : List Value} {nx : Nat} {M : Mm} {k n : Nat} {Z : State → Prop}
theorem wC_row (M : Mm) (a0 sp a dp n : Nat) : (wC M a0 sp a dp n).1 a = va_cpy (M.1 a0) (M.1 a) sp dp n := by
  funext j
  simp [wC, va_cpy]
/-- System.arraycopy between int arrays -/
theorem wp_copy {idx a0 a N0 N1 : Nat} {sp dp m : Int32} {rest : List Value} (hd : decode μ.2.1 pc = .ok (.invokestatic idx, 3)) (hw : Cond.methodLink μ.1.cls idx arraycopyName ∈ gw) (ha0 : lk a0 = (9, N0)) (ha : lk a = (9, N1)) (hn0 : a0 < nx) (hn : a < nx)
    (h1 : ¬ sp < 0) (h2 : ¬ dp < 0) (h3 : ¬ m < 0) (h4 : sp.toNatClampNeg + m.toNatClampNeg ≤ N0) (h5 : dp.toNatClampNeg + m.toNatClampNeg ≤ N1) (hcat : (rest.map fun v => v.category).sum ≤ 8) (hdd : 0 < d)
    (kk : Wp E K μ d f (pc + 3) L rest nx (wC M a0 sp.toNatClampNeg a dp.toNatClampNeg m.toNatClampNeg) k n Z) : Wp E K μ d f pc L (.int m :: .int dp :: .ref (K.1 + a) :: .int sp :: .ref (K.1 + a0) :: rest) nx M k n Z := by
  intro ok H locs ls hP hS hl
  have ok' := ok
  obtain ⟨hx, hb, hml, hown, hts, -, -, hK, -, hfr, hlo, hcs, hss, -⟩ := ok'
  have nn : ∀ z : Int32, ¬ z < 0 → z.toInt = (z.toNatClampNeg : Int) := by
    intro z hz
    have hz0 : (0 : Int) ≤ z.toInt := by
      have := Int32.not_lt.mp hz
      simpa using Int32.le_iff_toInt_le.mp this
    show z.toInt = ((z.toInt.toNat : Nat) : Int)
    omega
  have hc0 : H[K.1 + a0]? = some (vp_cell (K.2.2 9) (N0, .inl (M.1 a0))) := hP.at hn0 (ce_int ha0)
  have hc1 : H[K.1 + a]? = some (vp_cell (K.2.2 9) (N1, .inl (M.1 a))) := hP.at hn (ce_int ha)
  intro T hT X
  obtain ⟨-, k0, hk0, cm0, hkk0⟩ := (hK.1.2 0 _ rfl).1 N0 (fun j => .int (M.1 a0 j))
  obtain ⟨-, k1, hk1, cm1, hkk1⟩ := (hK.1.2 0 _ rfl).1 N1 (fun j => .int (M.1 a j))
  obtain ⟨vm', X', step⟩ := X.arraycopy hx hown (hts _ hw) (hts _ (gw_of (by decide +kernel) rfl)) (hts _ (gw_of (by decide +kernel) rfl)) (hts _ (gw_of (by decide +kernel) rfl)) (src := K.1 + a0) (dst := K.1 + a) (cs := vp_cell (K.2.2 9) (N0, .inl (M.1 a0))) (cd := vp_cell (K.2.2 9) (N1, .inl (M.1 a))) (srcPos := sp) (destPos := dp) (n := m) (by rw [hT]; exact hc0) (by rw [hT]; exact hc1)
    (fun _ h => by cases h) (fun _ h => by cases h) (fun h => by cases h) (fun h => by cases h) hk0 hk1 hkk0 hkk1 (by simp [refKind]) h1 h2 h3
    (by rw [nn sp h1, nn m h3]; show ¬ _ > ((arrV (K.2.2 9) N0 (fun j => .int (M.1 a0 j))).slots.size : Int); rw [arrV_size]; omega)
    (by rw [nn dp h2, nn m h3]; show ¬ _ > ((arrV (K.2.2 9) N1 (fun j => .int (M.1 a j))).slots.size : Int); rw [arrV_size]; omega)
    (fun vm₁ _ i hi => by
      have e : (vp_cell (K.2.2 9) (N0, .inl (M.1 a0))).slots.getD (sp.toNatClampNeg + i) .null = .int (M.1 a0 (sp.toNatClampNeg + i)) := by
        show (arrV (K.2.2 9) N0 (fun j => .int (M.1 a0 j))).slots.getD _ _ = _
        rw [Array.getD_eq_getD_getElem?, arrV_read _ _ (by omega)]
        rfl
      refine ⟨?_, ?_⟩
      · rw [e]
        rfl
      · rw [e]
        exact trivial)
    (g := F0 (em E) pc ls (.int m :: .int dp :: .ref (K.1 + a) :: .int sp :: .ref (K.1 + a0) :: rest)) rfl (by rw [hml]; exact hl.size) (rest := rest) rfl (by rw [hb]; exact hd) (by omega) (by
      have : nativeFrameWords "java/lang/System" "arraycopy" 5 + 11 ≤ 50 := by decide +kernel
      show 2 * 0 + _ + _ ≤ _
      omega)
  have e1 : copied (vp_cell (K.2.2 9) (N0, .inl (M.1 a0))) (vp_cell (K.2.2 9) (N1, .inl (M.1 a))) sp dp m = vp_cell (K.2.2 9) (N1, .inl (va_cpy (M.1 a0) (M.1 a) sp.toNatClampNeg dp.toNatClampNeg m.toNatClampNeg)) := va_copied (fun z => .int z) _ _ _ _ h4
  rw [e1] at X' step
  generalize hcc : vp_cell (K.2.2 9) (N1, .inl (va_cpy (M.1 a0) (M.1 a) sp.toNatClampNeg dp.toNatClampNeg m.toNatClampNeg)) = cc at X' step
  have hlt : K.1 + a < H.size := (Array.getElem?_eq_some_iff.mp hc1).1
  have hheap : ((T.setVm vm').setCell (K.1 + a) cc).heap = H.setIfInBounds (K.1 + a) cc := by rw [← hT]; rfl
  have oq : ∀ q : Nat, q ≠ K.1 + a → (H.setIfInBounds (K.1 + a) cc)[q]? = H[q]? := fun q hq => by simp [Array.getElem?_setIfInBounds, Ne.symm hq]
  obtain ⟨t, a1, b1⟩ := kk ok (H.setIfInBounds (K.1 + a) cc) _ ls (hP.store (e := .inl (K.2.2 9, N1, .inl (va_cpy (M.1 a0) (M.1 a) sp.toNatClampNeg dp.toNatClampNeg m.toNatClampNeg))) (show (H.setIfInBounds (K.1 + a) cc)[K.1 + a]? = some _ by rw [← hcc]; simp [Array.getElem?_setIfInBounds, hlt]) (by rw [ce_int ha, wC_row]) (by simp) oq (fun b hb => wC_ne hb)) ⟨by simp; exact hS.1, fun q g1 g2 => by
      rw [oq q (fun e => g2 (by rw [e]; exact Nat.le_add_right _ _))]
      exact hS.2.1 q g1 g2, fun q hq => by
      rcases List.mem_append.mp hq with h | h
      · exact hS.2.2 q h
      · obtain ⟨z, -, hz⟩ := List.mem_map.mp h
        rw [← hz]
        exact Nat.le_add_right _ _⟩ hl _ hheap X'
  exact ⟨t, step t a1, b1⟩
/-! the law's own script -/
theorem wp_sld {b Ls : Nat} {xs : Nat → Int32} {i : Int32} (hd : decode μ.2.1 pc = .ok (.iaload, 1)) (hX : va_X b Ls xs (es E) (es E).heap) (hbl : b < (es E).heap.size) (hbK : b < K.1) (hin : vp_in i Ls) (kk : Wp E K μ d f (pc + 1) L (.int (xs i.toNatClampNeg) :: st) nx M k n Z) : Wp E K μ d f pc L (.int i :: .ref b :: st) nx M k n Z :=
  fun ok H locs ls hP hS hl => va_sld ok.1 ok.2.1 hX hbl (Nat.not_le.mpr hbK) hS hin hd (kk ok H locs ls hP hS hl)
theorem wp_slen {b Ls : Nat} {xs : Nat → Int32} (hd : decode μ.2.1 pc = .ok (.arraylength, 1)) (hX : va_X b Ls xs (es E) (es E).heap) (hbl : b < (es E).heap.size) (hbK : b < K.1) (kk : Wp E K μ d f (pc + 1) L (.int (Int32.ofNat Ls) :: st) nx M k n Z) : Wp E K μ d f pc L (.ref b :: st) nx M k n Z :=
  fun ok H locs ls hP hS hl => va_slen ok.1 ok.2.1 hX hbl (Nat.not_le.mpr hbK) hS hd (kk ok H locs ls hP hS hl)
end COPY
end
section
/-- the memory behind new int[N][m] at the cell a: the outer row at a, the inner ones behind it -/
def wG (M : Mm) (a N : Nat) : Mm := (fun b j => if a ≤ b ∧ b ≤ a + N then 0 else M.1 b j, fun b j => if a ≤ b ∧ b ≤ a + N then 0 else M.2.1 b j, fun b j => if b = a then (if j < N then some (a + 1 + j) else none) else if a ≤ b ∧ b ≤ a + N then none else M.2.2 b j)
theorem wG_ne {b a N : Nat} {K : CtxT} {M : Mm} (h : b < a) : ce K (wG M a N) b = ce K M b :=
  ce_congr (fun j => by simp [wG, show ¬ a ≤ b by omega]) (fun j => by simp [wG, show ¬ a ≤ b by omega]) (fun j => by simp [wG, show ¬ b = a by omega, show ¬ a ≤ b by omega])
theorem outer_row (c : ClassId) (N h0 : Nat) : ∀ i : Nat, Jvm.Free.Multi.outerC c N h0 i = arrV c N (fun j => va_rf (if j < i then some (h0 + 1 + j) else none))
  | 0 => by
    show ({ cls := c, slots := Array.replicate N .null, vm := .none } : Cell) = _
    rw [arrV_new]
    congr 1
  | i + 1 => by
    show (Jvm.Free.Multi.outerC c N h0 i).setSlot i (.ref (h0 + 1 + i)) = _
    rw [outer_row c N h0 i, arrV_store]
    congr 1
    funext j
    by_cases e : j = i
    · subst e
      simp [updV, va_rf]
    · by_cases h : j < i
      · simp [updV, e, h, Nat.lt_succ_of_lt h]
      · simp [updV, e, h, show ¬ j < i + 1 by omega]
section MULTI
variable {E : EnvT} {K : CtxT} {μ : MI} {d : Nat} {f : Nat × Nat} {pc : Nat} {L : List (Option Value)} {st : List Value} {nx : Nat} {M : Mm} {k n : Nat} {Z : State → Prop}
theorem wp_multi {idx N m : Nat} {x y : Int32} (hd : decode μ.2.1 pc = .ok (.multianewarray idx 2, 4)) (hw : Cond.classLink μ.1.cls idx "[[I" ∈ gw) (hwI : Cond.arrayClass .int ∈ gw) (hx : ¬ x < 0) (hy : ¬ y < 0) (hN : x.toNatClampNeg = N) (hm : y.toNatClampNeg = m) (hN2 : N ≤ 1000) (hm2 : m ≤ 1000)
    (ha : lk nx = (12, N)) (hb : ∀ j, j < N → lk (nx + 1 + j) = (9, m)) (hrm : k + (1 + N) ≤ f.1 ∧ n + (N + N * m) ≤ f.2)
    (kk : Wp E K μ d f (pc + 4) L (.ref (K.1 + nx) :: st) (nx + (1 + N)) (wG M nx N) (k + 1 + N) (n + N + N * m) Z) : Wp E K μ d f pc L (.int y :: .int x :: st) nx M k n Z := by
  intro ok H locs ls hP hS hl
  have ok' := ok
  obtain ⟨hex, hbb, hml, hown, hts, -, -, hK, -, hfr, hlo, hcs, hss, -⟩ := ok'
  subst hN
  subst hm
  intro T hT X
  obtain ⟨vm₁, cA, comp, -, fA, fC, -, -, X', step⟩ := X.multianewarray2F (ty := .int) hex hown (hts _ hw) (ao_vm (A := #[]) rfl (hK.2.2 _ (by simp [aoT]))) (hts _ hwI) (g := F0 (em E) pc ls (.int y :: .int x :: st)) rfl (by rw [hbb]; exact hd) rfl hx hy (by omega) (by show _ * 4 ≤ _; omega) (by omega) rfl rfl (Nat.le_trans hrm.1 hcs) (Nat.le_trans hrm.2 hss)
  have hcA : cA = K.2.2 12 := Option.some.inj (fA.symm.trans (hK.1.2 3 _ rfl).2)
  have hcm : comp = K.2.2 9 := Option.some.inj (fC.symm.trans (hK.1.2 0 _ rfl).2)
  subst hcA
  subst hcm
  obtain ⟨f1, f2, -, -⟩ := Jvm.Free.Multi.fill_facts (T.setVm vm₁) (K.2.2 12) (K.2.2 9) x.toNatClampNeg y.toNatClampNeg (defaultValue .int) x.toNatClampNeg
  have f3 := fun (a : Nat) (h : a < (T.setVm vm₁).heap.size) => Jvm.Free.Multi.fill_old (T.setVm vm₁) (K.2.2 12) (K.2.2 9) x.toNatClampNeg y.toNatClampNeg (defaultValue .int) (a := a) h x.toNatClampNeg
  have f4 := fun j => Jvm.Free.Multi.fill_inner (T.setVm vm₁) (K.2.2 12) (K.2.2 9) x.toNatClampNeg y.toNatClampNeg (defaultValue .int) x.toNatClampNeg j
  generalize Jvm.Free.Multi.fill (T.setVm vm₁) (K.2.2 12) (K.2.2 9) x.toNatClampNeg y.toNatClampNeg (defaultValue .int) x.toNatClampNeg = F at X' step f1 f2 f3 f4
  have hTh : (T.setVm vm₁).heap = H := hT
  rw [hTh, hP.2] at f1 f2 f3 f4
  rw [hT, hP.2] at step
  have hPw : Pw K (nx + (1 + x.toNatClampNeg)) (wG M nx x.toNatClampNeg) F.heap := by
    refine hP.grow (m := 1 + x.toNatClampNeg) (by omega) f3 (fun b hb => wG_ne hb) (fun j hj => ?_)
    rcases Nat.eq_zero_or_pos j with rfl | hj0
    · rw [Nat.add_zero, ce_ref ha (by decide)]
      show F.heap[K.1 + nx]? = some (vp_cell _ _)
      rw [f2, outer_row, vp_cell_q]
      congr 2
      funext i
      by_cases hi : i < x.toNatClampNeg
      · have e : K.1 + nx + 1 + i = K.1 + (nx + 1 + i) := by omega
        simp [wG, hi, va_rf, e]
      · simp [wG, hi, va_rf]
    · obtain ⟨i, rfl⟩ : ∃ i, j = i + 1 := ⟨j - 1, by omega⟩
      have hl9 := hb i (by omega)
      rw [show nx + 1 + i = nx + (i + 1) by omega] at hl9
      rw [ce_int hl9]
      show F.heap[K.1 + (nx + (i + 1))]? = some (vp_cell _ _)
      rw [show K.1 + (nx + (i + 1)) = K.1 + nx + 1 + i by omega, f4 i (by omega), vp_cell_i]
      show some ({ cls := K.2.2 9, slots := Array.replicate y.toNatClampNeg (.int 0), vm := .none } : Cell) = _
      rw [arrV_new]
      congr 2
      funext q
      have : nx ≤ nx + (i + 1) ∧ nx + (i + 1) ≤ nx + x.toNatClampNeg := by omega
      simp [wG, this]
  obtain ⟨t, a1, b1⟩ := kk ok F.heap locs ls hPw (hS.grow (by rw [f1, hP.2]; omega) (fun q hq => f3 q (by rw [← hP.2]; exact hq))) hl F rfl X'
  exact ⟨t, step t a1, b1⟩
end MULTI
end
