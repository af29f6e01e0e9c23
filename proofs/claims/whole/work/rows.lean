section
-- ===== PART A: goes FIRST, ahead of the names: the tables' words, and 'selects' of the private methods out of them =====
/-- a private method of a class that the tables say can be made, by its rows of tables_1 -/
def lw_okq (q : MethodName × Nat) : Prop := (q.1.cls ≠ "java/lang/invoke/MethodHandle" ∧ q.1.cls ≠ "java/lang/invoke/VarHandle") ∧ Cond.instantiable q.1.cls q.2 ∈ tables_1 ∧ Cond.privateMethod q.1 ∈ tables_1 ∧ Cond.instanceMethod q.1 ∈ tables_1
theorem lw_p0 : lw_okq (⟨"HoundLicence$Reader", "takes", "(I)Z"⟩, 5) := ⟨⟨by decide +kernel, by decide +kernel⟩, List.mem_of_getElem? (i := 23) (by decide +kernel), List.mem_of_getElem? (i := 278) (by decide +kernel), List.mem_of_getElem? (i := 279) (by decide +kernel)⟩
theorem lw_p1 : lw_okq (⟨"HoundLicence$Reader", "opens", "(I)Z"⟩, 5) := ⟨⟨by decide +kernel, by decide +kernel⟩, List.mem_of_getElem? (i := 23) (by decide +kernel), List.mem_of_getElem? (i := 282) (by decide +kernel), List.mem_of_getElem? (i := 283) (by decide +kernel)⟩
theorem lw_p2 : lw_okq (⟨"HoundLicence$Reader", "mayOpen", "(I)Z"⟩, 5) := ⟨⟨by decide +kernel, by decide +kernel⟩, List.mem_of_getElem? (i := 23) (by decide +kernel), List.mem_of_getElem? (i := 286) (by decide +kernel), List.mem_of_getElem? (i := 287) (by decide +kernel)⟩
theorem lw_p3 : lw_okq (⟨"HoundLicence$Reader", "takesHead", "(I)Z"⟩, 5) := ⟨⟨by decide +kernel, by decide +kernel⟩, List.mem_of_getElem? (i := 23) (by decide +kernel), List.mem_of_getElem? (i := 297) (by decide +kernel), List.mem_of_getElem? (i := 298) (by decide +kernel)⟩
theorem lw_p4 : lw_okq (⟨"HoundLicence$Reader", "goesOn", "(ZI)Z"⟩, 5) := ⟨⟨by decide +kernel, by decide +kernel⟩, List.mem_of_getElem? (i := 23) (by decide +kernel), List.mem_of_getElem? (i := 307) (by decide +kernel), List.mem_of_getElem? (i := 308) (by decide +kernel)⟩
theorem lw_p5 : lw_okq (⟨"HoundLicence$Reader", "takesDog", "(I)Z"⟩, 5) := ⟨⟨by decide +kernel, by decide +kernel⟩, List.mem_of_getElem? (i := 23) (by decide +kernel), List.mem_of_getElem? (i := 311) (by decide +kernel), List.mem_of_getElem? (i := 312) (by decide +kernel)⟩
theorem lw_p6 : lw_okq (⟨"HoundLicence$Reader", "takesMan", "(I)Z"⟩, 5) := ⟨⟨by decide +kernel, by decide +kernel⟩, List.mem_of_getElem? (i := 23) (by decide +kernel), List.mem_of_getElem? (i := 315) (by decide +kernel), List.mem_of_getElem? (i := 316) (by decide +kernel)⟩
theorem lw_p7 : lw_okq (⟨"HoundLicence$Reader", "takesParent", "(I)Z"⟩, 5) := ⟨⟨by decide +kernel, by decide +kernel⟩, List.mem_of_getElem? (i := 23) (by decide +kernel), List.mem_of_getElem? (i := 337) (by decide +kernel), List.mem_of_getElem? (i := 338) (by decide +kernel)⟩
theorem lw_p8 : lw_okq (⟨"HoundLicence$Law", "comesFrom", "(II)Z"⟩, 8) := ⟨⟨by decide +kernel, by decide +kernel⟩, List.mem_of_getElem? (i := 29) (by decide +kernel), List.mem_of_getElem? (i := 345) (by decide +kernel), List.mem_of_getElem? (i := 346) (by decide +kernel)⟩
theorem lw_p9 : lw_okq (⟨"HoundLicence$Acts", "forgetFirst", "()V"⟩, 2) := ⟨⟨by decide +kernel, by decide +kernel⟩, List.mem_of_getElem? (i := 145) (by decide +kernel), List.mem_of_getElem? (i := 425) (by decide +kernel), List.mem_of_getElem? (i := 426) (by decide +kernel)⟩
theorem lw_p10 : lw_okq (⟨"HoundLicence$Town", "serve", "(LHoundLicence$Law;I)V"⟩, 7) := ⟨⟨by decide +kernel, by decide +kernel⟩, List.mem_of_getElem? (i := 83) (by decide +kernel), List.mem_of_getElem? (i := 460) (by decide +kernel), List.mem_of_getElem? (i := 461) (by decide +kernel)⟩
theorem lw_p11 : lw_okq (⟨"HoundLicence$Town", "mayBeCaught", "(LHoundLicence$Law;IZ)Z"⟩, 7) := ⟨⟨by decide +kernel, by decide +kernel⟩, List.mem_of_getElem? (i := 83) (by decide +kernel), List.mem_of_getElem? (i := 465) (by decide +kernel), List.mem_of_getElem? (i := 466) (by decide +kernel)⟩
theorem lw_p12 : lw_okq (⟨"HoundLicence$Town", "impound", "(LHoundLicence$Law;I)V"⟩, 7) := ⟨⟨by decide +kernel, by decide +kernel⟩, List.mem_of_getElem? (i := 83) (by decide +kernel), List.mem_of_getElem? (i := 471) (by decide +kernel), List.mem_of_getElem? (i := 472) (by decide +kernel)⟩
theorem lw_p13 : lw_okq (⟨"HoundLicence", "tryHours", "(III)I"⟩, 11) := ⟨⟨by decide +kernel, by decide +kernel⟩, List.mem_of_getElem? (i := 15) (by decide +kernel), List.mem_of_getElem? (i := 487) (by decide +kernel), List.mem_of_getElem? (i := 488) (by decide +kernel)⟩
theorem lw_p14 : lw_okq (⟨"HoundLicence$Ahead", "waysBy", "(II)I"⟩, 4) := ⟨⟨by decide +kernel, by decide +kernel⟩, List.mem_of_getElem? (i := 177) (by decide +kernel), List.mem_of_getElem? (i := 508) (by decide +kernel), List.mem_of_getElem? (i := 509) (by decide +kernel)⟩
theorem lw_p15 : lw_okq (⟨"HoundLicence$Ahead", "firstWay", "(II)I"⟩, 4) := ⟨⟨by decide +kernel, by decide +kernel⟩, List.mem_of_getElem? (i := 177) (by decide +kernel), List.mem_of_getElem? (i := 520) (by decide +kernel), List.mem_of_getElem? (i := 521) (by decide +kernel)⟩
def lw_privs_1 : List (MethodName × Nat) := [(⟨"HoundLicence$Reader", "takes", "(I)Z"⟩, 5), (⟨"HoundLicence$Reader", "opens", "(I)Z"⟩, 5), (⟨"HoundLicence$Reader", "mayOpen", "(I)Z"⟩, 5), (⟨"HoundLicence$Reader", "takesHead", "(I)Z"⟩, 5), (⟨"HoundLicence$Reader", "goesOn", "(ZI)Z"⟩, 5), (⟨"HoundLicence$Reader", "takesDog", "(I)Z"⟩, 5), (⟨"HoundLicence$Reader", "takesMan", "(I)Z"⟩, 5), (⟨"HoundLicence$Reader", "takesParent", "(I)Z"⟩, 5), (⟨"HoundLicence$Law", "comesFrom", "(II)Z"⟩, 8), (⟨"HoundLicence$Acts", "forgetFirst", "()V"⟩, 2), (⟨"HoundLicence$Town", "serve", "(LHoundLicence$Law;I)V"⟩, 7), (⟨"HoundLicence$Town", "mayBeCaught", "(LHoundLicence$Law;IZ)Z"⟩, 7), (⟨"HoundLicence$Town", "impound", "(LHoundLicence$Law;I)V"⟩, 7), (⟨"HoundLicence", "tryHours", "(III)I"⟩, 11), (⟨"HoundLicence$Ahead", "waysBy", "(II)I"⟩, 4), (⟨"HoundLicence$Ahead", "firstWay", "(II)I"⟩, 4)]
theorem lw_r1 : ∀ q ∈ lw_privs_1, lw_okq q := List.forall_mem_cons.mpr ⟨lw_p0, List.forall_mem_cons.mpr ⟨lw_p1, List.forall_mem_cons.mpr ⟨lw_p2, List.forall_mem_cons.mpr ⟨lw_p3, List.forall_mem_cons.mpr ⟨lw_p4, List.forall_mem_cons.mpr ⟨lw_p5, List.forall_mem_cons.mpr ⟨lw_p6, List.forall_mem_cons.mpr ⟨lw_p7, List.forall_mem_cons.mpr ⟨lw_p8, List.forall_mem_cons.mpr ⟨lw_p9, List.forall_mem_cons.mpr ⟨lw_p10, List.forall_mem_cons.mpr ⟨lw_p11, List.forall_mem_cons.mpr ⟨lw_p12, List.forall_mem_cons.mpr ⟨lw_p13, List.forall_mem_cons.mpr ⟨lw_p14, List.forall_mem_cons.mpr ⟨lw_p15, fun _ h => absurd h List.not_mem_nil⟩⟩⟩⟩⟩⟩⟩⟩⟩⟩⟩⟩⟩⟩⟩⟩
theorem lw_p16 : lw_okq (⟨"HoundLicence$Ahead", "clearNext", "()V"⟩, 4) := ⟨⟨by decide +kernel, by decide +kernel⟩, List.mem_of_getElem? (i := 177) (by decide +kernel), List.mem_of_getElem? (i := 536) (by decide +kernel), List.mem_of_getElem? (i := 537) (by decide +kernel)⟩
theorem lw_p17 : lw_okq (⟨"HoundLicence$Ahead", "swap", "()V"⟩, 4) := ⟨⟨by decide +kernel, by decide +kernel⟩, List.mem_of_getElem? (i := 177) (by decide +kernel), List.mem_of_getElem? (i := 540) (by decide +kernel), List.mem_of_getElem? (i := 541) (by decide +kernel)⟩
theorem lw_p18 : lw_okq (⟨"HoundLicence$Ahead", "spread", "(II)V"⟩, 4) := ⟨⟨by decide +kernel, by decide +kernel⟩, List.mem_of_getElem? (i := 177) (by decide +kernel), List.mem_of_getElem? (i := 544) (by decide +kernel), List.mem_of_getElem? (i := 545) (by decide +kernel)⟩
theorem lw_p19 : lw_okq (⟨"HoundLicence$Ahead", "allReached", "()Z"⟩, 4) := ⟨⟨by decide +kernel, by decide +kernel⟩, List.mem_of_getElem? (i := 177) (by decide +kernel), List.mem_of_getElem? (i := 551) (by decide +kernel), List.mem_of_getElem? (i := 552) (by decide +kernel)⟩
theorem lw_p20 : lw_okq (⟨"HoundLicence$Sightings", "fits", "(LHoundLicence$Law;LHoundLicence$Town;II)Z"⟩, 6) := ⟨⟨by decide +kernel, by decide +kernel⟩, List.mem_of_getElem? (i := 198) (by decide +kernel), List.mem_of_getElem? (i := 597) (by decide +kernel), List.mem_of_getElem? (i := 598) (by decide +kernel)⟩
theorem lw_p21 : lw_okq (⟨"HoundLicence$Sightings", "share", "(LHoundLicence$Law;I)I"⟩, 6) := ⟨⟨by decide +kernel, by decide +kernel⟩, List.mem_of_getElem? (i := 198) (by decide +kernel), List.mem_of_getElem? (i := 609) (by decide +kernel), List.mem_of_getElem? (i := 610) (by decide +kernel)⟩
theorem lw_p22 : lw_okq (⟨"HoundLicenceModel", "readLaw", "()I"⟩, 31) := ⟨⟨by decide +kernel, by decide +kernel⟩, List.mem_of_getElem? (i := 677) (by decide +kernel), List.mem_of_getElem? (i := 794) (by decide +kernel), List.mem_of_getElem? (i := 795) (by decide +kernel)⟩
theorem lw_p23 : lw_okq (⟨"HoundLicenceModel", "readHead", "()Z"⟩, 31) := ⟨⟨by decide +kernel, by decide +kernel⟩, List.mem_of_getElem? (i := 677) (by decide +kernel), List.mem_of_getElem? (i := 798) (by decide +kernel), List.mem_of_getElem? (i := 799) (by decide +kernel)⟩
theorem lw_p24 : lw_okq (⟨"HoundLicenceModel", "figure", "(II)I"⟩, 31) := ⟨⟨by decide +kernel, by decide +kernel⟩, List.mem_of_getElem? (i := 677) (by decide +kernel), List.mem_of_getElem? (i := 802) (by decide +kernel), List.mem_of_getElem? (i := 803) (by decide +kernel)⟩
theorem lw_p25 : lw_okq (⟨"HoundLicenceModel", "readPart", "()Z"⟩, 31) := ⟨⟨by decide +kernel, by decide +kernel⟩, List.mem_of_getElem? (i := 677) (by decide +kernel), List.mem_of_getElem? (i := 806) (by decide +kernel), List.mem_of_getElem? (i := 807) (by decide +kernel)⟩
theorem lw_p26 : lw_okq (⟨"HoundLicenceModel", "readDog", "()Z"⟩, 31) := ⟨⟨by decide +kernel, by decide +kernel⟩, List.mem_of_getElem? (i := 677) (by decide +kernel), List.mem_of_getElem? (i := 810) (by decide +kernel), List.mem_of_getElem? (i := 811) (by decide +kernel)⟩
theorem lw_p27 : lw_okq (⟨"HoundLicenceModel", "readMan", "()Z"⟩, 31) := ⟨⟨by decide +kernel, by decide +kernel⟩, List.mem_of_getElem? (i := 677) (by decide +kernel), List.mem_of_getElem? (i := 814) (by decide +kernel), List.mem_of_getElem? (i := 815) (by decide +kernel)⟩
theorem lw_p28 : lw_okq (⟨"HoundLicenceModel", "rooms", "()I"⟩, 31) := ⟨⟨by decide +kernel, by decide +kernel⟩, List.mem_of_getElem? (i := 677) (by decide +kernel), List.mem_of_getElem? (i := 818) (by decide +kernel), List.mem_of_getElem? (i := 819) (by decide +kernel)⟩
theorem lw_p29 : lw_okq (⟨"HoundLicenceModel", "one", "(I)I"⟩, 31) := ⟨⟨by decide +kernel, by decide +kernel⟩, List.mem_of_getElem? (i := 677) (by decide +kernel), List.mem_of_getElem? (i := 822) (by decide +kernel), List.mem_of_getElem? (i := 823) (by decide +kernel)⟩
theorem lw_p30 : lw_okq (⟨"HoundLicenceModel", "parents", "()I"⟩, 31) := ⟨⟨by decide +kernel, by decide +kernel⟩, List.mem_of_getElem? (i := 677) (by decide +kernel), List.mem_of_getElem? (i := 830) (by decide +kernel), List.mem_of_getElem? (i := 831) (by decide +kernel)⟩
theorem lw_p31 : lw_okq (⟨"HoundLicenceModel", "young", "(I)I"⟩, 31) := ⟨⟨by decide +kernel, by decide +kernel⟩, List.mem_of_getElem? (i := 677) (by decide +kernel), List.mem_of_getElem? (i := 834) (by decide +kernel), List.mem_of_getElem? (i := 835) (by decide +kernel)⟩
def lw_privs_2 : List (MethodName × Nat) := [(⟨"HoundLicence$Ahead", "clearNext", "()V"⟩, 4), (⟨"HoundLicence$Ahead", "swap", "()V"⟩, 4), (⟨"HoundLicence$Ahead", "spread", "(II)V"⟩, 4), (⟨"HoundLicence$Ahead", "allReached", "()Z"⟩, 4), (⟨"HoundLicence$Sightings", "fits", "(LHoundLicence$Law;LHoundLicence$Town;II)Z"⟩, 6), (⟨"HoundLicence$Sightings", "share", "(LHoundLicence$Law;I)I"⟩, 6), (⟨"HoundLicenceModel", "readLaw", "()I"⟩, 31), (⟨"HoundLicenceModel", "readHead", "()Z"⟩, 31), (⟨"HoundLicenceModel", "figure", "(II)I"⟩, 31), (⟨"HoundLicenceModel", "readPart", "()Z"⟩, 31), (⟨"HoundLicenceModel", "readDog", "()Z"⟩, 31), (⟨"HoundLicenceModel", "readMan", "()Z"⟩, 31), (⟨"HoundLicenceModel", "rooms", "()I"⟩, 31), (⟨"HoundLicenceModel", "one", "(I)I"⟩, 31), (⟨"HoundLicenceModel", "parents", "()I"⟩, 31), (⟨"HoundLicenceModel", "young", "(I)I"⟩, 31)]
theorem lw_r2 : ∀ q ∈ lw_privs_2, lw_okq q := List.forall_mem_cons.mpr ⟨lw_p16, List.forall_mem_cons.mpr ⟨lw_p17, List.forall_mem_cons.mpr ⟨lw_p18, List.forall_mem_cons.mpr ⟨lw_p19, List.forall_mem_cons.mpr ⟨lw_p20, List.forall_mem_cons.mpr ⟨lw_p21, List.forall_mem_cons.mpr ⟨lw_p22, List.forall_mem_cons.mpr ⟨lw_p23, List.forall_mem_cons.mpr ⟨lw_p24, List.forall_mem_cons.mpr ⟨lw_p25, List.forall_mem_cons.mpr ⟨lw_p26, List.forall_mem_cons.mpr ⟨lw_p27, List.forall_mem_cons.mpr ⟨lw_p28, List.forall_mem_cons.mpr ⟨lw_p29, List.forall_mem_cons.mpr ⟨lw_p30, List.forall_mem_cons.mpr ⟨lw_p31, fun _ h => absurd h List.not_mem_nil⟩⟩⟩⟩⟩⟩⟩⟩⟩⟩⟩⟩⟩⟩⟩⟩
theorem lw_p32 : lw_okq (⟨"HoundLicenceModel", "comes", "(II)Z"⟩, 31) := ⟨⟨by decide +kernel, by decide +kernel⟩, List.mem_of_getElem? (i := 677) (by decide +kernel), List.mem_of_getElem? (i := 838) (by decide +kernel), List.mem_of_getElem? (i := 839) (by decide +kernel)⟩
theorem lw_p33 : lw_okq (⟨"HoundLicenceModel", "readParent", "()Z"⟩, 31) := ⟨⟨by decide +kernel, by decide +kernel⟩, List.mem_of_getElem? (i := 677) (by decide +kernel), List.mem_of_getElem? (i := 842) (by decide +kernel), List.mem_of_getElem? (i := 843) (by decide +kernel)⟩
theorem lw_p34 : lw_okq (⟨"HoundLicenceModel", "impounded", "()I"⟩, 31) := ⟨⟨by decide +kernel, by decide +kernel⟩, List.mem_of_getElem? (i := 677) (by decide +kernel), List.mem_of_getElem? (i := 854) (by decide +kernel), List.mem_of_getElem? (i := 855) (by decide +kernel)⟩
theorem lw_p35 : lw_okq (⟨"HoundLicenceModel", "noDog", "(I)Z"⟩, 31) := ⟨⟨by decide +kernel, by decide +kernel⟩, List.mem_of_getElem? (i := 677) (by decide +kernel), List.mem_of_getElem? (i := 865) (by decide +kernel), List.mem_of_getElem? (i := 866) (by decide +kernel)⟩
theorem lw_p36 : lw_okq (⟨"HoundLicenceModel", "keeps", "([II)I"⟩, 31) := ⟨⟨by decide +kernel, by decide +kernel⟩, List.mem_of_getElem? (i := 677) (by decide +kernel), List.mem_of_getElem? (i := 869) (by decide +kernel), List.mem_of_getElem? (i := 870) (by decide +kernel)⟩
theorem lw_p37 : lw_okq (⟨"HoundLicenceModel", "noMan", "(I)Z"⟩, 31) := ⟨⟨by decide +kernel, by decide +kernel⟩, List.mem_of_getElem? (i := 677) (by decide +kernel), List.mem_of_getElem? (i := 877) (by decide +kernel), List.mem_of_getElem? (i := 878) (by decide +kernel)⟩
theorem lw_p38 : lw_okq (⟨"HoundLicenceModel", "note", "()V"⟩, 31) := ⟨⟨by decide +kernel, by decide +kernel⟩, List.mem_of_getElem? (i := 677) (by decide +kernel), List.mem_of_getElem? (i := 886) (by decide +kernel), List.mem_of_getElem? (i := 887) (by decide +kernel)⟩
theorem lw_p39 : lw_okq (⟨"HoundLicenceModel", "goLead", "([III)V"⟩, 31) := ⟨⟨by decide +kernel, by decide +kernel⟩, List.mem_of_getElem? (i := 677) (by decide +kernel), List.mem_of_getElem? (i := 890) (by decide +kernel), List.mem_of_getElem? (i := 891) (by decide +kernel)⟩
theorem lw_p40 : lw_okq (⟨"HoundLicenceModel", "goHour", "([III)I"⟩, 31) := ⟨⟨by decide +kernel, by decide +kernel⟩, List.mem_of_getElem? (i := 677) (by decide +kernel), List.mem_of_getElem? (i := 909) (by decide +kernel), List.mem_of_getElem? (i := 910) (by decide +kernel)⟩
theorem lw_p41 : lw_okq (⟨"HoundLicenceModel", "begin", "()V"⟩, 31) := ⟨⟨by decide +kernel, by decide +kernel⟩, List.mem_of_getElem? (i := 677) (by decide +kernel), List.mem_of_getElem? (i := 922) (by decide +kernel), List.mem_of_getElem? (i := 923) (by decide +kernel)⟩
theorem lw_p42 : lw_okq (⟨"HoundLicenceModel", "goes", "(IIIZ)Z"⟩, 31) := ⟨⟨by decide +kernel, by decide +kernel⟩, List.mem_of_getElem? (i := 677) (by decide +kernel), List.mem_of_getElem? (i := 935) (by decide +kernel), List.mem_of_getElem? (i := 936) (by decide +kernel)⟩
theorem lw_p43 : lw_okq (⟨"HoundLicenceModel", "isAlone", "(I)Z"⟩, 31) := ⟨⟨by decide +kernel, by decide +kernel⟩, List.mem_of_getElem? (i := 677) (by decide +kernel), List.mem_of_getElem? (i := 939) (by decide +kernel), List.mem_of_getElem? (i := 940) (by decide +kernel)⟩
theorem lw_p44 : lw_okq (⟨"HoundLicenceModel", "streetsOf", "(III)I"⟩, 31) := ⟨⟨by decide +kernel, by decide +kernel⟩, List.mem_of_getElem? (i := 677) (by decide +kernel), List.mem_of_getElem? (i := 947) (by decide +kernel), List.mem_of_getElem? (i := 948) (by decide +kernel)⟩
theorem lw_p45 : lw_okq (⟨"HoundLicenceModel", "findWalks", "()V"⟩, 31) := ⟨⟨by decide +kernel, by decide +kernel⟩, List.mem_of_getElem? (i := 677) (by decide +kernel), List.mem_of_getElem? (i := 978) (by decide +kernel), List.mem_of_getElem? (i := 979) (by decide +kernel)⟩
theorem lw_p46 : lw_okq (⟨"HoundLicenceModel", "isWalk", "(I)Z"⟩, 31) := ⟨⟨by decide +kernel, by decide +kernel⟩, List.mem_of_getElem? (i := 677) (by decide +kernel), List.mem_of_getElem? (i := 982) (by decide +kernel), List.mem_of_getElem? (i := 983) (by decide +kernel)⟩
theorem lw_p47 : lw_okq (⟨"HoundLicenceModel", "wasAt", "(III)I"⟩, 31) := ⟨⟨by decide +kernel, by decide +kernel⟩, List.mem_of_getElem? (i := 677) (by decide +kernel), List.mem_of_getElem? (i := 986) (by decide +kernel), List.mem_of_getElem? (i := 987) (by decide +kernel)⟩
def lw_privs_3 : List (MethodName × Nat) := [(⟨"HoundLicenceModel", "comes", "(II)Z"⟩, 31), (⟨"HoundLicenceModel", "readParent", "()Z"⟩, 31), (⟨"HoundLicenceModel", "impounded", "()I"⟩, 31), (⟨"HoundLicenceModel", "noDog", "(I)Z"⟩, 31), (⟨"HoundLicenceModel", "keeps", "([II)I"⟩, 31), (⟨"HoundLicenceModel", "noMan", "(I)Z"⟩, 31), (⟨"HoundLicenceModel", "note", "()V"⟩, 31), (⟨"HoundLicenceModel", "goLead", "([III)V"⟩, 31), (⟨"HoundLicenceModel", "goHour", "([III)I"⟩, 31), (⟨"HoundLicenceModel", "begin", "()V"⟩, 31), (⟨"HoundLicenceModel", "goes", "(IIIZ)Z"⟩, 31), (⟨"HoundLicenceModel", "isAlone", "(I)Z"⟩, 31), (⟨"HoundLicenceModel", "streetsOf", "(III)I"⟩, 31), (⟨"HoundLicenceModel", "findWalks", "()V"⟩, 31), (⟨"HoundLicenceModel", "isWalk", "(I)Z"⟩, 31), (⟨"HoundLicenceModel", "wasAt", "(III)I"⟩, 31)]
theorem lw_r3 : ∀ q ∈ lw_privs_3, lw_okq q := List.forall_mem_cons.mpr ⟨lw_p32, List.forall_mem_cons.mpr ⟨lw_p33, List.forall_mem_cons.mpr ⟨lw_p34, List.forall_mem_cons.mpr ⟨lw_p35, List.forall_mem_cons.mpr ⟨lw_p36, List.forall_mem_cons.mpr ⟨lw_p37, List.forall_mem_cons.mpr ⟨lw_p38, List.forall_mem_cons.mpr ⟨lw_p39, List.forall_mem_cons.mpr ⟨lw_p40, List.forall_mem_cons.mpr ⟨lw_p41, List.forall_mem_cons.mpr ⟨lw_p42, List.forall_mem_cons.mpr ⟨lw_p43, List.forall_mem_cons.mpr ⟨lw_p44, List.forall_mem_cons.mpr ⟨lw_p45, List.forall_mem_cons.mpr ⟨lw_p46, List.forall_mem_cons.mpr ⟨lw_p47, fun _ h => absurd h List.not_mem_nil⟩⟩⟩⟩⟩⟩⟩⟩⟩⟩⟩⟩⟩⟩⟩⟩
def lw_privs : List (MethodName × Nat) := lw_privs_1 ++ (lw_privs_2 ++ (lw_privs_3))
def lw_tbl : List Cond := k2_sels lw_privs ++ tables_1
theorem lw_privs_ok : ∀ q ∈ lw_privs, lw_okq q := by
  show ∀ q ∈ lw_privs_1 ++ (lw_privs_2 ++ (lw_privs_3)), lw_okq q
  exact List.forall_mem_append.mpr ⟨lw_r1, List.forall_mem_append.mpr ⟨lw_r2, lw_r3⟩⟩
-- names
def RX0 : String := "HoundLicence$Acts"
def TX0 : u_T := fun k => match k with
  | 0 => ("HoundLicence$Acts", "count", "I", false)
  | _ => ("HoundLicence$Acts", "before", "[LHoundLicence$Town;", true)
def tyX0 : Nat → FieldType := fun k => match k with
  | 0 => .int
  | _ => .array (.object "HoundLicence$Town")
abbrev wsX00 : List Cond := u_ws RX0 TX0 2
theorem nmX0 : ∀ a, a < 2 → ∀ b, b < 2 → a ≠ b → (TX0 a).2.1 ≠ (TX0 b).2.1 := by decide +kernel
theorem tyX0_ok : ∀ k, k < 2 → parseFieldDescriptor (TX0 k).2.2.1 = some (tyX0 k) := by decide +kernel
abbrev cX0_init : ByteArray := prog_2_method_1_code
def yX0_init : MethodName := ⟨RX0, "<init>", "()V"⟩
abbrev cX0_forget : ByteArray := prog_2_method_2_code
def yX0_forget : MethodName := ⟨RX0, "forget", "()V"⟩
abbrev cX0_remember : ByteArray := prog_2_method_3_code
def yX0_remember : MethodName := ⟨RX0, "remember", "(LHoundLicence$Town;)V"⟩
abbrev cX0_takeBack : ByteArray := prog_2_method_4_code
def yX0_takeBack : MethodName := ⟨RX0, "takeBack", "(LHoundLicence$Town;)V"⟩
abbrev cX0_forgetFirst : ByteArray := prog_2_method_5_code
def yX0_forgetFirst : MethodName := ⟨RX0, "forgetFirst", "()V"⟩
def RX1 : String := "HoundLicence$Ahead"
def TX1 : u_T := fun k => match k with
  | 0 => ("HoundLicence$Ahead", "peril", "[I", true)
  | 1 => ("HoundLicence$Ahead", "ways", "[[I", true)
  | 2 => ("HoundLicence$Ahead", "reached", "[I", false)
  | _ => ("HoundLicence$Ahead", "reachedNext", "[I", false)
def tyX1 : Nat → FieldType := fun k => match k with
  | 0 => .array .int
  | 1 => .array (.array .int)
  | 2 => .array .int
  | _ => .array .int
abbrev wsX10 : List Cond := u_ws RX1 TX1 4
theorem nmX1 : ∀ a, a < 4 → ∀ b, b < 4 → a ≠ b → (TX1 a).2.1 ≠ (TX1 b).2.1 := by decide +kernel
theorem tyX1_ok : ∀ k, k < 4 → parseFieldDescriptor (TX1 k).2.2.1 = some (tyX1 k) := by decide +kernel
abbrev cX1_init : ByteArray := prog_3_method_1_code
def yX1_init : MethodName := ⟨RX1, "<init>", "()V"⟩
abbrev cX1_look : ByteArray := prog_3_method_2_code
def yX1_look : MethodName := ⟨RX1, "look", "(LHoundLicence$Law;LHoundLicence$Town;I)V"⟩
abbrev cX1_countWays : ByteArray := prog_3_method_3_code
def yX1_countWays : MethodName := ⟨RX1, "countWays", "(II)V"⟩
abbrev cX1_waysBy : ByteArray := prog_3_method_4_code
def yX1_waysBy : MethodName := ⟨RX1, "waysBy", "(II)I"⟩
abbrev cX1_waysFrom : ByteArray := prog_3_method_5_code
def yX1_waysFrom : MethodName := ⟨RX1, "waysFrom", "(I)I"⟩
abbrev cX1_firstRow : ByteArray := prog_3_method_6_code
def yX1_firstRow : MethodName := ⟨RX1, "firstRow", "(II)I"⟩
abbrev cX1_firstWay : ByteArray := prog_3_method_7_code
def yX1_firstWay : MethodName := ⟨RX1, "firstWay", "(II)I"⟩
abbrev cX1_fewestHours : ByteArray := prog_3_method_8_code
def yX1_fewestHours : MethodName := ⟨RX1, "fewestHours", "(I)I"⟩
abbrev cX1_clearNext : ByteArray := prog_3_method_9_code
def yX1_clearNext : MethodName := ⟨RX1, "clearNext", "()V"⟩
abbrev cX1_swap : ByteArray := prog_3_method_10_code
def yX1_swap : MethodName := ⟨RX1, "swap", "()V"⟩
abbrev cX1_spread : ByteArray := prog_3_method_11_code
def yX1_spread : MethodName := ⟨RX1, "spread", "(II)V"⟩
abbrev cX1_withStreet : ByteArray := prog_3_method_12_code
def yX1_withStreet : MethodName := ⟨RX1, "withStreet", "(II)I"⟩
abbrev cX1_allReached : ByteArray := prog_3_method_13_code
def yX1_allReached : MethodName := ⟨RX1, "allReached", "()Z"⟩
def RX2 : String := "HoundLicence$Law"
def TX2 : u_T := fun k => match k with
  | 0 => ("HoundLicence$Law", "dogs", "I", false)
  | 1 => ("HoundLicence$Law", "men", "I", false)
  | 2 => ("HoundLicence$Law", "leash", "I", false)
  | 3 => ("HoundLicence$Law", "singers", "I", false)
  | 4 => ("HoundLicence$Law", "round", "[I", true)
  | 5 => ("HoundLicence$Law", "rank", "[I", true)
  | 6 => ("HoundLicence$Law", "room", "[I", true)
  | _ => ("HoundLicence$Law", "parent", "[I", true)
def tyX2 : Nat → FieldType := fun k => match k with
  | 0 => .int
  | 1 => .int
  | 2 => .int
  | 3 => .int
  | 4 => .array .int
  | 5 => .array .int
  | 6 => .array .int
  | _ => .array .int
abbrev wsX20 : List Cond := u_ws RX2 TX2 8
theorem nmX2 : ∀ a, a < 8 → ∀ b, b < 8 → a ≠ b → (TX2 a).2.1 ≠ (TX2 b).2.1 := by decide +kernel
theorem tyX2_ok : ∀ k, k < 8 → parseFieldDescriptor (TX2 k).2.2.1 = some (tyX2 k) := by decide +kernel
abbrev cX2_init : ByteArray := prog_4_method_1_code
def yX2_init : MethodName := ⟨RX2, "<init>", "()V"⟩
abbrev cX2_clear : ByteArray := prog_4_method_2_code
def yX2_clear : MethodName := ⟨RX2, "clear", "()V"⟩
abbrev cX2_become : ByteArray := prog_4_method_3_code
def yX2_become : MethodName := ⟨RX2, "become", "(LHoundLicence$Law;)V"⟩
abbrev cX2_hasDog : ByteArray := prog_4_method_4_code
def yX2_hasDog : MethodName := ⟨RX2, "hasDog", "(I)Z"⟩
abbrev cX2_hasMan : ByteArray := prog_4_method_5_code
def yX2_hasMan : MethodName := ⟨RX2, "hasMan", "(I)Z"⟩
abbrev cX2_sings : ByteArray := prog_4_method_6_code
def yX2_sings : MethodName := ⟨RX2, "sings", "(I)Z"⟩
abbrev cX2_wardenAt : ByteArray := prog_4_method_7_code
def yX2_wardenAt : MethodName := ⟨RX2, "wardenAt", "(I)I"⟩
abbrev cX2_mayParent : ByteArray := prog_4_method_8_code
def yX2_mayParent : MethodName := ⟨RX2, "mayParent", "(II)Z"⟩
abbrev cX2_mayParentSome : ByteArray := prog_4_method_9_code
def yX2_mayParentSome : MethodName := ⟨RX2, "mayParentSome", "()Z"⟩
abbrev cX2_comesFrom : ByteArray := prog_4_method_10_code
def yX2_comesFrom : MethodName := ⟨RX2, "comesFrom", "(II)Z"⟩
abbrev cX2_hasRival : ByteArray := prog_4_method_11_code
def yX2_hasRival : MethodName := ⟨RX2, "hasRival", "(I)Z"⟩
abbrev cX2_degree : ByteArray := prog_4_method_12_code
def yX2_degree : MethodName := ⟨RX2, "degree", "(II)I"⟩
abbrev cX2_inheritsBefore : ByteArray := prog_4_method_13_code
def yX2_inheritsBefore : MethodName := ⟨RX2, "inheritsBefore", "(III)Z"⟩
def RX3 : String := "HoundLicence$Reader"
def TX3 : u_T := fun k => match k with
  | 0 => ("HoundLicence$Reader", "law", "LHoundLicence$Law;", true)
  | 1 => ("HoundLicence$Reader", "town", "LHoundLicence$Town;", true)
  | 2 => ("HoundLicence$Reader", "part", "I", false)
  | 3 => ("HoundLicence$Reader", "place", "I", false)
  | _ => ("HoundLicence$Reader", "parent", "I", false)
def tyX3 : Nat → FieldType := fun k => match k with
  | 0 => .object "HoundLicence$Law"
  | 1 => .object "HoundLicence$Town"
  | 2 => .int
  | 3 => .int
  | _ => .int
abbrev wsX30 : List Cond := u_ws RX3 TX3 5
theorem nmX3 : ∀ a, a < 5 → ∀ b, b < 5 → a ≠ b → (TX3 a).2.1 ≠ (TX3 b).2.1 := by decide +kernel
theorem tyX3_ok : ∀ k, k < 5 → parseFieldDescriptor (TX3 k).2.2.1 = some (tyX3 k) := by decide +kernel
abbrev cX3_init : ByteArray := prog_5_method_1_code
def yX3_init : MethodName := ⟨RX3, "<init>", "()V"⟩
abbrev cX3_firstFault : ByteArray := prog_5_method_2_code
def yX3_firstFault : MethodName := ⟨RX3, "firstFault", "([II)I"⟩
abbrev cX3_takes : ByteArray := prog_5_method_3_code
def yX3_takes : MethodName := ⟨RX3, "takes", "(I)Z"⟩
abbrev cX3_opens : ByteArray := prog_5_method_4_code
def yX3_opens : MethodName := ⟨RX3, "opens", "(I)Z"⟩
abbrev cX3_goesOn : ByteArray := prog_5_method_5_code
def yX3_goesOn : MethodName := ⟨RX3, "goesOn", "(ZI)Z"⟩
abbrev cX3_mayOpen : ByteArray := prog_5_method_6_code
def yX3_mayOpen : MethodName := ⟨RX3, "mayOpen", "(I)Z"⟩
abbrev cX3_figure : ByteArray := prog_5_method_7_code
def yX3_figure : MethodName := ⟨RX3, "figure", "(I)I"⟩
abbrev cX3_isStreet : ByteArray := prog_5_method_8_code
def yX3_isStreet : MethodName := ⟨RX3, "isStreet", "(I)Z"⟩
abbrev cX3_takesHead : ByteArray := prog_5_method_9_code
def yX3_takesHead : MethodName := ⟨RX3, "takesHead", "(I)Z"⟩
abbrev cX3_takesDog : ByteArray := prog_5_method_10_code
def yX3_takesDog : MethodName := ⟨RX3, "takesDog", "(I)Z"⟩
abbrev cX3_takesMan : ByteArray := prog_5_method_11_code
def yX3_takesMan : MethodName := ⟨RX3, "takesMan", "(I)Z"⟩
abbrev cX3_takesParent : ByteArray := prog_5_method_12_code
def yX3_takesParent : MethodName := ⟨RX3, "takesParent", "(I)Z"⟩
def RX4 : String := "HoundLicence$Rest"
def TX4 : u_T := fun k => match k with
  | _ => ("", "", "", false)
def tyX4 : Nat → FieldType := fun k => match k with
  | _ => .int
abbrev wsX40 : List Cond := u_ws RX4 TX4 0
theorem nmX4 : ∀ a, a < 0 → ∀ b, b < 0 → a ≠ b → (TX4 a).2.1 ≠ (TX4 b).2.1 := by decide +kernel
theorem tyX4_ok : ∀ k, k < 0 → parseFieldDescriptor (TX4 k).2.2.1 = some (tyX4 k) := by decide +kernel
abbrev cX4_holds : ByteArray := prog_6_method_2_code
def yX4_holds : MethodName := ⟨RX4, "holds", "(III)Z"⟩
abbrev cX4_wardens : ByteArray := prog_6_method_3_code
def yX4_wardens : MethodName := ⟨RX4, "wardens", "(III)I"⟩
abbrev cX4_bachelors : ByteArray := prog_6_method_4_code
def yX4_bachelors : MethodName := ⟨RX4, "bachelors", "(III)I"⟩
abbrev cX4_worth : ByteArray := prog_6_method_5_code
def yX4_worth : MethodName := ⟨RX4, "worth", "(II)I"⟩
def RX5 : String := "HoundLicence$Sightings"
def TX5 : u_T := fun k => match k with
  | 0 => ("HoundLicence$Sightings", "count", "I", false)
  | 1 => ("HoundLicence$Sightings", "man", "[I", true)
  | 2 => ("HoundLicence$Sightings", "street", "[I", true)
  | 3 => ("HoundLicence$Sightings", "hour", "[I", true)
  | 4 => ("HoundLicence$Sightings", "may", "[I", true)
  | _ => ("HoundLicence$Sightings", "roomLeft", "[I", true)
def tyX5 : Nat → FieldType := fun k => match k with
  | 0 => .int
  | 1 => .array .int
  | 2 => .array .int
  | 3 => .array .int
  | 4 => .array .int
  | _ => .array .int
abbrev wsX50 : List Cond := u_ws RX5 TX5 6
theorem nmX5 : ∀ a, a < 6 → ∀ b, b < 6 → a ≠ b → (TX5 a).2.1 ≠ (TX5 b).2.1 := by decide +kernel
theorem tyX5_ok : ∀ k, k < 6 → parseFieldDescriptor (TX5 k).2.2.1 = some (tyX5 k) := by decide +kernel
abbrev cX5_init : ByteArray := prog_7_method_1_code
def yX5_init : MethodName := ⟨RX5, "<init>", "()V"⟩
abbrev cX5_add : ByteArray := prog_7_method_2_code
def yX5_add : MethodName := ⟨RX5, "add", "(III)V"⟩
abbrev cX5_look : ByteArray := prog_7_method_3_code
def yX5_look : MethodName := ⟨RX5, "look", "(LHoundLicence$Law;LHoundLicence$Town;)V"⟩
abbrev cX5_fits : ByteArray := prog_7_method_4_code
def yX5_fits : MethodName := ⟨RX5, "fits", "(LHoundLicence$Law;LHoundLicence$Town;II)Z"⟩
abbrev cX5_streetWith : ByteArray := prog_7_method_5_code
def yX5_streetWith : MethodName := ⟨RX5, "streetWith", "(LHoundLicence$Law;LHoundLicence$Town;III)I"⟩
abbrev cX5_ways : ByteArray := prog_7_method_6_code
def yX5_ways : MethodName := ⟨RX5, "ways", "(LHoundLicence$Law;)I"⟩
abbrev cX5_share : ByteArray := prog_7_method_7_code
def yX5_share : MethodName := ⟨RX5, "share", "(LHoundLicence$Law;I)I"⟩
abbrev cX5_onlyCompany : ByteArray := prog_7_method_8_code
def yX5_onlyCompany : MethodName := ⟨RX5, "onlyCompany", "(LHoundLicence$Law;I)I"⟩
def RX6 : String := "HoundLicence$Slots"
def TX6 : u_T := fun k => match k with
  | 0 => ("HoundLicence$Slots", "kept", "[LHoundLicence$Town;", true)
  | _ => ("HoundLicence$Slots", "full", "I", false)
def tyX6 : Nat → FieldType := fun k => match k with
  | 0 => .array (.object "HoundLicence$Town")
  | _ => .int
abbrev wsX60 : List Cond := u_ws RX6 TX6 2
theorem nmX6 : ∀ a, a < 2 → ∀ b, b < 2 → a ≠ b → (TX6 a).2.1 ≠ (TX6 b).2.1 := by decide +kernel
theorem tyX6_ok : ∀ k, k < 2 → parseFieldDescriptor (TX6 k).2.2.1 = some (tyX6 k) := by decide +kernel
abbrev cX6_init : ByteArray := prog_8_method_1_code
def yX6_init : MethodName := ⟨RX6, "<init>", "()V"⟩
abbrev cX6_forget : ByteArray := prog_8_method_2_code
def yX6_forget : MethodName := ⟨RX6, "forget", "()V"⟩
abbrev cX6_holds : ByteArray := prog_8_method_3_code
def yX6_holds : MethodName := ⟨RX6, "holds", "(I)Z"⟩
abbrev cX6_put : ByteArray := prog_8_method_4_code
def yX6_put : MethodName := ⟨RX6, "put", "(ILHoundLicence$Town;)V"⟩
abbrev cX6_restore : ByteArray := prog_8_method_5_code
def yX6_restore : MethodName := ⟨RX6, "restore", "(ILHoundLicence$Town;)V"⟩
def RX7 : String := "HoundLicence$Town"
def TX7 : u_T := fun k => match k with
  | 0 => ("HoundLicence$Town", "hour", "I", false)
  | 1 => ("HoundLicence$Town", "leashed", "I", false)
  | 2 => ("HoundLicence$Town", "dogStreet", "[I", true)
  | 3 => ("HoundLicence$Town", "bones", "[I", true)
  | 4 => ("HoundLicence$Town", "keeper", "[I", true)
  | 5 => ("HoundLicence$Town", "manStreet", "[I", true)
  | _ => ("HoundLicence$Town", "sentence", "[I", true)
def tyX7 : Nat → FieldType := fun k => match k with
  | 0 => .int
  | 1 => .int
  | 2 => .array .int
  | 3 => .array .int
  | 4 => .array .int
  | 5 => .array .int
  | _ => .array .int
abbrev wsX70 : List Cond := u_ws RX7 TX7 7
theorem nmX7 : ∀ a, a < 7 → ∀ b, b < 7 → a ≠ b → (TX7 a).2.1 ≠ (TX7 b).2.1 := by decide +kernel
theorem tyX7_ok : ∀ k, k < 7 → parseFieldDescriptor (TX7 k).2.2.1 = some (tyX7 k) := by decide +kernel
abbrev cX7_init : ByteArray := prog_9_method_1_code
def yX7_init : MethodName := ⟨RX7, "<init>", "()V"⟩
abbrev cX7_become : ByteArray := prog_9_method_2_code
def yX7_become : MethodName := ⟨RX7, "become", "(LHoundLicence$Town;)V"⟩
abbrev cX7_isLeashed : ByteArray := prog_9_method_3_code
def yX7_isLeashed : MethodName := ⟨RX7, "isLeashed", "(I)Z"⟩
abbrev cX7_isImpounded : ByteArray := prog_9_method_4_code
def yX7_isImpounded : MethodName := ⟨RX7, "isImpounded", "(I)Z"⟩
abbrev cX7_impounded : ByteArray := prog_9_method_5_code
def yX7_impounded : MethodName := ⟨RX7, "impounded", "(LHoundLicence$Law;)I"⟩
abbrev cX7_keptBy : ByteArray := prog_9_method_6_code
def yX7_keptBy : MethodName := ⟨RX7, "keptBy", "(LHoundLicence$Law;I)I"⟩
abbrev cX7_hasRoom : ByteArray := prog_9_method_7_code
def yX7_hasRoom : MethodName := ⟨RX7, "hasRoom", "(LHoundLicence$Law;I)Z"⟩
abbrev cX7_allBones : ByteArray := prog_9_method_8_code
def yX7_allBones : MethodName := ⟨RX7, "allBones", "(LHoundLicence$Law;)I"⟩
abbrev cX7_goes : ByteArray := prog_9_method_9_code
def yX7_goes : MethodName := ⟨RX7, "goes", "(LHoundLicence$Law;II)V"⟩
abbrev cX7_passHour : ByteArray := prog_9_method_10_code
def yX7_passHour : MethodName := ⟨RX7, "passHour", "(LHoundLicence$Law;II)I"⟩
abbrev cX7_isLate : ByteArray := prog_9_method_11_code
def yX7_isLate : MethodName := ⟨RX7, "isLate", "(II)Z"⟩
abbrev cX7_mayBeCaught : ByteArray := prog_9_method_12_code
def yX7_mayBeCaught : MethodName := ⟨RX7, "mayBeCaught", "(LHoundLicence$Law;IZ)Z"⟩
abbrev cX7_impound : ByteArray := prog_9_method_13_code
def yX7_impound : MethodName := ⟨RX7, "impound", "(LHoundLicence$Law;I)V"⟩
abbrev cX7_serve : ByteArray := prog_9_method_14_code
def yX7_serve : MethodName := ⟨RX7, "serve", "(LHoundLicence$Law;I)V"⟩
abbrev cX7_perilAt : ByteArray := prog_9_method_15_code
def yX7_perilAt : MethodName := ⟨RX7, "perilAt", "(LHoundLicence$Law;II)I"⟩
def RX8 : String := "HoundLicence"
def TX8 : u_T := fun k => match k with
  | 0 => ("HoundLicence", "text", "[I", true)
  | 1 => ("HoundLicence", "length", "I", false)
  | 2 => ("HoundLicence", "reader", "LHoundLicence$Reader;", true)
  | 3 => ("HoundLicence", "law", "LHoundLicence$Law;", true)
  | 4 => ("HoundLicence", "town", "LHoundLicence$Town;", true)
  | 5 => ("HoundLicence", "trial", "LHoundLicence$Town;", true)
  | 6 => ("HoundLicence", "acts", "LHoundLicence$Acts;", true)
  | 7 => ("HoundLicence", "slots", "LHoundLicence$Slots;", true)
  | 8 => ("HoundLicence", "ahead", "LHoundLicence$Ahead;", true)
  | 9 => ("HoundLicence", "sightings", "LHoundLicence$Sightings;", true)
  | _ => ("HoundLicence", "seed", "J", false)
def tyX8 : Nat → FieldType := fun k => match k with
  | 0 => .array .int
  | 1 => .int
  | 2 => .object "HoundLicence$Reader"
  | 3 => .object "HoundLicence$Law"
  | 4 => .object "HoundLicence$Town"
  | 5 => .object "HoundLicence$Town"
  | 6 => .object "HoundLicence$Acts"
  | 7 => .object "HoundLicence$Slots"
  | 8 => .object "HoundLicence$Ahead"
  | 9 => .object "HoundLicence$Sightings"
  | _ => .long
abbrev wsX80 : List Cond := u_ws RX8 TX8 11
theorem nmX8 : ∀ a, a < 11 → ∀ b, b < 11 → a ≠ b → (TX8 a).2.1 ≠ (TX8 b).2.1 := by decide +kernel
theorem tyX8_ok : ∀ k, k < 11 → parseFieldDescriptor (TX8 k).2.2.1 = some (tyX8 k) := by decide +kernel
abbrev cX8_init : ByteArray := prog_1_method_1_code
def yX8_init : MethodName := ⟨RX8, "<init>", "()V"⟩
abbrev cX8_write : ByteArray := prog_1_method_2_code
def yX8_write : MethodName := ⟨RX8, "write", "(I)I"⟩
abbrev cX8_wipe : ByteArray := prog_1_method_3_code
def yX8_wipe : MethodName := ⟨RX8, "wipe", "()I"⟩
abbrev cX8_fault : ByteArray := prog_1_method_4_code
def yX8_fault : MethodName := ⟨RX8, "fault", "()I"⟩
abbrev cX8_ordain : ByteArray := prog_1_method_5_code
def yX8_ordain : MethodName := ⟨RX8, "ordain", "()I"⟩
abbrev cX8_about : ByteArray := prog_1_method_6_code
def yX8_about : MethodName := ⟨RX8, "about", "(I)I"⟩
abbrev cX8_dog : ByteArray := prog_1_method_7_code
def yX8_dog : MethodName := ⟨RX8, "dog", "(II)I"⟩
abbrev cX8_man : ByteArray := prog_1_method_8_code
def yX8_man : MethodName := ⟨RX8, "man", "(II)I"⟩
abbrev cX8_lead : ByteArray := prog_1_method_9_code
def yX8_lead : MethodName := ⟨RX8, "lead", "(II)I"⟩
abbrev cX8_leash : ByteArray := prog_1_method_10_code
def yX8_leash : MethodName := ⟨RX8, "leash", "(I)I"⟩
abbrev cX8_give : ByteArray := prog_1_method_11_code
def yX8_give : MethodName := ⟨RX8, "give", "(II)I"⟩
abbrev cX8_hour : ByteArray := prog_1_method_12_code
def yX8_hour : MethodName := ⟨RX8, "hour", "()I"⟩
abbrev cX8_undo : ByteArray := prog_1_method_13_code
def yX8_undo : MethodName := ⟨RX8, "undo", "()I"⟩
abbrev cX8_caught : ByteArray := prog_1_method_14_code
def yX8_caught : MethodName := ⟨RX8, "caught", "(I)I"⟩
abbrev cX8_routes : ByteArray := prog_1_method_15_code
def yX8_routes : MethodName := ⟨RX8, "routes", "(IIII)I"⟩
abbrev cX8_aired : ByteArray := prog_1_method_16_code
def yX8_aired : MethodName := ⟨RX8, "aired", "(I)I"⟩
abbrev cX8_heir : ByteArray := prog_1_method_17_code
def yX8_heir : MethodName := ⟨RX8, "heir", "(I)I"⟩
abbrev cX8_pays : ByteArray := prog_1_method_18_code
def yX8_pays : MethodName := ⟨RX8, "pays", "(II)I"⟩
abbrev cX8_spans : ByteArray := prog_1_method_19_code
def yX8_spans : MethodName := ⟨RX8, "spans", "(III)I"⟩
abbrev cX8_tryHours : ByteArray := prog_1_method_20_code
def yX8_tryHours : MethodName := ⟨RX8, "tryHours", "(III)I"⟩
abbrev cX8_see : ByteArray := prog_1_method_21_code
def yX8_see : MethodName := ⟨RX8, "see", "(III)I"⟩
abbrev cX8_unsee : ByteArray := prog_1_method_22_code
def yX8_unsee : MethodName := ⟨RX8, "unsee", "()I"⟩
abbrev cX8_walks : ByteArray := prog_1_method_23_code
def yX8_walks : MethodName := ⟨RX8, "walks", "()I"⟩
abbrev cX8_sure : ByteArray := prog_1_method_24_code
def yX8_sure : MethodName := ⟨RX8, "sure", "(I)I"⟩
abbrev cX8_rests : ByteArray := prog_1_method_25_code
def yX8_rests : MethodName := ⟨RX8, "rests", "(II)I"⟩
abbrev cX8_chance : ByteArray := prog_1_method_26_code
def yX8_chance : MethodName := ⟨RX8, "chance", "(IIZ)I"⟩
abbrev cX8_seed : ByteArray := prog_1_method_27_code
def yX8_seed : MethodName := ⟨RX8, "seed", "(J)J"⟩
abbrev cX8_days : ByteArray := prog_1_method_28_code
def yX8_days : MethodName := ⟨RX8, "days", "(I)I"⟩
abbrev cX8_keep : ByteArray := prog_1_method_29_code
def yX8_keep : MethodName := ⟨RX8, "keep", "(I)I"⟩
abbrev cX8_again : ByteArray := prog_1_method_30_code
def yX8_again : MethodName := ⟨RX8, "again", "(I)I"⟩
abbrev cX8_streetBy : ByteArray := prog_1_method_31_code
def yX8_streetBy : MethodName := ⟨RX8, "streetBy", "(II)I"⟩
def RX9 : String := "HoundLicenceModel"
def TX9 : u_T := fun k => match k with
  | 0 => ("HoundLicenceModel", "thrown", "I", false)
  | 1 => ("HoundLicenceModel", "text", "[I", true)
  | 2 => ("HoundLicenceModel", "textSize", "I", false)
  | 3 => ("HoundLicenceModel", "place", "I", false)
  | 4 => ("HoundLicenceModel", "dogs", "I", false)
  | 5 => ("HoundLicenceModel", "men", "I", false)
  | 6 => ("HoundLicenceModel", "leash", "I", false)
  | 7 => ("HoundLicenceModel", "round", "[I", true)
  | 8 => ("HoundLicenceModel", "dog", "[I", true)
  | 9 => ("HoundLicenceModel", "man", "[I", true)
  | 10 => ("HoundLicenceModel", "readDogs", "I", false)
  | 11 => ("HoundLicenceModel", "readMen", "I", false)
  | 12 => ("HoundLicenceModel", "readLeash", "I", false)
  | 13 => ("HoundLicenceModel", "readRound", "[I", true)
  | 14 => ("HoundLicenceModel", "readDog", "[I", true)
  | 15 => ("HoundLicenceModel", "readMan", "[I", true)
  | 16 => ("HoundLicenceModel", "page", "[I", true)
  | 17 => ("HoundLicenceModel", "trial", "[I", true)
  | 18 => ("HoundLicenceModel", "book", "[I", true)
  | 19 => ("HoundLicenceModel", "acts", "I", false)
  | 20 => ("HoundLicenceModel", "kept", "[I", true)
  | 21 => ("HoundLicenceModel", "isKept", "[Z", true)
  | 22 => ("HoundLicenceModel", "seen", "I", false)
  | 23 => ("HoundLicenceModel", "seenMan", "[I", true)
  | 24 => ("HoundLicenceModel", "seenStreet", "[I", true)
  | 25 => ("HoundLicenceModel", "seenHour", "[I", true)
  | 26 => ("HoundLicenceModel", "seed", "J", false)
  | 27 => ("HoundLicenceModel", "steps", "[I", true)
  | 28 => ("HoundLicenceModel", "with", "[I", true)
  | 29 => ("HoundLicenceModel", "walkMany", "I", false)
  | _ => ("HoundLicenceModel", "routeFirst", "I", false)
def tyX9 : Nat → FieldType := fun k => match k with
  | 0 => .int
  | 1 => .array .int
  | 2 => .int
  | 3 => .int
  | 4 => .int
  | 5 => .int
  | 6 => .int
  | 7 => .array .int
  | 8 => .array .int
  | 9 => .array .int
  | 10 => .int
  | 11 => .int
  | 12 => .int
  | 13 => .array .int
  | 14 => .array .int
  | 15 => .array .int
  | 16 => .array .int
  | 17 => .array .int
  | 18 => .array .int
  | 19 => .int
  | 20 => .array .int
  | 21 => .array .boolean
  | 22 => .int
  | 23 => .array .int
  | 24 => .array .int
  | 25 => .array .int
  | 26 => .long
  | 27 => .array .int
  | 28 => .array .int
  | 29 => .int
  | _ => .int
abbrev wsX90 : List Cond := u_ws RX9 TX9 31
theorem nmX9 : ∀ a, a < 31 → ∀ b, b < 31 → a ≠ b → (TX9 a).2.1 ≠ (TX9 b).2.1 := by decide +kernel
theorem tyX9_ok : ∀ k, k < 31 → parseFieldDescriptor (TX9 k).2.2.1 = some (tyX9 k) := by decide +kernel
abbrev cX9_init : ByteArray := prog_11_method_1_code
def yX9_init : MethodName := ⟨RX9, "<init>", "()V"⟩
abbrev cX9_in : ByteArray := prog_11_method_3_code
def yX9_in : MethodName := ⟨RX9, "in", "(JJJ)Z"⟩
abbrev cX9_has : ByteArray := prog_11_method_4_code
def yX9_has : MethodName := ⟨RX9, "has", "(II)Z"⟩
abbrev cX9_noDog : ByteArray := prog_11_method_5_code
def yX9_noDog : MethodName := ⟨RX9, "noDog", "(I)Z"⟩
abbrev cX9_noMan : ByteArray := prog_11_method_6_code
def yX9_noMan : MethodName := ⟨RX9, "noMan", "(I)Z"⟩
abbrev cX9_write : ByteArray := prog_11_method_7_code
def yX9_write : MethodName := ⟨RX9, "write", "(I)I"⟩
abbrev cX9_wipe : ByteArray := prog_11_method_8_code
def yX9_wipe : MethodName := ⟨RX9, "wipe", "()I"⟩
abbrev cX9_figure : ByteArray := prog_11_method_9_code
def yX9_figure : MethodName := ⟨RX9, "figure", "(II)I"⟩
abbrev cX9_one : ByteArray := prog_11_method_10_code
def yX9_one : MethodName := ⟨RX9, "one", "(I)I"⟩
abbrev cX9_readHead : ByteArray := prog_11_method_11_code
def yX9_readHead : MethodName := ⟨RX9, "readHead", "()Z"⟩
abbrev cX9_readDog : ByteArray := prog_11_method_12_code
def yX9_readDog : MethodName := ⟨RX9, "readDog", "()Z"⟩
abbrev cX9_rooms : ByteArray := prog_11_method_13_code
def yX9_rooms : MethodName := ⟨RX9, "rooms", "()I"⟩
abbrev cX9_readMan : ByteArray := prog_11_method_14_code
def yX9_readMan : MethodName := ⟨RX9, "readMan", "()Z"⟩
abbrev cX9_comes : ByteArray := prog_11_method_15_code
def yX9_comes : MethodName := ⟨RX9, "comes", "(II)Z"⟩
abbrev cX9_young : ByteArray := prog_11_method_16_code
def yX9_young : MethodName := ⟨RX9, "young", "(I)I"⟩
abbrev cX9_parents : ByteArray := prog_11_method_17_code
def yX9_parents : MethodName := ⟨RX9, "parents", "()I"⟩
abbrev cX9_readParent : ByteArray := prog_11_method_18_code
def yX9_readParent : MethodName := ⟨RX9, "readParent", "()Z"⟩
abbrev cX9_readPart : ByteArray := prog_11_method_19_code
def yX9_readPart : MethodName := ⟨RX9, "readPart", "()Z"⟩
abbrev cX9_readLaw : ByteArray := prog_11_method_20_code
def yX9_readLaw : MethodName := ⟨RX9, "readLaw", "()I"⟩
abbrev cX9_fault : ByteArray := prog_11_method_21_code
def yX9_fault : MethodName := ⟨RX9, "fault", "()I"⟩
abbrev cX9_ordain : ByteArray := prog_11_method_22_code
def yX9_ordain : MethodName := ⟨RX9, "ordain", "()I"⟩
abbrev cX9_impounded : ByteArray := prog_11_method_23_code
def yX9_impounded : MethodName := ⟨RX9, "impounded", "()I"⟩
abbrev cX9_bonesOf : ByteArray := prog_11_method_24_code
def yX9_bonesOf : MethodName := ⟨RX9, "bonesOf", "([I)I"⟩
abbrev cX9_about : ByteArray := prog_11_method_25_code
def yX9_about : MethodName := ⟨RX9, "about", "(I)I"⟩
abbrev cX9_keeps : ByteArray := prog_11_method_26_code
def yX9_keeps : MethodName := ⟨RX9, "keeps", "([II)I"⟩
abbrev cX9_many : ByteArray := prog_11_method_27_code
def yX9_many : MethodName := ⟨RX9, "many", "(I)I"⟩
abbrev cX9_dog : ByteArray := prog_11_method_28_code
def yX9_dog : MethodName := ⟨RX9, "dog", "(II)I"⟩
abbrev cX9_man : ByteArray := prog_11_method_29_code
def yX9_man : MethodName := ⟨RX9, "man", "(II)I"⟩
abbrev cX9_note : ByteArray := prog_11_method_30_code
def yX9_note : MethodName := ⟨RX9, "note", "()V"⟩
abbrev cX9_goLead : ByteArray := prog_11_method_31_code
def yX9_goLead : MethodName := ⟨RX9, "goLead", "([III)V"⟩
abbrev cX9_goHour : ByteArray := prog_11_method_32_code
def yX9_goHour : MethodName := ⟨RX9, "goHour", "([III)I"⟩
abbrev cX9_lead : ByteArray := prog_11_method_33_code
def yX9_lead : MethodName := ⟨RX9, "lead", "(II)I"⟩
abbrev cX9_leash : ByteArray := prog_11_method_34_code
def yX9_leash : MethodName := ⟨RX9, "leash", "(I)I"⟩
abbrev cX9_give : ByteArray := prog_11_method_35_code
def yX9_give : MethodName := ⟨RX9, "give", "(II)I"⟩
abbrev cX9_hour : ByteArray := prog_11_method_36_code
def yX9_hour : MethodName := ⟨RX9, "hour", "()I"⟩
abbrev cX9_undo : ByteArray := prog_11_method_37_code
def yX9_undo : MethodName := ⟨RX9, "undo", "()I"⟩
abbrev cX9_begin : ByteArray := prog_11_method_38_code
def yX9_begin : MethodName := ⟨RX9, "begin", "()V"⟩
abbrev cX9_caught : ByteArray := prog_11_method_39_code
def yX9_caught : MethodName := ⟨RX9, "caught", "(I)I"⟩
abbrev cX9_power : ByteArray := prog_11_method_40_code
def yX9_power : MethodName := ⟨RX9, "power", "(II)I"⟩
abbrev cX9_goes : ByteArray := prog_11_method_41_code
def yX9_goes : MethodName := ⟨RX9, "goes", "(IIIZ)Z"⟩
abbrev cX9_isAlone : ByteArray := prog_11_method_42_code
def yX9_isAlone : MethodName := ⟨RX9, "isAlone", "(I)Z"⟩
abbrev cX9_routes : ByteArray := prog_11_method_43_code
def yX9_routes : MethodName := ⟨RX9, "routes", "(IIII)I"⟩
abbrev cX9_streetsOf : ByteArray := prog_11_method_44_code
def yX9_streetsOf : MethodName := ⟨RX9, "streetsOf", "(III)I"⟩
abbrev cX9_aired : ByteArray := prog_11_method_45_code
def yX9_aired : MethodName := ⟨RX9, "aired", "(I)I"⟩
abbrev cX9_heir : ByteArray := prog_11_method_46_code
def yX9_heir : MethodName := ⟨RX9, "heir", "(I)I"⟩
abbrev cX9_pays : ByteArray := prog_11_method_47_code
def yX9_pays : MethodName := ⟨RX9, "pays", "(II)I"⟩
abbrev cX9_spans : ByteArray := prog_11_method_48_code
def yX9_spans : MethodName := ⟨RX9, "spans", "(III)I"⟩
abbrev cX9_see : ByteArray := prog_11_method_49_code
def yX9_see : MethodName := ⟨RX9, "see", "(III)I"⟩
abbrev cX9_unsee : ByteArray := prog_11_method_50_code
def yX9_unsee : MethodName := ⟨RX9, "unsee", "()I"⟩
abbrev cX9_wasAt : ByteArray := prog_11_method_51_code
def yX9_wasAt : MethodName := ⟨RX9, "wasAt", "(III)I"⟩
abbrev cX9_isWalk : ByteArray := prog_11_method_52_code
def yX9_isWalk : MethodName := ⟨RX9, "isWalk", "(I)Z"⟩
abbrev cX9_findWalks : ByteArray := prog_11_method_53_code
def yX9_findWalks : MethodName := ⟨RX9, "findWalks", "()V"⟩
abbrev cX9_walks : ByteArray := prog_11_method_54_code
def yX9_walks : MethodName := ⟨RX9, "walks", "()I"⟩
abbrev cX9_sure : ByteArray := prog_11_method_55_code
def yX9_sure : MethodName := ⟨RX9, "sure", "(I)I"⟩
abbrev cX9_worthOf : ByteArray := prog_11_method_56_code
def yX9_worthOf : MethodName := ⟨RX9, "worthOf", "(II)I"⟩
abbrev cX9_rests : ByteArray := prog_11_method_57_code
def yX9_rests : MethodName := ⟨RX9, "rests", "(II)I"⟩
abbrev cX9_chance : ByteArray := prog_11_method_58_code
def yX9_chance : MethodName := ⟨RX9, "chance", "(IIZ)I"⟩
abbrev cX9_seed : ByteArray := prog_11_method_59_code
def yX9_seed : MethodName := ⟨RX9, "seed", "(J)J"⟩
abbrev cX9_days : ByteArray := prog_11_method_60_code
def yX9_days : MethodName := ⟨RX9, "days", "(I)I"⟩
abbrev cX9_keep : ByteArray := prog_11_method_61_code
def yX9_keep : MethodName := ⟨RX9, "keep", "(I)I"⟩
abbrev cX9_again : ByteArray := prog_11_method_62_code
def yX9_again : MethodName := ⟨RX9, "again", "(I)I"⟩
def RJ6 : String := "java/lang/Integer"
abbrev cJ6_bitCount_0f7a4 : ByteArray := prog_12_method_49_code
def yJ6_bitCount_0f7a4 : MethodName := ⟨RJ6, "bitCount", "(I)I"⟩
def RJ9 : String := "java/lang/Math"
abbrev cJ9_floorMod_7cf53 : ByteArray := prog_13_method_50_code
def yJ9_floorMod_7cf53 : MethodName := ⟨RJ9, "floorMod", "(II)I"⟩
def RJ10 : String := "java/lang/System"
def RL : String := "HoundLicenceLaw"
abbrev cL_law : ByteArray := code
def yL_law : MethodName := ⟨RL, "law", "([I)Z"⟩
abbrev vwCl : List vw_C := [(RX0, TX0, 2), (RX1, TX1, 4), (RX2, TX2, 8), (RX3, TX3, 5), (RX5, TX5, 6), (RX6, TX6, 2), (RX7, TX7, 7), (RX8, TX8, 11), (RX9, TX9, 31)]
end
section
theorem dJ6_bitCount_0f7a4_0 : decode cJ6_bitCount_0f7a4 0 = .ok (.iload_n 0, 1) := by decide +kernel
theorem dJ6_bitCount_0f7a4_1 : decode cJ6_bitCount_0f7a4 1 = .ok (.iload_n 0, 1) := by decide +kernel
theorem dJ6_bitCount_0f7a4_2 : decode cJ6_bitCount_0f7a4 2 = .ok (.iconst 1, 1) := by decide +kernel
theorem dJ6_bitCount_0f7a4_3 : decode cJ6_bitCount_0f7a4 3 = .ok (.iushr, 1) := by decide +kernel
theorem dJ6_bitCount_0f7a4_4 : decode cJ6_bitCount_0f7a4 4 = .ok (.ldc_w 265, 3) := by decide +kernel
theorem dJ6_bitCount_0f7a4_7 : decode cJ6_bitCount_0f7a4 7 = .ok (.iand, 1) := by decide +kernel
theorem dJ6_bitCount_0f7a4_8 : decode cJ6_bitCount_0f7a4 8 = .ok (.isub, 1) := by decide +kernel
theorem dJ6_bitCount_0f7a4_9 : decode cJ6_bitCount_0f7a4 9 = .ok (.istore_n 0, 1) := by decide +kernel
theorem dJ6_bitCount_0f7a4_10 : decode cJ6_bitCount_0f7a4 10 = .ok (.iload_n 0, 1) := by decide +kernel
theorem dJ6_bitCount_0f7a4_11 : decode cJ6_bitCount_0f7a4 11 = .ok (.ldc_w 266, 3) := by decide +kernel
theorem dJ6_bitCount_0f7a4_14 : decode cJ6_bitCount_0f7a4 14 = .ok (.iand, 1) := by decide +kernel
theorem dJ6_bitCount_0f7a4_15 : decode cJ6_bitCount_0f7a4 15 = .ok (.iload_n 0, 1) := by decide +kernel
theorem dJ6_bitCount_0f7a4_16 : decode cJ6_bitCount_0f7a4 16 = .ok (.iconst 2, 1) := by decide +kernel
theorem dJ6_bitCount_0f7a4_17 : decode cJ6_bitCount_0f7a4 17 = .ok (.iushr, 1) := by decide +kernel
theorem dJ6_bitCount_0f7a4_18 : decode cJ6_bitCount_0f7a4 18 = .ok (.ldc_w 266, 3) := by decide +kernel
theorem dJ6_bitCount_0f7a4_21 : decode cJ6_bitCount_0f7a4 21 = .ok (.iand, 1) := by decide +kernel
theorem dJ6_bitCount_0f7a4_22 : decode cJ6_bitCount_0f7a4 22 = .ok (.iadd, 1) := by decide +kernel
theorem dJ6_bitCount_0f7a4_23 : decode cJ6_bitCount_0f7a4 23 = .ok (.istore_n 0, 1) := by decide +kernel
theorem dJ6_bitCount_0f7a4_24 : decode cJ6_bitCount_0f7a4 24 = .ok (.iload_n 0, 1) := by decide +kernel
theorem dJ6_bitCount_0f7a4_25 : decode cJ6_bitCount_0f7a4 25 = .ok (.iload_n 0, 1) := by decide +kernel
theorem dJ6_bitCount_0f7a4_26 : decode cJ6_bitCount_0f7a4 26 = .ok (.iconst 4, 1) := by decide +kernel
theorem dJ6_bitCount_0f7a4_27 : decode cJ6_bitCount_0f7a4 27 = .ok (.iushr, 1) := by decide +kernel
theorem dJ6_bitCount_0f7a4_28 : decode cJ6_bitCount_0f7a4 28 = .ok (.iadd, 1) := by decide +kernel
theorem dJ6_bitCount_0f7a4_29 : decode cJ6_bitCount_0f7a4 29 = .ok (.ldc_w 267, 3) := by decide +kernel
theorem dJ6_bitCount_0f7a4_32 : decode cJ6_bitCount_0f7a4 32 = .ok (.iand, 1) := by decide +kernel
theorem dJ6_bitCount_0f7a4_33 : decode cJ6_bitCount_0f7a4 33 = .ok (.istore_n 0, 1) := by decide +kernel
theorem dJ6_bitCount_0f7a4_34 : decode cJ6_bitCount_0f7a4 34 = .ok (.iload_n 0, 1) := by decide +kernel
theorem dJ6_bitCount_0f7a4_35 : decode cJ6_bitCount_0f7a4 35 = .ok (.iload_n 0, 1) := by decide +kernel
theorem dJ6_bitCount_0f7a4_36 : decode cJ6_bitCount_0f7a4 36 = .ok (.bipush 8, 2) := by decide +kernel
theorem dJ6_bitCount_0f7a4_38 : decode cJ6_bitCount_0f7a4 38 = .ok (.iushr, 1) := by decide +kernel
theorem dJ6_bitCount_0f7a4_39 : decode cJ6_bitCount_0f7a4 39 = .ok (.iadd, 1) := by decide +kernel
theorem dJ6_bitCount_0f7a4_40 : decode cJ6_bitCount_0f7a4 40 = .ok (.istore_n 0, 1) := by decide +kernel
theorem dJ6_bitCount_0f7a4_41 : decode cJ6_bitCount_0f7a4 41 = .ok (.iload_n 0, 1) := by decide +kernel
theorem dJ6_bitCount_0f7a4_42 : decode cJ6_bitCount_0f7a4 42 = .ok (.iload_n 0, 1) := by decide +kernel
theorem dJ6_bitCount_0f7a4_43 : decode cJ6_bitCount_0f7a4 43 = .ok (.bipush 16, 2) := by decide +kernel
theorem dJ6_bitCount_0f7a4_45 : decode cJ6_bitCount_0f7a4 45 = .ok (.iushr, 1) := by decide +kernel
theorem dJ6_bitCount_0f7a4_46 : decode cJ6_bitCount_0f7a4 46 = .ok (.iadd, 1) := by decide +kernel
theorem dJ6_bitCount_0f7a4_47 : decode cJ6_bitCount_0f7a4 47 = .ok (.istore_n 0, 1) := by decide +kernel
theorem dJ6_bitCount_0f7a4_48 : decode cJ6_bitCount_0f7a4 48 = .ok (.iload_n 0, 1) := by decide +kernel
theorem dJ6_bitCount_0f7a4_49 : decode cJ6_bitCount_0f7a4 49 = .ok (.bipush 63, 2) := by decide +kernel
theorem dJ6_bitCount_0f7a4_51 : decode cJ6_bitCount_0f7a4 51 = .ok (.iand, 1) := by decide +kernel
theorem dJ6_bitCount_0f7a4_52 : decode cJ6_bitCount_0f7a4 52 = .ok (.ireturn, 1) := by decide +kernel
theorem dJ9_floorMod_7cf53_0 : decode cJ9_floorMod_7cf53 0 = .ok (.iload_n 0, 1) := by decide +kernel
theorem dJ9_floorMod_7cf53_1 : decode cJ9_floorMod_7cf53 1 = .ok (.iload_n 1, 1) := by decide +kernel
theorem dJ9_floorMod_7cf53_2 : decode cJ9_floorMod_7cf53 2 = .ok (.irem, 1) := by decide +kernel
theorem dJ9_floorMod_7cf53_3 : decode cJ9_floorMod_7cf53 3 = .ok (.istore_n 2, 1) := by decide +kernel
theorem dJ9_floorMod_7cf53_4 : decode cJ9_floorMod_7cf53 4 = .ok (.iload_n 0, 1) := by decide +kernel
theorem dJ9_floorMod_7cf53_5 : decode cJ9_floorMod_7cf53 5 = .ok (.iload_n 1, 1) := by decide +kernel
theorem dJ9_floorMod_7cf53_6 : decode cJ9_floorMod_7cf53 6 = .ok (.ixor, 1) := by decide +kernel
theorem dJ9_floorMod_7cf53_7 : decode cJ9_floorMod_7cf53 7 = .ok (.ifCond .ge 11, 3) := by decide +kernel
theorem dJ9_floorMod_7cf53_10 : decode cJ9_floorMod_7cf53 10 = .ok (.iload_n 2, 1) := by decide +kernel
theorem dJ9_floorMod_7cf53_11 : decode cJ9_floorMod_7cf53 11 = .ok (.ifCond .eq 7, 3) := by decide +kernel
theorem dJ9_floorMod_7cf53_14 : decode cJ9_floorMod_7cf53 14 = .ok (.iload_n 2, 1) := by decide +kernel
theorem dJ9_floorMod_7cf53_15 : decode cJ9_floorMod_7cf53 15 = .ok (.iload_n 1, 1) := by decide +kernel
theorem dJ9_floorMod_7cf53_16 : decode cJ9_floorMod_7cf53 16 = .ok (.iadd, 1) := by decide +kernel
theorem dJ9_floorMod_7cf53_17 : decode cJ9_floorMod_7cf53 17 = .ok (.ireturn, 1) := by decide +kernel
theorem dJ9_floorMod_7cf53_18 : decode cJ9_floorMod_7cf53 18 = .ok (.iload_n 2, 1) := by decide +kernel
theorem dJ9_floorMod_7cf53_19 : decode cJ9_floorMod_7cf53 19 = .ok (.ireturn, 1) := by decide +kernel
theorem dX0_forget_0 : decode cX0_forget 0 = .ok (.aload_n 0, 1) := by decide +kernel
theorem dX0_forget_1 : decode cX0_forget 1 = .ok (.iconst 0, 1) := by decide +kernel
theorem dX0_forget_2 : decode cX0_forget 2 = .ok (.putfield 9, 3) := by decide +kernel
theorem dX0_forget_5 : decode cX0_forget 5 = .ok (.return_, 1) := by decide +kernel
theorem dX0_forgetFirst_0 : decode cX0_forgetFirst 0 = .ok (.aload_n 0, 1) := by decide +kernel
theorem dX0_forgetFirst_1 : decode cX0_forgetFirst 1 = .ok (.getfield 17, 3) := by decide +kernel
theorem dX0_forgetFirst_4 : decode cX0_forgetFirst 4 = .ok (.iconst 0, 1) := by decide +kernel
theorem dX0_forgetFirst_5 : decode cX0_forgetFirst 5 = .ok (.aaload, 1) := by decide +kernel
theorem dX0_forgetFirst_6 : decode cX0_forgetFirst 6 = .ok (.astore_n 1, 1) := by decide +kernel
theorem dX0_forgetFirst_7 : decode cX0_forgetFirst 7 = .ok (.iconst 1, 1) := by decide +kernel
theorem dX0_forgetFirst_8 : decode cX0_forgetFirst 8 = .ok (.istore_n 2, 1) := by decide +kernel
theorem dX0_forgetFirst_9 : decode cX0_forgetFirst 9 = .ok (.iload_n 2, 1) := by decide +kernel
theorem dX0_forgetFirst_10 : decode cX0_forgetFirst 10 = .ok (.bipush 14, 2) := by decide +kernel
theorem dX0_forgetFirst_12 : decode cX0_forgetFirst 12 = .ok (.if_icmp .ge 23, 3) := by decide +kernel
theorem dX0_forgetFirst_15 : decode cX0_forgetFirst 15 = .ok (.aload_n 0, 1) := by decide +kernel
theorem dX0_forgetFirst_16 : decode cX0_forgetFirst 16 = .ok (.getfield 17, 3) := by decide +kernel
theorem dX0_forgetFirst_19 : decode cX0_forgetFirst 19 = .ok (.iload_n 2, 1) := by decide +kernel
theorem dX0_forgetFirst_20 : decode cX0_forgetFirst 20 = .ok (.iconst 1, 1) := by decide +kernel
theorem dX0_forgetFirst_21 : decode cX0_forgetFirst 21 = .ok (.isub, 1) := by decide +kernel
theorem dX0_forgetFirst_22 : decode cX0_forgetFirst 22 = .ok (.aload_n 0, 1) := by decide +kernel
theorem dX0_forgetFirst_23 : decode cX0_forgetFirst 23 = .ok (.getfield 17, 3) := by decide +kernel
theorem dX0_forgetFirst_26 : decode cX0_forgetFirst 26 = .ok (.iload_n 2, 1) := by decide +kernel
theorem dX0_forgetFirst_27 : decode cX0_forgetFirst 27 = .ok (.aaload, 1) := by decide +kernel
theorem dX0_forgetFirst_28 : decode cX0_forgetFirst 28 = .ok (.aastore, 1) := by decide +kernel
theorem dX0_forgetFirst_29 : decode cX0_forgetFirst 29 = .ok (.iinc 2 1, 3) := by decide +kernel
theorem dX0_forgetFirst_32 : decode cX0_forgetFirst 32 = .ok (.goto (-23), 3) := by decide +kernel
theorem dX0_forgetFirst_35 : decode cX0_forgetFirst 35 = .ok (.aload_n 0, 1) := by decide +kernel
theorem dX0_forgetFirst_36 : decode cX0_forgetFirst 36 = .ok (.getfield 17, 3) := by decide +kernel
theorem dX0_forgetFirst_39 : decode cX0_forgetFirst 39 = .ok (.bipush 13, 2) := by decide +kernel
theorem dX0_forgetFirst_41 : decode cX0_forgetFirst 41 = .ok (.aload_n 1, 1) := by decide +kernel
theorem dX0_forgetFirst_42 : decode cX0_forgetFirst 42 = .ok (.aastore, 1) := by decide +kernel
theorem dX0_forgetFirst_43 : decode cX0_forgetFirst 43 = .ok (.aload_n 0, 1) := by decide +kernel
theorem dX0_forgetFirst_44 : decode cX0_forgetFirst 44 = .ok (.bipush 13, 2) := by decide +kernel
theorem dX0_forgetFirst_46 : decode cX0_forgetFirst 46 = .ok (.putfield 9, 3) := by decide +kernel
theorem dX0_forgetFirst_49 : decode cX0_forgetFirst 49 = .ok (.return_, 1) := by decide +kernel
theorem dX0_init_0 : decode cX0_init 0 = .ok (.aload_n 0, 1) := by decide +kernel
theorem dX0_init_1 : decode cX0_init 1 = .ok (.invokespecial 3, 3) := by decide +kernel
theorem dX0_init_4 : decode cX0_init 4 = .ok (.aload_n 0, 1) := by decide +kernel
theorem dX0_init_5 : decode cX0_init 5 = .ok (.iconst 0, 1) := by decide +kernel
theorem dX0_init_6 : decode cX0_init 6 = .ok (.putfield 9, 3) := by decide +kernel
theorem dX0_init_9 : decode cX0_init 9 = .ok (.aload_n 0, 1) := by decide +kernel
theorem dX0_init_10 : decode cX0_init 10 = .ok (.bipush 14, 2) := by decide +kernel
theorem dX0_init_12 : decode cX0_init 12 = .ok (.anewarray 15, 3) := by decide +kernel
theorem dX0_init_15 : decode cX0_init 15 = .ok (.putfield 17, 3) := by decide +kernel
theorem dX0_init_18 : decode cX0_init 18 = .ok (.iconst 0, 1) := by decide +kernel
theorem dX0_init_19 : decode cX0_init 19 = .ok (.istore_n 1, 1) := by decide +kernel
theorem dX0_init_20 : decode cX0_init 20 = .ok (.iload_n 1, 1) := by decide +kernel
theorem dX0_init_21 : decode cX0_init 21 = .ok (.bipush 14, 2) := by decide +kernel
theorem dX0_init_23 : decode cX0_init 23 = .ok (.if_icmp .ge 22, 3) := by decide +kernel
theorem dX0_init_26 : decode cX0_init 26 = .ok (.aload_n 0, 1) := by decide +kernel
theorem dX0_init_27 : decode cX0_init 27 = .ok (.getfield 17, 3) := by decide +kernel
theorem dX0_init_30 : decode cX0_init 30 = .ok (.iload_n 1, 1) := by decide +kernel
theorem dX0_init_31 : decode cX0_init 31 = .ok (.new 15, 3) := by decide +kernel
theorem dX0_init_34 : decode cX0_init 34 = .ok (.dup, 1) := by decide +kernel
theorem dX0_init_35 : decode cX0_init 35 = .ok (.invokespecial 21, 3) := by decide +kernel
theorem dX0_init_38 : decode cX0_init 38 = .ok (.aastore, 1) := by decide +kernel
theorem dX0_init_39 : decode cX0_init 39 = .ok (.iinc 1 1, 3) := by decide +kernel
theorem dX0_init_42 : decode cX0_init 42 = .ok (.goto (-22), 3) := by decide +kernel
theorem dX0_init_45 : decode cX0_init 45 = .ok (.return_, 1) := by decide +kernel
theorem dX0_remember_0 : decode cX0_remember 0 = .ok (.aload_n 0, 1) := by decide +kernel
theorem dX0_remember_1 : decode cX0_remember 1 = .ok (.getfield 9, 3) := by decide +kernel
theorem dX0_remember_4 : decode cX0_remember 4 = .ok (.bipush 14, 2) := by decide +kernel
theorem dX0_remember_6 : decode cX0_remember 6 = .ok (.if_icmp .lt 7, 3) := by decide +kernel
theorem dX0_remember_9 : decode cX0_remember 9 = .ok (.aload_n 0, 1) := by decide +kernel
theorem dX0_remember_10 : decode cX0_remember 10 = .ok (.invokevirtual 22, 3) := by decide +kernel
theorem dX0_remember_13 : decode cX0_remember 13 = .ok (.aload_n 0, 1) := by decide +kernel
theorem dX0_remember_14 : decode cX0_remember 14 = .ok (.getfield 17, 3) := by decide +kernel
theorem dX0_remember_17 : decode cX0_remember 17 = .ok (.aload_n 0, 1) := by decide +kernel
theorem dX0_remember_18 : decode cX0_remember 18 = .ok (.getfield 9, 3) := by decide +kernel
theorem dX0_remember_21 : decode cX0_remember 21 = .ok (.aaload, 1) := by decide +kernel
theorem dX0_remember_22 : decode cX0_remember 22 = .ok (.aload_n 1, 1) := by decide +kernel
theorem dX0_remember_23 : decode cX0_remember 23 = .ok (.invokevirtual 25, 3) := by decide +kernel
theorem dX0_remember_26 : decode cX0_remember 26 = .ok (.aload_n 0, 1) := by decide +kernel
theorem dX0_remember_27 : decode cX0_remember 27 = .ok (.dup, 1) := by decide +kernel
theorem dX0_remember_28 : decode cX0_remember 28 = .ok (.getfield 9, 3) := by decide +kernel
theorem dX0_remember_31 : decode cX0_remember 31 = .ok (.iconst 1, 1) := by decide +kernel
theorem dX0_remember_32 : decode cX0_remember 32 = .ok (.iadd, 1) := by decide +kernel
theorem dX0_remember_33 : decode cX0_remember 33 = .ok (.putfield 9, 3) := by decide +kernel
theorem dX0_remember_36 : decode cX0_remember 36 = .ok (.return_, 1) := by decide +kernel
theorem dX0_takeBack_0 : decode cX0_takeBack 0 = .ok (.aload_n 0, 1) := by decide +kernel
theorem dX0_takeBack_1 : decode cX0_takeBack 1 = .ok (.getfield 9, 3) := by decide +kernel
theorem dX0_takeBack_4 : decode cX0_takeBack 4 = .ok (.ifCond .le 26, 3) := by decide +kernel
theorem dX0_takeBack_7 : decode cX0_takeBack 7 = .ok (.aload_n 0, 1) := by decide +kernel
theorem dX0_takeBack_8 : decode cX0_takeBack 8 = .ok (.dup, 1) := by decide +kernel
theorem dX0_takeBack_9 : decode cX0_takeBack 9 = .ok (.getfield 9, 3) := by decide +kernel
theorem dX0_takeBack_12 : decode cX0_takeBack 12 = .ok (.iconst 1, 1) := by decide +kernel
theorem dX0_takeBack_13 : decode cX0_takeBack 13 = .ok (.isub, 1) := by decide +kernel
theorem dX0_takeBack_14 : decode cX0_takeBack 14 = .ok (.putfield 9, 3) := by decide +kernel
theorem dX0_takeBack_17 : decode cX0_takeBack 17 = .ok (.aload_n 1, 1) := by decide +kernel
theorem dX0_takeBack_18 : decode cX0_takeBack 18 = .ok (.aload_n 0, 1) := by decide +kernel
theorem dX0_takeBack_19 : decode cX0_takeBack 19 = .ok (.getfield 17, 3) := by decide +kernel
theorem dX0_takeBack_22 : decode cX0_takeBack 22 = .ok (.aload_n 0, 1) := by decide +kernel
theorem dX0_takeBack_23 : decode cX0_takeBack 23 = .ok (.getfield 9, 3) := by decide +kernel
theorem dX0_takeBack_26 : decode cX0_takeBack 26 = .ok (.aaload, 1) := by decide +kernel
theorem dX0_takeBack_27 : decode cX0_takeBack 27 = .ok (.invokevirtual 25, 3) := by decide +kernel
theorem dX0_takeBack_30 : decode cX0_takeBack 30 = .ok (.return_, 1) := by decide +kernel
theorem dX1_allReached_0 : decode cX1_allReached 0 = .ok (.iconst 0, 1) := by decide +kernel
theorem dX1_allReached_1 : decode cX1_allReached 1 = .ok (.istore_n 1, 1) := by decide +kernel
theorem dX1_allReached_2 : decode cX1_allReached 2 = .ok (.iload_n 1, 1) := by decide +kernel
theorem dX1_allReached_3 : decode cX1_allReached 3 = .ok (.iconst 5, 1) := by decide +kernel
theorem dX1_allReached_4 : decode cX1_allReached 4 = .ok (.if_icmp .ge 26, 3) := by decide +kernel
theorem dX1_allReached_7 : decode cX1_allReached 7 = .ok (.aload_n 0, 1) := by decide +kernel
theorem dX1_allReached_8 : decode cX1_allReached 8 = .ok (.getfield 23, 3) := by decide +kernel
theorem dX1_allReached_11 : decode cX1_allReached 11 = .ok (.iload_n 1, 1) := by decide +kernel
theorem dX1_allReached_12 : decode cX1_allReached 12 = .ok (.iaload, 1) := by decide +kernel
theorem dX1_allReached_13 : decode cX1_allReached 13 = .ok (.bipush 31, 2) := by decide +kernel
theorem dX1_allReached_15 : decode cX1_allReached 15 = .ok (.ishr, 1) := by decide +kernel
theorem dX1_allReached_16 : decode cX1_allReached 16 = .ok (.iconst 1, 1) := by decide +kernel
theorem dX1_allReached_17 : decode cX1_allReached 17 = .ok (.iand, 1) := by decide +kernel
theorem dX1_allReached_18 : decode cX1_allReached 18 = .ok (.iconst 1, 1) := by decide +kernel
theorem dX1_allReached_19 : decode cX1_allReached 19 = .ok (.if_icmp .ne 5, 3) := by decide +kernel
theorem dX1_allReached_22 : decode cX1_allReached 22 = .ok (.iconst 1, 1) := by decide +kernel
theorem dX1_allReached_23 : decode cX1_allReached 23 = .ok (.ireturn, 1) := by decide +kernel
theorem dX1_allReached_24 : decode cX1_allReached 24 = .ok (.iinc 1 1, 3) := by decide +kernel
theorem dX1_allReached_27 : decode cX1_allReached 27 = .ok (.goto (-25), 3) := by decide +kernel
theorem dX1_allReached_30 : decode cX1_allReached 30 = .ok (.iconst 0, 1) := by decide +kernel
theorem dX1_allReached_31 : decode cX1_allReached 31 = .ok (.ireturn, 1) := by decide +kernel
theorem dX1_clearNext_0 : decode cX1_clearNext 0 = .ok (.iconst 0, 1) := by decide +kernel
theorem dX1_clearNext_1 : decode cX1_clearNext 1 = .ok (.istore_n 1, 1) := by decide +kernel
theorem dX1_clearNext_2 : decode cX1_clearNext 2 = .ok (.iload_n 1, 1) := by decide +kernel
theorem dX1_clearNext_3 : decode cX1_clearNext 3 = .ok (.iconst 5, 1) := by decide +kernel
theorem dX1_clearNext_4 : decode cX1_clearNext 4 = .ok (.if_icmp .ge 16, 3) := by decide +kernel
theorem dX1_clearNext_7 : decode cX1_clearNext 7 = .ok (.aload_n 0, 1) := by decide +kernel
theorem dX1_clearNext_8 : decode cX1_clearNext 8 = .ok (.getfield 23, 3) := by decide +kernel
theorem dX1_clearNext_11 : decode cX1_clearNext 11 = .ok (.iload_n 1, 1) := by decide +kernel
theorem dX1_clearNext_12 : decode cX1_clearNext 12 = .ok (.iconst 0, 1) := by decide +kernel
theorem dX1_clearNext_13 : decode cX1_clearNext 13 = .ok (.iastore, 1) := by decide +kernel
theorem dX1_clearNext_14 : decode cX1_clearNext 14 = .ok (.iinc 1 1, 3) := by decide +kernel
theorem dX1_clearNext_17 : decode cX1_clearNext 17 = .ok (.goto (-15), 3) := by decide +kernel
theorem dX1_clearNext_20 : decode cX1_clearNext 20 = .ok (.return_, 1) := by decide +kernel
theorem dX1_countWays_0 : decode cX1_countWays 0 = .ok (.iconst 0, 1) := by decide +kernel
theorem dX1_countWays_1 : decode cX1_countWays 1 = .ok (.istore_n 3, 1) := by decide +kernel
theorem dX1_countWays_2 : decode cX1_countWays 2 = .ok (.iload_n 3, 1) := by decide +kernel
theorem dX1_countWays_3 : decode cX1_countWays 3 = .ok (.iconst 5, 1) := by decide +kernel
theorem dX1_countWays_4 : decode cX1_countWays 4 = .ok (.if_icmp .ge 27, 3) := by decide +kernel
theorem dX1_countWays_7 : decode cX1_countWays 7 = .ok (.aload_n 0, 1) := by decide +kernel
theorem dX1_countWays_8 : decode cX1_countWays 8 = .ok (.getfield 17, 3) := by decide +kernel
theorem dX1_countWays_11 : decode cX1_countWays 11 = .ok (.iload_n 1, 1) := by decide +kernel
theorem dX1_countWays_12 : decode cX1_countWays 12 = .ok (.aaload, 1) := by decide +kernel
theorem dX1_countWays_13 : decode cX1_countWays 13 = .ok (.iload_n 3, 1) := by decide +kernel
theorem dX1_countWays_14 : decode cX1_countWays 14 = .ok (.iload_n 3, 1) := by decide +kernel
theorem dX1_countWays_15 : decode cX1_countWays 15 = .ok (.iload_n 2, 1) := by decide +kernel
theorem dX1_countWays_16 : decode cX1_countWays 16 = .ok (.if_icmp .ne 7, 3) := by decide +kernel
theorem dX1_countWays_19 : decode cX1_countWays 19 = .ok (.iconst 1, 1) := by decide +kernel
theorem dX1_countWays_20 : decode cX1_countWays 20 = .ok (.goto 4, 3) := by decide +kernel
theorem dX1_countWays_23 : decode cX1_countWays 23 = .ok (.iconst 0, 1) := by decide +kernel
theorem dX1_countWays_24 : decode cX1_countWays 24 = .ok (.iastore, 1) := by decide +kernel
theorem dX1_countWays_25 : decode cX1_countWays 25 = .ok (.iinc 3 1, 3) := by decide +kernel
theorem dX1_countWays_28 : decode cX1_countWays 28 = .ok (.goto (-26), 3) := by decide +kernel
theorem dX1_countWays_31 : decode cX1_countWays 31 = .ok (.iload_n 1, 1) := by decide +kernel
theorem dX1_countWays_32 : decode cX1_countWays 32 = .ok (.iconst 1, 1) := by decide +kernel
theorem dX1_countWays_33 : decode cX1_countWays 33 = .ok (.isub, 1) := by decide +kernel
theorem dX1_countWays_34 : decode cX1_countWays 34 = .ok (.istore_n 3, 1) := by decide +kernel
theorem dX1_countWays_35 : decode cX1_countWays 35 = .ok (.iload_n 3, 1) := by decide +kernel
theorem dX1_countWays_36 : decode cX1_countWays 36 = .ok (.ifCond .lt 73, 3) := by decide +kernel
theorem dX1_countWays_39 : decode cX1_countWays 39 = .ok (.iconst 0, 1) := by decide +kernel
theorem dX1_countWays_40 : decode cX1_countWays 40 = .ok (.istore 4, 2) := by decide +kernel
theorem dX1_countWays_42 : decode cX1_countWays 42 = .ok (.iload 4, 2) := by decide +kernel
theorem dX1_countWays_44 : decode cX1_countWays 44 = .ok (.iconst 5, 1) := by decide +kernel
theorem dX1_countWays_45 : decode cX1_countWays 45 = .ok (.if_icmp .ge 58, 3) := by decide +kernel
theorem dX1_countWays_48 : decode cX1_countWays 48 = .ok (.aload_n 0, 1) := by decide +kernel
theorem dX1_countWays_49 : decode cX1_countWays 49 = .ok (.getfield 17, 3) := by decide +kernel
theorem dX1_countWays_52 : decode cX1_countWays 52 = .ok (.iload_n 3, 1) := by decide +kernel
theorem dX1_countWays_53 : decode cX1_countWays 53 = .ok (.aaload, 1) := by decide +kernel
theorem dX1_countWays_54 : decode cX1_countWays 54 = .ok (.iload 4, 2) := by decide +kernel
theorem dX1_countWays_56 : decode cX1_countWays 56 = .ok (.iconst 0, 1) := by decide +kernel
theorem dX1_countWays_57 : decode cX1_countWays 57 = .ok (.iastore, 1) := by decide +kernel
theorem dX1_countWays_58 : decode cX1_countWays 58 = .ok (.iconst 0, 1) := by decide +kernel
theorem dX1_countWays_59 : decode cX1_countWays 59 = .ok (.istore 5, 2) := by decide +kernel
theorem dX1_countWays_61 : decode cX1_countWays 61 = .ok (.iload 5, 2) := by decide +kernel
theorem dX1_countWays_63 : decode cX1_countWays 63 = .ok (.iconst 2, 1) := by decide +kernel
theorem dX1_countWays_64 : decode cX1_countWays 64 = .ok (.if_icmp .gt 33, 3) := by decide +kernel
theorem dX1_countWays_67 : decode cX1_countWays 67 = .ok (.aload_n 0, 1) := by decide +kernel
theorem dX1_countWays_68 : decode cX1_countWays 68 = .ok (.getfield 17, 3) := by decide +kernel
theorem dX1_countWays_71 : decode cX1_countWays 71 = .ok (.iload_n 3, 1) := by decide +kernel
theorem dX1_countWays_72 : decode cX1_countWays 72 = .ok (.aaload, 1) := by decide +kernel
theorem dX1_countWays_73 : decode cX1_countWays 73 = .ok (.iload 4, 2) := by decide +kernel
theorem dX1_countWays_75 : decode cX1_countWays 75 = .ok (.dup2, 1) := by decide +kernel
theorem dX1_countWays_76 : decode cX1_countWays 76 = .ok (.iaload, 1) := by decide +kernel
theorem dX1_countWays_77 : decode cX1_countWays 77 = .ok (.aload_n 0, 1) := by decide +kernel
theorem dX1_countWays_78 : decode cX1_countWays 78 = .ok (.iload_n 3, 1) := by decide +kernel
theorem dX1_countWays_79 : decode cX1_countWays 79 = .ok (.iload 4, 2) := by decide +kernel
theorem dX1_countWays_81 : decode cX1_countWays 81 = .ok (.iload 5, 2) := by decide +kernel
theorem dX1_countWays_83 : decode cX1_countWays 83 = .ok (.invokestatic 32, 3) := by decide +kernel
theorem dX1_countWays_86 : decode cX1_countWays 86 = .ok (.invokevirtual 36, 3) := by decide +kernel
theorem dX1_countWays_89 : decode cX1_countWays 89 = .ok (.iadd, 1) := by decide +kernel
theorem dX1_countWays_90 : decode cX1_countWays 90 = .ok (.iastore, 1) := by decide +kernel
theorem dX1_countWays_91 : decode cX1_countWays 91 = .ok (.iinc 5 1, 3) := by decide +kernel
theorem dX1_countWays_94 : decode cX1_countWays 94 = .ok (.goto (-33), 3) := by decide +kernel
theorem dX1_countWays_97 : decode cX1_countWays 97 = .ok (.iinc 4 1, 3) := by decide +kernel
theorem dX1_countWays_100 : decode cX1_countWays 100 = .ok (.goto (-58), 3) := by decide +kernel
theorem dX1_countWays_103 : decode cX1_countWays 103 = .ok (.iinc 3 (-1), 3) := by decide +kernel
theorem dX1_countWays_106 : decode cX1_countWays 106 = .ok (.goto (-71), 3) := by decide +kernel
theorem dX1_countWays_109 : decode cX1_countWays 109 = .ok (.return_, 1) := by decide +kernel
theorem dX1_fewestHours_0 : decode cX1_fewestHours 0 = .ok (.aload_n 0, 1) := by decide +kernel
theorem dX1_fewestHours_1 : decode cX1_fewestHours 1 = .ok (.invokevirtual 42, 3) := by decide +kernel
theorem dX1_fewestHours_4 : decode cX1_fewestHours 4 = .ok (.aload_n 0, 1) := by decide +kernel
theorem dX1_fewestHours_5 : decode cX1_fewestHours 5 = .ok (.getfield 23, 3) := by decide +kernel
theorem dX1_fewestHours_8 : decode cX1_fewestHours 8 = .ok (.iload_n 1, 1) := by decide +kernel
theorem dX1_fewestHours_9 : decode cX1_fewestHours 9 = .ok (.iconst 1, 1) := by decide +kernel
theorem dX1_fewestHours_10 : decode cX1_fewestHours 10 = .ok (.iconst 1, 1) := by decide +kernel
theorem dX1_fewestHours_11 : decode cX1_fewestHours 11 = .ok (.iload_n 1, 1) := by decide +kernel
theorem dX1_fewestHours_12 : decode cX1_fewestHours 12 = .ok (.ishl, 1) := by decide +kernel
theorem dX1_fewestHours_13 : decode cX1_fewestHours 13 = .ok (.ishl, 1) := by decide +kernel
theorem dX1_fewestHours_14 : decode cX1_fewestHours 14 = .ok (.iastore, 1) := by decide +kernel
theorem dX1_fewestHours_15 : decode cX1_fewestHours 15 = .ok (.iconst 0, 1) := by decide +kernel
theorem dX1_fewestHours_16 : decode cX1_fewestHours 16 = .ok (.istore_n 2, 1) := by decide +kernel
theorem dX1_fewestHours_17 : decode cX1_fewestHours 17 = .ok (.iload_n 2, 1) := by decide +kernel
theorem dX1_fewestHours_18 : decode cX1_fewestHours 18 = .ok (.bipush 7, 2) := by decide +kernel
theorem dX1_fewestHours_20 : decode cX1_fewestHours 20 = .ok (.if_icmp .ge 47, 3) := by decide +kernel
theorem dX1_fewestHours_23 : decode cX1_fewestHours 23 = .ok (.aload_n 0, 1) := by decide +kernel
theorem dX1_fewestHours_24 : decode cX1_fewestHours 24 = .ok (.invokevirtual 45, 3) := by decide +kernel
theorem dX1_fewestHours_27 : decode cX1_fewestHours 27 = .ok (.aload_n 0, 1) := by decide +kernel
theorem dX1_fewestHours_28 : decode cX1_fewestHours 28 = .ok (.invokevirtual 42, 3) := by decide +kernel
theorem dX1_fewestHours_31 : decode cX1_fewestHours 31 = .ok (.iconst 0, 1) := by decide +kernel
theorem dX1_fewestHours_32 : decode cX1_fewestHours 32 = .ok (.istore_n 3, 1) := by decide +kernel
theorem dX1_fewestHours_33 : decode cX1_fewestHours 33 = .ok (.iload_n 3, 1) := by decide +kernel
theorem dX1_fewestHours_34 : decode cX1_fewestHours 34 = .ok (.iconst 5, 1) := by decide +kernel
theorem dX1_fewestHours_35 : decode cX1_fewestHours 35 = .ok (.if_icmp .ge 15, 3) := by decide +kernel
theorem dX1_fewestHours_38 : decode cX1_fewestHours 38 = .ok (.aload_n 0, 1) := by decide +kernel
theorem dX1_fewestHours_39 : decode cX1_fewestHours 39 = .ok (.iload_n 2, 1) := by decide +kernel
theorem dX1_fewestHours_40 : decode cX1_fewestHours 40 = .ok (.iload_n 3, 1) := by decide +kernel
theorem dX1_fewestHours_41 : decode cX1_fewestHours 41 = .ok (.invokevirtual 48, 3) := by decide +kernel
theorem dX1_fewestHours_44 : decode cX1_fewestHours 44 = .ok (.iinc 3 1, 3) := by decide +kernel
theorem dX1_fewestHours_47 : decode cX1_fewestHours 47 = .ok (.goto (-14), 3) := by decide +kernel
theorem dX1_fewestHours_50 : decode cX1_fewestHours 50 = .ok (.aload_n 0, 1) := by decide +kernel
theorem dX1_fewestHours_51 : decode cX1_fewestHours 51 = .ok (.invokevirtual 52, 3) := by decide +kernel
theorem dX1_fewestHours_54 : decode cX1_fewestHours 54 = .ok (.ifCond .eq 7, 3) := by decide +kernel
theorem dX1_fewestHours_57 : decode cX1_fewestHours 57 = .ok (.iload_n 2, 1) := by decide +kernel
theorem dX1_fewestHours_58 : decode cX1_fewestHours 58 = .ok (.iconst 1, 1) := by decide +kernel
theorem dX1_fewestHours_59 : decode cX1_fewestHours 59 = .ok (.iadd, 1) := by decide +kernel
theorem dX1_fewestHours_60 : decode cX1_fewestHours 60 = .ok (.ireturn, 1) := by decide +kernel
theorem dX1_fewestHours_61 : decode cX1_fewestHours 61 = .ok (.iinc 2 1, 3) := by decide +kernel
theorem dX1_fewestHours_64 : decode cX1_fewestHours 64 = .ok (.goto (-47), 3) := by decide +kernel
theorem dX1_fewestHours_67 : decode cX1_fewestHours 67 = .ok (.bipush (-9), 2) := by decide +kernel
theorem dX1_fewestHours_69 : decode cX1_fewestHours 69 = .ok (.ireturn, 1) := by decide +kernel
theorem dX1_firstRow_0 : decode cX1_firstRow 0 = .ok (.aload_n 0, 1) := by decide +kernel
theorem dX1_firstRow_1 : decode cX1_firstRow 1 = .ok (.getfield 17, 3) := by decide +kernel
theorem dX1_firstRow_4 : decode cX1_firstRow 4 = .ok (.iconst 0, 1) := by decide +kernel
theorem dX1_firstRow_5 : decode cX1_firstRow 5 = .ok (.aaload, 1) := by decide +kernel
theorem dX1_firstRow_6 : decode cX1_firstRow 6 = .ok (.iload_n 2, 1) := by decide +kernel
theorem dX1_firstRow_7 : decode cX1_firstRow 7 = .ok (.iaload, 1) := by decide +kernel
theorem dX1_firstRow_8 : decode cX1_firstRow 8 = .ok (.ifCond .ne 6, 3) := by decide +kernel
theorem dX1_firstRow_11 : decode cX1_firstRow 11 = .ok (.bipush (-9), 2) := by decide +kernel
theorem dX1_firstRow_13 : decode cX1_firstRow 13 = .ok (.ireturn, 1) := by decide +kernel
theorem dX1_firstRow_14 : decode cX1_firstRow 14 = .ok (.iconst 0, 1) := by decide +kernel
theorem dX1_firstRow_15 : decode cX1_firstRow 15 = .ok (.istore_n 3, 1) := by decide +kernel
theorem dX1_firstRow_16 : decode cX1_firstRow 16 = .ok (.iload_n 2, 1) := by decide +kernel
theorem dX1_firstRow_17 : decode cX1_firstRow 17 = .ok (.istore 4, 2) := by decide +kernel
theorem dX1_firstRow_19 : decode cX1_firstRow 19 = .ok (.iconst 0, 1) := by decide +kernel
theorem dX1_firstRow_20 : decode cX1_firstRow 20 = .ok (.istore 5, 2) := by decide +kernel
theorem dX1_firstRow_22 : decode cX1_firstRow 22 = .ok (.iload 5, 2) := by decide +kernel
theorem dX1_firstRow_24 : decode cX1_firstRow 24 = .ok (.iload_n 1, 1) := by decide +kernel
theorem dX1_firstRow_25 : decode cX1_firstRow 25 = .ok (.if_icmp .ge 36, 3) := by decide +kernel
theorem dX1_firstRow_28 : decode cX1_firstRow 28 = .ok (.aload_n 0, 1) := by decide +kernel
theorem dX1_firstRow_29 : decode cX1_firstRow 29 = .ok (.iload 5, 2) := by decide +kernel
theorem dX1_firstRow_31 : decode cX1_firstRow 31 = .ok (.iload 4, 2) := by decide +kernel
theorem dX1_firstRow_33 : decode cX1_firstRow 33 = .ok (.invokevirtual 39, 3) := by decide +kernel
theorem dX1_firstRow_36 : decode cX1_firstRow 36 = .ok (.istore 6, 2) := by decide +kernel
theorem dX1_firstRow_38 : decode cX1_firstRow 38 = .ok (.bipush 10, 2) := by decide +kernel
theorem dX1_firstRow_40 : decode cX1_firstRow 40 = .ok (.iload_n 3, 1) := by decide +kernel
theorem dX1_firstRow_41 : decode cX1_firstRow 41 = .ok (.imul, 1) := by decide +kernel
theorem dX1_firstRow_42 : decode cX1_firstRow 42 = .ok (.iload 6, 2) := by decide +kernel
theorem dX1_firstRow_44 : decode cX1_firstRow 44 = .ok (.iadd, 1) := by decide +kernel
theorem dX1_firstRow_45 : decode cX1_firstRow 45 = .ok (.istore_n 3, 1) := by decide +kernel
theorem dX1_firstRow_46 : decode cX1_firstRow 46 = .ok (.iload 4, 2) := by decide +kernel
theorem dX1_firstRow_48 : decode cX1_firstRow 48 = .ok (.iload 6, 2) := by decide +kernel
theorem dX1_firstRow_50 : decode cX1_firstRow 50 = .ok (.invokestatic 32, 3) := by decide +kernel
theorem dX1_firstRow_53 : decode cX1_firstRow 53 = .ok (.istore 4, 2) := by decide +kernel
theorem dX1_firstRow_55 : decode cX1_firstRow 55 = .ok (.iinc 5 1, 3) := by decide +kernel
theorem dX1_firstRow_58 : decode cX1_firstRow 58 = .ok (.goto (-36), 3) := by decide +kernel
theorem dX1_firstRow_61 : decode cX1_firstRow 61 = .ok (.iload_n 3, 1) := by decide +kernel
theorem dX1_firstRow_62 : decode cX1_firstRow 62 = .ok (.ireturn, 1) := by decide +kernel
theorem dX1_firstWay_0 : decode cX1_firstWay 0 = .ok (.iconst 0, 1) := by decide +kernel
theorem dX1_firstWay_1 : decode cX1_firstWay 1 = .ok (.istore_n 3, 1) := by decide +kernel
theorem dX1_firstWay_2 : decode cX1_firstWay 2 = .ok (.iload_n 3, 1) := by decide +kernel
theorem dX1_firstWay_3 : decode cX1_firstWay 3 = .ok (.iconst 2, 1) := by decide +kernel
theorem dX1_firstWay_4 : decode cX1_firstWay 4 = .ok (.if_icmp .ge 22, 3) := by decide +kernel
theorem dX1_firstWay_7 : decode cX1_firstWay 7 = .ok (.aload_n 0, 1) := by decide +kernel
theorem dX1_firstWay_8 : decode cX1_firstWay 8 = .ok (.iload_n 1, 1) := by decide +kernel
theorem dX1_firstWay_9 : decode cX1_firstWay 9 = .ok (.iload_n 2, 1) := by decide +kernel
theorem dX1_firstWay_10 : decode cX1_firstWay 10 = .ok (.iload_n 3, 1) := by decide +kernel
theorem dX1_firstWay_11 : decode cX1_firstWay 11 = .ok (.invokestatic 32, 3) := by decide +kernel
theorem dX1_firstWay_14 : decode cX1_firstWay 14 = .ok (.invokevirtual 36, 3) := by decide +kernel
theorem dX1_firstWay_17 : decode cX1_firstWay 17 = .ok (.ifCond .ne 9, 3) := by decide +kernel
theorem dX1_firstWay_20 : decode cX1_firstWay 20 = .ok (.iinc 3 1, 3) := by decide +kernel
theorem dX1_firstWay_23 : decode cX1_firstWay 23 = .ok (.goto (-21), 3) := by decide +kernel
theorem dX1_firstWay_26 : decode cX1_firstWay 26 = .ok (.iload_n 3, 1) := by decide +kernel
theorem dX1_firstWay_27 : decode cX1_firstWay 27 = .ok (.ireturn, 1) := by decide +kernel
theorem dX1_init_0 : decode cX1_init 0 = .ok (.aload_n 0, 1) := by decide +kernel
theorem dX1_init_1 : decode cX1_init 1 = .ok (.invokespecial 3, 3) := by decide +kernel
theorem dX1_init_4 : decode cX1_init 4 = .ok (.aload_n 0, 1) := by decide +kernel
theorem dX1_init_5 : decode cX1_init 5 = .ok (.bipush 7, 2) := by decide +kernel
theorem dX1_init_7 : decode cX1_init 7 = .ok (.newarray .int, 2) := by decide +kernel
theorem dX1_init_9 : decode cX1_init 9 = .ok (.putfield 9, 3) := by decide +kernel
theorem dX1_init_12 : decode cX1_init 12 = .ok (.aload_n 0, 1) := by decide +kernel
theorem dX1_init_13 : decode cX1_init 13 = .ok (.bipush 8, 2) := by decide +kernel
theorem dX1_init_15 : decode cX1_init 15 = .ok (.iconst 5, 1) := by decide +kernel
theorem dX1_init_16 : decode cX1_init 16 = .ok (.multianewarray 15 2, 4) := by decide +kernel
theorem dX1_init_20 : decode cX1_init 20 = .ok (.putfield 17, 3) := by decide +kernel
theorem dX1_init_23 : decode cX1_init 23 = .ok (.aload_n 0, 1) := by decide +kernel
theorem dX1_init_24 : decode cX1_init 24 = .ok (.iconst 5, 1) := by decide +kernel
theorem dX1_init_25 : decode cX1_init 25 = .ok (.newarray .int, 2) := by decide +kernel
theorem dX1_init_27 : decode cX1_init 27 = .ok (.putfield 20, 3) := by decide +kernel
theorem dX1_init_30 : decode cX1_init 30 = .ok (.aload_n 0, 1) := by decide +kernel
theorem dX1_init_31 : decode cX1_init 31 = .ok (.iconst 5, 1) := by decide +kernel
theorem dX1_init_32 : decode cX1_init 32 = .ok (.newarray .int, 2) := by decide +kernel
theorem dX1_init_34 : decode cX1_init 34 = .ok (.putfield 23, 3) := by decide +kernel
theorem dX1_init_37 : decode cX1_init 37 = .ok (.return_, 1) := by decide +kernel
theorem dX1_look_0 : decode cX1_look 0 = .ok (.iconst 0, 1) := by decide +kernel
theorem dX1_look_1 : decode cX1_look 1 = .ok (.istore 4, 2) := by decide +kernel
theorem dX1_look_3 : decode cX1_look 3 = .ok (.iload 4, 2) := by decide +kernel
theorem dX1_look_5 : decode cX1_look 5 = .ok (.bipush 7, 2) := by decide +kernel
theorem dX1_look_7 : decode cX1_look 7 = .ok (.if_icmp .ge 24, 3) := by decide +kernel
theorem dX1_look_10 : decode cX1_look 10 = .ok (.aload_n 0, 1) := by decide +kernel
theorem dX1_look_11 : decode cX1_look 11 = .ok (.getfield 9, 3) := by decide +kernel
theorem dX1_look_14 : decode cX1_look 14 = .ok (.iload 4, 2) := by decide +kernel
theorem dX1_look_16 : decode cX1_look 16 = .ok (.aload_n 2, 1) := by decide +kernel
theorem dX1_look_17 : decode cX1_look 17 = .ok (.aload_n 1, 1) := by decide +kernel
theorem dX1_look_18 : decode cX1_look 18 = .ok (.iload_n 3, 1) := by decide +kernel
theorem dX1_look_19 : decode cX1_look 19 = .ok (.iload 4, 2) := by decide +kernel
theorem dX1_look_21 : decode cX1_look 21 = .ok (.invokevirtual 26, 3) := by decide +kernel
theorem dX1_look_24 : decode cX1_look 24 = .ok (.iastore, 1) := by decide +kernel
theorem dX1_look_25 : decode cX1_look 25 = .ok (.iinc 4 1, 3) := by decide +kernel
theorem dX1_look_28 : decode cX1_look 28 = .ok (.goto (-25), 3) := by decide +kernel
theorem dX1_look_31 : decode cX1_look 31 = .ok (.return_, 1) := by decide +kernel
theorem dX1_spread_0 : decode cX1_spread 0 = .ok (.iconst 0, 1) := by decide +kernel
theorem dX1_spread_1 : decode cX1_spread 1 = .ok (.istore_n 3, 1) := by decide +kernel
theorem dX1_spread_2 : decode cX1_spread 2 = .ok (.iload_n 3, 1) := by decide +kernel
theorem dX1_spread_3 : decode cX1_spread 3 = .ok (.iconst 2, 1) := by decide +kernel
theorem dX1_spread_4 : decode cX1_spread 4 = .ok (.if_icmp .gt 57, 3) := by decide +kernel
theorem dX1_spread_7 : decode cX1_spread 7 = .ok (.iload_n 2, 1) := by decide +kernel
theorem dX1_spread_8 : decode cX1_spread 8 = .ok (.iload_n 3, 1) := by decide +kernel
theorem dX1_spread_9 : decode cX1_spread 9 = .ok (.invokestatic 32, 3) := by decide +kernel
theorem dX1_spread_12 : decode cX1_spread 12 = .ok (.istore 4, 2) := by decide +kernel
theorem dX1_spread_14 : decode cX1_spread 14 = .ok (.aload_n 0, 1) := by decide +kernel
theorem dX1_spread_15 : decode cX1_spread 15 = .ok (.getfield 20, 3) := by decide +kernel
theorem dX1_spread_18 : decode cX1_spread 18 = .ok (.iload_n 2, 1) := by decide +kernel
theorem dX1_spread_19 : decode cX1_spread 19 = .ok (.iaload, 1) := by decide +kernel
theorem dX1_spread_20 : decode cX1_spread 20 = .ok (.ifCond .eq 35, 3) := by decide +kernel
theorem dX1_spread_23 : decode cX1_spread 23 = .ok (.iload 4, 2) := by decide +kernel
theorem dX1_spread_25 : decode cX1_spread 25 = .ok (.aload_n 0, 1) := by decide +kernel
theorem dX1_spread_26 : decode cX1_spread 26 = .ok (.getfield 9, 3) := by decide +kernel
theorem dX1_spread_29 : decode cX1_spread 29 = .ok (.iload_n 1, 1) := by decide +kernel
theorem dX1_spread_30 : decode cX1_spread 30 = .ok (.iaload, 1) := by decide +kernel
theorem dX1_spread_31 : decode cX1_spread 31 = .ok (.if_icmp .eq 24, 3) := by decide +kernel
theorem dX1_spread_34 : decode cX1_spread 34 = .ok (.aload_n 0, 1) := by decide +kernel
theorem dX1_spread_35 : decode cX1_spread 35 = .ok (.getfield 23, 3) := by decide +kernel
theorem dX1_spread_38 : decode cX1_spread 38 = .ok (.iload 4, 2) := by decide +kernel
theorem dX1_spread_40 : decode cX1_spread 40 = .ok (.dup2, 1) := by decide +kernel
theorem dX1_spread_41 : decode cX1_spread 41 = .ok (.iaload, 1) := by decide +kernel
theorem dX1_spread_42 : decode cX1_spread 42 = .ok (.aload_n 0, 1) := by decide +kernel
theorem dX1_spread_43 : decode cX1_spread 43 = .ok (.getfield 20, 3) := by decide +kernel
theorem dX1_spread_46 : decode cX1_spread 46 = .ok (.iload_n 2, 1) := by decide +kernel
theorem dX1_spread_47 : decode cX1_spread 47 = .ok (.iaload, 1) := by decide +kernel
theorem dX1_spread_48 : decode cX1_spread 48 = .ok (.iload 4, 2) := by decide +kernel
theorem dX1_spread_50 : decode cX1_spread 50 = .ok (.invokestatic 56, 3) := by decide +kernel
theorem dX1_spread_53 : decode cX1_spread 53 = .ok (.ior, 1) := by decide +kernel
theorem dX1_spread_54 : decode cX1_spread 54 = .ok (.iastore, 1) := by decide +kernel
theorem dX1_spread_55 : decode cX1_spread 55 = .ok (.iinc 3 1, 3) := by decide +kernel
theorem dX1_spread_58 : decode cX1_spread 58 = .ok (.goto (-56), 3) := by decide +kernel
theorem dX1_spread_61 : decode cX1_spread 61 = .ok (.return_, 1) := by decide +kernel
theorem dX1_swap_0 : decode cX1_swap 0 = .ok (.aload_n 0, 1) := by decide +kernel
theorem dX1_swap_1 : decode cX1_swap 1 = .ok (.getfield 20, 3) := by decide +kernel
theorem dX1_swap_4 : decode cX1_swap 4 = .ok (.astore_n 1, 1) := by decide +kernel
theorem dX1_swap_5 : decode cX1_swap 5 = .ok (.aload_n 0, 1) := by decide +kernel
theorem dX1_swap_6 : decode cX1_swap 6 = .ok (.aload_n 0, 1) := by decide +kernel
theorem dX1_swap_7 : decode cX1_swap 7 = .ok (.getfield 23, 3) := by decide +kernel
theorem dX1_swap_10 : decode cX1_swap 10 = .ok (.putfield 20, 3) := by decide +kernel
theorem dX1_swap_13 : decode cX1_swap 13 = .ok (.aload_n 0, 1) := by decide +kernel
theorem dX1_swap_14 : decode cX1_swap 14 = .ok (.aload_n 1, 1) := by decide +kernel
theorem dX1_swap_15 : decode cX1_swap 15 = .ok (.putfield 23, 3) := by decide +kernel
theorem dX1_swap_18 : decode cX1_swap 18 = .ok (.return_, 1) := by decide +kernel
theorem dX1_waysBy_0 : decode cX1_waysBy 0 = .ok (.iload_n 2, 1) := by decide +kernel
theorem dX1_waysBy_1 : decode cX1_waysBy 1 = .ok (.aload_n 0, 1) := by decide +kernel
theorem dX1_waysBy_2 : decode cX1_waysBy 2 = .ok (.getfield 9, 3) := by decide +kernel
theorem dX1_waysBy_5 : decode cX1_waysBy 5 = .ok (.iload_n 1, 1) := by decide +kernel
theorem dX1_waysBy_6 : decode cX1_waysBy 6 = .ok (.iaload, 1) := by decide +kernel
theorem dX1_waysBy_7 : decode cX1_waysBy 7 = .ok (.if_icmp .ne 7, 3) := by decide +kernel
theorem dX1_waysBy_10 : decode cX1_waysBy 10 = .ok (.iconst 0, 1) := by decide +kernel
theorem dX1_waysBy_11 : decode cX1_waysBy 11 = .ok (.goto 13, 3) := by decide +kernel
theorem dX1_waysBy_14 : decode cX1_waysBy 14 = .ok (.aload_n 0, 1) := by decide +kernel
theorem dX1_waysBy_15 : decode cX1_waysBy 15 = .ok (.getfield 17, 3) := by decide +kernel
theorem dX1_waysBy_18 : decode cX1_waysBy 18 = .ok (.iload_n 1, 1) := by decide +kernel
theorem dX1_waysBy_19 : decode cX1_waysBy 19 = .ok (.iconst 1, 1) := by decide +kernel
theorem dX1_waysBy_20 : decode cX1_waysBy 20 = .ok (.iadd, 1) := by decide +kernel
theorem dX1_waysBy_21 : decode cX1_waysBy 21 = .ok (.aaload, 1) := by decide +kernel
theorem dX1_waysBy_22 : decode cX1_waysBy 22 = .ok (.iload_n 2, 1) := by decide +kernel
theorem dX1_waysBy_23 : decode cX1_waysBy 23 = .ok (.iaload, 1) := by decide +kernel
theorem dX1_waysBy_24 : decode cX1_waysBy 24 = .ok (.ireturn, 1) := by decide +kernel
theorem dX1_waysFrom_0 : decode cX1_waysFrom 0 = .ok (.aload_n 0, 1) := by decide +kernel
theorem dX1_waysFrom_1 : decode cX1_waysFrom 1 = .ok (.getfield 17, 3) := by decide +kernel
theorem dX1_waysFrom_4 : decode cX1_waysFrom 4 = .ok (.iconst 0, 1) := by decide +kernel
theorem dX1_waysFrom_5 : decode cX1_waysFrom 5 = .ok (.aaload, 1) := by decide +kernel
theorem dX1_waysFrom_6 : decode cX1_waysFrom 6 = .ok (.iload_n 1, 1) := by decide +kernel
theorem dX1_waysFrom_7 : decode cX1_waysFrom 7 = .ok (.iaload, 1) := by decide +kernel
theorem dX1_waysFrom_8 : decode cX1_waysFrom 8 = .ok (.ireturn, 1) := by decide +kernel
theorem dX1_withStreet_0 : decode cX1_withStreet 0 = .ok (.iconst 0, 1) := by decide +kernel
theorem dX1_withStreet_1 : decode cX1_withStreet 1 = .ok (.istore_n 2, 1) := by decide +kernel
theorem dX1_withStreet_2 : decode cX1_withStreet 2 = .ok (.iconst 0, 1) := by decide +kernel
theorem dX1_withStreet_3 : decode cX1_withStreet 3 = .ok (.istore_n 3, 1) := by decide +kernel
theorem dX1_withStreet_4 : decode cX1_withStreet 4 = .ok (.iload_n 3, 1) := by decide +kernel
theorem dX1_withStreet_5 : decode cX1_withStreet 5 = .ok (.bipush 31, 2) := by decide +kernel
theorem dX1_withStreet_7 : decode cX1_withStreet 7 = .ok (.if_icmp .gt 28, 3) := by decide +kernel
theorem dX1_withStreet_10 : decode cX1_withStreet 10 = .ok (.iload_n 0, 1) := by decide +kernel
theorem dX1_withStreet_11 : decode cX1_withStreet 11 = .ok (.iload_n 3, 1) := by decide +kernel
theorem dX1_withStreet_12 : decode cX1_withStreet 12 = .ok (.ishr, 1) := by decide +kernel
theorem dX1_withStreet_13 : decode cX1_withStreet 13 = .ok (.iconst 1, 1) := by decide +kernel
theorem dX1_withStreet_14 : decode cX1_withStreet 14 = .ok (.iand, 1) := by decide +kernel
theorem dX1_withStreet_15 : decode cX1_withStreet 15 = .ok (.iconst 1, 1) := by decide +kernel
theorem dX1_withStreet_16 : decode cX1_withStreet 16 = .ok (.if_icmp .ne 13, 3) := by decide +kernel
theorem dX1_withStreet_19 : decode cX1_withStreet 19 = .ok (.iload_n 2, 1) := by decide +kernel
theorem dX1_withStreet_20 : decode cX1_withStreet 20 = .ok (.iconst 1, 1) := by decide +kernel
theorem dX1_withStreet_21 : decode cX1_withStreet 21 = .ok (.iload_n 3, 1) := by decide +kernel
theorem dX1_withStreet_22 : decode cX1_withStreet 22 = .ok (.iconst 1, 1) := by decide +kernel
theorem dX1_withStreet_23 : decode cX1_withStreet 23 = .ok (.iload_n 1, 1) := by decide +kernel
theorem dX1_withStreet_24 : decode cX1_withStreet 24 = .ok (.ishl, 1) := by decide +kernel
theorem dX1_withStreet_25 : decode cX1_withStreet 25 = .ok (.ior, 1) := by decide +kernel
theorem dX1_withStreet_26 : decode cX1_withStreet 26 = .ok (.ishl, 1) := by decide +kernel
theorem dX1_withStreet_27 : decode cX1_withStreet 27 = .ok (.ior, 1) := by decide +kernel
theorem dX1_withStreet_28 : decode cX1_withStreet 28 = .ok (.istore_n 2, 1) := by decide +kernel
theorem dX1_withStreet_29 : decode cX1_withStreet 29 = .ok (.iinc 3 1, 3) := by decide +kernel
theorem dX1_withStreet_32 : decode cX1_withStreet 32 = .ok (.goto (-28), 3) := by decide +kernel
theorem dX1_withStreet_35 : decode cX1_withStreet 35 = .ok (.iload_n 2, 1) := by decide +kernel
theorem dX1_withStreet_36 : decode cX1_withStreet 36 = .ok (.ireturn, 1) := by decide +kernel
theorem dX2_become_0 : decode cX2_become 0 = .ok (.aload_n 0, 1) := by decide +kernel
theorem dX2_become_1 : decode cX2_become 1 = .ok (.aload_n 1, 1) := by decide +kernel
theorem dX2_become_2 : decode cX2_become 2 = .ok (.getfield 9, 3) := by decide +kernel
theorem dX2_become_5 : decode cX2_become 5 = .ok (.putfield 9, 3) := by decide +kernel
theorem dX2_become_8 : decode cX2_become 8 = .ok (.aload_n 0, 1) := by decide +kernel
theorem dX2_become_9 : decode cX2_become 9 = .ok (.aload_n 1, 1) := by decide +kernel
theorem dX2_become_10 : decode cX2_become 10 = .ok (.getfield 15, 3) := by decide +kernel
theorem dX2_become_13 : decode cX2_become 13 = .ok (.putfield 15, 3) := by decide +kernel
theorem dX2_become_16 : decode cX2_become 16 = .ok (.aload_n 0, 1) := by decide +kernel
theorem dX2_become_17 : decode cX2_become 17 = .ok (.aload_n 1, 1) := by decide +kernel
theorem dX2_become_18 : decode cX2_become 18 = .ok (.getfield 18, 3) := by decide +kernel
theorem dX2_become_21 : decode cX2_become 21 = .ok (.putfield 18, 3) := by decide +kernel
theorem dX2_become_24 : decode cX2_become 24 = .ok (.aload_n 0, 1) := by decide +kernel
theorem dX2_become_25 : decode cX2_become 25 = .ok (.aload_n 1, 1) := by decide +kernel
theorem dX2_become_26 : decode cX2_become 26 = .ok (.getfield 21, 3) := by decide +kernel
theorem dX2_become_29 : decode cX2_become 29 = .ok (.putfield 21, 3) := by decide +kernel
theorem dX2_become_32 : decode cX2_become 32 = .ok (.aload_n 1, 1) := by decide +kernel
theorem dX2_become_33 : decode cX2_become 33 = .ok (.getfield 24, 3) := by decide +kernel
theorem dX2_become_36 : decode cX2_become 36 = .ok (.iconst 0, 1) := by decide +kernel
theorem dX2_become_37 : decode cX2_become 37 = .ok (.aload_n 0, 1) := by decide +kernel
theorem dX2_become_38 : decode cX2_become 38 = .ok (.getfield 24, 3) := by decide +kernel
theorem dX2_become_41 : decode cX2_become 41 = .ok (.iconst 0, 1) := by decide +kernel
theorem dX2_become_42 : decode cX2_become 42 = .ok (.iconst 4, 1) := by decide +kernel
theorem dX2_become_43 : decode cX2_become 43 = .ok (.invokestatic 37, 3) := by decide +kernel
theorem dX2_become_46 : decode cX2_become 46 = .ok (.aload_n 1, 1) := by decide +kernel
theorem dX2_become_47 : decode cX2_become 47 = .ok (.getfield 28, 3) := by decide +kernel
theorem dX2_become_50 : decode cX2_become 50 = .ok (.iconst 0, 1) := by decide +kernel
theorem dX2_become_51 : decode cX2_become 51 = .ok (.aload_n 0, 1) := by decide +kernel
theorem dX2_become_52 : decode cX2_become 52 = .ok (.getfield 28, 3) := by decide +kernel
theorem dX2_become_55 : decode cX2_become 55 = .ok (.iconst 0, 1) := by decide +kernel
theorem dX2_become_56 : decode cX2_become 56 = .ok (.iconst 4, 1) := by decide +kernel
theorem dX2_become_57 : decode cX2_become 57 = .ok (.invokestatic 37, 3) := by decide +kernel
theorem dX2_become_60 : decode cX2_become 60 = .ok (.aload_n 1, 1) := by decide +kernel
theorem dX2_become_61 : decode cX2_become 61 = .ok (.getfield 31, 3) := by decide +kernel
theorem dX2_become_64 : decode cX2_become 64 = .ok (.iconst 0, 1) := by decide +kernel
theorem dX2_become_65 : decode cX2_become 65 = .ok (.aload_n 0, 1) := by decide +kernel
theorem dX2_become_66 : decode cX2_become 66 = .ok (.getfield 31, 3) := by decide +kernel
theorem dX2_become_69 : decode cX2_become 69 = .ok (.iconst 0, 1) := by decide +kernel
theorem dX2_become_70 : decode cX2_become 70 = .ok (.iconst 4, 1) := by decide +kernel
theorem dX2_become_71 : decode cX2_become 71 = .ok (.invokestatic 37, 3) := by decide +kernel
theorem dX2_become_74 : decode cX2_become 74 = .ok (.aload_n 1, 1) := by decide +kernel
theorem dX2_become_75 : decode cX2_become 75 = .ok (.getfield 34, 3) := by decide +kernel
theorem dX2_become_78 : decode cX2_become 78 = .ok (.iconst 0, 1) := by decide +kernel
theorem dX2_become_79 : decode cX2_become 79 = .ok (.aload_n 0, 1) := by decide +kernel
theorem dX2_become_80 : decode cX2_become 80 = .ok (.getfield 34, 3) := by decide +kernel
theorem dX2_become_83 : decode cX2_become 83 = .ok (.iconst 0, 1) := by decide +kernel
theorem dX2_become_84 : decode cX2_become 84 = .ok (.iconst 4, 1) := by decide +kernel
theorem dX2_become_85 : decode cX2_become 85 = .ok (.invokestatic 37, 3) := by decide +kernel
theorem dX2_become_88 : decode cX2_become 88 = .ok (.return_, 1) := by decide +kernel
theorem dX2_clear_0 : decode cX2_clear 0 = .ok (.aload_n 0, 1) := by decide +kernel
theorem dX2_clear_1 : decode cX2_clear 1 = .ok (.iconst 0, 1) := by decide +kernel
theorem dX2_clear_2 : decode cX2_clear 2 = .ok (.putfield 9, 3) := by decide +kernel
theorem dX2_clear_5 : decode cX2_clear 5 = .ok (.aload_n 0, 1) := by decide +kernel
theorem dX2_clear_6 : decode cX2_clear 6 = .ok (.iconst 0, 1) := by decide +kernel
theorem dX2_clear_7 : decode cX2_clear 7 = .ok (.putfield 15, 3) := by decide +kernel
theorem dX2_clear_10 : decode cX2_clear 10 = .ok (.aload_n 0, 1) := by decide +kernel
theorem dX2_clear_11 : decode cX2_clear 11 = .ok (.iconst 0, 1) := by decide +kernel
theorem dX2_clear_12 : decode cX2_clear 12 = .ok (.putfield 18, 3) := by decide +kernel
theorem dX2_clear_15 : decode cX2_clear 15 = .ok (.aload_n 0, 1) := by decide +kernel
theorem dX2_clear_16 : decode cX2_clear 16 = .ok (.iconst 0, 1) := by decide +kernel
theorem dX2_clear_17 : decode cX2_clear 17 = .ok (.putfield 21, 3) := by decide +kernel
theorem dX2_clear_20 : decode cX2_clear 20 = .ok (.return_, 1) := by decide +kernel
theorem dX2_comesFrom_0 : decode cX2_comesFrom 0 = .ok (.iload_n 1, 1) := by decide +kernel
theorem dX2_comesFrom_1 : decode cX2_comesFrom 1 = .ok (.istore_n 3, 1) := by decide +kernel
theorem dX2_comesFrom_2 : decode cX2_comesFrom 2 = .ok (.iconst 0, 1) := by decide +kernel
theorem dX2_comesFrom_3 : decode cX2_comesFrom 3 = .ok (.istore 4, 2) := by decide +kernel
theorem dX2_comesFrom_5 : decode cX2_comesFrom 5 = .ok (.iload 4, 2) := by decide +kernel
theorem dX2_comesFrom_7 : decode cX2_comesFrom 7 = .ok (.iconst 4, 1) := by decide +kernel
theorem dX2_comesFrom_8 : decode cX2_comesFrom 8 = .ok (.if_icmp .ge 31, 3) := by decide +kernel
theorem dX2_comesFrom_11 : decode cX2_comesFrom 11 = .ok (.aload_n 0, 1) := by decide +kernel
theorem dX2_comesFrom_12 : decode cX2_comesFrom 12 = .ok (.iload_n 3, 1) := by decide +kernel
theorem dX2_comesFrom_13 : decode cX2_comesFrom 13 = .ok (.invokevirtual 53, 3) := by decide +kernel
theorem dX2_comesFrom_16 : decode cX2_comesFrom 16 = .ok (.ifCond .eq 23, 3) := by decide +kernel
theorem dX2_comesFrom_19 : decode cX2_comesFrom 19 = .ok (.iload_n 3, 1) := by decide +kernel
theorem dX2_comesFrom_20 : decode cX2_comesFrom 20 = .ok (.iload_n 2, 1) := by decide +kernel
theorem dX2_comesFrom_21 : decode cX2_comesFrom 21 = .ok (.if_icmp .ne 5, 3) := by decide +kernel
theorem dX2_comesFrom_24 : decode cX2_comesFrom 24 = .ok (.iconst 1, 1) := by decide +kernel
theorem dX2_comesFrom_25 : decode cX2_comesFrom 25 = .ok (.ireturn, 1) := by decide +kernel
theorem dX2_comesFrom_26 : decode cX2_comesFrom 26 = .ok (.aload_n 0, 1) := by decide +kernel
theorem dX2_comesFrom_27 : decode cX2_comesFrom 27 = .ok (.getfield 34, 3) := by decide +kernel
theorem dX2_comesFrom_30 : decode cX2_comesFrom 30 = .ok (.iload_n 3, 1) := by decide +kernel
theorem dX2_comesFrom_31 : decode cX2_comesFrom 31 = .ok (.iaload, 1) := by decide +kernel
theorem dX2_comesFrom_32 : decode cX2_comesFrom 32 = .ok (.istore_n 3, 1) := by decide +kernel
theorem dX2_comesFrom_33 : decode cX2_comesFrom 33 = .ok (.iinc 4 1, 3) := by decide +kernel
theorem dX2_comesFrom_36 : decode cX2_comesFrom 36 = .ok (.goto (-31), 3) := by decide +kernel
theorem dX2_comesFrom_39 : decode cX2_comesFrom 39 = .ok (.iconst 0, 1) := by decide +kernel
theorem dX2_comesFrom_40 : decode cX2_comesFrom 40 = .ok (.ireturn, 1) := by decide +kernel
theorem dX2_degree_0 : decode cX2_degree 0 = .ok (.iload_n 1, 1) := by decide +kernel
theorem dX2_degree_1 : decode cX2_degree 1 = .ok (.istore_n 3, 1) := by decide +kernel
theorem dX2_degree_2 : decode cX2_degree 2 = .ok (.iconst 0, 1) := by decide +kernel
theorem dX2_degree_3 : decode cX2_degree 3 = .ok (.istore 4, 2) := by decide +kernel
theorem dX2_degree_5 : decode cX2_degree 5 = .ok (.iload 4, 2) := by decide +kernel
theorem dX2_degree_7 : decode cX2_degree 7 = .ok (.iconst 4, 1) := by decide +kernel
theorem dX2_degree_8 : decode cX2_degree 8 = .ok (.if_icmp .ge 72, 3) := by decide +kernel
theorem dX2_degree_11 : decode cX2_degree 11 = .ok (.aload_n 0, 1) := by decide +kernel
theorem dX2_degree_12 : decode cX2_degree 12 = .ok (.iload_n 3, 1) := by decide +kernel
theorem dX2_degree_13 : decode cX2_degree 13 = .ok (.invokevirtual 53, 3) := by decide +kernel
theorem dX2_degree_16 : decode cX2_degree 16 = .ok (.ifCond .eq 64, 3) := by decide +kernel
theorem dX2_degree_19 : decode cX2_degree 19 = .ok (.iload_n 2, 1) := by decide +kernel
theorem dX2_degree_20 : decode cX2_degree 20 = .ok (.istore 5, 2) := by decide +kernel
theorem dX2_degree_22 : decode cX2_degree 22 = .ok (.iconst 0, 1) := by decide +kernel
theorem dX2_degree_23 : decode cX2_degree 23 = .ok (.istore 6, 2) := by decide +kernel
theorem dX2_degree_25 : decode cX2_degree 25 = .ok (.iload 6, 2) := by decide +kernel
theorem dX2_degree_27 : decode cX2_degree 27 = .ok (.iconst 4, 1) := by decide +kernel
theorem dX2_degree_28 : decode cX2_degree 28 = .ok (.if_icmp .ge 39, 3) := by decide +kernel
theorem dX2_degree_31 : decode cX2_degree 31 = .ok (.aload_n 0, 1) := by decide +kernel
theorem dX2_degree_32 : decode cX2_degree 32 = .ok (.iload 5, 2) := by decide +kernel
theorem dX2_degree_34 : decode cX2_degree 34 = .ok (.invokevirtual 53, 3) := by decide +kernel
theorem dX2_degree_37 : decode cX2_degree 37 = .ok (.ifCond .eq 30, 3) := by decide +kernel
theorem dX2_degree_40 : decode cX2_degree 40 = .ok (.iload_n 3, 1) := by decide +kernel
theorem dX2_degree_41 : decode cX2_degree 41 = .ok (.iload 5, 2) := by decide +kernel
theorem dX2_degree_43 : decode cX2_degree 43 = .ok (.if_icmp .ne 9, 3) := by decide +kernel
theorem dX2_degree_46 : decode cX2_degree 46 = .ok (.iload 4, 2) := by decide +kernel
theorem dX2_degree_48 : decode cX2_degree 48 = .ok (.iload 6, 2) := by decide +kernel
theorem dX2_degree_50 : decode cX2_degree 50 = .ok (.iadd, 1) := by decide +kernel
theorem dX2_degree_51 : decode cX2_degree 51 = .ok (.ireturn, 1) := by decide +kernel
theorem dX2_degree_52 : decode cX2_degree 52 = .ok (.aload_n 0, 1) := by decide +kernel
theorem dX2_degree_53 : decode cX2_degree 53 = .ok (.getfield 34, 3) := by decide +kernel
theorem dX2_degree_56 : decode cX2_degree 56 = .ok (.iload 5, 2) := by decide +kernel
theorem dX2_degree_58 : decode cX2_degree 58 = .ok (.iaload, 1) := by decide +kernel
theorem dX2_degree_59 : decode cX2_degree 59 = .ok (.istore 5, 2) := by decide +kernel
theorem dX2_degree_61 : decode cX2_degree 61 = .ok (.iinc 6 1, 3) := by decide +kernel
theorem dX2_degree_64 : decode cX2_degree 64 = .ok (.goto (-39), 3) := by decide +kernel
theorem dX2_degree_67 : decode cX2_degree 67 = .ok (.aload_n 0, 1) := by decide +kernel
theorem dX2_degree_68 : decode cX2_degree 68 = .ok (.getfield 34, 3) := by decide +kernel
theorem dX2_degree_71 : decode cX2_degree 71 = .ok (.iload_n 3, 1) := by decide +kernel
theorem dX2_degree_72 : decode cX2_degree 72 = .ok (.iaload, 1) := by decide +kernel
theorem dX2_degree_73 : decode cX2_degree 73 = .ok (.istore_n 3, 1) := by decide +kernel
theorem dX2_degree_74 : decode cX2_degree 74 = .ok (.iinc 4 1, 3) := by decide +kernel
theorem dX2_degree_77 : decode cX2_degree 77 = .ok (.goto (-72), 3) := by decide +kernel
theorem dX2_degree_80 : decode cX2_degree 80 = .ok (.bipush (-9), 2) := by decide +kernel
theorem dX2_degree_82 : decode cX2_degree 82 = .ok (.ireturn, 1) := by decide +kernel
theorem dX2_hasDog_0 : decode cX2_hasDog 0 = .ok (.iload_n 1, 1) := by decide +kernel
theorem dX2_hasDog_1 : decode cX2_hasDog 1 = .ok (.ifCond .lt 15, 3) := by decide +kernel
theorem dX2_hasDog_4 : decode cX2_hasDog 4 = .ok (.iload_n 1, 1) := by decide +kernel
theorem dX2_hasDog_5 : decode cX2_hasDog 5 = .ok (.aload_n 0, 1) := by decide +kernel
theorem dX2_hasDog_6 : decode cX2_hasDog 6 = .ok (.getfield 9, 3) := by decide +kernel
theorem dX2_hasDog_9 : decode cX2_hasDog 9 = .ok (.if_icmp .ge 7, 3) := by decide +kernel
theorem dX2_hasDog_12 : decode cX2_hasDog 12 = .ok (.iconst 1, 1) := by decide +kernel
theorem dX2_hasDog_13 : decode cX2_hasDog 13 = .ok (.goto 4, 3) := by decide +kernel
theorem dX2_hasDog_16 : decode cX2_hasDog 16 = .ok (.iconst 0, 1) := by decide +kernel
theorem dX2_hasDog_17 : decode cX2_hasDog 17 = .ok (.ireturn, 1) := by decide +kernel
theorem dX2_hasMan_0 : decode cX2_hasMan 0 = .ok (.iload_n 1, 1) := by decide +kernel
theorem dX2_hasMan_1 : decode cX2_hasMan 1 = .ok (.ifCond .lt 15, 3) := by decide +kernel
theorem dX2_hasMan_4 : decode cX2_hasMan 4 = .ok (.iload_n 1, 1) := by decide +kernel
theorem dX2_hasMan_5 : decode cX2_hasMan 5 = .ok (.aload_n 0, 1) := by decide +kernel
theorem dX2_hasMan_6 : decode cX2_hasMan 6 = .ok (.getfield 15, 3) := by decide +kernel
theorem dX2_hasMan_9 : decode cX2_hasMan 9 = .ok (.if_icmp .ge 7, 3) := by decide +kernel
theorem dX2_hasMan_12 : decode cX2_hasMan 12 = .ok (.iconst 1, 1) := by decide +kernel
theorem dX2_hasMan_13 : decode cX2_hasMan 13 = .ok (.goto 4, 3) := by decide +kernel
theorem dX2_hasMan_16 : decode cX2_hasMan 16 = .ok (.iconst 0, 1) := by decide +kernel
theorem dX2_hasMan_17 : decode cX2_hasMan 17 = .ok (.ireturn, 1) := by decide +kernel
theorem dX2_hasRival_0 : decode cX2_hasRival 0 = .ok (.iconst 0, 1) := by decide +kernel
theorem dX2_hasRival_1 : decode cX2_hasRival 1 = .ok (.istore_n 2, 1) := by decide +kernel
theorem dX2_hasRival_2 : decode cX2_hasRival 2 = .ok (.iload_n 2, 1) := by decide +kernel
theorem dX2_hasRival_3 : decode cX2_hasRival 3 = .ok (.aload_n 0, 1) := by decide +kernel
theorem dX2_hasRival_4 : decode cX2_hasRival 4 = .ok (.getfield 9, 3) := by decide +kernel
theorem dX2_hasRival_7 : decode cX2_hasRival 7 = .ok (.if_icmp .ge 31, 3) := by decide +kernel
theorem dX2_hasRival_10 : decode cX2_hasRival 10 = .ok (.iload_n 2, 1) := by decide +kernel
theorem dX2_hasRival_11 : decode cX2_hasRival 11 = .ok (.iload_n 1, 1) := by decide +kernel
theorem dX2_hasRival_12 : decode cX2_hasRival 12 = .ok (.if_icmp .eq 20, 3) := by decide +kernel
theorem dX2_hasRival_15 : decode cX2_hasRival 15 = .ok (.aload_n 0, 1) := by decide +kernel
theorem dX2_hasRival_16 : decode cX2_hasRival 16 = .ok (.getfield 28, 3) := by decide +kernel
theorem dX2_hasRival_19 : decode cX2_hasRival 19 = .ok (.iload_n 2, 1) := by decide +kernel
theorem dX2_hasRival_20 : decode cX2_hasRival 20 = .ok (.iaload, 1) := by decide +kernel
theorem dX2_hasRival_21 : decode cX2_hasRival 21 = .ok (.aload_n 0, 1) := by decide +kernel
theorem dX2_hasRival_22 : decode cX2_hasRival 22 = .ok (.getfield 28, 3) := by decide +kernel
theorem dX2_hasRival_25 : decode cX2_hasRival 25 = .ok (.iload_n 1, 1) := by decide +kernel
theorem dX2_hasRival_26 : decode cX2_hasRival 26 = .ok (.iaload, 1) := by decide +kernel
theorem dX2_hasRival_27 : decode cX2_hasRival 27 = .ok (.if_icmp .ne 5, 3) := by decide +kernel
theorem dX2_hasRival_30 : decode cX2_hasRival 30 = .ok (.iconst 1, 1) := by decide +kernel
theorem dX2_hasRival_31 : decode cX2_hasRival 31 = .ok (.ireturn, 1) := by decide +kernel
theorem dX2_hasRival_32 : decode cX2_hasRival 32 = .ok (.iinc 2 1, 3) := by decide +kernel
theorem dX2_hasRival_35 : decode cX2_hasRival 35 = .ok (.goto (-33), 3) := by decide +kernel
theorem dX2_hasRival_38 : decode cX2_hasRival 38 = .ok (.iconst 0, 1) := by decide +kernel
theorem dX2_hasRival_39 : decode cX2_hasRival 39 = .ok (.ireturn, 1) := by decide +kernel
theorem dX2_inheritsBefore_0 : decode cX2_inheritsBefore 0 = .ok (.aload_n 0, 1) := by decide +kernel
theorem dX2_inheritsBefore_1 : decode cX2_inheritsBefore 1 = .ok (.iload_n 3, 1) := by decide +kernel
theorem dX2_inheritsBefore_2 : decode cX2_inheritsBefore 2 = .ok (.invokevirtual 53, 3) := by decide +kernel
theorem dX2_inheritsBefore_5 : decode cX2_inheritsBefore 5 = .ok (.ifCond .ne 5, 3) := by decide +kernel
theorem dX2_inheritsBefore_8 : decode cX2_inheritsBefore 8 = .ok (.iconst 1, 1) := by decide +kernel
theorem dX2_inheritsBefore_9 : decode cX2_inheritsBefore 9 = .ok (.ireturn, 1) := by decide +kernel
theorem dX2_inheritsBefore_10 : decode cX2_inheritsBefore 10 = .ok (.aload_n 0, 1) := by decide +kernel
theorem dX2_inheritsBefore_11 : decode cX2_inheritsBefore 11 = .ok (.iload_n 1, 1) := by decide +kernel
theorem dX2_inheritsBefore_12 : decode cX2_inheritsBefore 12 = .ok (.iload_n 3, 1) := by decide +kernel
theorem dX2_inheritsBefore_13 : decode cX2_inheritsBefore 13 = .ok (.invokevirtual 57, 3) := by decide +kernel
theorem dX2_inheritsBefore_16 : decode cX2_inheritsBefore 16 = .ok (.aload_n 0, 1) := by decide +kernel
theorem dX2_inheritsBefore_17 : decode cX2_inheritsBefore 17 = .ok (.iload_n 1, 1) := by decide +kernel
theorem dX2_inheritsBefore_18 : decode cX2_inheritsBefore 18 = .ok (.iload_n 2, 1) := by decide +kernel
theorem dX2_inheritsBefore_19 : decode cX2_inheritsBefore 19 = .ok (.invokevirtual 57, 3) := by decide +kernel
theorem dX2_inheritsBefore_22 : decode cX2_inheritsBefore 22 = .ok (.isub, 1) := by decide +kernel
theorem dX2_inheritsBefore_23 : decode cX2_inheritsBefore 23 = .ok (.istore 4, 2) := by decide +kernel
theorem dX2_inheritsBefore_25 : decode cX2_inheritsBefore 25 = .ok (.iload 4, 2) := by decide +kernel
theorem dX2_inheritsBefore_27 : decode cX2_inheritsBefore 27 = .ok (.ifCond .gt 23, 3) := by decide +kernel
theorem dX2_inheritsBefore_30 : decode cX2_inheritsBefore 30 = .ok (.iload 4, 2) := by decide +kernel
theorem dX2_inheritsBefore_32 : decode cX2_inheritsBefore 32 = .ok (.ifCond .ne 22, 3) := by decide +kernel
theorem dX2_inheritsBefore_35 : decode cX2_inheritsBefore 35 = .ok (.aload_n 0, 1) := by decide +kernel
theorem dX2_inheritsBefore_36 : decode cX2_inheritsBefore 36 = .ok (.getfield 28, 3) := by decide +kernel
theorem dX2_inheritsBefore_39 : decode cX2_inheritsBefore 39 = .ok (.iload_n 2, 1) := by decide +kernel
theorem dX2_inheritsBefore_40 : decode cX2_inheritsBefore 40 = .ok (.iaload, 1) := by decide +kernel
theorem dX2_inheritsBefore_41 : decode cX2_inheritsBefore 41 = .ok (.aload_n 0, 1) := by decide +kernel
theorem dX2_inheritsBefore_42 : decode cX2_inheritsBefore 42 = .ok (.getfield 28, 3) := by decide +kernel
theorem dX2_inheritsBefore_45 : decode cX2_inheritsBefore 45 = .ok (.iload_n 3, 1) := by decide +kernel
theorem dX2_inheritsBefore_46 : decode cX2_inheritsBefore 46 = .ok (.iaload, 1) := by decide +kernel
theorem dX2_inheritsBefore_47 : decode cX2_inheritsBefore 47 = .ok (.if_icmp .le 7, 3) := by decide +kernel
theorem dX2_inheritsBefore_50 : decode cX2_inheritsBefore 50 = .ok (.iconst 1, 1) := by decide +kernel
theorem dX2_inheritsBefore_51 : decode cX2_inheritsBefore 51 = .ok (.goto 4, 3) := by decide +kernel
theorem dX2_inheritsBefore_54 : decode cX2_inheritsBefore 54 = .ok (.iconst 0, 1) := by decide +kernel
theorem dX2_inheritsBefore_55 : decode cX2_inheritsBefore 55 = .ok (.ireturn, 1) := by decide +kernel
theorem dX2_init_0 : decode cX2_init 0 = .ok (.aload_n 0, 1) := by decide +kernel
theorem dX2_init_1 : decode cX2_init 1 = .ok (.invokespecial 3, 3) := by decide +kernel
theorem dX2_init_4 : decode cX2_init 4 = .ok (.aload_n 0, 1) := by decide +kernel
theorem dX2_init_5 : decode cX2_init 5 = .ok (.iconst 0, 1) := by decide +kernel
theorem dX2_init_6 : decode cX2_init 6 = .ok (.putfield 9, 3) := by decide +kernel
theorem dX2_init_9 : decode cX2_init 9 = .ok (.aload_n 0, 1) := by decide +kernel
theorem dX2_init_10 : decode cX2_init 10 = .ok (.iconst 0, 1) := by decide +kernel
theorem dX2_init_11 : decode cX2_init 11 = .ok (.putfield 15, 3) := by decide +kernel
theorem dX2_init_14 : decode cX2_init 14 = .ok (.aload_n 0, 1) := by decide +kernel
theorem dX2_init_15 : decode cX2_init 15 = .ok (.bipush 12, 2) := by decide +kernel
theorem dX2_init_17 : decode cX2_init 17 = .ok (.putfield 18, 3) := by decide +kernel
theorem dX2_init_20 : decode cX2_init 20 = .ok (.aload_n 0, 1) := by decide +kernel
theorem dX2_init_21 : decode cX2_init 21 = .ok (.iconst 0, 1) := by decide +kernel
theorem dX2_init_22 : decode cX2_init 22 = .ok (.putfield 21, 3) := by decide +kernel
theorem dX2_init_25 : decode cX2_init 25 = .ok (.aload_n 0, 1) := by decide +kernel
theorem dX2_init_26 : decode cX2_init 26 = .ok (.iconst 4, 1) := by decide +kernel
theorem dX2_init_27 : decode cX2_init 27 = .ok (.newarray .int, 2) := by decide +kernel
theorem dX2_init_29 : decode cX2_init 29 = .ok (.putfield 24, 3) := by decide +kernel
theorem dX2_init_32 : decode cX2_init 32 = .ok (.aload_n 0, 1) := by decide +kernel
theorem dX2_init_33 : decode cX2_init 33 = .ok (.iconst 4, 1) := by decide +kernel
theorem dX2_init_34 : decode cX2_init 34 = .ok (.newarray .int, 2) := by decide +kernel
theorem dX2_init_36 : decode cX2_init 36 = .ok (.putfield 28, 3) := by decide +kernel
theorem dX2_init_39 : decode cX2_init 39 = .ok (.aload_n 0, 1) := by decide +kernel
theorem dX2_init_40 : decode cX2_init 40 = .ok (.iconst 4, 1) := by decide +kernel
theorem dX2_init_41 : decode cX2_init 41 = .ok (.newarray .int, 2) := by decide +kernel
theorem dX2_init_43 : decode cX2_init 43 = .ok (.putfield 31, 3) := by decide +kernel
theorem dX2_init_46 : decode cX2_init 46 = .ok (.aload_n 0, 1) := by decide +kernel
theorem dX2_init_47 : decode cX2_init 47 = .ok (.iconst 4, 1) := by decide +kernel
theorem dX2_init_48 : decode cX2_init 48 = .ok (.newarray .int, 2) := by decide +kernel
theorem dX2_init_50 : decode cX2_init 50 = .ok (.putfield 34, 3) := by decide +kernel
theorem dX2_init_53 : decode cX2_init 53 = .ok (.return_, 1) := by decide +kernel
theorem dX2_mayParent_0 : decode cX2_mayParent 0 = .ok (.iload_n 1, 1) := by decide +kernel
theorem dX2_mayParent_1 : decode cX2_mayParent 1 = .ok (.iload_n 2, 1) := by decide +kernel
theorem dX2_mayParent_2 : decode cX2_mayParent 2 = .ok (.if_icmp .eq 27, 3) := by decide +kernel
theorem dX2_mayParent_5 : decode cX2_mayParent 5 = .ok (.aload_n 0, 1) := by decide +kernel
theorem dX2_mayParent_6 : decode cX2_mayParent 6 = .ok (.getfield 34, 3) := by decide +kernel
theorem dX2_mayParent_9 : decode cX2_mayParent 9 = .ok (.iload_n 2, 1) := by decide +kernel
theorem dX2_mayParent_10 : decode cX2_mayParent 10 = .ok (.iaload, 1) := by decide +kernel
theorem dX2_mayParent_11 : decode cX2_mayParent 11 = .ok (.bipush (-9), 2) := by decide +kernel
theorem dX2_mayParent_13 : decode cX2_mayParent 13 = .ok (.if_icmp .ne 16, 3) := by decide +kernel
theorem dX2_mayParent_16 : decode cX2_mayParent 16 = .ok (.aload_n 0, 1) := by decide +kernel
theorem dX2_mayParent_17 : decode cX2_mayParent 17 = .ok (.iload_n 1, 1) := by decide +kernel
theorem dX2_mayParent_18 : decode cX2_mayParent 18 = .ok (.iload_n 2, 1) := by decide +kernel
theorem dX2_mayParent_19 : decode cX2_mayParent 19 = .ok (.invokevirtual 49, 3) := by decide +kernel
theorem dX2_mayParent_22 : decode cX2_mayParent 22 = .ok (.ifCond .ne 7, 3) := by decide +kernel
theorem dX2_mayParent_25 : decode cX2_mayParent 25 = .ok (.iconst 1, 1) := by decide +kernel
theorem dX2_mayParent_26 : decode cX2_mayParent 26 = .ok (.goto 4, 3) := by decide +kernel
theorem dX2_mayParent_29 : decode cX2_mayParent 29 = .ok (.iconst 0, 1) := by decide +kernel
theorem dX2_mayParent_30 : decode cX2_mayParent 30 = .ok (.ireturn, 1) := by decide +kernel
theorem dX2_mayParentSome_0 : decode cX2_mayParentSome 0 = .ok (.iconst 0, 1) := by decide +kernel
theorem dX2_mayParentSome_1 : decode cX2_mayParentSome 1 = .ok (.istore_n 1, 1) := by decide +kernel
theorem dX2_mayParentSome_2 : decode cX2_mayParentSome 2 = .ok (.iconst 0, 1) := by decide +kernel
theorem dX2_mayParentSome_3 : decode cX2_mayParentSome 3 = .ok (.istore_n 2, 1) := by decide +kernel
theorem dX2_mayParentSome_4 : decode cX2_mayParentSome 4 = .ok (.iload_n 2, 1) := by decide +kernel
theorem dX2_mayParentSome_5 : decode cX2_mayParentSome 5 = .ok (.aload_n 0, 1) := by decide +kernel
theorem dX2_mayParentSome_6 : decode cX2_mayParentSome 6 = .ok (.getfield 9, 3) := by decide +kernel
theorem dX2_mayParentSome_9 : decode cX2_mayParentSome 9 = .ok (.if_icmp .ge 28, 3) := by decide +kernel
theorem dX2_mayParentSome_12 : decode cX2_mayParentSome 12 = .ok (.iload_n 1, 1) := by decide +kernel
theorem dX2_mayParentSome_13 : decode cX2_mayParentSome 13 = .ok (.aload_n 0, 1) := by decide +kernel
theorem dX2_mayParentSome_14 : decode cX2_mayParentSome 14 = .ok (.getfield 34, 3) := by decide +kernel
theorem dX2_mayParentSome_17 : decode cX2_mayParentSome 17 = .ok (.iload_n 2, 1) := by decide +kernel
theorem dX2_mayParentSome_18 : decode cX2_mayParentSome 18 = .ok (.iaload, 1) := by decide +kernel
theorem dX2_mayParentSome_19 : decode cX2_mayParentSome 19 = .ok (.bipush (-9), 2) := by decide +kernel
theorem dX2_mayParentSome_21 : decode cX2_mayParentSome 21 = .ok (.if_icmp .ne 7, 3) := by decide +kernel
theorem dX2_mayParentSome_24 : decode cX2_mayParentSome 24 = .ok (.iconst 1, 1) := by decide +kernel
theorem dX2_mayParentSome_25 : decode cX2_mayParentSome 25 = .ok (.goto 4, 3) := by decide +kernel
theorem dX2_mayParentSome_28 : decode cX2_mayParentSome 28 = .ok (.iconst 0, 1) := by decide +kernel
theorem dX2_mayParentSome_29 : decode cX2_mayParentSome 29 = .ok (.iadd, 1) := by decide +kernel
theorem dX2_mayParentSome_30 : decode cX2_mayParentSome 30 = .ok (.istore_n 1, 1) := by decide +kernel
theorem dX2_mayParentSome_31 : decode cX2_mayParentSome 31 = .ok (.iinc 2 1, 3) := by decide +kernel
theorem dX2_mayParentSome_34 : decode cX2_mayParentSome 34 = .ok (.goto (-30), 3) := by decide +kernel
theorem dX2_mayParentSome_37 : decode cX2_mayParentSome 37 = .ok (.iload_n 1, 1) := by decide +kernel
theorem dX2_mayParentSome_38 : decode cX2_mayParentSome 38 = .ok (.iconst 1, 1) := by decide +kernel
theorem dX2_mayParentSome_39 : decode cX2_mayParentSome 39 = .ok (.if_icmp .le 7, 3) := by decide +kernel
theorem dX2_mayParentSome_42 : decode cX2_mayParentSome 42 = .ok (.iconst 1, 1) := by decide +kernel
theorem dX2_mayParentSome_43 : decode cX2_mayParentSome 43 = .ok (.goto 4, 3) := by decide +kernel
theorem dX2_mayParentSome_46 : decode cX2_mayParentSome 46 = .ok (.iconst 0, 1) := by decide +kernel
theorem dX2_mayParentSome_47 : decode cX2_mayParentSome 47 = .ok (.ireturn, 1) := by decide +kernel
theorem dX2_sings_0 : decode cX2_sings 0 = .ok (.aload_n 0, 1) := by decide +kernel
theorem dX2_sings_1 : decode cX2_sings 1 = .ok (.getfield 21, 3) := by decide +kernel
theorem dX2_sings_4 : decode cX2_sings 4 = .ok (.iload_n 1, 1) := by decide +kernel
theorem dX2_sings_5 : decode cX2_sings 5 = .ok (.ishr, 1) := by decide +kernel
theorem dX2_sings_6 : decode cX2_sings 6 = .ok (.iconst 1, 1) := by decide +kernel
theorem dX2_sings_7 : decode cX2_sings 7 = .ok (.iand, 1) := by decide +kernel
theorem dX2_sings_8 : decode cX2_sings 8 = .ok (.iconst 1, 1) := by decide +kernel
theorem dX2_sings_9 : decode cX2_sings 9 = .ok (.if_icmp .ne 7, 3) := by decide +kernel
theorem dX2_sings_12 : decode cX2_sings 12 = .ok (.iconst 1, 1) := by decide +kernel
theorem dX2_sings_13 : decode cX2_sings 13 = .ok (.goto 4, 3) := by decide +kernel
theorem dX2_sings_16 : decode cX2_sings 16 = .ok (.iconst 0, 1) := by decide +kernel
theorem dX2_sings_17 : decode cX2_sings 17 = .ok (.ireturn, 1) := by decide +kernel
theorem dX2_wardenAt_0 : decode cX2_wardenAt 0 = .ok (.aload_n 0, 1) := by decide +kernel
theorem dX2_wardenAt_1 : decode cX2_wardenAt 1 = .ok (.getfield 24, 3) := by decide +kernel
theorem dX2_wardenAt_4 : decode cX2_wardenAt 4 = .ok (.iload_n 1, 1) := by decide +kernel
theorem dX2_wardenAt_5 : decode cX2_wardenAt 5 = .ok (.iconst 4, 1) := by decide +kernel
theorem dX2_wardenAt_6 : decode cX2_wardenAt 6 = .ok (.invokestatic 43, 3) := by decide +kernel
theorem dX2_wardenAt_9 : decode cX2_wardenAt 9 = .ok (.iaload, 1) := by decide +kernel
theorem dX2_wardenAt_10 : decode cX2_wardenAt 10 = .ok (.ireturn, 1) := by decide +kernel
theorem dX3_figure_0 : decode cX3_figure 0 = .ok (.iload_n 0, 1) := by decide +kernel
theorem dX3_figure_1 : decode cX3_figure 1 = .ok (.bipush 48, 2) := by decide +kernel
theorem dX3_figure_3 : decode cX3_figure 3 = .ok (.if_icmp .lt 16, 3) := by decide +kernel
theorem dX3_figure_6 : decode cX3_figure 6 = .ok (.iload_n 0, 1) := by decide +kernel
theorem dX3_figure_7 : decode cX3_figure 7 = .ok (.bipush 57, 2) := by decide +kernel
theorem dX3_figure_9 : decode cX3_figure 9 = .ok (.if_icmp .gt 10, 3) := by decide +kernel
theorem dX3_figure_12 : decode cX3_figure 12 = .ok (.iload_n 0, 1) := by decide +kernel
theorem dX3_figure_13 : decode cX3_figure 13 = .ok (.bipush 48, 2) := by decide +kernel
theorem dX3_figure_15 : decode cX3_figure 15 = .ok (.isub, 1) := by decide +kernel
theorem dX3_figure_16 : decode cX3_figure 16 = .ok (.goto 5, 3) := by decide +kernel
theorem dX3_figure_19 : decode cX3_figure 19 = .ok (.bipush (-9), 2) := by decide +kernel
theorem dX3_figure_21 : decode cX3_figure 21 = .ok (.ireturn, 1) := by decide +kernel
theorem dX3_firstFault_0 : decode cX3_firstFault 0 = .ok (.aload_n 0, 1) := by decide +kernel
theorem dX3_firstFault_1 : decode cX3_firstFault 1 = .ok (.getfield 12, 3) := by decide +kernel
theorem dX3_firstFault_4 : decode cX3_firstFault 4 = .ok (.invokevirtual 35, 3) := by decide +kernel
theorem dX3_firstFault_7 : decode cX3_firstFault 7 = .ok (.aload_n 0, 1) := by decide +kernel
theorem dX3_firstFault_8 : decode cX3_firstFault 8 = .ok (.iconst 0, 1) := by decide +kernel
theorem dX3_firstFault_9 : decode cX3_firstFault 9 = .ok (.putfield 25, 3) := by decide +kernel
theorem dX3_firstFault_12 : decode cX3_firstFault 12 = .ok (.iconst 0, 1) := by decide +kernel
theorem dX3_firstFault_13 : decode cX3_firstFault 13 = .ok (.istore_n 3, 1) := by decide +kernel
theorem dX3_firstFault_14 : decode cX3_firstFault 14 = .ok (.iload_n 3, 1) := by decide +kernel
theorem dX3_firstFault_15 : decode cX3_firstFault 15 = .ok (.iload_n 2, 1) := by decide +kernel
theorem dX3_firstFault_16 : decode cX3_firstFault 16 = .ok (.if_icmp .ge 27, 3) := by decide +kernel
theorem dX3_firstFault_19 : decode cX3_firstFault 19 = .ok (.iload_n 3, 1) := by decide +kernel
theorem dX3_firstFault_20 : decode cX3_firstFault 20 = .ok (.aload_n 1, 1) := by decide +kernel
theorem dX3_firstFault_21 : decode cX3_firstFault 21 = .ok (.arraylength, 1) := by decide +kernel
theorem dX3_firstFault_22 : decode cX3_firstFault 22 = .ok (.if_icmp .ge 21, 3) := by decide +kernel
theorem dX3_firstFault_25 : decode cX3_firstFault 25 = .ok (.aload_n 0, 1) := by decide +kernel
theorem dX3_firstFault_26 : decode cX3_firstFault 26 = .ok (.aload_n 1, 1) := by decide +kernel
theorem dX3_firstFault_27 : decode cX3_firstFault 27 = .ok (.iload_n 3, 1) := by decide +kernel
theorem dX3_firstFault_28 : decode cX3_firstFault 28 = .ok (.iaload, 1) := by decide +kernel
theorem dX3_firstFault_29 : decode cX3_firstFault 29 = .ok (.invokevirtual 38, 3) := by decide +kernel
theorem dX3_firstFault_32 : decode cX3_firstFault 32 = .ok (.ifCond .ne 5, 3) := by decide +kernel
theorem dX3_firstFault_35 : decode cX3_firstFault 35 = .ok (.iload_n 3, 1) := by decide +kernel
theorem dX3_firstFault_36 : decode cX3_firstFault 36 = .ok (.ireturn, 1) := by decide +kernel
theorem dX3_firstFault_37 : decode cX3_firstFault 37 = .ok (.iinc 3 1, 3) := by decide +kernel
theorem dX3_firstFault_40 : decode cX3_firstFault 40 = .ok (.goto (-26), 3) := by decide +kernel
theorem dX3_firstFault_43 : decode cX3_firstFault 43 = .ok (.aload_n 0, 1) := by decide +kernel
theorem dX3_firstFault_44 : decode cX3_firstFault 44 = .ok (.getfield 25, 3) := by decide +kernel
theorem dX3_firstFault_47 : decode cX3_firstFault 47 = .ok (.iconst 1, 1) := by decide +kernel
theorem dX3_firstFault_48 : decode cX3_firstFault 48 = .ok (.if_icmp .ne 8, 3) := by decide +kernel
theorem dX3_firstFault_51 : decode cX3_firstFault 51 = .ok (.bipush (-9), 2) := by decide +kernel
theorem dX3_firstFault_53 : decode cX3_firstFault 53 = .ok (.goto 4, 3) := by decide +kernel
theorem dX3_firstFault_56 : decode cX3_firstFault 56 = .ok (.iload_n 2, 1) := by decide +kernel
theorem dX3_firstFault_57 : decode cX3_firstFault 57 = .ok (.ireturn, 1) := by decide +kernel
theorem dX3_goesOn_0 : decode cX3_goesOn 0 = .ok (.aload_n 0, 1) := by decide +kernel
theorem dX3_goesOn_1 : decode cX3_goesOn 1 = .ok (.dup, 1) := by decide +kernel
theorem dX3_goesOn_2 : decode cX3_goesOn 2 = .ok (.getfield 29, 3) := by decide +kernel
theorem dX3_goesOn_5 : decode cX3_goesOn 5 = .ok (.iconst 1, 1) := by decide +kernel
theorem dX3_goesOn_6 : decode cX3_goesOn 6 = .ok (.iadd, 1) := by decide +kernel
theorem dX3_goesOn_7 : decode cX3_goesOn 7 = .ok (.putfield 29, 3) := by decide +kernel
theorem dX3_goesOn_10 : decode cX3_goesOn 10 = .ok (.aload_n 0, 1) := by decide +kernel
theorem dX3_goesOn_11 : decode cX3_goesOn 11 = .ok (.getfield 29, 3) := by decide +kernel
theorem dX3_goesOn_14 : decode cX3_goesOn 14 = .ok (.iload_n 2, 1) := by decide +kernel
theorem dX3_goesOn_15 : decode cX3_goesOn 15 = .ok (.if_icmp .ne 8, 3) := by decide +kernel
theorem dX3_goesOn_18 : decode cX3_goesOn 18 = .ok (.aload_n 0, 1) := by decide +kernel
theorem dX3_goesOn_19 : decode cX3_goesOn 19 = .ok (.iconst 1, 1) := by decide +kernel
theorem dX3_goesOn_20 : decode cX3_goesOn 20 = .ok (.putfield 25, 3) := by decide +kernel
theorem dX3_goesOn_23 : decode cX3_goesOn 23 = .ok (.iload_n 1, 1) := by decide +kernel
theorem dX3_goesOn_24 : decode cX3_goesOn 24 = .ok (.ireturn, 1) := by decide +kernel
theorem dX3_init_0 : decode cX3_init 0 = .ok (.aload_n 0, 1) := by decide +kernel
theorem dX3_init_1 : decode cX3_init 1 = .ok (.invokespecial 3, 3) := by decide +kernel
theorem dX3_init_4 : decode cX3_init 4 = .ok (.aload_n 0, 1) := by decide +kernel
theorem dX3_init_5 : decode cX3_init 5 = .ok (.new 9, 3) := by decide +kernel
theorem dX3_init_8 : decode cX3_init 8 = .ok (.dup, 1) := by decide +kernel
theorem dX3_init_9 : decode cX3_init 9 = .ok (.invokespecial 11, 3) := by decide +kernel
theorem dX3_init_12 : decode cX3_init 12 = .ok (.putfield 12, 3) := by decide +kernel
theorem dX3_init_15 : decode cX3_init 15 = .ok (.aload_n 0, 1) := by decide +kernel
theorem dX3_init_16 : decode cX3_init 16 = .ok (.new 18, 3) := by decide +kernel
theorem dX3_init_19 : decode cX3_init 19 = .ok (.dup, 1) := by decide +kernel
theorem dX3_init_20 : decode cX3_init 20 = .ok (.invokespecial 20, 3) := by decide +kernel
theorem dX3_init_23 : decode cX3_init 23 = .ok (.putfield 21, 3) := by decide +kernel
theorem dX3_init_26 : decode cX3_init 26 = .ok (.aload_n 0, 1) := by decide +kernel
theorem dX3_init_27 : decode cX3_init 27 = .ok (.iconst 0, 1) := by decide +kernel
theorem dX3_init_28 : decode cX3_init 28 = .ok (.putfield 25, 3) := by decide +kernel
theorem dX3_init_31 : decode cX3_init 31 = .ok (.aload_n 0, 1) := by decide +kernel
theorem dX3_init_32 : decode cX3_init 32 = .ok (.iconst 0, 1) := by decide +kernel
theorem dX3_init_33 : decode cX3_init 33 = .ok (.putfield 29, 3) := by decide +kernel
theorem dX3_init_36 : decode cX3_init 36 = .ok (.aload_n 0, 1) := by decide +kernel
theorem dX3_init_37 : decode cX3_init 37 = .ok (.iconst 0, 1) := by decide +kernel
theorem dX3_init_38 : decode cX3_init 38 = .ok (.putfield 32, 3) := by decide +kernel
theorem dX3_init_41 : decode cX3_init 41 = .ok (.return_, 1) := by decide +kernel
theorem dX3_isStreet_0 : decode cX3_isStreet 0 = .ok (.iload_n 0, 1) := by decide +kernel
theorem dX3_isStreet_1 : decode cX3_isStreet 1 = .ok (.ifCond .lt 12, 3) := by decide +kernel
theorem dX3_isStreet_4 : decode cX3_isStreet 4 = .ok (.iload_n 0, 1) := by decide +kernel
theorem dX3_isStreet_5 : decode cX3_isStreet 5 = .ok (.iconst 5, 1) := by decide +kernel
theorem dX3_isStreet_6 : decode cX3_isStreet 6 = .ok (.if_icmp .ge 7, 3) := by decide +kernel
theorem dX3_isStreet_9 : decode cX3_isStreet 9 = .ok (.iconst 1, 1) := by decide +kernel
theorem dX3_isStreet_10 : decode cX3_isStreet 10 = .ok (.goto 4, 3) := by decide +kernel
theorem dX3_isStreet_13 : decode cX3_isStreet 13 = .ok (.iconst 0, 1) := by decide +kernel
theorem dX3_isStreet_14 : decode cX3_isStreet 14 = .ok (.ireturn, 1) := by decide +kernel
theorem dX3_mayOpen_0 : decode cX3_mayOpen 0 = .ok (.iload_n 1, 1) := by decide +kernel
theorem dX3_mayOpen_1 : decode cX3_mayOpen 1 = .ok (.lookupswitch 77 #[(68, 35), (77, 52), (80, 69)], 35) := by decide +kernel
theorem dX3_mayOpen_36 : decode cX3_mayOpen 36 = .ok (.aload_n 0, 1) := by decide +kernel
theorem dX3_mayOpen_37 : decode cX3_mayOpen 37 = .ok (.getfield 12, 3) := by decide +kernel
theorem dX3_mayOpen_40 : decode cX3_mayOpen 40 = .ok (.getfield 68, 3) := by decide +kernel
theorem dX3_mayOpen_43 : decode cX3_mayOpen 43 = .ok (.iconst 4, 1) := by decide +kernel
theorem dX3_mayOpen_44 : decode cX3_mayOpen 44 = .ok (.if_icmp .ge 7, 3) := by decide +kernel
theorem dX3_mayOpen_47 : decode cX3_mayOpen 47 = .ok (.iconst 1, 1) := by decide +kernel
theorem dX3_mayOpen_48 : decode cX3_mayOpen 48 = .ok (.goto 4, 3) := by decide +kernel
theorem dX3_mayOpen_51 : decode cX3_mayOpen 51 = .ok (.iconst 0, 1) := by decide +kernel
theorem dX3_mayOpen_52 : decode cX3_mayOpen 52 = .ok (.ireturn, 1) := by decide +kernel
theorem dX3_mayOpen_53 : decode cX3_mayOpen 53 = .ok (.aload_n 0, 1) := by decide +kernel
theorem dX3_mayOpen_54 : decode cX3_mayOpen 54 = .ok (.getfield 12, 3) := by decide +kernel
theorem dX3_mayOpen_57 : decode cX3_mayOpen 57 = .ok (.getfield 71, 3) := by decide +kernel
theorem dX3_mayOpen_60 : decode cX3_mayOpen 60 = .ok (.iconst 5, 1) := by decide +kernel
theorem dX3_mayOpen_61 : decode cX3_mayOpen 61 = .ok (.if_icmp .ge 7, 3) := by decide +kernel
theorem dX3_mayOpen_64 : decode cX3_mayOpen 64 = .ok (.iconst 1, 1) := by decide +kernel
theorem dX3_mayOpen_65 : decode cX3_mayOpen 65 = .ok (.goto 4, 3) := by decide +kernel
theorem dX3_mayOpen_68 : decode cX3_mayOpen 68 = .ok (.iconst 0, 1) := by decide +kernel
theorem dX3_mayOpen_69 : decode cX3_mayOpen 69 = .ok (.ireturn, 1) := by decide +kernel
theorem dX3_mayOpen_70 : decode cX3_mayOpen 70 = .ok (.aload_n 0, 1) := by decide +kernel
theorem dX3_mayOpen_71 : decode cX3_mayOpen 71 = .ok (.getfield 12, 3) := by decide +kernel
theorem dX3_mayOpen_74 : decode cX3_mayOpen 74 = .ok (.invokevirtual 74, 3) := by decide +kernel
theorem dX3_mayOpen_77 : decode cX3_mayOpen 77 = .ok (.ireturn, 1) := by decide +kernel
theorem dX3_mayOpen_78 : decode cX3_mayOpen 78 = .ok (.iconst 0, 1) := by decide +kernel
theorem dX3_mayOpen_79 : decode cX3_mayOpen 79 = .ok (.ireturn, 1) := by decide +kernel
theorem dX3_opens_0 : decode cX3_opens 0 = .ok (.aload_n 0, 1) := by decide +kernel
theorem dX3_opens_1 : decode cX3_opens 1 = .ok (.iload_n 1, 1) := by decide +kernel
theorem dX3_opens_2 : decode cX3_opens 2 = .ok (.putfield 25, 3) := by decide +kernel
theorem dX3_opens_5 : decode cX3_opens 5 = .ok (.aload_n 0, 1) := by decide +kernel
theorem dX3_opens_6 : decode cX3_opens 6 = .ok (.iconst 1, 1) := by decide +kernel
theorem dX3_opens_7 : decode cX3_opens 7 = .ok (.putfield 29, 3) := by decide +kernel
theorem dX3_opens_10 : decode cX3_opens 10 = .ok (.iconst 1, 1) := by decide +kernel
theorem dX3_opens_11 : decode cX3_opens 11 = .ok (.ireturn, 1) := by decide +kernel
theorem dX3_takes_0 : decode cX3_takes 0 = .ok (.aload_n 0, 1) := by decide +kernel
theorem dX3_takes_1 : decode cX3_takes 1 = .ok (.getfield 25, 3) := by decide +kernel
theorem dX3_takes_4 : decode cX3_takes 4 = .ok (.lookupswitch 134 #[(0, 52), (1, 72), (68, 109), (76, 94), (77, 123)], 52) := by decide +kernel
theorem dX3_takes_56 : decode cX3_takes 56 = .ok (.iload_n 1, 1) := by decide +kernel
theorem dX3_takes_57 : decode cX3_takes 57 = .ok (.bipush 76, 2) := by decide +kernel
theorem dX3_takes_59 : decode cX3_takes 59 = .ok (.if_icmp .ne 15, 3) := by decide +kernel
theorem dX3_takes_62 : decode cX3_takes 62 = .ok (.aload_n 0, 1) := by decide +kernel
theorem dX3_takes_63 : decode cX3_takes 63 = .ok (.iload_n 1, 1) := by decide +kernel
theorem dX3_takes_64 : decode cX3_takes 64 = .ok (.invokevirtual 42, 3) := by decide +kernel
theorem dX3_takes_67 : decode cX3_takes 67 = .ok (.ifCond .eq 7, 3) := by decide +kernel
theorem dX3_takes_70 : decode cX3_takes 70 = .ok (.iconst 1, 1) := by decide +kernel
theorem dX3_takes_71 : decode cX3_takes 71 = .ok (.goto 4, 3) := by decide +kernel
theorem dX3_takes_74 : decode cX3_takes 74 = .ok (.iconst 0, 1) := by decide +kernel
theorem dX3_takes_75 : decode cX3_takes 75 = .ok (.ireturn, 1) := by decide +kernel
theorem dX3_takes_76 : decode cX3_takes 76 = .ok (.aload_n 0, 1) := by decide +kernel
theorem dX3_takes_77 : decode cX3_takes 77 = .ok (.iload_n 1, 1) := by decide +kernel
theorem dX3_takes_78 : decode cX3_takes 78 = .ok (.invokevirtual 45, 3) := by decide +kernel
theorem dX3_takes_81 : decode cX3_takes 81 = .ok (.ifCond .eq 15, 3) := by decide +kernel
theorem dX3_takes_84 : decode cX3_takes 84 = .ok (.aload_n 0, 1) := by decide +kernel
theorem dX3_takes_85 : decode cX3_takes 85 = .ok (.iload_n 1, 1) := by decide +kernel
theorem dX3_takes_86 : decode cX3_takes 86 = .ok (.invokevirtual 42, 3) := by decide +kernel
theorem dX3_takes_89 : decode cX3_takes 89 = .ok (.ifCond .eq 7, 3) := by decide +kernel
theorem dX3_takes_92 : decode cX3_takes 92 = .ok (.iconst 1, 1) := by decide +kernel
theorem dX3_takes_93 : decode cX3_takes 93 = .ok (.goto 4, 3) := by decide +kernel
theorem dX3_takes_96 : decode cX3_takes 96 = .ok (.iconst 0, 1) := by decide +kernel
theorem dX3_takes_97 : decode cX3_takes 97 = .ok (.ireturn, 1) := by decide +kernel
theorem dX3_takes_98 : decode cX3_takes 98 = .ok (.aload_n 0, 1) := by decide +kernel
theorem dX3_takes_99 : decode cX3_takes 99 = .ok (.aload_n 0, 1) := by decide +kernel
theorem dX3_takes_100 : decode cX3_takes 100 = .ok (.iload_n 1, 1) := by decide +kernel
theorem dX3_takes_101 : decode cX3_takes 101 = .ok (.invokestatic 48, 3) := by decide +kernel
theorem dX3_takes_104 : decode cX3_takes 104 = .ok (.invokevirtual 52, 3) := by decide +kernel
theorem dX3_takes_107 : decode cX3_takes 107 = .ok (.bipush 7, 2) := by decide +kernel
theorem dX3_takes_109 : decode cX3_takes 109 = .ok (.invokevirtual 55, 3) := by decide +kernel
theorem dX3_takes_112 : decode cX3_takes 112 = .ok (.ireturn, 1) := by decide +kernel
theorem dX3_takes_113 : decode cX3_takes 113 = .ok (.aload_n 0, 1) := by decide +kernel
theorem dX3_takes_114 : decode cX3_takes 114 = .ok (.aload_n 0, 1) := by decide +kernel
theorem dX3_takes_115 : decode cX3_takes 115 = .ok (.iload_n 1, 1) := by decide +kernel
theorem dX3_takes_116 : decode cX3_takes 116 = .ok (.invokestatic 48, 3) := by decide +kernel
theorem dX3_takes_119 : decode cX3_takes 119 = .ok (.invokevirtual 59, 3) := by decide +kernel
theorem dX3_takes_122 : decode cX3_takes 122 = .ok (.iconst 4, 1) := by decide +kernel
theorem dX3_takes_123 : decode cX3_takes 123 = .ok (.invokevirtual 55, 3) := by decide +kernel
theorem dX3_takes_126 : decode cX3_takes 126 = .ok (.ireturn, 1) := by decide +kernel
theorem dX3_takes_127 : decode cX3_takes 127 = .ok (.aload_n 0, 1) := by decide +kernel
theorem dX3_takes_128 : decode cX3_takes 128 = .ok (.aload_n 0, 1) := by decide +kernel
theorem dX3_takes_129 : decode cX3_takes 129 = .ok (.iload_n 1, 1) := by decide +kernel
theorem dX3_takes_130 : decode cX3_takes 130 = .ok (.invokevirtual 62, 3) := by decide +kernel
theorem dX3_takes_133 : decode cX3_takes 133 = .ok (.iconst 4, 1) := by decide +kernel
theorem dX3_takes_134 : decode cX3_takes 134 = .ok (.invokevirtual 55, 3) := by decide +kernel
theorem dX3_takes_137 : decode cX3_takes 137 = .ok (.ireturn, 1) := by decide +kernel
theorem dX3_takes_138 : decode cX3_takes 138 = .ok (.aload_n 0, 1) := by decide +kernel
theorem dX3_takes_139 : decode cX3_takes 139 = .ok (.aload_n 0, 1) := by decide +kernel
theorem dX3_takes_140 : decode cX3_takes 140 = .ok (.iload_n 1, 1) := by decide +kernel
theorem dX3_takes_141 : decode cX3_takes 141 = .ok (.invokestatic 48, 3) := by decide +kernel
theorem dX3_takes_144 : decode cX3_takes 144 = .ok (.invokevirtual 65, 3) := by decide +kernel
theorem dX3_takes_147 : decode cX3_takes 147 = .ok (.iconst 3, 1) := by decide +kernel
theorem dX3_takes_148 : decode cX3_takes 148 = .ok (.invokevirtual 55, 3) := by decide +kernel
theorem dX3_takes_151 : decode cX3_takes 151 = .ok (.ireturn, 1) := by decide +kernel
theorem dX3_takesDog_0 : decode cX3_takesDog 0 = .ok (.aload_n 0, 1) := by decide +kernel
theorem dX3_takesDog_1 : decode cX3_takesDog 1 = .ok (.getfield 12, 3) := by decide +kernel
theorem dX3_takesDog_4 : decode cX3_takesDog 4 = .ok (.getfield 68, 3) := by decide +kernel
theorem dX3_takesDog_7 : decode cX3_takesDog 7 = .ok (.istore_n 2, 1) := by decide +kernel
theorem dX3_takesDog_8 : decode cX3_takesDog 8 = .ok (.iload_n 2, 1) := by decide +kernel
theorem dX3_takesDog_9 : decode cX3_takesDog 9 = .ok (.iconst 4, 1) := by decide +kernel
theorem dX3_takesDog_10 : decode cX3_takesDog 10 = .ok (.if_icmp .ge 7, 3) := by decide +kernel
theorem dX3_takesDog_13 : decode cX3_takesDog 13 = .ok (.iload_n 1, 1) := by decide +kernel
theorem dX3_takesDog_14 : decode cX3_takesDog 14 = .ok (.ifCond .ge 5, 3) := by decide +kernel
theorem dX3_takesDog_17 : decode cX3_takesDog 17 = .ok (.iconst 0, 1) := by decide +kernel
theorem dX3_takesDog_18 : decode cX3_takesDog 18 = .ok (.ireturn, 1) := by decide +kernel
theorem dX3_takesDog_19 : decode cX3_takesDog 19 = .ok (.aload_n 0, 1) := by decide +kernel
theorem dX3_takesDog_20 : decode cX3_takesDog 20 = .ok (.getfield 29, 3) := by decide +kernel
theorem dX3_takesDog_23 : decode cX3_takesDog 23 = .ok (.iconst 1, 1) := by decide +kernel
theorem dX3_takesDog_24 : decode cX3_takesDog 24 = .ok (.if_icmp .ne 18, 3) := by decide +kernel
theorem dX3_takesDog_27 : decode cX3_takesDog 27 = .ok (.aload_n 0, 1) := by decide +kernel
theorem dX3_takesDog_28 : decode cX3_takesDog 28 = .ok (.getfield 21, 3) := by decide +kernel
theorem dX3_takesDog_31 : decode cX3_takesDog 31 = .ok (.getfield 94, 3) := by decide +kernel
theorem dX3_takesDog_34 : decode cX3_takesDog 34 = .ok (.iload_n 2, 1) := by decide +kernel
theorem dX3_takesDog_35 : decode cX3_takesDog 35 = .ok (.iload_n 1, 1) := by decide +kernel
theorem dX3_takesDog_36 : decode cX3_takesDog 36 = .ok (.iastore, 1) := by decide +kernel
theorem dX3_takesDog_37 : decode cX3_takesDog 37 = .ok (.iload_n 1, 1) := by decide +kernel
theorem dX3_takesDog_38 : decode cX3_takesDog 38 = .ok (.invokestatic 91, 3) := by decide +kernel
theorem dX3_takesDog_41 : decode cX3_takesDog 41 = .ok (.ireturn, 1) := by decide +kernel
theorem dX3_takesDog_42 : decode cX3_takesDog 42 = .ok (.aload_n 0, 1) := by decide +kernel
theorem dX3_takesDog_43 : decode cX3_takesDog 43 = .ok (.getfield 29, 3) := by decide +kernel
theorem dX3_takesDog_46 : decode cX3_takesDog 46 = .ok (.iconst 2, 1) := by decide +kernel
theorem dX3_takesDog_47 : decode cX3_takesDog 47 = .ok (.if_icmp .ne 15, 3) := by decide +kernel
theorem dX3_takesDog_50 : decode cX3_takesDog 50 = .ok (.aload_n 0, 1) := by decide +kernel
theorem dX3_takesDog_51 : decode cX3_takesDog 51 = .ok (.getfield 12, 3) := by decide +kernel
theorem dX3_takesDog_54 : decode cX3_takesDog 54 = .ok (.getfield 97, 3) := by decide +kernel
theorem dX3_takesDog_57 : decode cX3_takesDog 57 = .ok (.iload_n 2, 1) := by decide +kernel
theorem dX3_takesDog_58 : decode cX3_takesDog 58 = .ok (.iload_n 1, 1) := by decide +kernel
theorem dX3_takesDog_59 : decode cX3_takesDog 59 = .ok (.iastore, 1) := by decide +kernel
theorem dX3_takesDog_60 : decode cX3_takesDog 60 = .ok (.iconst 1, 1) := by decide +kernel
theorem dX3_takesDog_61 : decode cX3_takesDog 61 = .ok (.ireturn, 1) := by decide +kernel
theorem dX3_takesDog_62 : decode cX3_takesDog 62 = .ok (.aload_n 0, 1) := by decide +kernel
theorem dX3_takesDog_63 : decode cX3_takesDog 63 = .ok (.getfield 12, 3) := by decide +kernel
theorem dX3_takesDog_66 : decode cX3_takesDog 66 = .ok (.getfield 100, 3) := by decide +kernel
theorem dX3_takesDog_69 : decode cX3_takesDog 69 = .ok (.iload_n 2, 1) := by decide +kernel
theorem dX3_takesDog_70 : decode cX3_takesDog 70 = .ok (.iload_n 1, 1) := by decide +kernel
theorem dX3_takesDog_71 : decode cX3_takesDog 71 = .ok (.iastore, 1) := by decide +kernel
theorem dX3_takesDog_72 : decode cX3_takesDog 72 = .ok (.aload_n 0, 1) := by decide +kernel
theorem dX3_takesDog_73 : decode cX3_takesDog 73 = .ok (.getfield 12, 3) := by decide +kernel
theorem dX3_takesDog_76 : decode cX3_takesDog 76 = .ok (.getfield 103, 3) := by decide +kernel
theorem dX3_takesDog_79 : decode cX3_takesDog 79 = .ok (.iload_n 2, 1) := by decide +kernel
theorem dX3_takesDog_80 : decode cX3_takesDog 80 = .ok (.bipush (-9), 2) := by decide +kernel
theorem dX3_takesDog_82 : decode cX3_takesDog 82 = .ok (.iastore, 1) := by decide +kernel
theorem dX3_takesDog_83 : decode cX3_takesDog 83 = .ok (.aload_n 0, 1) := by decide +kernel
theorem dX3_takesDog_84 : decode cX3_takesDog 84 = .ok (.getfield 12, 3) := by decide +kernel
theorem dX3_takesDog_87 : decode cX3_takesDog 87 = .ok (.dup, 1) := by decide +kernel
theorem dX3_takesDog_88 : decode cX3_takesDog 88 = .ok (.getfield 68, 3) := by decide +kernel
theorem dX3_takesDog_91 : decode cX3_takesDog 91 = .ok (.iconst 1, 1) := by decide +kernel
theorem dX3_takesDog_92 : decode cX3_takesDog 92 = .ok (.iadd, 1) := by decide +kernel
theorem dX3_takesDog_93 : decode cX3_takesDog 93 = .ok (.putfield 68, 3) := by decide +kernel
theorem dX3_takesDog_96 : decode cX3_takesDog 96 = .ok (.iload_n 1, 1) := by decide +kernel
theorem dX3_takesDog_97 : decode cX3_takesDog 97 = .ok (.iconst 1, 1) := by decide +kernel
theorem dX3_takesDog_98 : decode cX3_takesDog 98 = .ok (.if_icmp .lt 12, 3) := by decide +kernel
theorem dX3_takesDog_101 : decode cX3_takesDog 101 = .ok (.iload_n 1, 1) := by decide +kernel
theorem dX3_takesDog_102 : decode cX3_takesDog 102 = .ok (.iconst 3, 1) := by decide +kernel
theorem dX3_takesDog_103 : decode cX3_takesDog 103 = .ok (.if_icmp .gt 7, 3) := by decide +kernel
theorem dX3_takesDog_106 : decode cX3_takesDog 106 = .ok (.iconst 1, 1) := by decide +kernel
theorem dX3_takesDog_107 : decode cX3_takesDog 107 = .ok (.goto 4, 3) := by decide +kernel
theorem dX3_takesDog_110 : decode cX3_takesDog 110 = .ok (.iconst 0, 1) := by decide +kernel
theorem dX3_takesDog_111 : decode cX3_takesDog 111 = .ok (.ireturn, 1) := by decide +kernel
theorem dX3_takesHead_0 : decode cX3_takesHead 0 = .ok (.iload_n 1, 1) := by decide +kernel
theorem dX3_takesHead_1 : decode cX3_takesHead 1 = .ok (.ifCond .ge 5, 3) := by decide +kernel
theorem dX3_takesHead_4 : decode cX3_takesHead 4 = .ok (.iconst 0, 1) := by decide +kernel
theorem dX3_takesHead_5 : decode cX3_takesHead 5 = .ok (.ireturn, 1) := by decide +kernel
theorem dX3_takesHead_6 : decode cX3_takesHead 6 = .ok (.aload_n 0, 1) := by decide +kernel
theorem dX3_takesHead_7 : decode cX3_takesHead 7 = .ok (.getfield 29, 3) := by decide +kernel
theorem dX3_takesHead_10 : decode cX3_takesHead 10 = .ok (.iconst 1, 1) := by decide +kernel
theorem dX3_takesHead_11 : decode cX3_takesHead 11 = .ok (.if_icmp .ne 32, 3) := by decide +kernel
theorem dX3_takesHead_14 : decode cX3_takesHead 14 = .ok (.aload_n 0, 1) := by decide +kernel
theorem dX3_takesHead_15 : decode cX3_takesHead 15 = .ok (.getfield 12, 3) := by decide +kernel
theorem dX3_takesHead_18 : decode cX3_takesHead 18 = .ok (.bipush 10, 2) := by decide +kernel
theorem dX3_takesHead_20 : decode cX3_takesHead 20 = .ok (.iload_n 1, 1) := by decide +kernel
theorem dX3_takesHead_21 : decode cX3_takesHead 21 = .ok (.imul, 1) := by decide +kernel
theorem dX3_takesHead_22 : decode cX3_takesHead 22 = .ok (.putfield 78, 3) := by decide +kernel
theorem dX3_takesHead_25 : decode cX3_takesHead 25 = .ok (.aload_n 0, 1) := by decide +kernel
theorem dX3_takesHead_26 : decode cX3_takesHead 26 = .ok (.getfield 12, 3) := by decide +kernel
theorem dX3_takesHead_29 : decode cX3_takesHead 29 = .ok (.getfield 78, 3) := by decide +kernel
theorem dX3_takesHead_32 : decode cX3_takesHead 32 = .ok (.bipush 12, 2) := by decide +kernel
theorem dX3_takesHead_34 : decode cX3_takesHead 34 = .ok (.if_icmp .gt 7, 3) := by decide +kernel
theorem dX3_takesHead_37 : decode cX3_takesHead 37 = .ok (.iconst 1, 1) := by decide +kernel
theorem dX3_takesHead_38 : decode cX3_takesHead 38 = .ok (.goto 4, 3) := by decide +kernel
theorem dX3_takesHead_41 : decode cX3_takesHead 41 = .ok (.iconst 0, 1) := by decide +kernel
theorem dX3_takesHead_42 : decode cX3_takesHead 42 = .ok (.ireturn, 1) := by decide +kernel
theorem dX3_takesHead_43 : decode cX3_takesHead 43 = .ok (.aload_n 0, 1) := by decide +kernel
theorem dX3_takesHead_44 : decode cX3_takesHead 44 = .ok (.getfield 29, 3) := by decide +kernel
theorem dX3_takesHead_47 : decode cX3_takesHead 47 = .ok (.iconst 2, 1) := by decide +kernel
theorem dX3_takesHead_48 : decode cX3_takesHead 48 = .ok (.if_icmp .ne 34, 3) := by decide +kernel
theorem dX3_takesHead_51 : decode cX3_takesHead 51 = .ok (.aload_n 0, 1) := by decide +kernel
theorem dX3_takesHead_52 : decode cX3_takesHead 52 = .ok (.getfield 12, 3) := by decide +kernel
theorem dX3_takesHead_55 : decode cX3_takesHead 55 = .ok (.dup, 1) := by decide +kernel
theorem dX3_takesHead_56 : decode cX3_takesHead 56 = .ok (.getfield 78, 3) := by decide +kernel
theorem dX3_takesHead_59 : decode cX3_takesHead 59 = .ok (.iload_n 1, 1) := by decide +kernel
theorem dX3_takesHead_60 : decode cX3_takesHead 60 = .ok (.iadd, 1) := by decide +kernel
theorem dX3_takesHead_61 : decode cX3_takesHead 61 = .ok (.putfield 78, 3) := by decide +kernel
theorem dX3_takesHead_64 : decode cX3_takesHead 64 = .ok (.aload_n 0, 1) := by decide +kernel
theorem dX3_takesHead_65 : decode cX3_takesHead 65 = .ok (.getfield 12, 3) := by decide +kernel
theorem dX3_takesHead_68 : decode cX3_takesHead 68 = .ok (.getfield 78, 3) := by decide +kernel
theorem dX3_takesHead_71 : decode cX3_takesHead 71 = .ok (.bipush 12, 2) := by decide +kernel
theorem dX3_takesHead_73 : decode cX3_takesHead 73 = .ok (.if_icmp .gt 7, 3) := by decide +kernel
theorem dX3_takesHead_76 : decode cX3_takesHead 76 = .ok (.iconst 1, 1) := by decide +kernel
theorem dX3_takesHead_77 : decode cX3_takesHead 77 = .ok (.goto 4, 3) := by decide +kernel
theorem dX3_takesHead_80 : decode cX3_takesHead 80 = .ok (.iconst 0, 1) := by decide +kernel
theorem dX3_takesHead_81 : decode cX3_takesHead 81 = .ok (.ireturn, 1) := by decide +kernel
theorem dX3_takesHead_82 : decode cX3_takesHead 82 = .ok (.aload_n 0, 1) := by decide +kernel
theorem dX3_takesHead_83 : decode cX3_takesHead 83 = .ok (.getfield 12, 3) := by decide +kernel
theorem dX3_takesHead_86 : decode cX3_takesHead 86 = .ok (.getfield 81, 3) := by decide +kernel
theorem dX3_takesHead_89 : decode cX3_takesHead 89 = .ok (.aload_n 0, 1) := by decide +kernel
theorem dX3_takesHead_90 : decode cX3_takesHead 90 = .ok (.getfield 29, 3) := by decide +kernel
theorem dX3_takesHead_93 : decode cX3_takesHead 93 = .ok (.iconst 3, 1) := by decide +kernel
theorem dX3_takesHead_94 : decode cX3_takesHead 94 = .ok (.isub, 1) := by decide +kernel
theorem dX3_takesHead_95 : decode cX3_takesHead 95 = .ok (.iconst 4, 1) := by decide +kernel
theorem dX3_takesHead_96 : decode cX3_takesHead 96 = .ok (.invokestatic 85, 3) := by decide +kernel
theorem dX3_takesHead_99 : decode cX3_takesHead 99 = .ok (.iload_n 1, 1) := by decide +kernel
theorem dX3_takesHead_100 : decode cX3_takesHead 100 = .ok (.iastore, 1) := by decide +kernel
theorem dX3_takesHead_101 : decode cX3_takesHead 101 = .ok (.iload_n 1, 1) := by decide +kernel
theorem dX3_takesHead_102 : decode cX3_takesHead 102 = .ok (.invokestatic 91, 3) := by decide +kernel
theorem dX3_takesHead_105 : decode cX3_takesHead 105 = .ok (.ireturn, 1) := by decide +kernel
theorem dX3_takesMan_0 : decode cX3_takesMan 0 = .ok (.aload_n 0, 1) := by decide +kernel
theorem dX3_takesMan_1 : decode cX3_takesMan 1 = .ok (.getfield 12, 3) := by decide +kernel
theorem dX3_takesMan_4 : decode cX3_takesMan 4 = .ok (.getfield 71, 3) := by decide +kernel
theorem dX3_takesMan_7 : decode cX3_takesMan 7 = .ok (.istore_n 2, 1) := by decide +kernel
theorem dX3_takesMan_8 : decode cX3_takesMan 8 = .ok (.iload_n 2, 1) := by decide +kernel
theorem dX3_takesMan_9 : decode cX3_takesMan 9 = .ok (.iconst 5, 1) := by decide +kernel
theorem dX3_takesMan_10 : decode cX3_takesMan 10 = .ok (.if_icmp .lt 5, 3) := by decide +kernel
theorem dX3_takesMan_13 : decode cX3_takesMan 13 = .ok (.iconst 0, 1) := by decide +kernel
theorem dX3_takesMan_14 : decode cX3_takesMan 14 = .ok (.ireturn, 1) := by decide +kernel
theorem dX3_takesMan_15 : decode cX3_takesMan 15 = .ok (.iload_n 1, 1) := by decide +kernel
theorem dX3_takesMan_16 : decode cX3_takesMan 16 = .ok (.invokestatic 48, 3) := by decide +kernel
theorem dX3_takesMan_19 : decode cX3_takesMan 19 = .ok (.istore_n 3, 1) := by decide +kernel
theorem dX3_takesMan_20 : decode cX3_takesMan 20 = .ok (.aload_n 0, 1) := by decide +kernel
theorem dX3_takesMan_21 : decode cX3_takesMan 21 = .ok (.getfield 29, 3) := by decide +kernel
theorem dX3_takesMan_24 : decode cX3_takesMan 24 = .ok (.iconst 1, 1) := by decide +kernel
theorem dX3_takesMan_25 : decode cX3_takesMan 25 = .ok (.if_icmp .ne 51, 3) := by decide +kernel
theorem dX3_takesMan_28 : decode cX3_takesMan 28 = .ok (.aload_n 0, 1) := by decide +kernel
theorem dX3_takesMan_29 : decode cX3_takesMan 29 = .ok (.getfield 21, 3) := by decide +kernel
theorem dX3_takesMan_32 : decode cX3_takesMan 32 = .ok (.getfield 105, 3) := by decide +kernel
theorem dX3_takesMan_35 : decode cX3_takesMan 35 = .ok (.iload_n 2, 1) := by decide +kernel
theorem dX3_takesMan_36 : decode cX3_takesMan 36 = .ok (.iload_n 3, 1) := by decide +kernel
theorem dX3_takesMan_37 : decode cX3_takesMan 37 = .ok (.iastore, 1) := by decide +kernel
theorem dX3_takesMan_38 : decode cX3_takesMan 38 = .ok (.iload_n 1, 1) := by decide +kernel
theorem dX3_takesMan_39 : decode cX3_takesMan 39 = .ok (.bipush 45, 2) := by decide +kernel
theorem dX3_takesMan_41 : decode cX3_takesMan 41 = .ok (.if_icmp .eq 29, 3) := by decide +kernel
theorem dX3_takesMan_44 : decode cX3_takesMan 44 = .ok (.aload_n 0, 1) := by decide +kernel
theorem dX3_takesMan_45 : decode cX3_takesMan 45 = .ok (.getfield 12, 3) := by decide +kernel
theorem dX3_takesMan_48 : decode cX3_takesMan 48 = .ok (.iload_n 3, 1) := by decide +kernel
theorem dX3_takesMan_49 : decode cX3_takesMan 49 = .ok (.invokevirtual 108, 3) := by decide +kernel
theorem dX3_takesMan_52 : decode cX3_takesMan 52 = .ok (.ifCond .eq 22, 3) := by decide +kernel
theorem dX3_takesMan_55 : decode cX3_takesMan 55 = .ok (.aload_n 0, 1) := by decide +kernel
theorem dX3_takesMan_56 : decode cX3_takesMan 56 = .ok (.getfield 21, 3) := by decide +kernel
theorem dX3_takesMan_59 : decode cX3_takesMan 59 = .ok (.aload_n 0, 1) := by decide +kernel
theorem dX3_takesMan_60 : decode cX3_takesMan 60 = .ok (.getfield 12, 3) := by decide +kernel
theorem dX3_takesMan_63 : decode cX3_takesMan 63 = .ok (.iload_n 3, 1) := by decide +kernel
theorem dX3_takesMan_64 : decode cX3_takesMan 64 = .ok (.invokevirtual 111, 3) := by decide +kernel
theorem dX3_takesMan_67 : decode cX3_takesMan 67 = .ok (.ifCond .eq 7, 3) := by decide +kernel
theorem dX3_takesMan_70 : decode cX3_takesMan 70 = .ok (.iconst 1, 1) := by decide +kernel
theorem dX3_takesMan_71 : decode cX3_takesMan 71 = .ok (.goto 4, 3) := by decide +kernel
theorem dX3_takesMan_74 : decode cX3_takesMan 74 = .ok (.iconst 0, 1) := by decide +kernel
theorem dX3_takesMan_75 : decode cX3_takesMan 75 = .ok (.ireturn, 1) := by decide +kernel
theorem dX3_takesMan_76 : decode cX3_takesMan 76 = .ok (.aload_n 0, 1) := by decide +kernel
theorem dX3_takesMan_77 : decode cX3_takesMan 77 = .ok (.getfield 29, 3) := by decide +kernel
theorem dX3_takesMan_80 : decode cX3_takesMan 80 = .ok (.iconst 2, 1) := by decide +kernel
theorem dX3_takesMan_81 : decode cX3_takesMan 81 = .ok (.if_icmp .ne 63, 3) := by decide +kernel
theorem dX3_takesMan_84 : decode cX3_takesMan 84 = .ok (.aload_n 0, 1) := by decide +kernel
theorem dX3_takesMan_85 : decode cX3_takesMan 85 = .ok (.getfield 21, 3) := by decide +kernel
theorem dX3_takesMan_88 : decode cX3_takesMan 88 = .ok (.getfield 105, 3) := by decide +kernel
theorem dX3_takesMan_91 : decode cX3_takesMan 91 = .ok (.iload_n 2, 1) := by decide +kernel
theorem dX3_takesMan_92 : decode cX3_takesMan 92 = .ok (.iaload, 1) := by decide +kernel
theorem dX3_takesMan_93 : decode cX3_takesMan 93 = .ok (.istore 4, 2) := by decide +kernel
theorem dX3_takesMan_95 : decode cX3_takesMan 95 = .ok (.aload_n 0, 1) := by decide +kernel
theorem dX3_takesMan_96 : decode cX3_takesMan 96 = .ok (.getfield 21, 3) := by decide +kernel
theorem dX3_takesMan_99 : decode cX3_takesMan 99 = .ok (.getfield 115, 3) := by decide +kernel
theorem dX3_takesMan_102 : decode cX3_takesMan 102 = .ok (.iload_n 2, 1) := by decide +kernel
theorem dX3_takesMan_103 : decode cX3_takesMan 103 = .ok (.iload_n 3, 1) := by decide +kernel
theorem dX3_takesMan_104 : decode cX3_takesMan 104 = .ok (.iastore, 1) := by decide +kernel
theorem dX3_takesMan_105 : decode cX3_takesMan 105 = .ok (.aload_n 0, 1) := by decide +kernel
theorem dX3_takesMan_106 : decode cX3_takesMan 106 = .ok (.getfield 12, 3) := by decide +kernel
theorem dX3_takesMan_109 : decode cX3_takesMan 109 = .ok (.iload 4, 2) := by decide +kernel
theorem dX3_takesMan_111 : decode cX3_takesMan 111 = .ok (.invokevirtual 108, 3) := by decide +kernel
theorem dX3_takesMan_114 : decode cX3_takesMan 114 = .ok (.ifCond .eq 25, 3) := by decide +kernel
theorem dX3_takesMan_117 : decode cX3_takesMan 117 = .ok (.iload_n 3, 1) := by decide +kernel
theorem dX3_takesMan_118 : decode cX3_takesMan 118 = .ok (.aload_n 0, 1) := by decide +kernel
theorem dX3_takesMan_119 : decode cX3_takesMan 119 = .ok (.getfield 21, 3) := by decide +kernel
theorem dX3_takesMan_122 : decode cX3_takesMan 122 = .ok (.getfield 94, 3) := by decide +kernel
theorem dX3_takesMan_125 : decode cX3_takesMan 125 = .ok (.iload 4, 2) := by decide +kernel
theorem dX3_takesMan_127 : decode cX3_takesMan 127 = .ok (.iaload, 1) := by decide +kernel
theorem dX3_takesMan_128 : decode cX3_takesMan 128 = .ok (.if_icmp .ne 7, 3) := by decide +kernel
theorem dX3_takesMan_131 : decode cX3_takesMan 131 = .ok (.iconst 1, 1) := by decide +kernel
theorem dX3_takesMan_132 : decode cX3_takesMan 132 = .ok (.goto 11, 3) := by decide +kernel
theorem dX3_takesMan_135 : decode cX3_takesMan 135 = .ok (.iconst 0, 1) := by decide +kernel
theorem dX3_takesMan_136 : decode cX3_takesMan 136 = .ok (.goto 7, 3) := by decide +kernel
theorem dX3_takesMan_139 : decode cX3_takesMan 139 = .ok (.iload_n 3, 1) := by decide +kernel
theorem dX3_takesMan_140 : decode cX3_takesMan 140 = .ok (.invokestatic 91, 3) := by decide +kernel
theorem dX3_takesMan_143 : decode cX3_takesMan 143 = .ok (.ireturn, 1) := by decide +kernel
theorem dX3_takesMan_144 : decode cX3_takesMan 144 = .ok (.aload_n 0, 1) := by decide +kernel
theorem dX3_takesMan_145 : decode cX3_takesMan 145 = .ok (.getfield 12, 3) := by decide +kernel
theorem dX3_takesMan_148 : decode cX3_takesMan 148 = .ok (.dup, 1) := by decide +kernel
theorem dX3_takesMan_149 : decode cX3_takesMan 149 = .ok (.getfield 71, 3) := by decide +kernel
theorem dX3_takesMan_152 : decode cX3_takesMan 152 = .ok (.iconst 1, 1) := by decide +kernel
theorem dX3_takesMan_153 : decode cX3_takesMan 153 = .ok (.iadd, 1) := by decide +kernel
theorem dX3_takesMan_154 : decode cX3_takesMan 154 = .ok (.putfield 71, 3) := by decide +kernel
theorem dX3_takesMan_157 : decode cX3_takesMan 157 = .ok (.aload_n 0, 1) := by decide +kernel
theorem dX3_takesMan_158 : decode cX3_takesMan 158 = .ok (.getfield 12, 3) := by decide +kernel
theorem dX3_takesMan_161 : decode cX3_takesMan 161 = .ok (.dup, 1) := by decide +kernel
theorem dX3_takesMan_162 : decode cX3_takesMan 162 = .ok (.getfield 118, 3) := by decide +kernel
theorem dX3_takesMan_165 : decode cX3_takesMan 165 = .ok (.iload_n 3, 1) := by decide +kernel
theorem dX3_takesMan_166 : decode cX3_takesMan 166 = .ok (.iconst 1, 1) := by decide +kernel
theorem dX3_takesMan_167 : decode cX3_takesMan 167 = .ok (.if_icmp .ne 9, 3) := by decide +kernel
theorem dX3_takesMan_170 : decode cX3_takesMan 170 = .ok (.iconst 1, 1) := by decide +kernel
theorem dX3_takesMan_171 : decode cX3_takesMan 171 = .ok (.iload_n 2, 1) := by decide +kernel
theorem dX3_takesMan_172 : decode cX3_takesMan 172 = .ok (.ishl, 1) := by decide +kernel
theorem dX3_takesMan_173 : decode cX3_takesMan 173 = .ok (.goto 4, 3) := by decide +kernel
theorem dX3_takesMan_176 : decode cX3_takesMan 176 = .ok (.iconst 0, 1) := by decide +kernel
theorem dX3_takesMan_177 : decode cX3_takesMan 177 = .ok (.ior, 1) := by decide +kernel
theorem dX3_takesMan_178 : decode cX3_takesMan 178 = .ok (.putfield 118, 3) := by decide +kernel
theorem dX3_takesMan_181 : decode cX3_takesMan 181 = .ok (.iload_n 3, 1) := by decide +kernel
theorem dX3_takesMan_182 : decode cX3_takesMan 182 = .ok (.ifCond .eq 8, 3) := by decide +kernel
theorem dX3_takesMan_185 : decode cX3_takesMan 185 = .ok (.iload_n 3, 1) := by decide +kernel
theorem dX3_takesMan_186 : decode cX3_takesMan 186 = .ok (.iconst 1, 1) := by decide +kernel
theorem dX3_takesMan_187 : decode cX3_takesMan 187 = .ok (.if_icmp .ne 7, 3) := by decide +kernel
theorem dX3_takesMan_190 : decode cX3_takesMan 190 = .ok (.iconst 1, 1) := by decide +kernel
theorem dX3_takesMan_191 : decode cX3_takesMan 191 = .ok (.goto 4, 3) := by decide +kernel
theorem dX3_takesMan_194 : decode cX3_takesMan 194 = .ok (.iconst 0, 1) := by decide +kernel
theorem dX3_takesMan_195 : decode cX3_takesMan 195 = .ok (.ireturn, 1) := by decide +kernel
theorem dX3_takesParent_0 : decode cX3_takesParent 0 = .ok (.aload_n 0, 1) := by decide +kernel
theorem dX3_takesParent_1 : decode cX3_takesParent 1 = .ok (.getfield 12, 3) := by decide +kernel
theorem dX3_takesParent_4 : decode cX3_takesParent 4 = .ok (.iload_n 1, 1) := by decide +kernel
theorem dX3_takesParent_5 : decode cX3_takesParent 5 = .ok (.invokevirtual 108, 3) := by decide +kernel
theorem dX3_takesParent_8 : decode cX3_takesParent 8 = .ok (.ifCond .ne 5, 3) := by decide +kernel
theorem dX3_takesParent_11 : decode cX3_takesParent 11 = .ok (.iconst 0, 1) := by decide +kernel
theorem dX3_takesParent_12 : decode cX3_takesParent 12 = .ok (.ireturn, 1) := by decide +kernel
theorem dX3_takesParent_13 : decode cX3_takesParent 13 = .ok (.aload_n 0, 1) := by decide +kernel
theorem dX3_takesParent_14 : decode cX3_takesParent 14 = .ok (.getfield 29, 3) := by decide +kernel
theorem dX3_takesParent_17 : decode cX3_takesParent 17 = .ok (.iconst 1, 1) := by decide +kernel
theorem dX3_takesParent_18 : decode cX3_takesParent 18 = .ok (.if_icmp .ne 10, 3) := by decide +kernel
theorem dX3_takesParent_21 : decode cX3_takesParent 21 = .ok (.aload_n 0, 1) := by decide +kernel
theorem dX3_takesParent_22 : decode cX3_takesParent 22 = .ok (.iload_n 1, 1) := by decide +kernel
theorem dX3_takesParent_23 : decode cX3_takesParent 23 = .ok (.putfield 32, 3) := by decide +kernel
theorem dX3_takesParent_26 : decode cX3_takesParent 26 = .ok (.iconst 1, 1) := by decide +kernel
theorem dX3_takesParent_27 : decode cX3_takesParent 27 = .ok (.ireturn, 1) := by decide +kernel
theorem dX3_takesParent_28 : decode cX3_takesParent 28 = .ok (.aload_n 0, 1) := by decide +kernel
theorem dX3_takesParent_29 : decode cX3_takesParent 29 = .ok (.getfield 12, 3) := by decide +kernel
theorem dX3_takesParent_32 : decode cX3_takesParent 32 = .ok (.aload_n 0, 1) := by decide +kernel
theorem dX3_takesParent_33 : decode cX3_takesParent 33 = .ok (.getfield 32, 3) := by decide +kernel
theorem dX3_takesParent_36 : decode cX3_takesParent 36 = .ok (.iload_n 1, 1) := by decide +kernel
theorem dX3_takesParent_37 : decode cX3_takesParent 37 = .ok (.invokevirtual 121, 3) := by decide +kernel
theorem dX3_takesParent_40 : decode cX3_takesParent 40 = .ok (.ifCond .ne 5, 3) := by decide +kernel
theorem dX3_takesParent_43 : decode cX3_takesParent 43 = .ok (.iconst 0, 1) := by decide +kernel
theorem dX3_takesParent_44 : decode cX3_takesParent 44 = .ok (.ireturn, 1) := by decide +kernel
theorem dX3_takesParent_45 : decode cX3_takesParent 45 = .ok (.aload_n 0, 1) := by decide +kernel
theorem dX3_takesParent_46 : decode cX3_takesParent 46 = .ok (.getfield 12, 3) := by decide +kernel
theorem dX3_takesParent_49 : decode cX3_takesParent 49 = .ok (.getfield 103, 3) := by decide +kernel
theorem dX3_takesParent_52 : decode cX3_takesParent 52 = .ok (.iload_n 1, 1) := by decide +kernel
theorem dX3_takesParent_53 : decode cX3_takesParent 53 = .ok (.aload_n 0, 1) := by decide +kernel
theorem dX3_takesParent_54 : decode cX3_takesParent 54 = .ok (.getfield 32, 3) := by decide +kernel
theorem dX3_takesParent_57 : decode cX3_takesParent 57 = .ok (.iastore, 1) := by decide +kernel
theorem dX3_takesParent_58 : decode cX3_takesParent 58 = .ok (.iconst 1, 1) := by decide +kernel
theorem dX3_takesParent_59 : decode cX3_takesParent 59 = .ok (.ireturn, 1) := by decide +kernel
theorem dX4_bachelors_0 : decode cX4_bachelors 0 = .ok (.iload_n 1, 1) := by decide +kernel
theorem dX4_bachelors_1 : decode cX4_bachelors 1 = .ok (.iload_n 2, 1) := by decide +kernel
theorem dX4_bachelors_2 : decode cX4_bachelors 2 = .ok (.if_icmp .ne 7, 3) := by decide +kernel
theorem dX4_bachelors_5 : decode cX4_bachelors 5 = .ok (.iconst 0, 1) := by decide +kernel
theorem dX4_bachelors_6 : decode cX4_bachelors 6 = .ok (.goto 8, 3) := by decide +kernel
theorem dX4_bachelors_9 : decode cX4_bachelors 9 = .ok (.iload_n 0, 1) := by decide +kernel
theorem dX4_bachelors_10 : decode cX4_bachelors 10 = .ok (.iload_n 2, 1) := by decide +kernel
theorem dX4_bachelors_11 : decode cX4_bachelors 11 = .ok (.invokestatic 18, 3) := by decide +kernel
theorem dX4_bachelors_14 : decode cX4_bachelors 14 = .ok (.ireturn, 1) := by decide +kernel
theorem dX4_holds_0 : decode cX4_holds 0 = .ok (.iload_n 0, 1) := by decide +kernel
theorem dX4_holds_1 : decode cX4_holds 1 = .ok (.iload_n 1, 1) := by decide +kernel
theorem dX4_holds_2 : decode cX4_holds 2 = .ok (.iload_n 2, 1) := by decide +kernel
theorem dX4_holds_3 : decode cX4_holds 3 = .ok (.invokestatic 9, 3) := by decide +kernel
theorem dX4_holds_6 : decode cX4_holds 6 = .ok (.istore_n 3, 1) := by decide +kernel
theorem dX4_holds_7 : decode cX4_holds 7 = .ok (.iload_n 0, 1) := by decide +kernel
theorem dX4_holds_8 : decode cX4_holds 8 = .ok (.iload_n 1, 1) := by decide +kernel
theorem dX4_holds_9 : decode cX4_holds 9 = .ok (.iload_n 2, 1) := by decide +kernel
theorem dX4_holds_10 : decode cX4_holds 10 = .ok (.invokestatic 15, 3) := by decide +kernel
theorem dX4_holds_13 : decode cX4_holds 13 = .ok (.istore 4, 2) := by decide +kernel
theorem dX4_holds_15 : decode cX4_holds 15 = .ok (.iconst 0, 1) := by decide +kernel
theorem dX4_holds_16 : decode cX4_holds 16 = .ok (.istore 5, 2) := by decide +kernel
theorem dX4_holds_18 : decode cX4_holds 18 = .ok (.iload 5, 2) := by decide +kernel
theorem dX4_holds_20 : decode cX4_holds 20 = .ok (.iconst 5, 1) := by decide +kernel
theorem dX4_holds_21 : decode cX4_holds 21 = .ok (.if_icmp .ge 34, 3) := by decide +kernel
theorem dX4_holds_24 : decode cX4_holds 24 = .ok (.iload_n 0, 1) := by decide +kernel
theorem dX4_holds_25 : decode cX4_holds 25 = .ok (.iload 5, 2) := by decide +kernel
theorem dX4_holds_27 : decode cX4_holds 27 = .ok (.iload_n 2, 1) := by decide +kernel
theorem dX4_holds_28 : decode cX4_holds 28 = .ok (.invokestatic 9, 3) := by decide +kernel
theorem dX4_holds_31 : decode cX4_holds 31 = .ok (.iload_n 3, 1) := by decide +kernel
theorem dX4_holds_32 : decode cX4_holds 32 = .ok (.if_icmp .gt 15, 3) := by decide +kernel
theorem dX4_holds_35 : decode cX4_holds 35 = .ok (.iload_n 0, 1) := by decide +kernel
theorem dX4_holds_36 : decode cX4_holds 36 = .ok (.iload_n 1, 1) := by decide +kernel
theorem dX4_holds_37 : decode cX4_holds 37 = .ok (.iload 5, 2) := by decide +kernel
theorem dX4_holds_39 : decode cX4_holds 39 = .ok (.invokestatic 15, 3) := by decide +kernel
theorem dX4_holds_42 : decode cX4_holds 42 = .ok (.iload 4, 2) := by decide +kernel
theorem dX4_holds_44 : decode cX4_holds 44 = .ok (.if_icmp .le 5, 3) := by decide +kernel
theorem dX4_holds_47 : decode cX4_holds 47 = .ok (.iconst 0, 1) := by decide +kernel
theorem dX4_holds_48 : decode cX4_holds 48 = .ok (.ireturn, 1) := by decide +kernel
theorem dX4_holds_49 : decode cX4_holds 49 = .ok (.iinc 5 1, 3) := by decide +kernel
theorem dX4_holds_52 : decode cX4_holds 52 = .ok (.goto (-34), 3) := by decide +kernel
theorem dX4_holds_55 : decode cX4_holds 55 = .ok (.iconst 1, 1) := by decide +kernel
theorem dX4_holds_56 : decode cX4_holds 56 = .ok (.ireturn, 1) := by decide +kernel
theorem dX4_wardens_0 : decode cX4_wardens 0 = .ok (.iload_n 1, 1) := by decide +kernel
theorem dX4_wardens_1 : decode cX4_wardens 1 = .ok (.iload_n 2, 1) := by decide +kernel
theorem dX4_wardens_2 : decode cX4_wardens 2 = .ok (.if_icmp .ne 11, 3) := by decide +kernel
theorem dX4_wardens_5 : decode cX4_wardens 5 = .ok (.iload_n 0, 1) := by decide +kernel
theorem dX4_wardens_6 : decode cX4_wardens 6 = .ok (.iload_n 2, 1) := by decide +kernel
theorem dX4_wardens_7 : decode cX4_wardens 7 = .ok (.invokestatic 18, 3) := by decide +kernel
theorem dX4_wardens_10 : decode cX4_wardens 10 = .ok (.goto 4, 3) := by decide +kernel
theorem dX4_wardens_13 : decode cX4_wardens 13 = .ok (.iconst 0, 1) := by decide +kernel
theorem dX4_wardens_14 : decode cX4_wardens 14 = .ok (.ireturn, 1) := by decide +kernel
theorem dX4_worth_0 : decode cX4_worth 0 = .ok (.iload_n 0, 1) := by decide +kernel
theorem dX4_worth_1 : decode cX4_worth 1 = .ok (.istore_n 2, 1) := by decide +kernel
theorem dX4_worth_2 : decode cX4_worth 2 = .ok (.iload_n 1, 1) := by decide +kernel
theorem dX4_worth_3 : decode cX4_worth 3 = .ok (.iconst 1, 1) := by decide +kernel
theorem dX4_worth_4 : decode cX4_worth 4 = .ok (.iadd, 1) := by decide +kernel
theorem dX4_worth_5 : decode cX4_worth 5 = .ok (.istore_n 3, 1) := by decide +kernel
theorem dX4_worth_6 : decode cX4_worth 6 = .ok (.iload_n 3, 1) := by decide +kernel
theorem dX4_worth_7 : decode cX4_worth 7 = .ok (.iconst 5, 1) := by decide +kernel
theorem dX4_worth_8 : decode cX4_worth 8 = .ok (.if_icmp .ge 14, 3) := by decide +kernel
theorem dX4_worth_11 : decode cX4_worth 11 = .ok (.iload_n 2, 1) := by decide +kernel
theorem dX4_worth_12 : decode cX4_worth 12 = .ok (.bipush 10, 2) := by decide +kernel
theorem dX4_worth_14 : decode cX4_worth 14 = .ok (.idiv, 1) := by decide +kernel
theorem dX4_worth_15 : decode cX4_worth 15 = .ok (.istore_n 2, 1) := by decide +kernel
theorem dX4_worth_16 : decode cX4_worth 16 = .ok (.iinc 3 1, 3) := by decide +kernel
theorem dX4_worth_19 : decode cX4_worth 19 = .ok (.goto (-13), 3) := by decide +kernel
theorem dX4_worth_22 : decode cX4_worth 22 = .ok (.iload_n 2, 1) := by decide +kernel
theorem dX4_worth_23 : decode cX4_worth 23 = .ok (.bipush 10, 2) := by decide +kernel
theorem dX4_worth_25 : decode cX4_worth 25 = .ok (.irem, 1) := by decide +kernel
theorem dX4_worth_26 : decode cX4_worth 26 = .ok (.ireturn, 1) := by decide +kernel
theorem dX5_add_0 : decode cX5_add 0 = .ok (.aload_n 0, 1) := by decide +kernel
theorem dX5_add_1 : decode cX5_add 1 = .ok (.getfield 9, 3) := by decide +kernel
theorem dX5_add_4 : decode cX5_add 4 = .ok (.bipush 6, 2) := by decide +kernel
theorem dX5_add_6 : decode cX5_add 6 = .ok (.if_icmp .ge 43, 3) := by decide +kernel
theorem dX5_add_9 : decode cX5_add 9 = .ok (.aload_n 0, 1) := by decide +kernel
theorem dX5_add_10 : decode cX5_add 10 = .ok (.getfield 15, 3) := by decide +kernel
theorem dX5_add_13 : decode cX5_add 13 = .ok (.aload_n 0, 1) := by decide +kernel
theorem dX5_add_14 : decode cX5_add 14 = .ok (.getfield 9, 3) := by decide +kernel
theorem dX5_add_17 : decode cX5_add 17 = .ok (.iload_n 1, 1) := by decide +kernel
theorem dX5_add_18 : decode cX5_add 18 = .ok (.iastore, 1) := by decide +kernel
theorem dX5_add_19 : decode cX5_add 19 = .ok (.aload_n 0, 1) := by decide +kernel
theorem dX5_add_20 : decode cX5_add 20 = .ok (.getfield 19, 3) := by decide +kernel
theorem dX5_add_23 : decode cX5_add 23 = .ok (.aload_n 0, 1) := by decide +kernel
theorem dX5_add_24 : decode cX5_add 24 = .ok (.getfield 9, 3) := by decide +kernel
theorem dX5_add_27 : decode cX5_add 27 = .ok (.iload_n 2, 1) := by decide +kernel
theorem dX5_add_28 : decode cX5_add 28 = .ok (.iastore, 1) := by decide +kernel
theorem dX5_add_29 : decode cX5_add 29 = .ok (.aload_n 0, 1) := by decide +kernel
theorem dX5_add_30 : decode cX5_add 30 = .ok (.getfield 22, 3) := by decide +kernel
theorem dX5_add_33 : decode cX5_add 33 = .ok (.aload_n 0, 1) := by decide +kernel
theorem dX5_add_34 : decode cX5_add 34 = .ok (.getfield 9, 3) := by decide +kernel
theorem dX5_add_37 : decode cX5_add 37 = .ok (.iload_n 3, 1) := by decide +kernel
theorem dX5_add_38 : decode cX5_add 38 = .ok (.iastore, 1) := by decide +kernel
theorem dX5_add_39 : decode cX5_add 39 = .ok (.aload_n 0, 1) := by decide +kernel
theorem dX5_add_40 : decode cX5_add 40 = .ok (.dup, 1) := by decide +kernel
theorem dX5_add_41 : decode cX5_add 41 = .ok (.getfield 9, 3) := by decide +kernel
theorem dX5_add_44 : decode cX5_add 44 = .ok (.iconst 1, 1) := by decide +kernel
theorem dX5_add_45 : decode cX5_add 45 = .ok (.iadd, 1) := by decide +kernel
theorem dX5_add_46 : decode cX5_add 46 = .ok (.putfield 9, 3) := by decide +kernel
theorem dX5_add_49 : decode cX5_add 49 = .ok (.return_, 1) := by decide +kernel
theorem dX5_fits_0 : decode cX5_fits 0 = .ok (.iconst 0, 1) := by decide +kernel
theorem dX5_fits_1 : decode cX5_fits 1 = .ok (.istore 5, 2) := by decide +kernel
theorem dX5_fits_3 : decode cX5_fits 3 = .ok (.iload 5, 2) := by decide +kernel
theorem dX5_fits_5 : decode cX5_fits 5 = .ok (.aload_n 0, 1) := by decide +kernel
theorem dX5_fits_6 : decode cX5_fits 6 = .ok (.getfield 9, 3) := by decide +kernel
theorem dX5_fits_9 : decode cX5_fits 9 = .ok (.if_icmp .ge 47, 3) := by decide +kernel
theorem dX5_fits_12 : decode cX5_fits 12 = .ok (.aload_n 0, 1) := by decide +kernel
theorem dX5_fits_13 : decode cX5_fits 13 = .ok (.getfield 15, 3) := by decide +kernel
theorem dX5_fits_16 : decode cX5_fits 16 = .ok (.iload 5, 2) := by decide +kernel
theorem dX5_fits_18 : decode cX5_fits 18 = .ok (.iaload, 1) := by decide +kernel
theorem dX5_fits_19 : decode cX5_fits 19 = .ok (.iload_n 3, 1) := by decide +kernel
theorem dX5_fits_20 : decode cX5_fits 20 = .ok (.if_icmp .ne 30, 3) := by decide +kernel
theorem dX5_fits_23 : decode cX5_fits 23 = .ok (.aload_n 0, 1) := by decide +kernel
theorem dX5_fits_24 : decode cX5_fits 24 = .ok (.getfield 19, 3) := by decide +kernel
theorem dX5_fits_27 : decode cX5_fits 27 = .ok (.iload 5, 2) := by decide +kernel
theorem dX5_fits_29 : decode cX5_fits 29 = .ok (.iaload, 1) := by decide +kernel
theorem dX5_fits_30 : decode cX5_fits 30 = .ok (.aload_n 1, 1) := by decide +kernel
theorem dX5_fits_31 : decode cX5_fits 31 = .ok (.aload_n 2, 1) := by decide +kernel
theorem dX5_fits_32 : decode cX5_fits 32 = .ok (.iload_n 3, 1) := by decide +kernel
theorem dX5_fits_33 : decode cX5_fits 33 = .ok (.iload 4, 2) := by decide +kernel
theorem dX5_fits_35 : decode cX5_fits 35 = .ok (.aload_n 0, 1) := by decide +kernel
theorem dX5_fits_36 : decode cX5_fits 36 = .ok (.getfield 22, 3) := by decide +kernel
theorem dX5_fits_39 : decode cX5_fits 39 = .ok (.iload 5, 2) := by decide +kernel
theorem dX5_fits_41 : decode cX5_fits 41 = .ok (.iaload, 1) := by decide +kernel
theorem dX5_fits_42 : decode cX5_fits 42 = .ok (.invokestatic 52, 3) := by decide +kernel
theorem dX5_fits_45 : decode cX5_fits 45 = .ok (.if_icmp .eq 5, 3) := by decide +kernel
theorem dX5_fits_48 : decode cX5_fits 48 = .ok (.iconst 0, 1) := by decide +kernel
theorem dX5_fits_49 : decode cX5_fits 49 = .ok (.ireturn, 1) := by decide +kernel
theorem dX5_fits_50 : decode cX5_fits 50 = .ok (.iinc 5 1, 3) := by decide +kernel
theorem dX5_fits_53 : decode cX5_fits 53 = .ok (.goto (-50), 3) := by decide +kernel
theorem dX5_fits_56 : decode cX5_fits 56 = .ok (.iconst 1, 1) := by decide +kernel
theorem dX5_fits_57 : decode cX5_fits 57 = .ok (.ireturn, 1) := by decide +kernel
theorem dX5_init_0 : decode cX5_init 0 = .ok (.aload_n 0, 1) := by decide +kernel
theorem dX5_init_1 : decode cX5_init 1 = .ok (.invokespecial 3, 3) := by decide +kernel
theorem dX5_init_4 : decode cX5_init 4 = .ok (.aload_n 0, 1) := by decide +kernel
theorem dX5_init_5 : decode cX5_init 5 = .ok (.iconst 0, 1) := by decide +kernel
theorem dX5_init_6 : decode cX5_init 6 = .ok (.putfield 9, 3) := by decide +kernel
theorem dX5_init_9 : decode cX5_init 9 = .ok (.aload_n 0, 1) := by decide +kernel
theorem dX5_init_10 : decode cX5_init 10 = .ok (.bipush 6, 2) := by decide +kernel
theorem dX5_init_12 : decode cX5_init 12 = .ok (.newarray .int, 2) := by decide +kernel
theorem dX5_init_14 : decode cX5_init 14 = .ok (.putfield 15, 3) := by decide +kernel
theorem dX5_init_17 : decode cX5_init 17 = .ok (.aload_n 0, 1) := by decide +kernel
theorem dX5_init_18 : decode cX5_init 18 = .ok (.bipush 6, 2) := by decide +kernel
theorem dX5_init_20 : decode cX5_init 20 = .ok (.newarray .int, 2) := by decide +kernel
theorem dX5_init_22 : decode cX5_init 22 = .ok (.putfield 19, 3) := by decide +kernel
theorem dX5_init_25 : decode cX5_init 25 = .ok (.aload_n 0, 1) := by decide +kernel
theorem dX5_init_26 : decode cX5_init 26 = .ok (.bipush 6, 2) := by decide +kernel
theorem dX5_init_28 : decode cX5_init 28 = .ok (.newarray .int, 2) := by decide +kernel
theorem dX5_init_30 : decode cX5_init 30 = .ok (.putfield 22, 3) := by decide +kernel
theorem dX5_init_33 : decode cX5_init 33 = .ok (.aload_n 0, 1) := by decide +kernel
theorem dX5_init_34 : decode cX5_init 34 = .ok (.iconst 5, 1) := by decide +kernel
theorem dX5_init_35 : decode cX5_init 35 = .ok (.newarray .int, 2) := by decide +kernel
theorem dX5_init_37 : decode cX5_init 37 = .ok (.putfield 25, 3) := by decide +kernel
theorem dX5_init_40 : decode cX5_init 40 = .ok (.aload_n 0, 1) := by decide +kernel
theorem dX5_init_41 : decode cX5_init 41 = .ok (.iconst 4, 1) := by decide +kernel
theorem dX5_init_42 : decode cX5_init 42 = .ok (.newarray .int, 2) := by decide +kernel
theorem dX5_init_44 : decode cX5_init 44 = .ok (.putfield 28, 3) := by decide +kernel
theorem dX5_init_47 : decode cX5_init 47 = .ok (.return_, 1) := by decide +kernel
theorem dX5_look_0 : decode cX5_look 0 = .ok (.aload_n 1, 1) := by decide +kernel
theorem dX5_look_1 : decode cX5_look 1 = .ok (.getfield 31, 3) := by decide +kernel
theorem dX5_look_4 : decode cX5_look 4 = .ok (.iconst 0, 1) := by decide +kernel
theorem dX5_look_5 : decode cX5_look 5 = .ok (.aload_n 0, 1) := by decide +kernel
theorem dX5_look_6 : decode cX5_look 6 = .ok (.getfield 28, 3) := by decide +kernel
theorem dX5_look_9 : decode cX5_look 9 = .ok (.iconst 0, 1) := by decide +kernel
theorem dX5_look_10 : decode cX5_look 10 = .ok (.iconst 4, 1) := by decide +kernel
theorem dX5_look_11 : decode cX5_look 11 = .ok (.invokestatic 36, 3) := by decide +kernel
theorem dX5_look_14 : decode cX5_look 14 = .ok (.iconst 0, 1) := by decide +kernel
theorem dX5_look_15 : decode cX5_look 15 = .ok (.istore_n 3, 1) := by decide +kernel
theorem dX5_look_16 : decode cX5_look 16 = .ok (.iload_n 3, 1) := by decide +kernel
theorem dX5_look_17 : decode cX5_look 17 = .ok (.aload_n 1, 1) := by decide +kernel
theorem dX5_look_18 : decode cX5_look 18 = .ok (.getfield 42, 3) := by decide +kernel
theorem dX5_look_21 : decode cX5_look 21 = .ok (.if_icmp .ge 79, 3) := by decide +kernel
theorem dX5_look_24 : decode cX5_look 24 = .ok (.aload_n 0, 1) := by decide +kernel
theorem dX5_look_25 : decode cX5_look 25 = .ok (.getfield 25, 3) := by decide +kernel
theorem dX5_look_28 : decode cX5_look 28 = .ok (.iload_n 3, 1) := by decide +kernel
theorem dX5_look_29 : decode cX5_look 29 = .ok (.aload_n 0, 1) := by decide +kernel
theorem dX5_look_30 : decode cX5_look 30 = .ok (.aload_n 1, 1) := by decide +kernel
theorem dX5_look_31 : decode cX5_look 31 = .ok (.aload_n 2, 1) := by decide +kernel
theorem dX5_look_32 : decode cX5_look 32 = .ok (.iload_n 3, 1) := by decide +kernel
theorem dX5_look_33 : decode cX5_look 33 = .ok (.iconst 4, 1) := by decide +kernel
theorem dX5_look_34 : decode cX5_look 34 = .ok (.invokevirtual 45, 3) := by decide +kernel
theorem dX5_look_37 : decode cX5_look 37 = .ok (.ifCond .eq 8, 3) := by decide +kernel
theorem dX5_look_40 : decode cX5_look 40 = .ok (.bipush 16, 2) := by decide +kernel
theorem dX5_look_42 : decode cX5_look 42 = .ok (.goto 4, 3) := by decide +kernel
theorem dX5_look_45 : decode cX5_look 45 = .ok (.iconst 0, 1) := by decide +kernel
theorem dX5_look_46 : decode cX5_look 46 = .ok (.iastore, 1) := by decide +kernel
theorem dX5_look_47 : decode cX5_look 47 = .ok (.iconst 0, 1) := by decide +kernel
theorem dX5_look_48 : decode cX5_look 48 = .ok (.istore 4, 2) := by decide +kernel
theorem dX5_look_50 : decode cX5_look 50 = .ok (.iload 4, 2) := by decide +kernel
theorem dX5_look_52 : decode cX5_look 52 = .ok (.aload_n 1, 1) := by decide +kernel
theorem dX5_look_53 : decode cX5_look 53 = .ok (.getfield 49, 3) := by decide +kernel
theorem dX5_look_56 : decode cX5_look 56 = .ok (.if_icmp .ge 38, 3) := by decide +kernel
theorem dX5_look_59 : decode cX5_look 59 = .ok (.aload_n 0, 1) := by decide +kernel
theorem dX5_look_60 : decode cX5_look 60 = .ok (.getfield 25, 3) := by decide +kernel
theorem dX5_look_63 : decode cX5_look 63 = .ok (.iload_n 3, 1) := by decide +kernel
theorem dX5_look_64 : decode cX5_look 64 = .ok (.dup2, 1) := by decide +kernel
theorem dX5_look_65 : decode cX5_look 65 = .ok (.iaload, 1) := by decide +kernel
theorem dX5_look_66 : decode cX5_look 66 = .ok (.aload_n 0, 1) := by decide +kernel
theorem dX5_look_67 : decode cX5_look 67 = .ok (.aload_n 1, 1) := by decide +kernel
theorem dX5_look_68 : decode cX5_look 68 = .ok (.aload_n 2, 1) := by decide +kernel
theorem dX5_look_69 : decode cX5_look 69 = .ok (.iload_n 3, 1) := by decide +kernel
theorem dX5_look_70 : decode cX5_look 70 = .ok (.iload 4, 2) := by decide +kernel
theorem dX5_look_72 : decode cX5_look 72 = .ok (.invokevirtual 45, 3) := by decide +kernel
theorem dX5_look_75 : decode cX5_look 75 = .ok (.ifCond .eq 10, 3) := by decide +kernel
theorem dX5_look_78 : decode cX5_look 78 = .ok (.iconst 1, 1) := by decide +kernel
theorem dX5_look_79 : decode cX5_look 79 = .ok (.iload 4, 2) := by decide +kernel
theorem dX5_look_81 : decode cX5_look 81 = .ok (.ishl, 1) := by decide +kernel
theorem dX5_look_82 : decode cX5_look 82 = .ok (.goto 4, 3) := by decide +kernel
theorem dX5_look_85 : decode cX5_look 85 = .ok (.iconst 0, 1) := by decide +kernel
theorem dX5_look_86 : decode cX5_look 86 = .ok (.ior, 1) := by decide +kernel
theorem dX5_look_87 : decode cX5_look 87 = .ok (.iastore, 1) := by decide +kernel
theorem dX5_look_88 : decode cX5_look 88 = .ok (.iinc 4 1, 3) := by decide +kernel
theorem dX5_look_91 : decode cX5_look 91 = .ok (.goto (-41), 3) := by decide +kernel
theorem dX5_look_94 : decode cX5_look 94 = .ok (.iinc 3 1, 3) := by decide +kernel
theorem dX5_look_97 : decode cX5_look 97 = .ok (.goto (-81), 3) := by decide +kernel
theorem dX5_look_100 : decode cX5_look 100 = .ok (.return_, 1) := by decide +kernel
theorem dX5_onlyCompany_0 : decode cX5_onlyCompany 0 = .ok (.aload_n 0, 1) := by decide +kernel
theorem dX5_onlyCompany_1 : decode cX5_onlyCompany 1 = .ok (.getfield 25, 3) := by decide +kernel
theorem dX5_onlyCompany_4 : decode cX5_onlyCompany 4 = .ok (.iload_n 2, 1) := by decide +kernel
theorem dX5_onlyCompany_5 : decode cX5_onlyCompany 5 = .ok (.iaload, 1) := by decide +kernel
theorem dX5_onlyCompany_6 : decode cX5_onlyCompany 6 = .ok (.istore_n 3, 1) := by decide +kernel
theorem dX5_onlyCompany_7 : decode cX5_onlyCompany 7 = .ok (.bipush (-9), 2) := by decide +kernel
theorem dX5_onlyCompany_9 : decode cX5_onlyCompany 9 = .ok (.istore 4, 2) := by decide +kernel
theorem dX5_onlyCompany_11 : decode cX5_onlyCompany 11 = .ok (.iconst 0, 1) := by decide +kernel
theorem dX5_onlyCompany_12 : decode cX5_onlyCompany 12 = .ok (.istore 5, 2) := by decide +kernel
theorem dX5_onlyCompany_14 : decode cX5_onlyCompany 14 = .ok (.iload 5, 2) := by decide +kernel
theorem dX5_onlyCompany_16 : decode cX5_onlyCompany 16 = .ok (.iconst 4, 1) := by decide +kernel
theorem dX5_onlyCompany_17 : decode cX5_onlyCompany 17 = .ok (.if_icmp .gt 63, 3) := by decide +kernel
theorem dX5_onlyCompany_20 : decode cX5_onlyCompany 20 = .ok (.aload_n 0, 1) := by decide +kernel
theorem dX5_onlyCompany_21 : decode cX5_onlyCompany 21 = .ok (.getfield 25, 3) := by decide +kernel
theorem dX5_onlyCompany_24 : decode cX5_onlyCompany 24 = .ok (.iload_n 2, 1) := by decide +kernel
theorem dX5_onlyCompany_25 : decode cX5_onlyCompany 25 = .ok (.iload_n 3, 1) := by decide +kernel
theorem dX5_onlyCompany_26 : decode cX5_onlyCompany 26 = .ok (.iconst 1, 1) := by decide +kernel
theorem dX5_onlyCompany_27 : decode cX5_onlyCompany 27 = .ok (.iload 5, 2) := by decide +kernel
theorem dX5_onlyCompany_29 : decode cX5_onlyCompany 29 = .ok (.ishl, 1) := by decide +kernel
theorem dX5_onlyCompany_30 : decode cX5_onlyCompany 30 = .ok (.iand, 1) := by decide +kernel
theorem dX5_onlyCompany_31 : decode cX5_onlyCompany 31 = .ok (.iastore, 1) := by decide +kernel
theorem dX5_onlyCompany_32 : decode cX5_onlyCompany 32 = .ok (.aload_n 0, 1) := by decide +kernel
theorem dX5_onlyCompany_33 : decode cX5_onlyCompany 33 = .ok (.getfield 25, 3) := by decide +kernel
theorem dX5_onlyCompany_36 : decode cX5_onlyCompany 36 = .ok (.iload_n 2, 1) := by decide +kernel
theorem dX5_onlyCompany_37 : decode cX5_onlyCompany 37 = .ok (.iaload, 1) := by decide +kernel
theorem dX5_onlyCompany_38 : decode cX5_onlyCompany 38 = .ok (.ifCond .eq 36, 3) := by decide +kernel
theorem dX5_onlyCompany_41 : decode cX5_onlyCompany 41 = .ok (.aload_n 0, 1) := by decide +kernel
theorem dX5_onlyCompany_42 : decode cX5_onlyCompany 42 = .ok (.aload_n 1, 1) := by decide +kernel
theorem dX5_onlyCompany_43 : decode cX5_onlyCompany 43 = .ok (.invokevirtual 78, 3) := by decide +kernel
theorem dX5_onlyCompany_46 : decode cX5_onlyCompany 46 = .ok (.ifCond .le 28, 3) := by decide +kernel
theorem dX5_onlyCompany_49 : decode cX5_onlyCompany 49 = .ok (.iload 4, 2) := by decide +kernel
theorem dX5_onlyCompany_51 : decode cX5_onlyCompany 51 = .ok (.bipush (-9), 2) := by decide +kernel
theorem dX5_onlyCompany_53 : decode cX5_onlyCompany 53 = .ok (.if_icmp .eq 6, 3) := by decide +kernel
theorem dX5_onlyCompany_56 : decode cX5_onlyCompany 56 = .ok (.bipush (-9), 2) := by decide +kernel
theorem dX5_onlyCompany_58 : decode cX5_onlyCompany 58 = .ok (.ireturn, 1) := by decide +kernel
theorem dX5_onlyCompany_59 : decode cX5_onlyCompany 59 = .ok (.iload 5, 2) := by decide +kernel
theorem dX5_onlyCompany_61 : decode cX5_onlyCompany 61 = .ok (.iconst 4, 1) := by decide +kernel
theorem dX5_onlyCompany_62 : decode cX5_onlyCompany 62 = .ok (.if_icmp .ne 8, 3) := by decide +kernel
theorem dX5_onlyCompany_65 : decode cX5_onlyCompany 65 = .ok (.bipush 9, 2) := by decide +kernel
theorem dX5_onlyCompany_67 : decode cX5_onlyCompany 67 = .ok (.goto 5, 3) := by decide +kernel
theorem dX5_onlyCompany_70 : decode cX5_onlyCompany 70 = .ok (.iload 5, 2) := by decide +kernel
theorem dX5_onlyCompany_72 : decode cX5_onlyCompany 72 = .ok (.istore 4, 2) := by decide +kernel
theorem dX5_onlyCompany_74 : decode cX5_onlyCompany 74 = .ok (.iinc 5 1, 3) := by decide +kernel
theorem dX5_onlyCompany_77 : decode cX5_onlyCompany 77 = .ok (.goto (-63), 3) := by decide +kernel
theorem dX5_onlyCompany_80 : decode cX5_onlyCompany 80 = .ok (.iload 4, 2) := by decide +kernel
theorem dX5_onlyCompany_82 : decode cX5_onlyCompany 82 = .ok (.ireturn, 1) := by decide +kernel
theorem dX5_share_0 : decode cX5_share 0 = .ok (.aload_n 1, 1) := by decide +kernel
theorem dX5_share_1 : decode cX5_share 1 = .ok (.iload_n 2, 1) := by decide +kernel
theorem dX5_share_2 : decode cX5_share 2 = .ok (.invokevirtual 75, 3) := by decide +kernel
theorem dX5_share_5 : decode cX5_share 5 = .ok (.ifCond .ne 5, 3) := by decide +kernel
theorem dX5_share_8 : decode cX5_share 8 = .ok (.iconst 1, 1) := by decide +kernel
theorem dX5_share_9 : decode cX5_share 9 = .ok (.ireturn, 1) := by decide +kernel
theorem dX5_share_10 : decode cX5_share 10 = .ok (.aload_n 0, 1) := by decide +kernel
theorem dX5_share_11 : decode cX5_share 11 = .ok (.getfield 25, 3) := by decide +kernel
theorem dX5_share_14 : decode cX5_share 14 = .ok (.iload_n 2, 1) := by decide +kernel
theorem dX5_share_15 : decode cX5_share 15 = .ok (.iaload, 1) := by decide +kernel
theorem dX5_share_16 : decode cX5_share 16 = .ok (.iconst 4, 1) := by decide +kernel
theorem dX5_share_17 : decode cX5_share 17 = .ok (.ishr, 1) := by decide +kernel
theorem dX5_share_18 : decode cX5_share 18 = .ok (.iconst 1, 1) := by decide +kernel
theorem dX5_share_19 : decode cX5_share 19 = .ok (.iand, 1) := by decide +kernel
theorem dX5_share_20 : decode cX5_share 20 = .ok (.iconst 1, 1) := by decide +kernel
theorem dX5_share_21 : decode cX5_share 21 = .ok (.if_icmp .ne 14, 3) := by decide +kernel
theorem dX5_share_24 : decode cX5_share 24 = .ok (.aload_n 0, 1) := by decide +kernel
theorem dX5_share_25 : decode cX5_share 25 = .ok (.aload_n 1, 1) := by decide +kernel
theorem dX5_share_26 : decode cX5_share 26 = .ok (.iload_n 2, 1) := by decide +kernel
theorem dX5_share_27 : decode cX5_share 27 = .ok (.iconst 1, 1) := by decide +kernel
theorem dX5_share_28 : decode cX5_share 28 = .ok (.iadd, 1) := by decide +kernel
theorem dX5_share_29 : decode cX5_share 29 = .ok (.invokevirtual 71, 3) := by decide +kernel
theorem dX5_share_32 : decode cX5_share 32 = .ok (.goto 4, 3) := by decide +kernel
theorem dX5_share_35 : decode cX5_share 35 = .ok (.iconst 0, 1) := by decide +kernel
theorem dX5_share_36 : decode cX5_share 36 = .ok (.istore_n 3, 1) := by decide +kernel
theorem dX5_share_37 : decode cX5_share 37 = .ok (.iconst 0, 1) := by decide +kernel
theorem dX5_share_38 : decode cX5_share 38 = .ok (.istore 4, 2) := by decide +kernel
theorem dX5_share_40 : decode cX5_share 40 = .ok (.iload 4, 2) := by decide +kernel
theorem dX5_share_42 : decode cX5_share 42 = .ok (.aload_n 1, 1) := by decide +kernel
theorem dX5_share_43 : decode cX5_share 43 = .ok (.getfield 49, 3) := by decide +kernel
theorem dX5_share_46 : decode cX5_share 46 = .ok (.if_icmp .ge 67, 3) := by decide +kernel
theorem dX5_share_49 : decode cX5_share 49 = .ok (.aload_n 0, 1) := by decide +kernel
theorem dX5_share_50 : decode cX5_share 50 = .ok (.getfield 25, 3) := by decide +kernel
theorem dX5_share_53 : decode cX5_share 53 = .ok (.iload_n 2, 1) := by decide +kernel
theorem dX5_share_54 : decode cX5_share 54 = .ok (.iaload, 1) := by decide +kernel
theorem dX5_share_55 : decode cX5_share 55 = .ok (.iload 4, 2) := by decide +kernel
theorem dX5_share_57 : decode cX5_share 57 = .ok (.ishr, 1) := by decide +kernel
theorem dX5_share_58 : decode cX5_share 58 = .ok (.iconst 1, 1) := by decide +kernel
theorem dX5_share_59 : decode cX5_share 59 = .ok (.iand, 1) := by decide +kernel
theorem dX5_share_60 : decode cX5_share 60 = .ok (.iconst 1, 1) := by decide +kernel
theorem dX5_share_61 : decode cX5_share 61 = .ok (.if_icmp .ne 46, 3) := by decide +kernel
theorem dX5_share_64 : decode cX5_share 64 = .ok (.aload_n 0, 1) := by decide +kernel
theorem dX5_share_65 : decode cX5_share 65 = .ok (.getfield 28, 3) := by decide +kernel
theorem dX5_share_68 : decode cX5_share 68 = .ok (.iload 4, 2) := by decide +kernel
theorem dX5_share_70 : decode cX5_share 70 = .ok (.iaload, 1) := by decide +kernel
theorem dX5_share_71 : decode cX5_share 71 = .ok (.ifCond .le 36, 3) := by decide +kernel
theorem dX5_share_74 : decode cX5_share 74 = .ok (.aload_n 0, 1) := by decide +kernel
theorem dX5_share_75 : decode cX5_share 75 = .ok (.getfield 28, 3) := by decide +kernel
theorem dX5_share_78 : decode cX5_share 78 = .ok (.iload 4, 2) := by decide +kernel
theorem dX5_share_80 : decode cX5_share 80 = .ok (.dup2, 1) := by decide +kernel
theorem dX5_share_81 : decode cX5_share 81 = .ok (.iaload, 1) := by decide +kernel
theorem dX5_share_82 : decode cX5_share 82 = .ok (.iconst 1, 1) := by decide +kernel
theorem dX5_share_83 : decode cX5_share 83 = .ok (.isub, 1) := by decide +kernel
theorem dX5_share_84 : decode cX5_share 84 = .ok (.iastore, 1) := by decide +kernel
theorem dX5_share_85 : decode cX5_share 85 = .ok (.iload_n 3, 1) := by decide +kernel
theorem dX5_share_86 : decode cX5_share 86 = .ok (.aload_n 0, 1) := by decide +kernel
theorem dX5_share_87 : decode cX5_share 87 = .ok (.aload_n 1, 1) := by decide +kernel
theorem dX5_share_88 : decode cX5_share 88 = .ok (.iload_n 2, 1) := by decide +kernel
theorem dX5_share_89 : decode cX5_share 89 = .ok (.iconst 1, 1) := by decide +kernel
theorem dX5_share_90 : decode cX5_share 90 = .ok (.iadd, 1) := by decide +kernel
theorem dX5_share_91 : decode cX5_share 91 = .ok (.invokevirtual 71, 3) := by decide +kernel
theorem dX5_share_94 : decode cX5_share 94 = .ok (.iadd, 1) := by decide +kernel
theorem dX5_share_95 : decode cX5_share 95 = .ok (.istore_n 3, 1) := by decide +kernel
theorem dX5_share_96 : decode cX5_share 96 = .ok (.aload_n 0, 1) := by decide +kernel
theorem dX5_share_97 : decode cX5_share 97 = .ok (.getfield 28, 3) := by decide +kernel
theorem dX5_share_100 : decode cX5_share 100 = .ok (.iload 4, 2) := by decide +kernel
theorem dX5_share_102 : decode cX5_share 102 = .ok (.dup2, 1) := by decide +kernel
theorem dX5_share_103 : decode cX5_share 103 = .ok (.iaload, 1) := by decide +kernel
theorem dX5_share_104 : decode cX5_share 104 = .ok (.iconst 1, 1) := by decide +kernel
theorem dX5_share_105 : decode cX5_share 105 = .ok (.iadd, 1) := by decide +kernel
theorem dX5_share_106 : decode cX5_share 106 = .ok (.iastore, 1) := by decide +kernel
theorem dX5_share_107 : decode cX5_share 107 = .ok (.iinc 4 1, 3) := by decide +kernel
theorem dX5_share_110 : decode cX5_share 110 = .ok (.goto (-70), 3) := by decide +kernel
theorem dX5_share_113 : decode cX5_share 113 = .ok (.iload_n 3, 1) := by decide +kernel
theorem dX5_share_114 : decode cX5_share 114 = .ok (.ireturn, 1) := by decide +kernel
theorem dX5_streetWith_0 : decode cX5_streetWith 0 = .ok (.aload_n 0, 1) := by decide +kernel
theorem dX5_streetWith_1 : decode cX5_streetWith 1 = .ok (.iload_n 3, 1) := by decide +kernel
theorem dX5_streetWith_2 : decode cX5_streetWith 2 = .ok (.invokevirtual 56, 3) := by decide +kernel
theorem dX5_streetWith_5 : decode cX5_streetWith 5 = .ok (.ifCond .ne 10, 3) := by decide +kernel
theorem dX5_streetWith_8 : decode cX5_streetWith 8 = .ok (.aload_n 1, 1) := by decide +kernel
theorem dX5_streetWith_9 : decode cX5_streetWith 9 = .ok (.getfield 60, 3) := by decide +kernel
theorem dX5_streetWith_12 : decode cX5_streetWith 12 = .ok (.iload_n 2, 1) := by decide +kernel
theorem dX5_streetWith_13 : decode cX5_streetWith 13 = .ok (.iaload, 1) := by decide +kernel
theorem dX5_streetWith_14 : decode cX5_streetWith 14 = .ok (.ireturn, 1) := by decide +kernel
theorem dX5_streetWith_15 : decode cX5_streetWith 15 = .ok (.aload_n 0, 1) := by decide +kernel
theorem dX5_streetWith_16 : decode cX5_streetWith 16 = .ok (.getfield 65, 3) := by decide +kernel
theorem dX5_streetWith_19 : decode cX5_streetWith 19 = .ok (.iload_n 3, 1) := by decide +kernel
theorem dX5_streetWith_20 : decode cX5_streetWith 20 = .ok (.iaload, 1) := by decide +kernel
theorem dX5_streetWith_21 : decode cX5_streetWith 21 = .ok (.iconst 2, 1) := by decide +kernel
theorem dX5_streetWith_22 : decode cX5_streetWith 22 = .ok (.irem, 1) := by decide +kernel
theorem dX5_streetWith_23 : decode cX5_streetWith 23 = .ok (.iconst 1, 1) := by decide +kernel
theorem dX5_streetWith_24 : decode cX5_streetWith 24 = .ok (.if_icmp .ne 8, 3) := by decide +kernel
theorem dX5_streetWith_27 : decode cX5_streetWith 27 = .ok (.iload 4, 2) := by decide +kernel
theorem dX5_streetWith_29 : decode cX5_streetWith 29 = .ok (.goto 4, 3) := by decide +kernel
theorem dX5_streetWith_32 : decode cX5_streetWith 32 = .ok (.iconst 0, 1) := by decide +kernel
theorem dX5_streetWith_33 : decode cX5_streetWith 33 = .ok (.istore 5, 2) := by decide +kernel
theorem dX5_streetWith_35 : decode cX5_streetWith 35 = .ok (.aload_n 1, 1) := by decide +kernel
theorem dX5_streetWith_36 : decode cX5_streetWith 36 = .ok (.getfield 68, 3) := by decide +kernel
theorem dX5_streetWith_39 : decode cX5_streetWith 39 = .ok (.iload_n 3, 1) := by decide +kernel
theorem dX5_streetWith_40 : decode cX5_streetWith 40 = .ok (.iaload, 1) := by decide +kernel
theorem dX5_streetWith_41 : decode cX5_streetWith 41 = .ok (.iload 5, 2) := by decide +kernel
theorem dX5_streetWith_43 : decode cX5_streetWith 43 = .ok (.iadd, 1) := by decide +kernel
theorem dX5_streetWith_44 : decode cX5_streetWith 44 = .ok (.iconst 5, 1) := by decide +kernel
theorem dX5_streetWith_45 : decode cX5_streetWith 45 = .ok (.irem, 1) := by decide +kernel
theorem dX5_streetWith_46 : decode cX5_streetWith 46 = .ok (.ireturn, 1) := by decide +kernel
theorem dX5_ways_0 : decode cX5_ways 0 = .ok (.aload_n 0, 1) := by decide +kernel
theorem dX5_ways_1 : decode cX5_ways 1 = .ok (.aload_n 1, 1) := by decide +kernel
theorem dX5_ways_2 : decode cX5_ways 2 = .ok (.iconst 0, 1) := by decide +kernel
theorem dX5_ways_3 : decode cX5_ways 3 = .ok (.invokevirtual 71, 3) := by decide +kernel
theorem dX5_ways_6 : decode cX5_ways 6 = .ok (.ireturn, 1) := by decide +kernel
theorem dX6_forget_0 : decode cX6_forget 0 = .ok (.aload_n 0, 1) := by decide +kernel
theorem dX6_forget_1 : decode cX6_forget 1 = .ok (.iconst 0, 1) := by decide +kernel
theorem dX6_forget_2 : decode cX6_forget 2 = .ok (.putfield 17, 3) := by decide +kernel
theorem dX6_forget_5 : decode cX6_forget 5 = .ok (.return_, 1) := by decide +kernel
theorem dX6_holds_0 : decode cX6_holds 0 = .ok (.aload_n 0, 1) := by decide +kernel
theorem dX6_holds_1 : decode cX6_holds 1 = .ok (.getfield 17, 3) := by decide +kernel
theorem dX6_holds_4 : decode cX6_holds 4 = .ok (.iload_n 1, 1) := by decide +kernel
theorem dX6_holds_5 : decode cX6_holds 5 = .ok (.ishr, 1) := by decide +kernel
theorem dX6_holds_6 : decode cX6_holds 6 = .ok (.iconst 1, 1) := by decide +kernel
theorem dX6_holds_7 : decode cX6_holds 7 = .ok (.iand, 1) := by decide +kernel
theorem dX6_holds_8 : decode cX6_holds 8 = .ok (.iconst 1, 1) := by decide +kernel
theorem dX6_holds_9 : decode cX6_holds 9 = .ok (.if_icmp .ne 7, 3) := by decide +kernel
theorem dX6_holds_12 : decode cX6_holds 12 = .ok (.iconst 1, 1) := by decide +kernel
theorem dX6_holds_13 : decode cX6_holds 13 = .ok (.goto 4, 3) := by decide +kernel
theorem dX6_holds_16 : decode cX6_holds 16 = .ok (.iconst 0, 1) := by decide +kernel
theorem dX6_holds_17 : decode cX6_holds 17 = .ok (.ireturn, 1) := by decide +kernel
theorem dX6_init_0 : decode cX6_init 0 = .ok (.aload_n 0, 1) := by decide +kernel
theorem dX6_init_1 : decode cX6_init 1 = .ok (.invokespecial 3, 3) := by decide +kernel
theorem dX6_init_4 : decode cX6_init 4 = .ok (.aload_n 0, 1) := by decide +kernel
theorem dX6_init_5 : decode cX6_init 5 = .ok (.iconst 2, 1) := by decide +kernel
theorem dX6_init_6 : decode cX6_init 6 = .ok (.anewarray 9, 3) := by decide +kernel
theorem dX6_init_9 : decode cX6_init 9 = .ok (.putfield 11, 3) := by decide +kernel
theorem dX6_init_12 : decode cX6_init 12 = .ok (.aload_n 0, 1) := by decide +kernel
theorem dX6_init_13 : decode cX6_init 13 = .ok (.iconst 0, 1) := by decide +kernel
theorem dX6_init_14 : decode cX6_init 14 = .ok (.putfield 17, 3) := by decide +kernel
theorem dX6_init_17 : decode cX6_init 17 = .ok (.iconst 0, 1) := by decide +kernel
theorem dX6_init_18 : decode cX6_init 18 = .ok (.istore_n 1, 1) := by decide +kernel
theorem dX6_init_19 : decode cX6_init 19 = .ok (.iload_n 1, 1) := by decide +kernel
theorem dX6_init_20 : decode cX6_init 20 = .ok (.iconst 2, 1) := by decide +kernel
theorem dX6_init_21 : decode cX6_init 21 = .ok (.if_icmp .ge 22, 3) := by decide +kernel
theorem dX6_init_24 : decode cX6_init 24 = .ok (.aload_n 0, 1) := by decide +kernel
theorem dX6_init_25 : decode cX6_init 25 = .ok (.getfield 11, 3) := by decide +kernel
theorem dX6_init_28 : decode cX6_init 28 = .ok (.iload_n 1, 1) := by decide +kernel
theorem dX6_init_29 : decode cX6_init 29 = .ok (.new 9, 3) := by decide +kernel
theorem dX6_init_32 : decode cX6_init 32 = .ok (.dup, 1) := by decide +kernel
theorem dX6_init_33 : decode cX6_init 33 = .ok (.invokespecial 21, 3) := by decide +kernel
theorem dX6_init_36 : decode cX6_init 36 = .ok (.aastore, 1) := by decide +kernel
theorem dX6_init_37 : decode cX6_init 37 = .ok (.iinc 1 1, 3) := by decide +kernel
theorem dX6_init_40 : decode cX6_init 40 = .ok (.goto (-21), 3) := by decide +kernel
theorem dX6_init_43 : decode cX6_init 43 = .ok (.return_, 1) := by decide +kernel
theorem dX6_put_0 : decode cX6_put 0 = .ok (.aload_n 0, 1) := by decide +kernel
theorem dX6_put_1 : decode cX6_put 1 = .ok (.getfield 11, 3) := by decide +kernel
theorem dX6_put_4 : decode cX6_put 4 = .ok (.iload_n 1, 1) := by decide +kernel
theorem dX6_put_5 : decode cX6_put 5 = .ok (.aaload, 1) := by decide +kernel
theorem dX6_put_6 : decode cX6_put 6 = .ok (.aload_n 2, 1) := by decide +kernel
theorem dX6_put_7 : decode cX6_put 7 = .ok (.invokevirtual 22, 3) := by decide +kernel
theorem dX6_put_10 : decode cX6_put 10 = .ok (.aload_n 0, 1) := by decide +kernel
theorem dX6_put_11 : decode cX6_put 11 = .ok (.dup, 1) := by decide +kernel
theorem dX6_put_12 : decode cX6_put 12 = .ok (.getfield 17, 3) := by decide +kernel
theorem dX6_put_15 : decode cX6_put 15 = .ok (.iconst 1, 1) := by decide +kernel
theorem dX6_put_16 : decode cX6_put 16 = .ok (.iload_n 1, 1) := by decide +kernel
theorem dX6_put_17 : decode cX6_put 17 = .ok (.ishl, 1) := by decide +kernel
theorem dX6_put_18 : decode cX6_put 18 = .ok (.ior, 1) := by decide +kernel
theorem dX6_put_19 : decode cX6_put 19 = .ok (.putfield 17, 3) := by decide +kernel
theorem dX6_put_22 : decode cX6_put 22 = .ok (.return_, 1) := by decide +kernel
theorem dX6_restore_0 : decode cX6_restore 0 = .ok (.aload_n 2, 1) := by decide +kernel
theorem dX6_restore_1 : decode cX6_restore 1 = .ok (.aload_n 0, 1) := by decide +kernel
theorem dX6_restore_2 : decode cX6_restore 2 = .ok (.getfield 11, 3) := by decide +kernel
theorem dX6_restore_5 : decode cX6_restore 5 = .ok (.iload_n 1, 1) := by decide +kernel
theorem dX6_restore_6 : decode cX6_restore 6 = .ok (.aaload, 1) := by decide +kernel
theorem dX6_restore_7 : decode cX6_restore 7 = .ok (.invokevirtual 22, 3) := by decide +kernel
theorem dX6_restore_10 : decode cX6_restore 10 = .ok (.return_, 1) := by decide +kernel
theorem dX7_allBones_0 : decode cX7_allBones 0 = .ok (.iconst 0, 1) := by decide +kernel
theorem dX7_allBones_1 : decode cX7_allBones 1 = .ok (.istore_n 2, 1) := by decide +kernel
theorem dX7_allBones_2 : decode cX7_allBones 2 = .ok (.iconst 0, 1) := by decide +kernel
theorem dX7_allBones_3 : decode cX7_allBones 3 = .ok (.istore_n 3, 1) := by decide +kernel
theorem dX7_allBones_4 : decode cX7_allBones 4 = .ok (.iload_n 3, 1) := by decide +kernel
theorem dX7_allBones_5 : decode cX7_allBones 5 = .ok (.aload_n 1, 1) := by decide +kernel
theorem dX7_allBones_6 : decode cX7_allBones 6 = .ok (.getfield 62, 3) := by decide +kernel
theorem dX7_allBones_9 : decode cX7_allBones 9 = .ok (.if_icmp .ge 18, 3) := by decide +kernel
theorem dX7_allBones_12 : decode cX7_allBones 12 = .ok (.iload_n 2, 1) := by decide +kernel
theorem dX7_allBones_13 : decode cX7_allBones 13 = .ok (.aload_n 0, 1) := by decide +kernel
theorem dX7_allBones_14 : decode cX7_allBones 14 = .ok (.getfield 22, 3) := by decide +kernel
theorem dX7_allBones_17 : decode cX7_allBones 17 = .ok (.iload_n 3, 1) := by decide +kernel
theorem dX7_allBones_18 : decode cX7_allBones 18 = .ok (.iaload, 1) := by decide +kernel
theorem dX7_allBones_19 : decode cX7_allBones 19 = .ok (.iadd, 1) := by decide +kernel
theorem dX7_allBones_20 : decode cX7_allBones 20 = .ok (.istore_n 2, 1) := by decide +kernel
theorem dX7_allBones_21 : decode cX7_allBones 21 = .ok (.iinc 3 1, 3) := by decide +kernel
theorem dX7_allBones_24 : decode cX7_allBones 24 = .ok (.goto (-20), 3) := by decide +kernel
theorem dX7_allBones_27 : decode cX7_allBones 27 = .ok (.iload_n 2, 1) := by decide +kernel
theorem dX7_allBones_28 : decode cX7_allBones 28 = .ok (.ireturn, 1) := by decide +kernel
theorem dX7_become_0 : decode cX7_become 0 = .ok (.aload_n 0, 1) := by decide +kernel
theorem dX7_become_1 : decode cX7_become 1 = .ok (.aload_n 1, 1) := by decide +kernel
theorem dX7_become_2 : decode cX7_become 2 = .ok (.getfield 9, 3) := by decide +kernel
theorem dX7_become_5 : decode cX7_become 5 = .ok (.putfield 9, 3) := by decide +kernel
theorem dX7_become_8 : decode cX7_become 8 = .ok (.aload_n 0, 1) := by decide +kernel
theorem dX7_become_9 : decode cX7_become 9 = .ok (.aload_n 1, 1) := by decide +kernel
theorem dX7_become_10 : decode cX7_become 10 = .ok (.getfield 15, 3) := by decide +kernel
theorem dX7_become_13 : decode cX7_become 13 = .ok (.putfield 15, 3) := by decide +kernel
theorem dX7_become_16 : decode cX7_become 16 = .ok (.aload_n 1, 1) := by decide +kernel
theorem dX7_become_17 : decode cX7_become 17 = .ok (.getfield 18, 3) := by decide +kernel
theorem dX7_become_20 : decode cX7_become 20 = .ok (.iconst 0, 1) := by decide +kernel
theorem dX7_become_21 : decode cX7_become 21 = .ok (.aload_n 0, 1) := by decide +kernel
theorem dX7_become_22 : decode cX7_become 22 = .ok (.getfield 18, 3) := by decide +kernel
theorem dX7_become_25 : decode cX7_become 25 = .ok (.iconst 0, 1) := by decide +kernel
theorem dX7_become_26 : decode cX7_become 26 = .ok (.iconst 4, 1) := by decide +kernel
theorem dX7_become_27 : decode cX7_become 27 = .ok (.invokestatic 34, 3) := by decide +kernel
theorem dX7_become_30 : decode cX7_become 30 = .ok (.aload_n 1, 1) := by decide +kernel
theorem dX7_become_31 : decode cX7_become 31 = .ok (.getfield 22, 3) := by decide +kernel
theorem dX7_become_34 : decode cX7_become 34 = .ok (.iconst 0, 1) := by decide +kernel
theorem dX7_become_35 : decode cX7_become 35 = .ok (.aload_n 0, 1) := by decide +kernel
theorem dX7_become_36 : decode cX7_become 36 = .ok (.getfield 22, 3) := by decide +kernel
theorem dX7_become_39 : decode cX7_become 39 = .ok (.iconst 0, 1) := by decide +kernel
theorem dX7_become_40 : decode cX7_become 40 = .ok (.iconst 4, 1) := by decide +kernel
theorem dX7_become_41 : decode cX7_become 41 = .ok (.invokestatic 34, 3) := by decide +kernel
theorem dX7_become_44 : decode cX7_become 44 = .ok (.aload_n 1, 1) := by decide +kernel
theorem dX7_become_45 : decode cX7_become 45 = .ok (.getfield 25, 3) := by decide +kernel
theorem dX7_become_48 : decode cX7_become 48 = .ok (.iconst 0, 1) := by decide +kernel
theorem dX7_become_49 : decode cX7_become 49 = .ok (.aload_n 0, 1) := by decide +kernel
theorem dX7_become_50 : decode cX7_become 50 = .ok (.getfield 25, 3) := by decide +kernel
theorem dX7_become_53 : decode cX7_become 53 = .ok (.iconst 0, 1) := by decide +kernel
theorem dX7_become_54 : decode cX7_become 54 = .ok (.iconst 5, 1) := by decide +kernel
theorem dX7_become_55 : decode cX7_become 55 = .ok (.invokestatic 34, 3) := by decide +kernel
theorem dX7_become_58 : decode cX7_become 58 = .ok (.aload_n 1, 1) := by decide +kernel
theorem dX7_become_59 : decode cX7_become 59 = .ok (.getfield 28, 3) := by decide +kernel
theorem dX7_become_62 : decode cX7_become 62 = .ok (.iconst 0, 1) := by decide +kernel
theorem dX7_become_63 : decode cX7_become 63 = .ok (.aload_n 0, 1) := by decide +kernel
theorem dX7_become_64 : decode cX7_become 64 = .ok (.getfield 28, 3) := by decide +kernel
theorem dX7_become_67 : decode cX7_become 67 = .ok (.iconst 0, 1) := by decide +kernel
theorem dX7_become_68 : decode cX7_become 68 = .ok (.iconst 5, 1) := by decide +kernel
theorem dX7_become_69 : decode cX7_become 69 = .ok (.invokestatic 34, 3) := by decide +kernel
theorem dX7_become_72 : decode cX7_become 72 = .ok (.aload_n 1, 1) := by decide +kernel
theorem dX7_become_73 : decode cX7_become 73 = .ok (.getfield 31, 3) := by decide +kernel
theorem dX7_become_76 : decode cX7_become 76 = .ok (.iconst 0, 1) := by decide +kernel
theorem dX7_become_77 : decode cX7_become 77 = .ok (.aload_n 0, 1) := by decide +kernel
theorem dX7_become_78 : decode cX7_become 78 = .ok (.getfield 31, 3) := by decide +kernel
theorem dX7_become_81 : decode cX7_become 81 = .ok (.iconst 0, 1) := by decide +kernel
theorem dX7_become_82 : decode cX7_become 82 = .ok (.iconst 5, 1) := by decide +kernel
theorem dX7_become_83 : decode cX7_become 83 = .ok (.invokestatic 34, 3) := by decide +kernel
theorem dX7_become_86 : decode cX7_become 86 = .ok (.return_, 1) := by decide +kernel
theorem dX7_goes_0 : decode cX7_goes 0 = .ok (.aload_n 0, 1) := by decide +kernel
theorem dX7_goes_1 : decode cX7_goes 1 = .ok (.getfield 18, 3) := by decide +kernel
theorem dX7_goes_4 : decode cX7_goes 4 = .ok (.iload_n 2, 1) := by decide +kernel
theorem dX7_goes_5 : decode cX7_goes 5 = .ok (.aload_n 0, 1) := by decide +kernel
theorem dX7_goes_6 : decode cX7_goes 6 = .ok (.getfield 18, 3) := by decide +kernel
theorem dX7_goes_9 : decode cX7_goes 9 = .ok (.iload_n 2, 1) := by decide +kernel
theorem dX7_goes_10 : decode cX7_goes 10 = .ok (.iaload, 1) := by decide +kernel
theorem dX7_goes_11 : decode cX7_goes 11 = .ok (.iload_n 3, 1) := by decide +kernel
theorem dX7_goes_12 : decode cX7_goes 12 = .ok (.invokestatic 65, 3) := by decide +kernel
theorem dX7_goes_15 : decode cX7_goes 15 = .ok (.iastore, 1) := by decide +kernel
theorem dX7_goes_16 : decode cX7_goes 16 = .ok (.iconst 0, 1) := by decide +kernel
theorem dX7_goes_17 : decode cX7_goes 17 = .ok (.istore 4, 2) := by decide +kernel
theorem dX7_goes_19 : decode cX7_goes 19 = .ok (.iload 4, 2) := by decide +kernel
theorem dX7_goes_21 : decode cX7_goes 21 = .ok (.aload_n 1, 1) := by decide +kernel
theorem dX7_goes_22 : decode cX7_goes 22 = .ok (.getfield 40, 3) := by decide +kernel
theorem dX7_goes_25 : decode cX7_goes 25 = .ok (.if_icmp .ge 42, 3) := by decide +kernel
theorem dX7_goes_28 : decode cX7_goes 28 = .ok (.aload_n 0, 1) := by decide +kernel
theorem dX7_goes_29 : decode cX7_goes 29 = .ok (.getfield 25, 3) := by decide +kernel
theorem dX7_goes_32 : decode cX7_goes 32 = .ok (.iload 4, 2) := by decide +kernel
theorem dX7_goes_34 : decode cX7_goes 34 = .ok (.iaload, 1) := by decide +kernel
theorem dX7_goes_35 : decode cX7_goes 35 = .ok (.iload_n 2, 1) := by decide +kernel
theorem dX7_goes_36 : decode cX7_goes 36 = .ok (.if_icmp .ne 25, 3) := by decide +kernel
theorem dX7_goes_39 : decode cX7_goes 39 = .ok (.aload_n 0, 1) := by decide +kernel
theorem dX7_goes_40 : decode cX7_goes 40 = .ok (.iload 4, 2) := by decide +kernel
theorem dX7_goes_42 : decode cX7_goes 42 = .ok (.invokevirtual 45, 3) := by decide +kernel
theorem dX7_goes_45 : decode cX7_goes 45 = .ok (.ifCond .ne 16, 3) := by decide +kernel
theorem dX7_goes_48 : decode cX7_goes 48 = .ok (.aload_n 0, 1) := by decide +kernel
theorem dX7_goes_49 : decode cX7_goes 49 = .ok (.getfield 28, 3) := by decide +kernel
theorem dX7_goes_52 : decode cX7_goes 52 = .ok (.iload 4, 2) := by decide +kernel
theorem dX7_goes_54 : decode cX7_goes 54 = .ok (.aload_n 0, 1) := by decide +kernel
theorem dX7_goes_55 : decode cX7_goes 55 = .ok (.getfield 18, 3) := by decide +kernel
theorem dX7_goes_58 : decode cX7_goes 58 = .ok (.iload_n 2, 1) := by decide +kernel
theorem dX7_goes_59 : decode cX7_goes 59 = .ok (.iaload, 1) := by decide +kernel
theorem dX7_goes_60 : decode cX7_goes 60 = .ok (.iastore, 1) := by decide +kernel
theorem dX7_goes_61 : decode cX7_goes 61 = .ok (.iinc 4 1, 3) := by decide +kernel
theorem dX7_goes_64 : decode cX7_goes 64 = .ok (.goto (-45), 3) := by decide +kernel
theorem dX7_goes_67 : decode cX7_goes 67 = .ok (.return_, 1) := by decide +kernel
theorem dX7_hasRoom_0 : decode cX7_hasRoom 0 = .ok (.aload_n 0, 1) := by decide +kernel
theorem dX7_hasRoom_1 : decode cX7_hasRoom 1 = .ok (.aload_n 1, 1) := by decide +kernel
theorem dX7_hasRoom_2 : decode cX7_hasRoom 2 = .ok (.iload_n 2, 1) := by decide +kernel
theorem dX7_hasRoom_3 : decode cX7_hasRoom 3 = .ok (.invokevirtual 49, 3) := by decide +kernel
theorem dX7_hasRoom_6 : decode cX7_hasRoom 6 = .ok (.invokestatic 53, 3) := by decide +kernel
theorem dX7_hasRoom_9 : decode cX7_hasRoom 9 = .ok (.aload_n 1, 1) := by decide +kernel
theorem dX7_hasRoom_10 : decode cX7_hasRoom 10 = .ok (.getfield 59, 3) := by decide +kernel
theorem dX7_hasRoom_13 : decode cX7_hasRoom 13 = .ok (.iload_n 2, 1) := by decide +kernel
theorem dX7_hasRoom_14 : decode cX7_hasRoom 14 = .ok (.iaload, 1) := by decide +kernel
theorem dX7_hasRoom_15 : decode cX7_hasRoom 15 = .ok (.if_icmp .ge 7, 3) := by decide +kernel
theorem dX7_hasRoom_18 : decode cX7_hasRoom 18 = .ok (.iconst 1, 1) := by decide +kernel
theorem dX7_hasRoom_19 : decode cX7_hasRoom 19 = .ok (.goto 4, 3) := by decide +kernel
theorem dX7_hasRoom_22 : decode cX7_hasRoom 22 = .ok (.iconst 0, 1) := by decide +kernel
theorem dX7_hasRoom_23 : decode cX7_hasRoom 23 = .ok (.ireturn, 1) := by decide +kernel
theorem dX7_impound_0 : decode cX7_impound 0 = .ok (.aload_n 0, 1) := by decide +kernel
theorem dX7_impound_1 : decode cX7_impound 1 = .ok (.getfield 31, 3) := by decide +kernel
theorem dX7_impound_4 : decode cX7_impound 4 = .ok (.iload_n 2, 1) := by decide +kernel
theorem dX7_impound_5 : decode cX7_impound 5 = .ok (.iconst 3, 1) := by decide +kernel
theorem dX7_impound_6 : decode cX7_impound 6 = .ok (.iastore, 1) := by decide +kernel
theorem dX7_impound_7 : decode cX7_impound 7 = .ok (.aload_n 0, 1) := by decide +kernel
theorem dX7_impound_8 : decode cX7_impound 8 = .ok (.getfield 25, 3) := by decide +kernel
theorem dX7_impound_11 : decode cX7_impound 11 = .ok (.iload_n 2, 1) := by decide +kernel
theorem dX7_impound_12 : decode cX7_impound 12 = .ok (.iaload, 1) := by decide +kernel
theorem dX7_impound_13 : decode cX7_impound 13 = .ok (.istore_n 3, 1) := by decide +kernel
theorem dX7_impound_14 : decode cX7_impound 14 = .ok (.aload_n 1, 1) := by decide +kernel
theorem dX7_impound_15 : decode cX7_impound 15 = .ok (.iload_n 3, 1) := by decide +kernel
theorem dX7_impound_16 : decode cX7_impound 16 = .ok (.invokevirtual 98, 3) := by decide +kernel
theorem dX7_impound_19 : decode cX7_impound 19 = .ok (.ifCond .eq 13, 3) := by decide +kernel
theorem dX7_impound_22 : decode cX7_impound 22 = .ok (.aload_n 0, 1) := by decide +kernel
theorem dX7_impound_23 : decode cX7_impound 23 = .ok (.getfield 22, 3) := by decide +kernel
theorem dX7_impound_26 : decode cX7_impound 26 = .ok (.iload_n 3, 1) := by decide +kernel
theorem dX7_impound_27 : decode cX7_impound 27 = .ok (.dup2, 1) := by decide +kernel
theorem dX7_impound_28 : decode cX7_impound 28 = .ok (.iaload, 1) := by decide +kernel
theorem dX7_impound_29 : decode cX7_impound 29 = .ok (.iconst 2, 1) := by decide +kernel
theorem dX7_impound_30 : decode cX7_impound 30 = .ok (.iadd, 1) := by decide +kernel
theorem dX7_impound_31 : decode cX7_impound 31 = .ok (.iastore, 1) := by decide +kernel
theorem dX7_impound_32 : decode cX7_impound 32 = .ok (.return_, 1) := by decide +kernel
theorem dX7_impounded_0 : decode cX7_impounded 0 = .ok (.iconst 0, 1) := by decide +kernel
theorem dX7_impounded_1 : decode cX7_impounded 1 = .ok (.istore_n 2, 1) := by decide +kernel
theorem dX7_impounded_2 : decode cX7_impounded 2 = .ok (.iconst 0, 1) := by decide +kernel
theorem dX7_impounded_3 : decode cX7_impounded 3 = .ok (.istore_n 3, 1) := by decide +kernel
theorem dX7_impounded_4 : decode cX7_impounded 4 = .ok (.iload_n 3, 1) := by decide +kernel
theorem dX7_impounded_5 : decode cX7_impounded 5 = .ok (.aload_n 1, 1) := by decide +kernel
theorem dX7_impounded_6 : decode cX7_impounded 6 = .ok (.getfield 40, 3) := by decide +kernel
theorem dX7_impounded_9 : decode cX7_impounded 9 = .ok (.if_icmp .ge 23, 3) := by decide +kernel
theorem dX7_impounded_12 : decode cX7_impounded 12 = .ok (.aload_n 0, 1) := by decide +kernel
theorem dX7_impounded_13 : decode cX7_impounded 13 = .ok (.iload_n 3, 1) := by decide +kernel
theorem dX7_impounded_14 : decode cX7_impounded 14 = .ok (.invokevirtual 45, 3) := by decide +kernel
theorem dX7_impounded_17 : decode cX7_impounded 17 = .ok (.ifCond .eq 9, 3) := by decide +kernel
theorem dX7_impounded_20 : decode cX7_impounded 20 = .ok (.iload_n 2, 1) := by decide +kernel
theorem dX7_impounded_21 : decode cX7_impounded 21 = .ok (.iconst 1, 1) := by decide +kernel
theorem dX7_impounded_22 : decode cX7_impounded 22 = .ok (.iload_n 3, 1) := by decide +kernel
theorem dX7_impounded_23 : decode cX7_impounded 23 = .ok (.ishl, 1) := by decide +kernel
theorem dX7_impounded_24 : decode cX7_impounded 24 = .ok (.ior, 1) := by decide +kernel
theorem dX7_impounded_25 : decode cX7_impounded 25 = .ok (.istore_n 2, 1) := by decide +kernel
theorem dX7_impounded_26 : decode cX7_impounded 26 = .ok (.iinc 3 1, 3) := by decide +kernel
theorem dX7_impounded_29 : decode cX7_impounded 29 = .ok (.goto (-25), 3) := by decide +kernel
theorem dX7_impounded_32 : decode cX7_impounded 32 = .ok (.iload_n 2, 1) := by decide +kernel
theorem dX7_impounded_33 : decode cX7_impounded 33 = .ok (.ireturn, 1) := by decide +kernel
theorem dX7_init_0 : decode cX7_init 0 = .ok (.aload_n 0, 1) := by decide +kernel
theorem dX7_init_1 : decode cX7_init 1 = .ok (.invokespecial 3, 3) := by decide +kernel
theorem dX7_init_4 : decode cX7_init 4 = .ok (.aload_n 0, 1) := by decide +kernel
theorem dX7_init_5 : decode cX7_init 5 = .ok (.iconst 0, 1) := by decide +kernel
theorem dX7_init_6 : decode cX7_init 6 = .ok (.putfield 9, 3) := by decide +kernel
theorem dX7_init_9 : decode cX7_init 9 = .ok (.aload_n 0, 1) := by decide +kernel
theorem dX7_init_10 : decode cX7_init 10 = .ok (.iconst 0, 1) := by decide +kernel
theorem dX7_init_11 : decode cX7_init 11 = .ok (.putfield 15, 3) := by decide +kernel
theorem dX7_init_14 : decode cX7_init 14 = .ok (.aload_n 0, 1) := by decide +kernel
theorem dX7_init_15 : decode cX7_init 15 = .ok (.iconst 4, 1) := by decide +kernel
theorem dX7_init_16 : decode cX7_init 16 = .ok (.newarray .int, 2) := by decide +kernel
theorem dX7_init_18 : decode cX7_init 18 = .ok (.putfield 18, 3) := by decide +kernel
theorem dX7_init_21 : decode cX7_init 21 = .ok (.aload_n 0, 1) := by decide +kernel
theorem dX7_init_22 : decode cX7_init 22 = .ok (.iconst 4, 1) := by decide +kernel
theorem dX7_init_23 : decode cX7_init 23 = .ok (.newarray .int, 2) := by decide +kernel
theorem dX7_init_25 : decode cX7_init 25 = .ok (.putfield 22, 3) := by decide +kernel
theorem dX7_init_28 : decode cX7_init 28 = .ok (.aload_n 0, 1) := by decide +kernel
theorem dX7_init_29 : decode cX7_init 29 = .ok (.iconst 5, 1) := by decide +kernel
theorem dX7_init_30 : decode cX7_init 30 = .ok (.newarray .int, 2) := by decide +kernel
theorem dX7_init_32 : decode cX7_init 32 = .ok (.putfield 25, 3) := by decide +kernel
theorem dX7_init_35 : decode cX7_init 35 = .ok (.aload_n 0, 1) := by decide +kernel
theorem dX7_init_36 : decode cX7_init 36 = .ok (.iconst 5, 1) := by decide +kernel
theorem dX7_init_37 : decode cX7_init 37 = .ok (.newarray .int, 2) := by decide +kernel
theorem dX7_init_39 : decode cX7_init 39 = .ok (.putfield 28, 3) := by decide +kernel
theorem dX7_init_42 : decode cX7_init 42 = .ok (.aload_n 0, 1) := by decide +kernel
theorem dX7_init_43 : decode cX7_init 43 = .ok (.iconst 5, 1) := by decide +kernel
theorem dX7_init_44 : decode cX7_init 44 = .ok (.newarray .int, 2) := by decide +kernel
theorem dX7_init_46 : decode cX7_init 46 = .ok (.putfield 31, 3) := by decide +kernel
theorem dX7_init_49 : decode cX7_init 49 = .ok (.return_, 1) := by decide +kernel
theorem dX7_isImpounded_0 : decode cX7_isImpounded 0 = .ok (.aload_n 0, 1) := by decide +kernel
theorem dX7_isImpounded_1 : decode cX7_isImpounded 1 = .ok (.getfield 31, 3) := by decide +kernel
theorem dX7_isImpounded_4 : decode cX7_isImpounded 4 = .ok (.iload_n 1, 1) := by decide +kernel
theorem dX7_isImpounded_5 : decode cX7_isImpounded 5 = .ok (.iaload, 1) := by decide +kernel
theorem dX7_isImpounded_6 : decode cX7_isImpounded 6 = .ok (.ifCond .le 7, 3) := by decide +kernel
theorem dX7_isImpounded_9 : decode cX7_isImpounded 9 = .ok (.iconst 1, 1) := by decide +kernel
theorem dX7_isImpounded_10 : decode cX7_isImpounded 10 = .ok (.goto 4, 3) := by decide +kernel
theorem dX7_isImpounded_13 : decode cX7_isImpounded 13 = .ok (.iconst 0, 1) := by decide +kernel
theorem dX7_isImpounded_14 : decode cX7_isImpounded 14 = .ok (.ireturn, 1) := by decide +kernel
theorem dX7_isLate_0 : decode cX7_isLate 0 = .ok (.iload_n 0, 1) := by decide +kernel
theorem dX7_isLate_1 : decode cX7_isLate 1 = .ok (.bipush 12, 2) := by decide +kernel
theorem dX7_isLate_3 : decode cX7_isLate 3 = .ok (.invokestatic 87, 3) := by decide +kernel
theorem dX7_isLate_6 : decode cX7_isLate 6 = .ok (.iload_n 1, 1) := by decide +kernel
theorem dX7_isLate_7 : decode cX7_isLate 7 = .ok (.if_icmp .lt 7, 3) := by decide +kernel
theorem dX7_isLate_10 : decode cX7_isLate 10 = .ok (.iconst 1, 1) := by decide +kernel
theorem dX7_isLate_11 : decode cX7_isLate 11 = .ok (.goto 4, 3) := by decide +kernel
theorem dX7_isLate_14 : decode cX7_isLate 14 = .ok (.iconst 0, 1) := by decide +kernel
theorem dX7_isLate_15 : decode cX7_isLate 15 = .ok (.ireturn, 1) := by decide +kernel
theorem dX7_isLeashed_0 : decode cX7_isLeashed 0 = .ok (.aload_n 0, 1) := by decide +kernel
theorem dX7_isLeashed_1 : decode cX7_isLeashed 1 = .ok (.getfield 15, 3) := by decide +kernel
theorem dX7_isLeashed_4 : decode cX7_isLeashed 4 = .ok (.iload_n 1, 1) := by decide +kernel
theorem dX7_isLeashed_5 : decode cX7_isLeashed 5 = .ok (.ishr, 1) := by decide +kernel
theorem dX7_isLeashed_6 : decode cX7_isLeashed 6 = .ok (.iconst 1, 1) := by decide +kernel
theorem dX7_isLeashed_7 : decode cX7_isLeashed 7 = .ok (.iand, 1) := by decide +kernel
theorem dX7_isLeashed_8 : decode cX7_isLeashed 8 = .ok (.iconst 1, 1) := by decide +kernel
theorem dX7_isLeashed_9 : decode cX7_isLeashed 9 = .ok (.if_icmp .ne 7, 3) := by decide +kernel
theorem dX7_isLeashed_12 : decode cX7_isLeashed 12 = .ok (.iconst 1, 1) := by decide +kernel
theorem dX7_isLeashed_13 : decode cX7_isLeashed 13 = .ok (.goto 4, 3) := by decide +kernel
theorem dX7_isLeashed_16 : decode cX7_isLeashed 16 = .ok (.iconst 0, 1) := by decide +kernel
theorem dX7_isLeashed_17 : decode cX7_isLeashed 17 = .ok (.ireturn, 1) := by decide +kernel
theorem dX7_keptBy_0 : decode cX7_keptBy 0 = .ok (.iconst 0, 1) := by decide +kernel
theorem dX7_keptBy_1 : decode cX7_keptBy 1 = .ok (.istore_n 3, 1) := by decide +kernel
theorem dX7_keptBy_2 : decode cX7_keptBy 2 = .ok (.iconst 0, 1) := by decide +kernel
theorem dX7_keptBy_3 : decode cX7_keptBy 3 = .ok (.istore 4, 2) := by decide +kernel
theorem dX7_keptBy_5 : decode cX7_keptBy 5 = .ok (.iload 4, 2) := by decide +kernel
theorem dX7_keptBy_7 : decode cX7_keptBy 7 = .ok (.aload_n 1, 1) := by decide +kernel
theorem dX7_keptBy_8 : decode cX7_keptBy 8 = .ok (.getfield 40, 3) := by decide +kernel
theorem dX7_keptBy_11 : decode cX7_keptBy 11 = .ok (.if_icmp .ge 27, 3) := by decide +kernel
theorem dX7_keptBy_14 : decode cX7_keptBy 14 = .ok (.aload_n 0, 1) := by decide +kernel
theorem dX7_keptBy_15 : decode cX7_keptBy 15 = .ok (.getfield 25, 3) := by decide +kernel
theorem dX7_keptBy_18 : decode cX7_keptBy 18 = .ok (.iload 4, 2) := by decide +kernel
theorem dX7_keptBy_20 : decode cX7_keptBy 20 = .ok (.iaload, 1) := by decide +kernel
theorem dX7_keptBy_21 : decode cX7_keptBy 21 = .ok (.iload_n 2, 1) := by decide +kernel
theorem dX7_keptBy_22 : decode cX7_keptBy 22 = .ok (.if_icmp .ne 10, 3) := by decide +kernel
theorem dX7_keptBy_25 : decode cX7_keptBy 25 = .ok (.iload_n 3, 1) := by decide +kernel
theorem dX7_keptBy_26 : decode cX7_keptBy 26 = .ok (.iconst 1, 1) := by decide +kernel
theorem dX7_keptBy_27 : decode cX7_keptBy 27 = .ok (.iload 4, 2) := by decide +kernel
theorem dX7_keptBy_29 : decode cX7_keptBy 29 = .ok (.ishl, 1) := by decide +kernel
theorem dX7_keptBy_30 : decode cX7_keptBy 30 = .ok (.ior, 1) := by decide +kernel
theorem dX7_keptBy_31 : decode cX7_keptBy 31 = .ok (.istore_n 3, 1) := by decide +kernel
theorem dX7_keptBy_32 : decode cX7_keptBy 32 = .ok (.iinc 4 1, 3) := by decide +kernel
theorem dX7_keptBy_35 : decode cX7_keptBy 35 = .ok (.goto (-30), 3) := by decide +kernel
theorem dX7_keptBy_38 : decode cX7_keptBy 38 = .ok (.iload_n 3, 1) := by decide +kernel
theorem dX7_keptBy_39 : decode cX7_keptBy 39 = .ok (.ireturn, 1) := by decide +kernel
theorem dX7_mayBeCaught_0 : decode cX7_mayBeCaught 0 = .ok (.aload_n 0, 1) := by decide +kernel
theorem dX7_mayBeCaught_1 : decode cX7_mayBeCaught 1 = .ok (.getfield 25, 3) := by decide +kernel
theorem dX7_mayBeCaught_4 : decode cX7_mayBeCaught 4 = .ok (.iload_n 2, 1) := by decide +kernel
theorem dX7_mayBeCaught_5 : decode cX7_mayBeCaught 5 = .ok (.iaload, 1) := by decide +kernel
theorem dX7_mayBeCaught_6 : decode cX7_mayBeCaught 6 = .ok (.bipush (-9), 2) := by decide +kernel
theorem dX7_mayBeCaught_8 : decode cX7_mayBeCaught 8 = .ok (.if_icmp .eq 23, 3) := by decide +kernel
theorem dX7_mayBeCaught_11 : decode cX7_mayBeCaught 11 = .ok (.aload_n 0, 1) := by decide +kernel
theorem dX7_mayBeCaught_12 : decode cX7_mayBeCaught 12 = .ok (.iload_n 2, 1) := by decide +kernel
theorem dX7_mayBeCaught_13 : decode cX7_mayBeCaught 13 = .ok (.invokevirtual 92, 3) := by decide +kernel
theorem dX7_mayBeCaught_16 : decode cX7_mayBeCaught 16 = .ok (.ifCond .ne 19, 3) := by decide +kernel
theorem dX7_mayBeCaught_19 : decode cX7_mayBeCaught 19 = .ok (.iload_n 3, 1) := by decide +kernel
theorem dX7_mayBeCaught_20 : decode cX7_mayBeCaught 20 = .ok (.ifCond .ne 11, 3) := by decide +kernel
theorem dX7_mayBeCaught_23 : decode cX7_mayBeCaught 23 = .ok (.aload_n 1, 1) := by decide +kernel
theorem dX7_mayBeCaught_24 : decode cX7_mayBeCaught 24 = .ok (.iload_n 2, 1) := by decide +kernel
theorem dX7_mayBeCaught_25 : decode cX7_mayBeCaught 25 = .ok (.invokevirtual 95, 3) := by decide +kernel
theorem dX7_mayBeCaught_28 : decode cX7_mayBeCaught 28 = .ok (.ifCond .eq 7, 3) := by decide +kernel
theorem dX7_mayBeCaught_31 : decode cX7_mayBeCaught 31 = .ok (.iconst 1, 1) := by decide +kernel
theorem dX7_mayBeCaught_32 : decode cX7_mayBeCaught 32 = .ok (.goto 4, 3) := by decide +kernel
theorem dX7_mayBeCaught_35 : decode cX7_mayBeCaught 35 = .ok (.iconst 0, 1) := by decide +kernel
theorem dX7_mayBeCaught_36 : decode cX7_mayBeCaught 36 = .ok (.ireturn, 1) := by decide +kernel
theorem dX7_passHour_0 : decode cX7_passHour 0 = .ok (.aload_n 1, 1) := by decide +kernel
theorem dX7_passHour_1 : decode cX7_passHour 1 = .ok (.aload_n 0, 1) := by decide +kernel
theorem dX7_passHour_2 : decode cX7_passHour 2 = .ok (.getfield 9, 3) := by decide +kernel
theorem dX7_passHour_5 : decode cX7_passHour 5 = .ok (.iload_n 3, 1) := by decide +kernel
theorem dX7_passHour_6 : decode cX7_passHour 6 = .ok (.iadd, 1) := by decide +kernel
theorem dX7_passHour_7 : decode cX7_passHour 7 = .ok (.invokevirtual 69, 3) := by decide +kernel
theorem dX7_passHour_10 : decode cX7_passHour 10 = .ok (.istore 4, 2) := by decide +kernel
theorem dX7_passHour_12 : decode cX7_passHour 12 = .ok (.aload_n 0, 1) := by decide +kernel
theorem dX7_passHour_13 : decode cX7_passHour 13 = .ok (.getfield 9, 3) := by decide +kernel
theorem dX7_passHour_16 : decode cX7_passHour 16 = .ok (.iload_n 2, 1) := by decide +kernel
theorem dX7_passHour_17 : decode cX7_passHour 17 = .ok (.invokestatic 72, 3) := by decide +kernel
theorem dX7_passHour_20 : decode cX7_passHour 20 = .ok (.istore 5, 2) := by decide +kernel
theorem dX7_passHour_22 : decode cX7_passHour 22 = .ok (.iconst 0, 1) := by decide +kernel
theorem dX7_passHour_23 : decode cX7_passHour 23 = .ok (.istore 6, 2) := by decide +kernel
theorem dX7_passHour_25 : decode cX7_passHour 25 = .ok (.iconst 0, 1) := by decide +kernel
theorem dX7_passHour_26 : decode cX7_passHour 26 = .ok (.istore 7, 2) := by decide +kernel
theorem dX7_passHour_28 : decode cX7_passHour 28 = .ok (.iload 7, 2) := by decide +kernel
theorem dX7_passHour_30 : decode cX7_passHour 30 = .ok (.aload_n 1, 1) := by decide +kernel
theorem dX7_passHour_31 : decode cX7_passHour 31 = .ok (.getfield 40, 3) := by decide +kernel
theorem dX7_passHour_34 : decode cX7_passHour 34 = .ok (.if_icmp .ge 68, 3) := by decide +kernel
theorem dX7_passHour_37 : decode cX7_passHour 37 = .ok (.aload_n 0, 1) := by decide +kernel
theorem dX7_passHour_38 : decode cX7_passHour 38 = .ok (.iload 7, 2) := by decide +kernel
theorem dX7_passHour_40 : decode cX7_passHour 40 = .ok (.invokevirtual 45, 3) := by decide +kernel
theorem dX7_passHour_43 : decode cX7_passHour 43 = .ok (.ifCond .eq 13, 3) := by decide +kernel
theorem dX7_passHour_46 : decode cX7_passHour 46 = .ok (.aload_n 0, 1) := by decide +kernel
theorem dX7_passHour_47 : decode cX7_passHour 47 = .ok (.aload_n 1, 1) := by decide +kernel
theorem dX7_passHour_48 : decode cX7_passHour 48 = .ok (.iload 7, 2) := by decide +kernel
theorem dX7_passHour_50 : decode cX7_passHour 50 = .ok (.invokevirtual 76, 3) := by decide +kernel
theorem dX7_passHour_53 : decode cX7_passHour 53 = .ok (.goto 43, 3) := by decide +kernel
theorem dX7_passHour_56 : decode cX7_passHour 56 = .ok (.aload_n 0, 1) := by decide +kernel
theorem dX7_passHour_57 : decode cX7_passHour 57 = .ok (.getfield 28, 3) := by decide +kernel
theorem dX7_passHour_60 : decode cX7_passHour 60 = .ok (.iload 7, 2) := by decide +kernel
theorem dX7_passHour_62 : decode cX7_passHour 62 = .ok (.iaload, 1) := by decide +kernel
theorem dX7_passHour_63 : decode cX7_passHour 63 = .ok (.iload 4, 2) := by decide +kernel
theorem dX7_passHour_65 : decode cX7_passHour 65 = .ok (.if_icmp .ne 31, 3) := by decide +kernel
theorem dX7_passHour_68 : decode cX7_passHour 68 = .ok (.aload_n 0, 1) := by decide +kernel
theorem dX7_passHour_69 : decode cX7_passHour 69 = .ok (.aload_n 1, 1) := by decide +kernel
theorem dX7_passHour_70 : decode cX7_passHour 70 = .ok (.iload 7, 2) := by decide +kernel
theorem dX7_passHour_72 : decode cX7_passHour 72 = .ok (.iload 5, 2) := by decide +kernel
theorem dX7_passHour_74 : decode cX7_passHour 74 = .ok (.invokevirtual 80, 3) := by decide +kernel
theorem dX7_passHour_77 : decode cX7_passHour 77 = .ok (.ifCond .eq 19, 3) := by decide +kernel
theorem dX7_passHour_80 : decode cX7_passHour 80 = .ok (.aload_n 0, 1) := by decide +kernel
theorem dX7_passHour_81 : decode cX7_passHour 81 = .ok (.aload_n 1, 1) := by decide +kernel
theorem dX7_passHour_82 : decode cX7_passHour 82 = .ok (.iload 7, 2) := by decide +kernel
theorem dX7_passHour_84 : decode cX7_passHour 84 = .ok (.invokevirtual 84, 3) := by decide +kernel
theorem dX7_passHour_87 : decode cX7_passHour 87 = .ok (.iload 6, 2) := by decide +kernel
theorem dX7_passHour_89 : decode cX7_passHour 89 = .ok (.iconst 1, 1) := by decide +kernel
theorem dX7_passHour_90 : decode cX7_passHour 90 = .ok (.iload 7, 2) := by decide +kernel
theorem dX7_passHour_92 : decode cX7_passHour 92 = .ok (.ishl, 1) := by decide +kernel
theorem dX7_passHour_93 : decode cX7_passHour 93 = .ok (.ior, 1) := by decide +kernel
theorem dX7_passHour_94 : decode cX7_passHour 94 = .ok (.istore 6, 2) := by decide +kernel
theorem dX7_passHour_96 : decode cX7_passHour 96 = .ok (.iinc 7 1, 3) := by decide +kernel
theorem dX7_passHour_99 : decode cX7_passHour 99 = .ok (.goto (-71), 3) := by decide +kernel
theorem dX7_passHour_102 : decode cX7_passHour 102 = .ok (.aload_n 0, 1) := by decide +kernel
theorem dX7_passHour_103 : decode cX7_passHour 103 = .ok (.dup, 1) := by decide +kernel
theorem dX7_passHour_104 : decode cX7_passHour 104 = .ok (.getfield 9, 3) := by decide +kernel
theorem dX7_passHour_107 : decode cX7_passHour 107 = .ok (.iconst 1, 1) := by decide +kernel
theorem dX7_passHour_108 : decode cX7_passHour 108 = .ok (.iadd, 1) := by decide +kernel
theorem dX7_passHour_109 : decode cX7_passHour 109 = .ok (.putfield 9, 3) := by decide +kernel
theorem dX7_passHour_112 : decode cX7_passHour 112 = .ok (.iload 6, 2) := by decide +kernel
theorem dX7_passHour_114 : decode cX7_passHour 114 = .ok (.ireturn, 1) := by decide +kernel
theorem dX7_perilAt_0 : decode cX7_perilAt 0 = .ok (.aload_n 0, 1) := by decide +kernel
theorem dX7_perilAt_1 : decode cX7_perilAt 1 = .ok (.getfield 9, 3) := by decide +kernel
theorem dX7_perilAt_4 : decode cX7_perilAt 4 = .ok (.iload_n 3, 1) := by decide +kernel
theorem dX7_perilAt_5 : decode cX7_perilAt 5 = .ok (.iadd, 1) := by decide +kernel
theorem dX7_perilAt_6 : decode cX7_perilAt 6 = .ok (.aload_n 1, 1) := by decide +kernel
theorem dX7_perilAt_7 : decode cX7_perilAt 7 = .ok (.getfield 101, 3) := by decide +kernel
theorem dX7_perilAt_10 : decode cX7_perilAt 10 = .ok (.invokestatic 72, 3) := by decide +kernel
theorem dX7_perilAt_13 : decode cX7_perilAt 13 = .ok (.istore 4, 2) := by decide +kernel
theorem dX7_perilAt_15 : decode cX7_perilAt 15 = .ok (.iconst 0, 1) := by decide +kernel
theorem dX7_perilAt_16 : decode cX7_perilAt 16 = .ok (.istore 5, 2) := by decide +kernel
theorem dX7_perilAt_18 : decode cX7_perilAt 18 = .ok (.iload 5, 2) := by decide +kernel
theorem dX7_perilAt_20 : decode cX7_perilAt 20 = .ok (.aload_n 1, 1) := by decide +kernel
theorem dX7_perilAt_21 : decode cX7_perilAt 21 = .ok (.getfield 40, 3) := by decide +kernel
theorem dX7_perilAt_24 : decode cX7_perilAt 24 = .ok (.if_icmp .ge 54, 3) := by decide +kernel
theorem dX7_perilAt_27 : decode cX7_perilAt 27 = .ok (.aload_n 0, 1) := by decide +kernel
theorem dX7_perilAt_28 : decode cX7_perilAt 28 = .ok (.getfield 25, 3) := by decide +kernel
theorem dX7_perilAt_31 : decode cX7_perilAt 31 = .ok (.iload 5, 2) := by decide +kernel
theorem dX7_perilAt_33 : decode cX7_perilAt 33 = .ok (.iaload, 1) := by decide +kernel
theorem dX7_perilAt_34 : decode cX7_perilAt 34 = .ok (.iload_n 2, 1) := by decide +kernel
theorem dX7_perilAt_35 : decode cX7_perilAt 35 = .ok (.if_icmp .ne 37, 3) := by decide +kernel
theorem dX7_perilAt_38 : decode cX7_perilAt 38 = .ok (.aload_n 0, 1) := by decide +kernel
theorem dX7_perilAt_39 : decode cX7_perilAt 39 = .ok (.getfield 31, 3) := by decide +kernel
theorem dX7_perilAt_42 : decode cX7_perilAt 42 = .ok (.iload 5, 2) := by decide +kernel
theorem dX7_perilAt_44 : decode cX7_perilAt 44 = .ok (.iaload, 1) := by decide +kernel
theorem dX7_perilAt_45 : decode cX7_perilAt 45 = .ok (.iload_n 3, 1) := by decide +kernel
theorem dX7_perilAt_46 : decode cX7_perilAt 46 = .ok (.if_icmp .gt 26, 3) := by decide +kernel
theorem dX7_perilAt_49 : decode cX7_perilAt 49 = .ok (.aload_n 0, 1) := by decide +kernel
theorem dX7_perilAt_50 : decode cX7_perilAt 50 = .ok (.aload_n 1, 1) := by decide +kernel
theorem dX7_perilAt_51 : decode cX7_perilAt 51 = .ok (.iload 5, 2) := by decide +kernel
theorem dX7_perilAt_53 : decode cX7_perilAt 53 = .ok (.iload 4, 2) := by decide +kernel
theorem dX7_perilAt_55 : decode cX7_perilAt 55 = .ok (.invokevirtual 80, 3) := by decide +kernel
theorem dX7_perilAt_58 : decode cX7_perilAt 58 = .ok (.ifCond .eq 14, 3) := by decide +kernel
theorem dX7_perilAt_61 : decode cX7_perilAt 61 = .ok (.aload_n 1, 1) := by decide +kernel
theorem dX7_perilAt_62 : decode cX7_perilAt 62 = .ok (.aload_n 0, 1) := by decide +kernel
theorem dX7_perilAt_63 : decode cX7_perilAt 63 = .ok (.getfield 9, 3) := by decide +kernel
theorem dX7_perilAt_66 : decode cX7_perilAt 66 = .ok (.iload_n 3, 1) := by decide +kernel
theorem dX7_perilAt_67 : decode cX7_perilAt 67 = .ok (.iadd, 1) := by decide +kernel
theorem dX7_perilAt_68 : decode cX7_perilAt 68 = .ok (.invokevirtual 69, 3) := by decide +kernel
theorem dX7_perilAt_71 : decode cX7_perilAt 71 = .ok (.ireturn, 1) := by decide +kernel
theorem dX7_perilAt_72 : decode cX7_perilAt 72 = .ok (.iinc 5 1, 3) := by decide +kernel
theorem dX7_perilAt_75 : decode cX7_perilAt 75 = .ok (.goto (-57), 3) := by decide +kernel
theorem dX7_perilAt_78 : decode cX7_perilAt 78 = .ok (.bipush (-9), 2) := by decide +kernel
theorem dX7_perilAt_80 : decode cX7_perilAt 80 = .ok (.ireturn, 1) := by decide +kernel
theorem dX7_serve_0 : decode cX7_serve 0 = .ok (.aload_n 0, 1) := by decide +kernel
theorem dX7_serve_1 : decode cX7_serve 1 = .ok (.getfield 31, 3) := by decide +kernel
theorem dX7_serve_4 : decode cX7_serve 4 = .ok (.iload_n 2, 1) := by decide +kernel
theorem dX7_serve_5 : decode cX7_serve 5 = .ok (.dup2, 1) := by decide +kernel
theorem dX7_serve_6 : decode cX7_serve 6 = .ok (.iaload, 1) := by decide +kernel
theorem dX7_serve_7 : decode cX7_serve 7 = .ok (.iconst 1, 1) := by decide +kernel
theorem dX7_serve_8 : decode cX7_serve 8 = .ok (.isub, 1) := by decide +kernel
theorem dX7_serve_9 : decode cX7_serve 9 = .ok (.iastore, 1) := by decide +kernel
theorem dX7_serve_10 : decode cX7_serve 10 = .ok (.aload_n 0, 1) := by decide +kernel
theorem dX7_serve_11 : decode cX7_serve 11 = .ok (.getfield 25, 3) := by decide +kernel
theorem dX7_serve_14 : decode cX7_serve 14 = .ok (.iload_n 2, 1) := by decide +kernel
theorem dX7_serve_15 : decode cX7_serve 15 = .ok (.iaload, 1) := by decide +kernel
theorem dX7_serve_16 : decode cX7_serve 16 = .ok (.istore_n 3, 1) := by decide +kernel
theorem dX7_serve_17 : decode cX7_serve 17 = .ok (.aload_n 0, 1) := by decide +kernel
theorem dX7_serve_18 : decode cX7_serve 18 = .ok (.iload_n 2, 1) := by decide +kernel
theorem dX7_serve_19 : decode cX7_serve 19 = .ok (.invokevirtual 45, 3) := by decide +kernel
theorem dX7_serve_22 : decode cX7_serve 22 = .ok (.ifCond .ne 23, 3) := by decide +kernel
theorem dX7_serve_25 : decode cX7_serve 25 = .ok (.aload_n 1, 1) := by decide +kernel
theorem dX7_serve_26 : decode cX7_serve 26 = .ok (.iload_n 3, 1) := by decide +kernel
theorem dX7_serve_27 : decode cX7_serve 27 = .ok (.invokevirtual 98, 3) := by decide +kernel
theorem dX7_serve_30 : decode cX7_serve 30 = .ok (.ifCond .eq 15, 3) := by decide +kernel
theorem dX7_serve_33 : decode cX7_serve 33 = .ok (.aload_n 0, 1) := by decide +kernel
theorem dX7_serve_34 : decode cX7_serve 34 = .ok (.getfield 28, 3) := by decide +kernel
theorem dX7_serve_37 : decode cX7_serve 37 = .ok (.iload_n 2, 1) := by decide +kernel
theorem dX7_serve_38 : decode cX7_serve 38 = .ok (.aload_n 0, 1) := by decide +kernel
theorem dX7_serve_39 : decode cX7_serve 39 = .ok (.getfield 18, 3) := by decide +kernel
theorem dX7_serve_42 : decode cX7_serve 42 = .ok (.iload_n 3, 1) := by decide +kernel
theorem dX7_serve_43 : decode cX7_serve 43 = .ok (.iaload, 1) := by decide +kernel
theorem dX7_serve_44 : decode cX7_serve 44 = .ok (.iastore, 1) := by decide +kernel
theorem dX7_serve_45 : decode cX7_serve 45 = .ok (.return_, 1) := by decide +kernel
theorem dX8_about_0 : decode cX8_about 0 = .ok (.iload_n 1, 1) := by decide +kernel
theorem dX8_about_1 : decode cX8_about 1 = .ok (.tableswitch 159 0 10 #[59, 67, 75, 83, 91, 106, 114, 126, 138, 146, 154], 59) := by decide +kernel
theorem dX8_about_60 : decode cX8_about 60 = .ok (.aload_n 0, 1) := by decide +kernel
theorem dX8_about_61 : decode cX8_about 61 = .ok (.getfield 27, 3) := by decide +kernel
theorem dX8_about_64 : decode cX8_about 64 = .ok (.getfield 90, 3) := by decide +kernel
theorem dX8_about_67 : decode cX8_about 67 = .ok (.ireturn, 1) := by decide +kernel
theorem dX8_about_68 : decode cX8_about 68 = .ok (.aload_n 0, 1) := by decide +kernel
theorem dX8_about_69 : decode cX8_about 69 = .ok (.getfield 27, 3) := by decide +kernel
theorem dX8_about_72 : decode cX8_about 72 = .ok (.getfield 93, 3) := by decide +kernel
theorem dX8_about_75 : decode cX8_about 75 = .ok (.ireturn, 1) := by decide +kernel
theorem dX8_about_76 : decode cX8_about 76 = .ok (.aload_n 0, 1) := by decide +kernel
theorem dX8_about_77 : decode cX8_about 77 = .ok (.getfield 27, 3) := by decide +kernel
theorem dX8_about_80 : decode cX8_about 80 = .ok (.getfield 96, 3) := by decide +kernel
theorem dX8_about_83 : decode cX8_about 83 = .ok (.ireturn, 1) := by decide +kernel
theorem dX8_about_84 : decode cX8_about 84 = .ok (.aload_n 0, 1) := by decide +kernel
theorem dX8_about_85 : decode cX8_about 85 = .ok (.getfield 34, 3) := by decide +kernel
theorem dX8_about_88 : decode cX8_about 88 = .ok (.getfield 99, 3) := by decide +kernel
theorem dX8_about_91 : decode cX8_about 91 = .ok (.ireturn, 1) := by decide +kernel
theorem dX8_about_92 : decode cX8_about 92 = .ok (.aload_n 0, 1) := by decide +kernel
theorem dX8_about_93 : decode cX8_about 93 = .ok (.getfield 27, 3) := by decide +kernel
theorem dX8_about_96 : decode cX8_about 96 = .ok (.aload_n 0, 1) := by decide +kernel
theorem dX8_about_97 : decode cX8_about 97 = .ok (.getfield 34, 3) := by decide +kernel
theorem dX8_about_100 : decode cX8_about 100 = .ok (.getfield 99, 3) := by decide +kernel
theorem dX8_about_103 : decode cX8_about 103 = .ok (.invokevirtual 102, 3) := by decide +kernel
theorem dX8_about_106 : decode cX8_about 106 = .ok (.ireturn, 1) := by decide +kernel
theorem dX8_about_107 : decode cX8_about 107 = .ok (.aload_n 0, 1) := by decide +kernel
theorem dX8_about_108 : decode cX8_about 108 = .ok (.getfield 34, 3) := by decide +kernel
theorem dX8_about_111 : decode cX8_about 111 = .ok (.getfield 106, 3) := by decide +kernel
theorem dX8_about_114 : decode cX8_about 114 = .ok (.ireturn, 1) := by decide +kernel
theorem dX8_about_115 : decode cX8_about 115 = .ok (.aload_n 0, 1) := by decide +kernel
theorem dX8_about_116 : decode cX8_about 116 = .ok (.getfield 34, 3) := by decide +kernel
theorem dX8_about_119 : decode cX8_about 119 = .ok (.aload_n 0, 1) := by decide +kernel
theorem dX8_about_120 : decode cX8_about 120 = .ok (.getfield 27, 3) := by decide +kernel
theorem dX8_about_123 : decode cX8_about 123 = .ok (.invokevirtual 109, 3) := by decide +kernel
theorem dX8_about_126 : decode cX8_about 126 = .ok (.ireturn, 1) := by decide +kernel
theorem dX8_about_127 : decode cX8_about 127 = .ok (.aload_n 0, 1) := by decide +kernel
theorem dX8_about_128 : decode cX8_about 128 = .ok (.getfield 34, 3) := by decide +kernel
theorem dX8_about_131 : decode cX8_about 131 = .ok (.aload_n 0, 1) := by decide +kernel
theorem dX8_about_132 : decode cX8_about 132 = .ok (.getfield 27, 3) := by decide +kernel
theorem dX8_about_135 : decode cX8_about 135 = .ok (.invokevirtual 113, 3) := by decide +kernel
theorem dX8_about_138 : decode cX8_about 138 = .ok (.ireturn, 1) := by decide +kernel
theorem dX8_about_139 : decode cX8_about 139 = .ok (.aload_n 0, 1) := by decide +kernel
theorem dX8_about_140 : decode cX8_about 140 = .ok (.getfield 44, 3) := by decide +kernel
theorem dX8_about_143 : decode cX8_about 143 = .ok (.getfield 116, 3) := by decide +kernel
theorem dX8_about_146 : decode cX8_about 146 = .ok (.ireturn, 1) := by decide +kernel
theorem dX8_about_147 : decode cX8_about 147 = .ok (.aload_n 0, 1) := by decide +kernel
theorem dX8_about_148 : decode cX8_about 148 = .ok (.getfield 65, 3) := by decide +kernel
theorem dX8_about_151 : decode cX8_about 151 = .ok (.getfield 119, 3) := by decide +kernel
theorem dX8_about_154 : decode cX8_about 154 = .ok (.ireturn, 1) := by decide +kernel
theorem dX8_about_155 : decode cX8_about 155 = .ok (.aload_n 0, 1) := by decide +kernel
theorem dX8_about_156 : decode cX8_about 156 = .ok (.getfield 13, 3) := by decide +kernel
theorem dX8_about_159 : decode cX8_about 159 = .ok (.ireturn, 1) := by decide +kernel
theorem dX8_about_160 : decode cX8_about 160 = .ok (.bipush (-2), 2) := by decide +kernel
theorem dX8_about_162 : decode cX8_about 162 = .ok (.ireturn, 1) := by decide +kernel
theorem dX8_again_0 : decode cX8_again 0 = .ok (.iload_n 1, 1) := by decide +kernel
theorem dX8_again_1 : decode cX8_again 1 = .ok (.ifCond .lt 8, 3) := by decide +kernel
theorem dX8_again_4 : decode cX8_again 4 = .ok (.iload_n 1, 1) := by decide +kernel
theorem dX8_again_5 : decode cX8_again 5 = .ok (.iconst 2, 1) := by decide +kernel
theorem dX8_again_6 : decode cX8_again 6 = .ok (.if_icmp .lt 5, 3) := by decide +kernel
theorem dX8_again_9 : decode cX8_again 9 = .ok (.iconst (-1), 1) := by decide +kernel
theorem dX8_again_10 : decode cX8_again 10 = .ok (.ireturn, 1) := by decide +kernel
theorem dX8_again_11 : decode cX8_again 11 = .ok (.aload_n 0, 1) := by decide +kernel
theorem dX8_again_12 : decode cX8_again 12 = .ok (.getfield 51, 3) := by decide +kernel
theorem dX8_again_15 : decode cX8_again 15 = .ok (.iload_n 1, 1) := by decide +kernel
theorem dX8_again_16 : decode cX8_again 16 = .ok (.invokevirtual 248, 3) := by decide +kernel
theorem dX8_again_19 : decode cX8_again 19 = .ok (.ifCond .ne 6, 3) := by decide +kernel
theorem dX8_again_22 : decode cX8_again 22 = .ok (.bipush (-3), 2) := by decide +kernel
theorem dX8_again_24 : decode cX8_again 24 = .ok (.ireturn, 1) := by decide +kernel
theorem dX8_again_25 : decode cX8_again 25 = .ok (.aload_n 0, 1) := by decide +kernel
theorem dX8_again_26 : decode cX8_again 26 = .ok (.getfield 51, 3) := by decide +kernel
theorem dX8_again_29 : decode cX8_again 29 = .ok (.iload_n 1, 1) := by decide +kernel
theorem dX8_again_30 : decode cX8_again 30 = .ok (.aload_n 0, 1) := by decide +kernel
theorem dX8_again_31 : decode cX8_again 31 = .ok (.getfield 34, 3) := by decide +kernel
theorem dX8_again_34 : decode cX8_again 34 = .ok (.invokevirtual 250, 3) := by decide +kernel
theorem dX8_again_37 : decode cX8_again 37 = .ok (.aload_n 0, 1) := by decide +kernel
theorem dX8_again_38 : decode cX8_again 38 = .ok (.getfield 44, 3) := by decide +kernel
theorem dX8_again_41 : decode cX8_again 41 = .ok (.invokevirtual 86, 3) := by decide +kernel
theorem dX8_again_44 : decode cX8_again 44 = .ok (.aload_n 0, 1) := by decide +kernel
theorem dX8_again_45 : decode cX8_again 45 = .ok (.getfield 34, 3) := by decide +kernel
theorem dX8_again_48 : decode cX8_again 48 = .ok (.getfield 99, 3) := by decide +kernel
theorem dX8_again_51 : decode cX8_again 51 = .ok (.ireturn, 1) := by decide +kernel
theorem dX8_aired_0 : decode cX8_aired 0 = .ok (.aload_n 0, 1) := by decide +kernel
theorem dX8_aired_1 : decode cX8_aired 1 = .ok (.getfield 27, 3) := by decide +kernel
theorem dX8_aired_4 : decode cX8_aired 4 = .ok (.iload_n 1, 1) := by decide +kernel
theorem dX8_aired_5 : decode cX8_aired 5 = .ok (.invokevirtual 120, 3) := by decide +kernel
theorem dX8_aired_8 : decode cX8_aired 8 = .ok (.ifCond .ne 5, 3) := by decide +kernel
theorem dX8_aired_11 : decode cX8_aired 11 = .ok (.iconst (-1), 1) := by decide +kernel
theorem dX8_aired_12 : decode cX8_aired 12 = .ok (.ireturn, 1) := by decide +kernel
theorem dX8_aired_13 : decode cX8_aired 13 = .ok (.aload_n 0, 1) := by decide +kernel
theorem dX8_aired_14 : decode cX8_aired 14 = .ok (.getfield 58, 3) := by decide +kernel
theorem dX8_aired_17 : decode cX8_aired 17 = .ok (.aload_n 0, 1) := by decide +kernel
theorem dX8_aired_18 : decode cX8_aired 18 = .ok (.getfield 27, 3) := by decide +kernel
theorem dX8_aired_21 : decode cX8_aired 21 = .ok (.aload_n 0, 1) := by decide +kernel
theorem dX8_aired_22 : decode cX8_aired 22 = .ok (.getfield 34, 3) := by decide +kernel
theorem dX8_aired_25 : decode cX8_aired 25 = .ok (.iload_n 1, 1) := by decide +kernel
theorem dX8_aired_26 : decode cX8_aired 26 = .ok (.invokevirtual 186, 3) := by decide +kernel
theorem dX8_aired_29 : decode cX8_aired 29 = .ok (.aload_n 0, 1) := by decide +kernel
theorem dX8_aired_30 : decode cX8_aired 30 = .ok (.getfield 27, 3) := by decide +kernel
theorem dX8_aired_33 : decode cX8_aired 33 = .ok (.iload_n 1, 1) := by decide +kernel
theorem dX8_aired_34 : decode cX8_aired 34 = .ok (.invokevirtual 201, 3) := by decide +kernel
theorem dX8_aired_37 : decode cX8_aired 37 = .ok (.ifCond .eq 8, 3) := by decide +kernel
theorem dX8_aired_40 : decode cX8_aired 40 = .ok (.bipush (-9), 2) := by decide +kernel
theorem dX8_aired_42 : decode cX8_aired 42 = .ok (.goto 19, 3) := by decide +kernel
theorem dX8_aired_45 : decode cX8_aired 45 = .ok (.aload_n 0, 1) := by decide +kernel
theorem dX8_aired_46 : decode cX8_aired 46 = .ok (.getfield 58, 3) := by decide +kernel
theorem dX8_aired_49 : decode cX8_aired 49 = .ok (.aload_n 0, 1) := by decide +kernel
theorem dX8_aired_50 : decode cX8_aired 50 = .ok (.getfield 34, 3) := by decide +kernel
theorem dX8_aired_53 : decode cX8_aired 53 = .ok (.getfield 124, 3) := by decide +kernel
theorem dX8_aired_56 : decode cX8_aired 56 = .ok (.iload_n 1, 1) := by decide +kernel
theorem dX8_aired_57 : decode cX8_aired 57 = .ok (.iaload, 1) := by decide +kernel
theorem dX8_aired_58 : decode cX8_aired 58 = .ok (.invokevirtual 204, 3) := by decide +kernel
theorem dX8_aired_61 : decode cX8_aired 61 = .ok (.ireturn, 1) := by decide +kernel
theorem dX8_caught_0 : decode cX8_caught 0 = .ok (.iload_n 1, 1) := by decide +kernel
theorem dX8_caught_1 : decode cX8_caught 1 = .ok (.ifCond .lt 9, 3) := by decide +kernel
theorem dX8_caught_4 : decode cX8_caught 4 = .ok (.iload_n 1, 1) := by decide +kernel
theorem dX8_caught_5 : decode cX8_caught 5 = .ok (.bipush 24, 2) := by decide +kernel
theorem dX8_caught_7 : decode cX8_caught 7 = .ok (.if_icmp .le 6, 3) := by decide +kernel
theorem dX8_caught_10 : decode cX8_caught 10 = .ok (.bipush (-2), 2) := by decide +kernel
theorem dX8_caught_12 : decode cX8_caught 12 = .ok (.ireturn, 1) := by decide +kernel
theorem dX8_caught_13 : decode cX8_caught 13 = .ok (.aload_n 0, 1) := by decide +kernel
theorem dX8_caught_14 : decode cX8_caught 14 = .ok (.iload_n 1, 1) := by decide +kernel
theorem dX8_caught_15 : decode cX8_caught 15 = .ok (.aload_n 0, 1) := by decide +kernel
theorem dX8_caught_16 : decode cX8_caught 16 = .ok (.getfield 27, 3) := by decide +kernel
theorem dX8_caught_19 : decode cX8_caught 19 = .ok (.getfield 96, 3) := by decide +kernel
theorem dX8_caught_22 : decode cX8_caught 22 = .ok (.iconst 0, 1) := by decide +kernel
theorem dX8_caught_23 : decode cX8_caught 23 = .ok (.invokevirtual 182, 3) := by decide +kernel
theorem dX8_caught_26 : decode cX8_caught 26 = .ok (.ireturn, 1) := by decide +kernel
theorem dX8_chance_0 : decode cX8_chance 0 = .ok (.aload_n 0, 1) := by decide +kernel
theorem dX8_chance_1 : decode cX8_chance 1 = .ok (.getfield 27, 3) := by decide +kernel
theorem dX8_chance_4 : decode cX8_chance 4 = .ok (.iload_n 1, 1) := by decide +kernel
theorem dX8_chance_5 : decode cX8_chance 5 = .ok (.invokevirtual 143, 3) := by decide +kernel
theorem dX8_chance_8 : decode cX8_chance 8 = .ok (.ifCond .ne 5, 3) := by decide +kernel
theorem dX8_chance_11 : decode cX8_chance 11 = .ok (.iconst (-1), 1) := by decide +kernel
theorem dX8_chance_12 : decode cX8_chance 12 = .ok (.ireturn, 1) := by decide +kernel
theorem dX8_chance_13 : decode cX8_chance 13 = .ok (.iload_n 2, 1) := by decide +kernel
theorem dX8_chance_14 : decode cX8_chance 14 = .ok (.ifCond .lt 9, 3) := by decide +kernel
theorem dX8_chance_17 : decode cX8_chance 17 = .ok (.iload_n 2, 1) := by decide +kernel
theorem dX8_chance_18 : decode cX8_chance 18 = .ok (.bipush 24, 2) := by decide +kernel
theorem dX8_chance_20 : decode cX8_chance 20 = .ok (.if_icmp .le 6, 3) := by decide +kernel
theorem dX8_chance_23 : decode cX8_chance 23 = .ok (.bipush (-2), 2) := by decide +kernel
theorem dX8_chance_25 : decode cX8_chance 25 = .ok (.ireturn, 1) := by decide +kernel
theorem dX8_chance_26 : decode cX8_chance 26 = .ok (.iconst 0, 1) := by decide +kernel
theorem dX8_chance_27 : decode cX8_chance 27 = .ok (.istore 4, 2) := by decide +kernel
theorem dX8_chance_29 : decode cX8_chance 29 = .ok (.iconst 0, 1) := by decide +kernel
theorem dX8_chance_30 : decode cX8_chance 30 = .ok (.istore 5, 2) := by decide +kernel
theorem dX8_chance_32 : decode cX8_chance 32 = .ok (.iload 5, 2) := by decide +kernel
theorem dX8_chance_34 : decode cX8_chance 34 = .ok (.iconst 4, 1) := by decide +kernel
theorem dX8_chance_35 : decode cX8_chance 35 = .ok (.if_icmp .ge 32, 3) := by decide +kernel
theorem dX8_chance_38 : decode cX8_chance 38 = .ok (.iload 4, 2) := by decide +kernel
theorem dX8_chance_40 : decode cX8_chance 40 = .ok (.aload_n 0, 1) := by decide +kernel
theorem dX8_chance_41 : decode cX8_chance 41 = .ok (.iload_n 2, 1) := by decide +kernel
theorem dX8_chance_42 : decode cX8_chance 42 = .ok (.aload_n 0, 1) := by decide +kernel
theorem dX8_chance_43 : decode cX8_chance 43 = .ok (.getfield 27, 3) := by decide +kernel
theorem dX8_chance_46 : decode cX8_chance 46 = .ok (.getfield 96, 3) := by decide +kernel
theorem dX8_chance_49 : decode cX8_chance 49 = .ok (.iload 5, 2) := by decide +kernel
theorem dX8_chance_51 : decode cX8_chance 51 = .ok (.invokevirtual 182, 3) := by decide +kernel
theorem dX8_chance_54 : decode cX8_chance 54 = .ok (.iload_n 1, 1) := by decide +kernel
theorem dX8_chance_55 : decode cX8_chance 55 = .ok (.ishr, 1) := by decide +kernel
theorem dX8_chance_56 : decode cX8_chance 56 = .ok (.iconst 1, 1) := by decide +kernel
theorem dX8_chance_57 : decode cX8_chance 57 = .ok (.iand, 1) := by decide +kernel
theorem dX8_chance_58 : decode cX8_chance 58 = .ok (.iadd, 1) := by decide +kernel
theorem dX8_chance_59 : decode cX8_chance 59 = .ok (.istore 4, 2) := by decide +kernel
theorem dX8_chance_61 : decode cX8_chance 61 = .ok (.iinc 5 1, 3) := by decide +kernel
theorem dX8_chance_64 : decode cX8_chance 64 = .ok (.goto (-32), 3) := by decide +kernel
theorem dX8_chance_67 : decode cX8_chance 67 = .ok (.iload 4, 2) := by decide +kernel
theorem dX8_chance_69 : decode cX8_chance 69 = .ok (.ifCond .eq 9, 3) := by decide +kernel
theorem dX8_chance_72 : decode cX8_chance 72 = .ok (.iload 4, 2) := by decide +kernel
theorem dX8_chance_74 : decode cX8_chance 74 = .ok (.iconst 4, 1) := by decide +kernel
theorem dX8_chance_75 : decode cX8_chance 75 = .ok (.if_icmp .ne 7, 3) := by decide +kernel
theorem dX8_chance_78 : decode cX8_chance 78 = .ok (.iconst 4, 1) := by decide +kernel
theorem dX8_chance_79 : decode cX8_chance 79 = .ok (.goto 14, 3) := by decide +kernel
theorem dX8_chance_82 : decode cX8_chance 82 = .ok (.iload 4, 2) := by decide +kernel
theorem dX8_chance_84 : decode cX8_chance 84 = .ok (.iconst 2, 1) := by decide +kernel
theorem dX8_chance_85 : decode cX8_chance 85 = .ok (.if_icmp .ne 7, 3) := by decide +kernel
theorem dX8_chance_88 : decode cX8_chance 88 = .ok (.iconst 2, 1) := by decide +kernel
theorem dX8_chance_89 : decode cX8_chance 89 = .ok (.goto 4, 3) := by decide +kernel
theorem dX8_chance_92 : decode cX8_chance 92 = .ok (.iconst 1, 1) := by decide +kernel
theorem dX8_chance_93 : decode cX8_chance 93 = .ok (.istore 5, 2) := by decide +kernel
theorem dX8_chance_95 : decode cX8_chance 95 = .ok (.iload_n 3, 1) := by decide +kernel
theorem dX8_chance_96 : decode cX8_chance 96 = .ok (.ifCond .eq 11, 3) := by decide +kernel
theorem dX8_chance_99 : decode cX8_chance 99 = .ok (.iload 4, 2) := by decide +kernel
theorem dX8_chance_101 : decode cX8_chance 101 = .ok (.iload 5, 2) := by decide +kernel
theorem dX8_chance_103 : decode cX8_chance 103 = .ok (.idiv, 1) := by decide +kernel
theorem dX8_chance_104 : decode cX8_chance 104 = .ok (.goto 7, 3) := by decide +kernel
theorem dX8_chance_107 : decode cX8_chance 107 = .ok (.iconst 4, 1) := by decide +kernel
theorem dX8_chance_108 : decode cX8_chance 108 = .ok (.iload 5, 2) := by decide +kernel
theorem dX8_chance_110 : decode cX8_chance 110 = .ok (.idiv, 1) := by decide +kernel
theorem dX8_chance_111 : decode cX8_chance 111 = .ok (.ireturn, 1) := by decide +kernel
theorem dX8_days_0 : decode cX8_days 0 = .ok (.iload_n 1, 1) := by decide +kernel
theorem dX8_days_1 : decode cX8_days 1 = .ok (.iconst 1, 1) := by decide +kernel
theorem dX8_days_2 : decode cX8_days 2 = .ok (.if_icmp .lt 9, 3) := by decide +kernel
theorem dX8_days_5 : decode cX8_days 5 = .ok (.iload_n 1, 1) := by decide +kernel
theorem dX8_days_6 : decode cX8_days 6 = .ok (.bipush 30, 2) := by decide +kernel
theorem dX8_days_8 : decode cX8_days 8 = .ok (.if_icmp .le 6, 3) := by decide +kernel
theorem dX8_days_11 : decode cX8_days 11 = .ok (.bipush (-2), 2) := by decide +kernel
theorem dX8_days_13 : decode cX8_days 13 = .ok (.ireturn, 1) := by decide +kernel
theorem dX8_days_14 : decode cX8_days 14 = .ok (.iconst 0, 1) := by decide +kernel
theorem dX8_days_15 : decode cX8_days 15 = .ok (.istore_n 2, 1) := by decide +kernel
theorem dX8_days_16 : decode cX8_days 16 = .ok (.aload_n 0, 1) := by decide +kernel
theorem dX8_days_17 : decode cX8_days 17 = .ok (.getfield 38, 3) := by decide +kernel
theorem dX8_days_20 : decode cX8_days 20 = .ok (.aload_n 0, 1) := by decide +kernel
theorem dX8_days_21 : decode cX8_days 21 = .ok (.getfield 34, 3) := by decide +kernel
theorem dX8_days_24 : decode cX8_days 24 = .ok (.invokevirtual 83, 3) := by decide +kernel
theorem dX8_days_27 : decode cX8_days 27 = .ok (.iconst 0, 1) := by decide +kernel
theorem dX8_days_28 : decode cX8_days 28 = .ok (.istore_n 3, 1) := by decide +kernel
theorem dX8_days_29 : decode cX8_days 29 = .ok (.iload_n 3, 1) := by decide +kernel
theorem dX8_days_30 : decode cX8_days 30 = .ok (.iload_n 1, 1) := by decide +kernel
theorem dX8_days_31 : decode cX8_days 31 = .ok (.if_icmp .ge 99, 3) := by decide +kernel
theorem dX8_days_34 : decode cX8_days 34 = .ok (.aload_n 0, 1) := by decide +kernel
theorem dX8_days_35 : decode cX8_days 35 = .ok (.aload_n 0, 1) := by decide +kernel
theorem dX8_days_36 : decode cX8_days 36 = .ok (.getfield 69, 3) := by decide +kernel
theorem dX8_days_39 : decode cX8_days 39 = .ok (.ldc2_w 233, 3) := by decide +kernel
theorem dX8_days_42 : decode cX8_days 42 = .ok (.lmul, 1) := by decide +kernel
theorem dX8_days_43 : decode cX8_days 43 = .ok (.ldc2_w 235, 3) := by decide +kernel
theorem dX8_days_46 : decode cX8_days 46 = .ok (.ladd, 1) := by decide +kernel
theorem dX8_days_47 : decode cX8_days 47 = .ok (.putfield 69, 3) := by decide +kernel
theorem dX8_days_50 : decode cX8_days 50 = .ok (.aload_n 0, 1) := by decide +kernel
theorem dX8_days_51 : decode cX8_days 51 = .ok (.getfield 69, 3) := by decide +kernel
theorem dX8_days_54 : decode cX8_days 54 = .ok (.bipush 33, 2) := by decide +kernel
theorem dX8_days_56 : decode cX8_days 56 = .ok (.lushr, 1) := by decide +kernel
theorem dX8_days_57 : decode cX8_days 57 = .ok (.ldc2_w 237, 3) := by decide +kernel
theorem dX8_days_60 : decode cX8_days 60 = .ok (.lrem, 1) := by decide +kernel
theorem dX8_days_61 : decode cX8_days 61 = .ok (.l2i, 1) := by decide +kernel
theorem dX8_days_62 : decode cX8_days 62 = .ok (.istore 4, 2) := by decide +kernel
theorem dX8_days_64 : decode cX8_days 64 = .ok (.iload 4, 2) := by decide +kernel
theorem dX8_days_66 : decode cX8_days 66 = .ok (.iconst 3, 1) := by decide +kernel
theorem dX8_days_67 : decode cX8_days 67 = .ok (.idiv, 1) := by decide +kernel
theorem dX8_days_68 : decode cX8_days 68 = .ok (.istore 5, 2) := by decide +kernel
theorem dX8_days_70 : decode cX8_days 70 = .ok (.aload_n 0, 1) := by decide +kernel
theorem dX8_days_71 : decode cX8_days 71 = .ok (.getfield 27, 3) := by decide +kernel
theorem dX8_days_74 : decode cX8_days 74 = .ok (.iload 5, 2) := by decide +kernel
theorem dX8_days_76 : decode cX8_days 76 = .ok (.invokevirtual 120, 3) := by decide +kernel
theorem dX8_days_79 : decode cX8_days 79 = .ok (.ifCond .eq 20, 3) := by decide +kernel
theorem dX8_days_82 : decode cX8_days 82 = .ok (.aload_n 0, 1) := by decide +kernel
theorem dX8_days_83 : decode cX8_days 83 = .ok (.getfield 38, 3) := by decide +kernel
theorem dX8_days_86 : decode cX8_days 86 = .ok (.aload_n 0, 1) := by decide +kernel
theorem dX8_days_87 : decode cX8_days 87 = .ok (.getfield 27, 3) := by decide +kernel
theorem dX8_days_90 : decode cX8_days 90 = .ok (.iload 5, 2) := by decide +kernel
theorem dX8_days_92 : decode cX8_days 92 = .ok (.iload 4, 2) := by decide +kernel
theorem dX8_days_94 : decode cX8_days 94 = .ok (.iconst 3, 1) := by decide +kernel
theorem dX8_days_95 : decode cX8_days 95 = .ok (.irem, 1) := by decide +kernel
theorem dX8_days_96 : decode cX8_days 96 = .ok (.invokevirtual 164, 3) := by decide +kernel
theorem dX8_days_99 : decode cX8_days 99 = .ok (.iload_n 2, 1) := by decide +kernel
theorem dX8_days_100 : decode cX8_days 100 = .ok (.aload_n 0, 1) := by decide +kernel
theorem dX8_days_101 : decode cX8_days 101 = .ok (.getfield 38, 3) := by decide +kernel
theorem dX8_days_104 : decode cX8_days 104 = .ok (.aload_n 0, 1) := by decide +kernel
theorem dX8_days_105 : decode cX8_days 105 = .ok (.getfield 27, 3) := by decide +kernel
theorem dX8_days_108 : decode cX8_days 108 = .ok (.aload_n 0, 1) := by decide +kernel
theorem dX8_days_109 : decode cX8_days 109 = .ok (.getfield 27, 3) := by decide +kernel
theorem dX8_days_112 : decode cX8_days 112 = .ok (.getfield 96, 3) := by decide +kernel
theorem dX8_days_115 : decode cX8_days 115 = .ok (.iconst 0, 1) := by decide +kernel
theorem dX8_days_116 : decode cX8_days 116 = .ok (.invokevirtual 175, 3) := by decide +kernel
theorem dX8_days_119 : decode cX8_days 119 = .ok (.invokestatic 239, 3) := by decide +kernel
theorem dX8_days_122 : decode cX8_days 122 = .ok (.iadd, 1) := by decide +kernel
theorem dX8_days_123 : decode cX8_days 123 = .ok (.istore_n 2, 1) := by decide +kernel
theorem dX8_days_124 : decode cX8_days 124 = .ok (.iinc 3 1, 3) := by decide +kernel
theorem dX8_days_127 : decode cX8_days 127 = .ok (.goto (-98), 3) := by decide +kernel
theorem dX8_days_130 : decode cX8_days 130 = .ok (.iload_n 2, 1) := by decide +kernel
theorem dX8_days_131 : decode cX8_days 131 = .ok (.ireturn, 1) := by decide +kernel
theorem dX8_dog_0 : decode cX8_dog 0 = .ok (.aload_n 0, 1) := by decide +kernel
theorem dX8_dog_1 : decode cX8_dog 1 = .ok (.getfield 27, 3) := by decide +kernel
theorem dX8_dog_4 : decode cX8_dog 4 = .ok (.iload_n 1, 1) := by decide +kernel
theorem dX8_dog_5 : decode cX8_dog 5 = .ok (.invokevirtual 120, 3) := by decide +kernel
theorem dX8_dog_8 : decode cX8_dog 8 = .ok (.ifCond .ne 5, 3) := by decide +kernel
theorem dX8_dog_11 : decode cX8_dog 11 = .ok (.iconst (-1), 1) := by decide +kernel
theorem dX8_dog_12 : decode cX8_dog 12 = .ok (.ireturn, 1) := by decide +kernel
theorem dX8_dog_13 : decode cX8_dog 13 = .ok (.iload_n 2, 1) := by decide +kernel
theorem dX8_dog_14 : decode cX8_dog 14 = .ok (.tableswitch 101 0 5 #[38, 48, 58, 68, 81, 91], 38) := by decide +kernel
theorem dX8_dog_52 : decode cX8_dog 52 = .ok (.aload_n 0, 1) := by decide +kernel
theorem dX8_dog_53 : decode cX8_dog 53 = .ok (.getfield 34, 3) := by decide +kernel
theorem dX8_dog_56 : decode cX8_dog 56 = .ok (.getfield 124, 3) := by decide +kernel
theorem dX8_dog_59 : decode cX8_dog 59 = .ok (.iload_n 1, 1) := by decide +kernel
theorem dX8_dog_60 : decode cX8_dog 60 = .ok (.iaload, 1) := by decide +kernel
theorem dX8_dog_61 : decode cX8_dog 61 = .ok (.ireturn, 1) := by decide +kernel
theorem dX8_dog_62 : decode cX8_dog 62 = .ok (.aload_n 0, 1) := by decide +kernel
theorem dX8_dog_63 : decode cX8_dog 63 = .ok (.getfield 27, 3) := by decide +kernel
theorem dX8_dog_66 : decode cX8_dog 66 = .ok (.getfield 127, 3) := by decide +kernel
theorem dX8_dog_69 : decode cX8_dog 69 = .ok (.iload_n 1, 1) := by decide +kernel
theorem dX8_dog_70 : decode cX8_dog 70 = .ok (.iaload, 1) := by decide +kernel
theorem dX8_dog_71 : decode cX8_dog 71 = .ok (.ireturn, 1) := by decide +kernel
theorem dX8_dog_72 : decode cX8_dog 72 = .ok (.aload_n 0, 1) := by decide +kernel
theorem dX8_dog_73 : decode cX8_dog 73 = .ok (.getfield 27, 3) := by decide +kernel
theorem dX8_dog_76 : decode cX8_dog 76 = .ok (.getfield 130, 3) := by decide +kernel
theorem dX8_dog_79 : decode cX8_dog 79 = .ok (.iload_n 1, 1) := by decide +kernel
theorem dX8_dog_80 : decode cX8_dog 80 = .ok (.iaload, 1) := by decide +kernel
theorem dX8_dog_81 : decode cX8_dog 81 = .ok (.ireturn, 1) := by decide +kernel
theorem dX8_dog_82 : decode cX8_dog 82 = .ok (.aload_n 0, 1) := by decide +kernel
theorem dX8_dog_83 : decode cX8_dog 83 = .ok (.getfield 34, 3) := by decide +kernel
theorem dX8_dog_86 : decode cX8_dog 86 = .ok (.aload_n 0, 1) := by decide +kernel
theorem dX8_dog_87 : decode cX8_dog 87 = .ok (.getfield 27, 3) := by decide +kernel
theorem dX8_dog_90 : decode cX8_dog 90 = .ok (.iload_n 1, 1) := by decide +kernel
theorem dX8_dog_91 : decode cX8_dog 91 = .ok (.invokevirtual 133, 3) := by decide +kernel
theorem dX8_dog_94 : decode cX8_dog 94 = .ok (.ireturn, 1) := by decide +kernel
theorem dX8_dog_95 : decode cX8_dog 95 = .ok (.aload_n 0, 1) := by decide +kernel
theorem dX8_dog_96 : decode cX8_dog 96 = .ok (.getfield 34, 3) := by decide +kernel
theorem dX8_dog_99 : decode cX8_dog 99 = .ok (.getfield 137, 3) := by decide +kernel
theorem dX8_dog_102 : decode cX8_dog 102 = .ok (.iload_n 1, 1) := by decide +kernel
theorem dX8_dog_103 : decode cX8_dog 103 = .ok (.iaload, 1) := by decide +kernel
theorem dX8_dog_104 : decode cX8_dog 104 = .ok (.ireturn, 1) := by decide +kernel
theorem dX8_dog_105 : decode cX8_dog 105 = .ok (.aload_n 0, 1) := by decide +kernel
theorem dX8_dog_106 : decode cX8_dog 106 = .ok (.getfield 27, 3) := by decide +kernel
theorem dX8_dog_109 : decode cX8_dog 109 = .ok (.getfield 140, 3) := by decide +kernel
theorem dX8_dog_112 : decode cX8_dog 112 = .ok (.iload_n 1, 1) := by decide +kernel
theorem dX8_dog_113 : decode cX8_dog 113 = .ok (.iaload, 1) := by decide +kernel
theorem dX8_dog_114 : decode cX8_dog 114 = .ok (.ireturn, 1) := by decide +kernel
theorem dX8_dog_115 : decode cX8_dog 115 = .ok (.bipush (-2), 2) := by decide +kernel
theorem dX8_dog_117 : decode cX8_dog 117 = .ok (.ireturn, 1) := by decide +kernel
theorem dX8_fault_0 : decode cX8_fault 0 = .ok (.aload_n 0, 1) := by decide +kernel
theorem dX8_fault_1 : decode cX8_fault 1 = .ok (.getfield 20, 3) := by decide +kernel
theorem dX8_fault_4 : decode cX8_fault 4 = .ok (.aload_n 0, 1) := by decide +kernel
theorem dX8_fault_5 : decode cX8_fault 5 = .ok (.getfield 9, 3) := by decide +kernel
theorem dX8_fault_8 : decode cX8_fault 8 = .ok (.aload_n 0, 1) := by decide +kernel
theorem dX8_fault_9 : decode cX8_fault 9 = .ok (.getfield 13, 3) := by decide +kernel
theorem dX8_fault_12 : decode cX8_fault 12 = .ok (.invokevirtual 73, 3) := by decide +kernel
theorem dX8_fault_15 : decode cX8_fault 15 = .ok (.ireturn, 1) := by decide +kernel
theorem dX8_give_0 : decode cX8_give 0 = .ok (.aload_n 0, 1) := by decide +kernel
theorem dX8_give_1 : decode cX8_give 1 = .ok (.getfield 27, 3) := by decide +kernel
theorem dX8_give_4 : decode cX8_give 4 = .ok (.iload_n 1, 1) := by decide +kernel
theorem dX8_give_5 : decode cX8_give 5 = .ok (.invokevirtual 143, 3) := by decide +kernel
theorem dX8_give_8 : decode cX8_give 8 = .ok (.ifCond .eq 14, 3) := by decide +kernel
theorem dX8_give_11 : decode cX8_give 11 = .ok (.aload_n 0, 1) := by decide +kernel
theorem dX8_give_12 : decode cX8_give 12 = .ok (.getfield 27, 3) := by decide +kernel
theorem dX8_give_15 : decode cX8_give 15 = .ok (.iload_n 2, 1) := by decide +kernel
theorem dX8_give_16 : decode cX8_give 16 = .ok (.invokevirtual 120, 3) := by decide +kernel
theorem dX8_give_19 : decode cX8_give 19 = .ok (.ifCond .ne 5, 3) := by decide +kernel
theorem dX8_give_22 : decode cX8_give 22 = .ok (.iconst (-1), 1) := by decide +kernel
theorem dX8_give_23 : decode cX8_give 23 = .ok (.ireturn, 1) := by decide +kernel
theorem dX8_give_24 : decode cX8_give 24 = .ok (.aload_n 0, 1) := by decide +kernel
theorem dX8_give_25 : decode cX8_give 25 = .ok (.getfield 34, 3) := by decide +kernel
theorem dX8_give_28 : decode cX8_give 28 = .ok (.getfield 146, 3) := by decide +kernel
theorem dX8_give_31 : decode cX8_give 31 = .ok (.iload_n 1, 1) := by decide +kernel
theorem dX8_give_32 : decode cX8_give 32 = .ok (.iaload, 1) := by decide +kernel
theorem dX8_give_33 : decode cX8_give 33 = .ok (.istore_n 3, 1) := by decide +kernel
theorem dX8_give_34 : decode cX8_give 34 = .ok (.aload_n 0, 1) := by decide +kernel
theorem dX8_give_35 : decode cX8_give 35 = .ok (.getfield 34, 3) := by decide +kernel
theorem dX8_give_38 : decode cX8_give 38 = .ok (.iload_n 1, 1) := by decide +kernel
theorem dX8_give_39 : decode cX8_give 39 = .ok (.invokevirtual 168, 3) := by decide +kernel
theorem dX8_give_42 : decode cX8_give 42 = .ok (.ifCond .ne 29, 3) := by decide +kernel
theorem dX8_give_45 : decode cX8_give 45 = .ok (.iload_n 3, 1) := by decide +kernel
theorem dX8_give_46 : decode cX8_give 46 = .ok (.iload_n 2, 1) := by decide +kernel
theorem dX8_give_47 : decode cX8_give 47 = .ok (.if_icmp .eq 24, 3) := by decide +kernel
theorem dX8_give_50 : decode cX8_give 50 = .ok (.aload_n 0, 1) := by decide +kernel
theorem dX8_give_51 : decode cX8_give 51 = .ok (.getfield 34, 3) := by decide +kernel
theorem dX8_give_54 : decode cX8_give 54 = .ok (.getfield 149, 3) := by decide +kernel
theorem dX8_give_57 : decode cX8_give 57 = .ok (.iload_n 1, 1) := by decide +kernel
theorem dX8_give_58 : decode cX8_give 58 = .ok (.iaload, 1) := by decide +kernel
theorem dX8_give_59 : decode cX8_give 59 = .ok (.aload_n 0, 1) := by decide +kernel
theorem dX8_give_60 : decode cX8_give 60 = .ok (.getfield 34, 3) := by decide +kernel
theorem dX8_give_63 : decode cX8_give 63 = .ok (.getfield 124, 3) := by decide +kernel
theorem dX8_give_66 : decode cX8_give 66 = .ok (.iload_n 2, 1) := by decide +kernel
theorem dX8_give_67 : decode cX8_give 67 = .ok (.iaload, 1) := by decide +kernel
theorem dX8_give_68 : decode cX8_give 68 = .ok (.if_icmp .eq 6, 3) := by decide +kernel
theorem dX8_give_71 : decode cX8_give 71 = .ok (.bipush (-3), 2) := by decide +kernel
theorem dX8_give_73 : decode cX8_give 73 = .ok (.ireturn, 1) := by decide +kernel
theorem dX8_give_74 : decode cX8_give 74 = .ok (.aload_n 0, 1) := by decide +kernel
theorem dX8_give_75 : decode cX8_give 75 = .ok (.getfield 34, 3) := by decide +kernel
theorem dX8_give_78 : decode cX8_give 78 = .ok (.aload_n 0, 1) := by decide +kernel
theorem dX8_give_79 : decode cX8_give 79 = .ok (.getfield 27, 3) := by decide +kernel
theorem dX8_give_82 : decode cX8_give 82 = .ok (.iload_n 2, 1) := by decide +kernel
theorem dX8_give_83 : decode cX8_give 83 = .ok (.invokevirtual 171, 3) := by decide +kernel
theorem dX8_give_86 : decode cX8_give 86 = .ok (.ifCond .ne 6, 3) := by decide +kernel
theorem dX8_give_89 : decode cX8_give 89 = .ok (.bipush (-4), 2) := by decide +kernel
theorem dX8_give_91 : decode cX8_give 91 = .ok (.ireturn, 1) := by decide +kernel
theorem dX8_give_92 : decode cX8_give 92 = .ok (.aload_n 0, 1) := by decide +kernel
theorem dX8_give_93 : decode cX8_give 93 = .ok (.getfield 44, 3) := by decide +kernel
theorem dX8_give_96 : decode cX8_give 96 = .ok (.aload_n 0, 1) := by decide +kernel
theorem dX8_give_97 : decode cX8_give 97 = .ok (.getfield 34, 3) := by decide +kernel
theorem dX8_give_100 : decode cX8_give 100 = .ok (.invokevirtual 161, 3) := by decide +kernel
theorem dX8_give_103 : decode cX8_give 103 = .ok (.aload_n 0, 1) := by decide +kernel
theorem dX8_give_104 : decode cX8_give 104 = .ok (.getfield 34, 3) := by decide +kernel
theorem dX8_give_107 : decode cX8_give 107 = .ok (.getfield 146, 3) := by decide +kernel
theorem dX8_give_110 : decode cX8_give 110 = .ok (.iload_n 1, 1) := by decide +kernel
theorem dX8_give_111 : decode cX8_give 111 = .ok (.iload_n 2, 1) := by decide +kernel
theorem dX8_give_112 : decode cX8_give 112 = .ok (.iastore, 1) := by decide +kernel
theorem dX8_give_113 : decode cX8_give 113 = .ok (.iload_n 3, 1) := by decide +kernel
theorem dX8_give_114 : decode cX8_give 114 = .ok (.ireturn, 1) := by decide +kernel
theorem dX8_heir_0 : decode cX8_heir 0 = .ok (.aload_n 0, 1) := by decide +kernel
theorem dX8_heir_1 : decode cX8_heir 1 = .ok (.getfield 27, 3) := by decide +kernel
theorem dX8_heir_4 : decode cX8_heir 4 = .ok (.iload_n 1, 1) := by decide +kernel
theorem dX8_heir_5 : decode cX8_heir 5 = .ok (.invokevirtual 120, 3) := by decide +kernel
theorem dX8_heir_8 : decode cX8_heir 8 = .ok (.ifCond .ne 5, 3) := by decide +kernel
theorem dX8_heir_11 : decode cX8_heir 11 = .ok (.iconst (-1), 1) := by decide +kernel
theorem dX8_heir_12 : decode cX8_heir 12 = .ok (.ireturn, 1) := by decide +kernel
theorem dX8_heir_13 : decode cX8_heir 13 = .ok (.bipush (-9), 2) := by decide +kernel
theorem dX8_heir_15 : decode cX8_heir 15 = .ok (.istore_n 2, 1) := by decide +kernel
theorem dX8_heir_16 : decode cX8_heir 16 = .ok (.iconst 0, 1) := by decide +kernel
theorem dX8_heir_17 : decode cX8_heir 17 = .ok (.istore_n 3, 1) := by decide +kernel
theorem dX8_heir_18 : decode cX8_heir 18 = .ok (.iload_n 3, 1) := by decide +kernel
theorem dX8_heir_19 : decode cX8_heir 19 = .ok (.aload_n 0, 1) := by decide +kernel
theorem dX8_heir_20 : decode cX8_heir 20 = .ok (.getfield 27, 3) := by decide +kernel
theorem dX8_heir_23 : decode cX8_heir 23 = .ok (.getfield 90, 3) := by decide +kernel
theorem dX8_heir_26 : decode cX8_heir 26 = .ok (.if_icmp .ge 43, 3) := by decide +kernel
theorem dX8_heir_29 : decode cX8_heir 29 = .ok (.iload_n 3, 1) := by decide +kernel
theorem dX8_heir_30 : decode cX8_heir 30 = .ok (.iload_n 1, 1) := by decide +kernel
theorem dX8_heir_31 : decode cX8_heir 31 = .ok (.if_icmp .eq 32, 3) := by decide +kernel
theorem dX8_heir_34 : decode cX8_heir 34 = .ok (.aload_n 0, 1) := by decide +kernel
theorem dX8_heir_35 : decode cX8_heir 35 = .ok (.getfield 27, 3) := by decide +kernel
theorem dX8_heir_38 : decode cX8_heir 38 = .ok (.iload_n 1, 1) := by decide +kernel
theorem dX8_heir_39 : decode cX8_heir 39 = .ok (.iload_n 3, 1) := by decide +kernel
theorem dX8_heir_40 : decode cX8_heir 40 = .ok (.invokevirtual 207, 3) := by decide +kernel
theorem dX8_heir_43 : decode cX8_heir 43 = .ok (.bipush (-9), 2) := by decide +kernel
theorem dX8_heir_45 : decode cX8_heir 45 = .ok (.if_icmp .eq 18, 3) := by decide +kernel
theorem dX8_heir_48 : decode cX8_heir 48 = .ok (.aload_n 0, 1) := by decide +kernel
theorem dX8_heir_49 : decode cX8_heir 49 = .ok (.getfield 27, 3) := by decide +kernel
theorem dX8_heir_52 : decode cX8_heir 52 = .ok (.iload_n 1, 1) := by decide +kernel
theorem dX8_heir_53 : decode cX8_heir 53 = .ok (.iload_n 3, 1) := by decide +kernel
theorem dX8_heir_54 : decode cX8_heir 54 = .ok (.iload_n 2, 1) := by decide +kernel
theorem dX8_heir_55 : decode cX8_heir 55 = .ok (.invokevirtual 210, 3) := by decide +kernel
theorem dX8_heir_58 : decode cX8_heir 58 = .ok (.ifCond .eq 5, 3) := by decide +kernel
theorem dX8_heir_61 : decode cX8_heir 61 = .ok (.iload_n 3, 1) := by decide +kernel
theorem dX8_heir_62 : decode cX8_heir 62 = .ok (.istore_n 2, 1) := by decide +kernel
theorem dX8_heir_63 : decode cX8_heir 63 = .ok (.iinc 3 1, 3) := by decide +kernel
theorem dX8_heir_66 : decode cX8_heir 66 = .ok (.goto (-48), 3) := by decide +kernel
theorem dX8_heir_69 : decode cX8_heir 69 = .ok (.iload_n 2, 1) := by decide +kernel
theorem dX8_heir_70 : decode cX8_heir 70 = .ok (.ireturn, 1) := by decide +kernel
theorem dX8_hour_0 : decode cX8_hour 0 = .ok (.aload_n 0, 1) := by decide +kernel
theorem dX8_hour_1 : decode cX8_hour 1 = .ok (.getfield 44, 3) := by decide +kernel
theorem dX8_hour_4 : decode cX8_hour 4 = .ok (.aload_n 0, 1) := by decide +kernel
theorem dX8_hour_5 : decode cX8_hour 5 = .ok (.getfield 34, 3) := by decide +kernel
theorem dX8_hour_8 : decode cX8_hour 8 = .ok (.invokevirtual 161, 3) := by decide +kernel
theorem dX8_hour_11 : decode cX8_hour 11 = .ok (.aload_n 0, 1) := by decide +kernel
theorem dX8_hour_12 : decode cX8_hour 12 = .ok (.getfield 34, 3) := by decide +kernel
theorem dX8_hour_15 : decode cX8_hour 15 = .ok (.aload_n 0, 1) := by decide +kernel
theorem dX8_hour_16 : decode cX8_hour 16 = .ok (.getfield 27, 3) := by decide +kernel
theorem dX8_hour_19 : decode cX8_hour 19 = .ok (.aload_n 0, 1) := by decide +kernel
theorem dX8_hour_20 : decode cX8_hour 20 = .ok (.getfield 27, 3) := by decide +kernel
theorem dX8_hour_23 : decode cX8_hour 23 = .ok (.getfield 96, 3) := by decide +kernel
theorem dX8_hour_26 : decode cX8_hour 26 = .ok (.iconst 0, 1) := by decide +kernel
theorem dX8_hour_27 : decode cX8_hour 27 = .ok (.invokevirtual 175, 3) := by decide +kernel
theorem dX8_hour_30 : decode cX8_hour 30 = .ok (.ireturn, 1) := by decide +kernel
theorem dX8_init_0 : decode cX8_init 0 = .ok (.aload_n 0, 1) := by decide +kernel
theorem dX8_init_1 : decode cX8_init 1 = .ok (.invokespecial 1, 3) := by decide +kernel
theorem dX8_init_4 : decode cX8_init 4 = .ok (.aload_n 0, 1) := by decide +kernel
theorem dX8_init_5 : decode cX8_init 5 = .ok (.bipush 60, 2) := by decide +kernel
theorem dX8_init_7 : decode cX8_init 7 = .ok (.newarray .int, 2) := by decide +kernel
theorem dX8_init_9 : decode cX8_init 9 = .ok (.putfield 9, 3) := by decide +kernel
theorem dX8_init_12 : decode cX8_init 12 = .ok (.aload_n 0, 1) := by decide +kernel
theorem dX8_init_13 : decode cX8_init 13 = .ok (.iconst 0, 1) := by decide +kernel
theorem dX8_init_14 : decode cX8_init 14 = .ok (.putfield 13, 3) := by decide +kernel
theorem dX8_init_17 : decode cX8_init 17 = .ok (.aload_n 0, 1) := by decide +kernel
theorem dX8_init_18 : decode cX8_init 18 = .ok (.new 17, 3) := by decide +kernel
theorem dX8_init_21 : decode cX8_init 21 = .ok (.dup, 1) := by decide +kernel
theorem dX8_init_22 : decode cX8_init 22 = .ok (.invokespecial 19, 3) := by decide +kernel
theorem dX8_init_25 : decode cX8_init 25 = .ok (.putfield 20, 3) := by decide +kernel
theorem dX8_init_28 : decode cX8_init 28 = .ok (.aload_n 0, 1) := by decide +kernel
theorem dX8_init_29 : decode cX8_init 29 = .ok (.new 24, 3) := by decide +kernel
theorem dX8_init_32 : decode cX8_init 32 = .ok (.dup, 1) := by decide +kernel
theorem dX8_init_33 : decode cX8_init 33 = .ok (.invokespecial 26, 3) := by decide +kernel
theorem dX8_init_36 : decode cX8_init 36 = .ok (.putfield 27, 3) := by decide +kernel
theorem dX8_init_39 : decode cX8_init 39 = .ok (.aload_n 0, 1) := by decide +kernel
theorem dX8_init_40 : decode cX8_init 40 = .ok (.new 31, 3) := by decide +kernel
theorem dX8_init_43 : decode cX8_init 43 = .ok (.dup, 1) := by decide +kernel
theorem dX8_init_44 : decode cX8_init 44 = .ok (.invokespecial 33, 3) := by decide +kernel
theorem dX8_init_47 : decode cX8_init 47 = .ok (.putfield 34, 3) := by decide +kernel
theorem dX8_init_50 : decode cX8_init 50 = .ok (.aload_n 0, 1) := by decide +kernel
theorem dX8_init_51 : decode cX8_init 51 = .ok (.new 31, 3) := by decide +kernel
theorem dX8_init_54 : decode cX8_init 54 = .ok (.dup, 1) := by decide +kernel
theorem dX8_init_55 : decode cX8_init 55 = .ok (.invokespecial 33, 3) := by decide +kernel
theorem dX8_init_58 : decode cX8_init 58 = .ok (.putfield 38, 3) := by decide +kernel
theorem dX8_init_61 : decode cX8_init 61 = .ok (.aload_n 0, 1) := by decide +kernel
theorem dX8_init_62 : decode cX8_init 62 = .ok (.new 41, 3) := by decide +kernel
theorem dX8_init_65 : decode cX8_init 65 = .ok (.dup, 1) := by decide +kernel
theorem dX8_init_66 : decode cX8_init 66 = .ok (.invokespecial 43, 3) := by decide +kernel
theorem dX8_init_69 : decode cX8_init 69 = .ok (.putfield 44, 3) := by decide +kernel
theorem dX8_init_72 : decode cX8_init 72 = .ok (.aload_n 0, 1) := by decide +kernel
theorem dX8_init_73 : decode cX8_init 73 = .ok (.new 48, 3) := by decide +kernel
theorem dX8_init_76 : decode cX8_init 76 = .ok (.dup, 1) := by decide +kernel
theorem dX8_init_77 : decode cX8_init 77 = .ok (.invokespecial 50, 3) := by decide +kernel
theorem dX8_init_80 : decode cX8_init 80 = .ok (.putfield 51, 3) := by decide +kernel
theorem dX8_init_83 : decode cX8_init 83 = .ok (.aload_n 0, 1) := by decide +kernel
theorem dX8_init_84 : decode cX8_init 84 = .ok (.new 55, 3) := by decide +kernel
theorem dX8_init_87 : decode cX8_init 87 = .ok (.dup, 1) := by decide +kernel
theorem dX8_init_88 : decode cX8_init 88 = .ok (.invokespecial 57, 3) := by decide +kernel
theorem dX8_init_91 : decode cX8_init 91 = .ok (.putfield 58, 3) := by decide +kernel
theorem dX8_init_94 : decode cX8_init 94 = .ok (.aload_n 0, 1) := by decide +kernel
theorem dX8_init_95 : decode cX8_init 95 = .ok (.new 62, 3) := by decide +kernel
theorem dX8_init_98 : decode cX8_init 98 = .ok (.dup, 1) := by decide +kernel
theorem dX8_init_99 : decode cX8_init 99 = .ok (.invokespecial 64, 3) := by decide +kernel
theorem dX8_init_102 : decode cX8_init 102 = .ok (.putfield 65, 3) := by decide +kernel
theorem dX8_init_105 : decode cX8_init 105 = .ok (.aload_n 0, 1) := by decide +kernel
theorem dX8_init_106 : decode cX8_init 106 = .ok (.lconst 0, 1) := by decide +kernel
theorem dX8_init_107 : decode cX8_init 107 = .ok (.putfield 69, 3) := by decide +kernel
theorem dX8_init_110 : decode cX8_init 110 = .ok (.return_, 1) := by decide +kernel
theorem dX8_keep_0 : decode cX8_keep 0 = .ok (.iload_n 1, 1) := by decide +kernel
theorem dX8_keep_1 : decode cX8_keep 1 = .ok (.ifCond .lt 8, 3) := by decide +kernel
theorem dX8_keep_4 : decode cX8_keep 4 = .ok (.iload_n 1, 1) := by decide +kernel
theorem dX8_keep_5 : decode cX8_keep 5 = .ok (.iconst 2, 1) := by decide +kernel
theorem dX8_keep_6 : decode cX8_keep 6 = .ok (.if_icmp .lt 5, 3) := by decide +kernel
theorem dX8_keep_9 : decode cX8_keep 9 = .ok (.iconst (-1), 1) := by decide +kernel
theorem dX8_keep_10 : decode cX8_keep 10 = .ok (.ireturn, 1) := by decide +kernel
theorem dX8_keep_11 : decode cX8_keep 11 = .ok (.aload_n 0, 1) := by decide +kernel
theorem dX8_keep_12 : decode cX8_keep 12 = .ok (.getfield 51, 3) := by decide +kernel
theorem dX8_keep_15 : decode cX8_keep 15 = .ok (.iload_n 1, 1) := by decide +kernel
theorem dX8_keep_16 : decode cX8_keep 16 = .ok (.aload_n 0, 1) := by decide +kernel
theorem dX8_keep_17 : decode cX8_keep 17 = .ok (.getfield 34, 3) := by decide +kernel
theorem dX8_keep_20 : decode cX8_keep 20 = .ok (.invokevirtual 244, 3) := by decide +kernel
theorem dX8_keep_23 : decode cX8_keep 23 = .ok (.aload_n 0, 1) := by decide +kernel
theorem dX8_keep_24 : decode cX8_keep 24 = .ok (.getfield 34, 3) := by decide +kernel
theorem dX8_keep_27 : decode cX8_keep 27 = .ok (.getfield 99, 3) := by decide +kernel
theorem dX8_keep_30 : decode cX8_keep 30 = .ok (.ireturn, 1) := by decide +kernel
theorem dX8_lead_0 : decode cX8_lead 0 = .ok (.aload_n 0, 1) := by decide +kernel
theorem dX8_lead_1 : decode cX8_lead 1 = .ok (.getfield 27, 3) := by decide +kernel
theorem dX8_lead_4 : decode cX8_lead 4 = .ok (.iload_n 1, 1) := by decide +kernel
theorem dX8_lead_5 : decode cX8_lead 5 = .ok (.invokevirtual 120, 3) := by decide +kernel
theorem dX8_lead_8 : decode cX8_lead 8 = .ok (.ifCond .ne 5, 3) := by decide +kernel
theorem dX8_lead_11 : decode cX8_lead 11 = .ok (.iconst (-1), 1) := by decide +kernel
theorem dX8_lead_12 : decode cX8_lead 12 = .ok (.ireturn, 1) := by decide +kernel
theorem dX8_lead_13 : decode cX8_lead 13 = .ok (.iload_n 2, 1) := by decide +kernel
theorem dX8_lead_14 : decode cX8_lead 14 = .ok (.iconst 1, 1) := by decide +kernel
theorem dX8_lead_15 : decode cX8_lead 15 = .ok (.if_icmp .eq 11, 3) := by decide +kernel
theorem dX8_lead_18 : decode cX8_lead 18 = .ok (.iload_n 2, 1) := by decide +kernel
theorem dX8_lead_19 : decode cX8_lead 19 = .ok (.iconst 2, 1) := by decide +kernel
theorem dX8_lead_20 : decode cX8_lead 20 = .ok (.if_icmp .eq 6, 3) := by decide +kernel
theorem dX8_lead_23 : decode cX8_lead 23 = .ok (.bipush (-2), 2) := by decide +kernel
theorem dX8_lead_25 : decode cX8_lead 25 = .ok (.ireturn, 1) := by decide +kernel
theorem dX8_lead_26 : decode cX8_lead 26 = .ok (.aload_n 0, 1) := by decide +kernel
theorem dX8_lead_27 : decode cX8_lead 27 = .ok (.getfield 44, 3) := by decide +kernel
theorem dX8_lead_30 : decode cX8_lead 30 = .ok (.aload_n 0, 1) := by decide +kernel
theorem dX8_lead_31 : decode cX8_lead 31 = .ok (.getfield 34, 3) := by decide +kernel
theorem dX8_lead_34 : decode cX8_lead 34 = .ok (.invokevirtual 161, 3) := by decide +kernel
theorem dX8_lead_37 : decode cX8_lead 37 = .ok (.aload_n 0, 1) := by decide +kernel
theorem dX8_lead_38 : decode cX8_lead 38 = .ok (.getfield 34, 3) := by decide +kernel
theorem dX8_lead_41 : decode cX8_lead 41 = .ok (.aload_n 0, 1) := by decide +kernel
theorem dX8_lead_42 : decode cX8_lead 42 = .ok (.getfield 27, 3) := by decide +kernel
theorem dX8_lead_45 : decode cX8_lead 45 = .ok (.iload_n 1, 1) := by decide +kernel
theorem dX8_lead_46 : decode cX8_lead 46 = .ok (.iload_n 2, 1) := by decide +kernel
theorem dX8_lead_47 : decode cX8_lead 47 = .ok (.invokevirtual 164, 3) := by decide +kernel
theorem dX8_lead_50 : decode cX8_lead 50 = .ok (.aload_n 0, 1) := by decide +kernel
theorem dX8_lead_51 : decode cX8_lead 51 = .ok (.getfield 34, 3) := by decide +kernel
theorem dX8_lead_54 : decode cX8_lead 54 = .ok (.getfield 124, 3) := by decide +kernel
theorem dX8_lead_57 : decode cX8_lead 57 = .ok (.iload_n 1, 1) := by decide +kernel
theorem dX8_lead_58 : decode cX8_lead 58 = .ok (.iaload, 1) := by decide +kernel
theorem dX8_lead_59 : decode cX8_lead 59 = .ok (.ireturn, 1) := by decide +kernel
theorem dX8_leash_0 : decode cX8_leash 0 = .ok (.aload_n 0, 1) := by decide +kernel
theorem dX8_leash_1 : decode cX8_leash 1 = .ok (.getfield 27, 3) := by decide +kernel
theorem dX8_leash_4 : decode cX8_leash 4 = .ok (.iload_n 1, 1) := by decide +kernel
theorem dX8_leash_5 : decode cX8_leash 5 = .ok (.invokevirtual 143, 3) := by decide +kernel
theorem dX8_leash_8 : decode cX8_leash 8 = .ok (.ifCond .ne 5, 3) := by decide +kernel
theorem dX8_leash_11 : decode cX8_leash 11 = .ok (.iconst (-1), 1) := by decide +kernel
theorem dX8_leash_12 : decode cX8_leash 12 = .ok (.ireturn, 1) := by decide +kernel
theorem dX8_leash_13 : decode cX8_leash 13 = .ok (.aload_n 0, 1) := by decide +kernel
theorem dX8_leash_14 : decode cX8_leash 14 = .ok (.getfield 34, 3) := by decide +kernel
theorem dX8_leash_17 : decode cX8_leash 17 = .ok (.getfield 146, 3) := by decide +kernel
theorem dX8_leash_20 : decode cX8_leash 20 = .ok (.iload_n 1, 1) := by decide +kernel
theorem dX8_leash_21 : decode cX8_leash 21 = .ok (.iaload, 1) := by decide +kernel
theorem dX8_leash_22 : decode cX8_leash 22 = .ok (.bipush (-9), 2) := by decide +kernel
theorem dX8_leash_24 : decode cX8_leash 24 = .ok (.if_icmp .eq 14, 3) := by decide +kernel
theorem dX8_leash_27 : decode cX8_leash 27 = .ok (.aload_n 0, 1) := by decide +kernel
theorem dX8_leash_28 : decode cX8_leash 28 = .ok (.getfield 34, 3) := by decide +kernel
theorem dX8_leash_31 : decode cX8_leash 31 = .ok (.iload_n 1, 1) := by decide +kernel
theorem dX8_leash_32 : decode cX8_leash 32 = .ok (.invokevirtual 168, 3) := by decide +kernel
theorem dX8_leash_35 : decode cX8_leash 35 = .ok (.ifCond .eq 6, 3) := by decide +kernel
theorem dX8_leash_38 : decode cX8_leash 38 = .ok (.bipush (-3), 2) := by decide +kernel
theorem dX8_leash_40 : decode cX8_leash 40 = .ok (.ireturn, 1) := by decide +kernel
theorem dX8_leash_41 : decode cX8_leash 41 = .ok (.aload_n 0, 1) := by decide +kernel
theorem dX8_leash_42 : decode cX8_leash 42 = .ok (.getfield 44, 3) := by decide +kernel
theorem dX8_leash_45 : decode cX8_leash 45 = .ok (.aload_n 0, 1) := by decide +kernel
theorem dX8_leash_46 : decode cX8_leash 46 = .ok (.getfield 34, 3) := by decide +kernel
theorem dX8_leash_49 : decode cX8_leash 49 = .ok (.invokevirtual 161, 3) := by decide +kernel
theorem dX8_leash_52 : decode cX8_leash 52 = .ok (.aload_n 0, 1) := by decide +kernel
theorem dX8_leash_53 : decode cX8_leash 53 = .ok (.getfield 34, 3) := by decide +kernel
theorem dX8_leash_56 : decode cX8_leash 56 = .ok (.dup, 1) := by decide +kernel
theorem dX8_leash_57 : decode cX8_leash 57 = .ok (.getfield 106, 3) := by decide +kernel
theorem dX8_leash_60 : decode cX8_leash 60 = .ok (.iconst 1, 1) := by decide +kernel
theorem dX8_leash_61 : decode cX8_leash 61 = .ok (.iload_n 1, 1) := by decide +kernel
theorem dX8_leash_62 : decode cX8_leash 62 = .ok (.ishl, 1) := by decide +kernel
theorem dX8_leash_63 : decode cX8_leash 63 = .ok (.ixor, 1) := by decide +kernel
theorem dX8_leash_64 : decode cX8_leash 64 = .ok (.putfield 106, 3) := by decide +kernel
theorem dX8_leash_67 : decode cX8_leash 67 = .ok (.aload_n 0, 1) := by decide +kernel
theorem dX8_leash_68 : decode cX8_leash 68 = .ok (.getfield 34, 3) := by decide +kernel
theorem dX8_leash_71 : decode cX8_leash 71 = .ok (.iload_n 1, 1) := by decide +kernel
theorem dX8_leash_72 : decode cX8_leash 72 = .ok (.invokevirtual 155, 3) := by decide +kernel
theorem dX8_leash_75 : decode cX8_leash 75 = .ok (.ifCond .eq 7, 3) := by decide +kernel
theorem dX8_leash_78 : decode cX8_leash 78 = .ok (.iconst 1, 1) := by decide +kernel
theorem dX8_leash_79 : decode cX8_leash 79 = .ok (.goto 4, 3) := by decide +kernel
theorem dX8_leash_82 : decode cX8_leash 82 = .ok (.iconst 0, 1) := by decide +kernel
theorem dX8_leash_83 : decode cX8_leash 83 = .ok (.ireturn, 1) := by decide +kernel
theorem dX8_man_0 : decode cX8_man 0 = .ok (.aload_n 0, 1) := by decide +kernel
theorem dX8_man_1 : decode cX8_man 1 = .ok (.getfield 27, 3) := by decide +kernel
theorem dX8_man_4 : decode cX8_man 4 = .ok (.iload_n 1, 1) := by decide +kernel
theorem dX8_man_5 : decode cX8_man 5 = .ok (.invokevirtual 143, 3) := by decide +kernel
theorem dX8_man_8 : decode cX8_man 8 = .ok (.ifCond .ne 5, 3) := by decide +kernel
theorem dX8_man_11 : decode cX8_man 11 = .ok (.iconst (-1), 1) := by decide +kernel
theorem dX8_man_12 : decode cX8_man 12 = .ok (.ireturn, 1) := by decide +kernel
theorem dX8_man_13 : decode cX8_man 13 = .ok (.iload_n 2, 1) := by decide +kernel
theorem dX8_man_14 : decode cX8_man 14 = .ok (.tableswitch 98 0 4 #[34, 44, 54, 71, 88], 34) := by decide +kernel
theorem dX8_man_48 : decode cX8_man 48 = .ok (.aload_n 0, 1) := by decide +kernel
theorem dX8_man_49 : decode cX8_man 49 = .ok (.getfield 34, 3) := by decide +kernel
theorem dX8_man_52 : decode cX8_man 52 = .ok (.getfield 146, 3) := by decide +kernel
theorem dX8_man_55 : decode cX8_man 55 = .ok (.iload_n 1, 1) := by decide +kernel
theorem dX8_man_56 : decode cX8_man 56 = .ok (.iaload, 1) := by decide +kernel
theorem dX8_man_57 : decode cX8_man 57 = .ok (.ireturn, 1) := by decide +kernel
theorem dX8_man_58 : decode cX8_man 58 = .ok (.aload_n 0, 1) := by decide +kernel
theorem dX8_man_59 : decode cX8_man 59 = .ok (.getfield 34, 3) := by decide +kernel
theorem dX8_man_62 : decode cX8_man 62 = .ok (.getfield 149, 3) := by decide +kernel
theorem dX8_man_65 : decode cX8_man 65 = .ok (.iload_n 1, 1) := by decide +kernel
theorem dX8_man_66 : decode cX8_man 66 = .ok (.iaload, 1) := by decide +kernel
theorem dX8_man_67 : decode cX8_man 67 = .ok (.ireturn, 1) := by decide +kernel
theorem dX8_man_68 : decode cX8_man 68 = .ok (.aload_n 0, 1) := by decide +kernel
theorem dX8_man_69 : decode cX8_man 69 = .ok (.getfield 27, 3) := by decide +kernel
theorem dX8_man_72 : decode cX8_man 72 = .ok (.iload_n 1, 1) := by decide +kernel
theorem dX8_man_73 : decode cX8_man 73 = .ok (.invokevirtual 152, 3) := by decide +kernel
theorem dX8_man_76 : decode cX8_man 76 = .ok (.ifCond .eq 7, 3) := by decide +kernel
theorem dX8_man_79 : decode cX8_man 79 = .ok (.iconst 1, 1) := by decide +kernel
theorem dX8_man_80 : decode cX8_man 80 = .ok (.goto 4, 3) := by decide +kernel
theorem dX8_man_83 : decode cX8_man 83 = .ok (.iconst 0, 1) := by decide +kernel
theorem dX8_man_84 : decode cX8_man 84 = .ok (.ireturn, 1) := by decide +kernel
theorem dX8_man_85 : decode cX8_man 85 = .ok (.aload_n 0, 1) := by decide +kernel
theorem dX8_man_86 : decode cX8_man 86 = .ok (.getfield 34, 3) := by decide +kernel
theorem dX8_man_89 : decode cX8_man 89 = .ok (.iload_n 1, 1) := by decide +kernel
theorem dX8_man_90 : decode cX8_man 90 = .ok (.invokevirtual 155, 3) := by decide +kernel
theorem dX8_man_93 : decode cX8_man 93 = .ok (.ifCond .eq 7, 3) := by decide +kernel
theorem dX8_man_96 : decode cX8_man 96 = .ok (.iconst 1, 1) := by decide +kernel
theorem dX8_man_97 : decode cX8_man 97 = .ok (.goto 4, 3) := by decide +kernel
theorem dX8_man_100 : decode cX8_man 100 = .ok (.iconst 0, 1) := by decide +kernel
theorem dX8_man_101 : decode cX8_man 101 = .ok (.ireturn, 1) := by decide +kernel
theorem dX8_man_102 : decode cX8_man 102 = .ok (.aload_n 0, 1) := by decide +kernel
theorem dX8_man_103 : decode cX8_man 103 = .ok (.getfield 34, 3) := by decide +kernel
theorem dX8_man_106 : decode cX8_man 106 = .ok (.getfield 158, 3) := by decide +kernel
theorem dX8_man_109 : decode cX8_man 109 = .ok (.iload_n 1, 1) := by decide +kernel
theorem dX8_man_110 : decode cX8_man 110 = .ok (.iaload, 1) := by decide +kernel
theorem dX8_man_111 : decode cX8_man 111 = .ok (.ireturn, 1) := by decide +kernel
theorem dX8_man_112 : decode cX8_man 112 = .ok (.bipush (-2), 2) := by decide +kernel
theorem dX8_man_114 : decode cX8_man 114 = .ok (.ireturn, 1) := by decide +kernel
theorem dX8_ordain_0 : decode cX8_ordain 0 = .ok (.aload_n 0, 1) := by decide +kernel
theorem dX8_ordain_1 : decode cX8_ordain 1 = .ok (.getfield 20, 3) := by decide +kernel
theorem dX8_ordain_4 : decode cX8_ordain 4 = .ok (.aload_n 0, 1) := by decide +kernel
theorem dX8_ordain_5 : decode cX8_ordain 5 = .ok (.getfield 9, 3) := by decide +kernel
theorem dX8_ordain_8 : decode cX8_ordain 8 = .ok (.aload_n 0, 1) := by decide +kernel
theorem dX8_ordain_9 : decode cX8_ordain 9 = .ok (.getfield 13, 3) := by decide +kernel
theorem dX8_ordain_12 : decode cX8_ordain 12 = .ok (.invokevirtual 73, 3) := by decide +kernel
theorem dX8_ordain_15 : decode cX8_ordain 15 = .ok (.bipush (-9), 2) := by decide +kernel
theorem dX8_ordain_17 : decode cX8_ordain 17 = .ok (.if_icmp .eq 6, 3) := by decide +kernel
theorem dX8_ordain_20 : decode cX8_ordain 20 = .ok (.bipush (-3), 2) := by decide +kernel
theorem dX8_ordain_22 : decode cX8_ordain 22 = .ok (.ireturn, 1) := by decide +kernel
theorem dX8_ordain_23 : decode cX8_ordain 23 = .ok (.aload_n 0, 1) := by decide +kernel
theorem dX8_ordain_24 : decode cX8_ordain 24 = .ok (.getfield 27, 3) := by decide +kernel
theorem dX8_ordain_27 : decode cX8_ordain 27 = .ok (.aload_n 0, 1) := by decide +kernel
theorem dX8_ordain_28 : decode cX8_ordain 28 = .ok (.getfield 20, 3) := by decide +kernel
theorem dX8_ordain_31 : decode cX8_ordain 31 = .ok (.getfield 77, 3) := by decide +kernel
theorem dX8_ordain_34 : decode cX8_ordain 34 = .ok (.invokevirtual 78, 3) := by decide +kernel
theorem dX8_ordain_37 : decode cX8_ordain 37 = .ok (.aload_n 0, 1) := by decide +kernel
theorem dX8_ordain_38 : decode cX8_ordain 38 = .ok (.getfield 34, 3) := by decide +kernel
theorem dX8_ordain_41 : decode cX8_ordain 41 = .ok (.aload_n 0, 1) := by decide +kernel
theorem dX8_ordain_42 : decode cX8_ordain 42 = .ok (.getfield 20, 3) := by decide +kernel
theorem dX8_ordain_45 : decode cX8_ordain 45 = .ok (.getfield 82, 3) := by decide +kernel
theorem dX8_ordain_48 : decode cX8_ordain 48 = .ok (.invokevirtual 83, 3) := by decide +kernel
theorem dX8_ordain_51 : decode cX8_ordain 51 = .ok (.aload_n 0, 1) := by decide +kernel
theorem dX8_ordain_52 : decode cX8_ordain 52 = .ok (.getfield 44, 3) := by decide +kernel
theorem dX8_ordain_55 : decode cX8_ordain 55 = .ok (.invokevirtual 86, 3) := by decide +kernel
theorem dX8_ordain_58 : decode cX8_ordain 58 = .ok (.aload_n 0, 1) := by decide +kernel
theorem dX8_ordain_59 : decode cX8_ordain 59 = .ok (.getfield 51, 3) := by decide +kernel
theorem dX8_ordain_62 : decode cX8_ordain 62 = .ok (.invokevirtual 89, 3) := by decide +kernel
theorem dX8_ordain_65 : decode cX8_ordain 65 = .ok (.bipush 10, 2) := by decide +kernel
theorem dX8_ordain_67 : decode cX8_ordain 67 = .ok (.aload_n 0, 1) := by decide +kernel
theorem dX8_ordain_68 : decode cX8_ordain 68 = .ok (.getfield 27, 3) := by decide +kernel
theorem dX8_ordain_71 : decode cX8_ordain 71 = .ok (.getfield 90, 3) := by decide +kernel
theorem dX8_ordain_74 : decode cX8_ordain 74 = .ok (.imul, 1) := by decide +kernel
theorem dX8_ordain_75 : decode cX8_ordain 75 = .ok (.aload_n 0, 1) := by decide +kernel
theorem dX8_ordain_76 : decode cX8_ordain 76 = .ok (.getfield 27, 3) := by decide +kernel
theorem dX8_ordain_79 : decode cX8_ordain 79 = .ok (.getfield 93, 3) := by decide +kernel
theorem dX8_ordain_82 : decode cX8_ordain 82 = .ok (.iadd, 1) := by decide +kernel
theorem dX8_ordain_83 : decode cX8_ordain 83 = .ok (.ireturn, 1) := by decide +kernel
theorem dX8_pays_0 : decode cX8_pays 0 = .ok (.iload_n 1, 1) := by decide +kernel
theorem dX8_pays_1 : decode cX8_pays 1 = .ok (.ifCond .lt 19, 3) := by decide +kernel
theorem dX8_pays_4 : decode cX8_pays 4 = .ok (.iload_n 1, 1) := by decide +kernel
theorem dX8_pays_5 : decode cX8_pays 5 = .ok (.bipush 12, 2) := by decide +kernel
theorem dX8_pays_7 : decode cX8_pays 7 = .ok (.if_icmp .gt 13, 3) := by decide +kernel
theorem dX8_pays_10 : decode cX8_pays 10 = .ok (.iload_n 2, 1) := by decide +kernel
theorem dX8_pays_11 : decode cX8_pays 11 = .ok (.ifCond .lt 9, 3) := by decide +kernel
theorem dX8_pays_14 : decode cX8_pays 14 = .ok (.iload_n 2, 1) := by decide +kernel
theorem dX8_pays_15 : decode cX8_pays 15 = .ok (.bipush 24, 2) := by decide +kernel
theorem dX8_pays_17 : decode cX8_pays 17 = .ok (.if_icmp .le 6, 3) := by decide +kernel
theorem dX8_pays_20 : decode cX8_pays 20 = .ok (.bipush (-2), 2) := by decide +kernel
theorem dX8_pays_22 : decode cX8_pays 22 = .ok (.ireturn, 1) := by decide +kernel
theorem dX8_pays_23 : decode cX8_pays 23 = .ok (.aload_n 0, 1) := by decide +kernel
theorem dX8_pays_24 : decode cX8_pays 24 = .ok (.iload_n 2, 1) := by decide +kernel
theorem dX8_pays_25 : decode cX8_pays 25 = .ok (.iload_n 1, 1) := by decide +kernel
theorem dX8_pays_26 : decode cX8_pays 26 = .ok (.iconst 0, 1) := by decide +kernel
theorem dX8_pays_27 : decode cX8_pays 27 = .ok (.invokevirtual 182, 3) := by decide +kernel
theorem dX8_pays_30 : decode cX8_pays 30 = .ok (.pop, 1) := by decide +kernel
theorem dX8_pays_31 : decode cX8_pays 31 = .ok (.aload_n 0, 1) := by decide +kernel
theorem dX8_pays_32 : decode cX8_pays 32 = .ok (.getfield 38, 3) := by decide +kernel
theorem dX8_pays_35 : decode cX8_pays 35 = .ok (.aload_n 0, 1) := by decide +kernel
theorem dX8_pays_36 : decode cX8_pays 36 = .ok (.getfield 27, 3) := by decide +kernel
theorem dX8_pays_39 : decode cX8_pays 39 = .ok (.invokevirtual 113, 3) := by decide +kernel
theorem dX8_pays_42 : decode cX8_pays 42 = .ok (.aload_n 0, 1) := by decide +kernel
theorem dX8_pays_43 : decode cX8_pays 43 = .ok (.getfield 34, 3) := by decide +kernel
theorem dX8_pays_46 : decode cX8_pays 46 = .ok (.aload_n 0, 1) := by decide +kernel
theorem dX8_pays_47 : decode cX8_pays 47 = .ok (.getfield 27, 3) := by decide +kernel
theorem dX8_pays_50 : decode cX8_pays 50 = .ok (.invokevirtual 113, 3) := by decide +kernel
theorem dX8_pays_53 : decode cX8_pays 53 = .ok (.isub, 1) := by decide +kernel
theorem dX8_pays_54 : decode cX8_pays 54 = .ok (.ireturn, 1) := by decide +kernel
theorem dX8_rests_0 : decode cX8_rests 0 = .ok (.iload_n 1, 1) := by decide +kernel
theorem dX8_rests_1 : decode cX8_rests 1 = .ok (.ifCond .lt 18, 3) := by decide +kernel
theorem dX8_rests_4 : decode cX8_rests 4 = .ok (.iload_n 1, 1) := by decide +kernel
theorem dX8_rests_5 : decode cX8_rests 5 = .ok (.ldc 227, 2) := by decide +kernel
theorem dX8_rests_7 : decode cX8_rests 7 = .ok (.if_icmp .gt 12, 3) := by decide +kernel
theorem dX8_rests_10 : decode cX8_rests 10 = .ok (.iload_n 2, 1) := by decide +kernel
theorem dX8_rests_11 : decode cX8_rests 11 = .ok (.ifCond .lt 8, 3) := by decide +kernel
theorem dX8_rests_14 : decode cX8_rests 14 = .ok (.iload_n 2, 1) := by decide +kernel
theorem dX8_rests_15 : decode cX8_rests 15 = .ok (.iconst 1, 1) := by decide +kernel
theorem dX8_rests_16 : decode cX8_rests 16 = .ok (.if_icmp .le 6, 3) := by decide +kernel
theorem dX8_rests_19 : decode cX8_rests 19 = .ok (.bipush (-2), 2) := by decide +kernel
theorem dX8_rests_21 : decode cX8_rests 21 = .ok (.ireturn, 1) := by decide +kernel
theorem dX8_rests_22 : decode cX8_rests 22 = .ok (.iconst 0, 1) := by decide +kernel
theorem dX8_rests_23 : decode cX8_rests 23 = .ok (.istore_n 3, 1) := by decide +kernel
theorem dX8_rests_24 : decode cX8_rests 24 = .ok (.bipush (-9), 2) := by decide +kernel
theorem dX8_rests_26 : decode cX8_rests 26 = .ok (.istore 4, 2) := by decide +kernel
theorem dX8_rests_28 : decode cX8_rests 28 = .ok (.iconst 0, 1) := by decide +kernel
theorem dX8_rests_29 : decode cX8_rests 29 = .ok (.istore 5, 2) := by decide +kernel
theorem dX8_rests_31 : decode cX8_rests 31 = .ok (.iload 5, 2) := by decide +kernel
theorem dX8_rests_33 : decode cX8_rests 33 = .ok (.bipush 25, 2) := by decide +kernel
theorem dX8_rests_35 : decode cX8_rests 35 = .ok (.if_icmp .ge 54, 3) := by decide +kernel
theorem dX8_rests_38 : decode cX8_rests 38 = .ok (.iload 5, 2) := by decide +kernel
theorem dX8_rests_40 : decode cX8_rests 40 = .ok (.iconst 5, 1) := by decide +kernel
theorem dX8_rests_41 : decode cX8_rests 41 = .ok (.idiv, 1) := by decide +kernel
theorem dX8_rests_42 : decode cX8_rests 42 = .ok (.istore 6, 2) := by decide +kernel
theorem dX8_rests_44 : decode cX8_rests 44 = .ok (.iload 5, 2) := by decide +kernel
theorem dX8_rests_46 : decode cX8_rests 46 = .ok (.iconst 5, 1) := by decide +kernel
theorem dX8_rests_47 : decode cX8_rests 47 = .ok (.irem, 1) := by decide +kernel
theorem dX8_rests_48 : decode cX8_rests 48 = .ok (.istore 7, 2) := by decide +kernel
theorem dX8_rests_50 : decode cX8_rests 50 = .ok (.iload_n 1, 1) := by decide +kernel
theorem dX8_rests_51 : decode cX8_rests 51 = .ok (.iload 6, 2) := by decide +kernel
theorem dX8_rests_53 : decode cX8_rests 53 = .ok (.iload 7, 2) := by decide +kernel
theorem dX8_rests_55 : decode cX8_rests 55 = .ok (.invokestatic 228, 3) := by decide +kernel
theorem dX8_rests_58 : decode cX8_rests 58 = .ok (.ifCond .eq 25, 3) := by decide +kernel
theorem dX8_rests_61 : decode cX8_rests 61 = .ok (.iload_n 3, 1) := by decide +kernel
theorem dX8_rests_62 : decode cX8_rests 62 = .ok (.ifCond .ne 14, 3) := by decide +kernel
theorem dX8_rests_65 : decode cX8_rests 65 = .ok (.bipush 10, 2) := by decide +kernel
theorem dX8_rests_67 : decode cX8_rests 67 = .ok (.iload 6, 2) := by decide +kernel
theorem dX8_rests_69 : decode cX8_rests 69 = .ok (.imul, 1) := by decide +kernel
theorem dX8_rests_70 : decode cX8_rests 70 = .ok (.iload 7, 2) := by decide +kernel
theorem dX8_rests_72 : decode cX8_rests 72 = .ok (.iadd, 1) := by decide +kernel
theorem dX8_rests_73 : decode cX8_rests 73 = .ok (.goto 5, 3) := by decide +kernel
theorem dX8_rests_76 : decode cX8_rests 76 = .ok (.iload 4, 2) := by decide +kernel
theorem dX8_rests_78 : decode cX8_rests 78 = .ok (.istore 4, 2) := by decide +kernel
theorem dX8_rests_80 : decode cX8_rests 80 = .ok (.iinc 3 1, 3) := by decide +kernel
theorem dX8_rests_83 : decode cX8_rests 83 = .ok (.iinc 5 1, 3) := by decide +kernel
theorem dX8_rests_86 : decode cX8_rests 86 = .ok (.goto (-55), 3) := by decide +kernel
theorem dX8_rests_89 : decode cX8_rests 89 = .ok (.iload_n 2, 1) := by decide +kernel
theorem dX8_rests_90 : decode cX8_rests 90 = .ok (.ifCond .ne 7, 3) := by decide +kernel
theorem dX8_rests_93 : decode cX8_rests 93 = .ok (.iload_n 3, 1) := by decide +kernel
theorem dX8_rests_94 : decode cX8_rests 94 = .ok (.goto 5, 3) := by decide +kernel
theorem dX8_rests_97 : decode cX8_rests 97 = .ok (.iload 4, 2) := by decide +kernel
theorem dX8_rests_99 : decode cX8_rests 99 = .ok (.ireturn, 1) := by decide +kernel
theorem dX8_routes_0 : decode cX8_routes 0 = .ok (.aload_n 0, 1) := by decide +kernel
theorem dX8_routes_1 : decode cX8_routes 1 = .ok (.getfield 27, 3) := by decide +kernel
theorem dX8_routes_4 : decode cX8_routes 4 = .ok (.iload_n 1, 1) := by decide +kernel
theorem dX8_routes_5 : decode cX8_routes 5 = .ok (.invokevirtual 120, 3) := by decide +kernel
theorem dX8_routes_8 : decode cX8_routes 8 = .ok (.ifCond .ne 5, 3) := by decide +kernel
theorem dX8_routes_11 : decode cX8_routes 11 = .ok (.iconst (-1), 1) := by decide +kernel
theorem dX8_routes_12 : decode cX8_routes 12 = .ok (.ireturn, 1) := by decide +kernel
theorem dX8_routes_13 : decode cX8_routes 13 = .ok (.iload_n 2, 1) := by decide +kernel
theorem dX8_routes_14 : decode cX8_routes 14 = .ok (.iconst 1, 1) := by decide +kernel
theorem dX8_routes_15 : decode cX8_routes 15 = .ok (.if_icmp .lt 29, 3) := by decide +kernel
theorem dX8_routes_18 : decode cX8_routes 18 = .ok (.iload_n 2, 1) := by decide +kernel
theorem dX8_routes_19 : decode cX8_routes 19 = .ok (.bipush 7, 2) := by decide +kernel
theorem dX8_routes_21 : decode cX8_routes 21 = .ok (.if_icmp .gt 23, 3) := by decide +kernel
theorem dX8_routes_24 : decode cX8_routes 24 = .ok (.iload_n 3, 1) := by decide +kernel
theorem dX8_routes_25 : decode cX8_routes 25 = .ok (.ifCond .lt 19, 3) := by decide +kernel
theorem dX8_routes_28 : decode cX8_routes 28 = .ok (.iload_n 3, 1) := by decide +kernel
theorem dX8_routes_29 : decode cX8_routes 29 = .ok (.iconst 5, 1) := by decide +kernel
theorem dX8_routes_30 : decode cX8_routes 30 = .ok (.if_icmp .ge 14, 3) := by decide +kernel
theorem dX8_routes_33 : decode cX8_routes 33 = .ok (.iload 4, 2) := by decide +kernel
theorem dX8_routes_35 : decode cX8_routes 35 = .ok (.ifCond .lt 9, 3) := by decide +kernel
theorem dX8_routes_38 : decode cX8_routes 38 = .ok (.iload 4, 2) := by decide +kernel
theorem dX8_routes_40 : decode cX8_routes 40 = .ok (.iconst 1, 1) := by decide +kernel
theorem dX8_routes_41 : decode cX8_routes 41 = .ok (.if_icmp .le 6, 3) := by decide +kernel
theorem dX8_routes_44 : decode cX8_routes 44 = .ok (.bipush (-2), 2) := by decide +kernel
theorem dX8_routes_46 : decode cX8_routes 46 = .ok (.ireturn, 1) := by decide +kernel
theorem dX8_routes_47 : decode cX8_routes 47 = .ok (.aload_n 0, 1) := by decide +kernel
theorem dX8_routes_48 : decode cX8_routes 48 = .ok (.getfield 58, 3) := by decide +kernel
theorem dX8_routes_51 : decode cX8_routes 51 = .ok (.aload_n 0, 1) := by decide +kernel
theorem dX8_routes_52 : decode cX8_routes 52 = .ok (.getfield 27, 3) := by decide +kernel
theorem dX8_routes_55 : decode cX8_routes 55 = .ok (.aload_n 0, 1) := by decide +kernel
theorem dX8_routes_56 : decode cX8_routes 56 = .ok (.getfield 34, 3) := by decide +kernel
theorem dX8_routes_59 : decode cX8_routes 59 = .ok (.iload_n 1, 1) := by decide +kernel
theorem dX8_routes_60 : decode cX8_routes 60 = .ok (.invokevirtual 186, 3) := by decide +kernel
theorem dX8_routes_63 : decode cX8_routes 63 = .ok (.aload_n 0, 1) := by decide +kernel
theorem dX8_routes_64 : decode cX8_routes 64 = .ok (.getfield 34, 3) := by decide +kernel
theorem dX8_routes_67 : decode cX8_routes 67 = .ok (.getfield 124, 3) := by decide +kernel
theorem dX8_routes_70 : decode cX8_routes 70 = .ok (.iload_n 1, 1) := by decide +kernel
theorem dX8_routes_71 : decode cX8_routes 71 = .ok (.iaload, 1) := by decide +kernel
theorem dX8_routes_72 : decode cX8_routes 72 = .ok (.istore 5, 2) := by decide +kernel
theorem dX8_routes_74 : decode cX8_routes 74 = .ok (.aload_n 0, 1) := by decide +kernel
theorem dX8_routes_75 : decode cX8_routes 75 = .ok (.getfield 58, 3) := by decide +kernel
theorem dX8_routes_78 : decode cX8_routes 78 = .ok (.iload_n 2, 1) := by decide +kernel
theorem dX8_routes_79 : decode cX8_routes 79 = .ok (.iload_n 3, 1) := by decide +kernel
theorem dX8_routes_80 : decode cX8_routes 80 = .ok (.invokevirtual 190, 3) := by decide +kernel
theorem dX8_routes_83 : decode cX8_routes 83 = .ok (.iload 4, 2) := by decide +kernel
theorem dX8_routes_85 : decode cX8_routes 85 = .ok (.ifCond .ne 15, 3) := by decide +kernel
theorem dX8_routes_88 : decode cX8_routes 88 = .ok (.aload_n 0, 1) := by decide +kernel
theorem dX8_routes_89 : decode cX8_routes 89 = .ok (.getfield 58, 3) := by decide +kernel
theorem dX8_routes_92 : decode cX8_routes 92 = .ok (.iload 5, 2) := by decide +kernel
theorem dX8_routes_94 : decode cX8_routes 94 = .ok (.invokevirtual 194, 3) := by decide +kernel
theorem dX8_routes_97 : decode cX8_routes 97 = .ok (.goto 13, 3) := by decide +kernel
theorem dX8_routes_100 : decode cX8_routes 100 = .ok (.aload_n 0, 1) := by decide +kernel
theorem dX8_routes_101 : decode cX8_routes 101 = .ok (.getfield 58, 3) := by decide +kernel
theorem dX8_routes_104 : decode cX8_routes 104 = .ok (.iload_n 2, 1) := by decide +kernel
theorem dX8_routes_105 : decode cX8_routes 105 = .ok (.iload 5, 2) := by decide +kernel
theorem dX8_routes_107 : decode cX8_routes 107 = .ok (.invokevirtual 197, 3) := by decide +kernel
theorem dX8_routes_110 : decode cX8_routes 110 = .ok (.ireturn, 1) := by decide +kernel
theorem dX8_see_0 : decode cX8_see 0 = .ok (.aload_n 0, 1) := by decide +kernel
theorem dX8_see_1 : decode cX8_see 1 = .ok (.getfield 27, 3) := by decide +kernel
theorem dX8_see_4 : decode cX8_see 4 = .ok (.iload_n 1, 1) := by decide +kernel
theorem dX8_see_5 : decode cX8_see 5 = .ok (.invokevirtual 143, 3) := by decide +kernel
theorem dX8_see_8 : decode cX8_see 8 = .ok (.ifCond .ne 5, 3) := by decide +kernel
theorem dX8_see_11 : decode cX8_see 11 = .ok (.iconst (-1), 1) := by decide +kernel
theorem dX8_see_12 : decode cX8_see 12 = .ok (.ireturn, 1) := by decide +kernel
theorem dX8_see_13 : decode cX8_see 13 = .ok (.iload_n 2, 1) := by decide +kernel
theorem dX8_see_14 : decode cX8_see 14 = .ok (.ifCond .lt 18, 3) := by decide +kernel
theorem dX8_see_17 : decode cX8_see 17 = .ok (.iload_n 2, 1) := by decide +kernel
theorem dX8_see_18 : decode cX8_see 18 = .ok (.iconst 5, 1) := by decide +kernel
theorem dX8_see_19 : decode cX8_see 19 = .ok (.if_icmp .ge 13, 3) := by decide +kernel
theorem dX8_see_22 : decode cX8_see 22 = .ok (.iload_n 3, 1) := by decide +kernel
theorem dX8_see_23 : decode cX8_see 23 = .ok (.ifCond .lt 9, 3) := by decide +kernel
theorem dX8_see_26 : decode cX8_see 26 = .ok (.iload_n 3, 1) := by decide +kernel
theorem dX8_see_27 : decode cX8_see 27 = .ok (.bipush 12, 2) := by decide +kernel
theorem dX8_see_29 : decode cX8_see 29 = .ok (.if_icmp .lt 6, 3) := by decide +kernel
theorem dX8_see_32 : decode cX8_see 32 = .ok (.bipush (-2), 2) := by decide +kernel
theorem dX8_see_34 : decode cX8_see 34 = .ok (.ireturn, 1) := by decide +kernel
theorem dX8_see_35 : decode cX8_see 35 = .ok (.aload_n 0, 1) := by decide +kernel
theorem dX8_see_36 : decode cX8_see 36 = .ok (.getfield 65, 3) := by decide +kernel
theorem dX8_see_39 : decode cX8_see 39 = .ok (.getfield 119, 3) := by decide +kernel
theorem dX8_see_42 : decode cX8_see 42 = .ok (.bipush 6, 2) := by decide +kernel
theorem dX8_see_44 : decode cX8_see 44 = .ok (.if_icmp .lt 6, 3) := by decide +kernel
theorem dX8_see_47 : decode cX8_see 47 = .ok (.bipush (-4), 2) := by decide +kernel
theorem dX8_see_49 : decode cX8_see 49 = .ok (.ireturn, 1) := by decide +kernel
theorem dX8_see_50 : decode cX8_see 50 = .ok (.aload_n 0, 1) := by decide +kernel
theorem dX8_see_51 : decode cX8_see 51 = .ok (.getfield 65, 3) := by decide +kernel
theorem dX8_see_54 : decode cX8_see 54 = .ok (.iload_n 1, 1) := by decide +kernel
theorem dX8_see_55 : decode cX8_see 55 = .ok (.iload_n 2, 1) := by decide +kernel
theorem dX8_see_56 : decode cX8_see 56 = .ok (.iload_n 3, 1) := by decide +kernel
theorem dX8_see_57 : decode cX8_see 57 = .ok (.invokevirtual 214, 3) := by decide +kernel
theorem dX8_see_60 : decode cX8_see 60 = .ok (.aload_n 0, 1) := by decide +kernel
theorem dX8_see_61 : decode cX8_see 61 = .ok (.getfield 65, 3) := by decide +kernel
theorem dX8_see_64 : decode cX8_see 64 = .ok (.getfield 119, 3) := by decide +kernel
theorem dX8_see_67 : decode cX8_see 67 = .ok (.ireturn, 1) := by decide +kernel
theorem dX8_seed_0 : decode cX8_seed 0 = .ok (.aload_n 0, 1) := by decide +kernel
theorem dX8_seed_1 : decode cX8_seed 1 = .ok (.getfield 69, 3) := by decide +kernel
theorem dX8_seed_4 : decode cX8_seed 4 = .ok (.lstore_n 3, 1) := by decide +kernel
theorem dX8_seed_5 : decode cX8_seed 5 = .ok (.aload_n 0, 1) := by decide +kernel
theorem dX8_seed_6 : decode cX8_seed 6 = .ok (.lload_n 1, 1) := by decide +kernel
theorem dX8_seed_7 : decode cX8_seed 7 = .ok (.putfield 69, 3) := by decide +kernel
theorem dX8_seed_10 : decode cX8_seed 10 = .ok (.lload_n 3, 1) := by decide +kernel
theorem dX8_seed_11 : decode cX8_seed 11 = .ok (.lreturn, 1) := by decide +kernel
theorem dX8_spans_0 : decode cX8_spans 0 = .ok (.iload_n 1, 1) := by decide +kernel
theorem dX8_spans_1 : decode cX8_spans 1 = .ok (.iconst 1, 1) := by decide +kernel
theorem dX8_spans_2 : decode cX8_spans 2 = .ok (.if_icmp .lt 30, 3) := by decide +kernel
theorem dX8_spans_5 : decode cX8_spans 5 = .ok (.iload_n 1, 1) := by decide +kernel
theorem dX8_spans_6 : decode cX8_spans 6 = .ok (.bipush 9, 2) := by decide +kernel
theorem dX8_spans_8 : decode cX8_spans 8 = .ok (.if_icmp .gt 24, 3) := by decide +kernel
theorem dX8_spans_11 : decode cX8_spans 11 = .ok (.iload_n 2, 1) := by decide +kernel
theorem dX8_spans_12 : decode cX8_spans 12 = .ok (.iconst 1, 1) := by decide +kernel
theorem dX8_spans_13 : decode cX8_spans 13 = .ok (.if_icmp .lt 19, 3) := by decide +kernel
theorem dX8_spans_16 : decode cX8_spans 16 = .ok (.iload_n 2, 1) := by decide +kernel
theorem dX8_spans_17 : decode cX8_spans 17 = .ok (.bipush 9, 2) := by decide +kernel
theorem dX8_spans_19 : decode cX8_spans 19 = .ok (.if_icmp .gt 13, 3) := by decide +kernel
theorem dX8_spans_22 : decode cX8_spans 22 = .ok (.iload_n 3, 1) := by decide +kernel
theorem dX8_spans_23 : decode cX8_spans 23 = .ok (.ifCond .lt 9, 3) := by decide +kernel
theorem dX8_spans_26 : decode cX8_spans 26 = .ok (.iload_n 3, 1) := by decide +kernel
theorem dX8_spans_27 : decode cX8_spans 27 = .ok (.bipush 99, 2) := by decide +kernel
theorem dX8_spans_29 : decode cX8_spans 29 = .ok (.if_icmp .le 6, 3) := by decide +kernel
theorem dX8_spans_32 : decode cX8_spans 32 = .ok (.bipush (-2), 2) := by decide +kernel
theorem dX8_spans_34 : decode cX8_spans 34 = .ok (.ireturn, 1) := by decide +kernel
theorem dX8_spans_35 : decode cX8_spans 35 = .ok (.iload_n 1, 1) := by decide +kernel
theorem dX8_spans_36 : decode cX8_spans 36 = .ok (.iload_n 3, 1) := by decide +kernel
theorem dX8_spans_37 : decode cX8_spans 37 = .ok (.iconst 1, 1) := by decide +kernel
theorem dX8_spans_38 : decode cX8_spans 38 = .ok (.iadd, 1) := by decide +kernel
theorem dX8_spans_39 : decode cX8_spans 39 = .ok (.imul, 1) := by decide +kernel
theorem dX8_spans_40 : decode cX8_spans 40 = .ok (.iload_n 1, 1) := by decide +kernel
theorem dX8_spans_41 : decode cX8_spans 41 = .ok (.iload_n 2, 1) := by decide +kernel
theorem dX8_spans_42 : decode cX8_spans 42 = .ok (.iadd, 1) := by decide +kernel
theorem dX8_spans_43 : decode cX8_spans 43 = .ok (.idiv, 1) := by decide +kernel
theorem dX8_spans_44 : decode cX8_spans 44 = .ok (.iload_n 1, 1) := by decide +kernel
theorem dX8_spans_45 : decode cX8_spans 45 = .ok (.iload_n 3, 1) := by decide +kernel
theorem dX8_spans_46 : decode cX8_spans 46 = .ok (.imul, 1) := by decide +kernel
theorem dX8_spans_47 : decode cX8_spans 47 = .ok (.iload_n 1, 1) := by decide +kernel
theorem dX8_spans_48 : decode cX8_spans 48 = .ok (.iload_n 2, 1) := by decide +kernel
theorem dX8_spans_49 : decode cX8_spans 49 = .ok (.iadd, 1) := by decide +kernel
theorem dX8_spans_50 : decode cX8_spans 50 = .ok (.idiv, 1) := by decide +kernel
theorem dX8_spans_51 : decode cX8_spans 51 = .ok (.if_icmp .le 7, 3) := by decide +kernel
theorem dX8_spans_54 : decode cX8_spans 54 = .ok (.iconst 0, 1) := by decide +kernel
theorem dX8_spans_55 : decode cX8_spans 55 = .ok (.goto 4, 3) := by decide +kernel
theorem dX8_spans_58 : decode cX8_spans 58 = .ok (.iconst 1, 1) := by decide +kernel
theorem dX8_spans_59 : decode cX8_spans 59 = .ok (.ireturn, 1) := by decide +kernel
theorem dX8_streetBy_0 : decode cX8_streetBy 0 = .ok (.iload_n 0, 1) := by decide +kernel
theorem dX8_streetBy_1 : decode cX8_streetBy 1 = .ok (.iload_n 1, 1) := by decide +kernel
theorem dX8_streetBy_2 : decode cX8_streetBy 2 = .ok (.iconst 2, 1) := by decide +kernel
theorem dX8_streetBy_3 : decode cX8_streetBy 3 = .ok (.if_icmp .ne 7, 3) := by decide +kernel
theorem dX8_streetBy_6 : decode cX8_streetBy 6 = .ok (.iconst 4, 1) := by decide +kernel
theorem dX8_streetBy_7 : decode cX8_streetBy 7 = .ok (.goto 4, 3) := by decide +kernel
theorem dX8_streetBy_10 : decode cX8_streetBy 10 = .ok (.iload_n 1, 1) := by decide +kernel
theorem dX8_streetBy_11 : decode cX8_streetBy 11 = .ok (.iadd, 1) := by decide +kernel
theorem dX8_streetBy_12 : decode cX8_streetBy 12 = .ok (.iconst 5, 1) := by decide +kernel
theorem dX8_streetBy_13 : decode cX8_streetBy 13 = .ok (.irem, 1) := by decide +kernel
theorem dX8_streetBy_14 : decode cX8_streetBy 14 = .ok (.ireturn, 1) := by decide +kernel
theorem dX8_sure_0 : decode cX8_sure 0 = .ok (.aload_n 0, 1) := by decide +kernel
theorem dX8_sure_1 : decode cX8_sure 1 = .ok (.getfield 27, 3) := by decide +kernel
theorem dX8_sure_4 : decode cX8_sure 4 = .ok (.iload_n 1, 1) := by decide +kernel
theorem dX8_sure_5 : decode cX8_sure 5 = .ok (.invokevirtual 143, 3) := by decide +kernel
theorem dX8_sure_8 : decode cX8_sure 8 = .ok (.ifCond .ne 5, 3) := by decide +kernel
theorem dX8_sure_11 : decode cX8_sure 11 = .ok (.iconst (-1), 1) := by decide +kernel
theorem dX8_sure_12 : decode cX8_sure 12 = .ok (.ireturn, 1) := by decide +kernel
theorem dX8_sure_13 : decode cX8_sure 13 = .ok (.aload_n 0, 1) := by decide +kernel
theorem dX8_sure_14 : decode cX8_sure 14 = .ok (.getfield 65, 3) := by decide +kernel
theorem dX8_sure_17 : decode cX8_sure 17 = .ok (.aload_n 0, 1) := by decide +kernel
theorem dX8_sure_18 : decode cX8_sure 18 = .ok (.getfield 27, 3) := by decide +kernel
theorem dX8_sure_21 : decode cX8_sure 21 = .ok (.aload_n 0, 1) := by decide +kernel
theorem dX8_sure_22 : decode cX8_sure 22 = .ok (.getfield 34, 3) := by decide +kernel
theorem dX8_sure_25 : decode cX8_sure 25 = .ok (.invokevirtual 218, 3) := by decide +kernel
theorem dX8_sure_28 : decode cX8_sure 28 = .ok (.aload_n 0, 1) := by decide +kernel
theorem dX8_sure_29 : decode cX8_sure 29 = .ok (.getfield 65, 3) := by decide +kernel
theorem dX8_sure_32 : decode cX8_sure 32 = .ok (.aload_n 0, 1) := by decide +kernel
theorem dX8_sure_33 : decode cX8_sure 33 = .ok (.getfield 27, 3) := by decide +kernel
theorem dX8_sure_36 : decode cX8_sure 36 = .ok (.iload_n 1, 1) := by decide +kernel
theorem dX8_sure_37 : decode cX8_sure 37 = .ok (.invokevirtual 224, 3) := by decide +kernel
theorem dX8_sure_40 : decode cX8_sure 40 = .ok (.ireturn, 1) := by decide +kernel
theorem dX8_tryHours_0 : decode cX8_tryHours 0 = .ok (.iconst 0, 1) := by decide +kernel
theorem dX8_tryHours_1 : decode cX8_tryHours 1 = .ok (.istore 4, 2) := by decide +kernel
theorem dX8_tryHours_3 : decode cX8_tryHours 3 = .ok (.aload_n 0, 1) := by decide +kernel
theorem dX8_tryHours_4 : decode cX8_tryHours 4 = .ok (.getfield 38, 3) := by decide +kernel
theorem dX8_tryHours_7 : decode cX8_tryHours 7 = .ok (.aload_n 0, 1) := by decide +kernel
theorem dX8_tryHours_8 : decode cX8_tryHours 8 = .ok (.getfield 34, 3) := by decide +kernel
theorem dX8_tryHours_11 : decode cX8_tryHours 11 = .ok (.invokevirtual 83, 3) := by decide +kernel
theorem dX8_tryHours_14 : decode cX8_tryHours 14 = .ok (.iconst 0, 1) := by decide +kernel
theorem dX8_tryHours_15 : decode cX8_tryHours 15 = .ok (.istore 5, 2) := by decide +kernel
theorem dX8_tryHours_17 : decode cX8_tryHours 17 = .ok (.iload 5, 2) := by decide +kernel
theorem dX8_tryHours_19 : decode cX8_tryHours 19 = .ok (.iload_n 1, 1) := by decide +kernel
theorem dX8_tryHours_20 : decode cX8_tryHours 20 = .ok (.if_icmp .ge 27, 3) := by decide +kernel
theorem dX8_tryHours_23 : decode cX8_tryHours 23 = .ok (.iload 4, 2) := by decide +kernel
theorem dX8_tryHours_25 : decode cX8_tryHours 25 = .ok (.aload_n 0, 1) := by decide +kernel
theorem dX8_tryHours_26 : decode cX8_tryHours 26 = .ok (.getfield 38, 3) := by decide +kernel
theorem dX8_tryHours_29 : decode cX8_tryHours 29 = .ok (.aload_n 0, 1) := by decide +kernel
theorem dX8_tryHours_30 : decode cX8_tryHours 30 = .ok (.getfield 27, 3) := by decide +kernel
theorem dX8_tryHours_33 : decode cX8_tryHours 33 = .ok (.iload_n 2, 1) := by decide +kernel
theorem dX8_tryHours_34 : decode cX8_tryHours 34 = .ok (.iload_n 3, 1) := by decide +kernel
theorem dX8_tryHours_35 : decode cX8_tryHours 35 = .ok (.invokevirtual 175, 3) := by decide +kernel
theorem dX8_tryHours_38 : decode cX8_tryHours 38 = .ok (.ior, 1) := by decide +kernel
theorem dX8_tryHours_39 : decode cX8_tryHours 39 = .ok (.istore 4, 2) := by decide +kernel
theorem dX8_tryHours_41 : decode cX8_tryHours 41 = .ok (.iinc 5 1, 3) := by decide +kernel
theorem dX8_tryHours_44 : decode cX8_tryHours 44 = .ok (.goto (-27), 3) := by decide +kernel
theorem dX8_tryHours_47 : decode cX8_tryHours 47 = .ok (.iload 4, 2) := by decide +kernel
theorem dX8_tryHours_49 : decode cX8_tryHours 49 = .ok (.ireturn, 1) := by decide +kernel
theorem dX8_undo_0 : decode cX8_undo 0 = .ok (.aload_n 0, 1) := by decide +kernel
theorem dX8_undo_1 : decode cX8_undo 1 = .ok (.getfield 44, 3) := by decide +kernel
theorem dX8_undo_4 : decode cX8_undo 4 = .ok (.getfield 116, 3) := by decide +kernel
theorem dX8_undo_7 : decode cX8_undo 7 = .ok (.ifCond .ne 6, 3) := by decide +kernel
theorem dX8_undo_10 : decode cX8_undo 10 = .ok (.bipush (-3), 2) := by decide +kernel
theorem dX8_undo_12 : decode cX8_undo 12 = .ok (.ireturn, 1) := by decide +kernel
theorem dX8_undo_13 : decode cX8_undo 13 = .ok (.aload_n 0, 1) := by decide +kernel
theorem dX8_undo_14 : decode cX8_undo 14 = .ok (.getfield 44, 3) := by decide +kernel
theorem dX8_undo_17 : decode cX8_undo 17 = .ok (.aload_n 0, 1) := by decide +kernel
theorem dX8_undo_18 : decode cX8_undo 18 = .ok (.getfield 34, 3) := by decide +kernel
theorem dX8_undo_21 : decode cX8_undo 21 = .ok (.invokevirtual 179, 3) := by decide +kernel
theorem dX8_undo_24 : decode cX8_undo 24 = .ok (.aload_n 0, 1) := by decide +kernel
theorem dX8_undo_25 : decode cX8_undo 25 = .ok (.getfield 44, 3) := by decide +kernel
theorem dX8_undo_28 : decode cX8_undo 28 = .ok (.getfield 116, 3) := by decide +kernel
theorem dX8_undo_31 : decode cX8_undo 31 = .ok (.ireturn, 1) := by decide +kernel
theorem dX8_unsee_0 : decode cX8_unsee 0 = .ok (.aload_n 0, 1) := by decide +kernel
theorem dX8_unsee_1 : decode cX8_unsee 1 = .ok (.getfield 65, 3) := by decide +kernel
theorem dX8_unsee_4 : decode cX8_unsee 4 = .ok (.getfield 119, 3) := by decide +kernel
theorem dX8_unsee_7 : decode cX8_unsee 7 = .ok (.istore_n 1, 1) := by decide +kernel
theorem dX8_unsee_8 : decode cX8_unsee 8 = .ok (.aload_n 0, 1) := by decide +kernel
theorem dX8_unsee_9 : decode cX8_unsee 9 = .ok (.getfield 65, 3) := by decide +kernel
theorem dX8_unsee_12 : decode cX8_unsee 12 = .ok (.iconst 0, 1) := by decide +kernel
theorem dX8_unsee_13 : decode cX8_unsee 13 = .ok (.putfield 119, 3) := by decide +kernel
theorem dX8_unsee_16 : decode cX8_unsee 16 = .ok (.iload_n 1, 1) := by decide +kernel
theorem dX8_unsee_17 : decode cX8_unsee 17 = .ok (.ireturn, 1) := by decide +kernel
theorem dX8_walks_0 : decode cX8_walks 0 = .ok (.aload_n 0, 1) := by decide +kernel
theorem dX8_walks_1 : decode cX8_walks 1 = .ok (.getfield 65, 3) := by decide +kernel
theorem dX8_walks_4 : decode cX8_walks 4 = .ok (.aload_n 0, 1) := by decide +kernel
theorem dX8_walks_5 : decode cX8_walks 5 = .ok (.getfield 27, 3) := by decide +kernel
theorem dX8_walks_8 : decode cX8_walks 8 = .ok (.aload_n 0, 1) := by decide +kernel
theorem dX8_walks_9 : decode cX8_walks 9 = .ok (.getfield 34, 3) := by decide +kernel
theorem dX8_walks_12 : decode cX8_walks 12 = .ok (.invokevirtual 218, 3) := by decide +kernel
theorem dX8_walks_15 : decode cX8_walks 15 = .ok (.aload_n 0, 1) := by decide +kernel
theorem dX8_walks_16 : decode cX8_walks 16 = .ok (.getfield 65, 3) := by decide +kernel
theorem dX8_walks_19 : decode cX8_walks 19 = .ok (.aload_n 0, 1) := by decide +kernel
theorem dX8_walks_20 : decode cX8_walks 20 = .ok (.getfield 27, 3) := by decide +kernel
theorem dX8_walks_23 : decode cX8_walks 23 = .ok (.invokevirtual 221, 3) := by decide +kernel
theorem dX8_walks_26 : decode cX8_walks 26 = .ok (.ireturn, 1) := by decide +kernel
theorem dX8_wipe_0 : decode cX8_wipe 0 = .ok (.aload_n 0, 1) := by decide +kernel
theorem dX8_wipe_1 : decode cX8_wipe 1 = .ok (.getfield 13, 3) := by decide +kernel
theorem dX8_wipe_4 : decode cX8_wipe 4 = .ok (.istore_n 1, 1) := by decide +kernel
theorem dX8_wipe_5 : decode cX8_wipe 5 = .ok (.aload_n 0, 1) := by decide +kernel
theorem dX8_wipe_6 : decode cX8_wipe 6 = .ok (.iconst 0, 1) := by decide +kernel
theorem dX8_wipe_7 : decode cX8_wipe 7 = .ok (.putfield 13, 3) := by decide +kernel
theorem dX8_wipe_10 : decode cX8_wipe 10 = .ok (.iload_n 1, 1) := by decide +kernel
theorem dX8_wipe_11 : decode cX8_wipe 11 = .ok (.ireturn, 1) := by decide +kernel
theorem dX8_write_0 : decode cX8_write 0 = .ok (.iload_n 1, 1) := by decide +kernel
theorem dX8_write_1 : decode cX8_write 1 = .ok (.ifCond .lt 10, 3) := by decide +kernel
theorem dX8_write_4 : decode cX8_write 4 = .ok (.iload_n 1, 1) := by decide +kernel
theorem dX8_write_5 : decode cX8_write 5 = .ok (.sipush 255, 3) := by decide +kernel
theorem dX8_write_8 : decode cX8_write 8 = .ok (.if_icmp .le 6, 3) := by decide +kernel
theorem dX8_write_11 : decode cX8_write 11 = .ok (.bipush (-2), 2) := by decide +kernel
theorem dX8_write_13 : decode cX8_write 13 = .ok (.ireturn, 1) := by decide +kernel
theorem dX8_write_14 : decode cX8_write 14 = .ok (.aload_n 0, 1) := by decide +kernel
theorem dX8_write_15 : decode cX8_write 15 = .ok (.getfield 13, 3) := by decide +kernel
theorem dX8_write_18 : decode cX8_write 18 = .ok (.bipush 60, 2) := by decide +kernel
theorem dX8_write_20 : decode cX8_write 20 = .ok (.if_icmp .lt 6, 3) := by decide +kernel
theorem dX8_write_23 : decode cX8_write 23 = .ok (.bipush (-4), 2) := by decide +kernel
theorem dX8_write_25 : decode cX8_write 25 = .ok (.ireturn, 1) := by decide +kernel
theorem dX8_write_26 : decode cX8_write 26 = .ok (.aload_n 0, 1) := by decide +kernel
theorem dX8_write_27 : decode cX8_write 27 = .ok (.getfield 9, 3) := by decide +kernel
theorem dX8_write_30 : decode cX8_write 30 = .ok (.aload_n 0, 1) := by decide +kernel
theorem dX8_write_31 : decode cX8_write 31 = .ok (.getfield 13, 3) := by decide +kernel
theorem dX8_write_34 : decode cX8_write 34 = .ok (.iload_n 1, 1) := by decide +kernel
theorem dX8_write_35 : decode cX8_write 35 = .ok (.iastore, 1) := by decide +kernel
theorem dX8_write_36 : decode cX8_write 36 = .ok (.aload_n 0, 1) := by decide +kernel
theorem dX8_write_37 : decode cX8_write 37 = .ok (.dup, 1) := by decide +kernel
theorem dX8_write_38 : decode cX8_write 38 = .ok (.getfield 13, 3) := by decide +kernel
theorem dX8_write_41 : decode cX8_write 41 = .ok (.iconst 1, 1) := by decide +kernel
theorem dX8_write_42 : decode cX8_write 42 = .ok (.iadd, 1) := by decide +kernel
theorem dX8_write_43 : decode cX8_write 43 = .ok (.putfield 13, 3) := by decide +kernel
theorem dX8_write_46 : decode cX8_write 46 = .ok (.aload_n 0, 1) := by decide +kernel
theorem dX8_write_47 : decode cX8_write 47 = .ok (.getfield 13, 3) := by decide +kernel
theorem dX8_write_50 : decode cX8_write 50 = .ok (.ireturn, 1) := by decide +kernel
end
section
theorem dX9_about_0 : decode cX9_about 0 = .ok (.aload_n 0, 1) := by decide +kernel
theorem dX9_about_1 : decode cX9_about 1 = .ok (.iconst 0, 1) := by decide +kernel
theorem dX9_about_2 : decode cX9_about 2 = .ok (.putfield 66, 3) := by decide +kernel
theorem dX9_about_5 : decode cX9_about 5 = .ok (.iload_n 1, 1) := by decide +kernel
theorem dX9_about_6 : decode cX9_about 6 = .ok (.tableswitch 132 0 10 #[58, 63, 68, 73, 81, 96, 104, 109, 117, 122, 127], 58) := by decide +kernel
theorem dX9_about_64 : decode cX9_about 64 = .ok (.aload_n 0, 1) := by decide +kernel
theorem dX9_about_65 : decode cX9_about 65 = .ok (.getfield 69, 3) := by decide +kernel
theorem dX9_about_68 : decode cX9_about 68 = .ok (.ireturn, 1) := by decide +kernel
theorem dX9_about_69 : decode cX9_about 69 = .ok (.aload_n 0, 1) := by decide +kernel
theorem dX9_about_70 : decode cX9_about 70 = .ok (.getfield 76, 3) := by decide +kernel
theorem dX9_about_73 : decode cX9_about 73 = .ok (.ireturn, 1) := by decide +kernel
theorem dX9_about_74 : decode cX9_about 74 = .ok (.aload_n 0, 1) := by decide +kernel
theorem dX9_about_75 : decode cX9_about 75 = .ok (.getfield 13, 3) := by decide +kernel
theorem dX9_about_78 : decode cX9_about 78 = .ok (.ireturn, 1) := by decide +kernel
theorem dX9_about_79 : decode cX9_about 79 = .ok (.aload_n 0, 1) := by decide +kernel
theorem dX9_about_80 : decode cX9_about 80 = .ok (.getfield 35, 3) := by decide +kernel
theorem dX9_about_83 : decode cX9_about 83 = .ok (.bipush 24, 2) := by decide +kernel
theorem dX9_about_85 : decode cX9_about 85 = .ok (.iaload, 1) := by decide +kernel
theorem dX9_about_86 : decode cX9_about 86 = .ok (.ireturn, 1) := by decide +kernel
theorem dX9_about_87 : decode cX9_about 87 = .ok (.aload_n 0, 1) := by decide +kernel
theorem dX9_about_88 : decode cX9_about 88 = .ok (.getfield 17, 3) := by decide +kernel
theorem dX9_about_91 : decode cX9_about 91 = .ok (.aload_n 0, 1) := by decide +kernel
theorem dX9_about_92 : decode cX9_about 92 = .ok (.getfield 35, 3) := by decide +kernel
theorem dX9_about_95 : decode cX9_about 95 = .ok (.bipush 24, 2) := by decide +kernel
theorem dX9_about_97 : decode cX9_about 97 = .ok (.iaload, 1) := by decide +kernel
theorem dX9_about_98 : decode cX9_about 98 = .ok (.iconst 4, 1) := by decide +kernel
theorem dX9_about_99 : decode cX9_about 99 = .ok (.irem, 1) := by decide +kernel
theorem dX9_about_100 : decode cX9_about 100 = .ok (.iaload, 1) := by decide +kernel
theorem dX9_about_101 : decode cX9_about 101 = .ok (.ireturn, 1) := by decide +kernel
theorem dX9_about_102 : decode cX9_about 102 = .ok (.aload_n 0, 1) := by decide +kernel
theorem dX9_about_103 : decode cX9_about 103 = .ok (.getfield 35, 3) := by decide +kernel
theorem dX9_about_106 : decode cX9_about 106 = .ok (.bipush 18, 2) := by decide +kernel
theorem dX9_about_108 : decode cX9_about 108 = .ok (.iaload, 1) := by decide +kernel
theorem dX9_about_109 : decode cX9_about 109 = .ok (.ireturn, 1) := by decide +kernel
theorem dX9_about_110 : decode cX9_about 110 = .ok (.aload_n 0, 1) := by decide +kernel
theorem dX9_about_111 : decode cX9_about 111 = .ok (.invokevirtual 143, 3) := by decide +kernel
theorem dX9_about_114 : decode cX9_about 114 = .ok (.ireturn, 1) := by decide +kernel
theorem dX9_about_115 : decode cX9_about 115 = .ok (.aload_n 0, 1) := by decide +kernel
theorem dX9_about_116 : decode cX9_about 116 = .ok (.getfield 35, 3) := by decide +kernel
theorem dX9_about_119 : decode cX9_about 119 = .ok (.invokestatic 146, 3) := by decide +kernel
theorem dX9_about_122 : decode cX9_about 122 = .ok (.ireturn, 1) := by decide +kernel
theorem dX9_about_123 : decode cX9_about 123 = .ok (.aload_n 0, 1) := by decide +kernel
theorem dX9_about_124 : decode cX9_about 124 = .ok (.getfield 140, 3) := by decide +kernel
theorem dX9_about_127 : decode cX9_about 127 = .ok (.ireturn, 1) := by decide +kernel
theorem dX9_about_128 : decode cX9_about 128 = .ok (.aload_n 0, 1) := by decide +kernel
theorem dX9_about_129 : decode cX9_about 129 = .ok (.getfield 150, 3) := by decide +kernel
theorem dX9_about_132 : decode cX9_about 132 = .ok (.ireturn, 1) := by decide +kernel
theorem dX9_about_133 : decode cX9_about 133 = .ok (.aload_n 0, 1) := by decide +kernel
theorem dX9_about_134 : decode cX9_about 134 = .ok (.getfield 81, 3) := by decide +kernel
theorem dX9_about_137 : decode cX9_about 137 = .ok (.ireturn, 1) := by decide +kernel
theorem dX9_about_138 : decode cX9_about 138 = .ok (.bipush (-2), 2) := by decide +kernel
theorem dX9_about_140 : decode cX9_about 140 = .ok (.ireturn, 1) := by decide +kernel
theorem dX9_again_0 : decode cX9_again 0 = .ok (.aload_n 0, 1) := by decide +kernel
theorem dX9_again_1 : decode cX9_again 1 = .ok (.iconst 0, 1) := by decide +kernel
theorem dX9_again_2 : decode cX9_again 2 = .ok (.putfield 66, 3) := by decide +kernel
theorem dX9_again_5 : decode cX9_again 5 = .ok (.iload_n 1, 1) := by decide +kernel
theorem dX9_again_6 : decode cX9_again 6 = .ok (.i2l, 1) := by decide +kernel
theorem dX9_again_7 : decode cX9_again 7 = .ok (.lconst 0, 1) := by decide +kernel
theorem dX9_again_8 : decode cX9_again 8 = .ok (.lconst 1, 1) := by decide +kernel
theorem dX9_again_9 : decode cX9_again 9 = .ok (.invokestatic 72, 3) := by decide +kernel
theorem dX9_again_12 : decode cX9_again 12 = .ok (.ifCond .ne 5, 3) := by decide +kernel
theorem dX9_again_15 : decode cX9_again 15 = .ok (.iconst (-1), 1) := by decide +kernel
theorem dX9_again_16 : decode cX9_again 16 = .ok (.ireturn, 1) := by decide +kernel
theorem dX9_again_17 : decode cX9_again 17 = .ok (.aload_n 0, 1) := by decide +kernel
theorem dX9_again_18 : decode cX9_again 18 = .ok (.getfield 47, 3) := by decide +kernel
theorem dX9_again_21 : decode cX9_again 21 = .ok (.iload_n 1, 1) := by decide +kernel
theorem dX9_again_22 : decode cX9_again 22 = .ok (.baload, 1) := by decide +kernel
theorem dX9_again_23 : decode cX9_again 23 = .ok (.ifCond .ne 6, 3) := by decide +kernel
theorem dX9_again_26 : decode cX9_again 26 = .ok (.bipush (-3), 2) := by decide +kernel
theorem dX9_again_28 : decode cX9_again 28 = .ok (.ireturn, 1) := by decide +kernel
theorem dX9_again_29 : decode cX9_again 29 = .ok (.iconst 0, 1) := by decide +kernel
theorem dX9_again_30 : decode cX9_again 30 = .ok (.istore_n 2, 1) := by decide +kernel
theorem dX9_again_31 : decode cX9_again 31 = .ok (.iload_n 2, 1) := by decide +kernel
theorem dX9_again_32 : decode cX9_again 32 = .ok (.bipush 25, 2) := by decide +kernel
theorem dX9_again_34 : decode cX9_again 34 = .ok (.if_icmp .ge 26, 3) := by decide +kernel
theorem dX9_again_37 : decode cX9_again 37 = .ok (.aload_n 0, 1) := by decide +kernel
theorem dX9_again_38 : decode cX9_again 38 = .ok (.getfield 35, 3) := by decide +kernel
theorem dX9_again_41 : decode cX9_again 41 = .ok (.iload_n 2, 1) := by decide +kernel
theorem dX9_again_42 : decode cX9_again 42 = .ok (.aload_n 0, 1) := by decide +kernel
theorem dX9_again_43 : decode cX9_again 43 = .ok (.getfield 44, 3) := by decide +kernel
theorem dX9_again_46 : decode cX9_again 46 = .ok (.bipush 25, 2) := by decide +kernel
theorem dX9_again_48 : decode cX9_again 48 = .ok (.iload_n 1, 1) := by decide +kernel
theorem dX9_again_49 : decode cX9_again 49 = .ok (.imul, 1) := by decide +kernel
theorem dX9_again_50 : decode cX9_again 50 = .ok (.iload_n 2, 1) := by decide +kernel
theorem dX9_again_51 : decode cX9_again 51 = .ok (.iadd, 1) := by decide +kernel
theorem dX9_again_52 : decode cX9_again 52 = .ok (.iaload, 1) := by decide +kernel
theorem dX9_again_53 : decode cX9_again 53 = .ok (.iastore, 1) := by decide +kernel
theorem dX9_again_54 : decode cX9_again 54 = .ok (.iinc 2 1, 3) := by decide +kernel
theorem dX9_again_57 : decode cX9_again 57 = .ok (.goto (-26), 3) := by decide +kernel
theorem dX9_again_60 : decode cX9_again 60 = .ok (.aload_n 0, 1) := by decide +kernel
theorem dX9_again_61 : decode cX9_again 61 = .ok (.iconst 0, 1) := by decide +kernel
theorem dX9_again_62 : decode cX9_again 62 = .ok (.putfield 140, 3) := by decide +kernel
theorem dX9_again_65 : decode cX9_again 65 = .ok (.aload_n 0, 1) := by decide +kernel
theorem dX9_again_66 : decode cX9_again 66 = .ok (.getfield 35, 3) := by decide +kernel
theorem dX9_again_69 : decode cX9_again 69 = .ok (.bipush 24, 2) := by decide +kernel
theorem dX9_again_71 : decode cX9_again 71 = .ok (.iaload, 1) := by decide +kernel
theorem dX9_again_72 : decode cX9_again 72 = .ok (.ireturn, 1) := by decide +kernel
theorem dX9_aired_0 : decode cX9_aired 0 = .ok (.aload_n 0, 1) := by decide +kernel
theorem dX9_aired_1 : decode cX9_aired 1 = .ok (.iconst 0, 1) := by decide +kernel
theorem dX9_aired_2 : decode cX9_aired 2 = .ok (.putfield 66, 3) := by decide +kernel
theorem dX9_aired_5 : decode cX9_aired 5 = .ok (.aload_n 0, 1) := by decide +kernel
theorem dX9_aired_6 : decode cX9_aired 6 = .ok (.iload_n 1, 1) := by decide +kernel
theorem dX9_aired_7 : decode cX9_aired 7 = .ok (.invokevirtual 153, 3) := by decide +kernel
theorem dX9_aired_10 : decode cX9_aired 10 = .ok (.ifCond .eq 5, 3) := by decide +kernel
theorem dX9_aired_13 : decode cX9_aired 13 = .ok (.iconst (-1), 1) := by decide +kernel
theorem dX9_aired_14 : decode cX9_aired 14 = .ok (.ireturn, 1) := by decide +kernel
theorem dX9_aired_15 : decode cX9_aired 15 = .ok (.iconst 0, 1) := by decide +kernel
theorem dX9_aired_16 : decode cX9_aired 16 = .ok (.istore_n 2, 1) := by decide +kernel
theorem dX9_aired_17 : decode cX9_aired 17 = .ok (.iload_n 2, 1) := by decide +kernel
theorem dX9_aired_18 : decode cX9_aired 18 = .ok (.bipush 7, 2) := by decide +kernel
theorem dX9_aired_20 : decode cX9_aired 20 = .ok (.if_icmp .gt 51, 3) := by decide +kernel
theorem dX9_aired_23 : decode cX9_aired 23 = .ok (.iconst 0, 1) := by decide +kernel
theorem dX9_aired_24 : decode cX9_aired 24 = .ok (.istore_n 3, 1) := by decide +kernel
theorem dX9_aired_25 : decode cX9_aired 25 = .ok (.iload_n 3, 1) := by decide +kernel
theorem dX9_aired_26 : decode cX9_aired 26 = .ok (.iconst 3, 1) := by decide +kernel
theorem dX9_aired_27 : decode cX9_aired 27 = .ok (.iload_n 2, 1) := by decide +kernel
theorem dX9_aired_28 : decode cX9_aired 28 = .ok (.invokestatic 188, 3) := by decide +kernel
theorem dX9_aired_31 : decode cX9_aired 31 = .ok (.if_icmp .ge 34, 3) := by decide +kernel
theorem dX9_aired_34 : decode cX9_aired 34 = .ok (.aload_n 0, 1) := by decide +kernel
theorem dX9_aired_35 : decode cX9_aired 35 = .ok (.iload_n 1, 1) := by decide +kernel
theorem dX9_aired_36 : decode cX9_aired 36 = .ok (.iload_n 2, 1) := by decide +kernel
theorem dX9_aired_37 : decode cX9_aired 37 = .ok (.iload_n 3, 1) := by decide +kernel
theorem dX9_aired_38 : decode cX9_aired 38 = .ok (.invokevirtual 202, 3) := by decide +kernel
theorem dX9_aired_41 : decode cX9_aired 41 = .ok (.bipush 31, 2) := by decide +kernel
theorem dX9_aired_43 : decode cX9_aired 43 = .ok (.if_icmp .ne 16, 3) := by decide +kernel
theorem dX9_aired_46 : decode cX9_aired 46 = .ok (.aload_n 0, 1) := by decide +kernel
theorem dX9_aired_47 : decode cX9_aired 47 = .ok (.iload_n 1, 1) := by decide +kernel
theorem dX9_aired_48 : decode cX9_aired 48 = .ok (.iload_n 2, 1) := by decide +kernel
theorem dX9_aired_49 : decode cX9_aired 49 = .ok (.iload_n 3, 1) := by decide +kernel
theorem dX9_aired_50 : decode cX9_aired 50 = .ok (.iconst 1, 1) := by decide +kernel
theorem dX9_aired_51 : decode cX9_aired 51 = .ok (.invokevirtual 198, 3) := by decide +kernel
theorem dX9_aired_54 : decode cX9_aired 54 = .ok (.ifCond .eq 5, 3) := by decide +kernel
theorem dX9_aired_57 : decode cX9_aired 57 = .ok (.iload_n 2, 1) := by decide +kernel
theorem dX9_aired_58 : decode cX9_aired 58 = .ok (.ireturn, 1) := by decide +kernel
theorem dX9_aired_59 : decode cX9_aired 59 = .ok (.iinc 3 1, 3) := by decide +kernel
theorem dX9_aired_62 : decode cX9_aired 62 = .ok (.goto (-37), 3) := by decide +kernel
theorem dX9_aired_65 : decode cX9_aired 65 = .ok (.iinc 2 1, 3) := by decide +kernel
theorem dX9_aired_68 : decode cX9_aired 68 = .ok (.goto (-51), 3) := by decide +kernel
theorem dX9_aired_71 : decode cX9_aired 71 = .ok (.bipush (-9), 2) := by decide +kernel
theorem dX9_aired_73 : decode cX9_aired 73 = .ok (.ireturn, 1) := by decide +kernel
theorem dX9_begin_0 : decode cX9_begin 0 = .ok (.iconst 0, 1) := by decide +kernel
theorem dX9_begin_1 : decode cX9_begin 1 = .ok (.istore_n 1, 1) := by decide +kernel
theorem dX9_begin_2 : decode cX9_begin 2 = .ok (.iload_n 1, 1) := by decide +kernel
theorem dX9_begin_3 : decode cX9_begin 3 = .ok (.bipush 25, 2) := by decide +kernel
theorem dX9_begin_5 : decode cX9_begin 5 = .ok (.if_icmp .ge 21, 3) := by decide +kernel
theorem dX9_begin_8 : decode cX9_begin 8 = .ok (.aload_n 0, 1) := by decide +kernel
theorem dX9_begin_9 : decode cX9_begin 9 = .ok (.getfield 38, 3) := by decide +kernel
theorem dX9_begin_12 : decode cX9_begin 12 = .ok (.iload_n 1, 1) := by decide +kernel
theorem dX9_begin_13 : decode cX9_begin 13 = .ok (.aload_n 0, 1) := by decide +kernel
theorem dX9_begin_14 : decode cX9_begin 14 = .ok (.getfield 35, 3) := by decide +kernel
theorem dX9_begin_17 : decode cX9_begin 17 = .ok (.iload_n 1, 1) := by decide +kernel
theorem dX9_begin_18 : decode cX9_begin 18 = .ok (.iaload, 1) := by decide +kernel
theorem dX9_begin_19 : decode cX9_begin 19 = .ok (.iastore, 1) := by decide +kernel
theorem dX9_begin_20 : decode cX9_begin 20 = .ok (.iinc 1 1, 3) := by decide +kernel
theorem dX9_begin_23 : decode cX9_begin 23 = .ok (.goto (-21), 3) := by decide +kernel
theorem dX9_begin_26 : decode cX9_begin 26 = .ok (.return_, 1) := by decide +kernel
theorem dX9_bonesOf_0 : decode cX9_bonesOf 0 = .ok (.iconst 0, 1) := by decide +kernel
theorem dX9_bonesOf_1 : decode cX9_bonesOf 1 = .ok (.istore_n 1, 1) := by decide +kernel
theorem dX9_bonesOf_2 : decode cX9_bonesOf 2 = .ok (.iconst 0, 1) := by decide +kernel
theorem dX9_bonesOf_3 : decode cX9_bonesOf 3 = .ok (.istore_n 2, 1) := by decide +kernel
theorem dX9_bonesOf_4 : decode cX9_bonesOf 4 = .ok (.iload_n 2, 1) := by decide +kernel
theorem dX9_bonesOf_5 : decode cX9_bonesOf 5 = .ok (.iconst 4, 1) := by decide +kernel
theorem dX9_bonesOf_6 : decode cX9_bonesOf 6 = .ok (.if_icmp .ge 17, 3) := by decide +kernel
theorem dX9_bonesOf_9 : decode cX9_bonesOf 9 = .ok (.iload_n 1, 1) := by decide +kernel
theorem dX9_bonesOf_10 : decode cX9_bonesOf 10 = .ok (.aload_n 0, 1) := by decide +kernel
theorem dX9_bonesOf_11 : decode cX9_bonesOf 11 = .ok (.iconst 4, 1) := by decide +kernel
theorem dX9_bonesOf_12 : decode cX9_bonesOf 12 = .ok (.iload_n 2, 1) := by decide +kernel
theorem dX9_bonesOf_13 : decode cX9_bonesOf 13 = .ok (.iadd, 1) := by decide +kernel
theorem dX9_bonesOf_14 : decode cX9_bonesOf 14 = .ok (.iaload, 1) := by decide +kernel
theorem dX9_bonesOf_15 : decode cX9_bonesOf 15 = .ok (.iadd, 1) := by decide +kernel
theorem dX9_bonesOf_16 : decode cX9_bonesOf 16 = .ok (.istore_n 1, 1) := by decide +kernel
theorem dX9_bonesOf_17 : decode cX9_bonesOf 17 = .ok (.iinc 2 1, 3) := by decide +kernel
theorem dX9_bonesOf_20 : decode cX9_bonesOf 20 = .ok (.goto (-16), 3) := by decide +kernel
theorem dX9_bonesOf_23 : decode cX9_bonesOf 23 = .ok (.iload_n 1, 1) := by decide +kernel
theorem dX9_bonesOf_24 : decode cX9_bonesOf 24 = .ok (.ireturn, 1) := by decide +kernel
theorem dX9_caught_0 : decode cX9_caught 0 = .ok (.aload_n 0, 1) := by decide +kernel
theorem dX9_caught_1 : decode cX9_caught 1 = .ok (.iconst 0, 1) := by decide +kernel
theorem dX9_caught_2 : decode cX9_caught 2 = .ok (.putfield 66, 3) := by decide +kernel
theorem dX9_caught_5 : decode cX9_caught 5 = .ok (.iload_n 1, 1) := by decide +kernel
theorem dX9_caught_6 : decode cX9_caught 6 = .ok (.i2l, 1) := by decide +kernel
theorem dX9_caught_7 : decode cX9_caught 7 = .ok (.lconst 0, 1) := by decide +kernel
theorem dX9_caught_8 : decode cX9_caught 8 = .ok (.ldc2_w 180, 3) := by decide +kernel
theorem dX9_caught_11 : decode cX9_caught 11 = .ok (.invokestatic 72, 3) := by decide +kernel
theorem dX9_caught_14 : decode cX9_caught 14 = .ok (.ifCond .ne 6, 3) := by decide +kernel
theorem dX9_caught_17 : decode cX9_caught 17 = .ok (.bipush (-2), 2) := by decide +kernel
theorem dX9_caught_19 : decode cX9_caught 19 = .ok (.ireturn, 1) := by decide +kernel
theorem dX9_caught_20 : decode cX9_caught 20 = .ok (.aload_n 0, 1) := by decide +kernel
theorem dX9_caught_21 : decode cX9_caught 21 = .ok (.invokevirtual 182, 3) := by decide +kernel
theorem dX9_caught_24 : decode cX9_caught 24 = .ok (.iconst 0, 1) := by decide +kernel
theorem dX9_caught_25 : decode cX9_caught 25 = .ok (.istore_n 2, 1) := by decide +kernel
theorem dX9_caught_26 : decode cX9_caught 26 = .ok (.iconst 0, 1) := by decide +kernel
theorem dX9_caught_27 : decode cX9_caught 27 = .ok (.istore_n 3, 1) := by decide +kernel
theorem dX9_caught_28 : decode cX9_caught 28 = .ok (.iload_n 3, 1) := by decide +kernel
theorem dX9_caught_29 : decode cX9_caught 29 = .ok (.iload_n 1, 1) := by decide +kernel
theorem dX9_caught_30 : decode cX9_caught 30 = .ok (.if_icmp .ge 25, 3) := by decide +kernel
theorem dX9_caught_33 : decode cX9_caught 33 = .ok (.iload_n 2, 1) := by decide +kernel
theorem dX9_caught_34 : decode cX9_caught 34 = .ok (.aload_n 0, 1) := by decide +kernel
theorem dX9_caught_35 : decode cX9_caught 35 = .ok (.aload_n 0, 1) := by decide +kernel
theorem dX9_caught_36 : decode cX9_caught 36 = .ok (.getfield 38, 3) := by decide +kernel
theorem dX9_caught_39 : decode cX9_caught 39 = .ok (.aload_n 0, 1) := by decide +kernel
theorem dX9_caught_40 : decode cX9_caught 40 = .ok (.getfield 13, 3) := by decide +kernel
theorem dX9_caught_43 : decode cX9_caught 43 = .ok (.iconst 0, 1) := by decide +kernel
theorem dX9_caught_44 : decode cX9_caught 44 = .ok (.invokevirtual 176, 3) := by decide +kernel
theorem dX9_caught_47 : decode cX9_caught 47 = .ok (.ior, 1) := by decide +kernel
theorem dX9_caught_48 : decode cX9_caught 48 = .ok (.istore_n 2, 1) := by decide +kernel
theorem dX9_caught_49 : decode cX9_caught 49 = .ok (.iinc 3 1, 3) := by decide +kernel
theorem dX9_caught_52 : decode cX9_caught 52 = .ok (.goto (-24), 3) := by decide +kernel
theorem dX9_caught_55 : decode cX9_caught 55 = .ok (.iload_n 2, 1) := by decide +kernel
theorem dX9_caught_56 : decode cX9_caught 56 = .ok (.ireturn, 1) := by decide +kernel
theorem dX9_chance_0 : decode cX9_chance 0 = .ok (.aload_n 0, 1) := by decide +kernel
theorem dX9_chance_1 : decode cX9_chance 1 = .ok (.iconst 0, 1) := by decide +kernel
theorem dX9_chance_2 : decode cX9_chance 2 = .ok (.putfield 66, 3) := by decide +kernel
theorem dX9_chance_5 : decode cX9_chance 5 = .ok (.aload_n 0, 1) := by decide +kernel
theorem dX9_chance_6 : decode cX9_chance 6 = .ok (.iload_n 1, 1) := by decide +kernel
theorem dX9_chance_7 : decode cX9_chance 7 = .ok (.invokevirtual 161, 3) := by decide +kernel
theorem dX9_chance_10 : decode cX9_chance 10 = .ok (.ifCond .eq 5, 3) := by decide +kernel
theorem dX9_chance_13 : decode cX9_chance 13 = .ok (.iconst (-1), 1) := by decide +kernel
theorem dX9_chance_14 : decode cX9_chance 14 = .ok (.ireturn, 1) := by decide +kernel
theorem dX9_chance_15 : decode cX9_chance 15 = .ok (.iload_n 2, 1) := by decide +kernel
theorem dX9_chance_16 : decode cX9_chance 16 = .ok (.i2l, 1) := by decide +kernel
theorem dX9_chance_17 : decode cX9_chance 17 = .ok (.lconst 0, 1) := by decide +kernel
theorem dX9_chance_18 : decode cX9_chance 18 = .ok (.ldc2_w 180, 3) := by decide +kernel
theorem dX9_chance_21 : decode cX9_chance 21 = .ok (.invokestatic 72, 3) := by decide +kernel
theorem dX9_chance_24 : decode cX9_chance 24 = .ok (.ifCond .ne 6, 3) := by decide +kernel
theorem dX9_chance_27 : decode cX9_chance 27 = .ok (.bipush (-2), 2) := by decide +kernel
theorem dX9_chance_29 : decode cX9_chance 29 = .ok (.ireturn, 1) := by decide +kernel
theorem dX9_chance_30 : decode cX9_chance 30 = .ok (.iconst 0, 1) := by decide +kernel
theorem dX9_chance_31 : decode cX9_chance 31 = .ok (.istore 4, 2) := by decide +kernel
theorem dX9_chance_33 : decode cX9_chance 33 = .ok (.iconst 0, 1) := by decide +kernel
theorem dX9_chance_34 : decode cX9_chance 34 = .ok (.istore 5, 2) := by decide +kernel
theorem dX9_chance_36 : decode cX9_chance 36 = .ok (.iload 5, 2) := by decide +kernel
theorem dX9_chance_38 : decode cX9_chance 38 = .ok (.iconst 4, 1) := by decide +kernel
theorem dX9_chance_39 : decode cX9_chance 39 = .ok (.if_icmp .ge 61, 3) := by decide +kernel
theorem dX9_chance_42 : decode cX9_chance 42 = .ok (.aload_n 0, 1) := by decide +kernel
theorem dX9_chance_43 : decode cX9_chance 43 = .ok (.invokevirtual 182, 3) := by decide +kernel
theorem dX9_chance_46 : decode cX9_chance 46 = .ok (.iconst 0, 1) := by decide +kernel
theorem dX9_chance_47 : decode cX9_chance 47 = .ok (.istore 6, 2) := by decide +kernel
theorem dX9_chance_49 : decode cX9_chance 49 = .ok (.iconst 0, 1) := by decide +kernel
theorem dX9_chance_50 : decode cX9_chance 50 = .ok (.istore 7, 2) := by decide +kernel
theorem dX9_chance_52 : decode cX9_chance 52 = .ok (.iload 7, 2) := by decide +kernel
theorem dX9_chance_54 : decode cX9_chance 54 = .ok (.iload_n 2, 1) := by decide +kernel
theorem dX9_chance_55 : decode cX9_chance 55 = .ok (.if_icmp .ge 28, 3) := by decide +kernel
theorem dX9_chance_58 : decode cX9_chance 58 = .ok (.iload 6, 2) := by decide +kernel
theorem dX9_chance_60 : decode cX9_chance 60 = .ok (.aload_n 0, 1) := by decide +kernel
theorem dX9_chance_61 : decode cX9_chance 61 = .ok (.aload_n 0, 1) := by decide +kernel
theorem dX9_chance_62 : decode cX9_chance 62 = .ok (.getfield 38, 3) := by decide +kernel
theorem dX9_chance_65 : decode cX9_chance 65 = .ok (.aload_n 0, 1) := by decide +kernel
theorem dX9_chance_66 : decode cX9_chance 66 = .ok (.getfield 13, 3) := by decide +kernel
theorem dX9_chance_69 : decode cX9_chance 69 = .ok (.iload 5, 2) := by decide +kernel
theorem dX9_chance_71 : decode cX9_chance 71 = .ok (.invokevirtual 176, 3) := by decide +kernel
theorem dX9_chance_74 : decode cX9_chance 74 = .ok (.ior, 1) := by decide +kernel
theorem dX9_chance_75 : decode cX9_chance 75 = .ok (.istore 6, 2) := by decide +kernel
theorem dX9_chance_77 : decode cX9_chance 77 = .ok (.iinc 7 1, 3) := by decide +kernel
theorem dX9_chance_80 : decode cX9_chance 80 = .ok (.goto (-28), 3) := by decide +kernel
theorem dX9_chance_83 : decode cX9_chance 83 = .ok (.iload 4, 2) := by decide +kernel
theorem dX9_chance_85 : decode cX9_chance 85 = .ok (.iload 6, 2) := by decide +kernel
theorem dX9_chance_87 : decode cX9_chance 87 = .ok (.iload_n 1, 1) := by decide +kernel
theorem dX9_chance_88 : decode cX9_chance 88 = .ok (.ishr, 1) := by decide +kernel
theorem dX9_chance_89 : decode cX9_chance 89 = .ok (.iconst 1, 1) := by decide +kernel
theorem dX9_chance_90 : decode cX9_chance 90 = .ok (.iand, 1) := by decide +kernel
theorem dX9_chance_91 : decode cX9_chance 91 = .ok (.iadd, 1) := by decide +kernel
theorem dX9_chance_92 : decode cX9_chance 92 = .ok (.istore 4, 2) := by decide +kernel
theorem dX9_chance_94 : decode cX9_chance 94 = .ok (.iinc 5 1, 3) := by decide +kernel
theorem dX9_chance_97 : decode cX9_chance 97 = .ok (.goto (-61), 3) := by decide +kernel
theorem dX9_chance_100 : decode cX9_chance 100 = .ok (.iload 4, 2) := by decide +kernel
theorem dX9_chance_102 : decode cX9_chance 102 = .ok (.iconst 4, 1) := by decide +kernel
theorem dX9_chance_103 : decode cX9_chance 103 = .ok (.irem, 1) := by decide +kernel
theorem dX9_chance_104 : decode cX9_chance 104 = .ok (.ifCond .ne 7, 3) := by decide +kernel
theorem dX9_chance_107 : decode cX9_chance 107 = .ok (.iconst 4, 1) := by decide +kernel
theorem dX9_chance_108 : decode cX9_chance 108 = .ok (.goto 14, 3) := by decide +kernel
theorem dX9_chance_111 : decode cX9_chance 111 = .ok (.iload 4, 2) := by decide +kernel
theorem dX9_chance_113 : decode cX9_chance 113 = .ok (.iconst 2, 1) := by decide +kernel
theorem dX9_chance_114 : decode cX9_chance 114 = .ok (.if_icmp .ne 7, 3) := by decide +kernel
theorem dX9_chance_117 : decode cX9_chance 117 = .ok (.iconst 2, 1) := by decide +kernel
theorem dX9_chance_118 : decode cX9_chance 118 = .ok (.goto 4, 3) := by decide +kernel
theorem dX9_chance_121 : decode cX9_chance 121 = .ok (.iconst 1, 1) := by decide +kernel
theorem dX9_chance_122 : decode cX9_chance 122 = .ok (.istore 5, 2) := by decide +kernel
theorem dX9_chance_124 : decode cX9_chance 124 = .ok (.iload_n 3, 1) := by decide +kernel
theorem dX9_chance_125 : decode cX9_chance 125 = .ok (.ifCond .eq 11, 3) := by decide +kernel
theorem dX9_chance_128 : decode cX9_chance 128 = .ok (.iload 4, 2) := by decide +kernel
theorem dX9_chance_130 : decode cX9_chance 130 = .ok (.iload 5, 2) := by decide +kernel
theorem dX9_chance_132 : decode cX9_chance 132 = .ok (.idiv, 1) := by decide +kernel
theorem dX9_chance_133 : decode cX9_chance 133 = .ok (.goto 7, 3) := by decide +kernel
theorem dX9_chance_136 : decode cX9_chance 136 = .ok (.iconst 4, 1) := by decide +kernel
theorem dX9_chance_137 : decode cX9_chance 137 = .ok (.iload 5, 2) := by decide +kernel
theorem dX9_chance_139 : decode cX9_chance 139 = .ok (.idiv, 1) := by decide +kernel
theorem dX9_chance_140 : decode cX9_chance 140 = .ok (.ireturn, 1) := by decide +kernel
theorem dX9_comes_0 : decode cX9_comes 0 = .ok (.aload_n 0, 1) := by decide +kernel
theorem dX9_comes_1 : decode cX9_comes 1 = .ok (.getfield 29, 3) := by decide +kernel
theorem dX9_comes_4 : decode cX9_comes 4 = .ok (.iconst 4, 1) := by decide +kernel
theorem dX9_comes_5 : decode cX9_comes 5 = .ok (.iload_n 1, 1) := by decide +kernel
theorem dX9_comes_6 : decode cX9_comes 6 = .ok (.imul, 1) := by decide +kernel
theorem dX9_comes_7 : decode cX9_comes 7 = .ok (.iconst 3, 1) := by decide +kernel
theorem dX9_comes_8 : decode cX9_comes 8 = .ok (.iadd, 1) := by decide +kernel
theorem dX9_comes_9 : decode cX9_comes 9 = .ok (.iaload, 1) := by decide +kernel
theorem dX9_comes_10 : decode cX9_comes 10 = .ok (.istore_n 3, 1) := by decide +kernel
theorem dX9_comes_11 : decode cX9_comes 11 = .ok (.iload_n 3, 1) := by decide +kernel
theorem dX9_comes_12 : decode cX9_comes 12 = .ok (.bipush (-9), 2) := by decide +kernel
theorem dX9_comes_14 : decode cX9_comes 14 = .ok (.if_icmp .eq 22, 3) := by decide +kernel
theorem dX9_comes_17 : decode cX9_comes 17 = .ok (.iload_n 3, 1) := by decide +kernel
theorem dX9_comes_18 : decode cX9_comes 18 = .ok (.iload_n 2, 1) := by decide +kernel
theorem dX9_comes_19 : decode cX9_comes 19 = .ok (.if_icmp .eq 17, 3) := by decide +kernel
theorem dX9_comes_22 : decode cX9_comes 22 = .ok (.aload_n 0, 1) := by decide +kernel
theorem dX9_comes_23 : decode cX9_comes 23 = .ok (.getfield 29, 3) := by decide +kernel
theorem dX9_comes_26 : decode cX9_comes 26 = .ok (.iconst 4, 1) := by decide +kernel
theorem dX9_comes_27 : decode cX9_comes 27 = .ok (.iload_n 3, 1) := by decide +kernel
theorem dX9_comes_28 : decode cX9_comes 28 = .ok (.imul, 1) := by decide +kernel
theorem dX9_comes_29 : decode cX9_comes 29 = .ok (.iconst 3, 1) := by decide +kernel
theorem dX9_comes_30 : decode cX9_comes 30 = .ok (.iadd, 1) := by decide +kernel
theorem dX9_comes_31 : decode cX9_comes 31 = .ok (.iaload, 1) := by decide +kernel
theorem dX9_comes_32 : decode cX9_comes 32 = .ok (.istore_n 3, 1) := by decide +kernel
theorem dX9_comes_33 : decode cX9_comes 33 = .ok (.goto (-22), 3) := by decide +kernel
theorem dX9_comes_36 : decode cX9_comes 36 = .ok (.iload_n 3, 1) := by decide +kernel
theorem dX9_comes_37 : decode cX9_comes 37 = .ok (.iload_n 2, 1) := by decide +kernel
theorem dX9_comes_38 : decode cX9_comes 38 = .ok (.if_icmp .ne 7, 3) := by decide +kernel
theorem dX9_comes_41 : decode cX9_comes 41 = .ok (.iconst 1, 1) := by decide +kernel
theorem dX9_comes_42 : decode cX9_comes 42 = .ok (.goto 4, 3) := by decide +kernel
theorem dX9_comes_45 : decode cX9_comes 45 = .ok (.iconst 0, 1) := by decide +kernel
theorem dX9_comes_46 : decode cX9_comes 46 = .ok (.ireturn, 1) := by decide +kernel
theorem dX9_days_0 : decode cX9_days 0 = .ok (.aload_n 0, 1) := by decide +kernel
theorem dX9_days_1 : decode cX9_days 1 = .ok (.iconst 0, 1) := by decide +kernel
theorem dX9_days_2 : decode cX9_days 2 = .ok (.putfield 66, 3) := by decide +kernel
theorem dX9_days_5 : decode cX9_days 5 = .ok (.iload_n 1, 1) := by decide +kernel
theorem dX9_days_6 : decode cX9_days 6 = .ok (.i2l, 1) := by decide +kernel
theorem dX9_days_7 : decode cX9_days 7 = .ok (.lconst 1, 1) := by decide +kernel
theorem dX9_days_8 : decode cX9_days 8 = .ok (.ldc2_w 233, 3) := by decide +kernel
theorem dX9_days_11 : decode cX9_days 11 = .ok (.invokestatic 72, 3) := by decide +kernel
theorem dX9_days_14 : decode cX9_days 14 = .ok (.ifCond .ne 6, 3) := by decide +kernel
theorem dX9_days_17 : decode cX9_days 17 = .ok (.bipush (-2), 2) := by decide +kernel
theorem dX9_days_19 : decode cX9_days 19 = .ok (.ireturn, 1) := by decide +kernel
theorem dX9_days_20 : decode cX9_days 20 = .ok (.aload_n 0, 1) := by decide +kernel
theorem dX9_days_21 : decode cX9_days 21 = .ok (.invokevirtual 182, 3) := by decide +kernel
theorem dX9_days_24 : decode cX9_days 24 = .ok (.iconst 0, 1) := by decide +kernel
theorem dX9_days_25 : decode cX9_days 25 = .ok (.istore_n 2, 1) := by decide +kernel
theorem dX9_days_26 : decode cX9_days 26 = .ok (.iconst 0, 1) := by decide +kernel
theorem dX9_days_27 : decode cX9_days 27 = .ok (.istore_n 3, 1) := by decide +kernel
theorem dX9_days_28 : decode cX9_days 28 = .ok (.iload_n 3, 1) := by decide +kernel
theorem dX9_days_29 : decode cX9_days 29 = .ok (.iload_n 1, 1) := by decide +kernel
theorem dX9_days_30 : decode cX9_days 30 = .ok (.if_icmp .ge 85, 3) := by decide +kernel
theorem dX9_days_33 : decode cX9_days 33 = .ok (.aload_n 0, 1) := by decide +kernel
theorem dX9_days_34 : decode cX9_days 34 = .ok (.aload_n 0, 1) := by decide +kernel
theorem dX9_days_35 : decode cX9_days 35 = .ok (.getfield 229, 3) := by decide +kernel
theorem dX9_days_38 : decode cX9_days 38 = .ok (.ldc2_w 235, 3) := by decide +kernel
theorem dX9_days_41 : decode cX9_days 41 = .ok (.lmul, 1) := by decide +kernel
theorem dX9_days_42 : decode cX9_days 42 = .ok (.ldc2_w 237, 3) := by decide +kernel
theorem dX9_days_45 : decode cX9_days 45 = .ok (.ladd, 1) := by decide +kernel
theorem dX9_days_46 : decode cX9_days 46 = .ok (.putfield 229, 3) := by decide +kernel
theorem dX9_days_49 : decode cX9_days 49 = .ok (.aload_n 0, 1) := by decide +kernel
theorem dX9_days_50 : decode cX9_days 50 = .ok (.getfield 229, 3) := by decide +kernel
theorem dX9_days_53 : decode cX9_days 53 = .ok (.bipush 33, 2) := by decide +kernel
theorem dX9_days_55 : decode cX9_days 55 = .ok (.lushr, 1) := by decide +kernel
theorem dX9_days_56 : decode cX9_days 56 = .ok (.ldc2_w 206, 3) := by decide +kernel
theorem dX9_days_59 : decode cX9_days 59 = .ok (.lrem, 1) := by decide +kernel
theorem dX9_days_60 : decode cX9_days 60 = .ok (.l2i, 1) := by decide +kernel
theorem dX9_days_61 : decode cX9_days 61 = .ok (.istore 4, 2) := by decide +kernel
theorem dX9_days_63 : decode cX9_days 63 = .ok (.iload 4, 2) := by decide +kernel
theorem dX9_days_65 : decode cX9_days 65 = .ok (.iconst 3, 1) := by decide +kernel
theorem dX9_days_66 : decode cX9_days 66 = .ok (.idiv, 1) := by decide +kernel
theorem dX9_days_67 : decode cX9_days 67 = .ok (.aload_n 0, 1) := by decide +kernel
theorem dX9_days_68 : decode cX9_days 68 = .ok (.getfield 69, 3) := by decide +kernel
theorem dX9_days_71 : decode cX9_days 71 = .ok (.if_icmp .ge 19, 3) := by decide +kernel
theorem dX9_days_74 : decode cX9_days 74 = .ok (.aload_n 0, 1) := by decide +kernel
theorem dX9_days_75 : decode cX9_days 75 = .ok (.aload_n 0, 1) := by decide +kernel
theorem dX9_days_76 : decode cX9_days 76 = .ok (.getfield 38, 3) := by decide +kernel
theorem dX9_days_79 : decode cX9_days 79 = .ok (.iload 4, 2) := by decide +kernel
theorem dX9_days_81 : decode cX9_days 81 = .ok (.iconst 3, 1) := by decide +kernel
theorem dX9_days_82 : decode cX9_days 82 = .ok (.idiv, 1) := by decide +kernel
theorem dX9_days_83 : decode cX9_days 83 = .ok (.iload 4, 2) := by decide +kernel
theorem dX9_days_85 : decode cX9_days 85 = .ok (.iconst 3, 1) := by decide +kernel
theorem dX9_days_86 : decode cX9_days 86 = .ok (.irem, 1) := by decide +kernel
theorem dX9_days_87 : decode cX9_days 87 = .ok (.invokevirtual 169, 3) := by decide +kernel
theorem dX9_days_90 : decode cX9_days 90 = .ok (.iload_n 2, 1) := by decide +kernel
theorem dX9_days_91 : decode cX9_days 91 = .ok (.aload_n 0, 1) := by decide +kernel
theorem dX9_days_92 : decode cX9_days 92 = .ok (.aload_n 0, 1) := by decide +kernel
theorem dX9_days_93 : decode cX9_days 93 = .ok (.getfield 38, 3) := by decide +kernel
theorem dX9_days_96 : decode cX9_days 96 = .ok (.aload_n 0, 1) := by decide +kernel
theorem dX9_days_97 : decode cX9_days 97 = .ok (.getfield 13, 3) := by decide +kernel
theorem dX9_days_100 : decode cX9_days 100 = .ok (.iconst 0, 1) := by decide +kernel
theorem dX9_days_101 : decode cX9_days 101 = .ok (.invokevirtual 176, 3) := by decide +kernel
theorem dX9_days_104 : decode cX9_days 104 = .ok (.invokestatic 173, 3) := by decide +kernel
theorem dX9_days_107 : decode cX9_days 107 = .ok (.iadd, 1) := by decide +kernel
theorem dX9_days_108 : decode cX9_days 108 = .ok (.istore_n 2, 1) := by decide +kernel
theorem dX9_days_109 : decode cX9_days 109 = .ok (.iinc 3 1, 3) := by decide +kernel
theorem dX9_days_112 : decode cX9_days 112 = .ok (.goto (-84), 3) := by decide +kernel
theorem dX9_days_115 : decode cX9_days 115 = .ok (.iload_n 2, 1) := by decide +kernel
theorem dX9_days_116 : decode cX9_days 116 = .ok (.ireturn, 1) := by decide +kernel
theorem dX9_dog_0 : decode cX9_dog 0 = .ok (.aload_n 0, 1) := by decide +kernel
theorem dX9_dog_1 : decode cX9_dog 1 = .ok (.iconst 0, 1) := by decide +kernel
theorem dX9_dog_2 : decode cX9_dog 2 = .ok (.putfield 66, 3) := by decide +kernel
theorem dX9_dog_5 : decode cX9_dog 5 = .ok (.aload_n 0, 1) := by decide +kernel
theorem dX9_dog_6 : decode cX9_dog 6 = .ok (.iload_n 1, 1) := by decide +kernel
theorem dX9_dog_7 : decode cX9_dog 7 = .ok (.invokevirtual 153, 3) := by decide +kernel
theorem dX9_dog_10 : decode cX9_dog 10 = .ok (.ifCond .eq 5, 3) := by decide +kernel
theorem dX9_dog_13 : decode cX9_dog 13 = .ok (.iconst (-1), 1) := by decide +kernel
theorem dX9_dog_14 : decode cX9_dog 14 = .ok (.ireturn, 1) := by decide +kernel
theorem dX9_dog_15 : decode cX9_dog 15 = .ok (.iload_n 2, 1) := by decide +kernel
theorem dX9_dog_16 : decode cX9_dog 16 = .ok (.tableswitch 88 0 5 #[40, 47, 47, 58, 68, 77], 40) := by decide +kernel
theorem dX9_dog_56 : decode cX9_dog 56 = .ok (.aload_n 0, 1) := by decide +kernel
theorem dX9_dog_57 : decode cX9_dog 57 = .ok (.getfield 35, 3) := by decide +kernel
theorem dX9_dog_60 : decode cX9_dog 60 = .ok (.iload_n 1, 1) := by decide +kernel
theorem dX9_dog_61 : decode cX9_dog 61 = .ok (.iaload, 1) := by decide +kernel
theorem dX9_dog_62 : decode cX9_dog 62 = .ok (.ireturn, 1) := by decide +kernel
theorem dX9_dog_63 : decode cX9_dog 63 = .ok (.aload_n 0, 1) := by decide +kernel
theorem dX9_dog_64 : decode cX9_dog 64 = .ok (.getfield 20, 3) := by decide +kernel
theorem dX9_dog_67 : decode cX9_dog 67 = .ok (.iconst 4, 1) := by decide +kernel
theorem dX9_dog_68 : decode cX9_dog 68 = .ok (.iload_n 1, 1) := by decide +kernel
theorem dX9_dog_69 : decode cX9_dog 69 = .ok (.imul, 1) := by decide +kernel
theorem dX9_dog_70 : decode cX9_dog 70 = .ok (.iload_n 2, 1) := by decide +kernel
theorem dX9_dog_71 : decode cX9_dog 71 = .ok (.iadd, 1) := by decide +kernel
theorem dX9_dog_72 : decode cX9_dog 72 = .ok (.iaload, 1) := by decide +kernel
theorem dX9_dog_73 : decode cX9_dog 73 = .ok (.ireturn, 1) := by decide +kernel
theorem dX9_dog_74 : decode cX9_dog 74 = .ok (.aload_n 0, 1) := by decide +kernel
theorem dX9_dog_75 : decode cX9_dog 75 = .ok (.aload_n 0, 1) := by decide +kernel
theorem dX9_dog_76 : decode cX9_dog 76 = .ok (.getfield 35, 3) := by decide +kernel
theorem dX9_dog_79 : decode cX9_dog 79 = .ok (.iload_n 1, 1) := by decide +kernel
theorem dX9_dog_80 : decode cX9_dog 80 = .ok (.invokevirtual 157, 3) := by decide +kernel
theorem dX9_dog_83 : decode cX9_dog 83 = .ok (.ireturn, 1) := by decide +kernel
theorem dX9_dog_84 : decode cX9_dog 84 = .ok (.aload_n 0, 1) := by decide +kernel
theorem dX9_dog_85 : decode cX9_dog 85 = .ok (.getfield 35, 3) := by decide +kernel
theorem dX9_dog_88 : decode cX9_dog 88 = .ok (.iconst 4, 1) := by decide +kernel
theorem dX9_dog_89 : decode cX9_dog 89 = .ok (.iload_n 1, 1) := by decide +kernel
theorem dX9_dog_90 : decode cX9_dog 90 = .ok (.iadd, 1) := by decide +kernel
theorem dX9_dog_91 : decode cX9_dog 91 = .ok (.iaload, 1) := by decide +kernel
theorem dX9_dog_92 : decode cX9_dog 92 = .ok (.ireturn, 1) := by decide +kernel
theorem dX9_dog_93 : decode cX9_dog 93 = .ok (.aload_n 0, 1) := by decide +kernel
theorem dX9_dog_94 : decode cX9_dog 94 = .ok (.getfield 20, 3) := by decide +kernel
theorem dX9_dog_97 : decode cX9_dog 97 = .ok (.iconst 4, 1) := by decide +kernel
theorem dX9_dog_98 : decode cX9_dog 98 = .ok (.iload_n 1, 1) := by decide +kernel
theorem dX9_dog_99 : decode cX9_dog 99 = .ok (.imul, 1) := by decide +kernel
theorem dX9_dog_100 : decode cX9_dog 100 = .ok (.iconst 3, 1) := by decide +kernel
theorem dX9_dog_101 : decode cX9_dog 101 = .ok (.iadd, 1) := by decide +kernel
theorem dX9_dog_102 : decode cX9_dog 102 = .ok (.iaload, 1) := by decide +kernel
theorem dX9_dog_103 : decode cX9_dog 103 = .ok (.ireturn, 1) := by decide +kernel
theorem dX9_dog_104 : decode cX9_dog 104 = .ok (.bipush (-2), 2) := by decide +kernel
theorem dX9_dog_106 : decode cX9_dog 106 = .ok (.ireturn, 1) := by decide +kernel
theorem dX9_fault_0 : decode cX9_fault 0 = .ok (.aload_n 0, 1) := by decide +kernel
theorem dX9_fault_1 : decode cX9_fault 1 = .ok (.iconst 0, 1) := by decide +kernel
theorem dX9_fault_2 : decode cX9_fault 2 = .ok (.putfield 66, 3) := by decide +kernel
theorem dX9_fault_5 : decode cX9_fault 5 = .ok (.aload_n 0, 1) := by decide +kernel
theorem dX9_fault_6 : decode cX9_fault 6 = .ok (.invokevirtual 137, 3) := by decide +kernel
theorem dX9_fault_9 : decode cX9_fault 9 = .ok (.ireturn, 1) := by decide +kernel
theorem dX9_figure_0 : decode cX9_figure 0 = .ok (.aload_n 0, 1) := by decide +kernel
theorem dX9_figure_1 : decode cX9_figure 1 = .ok (.getfield 84, 3) := by decide +kernel
theorem dX9_figure_4 : decode cX9_figure 4 = .ok (.aload_n 0, 1) := by decide +kernel
theorem dX9_figure_5 : decode cX9_figure 5 = .ok (.getfield 81, 3) := by decide +kernel
theorem dX9_figure_8 : decode cX9_figure 8 = .ok (.if_icmp .eq 26, 3) := by decide +kernel
theorem dX9_figure_11 : decode cX9_figure 11 = .ok (.aload_n 0, 1) := by decide +kernel
theorem dX9_figure_12 : decode cX9_figure 12 = .ok (.getfield 7, 3) := by decide +kernel
theorem dX9_figure_15 : decode cX9_figure 15 = .ok (.aload_n 0, 1) := by decide +kernel
theorem dX9_figure_16 : decode cX9_figure 16 = .ok (.getfield 84, 3) := by decide +kernel
theorem dX9_figure_19 : decode cX9_figure 19 = .ok (.iaload, 1) := by decide +kernel
theorem dX9_figure_20 : decode cX9_figure 20 = .ok (.bipush 48, 2) := by decide +kernel
theorem dX9_figure_22 : decode cX9_figure 22 = .ok (.isub, 1) := by decide +kernel
theorem dX9_figure_23 : decode cX9_figure 23 = .ok (.i2l, 1) := by decide +kernel
theorem dX9_figure_24 : decode cX9_figure 24 = .ok (.iload_n 1, 1) := by decide +kernel
theorem dX9_figure_25 : decode cX9_figure 25 = .ok (.i2l, 1) := by decide +kernel
theorem dX9_figure_26 : decode cX9_figure 26 = .ok (.iload_n 2, 1) := by decide +kernel
theorem dX9_figure_27 : decode cX9_figure 27 = .ok (.i2l, 1) := by decide +kernel
theorem dX9_figure_28 : decode cX9_figure 28 = .ok (.invokestatic 72, 3) := by decide +kernel
theorem dX9_figure_31 : decode cX9_figure 31 = .ok (.ifCond .ne 6, 3) := by decide +kernel
theorem dX9_figure_34 : decode cX9_figure 34 = .ok (.bipush (-9), 2) := by decide +kernel
theorem dX9_figure_36 : decode cX9_figure 36 = .ok (.ireturn, 1) := by decide +kernel
theorem dX9_figure_37 : decode cX9_figure 37 = .ok (.aload_n 0, 1) := by decide +kernel
theorem dX9_figure_38 : decode cX9_figure 38 = .ok (.dup, 1) := by decide +kernel
theorem dX9_figure_39 : decode cX9_figure 39 = .ok (.getfield 84, 3) := by decide +kernel
theorem dX9_figure_42 : decode cX9_figure 42 = .ok (.iconst 1, 1) := by decide +kernel
theorem dX9_figure_43 : decode cX9_figure 43 = .ok (.iadd, 1) := by decide +kernel
theorem dX9_figure_44 : decode cX9_figure 44 = .ok (.putfield 84, 3) := by decide +kernel
theorem dX9_figure_47 : decode cX9_figure 47 = .ok (.aload_n 0, 1) := by decide +kernel
theorem dX9_figure_48 : decode cX9_figure 48 = .ok (.getfield 7, 3) := by decide +kernel
theorem dX9_figure_51 : decode cX9_figure 51 = .ok (.aload_n 0, 1) := by decide +kernel
theorem dX9_figure_52 : decode cX9_figure 52 = .ok (.getfield 84, 3) := by decide +kernel
theorem dX9_figure_55 : decode cX9_figure 55 = .ok (.iconst 1, 1) := by decide +kernel
theorem dX9_figure_56 : decode cX9_figure 56 = .ok (.isub, 1) := by decide +kernel
theorem dX9_figure_57 : decode cX9_figure 57 = .ok (.iaload, 1) := by decide +kernel
theorem dX9_figure_58 : decode cX9_figure 58 = .ok (.bipush 48, 2) := by decide +kernel
theorem dX9_figure_60 : decode cX9_figure 60 = .ok (.isub, 1) := by decide +kernel
theorem dX9_figure_61 : decode cX9_figure 61 = .ok (.ireturn, 1) := by decide +kernel
theorem dX9_findWalks_0 : decode cX9_findWalks 0 = .ok (.aload_n 0, 1) := by decide +kernel
theorem dX9_findWalks_1 : decode cX9_findWalks 1 = .ok (.iconst 0, 1) := by decide +kernel
theorem dX9_findWalks_2 : decode cX9_findWalks 2 = .ok (.putfield 215, 3) := by decide +kernel
theorem dX9_findWalks_5 : decode cX9_findWalks 5 = .ok (.iconst 0, 1) := by decide +kernel
theorem dX9_findWalks_6 : decode cX9_findWalks 6 = .ok (.istore_n 1, 1) := by decide +kernel
theorem dX9_findWalks_7 : decode cX9_findWalks 7 = .ok (.iload_n 1, 1) := by decide +kernel
theorem dX9_findWalks_8 : decode cX9_findWalks 8 = .ok (.aload_n 0, 1) := by decide +kernel
theorem dX9_findWalks_9 : decode cX9_findWalks 9 = .ok (.getfield 69, 3) := by decide +kernel
theorem dX9_findWalks_12 : decode cX9_findWalks 12 = .ok (.iconst 1, 1) := by decide +kernel
theorem dX9_findWalks_13 : decode cX9_findWalks 13 = .ok (.iadd, 1) := by decide +kernel
theorem dX9_findWalks_14 : decode cX9_findWalks 14 = .ok (.aload_n 0, 1) := by decide +kernel
theorem dX9_findWalks_15 : decode cX9_findWalks 15 = .ok (.getfield 76, 3) := by decide +kernel
theorem dX9_findWalks_18 : decode cX9_findWalks 18 = .ok (.invokestatic 188, 3) := by decide +kernel
theorem dX9_findWalks_21 : decode cX9_findWalks 21 = .ok (.if_icmp .ge 110, 3) := by decide +kernel
theorem dX9_findWalks_24 : decode cX9_findWalks 24 = .ok (.aload_n 0, 1) := by decide +kernel
theorem dX9_findWalks_25 : decode cX9_findWalks 25 = .ok (.iload_n 1, 1) := by decide +kernel
theorem dX9_findWalks_26 : decode cX9_findWalks 26 = .ok (.invokevirtual 218, 3) := by decide +kernel
theorem dX9_findWalks_29 : decode cX9_findWalks 29 = .ok (.ifCond .eq 96, 3) := by decide +kernel
theorem dX9_findWalks_32 : decode cX9_findWalks 32 = .ok (.iconst 0, 1) := by decide +kernel
theorem dX9_findWalks_33 : decode cX9_findWalks 33 = .ok (.istore_n 2, 1) := by decide +kernel
theorem dX9_findWalks_34 : decode cX9_findWalks 34 = .ok (.iload_n 2, 1) := by decide +kernel
theorem dX9_findWalks_35 : decode cX9_findWalks 35 = .ok (.aload_n 0, 1) := by decide +kernel
theorem dX9_findWalks_36 : decode cX9_findWalks 36 = .ok (.getfield 76, 3) := by decide +kernel
theorem dX9_findWalks_39 : decode cX9_findWalks 39 = .ok (.if_icmp .ge 76, 3) := by decide +kernel
theorem dX9_findWalks_42 : decode cX9_findWalks 42 = .ok (.iload_n 1, 1) := by decide +kernel
theorem dX9_findWalks_43 : decode cX9_findWalks 43 = .ok (.aload_n 0, 1) := by decide +kernel
theorem dX9_findWalks_44 : decode cX9_findWalks 44 = .ok (.getfield 69, 3) := by decide +kernel
theorem dX9_findWalks_47 : decode cX9_findWalks 47 = .ok (.iconst 1, 1) := by decide +kernel
theorem dX9_findWalks_48 : decode cX9_findWalks 48 = .ok (.iadd, 1) := by decide +kernel
theorem dX9_findWalks_49 : decode cX9_findWalks 49 = .ok (.iload_n 2, 1) := by decide +kernel
theorem dX9_findWalks_50 : decode cX9_findWalks 50 = .ok (.invokestatic 188, 3) := by decide +kernel
theorem dX9_findWalks_53 : decode cX9_findWalks 53 = .ok (.idiv, 1) := by decide +kernel
theorem dX9_findWalks_54 : decode cX9_findWalks 54 = .ok (.aload_n 0, 1) := by decide +kernel
theorem dX9_findWalks_55 : decode cX9_findWalks 55 = .ok (.getfield 69, 3) := by decide +kernel
theorem dX9_findWalks_58 : decode cX9_findWalks 58 = .ok (.iconst 1, 1) := by decide +kernel
theorem dX9_findWalks_59 : decode cX9_findWalks 59 = .ok (.iadd, 1) := by decide +kernel
theorem dX9_findWalks_60 : decode cX9_findWalks 60 = .ok (.irem, 1) := by decide +kernel
theorem dX9_findWalks_61 : decode cX9_findWalks 61 = .ok (.istore_n 3, 1) := by decide +kernel
theorem dX9_findWalks_62 : decode cX9_findWalks 62 = .ok (.iload_n 3, 1) := by decide +kernel
theorem dX9_findWalks_63 : decode cX9_findWalks 63 = .ok (.aload_n 0, 1) := by decide +kernel
theorem dX9_findWalks_64 : decode cX9_findWalks 64 = .ok (.getfield 69, 3) := by decide +kernel
theorem dX9_findWalks_67 : decode cX9_findWalks 67 = .ok (.if_icmp .ne 8, 3) := by decide +kernel
theorem dX9_findWalks_70 : decode cX9_findWalks 70 = .ok (.bipush 9, 2) := by decide +kernel
theorem dX9_findWalks_72 : decode cX9_findWalks 72 = .ok (.goto 4, 3) := by decide +kernel
theorem dX9_findWalks_75 : decode cX9_findWalks 75 = .ok (.iload_n 3, 1) := by decide +kernel
theorem dX9_findWalks_76 : decode cX9_findWalks 76 = .ok (.istore 4, 2) := by decide +kernel
theorem dX9_findWalks_78 : decode cX9_findWalks 78 = .ok (.aload_n 0, 1) := by decide +kernel
theorem dX9_findWalks_79 : decode cX9_findWalks 79 = .ok (.getfield 63, 3) := by decide +kernel
theorem dX9_findWalks_82 : decode cX9_findWalks 82 = .ok (.iload_n 2, 1) := by decide +kernel
theorem dX9_findWalks_83 : decode cX9_findWalks 83 = .ok (.aload_n 0, 1) := by decide +kernel
theorem dX9_findWalks_84 : decode cX9_findWalks 84 = .ok (.getfield 215, 3) := by decide +kernel
theorem dX9_findWalks_87 : decode cX9_findWalks 87 = .ok (.ifCond .eq 14, 3) := by decide +kernel
theorem dX9_findWalks_90 : decode cX9_findWalks 90 = .ok (.aload_n 0, 1) := by decide +kernel
theorem dX9_findWalks_91 : decode cX9_findWalks 91 = .ok (.getfield 63, 3) := by decide +kernel
theorem dX9_findWalks_94 : decode cX9_findWalks 94 = .ok (.iload_n 2, 1) := by decide +kernel
theorem dX9_findWalks_95 : decode cX9_findWalks 95 = .ok (.iaload, 1) := by decide +kernel
theorem dX9_findWalks_96 : decode cX9_findWalks 96 = .ok (.iload 4, 2) := by decide +kernel
theorem dX9_findWalks_98 : decode cX9_findWalks 98 = .ok (.if_icmp .ne 8, 3) := by decide +kernel
theorem dX9_findWalks_101 : decode cX9_findWalks 101 = .ok (.iload 4, 2) := by decide +kernel
theorem dX9_findWalks_103 : decode cX9_findWalks 103 = .ok (.goto 5, 3) := by decide +kernel
theorem dX9_findWalks_106 : decode cX9_findWalks 106 = .ok (.bipush (-9), 2) := by decide +kernel
theorem dX9_findWalks_108 : decode cX9_findWalks 108 = .ok (.iastore, 1) := by decide +kernel
theorem dX9_findWalks_109 : decode cX9_findWalks 109 = .ok (.iinc 2 1, 3) := by decide +kernel
theorem dX9_findWalks_112 : decode cX9_findWalks 112 = .ok (.goto (-78), 3) := by decide +kernel
theorem dX9_findWalks_115 : decode cX9_findWalks 115 = .ok (.aload_n 0, 1) := by decide +kernel
theorem dX9_findWalks_116 : decode cX9_findWalks 116 = .ok (.dup, 1) := by decide +kernel
theorem dX9_findWalks_117 : decode cX9_findWalks 117 = .ok (.getfield 215, 3) := by decide +kernel
theorem dX9_findWalks_120 : decode cX9_findWalks 120 = .ok (.iconst 1, 1) := by decide +kernel
theorem dX9_findWalks_121 : decode cX9_findWalks 121 = .ok (.iadd, 1) := by decide +kernel
theorem dX9_findWalks_122 : decode cX9_findWalks 122 = .ok (.putfield 215, 3) := by decide +kernel
theorem dX9_findWalks_125 : decode cX9_findWalks 125 = .ok (.iinc 1 1, 3) := by decide +kernel
theorem dX9_findWalks_128 : decode cX9_findWalks 128 = .ok (.goto (-121), 3) := by decide +kernel
theorem dX9_findWalks_131 : decode cX9_findWalks 131 = .ok (.return_, 1) := by decide +kernel
theorem dX9_give_0 : decode cX9_give 0 = .ok (.aload_n 0, 1) := by decide +kernel
theorem dX9_give_1 : decode cX9_give 1 = .ok (.iconst 0, 1) := by decide +kernel
theorem dX9_give_2 : decode cX9_give 2 = .ok (.putfield 66, 3) := by decide +kernel
theorem dX9_give_5 : decode cX9_give 5 = .ok (.aload_n 0, 1) := by decide +kernel
theorem dX9_give_6 : decode cX9_give 6 = .ok (.iload_n 1, 1) := by decide +kernel
theorem dX9_give_7 : decode cX9_give 7 = .ok (.invokevirtual 161, 3) := by decide +kernel
theorem dX9_give_10 : decode cX9_give 10 = .ok (.ifCond .ne 11, 3) := by decide +kernel
theorem dX9_give_13 : decode cX9_give 13 = .ok (.aload_n 0, 1) := by decide +kernel
theorem dX9_give_14 : decode cX9_give 14 = .ok (.iload_n 2, 1) := by decide +kernel
theorem dX9_give_15 : decode cX9_give 15 = .ok (.invokevirtual 153, 3) := by decide +kernel
theorem dX9_give_18 : decode cX9_give 18 = .ok (.ifCond .eq 5, 3) := by decide +kernel
theorem dX9_give_21 : decode cX9_give 21 = .ok (.iconst (-1), 1) := by decide +kernel
theorem dX9_give_22 : decode cX9_give 22 = .ok (.ireturn, 1) := by decide +kernel
theorem dX9_give_23 : decode cX9_give 23 = .ok (.aload_n 0, 1) := by decide +kernel
theorem dX9_give_24 : decode cX9_give 24 = .ok (.getfield 35, 3) := by decide +kernel
theorem dX9_give_27 : decode cX9_give 27 = .ok (.bipush 8, 2) := by decide +kernel
theorem dX9_give_29 : decode cX9_give 29 = .ok (.iload_n 1, 1) := by decide +kernel
theorem dX9_give_30 : decode cX9_give 30 = .ok (.iadd, 1) := by decide +kernel
theorem dX9_give_31 : decode cX9_give 31 = .ok (.iaload, 1) := by decide +kernel
theorem dX9_give_32 : decode cX9_give 32 = .ok (.istore_n 3, 1) := by decide +kernel
theorem dX9_give_33 : decode cX9_give 33 = .ok (.aload_n 0, 1) := by decide +kernel
theorem dX9_give_34 : decode cX9_give 34 = .ok (.getfield 35, 3) := by decide +kernel
theorem dX9_give_37 : decode cX9_give 37 = .ok (.bipush 19, 2) := by decide +kernel
theorem dX9_give_39 : decode cX9_give 39 = .ok (.iload_n 1, 1) := by decide +kernel
theorem dX9_give_40 : decode cX9_give 40 = .ok (.iadd, 1) := by decide +kernel
theorem dX9_give_41 : decode cX9_give 41 = .ok (.iaload, 1) := by decide +kernel
theorem dX9_give_42 : decode cX9_give 42 = .ok (.ifCond .gt 26, 3) := by decide +kernel
theorem dX9_give_45 : decode cX9_give 45 = .ok (.iload_n 3, 1) := by decide +kernel
theorem dX9_give_46 : decode cX9_give 46 = .ok (.iload_n 2, 1) := by decide +kernel
theorem dX9_give_47 : decode cX9_give 47 = .ok (.if_icmp .eq 21, 3) := by decide +kernel
theorem dX9_give_50 : decode cX9_give 50 = .ok (.aload_n 0, 1) := by decide +kernel
theorem dX9_give_51 : decode cX9_give 51 = .ok (.getfield 35, 3) := by decide +kernel
theorem dX9_give_54 : decode cX9_give 54 = .ok (.bipush 13, 2) := by decide +kernel
theorem dX9_give_56 : decode cX9_give 56 = .ok (.iload_n 1, 1) := by decide +kernel
theorem dX9_give_57 : decode cX9_give 57 = .ok (.iadd, 1) := by decide +kernel
theorem dX9_give_58 : decode cX9_give 58 = .ok (.iaload, 1) := by decide +kernel
theorem dX9_give_59 : decode cX9_give 59 = .ok (.aload_n 0, 1) := by decide +kernel
theorem dX9_give_60 : decode cX9_give 60 = .ok (.getfield 35, 3) := by decide +kernel
theorem dX9_give_63 : decode cX9_give 63 = .ok (.iload_n 2, 1) := by decide +kernel
theorem dX9_give_64 : decode cX9_give 64 = .ok (.iaload, 1) := by decide +kernel
theorem dX9_give_65 : decode cX9_give 65 = .ok (.if_icmp .eq 6, 3) := by decide +kernel
theorem dX9_give_68 : decode cX9_give 68 = .ok (.bipush (-3), 2) := by decide +kernel
theorem dX9_give_70 : decode cX9_give 70 = .ok (.ireturn, 1) := by decide +kernel
theorem dX9_give_71 : decode cX9_give 71 = .ok (.aload_n 0, 1) := by decide +kernel
theorem dX9_give_72 : decode cX9_give 72 = .ok (.aload_n 0, 1) := by decide +kernel
theorem dX9_give_73 : decode cX9_give 73 = .ok (.getfield 35, 3) := by decide +kernel
theorem dX9_give_76 : decode cX9_give 76 = .ok (.iload_n 2, 1) := by decide +kernel
theorem dX9_give_77 : decode cX9_give 77 = .ok (.invokevirtual 157, 3) := by decide +kernel
theorem dX9_give_80 : decode cX9_give 80 = .ok (.invokestatic 173, 3) := by decide +kernel
theorem dX9_give_83 : decode cX9_give 83 = .ok (.aload_n 0, 1) := by decide +kernel
theorem dX9_give_84 : decode cX9_give 84 = .ok (.getfield 20, 3) := by decide +kernel
theorem dX9_give_87 : decode cX9_give 87 = .ok (.iconst 4, 1) := by decide +kernel
theorem dX9_give_88 : decode cX9_give 88 = .ok (.iload_n 2, 1) := by decide +kernel
theorem dX9_give_89 : decode cX9_give 89 = .ok (.imul, 1) := by decide +kernel
theorem dX9_give_90 : decode cX9_give 90 = .ok (.iconst 2, 1) := by decide +kernel
theorem dX9_give_91 : decode cX9_give 91 = .ok (.iadd, 1) := by decide +kernel
theorem dX9_give_92 : decode cX9_give 92 = .ok (.iaload, 1) := by decide +kernel
theorem dX9_give_93 : decode cX9_give 93 = .ok (.if_icmp .lt 6, 3) := by decide +kernel
theorem dX9_give_96 : decode cX9_give 96 = .ok (.bipush (-4), 2) := by decide +kernel
theorem dX9_give_98 : decode cX9_give 98 = .ok (.ireturn, 1) := by decide +kernel
theorem dX9_give_99 : decode cX9_give 99 = .ok (.aload_n 0, 1) := by decide +kernel
theorem dX9_give_100 : decode cX9_give 100 = .ok (.invokevirtual 166, 3) := by decide +kernel
theorem dX9_give_103 : decode cX9_give 103 = .ok (.aload_n 0, 1) := by decide +kernel
theorem dX9_give_104 : decode cX9_give 104 = .ok (.getfield 35, 3) := by decide +kernel
theorem dX9_give_107 : decode cX9_give 107 = .ok (.bipush 8, 2) := by decide +kernel
theorem dX9_give_109 : decode cX9_give 109 = .ok (.iload_n 1, 1) := by decide +kernel
theorem dX9_give_110 : decode cX9_give 110 = .ok (.iadd, 1) := by decide +kernel
theorem dX9_give_111 : decode cX9_give 111 = .ok (.iload_n 2, 1) := by decide +kernel
theorem dX9_give_112 : decode cX9_give 112 = .ok (.iastore, 1) := by decide +kernel
theorem dX9_give_113 : decode cX9_give 113 = .ok (.iload_n 3, 1) := by decide +kernel
theorem dX9_give_114 : decode cX9_give 114 = .ok (.ireturn, 1) := by decide +kernel
theorem dX9_goHour_0 : decode cX9_goHour 0 = .ok (.aload_n 0, 1) := by decide +kernel
theorem dX9_goHour_1 : decode cX9_goHour 1 = .ok (.getfield 17, 3) := by decide +kernel
theorem dX9_goHour_4 : decode cX9_goHour 4 = .ok (.aload_n 1, 1) := by decide +kernel
theorem dX9_goHour_5 : decode cX9_goHour 5 = .ok (.bipush 24, 2) := by decide +kernel
theorem dX9_goHour_7 : decode cX9_goHour 7 = .ok (.iaload, 1) := by decide +kernel
theorem dX9_goHour_8 : decode cX9_goHour 8 = .ok (.iload_n 3, 1) := by decide +kernel
theorem dX9_goHour_9 : decode cX9_goHour 9 = .ok (.iadd, 1) := by decide +kernel
theorem dX9_goHour_10 : decode cX9_goHour 10 = .ok (.iconst 4, 1) := by decide +kernel
theorem dX9_goHour_11 : decode cX9_goHour 11 = .ok (.irem, 1) := by decide +kernel
theorem dX9_goHour_12 : decode cX9_goHour 12 = .ok (.iaload, 1) := by decide +kernel
theorem dX9_goHour_13 : decode cX9_goHour 13 = .ok (.istore 4, 2) := by decide +kernel
theorem dX9_goHour_15 : decode cX9_goHour 15 = .ok (.aload_n 1, 1) := by decide +kernel
theorem dX9_goHour_16 : decode cX9_goHour 16 = .ok (.bipush 24, 2) := by decide +kernel
theorem dX9_goHour_18 : decode cX9_goHour 18 = .ok (.iaload, 1) := by decide +kernel
theorem dX9_goHour_19 : decode cX9_goHour 19 = .ok (.bipush 12, 2) := by decide +kernel
theorem dX9_goHour_21 : decode cX9_goHour 21 = .ok (.irem, 1) := by decide +kernel
theorem dX9_goHour_22 : decode cX9_goHour 22 = .ok (.iload_n 2, 1) := by decide +kernel
theorem dX9_goHour_23 : decode cX9_goHour 23 = .ok (.if_icmp .lt 7, 3) := by decide +kernel
theorem dX9_goHour_26 : decode cX9_goHour 26 = .ok (.iconst 1, 1) := by decide +kernel
theorem dX9_goHour_27 : decode cX9_goHour 27 = .ok (.goto 4, 3) := by decide +kernel
theorem dX9_goHour_30 : decode cX9_goHour 30 = .ok (.iconst 0, 1) := by decide +kernel
theorem dX9_goHour_31 : decode cX9_goHour 31 = .ok (.istore 5, 2) := by decide +kernel
theorem dX9_goHour_33 : decode cX9_goHour 33 = .ok (.iconst 0, 1) := by decide +kernel
theorem dX9_goHour_34 : decode cX9_goHour 34 = .ok (.istore 6, 2) := by decide +kernel
theorem dX9_goHour_36 : decode cX9_goHour 36 = .ok (.iconst 0, 1) := by decide +kernel
theorem dX9_goHour_37 : decode cX9_goHour 37 = .ok (.istore 7, 2) := by decide +kernel
theorem dX9_goHour_39 : decode cX9_goHour 39 = .ok (.iload 7, 2) := by decide +kernel
theorem dX9_goHour_41 : decode cX9_goHour 41 = .ok (.aload_n 0, 1) := by decide +kernel
theorem dX9_goHour_42 : decode cX9_goHour 42 = .ok (.getfield 76, 3) := by decide +kernel
theorem dX9_goHour_45 : decode cX9_goHour 45 = .ok (.if_icmp .ge 183, 3) := by decide +kernel
theorem dX9_goHour_48 : decode cX9_goHour 48 = .ok (.aload_n 1, 1) := by decide +kernel
theorem dX9_goHour_49 : decode cX9_goHour 49 = .ok (.bipush 19, 2) := by decide +kernel
theorem dX9_goHour_51 : decode cX9_goHour 51 = .ok (.iload 7, 2) := by decide +kernel
theorem dX9_goHour_53 : decode cX9_goHour 53 = .ok (.iadd, 1) := by decide +kernel
theorem dX9_goHour_54 : decode cX9_goHour 54 = .ok (.iaload, 1) := by decide +kernel
theorem dX9_goHour_55 : decode cX9_goHour 55 = .ok (.ifCond .le 55, 3) := by decide +kernel
theorem dX9_goHour_58 : decode cX9_goHour 58 = .ok (.aload_n 1, 1) := by decide +kernel
theorem dX9_goHour_59 : decode cX9_goHour 59 = .ok (.bipush 19, 2) := by decide +kernel
theorem dX9_goHour_61 : decode cX9_goHour 61 = .ok (.iload 7, 2) := by decide +kernel
theorem dX9_goHour_63 : decode cX9_goHour 63 = .ok (.iadd, 1) := by decide +kernel
theorem dX9_goHour_64 : decode cX9_goHour 64 = .ok (.dup2, 1) := by decide +kernel
theorem dX9_goHour_65 : decode cX9_goHour 65 = .ok (.iaload, 1) := by decide +kernel
theorem dX9_goHour_66 : decode cX9_goHour 66 = .ok (.iconst 1, 1) := by decide +kernel
theorem dX9_goHour_67 : decode cX9_goHour 67 = .ok (.isub, 1) := by decide +kernel
theorem dX9_goHour_68 : decode cX9_goHour 68 = .ok (.iastore, 1) := by decide +kernel
theorem dX9_goHour_69 : decode cX9_goHour 69 = .ok (.aload_n 1, 1) := by decide +kernel
theorem dX9_goHour_70 : decode cX9_goHour 70 = .ok (.bipush 19, 2) := by decide +kernel
theorem dX9_goHour_72 : decode cX9_goHour 72 = .ok (.iload 7, 2) := by decide +kernel
theorem dX9_goHour_74 : decode cX9_goHour 74 = .ok (.iadd, 1) := by decide +kernel
theorem dX9_goHour_75 : decode cX9_goHour 75 = .ok (.iaload, 1) := by decide +kernel
theorem dX9_goHour_76 : decode cX9_goHour 76 = .ok (.ifCond .ne 146, 3) := by decide +kernel
theorem dX9_goHour_79 : decode cX9_goHour 79 = .ok (.aload_n 1, 1) := by decide +kernel
theorem dX9_goHour_80 : decode cX9_goHour 80 = .ok (.bipush 8, 2) := by decide +kernel
theorem dX9_goHour_82 : decode cX9_goHour 82 = .ok (.iload 7, 2) := by decide +kernel
theorem dX9_goHour_84 : decode cX9_goHour 84 = .ok (.iadd, 1) := by decide +kernel
theorem dX9_goHour_85 : decode cX9_goHour 85 = .ok (.iaload, 1) := by decide +kernel
theorem dX9_goHour_86 : decode cX9_goHour 86 = .ok (.bipush (-9), 2) := by decide +kernel
theorem dX9_goHour_88 : decode cX9_goHour 88 = .ok (.if_icmp .eq 134, 3) := by decide +kernel
theorem dX9_goHour_91 : decode cX9_goHour 91 = .ok (.aload_n 1, 1) := by decide +kernel
theorem dX9_goHour_92 : decode cX9_goHour 92 = .ok (.bipush 13, 2) := by decide +kernel
theorem dX9_goHour_94 : decode cX9_goHour 94 = .ok (.iload 7, 2) := by decide +kernel
theorem dX9_goHour_96 : decode cX9_goHour 96 = .ok (.iadd, 1) := by decide +kernel
theorem dX9_goHour_97 : decode cX9_goHour 97 = .ok (.aload_n 1, 1) := by decide +kernel
theorem dX9_goHour_98 : decode cX9_goHour 98 = .ok (.aload_n 1, 1) := by decide +kernel
theorem dX9_goHour_99 : decode cX9_goHour 99 = .ok (.bipush 8, 2) := by decide +kernel
theorem dX9_goHour_101 : decode cX9_goHour 101 = .ok (.iload 7, 2) := by decide +kernel
theorem dX9_goHour_103 : decode cX9_goHour 103 = .ok (.iadd, 1) := by decide +kernel
theorem dX9_goHour_104 : decode cX9_goHour 104 = .ok (.iaload, 1) := by decide +kernel
theorem dX9_goHour_105 : decode cX9_goHour 105 = .ok (.iaload, 1) := by decide +kernel
theorem dX9_goHour_106 : decode cX9_goHour 106 = .ok (.iastore, 1) := by decide +kernel
theorem dX9_goHour_107 : decode cX9_goHour 107 = .ok (.goto 115, 3) := by decide +kernel
theorem dX9_goHour_110 : decode cX9_goHour 110 = .ok (.aload_n 1, 1) := by decide +kernel
theorem dX9_goHour_111 : decode cX9_goHour 111 = .ok (.bipush 13, 2) := by decide +kernel
theorem dX9_goHour_113 : decode cX9_goHour 113 = .ok (.iload 7, 2) := by decide +kernel
theorem dX9_goHour_115 : decode cX9_goHour 115 = .ok (.iadd, 1) := by decide +kernel
theorem dX9_goHour_116 : decode cX9_goHour 116 = .ok (.iaload, 1) := by decide +kernel
theorem dX9_goHour_117 : decode cX9_goHour 117 = .ok (.iload 4, 2) := by decide +kernel
theorem dX9_goHour_119 : decode cX9_goHour 119 = .ok (.if_icmp .ne 103, 3) := by decide +kernel
theorem dX9_goHour_122 : decode cX9_goHour 122 = .ok (.aload_n 1, 1) := by decide +kernel
theorem dX9_goHour_123 : decode cX9_goHour 123 = .ok (.bipush 18, 2) := by decide +kernel
theorem dX9_goHour_125 : decode cX9_goHour 125 = .ok (.iaload, 1) := by decide +kernel
theorem dX9_goHour_126 : decode cX9_goHour 126 = .ok (.iload 7, 2) := by decide +kernel
theorem dX9_goHour_128 : decode cX9_goHour 128 = .ok (.invokestatic 89, 3) := by decide +kernel
theorem dX9_goHour_131 : decode cX9_goHour 131 = .ok (.ifCond .ne 27, 3) := by decide +kernel
theorem dX9_goHour_134 : decode cX9_goHour 134 = .ok (.aload_n 0, 1) := by decide +kernel
theorem dX9_goHour_135 : decode cX9_goHour 135 = .ok (.getfield 23, 3) := by decide +kernel
theorem dX9_goHour_138 : decode cX9_goHour 138 = .ok (.iconst 3, 1) := by decide +kernel
theorem dX9_goHour_139 : decode cX9_goHour 139 = .ok (.iload 7, 2) := by decide +kernel
theorem dX9_goHour_141 : decode cX9_goHour 141 = .ok (.imul, 1) := by decide +kernel
theorem dX9_goHour_142 : decode cX9_goHour 142 = .ok (.iconst 2, 1) := by decide +kernel
theorem dX9_goHour_143 : decode cX9_goHour 143 = .ok (.iadd, 1) := by decide +kernel
theorem dX9_goHour_144 : decode cX9_goHour 144 = .ok (.iaload, 1) := by decide +kernel
theorem dX9_goHour_145 : decode cX9_goHour 145 = .ok (.iconst 1, 1) := by decide +kernel
theorem dX9_goHour_146 : decode cX9_goHour 146 = .ok (.if_icmp .eq 8, 3) := by decide +kernel
theorem dX9_goHour_149 : decode cX9_goHour 149 = .ok (.iload 5, 2) := by decide +kernel
theorem dX9_goHour_151 : decode cX9_goHour 151 = .ok (.ifCond .eq 7, 3) := by decide +kernel
theorem dX9_goHour_154 : decode cX9_goHour 154 = .ok (.iconst 1, 1) := by decide +kernel
theorem dX9_goHour_155 : decode cX9_goHour 155 = .ok (.goto 4, 3) := by decide +kernel
theorem dX9_goHour_158 : decode cX9_goHour 158 = .ok (.iconst 0, 1) := by decide +kernel
theorem dX9_goHour_159 : decode cX9_goHour 159 = .ok (.istore 8, 2) := by decide +kernel
theorem dX9_goHour_161 : decode cX9_goHour 161 = .ok (.aload_n 1, 1) := by decide +kernel
theorem dX9_goHour_162 : decode cX9_goHour 162 = .ok (.bipush 8, 2) := by decide +kernel
theorem dX9_goHour_164 : decode cX9_goHour 164 = .ok (.iload 7, 2) := by decide +kernel
theorem dX9_goHour_166 : decode cX9_goHour 166 = .ok (.iadd, 1) := by decide +kernel
theorem dX9_goHour_167 : decode cX9_goHour 167 = .ok (.iaload, 1) := by decide +kernel
theorem dX9_goHour_168 : decode cX9_goHour 168 = .ok (.bipush (-9), 2) := by decide +kernel
theorem dX9_goHour_170 : decode cX9_goHour 170 = .ok (.if_icmp .eq 8, 3) := by decide +kernel
theorem dX9_goHour_173 : decode cX9_goHour 173 = .ok (.iload 8, 2) := by decide +kernel
theorem dX9_goHour_175 : decode cX9_goHour 175 = .ok (.ifCond .eq 47, 3) := by decide +kernel
theorem dX9_goHour_178 : decode cX9_goHour 178 = .ok (.aload_n 1, 1) := by decide +kernel
theorem dX9_goHour_179 : decode cX9_goHour 179 = .ok (.bipush 19, 2) := by decide +kernel
theorem dX9_goHour_181 : decode cX9_goHour 181 = .ok (.iload 7, 2) := by decide +kernel
theorem dX9_goHour_183 : decode cX9_goHour 183 = .ok (.iadd, 1) := by decide +kernel
theorem dX9_goHour_184 : decode cX9_goHour 184 = .ok (.iconst 3, 1) := by decide +kernel
theorem dX9_goHour_185 : decode cX9_goHour 185 = .ok (.iastore, 1) := by decide +kernel
theorem dX9_goHour_186 : decode cX9_goHour 186 = .ok (.iload 6, 2) := by decide +kernel
theorem dX9_goHour_188 : decode cX9_goHour 188 = .ok (.iconst 1, 1) := by decide +kernel
theorem dX9_goHour_189 : decode cX9_goHour 189 = .ok (.iload 7, 2) := by decide +kernel
theorem dX9_goHour_191 : decode cX9_goHour 191 = .ok (.ishl, 1) := by decide +kernel
theorem dX9_goHour_192 : decode cX9_goHour 192 = .ok (.ior, 1) := by decide +kernel
theorem dX9_goHour_193 : decode cX9_goHour 193 = .ok (.istore 6, 2) := by decide +kernel
theorem dX9_goHour_195 : decode cX9_goHour 195 = .ok (.aload_n 1, 1) := by decide +kernel
theorem dX9_goHour_196 : decode cX9_goHour 196 = .ok (.bipush 8, 2) := by decide +kernel
theorem dX9_goHour_198 : decode cX9_goHour 198 = .ok (.iload 7, 2) := by decide +kernel
theorem dX9_goHour_200 : decode cX9_goHour 200 = .ok (.iadd, 1) := by decide +kernel
theorem dX9_goHour_201 : decode cX9_goHour 201 = .ok (.iaload, 1) := by decide +kernel
theorem dX9_goHour_202 : decode cX9_goHour 202 = .ok (.bipush (-9), 2) := by decide +kernel
theorem dX9_goHour_204 : decode cX9_goHour 204 = .ok (.if_icmp .eq 18, 3) := by decide +kernel
theorem dX9_goHour_207 : decode cX9_goHour 207 = .ok (.aload_n 1, 1) := by decide +kernel
theorem dX9_goHour_208 : decode cX9_goHour 208 = .ok (.iconst 4, 1) := by decide +kernel
theorem dX9_goHour_209 : decode cX9_goHour 209 = .ok (.aload_n 1, 1) := by decide +kernel
theorem dX9_goHour_210 : decode cX9_goHour 210 = .ok (.bipush 8, 2) := by decide +kernel
theorem dX9_goHour_212 : decode cX9_goHour 212 = .ok (.iload 7, 2) := by decide +kernel
theorem dX9_goHour_214 : decode cX9_goHour 214 = .ok (.iadd, 1) := by decide +kernel
theorem dX9_goHour_215 : decode cX9_goHour 215 = .ok (.iaload, 1) := by decide +kernel
theorem dX9_goHour_216 : decode cX9_goHour 216 = .ok (.iadd, 1) := by decide +kernel
theorem dX9_goHour_217 : decode cX9_goHour 217 = .ok (.dup2, 1) := by decide +kernel
theorem dX9_goHour_218 : decode cX9_goHour 218 = .ok (.iaload, 1) := by decide +kernel
theorem dX9_goHour_219 : decode cX9_goHour 219 = .ok (.iconst 2, 1) := by decide +kernel
theorem dX9_goHour_220 : decode cX9_goHour 220 = .ok (.iadd, 1) := by decide +kernel
theorem dX9_goHour_221 : decode cX9_goHour 221 = .ok (.iastore, 1) := by decide +kernel
theorem dX9_goHour_222 : decode cX9_goHour 222 = .ok (.iinc 7 1, 3) := by decide +kernel
theorem dX9_goHour_225 : decode cX9_goHour 225 = .ok (.goto (-186), 3) := by decide +kernel
theorem dX9_goHour_228 : decode cX9_goHour 228 = .ok (.aload_n 1, 1) := by decide +kernel
theorem dX9_goHour_229 : decode cX9_goHour 229 = .ok (.bipush 24, 2) := by decide +kernel
theorem dX9_goHour_231 : decode cX9_goHour 231 = .ok (.dup2, 1) := by decide +kernel
theorem dX9_goHour_232 : decode cX9_goHour 232 = .ok (.iaload, 1) := by decide +kernel
theorem dX9_goHour_233 : decode cX9_goHour 233 = .ok (.iconst 1, 1) := by decide +kernel
theorem dX9_goHour_234 : decode cX9_goHour 234 = .ok (.iadd, 1) := by decide +kernel
theorem dX9_goHour_235 : decode cX9_goHour 235 = .ok (.iastore, 1) := by decide +kernel
theorem dX9_goHour_236 : decode cX9_goHour 236 = .ok (.iload 6, 2) := by decide +kernel
theorem dX9_goHour_238 : decode cX9_goHour 238 = .ok (.ireturn, 1) := by decide +kernel
theorem dX9_goLead_0 : decode cX9_goLead 0 = .ok (.aload_n 1, 1) := by decide +kernel
theorem dX9_goLead_1 : decode cX9_goLead 1 = .ok (.iload_n 2, 1) := by decide +kernel
theorem dX9_goLead_2 : decode cX9_goLead 2 = .ok (.aload_n 1, 1) := by decide +kernel
theorem dX9_goLead_3 : decode cX9_goLead 3 = .ok (.iload_n 2, 1) := by decide +kernel
theorem dX9_goLead_4 : decode cX9_goLead 4 = .ok (.iaload, 1) := by decide +kernel
theorem dX9_goLead_5 : decode cX9_goLead 5 = .ok (.iload_n 3, 1) := by decide +kernel
theorem dX9_goLead_6 : decode cX9_goLead 6 = .ok (.iconst 1, 1) := by decide +kernel
theorem dX9_goLead_7 : decode cX9_goLead 7 = .ok (.if_icmp .ne 7, 3) := by decide +kernel
theorem dX9_goLead_10 : decode cX9_goLead 10 = .ok (.iconst 1, 1) := by decide +kernel
theorem dX9_goLead_11 : decode cX9_goLead 11 = .ok (.goto 13, 3) := by decide +kernel
theorem dX9_goLead_14 : decode cX9_goLead 14 = .ok (.iload_n 3, 1) := by decide +kernel
theorem dX9_goLead_15 : decode cX9_goLead 15 = .ok (.iconst 2, 1) := by decide +kernel
theorem dX9_goLead_16 : decode cX9_goLead 16 = .ok (.if_icmp .ne 7, 3) := by decide +kernel
theorem dX9_goLead_19 : decode cX9_goLead 19 = .ok (.iconst 4, 1) := by decide +kernel
theorem dX9_goLead_20 : decode cX9_goLead 20 = .ok (.goto 4, 3) := by decide +kernel
theorem dX9_goLead_23 : decode cX9_goLead 23 = .ok (.iconst 0, 1) := by decide +kernel
theorem dX9_goLead_24 : decode cX9_goLead 24 = .ok (.iadd, 1) := by decide +kernel
theorem dX9_goLead_25 : decode cX9_goLead 25 = .ok (.iconst 5, 1) := by decide +kernel
theorem dX9_goLead_26 : decode cX9_goLead 26 = .ok (.irem, 1) := by decide +kernel
theorem dX9_goLead_27 : decode cX9_goLead 27 = .ok (.iastore, 1) := by decide +kernel
theorem dX9_goLead_28 : decode cX9_goLead 28 = .ok (.iconst 0, 1) := by decide +kernel
theorem dX9_goLead_29 : decode cX9_goLead 29 = .ok (.istore 4, 2) := by decide +kernel
theorem dX9_goLead_31 : decode cX9_goLead 31 = .ok (.iload 4, 2) := by decide +kernel
theorem dX9_goLead_33 : decode cX9_goLead 33 = .ok (.aload_n 0, 1) := by decide +kernel
theorem dX9_goLead_34 : decode cX9_goLead 34 = .ok (.getfield 76, 3) := by decide +kernel
theorem dX9_goLead_37 : decode cX9_goLead 37 = .ok (.if_icmp .ge 40, 3) := by decide +kernel
theorem dX9_goLead_40 : decode cX9_goLead 40 = .ok (.aload_n 1, 1) := by decide +kernel
theorem dX9_goLead_41 : decode cX9_goLead 41 = .ok (.bipush 8, 2) := by decide +kernel
theorem dX9_goLead_43 : decode cX9_goLead 43 = .ok (.iload 4, 2) := by decide +kernel
theorem dX9_goLead_45 : decode cX9_goLead 45 = .ok (.iadd, 1) := by decide +kernel
theorem dX9_goLead_46 : decode cX9_goLead 46 = .ok (.iaload, 1) := by decide +kernel
theorem dX9_goLead_47 : decode cX9_goLead 47 = .ok (.iload_n 2, 1) := by decide +kernel
theorem dX9_goLead_48 : decode cX9_goLead 48 = .ok (.if_icmp .ne 23, 3) := by decide +kernel
theorem dX9_goLead_51 : decode cX9_goLead 51 = .ok (.aload_n 1, 1) := by decide +kernel
theorem dX9_goLead_52 : decode cX9_goLead 52 = .ok (.bipush 19, 2) := by decide +kernel
theorem dX9_goLead_54 : decode cX9_goLead 54 = .ok (.iload 4, 2) := by decide +kernel
theorem dX9_goLead_56 : decode cX9_goLead 56 = .ok (.iadd, 1) := by decide +kernel
theorem dX9_goLead_57 : decode cX9_goLead 57 = .ok (.iaload, 1) := by decide +kernel
theorem dX9_goLead_58 : decode cX9_goLead 58 = .ok (.ifCond .ne 13, 3) := by decide +kernel
theorem dX9_goLead_61 : decode cX9_goLead 61 = .ok (.aload_n 1, 1) := by decide +kernel
theorem dX9_goLead_62 : decode cX9_goLead 62 = .ok (.bipush 13, 2) := by decide +kernel
theorem dX9_goLead_64 : decode cX9_goLead 64 = .ok (.iload 4, 2) := by decide +kernel
theorem dX9_goLead_66 : decode cX9_goLead 66 = .ok (.iadd, 1) := by decide +kernel
theorem dX9_goLead_67 : decode cX9_goLead 67 = .ok (.aload_n 1, 1) := by decide +kernel
theorem dX9_goLead_68 : decode cX9_goLead 68 = .ok (.iload_n 2, 1) := by decide +kernel
theorem dX9_goLead_69 : decode cX9_goLead 69 = .ok (.iaload, 1) := by decide +kernel
theorem dX9_goLead_70 : decode cX9_goLead 70 = .ok (.iastore, 1) := by decide +kernel
theorem dX9_goLead_71 : decode cX9_goLead 71 = .ok (.iinc 4 1, 3) := by decide +kernel
theorem dX9_goLead_74 : decode cX9_goLead 74 = .ok (.goto (-43), 3) := by decide +kernel
theorem dX9_goLead_77 : decode cX9_goLead 77 = .ok (.return_, 1) := by decide +kernel
theorem dX9_goes_0 : decode cX9_goes 0 = .ok (.aload_n 0, 1) := by decide +kernel
theorem dX9_goes_1 : decode cX9_goes 1 = .ok (.invokevirtual 182, 3) := by decide +kernel
theorem dX9_goes_4 : decode cX9_goes 4 = .ok (.aload_n 0, 1) := by decide +kernel
theorem dX9_goes_5 : decode cX9_goes 5 = .ok (.aload_n 0, 1) := by decide +kernel
theorem dX9_goes_6 : decode cX9_goes 6 = .ok (.getfield 35, 3) := by decide +kernel
theorem dX9_goes_9 : decode cX9_goes 9 = .ok (.iload_n 1, 1) := by decide +kernel
theorem dX9_goes_10 : decode cX9_goes 10 = .ok (.invokevirtual 157, 3) := by decide +kernel
theorem dX9_goes_13 : decode cX9_goes 13 = .ok (.istore 5, 2) := by decide +kernel
theorem dX9_goes_15 : decode cX9_goes 15 = .ok (.iload 4, 2) := by decide +kernel
theorem dX9_goes_17 : decode cX9_goes 17 = .ok (.ifCond .eq 11, 3) := by decide +kernel
theorem dX9_goes_20 : decode cX9_goes 20 = .ok (.aload_n 0, 1) := by decide +kernel
theorem dX9_goes_21 : decode cX9_goes 21 = .ok (.iload_n 1, 1) := by decide +kernel
theorem dX9_goes_22 : decode cX9_goes 22 = .ok (.invokevirtual 185, 3) := by decide +kernel
theorem dX9_goes_25 : decode cX9_goes 25 = .ok (.ifCond .eq 7, 3) := by decide +kernel
theorem dX9_goes_28 : decode cX9_goes 28 = .ok (.iconst 1, 1) := by decide +kernel
theorem dX9_goes_29 : decode cX9_goes 29 = .ok (.goto 4, 3) := by decide +kernel
theorem dX9_goes_32 : decode cX9_goes 32 = .ok (.iconst 0, 1) := by decide +kernel
theorem dX9_goes_33 : decode cX9_goes 33 = .ok (.istore 6, 2) := by decide +kernel
theorem dX9_goes_35 : decode cX9_goes 35 = .ok (.iconst 0, 1) := by decide +kernel
theorem dX9_goes_36 : decode cX9_goes 36 = .ok (.istore 7, 2) := by decide +kernel
theorem dX9_goes_38 : decode cX9_goes 38 = .ok (.iload 7, 2) := by decide +kernel
theorem dX9_goes_40 : decode cX9_goes 40 = .ok (.iload_n 2, 1) := by decide +kernel
theorem dX9_goes_41 : decode cX9_goes 41 = .ok (.if_icmp .ge 88, 3) := by decide +kernel
theorem dX9_goes_44 : decode cX9_goes 44 = .ok (.iload 6, 2) := by decide +kernel
theorem dX9_goes_46 : decode cX9_goes 46 = .ok (.ifCond .eq 83, 3) := by decide +kernel
theorem dX9_goes_49 : decode cX9_goes 49 = .ok (.aload_n 0, 1) := by decide +kernel
theorem dX9_goes_50 : decode cX9_goes 50 = .ok (.aload_n 0, 1) := by decide +kernel
theorem dX9_goes_51 : decode cX9_goes 51 = .ok (.getfield 38, 3) := by decide +kernel
theorem dX9_goes_54 : decode cX9_goes 54 = .ok (.iload_n 1, 1) := by decide +kernel
theorem dX9_goes_55 : decode cX9_goes 55 = .ok (.iload_n 3, 1) := by decide +kernel
theorem dX9_goes_56 : decode cX9_goes 56 = .ok (.iconst 3, 1) := by decide +kernel
theorem dX9_goes_57 : decode cX9_goes 57 = .ok (.iload_n 2, 1) := by decide +kernel
theorem dX9_goes_58 : decode cX9_goes 58 = .ok (.iconst 1, 1) := by decide +kernel
theorem dX9_goes_59 : decode cX9_goes 59 = .ok (.isub, 1) := by decide +kernel
theorem dX9_goes_60 : decode cX9_goes 60 = .ok (.iload 7, 2) := by decide +kernel
theorem dX9_goes_62 : decode cX9_goes 62 = .ok (.isub, 1) := by decide +kernel
theorem dX9_goes_63 : decode cX9_goes 63 = .ok (.invokestatic 188, 3) := by decide +kernel
theorem dX9_goes_66 : decode cX9_goes 66 = .ok (.idiv, 1) := by decide +kernel
theorem dX9_goes_67 : decode cX9_goes 67 = .ok (.iconst 3, 1) := by decide +kernel
theorem dX9_goes_68 : decode cX9_goes 68 = .ok (.irem, 1) := by decide +kernel
theorem dX9_goes_69 : decode cX9_goes 69 = .ok (.invokevirtual 169, 3) := by decide +kernel
theorem dX9_goes_72 : decode cX9_goes 72 = .ok (.iload 4, 2) := by decide +kernel
theorem dX9_goes_74 : decode cX9_goes 74 = .ok (.ifCond .eq 11, 3) := by decide +kernel
theorem dX9_goes_77 : decode cX9_goes 77 = .ok (.aload_n 0, 1) := by decide +kernel
theorem dX9_goes_78 : decode cX9_goes 78 = .ok (.iload_n 1, 1) := by decide +kernel
theorem dX9_goes_79 : decode cX9_goes 79 = .ok (.invokevirtual 185, 3) := by decide +kernel
theorem dX9_goes_82 : decode cX9_goes 82 = .ok (.ifCond .eq 7, 3) := by decide +kernel
theorem dX9_goes_85 : decode cX9_goes 85 = .ok (.iconst 1, 1) := by decide +kernel
theorem dX9_goes_86 : decode cX9_goes 86 = .ok (.goto 4, 3) := by decide +kernel
theorem dX9_goes_89 : decode cX9_goes 89 = .ok (.iconst 0, 1) := by decide +kernel
theorem dX9_goes_90 : decode cX9_goes 90 = .ok (.istore 6, 2) := by decide +kernel
theorem dX9_goes_92 : decode cX9_goes 92 = .ok (.aload_n 0, 1) := by decide +kernel
theorem dX9_goes_93 : decode cX9_goes 93 = .ok (.aload_n 0, 1) := by decide +kernel
theorem dX9_goes_94 : decode cX9_goes 94 = .ok (.getfield 38, 3) := by decide +kernel
theorem dX9_goes_97 : decode cX9_goes 97 = .ok (.aload_n 0, 1) := by decide +kernel
theorem dX9_goes_98 : decode cX9_goes 98 = .ok (.getfield 13, 3) := by decide +kernel
theorem dX9_goes_101 : decode cX9_goes 101 = .ok (.iconst 0, 1) := by decide +kernel
theorem dX9_goes_102 : decode cX9_goes 102 = .ok (.invokevirtual 176, 3) := by decide +kernel
theorem dX9_goes_105 : decode cX9_goes 105 = .ok (.iload 5, 2) := by decide +kernel
theorem dX9_goes_107 : decode cX9_goes 107 = .ok (.iand, 1) := by decide +kernel
theorem dX9_goes_108 : decode cX9_goes 108 = .ok (.ifCond .ne 12, 3) := by decide +kernel
theorem dX9_goes_111 : decode cX9_goes 111 = .ok (.iload 6, 2) := by decide +kernel
theorem dX9_goes_113 : decode cX9_goes 113 = .ok (.ifCond .eq 7, 3) := by decide +kernel
theorem dX9_goes_116 : decode cX9_goes 116 = .ok (.iconst 1, 1) := by decide +kernel
theorem dX9_goes_117 : decode cX9_goes 117 = .ok (.goto 4, 3) := by decide +kernel
theorem dX9_goes_120 : decode cX9_goes 120 = .ok (.iconst 0, 1) := by decide +kernel
theorem dX9_goes_121 : decode cX9_goes 121 = .ok (.istore 6, 2) := by decide +kernel
theorem dX9_goes_123 : decode cX9_goes 123 = .ok (.iinc 7 1, 3) := by decide +kernel
theorem dX9_goes_126 : decode cX9_goes 126 = .ok (.goto (-88), 3) := by decide +kernel
theorem dX9_goes_129 : decode cX9_goes 129 = .ok (.iload 6, 2) := by decide +kernel
theorem dX9_goes_131 : decode cX9_goes 131 = .ok (.ireturn, 1) := by decide +kernel
theorem dX9_has_0 : decode cX9_has 0 = .ok (.iload_n 0, 1) := by decide +kernel
theorem dX9_has_1 : decode cX9_has 1 = .ok (.iload_n 1, 1) := by decide +kernel
theorem dX9_has_2 : decode cX9_has 2 = .ok (.ishr, 1) := by decide +kernel
theorem dX9_has_3 : decode cX9_has 3 = .ok (.iconst 1, 1) := by decide +kernel
theorem dX9_has_4 : decode cX9_has 4 = .ok (.iand, 1) := by decide +kernel
theorem dX9_has_5 : decode cX9_has 5 = .ok (.iconst 1, 1) := by decide +kernel
theorem dX9_has_6 : decode cX9_has 6 = .ok (.if_icmp .ne 7, 3) := by decide +kernel
theorem dX9_has_9 : decode cX9_has 9 = .ok (.iconst 1, 1) := by decide +kernel
theorem dX9_has_10 : decode cX9_has 10 = .ok (.goto 4, 3) := by decide +kernel
theorem dX9_has_13 : decode cX9_has 13 = .ok (.iconst 0, 1) := by decide +kernel
theorem dX9_has_14 : decode cX9_has 14 = .ok (.ireturn, 1) := by decide +kernel
theorem dX9_heir_0 : decode cX9_heir 0 = .ok (.aload_n 0, 1) := by decide +kernel
theorem dX9_heir_1 : decode cX9_heir 1 = .ok (.iconst 0, 1) := by decide +kernel
theorem dX9_heir_2 : decode cX9_heir 2 = .ok (.putfield 66, 3) := by decide +kernel
theorem dX9_heir_5 : decode cX9_heir 5 = .ok (.aload_n 0, 1) := by decide +kernel
theorem dX9_heir_6 : decode cX9_heir 6 = .ok (.iload_n 1, 1) := by decide +kernel
theorem dX9_heir_7 : decode cX9_heir 7 = .ok (.invokevirtual 153, 3) := by decide +kernel
theorem dX9_heir_10 : decode cX9_heir 10 = .ok (.ifCond .eq 5, 3) := by decide +kernel
theorem dX9_heir_13 : decode cX9_heir 13 = .ok (.iconst (-1), 1) := by decide +kernel
theorem dX9_heir_14 : decode cX9_heir 14 = .ok (.ireturn, 1) := by decide +kernel
theorem dX9_heir_15 : decode cX9_heir 15 = .ok (.iconst 0, 1) := by decide +kernel
theorem dX9_heir_16 : decode cX9_heir 16 = .ok (.istore_n 2, 1) := by decide +kernel
theorem dX9_heir_17 : decode cX9_heir 17 = .ok (.iload_n 2, 1) := by decide +kernel
theorem dX9_heir_18 : decode cX9_heir 18 = .ok (.iconst 4, 1) := by decide +kernel
theorem dX9_heir_19 : decode cX9_heir 19 = .ok (.if_icmp .ge 27, 3) := by decide +kernel
theorem dX9_heir_22 : decode cX9_heir 22 = .ok (.aload_n 0, 1) := by decide +kernel
theorem dX9_heir_23 : decode cX9_heir 23 = .ok (.getfield 60, 3) := by decide +kernel
theorem dX9_heir_26 : decode cX9_heir 26 = .ok (.iload_n 2, 1) := by decide +kernel
theorem dX9_heir_27 : decode cX9_heir 27 = .ok (.iload_n 2, 1) := by decide +kernel
theorem dX9_heir_28 : decode cX9_heir 28 = .ok (.iload_n 1, 1) := by decide +kernel
theorem dX9_heir_29 : decode cX9_heir 29 = .ok (.if_icmp .ne 7, 3) := by decide +kernel
theorem dX9_heir_32 : decode cX9_heir 32 = .ok (.iconst 0, 1) := by decide +kernel
theorem dX9_heir_33 : decode cX9_heir 33 = .ok (.goto 6, 3) := by decide +kernel
theorem dX9_heir_36 : decode cX9_heir 36 = .ok (.sipush 9999, 3) := by decide +kernel
theorem dX9_heir_39 : decode cX9_heir 39 = .ok (.iastore, 1) := by decide +kernel
theorem dX9_heir_40 : decode cX9_heir 40 = .ok (.iinc 2 1, 3) := by decide +kernel
theorem dX9_heir_43 : decode cX9_heir 43 = .ok (.goto (-26), 3) := by decide +kernel
theorem dX9_heir_46 : decode cX9_heir 46 = .ok (.iconst 0, 1) := by decide +kernel
theorem dX9_heir_47 : decode cX9_heir 47 = .ok (.istore_n 2, 1) := by decide +kernel
theorem dX9_heir_48 : decode cX9_heir 48 = .ok (.iload_n 2, 1) := by decide +kernel
theorem dX9_heir_49 : decode cX9_heir 49 = .ok (.iconst 4, 1) := by decide +kernel
theorem dX9_heir_50 : decode cX9_heir 50 = .ok (.if_icmp .ge 129, 3) := by decide +kernel
theorem dX9_heir_53 : decode cX9_heir 53 = .ok (.iconst 0, 1) := by decide +kernel
theorem dX9_heir_54 : decode cX9_heir 54 = .ok (.istore_n 3, 1) := by decide +kernel
theorem dX9_heir_55 : decode cX9_heir 55 = .ok (.iload_n 3, 1) := by decide +kernel
theorem dX9_heir_56 : decode cX9_heir 56 = .ok (.aload_n 0, 1) := by decide +kernel
theorem dX9_heir_57 : decode cX9_heir 57 = .ok (.getfield 69, 3) := by decide +kernel
theorem dX9_heir_60 : decode cX9_heir 60 = .ok (.if_icmp .ge 113, 3) := by decide +kernel
theorem dX9_heir_63 : decode cX9_heir 63 = .ok (.aload_n 0, 1) := by decide +kernel
theorem dX9_heir_64 : decode cX9_heir 64 = .ok (.getfield 20, 3) := by decide +kernel
theorem dX9_heir_67 : decode cX9_heir 67 = .ok (.iconst 4, 1) := by decide +kernel
theorem dX9_heir_68 : decode cX9_heir 68 = .ok (.iload_n 3, 1) := by decide +kernel
theorem dX9_heir_69 : decode cX9_heir 69 = .ok (.imul, 1) := by decide +kernel
theorem dX9_heir_70 : decode cX9_heir 70 = .ok (.iconst 3, 1) := by decide +kernel
theorem dX9_heir_71 : decode cX9_heir 71 = .ok (.iadd, 1) := by decide +kernel
theorem dX9_heir_72 : decode cX9_heir 72 = .ok (.iaload, 1) := by decide +kernel
theorem dX9_heir_73 : decode cX9_heir 73 = .ok (.istore 4, 2) := by decide +kernel
theorem dX9_heir_75 : decode cX9_heir 75 = .ok (.iload 4, 2) := by decide +kernel
theorem dX9_heir_77 : decode cX9_heir 77 = .ok (.bipush (-9), 2) := by decide +kernel
theorem dX9_heir_79 : decode cX9_heir 79 = .ok (.if_icmp .eq 88, 3) := by decide +kernel
theorem dX9_heir_82 : decode cX9_heir 82 = .ok (.aload_n 0, 1) := by decide +kernel
theorem dX9_heir_83 : decode cX9_heir 83 = .ok (.getfield 60, 3) := by decide +kernel
theorem dX9_heir_86 : decode cX9_heir 86 = .ok (.iload_n 3, 1) := by decide +kernel
theorem dX9_heir_87 : decode cX9_heir 87 = .ok (.aload_n 0, 1) := by decide +kernel
theorem dX9_heir_88 : decode cX9_heir 88 = .ok (.getfield 60, 3) := by decide +kernel
theorem dX9_heir_91 : decode cX9_heir 91 = .ok (.iload 4, 2) := by decide +kernel
theorem dX9_heir_93 : decode cX9_heir 93 = .ok (.iaload, 1) := by decide +kernel
theorem dX9_heir_94 : decode cX9_heir 94 = .ok (.iconst 1, 1) := by decide +kernel
theorem dX9_heir_95 : decode cX9_heir 95 = .ok (.iadd, 1) := by decide +kernel
theorem dX9_heir_96 : decode cX9_heir 96 = .ok (.aload_n 0, 1) := by decide +kernel
theorem dX9_heir_97 : decode cX9_heir 97 = .ok (.getfield 60, 3) := by decide +kernel
theorem dX9_heir_100 : decode cX9_heir 100 = .ok (.iload_n 3, 1) := by decide +kernel
theorem dX9_heir_101 : decode cX9_heir 101 = .ok (.iaload, 1) := by decide +kernel
theorem dX9_heir_102 : decode cX9_heir 102 = .ok (.if_icmp .ge 15, 3) := by decide +kernel
theorem dX9_heir_105 : decode cX9_heir 105 = .ok (.aload_n 0, 1) := by decide +kernel
theorem dX9_heir_106 : decode cX9_heir 106 = .ok (.getfield 60, 3) := by decide +kernel
theorem dX9_heir_109 : decode cX9_heir 109 = .ok (.iload 4, 2) := by decide +kernel
theorem dX9_heir_111 : decode cX9_heir 111 = .ok (.iaload, 1) := by decide +kernel
theorem dX9_heir_112 : decode cX9_heir 112 = .ok (.iconst 1, 1) := by decide +kernel
theorem dX9_heir_113 : decode cX9_heir 113 = .ok (.iadd, 1) := by decide +kernel
theorem dX9_heir_114 : decode cX9_heir 114 = .ok (.goto 9, 3) := by decide +kernel
theorem dX9_heir_117 : decode cX9_heir 117 = .ok (.aload_n 0, 1) := by decide +kernel
theorem dX9_heir_118 : decode cX9_heir 118 = .ok (.getfield 60, 3) := by decide +kernel
theorem dX9_heir_121 : decode cX9_heir 121 = .ok (.iload_n 3, 1) := by decide +kernel
theorem dX9_heir_122 : decode cX9_heir 122 = .ok (.iaload, 1) := by decide +kernel
theorem dX9_heir_123 : decode cX9_heir 123 = .ok (.iastore, 1) := by decide +kernel
theorem dX9_heir_124 : decode cX9_heir 124 = .ok (.aload_n 0, 1) := by decide +kernel
theorem dX9_heir_125 : decode cX9_heir 125 = .ok (.getfield 60, 3) := by decide +kernel
theorem dX9_heir_128 : decode cX9_heir 128 = .ok (.iload 4, 2) := by decide +kernel
theorem dX9_heir_130 : decode cX9_heir 130 = .ok (.aload_n 0, 1) := by decide +kernel
theorem dX9_heir_131 : decode cX9_heir 131 = .ok (.getfield 60, 3) := by decide +kernel
theorem dX9_heir_134 : decode cX9_heir 134 = .ok (.iload_n 3, 1) := by decide +kernel
theorem dX9_heir_135 : decode cX9_heir 135 = .ok (.iaload, 1) := by decide +kernel
theorem dX9_heir_136 : decode cX9_heir 136 = .ok (.iconst 1, 1) := by decide +kernel
theorem dX9_heir_137 : decode cX9_heir 137 = .ok (.iadd, 1) := by decide +kernel
theorem dX9_heir_138 : decode cX9_heir 138 = .ok (.aload_n 0, 1) := by decide +kernel
theorem dX9_heir_139 : decode cX9_heir 139 = .ok (.getfield 60, 3) := by decide +kernel
theorem dX9_heir_142 : decode cX9_heir 142 = .ok (.iload 4, 2) := by decide +kernel
theorem dX9_heir_144 : decode cX9_heir 144 = .ok (.iaload, 1) := by decide +kernel
theorem dX9_heir_145 : decode cX9_heir 145 = .ok (.if_icmp .ge 14, 3) := by decide +kernel
theorem dX9_heir_148 : decode cX9_heir 148 = .ok (.aload_n 0, 1) := by decide +kernel
theorem dX9_heir_149 : decode cX9_heir 149 = .ok (.getfield 60, 3) := by decide +kernel
theorem dX9_heir_152 : decode cX9_heir 152 = .ok (.iload_n 3, 1) := by decide +kernel
theorem dX9_heir_153 : decode cX9_heir 153 = .ok (.iaload, 1) := by decide +kernel
theorem dX9_heir_154 : decode cX9_heir 154 = .ok (.iconst 1, 1) := by decide +kernel
theorem dX9_heir_155 : decode cX9_heir 155 = .ok (.iadd, 1) := by decide +kernel
theorem dX9_heir_156 : decode cX9_heir 156 = .ok (.goto 10, 3) := by decide +kernel
theorem dX9_heir_159 : decode cX9_heir 159 = .ok (.aload_n 0, 1) := by decide +kernel
theorem dX9_heir_160 : decode cX9_heir 160 = .ok (.getfield 60, 3) := by decide +kernel
theorem dX9_heir_163 : decode cX9_heir 163 = .ok (.iload 4, 2) := by decide +kernel
theorem dX9_heir_165 : decode cX9_heir 165 = .ok (.iaload, 1) := by decide +kernel
theorem dX9_heir_166 : decode cX9_heir 166 = .ok (.iastore, 1) := by decide +kernel
theorem dX9_heir_167 : decode cX9_heir 167 = .ok (.iinc 3 1, 3) := by decide +kernel
theorem dX9_heir_170 : decode cX9_heir 170 = .ok (.goto (-115), 3) := by decide +kernel
theorem dX9_heir_173 : decode cX9_heir 173 = .ok (.iinc 2 1, 3) := by decide +kernel
theorem dX9_heir_176 : decode cX9_heir 176 = .ok (.goto (-128), 3) := by decide +kernel
theorem dX9_heir_179 : decode cX9_heir 179 = .ok (.bipush (-9), 2) := by decide +kernel
theorem dX9_heir_181 : decode cX9_heir 181 = .ok (.istore_n 2, 1) := by decide +kernel
theorem dX9_heir_182 : decode cX9_heir 182 = .ok (.iconst 0, 1) := by decide +kernel
theorem dX9_heir_183 : decode cX9_heir 183 = .ok (.istore_n 3, 1) := by decide +kernel
theorem dX9_heir_184 : decode cX9_heir 184 = .ok (.iload_n 3, 1) := by decide +kernel
theorem dX9_heir_185 : decode cX9_heir 185 = .ok (.aload_n 0, 1) := by decide +kernel
theorem dX9_heir_186 : decode cX9_heir 186 = .ok (.getfield 69, 3) := by decide +kernel
theorem dX9_heir_189 : decode cX9_heir 189 = .ok (.if_icmp .ge 103, 3) := by decide +kernel
theorem dX9_heir_192 : decode cX9_heir 192 = .ok (.iload_n 3, 1) := by decide +kernel
theorem dX9_heir_193 : decode cX9_heir 193 = .ok (.iload_n 1, 1) := by decide +kernel
theorem dX9_heir_194 : decode cX9_heir 194 = .ok (.if_icmp .eq 92, 3) := by decide +kernel
theorem dX9_heir_197 : decode cX9_heir 197 = .ok (.aload_n 0, 1) := by decide +kernel
theorem dX9_heir_198 : decode cX9_heir 198 = .ok (.getfield 60, 3) := by decide +kernel
theorem dX9_heir_201 : decode cX9_heir 201 = .ok (.iload_n 3, 1) := by decide +kernel
theorem dX9_heir_202 : decode cX9_heir 202 = .ok (.iaload, 1) := by decide +kernel
theorem dX9_heir_203 : decode cX9_heir 203 = .ok (.sipush 9999, 3) := by decide +kernel
theorem dX9_heir_206 : decode cX9_heir 206 = .ok (.if_icmp .ge 80, 3) := by decide +kernel
theorem dX9_heir_209 : decode cX9_heir 209 = .ok (.iload_n 2, 1) := by decide +kernel
theorem dX9_heir_210 : decode cX9_heir 210 = .ok (.bipush (-9), 2) := by decide +kernel
theorem dX9_heir_212 : decode cX9_heir 212 = .ok (.if_icmp .eq 56, 3) := by decide +kernel
theorem dX9_heir_215 : decode cX9_heir 215 = .ok (.aload_n 0, 1) := by decide +kernel
theorem dX9_heir_216 : decode cX9_heir 216 = .ok (.getfield 60, 3) := by decide +kernel
theorem dX9_heir_219 : decode cX9_heir 219 = .ok (.iload_n 3, 1) := by decide +kernel
theorem dX9_heir_220 : decode cX9_heir 220 = .ok (.iaload, 1) := by decide +kernel
theorem dX9_heir_221 : decode cX9_heir 221 = .ok (.aload_n 0, 1) := by decide +kernel
theorem dX9_heir_222 : decode cX9_heir 222 = .ok (.getfield 60, 3) := by decide +kernel
theorem dX9_heir_225 : decode cX9_heir 225 = .ok (.iload_n 2, 1) := by decide +kernel
theorem dX9_heir_226 : decode cX9_heir 226 = .ok (.iaload, 1) := by decide +kernel
theorem dX9_heir_227 : decode cX9_heir 227 = .ok (.if_icmp .lt 41, 3) := by decide +kernel
theorem dX9_heir_230 : decode cX9_heir 230 = .ok (.aload_n 0, 1) := by decide +kernel
theorem dX9_heir_231 : decode cX9_heir 231 = .ok (.getfield 60, 3) := by decide +kernel
theorem dX9_heir_234 : decode cX9_heir 234 = .ok (.iload_n 3, 1) := by decide +kernel
theorem dX9_heir_235 : decode cX9_heir 235 = .ok (.iaload, 1) := by decide +kernel
theorem dX9_heir_236 : decode cX9_heir 236 = .ok (.aload_n 0, 1) := by decide +kernel
theorem dX9_heir_237 : decode cX9_heir 237 = .ok (.getfield 60, 3) := by decide +kernel
theorem dX9_heir_240 : decode cX9_heir 240 = .ok (.iload_n 2, 1) := by decide +kernel
theorem dX9_heir_241 : decode cX9_heir 241 = .ok (.iaload, 1) := by decide +kernel
theorem dX9_heir_242 : decode cX9_heir 242 = .ok (.if_icmp .ne 30, 3) := by decide +kernel
theorem dX9_heir_245 : decode cX9_heir 245 = .ok (.aload_n 0, 1) := by decide +kernel
theorem dX9_heir_246 : decode cX9_heir 246 = .ok (.getfield 20, 3) := by decide +kernel
theorem dX9_heir_249 : decode cX9_heir 249 = .ok (.iconst 4, 1) := by decide +kernel
theorem dX9_heir_250 : decode cX9_heir 250 = .ok (.iload_n 3, 1) := by decide +kernel
theorem dX9_heir_251 : decode cX9_heir 251 = .ok (.imul, 1) := by decide +kernel
theorem dX9_heir_252 : decode cX9_heir 252 = .ok (.iconst 1, 1) := by decide +kernel
theorem dX9_heir_253 : decode cX9_heir 253 = .ok (.iadd, 1) := by decide +kernel
theorem dX9_heir_254 : decode cX9_heir 254 = .ok (.iaload, 1) := by decide +kernel
theorem dX9_heir_255 : decode cX9_heir 255 = .ok (.aload_n 0, 1) := by decide +kernel
theorem dX9_heir_256 : decode cX9_heir 256 = .ok (.getfield 20, 3) := by decide +kernel
theorem dX9_heir_259 : decode cX9_heir 259 = .ok (.iconst 4, 1) := by decide +kernel
theorem dX9_heir_260 : decode cX9_heir 260 = .ok (.iload_n 2, 1) := by decide +kernel
theorem dX9_heir_261 : decode cX9_heir 261 = .ok (.imul, 1) := by decide +kernel
theorem dX9_heir_262 : decode cX9_heir 262 = .ok (.iconst 1, 1) := by decide +kernel
theorem dX9_heir_263 : decode cX9_heir 263 = .ok (.iadd, 1) := by decide +kernel
theorem dX9_heir_264 : decode cX9_heir 264 = .ok (.iaload, 1) := by decide +kernel
theorem dX9_heir_265 : decode cX9_heir 265 = .ok (.if_icmp .le 7, 3) := by decide +kernel
theorem dX9_heir_268 : decode cX9_heir 268 = .ok (.iconst 1, 1) := by decide +kernel
theorem dX9_heir_269 : decode cX9_heir 269 = .ok (.goto 4, 3) := by decide +kernel
theorem dX9_heir_272 : decode cX9_heir 272 = .ok (.iconst 0, 1) := by decide +kernel
theorem dX9_heir_273 : decode cX9_heir 273 = .ok (.istore 4, 2) := by decide +kernel
theorem dX9_heir_275 : decode cX9_heir 275 = .ok (.iload 4, 2) := by decide +kernel
theorem dX9_heir_277 : decode cX9_heir 277 = .ok (.ifCond .eq 7, 3) := by decide +kernel
theorem dX9_heir_280 : decode cX9_heir 280 = .ok (.iload_n 3, 1) := by decide +kernel
theorem dX9_heir_281 : decode cX9_heir 281 = .ok (.goto 4, 3) := by decide +kernel
theorem dX9_heir_284 : decode cX9_heir 284 = .ok (.iload_n 2, 1) := by decide +kernel
theorem dX9_heir_285 : decode cX9_heir 285 = .ok (.istore_n 2, 1) := by decide +kernel
theorem dX9_heir_286 : decode cX9_heir 286 = .ok (.iinc 3 1, 3) := by decide +kernel
theorem dX9_heir_289 : decode cX9_heir 289 = .ok (.goto (-105), 3) := by decide +kernel
theorem dX9_heir_292 : decode cX9_heir 292 = .ok (.iload_n 2, 1) := by decide +kernel
theorem dX9_heir_293 : decode cX9_heir 293 = .ok (.ireturn, 1) := by decide +kernel
theorem dX9_hour_0 : decode cX9_hour 0 = .ok (.aload_n 0, 1) := by decide +kernel
theorem dX9_hour_1 : decode cX9_hour 1 = .ok (.iconst 0, 1) := by decide +kernel
theorem dX9_hour_2 : decode cX9_hour 2 = .ok (.putfield 66, 3) := by decide +kernel
theorem dX9_hour_5 : decode cX9_hour 5 = .ok (.aload_n 0, 1) := by decide +kernel
theorem dX9_hour_6 : decode cX9_hour 6 = .ok (.invokevirtual 166, 3) := by decide +kernel
theorem dX9_hour_9 : decode cX9_hour 9 = .ok (.aload_n 0, 1) := by decide +kernel
theorem dX9_hour_10 : decode cX9_hour 10 = .ok (.aload_n 0, 1) := by decide +kernel
theorem dX9_hour_11 : decode cX9_hour 11 = .ok (.getfield 35, 3) := by decide +kernel
theorem dX9_hour_14 : decode cX9_hour 14 = .ok (.aload_n 0, 1) := by decide +kernel
theorem dX9_hour_15 : decode cX9_hour 15 = .ok (.getfield 13, 3) := by decide +kernel
theorem dX9_hour_18 : decode cX9_hour 18 = .ok (.iconst 0, 1) := by decide +kernel
theorem dX9_hour_19 : decode cX9_hour 19 = .ok (.invokevirtual 176, 3) := by decide +kernel
theorem dX9_hour_22 : decode cX9_hour 22 = .ok (.ireturn, 1) := by decide +kernel
theorem dX9_impounded_0 : decode cX9_impounded 0 = .ok (.iconst 0, 1) := by decide +kernel
theorem dX9_impounded_1 : decode cX9_impounded 1 = .ok (.istore_n 1, 1) := by decide +kernel
theorem dX9_impounded_2 : decode cX9_impounded 2 = .ok (.iconst 0, 1) := by decide +kernel
theorem dX9_impounded_3 : decode cX9_impounded 3 = .ok (.istore_n 2, 1) := by decide +kernel
theorem dX9_impounded_4 : decode cX9_impounded 4 = .ok (.iload_n 2, 1) := by decide +kernel
theorem dX9_impounded_5 : decode cX9_impounded 5 = .ok (.aload_n 0, 1) := by decide +kernel
theorem dX9_impounded_6 : decode cX9_impounded 6 = .ok (.getfield 76, 3) := by decide +kernel
theorem dX9_impounded_9 : decode cX9_impounded 9 = .ok (.if_icmp .ge 31, 3) := by decide +kernel
theorem dX9_impounded_12 : decode cX9_impounded 12 = .ok (.iload_n 1, 1) := by decide +kernel
theorem dX9_impounded_13 : decode cX9_impounded 13 = .ok (.aload_n 0, 1) := by decide +kernel
theorem dX9_impounded_14 : decode cX9_impounded 14 = .ok (.getfield 35, 3) := by decide +kernel
theorem dX9_impounded_17 : decode cX9_impounded 17 = .ok (.bipush 19, 2) := by decide +kernel
theorem dX9_impounded_19 : decode cX9_impounded 19 = .ok (.iload_n 2, 1) := by decide +kernel
theorem dX9_impounded_20 : decode cX9_impounded 20 = .ok (.iadd, 1) := by decide +kernel
theorem dX9_impounded_21 : decode cX9_impounded 21 = .ok (.iaload, 1) := by decide +kernel
theorem dX9_impounded_22 : decode cX9_impounded 22 = .ok (.ifCond .le 9, 3) := by decide +kernel
theorem dX9_impounded_25 : decode cX9_impounded 25 = .ok (.iconst 1, 1) := by decide +kernel
theorem dX9_impounded_26 : decode cX9_impounded 26 = .ok (.iload_n 2, 1) := by decide +kernel
theorem dX9_impounded_27 : decode cX9_impounded 27 = .ok (.ishl, 1) := by decide +kernel
theorem dX9_impounded_28 : decode cX9_impounded 28 = .ok (.goto 4, 3) := by decide +kernel
theorem dX9_impounded_31 : decode cX9_impounded 31 = .ok (.iconst 0, 1) := by decide +kernel
theorem dX9_impounded_32 : decode cX9_impounded 32 = .ok (.ior, 1) := by decide +kernel
theorem dX9_impounded_33 : decode cX9_impounded 33 = .ok (.istore_n 1, 1) := by decide +kernel
theorem dX9_impounded_34 : decode cX9_impounded 34 = .ok (.iinc 2 1, 3) := by decide +kernel
theorem dX9_impounded_37 : decode cX9_impounded 37 = .ok (.goto (-33), 3) := by decide +kernel
theorem dX9_impounded_40 : decode cX9_impounded 40 = .ok (.iload_n 1, 1) := by decide +kernel
theorem dX9_impounded_41 : decode cX9_impounded 41 = .ok (.ireturn, 1) := by decide +kernel
theorem dX9_in_0 : decode cX9_in 0 = .ok (.lload_n 0, 1) := by decide +kernel
theorem dX9_in_1 : decode cX9_in 1 = .ok (.lload_n 2, 1) := by decide +kernel
theorem dX9_in_2 : decode cX9_in 2 = .ok (.lcmp, 1) := by decide +kernel
theorem dX9_in_3 : decode cX9_in 3 = .ok (.ifCond .lt 14, 3) := by decide +kernel
theorem dX9_in_6 : decode cX9_in 6 = .ok (.lload_n 0, 1) := by decide +kernel
theorem dX9_in_7 : decode cX9_in 7 = .ok (.lload 4, 2) := by decide +kernel
theorem dX9_in_9 : decode cX9_in 9 = .ok (.lcmp, 1) := by decide +kernel
theorem dX9_in_10 : decode cX9_in 10 = .ok (.ifCond .gt 7, 3) := by decide +kernel
theorem dX9_in_13 : decode cX9_in 13 = .ok (.iconst 1, 1) := by decide +kernel
theorem dX9_in_14 : decode cX9_in 14 = .ok (.goto 4, 3) := by decide +kernel
theorem dX9_in_17 : decode cX9_in 17 = .ok (.iconst 0, 1) := by decide +kernel
theorem dX9_in_18 : decode cX9_in 18 = .ok (.ireturn, 1) := by decide +kernel
theorem dX9_init_0 : decode cX9_init 0 = .ok (.aload_n 0, 1) := by decide +kernel
theorem dX9_init_1 : decode cX9_init 1 = .ok (.invokespecial 1, 3) := by decide +kernel
theorem dX9_init_4 : decode cX9_init 4 = .ok (.aload_n 0, 1) := by decide +kernel
theorem dX9_init_5 : decode cX9_init 5 = .ok (.bipush 60, 2) := by decide +kernel
theorem dX9_init_7 : decode cX9_init 7 = .ok (.newarray .int, 2) := by decide +kernel
theorem dX9_init_9 : decode cX9_init 9 = .ok (.putfield 7, 3) := by decide +kernel
theorem dX9_init_12 : decode cX9_init 12 = .ok (.aload_n 0, 1) := by decide +kernel
theorem dX9_init_13 : decode cX9_init 13 = .ok (.bipush 12, 2) := by decide +kernel
theorem dX9_init_15 : decode cX9_init 15 = .ok (.putfield 13, 3) := by decide +kernel
theorem dX9_init_18 : decode cX9_init 18 = .ok (.aload_n 0, 1) := by decide +kernel
theorem dX9_init_19 : decode cX9_init 19 = .ok (.iconst 4, 1) := by decide +kernel
theorem dX9_init_20 : decode cX9_init 20 = .ok (.newarray .int, 2) := by decide +kernel
theorem dX9_init_22 : decode cX9_init 22 = .ok (.putfield 17, 3) := by decide +kernel
theorem dX9_init_25 : decode cX9_init 25 = .ok (.aload_n 0, 1) := by decide +kernel
theorem dX9_init_26 : decode cX9_init 26 = .ok (.bipush 16, 2) := by decide +kernel
theorem dX9_init_28 : decode cX9_init 28 = .ok (.newarray .int, 2) := by decide +kernel
theorem dX9_init_30 : decode cX9_init 30 = .ok (.putfield 20, 3) := by decide +kernel
theorem dX9_init_33 : decode cX9_init 33 = .ok (.aload_n 0, 1) := by decide +kernel
theorem dX9_init_34 : decode cX9_init 34 = .ok (.bipush 15, 2) := by decide +kernel
theorem dX9_init_36 : decode cX9_init 36 = .ok (.newarray .int, 2) := by decide +kernel
theorem dX9_init_38 : decode cX9_init 38 = .ok (.putfield 23, 3) := by decide +kernel
theorem dX9_init_41 : decode cX9_init 41 = .ok (.aload_n 0, 1) := by decide +kernel
theorem dX9_init_42 : decode cX9_init 42 = .ok (.iconst 4, 1) := by decide +kernel
theorem dX9_init_43 : decode cX9_init 43 = .ok (.newarray .int, 2) := by decide +kernel
theorem dX9_init_45 : decode cX9_init 45 = .ok (.putfield 26, 3) := by decide +kernel
theorem dX9_init_48 : decode cX9_init 48 = .ok (.aload_n 0, 1) := by decide +kernel
theorem dX9_init_49 : decode cX9_init 49 = .ok (.bipush 16, 2) := by decide +kernel
theorem dX9_init_51 : decode cX9_init 51 = .ok (.newarray .int, 2) := by decide +kernel
theorem dX9_init_53 : decode cX9_init 53 = .ok (.putfield 29, 3) := by decide +kernel
theorem dX9_init_56 : decode cX9_init 56 = .ok (.aload_n 0, 1) := by decide +kernel
theorem dX9_init_57 : decode cX9_init 57 = .ok (.bipush 15, 2) := by decide +kernel
theorem dX9_init_59 : decode cX9_init 59 = .ok (.newarray .int, 2) := by decide +kernel
theorem dX9_init_61 : decode cX9_init 61 = .ok (.putfield 32, 3) := by decide +kernel
theorem dX9_init_64 : decode cX9_init 64 = .ok (.aload_n 0, 1) := by decide +kernel
theorem dX9_init_65 : decode cX9_init 65 = .ok (.bipush 25, 2) := by decide +kernel
theorem dX9_init_67 : decode cX9_init 67 = .ok (.newarray .int, 2) := by decide +kernel
theorem dX9_init_69 : decode cX9_init 69 = .ok (.putfield 35, 3) := by decide +kernel
theorem dX9_init_72 : decode cX9_init 72 = .ok (.aload_n 0, 1) := by decide +kernel
theorem dX9_init_73 : decode cX9_init 73 = .ok (.bipush 25, 2) := by decide +kernel
theorem dX9_init_75 : decode cX9_init 75 = .ok (.newarray .int, 2) := by decide +kernel
theorem dX9_init_77 : decode cX9_init 77 = .ok (.putfield 38, 3) := by decide +kernel
theorem dX9_init_80 : decode cX9_init 80 = .ok (.aload_n 0, 1) := by decide +kernel
theorem dX9_init_81 : decode cX9_init 81 = .ok (.sipush 350, 3) := by decide +kernel
theorem dX9_init_84 : decode cX9_init 84 = .ok (.newarray .int, 2) := by decide +kernel
theorem dX9_init_86 : decode cX9_init 86 = .ok (.putfield 41, 3) := by decide +kernel
theorem dX9_init_89 : decode cX9_init 89 = .ok (.aload_n 0, 1) := by decide +kernel
theorem dX9_init_90 : decode cX9_init 90 = .ok (.bipush 50, 2) := by decide +kernel
theorem dX9_init_92 : decode cX9_init 92 = .ok (.newarray .int, 2) := by decide +kernel
theorem dX9_init_94 : decode cX9_init 94 = .ok (.putfield 44, 3) := by decide +kernel
theorem dX9_init_97 : decode cX9_init 97 = .ok (.aload_n 0, 1) := by decide +kernel
theorem dX9_init_98 : decode cX9_init 98 = .ok (.iconst 2, 1) := by decide +kernel
theorem dX9_init_99 : decode cX9_init 99 = .ok (.newarray .boolean, 2) := by decide +kernel
theorem dX9_init_101 : decode cX9_init 101 = .ok (.putfield 47, 3) := by decide +kernel
theorem dX9_init_104 : decode cX9_init 104 = .ok (.aload_n 0, 1) := by decide +kernel
theorem dX9_init_105 : decode cX9_init 105 = .ok (.bipush 6, 2) := by decide +kernel
theorem dX9_init_107 : decode cX9_init 107 = .ok (.newarray .int, 2) := by decide +kernel
theorem dX9_init_109 : decode cX9_init 109 = .ok (.putfield 51, 3) := by decide +kernel
theorem dX9_init_112 : decode cX9_init 112 = .ok (.aload_n 0, 1) := by decide +kernel
theorem dX9_init_113 : decode cX9_init 113 = .ok (.bipush 6, 2) := by decide +kernel
theorem dX9_init_115 : decode cX9_init 115 = .ok (.newarray .int, 2) := by decide +kernel
theorem dX9_init_117 : decode cX9_init 117 = .ok (.putfield 54, 3) := by decide +kernel
theorem dX9_init_120 : decode cX9_init 120 = .ok (.aload_n 0, 1) := by decide +kernel
theorem dX9_init_121 : decode cX9_init 121 = .ok (.bipush 6, 2) := by decide +kernel
theorem dX9_init_123 : decode cX9_init 123 = .ok (.newarray .int, 2) := by decide +kernel
theorem dX9_init_125 : decode cX9_init 125 = .ok (.putfield 57, 3) := by decide +kernel
theorem dX9_init_128 : decode cX9_init 128 = .ok (.aload_n 0, 1) := by decide +kernel
theorem dX9_init_129 : decode cX9_init 129 = .ok (.iconst 4, 1) := by decide +kernel
theorem dX9_init_130 : decode cX9_init 130 = .ok (.newarray .int, 2) := by decide +kernel
theorem dX9_init_132 : decode cX9_init 132 = .ok (.putfield 60, 3) := by decide +kernel
theorem dX9_init_135 : decode cX9_init 135 = .ok (.aload_n 0, 1) := by decide +kernel
theorem dX9_init_136 : decode cX9_init 136 = .ok (.iconst 5, 1) := by decide +kernel
theorem dX9_init_137 : decode cX9_init 137 = .ok (.newarray .int, 2) := by decide +kernel
theorem dX9_init_139 : decode cX9_init 139 = .ok (.putfield 63, 3) := by decide +kernel
theorem dX9_init_142 : decode cX9_init 142 = .ok (.return_, 1) := by decide +kernel
theorem dX9_isAlone_0 : decode cX9_isAlone 0 = .ok (.iconst 1, 1) := by decide +kernel
theorem dX9_isAlone_1 : decode cX9_isAlone 1 = .ok (.istore_n 2, 1) := by decide +kernel
theorem dX9_isAlone_2 : decode cX9_isAlone 2 = .ok (.iconst 0, 1) := by decide +kernel
theorem dX9_isAlone_3 : decode cX9_isAlone 3 = .ok (.istore_n 3, 1) := by decide +kernel
theorem dX9_isAlone_4 : decode cX9_isAlone 4 = .ok (.iload_n 3, 1) := by decide +kernel
theorem dX9_isAlone_5 : decode cX9_isAlone 5 = .ok (.aload_n 0, 1) := by decide +kernel
theorem dX9_isAlone_6 : decode cX9_isAlone 6 = .ok (.getfield 69, 3) := by decide +kernel
theorem dX9_isAlone_9 : decode cX9_isAlone 9 = .ok (.if_icmp .ge 62, 3) := by decide +kernel
theorem dX9_isAlone_12 : decode cX9_isAlone 12 = .ok (.iload_n 2, 1) := by decide +kernel
theorem dX9_isAlone_13 : decode cX9_isAlone 13 = .ok (.ifCond .eq 58, 3) := by decide +kernel
theorem dX9_isAlone_16 : decode cX9_isAlone 16 = .ok (.iload_n 3, 1) := by decide +kernel
theorem dX9_isAlone_17 : decode cX9_isAlone 17 = .ok (.iload_n 1, 1) := by decide +kernel
theorem dX9_isAlone_18 : decode cX9_isAlone 18 = .ok (.if_icmp .eq 41, 3) := by decide +kernel
theorem dX9_isAlone_21 : decode cX9_isAlone 21 = .ok (.aload_n 0, 1) := by decide +kernel
theorem dX9_isAlone_22 : decode cX9_isAlone 22 = .ok (.getfield 20, 3) := by decide +kernel
theorem dX9_isAlone_25 : decode cX9_isAlone 25 = .ok (.iconst 4, 1) := by decide +kernel
theorem dX9_isAlone_26 : decode cX9_isAlone 26 = .ok (.iload_n 3, 1) := by decide +kernel
theorem dX9_isAlone_27 : decode cX9_isAlone 27 = .ok (.imul, 1) := by decide +kernel
theorem dX9_isAlone_28 : decode cX9_isAlone 28 = .ok (.iconst 1, 1) := by decide +kernel
theorem dX9_isAlone_29 : decode cX9_isAlone 29 = .ok (.iadd, 1) := by decide +kernel
theorem dX9_isAlone_30 : decode cX9_isAlone 30 = .ok (.iaload, 1) := by decide +kernel
theorem dX9_isAlone_31 : decode cX9_isAlone 31 = .ok (.aload_n 0, 1) := by decide +kernel
theorem dX9_isAlone_32 : decode cX9_isAlone 32 = .ok (.getfield 20, 3) := by decide +kernel
theorem dX9_isAlone_35 : decode cX9_isAlone 35 = .ok (.iconst 4, 1) := by decide +kernel
theorem dX9_isAlone_36 : decode cX9_isAlone 36 = .ok (.iload_n 1, 1) := by decide +kernel
theorem dX9_isAlone_37 : decode cX9_isAlone 37 = .ok (.imul, 1) := by decide +kernel
theorem dX9_isAlone_38 : decode cX9_isAlone 38 = .ok (.iconst 1, 1) := by decide +kernel
theorem dX9_isAlone_39 : decode cX9_isAlone 39 = .ok (.iadd, 1) := by decide +kernel
theorem dX9_isAlone_40 : decode cX9_isAlone 40 = .ok (.iaload, 1) := by decide +kernel
theorem dX9_isAlone_41 : decode cX9_isAlone 41 = .ok (.if_icmp .ne 18, 3) := by decide +kernel
theorem dX9_isAlone_44 : decode cX9_isAlone 44 = .ok (.aload_n 0, 1) := by decide +kernel
theorem dX9_isAlone_45 : decode cX9_isAlone 45 = .ok (.getfield 38, 3) := by decide +kernel
theorem dX9_isAlone_48 : decode cX9_isAlone 48 = .ok (.iload_n 3, 1) := by decide +kernel
theorem dX9_isAlone_49 : decode cX9_isAlone 49 = .ok (.iaload, 1) := by decide +kernel
theorem dX9_isAlone_50 : decode cX9_isAlone 50 = .ok (.aload_n 0, 1) := by decide +kernel
theorem dX9_isAlone_51 : decode cX9_isAlone 51 = .ok (.getfield 38, 3) := by decide +kernel
theorem dX9_isAlone_54 : decode cX9_isAlone 54 = .ok (.iload_n 1, 1) := by decide +kernel
theorem dX9_isAlone_55 : decode cX9_isAlone 55 = .ok (.iaload, 1) := by decide +kernel
theorem dX9_isAlone_56 : decode cX9_isAlone 56 = .ok (.if_icmp .eq 7, 3) := by decide +kernel
theorem dX9_isAlone_59 : decode cX9_isAlone 59 = .ok (.iconst 1, 1) := by decide +kernel
theorem dX9_isAlone_60 : decode cX9_isAlone 60 = .ok (.goto 4, 3) := by decide +kernel
theorem dX9_isAlone_63 : decode cX9_isAlone 63 = .ok (.iconst 0, 1) := by decide +kernel
theorem dX9_isAlone_64 : decode cX9_isAlone 64 = .ok (.istore_n 2, 1) := by decide +kernel
theorem dX9_isAlone_65 : decode cX9_isAlone 65 = .ok (.iinc 3 1, 3) := by decide +kernel
theorem dX9_isAlone_68 : decode cX9_isAlone 68 = .ok (.goto (-64), 3) := by decide +kernel
theorem dX9_isAlone_71 : decode cX9_isAlone 71 = .ok (.iload_n 2, 1) := by decide +kernel
theorem dX9_isAlone_72 : decode cX9_isAlone 72 = .ok (.ireturn, 1) := by decide +kernel
theorem dX9_isWalk_0 : decode cX9_isWalk 0 = .ok (.iconst 1, 1) := by decide +kernel
theorem dX9_isWalk_1 : decode cX9_isWalk 1 = .ok (.istore_n 2, 1) := by decide +kernel
theorem dX9_isWalk_2 : decode cX9_isWalk 2 = .ok (.iconst 0, 1) := by decide +kernel
theorem dX9_isWalk_3 : decode cX9_isWalk 3 = .ok (.istore_n 3, 1) := by decide +kernel
theorem dX9_isWalk_4 : decode cX9_isWalk 4 = .ok (.iload_n 3, 1) := by decide +kernel
theorem dX9_isWalk_5 : decode cX9_isWalk 5 = .ok (.aload_n 0, 1) := by decide +kernel
theorem dX9_isWalk_6 : decode cX9_isWalk 6 = .ok (.getfield 69, 3) := by decide +kernel
theorem dX9_isWalk_9 : decode cX9_isWalk 9 = .ok (.if_icmp .ge 89, 3) := by decide +kernel
theorem dX9_isWalk_12 : decode cX9_isWalk 12 = .ok (.iload_n 2, 1) := by decide +kernel
theorem dX9_isWalk_13 : decode cX9_isWalk 13 = .ok (.ifCond .eq 85, 3) := by decide +kernel
theorem dX9_isWalk_16 : decode cX9_isWalk 16 = .ok (.iconst 0, 1) := by decide +kernel
theorem dX9_isWalk_17 : decode cX9_isWalk 17 = .ok (.istore 4, 2) := by decide +kernel
theorem dX9_isWalk_19 : decode cX9_isWalk 19 = .ok (.iconst 0, 1) := by decide +kernel
theorem dX9_isWalk_20 : decode cX9_isWalk 20 = .ok (.istore 5, 2) := by decide +kernel
theorem dX9_isWalk_22 : decode cX9_isWalk 22 = .ok (.iload 5, 2) := by decide +kernel
theorem dX9_isWalk_24 : decode cX9_isWalk 24 = .ok (.aload_n 0, 1) := by decide +kernel
theorem dX9_isWalk_25 : decode cX9_isWalk 25 = .ok (.getfield 76, 3) := by decide +kernel
theorem dX9_isWalk_28 : decode cX9_isWalk 28 = .ok (.if_icmp .ge 43, 3) := by decide +kernel
theorem dX9_isWalk_31 : decode cX9_isWalk 31 = .ok (.iload 4, 2) := by decide +kernel
theorem dX9_isWalk_33 : decode cX9_isWalk 33 = .ok (.iload_n 1, 1) := by decide +kernel
theorem dX9_isWalk_34 : decode cX9_isWalk 34 = .ok (.aload_n 0, 1) := by decide +kernel
theorem dX9_isWalk_35 : decode cX9_isWalk 35 = .ok (.getfield 69, 3) := by decide +kernel
theorem dX9_isWalk_38 : decode cX9_isWalk 38 = .ok (.iconst 1, 1) := by decide +kernel
theorem dX9_isWalk_39 : decode cX9_isWalk 39 = .ok (.iadd, 1) := by decide +kernel
theorem dX9_isWalk_40 : decode cX9_isWalk 40 = .ok (.iload 5, 2) := by decide +kernel
theorem dX9_isWalk_42 : decode cX9_isWalk 42 = .ok (.invokestatic 188, 3) := by decide +kernel
theorem dX9_isWalk_45 : decode cX9_isWalk 45 = .ok (.idiv, 1) := by decide +kernel
theorem dX9_isWalk_46 : decode cX9_isWalk 46 = .ok (.aload_n 0, 1) := by decide +kernel
theorem dX9_isWalk_47 : decode cX9_isWalk 47 = .ok (.getfield 69, 3) := by decide +kernel
theorem dX9_isWalk_50 : decode cX9_isWalk 50 = .ok (.iconst 1, 1) := by decide +kernel
theorem dX9_isWalk_51 : decode cX9_isWalk 51 = .ok (.iadd, 1) := by decide +kernel
theorem dX9_isWalk_52 : decode cX9_isWalk 52 = .ok (.irem, 1) := by decide +kernel
theorem dX9_isWalk_53 : decode cX9_isWalk 53 = .ok (.iload_n 3, 1) := by decide +kernel
theorem dX9_isWalk_54 : decode cX9_isWalk 54 = .ok (.if_icmp .ne 7, 3) := by decide +kernel
theorem dX9_isWalk_57 : decode cX9_isWalk 57 = .ok (.iconst 1, 1) := by decide +kernel
theorem dX9_isWalk_58 : decode cX9_isWalk 58 = .ok (.goto 4, 3) := by decide +kernel
theorem dX9_isWalk_61 : decode cX9_isWalk 61 = .ok (.iconst 0, 1) := by decide +kernel
theorem dX9_isWalk_62 : decode cX9_isWalk 62 = .ok (.iadd, 1) := by decide +kernel
theorem dX9_isWalk_63 : decode cX9_isWalk 63 = .ok (.istore 4, 2) := by decide +kernel
theorem dX9_isWalk_65 : decode cX9_isWalk 65 = .ok (.iinc 5 1, 3) := by decide +kernel
theorem dX9_isWalk_68 : decode cX9_isWalk 68 = .ok (.goto (-46), 3) := by decide +kernel
theorem dX9_isWalk_71 : decode cX9_isWalk 71 = .ok (.iload 4, 2) := by decide +kernel
theorem dX9_isWalk_73 : decode cX9_isWalk 73 = .ok (.aload_n 0, 1) := by decide +kernel
theorem dX9_isWalk_74 : decode cX9_isWalk 74 = .ok (.getfield 20, 3) := by decide +kernel
theorem dX9_isWalk_77 : decode cX9_isWalk 77 = .ok (.iconst 4, 1) := by decide +kernel
theorem dX9_isWalk_78 : decode cX9_isWalk 78 = .ok (.iload_n 3, 1) := by decide +kernel
theorem dX9_isWalk_79 : decode cX9_isWalk 79 = .ok (.imul, 1) := by decide +kernel
theorem dX9_isWalk_80 : decode cX9_isWalk 80 = .ok (.iconst 2, 1) := by decide +kernel
theorem dX9_isWalk_81 : decode cX9_isWalk 81 = .ok (.iadd, 1) := by decide +kernel
theorem dX9_isWalk_82 : decode cX9_isWalk 82 = .ok (.iaload, 1) := by decide +kernel
theorem dX9_isWalk_83 : decode cX9_isWalk 83 = .ok (.if_icmp .gt 7, 3) := by decide +kernel
theorem dX9_isWalk_86 : decode cX9_isWalk 86 = .ok (.iconst 1, 1) := by decide +kernel
theorem dX9_isWalk_87 : decode cX9_isWalk 87 = .ok (.goto 4, 3) := by decide +kernel
theorem dX9_isWalk_90 : decode cX9_isWalk 90 = .ok (.iconst 0, 1) := by decide +kernel
theorem dX9_isWalk_91 : decode cX9_isWalk 91 = .ok (.istore_n 2, 1) := by decide +kernel
theorem dX9_isWalk_92 : decode cX9_isWalk 92 = .ok (.iinc 3 1, 3) := by decide +kernel
theorem dX9_isWalk_95 : decode cX9_isWalk 95 = .ok (.goto (-91), 3) := by decide +kernel
theorem dX9_isWalk_98 : decode cX9_isWalk 98 = .ok (.iconst 0, 1) := by decide +kernel
theorem dX9_isWalk_99 : decode cX9_isWalk 99 = .ok (.istore_n 3, 1) := by decide +kernel
theorem dX9_isWalk_100 : decode cX9_isWalk 100 = .ok (.iload_n 3, 1) := by decide +kernel
theorem dX9_isWalk_101 : decode cX9_isWalk 101 = .ok (.aload_n 0, 1) := by decide +kernel
theorem dX9_isWalk_102 : decode cX9_isWalk 102 = .ok (.getfield 150, 3) := by decide +kernel
theorem dX9_isWalk_105 : decode cX9_isWalk 105 = .ok (.if_icmp .ge 77, 3) := by decide +kernel
theorem dX9_isWalk_108 : decode cX9_isWalk 108 = .ok (.iload_n 2, 1) := by decide +kernel
theorem dX9_isWalk_109 : decode cX9_isWalk 109 = .ok (.ifCond .eq 73, 3) := by decide +kernel
theorem dX9_isWalk_112 : decode cX9_isWalk 112 = .ok (.aload_n 0, 1) := by decide +kernel
theorem dX9_isWalk_113 : decode cX9_isWalk 113 = .ok (.getfield 51, 3) := by decide +kernel
theorem dX9_isWalk_116 : decode cX9_isWalk 116 = .ok (.iload_n 3, 1) := by decide +kernel
theorem dX9_isWalk_117 : decode cX9_isWalk 117 = .ok (.iaload, 1) := by decide +kernel
theorem dX9_isWalk_118 : decode cX9_isWalk 118 = .ok (.istore 4, 2) := by decide +kernel
theorem dX9_isWalk_120 : decode cX9_isWalk 120 = .ok (.iload 4, 2) := by decide +kernel
theorem dX9_isWalk_122 : decode cX9_isWalk 122 = .ok (.aload_n 0, 1) := by decide +kernel
theorem dX9_isWalk_123 : decode cX9_isWalk 123 = .ok (.getfield 76, 3) := by decide +kernel
theorem dX9_isWalk_126 : decode cX9_isWalk 126 = .ok (.if_icmp .ge 44, 3) := by decide +kernel
theorem dX9_isWalk_129 : decode cX9_isWalk 129 = .ok (.aload_n 0, 1) := by decide +kernel
theorem dX9_isWalk_130 : decode cX9_isWalk 130 = .ok (.iload 4, 2) := by decide +kernel
theorem dX9_isWalk_132 : decode cX9_isWalk 132 = .ok (.iload_n 1, 1) := by decide +kernel
theorem dX9_isWalk_133 : decode cX9_isWalk 133 = .ok (.aload_n 0, 1) := by decide +kernel
theorem dX9_isWalk_134 : decode cX9_isWalk 134 = .ok (.getfield 69, 3) := by decide +kernel
theorem dX9_isWalk_137 : decode cX9_isWalk 137 = .ok (.iconst 1, 1) := by decide +kernel
theorem dX9_isWalk_138 : decode cX9_isWalk 138 = .ok (.iadd, 1) := by decide +kernel
theorem dX9_isWalk_139 : decode cX9_isWalk 139 = .ok (.iload 4, 2) := by decide +kernel
theorem dX9_isWalk_141 : decode cX9_isWalk 141 = .ok (.invokestatic 188, 3) := by decide +kernel
theorem dX9_isWalk_144 : decode cX9_isWalk 144 = .ok (.idiv, 1) := by decide +kernel
theorem dX9_isWalk_145 : decode cX9_isWalk 145 = .ok (.aload_n 0, 1) := by decide +kernel
theorem dX9_isWalk_146 : decode cX9_isWalk 146 = .ok (.getfield 69, 3) := by decide +kernel
theorem dX9_isWalk_149 : decode cX9_isWalk 149 = .ok (.iconst 1, 1) := by decide +kernel
theorem dX9_isWalk_150 : decode cX9_isWalk 150 = .ok (.iadd, 1) := by decide +kernel
theorem dX9_isWalk_151 : decode cX9_isWalk 151 = .ok (.irem, 1) := by decide +kernel
theorem dX9_isWalk_152 : decode cX9_isWalk 152 = .ok (.aload_n 0, 1) := by decide +kernel
theorem dX9_isWalk_153 : decode cX9_isWalk 153 = .ok (.getfield 57, 3) := by decide +kernel
theorem dX9_isWalk_156 : decode cX9_isWalk 156 = .ok (.iload_n 3, 1) := by decide +kernel
theorem dX9_isWalk_157 : decode cX9_isWalk 157 = .ok (.iaload, 1) := by decide +kernel
theorem dX9_isWalk_158 : decode cX9_isWalk 158 = .ok (.invokevirtual 212, 3) := by decide +kernel
theorem dX9_isWalk_161 : decode cX9_isWalk 161 = .ok (.aload_n 0, 1) := by decide +kernel
theorem dX9_isWalk_162 : decode cX9_isWalk 162 = .ok (.getfield 54, 3) := by decide +kernel
theorem dX9_isWalk_165 : decode cX9_isWalk 165 = .ok (.iload_n 3, 1) := by decide +kernel
theorem dX9_isWalk_166 : decode cX9_isWalk 166 = .ok (.iaload, 1) := by decide +kernel
theorem dX9_isWalk_167 : decode cX9_isWalk 167 = .ok (.if_icmp .ne 7, 3) := by decide +kernel
theorem dX9_isWalk_170 : decode cX9_isWalk 170 = .ok (.iconst 1, 1) := by decide +kernel
theorem dX9_isWalk_171 : decode cX9_isWalk 171 = .ok (.goto 4, 3) := by decide +kernel
theorem dX9_isWalk_174 : decode cX9_isWalk 174 = .ok (.iconst 0, 1) := by decide +kernel
theorem dX9_isWalk_175 : decode cX9_isWalk 175 = .ok (.istore_n 2, 1) := by decide +kernel
theorem dX9_isWalk_176 : decode cX9_isWalk 176 = .ok (.iinc 3 1, 3) := by decide +kernel
theorem dX9_isWalk_179 : decode cX9_isWalk 179 = .ok (.goto (-79), 3) := by decide +kernel
theorem dX9_isWalk_182 : decode cX9_isWalk 182 = .ok (.iload_n 2, 1) := by decide +kernel
theorem dX9_isWalk_183 : decode cX9_isWalk 183 = .ok (.ireturn, 1) := by decide +kernel
theorem dX9_keep_0 : decode cX9_keep 0 = .ok (.aload_n 0, 1) := by decide +kernel
theorem dX9_keep_1 : decode cX9_keep 1 = .ok (.iconst 0, 1) := by decide +kernel
theorem dX9_keep_2 : decode cX9_keep 2 = .ok (.putfield 66, 3) := by decide +kernel
theorem dX9_keep_5 : decode cX9_keep 5 = .ok (.iload_n 1, 1) := by decide +kernel
theorem dX9_keep_6 : decode cX9_keep 6 = .ok (.i2l, 1) := by decide +kernel
theorem dX9_keep_7 : decode cX9_keep 7 = .ok (.lconst 0, 1) := by decide +kernel
theorem dX9_keep_8 : decode cX9_keep 8 = .ok (.lconst 1, 1) := by decide +kernel
theorem dX9_keep_9 : decode cX9_keep 9 = .ok (.invokestatic 72, 3) := by decide +kernel
theorem dX9_keep_12 : decode cX9_keep 12 = .ok (.ifCond .ne 5, 3) := by decide +kernel
theorem dX9_keep_15 : decode cX9_keep 15 = .ok (.iconst (-1), 1) := by decide +kernel
theorem dX9_keep_16 : decode cX9_keep 16 = .ok (.ireturn, 1) := by decide +kernel
theorem dX9_keep_17 : decode cX9_keep 17 = .ok (.aload_n 0, 1) := by decide +kernel
theorem dX9_keep_18 : decode cX9_keep 18 = .ok (.getfield 47, 3) := by decide +kernel
theorem dX9_keep_21 : decode cX9_keep 21 = .ok (.iload_n 1, 1) := by decide +kernel
theorem dX9_keep_22 : decode cX9_keep 22 = .ok (.iconst 1, 1) := by decide +kernel
theorem dX9_keep_23 : decode cX9_keep 23 = .ok (.bastore, 1) := by decide +kernel
theorem dX9_keep_24 : decode cX9_keep 24 = .ok (.iconst 0, 1) := by decide +kernel
theorem dX9_keep_25 : decode cX9_keep 25 = .ok (.istore_n 2, 1) := by decide +kernel
theorem dX9_keep_26 : decode cX9_keep 26 = .ok (.iload_n 2, 1) := by decide +kernel
theorem dX9_keep_27 : decode cX9_keep 27 = .ok (.bipush 25, 2) := by decide +kernel
theorem dX9_keep_29 : decode cX9_keep 29 = .ok (.if_icmp .ge 26, 3) := by decide +kernel
theorem dX9_keep_32 : decode cX9_keep 32 = .ok (.aload_n 0, 1) := by decide +kernel
theorem dX9_keep_33 : decode cX9_keep 33 = .ok (.getfield 44, 3) := by decide +kernel
theorem dX9_keep_36 : decode cX9_keep 36 = .ok (.bipush 25, 2) := by decide +kernel
theorem dX9_keep_38 : decode cX9_keep 38 = .ok (.iload_n 1, 1) := by decide +kernel
theorem dX9_keep_39 : decode cX9_keep 39 = .ok (.imul, 1) := by decide +kernel
theorem dX9_keep_40 : decode cX9_keep 40 = .ok (.iload_n 2, 1) := by decide +kernel
theorem dX9_keep_41 : decode cX9_keep 41 = .ok (.iadd, 1) := by decide +kernel
theorem dX9_keep_42 : decode cX9_keep 42 = .ok (.aload_n 0, 1) := by decide +kernel
theorem dX9_keep_43 : decode cX9_keep 43 = .ok (.getfield 35, 3) := by decide +kernel
theorem dX9_keep_46 : decode cX9_keep 46 = .ok (.iload_n 2, 1) := by decide +kernel
theorem dX9_keep_47 : decode cX9_keep 47 = .ok (.iaload, 1) := by decide +kernel
theorem dX9_keep_48 : decode cX9_keep 48 = .ok (.iastore, 1) := by decide +kernel
theorem dX9_keep_49 : decode cX9_keep 49 = .ok (.iinc 2 1, 3) := by decide +kernel
theorem dX9_keep_52 : decode cX9_keep 52 = .ok (.goto (-26), 3) := by decide +kernel
theorem dX9_keep_55 : decode cX9_keep 55 = .ok (.aload_n 0, 1) := by decide +kernel
theorem dX9_keep_56 : decode cX9_keep 56 = .ok (.getfield 35, 3) := by decide +kernel
theorem dX9_keep_59 : decode cX9_keep 59 = .ok (.bipush 24, 2) := by decide +kernel
theorem dX9_keep_61 : decode cX9_keep 61 = .ok (.iaload, 1) := by decide +kernel
theorem dX9_keep_62 : decode cX9_keep 62 = .ok (.ireturn, 1) := by decide +kernel
theorem dX9_keeps_0 : decode cX9_keeps 0 = .ok (.iconst 0, 1) := by decide +kernel
theorem dX9_keeps_1 : decode cX9_keeps 1 = .ok (.istore_n 3, 1) := by decide +kernel
theorem dX9_keeps_2 : decode cX9_keeps 2 = .ok (.iconst 0, 1) := by decide +kernel
theorem dX9_keeps_3 : decode cX9_keeps 3 = .ok (.istore 4, 2) := by decide +kernel
theorem dX9_keeps_5 : decode cX9_keeps 5 = .ok (.iload 4, 2) := by decide +kernel
theorem dX9_keeps_7 : decode cX9_keeps 7 = .ok (.aload_n 0, 1) := by decide +kernel
theorem dX9_keeps_8 : decode cX9_keeps 8 = .ok (.getfield 76, 3) := by decide +kernel
theorem dX9_keeps_11 : decode cX9_keeps 11 = .ok (.if_icmp .ge 31, 3) := by decide +kernel
theorem dX9_keeps_14 : decode cX9_keeps 14 = .ok (.iload_n 3, 1) := by decide +kernel
theorem dX9_keeps_15 : decode cX9_keeps 15 = .ok (.aload_n 1, 1) := by decide +kernel
theorem dX9_keeps_16 : decode cX9_keeps 16 = .ok (.bipush 8, 2) := by decide +kernel
theorem dX9_keeps_18 : decode cX9_keeps 18 = .ok (.iload 4, 2) := by decide +kernel
theorem dX9_keeps_20 : decode cX9_keeps 20 = .ok (.iadd, 1) := by decide +kernel
theorem dX9_keeps_21 : decode cX9_keeps 21 = .ok (.iaload, 1) := by decide +kernel
theorem dX9_keeps_22 : decode cX9_keeps 22 = .ok (.iload_n 2, 1) := by decide +kernel
theorem dX9_keeps_23 : decode cX9_keeps 23 = .ok (.if_icmp .ne 10, 3) := by decide +kernel
theorem dX9_keeps_26 : decode cX9_keeps 26 = .ok (.iconst 1, 1) := by decide +kernel
theorem dX9_keeps_27 : decode cX9_keeps 27 = .ok (.iload 4, 2) := by decide +kernel
theorem dX9_keeps_29 : decode cX9_keeps 29 = .ok (.ishl, 1) := by decide +kernel
theorem dX9_keeps_30 : decode cX9_keeps 30 = .ok (.goto 4, 3) := by decide +kernel
theorem dX9_keeps_33 : decode cX9_keeps 33 = .ok (.iconst 0, 1) := by decide +kernel
theorem dX9_keeps_34 : decode cX9_keeps 34 = .ok (.ior, 1) := by decide +kernel
theorem dX9_keeps_35 : decode cX9_keeps 35 = .ok (.istore_n 3, 1) := by decide +kernel
theorem dX9_keeps_36 : decode cX9_keeps 36 = .ok (.iinc 4 1, 3) := by decide +kernel
theorem dX9_keeps_39 : decode cX9_keeps 39 = .ok (.goto (-34), 3) := by decide +kernel
theorem dX9_keeps_42 : decode cX9_keeps 42 = .ok (.iload_n 3, 1) := by decide +kernel
theorem dX9_keeps_43 : decode cX9_keeps 43 = .ok (.ireturn, 1) := by decide +kernel
theorem dX9_lead_0 : decode cX9_lead 0 = .ok (.aload_n 0, 1) := by decide +kernel
theorem dX9_lead_1 : decode cX9_lead 1 = .ok (.iconst 0, 1) := by decide +kernel
theorem dX9_lead_2 : decode cX9_lead 2 = .ok (.putfield 66, 3) := by decide +kernel
theorem dX9_lead_5 : decode cX9_lead 5 = .ok (.aload_n 0, 1) := by decide +kernel
theorem dX9_lead_6 : decode cX9_lead 6 = .ok (.iload_n 1, 1) := by decide +kernel
theorem dX9_lead_7 : decode cX9_lead 7 = .ok (.invokevirtual 153, 3) := by decide +kernel
theorem dX9_lead_10 : decode cX9_lead 10 = .ok (.ifCond .eq 5, 3) := by decide +kernel
theorem dX9_lead_13 : decode cX9_lead 13 = .ok (.iconst (-1), 1) := by decide +kernel
theorem dX9_lead_14 : decode cX9_lead 14 = .ok (.ireturn, 1) := by decide +kernel
theorem dX9_lead_15 : decode cX9_lead 15 = .ok (.iload_n 2, 1) := by decide +kernel
theorem dX9_lead_16 : decode cX9_lead 16 = .ok (.i2l, 1) := by decide +kernel
theorem dX9_lead_17 : decode cX9_lead 17 = .ok (.lconst 1, 1) := by decide +kernel
theorem dX9_lead_18 : decode cX9_lead 18 = .ok (.ldc2_w 164, 3) := by decide +kernel
theorem dX9_lead_21 : decode cX9_lead 21 = .ok (.invokestatic 72, 3) := by decide +kernel
theorem dX9_lead_24 : decode cX9_lead 24 = .ok (.ifCond .ne 6, 3) := by decide +kernel
theorem dX9_lead_27 : decode cX9_lead 27 = .ok (.bipush (-2), 2) := by decide +kernel
theorem dX9_lead_29 : decode cX9_lead 29 = .ok (.ireturn, 1) := by decide +kernel
theorem dX9_lead_30 : decode cX9_lead 30 = .ok (.aload_n 0, 1) := by decide +kernel
theorem dX9_lead_31 : decode cX9_lead 31 = .ok (.invokevirtual 166, 3) := by decide +kernel
theorem dX9_lead_34 : decode cX9_lead 34 = .ok (.aload_n 0, 1) := by decide +kernel
theorem dX9_lead_35 : decode cX9_lead 35 = .ok (.aload_n 0, 1) := by decide +kernel
theorem dX9_lead_36 : decode cX9_lead 36 = .ok (.getfield 35, 3) := by decide +kernel
theorem dX9_lead_39 : decode cX9_lead 39 = .ok (.iload_n 1, 1) := by decide +kernel
theorem dX9_lead_40 : decode cX9_lead 40 = .ok (.iload_n 2, 1) := by decide +kernel
theorem dX9_lead_41 : decode cX9_lead 41 = .ok (.invokevirtual 169, 3) := by decide +kernel
theorem dX9_lead_44 : decode cX9_lead 44 = .ok (.aload_n 0, 1) := by decide +kernel
theorem dX9_lead_45 : decode cX9_lead 45 = .ok (.getfield 35, 3) := by decide +kernel
theorem dX9_lead_48 : decode cX9_lead 48 = .ok (.iload_n 1, 1) := by decide +kernel
theorem dX9_lead_49 : decode cX9_lead 49 = .ok (.iaload, 1) := by decide +kernel
theorem dX9_lead_50 : decode cX9_lead 50 = .ok (.ireturn, 1) := by decide +kernel
theorem dX9_leash_0 : decode cX9_leash 0 = .ok (.aload_n 0, 1) := by decide +kernel
theorem dX9_leash_1 : decode cX9_leash 1 = .ok (.iconst 0, 1) := by decide +kernel
theorem dX9_leash_2 : decode cX9_leash 2 = .ok (.putfield 66, 3) := by decide +kernel
theorem dX9_leash_5 : decode cX9_leash 5 = .ok (.aload_n 0, 1) := by decide +kernel
theorem dX9_leash_6 : decode cX9_leash 6 = .ok (.iload_n 1, 1) := by decide +kernel
theorem dX9_leash_7 : decode cX9_leash 7 = .ok (.invokevirtual 161, 3) := by decide +kernel
theorem dX9_leash_10 : decode cX9_leash 10 = .ok (.ifCond .eq 5, 3) := by decide +kernel
theorem dX9_leash_13 : decode cX9_leash 13 = .ok (.iconst (-1), 1) := by decide +kernel
theorem dX9_leash_14 : decode cX9_leash 14 = .ok (.ireturn, 1) := by decide +kernel
theorem dX9_leash_15 : decode cX9_leash 15 = .ok (.aload_n 0, 1) := by decide +kernel
theorem dX9_leash_16 : decode cX9_leash 16 = .ok (.getfield 35, 3) := by decide +kernel
theorem dX9_leash_19 : decode cX9_leash 19 = .ok (.bipush 8, 2) := by decide +kernel
theorem dX9_leash_21 : decode cX9_leash 21 = .ok (.iload_n 1, 1) := by decide +kernel
theorem dX9_leash_22 : decode cX9_leash 22 = .ok (.iadd, 1) := by decide +kernel
theorem dX9_leash_23 : decode cX9_leash 23 = .ok (.iaload, 1) := by decide +kernel
theorem dX9_leash_24 : decode cX9_leash 24 = .ok (.bipush (-9), 2) := by decide +kernel
theorem dX9_leash_26 : decode cX9_leash 26 = .ok (.if_icmp .eq 15, 3) := by decide +kernel
theorem dX9_leash_29 : decode cX9_leash 29 = .ok (.aload_n 0, 1) := by decide +kernel
theorem dX9_leash_30 : decode cX9_leash 30 = .ok (.getfield 35, 3) := by decide +kernel
theorem dX9_leash_33 : decode cX9_leash 33 = .ok (.bipush 19, 2) := by decide +kernel
theorem dX9_leash_35 : decode cX9_leash 35 = .ok (.iload_n 1, 1) := by decide +kernel
theorem dX9_leash_36 : decode cX9_leash 36 = .ok (.iadd, 1) := by decide +kernel
theorem dX9_leash_37 : decode cX9_leash 37 = .ok (.iaload, 1) := by decide +kernel
theorem dX9_leash_38 : decode cX9_leash 38 = .ok (.ifCond .le 6, 3) := by decide +kernel
theorem dX9_leash_41 : decode cX9_leash 41 = .ok (.bipush (-3), 2) := by decide +kernel
theorem dX9_leash_43 : decode cX9_leash 43 = .ok (.ireturn, 1) := by decide +kernel
theorem dX9_leash_44 : decode cX9_leash 44 = .ok (.aload_n 0, 1) := by decide +kernel
theorem dX9_leash_45 : decode cX9_leash 45 = .ok (.invokevirtual 166, 3) := by decide +kernel
theorem dX9_leash_48 : decode cX9_leash 48 = .ok (.aload_n 0, 1) := by decide +kernel
theorem dX9_leash_49 : decode cX9_leash 49 = .ok (.getfield 35, 3) := by decide +kernel
theorem dX9_leash_52 : decode cX9_leash 52 = .ok (.bipush 18, 2) := by decide +kernel
theorem dX9_leash_54 : decode cX9_leash 54 = .ok (.dup2, 1) := by decide +kernel
theorem dX9_leash_55 : decode cX9_leash 55 = .ok (.iaload, 1) := by decide +kernel
theorem dX9_leash_56 : decode cX9_leash 56 = .ok (.iconst 1, 1) := by decide +kernel
theorem dX9_leash_57 : decode cX9_leash 57 = .ok (.iload_n 1, 1) := by decide +kernel
theorem dX9_leash_58 : decode cX9_leash 58 = .ok (.ishl, 1) := by decide +kernel
theorem dX9_leash_59 : decode cX9_leash 59 = .ok (.ixor, 1) := by decide +kernel
theorem dX9_leash_60 : decode cX9_leash 60 = .ok (.iastore, 1) := by decide +kernel
theorem dX9_leash_61 : decode cX9_leash 61 = .ok (.aload_n 0, 1) := by decide +kernel
theorem dX9_leash_62 : decode cX9_leash 62 = .ok (.getfield 35, 3) := by decide +kernel
theorem dX9_leash_65 : decode cX9_leash 65 = .ok (.bipush 18, 2) := by decide +kernel
theorem dX9_leash_67 : decode cX9_leash 67 = .ok (.iaload, 1) := by decide +kernel
theorem dX9_leash_68 : decode cX9_leash 68 = .ok (.iload_n 1, 1) := by decide +kernel
theorem dX9_leash_69 : decode cX9_leash 69 = .ok (.ishr, 1) := by decide +kernel
theorem dX9_leash_70 : decode cX9_leash 70 = .ok (.iconst 1, 1) := by decide +kernel
theorem dX9_leash_71 : decode cX9_leash 71 = .ok (.iand, 1) := by decide +kernel
theorem dX9_leash_72 : decode cX9_leash 72 = .ok (.ireturn, 1) := by decide +kernel
theorem dX9_man_0 : decode cX9_man 0 = .ok (.aload_n 0, 1) := by decide +kernel
theorem dX9_man_1 : decode cX9_man 1 = .ok (.iconst 0, 1) := by decide +kernel
theorem dX9_man_2 : decode cX9_man 2 = .ok (.putfield 66, 3) := by decide +kernel
theorem dX9_man_5 : decode cX9_man 5 = .ok (.aload_n 0, 1) := by decide +kernel
theorem dX9_man_6 : decode cX9_man 6 = .ok (.iload_n 1, 1) := by decide +kernel
theorem dX9_man_7 : decode cX9_man 7 = .ok (.invokevirtual 161, 3) := by decide +kernel
theorem dX9_man_10 : decode cX9_man 10 = .ok (.ifCond .eq 5, 3) := by decide +kernel
theorem dX9_man_13 : decode cX9_man 13 = .ok (.iconst (-1), 1) := by decide +kernel
theorem dX9_man_14 : decode cX9_man 14 = .ok (.ireturn, 1) := by decide +kernel
theorem dX9_man_15 : decode cX9_man 15 = .ok (.iload_n 2, 1) := by decide +kernel
theorem dX9_man_16 : decode cX9_man 16 = .ok (.tableswitch 89 0 4 #[36, 46, 56, 67, 79], 36) := by decide +kernel
theorem dX9_man_52 : decode cX9_man 52 = .ok (.aload_n 0, 1) := by decide +kernel
theorem dX9_man_53 : decode cX9_man 53 = .ok (.getfield 35, 3) := by decide +kernel
theorem dX9_man_56 : decode cX9_man 56 = .ok (.bipush 8, 2) := by decide +kernel
theorem dX9_man_58 : decode cX9_man 58 = .ok (.iload_n 1, 1) := by decide +kernel
theorem dX9_man_59 : decode cX9_man 59 = .ok (.iadd, 1) := by decide +kernel
theorem dX9_man_60 : decode cX9_man 60 = .ok (.iaload, 1) := by decide +kernel
theorem dX9_man_61 : decode cX9_man 61 = .ok (.ireturn, 1) := by decide +kernel
theorem dX9_man_62 : decode cX9_man 62 = .ok (.aload_n 0, 1) := by decide +kernel
theorem dX9_man_63 : decode cX9_man 63 = .ok (.getfield 35, 3) := by decide +kernel
theorem dX9_man_66 : decode cX9_man 66 = .ok (.bipush 13, 2) := by decide +kernel
theorem dX9_man_68 : decode cX9_man 68 = .ok (.iload_n 1, 1) := by decide +kernel
theorem dX9_man_69 : decode cX9_man 69 = .ok (.iadd, 1) := by decide +kernel
theorem dX9_man_70 : decode cX9_man 70 = .ok (.iaload, 1) := by decide +kernel
theorem dX9_man_71 : decode cX9_man 71 = .ok (.ireturn, 1) := by decide +kernel
theorem dX9_man_72 : decode cX9_man 72 = .ok (.aload_n 0, 1) := by decide +kernel
theorem dX9_man_73 : decode cX9_man 73 = .ok (.getfield 23, 3) := by decide +kernel
theorem dX9_man_76 : decode cX9_man 76 = .ok (.iconst 3, 1) := by decide +kernel
theorem dX9_man_77 : decode cX9_man 77 = .ok (.iload_n 1, 1) := by decide +kernel
theorem dX9_man_78 : decode cX9_man 78 = .ok (.imul, 1) := by decide +kernel
theorem dX9_man_79 : decode cX9_man 79 = .ok (.iconst 2, 1) := by decide +kernel
theorem dX9_man_80 : decode cX9_man 80 = .ok (.iadd, 1) := by decide +kernel
theorem dX9_man_81 : decode cX9_man 81 = .ok (.iaload, 1) := by decide +kernel
theorem dX9_man_82 : decode cX9_man 82 = .ok (.ireturn, 1) := by decide +kernel
theorem dX9_man_83 : decode cX9_man 83 = .ok (.aload_n 0, 1) := by decide +kernel
theorem dX9_man_84 : decode cX9_man 84 = .ok (.getfield 35, 3) := by decide +kernel
theorem dX9_man_87 : decode cX9_man 87 = .ok (.bipush 18, 2) := by decide +kernel
theorem dX9_man_89 : decode cX9_man 89 = .ok (.iaload, 1) := by decide +kernel
theorem dX9_man_90 : decode cX9_man 90 = .ok (.iload_n 1, 1) := by decide +kernel
theorem dX9_man_91 : decode cX9_man 91 = .ok (.ishr, 1) := by decide +kernel
theorem dX9_man_92 : decode cX9_man 92 = .ok (.iconst 1, 1) := by decide +kernel
theorem dX9_man_93 : decode cX9_man 93 = .ok (.iand, 1) := by decide +kernel
theorem dX9_man_94 : decode cX9_man 94 = .ok (.ireturn, 1) := by decide +kernel
theorem dX9_man_95 : decode cX9_man 95 = .ok (.aload_n 0, 1) := by decide +kernel
theorem dX9_man_96 : decode cX9_man 96 = .ok (.getfield 35, 3) := by decide +kernel
theorem dX9_man_99 : decode cX9_man 99 = .ok (.bipush 19, 2) := by decide +kernel
theorem dX9_man_101 : decode cX9_man 101 = .ok (.iload_n 1, 1) := by decide +kernel
theorem dX9_man_102 : decode cX9_man 102 = .ok (.iadd, 1) := by decide +kernel
theorem dX9_man_103 : decode cX9_man 103 = .ok (.iaload, 1) := by decide +kernel
theorem dX9_man_104 : decode cX9_man 104 = .ok (.ireturn, 1) := by decide +kernel
theorem dX9_man_105 : decode cX9_man 105 = .ok (.bipush (-2), 2) := by decide +kernel
theorem dX9_man_107 : decode cX9_man 107 = .ok (.ireturn, 1) := by decide +kernel
theorem dX9_many_0 : decode cX9_many 0 = .ok (.iconst 0, 1) := by decide +kernel
theorem dX9_many_1 : decode cX9_many 1 = .ok (.istore_n 1, 1) := by decide +kernel
theorem dX9_many_2 : decode cX9_many 2 = .ok (.iconst 0, 1) := by decide +kernel
theorem dX9_many_3 : decode cX9_many 3 = .ok (.istore_n 2, 1) := by decide +kernel
theorem dX9_many_4 : decode cX9_many 4 = .ok (.iload_n 2, 1) := by decide +kernel
theorem dX9_many_5 : decode cX9_many 5 = .ok (.iconst 5, 1) := by decide +kernel
theorem dX9_many_6 : decode cX9_many 6 = .ok (.if_icmp .ge 17, 3) := by decide +kernel
theorem dX9_many_9 : decode cX9_many 9 = .ok (.iload_n 1, 1) := by decide +kernel
theorem dX9_many_10 : decode cX9_many 10 = .ok (.iload_n 0, 1) := by decide +kernel
theorem dX9_many_11 : decode cX9_many 11 = .ok (.iload_n 2, 1) := by decide +kernel
theorem dX9_many_12 : decode cX9_many 12 = .ok (.ishr, 1) := by decide +kernel
theorem dX9_many_13 : decode cX9_many 13 = .ok (.iconst 1, 1) := by decide +kernel
theorem dX9_many_14 : decode cX9_many 14 = .ok (.iand, 1) := by decide +kernel
theorem dX9_many_15 : decode cX9_many 15 = .ok (.iadd, 1) := by decide +kernel
theorem dX9_many_16 : decode cX9_many 16 = .ok (.istore_n 1, 1) := by decide +kernel
theorem dX9_many_17 : decode cX9_many 17 = .ok (.iinc 2 1, 3) := by decide +kernel
theorem dX9_many_20 : decode cX9_many 20 = .ok (.goto (-16), 3) := by decide +kernel
theorem dX9_many_23 : decode cX9_many 23 = .ok (.iload_n 1, 1) := by decide +kernel
theorem dX9_many_24 : decode cX9_many 24 = .ok (.ireturn, 1) := by decide +kernel
theorem dX9_noDog_0 : decode cX9_noDog 0 = .ok (.iload_n 1, 1) := by decide +kernel
theorem dX9_noDog_1 : decode cX9_noDog 1 = .ok (.i2l, 1) := by decide +kernel
theorem dX9_noDog_2 : decode cX9_noDog 2 = .ok (.lconst 0, 1) := by decide +kernel
theorem dX9_noDog_3 : decode cX9_noDog 3 = .ok (.aload_n 0, 1) := by decide +kernel
theorem dX9_noDog_4 : decode cX9_noDog 4 = .ok (.getfield 69, 3) := by decide +kernel
theorem dX9_noDog_7 : decode cX9_noDog 7 = .ok (.iconst 1, 1) := by decide +kernel
theorem dX9_noDog_8 : decode cX9_noDog 8 = .ok (.isub, 1) := by decide +kernel
theorem dX9_noDog_9 : decode cX9_noDog 9 = .ok (.i2l, 1) := by decide +kernel
theorem dX9_noDog_10 : decode cX9_noDog 10 = .ok (.invokestatic 72, 3) := by decide +kernel
theorem dX9_noDog_13 : decode cX9_noDog 13 = .ok (.ifCond .ne 7, 3) := by decide +kernel
theorem dX9_noDog_16 : decode cX9_noDog 16 = .ok (.iconst 1, 1) := by decide +kernel
theorem dX9_noDog_17 : decode cX9_noDog 17 = .ok (.goto 4, 3) := by decide +kernel
theorem dX9_noDog_20 : decode cX9_noDog 20 = .ok (.iconst 0, 1) := by decide +kernel
theorem dX9_noDog_21 : decode cX9_noDog 21 = .ok (.ireturn, 1) := by decide +kernel
theorem dX9_noMan_0 : decode cX9_noMan 0 = .ok (.iload_n 1, 1) := by decide +kernel
theorem dX9_noMan_1 : decode cX9_noMan 1 = .ok (.i2l, 1) := by decide +kernel
theorem dX9_noMan_2 : decode cX9_noMan 2 = .ok (.lconst 0, 1) := by decide +kernel
theorem dX9_noMan_3 : decode cX9_noMan 3 = .ok (.aload_n 0, 1) := by decide +kernel
theorem dX9_noMan_4 : decode cX9_noMan 4 = .ok (.getfield 76, 3) := by decide +kernel
theorem dX9_noMan_7 : decode cX9_noMan 7 = .ok (.iconst 1, 1) := by decide +kernel
theorem dX9_noMan_8 : decode cX9_noMan 8 = .ok (.isub, 1) := by decide +kernel
theorem dX9_noMan_9 : decode cX9_noMan 9 = .ok (.i2l, 1) := by decide +kernel
theorem dX9_noMan_10 : decode cX9_noMan 10 = .ok (.invokestatic 72, 3) := by decide +kernel
theorem dX9_noMan_13 : decode cX9_noMan 13 = .ok (.ifCond .ne 7, 3) := by decide +kernel
theorem dX9_noMan_16 : decode cX9_noMan 16 = .ok (.iconst 1, 1) := by decide +kernel
theorem dX9_noMan_17 : decode cX9_noMan 17 = .ok (.goto 4, 3) := by decide +kernel
theorem dX9_noMan_20 : decode cX9_noMan 20 = .ok (.iconst 0, 1) := by decide +kernel
theorem dX9_noMan_21 : decode cX9_noMan 21 = .ok (.ireturn, 1) := by decide +kernel
theorem dX9_note_0 : decode cX9_note 0 = .ok (.aload_n 0, 1) := by decide +kernel
theorem dX9_note_1 : decode cX9_note 1 = .ok (.getfield 140, 3) := by decide +kernel
theorem dX9_note_4 : decode cX9_note 4 = .ok (.bipush 14, 2) := by decide +kernel
theorem dX9_note_6 : decode cX9_note 6 = .ok (.if_icmp .ne 43, 3) := by decide +kernel
theorem dX9_note_9 : decode cX9_note 9 = .ok (.iconst 0, 1) := by decide +kernel
theorem dX9_note_10 : decode cX9_note 10 = .ok (.istore_n 1, 1) := by decide +kernel
theorem dX9_note_11 : decode cX9_note 11 = .ok (.iload_n 1, 1) := by decide +kernel
theorem dX9_note_12 : decode cX9_note 12 = .ok (.sipush 325, 3) := by decide +kernel
theorem dX9_note_15 : decode cX9_note 15 = .ok (.if_icmp .ge 24, 3) := by decide +kernel
theorem dX9_note_18 : decode cX9_note 18 = .ok (.aload_n 0, 1) := by decide +kernel
theorem dX9_note_19 : decode cX9_note 19 = .ok (.getfield 41, 3) := by decide +kernel
theorem dX9_note_22 : decode cX9_note 22 = .ok (.iload_n 1, 1) := by decide +kernel
theorem dX9_note_23 : decode cX9_note 23 = .ok (.aload_n 0, 1) := by decide +kernel
theorem dX9_note_24 : decode cX9_note 24 = .ok (.getfield 41, 3) := by decide +kernel
theorem dX9_note_27 : decode cX9_note 27 = .ok (.iload_n 1, 1) := by decide +kernel
theorem dX9_note_28 : decode cX9_note 28 = .ok (.bipush 25, 2) := by decide +kernel
theorem dX9_note_30 : decode cX9_note 30 = .ok (.iadd, 1) := by decide +kernel
theorem dX9_note_31 : decode cX9_note 31 = .ok (.iaload, 1) := by decide +kernel
theorem dX9_note_32 : decode cX9_note 32 = .ok (.iastore, 1) := by decide +kernel
theorem dX9_note_33 : decode cX9_note 33 = .ok (.iinc 1 1, 3) := by decide +kernel
theorem dX9_note_36 : decode cX9_note 36 = .ok (.goto (-25), 3) := by decide +kernel
theorem dX9_note_39 : decode cX9_note 39 = .ok (.aload_n 0, 1) := by decide +kernel
theorem dX9_note_40 : decode cX9_note 40 = .ok (.dup, 1) := by decide +kernel
theorem dX9_note_41 : decode cX9_note 41 = .ok (.getfield 140, 3) := by decide +kernel
theorem dX9_note_44 : decode cX9_note 44 = .ok (.iconst 1, 1) := by decide +kernel
theorem dX9_note_45 : decode cX9_note 45 = .ok (.isub, 1) := by decide +kernel
theorem dX9_note_46 : decode cX9_note 46 = .ok (.putfield 140, 3) := by decide +kernel
theorem dX9_note_49 : decode cX9_note 49 = .ok (.iconst 0, 1) := by decide +kernel
theorem dX9_note_50 : decode cX9_note 50 = .ok (.istore_n 1, 1) := by decide +kernel
theorem dX9_note_51 : decode cX9_note 51 = .ok (.iload_n 1, 1) := by decide +kernel
theorem dX9_note_52 : decode cX9_note 52 = .ok (.bipush 25, 2) := by decide +kernel
theorem dX9_note_54 : decode cX9_note 54 = .ok (.if_icmp .ge 29, 3) := by decide +kernel
theorem dX9_note_57 : decode cX9_note 57 = .ok (.aload_n 0, 1) := by decide +kernel
theorem dX9_note_58 : decode cX9_note 58 = .ok (.getfield 41, 3) := by decide +kernel
theorem dX9_note_61 : decode cX9_note 61 = .ok (.bipush 25, 2) := by decide +kernel
theorem dX9_note_63 : decode cX9_note 63 = .ok (.aload_n 0, 1) := by decide +kernel
theorem dX9_note_64 : decode cX9_note 64 = .ok (.getfield 140, 3) := by decide +kernel
theorem dX9_note_67 : decode cX9_note 67 = .ok (.imul, 1) := by decide +kernel
theorem dX9_note_68 : decode cX9_note 68 = .ok (.iload_n 1, 1) := by decide +kernel
theorem dX9_note_69 : decode cX9_note 69 = .ok (.iadd, 1) := by decide +kernel
theorem dX9_note_70 : decode cX9_note 70 = .ok (.aload_n 0, 1) := by decide +kernel
theorem dX9_note_71 : decode cX9_note 71 = .ok (.getfield 35, 3) := by decide +kernel
theorem dX9_note_74 : decode cX9_note 74 = .ok (.iload_n 1, 1) := by decide +kernel
theorem dX9_note_75 : decode cX9_note 75 = .ok (.iaload, 1) := by decide +kernel
theorem dX9_note_76 : decode cX9_note 76 = .ok (.iastore, 1) := by decide +kernel
theorem dX9_note_77 : decode cX9_note 77 = .ok (.iinc 1 1, 3) := by decide +kernel
theorem dX9_note_80 : decode cX9_note 80 = .ok (.goto (-29), 3) := by decide +kernel
theorem dX9_note_83 : decode cX9_note 83 = .ok (.aload_n 0, 1) := by decide +kernel
theorem dX9_note_84 : decode cX9_note 84 = .ok (.dup, 1) := by decide +kernel
theorem dX9_note_85 : decode cX9_note 85 = .ok (.getfield 140, 3) := by decide +kernel
theorem dX9_note_88 : decode cX9_note 88 = .ok (.iconst 1, 1) := by decide +kernel
theorem dX9_note_89 : decode cX9_note 89 = .ok (.iadd, 1) := by decide +kernel
theorem dX9_note_90 : decode cX9_note 90 = .ok (.putfield 140, 3) := by decide +kernel
theorem dX9_note_93 : decode cX9_note 93 = .ok (.return_, 1) := by decide +kernel
theorem dX9_one_0 : decode cX9_one 0 = .ok (.aload_n 0, 1) := by decide +kernel
theorem dX9_one_1 : decode cX9_one 1 = .ok (.getfield 84, 3) := by decide +kernel
theorem dX9_one_4 : decode cX9_one 4 = .ok (.aload_n 0, 1) := by decide +kernel
theorem dX9_one_5 : decode cX9_one 5 = .ok (.getfield 81, 3) := by decide +kernel
theorem dX9_one_8 : decode cX9_one 8 = .ok (.if_icmp .ge 18, 3) := by decide +kernel
theorem dX9_one_11 : decode cX9_one 11 = .ok (.aload_n 0, 1) := by decide +kernel
theorem dX9_one_12 : decode cX9_one 12 = .ok (.getfield 7, 3) := by decide +kernel
theorem dX9_one_15 : decode cX9_one 15 = .ok (.aload_n 0, 1) := by decide +kernel
theorem dX9_one_16 : decode cX9_one 16 = .ok (.getfield 84, 3) := by decide +kernel
theorem dX9_one_19 : decode cX9_one 19 = .ok (.iaload, 1) := by decide +kernel
theorem dX9_one_20 : decode cX9_one 20 = .ok (.bipush 48, 2) := by decide +kernel
theorem dX9_one_22 : decode cX9_one 22 = .ok (.isub, 1) := by decide +kernel
theorem dX9_one_23 : decode cX9_one 23 = .ok (.goto 5, 3) := by decide +kernel
theorem dX9_one_26 : decode cX9_one 26 = .ok (.bipush (-9), 2) := by decide +kernel
theorem dX9_one_28 : decode cX9_one 28 = .ok (.istore_n 2, 1) := by decide +kernel
theorem dX9_one_29 : decode cX9_one 29 = .ok (.iload_n 2, 1) := by decide +kernel
theorem dX9_one_30 : decode cX9_one 30 = .ok (.i2l, 1) := by decide +kernel
theorem dX9_one_31 : decode cX9_one 31 = .ok (.lconst 0, 1) := by decide +kernel
theorem dX9_one_32 : decode cX9_one 32 = .ok (.ldc2_w 87, 3) := by decide +kernel
theorem dX9_one_35 : decode cX9_one 35 = .ok (.invokestatic 72, 3) := by decide +kernel
theorem dX9_one_38 : decode cX9_one 38 = .ok (.ifCond .eq 11, 3) := by decide +kernel
theorem dX9_one_41 : decode cX9_one 41 = .ok (.iload_n 1, 1) := by decide +kernel
theorem dX9_one_42 : decode cX9_one 42 = .ok (.iload_n 2, 1) := by decide +kernel
theorem dX9_one_43 : decode cX9_one 43 = .ok (.invokestatic 89, 3) := by decide +kernel
theorem dX9_one_46 : decode cX9_one 46 = .ok (.ifCond .ne 6, 3) := by decide +kernel
theorem dX9_one_49 : decode cX9_one 49 = .ok (.bipush (-9), 2) := by decide +kernel
theorem dX9_one_51 : decode cX9_one 51 = .ok (.ireturn, 1) := by decide +kernel
theorem dX9_one_52 : decode cX9_one 52 = .ok (.aload_n 0, 1) := by decide +kernel
theorem dX9_one_53 : decode cX9_one 53 = .ok (.dup, 1) := by decide +kernel
theorem dX9_one_54 : decode cX9_one 54 = .ok (.getfield 84, 3) := by decide +kernel
theorem dX9_one_57 : decode cX9_one 57 = .ok (.iconst 1, 1) := by decide +kernel
theorem dX9_one_58 : decode cX9_one 58 = .ok (.iadd, 1) := by decide +kernel
theorem dX9_one_59 : decode cX9_one 59 = .ok (.putfield 84, 3) := by decide +kernel
theorem dX9_one_62 : decode cX9_one 62 = .ok (.iload_n 2, 1) := by decide +kernel
theorem dX9_one_63 : decode cX9_one 63 = .ok (.ireturn, 1) := by decide +kernel
theorem dX9_ordain_0 : decode cX9_ordain 0 = .ok (.aload_n 0, 1) := by decide +kernel
theorem dX9_ordain_1 : decode cX9_ordain 1 = .ok (.iconst 0, 1) := by decide +kernel
theorem dX9_ordain_2 : decode cX9_ordain 2 = .ok (.putfield 66, 3) := by decide +kernel
theorem dX9_ordain_5 : decode cX9_ordain 5 = .ok (.aload_n 0, 1) := by decide +kernel
theorem dX9_ordain_6 : decode cX9_ordain 6 = .ok (.invokevirtual 137, 3) := by decide +kernel
theorem dX9_ordain_9 : decode cX9_ordain 9 = .ok (.bipush (-9), 2) := by decide +kernel
theorem dX9_ordain_11 : decode cX9_ordain 11 = .ok (.if_icmp .eq 6, 3) := by decide +kernel
theorem dX9_ordain_14 : decode cX9_ordain 14 = .ok (.bipush (-3), 2) := by decide +kernel
theorem dX9_ordain_16 : decode cX9_ordain 16 = .ok (.ireturn, 1) := by decide +kernel
theorem dX9_ordain_17 : decode cX9_ordain 17 = .ok (.aload_n 0, 1) := by decide +kernel
theorem dX9_ordain_18 : decode cX9_ordain 18 = .ok (.aload_n 0, 1) := by decide +kernel
theorem dX9_ordain_19 : decode cX9_ordain 19 = .ok (.getfield 100, 3) := by decide +kernel
theorem dX9_ordain_22 : decode cX9_ordain 22 = .ok (.putfield 69, 3) := by decide +kernel
theorem dX9_ordain_25 : decode cX9_ordain 25 = .ok (.aload_n 0, 1) := by decide +kernel
theorem dX9_ordain_26 : decode cX9_ordain 26 = .ok (.aload_n 0, 1) := by decide +kernel
theorem dX9_ordain_27 : decode cX9_ordain 27 = .ok (.getfield 103, 3) := by decide +kernel
theorem dX9_ordain_30 : decode cX9_ordain 30 = .ok (.putfield 76, 3) := by decide +kernel
theorem dX9_ordain_33 : decode cX9_ordain 33 = .ok (.aload_n 0, 1) := by decide +kernel
theorem dX9_ordain_34 : decode cX9_ordain 34 = .ok (.aload_n 0, 1) := by decide +kernel
theorem dX9_ordain_35 : decode cX9_ordain 35 = .ok (.getfield 97, 3) := by decide +kernel
theorem dX9_ordain_38 : decode cX9_ordain 38 = .ok (.putfield 13, 3) := by decide +kernel
theorem dX9_ordain_41 : decode cX9_ordain 41 = .ok (.iconst 0, 1) := by decide +kernel
theorem dX9_ordain_42 : decode cX9_ordain 42 = .ok (.istore_n 1, 1) := by decide +kernel
theorem dX9_ordain_43 : decode cX9_ordain 43 = .ok (.iload_n 1, 1) := by decide +kernel
theorem dX9_ordain_44 : decode cX9_ordain 44 = .ok (.iconst 4, 1) := by decide +kernel
theorem dX9_ordain_45 : decode cX9_ordain 45 = .ok (.if_icmp .ge 21, 3) := by decide +kernel
theorem dX9_ordain_48 : decode cX9_ordain 48 = .ok (.aload_n 0, 1) := by decide +kernel
theorem dX9_ordain_49 : decode cX9_ordain 49 = .ok (.getfield 17, 3) := by decide +kernel
theorem dX9_ordain_52 : decode cX9_ordain 52 = .ok (.iload_n 1, 1) := by decide +kernel
theorem dX9_ordain_53 : decode cX9_ordain 53 = .ok (.aload_n 0, 1) := by decide +kernel
theorem dX9_ordain_54 : decode cX9_ordain 54 = .ok (.getfield 26, 3) := by decide +kernel
theorem dX9_ordain_57 : decode cX9_ordain 57 = .ok (.iload_n 1, 1) := by decide +kernel
theorem dX9_ordain_58 : decode cX9_ordain 58 = .ok (.iaload, 1) := by decide +kernel
theorem dX9_ordain_59 : decode cX9_ordain 59 = .ok (.iastore, 1) := by decide +kernel
theorem dX9_ordain_60 : decode cX9_ordain 60 = .ok (.iinc 1 1, 3) := by decide +kernel
theorem dX9_ordain_63 : decode cX9_ordain 63 = .ok (.goto (-20), 3) := by decide +kernel
theorem dX9_ordain_66 : decode cX9_ordain 66 = .ok (.iconst 0, 1) := by decide +kernel
theorem dX9_ordain_67 : decode cX9_ordain 67 = .ok (.istore_n 1, 1) := by decide +kernel
theorem dX9_ordain_68 : decode cX9_ordain 68 = .ok (.iload_n 1, 1) := by decide +kernel
theorem dX9_ordain_69 : decode cX9_ordain 69 = .ok (.iconst 4, 1) := by decide +kernel
theorem dX9_ordain_70 : decode cX9_ordain 70 = .ok (.aload_n 0, 1) := by decide +kernel
theorem dX9_ordain_71 : decode cX9_ordain 71 = .ok (.getfield 69, 3) := by decide +kernel
theorem dX9_ordain_74 : decode cX9_ordain 74 = .ok (.imul, 1) := by decide +kernel
theorem dX9_ordain_75 : decode cX9_ordain 75 = .ok (.if_icmp .ge 21, 3) := by decide +kernel
theorem dX9_ordain_78 : decode cX9_ordain 78 = .ok (.aload_n 0, 1) := by decide +kernel
theorem dX9_ordain_79 : decode cX9_ordain 79 = .ok (.getfield 20, 3) := by decide +kernel
theorem dX9_ordain_82 : decode cX9_ordain 82 = .ok (.iload_n 1, 1) := by decide +kernel
theorem dX9_ordain_83 : decode cX9_ordain 83 = .ok (.aload_n 0, 1) := by decide +kernel
theorem dX9_ordain_84 : decode cX9_ordain 84 = .ok (.getfield 29, 3) := by decide +kernel
theorem dX9_ordain_87 : decode cX9_ordain 87 = .ok (.iload_n 1, 1) := by decide +kernel
theorem dX9_ordain_88 : decode cX9_ordain 88 = .ok (.iaload, 1) := by decide +kernel
theorem dX9_ordain_89 : decode cX9_ordain 89 = .ok (.iastore, 1) := by decide +kernel
theorem dX9_ordain_90 : decode cX9_ordain 90 = .ok (.iinc 1 1, 3) := by decide +kernel
theorem dX9_ordain_93 : decode cX9_ordain 93 = .ok (.goto (-25), 3) := by decide +kernel
theorem dX9_ordain_96 : decode cX9_ordain 96 = .ok (.iconst 0, 1) := by decide +kernel
theorem dX9_ordain_97 : decode cX9_ordain 97 = .ok (.istore_n 1, 1) := by decide +kernel
theorem dX9_ordain_98 : decode cX9_ordain 98 = .ok (.iload_n 1, 1) := by decide +kernel
theorem dX9_ordain_99 : decode cX9_ordain 99 = .ok (.iconst 3, 1) := by decide +kernel
theorem dX9_ordain_100 : decode cX9_ordain 100 = .ok (.aload_n 0, 1) := by decide +kernel
theorem dX9_ordain_101 : decode cX9_ordain 101 = .ok (.getfield 76, 3) := by decide +kernel
theorem dX9_ordain_104 : decode cX9_ordain 104 = .ok (.imul, 1) := by decide +kernel
theorem dX9_ordain_105 : decode cX9_ordain 105 = .ok (.if_icmp .ge 21, 3) := by decide +kernel
theorem dX9_ordain_108 : decode cX9_ordain 108 = .ok (.aload_n 0, 1) := by decide +kernel
theorem dX9_ordain_109 : decode cX9_ordain 109 = .ok (.getfield 23, 3) := by decide +kernel
theorem dX9_ordain_112 : decode cX9_ordain 112 = .ok (.iload_n 1, 1) := by decide +kernel
theorem dX9_ordain_113 : decode cX9_ordain 113 = .ok (.aload_n 0, 1) := by decide +kernel
theorem dX9_ordain_114 : decode cX9_ordain 114 = .ok (.getfield 32, 3) := by decide +kernel
theorem dX9_ordain_117 : decode cX9_ordain 117 = .ok (.iload_n 1, 1) := by decide +kernel
theorem dX9_ordain_118 : decode cX9_ordain 118 = .ok (.iaload, 1) := by decide +kernel
theorem dX9_ordain_119 : decode cX9_ordain 119 = .ok (.iastore, 1) := by decide +kernel
theorem dX9_ordain_120 : decode cX9_ordain 120 = .ok (.iinc 1 1, 3) := by decide +kernel
theorem dX9_ordain_123 : decode cX9_ordain 123 = .ok (.goto (-25), 3) := by decide +kernel
theorem dX9_ordain_126 : decode cX9_ordain 126 = .ok (.iconst 0, 1) := by decide +kernel
theorem dX9_ordain_127 : decode cX9_ordain 127 = .ok (.istore_n 1, 1) := by decide +kernel
theorem dX9_ordain_128 : decode cX9_ordain 128 = .ok (.iload_n 1, 1) := by decide +kernel
theorem dX9_ordain_129 : decode cX9_ordain 129 = .ok (.bipush 25, 2) := by decide +kernel
theorem dX9_ordain_131 : decode cX9_ordain 131 = .ok (.if_icmp .ge 16, 3) := by decide +kernel
theorem dX9_ordain_134 : decode cX9_ordain 134 = .ok (.aload_n 0, 1) := by decide +kernel
theorem dX9_ordain_135 : decode cX9_ordain 135 = .ok (.getfield 35, 3) := by decide +kernel
theorem dX9_ordain_138 : decode cX9_ordain 138 = .ok (.iload_n 1, 1) := by decide +kernel
theorem dX9_ordain_139 : decode cX9_ordain 139 = .ok (.iconst 0, 1) := by decide +kernel
theorem dX9_ordain_140 : decode cX9_ordain 140 = .ok (.iastore, 1) := by decide +kernel
theorem dX9_ordain_141 : decode cX9_ordain 141 = .ok (.iinc 1 1, 3) := by decide +kernel
theorem dX9_ordain_144 : decode cX9_ordain 144 = .ok (.goto (-16), 3) := by decide +kernel
theorem dX9_ordain_147 : decode cX9_ordain 147 = .ok (.iconst 0, 1) := by decide +kernel
theorem dX9_ordain_148 : decode cX9_ordain 148 = .ok (.istore_n 1, 1) := by decide +kernel
theorem dX9_ordain_149 : decode cX9_ordain 149 = .ok (.iload_n 1, 1) := by decide +kernel
theorem dX9_ordain_150 : decode cX9_ordain 150 = .ok (.aload_n 0, 1) := by decide +kernel
theorem dX9_ordain_151 : decode cX9_ordain 151 = .ok (.getfield 69, 3) := by decide +kernel
theorem dX9_ordain_154 : decode cX9_ordain 154 = .ok (.if_icmp .ge 23, 3) := by decide +kernel
theorem dX9_ordain_157 : decode cX9_ordain 157 = .ok (.aload_n 0, 1) := by decide +kernel
theorem dX9_ordain_158 : decode cX9_ordain 158 = .ok (.getfield 35, 3) := by decide +kernel
theorem dX9_ordain_161 : decode cX9_ordain 161 = .ok (.iload_n 1, 1) := by decide +kernel
theorem dX9_ordain_162 : decode cX9_ordain 162 = .ok (.aload_n 0, 1) := by decide +kernel
theorem dX9_ordain_163 : decode cX9_ordain 163 = .ok (.getfield 20, 3) := by decide +kernel
theorem dX9_ordain_166 : decode cX9_ordain 166 = .ok (.iconst 4, 1) := by decide +kernel
theorem dX9_ordain_167 : decode cX9_ordain 167 = .ok (.iload_n 1, 1) := by decide +kernel
theorem dX9_ordain_168 : decode cX9_ordain 168 = .ok (.imul, 1) := by decide +kernel
theorem dX9_ordain_169 : decode cX9_ordain 169 = .ok (.iaload, 1) := by decide +kernel
theorem dX9_ordain_170 : decode cX9_ordain 170 = .ok (.iastore, 1) := by decide +kernel
theorem dX9_ordain_171 : decode cX9_ordain 171 = .ok (.iinc 1 1, 3) := by decide +kernel
theorem dX9_ordain_174 : decode cX9_ordain 174 = .ok (.goto (-25), 3) := by decide +kernel
theorem dX9_ordain_177 : decode cX9_ordain 177 = .ok (.iconst 0, 1) := by decide +kernel
theorem dX9_ordain_178 : decode cX9_ordain 178 = .ok (.istore_n 1, 1) := by decide +kernel
theorem dX9_ordain_179 : decode cX9_ordain 179 = .ok (.iload_n 1, 1) := by decide +kernel
theorem dX9_ordain_180 : decode cX9_ordain 180 = .ok (.aload_n 0, 1) := by decide +kernel
theorem dX9_ordain_181 : decode cX9_ordain 181 = .ok (.getfield 76, 3) := by decide +kernel
theorem dX9_ordain_184 : decode cX9_ordain 184 = .ok (.if_icmp .ge 45, 3) := by decide +kernel
theorem dX9_ordain_187 : decode cX9_ordain 187 = .ok (.aload_n 0, 1) := by decide +kernel
theorem dX9_ordain_188 : decode cX9_ordain 188 = .ok (.getfield 35, 3) := by decide +kernel
theorem dX9_ordain_191 : decode cX9_ordain 191 = .ok (.bipush 8, 2) := by decide +kernel
theorem dX9_ordain_193 : decode cX9_ordain 193 = .ok (.iload_n 1, 1) := by decide +kernel
theorem dX9_ordain_194 : decode cX9_ordain 194 = .ok (.iadd, 1) := by decide +kernel
theorem dX9_ordain_195 : decode cX9_ordain 195 = .ok (.aload_n 0, 1) := by decide +kernel
theorem dX9_ordain_196 : decode cX9_ordain 196 = .ok (.getfield 23, 3) := by decide +kernel
theorem dX9_ordain_199 : decode cX9_ordain 199 = .ok (.iconst 3, 1) := by decide +kernel
theorem dX9_ordain_200 : decode cX9_ordain 200 = .ok (.iload_n 1, 1) := by decide +kernel
theorem dX9_ordain_201 : decode cX9_ordain 201 = .ok (.imul, 1) := by decide +kernel
theorem dX9_ordain_202 : decode cX9_ordain 202 = .ok (.iaload, 1) := by decide +kernel
theorem dX9_ordain_203 : decode cX9_ordain 203 = .ok (.iastore, 1) := by decide +kernel
theorem dX9_ordain_204 : decode cX9_ordain 204 = .ok (.aload_n 0, 1) := by decide +kernel
theorem dX9_ordain_205 : decode cX9_ordain 205 = .ok (.getfield 35, 3) := by decide +kernel
theorem dX9_ordain_208 : decode cX9_ordain 208 = .ok (.bipush 13, 2) := by decide +kernel
theorem dX9_ordain_210 : decode cX9_ordain 210 = .ok (.iload_n 1, 1) := by decide +kernel
theorem dX9_ordain_211 : decode cX9_ordain 211 = .ok (.iadd, 1) := by decide +kernel
theorem dX9_ordain_212 : decode cX9_ordain 212 = .ok (.aload_n 0, 1) := by decide +kernel
theorem dX9_ordain_213 : decode cX9_ordain 213 = .ok (.getfield 23, 3) := by decide +kernel
theorem dX9_ordain_216 : decode cX9_ordain 216 = .ok (.iconst 3, 1) := by decide +kernel
theorem dX9_ordain_217 : decode cX9_ordain 217 = .ok (.iload_n 1, 1) := by decide +kernel
theorem dX9_ordain_218 : decode cX9_ordain 218 = .ok (.imul, 1) := by decide +kernel
theorem dX9_ordain_219 : decode cX9_ordain 219 = .ok (.iconst 1, 1) := by decide +kernel
theorem dX9_ordain_220 : decode cX9_ordain 220 = .ok (.iadd, 1) := by decide +kernel
theorem dX9_ordain_221 : decode cX9_ordain 221 = .ok (.iaload, 1) := by decide +kernel
theorem dX9_ordain_222 : decode cX9_ordain 222 = .ok (.iastore, 1) := by decide +kernel
theorem dX9_ordain_223 : decode cX9_ordain 223 = .ok (.iinc 1 1, 3) := by decide +kernel
theorem dX9_ordain_226 : decode cX9_ordain 226 = .ok (.goto (-47), 3) := by decide +kernel
theorem dX9_ordain_229 : decode cX9_ordain 229 = .ok (.aload_n 0, 1) := by decide +kernel
theorem dX9_ordain_230 : decode cX9_ordain 230 = .ok (.iconst 0, 1) := by decide +kernel
theorem dX9_ordain_231 : decode cX9_ordain 231 = .ok (.putfield 140, 3) := by decide +kernel
theorem dX9_ordain_234 : decode cX9_ordain 234 = .ok (.aload_n 0, 1) := by decide +kernel
theorem dX9_ordain_235 : decode cX9_ordain 235 = .ok (.getfield 47, 3) := by decide +kernel
theorem dX9_ordain_238 : decode cX9_ordain 238 = .ok (.iconst 0, 1) := by decide +kernel
theorem dX9_ordain_239 : decode cX9_ordain 239 = .ok (.iconst 0, 1) := by decide +kernel
theorem dX9_ordain_240 : decode cX9_ordain 240 = .ok (.bastore, 1) := by decide +kernel
theorem dX9_ordain_241 : decode cX9_ordain 241 = .ok (.aload_n 0, 1) := by decide +kernel
theorem dX9_ordain_242 : decode cX9_ordain 242 = .ok (.getfield 47, 3) := by decide +kernel
theorem dX9_ordain_245 : decode cX9_ordain 245 = .ok (.iconst 1, 1) := by decide +kernel
theorem dX9_ordain_246 : decode cX9_ordain 246 = .ok (.iconst 0, 1) := by decide +kernel
theorem dX9_ordain_247 : decode cX9_ordain 247 = .ok (.bastore, 1) := by decide +kernel
theorem dX9_ordain_248 : decode cX9_ordain 248 = .ok (.bipush 10, 2) := by decide +kernel
theorem dX9_ordain_250 : decode cX9_ordain 250 = .ok (.aload_n 0, 1) := by decide +kernel
theorem dX9_ordain_251 : decode cX9_ordain 251 = .ok (.getfield 69, 3) := by decide +kernel
theorem dX9_ordain_254 : decode cX9_ordain 254 = .ok (.imul, 1) := by decide +kernel
theorem dX9_ordain_255 : decode cX9_ordain 255 = .ok (.aload_n 0, 1) := by decide +kernel
theorem dX9_ordain_256 : decode cX9_ordain 256 = .ok (.getfield 76, 3) := by decide +kernel
theorem dX9_ordain_259 : decode cX9_ordain 259 = .ok (.iadd, 1) := by decide +kernel
theorem dX9_ordain_260 : decode cX9_ordain 260 = .ok (.ireturn, 1) := by decide +kernel
theorem dX9_parents_0 : decode cX9_parents 0 = .ok (.iconst 0, 1) := by decide +kernel
theorem dX9_parents_1 : decode cX9_parents 1 = .ok (.istore_n 1, 1) := by decide +kernel
theorem dX9_parents_2 : decode cX9_parents 2 = .ok (.iconst 0, 1) := by decide +kernel
theorem dX9_parents_3 : decode cX9_parents 3 = .ok (.istore_n 2, 1) := by decide +kernel
theorem dX9_parents_4 : decode cX9_parents 4 = .ok (.iload_n 2, 1) := by decide +kernel
theorem dX9_parents_5 : decode cX9_parents 5 = .ok (.aload_n 0, 1) := by decide +kernel
theorem dX9_parents_6 : decode cX9_parents 6 = .ok (.getfield 100, 3) := by decide +kernel
theorem dX9_parents_9 : decode cX9_parents 9 = .ok (.if_icmp .ge 27, 3) := by decide +kernel
theorem dX9_parents_12 : decode cX9_parents 12 = .ok (.iload_n 1, 1) := by decide +kernel
theorem dX9_parents_13 : decode cX9_parents 13 = .ok (.aload_n 0, 1) := by decide +kernel
theorem dX9_parents_14 : decode cX9_parents 14 = .ok (.iload_n 2, 1) := by decide +kernel
theorem dX9_parents_15 : decode cX9_parents 15 = .ok (.invokevirtual 117, 3) := by decide +kernel
theorem dX9_parents_18 : decode cX9_parents 18 = .ok (.ifCond .eq 9, 3) := by decide +kernel
theorem dX9_parents_21 : decode cX9_parents 21 = .ok (.iconst 1, 1) := by decide +kernel
theorem dX9_parents_22 : decode cX9_parents 22 = .ok (.iload_n 2, 1) := by decide +kernel
theorem dX9_parents_23 : decode cX9_parents 23 = .ok (.ishl, 1) := by decide +kernel
theorem dX9_parents_24 : decode cX9_parents 24 = .ok (.goto 4, 3) := by decide +kernel
theorem dX9_parents_27 : decode cX9_parents 27 = .ok (.iconst 0, 1) := by decide +kernel
theorem dX9_parents_28 : decode cX9_parents 28 = .ok (.ior, 1) := by decide +kernel
theorem dX9_parents_29 : decode cX9_parents 29 = .ok (.istore_n 1, 1) := by decide +kernel
theorem dX9_parents_30 : decode cX9_parents 30 = .ok (.iinc 2 1, 3) := by decide +kernel
theorem dX9_parents_33 : decode cX9_parents 33 = .ok (.goto (-29), 3) := by decide +kernel
theorem dX9_parents_36 : decode cX9_parents 36 = .ok (.iload_n 1, 1) := by decide +kernel
theorem dX9_parents_37 : decode cX9_parents 37 = .ok (.ireturn, 1) := by decide +kernel
theorem dX9_pays_0 : decode cX9_pays 0 = .ok (.aload_n 0, 1) := by decide +kernel
theorem dX9_pays_1 : decode cX9_pays 1 = .ok (.iconst 0, 1) := by decide +kernel
theorem dX9_pays_2 : decode cX9_pays 2 = .ok (.putfield 66, 3) := by decide +kernel
theorem dX9_pays_5 : decode cX9_pays 5 = .ok (.iload_n 1, 1) := by decide +kernel
theorem dX9_pays_6 : decode cX9_pays 6 = .ok (.i2l, 1) := by decide +kernel
theorem dX9_pays_7 : decode cX9_pays 7 = .ok (.lconst 0, 1) := by decide +kernel
theorem dX9_pays_8 : decode cX9_pays 8 = .ok (.ldc2_w 206, 3) := by decide +kernel
theorem dX9_pays_11 : decode cX9_pays 11 = .ok (.invokestatic 72, 3) := by decide +kernel
theorem dX9_pays_14 : decode cX9_pays 14 = .ok (.ifCond .eq 15, 3) := by decide +kernel
theorem dX9_pays_17 : decode cX9_pays 17 = .ok (.iload_n 2, 1) := by decide +kernel
theorem dX9_pays_18 : decode cX9_pays 18 = .ok (.i2l, 1) := by decide +kernel
theorem dX9_pays_19 : decode cX9_pays 19 = .ok (.lconst 0, 1) := by decide +kernel
theorem dX9_pays_20 : decode cX9_pays 20 = .ok (.ldc2_w 180, 3) := by decide +kernel
theorem dX9_pays_23 : decode cX9_pays 23 = .ok (.invokestatic 72, 3) := by decide +kernel
theorem dX9_pays_26 : decode cX9_pays 26 = .ok (.ifCond .ne 6, 3) := by decide +kernel
theorem dX9_pays_29 : decode cX9_pays 29 = .ok (.bipush (-2), 2) := by decide +kernel
theorem dX9_pays_31 : decode cX9_pays 31 = .ok (.ireturn, 1) := by decide +kernel
theorem dX9_pays_32 : decode cX9_pays 32 = .ok (.aload_n 0, 1) := by decide +kernel
theorem dX9_pays_33 : decode cX9_pays 33 = .ok (.invokevirtual 182, 3) := by decide +kernel
theorem dX9_pays_36 : decode cX9_pays 36 = .ok (.iconst 0, 1) := by decide +kernel
theorem dX9_pays_37 : decode cX9_pays 37 = .ok (.istore_n 3, 1) := by decide +kernel
theorem dX9_pays_38 : decode cX9_pays 38 = .ok (.iload_n 3, 1) := by decide +kernel
theorem dX9_pays_39 : decode cX9_pays 39 = .ok (.iload_n 2, 1) := by decide +kernel
theorem dX9_pays_40 : decode cX9_pays 40 = .ok (.if_icmp .ge 20, 3) := by decide +kernel
theorem dX9_pays_43 : decode cX9_pays 43 = .ok (.aload_n 0, 1) := by decide +kernel
theorem dX9_pays_44 : decode cX9_pays 44 = .ok (.aload_n 0, 1) := by decide +kernel
theorem dX9_pays_45 : decode cX9_pays 45 = .ok (.getfield 38, 3) := by decide +kernel
theorem dX9_pays_48 : decode cX9_pays 48 = .ok (.iload_n 1, 1) := by decide +kernel
theorem dX9_pays_49 : decode cX9_pays 49 = .ok (.iconst 0, 1) := by decide +kernel
theorem dX9_pays_50 : decode cX9_pays 50 = .ok (.invokevirtual 176, 3) := by decide +kernel
theorem dX9_pays_53 : decode cX9_pays 53 = .ok (.pop, 1) := by decide +kernel
theorem dX9_pays_54 : decode cX9_pays 54 = .ok (.iinc 3 1, 3) := by decide +kernel
theorem dX9_pays_57 : decode cX9_pays 57 = .ok (.goto (-19), 3) := by decide +kernel
theorem dX9_pays_60 : decode cX9_pays 60 = .ok (.aload_n 0, 1) := by decide +kernel
theorem dX9_pays_61 : decode cX9_pays 61 = .ok (.getfield 38, 3) := by decide +kernel
theorem dX9_pays_64 : decode cX9_pays 64 = .ok (.invokestatic 146, 3) := by decide +kernel
theorem dX9_pays_67 : decode cX9_pays 67 = .ok (.aload_n 0, 1) := by decide +kernel
theorem dX9_pays_68 : decode cX9_pays 68 = .ok (.getfield 35, 3) := by decide +kernel
theorem dX9_pays_71 : decode cX9_pays 71 = .ok (.invokestatic 146, 3) := by decide +kernel
theorem dX9_pays_74 : decode cX9_pays 74 = .ok (.isub, 1) := by decide +kernel
theorem dX9_pays_75 : decode cX9_pays 75 = .ok (.ireturn, 1) := by decide +kernel
theorem dX9_power_0 : decode cX9_power 0 = .ok (.iconst 1, 1) := by decide +kernel
theorem dX9_power_1 : decode cX9_power 1 = .ok (.istore_n 2, 1) := by decide +kernel
theorem dX9_power_2 : decode cX9_power 2 = .ok (.iconst 0, 1) := by decide +kernel
theorem dX9_power_3 : decode cX9_power 3 = .ok (.istore_n 3, 1) := by decide +kernel
theorem dX9_power_4 : decode cX9_power 4 = .ok (.iload_n 3, 1) := by decide +kernel
theorem dX9_power_5 : decode cX9_power 5 = .ok (.iload_n 1, 1) := by decide +kernel
theorem dX9_power_6 : decode cX9_power 6 = .ok (.if_icmp .ge 13, 3) := by decide +kernel
theorem dX9_power_9 : decode cX9_power 9 = .ok (.iload_n 2, 1) := by decide +kernel
theorem dX9_power_10 : decode cX9_power 10 = .ok (.iload_n 0, 1) := by decide +kernel
theorem dX9_power_11 : decode cX9_power 11 = .ok (.imul, 1) := by decide +kernel
theorem dX9_power_12 : decode cX9_power 12 = .ok (.istore_n 2, 1) := by decide +kernel
theorem dX9_power_13 : decode cX9_power 13 = .ok (.iinc 3 1, 3) := by decide +kernel
theorem dX9_power_16 : decode cX9_power 16 = .ok (.goto (-12), 3) := by decide +kernel
theorem dX9_power_19 : decode cX9_power 19 = .ok (.iload_n 2, 1) := by decide +kernel
theorem dX9_power_20 : decode cX9_power 20 = .ok (.ireturn, 1) := by decide +kernel
theorem dX9_readDog_0 : decode cX9_readDog 0 = .ok (.iconst 4, 1) := by decide +kernel
theorem dX9_readDog_1 : decode cX9_readDog 1 = .ok (.aload_n 0, 1) := by decide +kernel
theorem dX9_readDog_2 : decode cX9_readDog 2 = .ok (.getfield 100, 3) := by decide +kernel
theorem dX9_readDog_5 : decode cX9_readDog 5 = .ok (.imul, 1) := by decide +kernel
theorem dX9_readDog_6 : decode cX9_readDog 6 = .ok (.istore_n 1, 1) := by decide +kernel
theorem dX9_readDog_7 : decode cX9_readDog 7 = .ok (.aload_n 0, 1) := by decide +kernel
theorem dX9_readDog_8 : decode cX9_readDog 8 = .ok (.iconst 0, 1) := by decide +kernel
theorem dX9_readDog_9 : decode cX9_readDog 9 = .ok (.iconst 4, 1) := by decide +kernel
theorem dX9_readDog_10 : decode cX9_readDog 10 = .ok (.invokevirtual 93, 3) := by decide +kernel
theorem dX9_readDog_13 : decode cX9_readDog 13 = .ok (.istore_n 2, 1) := by decide +kernel
theorem dX9_readDog_14 : decode cX9_readDog 14 = .ok (.iload_n 2, 1) := by decide +kernel
theorem dX9_readDog_15 : decode cX9_readDog 15 = .ok (.bipush (-9), 2) := by decide +kernel
theorem dX9_readDog_17 : decode cX9_readDog 17 = .ok (.if_icmp .ne 8, 3) := by decide +kernel
theorem dX9_readDog_20 : decode cX9_readDog 20 = .ok (.bipush (-9), 2) := by decide +kernel
theorem dX9_readDog_22 : decode cX9_readDog 22 = .ok (.goto 10, 3) := by decide +kernel
theorem dX9_readDog_25 : decode cX9_readDog 25 = .ok (.aload_n 0, 1) := by decide +kernel
theorem dX9_readDog_26 : decode cX9_readDog 26 = .ok (.iconst 0, 1) := by decide +kernel
theorem dX9_readDog_27 : decode cX9_readDog 27 = .ok (.bipush 9, 2) := by decide +kernel
theorem dX9_readDog_29 : decode cX9_readDog 29 = .ok (.invokevirtual 93, 3) := by decide +kernel
theorem dX9_readDog_32 : decode cX9_readDog 32 = .ok (.istore_n 3, 1) := by decide +kernel
theorem dX9_readDog_33 : decode cX9_readDog 33 = .ok (.iload_n 3, 1) := by decide +kernel
theorem dX9_readDog_34 : decode cX9_readDog 34 = .ok (.bipush (-9), 2) := by decide +kernel
theorem dX9_readDog_36 : decode cX9_readDog 36 = .ok (.if_icmp .ne 8, 3) := by decide +kernel
theorem dX9_readDog_39 : decode cX9_readDog 39 = .ok (.bipush (-9), 2) := by decide +kernel
theorem dX9_readDog_41 : decode cX9_readDog 41 = .ok (.goto 9, 3) := by decide +kernel
theorem dX9_readDog_44 : decode cX9_readDog 44 = .ok (.aload_n 0, 1) := by decide +kernel
theorem dX9_readDog_45 : decode cX9_readDog 45 = .ok (.iconst 1, 1) := by decide +kernel
theorem dX9_readDog_46 : decode cX9_readDog 46 = .ok (.iconst 3, 1) := by decide +kernel
theorem dX9_readDog_47 : decode cX9_readDog 47 = .ok (.invokevirtual 93, 3) := by decide +kernel
theorem dX9_readDog_50 : decode cX9_readDog 50 = .ok (.istore 4, 2) := by decide +kernel
theorem dX9_readDog_52 : decode cX9_readDog 52 = .ok (.iload 4, 2) := by decide +kernel
theorem dX9_readDog_54 : decode cX9_readDog 54 = .ok (.bipush (-9), 2) := by decide +kernel
theorem dX9_readDog_56 : decode cX9_readDog 56 = .ok (.if_icmp .ne 5, 3) := by decide +kernel
theorem dX9_readDog_59 : decode cX9_readDog 59 = .ok (.iconst 0, 1) := by decide +kernel
theorem dX9_readDog_60 : decode cX9_readDog 60 = .ok (.ireturn, 1) := by decide +kernel
theorem dX9_readDog_61 : decode cX9_readDog 61 = .ok (.aload_n 0, 1) := by decide +kernel
theorem dX9_readDog_62 : decode cX9_readDog 62 = .ok (.getfield 29, 3) := by decide +kernel
theorem dX9_readDog_65 : decode cX9_readDog 65 = .ok (.iload_n 1, 1) := by decide +kernel
theorem dX9_readDog_66 : decode cX9_readDog 66 = .ok (.iload_n 2, 1) := by decide +kernel
theorem dX9_readDog_67 : decode cX9_readDog 67 = .ok (.iastore, 1) := by decide +kernel
theorem dX9_readDog_68 : decode cX9_readDog 68 = .ok (.aload_n 0, 1) := by decide +kernel
theorem dX9_readDog_69 : decode cX9_readDog 69 = .ok (.getfield 29, 3) := by decide +kernel
theorem dX9_readDog_72 : decode cX9_readDog 72 = .ok (.iload_n 1, 1) := by decide +kernel
theorem dX9_readDog_73 : decode cX9_readDog 73 = .ok (.iconst 1, 1) := by decide +kernel
theorem dX9_readDog_74 : decode cX9_readDog 74 = .ok (.iadd, 1) := by decide +kernel
theorem dX9_readDog_75 : decode cX9_readDog 75 = .ok (.iload_n 3, 1) := by decide +kernel
theorem dX9_readDog_76 : decode cX9_readDog 76 = .ok (.iastore, 1) := by decide +kernel
theorem dX9_readDog_77 : decode cX9_readDog 77 = .ok (.aload_n 0, 1) := by decide +kernel
theorem dX9_readDog_78 : decode cX9_readDog 78 = .ok (.getfield 29, 3) := by decide +kernel
theorem dX9_readDog_81 : decode cX9_readDog 81 = .ok (.iload_n 1, 1) := by decide +kernel
theorem dX9_readDog_82 : decode cX9_readDog 82 = .ok (.iconst 2, 1) := by decide +kernel
theorem dX9_readDog_83 : decode cX9_readDog 83 = .ok (.iadd, 1) := by decide +kernel
theorem dX9_readDog_84 : decode cX9_readDog 84 = .ok (.iload 4, 2) := by decide +kernel
theorem dX9_readDog_86 : decode cX9_readDog 86 = .ok (.iastore, 1) := by decide +kernel
theorem dX9_readDog_87 : decode cX9_readDog 87 = .ok (.aload_n 0, 1) := by decide +kernel
theorem dX9_readDog_88 : decode cX9_readDog 88 = .ok (.getfield 29, 3) := by decide +kernel
theorem dX9_readDog_91 : decode cX9_readDog 91 = .ok (.iload_n 1, 1) := by decide +kernel
theorem dX9_readDog_92 : decode cX9_readDog 92 = .ok (.iconst 3, 1) := by decide +kernel
theorem dX9_readDog_93 : decode cX9_readDog 93 = .ok (.iadd, 1) := by decide +kernel
theorem dX9_readDog_94 : decode cX9_readDog 94 = .ok (.bipush (-9), 2) := by decide +kernel
theorem dX9_readDog_96 : decode cX9_readDog 96 = .ok (.iastore, 1) := by decide +kernel
theorem dX9_readDog_97 : decode cX9_readDog 97 = .ok (.aload_n 0, 1) := by decide +kernel
theorem dX9_readDog_98 : decode cX9_readDog 98 = .ok (.dup, 1) := by decide +kernel
theorem dX9_readDog_99 : decode cX9_readDog 99 = .ok (.getfield 100, 3) := by decide +kernel
theorem dX9_readDog_102 : decode cX9_readDog 102 = .ok (.iconst 1, 1) := by decide +kernel
theorem dX9_readDog_103 : decode cX9_readDog 103 = .ok (.iadd, 1) := by decide +kernel
theorem dX9_readDog_104 : decode cX9_readDog 104 = .ok (.putfield 100, 3) := by decide +kernel
theorem dX9_readDog_107 : decode cX9_readDog 107 = .ok (.iconst 1, 1) := by decide +kernel
theorem dX9_readDog_108 : decode cX9_readDog 108 = .ok (.ireturn, 1) := by decide +kernel
theorem dX9_readHead_0 : decode cX9_readHead 0 = .ok (.aload_n 0, 1) := by decide +kernel
theorem dX9_readHead_1 : decode cX9_readHead 1 = .ok (.iconst 0, 1) := by decide +kernel
theorem dX9_readHead_2 : decode cX9_readHead 2 = .ok (.iconst 1, 1) := by decide +kernel
theorem dX9_readHead_3 : decode cX9_readHead 3 = .ok (.invokevirtual 93, 3) := by decide +kernel
theorem dX9_readHead_6 : decode cX9_readHead 6 = .ok (.istore_n 1, 1) := by decide +kernel
theorem dX9_readHead_7 : decode cX9_readHead 7 = .ok (.iload_n 1, 1) := by decide +kernel
theorem dX9_readHead_8 : decode cX9_readHead 8 = .ok (.bipush (-9), 2) := by decide +kernel
theorem dX9_readHead_10 : decode cX9_readHead 10 = .ok (.if_icmp .ne 8, 3) := by decide +kernel
theorem dX9_readHead_13 : decode cX9_readHead 13 = .ok (.bipush (-9), 2) := by decide +kernel
theorem dX9_readHead_15 : decode cX9_readHead 15 = .ok (.goto 19, 3) := by decide +kernel
theorem dX9_readHead_18 : decode cX9_readHead 18 = .ok (.aload_n 0, 1) := by decide +kernel
theorem dX9_readHead_19 : decode cX9_readHead 19 = .ok (.iconst 0, 1) := by decide +kernel
theorem dX9_readHead_20 : decode cX9_readHead 20 = .ok (.iload_n 1, 1) := by decide +kernel
theorem dX9_readHead_21 : decode cX9_readHead 21 = .ok (.iconst 1, 1) := by decide +kernel
theorem dX9_readHead_22 : decode cX9_readHead 22 = .ok (.if_icmp .ne 7, 3) := by decide +kernel
theorem dX9_readHead_25 : decode cX9_readHead 25 = .ok (.iconst 2, 1) := by decide +kernel
theorem dX9_readHead_26 : decode cX9_readHead 26 = .ok (.goto 5, 3) := by decide +kernel
theorem dX9_readHead_29 : decode cX9_readHead 29 = .ok (.bipush 9, 2) := by decide +kernel
theorem dX9_readHead_31 : decode cX9_readHead 31 = .ok (.invokevirtual 93, 3) := by decide +kernel
theorem dX9_readHead_34 : decode cX9_readHead 34 = .ok (.istore_n 2, 1) := by decide +kernel
theorem dX9_readHead_35 : decode cX9_readHead 35 = .ok (.iload_n 2, 1) := by decide +kernel
theorem dX9_readHead_36 : decode cX9_readHead 36 = .ok (.bipush (-9), 2) := by decide +kernel
theorem dX9_readHead_38 : decode cX9_readHead 38 = .ok (.if_icmp .ne 5, 3) := by decide +kernel
theorem dX9_readHead_41 : decode cX9_readHead 41 = .ok (.iconst 0, 1) := by decide +kernel
theorem dX9_readHead_42 : decode cX9_readHead 42 = .ok (.ireturn, 1) := by decide +kernel
theorem dX9_readHead_43 : decode cX9_readHead 43 = .ok (.aload_n 0, 1) := by decide +kernel
theorem dX9_readHead_44 : decode cX9_readHead 44 = .ok (.bipush 10, 2) := by decide +kernel
theorem dX9_readHead_46 : decode cX9_readHead 46 = .ok (.iload_n 1, 1) := by decide +kernel
theorem dX9_readHead_47 : decode cX9_readHead 47 = .ok (.imul, 1) := by decide +kernel
theorem dX9_readHead_48 : decode cX9_readHead 48 = .ok (.iload_n 2, 1) := by decide +kernel
theorem dX9_readHead_49 : decode cX9_readHead 49 = .ok (.iadd, 1) := by decide +kernel
theorem dX9_readHead_50 : decode cX9_readHead 50 = .ok (.putfield 97, 3) := by decide +kernel
theorem dX9_readHead_53 : decode cX9_readHead 53 = .ok (.iconst 0, 1) := by decide +kernel
theorem dX9_readHead_54 : decode cX9_readHead 54 = .ok (.istore_n 3, 1) := by decide +kernel
theorem dX9_readHead_55 : decode cX9_readHead 55 = .ok (.iload_n 3, 1) := by decide +kernel
theorem dX9_readHead_56 : decode cX9_readHead 56 = .ok (.iconst 4, 1) := by decide +kernel
theorem dX9_readHead_57 : decode cX9_readHead 57 = .ok (.if_icmp .ge 34, 3) := by decide +kernel
theorem dX9_readHead_60 : decode cX9_readHead 60 = .ok (.aload_n 0, 1) := by decide +kernel
theorem dX9_readHead_61 : decode cX9_readHead 61 = .ok (.getfield 26, 3) := by decide +kernel
theorem dX9_readHead_64 : decode cX9_readHead 64 = .ok (.iload_n 3, 1) := by decide +kernel
theorem dX9_readHead_65 : decode cX9_readHead 65 = .ok (.aload_n 0, 1) := by decide +kernel
theorem dX9_readHead_66 : decode cX9_readHead 66 = .ok (.iconst 0, 1) := by decide +kernel
theorem dX9_readHead_67 : decode cX9_readHead 67 = .ok (.iconst 4, 1) := by decide +kernel
theorem dX9_readHead_68 : decode cX9_readHead 68 = .ok (.invokevirtual 93, 3) := by decide +kernel
theorem dX9_readHead_71 : decode cX9_readHead 71 = .ok (.iastore, 1) := by decide +kernel
theorem dX9_readHead_72 : decode cX9_readHead 72 = .ok (.aload_n 0, 1) := by decide +kernel
theorem dX9_readHead_73 : decode cX9_readHead 73 = .ok (.getfield 26, 3) := by decide +kernel
theorem dX9_readHead_76 : decode cX9_readHead 76 = .ok (.iload_n 3, 1) := by decide +kernel
theorem dX9_readHead_77 : decode cX9_readHead 77 = .ok (.iaload, 1) := by decide +kernel
theorem dX9_readHead_78 : decode cX9_readHead 78 = .ok (.bipush (-9), 2) := by decide +kernel
theorem dX9_readHead_80 : decode cX9_readHead 80 = .ok (.if_icmp .ne 5, 3) := by decide +kernel
theorem dX9_readHead_83 : decode cX9_readHead 83 = .ok (.iconst 0, 1) := by decide +kernel
theorem dX9_readHead_84 : decode cX9_readHead 84 = .ok (.ireturn, 1) := by decide +kernel
theorem dX9_readHead_85 : decode cX9_readHead 85 = .ok (.iinc 3 1, 3) := by decide +kernel
theorem dX9_readHead_88 : decode cX9_readHead 88 = .ok (.goto (-33), 3) := by decide +kernel
theorem dX9_readHead_91 : decode cX9_readHead 91 = .ok (.iconst 1, 1) := by decide +kernel
theorem dX9_readHead_92 : decode cX9_readHead 92 = .ok (.ireturn, 1) := by decide +kernel
theorem dX9_readLaw_0 : decode cX9_readLaw 0 = .ok (.aload_n 0, 1) := by decide +kernel
theorem dX9_readLaw_1 : decode cX9_readLaw 1 = .ok (.iconst 0, 1) := by decide +kernel
theorem dX9_readLaw_2 : decode cX9_readLaw 2 = .ok (.putfield 84, 3) := by decide +kernel
theorem dX9_readLaw_5 : decode cX9_readLaw 5 = .ok (.aload_n 0, 1) := by decide +kernel
theorem dX9_readLaw_6 : decode cX9_readLaw 6 = .ok (.iconst 0, 1) := by decide +kernel
theorem dX9_readLaw_7 : decode cX9_readLaw 7 = .ok (.putfield 100, 3) := by decide +kernel
theorem dX9_readLaw_10 : decode cX9_readLaw 10 = .ok (.aload_n 0, 1) := by decide +kernel
theorem dX9_readLaw_11 : decode cX9_readLaw 11 = .ok (.iconst 0, 1) := by decide +kernel
theorem dX9_readLaw_12 : decode cX9_readLaw 12 = .ok (.putfield 103, 3) := by decide +kernel
theorem dX9_readLaw_15 : decode cX9_readLaw 15 = .ok (.aload_n 0, 1) := by decide +kernel
theorem dX9_readLaw_16 : decode cX9_readLaw 16 = .ok (.getfield 81, 3) := by decide +kernel
theorem dX9_readLaw_19 : decode cX9_readLaw 19 = .ok (.ifCond .eq 14, 3) := by decide +kernel
theorem dX9_readLaw_22 : decode cX9_readLaw 22 = .ok (.aload_n 0, 1) := by decide +kernel
theorem dX9_readLaw_23 : decode cX9_readLaw 23 = .ok (.getfield 7, 3) := by decide +kernel
theorem dX9_readLaw_26 : decode cX9_readLaw 26 = .ok (.iconst 0, 1) := by decide +kernel
theorem dX9_readLaw_27 : decode cX9_readLaw 27 = .ok (.iaload, 1) := by decide +kernel
theorem dX9_readLaw_28 : decode cX9_readLaw 28 = .ok (.bipush 76, 2) := by decide +kernel
theorem dX9_readLaw_30 : decode cX9_readLaw 30 = .ok (.if_icmp .eq 5, 3) := by decide +kernel
theorem dX9_readLaw_33 : decode cX9_readLaw 33 = .ok (.iconst 0, 1) := by decide +kernel
theorem dX9_readLaw_34 : decode cX9_readLaw 34 = .ok (.ireturn, 1) := by decide +kernel
theorem dX9_readLaw_35 : decode cX9_readLaw 35 = .ok (.aload_n 0, 1) := by decide +kernel
theorem dX9_readLaw_36 : decode cX9_readLaw 36 = .ok (.iconst 1, 1) := by decide +kernel
theorem dX9_readLaw_37 : decode cX9_readLaw 37 = .ok (.putfield 84, 3) := by decide +kernel
theorem dX9_readLaw_40 : decode cX9_readLaw 40 = .ok (.aload_n 0, 1) := by decide +kernel
theorem dX9_readLaw_41 : decode cX9_readLaw 41 = .ok (.invokevirtual 131, 3) := by decide +kernel
theorem dX9_readLaw_44 : decode cX9_readLaw 44 = .ok (.ifCond .ne 8, 3) := by decide +kernel
theorem dX9_readLaw_47 : decode cX9_readLaw 47 = .ok (.aload_n 0, 1) := by decide +kernel
theorem dX9_readLaw_48 : decode cX9_readLaw 48 = .ok (.getfield 84, 3) := by decide +kernel
theorem dX9_readLaw_51 : decode cX9_readLaw 51 = .ok (.ireturn, 1) := by decide +kernel
theorem dX9_readLaw_52 : decode cX9_readLaw 52 = .ok (.aload_n 0, 1) := by decide +kernel
theorem dX9_readLaw_53 : decode cX9_readLaw 53 = .ok (.getfield 84, 3) := by decide +kernel
theorem dX9_readLaw_56 : decode cX9_readLaw 56 = .ok (.aload_n 0, 1) := by decide +kernel
theorem dX9_readLaw_57 : decode cX9_readLaw 57 = .ok (.getfield 81, 3) := by decide +kernel
theorem dX9_readLaw_60 : decode cX9_readLaw 60 = .ok (.if_icmp .ge 15, 3) := by decide +kernel
theorem dX9_readLaw_63 : decode cX9_readLaw 63 = .ok (.aload_n 0, 1) := by decide +kernel
theorem dX9_readLaw_64 : decode cX9_readLaw 64 = .ok (.invokevirtual 134, 3) := by decide +kernel
theorem dX9_readLaw_67 : decode cX9_readLaw 67 = .ok (.ifCond .ne (-15), 3) := by decide +kernel
theorem dX9_readLaw_70 : decode cX9_readLaw 70 = .ok (.aload_n 0, 1) := by decide +kernel
theorem dX9_readLaw_71 : decode cX9_readLaw 71 = .ok (.getfield 84, 3) := by decide +kernel
theorem dX9_readLaw_74 : decode cX9_readLaw 74 = .ok (.ireturn, 1) := by decide +kernel
theorem dX9_readLaw_75 : decode cX9_readLaw 75 = .ok (.bipush (-9), 2) := by decide +kernel
theorem dX9_readLaw_77 : decode cX9_readLaw 77 = .ok (.ireturn, 1) := by decide +kernel
theorem dX9_readMan_0 : decode cX9_readMan 0 = .ok (.aload_n 0, 1) := by decide +kernel
theorem dX9_readMan_1 : decode cX9_readMan 1 = .ok (.getfield 84, 3) := by decide +kernel
theorem dX9_readMan_4 : decode cX9_readMan 4 = .ok (.aload_n 0, 1) := by decide +kernel
theorem dX9_readMan_5 : decode cX9_readMan 5 = .ok (.getfield 81, 3) := by decide +kernel
theorem dX9_readMan_8 : decode cX9_readMan 8 = .ok (.if_icmp .ge 21, 3) := by decide +kernel
theorem dX9_readMan_11 : decode cX9_readMan 11 = .ok (.aload_n 0, 1) := by decide +kernel
theorem dX9_readMan_12 : decode cX9_readMan 12 = .ok (.getfield 7, 3) := by decide +kernel
theorem dX9_readMan_15 : decode cX9_readMan 15 = .ok (.aload_n 0, 1) := by decide +kernel
theorem dX9_readMan_16 : decode cX9_readMan 16 = .ok (.getfield 84, 3) := by decide +kernel
theorem dX9_readMan_19 : decode cX9_readMan 19 = .ok (.iaload, 1) := by decide +kernel
theorem dX9_readMan_20 : decode cX9_readMan 20 = .ok (.bipush 45, 2) := by decide +kernel
theorem dX9_readMan_22 : decode cX9_readMan 22 = .ok (.if_icmp .ne 7, 3) := by decide +kernel
theorem dX9_readMan_25 : decode cX9_readMan 25 = .ok (.iconst 1, 1) := by decide +kernel
theorem dX9_readMan_26 : decode cX9_readMan 26 = .ok (.goto 4, 3) := by decide +kernel
theorem dX9_readMan_29 : decode cX9_readMan 29 = .ok (.iconst 0, 1) := by decide +kernel
theorem dX9_readMan_30 : decode cX9_readMan 30 = .ok (.istore_n 1, 1) := by decide +kernel
theorem dX9_readMan_31 : decode cX9_readMan 31 = .ok (.aload_n 0, 1) := by decide +kernel
theorem dX9_readMan_32 : decode cX9_readMan 32 = .ok (.dup, 1) := by decide +kernel
theorem dX9_readMan_33 : decode cX9_readMan 33 = .ok (.getfield 84, 3) := by decide +kernel
theorem dX9_readMan_36 : decode cX9_readMan 36 = .ok (.iload_n 1, 1) := by decide +kernel
theorem dX9_readMan_37 : decode cX9_readMan 37 = .ok (.ifCond .eq 7, 3) := by decide +kernel
theorem dX9_readMan_40 : decode cX9_readMan 40 = .ok (.iconst 1, 1) := by decide +kernel
theorem dX9_readMan_41 : decode cX9_readMan 41 = .ok (.goto 4, 3) := by decide +kernel
theorem dX9_readMan_44 : decode cX9_readMan 44 = .ok (.iconst 0, 1) := by decide +kernel
theorem dX9_readMan_45 : decode cX9_readMan 45 = .ok (.iadd, 1) := by decide +kernel
theorem dX9_readMan_46 : decode cX9_readMan 46 = .ok (.putfield 84, 3) := by decide +kernel
theorem dX9_readMan_49 : decode cX9_readMan 49 = .ok (.iload_n 1, 1) := by decide +kernel
theorem dX9_readMan_50 : decode cX9_readMan 50 = .ok (.ifCond .eq 8, 3) := by decide +kernel
theorem dX9_readMan_53 : decode cX9_readMan 53 = .ok (.bipush (-9), 2) := by decide +kernel
theorem dX9_readMan_55 : decode cX9_readMan 55 = .ok (.goto 11, 3) := by decide +kernel
theorem dX9_readMan_58 : decode cX9_readMan 58 = .ok (.aload_n 0, 1) := by decide +kernel
theorem dX9_readMan_59 : decode cX9_readMan 59 = .ok (.aload_n 0, 1) := by decide +kernel
theorem dX9_readMan_60 : decode cX9_readMan 60 = .ok (.invokevirtual 106, 3) := by decide +kernel
theorem dX9_readMan_63 : decode cX9_readMan 63 = .ok (.invokevirtual 110, 3) := by decide +kernel
theorem dX9_readMan_66 : decode cX9_readMan 66 = .ok (.istore_n 2, 1) := by decide +kernel
theorem dX9_readMan_67 : decode cX9_readMan 67 = .ok (.iload_n 1, 1) := by decide +kernel
theorem dX9_readMan_68 : decode cX9_readMan 68 = .ok (.ifCond .ne 11, 3) := by decide +kernel
theorem dX9_readMan_71 : decode cX9_readMan 71 = .ok (.iload_n 2, 1) := by decide +kernel
theorem dX9_readMan_72 : decode cX9_readMan 72 = .ok (.bipush (-9), 2) := by decide +kernel
theorem dX9_readMan_74 : decode cX9_readMan 74 = .ok (.if_icmp .ne 5, 3) := by decide +kernel
theorem dX9_readMan_77 : decode cX9_readMan 77 = .ok (.iconst 0, 1) := by decide +kernel
theorem dX9_readMan_78 : decode cX9_readMan 78 = .ok (.ireturn, 1) := by decide +kernel
theorem dX9_readMan_79 : decode cX9_readMan 79 = .ok (.iload_n 1, 1) := by decide +kernel
theorem dX9_readMan_80 : decode cX9_readMan 80 = .ok (.ifCond .eq 12, 3) := by decide +kernel
theorem dX9_readMan_83 : decode cX9_readMan 83 = .ok (.aload_n 0, 1) := by decide +kernel
theorem dX9_readMan_84 : decode cX9_readMan 84 = .ok (.iconst 0, 1) := by decide +kernel
theorem dX9_readMan_85 : decode cX9_readMan 85 = .ok (.iconst 4, 1) := by decide +kernel
theorem dX9_readMan_86 : decode cX9_readMan 86 = .ok (.invokevirtual 93, 3) := by decide +kernel
theorem dX9_readMan_89 : decode cX9_readMan 89 = .ok (.goto 23, 3) := by decide +kernel
theorem dX9_readMan_92 : decode cX9_readMan 92 = .ok (.aload_n 0, 1) := by decide +kernel
theorem dX9_readMan_93 : decode cX9_readMan 93 = .ok (.aload_n 0, 1) := by decide +kernel
theorem dX9_readMan_94 : decode cX9_readMan 94 = .ok (.getfield 29, 3) := by decide +kernel
theorem dX9_readMan_97 : decode cX9_readMan 97 = .ok (.iconst 4, 1) := by decide +kernel
theorem dX9_readMan_98 : decode cX9_readMan 98 = .ok (.iload_n 2, 1) := by decide +kernel
theorem dX9_readMan_99 : decode cX9_readMan 99 = .ok (.imul, 1) := by decide +kernel
theorem dX9_readMan_100 : decode cX9_readMan 100 = .ok (.iaload, 1) := by decide +kernel
theorem dX9_readMan_101 : decode cX9_readMan 101 = .ok (.aload_n 0, 1) := by decide +kernel
theorem dX9_readMan_102 : decode cX9_readMan 102 = .ok (.getfield 29, 3) := by decide +kernel
theorem dX9_readMan_105 : decode cX9_readMan 105 = .ok (.iconst 4, 1) := by decide +kernel
theorem dX9_readMan_106 : decode cX9_readMan 106 = .ok (.iload_n 2, 1) := by decide +kernel
theorem dX9_readMan_107 : decode cX9_readMan 107 = .ok (.imul, 1) := by decide +kernel
theorem dX9_readMan_108 : decode cX9_readMan 108 = .ok (.iaload, 1) := by decide +kernel
theorem dX9_readMan_109 : decode cX9_readMan 109 = .ok (.invokevirtual 93, 3) := by decide +kernel
theorem dX9_readMan_112 : decode cX9_readMan 112 = .ok (.istore_n 3, 1) := by decide +kernel
theorem dX9_readMan_113 : decode cX9_readMan 113 = .ok (.iload_n 3, 1) := by decide +kernel
theorem dX9_readMan_114 : decode cX9_readMan 114 = .ok (.bipush (-9), 2) := by decide +kernel
theorem dX9_readMan_116 : decode cX9_readMan 116 = .ok (.if_icmp .ne 8, 3) := by decide +kernel
theorem dX9_readMan_119 : decode cX9_readMan 119 = .ok (.bipush (-9), 2) := by decide +kernel
theorem dX9_readMan_121 : decode cX9_readMan 121 = .ok (.goto 9, 3) := by decide +kernel
theorem dX9_readMan_124 : decode cX9_readMan 124 = .ok (.aload_n 0, 1) := by decide +kernel
theorem dX9_readMan_125 : decode cX9_readMan 125 = .ok (.iconst 0, 1) := by decide +kernel
theorem dX9_readMan_126 : decode cX9_readMan 126 = .ok (.iconst 1, 1) := by decide +kernel
theorem dX9_readMan_127 : decode cX9_readMan 127 = .ok (.invokevirtual 93, 3) := by decide +kernel
theorem dX9_readMan_130 : decode cX9_readMan 130 = .ok (.istore 4, 2) := by decide +kernel
theorem dX9_readMan_132 : decode cX9_readMan 132 = .ok (.iload 4, 2) := by decide +kernel
theorem dX9_readMan_134 : decode cX9_readMan 134 = .ok (.bipush (-9), 2) := by decide +kernel
theorem dX9_readMan_136 : decode cX9_readMan 136 = .ok (.if_icmp .ne 5, 3) := by decide +kernel
theorem dX9_readMan_139 : decode cX9_readMan 139 = .ok (.iconst 0, 1) := by decide +kernel
theorem dX9_readMan_140 : decode cX9_readMan 140 = .ok (.ireturn, 1) := by decide +kernel
theorem dX9_readMan_141 : decode cX9_readMan 141 = .ok (.aload_n 0, 1) := by decide +kernel
theorem dX9_readMan_142 : decode cX9_readMan 142 = .ok (.getfield 32, 3) := by decide +kernel
theorem dX9_readMan_145 : decode cX9_readMan 145 = .ok (.iconst 3, 1) := by decide +kernel
theorem dX9_readMan_146 : decode cX9_readMan 146 = .ok (.aload_n 0, 1) := by decide +kernel
theorem dX9_readMan_147 : decode cX9_readMan 147 = .ok (.getfield 103, 3) := by decide +kernel
theorem dX9_readMan_150 : decode cX9_readMan 150 = .ok (.imul, 1) := by decide +kernel
theorem dX9_readMan_151 : decode cX9_readMan 151 = .ok (.iload_n 2, 1) := by decide +kernel
theorem dX9_readMan_152 : decode cX9_readMan 152 = .ok (.iastore, 1) := by decide +kernel
theorem dX9_readMan_153 : decode cX9_readMan 153 = .ok (.aload_n 0, 1) := by decide +kernel
theorem dX9_readMan_154 : decode cX9_readMan 154 = .ok (.getfield 32, 3) := by decide +kernel
theorem dX9_readMan_157 : decode cX9_readMan 157 = .ok (.iconst 3, 1) := by decide +kernel
theorem dX9_readMan_158 : decode cX9_readMan 158 = .ok (.aload_n 0, 1) := by decide +kernel
theorem dX9_readMan_159 : decode cX9_readMan 159 = .ok (.getfield 103, 3) := by decide +kernel
theorem dX9_readMan_162 : decode cX9_readMan 162 = .ok (.imul, 1) := by decide +kernel
theorem dX9_readMan_163 : decode cX9_readMan 163 = .ok (.iconst 1, 1) := by decide +kernel
theorem dX9_readMan_164 : decode cX9_readMan 164 = .ok (.iadd, 1) := by decide +kernel
theorem dX9_readMan_165 : decode cX9_readMan 165 = .ok (.iload_n 3, 1) := by decide +kernel
theorem dX9_readMan_166 : decode cX9_readMan 166 = .ok (.iastore, 1) := by decide +kernel
theorem dX9_readMan_167 : decode cX9_readMan 167 = .ok (.aload_n 0, 1) := by decide +kernel
theorem dX9_readMan_168 : decode cX9_readMan 168 = .ok (.getfield 32, 3) := by decide +kernel
theorem dX9_readMan_171 : decode cX9_readMan 171 = .ok (.iconst 3, 1) := by decide +kernel
theorem dX9_readMan_172 : decode cX9_readMan 172 = .ok (.aload_n 0, 1) := by decide +kernel
theorem dX9_readMan_173 : decode cX9_readMan 173 = .ok (.getfield 103, 3) := by decide +kernel
theorem dX9_readMan_176 : decode cX9_readMan 176 = .ok (.imul, 1) := by decide +kernel
theorem dX9_readMan_177 : decode cX9_readMan 177 = .ok (.iconst 2, 1) := by decide +kernel
theorem dX9_readMan_178 : decode cX9_readMan 178 = .ok (.iadd, 1) := by decide +kernel
theorem dX9_readMan_179 : decode cX9_readMan 179 = .ok (.iload 4, 2) := by decide +kernel
theorem dX9_readMan_181 : decode cX9_readMan 181 = .ok (.iastore, 1) := by decide +kernel
theorem dX9_readMan_182 : decode cX9_readMan 182 = .ok (.aload_n 0, 1) := by decide +kernel
theorem dX9_readMan_183 : decode cX9_readMan 183 = .ok (.dup, 1) := by decide +kernel
theorem dX9_readMan_184 : decode cX9_readMan 184 = .ok (.getfield 103, 3) := by decide +kernel
theorem dX9_readMan_187 : decode cX9_readMan 187 = .ok (.iconst 1, 1) := by decide +kernel
theorem dX9_readMan_188 : decode cX9_readMan 188 = .ok (.iadd, 1) := by decide +kernel
theorem dX9_readMan_189 : decode cX9_readMan 189 = .ok (.putfield 103, 3) := by decide +kernel
theorem dX9_readMan_192 : decode cX9_readMan 192 = .ok (.iconst 1, 1) := by decide +kernel
theorem dX9_readMan_193 : decode cX9_readMan 193 = .ok (.ireturn, 1) := by decide +kernel
theorem dX9_readParent_0 : decode cX9_readParent 0 = .ok (.aload_n 0, 1) := by decide +kernel
theorem dX9_readParent_1 : decode cX9_readParent 1 = .ok (.aload_n 0, 1) := by decide +kernel
theorem dX9_readParent_2 : decode cX9_readParent 2 = .ok (.invokevirtual 120, 3) := by decide +kernel
theorem dX9_readParent_5 : decode cX9_readParent 5 = .ok (.invokevirtual 110, 3) := by decide +kernel
theorem dX9_readParent_8 : decode cX9_readParent 8 = .ok (.istore_n 1, 1) := by decide +kernel
theorem dX9_readParent_9 : decode cX9_readParent 9 = .ok (.iload_n 1, 1) := by decide +kernel
theorem dX9_readParent_10 : decode cX9_readParent 10 = .ok (.bipush (-9), 2) := by decide +kernel
theorem dX9_readParent_12 : decode cX9_readParent 12 = .ok (.if_icmp .ne 8, 3) := by decide +kernel
theorem dX9_readParent_15 : decode cX9_readParent 15 = .ok (.bipush (-9), 2) := by decide +kernel
theorem dX9_readParent_17 : decode cX9_readParent 17 = .ok (.goto 12, 3) := by decide +kernel
theorem dX9_readParent_20 : decode cX9_readParent 20 = .ok (.aload_n 0, 1) := by decide +kernel
theorem dX9_readParent_21 : decode cX9_readParent 21 = .ok (.aload_n 0, 1) := by decide +kernel
theorem dX9_readParent_22 : decode cX9_readParent 22 = .ok (.iload_n 1, 1) := by decide +kernel
theorem dX9_readParent_23 : decode cX9_readParent 23 = .ok (.invokevirtual 117, 3) := by decide +kernel
theorem dX9_readParent_26 : decode cX9_readParent 26 = .ok (.invokevirtual 110, 3) := by decide +kernel
theorem dX9_readParent_29 : decode cX9_readParent 29 = .ok (.istore_n 2, 1) := by decide +kernel
theorem dX9_readParent_30 : decode cX9_readParent 30 = .ok (.iload_n 2, 1) := by decide +kernel
theorem dX9_readParent_31 : decode cX9_readParent 31 = .ok (.bipush (-9), 2) := by decide +kernel
theorem dX9_readParent_33 : decode cX9_readParent 33 = .ok (.if_icmp .ne 5, 3) := by decide +kernel
theorem dX9_readParent_36 : decode cX9_readParent 36 = .ok (.iconst 0, 1) := by decide +kernel
theorem dX9_readParent_37 : decode cX9_readParent 37 = .ok (.ireturn, 1) := by decide +kernel
theorem dX9_readParent_38 : decode cX9_readParent 38 = .ok (.aload_n 0, 1) := by decide +kernel
theorem dX9_readParent_39 : decode cX9_readParent 39 = .ok (.getfield 29, 3) := by decide +kernel
theorem dX9_readParent_42 : decode cX9_readParent 42 = .ok (.iconst 4, 1) := by decide +kernel
theorem dX9_readParent_43 : decode cX9_readParent 43 = .ok (.iload_n 2, 1) := by decide +kernel
theorem dX9_readParent_44 : decode cX9_readParent 44 = .ok (.imul, 1) := by decide +kernel
theorem dX9_readParent_45 : decode cX9_readParent 45 = .ok (.iconst 3, 1) := by decide +kernel
theorem dX9_readParent_46 : decode cX9_readParent 46 = .ok (.iadd, 1) := by decide +kernel
theorem dX9_readParent_47 : decode cX9_readParent 47 = .ok (.iload_n 1, 1) := by decide +kernel
theorem dX9_readParent_48 : decode cX9_readParent 48 = .ok (.iastore, 1) := by decide +kernel
theorem dX9_readParent_49 : decode cX9_readParent 49 = .ok (.iconst 1, 1) := by decide +kernel
theorem dX9_readParent_50 : decode cX9_readParent 50 = .ok (.ireturn, 1) := by decide +kernel
theorem dX9_readPart_0 : decode cX9_readPart 0 = .ok (.aload_n 0, 1) := by decide +kernel
theorem dX9_readPart_1 : decode cX9_readPart 1 = .ok (.getfield 7, 3) := by decide +kernel
theorem dX9_readPart_4 : decode cX9_readPart 4 = .ok (.aload_n 0, 1) := by decide +kernel
theorem dX9_readPart_5 : decode cX9_readPart 5 = .ok (.getfield 84, 3) := by decide +kernel
theorem dX9_readPart_8 : decode cX9_readPart 8 = .ok (.iaload, 1) := by decide +kernel
theorem dX9_readPart_9 : decode cX9_readPart 9 = .ok (.istore_n 1, 1) := by decide +kernel
theorem dX9_readPart_10 : decode cX9_readPart 10 = .ok (.aload_n 0, 1) := by decide +kernel
theorem dX9_readPart_11 : decode cX9_readPart 11 = .ok (.dup, 1) := by decide +kernel
theorem dX9_readPart_12 : decode cX9_readPart 12 = .ok (.getfield 84, 3) := by decide +kernel
theorem dX9_readPart_15 : decode cX9_readPart 15 = .ok (.iconst 1, 1) := by decide +kernel
theorem dX9_readPart_16 : decode cX9_readPart 16 = .ok (.iadd, 1) := by decide +kernel
theorem dX9_readPart_17 : decode cX9_readPart 17 = .ok (.putfield 84, 3) := by decide +kernel
theorem dX9_readPart_20 : decode cX9_readPart 20 = .ok (.iload_n 1, 1) := by decide +kernel
theorem dX9_readPart_21 : decode cX9_readPart 21 = .ok (.bipush 68, 2) := by decide +kernel
theorem dX9_readPart_23 : decode cX9_readPart 23 = .ok (.if_icmp .ne 16, 3) := by decide +kernel
theorem dX9_readPart_26 : decode cX9_readPart 26 = .ok (.aload_n 0, 1) := by decide +kernel
theorem dX9_readPart_27 : decode cX9_readPart 27 = .ok (.getfield 100, 3) := by decide +kernel
theorem dX9_readPart_30 : decode cX9_readPart 30 = .ok (.iconst 4, 1) := by decide +kernel
theorem dX9_readPart_31 : decode cX9_readPart 31 = .ok (.if_icmp .ge 8, 3) := by decide +kernel
theorem dX9_readPart_34 : decode cX9_readPart 34 = .ok (.aload_n 0, 1) := by decide +kernel
theorem dX9_readPart_35 : decode cX9_readPart 35 = .ok (.invokevirtual 123, 3) := by decide +kernel
theorem dX9_readPart_38 : decode cX9_readPart 38 = .ok (.ireturn, 1) := by decide +kernel
theorem dX9_readPart_39 : decode cX9_readPart 39 = .ok (.iload_n 1, 1) := by decide +kernel
theorem dX9_readPart_40 : decode cX9_readPart 40 = .ok (.bipush 77, 2) := by decide +kernel
theorem dX9_readPart_42 : decode cX9_readPart 42 = .ok (.if_icmp .ne 16, 3) := by decide +kernel
theorem dX9_readPart_45 : decode cX9_readPart 45 = .ok (.aload_n 0, 1) := by decide +kernel
theorem dX9_readPart_46 : decode cX9_readPart 46 = .ok (.getfield 103, 3) := by decide +kernel
theorem dX9_readPart_49 : decode cX9_readPart 49 = .ok (.iconst 5, 1) := by decide +kernel
theorem dX9_readPart_50 : decode cX9_readPart 50 = .ok (.if_icmp .ge 8, 3) := by decide +kernel
theorem dX9_readPart_53 : decode cX9_readPart 53 = .ok (.aload_n 0, 1) := by decide +kernel
theorem dX9_readPart_54 : decode cX9_readPart 54 = .ok (.invokevirtual 126, 3) := by decide +kernel
theorem dX9_readPart_57 : decode cX9_readPart 57 = .ok (.ireturn, 1) := by decide +kernel
theorem dX9_readPart_58 : decode cX9_readPart 58 = .ok (.iload_n 1, 1) := by decide +kernel
theorem dX9_readPart_59 : decode cX9_readPart 59 = .ok (.bipush 80, 2) := by decide +kernel
theorem dX9_readPart_61 : decode cX9_readPart 61 = .ok (.if_icmp .ne 15, 3) := by decide +kernel
theorem dX9_readPart_64 : decode cX9_readPart 64 = .ok (.aload_n 0, 1) := by decide +kernel
theorem dX9_readPart_65 : decode cX9_readPart 65 = .ok (.invokevirtual 120, 3) := by decide +kernel
theorem dX9_readPart_68 : decode cX9_readPart 68 = .ok (.ifCond .eq 8, 3) := by decide +kernel
theorem dX9_readPart_71 : decode cX9_readPart 71 = .ok (.aload_n 0, 1) := by decide +kernel
theorem dX9_readPart_72 : decode cX9_readPart 72 = .ok (.invokevirtual 128, 3) := by decide +kernel
theorem dX9_readPart_75 : decode cX9_readPart 75 = .ok (.ireturn, 1) := by decide +kernel
theorem dX9_readPart_76 : decode cX9_readPart 76 = .ok (.aload_n 0, 1) := by decide +kernel
theorem dX9_readPart_77 : decode cX9_readPart 77 = .ok (.dup, 1) := by decide +kernel
theorem dX9_readPart_78 : decode cX9_readPart 78 = .ok (.getfield 84, 3) := by decide +kernel
theorem dX9_readPart_81 : decode cX9_readPart 81 = .ok (.iconst 1, 1) := by decide +kernel
theorem dX9_readPart_82 : decode cX9_readPart 82 = .ok (.isub, 1) := by decide +kernel
theorem dX9_readPart_83 : decode cX9_readPart 83 = .ok (.putfield 84, 3) := by decide +kernel
theorem dX9_readPart_86 : decode cX9_readPart 86 = .ok (.iconst 0, 1) := by decide +kernel
theorem dX9_readPart_87 : decode cX9_readPart 87 = .ok (.ireturn, 1) := by decide +kernel
theorem dX9_rests_0 : decode cX9_rests 0 = .ok (.aload_n 0, 1) := by decide +kernel
theorem dX9_rests_1 : decode cX9_rests 1 = .ok (.iconst 0, 1) := by decide +kernel
theorem dX9_rests_2 : decode cX9_rests 2 = .ok (.putfield 66, 3) := by decide +kernel
theorem dX9_rests_5 : decode cX9_rests 5 = .ok (.iload_n 1, 1) := by decide +kernel
theorem dX9_rests_6 : decode cX9_rests 6 = .ok (.i2l, 1) := by decide +kernel
theorem dX9_rests_7 : decode cX9_rests 7 = .ok (.lconst 0, 1) := by decide +kernel
theorem dX9_rests_8 : decode cX9_rests 8 = .ok (.ldc2_w 224, 3) := by decide +kernel
theorem dX9_rests_11 : decode cX9_rests 11 = .ok (.invokestatic 72, 3) := by decide +kernel
theorem dX9_rests_14 : decode cX9_rests 14 = .ok (.ifCond .eq 13, 3) := by decide +kernel
theorem dX9_rests_17 : decode cX9_rests 17 = .ok (.iload_n 2, 1) := by decide +kernel
theorem dX9_rests_18 : decode cX9_rests 18 = .ok (.i2l, 1) := by decide +kernel
theorem dX9_rests_19 : decode cX9_rests 19 = .ok (.lconst 0, 1) := by decide +kernel
theorem dX9_rests_20 : decode cX9_rests 20 = .ok (.lconst 1, 1) := by decide +kernel
theorem dX9_rests_21 : decode cX9_rests 21 = .ok (.invokestatic 72, 3) := by decide +kernel
theorem dX9_rests_24 : decode cX9_rests 24 = .ok (.ifCond .ne 6, 3) := by decide +kernel
theorem dX9_rests_27 : decode cX9_rests 27 = .ok (.bipush (-2), 2) := by decide +kernel
theorem dX9_rests_29 : decode cX9_rests 29 = .ok (.ireturn, 1) := by decide +kernel
theorem dX9_rests_30 : decode cX9_rests 30 = .ok (.iconst 0, 1) := by decide +kernel
theorem dX9_rests_31 : decode cX9_rests 31 = .ok (.istore_n 3, 1) := by decide +kernel
theorem dX9_rests_32 : decode cX9_rests 32 = .ok (.bipush (-9), 2) := by decide +kernel
theorem dX9_rests_34 : decode cX9_rests 34 = .ok (.istore 4, 2) := by decide +kernel
theorem dX9_rests_36 : decode cX9_rests 36 = .ok (.iconst 0, 1) := by decide +kernel
theorem dX9_rests_37 : decode cX9_rests 37 = .ok (.istore 5, 2) := by decide +kernel
theorem dX9_rests_39 : decode cX9_rests 39 = .ok (.iload 5, 2) := by decide +kernel
theorem dX9_rests_41 : decode cX9_rests 41 = .ok (.iconst 5, 1) := by decide +kernel
theorem dX9_rests_42 : decode cX9_rests 42 = .ok (.if_icmp .ge 166, 3) := by decide +kernel
theorem dX9_rests_45 : decode cX9_rests 45 = .ok (.iconst 0, 1) := by decide +kernel
theorem dX9_rests_46 : decode cX9_rests 46 = .ok (.istore 6, 2) := by decide +kernel
theorem dX9_rests_48 : decode cX9_rests 48 = .ok (.iload 6, 2) := by decide +kernel
theorem dX9_rests_50 : decode cX9_rests 50 = .ok (.iconst 5, 1) := by decide +kernel
theorem dX9_rests_51 : decode cX9_rests 51 = .ok (.if_icmp .ge 151, 3) := by decide +kernel
theorem dX9_rests_54 : decode cX9_rests 54 = .ok (.iload 5, 2) := by decide +kernel
theorem dX9_rests_56 : decode cX9_rests 56 = .ok (.iload 6, 2) := by decide +kernel
theorem dX9_rests_58 : decode cX9_rests 58 = .ok (.if_icmp .ne 12, 3) := by decide +kernel
theorem dX9_rests_61 : decode cX9_rests 61 = .ok (.iload_n 1, 1) := by decide +kernel
theorem dX9_rests_62 : decode cX9_rests 62 = .ok (.iload 6, 2) := by decide +kernel
theorem dX9_rests_64 : decode cX9_rests 64 = .ok (.invokestatic 226, 3) := by decide +kernel
theorem dX9_rests_67 : decode cX9_rests 67 = .ok (.goto 4, 3) := by decide +kernel
theorem dX9_rests_70 : decode cX9_rests 70 = .ok (.iconst 0, 1) := by decide +kernel
theorem dX9_rests_71 : decode cX9_rests 71 = .ok (.istore 7, 2) := by decide +kernel
theorem dX9_rests_73 : decode cX9_rests 73 = .ok (.iload 5, 2) := by decide +kernel
theorem dX9_rests_75 : decode cX9_rests 75 = .ok (.iload 6, 2) := by decide +kernel
theorem dX9_rests_77 : decode cX9_rests 77 = .ok (.if_icmp .ne 7, 3) := by decide +kernel
theorem dX9_rests_80 : decode cX9_rests 80 = .ok (.iconst 0, 1) := by decide +kernel
theorem dX9_rests_81 : decode cX9_rests 81 = .ok (.goto 9, 3) := by decide +kernel
theorem dX9_rests_84 : decode cX9_rests 84 = .ok (.iload_n 1, 1) := by decide +kernel
theorem dX9_rests_85 : decode cX9_rests 85 = .ok (.iload 6, 2) := by decide +kernel
theorem dX9_rests_87 : decode cX9_rests 87 = .ok (.invokestatic 226, 3) := by decide +kernel
theorem dX9_rests_90 : decode cX9_rests 90 = .ok (.istore 8, 2) := by decide +kernel
theorem dX9_rests_92 : decode cX9_rests 92 = .ok (.iload_n 1, 1) := by decide +kernel
theorem dX9_rests_93 : decode cX9_rests 93 = .ok (.iload 6, 2) := by decide +kernel
theorem dX9_rests_95 : decode cX9_rests 95 = .ok (.invokestatic 226, 3) := by decide +kernel
theorem dX9_rests_98 : decode cX9_rests 98 = .ok (.iload 7, 2) := by decide +kernel
theorem dX9_rests_100 : decode cX9_rests 100 = .ok (.if_icmp .gt 7, 3) := by decide +kernel
theorem dX9_rests_103 : decode cX9_rests 103 = .ok (.iconst 1, 1) := by decide +kernel
theorem dX9_rests_104 : decode cX9_rests 104 = .ok (.goto 4, 3) := by decide +kernel
theorem dX9_rests_107 : decode cX9_rests 107 = .ok (.iconst 0, 1) := by decide +kernel
theorem dX9_rests_108 : decode cX9_rests 108 = .ok (.istore 9, 2) := by decide +kernel
theorem dX9_rests_110 : decode cX9_rests 110 = .ok (.iconst 0, 1) := by decide +kernel
theorem dX9_rests_111 : decode cX9_rests 111 = .ok (.istore 10, 2) := by decide +kernel
theorem dX9_rests_113 : decode cX9_rests 113 = .ok (.iload 10, 2) := by decide +kernel
theorem dX9_rests_115 : decode cX9_rests 115 = .ok (.iconst 5, 1) := by decide +kernel
theorem dX9_rests_116 : decode cX9_rests 116 = .ok (.if_icmp .ge 43, 3) := by decide +kernel
theorem dX9_rests_119 : decode cX9_rests 119 = .ok (.iload 9, 2) := by decide +kernel
theorem dX9_rests_121 : decode cX9_rests 121 = .ok (.ifCond .eq 29, 3) := by decide +kernel
theorem dX9_rests_124 : decode cX9_rests 124 = .ok (.iload 10, 2) := by decide +kernel
theorem dX9_rests_126 : decode cX9_rests 126 = .ok (.iload 5, 2) := by decide +kernel
theorem dX9_rests_128 : decode cX9_rests 128 = .ok (.if_icmp .ne 7, 3) := by decide +kernel
theorem dX9_rests_131 : decode cX9_rests 131 = .ok (.iconst 0, 1) := by decide +kernel
theorem dX9_rests_132 : decode cX9_rests 132 = .ok (.goto 9, 3) := by decide +kernel
theorem dX9_rests_135 : decode cX9_rests 135 = .ok (.iload_n 1, 1) := by decide +kernel
theorem dX9_rests_136 : decode cX9_rests 136 = .ok (.iload 10, 2) := by decide +kernel
theorem dX9_rests_138 : decode cX9_rests 138 = .ok (.invokestatic 226, 3) := by decide +kernel
theorem dX9_rests_141 : decode cX9_rests 141 = .ok (.iload 8, 2) := by decide +kernel
theorem dX9_rests_143 : decode cX9_rests 143 = .ok (.if_icmp .gt 7, 3) := by decide +kernel
theorem dX9_rests_146 : decode cX9_rests 146 = .ok (.iconst 1, 1) := by decide +kernel
theorem dX9_rests_147 : decode cX9_rests 147 = .ok (.goto 4, 3) := by decide +kernel
theorem dX9_rests_150 : decode cX9_rests 150 = .ok (.iconst 0, 1) := by decide +kernel
theorem dX9_rests_151 : decode cX9_rests 151 = .ok (.istore 9, 2) := by decide +kernel
theorem dX9_rests_153 : decode cX9_rests 153 = .ok (.iinc 10 1, 3) := by decide +kernel
theorem dX9_rests_156 : decode cX9_rests 156 = .ok (.goto (-43), 3) := by decide +kernel
theorem dX9_rests_159 : decode cX9_rests 159 = .ok (.iload 9, 2) := by decide +kernel
theorem dX9_rests_161 : decode cX9_rests 161 = .ok (.ifCond .eq 18, 3) := by decide +kernel
theorem dX9_rests_164 : decode cX9_rests 164 = .ok (.iload_n 3, 1) := by decide +kernel
theorem dX9_rests_165 : decode cX9_rests 165 = .ok (.ifCond .ne 14, 3) := by decide +kernel
theorem dX9_rests_168 : decode cX9_rests 168 = .ok (.bipush 10, 2) := by decide +kernel
theorem dX9_rests_170 : decode cX9_rests 170 = .ok (.iload 5, 2) := by decide +kernel
theorem dX9_rests_172 : decode cX9_rests 172 = .ok (.imul, 1) := by decide +kernel
theorem dX9_rests_173 : decode cX9_rests 173 = .ok (.iload 6, 2) := by decide +kernel
theorem dX9_rests_175 : decode cX9_rests 175 = .ok (.iadd, 1) := by decide +kernel
theorem dX9_rests_176 : decode cX9_rests 176 = .ok (.goto 5, 3) := by decide +kernel
theorem dX9_rests_179 : decode cX9_rests 179 = .ok (.iload 4, 2) := by decide +kernel
theorem dX9_rests_181 : decode cX9_rests 181 = .ok (.istore 4, 2) := by decide +kernel
theorem dX9_rests_183 : decode cX9_rests 183 = .ok (.iload_n 3, 1) := by decide +kernel
theorem dX9_rests_184 : decode cX9_rests 184 = .ok (.iload 9, 2) := by decide +kernel
theorem dX9_rests_186 : decode cX9_rests 186 = .ok (.ifCond .eq 7, 3) := by decide +kernel
theorem dX9_rests_189 : decode cX9_rests 189 = .ok (.iconst 1, 1) := by decide +kernel
theorem dX9_rests_190 : decode cX9_rests 190 = .ok (.goto 4, 3) := by decide +kernel
theorem dX9_rests_193 : decode cX9_rests 193 = .ok (.iconst 0, 1) := by decide +kernel
theorem dX9_rests_194 : decode cX9_rests 194 = .ok (.iadd, 1) := by decide +kernel
theorem dX9_rests_195 : decode cX9_rests 195 = .ok (.istore_n 3, 1) := by decide +kernel
theorem dX9_rests_196 : decode cX9_rests 196 = .ok (.iinc 6 1, 3) := by decide +kernel
theorem dX9_rests_199 : decode cX9_rests 199 = .ok (.goto (-151), 3) := by decide +kernel
theorem dX9_rests_202 : decode cX9_rests 202 = .ok (.iinc 5 1, 3) := by decide +kernel
theorem dX9_rests_205 : decode cX9_rests 205 = .ok (.goto (-166), 3) := by decide +kernel
theorem dX9_rests_208 : decode cX9_rests 208 = .ok (.iload_n 2, 1) := by decide +kernel
theorem dX9_rests_209 : decode cX9_rests 209 = .ok (.ifCond .ne 7, 3) := by decide +kernel
theorem dX9_rests_212 : decode cX9_rests 212 = .ok (.iload_n 3, 1) := by decide +kernel
theorem dX9_rests_213 : decode cX9_rests 213 = .ok (.goto 5, 3) := by decide +kernel
theorem dX9_rests_216 : decode cX9_rests 216 = .ok (.iload 4, 2) := by decide +kernel
theorem dX9_rests_218 : decode cX9_rests 218 = .ok (.ireturn, 1) := by decide +kernel
theorem dX9_rooms_0 : decode cX9_rooms 0 = .ok (.iconst 0, 1) := by decide +kernel
theorem dX9_rooms_1 : decode cX9_rooms 1 = .ok (.istore_n 1, 1) := by decide +kernel
theorem dX9_rooms_2 : decode cX9_rooms 2 = .ok (.iconst 0, 1) := by decide +kernel
theorem dX9_rooms_3 : decode cX9_rooms 3 = .ok (.istore_n 2, 1) := by decide +kernel
theorem dX9_rooms_4 : decode cX9_rooms 4 = .ok (.iload_n 2, 1) := by decide +kernel
theorem dX9_rooms_5 : decode cX9_rooms 5 = .ok (.aload_n 0, 1) := by decide +kernel
theorem dX9_rooms_6 : decode cX9_rooms 6 = .ok (.getfield 100, 3) := by decide +kernel
theorem dX9_rooms_9 : decode cX9_rooms 9 = .ok (.if_icmp .ge 74, 3) := by decide +kernel
theorem dX9_rooms_12 : decode cX9_rooms 12 = .ok (.iconst 0, 1) := by decide +kernel
theorem dX9_rooms_13 : decode cX9_rooms 13 = .ok (.istore_n 3, 1) := by decide +kernel
theorem dX9_rooms_14 : decode cX9_rooms 14 = .ok (.iconst 0, 1) := by decide +kernel
theorem dX9_rooms_15 : decode cX9_rooms 15 = .ok (.istore 4, 2) := by decide +kernel
theorem dX9_rooms_17 : decode cX9_rooms 17 = .ok (.iload 4, 2) := by decide +kernel
theorem dX9_rooms_19 : decode cX9_rooms 19 = .ok (.aload_n 0, 1) := by decide +kernel
theorem dX9_rooms_20 : decode cX9_rooms 20 = .ok (.getfield 103, 3) := by decide +kernel
theorem dX9_rooms_23 : decode cX9_rooms 23 = .ok (.if_icmp .ge 30, 3) := by decide +kernel
theorem dX9_rooms_26 : decode cX9_rooms 26 = .ok (.iload_n 3, 1) := by decide +kernel
theorem dX9_rooms_27 : decode cX9_rooms 27 = .ok (.aload_n 0, 1) := by decide +kernel
theorem dX9_rooms_28 : decode cX9_rooms 28 = .ok (.getfield 32, 3) := by decide +kernel
theorem dX9_rooms_31 : decode cX9_rooms 31 = .ok (.iconst 3, 1) := by decide +kernel
theorem dX9_rooms_32 : decode cX9_rooms 32 = .ok (.iload 4, 2) := by decide +kernel
theorem dX9_rooms_34 : decode cX9_rooms 34 = .ok (.imul, 1) := by decide +kernel
theorem dX9_rooms_35 : decode cX9_rooms 35 = .ok (.iaload, 1) := by decide +kernel
theorem dX9_rooms_36 : decode cX9_rooms 36 = .ok (.iload_n 2, 1) := by decide +kernel
theorem dX9_rooms_37 : decode cX9_rooms 37 = .ok (.if_icmp .ne 7, 3) := by decide +kernel
theorem dX9_rooms_40 : decode cX9_rooms 40 = .ok (.iconst 1, 1) := by decide +kernel
theorem dX9_rooms_41 : decode cX9_rooms 41 = .ok (.goto 4, 3) := by decide +kernel
theorem dX9_rooms_44 : decode cX9_rooms 44 = .ok (.iconst 0, 1) := by decide +kernel
theorem dX9_rooms_45 : decode cX9_rooms 45 = .ok (.iadd, 1) := by decide +kernel
theorem dX9_rooms_46 : decode cX9_rooms 46 = .ok (.istore_n 3, 1) := by decide +kernel
theorem dX9_rooms_47 : decode cX9_rooms 47 = .ok (.iinc 4 1, 3) := by decide +kernel
theorem dX9_rooms_50 : decode cX9_rooms 50 = .ok (.goto (-33), 3) := by decide +kernel
theorem dX9_rooms_53 : decode cX9_rooms 53 = .ok (.iload_n 1, 1) := by decide +kernel
theorem dX9_rooms_54 : decode cX9_rooms 54 = .ok (.iload_n 3, 1) := by decide +kernel
theorem dX9_rooms_55 : decode cX9_rooms 55 = .ok (.aload_n 0, 1) := by decide +kernel
theorem dX9_rooms_56 : decode cX9_rooms 56 = .ok (.getfield 29, 3) := by decide +kernel
theorem dX9_rooms_59 : decode cX9_rooms 59 = .ok (.iconst 4, 1) := by decide +kernel
theorem dX9_rooms_60 : decode cX9_rooms 60 = .ok (.iload_n 2, 1) := by decide +kernel
theorem dX9_rooms_61 : decode cX9_rooms 61 = .ok (.imul, 1) := by decide +kernel
theorem dX9_rooms_62 : decode cX9_rooms 62 = .ok (.iconst 2, 1) := by decide +kernel
theorem dX9_rooms_63 : decode cX9_rooms 63 = .ok (.iadd, 1) := by decide +kernel
theorem dX9_rooms_64 : decode cX9_rooms 64 = .ok (.iaload, 1) := by decide +kernel
theorem dX9_rooms_65 : decode cX9_rooms 65 = .ok (.if_icmp .ge 9, 3) := by decide +kernel
theorem dX9_rooms_68 : decode cX9_rooms 68 = .ok (.iconst 1, 1) := by decide +kernel
theorem dX9_rooms_69 : decode cX9_rooms 69 = .ok (.iload_n 2, 1) := by decide +kernel
theorem dX9_rooms_70 : decode cX9_rooms 70 = .ok (.ishl, 1) := by decide +kernel
theorem dX9_rooms_71 : decode cX9_rooms 71 = .ok (.goto 4, 3) := by decide +kernel
theorem dX9_rooms_74 : decode cX9_rooms 74 = .ok (.iconst 0, 1) := by decide +kernel
theorem dX9_rooms_75 : decode cX9_rooms 75 = .ok (.ior, 1) := by decide +kernel
theorem dX9_rooms_76 : decode cX9_rooms 76 = .ok (.istore_n 1, 1) := by decide +kernel
theorem dX9_rooms_77 : decode cX9_rooms 77 = .ok (.iinc 2 1, 3) := by decide +kernel
theorem dX9_rooms_80 : decode cX9_rooms 80 = .ok (.goto (-76), 3) := by decide +kernel
theorem dX9_rooms_83 : decode cX9_rooms 83 = .ok (.iload_n 1, 1) := by decide +kernel
theorem dX9_rooms_84 : decode cX9_rooms 84 = .ok (.ireturn, 1) := by decide +kernel
theorem dX9_routes_0 : decode cX9_routes 0 = .ok (.aload_n 0, 1) := by decide +kernel
theorem dX9_routes_1 : decode cX9_routes 1 = .ok (.iconst 0, 1) := by decide +kernel
theorem dX9_routes_2 : decode cX9_routes 2 = .ok (.putfield 66, 3) := by decide +kernel
theorem dX9_routes_5 : decode cX9_routes 5 = .ok (.aload_n 0, 1) := by decide +kernel
theorem dX9_routes_6 : decode cX9_routes 6 = .ok (.iload_n 1, 1) := by decide +kernel
theorem dX9_routes_7 : decode cX9_routes 7 = .ok (.invokevirtual 153, 3) := by decide +kernel
theorem dX9_routes_10 : decode cX9_routes 10 = .ok (.ifCond .eq 5, 3) := by decide +kernel
theorem dX9_routes_13 : decode cX9_routes 13 = .ok (.iconst (-1), 1) := by decide +kernel
theorem dX9_routes_14 : decode cX9_routes 14 = .ok (.ireturn, 1) := by decide +kernel
theorem dX9_routes_15 : decode cX9_routes 15 = .ok (.iload_n 2, 1) := by decide +kernel
theorem dX9_routes_16 : decode cX9_routes 16 = .ok (.i2l, 1) := by decide +kernel
theorem dX9_routes_17 : decode cX9_routes 17 = .ok (.lconst 1, 1) := by decide +kernel
theorem dX9_routes_18 : decode cX9_routes 18 = .ok (.ldc2_w 191, 3) := by decide +kernel
theorem dX9_routes_21 : decode cX9_routes 21 = .ok (.invokestatic 72, 3) := by decide +kernel
theorem dX9_routes_24 : decode cX9_routes 24 = .ok (.ifCond .eq 26, 3) := by decide +kernel
theorem dX9_routes_27 : decode cX9_routes 27 = .ok (.iload_n 3, 1) := by decide +kernel
theorem dX9_routes_28 : decode cX9_routes 28 = .ok (.i2l, 1) := by decide +kernel
theorem dX9_routes_29 : decode cX9_routes 29 = .ok (.lconst 0, 1) := by decide +kernel
theorem dX9_routes_30 : decode cX9_routes 30 = .ok (.ldc2_w 193, 3) := by decide +kernel
theorem dX9_routes_33 : decode cX9_routes 33 = .ok (.invokestatic 72, 3) := by decide +kernel
theorem dX9_routes_36 : decode cX9_routes 36 = .ok (.ifCond .eq 14, 3) := by decide +kernel
theorem dX9_routes_39 : decode cX9_routes 39 = .ok (.iload 4, 2) := by decide +kernel
theorem dX9_routes_41 : decode cX9_routes 41 = .ok (.i2l, 1) := by decide +kernel
theorem dX9_routes_42 : decode cX9_routes 42 = .ok (.lconst 0, 1) := by decide +kernel
theorem dX9_routes_43 : decode cX9_routes 43 = .ok (.lconst 1, 1) := by decide +kernel
theorem dX9_routes_44 : decode cX9_routes 44 = .ok (.invokestatic 72, 3) := by decide +kernel
theorem dX9_routes_47 : decode cX9_routes 47 = .ok (.ifCond .ne 6, 3) := by decide +kernel
theorem dX9_routes_50 : decode cX9_routes 50 = .ok (.bipush (-2), 2) := by decide +kernel
theorem dX9_routes_52 : decode cX9_routes 52 = .ok (.ireturn, 1) := by decide +kernel
theorem dX9_routes_53 : decode cX9_routes 53 = .ok (.iconst 0, 1) := by decide +kernel
theorem dX9_routes_54 : decode cX9_routes 54 = .ok (.istore 5, 2) := by decide +kernel
theorem dX9_routes_56 : decode cX9_routes 56 = .ok (.aload_n 0, 1) := by decide +kernel
theorem dX9_routes_57 : decode cX9_routes 57 = .ok (.bipush (-9), 2) := by decide +kernel
theorem dX9_routes_59 : decode cX9_routes 59 = .ok (.putfield 195, 3) := by decide +kernel
theorem dX9_routes_62 : decode cX9_routes 62 = .ok (.iconst 0, 1) := by decide +kernel
theorem dX9_routes_63 : decode cX9_routes 63 = .ok (.istore 6, 2) := by decide +kernel
theorem dX9_routes_65 : decode cX9_routes 65 = .ok (.iload 6, 2) := by decide +kernel
theorem dX9_routes_67 : decode cX9_routes 67 = .ok (.iconst 3, 1) := by decide +kernel
theorem dX9_routes_68 : decode cX9_routes 68 = .ok (.iload_n 2, 1) := by decide +kernel
theorem dX9_routes_69 : decode cX9_routes 69 = .ok (.invokestatic 188, 3) := by decide +kernel
theorem dX9_routes_72 : decode cX9_routes 72 = .ok (.if_icmp .ge 90, 3) := by decide +kernel
theorem dX9_routes_75 : decode cX9_routes 75 = .ok (.aload_n 0, 1) := by decide +kernel
theorem dX9_routes_76 : decode cX9_routes 76 = .ok (.iload_n 1, 1) := by decide +kernel
theorem dX9_routes_77 : decode cX9_routes 77 = .ok (.iload_n 2, 1) := by decide +kernel
theorem dX9_routes_78 : decode cX9_routes 78 = .ok (.iload 6, 2) := by decide +kernel
theorem dX9_routes_80 : decode cX9_routes 80 = .ok (.iconst 0, 1) := by decide +kernel
theorem dX9_routes_81 : decode cX9_routes 81 = .ok (.invokevirtual 198, 3) := by decide +kernel
theorem dX9_routes_84 : decode cX9_routes 84 = .ok (.ifCond .eq 72, 3) := by decide +kernel
theorem dX9_routes_87 : decode cX9_routes 87 = .ok (.aload_n 0, 1) := by decide +kernel
theorem dX9_routes_88 : decode cX9_routes 88 = .ok (.getfield 38, 3) := by decide +kernel
theorem dX9_routes_91 : decode cX9_routes 91 = .ok (.iload_n 1, 1) := by decide +kernel
theorem dX9_routes_92 : decode cX9_routes 92 = .ok (.iaload, 1) := by decide +kernel
theorem dX9_routes_93 : decode cX9_routes 93 = .ok (.iload_n 3, 1) := by decide +kernel
theorem dX9_routes_94 : decode cX9_routes 94 = .ok (.if_icmp .ne 62, 3) := by decide +kernel
theorem dX9_routes_97 : decode cX9_routes 97 = .ok (.iconst 0, 1) := by decide +kernel
theorem dX9_routes_98 : decode cX9_routes 98 = .ok (.istore 7, 2) := by decide +kernel
theorem dX9_routes_100 : decode cX9_routes 100 = .ok (.iload_n 2, 1) := by decide +kernel
theorem dX9_routes_101 : decode cX9_routes 101 = .ok (.iconst 1, 1) := by decide +kernel
theorem dX9_routes_102 : decode cX9_routes 102 = .ok (.isub, 1) := by decide +kernel
theorem dX9_routes_103 : decode cX9_routes 103 = .ok (.istore 8, 2) := by decide +kernel
theorem dX9_routes_105 : decode cX9_routes 105 = .ok (.iload 8, 2) := by decide +kernel
theorem dX9_routes_107 : decode cX9_routes 107 = .ok (.ifCond .lt 28, 3) := by decide +kernel
theorem dX9_routes_110 : decode cX9_routes 110 = .ok (.bipush 10, 2) := by decide +kernel
theorem dX9_routes_112 : decode cX9_routes 112 = .ok (.iload 7, 2) := by decide +kernel
theorem dX9_routes_114 : decode cX9_routes 114 = .ok (.imul, 1) := by decide +kernel
theorem dX9_routes_115 : decode cX9_routes 115 = .ok (.iload 6, 2) := by decide +kernel
theorem dX9_routes_117 : decode cX9_routes 117 = .ok (.iconst 3, 1) := by decide +kernel
theorem dX9_routes_118 : decode cX9_routes 118 = .ok (.iload 8, 2) := by decide +kernel
theorem dX9_routes_120 : decode cX9_routes 120 = .ok (.invokestatic 188, 3) := by decide +kernel
theorem dX9_routes_123 : decode cX9_routes 123 = .ok (.idiv, 1) := by decide +kernel
theorem dX9_routes_124 : decode cX9_routes 124 = .ok (.iconst 3, 1) := by decide +kernel
theorem dX9_routes_125 : decode cX9_routes 125 = .ok (.irem, 1) := by decide +kernel
theorem dX9_routes_126 : decode cX9_routes 126 = .ok (.iadd, 1) := by decide +kernel
theorem dX9_routes_127 : decode cX9_routes 127 = .ok (.istore 7, 2) := by decide +kernel
theorem dX9_routes_129 : decode cX9_routes 129 = .ok (.iinc 8 (-1), 3) := by decide +kernel
theorem dX9_routes_132 : decode cX9_routes 132 = .ok (.goto (-27), 3) := by decide +kernel
theorem dX9_routes_135 : decode cX9_routes 135 = .ok (.aload_n 0, 1) := by decide +kernel
theorem dX9_routes_136 : decode cX9_routes 136 = .ok (.iload 5, 2) := by decide +kernel
theorem dX9_routes_138 : decode cX9_routes 138 = .ok (.ifCond .ne 8, 3) := by decide +kernel
theorem dX9_routes_141 : decode cX9_routes 141 = .ok (.iload 7, 2) := by decide +kernel
theorem dX9_routes_143 : decode cX9_routes 143 = .ok (.goto 7, 3) := by decide +kernel
theorem dX9_routes_146 : decode cX9_routes 146 = .ok (.aload_n 0, 1) := by decide +kernel
theorem dX9_routes_147 : decode cX9_routes 147 = .ok (.getfield 195, 3) := by decide +kernel
theorem dX9_routes_150 : decode cX9_routes 150 = .ok (.putfield 195, 3) := by decide +kernel
theorem dX9_routes_153 : decode cX9_routes 153 = .ok (.iinc 5 1, 3) := by decide +kernel
theorem dX9_routes_156 : decode cX9_routes 156 = .ok (.iinc 6 1, 3) := by decide +kernel
theorem dX9_routes_159 : decode cX9_routes 159 = .ok (.goto (-94), 3) := by decide +kernel
theorem dX9_routes_162 : decode cX9_routes 162 = .ok (.iload 4, 2) := by decide +kernel
theorem dX9_routes_164 : decode cX9_routes 164 = .ok (.ifCond .ne 8, 3) := by decide +kernel
theorem dX9_routes_167 : decode cX9_routes 167 = .ok (.iload 5, 2) := by decide +kernel
theorem dX9_routes_169 : decode cX9_routes 169 = .ok (.goto 7, 3) := by decide +kernel
theorem dX9_routes_172 : decode cX9_routes 172 = .ok (.aload_n 0, 1) := by decide +kernel
theorem dX9_routes_173 : decode cX9_routes 173 = .ok (.getfield 195, 3) := by decide +kernel
theorem dX9_routes_176 : decode cX9_routes 176 = .ok (.ireturn, 1) := by decide +kernel
theorem dX9_see_0 : decode cX9_see 0 = .ok (.aload_n 0, 1) := by decide +kernel
theorem dX9_see_1 : decode cX9_see 1 = .ok (.iconst 0, 1) := by decide +kernel
theorem dX9_see_2 : decode cX9_see 2 = .ok (.putfield 66, 3) := by decide +kernel
theorem dX9_see_5 : decode cX9_see 5 = .ok (.aload_n 0, 1) := by decide +kernel
theorem dX9_see_6 : decode cX9_see 6 = .ok (.iload_n 1, 1) := by decide +kernel
theorem dX9_see_7 : decode cX9_see 7 = .ok (.invokevirtual 161, 3) := by decide +kernel
theorem dX9_see_10 : decode cX9_see 10 = .ok (.ifCond .eq 5, 3) := by decide +kernel
theorem dX9_see_13 : decode cX9_see 13 = .ok (.iconst (-1), 1) := by decide +kernel
theorem dX9_see_14 : decode cX9_see 14 = .ok (.ireturn, 1) := by decide +kernel
theorem dX9_see_15 : decode cX9_see 15 = .ok (.iload_n 2, 1) := by decide +kernel
theorem dX9_see_16 : decode cX9_see 16 = .ok (.i2l, 1) := by decide +kernel
theorem dX9_see_17 : decode cX9_see 17 = .ok (.lconst 0, 1) := by decide +kernel
theorem dX9_see_18 : decode cX9_see 18 = .ok (.ldc2_w 193, 3) := by decide +kernel
theorem dX9_see_21 : decode cX9_see 21 = .ok (.invokestatic 72, 3) := by decide +kernel
theorem dX9_see_24 : decode cX9_see 24 = .ok (.ifCond .eq 15, 3) := by decide +kernel
theorem dX9_see_27 : decode cX9_see 27 = .ok (.iload_n 3, 1) := by decide +kernel
theorem dX9_see_28 : decode cX9_see 28 = .ok (.i2l, 1) := by decide +kernel
theorem dX9_see_29 : decode cX9_see 29 = .ok (.lconst 0, 1) := by decide +kernel
theorem dX9_see_30 : decode cX9_see 30 = .ok (.ldc2_w 210, 3) := by decide +kernel
theorem dX9_see_33 : decode cX9_see 33 = .ok (.invokestatic 72, 3) := by decide +kernel
theorem dX9_see_36 : decode cX9_see 36 = .ok (.ifCond .ne 6, 3) := by decide +kernel
theorem dX9_see_39 : decode cX9_see 39 = .ok (.bipush (-2), 2) := by decide +kernel
theorem dX9_see_41 : decode cX9_see 41 = .ok (.ireturn, 1) := by decide +kernel
theorem dX9_see_42 : decode cX9_see 42 = .ok (.aload_n 0, 1) := by decide +kernel
theorem dX9_see_43 : decode cX9_see 43 = .ok (.getfield 150, 3) := by decide +kernel
theorem dX9_see_46 : decode cX9_see 46 = .ok (.bipush 6, 2) := by decide +kernel
theorem dX9_see_48 : decode cX9_see 48 = .ok (.if_icmp .ne 6, 3) := by decide +kernel
theorem dX9_see_51 : decode cX9_see 51 = .ok (.bipush (-4), 2) := by decide +kernel
theorem dX9_see_53 : decode cX9_see 53 = .ok (.ireturn, 1) := by decide +kernel
theorem dX9_see_54 : decode cX9_see 54 = .ok (.aload_n 0, 1) := by decide +kernel
theorem dX9_see_55 : decode cX9_see 55 = .ok (.getfield 51, 3) := by decide +kernel
theorem dX9_see_58 : decode cX9_see 58 = .ok (.aload_n 0, 1) := by decide +kernel
theorem dX9_see_59 : decode cX9_see 59 = .ok (.getfield 150, 3) := by decide +kernel
theorem dX9_see_62 : decode cX9_see 62 = .ok (.iload_n 1, 1) := by decide +kernel
theorem dX9_see_63 : decode cX9_see 63 = .ok (.iastore, 1) := by decide +kernel
theorem dX9_see_64 : decode cX9_see 64 = .ok (.aload_n 0, 1) := by decide +kernel
theorem dX9_see_65 : decode cX9_see 65 = .ok (.getfield 54, 3) := by decide +kernel
theorem dX9_see_68 : decode cX9_see 68 = .ok (.aload_n 0, 1) := by decide +kernel
theorem dX9_see_69 : decode cX9_see 69 = .ok (.getfield 150, 3) := by decide +kernel
theorem dX9_see_72 : decode cX9_see 72 = .ok (.iload_n 2, 1) := by decide +kernel
theorem dX9_see_73 : decode cX9_see 73 = .ok (.iastore, 1) := by decide +kernel
theorem dX9_see_74 : decode cX9_see 74 = .ok (.aload_n 0, 1) := by decide +kernel
theorem dX9_see_75 : decode cX9_see 75 = .ok (.getfield 57, 3) := by decide +kernel
theorem dX9_see_78 : decode cX9_see 78 = .ok (.aload_n 0, 1) := by decide +kernel
theorem dX9_see_79 : decode cX9_see 79 = .ok (.getfield 150, 3) := by decide +kernel
theorem dX9_see_82 : decode cX9_see 82 = .ok (.iload_n 3, 1) := by decide +kernel
theorem dX9_see_83 : decode cX9_see 83 = .ok (.iastore, 1) := by decide +kernel
theorem dX9_see_84 : decode cX9_see 84 = .ok (.aload_n 0, 1) := by decide +kernel
theorem dX9_see_85 : decode cX9_see 85 = .ok (.dup, 1) := by decide +kernel
theorem dX9_see_86 : decode cX9_see 86 = .ok (.getfield 150, 3) := by decide +kernel
theorem dX9_see_89 : decode cX9_see 89 = .ok (.iconst 1, 1) := by decide +kernel
theorem dX9_see_90 : decode cX9_see 90 = .ok (.iadd, 1) := by decide +kernel
theorem dX9_see_91 : decode cX9_see 91 = .ok (.putfield 150, 3) := by decide +kernel
theorem dX9_see_94 : decode cX9_see 94 = .ok (.aload_n 0, 1) := by decide +kernel
theorem dX9_see_95 : decode cX9_see 95 = .ok (.getfield 150, 3) := by decide +kernel
theorem dX9_see_98 : decode cX9_see 98 = .ok (.ireturn, 1) := by decide +kernel
theorem dX9_seed_0 : decode cX9_seed 0 = .ok (.aload_n 0, 1) := by decide +kernel
theorem dX9_seed_1 : decode cX9_seed 1 = .ok (.iconst 0, 1) := by decide +kernel
theorem dX9_seed_2 : decode cX9_seed 2 = .ok (.putfield 66, 3) := by decide +kernel
theorem dX9_seed_5 : decode cX9_seed 5 = .ok (.aload_n 0, 1) := by decide +kernel
theorem dX9_seed_6 : decode cX9_seed 6 = .ok (.getfield 229, 3) := by decide +kernel
theorem dX9_seed_9 : decode cX9_seed 9 = .ok (.lstore_n 3, 1) := by decide +kernel
theorem dX9_seed_10 : decode cX9_seed 10 = .ok (.aload_n 0, 1) := by decide +kernel
theorem dX9_seed_11 : decode cX9_seed 11 = .ok (.lload_n 1, 1) := by decide +kernel
theorem dX9_seed_12 : decode cX9_seed 12 = .ok (.putfield 229, 3) := by decide +kernel
theorem dX9_seed_15 : decode cX9_seed 15 = .ok (.lload_n 3, 1) := by decide +kernel
theorem dX9_seed_16 : decode cX9_seed 16 = .ok (.lreturn, 1) := by decide +kernel
theorem dX9_spans_0 : decode cX9_spans 0 = .ok (.aload_n 0, 1) := by decide +kernel
theorem dX9_spans_1 : decode cX9_spans 1 = .ok (.iconst 0, 1) := by decide +kernel
theorem dX9_spans_2 : decode cX9_spans 2 = .ok (.putfield 66, 3) := by decide +kernel
theorem dX9_spans_5 : decode cX9_spans 5 = .ok (.iload_n 1, 1) := by decide +kernel
theorem dX9_spans_6 : decode cX9_spans 6 = .ok (.i2l, 1) := by decide +kernel
theorem dX9_spans_7 : decode cX9_spans 7 = .ok (.lconst 1, 1) := by decide +kernel
theorem dX9_spans_8 : decode cX9_spans 8 = .ok (.ldc2_w 87, 3) := by decide +kernel
theorem dX9_spans_11 : decode cX9_spans 11 = .ok (.invokestatic 72, 3) := by decide +kernel
theorem dX9_spans_14 : decode cX9_spans 14 = .ok (.ifCond .eq 27, 3) := by decide +kernel
theorem dX9_spans_17 : decode cX9_spans 17 = .ok (.iload_n 2, 1) := by decide +kernel
theorem dX9_spans_18 : decode cX9_spans 18 = .ok (.i2l, 1) := by decide +kernel
theorem dX9_spans_19 : decode cX9_spans 19 = .ok (.lconst 1, 1) := by decide +kernel
theorem dX9_spans_20 : decode cX9_spans 20 = .ok (.ldc2_w 87, 3) := by decide +kernel
theorem dX9_spans_23 : decode cX9_spans 23 = .ok (.invokestatic 72, 3) := by decide +kernel
theorem dX9_spans_26 : decode cX9_spans 26 = .ok (.ifCond .eq 15, 3) := by decide +kernel
theorem dX9_spans_29 : decode cX9_spans 29 = .ok (.iload_n 3, 1) := by decide +kernel
theorem dX9_spans_30 : decode cX9_spans 30 = .ok (.i2l, 1) := by decide +kernel
theorem dX9_spans_31 : decode cX9_spans 31 = .ok (.lconst 0, 1) := by decide +kernel
theorem dX9_spans_32 : decode cX9_spans 32 = .ok (.ldc2_w 208, 3) := by decide +kernel
theorem dX9_spans_35 : decode cX9_spans 35 = .ok (.invokestatic 72, 3) := by decide +kernel
theorem dX9_spans_38 : decode cX9_spans 38 = .ok (.ifCond .ne 6, 3) := by decide +kernel
theorem dX9_spans_41 : decode cX9_spans 41 = .ok (.bipush (-2), 2) := by decide +kernel
theorem dX9_spans_43 : decode cX9_spans 43 = .ok (.ireturn, 1) := by decide +kernel
theorem dX9_spans_44 : decode cX9_spans 44 = .ok (.iload_n 1, 1) := by decide +kernel
theorem dX9_spans_45 : decode cX9_spans 45 = .ok (.iload_n 3, 1) := by decide +kernel
theorem dX9_spans_46 : decode cX9_spans 46 = .ok (.iconst 1, 1) := by decide +kernel
theorem dX9_spans_47 : decode cX9_spans 47 = .ok (.iadd, 1) := by decide +kernel
theorem dX9_spans_48 : decode cX9_spans 48 = .ok (.imul, 1) := by decide +kernel
theorem dX9_spans_49 : decode cX9_spans 49 = .ok (.iload_n 1, 1) := by decide +kernel
theorem dX9_spans_50 : decode cX9_spans 50 = .ok (.iload_n 2, 1) := by decide +kernel
theorem dX9_spans_51 : decode cX9_spans 51 = .ok (.iadd, 1) := by decide +kernel
theorem dX9_spans_52 : decode cX9_spans 52 = .ok (.idiv, 1) := by decide +kernel
theorem dX9_spans_53 : decode cX9_spans 53 = .ok (.iload_n 1, 1) := by decide +kernel
theorem dX9_spans_54 : decode cX9_spans 54 = .ok (.iload_n 3, 1) := by decide +kernel
theorem dX9_spans_55 : decode cX9_spans 55 = .ok (.imul, 1) := by decide +kernel
theorem dX9_spans_56 : decode cX9_spans 56 = .ok (.iload_n 1, 1) := by decide +kernel
theorem dX9_spans_57 : decode cX9_spans 57 = .ok (.iload_n 2, 1) := by decide +kernel
theorem dX9_spans_58 : decode cX9_spans 58 = .ok (.iadd, 1) := by decide +kernel
theorem dX9_spans_59 : decode cX9_spans 59 = .ok (.idiv, 1) := by decide +kernel
theorem dX9_spans_60 : decode cX9_spans 60 = .ok (.if_icmp .le 7, 3) := by decide +kernel
theorem dX9_spans_63 : decode cX9_spans 63 = .ok (.iconst 0, 1) := by decide +kernel
theorem dX9_spans_64 : decode cX9_spans 64 = .ok (.goto 4, 3) := by decide +kernel
theorem dX9_spans_67 : decode cX9_spans 67 = .ok (.iconst 1, 1) := by decide +kernel
theorem dX9_spans_68 : decode cX9_spans 68 = .ok (.ireturn, 1) := by decide +kernel
theorem dX9_streetsOf_0 : decode cX9_streetsOf 0 = .ok (.aload_n 0, 1) := by decide +kernel
theorem dX9_streetsOf_1 : decode cX9_streetsOf 1 = .ok (.getfield 35, 3) := by decide +kernel
theorem dX9_streetsOf_4 : decode cX9_streetsOf 4 = .ok (.iload_n 1, 1) := by decide +kernel
theorem dX9_streetsOf_5 : decode cX9_streetsOf 5 = .ok (.iaload, 1) := by decide +kernel
theorem dX9_streetsOf_6 : decode cX9_streetsOf 6 = .ok (.istore 4, 2) := by decide +kernel
theorem dX9_streetsOf_8 : decode cX9_streetsOf 8 = .ok (.iconst 1, 1) := by decide +kernel
theorem dX9_streetsOf_9 : decode cX9_streetsOf 9 = .ok (.iload 4, 2) := by decide +kernel
theorem dX9_streetsOf_11 : decode cX9_streetsOf 11 = .ok (.ishl, 1) := by decide +kernel
theorem dX9_streetsOf_12 : decode cX9_streetsOf 12 = .ok (.istore 5, 2) := by decide +kernel
theorem dX9_streetsOf_14 : decode cX9_streetsOf 14 = .ok (.iload_n 2, 1) := by decide +kernel
theorem dX9_streetsOf_15 : decode cX9_streetsOf 15 = .ok (.iconst 1, 1) := by decide +kernel
theorem dX9_streetsOf_16 : decode cX9_streetsOf 16 = .ok (.isub, 1) := by decide +kernel
theorem dX9_streetsOf_17 : decode cX9_streetsOf 17 = .ok (.istore 6, 2) := by decide +kernel
theorem dX9_streetsOf_19 : decode cX9_streetsOf 19 = .ok (.iload 6, 2) := by decide +kernel
theorem dX9_streetsOf_21 : decode cX9_streetsOf 21 = .ok (.ifCond .lt 58, 3) := by decide +kernel
theorem dX9_streetsOf_24 : decode cX9_streetsOf 24 = .ok (.iload_n 3, 1) := by decide +kernel
theorem dX9_streetsOf_25 : decode cX9_streetsOf 25 = .ok (.iconst 3, 1) := by decide +kernel
theorem dX9_streetsOf_26 : decode cX9_streetsOf 26 = .ok (.iload 6, 2) := by decide +kernel
theorem dX9_streetsOf_28 : decode cX9_streetsOf 28 = .ok (.invokestatic 188, 3) := by decide +kernel
theorem dX9_streetsOf_31 : decode cX9_streetsOf 31 = .ok (.idiv, 1) := by decide +kernel
theorem dX9_streetsOf_32 : decode cX9_streetsOf 32 = .ok (.iconst 3, 1) := by decide +kernel
theorem dX9_streetsOf_33 : decode cX9_streetsOf 33 = .ok (.irem, 1) := by decide +kernel
theorem dX9_streetsOf_34 : decode cX9_streetsOf 34 = .ok (.istore 7, 2) := by decide +kernel
theorem dX9_streetsOf_36 : decode cX9_streetsOf 36 = .ok (.iload 4, 2) := by decide +kernel
theorem dX9_streetsOf_38 : decode cX9_streetsOf 38 = .ok (.iload 7, 2) := by decide +kernel
theorem dX9_streetsOf_40 : decode cX9_streetsOf 40 = .ok (.iconst 1, 1) := by decide +kernel
theorem dX9_streetsOf_41 : decode cX9_streetsOf 41 = .ok (.if_icmp .ne 7, 3) := by decide +kernel
theorem dX9_streetsOf_44 : decode cX9_streetsOf 44 = .ok (.iconst 1, 1) := by decide +kernel
theorem dX9_streetsOf_45 : decode cX9_streetsOf 45 = .ok (.goto 14, 3) := by decide +kernel
theorem dX9_streetsOf_48 : decode cX9_streetsOf 48 = .ok (.iload 7, 2) := by decide +kernel
theorem dX9_streetsOf_50 : decode cX9_streetsOf 50 = .ok (.iconst 2, 1) := by decide +kernel
theorem dX9_streetsOf_51 : decode cX9_streetsOf 51 = .ok (.if_icmp .ne 7, 3) := by decide +kernel
theorem dX9_streetsOf_54 : decode cX9_streetsOf 54 = .ok (.iconst 4, 1) := by decide +kernel
theorem dX9_streetsOf_55 : decode cX9_streetsOf 55 = .ok (.goto 4, 3) := by decide +kernel
theorem dX9_streetsOf_58 : decode cX9_streetsOf 58 = .ok (.iconst 0, 1) := by decide +kernel
theorem dX9_streetsOf_59 : decode cX9_streetsOf 59 = .ok (.iadd, 1) := by decide +kernel
theorem dX9_streetsOf_60 : decode cX9_streetsOf 60 = .ok (.iconst 5, 1) := by decide +kernel
theorem dX9_streetsOf_61 : decode cX9_streetsOf 61 = .ok (.irem, 1) := by decide +kernel
theorem dX9_streetsOf_62 : decode cX9_streetsOf 62 = .ok (.istore 4, 2) := by decide +kernel
theorem dX9_streetsOf_64 : decode cX9_streetsOf 64 = .ok (.iload 5, 2) := by decide +kernel
theorem dX9_streetsOf_66 : decode cX9_streetsOf 66 = .ok (.iconst 1, 1) := by decide +kernel
theorem dX9_streetsOf_67 : decode cX9_streetsOf 67 = .ok (.iload 4, 2) := by decide +kernel
theorem dX9_streetsOf_69 : decode cX9_streetsOf 69 = .ok (.ishl, 1) := by decide +kernel
theorem dX9_streetsOf_70 : decode cX9_streetsOf 70 = .ok (.ior, 1) := by decide +kernel
theorem dX9_streetsOf_71 : decode cX9_streetsOf 71 = .ok (.istore 5, 2) := by decide +kernel
theorem dX9_streetsOf_73 : decode cX9_streetsOf 73 = .ok (.iinc 6 (-1), 3) := by decide +kernel
theorem dX9_streetsOf_76 : decode cX9_streetsOf 76 = .ok (.goto (-57), 3) := by decide +kernel
theorem dX9_streetsOf_79 : decode cX9_streetsOf 79 = .ok (.iload 5, 2) := by decide +kernel
theorem dX9_streetsOf_81 : decode cX9_streetsOf 81 = .ok (.ireturn, 1) := by decide +kernel
theorem dX9_sure_0 : decode cX9_sure 0 = .ok (.aload_n 0, 1) := by decide +kernel
theorem dX9_sure_1 : decode cX9_sure 1 = .ok (.iconst 0, 1) := by decide +kernel
theorem dX9_sure_2 : decode cX9_sure 2 = .ok (.putfield 66, 3) := by decide +kernel
theorem dX9_sure_5 : decode cX9_sure 5 = .ok (.aload_n 0, 1) := by decide +kernel
theorem dX9_sure_6 : decode cX9_sure 6 = .ok (.iload_n 1, 1) := by decide +kernel
theorem dX9_sure_7 : decode cX9_sure 7 = .ok (.invokevirtual 161, 3) := by decide +kernel
theorem dX9_sure_10 : decode cX9_sure 10 = .ok (.ifCond .eq 5, 3) := by decide +kernel
theorem dX9_sure_13 : decode cX9_sure 13 = .ok (.iconst (-1), 1) := by decide +kernel
theorem dX9_sure_14 : decode cX9_sure 14 = .ok (.ireturn, 1) := by decide +kernel
theorem dX9_sure_15 : decode cX9_sure 15 = .ok (.aload_n 0, 1) := by decide +kernel
theorem dX9_sure_16 : decode cX9_sure 16 = .ok (.invokevirtual 221, 3) := by decide +kernel
theorem dX9_sure_19 : decode cX9_sure 19 = .ok (.aload_n 0, 1) := by decide +kernel
theorem dX9_sure_20 : decode cX9_sure 20 = .ok (.getfield 215, 3) := by decide +kernel
theorem dX9_sure_23 : decode cX9_sure 23 = .ok (.ifCond .ne 8, 3) := by decide +kernel
theorem dX9_sure_26 : decode cX9_sure 26 = .ok (.bipush (-9), 2) := by decide +kernel
theorem dX9_sure_28 : decode cX9_sure 28 = .ok (.goto 9, 3) := by decide +kernel
theorem dX9_sure_31 : decode cX9_sure 31 = .ok (.aload_n 0, 1) := by decide +kernel
theorem dX9_sure_32 : decode cX9_sure 32 = .ok (.getfield 63, 3) := by decide +kernel
theorem dX9_sure_35 : decode cX9_sure 35 = .ok (.iload_n 1, 1) := by decide +kernel
theorem dX9_sure_36 : decode cX9_sure 36 = .ok (.iaload, 1) := by decide +kernel
theorem dX9_sure_37 : decode cX9_sure 37 = .ok (.ireturn, 1) := by decide +kernel
theorem dX9_undo_0 : decode cX9_undo 0 = .ok (.aload_n 0, 1) := by decide +kernel
theorem dX9_undo_1 : decode cX9_undo 1 = .ok (.iconst 0, 1) := by decide +kernel
theorem dX9_undo_2 : decode cX9_undo 2 = .ok (.putfield 66, 3) := by decide +kernel
theorem dX9_undo_5 : decode cX9_undo 5 = .ok (.aload_n 0, 1) := by decide +kernel
theorem dX9_undo_6 : decode cX9_undo 6 = .ok (.getfield 140, 3) := by decide +kernel
theorem dX9_undo_9 : decode cX9_undo 9 = .ok (.ifCond .ne 6, 3) := by decide +kernel
theorem dX9_undo_12 : decode cX9_undo 12 = .ok (.bipush (-3), 2) := by decide +kernel
theorem dX9_undo_14 : decode cX9_undo 14 = .ok (.ireturn, 1) := by decide +kernel
theorem dX9_undo_15 : decode cX9_undo 15 = .ok (.aload_n 0, 1) := by decide +kernel
theorem dX9_undo_16 : decode cX9_undo 16 = .ok (.dup, 1) := by decide +kernel
theorem dX9_undo_17 : decode cX9_undo 17 = .ok (.getfield 140, 3) := by decide +kernel
theorem dX9_undo_20 : decode cX9_undo 20 = .ok (.iconst 1, 1) := by decide +kernel
theorem dX9_undo_21 : decode cX9_undo 21 = .ok (.isub, 1) := by decide +kernel
theorem dX9_undo_22 : decode cX9_undo 22 = .ok (.putfield 140, 3) := by decide +kernel
theorem dX9_undo_25 : decode cX9_undo 25 = .ok (.iconst 0, 1) := by decide +kernel
theorem dX9_undo_26 : decode cX9_undo 26 = .ok (.istore_n 1, 1) := by decide +kernel
theorem dX9_undo_27 : decode cX9_undo 27 = .ok (.iload_n 1, 1) := by decide +kernel
theorem dX9_undo_28 : decode cX9_undo 28 = .ok (.bipush 25, 2) := by decide +kernel
theorem dX9_undo_30 : decode cX9_undo 30 = .ok (.if_icmp .ge 29, 3) := by decide +kernel
theorem dX9_undo_33 : decode cX9_undo 33 = .ok (.aload_n 0, 1) := by decide +kernel
theorem dX9_undo_34 : decode cX9_undo 34 = .ok (.getfield 35, 3) := by decide +kernel
theorem dX9_undo_37 : decode cX9_undo 37 = .ok (.iload_n 1, 1) := by decide +kernel
theorem dX9_undo_38 : decode cX9_undo 38 = .ok (.aload_n 0, 1) := by decide +kernel
theorem dX9_undo_39 : decode cX9_undo 39 = .ok (.getfield 41, 3) := by decide +kernel
theorem dX9_undo_42 : decode cX9_undo 42 = .ok (.bipush 25, 2) := by decide +kernel
theorem dX9_undo_44 : decode cX9_undo 44 = .ok (.aload_n 0, 1) := by decide +kernel
theorem dX9_undo_45 : decode cX9_undo 45 = .ok (.getfield 140, 3) := by decide +kernel
theorem dX9_undo_48 : decode cX9_undo 48 = .ok (.imul, 1) := by decide +kernel
theorem dX9_undo_49 : decode cX9_undo 49 = .ok (.iload_n 1, 1) := by decide +kernel
theorem dX9_undo_50 : decode cX9_undo 50 = .ok (.iadd, 1) := by decide +kernel
theorem dX9_undo_51 : decode cX9_undo 51 = .ok (.iaload, 1) := by decide +kernel
theorem dX9_undo_52 : decode cX9_undo 52 = .ok (.iastore, 1) := by decide +kernel
theorem dX9_undo_53 : decode cX9_undo 53 = .ok (.iinc 1 1, 3) := by decide +kernel
theorem dX9_undo_56 : decode cX9_undo 56 = .ok (.goto (-29), 3) := by decide +kernel
theorem dX9_undo_59 : decode cX9_undo 59 = .ok (.aload_n 0, 1) := by decide +kernel
theorem dX9_undo_60 : decode cX9_undo 60 = .ok (.getfield 140, 3) := by decide +kernel
theorem dX9_undo_63 : decode cX9_undo 63 = .ok (.ireturn, 1) := by decide +kernel
theorem dX9_unsee_0 : decode cX9_unsee 0 = .ok (.aload_n 0, 1) := by decide +kernel
theorem dX9_unsee_1 : decode cX9_unsee 1 = .ok (.iconst 0, 1) := by decide +kernel
theorem dX9_unsee_2 : decode cX9_unsee 2 = .ok (.putfield 66, 3) := by decide +kernel
theorem dX9_unsee_5 : decode cX9_unsee 5 = .ok (.aload_n 0, 1) := by decide +kernel
theorem dX9_unsee_6 : decode cX9_unsee 6 = .ok (.getfield 150, 3) := by decide +kernel
theorem dX9_unsee_9 : decode cX9_unsee 9 = .ok (.istore_n 1, 1) := by decide +kernel
theorem dX9_unsee_10 : decode cX9_unsee 10 = .ok (.aload_n 0, 1) := by decide +kernel
theorem dX9_unsee_11 : decode cX9_unsee 11 = .ok (.iconst 0, 1) := by decide +kernel
theorem dX9_unsee_12 : decode cX9_unsee 12 = .ok (.putfield 150, 3) := by decide +kernel
theorem dX9_unsee_15 : decode cX9_unsee 15 = .ok (.iload_n 1, 1) := by decide +kernel
theorem dX9_unsee_16 : decode cX9_unsee 16 = .ok (.ireturn, 1) := by decide +kernel
theorem dX9_walks_0 : decode cX9_walks 0 = .ok (.aload_n 0, 1) := by decide +kernel
theorem dX9_walks_1 : decode cX9_walks 1 = .ok (.iconst 0, 1) := by decide +kernel
theorem dX9_walks_2 : decode cX9_walks 2 = .ok (.putfield 66, 3) := by decide +kernel
theorem dX9_walks_5 : decode cX9_walks 5 = .ok (.aload_n 0, 1) := by decide +kernel
theorem dX9_walks_6 : decode cX9_walks 6 = .ok (.invokevirtual 221, 3) := by decide +kernel
theorem dX9_walks_9 : decode cX9_walks 9 = .ok (.aload_n 0, 1) := by decide +kernel
theorem dX9_walks_10 : decode cX9_walks 10 = .ok (.getfield 215, 3) := by decide +kernel
theorem dX9_walks_13 : decode cX9_walks 13 = .ok (.ireturn, 1) := by decide +kernel
theorem dX9_wasAt_0 : decode cX9_wasAt 0 = .ok (.iload_n 2, 1) := by decide +kernel
theorem dX9_wasAt_1 : decode cX9_wasAt 1 = .ok (.aload_n 0, 1) := by decide +kernel
theorem dX9_wasAt_2 : decode cX9_wasAt 2 = .ok (.getfield 69, 3) := by decide +kernel
theorem dX9_wasAt_5 : decode cX9_wasAt 5 = .ok (.if_icmp .ne 13, 3) := by decide +kernel
theorem dX9_wasAt_8 : decode cX9_wasAt 8 = .ok (.aload_n 0, 1) := by decide +kernel
theorem dX9_wasAt_9 : decode cX9_wasAt 9 = .ok (.getfield 35, 3) := by decide +kernel
theorem dX9_wasAt_12 : decode cX9_wasAt 12 = .ok (.bipush 13, 2) := by decide +kernel
theorem dX9_wasAt_14 : decode cX9_wasAt 14 = .ok (.iload_n 1, 1) := by decide +kernel
theorem dX9_wasAt_15 : decode cX9_wasAt 15 = .ok (.iadd, 1) := by decide +kernel
theorem dX9_wasAt_16 : decode cX9_wasAt 16 = .ok (.iaload, 1) := by decide +kernel
theorem dX9_wasAt_17 : decode cX9_wasAt 17 = .ok (.ireturn, 1) := by decide +kernel
theorem dX9_wasAt_18 : decode cX9_wasAt 18 = .ok (.aload_n 0, 1) := by decide +kernel
theorem dX9_wasAt_19 : decode cX9_wasAt 19 = .ok (.getfield 35, 3) := by decide +kernel
theorem dX9_wasAt_22 : decode cX9_wasAt 22 = .ok (.iload_n 2, 1) := by decide +kernel
theorem dX9_wasAt_23 : decode cX9_wasAt 23 = .ok (.iaload, 1) := by decide +kernel
theorem dX9_wasAt_24 : decode cX9_wasAt 24 = .ok (.aload_n 0, 1) := by decide +kernel
theorem dX9_wasAt_25 : decode cX9_wasAt 25 = .ok (.getfield 20, 3) := by decide +kernel
theorem dX9_wasAt_28 : decode cX9_wasAt 28 = .ok (.iconst 4, 1) := by decide +kernel
theorem dX9_wasAt_29 : decode cX9_wasAt 29 = .ok (.iload_n 2, 1) := by decide +kernel
theorem dX9_wasAt_30 : decode cX9_wasAt 30 = .ok (.imul, 1) := by decide +kernel
theorem dX9_wasAt_31 : decode cX9_wasAt 31 = .ok (.iconst 1, 1) := by decide +kernel
theorem dX9_wasAt_32 : decode cX9_wasAt 32 = .ok (.iadd, 1) := by decide +kernel
theorem dX9_wasAt_33 : decode cX9_wasAt 33 = .ok (.iaload, 1) := by decide +kernel
theorem dX9_wasAt_34 : decode cX9_wasAt 34 = .ok (.iconst 2, 1) := by decide +kernel
theorem dX9_wasAt_35 : decode cX9_wasAt 35 = .ok (.irem, 1) := by decide +kernel
theorem dX9_wasAt_36 : decode cX9_wasAt 36 = .ok (.iconst 1, 1) := by decide +kernel
theorem dX9_wasAt_37 : decode cX9_wasAt 37 = .ok (.if_icmp .ne 7, 3) := by decide +kernel
theorem dX9_wasAt_40 : decode cX9_wasAt 40 = .ok (.iload_n 3, 1) := by decide +kernel
theorem dX9_wasAt_41 : decode cX9_wasAt 41 = .ok (.goto 4, 3) := by decide +kernel
theorem dX9_wasAt_44 : decode cX9_wasAt 44 = .ok (.iconst 0, 1) := by decide +kernel
theorem dX9_wasAt_45 : decode cX9_wasAt 45 = .ok (.iadd, 1) := by decide +kernel
theorem dX9_wasAt_46 : decode cX9_wasAt 46 = .ok (.iconst 5, 1) := by decide +kernel
theorem dX9_wasAt_47 : decode cX9_wasAt 47 = .ok (.irem, 1) := by decide +kernel
theorem dX9_wasAt_48 : decode cX9_wasAt 48 = .ok (.ireturn, 1) := by decide +kernel
theorem dX9_wipe_0 : decode cX9_wipe 0 = .ok (.aload_n 0, 1) := by decide +kernel
theorem dX9_wipe_1 : decode cX9_wipe 1 = .ok (.iconst 0, 1) := by decide +kernel
theorem dX9_wipe_2 : decode cX9_wipe 2 = .ok (.putfield 66, 3) := by decide +kernel
theorem dX9_wipe_5 : decode cX9_wipe 5 = .ok (.aload_n 0, 1) := by decide +kernel
theorem dX9_wipe_6 : decode cX9_wipe 6 = .ok (.getfield 81, 3) := by decide +kernel
theorem dX9_wipe_9 : decode cX9_wipe 9 = .ok (.istore_n 1, 1) := by decide +kernel
theorem dX9_wipe_10 : decode cX9_wipe 10 = .ok (.aload_n 0, 1) := by decide +kernel
theorem dX9_wipe_11 : decode cX9_wipe 11 = .ok (.iconst 0, 1) := by decide +kernel
theorem dX9_wipe_12 : decode cX9_wipe 12 = .ok (.putfield 81, 3) := by decide +kernel
theorem dX9_wipe_15 : decode cX9_wipe 15 = .ok (.iload_n 1, 1) := by decide +kernel
theorem dX9_wipe_16 : decode cX9_wipe 16 = .ok (.ireturn, 1) := by decide +kernel
theorem dX9_worthOf_0 : decode cX9_worthOf 0 = .ok (.iload_n 0, 1) := by decide +kernel
theorem dX9_worthOf_1 : decode cX9_worthOf 1 = .ok (.bipush 10, 2) := by decide +kernel
theorem dX9_worthOf_3 : decode cX9_worthOf 3 = .ok (.iconst 4, 1) := by decide +kernel
theorem dX9_worthOf_4 : decode cX9_worthOf 4 = .ok (.iload_n 1, 1) := by decide +kernel
theorem dX9_worthOf_5 : decode cX9_worthOf 5 = .ok (.isub, 1) := by decide +kernel
theorem dX9_worthOf_6 : decode cX9_worthOf 6 = .ok (.invokestatic 188, 3) := by decide +kernel
theorem dX9_worthOf_9 : decode cX9_worthOf 9 = .ok (.idiv, 1) := by decide +kernel
theorem dX9_worthOf_10 : decode cX9_worthOf 10 = .ok (.bipush 10, 2) := by decide +kernel
theorem dX9_worthOf_12 : decode cX9_worthOf 12 = .ok (.irem, 1) := by decide +kernel
theorem dX9_worthOf_13 : decode cX9_worthOf 13 = .ok (.ireturn, 1) := by decide +kernel
theorem dX9_write_0 : decode cX9_write 0 = .ok (.aload_n 0, 1) := by decide +kernel
theorem dX9_write_1 : decode cX9_write 1 = .ok (.iconst 0, 1) := by decide +kernel
theorem dX9_write_2 : decode cX9_write 2 = .ok (.putfield 66, 3) := by decide +kernel
theorem dX9_write_5 : decode cX9_write 5 = .ok (.iload_n 1, 1) := by decide +kernel
theorem dX9_write_6 : decode cX9_write 6 = .ok (.i2l, 1) := by decide +kernel
theorem dX9_write_7 : decode cX9_write 7 = .ok (.lconst 0, 1) := by decide +kernel
theorem dX9_write_8 : decode cX9_write 8 = .ok (.ldc2_w 79, 3) := by decide +kernel
theorem dX9_write_11 : decode cX9_write 11 = .ok (.invokestatic 72, 3) := by decide +kernel
theorem dX9_write_14 : decode cX9_write 14 = .ok (.ifCond .ne 6, 3) := by decide +kernel
theorem dX9_write_17 : decode cX9_write 17 = .ok (.bipush (-2), 2) := by decide +kernel
theorem dX9_write_19 : decode cX9_write 19 = .ok (.ireturn, 1) := by decide +kernel
theorem dX9_write_20 : decode cX9_write 20 = .ok (.aload_n 0, 1) := by decide +kernel
theorem dX9_write_21 : decode cX9_write 21 = .ok (.getfield 81, 3) := by decide +kernel
theorem dX9_write_24 : decode cX9_write 24 = .ok (.bipush 60, 2) := by decide +kernel
theorem dX9_write_26 : decode cX9_write 26 = .ok (.if_icmp .ne 6, 3) := by decide +kernel
theorem dX9_write_29 : decode cX9_write 29 = .ok (.bipush (-4), 2) := by decide +kernel
theorem dX9_write_31 : decode cX9_write 31 = .ok (.ireturn, 1) := by decide +kernel
theorem dX9_write_32 : decode cX9_write 32 = .ok (.aload_n 0, 1) := by decide +kernel
theorem dX9_write_33 : decode cX9_write 33 = .ok (.getfield 7, 3) := by decide +kernel
theorem dX9_write_36 : decode cX9_write 36 = .ok (.aload_n 0, 1) := by decide +kernel
theorem dX9_write_37 : decode cX9_write 37 = .ok (.getfield 81, 3) := by decide +kernel
theorem dX9_write_40 : decode cX9_write 40 = .ok (.iload_n 1, 1) := by decide +kernel
theorem dX9_write_41 : decode cX9_write 41 = .ok (.iastore, 1) := by decide +kernel
theorem dX9_write_42 : decode cX9_write 42 = .ok (.aload_n 0, 1) := by decide +kernel
theorem dX9_write_43 : decode cX9_write 43 = .ok (.dup, 1) := by decide +kernel
theorem dX9_write_44 : decode cX9_write 44 = .ok (.getfield 81, 3) := by decide +kernel
theorem dX9_write_47 : decode cX9_write 47 = .ok (.iconst 1, 1) := by decide +kernel
theorem dX9_write_48 : decode cX9_write 48 = .ok (.iadd, 1) := by decide +kernel
theorem dX9_write_49 : decode cX9_write 49 = .ok (.putfield 81, 3) := by decide +kernel
theorem dX9_write_52 : decode cX9_write 52 = .ok (.aload_n 0, 1) := by decide +kernel
theorem dX9_write_53 : decode cX9_write 53 = .ok (.getfield 81, 3) := by decide +kernel
theorem dX9_write_56 : decode cX9_write 56 = .ok (.ireturn, 1) := by decide +kernel
theorem dX9_young_0 : decode cX9_young 0 = .ok (.iconst 0, 1) := by decide +kernel
theorem dX9_young_1 : decode cX9_young 1 = .ok (.istore_n 2, 1) := by decide +kernel
theorem dX9_young_2 : decode cX9_young 2 = .ok (.iconst 0, 1) := by decide +kernel
theorem dX9_young_3 : decode cX9_young 3 = .ok (.istore_n 3, 1) := by decide +kernel
theorem dX9_young_4 : decode cX9_young 4 = .ok (.iload_n 3, 1) := by decide +kernel
theorem dX9_young_5 : decode cX9_young 5 = .ok (.aload_n 0, 1) := by decide +kernel
theorem dX9_young_6 : decode cX9_young 6 = .ok (.getfield 100, 3) := by decide +kernel
theorem dX9_young_9 : decode cX9_young 9 = .ok (.if_icmp .ge 48, 3) := by decide +kernel
theorem dX9_young_12 : decode cX9_young 12 = .ok (.iload_n 2, 1) := by decide +kernel
theorem dX9_young_13 : decode cX9_young 13 = .ok (.iload_n 3, 1) := by decide +kernel
theorem dX9_young_14 : decode cX9_young 14 = .ok (.iload_n 1, 1) := by decide +kernel
theorem dX9_young_15 : decode cX9_young 15 = .ok (.if_icmp .eq 33, 3) := by decide +kernel
theorem dX9_young_18 : decode cX9_young 18 = .ok (.aload_n 0, 1) := by decide +kernel
theorem dX9_young_19 : decode cX9_young 19 = .ok (.getfield 29, 3) := by decide +kernel
theorem dX9_young_22 : decode cX9_young 22 = .ok (.iconst 4, 1) := by decide +kernel
theorem dX9_young_23 : decode cX9_young 23 = .ok (.iload_n 3, 1) := by decide +kernel
theorem dX9_young_24 : decode cX9_young 24 = .ok (.imul, 1) := by decide +kernel
theorem dX9_young_25 : decode cX9_young 25 = .ok (.iconst 3, 1) := by decide +kernel
theorem dX9_young_26 : decode cX9_young 26 = .ok (.iadd, 1) := by decide +kernel
theorem dX9_young_27 : decode cX9_young 27 = .ok (.iaload, 1) := by decide +kernel
theorem dX9_young_28 : decode cX9_young 28 = .ok (.bipush (-9), 2) := by decide +kernel
theorem dX9_young_30 : decode cX9_young 30 = .ok (.if_icmp .ne 18, 3) := by decide +kernel
theorem dX9_young_33 : decode cX9_young 33 = .ok (.aload_n 0, 1) := by decide +kernel
theorem dX9_young_34 : decode cX9_young 34 = .ok (.iload_n 1, 1) := by decide +kernel
theorem dX9_young_35 : decode cX9_young 35 = .ok (.iload_n 3, 1) := by decide +kernel
theorem dX9_young_36 : decode cX9_young 36 = .ok (.invokevirtual 114, 3) := by decide +kernel
theorem dX9_young_39 : decode cX9_young 39 = .ok (.ifCond .ne 9, 3) := by decide +kernel
theorem dX9_young_42 : decode cX9_young 42 = .ok (.iconst 1, 1) := by decide +kernel
theorem dX9_young_43 : decode cX9_young 43 = .ok (.iload_n 3, 1) := by decide +kernel
theorem dX9_young_44 : decode cX9_young 44 = .ok (.ishl, 1) := by decide +kernel
theorem dX9_young_45 : decode cX9_young 45 = .ok (.goto 4, 3) := by decide +kernel
theorem dX9_young_48 : decode cX9_young 48 = .ok (.iconst 0, 1) := by decide +kernel
theorem dX9_young_49 : decode cX9_young 49 = .ok (.ior, 1) := by decide +kernel
theorem dX9_young_50 : decode cX9_young 50 = .ok (.istore_n 2, 1) := by decide +kernel
theorem dX9_young_51 : decode cX9_young 51 = .ok (.iinc 3 1, 3) := by decide +kernel
theorem dX9_young_54 : decode cX9_young 54 = .ok (.goto (-50), 3) := by decide +kernel
theorem dX9_young_57 : decode cX9_young 57 = .ok (.iload_n 2, 1) := by decide +kernel
theorem dX9_young_58 : decode cX9_young 58 = .ok (.ireturn, 1) := by decide +kernel
end
section
theorem dL_law_0 : decode cL_law 0 = .ok (.new 7, 3) := by decide +kernel
theorem dL_law_3 : decode cL_law 3 = .ok (.dup, 1) := by decide +kernel
theorem dL_law_4 : decode cL_law 4 = .ok (.invokespecial 9, 3) := by decide +kernel
theorem dL_law_7 : decode cL_law 7 = .ok (.astore_n 1, 1) := by decide +kernel
theorem dL_law_8 : decode cL_law 8 = .ok (.new 10, 3) := by decide +kernel
theorem dL_law_11 : decode cL_law 11 = .ok (.dup, 1) := by decide +kernel
theorem dL_law_12 : decode cL_law 12 = .ok (.invokespecial 12, 3) := by decide +kernel
theorem dL_law_15 : decode cL_law 15 = .ok (.astore_n 2, 1) := by decide +kernel
theorem dL_law_16 : decode cL_law 16 = .ok (.iconst 0, 1) := by decide +kernel
theorem dL_law_17 : decode cL_law 17 = .ok (.istore_n 3, 1) := by decide +kernel
theorem dL_law_18 : decode cL_law 18 = .ok (.iload_n 3, 1) := by decide +kernel
theorem dL_law_19 : decode cL_law 19 = .ok (.aload_n 0, 1) := by decide +kernel
theorem dL_law_20 : decode cL_law 20 = .ok (.arraylength, 1) := by decide +kernel
theorem dL_law_21 : decode cL_law 21 = .ok (.iconst 5, 1) := by decide +kernel
theorem dL_law_22 : decode cL_law 22 = .ok (.isub, 1) := by decide +kernel
theorem dL_law_23 : decode cL_law 23 = .ok (.if_icmp .gt 914, 3) := by decide +kernel
theorem dL_law_26 : decode cL_law 26 = .ok (.aload_n 0, 1) := by decide +kernel
theorem dL_law_27 : decode cL_law 27 = .ok (.iload_n 3, 1) := by decide +kernel
theorem dL_law_28 : decode cL_law 28 = .ok (.iaload, 1) := by decide +kernel
theorem dL_law_29 : decode cL_law 29 = .ok (.bipush 31, 2) := by decide +kernel
theorem dL_law_31 : decode cL_law 31 = .ok (.iand, 1) := by decide +kernel
theorem dL_law_32 : decode cL_law 32 = .ok (.tableswitch 899 0 27 #[128, 151, 164, 177, 190, 213, 246, 279, 312, 335, 368, 381, 394, 417, 470, 493, 516, 549, 592, 635, 648, 661, 684, 717, 776, 830, 853, 876], 128) := by decide +kernel
theorem dL_law_160 : decode cL_law 160 = .ok (.aload_n 1, 1) := by decide +kernel
theorem dL_law_161 : decode cL_law 161 = .ok (.aload_n 0, 1) := by decide +kernel
theorem dL_law_162 : decode cL_law 162 = .ok (.iload_n 3, 1) := by decide +kernel
theorem dL_law_163 : decode cL_law 163 = .ok (.iconst 1, 1) := by decide +kernel
theorem dL_law_164 : decode cL_law 164 = .ok (.iadd, 1) := by decide +kernel
theorem dL_law_165 : decode cL_law 165 = .ok (.iaload, 1) := by decide +kernel
theorem dL_law_166 : decode cL_law 166 = .ok (.invokevirtual 13, 3) := by decide +kernel
theorem dL_law_169 : decode cL_law 169 = .ok (.aload_n 2, 1) := by decide +kernel
theorem dL_law_170 : decode cL_law 170 = .ok (.aload_n 0, 1) := by decide +kernel
theorem dL_law_171 : decode cL_law 171 = .ok (.iload_n 3, 1) := by decide +kernel
theorem dL_law_172 : decode cL_law 172 = .ok (.iconst 1, 1) := by decide +kernel
theorem dL_law_173 : decode cL_law 173 = .ok (.iadd, 1) := by decide +kernel
theorem dL_law_174 : decode cL_law 174 = .ok (.iaload, 1) := by decide +kernel
theorem dL_law_175 : decode cL_law 175 = .ok (.invokevirtual 17, 3) := by decide +kernel
theorem dL_law_178 : decode cL_law 178 = .ok (.if_icmp .eq 753, 3) := by decide +kernel
theorem dL_law_181 : decode cL_law 181 = .ok (.iconst 0, 1) := by decide +kernel
theorem dL_law_182 : decode cL_law 182 = .ok (.ireturn, 1) := by decide +kernel
theorem dL_law_183 : decode cL_law 183 = .ok (.aload_n 1, 1) := by decide +kernel
theorem dL_law_184 : decode cL_law 184 = .ok (.invokevirtual 18, 3) := by decide +kernel
theorem dL_law_187 : decode cL_law 187 = .ok (.aload_n 2, 1) := by decide +kernel
theorem dL_law_188 : decode cL_law 188 = .ok (.invokevirtual 22, 3) := by decide +kernel
theorem dL_law_191 : decode cL_law 191 = .ok (.if_icmp .eq 740, 3) := by decide +kernel
theorem dL_law_194 : decode cL_law 194 = .ok (.iconst 0, 1) := by decide +kernel
theorem dL_law_195 : decode cL_law 195 = .ok (.ireturn, 1) := by decide +kernel
theorem dL_law_196 : decode cL_law 196 = .ok (.aload_n 1, 1) := by decide +kernel
theorem dL_law_197 : decode cL_law 197 = .ok (.invokevirtual 23, 3) := by decide +kernel
theorem dL_law_200 : decode cL_law 200 = .ok (.aload_n 2, 1) := by decide +kernel
theorem dL_law_201 : decode cL_law 201 = .ok (.invokevirtual 26, 3) := by decide +kernel
theorem dL_law_204 : decode cL_law 204 = .ok (.if_icmp .eq 727, 3) := by decide +kernel
theorem dL_law_207 : decode cL_law 207 = .ok (.iconst 0, 1) := by decide +kernel
theorem dL_law_208 : decode cL_law 208 = .ok (.ireturn, 1) := by decide +kernel
theorem dL_law_209 : decode cL_law 209 = .ok (.aload_n 1, 1) := by decide +kernel
theorem dL_law_210 : decode cL_law 210 = .ok (.invokevirtual 27, 3) := by decide +kernel
theorem dL_law_213 : decode cL_law 213 = .ok (.aload_n 2, 1) := by decide +kernel
theorem dL_law_214 : decode cL_law 214 = .ok (.invokevirtual 30, 3) := by decide +kernel
theorem dL_law_217 : decode cL_law 217 = .ok (.if_icmp .eq 714, 3) := by decide +kernel
theorem dL_law_220 : decode cL_law 220 = .ok (.iconst 0, 1) := by decide +kernel
theorem dL_law_221 : decode cL_law 221 = .ok (.ireturn, 1) := by decide +kernel
theorem dL_law_222 : decode cL_law 222 = .ok (.aload_n 1, 1) := by decide +kernel
theorem dL_law_223 : decode cL_law 223 = .ok (.aload_n 0, 1) := by decide +kernel
theorem dL_law_224 : decode cL_law 224 = .ok (.iload_n 3, 1) := by decide +kernel
theorem dL_law_225 : decode cL_law 225 = .ok (.iconst 1, 1) := by decide +kernel
theorem dL_law_226 : decode cL_law 226 = .ok (.iadd, 1) := by decide +kernel
theorem dL_law_227 : decode cL_law 227 = .ok (.iaload, 1) := by decide +kernel
theorem dL_law_228 : decode cL_law 228 = .ok (.invokevirtual 31, 3) := by decide +kernel
theorem dL_law_231 : decode cL_law 231 = .ok (.aload_n 2, 1) := by decide +kernel
theorem dL_law_232 : decode cL_law 232 = .ok (.aload_n 0, 1) := by decide +kernel
theorem dL_law_233 : decode cL_law 233 = .ok (.iload_n 3, 1) := by decide +kernel
theorem dL_law_234 : decode cL_law 234 = .ok (.iconst 1, 1) := by decide +kernel
theorem dL_law_235 : decode cL_law 235 = .ok (.iadd, 1) := by decide +kernel
theorem dL_law_236 : decode cL_law 236 = .ok (.iaload, 1) := by decide +kernel
theorem dL_law_237 : decode cL_law 237 = .ok (.invokevirtual 34, 3) := by decide +kernel
theorem dL_law_240 : decode cL_law 240 = .ok (.if_icmp .eq 691, 3) := by decide +kernel
theorem dL_law_243 : decode cL_law 243 = .ok (.iconst 0, 1) := by decide +kernel
theorem dL_law_244 : decode cL_law 244 = .ok (.ireturn, 1) := by decide +kernel
theorem dL_law_245 : decode cL_law 245 = .ok (.aload_n 1, 1) := by decide +kernel
theorem dL_law_246 : decode cL_law 246 = .ok (.aload_n 0, 1) := by decide +kernel
theorem dL_law_247 : decode cL_law 247 = .ok (.iload_n 3, 1) := by decide +kernel
theorem dL_law_248 : decode cL_law 248 = .ok (.iconst 1, 1) := by decide +kernel
theorem dL_law_249 : decode cL_law 249 = .ok (.iadd, 1) := by decide +kernel
theorem dL_law_250 : decode cL_law 250 = .ok (.iaload, 1) := by decide +kernel
theorem dL_law_251 : decode cL_law 251 = .ok (.aload_n 0, 1) := by decide +kernel
theorem dL_law_252 : decode cL_law 252 = .ok (.iload_n 3, 1) := by decide +kernel
theorem dL_law_253 : decode cL_law 253 = .ok (.iconst 2, 1) := by decide +kernel
theorem dL_law_254 : decode cL_law 254 = .ok (.iadd, 1) := by decide +kernel
theorem dL_law_255 : decode cL_law 255 = .ok (.iaload, 1) := by decide +kernel
theorem dL_law_256 : decode cL_law 256 = .ok (.invokevirtual 35, 3) := by decide +kernel
theorem dL_law_259 : decode cL_law 259 = .ok (.aload_n 2, 1) := by decide +kernel
theorem dL_law_260 : decode cL_law 260 = .ok (.aload_n 0, 1) := by decide +kernel
theorem dL_law_261 : decode cL_law 261 = .ok (.iload_n 3, 1) := by decide +kernel
theorem dL_law_262 : decode cL_law 262 = .ok (.iconst 1, 1) := by decide +kernel
theorem dL_law_263 : decode cL_law 263 = .ok (.iadd, 1) := by decide +kernel
theorem dL_law_264 : decode cL_law 264 = .ok (.iaload, 1) := by decide +kernel
theorem dL_law_265 : decode cL_law 265 = .ok (.aload_n 0, 1) := by decide +kernel
theorem dL_law_266 : decode cL_law 266 = .ok (.iload_n 3, 1) := by decide +kernel
theorem dL_law_267 : decode cL_law 267 = .ok (.iconst 2, 1) := by decide +kernel
theorem dL_law_268 : decode cL_law 268 = .ok (.iadd, 1) := by decide +kernel
theorem dL_law_269 : decode cL_law 269 = .ok (.iaload, 1) := by decide +kernel
theorem dL_law_270 : decode cL_law 270 = .ok (.invokevirtual 39, 3) := by decide +kernel
theorem dL_law_273 : decode cL_law 273 = .ok (.if_icmp .eq 658, 3) := by decide +kernel
theorem dL_law_276 : decode cL_law 276 = .ok (.iconst 0, 1) := by decide +kernel
theorem dL_law_277 : decode cL_law 277 = .ok (.ireturn, 1) := by decide +kernel
theorem dL_law_278 : decode cL_law 278 = .ok (.aload_n 1, 1) := by decide +kernel
theorem dL_law_279 : decode cL_law 279 = .ok (.aload_n 0, 1) := by decide +kernel
theorem dL_law_280 : decode cL_law 280 = .ok (.iload_n 3, 1) := by decide +kernel
theorem dL_law_281 : decode cL_law 281 = .ok (.iconst 1, 1) := by decide +kernel
theorem dL_law_282 : decode cL_law 282 = .ok (.iadd, 1) := by decide +kernel
theorem dL_law_283 : decode cL_law 283 = .ok (.iaload, 1) := by decide +kernel
theorem dL_law_284 : decode cL_law 284 = .ok (.aload_n 0, 1) := by decide +kernel
theorem dL_law_285 : decode cL_law 285 = .ok (.iload_n 3, 1) := by decide +kernel
theorem dL_law_286 : decode cL_law 286 = .ok (.iconst 2, 1) := by decide +kernel
theorem dL_law_287 : decode cL_law 287 = .ok (.iadd, 1) := by decide +kernel
theorem dL_law_288 : decode cL_law 288 = .ok (.iaload, 1) := by decide +kernel
theorem dL_law_289 : decode cL_law 289 = .ok (.invokevirtual 40, 3) := by decide +kernel
theorem dL_law_292 : decode cL_law 292 = .ok (.aload_n 2, 1) := by decide +kernel
theorem dL_law_293 : decode cL_law 293 = .ok (.aload_n 0, 1) := by decide +kernel
theorem dL_law_294 : decode cL_law 294 = .ok (.iload_n 3, 1) := by decide +kernel
theorem dL_law_295 : decode cL_law 295 = .ok (.iconst 1, 1) := by decide +kernel
theorem dL_law_296 : decode cL_law 296 = .ok (.iadd, 1) := by decide +kernel
theorem dL_law_297 : decode cL_law 297 = .ok (.iaload, 1) := by decide +kernel
theorem dL_law_298 : decode cL_law 298 = .ok (.aload_n 0, 1) := by decide +kernel
theorem dL_law_299 : decode cL_law 299 = .ok (.iload_n 3, 1) := by decide +kernel
theorem dL_law_300 : decode cL_law 300 = .ok (.iconst 2, 1) := by decide +kernel
theorem dL_law_301 : decode cL_law 301 = .ok (.iadd, 1) := by decide +kernel
theorem dL_law_302 : decode cL_law 302 = .ok (.iaload, 1) := by decide +kernel
theorem dL_law_303 : decode cL_law 303 = .ok (.invokevirtual 43, 3) := by decide +kernel
theorem dL_law_306 : decode cL_law 306 = .ok (.if_icmp .eq 625, 3) := by decide +kernel
theorem dL_law_309 : decode cL_law 309 = .ok (.iconst 0, 1) := by decide +kernel
theorem dL_law_310 : decode cL_law 310 = .ok (.ireturn, 1) := by decide +kernel
theorem dL_law_311 : decode cL_law 311 = .ok (.aload_n 1, 1) := by decide +kernel
theorem dL_law_312 : decode cL_law 312 = .ok (.aload_n 0, 1) := by decide +kernel
theorem dL_law_313 : decode cL_law 313 = .ok (.iload_n 3, 1) := by decide +kernel
theorem dL_law_314 : decode cL_law 314 = .ok (.iconst 1, 1) := by decide +kernel
theorem dL_law_315 : decode cL_law 315 = .ok (.iadd, 1) := by decide +kernel
theorem dL_law_316 : decode cL_law 316 = .ok (.iaload, 1) := by decide +kernel
theorem dL_law_317 : decode cL_law 317 = .ok (.aload_n 0, 1) := by decide +kernel
theorem dL_law_318 : decode cL_law 318 = .ok (.iload_n 3, 1) := by decide +kernel
theorem dL_law_319 : decode cL_law 319 = .ok (.iconst 2, 1) := by decide +kernel
theorem dL_law_320 : decode cL_law 320 = .ok (.iadd, 1) := by decide +kernel
theorem dL_law_321 : decode cL_law 321 = .ok (.iaload, 1) := by decide +kernel
theorem dL_law_322 : decode cL_law 322 = .ok (.invokevirtual 44, 3) := by decide +kernel
theorem dL_law_325 : decode cL_law 325 = .ok (.aload_n 2, 1) := by decide +kernel
theorem dL_law_326 : decode cL_law 326 = .ok (.aload_n 0, 1) := by decide +kernel
theorem dL_law_327 : decode cL_law 327 = .ok (.iload_n 3, 1) := by decide +kernel
theorem dL_law_328 : decode cL_law 328 = .ok (.iconst 1, 1) := by decide +kernel
theorem dL_law_329 : decode cL_law 329 = .ok (.iadd, 1) := by decide +kernel
theorem dL_law_330 : decode cL_law 330 = .ok (.iaload, 1) := by decide +kernel
theorem dL_law_331 : decode cL_law 331 = .ok (.aload_n 0, 1) := by decide +kernel
theorem dL_law_332 : decode cL_law 332 = .ok (.iload_n 3, 1) := by decide +kernel
theorem dL_law_333 : decode cL_law 333 = .ok (.iconst 2, 1) := by decide +kernel
theorem dL_law_334 : decode cL_law 334 = .ok (.iadd, 1) := by decide +kernel
theorem dL_law_335 : decode cL_law 335 = .ok (.iaload, 1) := by decide +kernel
theorem dL_law_336 : decode cL_law 336 = .ok (.invokevirtual 47, 3) := by decide +kernel
theorem dL_law_339 : decode cL_law 339 = .ok (.if_icmp .eq 592, 3) := by decide +kernel
theorem dL_law_342 : decode cL_law 342 = .ok (.iconst 0, 1) := by decide +kernel
theorem dL_law_343 : decode cL_law 343 = .ok (.ireturn, 1) := by decide +kernel
theorem dL_law_344 : decode cL_law 344 = .ok (.aload_n 1, 1) := by decide +kernel
theorem dL_law_345 : decode cL_law 345 = .ok (.aload_n 0, 1) := by decide +kernel
theorem dL_law_346 : decode cL_law 346 = .ok (.iload_n 3, 1) := by decide +kernel
theorem dL_law_347 : decode cL_law 347 = .ok (.iconst 1, 1) := by decide +kernel
theorem dL_law_348 : decode cL_law 348 = .ok (.iadd, 1) := by decide +kernel
theorem dL_law_349 : decode cL_law 349 = .ok (.iaload, 1) := by decide +kernel
theorem dL_law_350 : decode cL_law 350 = .ok (.invokevirtual 48, 3) := by decide +kernel
theorem dL_law_353 : decode cL_law 353 = .ok (.aload_n 2, 1) := by decide +kernel
theorem dL_law_354 : decode cL_law 354 = .ok (.aload_n 0, 1) := by decide +kernel
theorem dL_law_355 : decode cL_law 355 = .ok (.iload_n 3, 1) := by decide +kernel
theorem dL_law_356 : decode cL_law 356 = .ok (.iconst 1, 1) := by decide +kernel
theorem dL_law_357 : decode cL_law 357 = .ok (.iadd, 1) := by decide +kernel
theorem dL_law_358 : decode cL_law 358 = .ok (.iaload, 1) := by decide +kernel
theorem dL_law_359 : decode cL_law 359 = .ok (.invokevirtual 51, 3) := by decide +kernel
theorem dL_law_362 : decode cL_law 362 = .ok (.if_icmp .eq 569, 3) := by decide +kernel
theorem dL_law_365 : decode cL_law 365 = .ok (.iconst 0, 1) := by decide +kernel
theorem dL_law_366 : decode cL_law 366 = .ok (.ireturn, 1) := by decide +kernel
theorem dL_law_367 : decode cL_law 367 = .ok (.aload_n 1, 1) := by decide +kernel
theorem dL_law_368 : decode cL_law 368 = .ok (.aload_n 0, 1) := by decide +kernel
theorem dL_law_369 : decode cL_law 369 = .ok (.iload_n 3, 1) := by decide +kernel
theorem dL_law_370 : decode cL_law 370 = .ok (.iconst 1, 1) := by decide +kernel
theorem dL_law_371 : decode cL_law 371 = .ok (.iadd, 1) := by decide +kernel
theorem dL_law_372 : decode cL_law 372 = .ok (.iaload, 1) := by decide +kernel
theorem dL_law_373 : decode cL_law 373 = .ok (.aload_n 0, 1) := by decide +kernel
theorem dL_law_374 : decode cL_law 374 = .ok (.iload_n 3, 1) := by decide +kernel
theorem dL_law_375 : decode cL_law 375 = .ok (.iconst 2, 1) := by decide +kernel
theorem dL_law_376 : decode cL_law 376 = .ok (.iadd, 1) := by decide +kernel
theorem dL_law_377 : decode cL_law 377 = .ok (.iaload, 1) := by decide +kernel
theorem dL_law_378 : decode cL_law 378 = .ok (.invokevirtual 52, 3) := by decide +kernel
theorem dL_law_381 : decode cL_law 381 = .ok (.aload_n 2, 1) := by decide +kernel
theorem dL_law_382 : decode cL_law 382 = .ok (.aload_n 0, 1) := by decide +kernel
theorem dL_law_383 : decode cL_law 383 = .ok (.iload_n 3, 1) := by decide +kernel
theorem dL_law_384 : decode cL_law 384 = .ok (.iconst 1, 1) := by decide +kernel
theorem dL_law_385 : decode cL_law 385 = .ok (.iadd, 1) := by decide +kernel
theorem dL_law_386 : decode cL_law 386 = .ok (.iaload, 1) := by decide +kernel
theorem dL_law_387 : decode cL_law 387 = .ok (.aload_n 0, 1) := by decide +kernel
theorem dL_law_388 : decode cL_law 388 = .ok (.iload_n 3, 1) := by decide +kernel
theorem dL_law_389 : decode cL_law 389 = .ok (.iconst 2, 1) := by decide +kernel
theorem dL_law_390 : decode cL_law 390 = .ok (.iadd, 1) := by decide +kernel
theorem dL_law_391 : decode cL_law 391 = .ok (.iaload, 1) := by decide +kernel
theorem dL_law_392 : decode cL_law 392 = .ok (.invokevirtual 55, 3) := by decide +kernel
theorem dL_law_395 : decode cL_law 395 = .ok (.if_icmp .eq 536, 3) := by decide +kernel
theorem dL_law_398 : decode cL_law 398 = .ok (.iconst 0, 1) := by decide +kernel
theorem dL_law_399 : decode cL_law 399 = .ok (.ireturn, 1) := by decide +kernel
theorem dL_law_400 : decode cL_law 400 = .ok (.aload_n 1, 1) := by decide +kernel
theorem dL_law_401 : decode cL_law 401 = .ok (.invokevirtual 56, 3) := by decide +kernel
theorem dL_law_404 : decode cL_law 404 = .ok (.aload_n 2, 1) := by decide +kernel
theorem dL_law_405 : decode cL_law 405 = .ok (.invokevirtual 59, 3) := by decide +kernel
theorem dL_law_408 : decode cL_law 408 = .ok (.if_icmp .eq 523, 3) := by decide +kernel
theorem dL_law_411 : decode cL_law 411 = .ok (.iconst 0, 1) := by decide +kernel
theorem dL_law_412 : decode cL_law 412 = .ok (.ireturn, 1) := by decide +kernel
theorem dL_law_413 : decode cL_law 413 = .ok (.aload_n 1, 1) := by decide +kernel
theorem dL_law_414 : decode cL_law 414 = .ok (.invokevirtual 60, 3) := by decide +kernel
theorem dL_law_417 : decode cL_law 417 = .ok (.aload_n 2, 1) := by decide +kernel
theorem dL_law_418 : decode cL_law 418 = .ok (.invokevirtual 63, 3) := by decide +kernel
theorem dL_law_421 : decode cL_law 421 = .ok (.if_icmp .eq 510, 3) := by decide +kernel
theorem dL_law_424 : decode cL_law 424 = .ok (.iconst 0, 1) := by decide +kernel
theorem dL_law_425 : decode cL_law 425 = .ok (.ireturn, 1) := by decide +kernel
theorem dL_law_426 : decode cL_law 426 = .ok (.aload_n 1, 1) := by decide +kernel
theorem dL_law_427 : decode cL_law 427 = .ok (.aload_n 0, 1) := by decide +kernel
theorem dL_law_428 : decode cL_law 428 = .ok (.iload_n 3, 1) := by decide +kernel
theorem dL_law_429 : decode cL_law 429 = .ok (.iconst 1, 1) := by decide +kernel
theorem dL_law_430 : decode cL_law 430 = .ok (.iadd, 1) := by decide +kernel
theorem dL_law_431 : decode cL_law 431 = .ok (.iaload, 1) := by decide +kernel
theorem dL_law_432 : decode cL_law 432 = .ok (.invokevirtual 64, 3) := by decide +kernel
theorem dL_law_435 : decode cL_law 435 = .ok (.aload_n 2, 1) := by decide +kernel
theorem dL_law_436 : decode cL_law 436 = .ok (.aload_n 0, 1) := by decide +kernel
theorem dL_law_437 : decode cL_law 437 = .ok (.iload_n 3, 1) := by decide +kernel
theorem dL_law_438 : decode cL_law 438 = .ok (.iconst 1, 1) := by decide +kernel
theorem dL_law_439 : decode cL_law 439 = .ok (.iadd, 1) := by decide +kernel
theorem dL_law_440 : decode cL_law 440 = .ok (.iaload, 1) := by decide +kernel
theorem dL_law_441 : decode cL_law 441 = .ok (.invokevirtual 67, 3) := by decide +kernel
theorem dL_law_444 : decode cL_law 444 = .ok (.if_icmp .eq 487, 3) := by decide +kernel
theorem dL_law_447 : decode cL_law 447 = .ok (.iconst 0, 1) := by decide +kernel
theorem dL_law_448 : decode cL_law 448 = .ok (.ireturn, 1) := by decide +kernel
theorem dL_law_449 : decode cL_law 449 = .ok (.aload_n 1, 1) := by decide +kernel
theorem dL_law_450 : decode cL_law 450 = .ok (.aload_n 0, 1) := by decide +kernel
theorem dL_law_451 : decode cL_law 451 = .ok (.iload_n 3, 1) := by decide +kernel
theorem dL_law_452 : decode cL_law 452 = .ok (.iconst 1, 1) := by decide +kernel
theorem dL_law_453 : decode cL_law 453 = .ok (.iadd, 1) := by decide +kernel
theorem dL_law_454 : decode cL_law 454 = .ok (.iaload, 1) := by decide +kernel
theorem dL_law_455 : decode cL_law 455 = .ok (.aload_n 0, 1) := by decide +kernel
theorem dL_law_456 : decode cL_law 456 = .ok (.iload_n 3, 1) := by decide +kernel
theorem dL_law_457 : decode cL_law 457 = .ok (.iconst 2, 1) := by decide +kernel
theorem dL_law_458 : decode cL_law 458 = .ok (.iadd, 1) := by decide +kernel
theorem dL_law_459 : decode cL_law 459 = .ok (.iaload, 1) := by decide +kernel
theorem dL_law_460 : decode cL_law 460 = .ok (.aload_n 0, 1) := by decide +kernel
theorem dL_law_461 : decode cL_law 461 = .ok (.iload_n 3, 1) := by decide +kernel
theorem dL_law_462 : decode cL_law 462 = .ok (.iconst 3, 1) := by decide +kernel
theorem dL_law_463 : decode cL_law 463 = .ok (.iadd, 1) := by decide +kernel
theorem dL_law_464 : decode cL_law 464 = .ok (.iaload, 1) := by decide +kernel
theorem dL_law_465 : decode cL_law 465 = .ok (.aload_n 0, 1) := by decide +kernel
theorem dL_law_466 : decode cL_law 466 = .ok (.iload_n 3, 1) := by decide +kernel
theorem dL_law_467 : decode cL_law 467 = .ok (.iconst 4, 1) := by decide +kernel
theorem dL_law_468 : decode cL_law 468 = .ok (.iadd, 1) := by decide +kernel
theorem dL_law_469 : decode cL_law 469 = .ok (.iaload, 1) := by decide +kernel
theorem dL_law_470 : decode cL_law 470 = .ok (.invokevirtual 68, 3) := by decide +kernel
theorem dL_law_473 : decode cL_law 473 = .ok (.aload_n 2, 1) := by decide +kernel
theorem dL_law_474 : decode cL_law 474 = .ok (.aload_n 0, 1) := by decide +kernel
theorem dL_law_475 : decode cL_law 475 = .ok (.iload_n 3, 1) := by decide +kernel
theorem dL_law_476 : decode cL_law 476 = .ok (.iconst 1, 1) := by decide +kernel
theorem dL_law_477 : decode cL_law 477 = .ok (.iadd, 1) := by decide +kernel
theorem dL_law_478 : decode cL_law 478 = .ok (.iaload, 1) := by decide +kernel
theorem dL_law_479 : decode cL_law 479 = .ok (.aload_n 0, 1) := by decide +kernel
theorem dL_law_480 : decode cL_law 480 = .ok (.iload_n 3, 1) := by decide +kernel
theorem dL_law_481 : decode cL_law 481 = .ok (.iconst 2, 1) := by decide +kernel
theorem dL_law_482 : decode cL_law 482 = .ok (.iadd, 1) := by decide +kernel
theorem dL_law_483 : decode cL_law 483 = .ok (.iaload, 1) := by decide +kernel
theorem dL_law_484 : decode cL_law 484 = .ok (.aload_n 0, 1) := by decide +kernel
theorem dL_law_485 : decode cL_law 485 = .ok (.iload_n 3, 1) := by decide +kernel
theorem dL_law_486 : decode cL_law 486 = .ok (.iconst 3, 1) := by decide +kernel
theorem dL_law_487 : decode cL_law 487 = .ok (.iadd, 1) := by decide +kernel
theorem dL_law_488 : decode cL_law 488 = .ok (.iaload, 1) := by decide +kernel
theorem dL_law_489 : decode cL_law 489 = .ok (.aload_n 0, 1) := by decide +kernel
theorem dL_law_490 : decode cL_law 490 = .ok (.iload_n 3, 1) := by decide +kernel
theorem dL_law_491 : decode cL_law 491 = .ok (.iconst 4, 1) := by decide +kernel
theorem dL_law_492 : decode cL_law 492 = .ok (.iadd, 1) := by decide +kernel
theorem dL_law_493 : decode cL_law 493 = .ok (.iaload, 1) := by decide +kernel
theorem dL_law_494 : decode cL_law 494 = .ok (.invokevirtual 72, 3) := by decide +kernel
theorem dL_law_497 : decode cL_law 497 = .ok (.if_icmp .eq 434, 3) := by decide +kernel
theorem dL_law_500 : decode cL_law 500 = .ok (.iconst 0, 1) := by decide +kernel
theorem dL_law_501 : decode cL_law 501 = .ok (.ireturn, 1) := by decide +kernel
theorem dL_law_502 : decode cL_law 502 = .ok (.aload_n 1, 1) := by decide +kernel
theorem dL_law_503 : decode cL_law 503 = .ok (.aload_n 0, 1) := by decide +kernel
theorem dL_law_504 : decode cL_law 504 = .ok (.iload_n 3, 1) := by decide +kernel
theorem dL_law_505 : decode cL_law 505 = .ok (.iconst 1, 1) := by decide +kernel
theorem dL_law_506 : decode cL_law 506 = .ok (.iadd, 1) := by decide +kernel
theorem dL_law_507 : decode cL_law 507 = .ok (.iaload, 1) := by decide +kernel
theorem dL_law_508 : decode cL_law 508 = .ok (.invokevirtual 73, 3) := by decide +kernel
theorem dL_law_511 : decode cL_law 511 = .ok (.aload_n 2, 1) := by decide +kernel
theorem dL_law_512 : decode cL_law 512 = .ok (.aload_n 0, 1) := by decide +kernel
theorem dL_law_513 : decode cL_law 513 = .ok (.iload_n 3, 1) := by decide +kernel
theorem dL_law_514 : decode cL_law 514 = .ok (.iconst 1, 1) := by decide +kernel
theorem dL_law_515 : decode cL_law 515 = .ok (.iadd, 1) := by decide +kernel
theorem dL_law_516 : decode cL_law 516 = .ok (.iaload, 1) := by decide +kernel
theorem dL_law_517 : decode cL_law 517 = .ok (.invokevirtual 76, 3) := by decide +kernel
theorem dL_law_520 : decode cL_law 520 = .ok (.if_icmp .eq 411, 3) := by decide +kernel
theorem dL_law_523 : decode cL_law 523 = .ok (.iconst 0, 1) := by decide +kernel
theorem dL_law_524 : decode cL_law 524 = .ok (.ireturn, 1) := by decide +kernel
theorem dL_law_525 : decode cL_law 525 = .ok (.aload_n 1, 1) := by decide +kernel
theorem dL_law_526 : decode cL_law 526 = .ok (.aload_n 0, 1) := by decide +kernel
theorem dL_law_527 : decode cL_law 527 = .ok (.iload_n 3, 1) := by decide +kernel
theorem dL_law_528 : decode cL_law 528 = .ok (.iconst 1, 1) := by decide +kernel
theorem dL_law_529 : decode cL_law 529 = .ok (.iadd, 1) := by decide +kernel
theorem dL_law_530 : decode cL_law 530 = .ok (.iaload, 1) := by decide +kernel
theorem dL_law_531 : decode cL_law 531 = .ok (.invokevirtual 77, 3) := by decide +kernel
theorem dL_law_534 : decode cL_law 534 = .ok (.aload_n 2, 1) := by decide +kernel
theorem dL_law_535 : decode cL_law 535 = .ok (.aload_n 0, 1) := by decide +kernel
theorem dL_law_536 : decode cL_law 536 = .ok (.iload_n 3, 1) := by decide +kernel
theorem dL_law_537 : decode cL_law 537 = .ok (.iconst 1, 1) := by decide +kernel
theorem dL_law_538 : decode cL_law 538 = .ok (.iadd, 1) := by decide +kernel
theorem dL_law_539 : decode cL_law 539 = .ok (.iaload, 1) := by decide +kernel
theorem dL_law_540 : decode cL_law 540 = .ok (.invokevirtual 80, 3) := by decide +kernel
theorem dL_law_543 : decode cL_law 543 = .ok (.if_icmp .eq 388, 3) := by decide +kernel
theorem dL_law_546 : decode cL_law 546 = .ok (.iconst 0, 1) := by decide +kernel
theorem dL_law_547 : decode cL_law 547 = .ok (.ireturn, 1) := by decide +kernel
theorem dL_law_548 : decode cL_law 548 = .ok (.aload_n 1, 1) := by decide +kernel
theorem dL_law_549 : decode cL_law 549 = .ok (.aload_n 0, 1) := by decide +kernel
theorem dL_law_550 : decode cL_law 550 = .ok (.iload_n 3, 1) := by decide +kernel
theorem dL_law_551 : decode cL_law 551 = .ok (.iconst 1, 1) := by decide +kernel
theorem dL_law_552 : decode cL_law 552 = .ok (.iadd, 1) := by decide +kernel
theorem dL_law_553 : decode cL_law 553 = .ok (.iaload, 1) := by decide +kernel
theorem dL_law_554 : decode cL_law 554 = .ok (.aload_n 0, 1) := by decide +kernel
theorem dL_law_555 : decode cL_law 555 = .ok (.iload_n 3, 1) := by decide +kernel
theorem dL_law_556 : decode cL_law 556 = .ok (.iconst 2, 1) := by decide +kernel
theorem dL_law_557 : decode cL_law 557 = .ok (.iadd, 1) := by decide +kernel
theorem dL_law_558 : decode cL_law 558 = .ok (.iaload, 1) := by decide +kernel
theorem dL_law_559 : decode cL_law 559 = .ok (.invokevirtual 81, 3) := by decide +kernel
theorem dL_law_562 : decode cL_law 562 = .ok (.aload_n 2, 1) := by decide +kernel
theorem dL_law_563 : decode cL_law 563 = .ok (.aload_n 0, 1) := by decide +kernel
theorem dL_law_564 : decode cL_law 564 = .ok (.iload_n 3, 1) := by decide +kernel
theorem dL_law_565 : decode cL_law 565 = .ok (.iconst 1, 1) := by decide +kernel
theorem dL_law_566 : decode cL_law 566 = .ok (.iadd, 1) := by decide +kernel
theorem dL_law_567 : decode cL_law 567 = .ok (.iaload, 1) := by decide +kernel
theorem dL_law_568 : decode cL_law 568 = .ok (.aload_n 0, 1) := by decide +kernel
theorem dL_law_569 : decode cL_law 569 = .ok (.iload_n 3, 1) := by decide +kernel
theorem dL_law_570 : decode cL_law 570 = .ok (.iconst 2, 1) := by decide +kernel
theorem dL_law_571 : decode cL_law 571 = .ok (.iadd, 1) := by decide +kernel
theorem dL_law_572 : decode cL_law 572 = .ok (.iaload, 1) := by decide +kernel
theorem dL_law_573 : decode cL_law 573 = .ok (.invokevirtual 84, 3) := by decide +kernel
theorem dL_law_576 : decode cL_law 576 = .ok (.if_icmp .eq 355, 3) := by decide +kernel
theorem dL_law_579 : decode cL_law 579 = .ok (.iconst 0, 1) := by decide +kernel
theorem dL_law_580 : decode cL_law 580 = .ok (.ireturn, 1) := by decide +kernel
theorem dL_law_581 : decode cL_law 581 = .ok (.aload_n 1, 1) := by decide +kernel
theorem dL_law_582 : decode cL_law 582 = .ok (.aload_n 0, 1) := by decide +kernel
theorem dL_law_583 : decode cL_law 583 = .ok (.iload_n 3, 1) := by decide +kernel
theorem dL_law_584 : decode cL_law 584 = .ok (.iconst 1, 1) := by decide +kernel
theorem dL_law_585 : decode cL_law 585 = .ok (.iadd, 1) := by decide +kernel
theorem dL_law_586 : decode cL_law 586 = .ok (.iaload, 1) := by decide +kernel
theorem dL_law_587 : decode cL_law 587 = .ok (.aload_n 0, 1) := by decide +kernel
theorem dL_law_588 : decode cL_law 588 = .ok (.iload_n 3, 1) := by decide +kernel
theorem dL_law_589 : decode cL_law 589 = .ok (.iconst 2, 1) := by decide +kernel
theorem dL_law_590 : decode cL_law 590 = .ok (.iadd, 1) := by decide +kernel
theorem dL_law_591 : decode cL_law 591 = .ok (.iaload, 1) := by decide +kernel
theorem dL_law_592 : decode cL_law 592 = .ok (.aload_n 0, 1) := by decide +kernel
theorem dL_law_593 : decode cL_law 593 = .ok (.iload_n 3, 1) := by decide +kernel
theorem dL_law_594 : decode cL_law 594 = .ok (.iconst 3, 1) := by decide +kernel
theorem dL_law_595 : decode cL_law 595 = .ok (.iadd, 1) := by decide +kernel
theorem dL_law_596 : decode cL_law 596 = .ok (.iaload, 1) := by decide +kernel
theorem dL_law_597 : decode cL_law 597 = .ok (.invokevirtual 85, 3) := by decide +kernel
theorem dL_law_600 : decode cL_law 600 = .ok (.aload_n 2, 1) := by decide +kernel
theorem dL_law_601 : decode cL_law 601 = .ok (.aload_n 0, 1) := by decide +kernel
theorem dL_law_602 : decode cL_law 602 = .ok (.iload_n 3, 1) := by decide +kernel
theorem dL_law_603 : decode cL_law 603 = .ok (.iconst 1, 1) := by decide +kernel
theorem dL_law_604 : decode cL_law 604 = .ok (.iadd, 1) := by decide +kernel
theorem dL_law_605 : decode cL_law 605 = .ok (.iaload, 1) := by decide +kernel
theorem dL_law_606 : decode cL_law 606 = .ok (.aload_n 0, 1) := by decide +kernel
theorem dL_law_607 : decode cL_law 607 = .ok (.iload_n 3, 1) := by decide +kernel
theorem dL_law_608 : decode cL_law 608 = .ok (.iconst 2, 1) := by decide +kernel
theorem dL_law_609 : decode cL_law 609 = .ok (.iadd, 1) := by decide +kernel
theorem dL_law_610 : decode cL_law 610 = .ok (.iaload, 1) := by decide +kernel
theorem dL_law_611 : decode cL_law 611 = .ok (.aload_n 0, 1) := by decide +kernel
theorem dL_law_612 : decode cL_law 612 = .ok (.iload_n 3, 1) := by decide +kernel
theorem dL_law_613 : decode cL_law 613 = .ok (.iconst 3, 1) := by decide +kernel
theorem dL_law_614 : decode cL_law 614 = .ok (.iadd, 1) := by decide +kernel
theorem dL_law_615 : decode cL_law 615 = .ok (.iaload, 1) := by decide +kernel
theorem dL_law_616 : decode cL_law 616 = .ok (.invokevirtual 89, 3) := by decide +kernel
theorem dL_law_619 : decode cL_law 619 = .ok (.if_icmp .eq 312, 3) := by decide +kernel
theorem dL_law_622 : decode cL_law 622 = .ok (.iconst 0, 1) := by decide +kernel
theorem dL_law_623 : decode cL_law 623 = .ok (.ireturn, 1) := by decide +kernel
theorem dL_law_624 : decode cL_law 624 = .ok (.aload_n 1, 1) := by decide +kernel
theorem dL_law_625 : decode cL_law 625 = .ok (.aload_n 0, 1) := by decide +kernel
theorem dL_law_626 : decode cL_law 626 = .ok (.iload_n 3, 1) := by decide +kernel
theorem dL_law_627 : decode cL_law 627 = .ok (.iconst 1, 1) := by decide +kernel
theorem dL_law_628 : decode cL_law 628 = .ok (.iadd, 1) := by decide +kernel
theorem dL_law_629 : decode cL_law 629 = .ok (.iaload, 1) := by decide +kernel
theorem dL_law_630 : decode cL_law 630 = .ok (.aload_n 0, 1) := by decide +kernel
theorem dL_law_631 : decode cL_law 631 = .ok (.iload_n 3, 1) := by decide +kernel
theorem dL_law_632 : decode cL_law 632 = .ok (.iconst 2, 1) := by decide +kernel
theorem dL_law_633 : decode cL_law 633 = .ok (.iadd, 1) := by decide +kernel
theorem dL_law_634 : decode cL_law 634 = .ok (.iaload, 1) := by decide +kernel
theorem dL_law_635 : decode cL_law 635 = .ok (.aload_n 0, 1) := by decide +kernel
theorem dL_law_636 : decode cL_law 636 = .ok (.iload_n 3, 1) := by decide +kernel
theorem dL_law_637 : decode cL_law 637 = .ok (.iconst 3, 1) := by decide +kernel
theorem dL_law_638 : decode cL_law 638 = .ok (.iadd, 1) := by decide +kernel
theorem dL_law_639 : decode cL_law 639 = .ok (.iaload, 1) := by decide +kernel
theorem dL_law_640 : decode cL_law 640 = .ok (.invokevirtual 90, 3) := by decide +kernel
theorem dL_law_643 : decode cL_law 643 = .ok (.aload_n 2, 1) := by decide +kernel
theorem dL_law_644 : decode cL_law 644 = .ok (.aload_n 0, 1) := by decide +kernel
theorem dL_law_645 : decode cL_law 645 = .ok (.iload_n 3, 1) := by decide +kernel
theorem dL_law_646 : decode cL_law 646 = .ok (.iconst 1, 1) := by decide +kernel
theorem dL_law_647 : decode cL_law 647 = .ok (.iadd, 1) := by decide +kernel
theorem dL_law_648 : decode cL_law 648 = .ok (.iaload, 1) := by decide +kernel
theorem dL_law_649 : decode cL_law 649 = .ok (.aload_n 0, 1) := by decide +kernel
theorem dL_law_650 : decode cL_law 650 = .ok (.iload_n 3, 1) := by decide +kernel
theorem dL_law_651 : decode cL_law 651 = .ok (.iconst 2, 1) := by decide +kernel
theorem dL_law_652 : decode cL_law 652 = .ok (.iadd, 1) := by decide +kernel
theorem dL_law_653 : decode cL_law 653 = .ok (.iaload, 1) := by decide +kernel
theorem dL_law_654 : decode cL_law 654 = .ok (.aload_n 0, 1) := by decide +kernel
theorem dL_law_655 : decode cL_law 655 = .ok (.iload_n 3, 1) := by decide +kernel
theorem dL_law_656 : decode cL_law 656 = .ok (.iconst 3, 1) := by decide +kernel
theorem dL_law_657 : decode cL_law 657 = .ok (.iadd, 1) := by decide +kernel
theorem dL_law_658 : decode cL_law 658 = .ok (.iaload, 1) := by decide +kernel
theorem dL_law_659 : decode cL_law 659 = .ok (.invokevirtual 93, 3) := by decide +kernel
theorem dL_law_662 : decode cL_law 662 = .ok (.if_icmp .eq 269, 3) := by decide +kernel
theorem dL_law_665 : decode cL_law 665 = .ok (.iconst 0, 1) := by decide +kernel
theorem dL_law_666 : decode cL_law 666 = .ok (.ireturn, 1) := by decide +kernel
theorem dL_law_667 : decode cL_law 667 = .ok (.aload_n 1, 1) := by decide +kernel
theorem dL_law_668 : decode cL_law 668 = .ok (.invokevirtual 94, 3) := by decide +kernel
theorem dL_law_671 : decode cL_law 671 = .ok (.aload_n 2, 1) := by decide +kernel
theorem dL_law_672 : decode cL_law 672 = .ok (.invokevirtual 97, 3) := by decide +kernel
theorem dL_law_675 : decode cL_law 675 = .ok (.if_icmp .eq 256, 3) := by decide +kernel
theorem dL_law_678 : decode cL_law 678 = .ok (.iconst 0, 1) := by decide +kernel
theorem dL_law_679 : decode cL_law 679 = .ok (.ireturn, 1) := by decide +kernel
theorem dL_law_680 : decode cL_law 680 = .ok (.aload_n 1, 1) := by decide +kernel
theorem dL_law_681 : decode cL_law 681 = .ok (.invokevirtual 98, 3) := by decide +kernel
theorem dL_law_684 : decode cL_law 684 = .ok (.aload_n 2, 1) := by decide +kernel
theorem dL_law_685 : decode cL_law 685 = .ok (.invokevirtual 101, 3) := by decide +kernel
theorem dL_law_688 : decode cL_law 688 = .ok (.if_icmp .eq 243, 3) := by decide +kernel
theorem dL_law_691 : decode cL_law 691 = .ok (.iconst 0, 1) := by decide +kernel
theorem dL_law_692 : decode cL_law 692 = .ok (.ireturn, 1) := by decide +kernel
theorem dL_law_693 : decode cL_law 693 = .ok (.aload_n 1, 1) := by decide +kernel
theorem dL_law_694 : decode cL_law 694 = .ok (.aload_n 0, 1) := by decide +kernel
theorem dL_law_695 : decode cL_law 695 = .ok (.iload_n 3, 1) := by decide +kernel
theorem dL_law_696 : decode cL_law 696 = .ok (.iconst 1, 1) := by decide +kernel
theorem dL_law_697 : decode cL_law 697 = .ok (.iadd, 1) := by decide +kernel
theorem dL_law_698 : decode cL_law 698 = .ok (.iaload, 1) := by decide +kernel
theorem dL_law_699 : decode cL_law 699 = .ok (.invokevirtual 102, 3) := by decide +kernel
theorem dL_law_702 : decode cL_law 702 = .ok (.aload_n 2, 1) := by decide +kernel
theorem dL_law_703 : decode cL_law 703 = .ok (.aload_n 0, 1) := by decide +kernel
theorem dL_law_704 : decode cL_law 704 = .ok (.iload_n 3, 1) := by decide +kernel
theorem dL_law_705 : decode cL_law 705 = .ok (.iconst 1, 1) := by decide +kernel
theorem dL_law_706 : decode cL_law 706 = .ok (.iadd, 1) := by decide +kernel
theorem dL_law_707 : decode cL_law 707 = .ok (.iaload, 1) := by decide +kernel
theorem dL_law_708 : decode cL_law 708 = .ok (.invokevirtual 105, 3) := by decide +kernel
theorem dL_law_711 : decode cL_law 711 = .ok (.if_icmp .eq 220, 3) := by decide +kernel
theorem dL_law_714 : decode cL_law 714 = .ok (.iconst 0, 1) := by decide +kernel
theorem dL_law_715 : decode cL_law 715 = .ok (.ireturn, 1) := by decide +kernel
theorem dL_law_716 : decode cL_law 716 = .ok (.aload_n 1, 1) := by decide +kernel
theorem dL_law_717 : decode cL_law 717 = .ok (.aload_n 0, 1) := by decide +kernel
theorem dL_law_718 : decode cL_law 718 = .ok (.iload_n 3, 1) := by decide +kernel
theorem dL_law_719 : decode cL_law 719 = .ok (.iconst 1, 1) := by decide +kernel
theorem dL_law_720 : decode cL_law 720 = .ok (.iadd, 1) := by decide +kernel
theorem dL_law_721 : decode cL_law 721 = .ok (.iaload, 1) := by decide +kernel
theorem dL_law_722 : decode cL_law 722 = .ok (.aload_n 0, 1) := by decide +kernel
theorem dL_law_723 : decode cL_law 723 = .ok (.iload_n 3, 1) := by decide +kernel
theorem dL_law_724 : decode cL_law 724 = .ok (.iconst 2, 1) := by decide +kernel
theorem dL_law_725 : decode cL_law 725 = .ok (.iadd, 1) := by decide +kernel
theorem dL_law_726 : decode cL_law 726 = .ok (.iaload, 1) := by decide +kernel
theorem dL_law_727 : decode cL_law 727 = .ok (.invokevirtual 106, 3) := by decide +kernel
theorem dL_law_730 : decode cL_law 730 = .ok (.aload_n 2, 1) := by decide +kernel
theorem dL_law_731 : decode cL_law 731 = .ok (.aload_n 0, 1) := by decide +kernel
theorem dL_law_732 : decode cL_law 732 = .ok (.iload_n 3, 1) := by decide +kernel
theorem dL_law_733 : decode cL_law 733 = .ok (.iconst 1, 1) := by decide +kernel
theorem dL_law_734 : decode cL_law 734 = .ok (.iadd, 1) := by decide +kernel
theorem dL_law_735 : decode cL_law 735 = .ok (.iaload, 1) := by decide +kernel
theorem dL_law_736 : decode cL_law 736 = .ok (.aload_n 0, 1) := by decide +kernel
theorem dL_law_737 : decode cL_law 737 = .ok (.iload_n 3, 1) := by decide +kernel
theorem dL_law_738 : decode cL_law 738 = .ok (.iconst 2, 1) := by decide +kernel
theorem dL_law_739 : decode cL_law 739 = .ok (.iadd, 1) := by decide +kernel
theorem dL_law_740 : decode cL_law 740 = .ok (.iaload, 1) := by decide +kernel
theorem dL_law_741 : decode cL_law 741 = .ok (.invokevirtual 109, 3) := by decide +kernel
theorem dL_law_744 : decode cL_law 744 = .ok (.if_icmp .eq 187, 3) := by decide +kernel
theorem dL_law_747 : decode cL_law 747 = .ok (.iconst 0, 1) := by decide +kernel
theorem dL_law_748 : decode cL_law 748 = .ok (.ireturn, 1) := by decide +kernel
theorem dL_law_749 : decode cL_law 749 = .ok (.aload_n 1, 1) := by decide +kernel
theorem dL_law_750 : decode cL_law 750 = .ok (.aload_n 0, 1) := by decide +kernel
theorem dL_law_751 : decode cL_law 751 = .ok (.iload_n 3, 1) := by decide +kernel
theorem dL_law_752 : decode cL_law 752 = .ok (.iconst 1, 1) := by decide +kernel
theorem dL_law_753 : decode cL_law 753 = .ok (.iadd, 1) := by decide +kernel
theorem dL_law_754 : decode cL_law 754 = .ok (.iaload, 1) := by decide +kernel
theorem dL_law_755 : decode cL_law 755 = .ok (.aload_n 0, 1) := by decide +kernel
theorem dL_law_756 : decode cL_law 756 = .ok (.iload_n 3, 1) := by decide +kernel
theorem dL_law_757 : decode cL_law 757 = .ok (.iconst 2, 1) := by decide +kernel
theorem dL_law_758 : decode cL_law 758 = .ok (.iadd, 1) := by decide +kernel
theorem dL_law_759 : decode cL_law 759 = .ok (.iaload, 1) := by decide +kernel
theorem dL_law_760 : decode cL_law 760 = .ok (.aload_n 0, 1) := by decide +kernel
theorem dL_law_761 : decode cL_law 761 = .ok (.iload_n 3, 1) := by decide +kernel
theorem dL_law_762 : decode cL_law 762 = .ok (.iconst 3, 1) := by decide +kernel
theorem dL_law_763 : decode cL_law 763 = .ok (.iadd, 1) := by decide +kernel
theorem dL_law_764 : decode cL_law 764 = .ok (.iaload, 1) := by decide +kernel
theorem dL_law_765 : decode cL_law 765 = .ok (.ifCond .eq 7, 3) := by decide +kernel
theorem dL_law_768 : decode cL_law 768 = .ok (.iconst 1, 1) := by decide +kernel
theorem dL_law_769 : decode cL_law 769 = .ok (.goto 4, 3) := by decide +kernel
theorem dL_law_772 : decode cL_law 772 = .ok (.iconst 0, 1) := by decide +kernel
theorem dL_law_773 : decode cL_law 773 = .ok (.invokevirtual 110, 3) := by decide +kernel
theorem dL_law_776 : decode cL_law 776 = .ok (.aload_n 2, 1) := by decide +kernel
theorem dL_law_777 : decode cL_law 777 = .ok (.aload_n 0, 1) := by decide +kernel
theorem dL_law_778 : decode cL_law 778 = .ok (.iload_n 3, 1) := by decide +kernel
theorem dL_law_779 : decode cL_law 779 = .ok (.iconst 1, 1) := by decide +kernel
theorem dL_law_780 : decode cL_law 780 = .ok (.iadd, 1) := by decide +kernel
theorem dL_law_781 : decode cL_law 781 = .ok (.iaload, 1) := by decide +kernel
theorem dL_law_782 : decode cL_law 782 = .ok (.aload_n 0, 1) := by decide +kernel
theorem dL_law_783 : decode cL_law 783 = .ok (.iload_n 3, 1) := by decide +kernel
theorem dL_law_784 : decode cL_law 784 = .ok (.iconst 2, 1) := by decide +kernel
theorem dL_law_785 : decode cL_law 785 = .ok (.iadd, 1) := by decide +kernel
theorem dL_law_786 : decode cL_law 786 = .ok (.iaload, 1) := by decide +kernel
theorem dL_law_787 : decode cL_law 787 = .ok (.aload_n 0, 1) := by decide +kernel
theorem dL_law_788 : decode cL_law 788 = .ok (.iload_n 3, 1) := by decide +kernel
theorem dL_law_789 : decode cL_law 789 = .ok (.iconst 3, 1) := by decide +kernel
theorem dL_law_790 : decode cL_law 790 = .ok (.iadd, 1) := by decide +kernel
theorem dL_law_791 : decode cL_law 791 = .ok (.iaload, 1) := by decide +kernel
theorem dL_law_792 : decode cL_law 792 = .ok (.ifCond .eq 7, 3) := by decide +kernel
theorem dL_law_795 : decode cL_law 795 = .ok (.iconst 1, 1) := by decide +kernel
theorem dL_law_796 : decode cL_law 796 = .ok (.goto 4, 3) := by decide +kernel
theorem dL_law_799 : decode cL_law 799 = .ok (.iconst 0, 1) := by decide +kernel
theorem dL_law_800 : decode cL_law 800 = .ok (.invokevirtual 114, 3) := by decide +kernel
theorem dL_law_803 : decode cL_law 803 = .ok (.if_icmp .eq 128, 3) := by decide +kernel
theorem dL_law_806 : decode cL_law 806 = .ok (.iconst 0, 1) := by decide +kernel
theorem dL_law_807 : decode cL_law 807 = .ok (.ireturn, 1) := by decide +kernel
theorem dL_law_808 : decode cL_law 808 = .ok (.aload_n 1, 1) := by decide +kernel
theorem dL_law_809 : decode cL_law 809 = .ok (.aload_n 0, 1) := by decide +kernel
theorem dL_law_810 : decode cL_law 810 = .ok (.iload_n 3, 1) := by decide +kernel
theorem dL_law_811 : decode cL_law 811 = .ok (.iconst 1, 1) := by decide +kernel
theorem dL_law_812 : decode cL_law 812 = .ok (.iadd, 1) := by decide +kernel
theorem dL_law_813 : decode cL_law 813 = .ok (.iaload, 1) := by decide +kernel
theorem dL_law_814 : decode cL_law 814 = .ok (.i2l, 1) := by decide +kernel
theorem dL_law_815 : decode cL_law 815 = .ok (.bipush 32, 2) := by decide +kernel
theorem dL_law_817 : decode cL_law 817 = .ok (.lshl, 1) := by decide +kernel
theorem dL_law_818 : decode cL_law 818 = .ok (.aload_n 0, 1) := by decide +kernel
theorem dL_law_819 : decode cL_law 819 = .ok (.iload_n 3, 1) := by decide +kernel
theorem dL_law_820 : decode cL_law 820 = .ok (.iconst 2, 1) := by decide +kernel
theorem dL_law_821 : decode cL_law 821 = .ok (.iadd, 1) := by decide +kernel
theorem dL_law_822 : decode cL_law 822 = .ok (.iaload, 1) := by decide +kernel
theorem dL_law_823 : decode cL_law 823 = .ok (.i2l, 1) := by decide +kernel
theorem dL_law_824 : decode cL_law 824 = .ok (.ldc2_w 115, 3) := by decide +kernel
theorem dL_law_827 : decode cL_law 827 = .ok (.land, 1) := by decide +kernel
theorem dL_law_828 : decode cL_law 828 = .ok (.lor, 1) := by decide +kernel
theorem dL_law_829 : decode cL_law 829 = .ok (.invokevirtual 117, 3) := by decide +kernel
theorem dL_law_832 : decode cL_law 832 = .ok (.aload_n 2, 1) := by decide +kernel
theorem dL_law_833 : decode cL_law 833 = .ok (.aload_n 0, 1) := by decide +kernel
theorem dL_law_834 : decode cL_law 834 = .ok (.iload_n 3, 1) := by decide +kernel
theorem dL_law_835 : decode cL_law 835 = .ok (.iconst 1, 1) := by decide +kernel
theorem dL_law_836 : decode cL_law 836 = .ok (.iadd, 1) := by decide +kernel
theorem dL_law_837 : decode cL_law 837 = .ok (.iaload, 1) := by decide +kernel
theorem dL_law_838 : decode cL_law 838 = .ok (.i2l, 1) := by decide +kernel
theorem dL_law_839 : decode cL_law 839 = .ok (.bipush 32, 2) := by decide +kernel
theorem dL_law_841 : decode cL_law 841 = .ok (.lshl, 1) := by decide +kernel
theorem dL_law_842 : decode cL_law 842 = .ok (.aload_n 0, 1) := by decide +kernel
theorem dL_law_843 : decode cL_law 843 = .ok (.iload_n 3, 1) := by decide +kernel
theorem dL_law_844 : decode cL_law 844 = .ok (.iconst 2, 1) := by decide +kernel
theorem dL_law_845 : decode cL_law 845 = .ok (.iadd, 1) := by decide +kernel
theorem dL_law_846 : decode cL_law 846 = .ok (.iaload, 1) := by decide +kernel
theorem dL_law_847 : decode cL_law 847 = .ok (.i2l, 1) := by decide +kernel
theorem dL_law_848 : decode cL_law 848 = .ok (.ldc2_w 115, 3) := by decide +kernel
theorem dL_law_851 : decode cL_law 851 = .ok (.land, 1) := by decide +kernel
theorem dL_law_852 : decode cL_law 852 = .ok (.lor, 1) := by decide +kernel
theorem dL_law_853 : decode cL_law 853 = .ok (.invokevirtual 121, 3) := by decide +kernel
theorem dL_law_856 : decode cL_law 856 = .ok (.lcmp, 1) := by decide +kernel
theorem dL_law_857 : decode cL_law 857 = .ok (.ifCond .eq 74, 3) := by decide +kernel
theorem dL_law_860 : decode cL_law 860 = .ok (.iconst 0, 1) := by decide +kernel
theorem dL_law_861 : decode cL_law 861 = .ok (.ireturn, 1) := by decide +kernel
theorem dL_law_862 : decode cL_law 862 = .ok (.aload_n 1, 1) := by decide +kernel
theorem dL_law_863 : decode cL_law 863 = .ok (.aload_n 0, 1) := by decide +kernel
theorem dL_law_864 : decode cL_law 864 = .ok (.iload_n 3, 1) := by decide +kernel
theorem dL_law_865 : decode cL_law 865 = .ok (.iconst 1, 1) := by decide +kernel
theorem dL_law_866 : decode cL_law 866 = .ok (.iadd, 1) := by decide +kernel
theorem dL_law_867 : decode cL_law 867 = .ok (.iaload, 1) := by decide +kernel
theorem dL_law_868 : decode cL_law 868 = .ok (.invokevirtual 122, 3) := by decide +kernel
theorem dL_law_871 : decode cL_law 871 = .ok (.aload_n 2, 1) := by decide +kernel
theorem dL_law_872 : decode cL_law 872 = .ok (.aload_n 0, 1) := by decide +kernel
theorem dL_law_873 : decode cL_law 873 = .ok (.iload_n 3, 1) := by decide +kernel
theorem dL_law_874 : decode cL_law 874 = .ok (.iconst 1, 1) := by decide +kernel
theorem dL_law_875 : decode cL_law 875 = .ok (.iadd, 1) := by decide +kernel
theorem dL_law_876 : decode cL_law 876 = .ok (.iaload, 1) := by decide +kernel
theorem dL_law_877 : decode cL_law 877 = .ok (.invokevirtual 125, 3) := by decide +kernel
theorem dL_law_880 : decode cL_law 880 = .ok (.if_icmp .eq 51, 3) := by decide +kernel
theorem dL_law_883 : decode cL_law 883 = .ok (.iconst 0, 1) := by decide +kernel
theorem dL_law_884 : decode cL_law 884 = .ok (.ireturn, 1) := by decide +kernel
theorem dL_law_885 : decode cL_law 885 = .ok (.aload_n 1, 1) := by decide +kernel
theorem dL_law_886 : decode cL_law 886 = .ok (.aload_n 0, 1) := by decide +kernel
theorem dL_law_887 : decode cL_law 887 = .ok (.iload_n 3, 1) := by decide +kernel
theorem dL_law_888 : decode cL_law 888 = .ok (.iconst 1, 1) := by decide +kernel
theorem dL_law_889 : decode cL_law 889 = .ok (.iadd, 1) := by decide +kernel
theorem dL_law_890 : decode cL_law 890 = .ok (.iaload, 1) := by decide +kernel
theorem dL_law_891 : decode cL_law 891 = .ok (.invokevirtual 126, 3) := by decide +kernel
theorem dL_law_894 : decode cL_law 894 = .ok (.aload_n 2, 1) := by decide +kernel
theorem dL_law_895 : decode cL_law 895 = .ok (.aload_n 0, 1) := by decide +kernel
theorem dL_law_896 : decode cL_law 896 = .ok (.iload_n 3, 1) := by decide +kernel
theorem dL_law_897 : decode cL_law 897 = .ok (.iconst 1, 1) := by decide +kernel
theorem dL_law_898 : decode cL_law 898 = .ok (.iadd, 1) := by decide +kernel
theorem dL_law_899 : decode cL_law 899 = .ok (.iaload, 1) := by decide +kernel
theorem dL_law_900 : decode cL_law 900 = .ok (.invokevirtual 129, 3) := by decide +kernel
theorem dL_law_903 : decode cL_law 903 = .ok (.if_icmp .eq 28, 3) := by decide +kernel
theorem dL_law_906 : decode cL_law 906 = .ok (.iconst 0, 1) := by decide +kernel
theorem dL_law_907 : decode cL_law 907 = .ok (.ireturn, 1) := by decide +kernel
theorem dL_law_908 : decode cL_law 908 = .ok (.aload_n 1, 1) := by decide +kernel
theorem dL_law_909 : decode cL_law 909 = .ok (.aload_n 0, 1) := by decide +kernel
theorem dL_law_910 : decode cL_law 910 = .ok (.iload_n 3, 1) := by decide +kernel
theorem dL_law_911 : decode cL_law 911 = .ok (.iconst 1, 1) := by decide +kernel
theorem dL_law_912 : decode cL_law 912 = .ok (.iadd, 1) := by decide +kernel
theorem dL_law_913 : decode cL_law 913 = .ok (.iaload, 1) := by decide +kernel
theorem dL_law_914 : decode cL_law 914 = .ok (.invokevirtual 130, 3) := by decide +kernel
theorem dL_law_917 : decode cL_law 917 = .ok (.aload_n 2, 1) := by decide +kernel
theorem dL_law_918 : decode cL_law 918 = .ok (.aload_n 0, 1) := by decide +kernel
theorem dL_law_919 : decode cL_law 919 = .ok (.iload_n 3, 1) := by decide +kernel
theorem dL_law_920 : decode cL_law 920 = .ok (.iconst 1, 1) := by decide +kernel
theorem dL_law_921 : decode cL_law 921 = .ok (.iadd, 1) := by decide +kernel
theorem dL_law_922 : decode cL_law 922 = .ok (.iaload, 1) := by decide +kernel
theorem dL_law_923 : decode cL_law 923 = .ok (.invokevirtual 133, 3) := by decide +kernel
theorem dL_law_926 : decode cL_law 926 = .ok (.if_icmp .eq 5, 3) := by decide +kernel
theorem dL_law_929 : decode cL_law 929 = .ok (.iconst 0, 1) := by decide +kernel
theorem dL_law_930 : decode cL_law 930 = .ok (.ireturn, 1) := by decide +kernel
theorem dL_law_931 : decode cL_law 931 = .ok (.iinc 3 5, 3) := by decide +kernel
theorem dL_law_934 : decode cL_law 934 = .ok (.goto (-916), 3) := by decide +kernel
theorem dL_law_937 : decode cL_law 937 = .ok (.iconst 1, 1) := by decide +kernel
theorem dL_law_938 : decode cL_law 938 = .ok (.ireturn, 1) := by decide +kernel
end
section
/-! A memory of numbered cells: what this proof says of the heap. A cell's kind and length stand in a list that never changes (ly); what the cells hold is a triple of functions (numbers, longs, references). -/
abbrev Mm : Type := (Nat → Nat → Int32) × (Nat → Nat → Int64) × (Nat → Nat → Option Nat)
abbrev CtxT : Type := Nat × va_G × (Nat → ClassId)
/-- the types of an object's fields: 0 int, 1 long, else a reference -/
def tcs (kd : Nat) : List Nat := match kd with
  | 0 => [0, 2]
  | 1 => [2, 2, 2, 2]
  | 2 => [0, 0, 0, 0, 2, 2, 2, 2]
  | 3 => [2, 2, 0, 0, 0]
  | 4 => [0, 2, 2, 2, 2, 2]
  | 5 => [2, 0]
  | 6 => [0, 0, 2, 2, 2, 2, 2]
  | 7 => [2, 0, 2, 2, 2, 2, 2, 2, 2, 2, 1]
  | _ => [0, 2, 0, 0, 0, 0, 0, 2, 2, 2, 0, 0, 0, 2, 2, 2, 2, 2, 2, 0, 2, 2, 0, 2, 2, 2, 1, 2, 2, 0, 0]
abbrev lyTown : List (Nat × Nat) := [(6, 0), (9, 4), (9, 4), (9, 5), (9, 5), (9, 5)]
abbrev lyLaw : List (Nat × Nat) := [(2, 0), (9, 4), (9, 4), (9, 4), (9, 4)]
def ly : List (Nat × Nat) := [(7, 0), (9, 60), (3, 0)] ++ lyLaw ++ lyTown ++ lyLaw ++ lyTown ++ lyTown ++ [(0, 0), (11, 14)] ++ (List.replicate 14 lyTown).flatten ++ [(5, 0), (11, 2)] ++ lyTown ++ lyTown
  ++ [(1, 0), (9, 7), (12, 8), (9, 5), (9, 5), (9, 5), (9, 5), (9, 5), (9, 5), (9, 5), (9, 5), (9, 5), (9, 5), (4, 0), (9, 6), (9, 6), (9, 6), (9, 5), (9, 4)]
  ++ [(8, 0), (9, 60), (9, 4), (9, 16), (9, 15), (9, 4), (9, 16), (9, 15), (9, 25), (9, 25), (9, 350), (9, 50), (10, 2), (9, 6), (9, 6), (9, 6), (9, 4), (9, 5)]
def lk (a : Nat) : Nat × Nat := ly.getD a (99, 0)
theorem lk_lt {a : Nat} (h : (lk a).1 ≠ 99) : a < 168 := by
  rcases Nat.lt_or_ge a 168 with q | q
  · exact q
  · refine absurd ?_ h
    unfold lk
    rw [List.getD_eq_getElem?_getD, List.getElem?_eq_none (by rw [show ly.length = 168 from by decide +kernel]; exact q)]
    rfl
def fv (b : Nat) (M : Mm) (a k t : Nat) : Value := if t = 0 then .int (M.1 a k) else if t = 1 then .long (M.2.1 a k) else va_rf ((M.2.2 a k).map (fun x => b + x))
def fvs (b : Nat) (M : Mm) (a : Nat) : Nat → List Nat → List Value
  | _, [] => []
  | k, t :: ts => fv b M a k t :: fvs b M a (k + 1) ts
theorem fvs_get (b : Nat) (M : Mm) (a : Nat) : ∀ (ts : List Nat) (j k : Nat), (fvs b M a j ts)[k]? = (ts[k]?).map (fun t => fv b M a (j + k) t)
  | [], j, k => by simp [fvs]
  | t :: ts, j, 0 => by simp [fvs]
  | t :: ts, j, k + 1 => by
    simp only [fvs, List.getElem?_cons_succ]
    rw [fvs_get b M a ts (j + 1) k]
    congr 2
    funext x
    congr 1
    omega
theorem fvs_len (b : Nat) (M : Mm) (a : Nat) : ∀ (ts : List Nat) (j : Nat), (fvs b M a j ts).length = ts.length
  | [], j => rfl
  | t :: ts, j => by simp only [fvs, List.length_cons]; rw [fvs_len b M a ts (j + 1)]
def ce (K : CtxT) (M : Mm) (a : Nat) : va_E :=
  if (lk a).1 < 9 then .inr ((lk a).1, fvs K.1 M a 0 (tcs (lk a).1))
  else if (lk a).1 < 11 then .inl (K.2.2 (lk a).1, (lk a).2, .inl (M.1 a))
  else .inl (K.2.2 (lk a).1, (lk a).2, .inr (.inr (.inr (.inr (fun j => (M.2.2 a j).map (fun x => K.1 + x))))))
def wo (K : CtxT) (M : Mm) (nx : Nat) : va_W := (List.range nx).map fun a => (K.1 + a, ce K M a)
theorem wo_get {K : CtxT} {M : Mm} {nx a : Nat} (h : a < nx) : (wo K M nx)[a]? = some (K.1 + a, ce K M a) := by
  unfold wo
  rw [List.getElem?_map, List.getElem?_range h]
  rfl
theorem wo_some {K : CtxT} {M : Mm} {nx i : Nat} {q : Nat × va_E} (h : (wo K M nx)[i]? = some q) : i < nx ∧ q = (K.1 + i, ce K M i) := by
  have hl : i < (wo K M nx).length := (List.getElem?_eq_some_iff.mp h).1
  have hn : i < nx := by simpa [wo] using hl
  rw [wo_get hn] at h
  exact ⟨hn, (Option.some.inj h).symm⟩
theorem wo_D (K : CtxT) (M : Mm) (nx : Nat) : va_D (fun q : Nat => K.1 ≤ q) (wo K M nx) := by
  refine ⟨fun i j p q hi hj hpq => ?_, fun k q hk => ?_⟩
  · obtain ⟨-, rfl⟩ := wo_some hi
    obtain ⟨-, rfl⟩ := wo_some hj
    have : K.1 + i = K.1 + j := hpq
    omega
  · obtain ⟨-, rfl⟩ := wo_some hk
    exact Nat.le_add_right _ _
/-- one cell changed -/
theorem wo_set {K : CtxT} {M M' : Mm} {nx a : Nat} {e : va_E} (he : e = ce K M' a) (ho : ∀ b, b ≠ a → ce K M' b = ce K M b) : (wo K M nx).set a (K.1 + a, e) = wo K M' nx := by
  subst he
  apply List.ext_getElem?
  intro i
  rw [List.getElem?_set]
  by_cases hi : a = i
  · subst hi
    rw [if_pos rfl]
    by_cases hl : a < nx
    · rw [wo_get hl, if_pos (by simpa [wo] using hl)]
    · rw [if_neg (by simpa [wo] using hl), List.getElem?_eq_none (by simp [wo]; omega)]
  · rw [if_neg hi]
    by_cases hl : i < nx
    · rw [wo_get hl, wo_get hl, ho i (Ne.symm hi)]
    · rw [List.getElem?_eq_none (by simp [wo]; omega), List.getElem?_eq_none (by simp [wo]; omega)]
theorem wo_push (K : CtxT) (M : Mm) (nx : Nat) : wo K M nx ++ [(K.1 + nx, ce K M nx)] = wo K M (nx + 1) := by
  unfold wo
  rw [List.range_succ, List.map_append]
  rfl
theorem ce_congr {K : CtxT} {M M' : Mm} {b : Nat} (h1 : ∀ k, M'.1 b k = M.1 b k) (h2 : ∀ k, M'.2.1 b k = M.2.1 b k) (h3 : ∀ k, M'.2.2 b k = M.2.2 b k) : ce K M' b = ce K M b := by
  have f1 : M'.1 b = M.1 b := funext h1
  have f3 : M'.2.2 b = M.2.2 b := funext h3
  have g : ∀ (ts : List Nat) (j : Nat), fvs K.1 M' b j ts = fvs K.1 M b j ts := by
    intro ts
    induction ts with
    | nil => intro j; rfl
    | cons t ts ih =>
      intro j
      simp only [fvs, fv, h1, h2, h3]
      rw [ih]
  unfold ce
  rw [g, f1]
  simp only [h3]
/-! what a write does -/
def wI (M : Mm) (a k : Nat) (x : Int32) : Mm := (fun b j => if b = a ∧ j = k then x else M.1 b j, M.2)
def wJ (M : Mm) (a k : Nat) (x : Int64) : Mm := (M.1, fun b j => if b = a ∧ j = k then x else M.2.1 b j, M.2.2)
def wR (M : Mm) (a k : Nat) (x : Option Nat) : Mm := (M.1, M.2.1, fun b j => if b = a ∧ j = k then x else M.2.2 b j)
/-- n numbers from the place sp of a0 on to the place dp of a on -/
def wC (M : Mm) (a0 sp a dp n : Nat) : Mm := (fun b j => if b = a ∧ dp ≤ j ∧ j < dp + n then M.1 a0 (sp + (j - dp)) else M.1 b j, M.2)
abbrev rI (M : Mm) (a k : Nat) : Int32 := M.1 a k
abbrev rJ (M : Mm) (a k : Nat) : Int64 := M.2.1 a k
abbrev rR (M : Mm) (a k : Nat) : Option Nat := M.2.2 a k
theorem fvs_set (b : Nat) (M M' : Mm) (a : Nat) (v : Value) : ∀ (ts : List Nat) (j k : Nat), (∀ t i, i ≠ k → fv b M' a (j + i) t = fv b M a (j + i) t) → (∀ t, ts[k]? = some t → fv b M' a (j + k) t = v) → (fvs b M a j ts).set k v = fvs b M' a j ts
  | [], j, k, _, _ => by simp [fvs]
  | t :: ts, j, 0, h, hk => by
    simp only [fvs, List.set_cons_zero]
    have e0 := hk t rfl
    rw [Nat.add_zero] at e0
    rw [e0]
    congr 1
    apply List.ext_getElem?
    intro i
    rw [fvs_get, fvs_get]
    congr 1
    funext x
    have := h x (i + 1) (by omega)
    rw [show j + (i + 1) = j + 1 + i by omega] at this
    exact this.symm
  | t :: ts, j, k + 1, h, hk => by
    simp only [fvs, List.set_cons_succ]
    have e0 := h t 0 (by omega)
    rw [Nat.add_zero] at e0
    rw [e0, fvs_set b M M' a v ts (j + 1) k (fun t i hi => by
      have := h t (i + 1) (by omega)
      rw [show j + (i + 1) = j + 1 + i by omega] at this
      exact this) (fun t ht => by
      have := hk t (by rw [List.getElem?_cons_succ]; exact ht)
      rw [show j + (k + 1) = j + 1 + k by omega] at this
      exact this)]
/-! the words that every method's contract asks, and those that travel apart -/
def gw : List Cond := lw_tbl.filter goodWord
def isEx : Cond → Bool
  | .methodLinkNest .. => true
  | _ => false
def exW : List Cond := lw_tbl.filter isEx
theorem exW_ok : ∀ w ∈ exW, isEx w = true := fun _ h => (List.mem_filter.mp h).2
abbrev aoT : List FieldType := [.object "HoundLicence$Town", .array .int]
theorem gw_of {w : Cond} (h : w ∈ lw_tbl) (hg : goodWord w = true) : w ∈ gw := List.mem_filter.mpr ⟨h, hg⟩
theorem ex_of {w : Cond} (h : w ∈ lw_tbl) (hg : isEx w = true) : w ∈ exW := List.mem_filter.mpr ⟨h, hg⟩
theorem gw_good : ∀ w ∈ gw, goodWord w = true := fun w h => (List.mem_filter.mp h).2
theorem gw_in {big : List Cond} {c c' : Cond} (hc : c' ∈ gw) : GoodIn (c :: gw) (c' :: gw) := by
  intro w hw
  have h1 : w ∈ gw := by
    rcases List.mem_cons.mp hw with rfl | h
    · exact hc
    · exact h
  exact ⟨List.mem_cons_of_mem _ h1, good_of_word (gw_good w h1)⟩
theorem gw_inb {big : List Cond} {c' : Cond} (hb : ∀ w ∈ gw, w ∈ big) (hc : c' ∈ gw) : GoodIn big (c' :: gw) := by
  intro w hw
  have h1 : w ∈ gw := by
    rcases List.mem_cons.mp hw with rfl | h
    · exact hc
    · exact h
  exact ⟨hb w h1, good_of_word (gw_good w h1)⟩
abbrev tysG (K : CtxT) : List (ClassId × FieldType) := [(K.2.2 9, .int), (K.2.2 10, .boolean), (K.2.2 11, .object "HoundLicence$Town"), (K.2.2 12, .array .int)]
def Kx (K : CtxT) (U : State) : Prop := va_K K.2.1 vwCl (tysG K) U ∧ (∀ w ∈ exW, va_Nw w U) ∧ ∀ ty ∈ aoT, (Cond.arrayOver ty).before #[] U = true
theorem ex_warm {w : Cond} (hw : isEx w = true) {s U : State} (hW : s.WarmedH U.vm) (h : va_Nw w s) : va_Nw w U := by
  cases w with
  | methodLinkNest a i x hh => exact va_Nw.warmM hW h
  | _ => cases hw
theorem ex_tab {w : Cond} (hw : isEx w = true) : w.onTables = true := by
  cases w <;> first | rfl | cases hw
theorem ao_vm {ty : FieldType} {A A' : Array Value} {u U : State} (hv : u.vm = U.vm) (h : (Cond.arrayOver ty).before A u = true) : (Cond.arrayOver ty).before A' U = true := by
  have e : (Cond.arrayOver ty).before A' (u.setVm U.vm) = (Cond.arrayOver ty).before A' U := by cases ty <;> rfl
  rw [← e]
  have e2 : u.setVm U.vm = u := by rw [← hv]; rfl
  rw [e2]
  have e3 : (Cond.arrayOver ty).before A' u = (Cond.arrayOver ty).before A u := by cases ty <;> rfl
  rw [e3]
  exact h
theorem ao_warm {ty : FieldType} {A A' : Array Value} {s U : State} (hW : s.WarmedH U.vm) (h : (Cond.arrayOver ty).before A s = true) : (Cond.arrayOver ty).before A' U = true := by
  have h1 : (Cond.arrayOver ty).before A (s.setVm U.vm) = true := by rw [Cond.arrayOver_setVmC hW.alike]; exact h
  exact ao_vm (u := s.setVm U.vm) rfl h1
theorem Kx.warm {K : CtxT} {s U : State} (h : Kx K s) (hW : s.WarmedH U.vm) : Kx K U := ⟨va_K.moved hW.alike h.1, fun w hw => ex_warm (exW_ok w hw) hW (h.2.1 w hw), fun ty ht => ao_warm hW (h.2.2 ty ht)⟩
theorem Kx.same {K : CtxT} {u U : State} (h : Kx K u) (hv : u.vm = U.vm) : Kx K U := ⟨va_K.moved (by rw [hv]; exact Vm.Alike.refl _) h.1, fun w hw => va_Nw.same (ex_tab (exW_ok w hw)) hv (h.2.1 w hw), fun ty ht => ao_vm hv (h.2.2 ty ht)⟩
/-! the locals as a row of places -/
def lR (ls : Array Slot) (nl : Nat) (L : List (Option Value)) : Prop := L.length = nl ∧ ∃ l, lv_has ls nl l ∧ ∀ (i : Nat) (v : Value), L[i]? = some (some v) → (i, v) ∈ l
theorem lR.at {ls : Array Slot} {nl : Nat} {L : List (Option Value)} (h : lR ls nl L) {i : Nat} {v : Value} (hi : L[i]? = some (some v)) : ls[i]? = some (.val v) := by
  obtain ⟨-, l, h1, h2⟩ := h
  exact h1.2.2 _ (h2 i v hi)
theorem lR.size {ls : Array Slot} {nl : Nat} {L : List (Option Value)} (h : lR ls nl L) : ls.size = nl := by
  obtain ⟨-, l, h1, -⟩ := h
  exact h1.1
/-- the place below holds no long -/
def nolong (L : List (Option Value)) (i : Nat) : Bool := match i with
  | 0 => true
  | j + 1 => match L[j]? with
    | some (some v) => v.category == 1
    | _ => true
theorem nolong_ne {L : List (Option Value)} {i j : Nat} {v : Value} (h : nolong L i = true) (hj : j + 1 = i) (hv : L[j]? = some (some v)) : ¬ v.category = 2 := by
  subst hj
  simp only [nolong, hv] at h
  have := eq_of_beq h
  omega
theorem lR.keep1 {ls' : Array Slot} {nl i : Nat} {v : Value} {L : List (Option Value)} {l : List (Nat × Value)} (hlen : L.length = nl) (hin : ∀ (i : Nat) (v : Value), L[i]? = some (some v) → (i, v) ∈ l) (hk : nolong L i = true)
    (h' : lv_has ls' nl ((i, v) :: l.filter (fun q => !(q.1 == i) && !(q.1 + 1 == i && q.2.category == 2)))) : lR ls' nl (L.set i (some v)) := by
  refine ⟨by rw [List.length_set]; exact hlen, _, h', fun j w hw => ?_⟩
  by_cases hj : j = i
  · subst hj
    have hl : j < L.length := by
      have := (List.getElem?_eq_some_iff.mp hw).1
      rwa [List.length_set] at this
    rw [List.getElem?_set_self hl] at hw
    cases hw
    exact List.mem_cons_self
  · rw [List.getElem?_set_ne (Ne.symm hj)] at hw
    refine List.mem_cons_of_mem _ (List.mem_filter.mpr ⟨hin j w hw, ?_⟩)
    have hc : ¬ (j + 1 = i ∧ w.category = 2) := fun q => nolong_ne hk q.1 hw q.2
    simp only [Bool.and_eq_true, Bool.not_eq_true', Bool.and_eq_false_imp, beq_iff_eq, beq_eq_false_iff_ne]
    refine ⟨hj, fun q1 q2 => hc ⟨q1, q2⟩⟩
theorem lR.keep2 {ls' : Array Slot} {nl i : Nat} {v : Value} {L : List (Option Value)} {l : List (Nat × Value)} (hlen : L.length = nl) (hin : ∀ (i : Nat) (v : Value), L[i]? = some (some v) → (i, v) ∈ l) (hk : nolong L i = true)
    (h' : lv_has ls' nl ((i, v) :: l.filter (fun q => !(q.1 == i) && (!(q.1 == i + 1) && !(q.1 + 1 == i && q.2.category == 2))))) : lR ls' nl ((L.set i (some v)).set (i + 1) none) := by
  refine ⟨by rw [List.length_set, List.length_set]; exact hlen, _, h', fun j w hw => ?_⟩
  by_cases hj1 : j = i + 1
  · subst hj1
    rw [List.getElem?_set] at hw
    simp at hw
  · rw [List.getElem?_set_ne (Ne.symm hj1)] at hw
    by_cases hj : j = i
    · subst hj
      have hl : j < L.length := by
        have := (List.getElem?_eq_some_iff.mp hw).1
        rwa [List.length_set] at this
      rw [List.getElem?_set_self hl] at hw
      cases hw
      exact List.mem_cons_self
    · rw [List.getElem?_set_ne (Ne.symm hj)] at hw
      refine List.mem_cons_of_mem _ (List.mem_filter.mpr ⟨hin j w hw, ?_⟩)
      have hc : ¬ (j + 1 = i ∧ w.category = 2) := fun q => nolong_ne hk q.1 hw q.2
      simp only [Bool.and_eq_true, Bool.not_eq_true', Bool.and_eq_false_imp, beq_iff_eq, beq_eq_false_iff_ne]
      exact ⟨hj, hj1, fun q1 q2 => hc ⟨q1, q2⟩⟩
def enl : List Value → List (Option Value)
  | [] => []
  | v :: vs => if v.category = 2 then some v :: none :: enl vs else some v :: enl vs
theorem enl_in : ∀ (vs : List Value) (k i : Nat) (v : Value), (enl vs)[i]? = some (some v) → (k + i, v) ∈ lv_args k vs
  | [], k, i, v, h => by simp [enl] at h
  | w :: vs, k, i, v, h => by
    unfold enl at h
    by_cases hc : w.category = 2
    · rw [if_pos hc] at h
      simp only [lv_args, hc, if_true]
      match i, h with
      | 0, h => cases h; exact List.mem_cons_self
      | 1, h => cases h
      | i + 2, h =>
        have := enl_in vs (k + 2) i v h
        rw [show k + 2 + i = k + (i + 2) by omega] at this
        exact List.mem_cons_of_mem _ this
    · rw [if_neg hc] at h
      simp only [lv_args, hc, if_false]
      match i, h with
      | 0, h => cases h; exact List.mem_cons_self
      | i + 1, h =>
        have := enl_in vs (k + 1) i v h
        rw [show k + 1 + i = k + (i + 1) by omega] at this
        exact List.mem_cons_of_mem _ this
/-! the run of a method from a place of its code on -/
abbrev EnvT : Type := Program × Launch × Env × Room × State × MethodId × Array Value × List Frame × Method × Code
abbrev ep (E : EnvT) : Program := E.1
abbrev el (E : EnvT) : Launch := E.2.1
abbrev ee (E : EnvT) : Env := E.2.2.1
abbrev eR (E : EnvT) : Room := E.2.2.2.1
abbrev es (E : EnvT) : State := E.2.2.2.2.1
abbrev em (E : EnvT) : MethodId := E.2.2.2.2.2.1
abbrev ea (E : EnvT) : Array Value := E.2.2.2.2.2.2.1
abbrev eb (E : EnvT) : List Frame := E.2.2.2.2.2.2.2.1
abbrev eM (E : EnvT) : Method := E.2.2.2.2.2.2.2.2.1
abbrev ec (E : EnvT) : Code := E.2.2.2.2.2.2.2.2.2
abbrev MI : Type := MethodName × ByteArray × Nat × Option FieldType
def Ok (E : EnvT) (K : CtxT) (μ : MI) (d : Nat) (f : Nat × Nat) : Prop :=
  (ep E).tables.exec = Jvm.exec ∧ (ec E).code = μ.2.1 ∧ (ec E).maxLocals = μ.2.2.1 ∧ (es E).vm.findClass μ.1.cls = some (em E).cls ∧ (∀ w ∈ gw, w.before (ea E) (es E) = true) ∧ (eM E).sig.returnType = μ.2.2.2 ∧ (eM E).locks = false ∧ Kx K (es E) ∧ (eM E).name = μ.1.name ∧
  d ≤ (eR E).frames ∧ 60 * d ≤ (eR E).locals ∧ f.1 ≤ (eR E).cells ∧ f.2 ≤ (eR E).slots ∧ K.1 ≤ (es E).heap.size
def Pw (K : CtxT) (nx : Nat) (M : Mm) (H : Heap) : Prop := va_P K.2.1 vwCl (wo K M nx) H ∧ H.size = K.1 + nx
def Wp (E : EnvT) (K : CtxT) (μ : MI) (d : Nat) (f : Nat × Nat) (pc : Nat) (L : List (Option Value)) (st : List Value) (nx : Nat) (M : Mm) (k n : Nat) (Z : State → Prop) : Prop :=
  Ok E K μ d f → ∀ (H : Heap) (locs : List Loc) (ls : Array Slot), Pw K nx M H → va_S (fun q : Nat => K.1 ≤ q) (es E).heap H locs → lR ls μ.2.2.1 L →
    W (ep E) (el E) (ee E) (eR E) (es E) (em E) (ea E) (eb E) (eM E) (ec E) H locs k n Z (F0 (em E) pc ls st)
/-- a contract: from the memory M (nx cells) the method returns, and answer and memory satisfy Q; dn cells of ds places are new -/
def Qc (K : CtxT) (nx : Nat) (Q : Option Value → Mm → Prop) : Array Value → State → Outcome → State → Prop := fun _ st o t =>
  (∃ (v : Option Value) (M' : Mm), o = .returned v ∧ Q v M' ∧ Pw K nx M' t.heap ∧ Kx K t) ∧ va_F (fun q : Nat => K.1 ≤ q) st t
def rmD (d dn ds : Nat) : Room := { frames := d, cells := dn, slots := ds, locals := 60 * d }
def Ct (l : Launch) (K : CtxT) (d : Nat) (μ : MI) (vs : List Value) (nx : Nat) (M : Mm) (dn ds : Nat) (Q : Option Value → Mm → Prop) : Prop :=
  Met l μ.1 (.code μ.1 μ.2.1 μ.2.2.1 μ.2.2.2 :: gw) (rmD d dn ds) (va_Pc vs (fun U => Pw K nx M U.heap ∧ Kx K U ∧ K.1 ≤ U.heap.size)) (Qc K (nx + dn) Q) dn ds (fun q : Nat => K.1 ≤ q)
abbrev zM (E : EnvT) (K : CtxT) (nx dn ds : Nat) (Q : Option Value → Mm → Prop) : State → Prop := MQ (eb E) (Qc K nx Q) (ea E) (es E) dn ds (fun q : Nat => K.1 ≤ q)
theorem ct_of {l : Launch} {K : CtxT} {d : Nat} {μ : MI} {vs : List Value} {nx : Nat} {M : Mm} {dn ds : Nat} {Q : Option Value → Mm → Prop} {L : List (Option Value)} (hp : plainName μ.1.cls = true) (hlen : (lg_sl vs).length ≤ μ.2.2.1) (hL : enl vs ++ List.replicate (μ.2.2.1 - (enl vs).length) none = L) (hL2 : L.length = μ.2.2.1)
    (body : ∀ E : EnvT, el E = l → Wp E K μ d (dn, ds) 0 L [] nx M 0 0 (zM E K (nx + dn) dn ds Q)) : Ct l K d μ vs nx M dn ds Q := by
  refine Met.ofW (cc := μ.2.1) (maxL := μ.2.2.1) (ret := μ.2.2.2) hp rfl ?_
  intro p e s m args below meth c s₁ B hml hv
  obtain ⟨rfl, hP, hK, hsz⟩ := hv
  have hts := atoms_spec (ws := Jvm.Cond.code μ.1 μ.2.1 μ.2.2.1 μ.2.2.2 :: gw) B.pre
  have hown : s.vm.findClass μ.1.cls = some m.cls := findClass_of_methodNamed B.named
  have h := body (p, l, e, rmD d dn ds, s, m, vs.toArray, below, meth, c) rfl ⟨B.exec, B.bytes, hml, hown, fun w hw => hts w (List.mem_cons_of_mem _ hw), B.returns, B.notSynchronized, hK, (name_of_methodNamed B.named B.method).1, Nat.le_refl _, Nat.le_refl _, Nat.le_refl _, Nat.le_refl _, hsz⟩ s.heap []
  have hl := lv_entry vs (n := μ.2.2.1) hlen
  rw [lg_entry_eq]
  refine h _ hP va_S.rf ⟨hL2, _, hl, fun i v hi => ?_⟩
  subst hL
  rcases Nat.lt_or_ge i (enl vs).length with q | q
  · rw [List.getElem?_append_left q] at hi
    have := enl_in vs 0 i v hi
    rwa [Nat.zero_add] at this
  · rw [List.getElem?_append_right q, List.getElem?_replicate] at hi
    split at hi <;> cases hi
end
section
section RULES
variable {E : EnvT} {K : CtxT} {μ : MI} {d : Nat} {f : Nat × Nat} {pc : Nat} {L : List (Option Value)} {st : List Value} {nx : Nat} {M : Mm} {k n : Nat} {Z : State → Prop}
theorem wp_iconst {c : Int} (hd : decode μ.2.1 pc = .ok (.iconst c, 1))  (kk : Wp E K μ d f (pc + 1) L (.int (Int32.ofInt c) :: st) nx M k n Z) : Wp E K μ d f pc L st nx M k n Z :=
  fun ok H locs ls hP hS hl => lv_iconst ok.1 ok.2.1 hd rfl (kk ok H locs ls hP hS hl)
theorem wp_bipush {c : Int} {x : Int32} (hd : decode μ.2.1 pc = .ok (.bipush c, 2)) (hx : (Int8.ofInt c).toInt32 = x) (kk : Wp E K μ d f (pc + 2) L (.int x :: st) nx M k n Z) : Wp E K μ d f pc L st nx M k n Z :=
  fun ok H locs ls hP hS hl => lv_bipush ok.1 ok.2.1 hd hx (kk ok H locs ls hP hS hl)
theorem wp_sipush {c : Int} {x : Int32} (hd : decode μ.2.1 pc = .ok (.sipush c, 3)) (hx : (Int16.ofInt c).toInt32 = x) (kk : Wp E K μ d f (pc + 3) L (.int x :: st) nx M k n Z) : Wp E K μ d f pc L st nx M k n Z :=
  fun ok H locs ls hP hS hl => lv_sipush ok.1 ok.2.1 hd hx (kk ok H locs ls hP hS hl)
theorem wp_ic {c : Int} {x : Int32} (hd : decode μ.2.1 pc = .ok (.iconst c, 1)) (hx : Int32.ofInt c = x) (kk : Wp E K μ d f (pc + 1) L (.int x :: st) nx M k n Z) : Wp E K μ d f pc L st nx M k n Z :=
  fun ok H locs ls hP hS hl => lv_iconst ok.1 ok.2.1 hd hx (kk ok H locs ls hP hS hl)
theorem wp_lconst {c : Fin 2} {x : Int64} (hd : decode μ.2.1 pc = .ok (.lconst c, 1)) (hx : Int64.ofNat (c : Nat) = x) (kk : Wp E K μ d f (pc + 1) L (.long x :: st) nx M k n Z) : Wp E K μ d f pc L st nx M k n Z :=
  fun ok H locs ls hP hS hl => lv_lconst ok.1 ok.2.1 hd hx (kk ok H locs ls hP hS hl)
theorem wp_iload_n {c : Fin 4} {x : Int32} (hd : decode μ.2.1 pc = .ok (.iload_n c, 1)) (hL : L[(c : Nat)]? = some (some (.int x))) (kk : Wp E K μ d f (pc + 1) L (.int x :: st) nx M k n Z) : Wp E K μ d f pc L st nx M k n Z :=
  fun ok H locs ls hP hS hl => lv_iload_n ok.1 ok.2.1 hd rfl (hl.at hL) (kk ok H locs ls hP hS hl)
theorem wp_iload {i : Nat} {x : Int32} (hd : decode μ.2.1 pc = .ok (.iload i, 2)) (hL : L[i]? = some (some (.int x))) (kk : Wp E K μ d f (pc + 2) L (.int x :: st) nx M k n Z) : Wp E K μ d f pc L st nx M k n Z :=
  fun ok H locs ls hP hS hl => lv_iload ok.1 ok.2.1 hd (hl.at hL) (kk ok H locs ls hP hS hl)
theorem wp_lload_n {c : Fin 4} {x : Int64} (hd : decode μ.2.1 pc = .ok (.lload_n c, 1)) (hL : L[(c : Nat)]? = some (some (.long x))) (kk : Wp E K μ d f (pc + 1) L (.long x :: st) nx M k n Z) : Wp E K μ d f pc L st nx M k n Z :=
  fun ok H locs ls hP hS hl => lv_lload_n ok.1 ok.2.1 hd rfl (hl.at hL) (kk ok H locs ls hP hS hl)
theorem wp_lload {i : Nat} {x : Int64} (hd : decode μ.2.1 pc = .ok (.lload i, 2)) (hL : L[i]? = some (some (.long x))) (kk : Wp E K μ d f (pc + 2) L (.long x :: st) nx M k n Z) : Wp E K μ d f pc L st nx M k n Z :=
  fun ok H locs ls hP hS hl => lv_lload ok.1 ok.2.1 hd (hl.at hL) (kk ok H locs ls hP hS hl)
theorem wp_aload_n {c : Fin 4} {x : Nat} (hd : decode μ.2.1 pc = .ok (.aload_n c, 1)) (hL : L[(c : Nat)]? = some (some (.ref x))) (kk : Wp E K μ d f (pc + 1) L (.ref x :: st) nx M k n Z) : Wp E K μ d f pc L st nx M k n Z :=
  fun ok H locs ls hP hS hl => lv_aload_n ok.1 ok.2.1 hd rfl (hl.at hL) (kk ok H locs ls hP hS hl)
theorem wp_aload {i : Nat} {x : Nat} (hd : decode μ.2.1 pc = .ok (.aload i, 2)) (hL : L[i]? = some (some (.ref x))) (kk : Wp E K μ d f (pc + 2) L (.ref x :: st) nx M k n Z) : Wp E K μ d f pc L st nx M k n Z :=
  fun ok H locs ls hP hS hl => lv_aload ok.1 ok.2.1 hd (hl.at hL) (kk ok H locs ls hP hS hl)
theorem wp_istore_n {c : Fin 4} {x : Int32} {L' : List (Option Value)} (hd : decode μ.2.1 pc = .ok (.istore_n c, 1)) (hi : (c : Nat) < L.length) (hk : nolong L (c : Nat) = true) (hL : L.set (c : Nat) (some (.int x)) = L') (kk : Wp E K μ d f (pc + 1) L' st nx M k n Z) : Wp E K μ d f pc L (.int x :: st) nx M k n Z := by
  intro ok H locs ls hP hS hl
  obtain ⟨h1, l, h2, h3⟩ := hl
  exact lv_istore_n ok.1 ok.2.1 hd rfl h2 (by rw [← h1]; exact hi) rfl (fun ls' h' => kk ok H locs ls' hP hS (hL ▸ lR.keep1 h1 h3 hk h'))
theorem wp_istore {i : Nat} {x : Int32} {L' : List (Option Value)} (hd : decode μ.2.1 pc = .ok (.istore i, 2)) (hi : i < L.length) (hk : nolong L i = true) (hL : L.set i (some (.int x)) = L') (kk : Wp E K μ d f (pc + 2) L' st nx M k n Z) : Wp E K μ d f pc L (.int x :: st) nx M k n Z := by
  intro ok H locs ls hP hS hl
  obtain ⟨h1, l, h2, h3⟩ := hl
  exact lv_istore ok.1 ok.2.1 hd h2 (by rw [← h1]; exact hi) rfl (fun ls' h' => kk ok H locs ls' hP hS (hL ▸ lR.keep1 h1 h3 hk h'))
theorem wp_astore_n {c : Fin 4} {x : Nat} {L' : List (Option Value)} (hd : decode μ.2.1 pc = .ok (.astore_n c, 1)) (hi : (c : Nat) < L.length) (hk : nolong L (c : Nat) = true) (hL : L.set (c : Nat) (some (.ref x)) = L') (kk : Wp E K μ d f (pc + 1) L' st nx M k n Z) : Wp E K μ d f pc L (.ref x :: st) nx M k n Z := by
  intro ok H locs ls hP hS hl
  obtain ⟨h1, l, h2, h3⟩ := hl
  exact lv_astore_n ok.1 ok.2.1 hd rfl h2 (by rw [← h1]; exact hi) rfl (fun ls' h' => kk ok H locs ls' hP hS (hL ▸ lR.keep1 h1 h3 hk h'))
theorem wp_astore {i : Nat} {x : Nat} {L' : List (Option Value)} (hd : decode μ.2.1 pc = .ok (.astore i, 2)) (hi : i < L.length) (hk : nolong L i = true) (hL : L.set i (some (.ref x)) = L') (kk : Wp E K μ d f (pc + 2) L' st nx M k n Z) : Wp E K μ d f pc L (.ref x :: st) nx M k n Z := by
  intro ok H locs ls hP hS hl
  obtain ⟨h1, l, h2, h3⟩ := hl
  exact lv_astore ok.1 ok.2.1 hd h2 (by rw [← h1]; exact hi) rfl (fun ls' h' => kk ok H locs ls' hP hS (hL ▸ lR.keep1 h1 h3 hk h'))
theorem wp_lstore_n {c : Fin 4} {x : Int64} {L' : List (Option Value)} (hd : decode μ.2.1 pc = .ok (.lstore_n c, 1)) (hi : (c : Nat) + 1 < L.length) (hk : nolong L (c : Nat) = true) (hL : (L.set (c : Nat) (some (.long x))).set ((c : Nat) + 1) none = L') (kk : Wp E K μ d f (pc + 1) L' st nx M k n Z) : Wp E K μ d f pc L (.long x :: st) nx M k n Z := by
  intro ok H locs ls hP hS hl
  obtain ⟨h1, l, h2, h3⟩ := hl
  exact lv_lstore_n ok.1 ok.2.1 hd rfl h2 (by rw [← h1]; exact hi) rfl (fun ls' h' => kk ok H locs ls' hP hS (hL ▸ lR.keep2 h1 h3 hk h'))
theorem wp_iinc {i : Nat} {c : Int} {x : Int32} {L' : List (Option Value)} (hd : decode μ.2.1 pc = .ok (.iinc i c, 3)) (hx : L[i]? = some (some (.int x))) (hk : nolong L i = true) (hL : L.set i (some (.int (x + Int32.ofInt c))) = L') (kk : Wp E K μ d f (pc + 3) L' st nx M k n Z) : Wp E K μ d f pc L st nx M k n Z := by
  intro ok H locs ls hP hS hl
  obtain ⟨h1, l, h2, h3⟩ := hl
  obtain ⟨q, hq⟩ := List.getElem?_of_mem (h3 i _ hx)
  exact lv_iinc ok.1 ok.2.1 hd h2 hq rfl (by rw [← h1]; exact (List.getElem?_eq_some_iff.mp hx).1) rfl (fun ls' h' => kk ok H locs ls' hP hS (hL ▸ lR.keep1 h1 h3 hk h'))
theorem wp_iadd {x y : Int32} (hd : decode μ.2.1 pc = .ok (.iadd, 1))  (kk : Wp E K μ d f (pc + 1) L (.int (x + y) :: st) nx M k n Z) : Wp E K μ d f pc L (.int y :: .int x :: st) nx M k n Z :=
  fun ok H locs ls hP hS hl => lv_iadd ok.1 ok.2.1 hd  (kk ok H locs ls hP hS hl)
theorem wp_isub {x y : Int32} (hd : decode μ.2.1 pc = .ok (.isub, 1))  (kk : Wp E K μ d f (pc + 1) L (.int (x - y) :: st) nx M k n Z) : Wp E K μ d f pc L (.int y :: .int x :: st) nx M k n Z :=
  fun ok H locs ls hP hS hl => lv_isub ok.1 ok.2.1 hd  (kk ok H locs ls hP hS hl)
theorem wp_imul {x y : Int32} (hd : decode μ.2.1 pc = .ok (.imul, 1))  (kk : Wp E K μ d f (pc + 1) L (.int (x * y) :: st) nx M k n Z) : Wp E K μ d f pc L (.int y :: .int x :: st) nx M k n Z :=
  fun ok H locs ls hP hS hl => lv_imul ok.1 ok.2.1 hd  (kk ok H locs ls hP hS hl)
theorem wp_iand {x y : Int32} (hd : decode μ.2.1 pc = .ok (.iand, 1))  (kk : Wp E K μ d f (pc + 1) L (.int (x &&& y) :: st) nx M k n Z) : Wp E K μ d f pc L (.int y :: .int x :: st) nx M k n Z :=
  fun ok H locs ls hP hS hl => lv_iand ok.1 ok.2.1 hd  (kk ok H locs ls hP hS hl)
theorem wp_ior {x y : Int32} (hd : decode μ.2.1 pc = .ok (.ior, 1))  (kk : Wp E K μ d f (pc + 1) L (.int (x ||| y) :: st) nx M k n Z) : Wp E K μ d f pc L (.int y :: .int x :: st) nx M k n Z :=
  fun ok H locs ls hP hS hl => lv_ior ok.1 ok.2.1 hd  (kk ok H locs ls hP hS hl)
theorem wp_ixor {x y : Int32} (hd : decode μ.2.1 pc = .ok (.ixor, 1))  (kk : Wp E K μ d f (pc + 1) L (.int (x ^^^ y) :: st) nx M k n Z) : Wp E K μ d f pc L (.int y :: .int x :: st) nx M k n Z :=
  fun ok H locs ls hP hS hl => lv_ixor ok.1 ok.2.1 hd  (kk ok H locs ls hP hS hl)
theorem wp_idiv {x y : Int32} (hd : decode μ.2.1 pc = .ok (.idiv, 1)) (hne : ¬ y = 0) (kk : Wp E K μ d f (pc + 1) L (.int (x / y) :: st) nx M k n Z) : Wp E K μ d f pc L (.int y :: .int x :: st) nx M k n Z :=
  fun ok H locs ls hP hS hl => lv_idiv ok.1 ok.2.1 hd hne (kk ok H locs ls hP hS hl)
theorem wp_irem {x y : Int32} (hd : decode μ.2.1 pc = .ok (.irem, 1)) (hne : ¬ y = 0) (kk : Wp E K μ d f (pc + 1) L (.int (x - x / y * y) :: st) nx M k n Z) : Wp E K μ d f pc L (.int y :: .int x :: st) nx M k n Z :=
  fun ok H locs ls hP hS hl => lv_irem ok.1 ok.2.1 hd hne (kk ok H locs ls hP hS hl)
theorem wp_ishl {x y : Int32} (hd : decode μ.2.1 pc = .ok (.ishl, 1))  (kk : Wp E K μ d f (pc + 1) L (.int (x <<< (y &&& 31)) :: st) nx M k n Z) : Wp E K μ d f pc L (.int y :: .int x :: st) nx M k n Z :=
  fun ok H locs ls hP hS hl => lv_ishl ok.1 ok.2.1 hd  (kk ok H locs ls hP hS hl)
theorem wp_ishr {x y : Int32} (hd : decode μ.2.1 pc = .ok (.ishr, 1))  (kk : Wp E K μ d f (pc + 1) L (.int (x >>> (y &&& 31)) :: st) nx M k n Z) : Wp E K μ d f pc L (.int y :: .int x :: st) nx M k n Z :=
  fun ok H locs ls hP hS hl => lv_ishr ok.1 ok.2.1 hd  (kk ok H locs ls hP hS hl)
theorem wp_iushr {x y : Int32} (hd : decode μ.2.1 pc = .ok (.iushr, 1))  (kk : Wp E K μ d f (pc + 1) L (.int (x.toUInt32 >>> (y.toUInt32 &&& Int32.toUInt32 31)).toInt32 :: st) nx M k n Z) : Wp E K μ d f pc L (.int y :: .int x :: st) nx M k n Z :=
  fun ok H locs ls hP hS hl => lv_iushr ok.1 ok.2.1 hd rfl (kk ok H locs ls hP hS hl)
theorem wp_ladd {x y : Int64} (hd : decode μ.2.1 pc = .ok (.ladd, 1))  (kk : Wp E K μ d f (pc + 1) L (.long (x + y) :: st) nx M k n Z) : Wp E K μ d f pc L (.long y :: .long x :: st) nx M k n Z :=
  fun ok H locs ls hP hS hl => lv_ladd ok.1 ok.2.1 hd  (kk ok H locs ls hP hS hl)
theorem wp_lmul {x y : Int64} (hd : decode μ.2.1 pc = .ok (.lmul, 1))  (kk : Wp E K μ d f (pc + 1) L (.long (x * y) :: st) nx M k n Z) : Wp E K μ d f pc L (.long y :: .long x :: st) nx M k n Z :=
  fun ok H locs ls hP hS hl => lv_lmul ok.1 ok.2.1 hd  (kk ok H locs ls hP hS hl)
theorem wp_land {x y : Int64} (hd : decode μ.2.1 pc = .ok (.land, 1))  (kk : Wp E K μ d f (pc + 1) L (.long (x &&& y) :: st) nx M k n Z) : Wp E K μ d f pc L (.long y :: .long x :: st) nx M k n Z :=
  fun ok H locs ls hP hS hl => lv_land ok.1 ok.2.1 hd  (kk ok H locs ls hP hS hl)
theorem wp_lor {x y : Int64} (hd : decode μ.2.1 pc = .ok (.lor, 1))  (kk : Wp E K μ d f (pc + 1) L (.long (x ||| y) :: st) nx M k n Z) : Wp E K μ d f pc L (.long y :: .long x :: st) nx M k n Z :=
  fun ok H locs ls hP hS hl => lv_lor ok.1 ok.2.1 hd  (kk ok H locs ls hP hS hl)
theorem wp_lrem {x y : Int64} (hd : decode μ.2.1 pc = .ok (.lrem, 1)) (hne : ¬ y = 0) (kk : Wp E K μ d f (pc + 1) L (.long (x - x / y * y) :: st) nx M k n Z) : Wp E K μ d f pc L (.long y :: .long x :: st) nx M k n Z :=
  fun ok H locs ls hP hS hl => lv_lrem ok.1 ok.2.1 hd hne (kk ok H locs ls hP hS hl)
theorem wp_lushr {x : Int64} {y : Int32} (hd : decode μ.2.1 pc = .ok (.lushr, 1))  (kk : Wp E K μ d f (pc + 1) L (.long (x.toUInt64 >>> (y.toInt64.toUInt64 &&& Int64.toUInt64 63)).toInt64 :: st) nx M k n Z) : Wp E K μ d f pc L (.int y :: .long x :: st) nx M k n Z :=
  fun ok H locs ls hP hS hl => lv_lushr ok.1 ok.2.1 hd rfl (kk ok H locs ls hP hS hl)
theorem wp_lshl {x : Int64} {y : Int32} (hd : decode μ.2.1 pc = .ok (.lshl, 1))  (kk : Wp E K μ d f (pc + 1) L (.long (x <<< (y.toInt64 &&& 63)) :: st) nx M k n Z) : Wp E K μ d f pc L (.int y :: .long x :: st) nx M k n Z :=
  fun ok H locs ls hP hS hl => lv_lshl ok.1 ok.2.1 hd rfl (kk ok H locs ls hP hS hl)
theorem wp_i2l {x : Int32} (hd : decode μ.2.1 pc = .ok (.i2l, 1))  (kk : Wp E K μ d f (pc + 1) L (.long x.toInt64 :: st) nx M k n Z) : Wp E K μ d f pc L (.int x :: st) nx M k n Z :=
  fun ok H locs ls hP hS hl => lv_i2l ok.1 ok.2.1 hd rfl (kk ok H locs ls hP hS hl)
theorem wp_l2i {x : Int64} (hd : decode μ.2.1 pc = .ok (.l2i, 1))  (kk : Wp E K μ d f (pc + 1) L (.int x.toInt32 :: st) nx M k n Z) : Wp E K μ d f pc L (.long x :: st) nx M k n Z :=
  fun ok H locs ls hP hS hl => lv_l2i ok.1 ok.2.1 hd rfl (kk ok H locs ls hP hS hl)
theorem wp_lcmp {x y : Int64} (hd : decode μ.2.1 pc = .ok (.lcmp, 1))  (kk : Wp E K μ d f (pc + 1) L (.int (lg_cmp x y) :: st) nx M k n Z) : Wp E K μ d f pc L (.long y :: .long x :: st) nx M k n Z :=
  fun ok H locs ls hP hS hl => W.lcmp ok.1 ok.2.1 hd  (kk ok H locs ls hP hS hl)
theorem wp_dup {v : Value} (hd : decode μ.2.1 pc = .ok (.dup, 1)) (hv : v.category = 1) (kk : Wp E K μ d f (pc + 1) L (v :: v :: st) nx M k n Z) : Wp E K μ d f pc L (v :: st) nx M k n Z :=
  fun ok H locs ls hP hS hl => lv_dup ok.1 ok.2.1 hd hv (kk ok H locs ls hP hS hl)
theorem wp_dup2 {v w : Value} (hd : decode μ.2.1 pc = .ok (.dup2, 1)) (hv : v.category = 1) (hw : w.category = 1) (kk : Wp E K μ d f (pc + 1) L (v :: w :: v :: w :: st) nx M k n Z) : Wp E K μ d f pc L (v :: w :: st) nx M k n Z :=
  fun ok H locs ls hP hS hl => lv_dup2_11 ok.1 ok.2.1 hd hv hw (kk ok H locs ls hP hS hl)
theorem wp_pop {v : Value} (hd : decode μ.2.1 pc = .ok (.pop, 1)) (hv : v.category = 1) (kk : Wp E K μ d f (pc + 1) L st nx M k n Z) : Wp E K μ d f pc L (v :: st) nx M k n Z :=
  fun ok H locs ls hP hS hl => lv_pop ok.1 ok.2.1 hd hv (kk ok H locs ls hP hS hl)
theorem wp_if_eq {x : Int32} {off : Int} (tgt : Nat) (hd : decode μ.2.1 pc = .ok (.ifCond .eq off, 3)) (ht : (pc : Int) + off = (tgt : Int)) (kt : x = 0 → Wp E K μ d f tgt L st nx M k n Z) (kf : ¬ x = 0 → Wp E K μ d f (pc + 3) L st nx M k n Z) : Wp E K μ d f pc L (.int x :: st) nx M k n Z :=
  fun ok H locs ls hP hS hl => lv_if_eq ok.1 ok.2.1 hd ht (fun q => kt q ok H locs ls hP hS hl) (fun q => kf q ok H locs ls hP hS hl)
theorem wp_icmp_eq {x y : Int32} {off : Int} (tgt : Nat) (hd : decode μ.2.1 pc = .ok (.if_icmp .eq off, 3)) (ht : (pc : Int) + off = (tgt : Int)) (kt : x = y → Wp E K μ d f tgt L st nx M k n Z) (kf : ¬ x = y → Wp E K μ d f (pc + 3) L st nx M k n Z) : Wp E K μ d f pc L (.int y :: .int x :: st) nx M k n Z :=
  fun ok H locs ls hP hS hl => lv_icmp_eq ok.1 ok.2.1 hd ht (fun q => kt q ok H locs ls hP hS hl) (fun q => kf q ok H locs ls hP hS hl)
theorem wp_if_ne {x : Int32} {off : Int} (tgt : Nat) (hd : decode μ.2.1 pc = .ok (.ifCond .ne off, 3)) (ht : (pc : Int) + off = (tgt : Int)) (kt : ¬ x = 0 → Wp E K μ d f tgt L st nx M k n Z) (kf : x = 0 → Wp E K μ d f (pc + 3) L st nx M k n Z) : Wp E K μ d f pc L (.int x :: st) nx M k n Z :=
  fun ok H locs ls hP hS hl => lv_if_ne ok.1 ok.2.1 hd ht (fun q => kt q ok H locs ls hP hS hl) (fun q => kf q ok H locs ls hP hS hl)
theorem wp_icmp_ne {x y : Int32} {off : Int} (tgt : Nat) (hd : decode μ.2.1 pc = .ok (.if_icmp .ne off, 3)) (ht : (pc : Int) + off = (tgt : Int)) (kt : ¬ x = y → Wp E K μ d f tgt L st nx M k n Z) (kf : x = y → Wp E K μ d f (pc + 3) L st nx M k n Z) : Wp E K μ d f pc L (.int y :: .int x :: st) nx M k n Z :=
  fun ok H locs ls hP hS hl => lv_icmp_ne ok.1 ok.2.1 hd ht (fun q => kt q ok H locs ls hP hS hl) (fun q => kf q ok H locs ls hP hS hl)
theorem wp_if_lt {x : Int32} {off : Int} (tgt : Nat) (hd : decode μ.2.1 pc = .ok (.ifCond .lt off, 3)) (ht : (pc : Int) + off = (tgt : Int)) (kt : x < 0 → Wp E K μ d f tgt L st nx M k n Z) (kf : ¬ x < 0 → Wp E K μ d f (pc + 3) L st nx M k n Z) : Wp E K μ d f pc L (.int x :: st) nx M k n Z :=
  fun ok H locs ls hP hS hl => lv_if_lt ok.1 ok.2.1 hd ht (fun q => kt q ok H locs ls hP hS hl) (fun q => kf q ok H locs ls hP hS hl)
theorem wp_icmp_lt {x y : Int32} {off : Int} (tgt : Nat) (hd : decode μ.2.1 pc = .ok (.if_icmp .lt off, 3)) (ht : (pc : Int) + off = (tgt : Int)) (kt : x < y → Wp E K μ d f tgt L st nx M k n Z) (kf : ¬ x < y → Wp E K μ d f (pc + 3) L st nx M k n Z) : Wp E K μ d f pc L (.int y :: .int x :: st) nx M k n Z :=
  fun ok H locs ls hP hS hl => lv_icmp_lt ok.1 ok.2.1 hd ht (fun q => kt q ok H locs ls hP hS hl) (fun q => kf q ok H locs ls hP hS hl)
theorem wp_if_ge {x : Int32} {off : Int} (tgt : Nat) (hd : decode μ.2.1 pc = .ok (.ifCond .ge off, 3)) (ht : (pc : Int) + off = (tgt : Int)) (kt : 0 ≤ x → Wp E K μ d f tgt L st nx M k n Z) (kf : ¬ 0 ≤ x → Wp E K μ d f (pc + 3) L st nx M k n Z) : Wp E K μ d f pc L (.int x :: st) nx M k n Z :=
  fun ok H locs ls hP hS hl => lv_if_ge ok.1 ok.2.1 hd ht (fun q => kt q ok H locs ls hP hS hl) (fun q => kf q ok H locs ls hP hS hl)
theorem wp_icmp_ge {x y : Int32} {off : Int} (tgt : Nat) (hd : decode μ.2.1 pc = .ok (.if_icmp .ge off, 3)) (ht : (pc : Int) + off = (tgt : Int)) (kt : y ≤ x → Wp E K μ d f tgt L st nx M k n Z) (kf : ¬ y ≤ x → Wp E K μ d f (pc + 3) L st nx M k n Z) : Wp E K μ d f pc L (.int y :: .int x :: st) nx M k n Z :=
  fun ok H locs ls hP hS hl => lv_icmp_ge ok.1 ok.2.1 hd ht (fun q => kt q ok H locs ls hP hS hl) (fun q => kf q ok H locs ls hP hS hl)
theorem wp_if_gt {x : Int32} {off : Int} (tgt : Nat) (hd : decode μ.2.1 pc = .ok (.ifCond .gt off, 3)) (ht : (pc : Int) + off = (tgt : Int)) (kt : 0 < x → Wp E K μ d f tgt L st nx M k n Z) (kf : ¬ 0 < x → Wp E K μ d f (pc + 3) L st nx M k n Z) : Wp E K μ d f pc L (.int x :: st) nx M k n Z :=
  fun ok H locs ls hP hS hl => lv_if_gt ok.1 ok.2.1 hd ht (fun q => kt q ok H locs ls hP hS hl) (fun q => kf q ok H locs ls hP hS hl)
theorem wp_icmp_gt {x y : Int32} {off : Int} (tgt : Nat) (hd : decode μ.2.1 pc = .ok (.if_icmp .gt off, 3)) (ht : (pc : Int) + off = (tgt : Int)) (kt : y < x → Wp E K μ d f tgt L st nx M k n Z) (kf : ¬ y < x → Wp E K μ d f (pc + 3) L st nx M k n Z) : Wp E K μ d f pc L (.int y :: .int x :: st) nx M k n Z :=
  fun ok H locs ls hP hS hl => lv_icmp_gt ok.1 ok.2.1 hd ht (fun q => kt q ok H locs ls hP hS hl) (fun q => kf q ok H locs ls hP hS hl)
theorem wp_if_le {x : Int32} {off : Int} (tgt : Nat) (hd : decode μ.2.1 pc = .ok (.ifCond .le off, 3)) (ht : (pc : Int) + off = (tgt : Int)) (kt : x ≤ 0 → Wp E K μ d f tgt L st nx M k n Z) (kf : ¬ x ≤ 0 → Wp E K μ d f (pc + 3) L st nx M k n Z) : Wp E K μ d f pc L (.int x :: st) nx M k n Z :=
  fun ok H locs ls hP hS hl => lv_if_le ok.1 ok.2.1 hd ht (fun q => kt q ok H locs ls hP hS hl) (fun q => kf q ok H locs ls hP hS hl)
theorem wp_icmp_le {x y : Int32} {off : Int} (tgt : Nat) (hd : decode μ.2.1 pc = .ok (.if_icmp .le off, 3)) (ht : (pc : Int) + off = (tgt : Int)) (kt : x ≤ y → Wp E K μ d f tgt L st nx M k n Z) (kf : ¬ x ≤ y → Wp E K μ d f (pc + 3) L st nx M k n Z) : Wp E K μ d f pc L (.int y :: .int x :: st) nx M k n Z :=
  fun ok H locs ls hP hS hl => lv_icmp_le ok.1 ok.2.1 hd ht (fun q => kt q ok H locs ls hP hS hl) (fun q => kf q ok H locs ls hP hS hl)
theorem wp_goto {off : Int} (tgt : Nat) (hd : decode μ.2.1 pc = .ok (.goto off, 3)) (ht : (pc : Int) + off = (tgt : Int)) (kk : Wp E K μ d f tgt L st nx M k n Z) : Wp E K μ d f pc L st nx M k n Z :=
  fun ok H locs ls hP hS hl => lv_goto ok.1 ok.2.1 hd ht (kk ok H locs ls hP hS hl)
theorem wp_tabOut {dflt lo hi : Int} {offs : Array Int} {len : Nat} {x : Int32} (tgt : Nat) (hd : decode μ.2.1 pc = .ok (.tableswitch dflt lo hi offs, len)) (h : x.toInt < lo ∨ hi < x.toInt) (ht : (pc : Int) + dflt = (tgt : Int)) (kk : Wp E K μ d f tgt L st nx M k n Z) : Wp E K μ d f pc L (.int x :: st) nx M k n Z :=
  fun ok H locs ls hP hS hl => lv_tableOut ok.1 ok.2.1 hd h ht (kk ok H locs ls hP hS hl)
theorem wp_tabIn {dflt lo hi : Int} {offs : Array Int} {len : Nat} {x : Int32} {off : Int} (tgt : Nat) (hd : decode μ.2.1 pc = .ok (.tableswitch dflt lo hi offs, len)) (h1 : ¬ x.toInt < lo) (h2 : ¬ hi < x.toInt) (ho : offs[(x.toInt - lo).toNat]? = some off) (ht : (pc : Int) + off = (tgt : Int)) (kk : Wp E K μ d f tgt L st nx M k n Z) : Wp E K μ d f pc L (.int x :: st) nx M k n Z :=
  fun ok H locs ls hP hS hl => lv_tableIn ok.1 ok.2.1 hd h1 h2 ho ht (kk ok H locs ls hP hS hl)
theorem wp_lookup {dflt : Int} {ps : Array (Int × Int)} {len : Nat} {x : Int32} {off : Int} (tgt : Nat) (hd : decode μ.2.1 pc = .ok (.lookupswitch dflt ps, len)) (hp : (ps.toList.zip (ps.toList.drop 1)).all (fun (a, next) => a.1 < next.1) = true) (ho : Op.lookupswitch.offset ps.toList dflt x.toInt = off) (ht : (pc : Int) + off = (tgt : Int)) (kk : Wp E K μ d f tgt L st nx M k n Z) : Wp E K μ d f pc L (.int x :: st) nx M k n Z :=
  fun ok H locs ls hP hS hl => lv_lookup ok.1 ok.2.1 hd hp ho ht (kk ok H locs ls hP hS hl)
theorem wp_ldc2 {i : Nat} {x : Int64} (hd : decode μ.2.1 pc = .ok (.ldc2_w i, 3)) (hw : Cond.constantLong μ.1.cls i x ∈ gw) (kk : Wp E K μ d f (pc + 3) L (.long x :: st) nx M k n Z) : Wp E K μ d f pc L st nx M k n Z :=
  fun ok H locs ls hP hS hl => lv_ldc2 ok.1 ok.2.1 ok.2.2.2.1 (ok.2.2.2.2.1 _ hw) hd (kk ok H locs ls hP hS hl)
theorem wp_ldc {i : Nat} {x : Int32} (hd : decode μ.2.1 pc = .ok (.ldc i, 2)) (hw : Cond.constant μ.1.cls i x ∈ gw) (kk : Wp E K μ d f (pc + 2) L (.int x :: st) nx M k n Z) : Wp E K μ d f pc L st nx M k n Z :=
  fun ok H locs ls hP hS hl => lv_ldc ok.1 ok.2.1 ok.2.2.2.1 (ok.2.2.2.2.1 _ hw) hd (kk ok H locs ls hP hS hl)
theorem wp_ldcw {i : Nat} {x : Int32} (hd : decode μ.2.1 pc = .ok (.ldc_w i, 3)) (hw : Cond.constant μ.1.cls i x ∈ gw) (kk : Wp E K μ d f (pc + 3) L (.int x :: st) nx M k n Z) : Wp E K μ d f pc L st nx M k n Z :=
  fun ok H locs ls hP hS hl => lv_ldcw ok.1 ok.2.1 ok.2.2.2.1 (ok.2.2.2.2.1 _ hw) hd (kk ok H locs ls hP hS hl)
theorem wp_iret {x : Int32} {Q : Option Value → Mm → Prop} (hd : decode μ.2.1 pc = .ok (.ireturn, 1)) (hr : μ.2.2.2 = some .int) (hq : Q (some (.int x)) M) : Wp E K μ d f pc L [.int x] nx M k n (zM E K nx k n Q) := by
  intro ok H locs ls hP hS hl
  refine W.iret ok.1 ok.2.1 (ok.2.2.2.2.2.1.trans hr) ?_ ?_ hd (hlocks := ok.2.2.2.2.2.2.1)
  · intro t ht hW
    exact ⟨⟨_, M, rfl, hq, by rw [ht]; exact hP, ok.2.2.2.2.2.2.2.1.warm hW⟩, hS.F ht⟩
  · exact hS.2.2
theorem wp_zret {x : Int32} {Q : Option Value → Mm → Prop} (hd : decode μ.2.1 pc = .ok (.ireturn, 1)) (hr : μ.2.2.2 = some .boolean) (hn : narrow .boolean (.int x) = .int x) (hq : Q (some (.int x)) M) : Wp E K μ d f pc L [.int x] nx M k n (zM E K nx k n Q) := by
  intro ok H locs ls hP hS hl
  refine W.zret ok.1 ok.2.1 (ok.2.2.2.2.2.1.trans hr) hn ?_ ?_ hd (hlocks := ok.2.2.2.2.2.2.1)
  · intro t ht hW
    exact ⟨⟨_, M, rfl, hq, by rw [ht]; exact hP, ok.2.2.2.2.2.2.2.1.warm hW⟩, hS.F ht⟩
  · exact hS.2.2
theorem wp_lret {x : Int64} {Q : Option Value → Mm → Prop} (hd : decode μ.2.1 pc = .ok (.lreturn, 1)) (hr : μ.2.2.2 = some .long) (hq : Q (some (.long x)) M) : Wp E K μ d f pc L [.long x] nx M k n (zM E K nx k n Q) := by
  intro ok H locs ls hP hS hl
  refine W.lret ok.1 ok.2.1 (ok.2.2.2.2.2.1.trans hr) ?_ ?_ hd (hlocks := ok.2.2.2.2.2.2.1)
  · intro t ht hW
    exact ⟨⟨_, M, rfl, hq, by rw [ht]; exact hP, ok.2.2.2.2.2.2.2.1.warm hW⟩, hS.F ht⟩
  · exact hS.2.2
theorem wp_vret {Q : Option Value → Mm → Prop} (hd : decode μ.2.1 pc = .ok (.return_, 1)) (hr : μ.2.2.2 = none) (hq : Q none M) : Wp E K μ d f pc L [] nx M k n (zM E K nx k n Q) := by
  intro ok H locs ls hP hS hl
  refine W.vret ok.1 ok.2.1 (ok.2.2.2.2.2.1.trans hr) ?_ ?_ hd (hlocks := ok.2.2.2.2.2.2.1)
  · intro t ht hW
    exact ⟨⟨_, M, rfl, hq, by rw [ht]; exact hP, ok.2.2.2.2.2.2.2.1.warm hW⟩, hS.F ht⟩
  · exact hS.2.2
end RULES
end
section
/-! the classes' words, types, names, by the class's number -/
def cl_t (ci : Nat) : Nat → FieldType := match ci with
  | 0 => tyX0
  | 1 => tyX1
  | 2 => tyX2
  | 3 => tyX3
  | 4 => tyX5
  | 5 => tyX6
  | 6 => tyX7
  | 7 => tyX8
  | _ => tyX9
theorem cl_lt {ci : Nat} {q : vw_C} (h : vwCl[ci]? = some q) : ci < 9 := (List.getElem?_eq_some_iff.mp h).1
theorem cl_w0 : ∀ q ∈ vwCl, ∀ w ∈ u_ws q.1 q.2.1 q.2.2, w ∈ lw_tbl ∧ goodWord w = true := by decide +kernel
theorem cl_ws {ci : Nat} {C : String} {T : u_T} {N : Nat} (h : vwCl[ci]? = some (C, T, N)) : ∀ w ∈ u_ws C T N, w ∈ gw := fun w hw => by
  have := cl_w0 _ (List.mem_of_getElem? h) w hw
  exact gw_of this.1 this.2
theorem cl_tok {ci : Nat} {C : String} {T : u_T} {N : Nat} (h : vwCl[ci]? = some (C, T, N)) : ∀ k, k < N → parseFieldDescriptor (T k).2.2.1 = some (cl_t ci k) := by
  match ci, h with
  | 0, h => cases h; exact tyX0_ok
  | 1, h => cases h; exact tyX1_ok
  | 2, h => cases h; exact tyX2_ok
  | 3, h => cases h; exact tyX3_ok
  | 4, h => cases h; exact tyX5_ok
  | 5, h => cases h; exact tyX6_ok
  | 6, h => cases h; exact tyX7_ok
  | 7, h => cases h; exact tyX8_ok
  | 8, h => cases h; exact tyX9_ok
  | n + 9, h => exact absurd (cl_lt h) (by omega)
theorem cl_nm {ci : Nat} {C : String} {T : u_T} {N : Nat} (h : vwCl[ci]? = some (C, T, N)) : ∀ a, a < N → ∀ b, b < N → a ≠ b → (T a).2.1 ≠ (T b).2.1 := by
  match ci, h with
  | 0, h => cases h; exact nmX0
  | 1, h => cases h; exact nmX1
  | 2, h => cases h; exact nmX2
  | 3, h => cases h; exact nmX3
  | 4, h => cases h; exact nmX5
  | 5, h => cases h; exact nmX6
  | 6, h => cases h; exact nmX7
  | 7, h => cases h; exact nmX8
  | 8, h => cases h; exact nmX9
  | n + 9, h => exact absurd (cl_lt h) (by omega)
theorem cl_len {ci : Nat} {C : String} {T : u_T} {N : Nat} (h : vwCl[ci]? = some (C, T, N)) : (tcs ci).length = N := by
  match ci, h with
  | 0, h => cases h; rfl
  | 1, h => cases h; rfl
  | 2, h => cases h; rfl
  | 3, h => cases h; rfl
  | 4, h => cases h; rfl
  | 5, h => cases h; rfl
  | 6, h => cases h; rfl
  | 7, h => cases h; rfl
  | 8, h => cases h; rfl
  | n + 9, h => exact absurd (cl_lt h) (by omega)
def isRefT : FieldType → Bool
  | .object _ => true
  | .array _ => true
  | _ => false
theorem cl_ty0 : ∀ ci, ci < 9 → ∀ k, k < 31 → ((tcs ci)[k]? = some 0 → cl_t ci k = .int) ∧ ((tcs ci)[k]? = some 1 → cl_t ci k = .long) ∧ ((tcs ci)[k]? = some 2 → isRefT (cl_t ci k) = true) ∧ ∀ t, (tcs ci)[k]? = some t → t = 0 ∨ t = 1 ∨ t = 2 := by
  intro ci hci k hk
  have h : ∀ ci, ci < 9 → ∀ k, k < 31 → ((tcs ci)[k]? = some 0 → cl_t ci k = .int) ∧ ((tcs ci)[k]? = some 1 → cl_t ci k = .long) ∧ ((tcs ci)[k]? = some 2 → isRefT (cl_t ci k) = true) ∧ ((tcs ci)[k]? = none ∨ (tcs ci)[k]? = some 0 ∨ (tcs ci)[k]? = some 1 ∨ (tcs ci)[k]? = some 2) := by decide +kernel
  obtain ⟨h1, h2, h3, h4⟩ := h ci hci k hk
  refine ⟨h1, h2, h3, fun t ht => ?_⟩
  rw [ht] at h4
  rcases h4 with q | q | q | q
  · cases q
  · exact Or.inl (Option.some.inj q)
  · exact Or.inr (Or.inl (Option.some.inj q))
  · exact Or.inr (Or.inr (Option.some.inj q))
theorem cl_n31 {ci : Nat} {C : String} {T : u_T} {N : Nat} (h : vwCl[ci]? = some (C, T, N)) : N ≤ 31 := by
  match ci, h with
  | 0, h => cases h; decide
  | 1, h => cases h; decide
  | 2, h => cases h; decide
  | 3, h => cases h; decide
  | 4, h => cases h; decide
  | 5, h => cases h; decide
  | 6, h => cases h; decide
  | 7, h => cases h; decide
  | 8, h => cases h; decide
  | n + 9, h => exact absurd (cl_lt h) (by omega)
/-- the field at an entry of a class file's pool: kind, place, type, final or not -/
def FL (own : String) (idx ci k t : Nat) (fin : Bool) : Prop := ∃ (C : String) (T : u_T) (N : Nat), vwCl[ci]? = some (C, T, N) ∧ k < N ∧ (T k).2.2.2 = fin ∧ Cond.fieldLink own idx (T k).1 (T k).2.1 (T k).2.2.1 ∈ gw ∧ (tcs ci)[k]? = some t
/-- it is declared in the class own -/
def FD (own : String) (ci k : Nat) : Prop := ∃ q : vw_C, vwCl[ci]? = some q ∧ (q.2.1 k).1 = own
theorem ce_obj {K : CtxT} {M : Mm} {a ci : Nat} (h : lk a = (ci, 0)) (hc : ci < 9) : ce K M a = .inr (ci, fvs K.1 M a 0 (tcs ci)) := by
  unfold ce
  rw [h, if_pos hc]
theorem ce_int {K : CtxT} {M : Mm} {a n : Nat} (h : lk a = (9, n)) : ce K M a = .inl (K.2.2 9, n, .inl (M.1 a)) := by
  unfold ce
  rw [h, if_neg (show ¬ (9 : Nat) < 9 by decide), if_pos (show (9 : Nat) < 11 by decide)]
theorem ce_boo {K : CtxT} {M : Mm} {a n : Nat} (h : lk a = (10, n)) : ce K M a = .inl (K.2.2 10, n, .inl (M.1 a)) := by
  unfold ce
  rw [h, if_neg (show ¬ (10 : Nat) < 9 by decide), if_pos (show (10 : Nat) < 11 by decide)]
theorem ce_ref {K : CtxT} {M : Mm} {a kd n : Nat} (h : lk a = (kd, n)) (hk : 11 ≤ kd) : ce K M a = .inl (K.2.2 kd, n, .inr (.inr (.inr (.inr (fun j => (M.2.2 a j).map (fun x => K.1 + x)))))) := by
  unfold ce
  rw [h, if_neg (by show ¬ kd < 9; omega), if_neg (by show ¬ kd < 11; omega)]
theorem Pw.at {K : CtxT} {nx : Nat} {M : Mm} {H : Heap} (hP : Pw K nx M H) {a : Nat} (ha : a < nx) {e : va_E} (he : ce K M a = e) : va_at K.2.1 vwCl (K.1 + a, e) H := by
  subst he
  exact hP.1 a _ (wo_get ha)
/-- one cell changed, the others as they were -/
theorem Pw.store {K : CtxT} {nx : Nat} {M M' : Mm} {H H1 : Heap} {a : Nat} {e : va_E} (hP : Pw K nx M H) (he : va_at K.2.1 vwCl (K.1 + a, e) H1) (hM : ce K M' a = e) (z : H1.size = H.size) (oq : ∀ q : Nat, q ≠ K.1 + a → H1[q]? = H[q]?) (ho : ∀ b, b ≠ a → ce K M' b = ce K M b) : Pw K nx M' H1 := by
  refine ⟨fun i q hi => ?_, by rw [z]; exact hP.2⟩
  obtain ⟨hn, rfl⟩ := wo_some hi
  by_cases h : i = a
  · subst h
    rw [hM]
    exact he
  · rw [ho i h]
    exact (hP.1 i _ (wo_get hn)).kept (oq _ (by show K.1 + i ≠ K.1 + a; omega))
theorem upd_wI (M : Mm) (a k : Nat) (x : Int32) : (wI M a k x).1 a = upd (M.1 a) k x := by
  funext j
  simp [wI, upd]
theorem wI_ne {K : CtxT} {M : Mm} {a k b : Nat} {x : Int32} (h : b ≠ a) : ce K (wI M a k x) b = ce K M b := ce_congr (fun j => by simp [wI, h]) (fun j => rfl) (fun j => rfl)
theorem wJ_ne {K : CtxT} {M : Mm} {a k b : Nat} {x : Int64} (h : b ≠ a) : ce K (wJ M a k x) b = ce K M b := ce_congr (fun j => rfl) (fun j => by simp [wJ, h]) (fun j => rfl)
theorem wR_ne {K : CtxT} {M : Mm} {a k b : Nat} {x : Option Nat} (h : b ≠ a) : ce K (wR M a k x) b = ce K M b := ce_congr (fun j => rfl) (fun j => rfl) (fun j => by simp [wR, h])
theorem wC_ne {K : CtxT} {M : Mm} {a0 sp a dp n b : Nat} (h : b ≠ a) : ce K (wC M a0 sp a dp n) b = ce K M b := ce_congr (fun j => by simp [wC, h]) (fun j => rfl) (fun j => rfl)
section HEAP
variable {E : EnvT} {K : CtxT} {μ : MI} {d : Nat} {f : Nat × Nat} {pc : Nat} {L : List (Option Value)} {st : List Value} {nx : Nat} {M : Mm} {k n : Nat} {Z : State → Prop}
theorem Ok.A {E : EnvT} {K : CtxT} {μ : MI} {d : Nat} {f : Nat × Nat} (ok : Ok E K μ d f) : ∀ q : Nat, (es E).heap.size ≤ q → K.1 ≤ q := fun q h => Nat.le_trans ok.2.2.2.2.2.2.2.2.2.2.2.2.2 h
theorem wp_getf {a idx ci kf t : Nat} {fin : Bool} (hd : decode μ.2.1 pc = .ok (.getfield idx, 3)) (hf : FL μ.1.cls idx ci kf t fin) (ha : lk a = (ci, 0)) (hn : a < nx) (kk : Wp E K μ d f (pc + 3) L (fv K.1 M a kf t :: st) nx M k n Z) : Wp E K μ d f pc L (.ref (K.1 + a) :: st) nx M k n Z := by
  intro ok H locs ls hP hS hl
  obtain ⟨C, T, N, h1, h2, -, h3, h5⟩ := hf
  refine va_get (C := C) (T := T) (N := N) (ci := ci) ok.1 ok.2.1 ok.2.2.2.2.1 (cl_ws h1) ok.2.2.2.1 ok.2.2.2.2.2.2.2.1.1 hP.1 a ((wo_get hn).trans (congrArg (fun e => some (K.1 + a, e)) (ce_obj ha (cl_lt h1)))) h1 kf h2 (ok.2.2.2.2.1 _ h3) (fun x hx => hx) (v := fv K.1 M a kf t) ?_ hd (kk ok H locs ls hP hS hl)
  rw [fvs_get, h5, Nat.zero_add]
  rfl
/-- a store into a field, of any type: M' is M but for that place -/
theorem wp_putAny {a idx ci kf t : Nat} {fin : Bool} {v : Value} {M' : Mm} (hd : decode μ.2.1 pc = .ok (.putfield idx, 3)) (hf : FL μ.1.cls idx ci kf t fin) (hfin : fin = true → μ.1.name = "<init>" ∧ FD μ.1.cls ci kf) (ha : lk a = (ci, 0)) (hn : a < nx) (hty : ∀ ty : FieldType, ty = cl_t ci kf → narrow ty v = v ∧ fits ty v = true)
    (hs : (fvs K.1 M a 0 (tcs ci)).set kf v = fvs K.1 M' a 0 (tcs ci)) (ho : ∀ b, b ≠ a → ce K M' b = ce K M b) (kk : Wp E K μ d f (pc + 3) L st nx M' k n Z) : Wp E K μ d f pc L (v :: .ref (K.1 + a) :: st) nx M k n Z := by
  intro ok H locs ls hP hS hl
  obtain ⟨C, T, N, h1, h2, h6, h3, h5⟩ := hf
  have hts := ok.2.2.2.2.1
  have hKx := ok.2.2.2.2.2.2.2.1.1
  obtain ⟨nv, fv'⟩ := hty _ rfl
  have hap := va_apart (own := μ.1.cls) hts (cl_ws h1) (cl_t ci) (cl_tok h1) (cl_nm h1) hKx h1
  obtain ⟨r, g1, cell, q1, q2, q3, q4⟩ := hP.at hn (ce_obj ha (cl_lt h1))
  have hr : r = (C, T, N) := Option.some.inj (g1.symm.trans h1)
  subst hr
  obtain ⟨hSl, hfc, kC, hkC, hkind⟩ := hKx.1 ci _ h1
  obtain ⟨cf, kf', fi, fd, hi, hsl⟩ := hSl kf h2
  have hlay := hts _ (cl_ws h1 _ (u_in_lay h2))
  have hst := (u_facts hfc hkC (u_lays hts (cl_ws h1) h2) hi).1
  have hl5 : kf < (fvs K.1 M a 0 (tcs ci)).length := by rw [fvs_len]; exact (List.getElem?_eq_some_iff.mp h5).1
  have fin' : ∀ H' : Heap, H'[K.1 + a]? = some (cell.setSlot fd.slot v) → H'.size = H.size → (∀ q : Nat, q ≠ K.1 + a → H'[q]? = H[q]?) → Pw K nx M' H' ∧ va_S (fun q : Nat => K.1 ≤ q) (es E).heap H' (locs ++ [⟨K.1 + a, fd.slot⟩]) := by
    intro H' e1 e2 e3
    rw [hsl] at e1
    refine ⟨hP.store (e := .inr (ci, (fvs K.1 M a 0 (tcs ci)).set kf v)) ⟨_, h1, t_OB.to (V := updV (vp_V (fvs K.1 M a 0 (tcs ci))) kf v) ⟨_, e1, q2, q3, t_set q4 hap h2 v⟩ (fun j _ => vp_updV_set hl5 v j)⟩ ?_ e2 e3 ho, hS.put e2 e3 (Nat.le_add_right _ _)⟩
    rw [ce_obj ha (cl_lt h1), hs]
  cases fin with
  | false =>
    unfold u_lay at hlay
    rw [if_neg (by rw [h6]; decide)] at hlay
    have hh := u_store hfc hkC hkind hlay hi (cl_tok h1 kf h2) nv fv'
    exact W.putK ok.1 ok.2.1 (f := fd) ⟨ok.2.2.2.1, hts _ h3, ⟨_, _, _, hi⟩, hst⟩ (by rw [q2]; exact hh) q1 q3 (by rw [hsl]; exact k2_hasslot (q4 kf h2)) rfl rfl hd fun H' e1 e2 e3 => kk ok H' _ ls (fin' H' e1 e2 e3).1 (fin' H' e1 e2 e3).2 hl
  | true =>
    unfold u_lay at hlay
    rw [if_pos h6] at hlay
    have hcf : (em E).cls = cf := by
      obtain ⟨_, _, c', _, _, _, -, -, hf', -, -, -, hown2, -⟩ := Cond.laysFinal_spec hlay
      have e1 : c' = cf := by have := hi.symm.trans hf'; simp at this; exact this.1.symm
      obtain ⟨qd, hqd, hqo⟩ := (hfin rfl).2
      have e0 : (C, T, N) = qd := Option.some.inj (h1.symm.trans hqd)
      rw [show (T kf).1 = μ.1.cls by rw [← hqo, ← e0]] at hown2
      rw [← e1]; exact Option.some.inj (ok.2.2.2.1.symm.trans hown2)
    have hh := u_fits hfc hkC hkind (Or.inr hlay) hi (cl_tok h1 kf h2) nv fv'
    exact W.putFinK ok.1 ok.2.1 ok.2.2.2.1 (hts _ h3) hi hst hcf (ok.2.2.2.2.2.2.2.2.1.trans (hfin rfl).1) (by rw [q2]; exact hh) q1 q3 (by rw [hsl]; exact k2_hasslot (q4 kf h2)) rfl rfl hd fun H' e1 e2 e3 => kk ok H' _ ls (fin' H' e1 e2 e3).1 (fin' H' e1 e2 e3).2 hl
theorem FL.lt {own : String} {idx ci kf t : Nat} {fin : Bool} (hf : FL own idx ci kf t fin) : ci < 9 ∧ kf < 31 ∧ (tcs ci)[kf]? = some t := by
  obtain ⟨C, T, N, h1, h2, -, -, h5⟩ := hf
  exact ⟨cl_lt h1, Nat.lt_of_lt_of_le h2 (cl_n31 h1), h5⟩
theorem wp_putI {a idx ci kf : Nat} {fin : Bool} {x : Int32} (hd : decode μ.2.1 pc = .ok (.putfield idx, 3)) (hf : FL μ.1.cls idx ci kf 0 fin) (hfin : fin = true → μ.1.name = "<init>" ∧ FD μ.1.cls ci kf) (ha : lk a = (ci, 0)) (hn : a < nx) (kk : Wp E K μ d f (pc + 3) L st nx (wI M a kf x) k n Z) : Wp E K μ d f pc L (.int x :: .ref (K.1 + a) :: st) nx M k n Z := by
  obtain ⟨l1, l2, l3⟩ := hf.lt
  refine wp_putAny hd hf hfin ha hn (fun ty e => ?_) (fvs_set _ _ _ _ _ _ _ _ (fun t i hi => ?_) (fun t ht => ?_)) (fun b hb => wI_ne hb) kk
  · rw [e, (cl_ty0 ci l1 kf l2).1 l3]
    exact ⟨rfl, rfl⟩
  · simp [fv, wI, hi]
  · rw [l3] at ht
    cases ht
    simp [fv, wI]
theorem wp_putJ {a idx ci kf : Nat} {fin : Bool} {x : Int64} (hd : decode μ.2.1 pc = .ok (.putfield idx, 3)) (hf : FL μ.1.cls idx ci kf 1 fin) (hfin : fin = true → μ.1.name = "<init>" ∧ FD μ.1.cls ci kf) (ha : lk a = (ci, 0)) (hn : a < nx) (kk : Wp E K μ d f (pc + 3) L st nx (wJ M a kf x) k n Z) : Wp E K μ d f pc L (.long x :: .ref (K.1 + a) :: st) nx M k n Z := by
  obtain ⟨l1, l2, l3⟩ := hf.lt
  refine wp_putAny hd hf hfin ha hn (fun ty e => ?_) (fvs_set _ _ _ _ _ _ _ _ (fun t i hi => ?_) (fun t ht => ?_)) (fun b hb => wJ_ne hb) kk
  · rw [e, (cl_ty0 ci l1 kf l2).2.1 l3]
    exact ⟨rfl, rfl⟩
  · simp [fv, wJ, hi]
  · rw [l3] at ht
    cases ht
    simp [fv, wJ]
theorem wp_putR {a idx ci kf b : Nat} {fin : Bool} (hd : decode μ.2.1 pc = .ok (.putfield idx, 3)) (hf : FL μ.1.cls idx ci kf 2 fin) (hfin : fin = true → μ.1.name = "<init>" ∧ FD μ.1.cls ci kf) (ha : lk a = (ci, 0)) (hn : a < nx) (kk : Wp E K μ d f (pc + 3) L st nx (wR M a kf (some b)) k n Z) : Wp E K μ d f pc L (.ref (K.1 + b) :: .ref (K.1 + a) :: st) nx M k n Z := by
  obtain ⟨l1, l2, l3⟩ := hf.lt
  refine wp_putAny hd hf hfin ha hn (fun ty e => ?_) (fvs_set _ _ _ _ _ _ _ _ (fun t i hi => ?_) (fun t ht => ?_)) (fun b hb => wR_ne hb) kk
  · have := (cl_ty0 ci l1 kf l2).2.2.1 l3
    rw [← e] at this
    cases ty <;> first | exact ⟨rfl, rfl⟩ | cases this
  · simp [fv, wR, hi]
  · rw [l3] at ht
    cases ht
    simp [fv, wR, va_rf]
abbrev tI : Nat := 0
theorem wp_iald {a N : Nat} {i : Int32} (hd : decode μ.2.1 pc = .ok (.iaload, 1)) (ha : lk a = (9, N)) (hn : a < nx) (hin : vp_in i N) (kk : Wp E K μ d f (pc + 1) L (.int (M.1 a i.toNatClampNeg) :: st) nx M k n Z) : Wp E K μ d f pc L (.int i :: .ref (K.1 + a) :: st) nx M k n Z := by
  intro ok H locs ls hP hS hl
  exact va_iald ok.1 ok.2.1 ok.2.2.2.2.2.2.2.1.1 hP.1 a 0 (cA := K.2.2 9) (n := N) (f := M.1 a) ((wo_get hn).trans (congrArg (fun e => some (K.1 + a, e)) (ce_int ha))) rfl hin hd (kk ok H locs ls hP hS hl)
theorem wp_bald {a N : Nat} {i : Int32} (hd : decode μ.2.1 pc = .ok (.baload, 1)) (ha : lk a = (10, N)) (hn : a < nx) (hin : vp_in i N) (kk : Wp E K μ d f (pc + 1) L (.int (M.1 a i.toNatClampNeg) :: st) nx M k n Z) : Wp E K μ d f pc L (.int i :: .ref (K.1 + a) :: st) nx M k n Z := by
  intro ok H locs ls hP hS hl
  exact va_zald ok.1 ok.2.1 ok.2.2.2.2.2.2.2.1.1 hP.1 a 1 (cA := K.2.2 10) (n := N) (f := M.1 a) ((wo_get hn).trans (congrArg (fun e => some (K.1 + a, e)) (ce_boo ha))) rfl hin hd (kk ok H locs ls hP hS hl)
theorem wp_aaldT {a N : Nat} {i : Int32} (hd : decode μ.2.1 pc = .ok (.aaload, 1)) (ha : lk a = (11, N)) (hn : a < nx) (hin : vp_in i N) (kk : Wp E K μ d f (pc + 1) L (va_rf ((M.2.2 a i.toNatClampNeg).map (fun x => K.1 + x)) :: st) nx M k n Z) : Wp E K μ d f pc L (.int i :: .ref (K.1 + a) :: st) nx M k n Z := by
  intro ok H locs ls hP hS hl
  exact va_aldq ok.1 ok.2.1 ok.2.2.2.2.2.2.2.1.1 hP.1 a 2 (cA := K.2.2 11) (C := "HoundLicence$Town") (n := N) (f := fun j => (M.2.2 a j).map (fun x => K.1 + x)) ((wo_get hn).trans (congrArg (fun e => some (K.1 + a, e)) (ce_ref ha (by decide)))) rfl hin hd (kk ok H locs ls hP hS hl)
theorem wp_aaldA {a N : Nat} {i : Int32} (hd : decode μ.2.1 pc = .ok (.aaload, 1)) (ha : lk a = (12, N)) (hn : a < nx) (hin : vp_in i N) (kk : Wp E K μ d f (pc + 1) L (va_rf ((M.2.2 a i.toNatClampNeg).map (fun x => K.1 + x)) :: st) nx M k n Z) : Wp E K μ d f pc L (.int i :: .ref (K.1 + a) :: st) nx M k n Z := by
  intro ok H locs ls hP hS hl
  have hA := (hP.at hn (ce_ref (K := K) (M := M) ha (by decide)))
  have hlt : i.toNatClampNeg < N := Nat.not_le.mp fun q => hin (Or.inr q)
  have hT := (ok.2.2.2.2.2.2.2.1.1.2 3 _ rfl).1 N (fun j => va_rf ((M.2.2 a j).map (fun x => K.1 + x)))
  exact W.aald (v := va_rf ((M.2.2 a i.toNatClampNeg).map (fun x => K.1 + x))) (ty := .array .int) ok.1 ok.2.1 hA hT rfl (fun q => by cases q) (by show ¬ (i < 0 ∨ (arrV _ _ _).slots.size ≤ _); rw [arrV_size]; exact hin) (by show (arrV _ _ _).slots[_]? = _; rw [arrV_read _ _ hlt]) rfl rfl hd (kk ok H locs ls hP hS hl)
theorem wp_alen {a N : Nat} (hd : decode μ.2.1 pc = .ok (.arraylength, 1)) (ha : lk a = (9, N)) (hn : a < nx) (kk : Wp E K μ d f (pc + 1) L (.int (Int32.ofNat N) :: st) nx M k n Z) : Wp E K μ d f pc L (.ref (K.1 + a) :: st) nx M k n Z := by
  intro ok H locs ls hP hS hl
  exact va_alen ok.1 ok.2.1 ok.2.2.2.2.2.2.2.1.1 hP.1 a 0 (cA := K.2.2 9) (x := (N, .inl (M.1 a))) ((wo_get hn).trans (congrArg (fun e => some (K.1 + a, e)) (ce_int ha))) rfl rfl hd (kk ok H locs ls hP hS hl)
theorem wp_iast {a N : Nat} {i x : Int32} (hd : decode μ.2.1 pc = .ok (.iastore, 1)) (ha : lk a = (9, N)) (hn : a < nx) (hin : vp_in i N) (kk : Wp E K μ d f (pc + 1) L st nx (wI M a i.toNatClampNeg x) k n Z) : Wp E K μ d f pc L (.int x :: .int i :: .ref (K.1 + a) :: st) nx M k n Z := by
  intro ok H locs ls hP hS hl
  have hA := (hP.at hn (ce_int (K := K) (M := M) ha))
  refine W.iast ok.1 ok.2.1 hA ((ok.2.2.2.2.2.2.2.1.1.2 0 _ rfl).1 N (fun j => .int (M.1 a j))) (fun q => by cases q) (by show ¬ (i < 0 ∨ (arrV _ _ _).slots.size ≤ _); rw [arrV_size]; exact hin) rfl rfl hd fun H1 e z oq => ?_
  refine kk ok H1 _ ls (hP.store (e := .inl (K.2.2 9, N, .inl (upd (M.1 a) i.toNatClampNeg x))) ?_ (by rw [ce_int ha, upd_wI]) z oq (fun b hb => wI_ne hb)) (hS.put z oq (Nat.le_add_right _ _)) hl
  show H1[K.1 + a]? = some (vp_cell _ _)
  rw [e, vp_cell_i, vp_cell_i, arrV_store]
  congr 2
  funext q
  by_cases hq : q = i.toNatClampNeg
  · subst hq
    simp [updV, upd]
  · simp [updV, upd, hq]
theorem wp_bast {a N : Nat} {i x : Int32} (hd : decode μ.2.1 pc = .ok (.bastore, 1)) (ha : lk a = (10, N)) (hn : a < nx) (hx : narrow .boolean (.int x) = .int x) (hin : vp_in i N) (kk : Wp E K μ d f (pc + 1) L st nx (wI M a i.toNatClampNeg x) k n Z) : Wp E K μ d f pc L (.int x :: .int i :: .ref (K.1 + a) :: st) nx M k n Z := by
  intro ok H locs ls hP hS hl
  have hA := (hP.at hn (ce_boo (K := K) (M := M) ha))
  refine W.zast ok.1 ok.2.1 hA ((ok.2.2.2.2.2.2.2.1.1.2 1 _ rfl).1 N (fun j => .int (M.1 a j))) (fun q => by cases q) (by show ¬ (i < 0 ∨ (arrV _ _ _).slots.size ≤ _); rw [arrV_size]; exact hin) rfl rfl hd fun H1 e z oq => ?_
  refine kk ok H1 _ ls (hP.store (e := .inl (K.2.2 10, N, .inl (upd (M.1 a) i.toNatClampNeg x))) ?_ (by rw [ce_boo ha, upd_wI]) z oq (fun b hb => wI_ne hb)) (hS.put z oq (Nat.le_add_right _ _)) hl
  show H1[K.1 + a]? = some (vp_cell _ _)
  rw [e, vp_cell_i, vp_cell_i, arrV_store]
  congr 2
  funext q
  by_cases hq : q = i.toNatClampNeg
  · subst hq
    simp [updV, upd]
    exact hx
  · simp [updV, upd, hq]
end HEAP
end
section
/-! calls -/
/-- the words of a call of the method μ' (n parameters) from the class own, at the entry idx of its pool -/
def CLb (own : String) (μ' : MI) (n : Nat) : Prop := Cond.code μ'.1 μ'.2.1 μ'.2.2.1 μ'.2.2.2 ∈ gw ∧ Cond.initialized μ'.1.cls ∈ gw ∧ (μ'.1.cls ≠ "java/lang/invoke/MethodHandle" ∧ μ'.1.cls ≠ "java/lang/invoke/VarHandle" ∧ (parseMethodDescriptor μ'.1.desc).map (fun d => d.parameters.length) = some n) ∧ μ'.2.2.1 ≤ 40
def CLv (own : String) (idx : Nat) (μ' : MI) (n : Nat) : Prop := CLb own μ' n ∧ Cond.methodLink own idx μ'.1 ∈ gw ∧ Cond.instanceMethod μ'.1 ∈ gw ∧ Cond.selects μ'.1.cls μ'.1 μ'.1 ∈ gw
def CLs (own : String) (idx : Nat) (μ' : MI) (n : Nat) : Prop := CLb own μ' n ∧ Cond.methodLink own idx μ'.1 ∈ gw ∧ Cond.static μ'.1 ∈ gw
def CLi (own : String) (idx : Nat) (μ' : MI) (n : Nat) : Prop := CLb own μ' n ∧ Cond.methodLink own idx μ'.1 ∈ gw ∧ Cond.instanceMethod μ'.1 ∈ gw ∧ μ'.1.name = "<init>" ∧ μ'.2.2.2 = none
def CLsN (own : String) (idx : Nat) (μ' : MI) (n : Nat) (host : String) : Prop := CLb own μ' n ∧ Cond.methodLinkNest own idx μ'.1 host ∈ exW ∧ Cond.static μ'.1 ∈ gw
def CLiN (own : String) (idx : Nat) (μ' : MI) (n : Nat) (host : String) : Prop := CLb own μ' n ∧ Cond.methodLinkNest own idx μ'.1 host ∈ exW ∧ Cond.instanceMethod μ'.1 ∈ gw ∧ μ'.1.name = "<init>" ∧ μ'.2.2.2 = none
theorem cb_of {R : Room} {s : State} {args : Array Value} {own : String} {idx n d d' dn ds : Nat} {μ' : MI} (hts : ∀ w ∈ gw, w.before args s = true) (h : CLb own μ' n) (hl : Cond.methodLink own idx μ'.1 ∈ gw) (hd : d' < d) (h1 : d ≤ R.frames) (h2 : 60 * d ≤ R.locals) :
    CallB R s args own idx μ'.1 μ'.2.1 μ'.2.2.1 μ'.2.2.2 (.code μ'.1 μ'.2.1 μ'.2.2.1 μ'.2.2.2 :: gw) (rmD d' dn ds) dn ds n :=
  callB_of n hts (gw_inb (fun _ h => h) h.1) rfl rfl rfl (hts _ h.2.1) (hts _ hl) h.2.2.1 ⟨by show d' + 1 ≤ _; omega, by have := h.2.2.2; show 8 + (μ'.2.2.1 + 11) + 60 * d' ≤ _; omega⟩
theorem ct_blind {K : CtxT} {nx : Nat} {M : Mm} {vs : List Value} : FrameBlind (va_Pc vs (fun U => Pw K nx M U.heap ∧ Kx K U ∧ K.1 ≤ U.heap.size)) := fun a U g mk h => ⟨h.1, h.2.1, h.2.2.1.same rfl, h.2.2.2⟩
section CALL
variable {E : EnvT} {K : CtxT} {μ : MI} {d : Nat} {f : Nat × Nat} {pc : Nat} {L : List (Option Value)} {st : List Value} {nx : Nat} {M : Mm} {k n : Nat} {Z : State → Prop}
/-- behind a call -/
theorem wp_back {Q' : Option Value → Mm → Prop} {dn' ds' : Nat} {a : Array Value} {st0 rest : List Value} {H : Heap} {locs : List Loc} {ls : Array Slot} (ok : Ok E K μ d f) (hP : Pw K nx M H) (hS : va_S (fun q : Nat => K.1 ≤ q) (es E).heap H locs) (hl : lR ls μ.2.2.1 L)
    (hr : va_Run (ep E) (el E) (ee E) (eR E) (es E) (em E) (ea E) (eb E) (eM E) (ec E) H locs k n dn' ds' (F0 (em E) pc ls st0) rest (Qc K (nx + dn') Q' a) (fun q : Nat => K.1 ≤ q))
    (kk : ∀ v M', Q' v M' → Wp E K μ d f (pc + 3) L (v.toList ++ rest) (nx + dn') M' (k + dn') (n + ds') Z) : W (ep E) (el E) (ee E) (eR E) (es E) (em E) (ea E) (eb E) (eM E) (ec E) H locs k n Z (F0 (em E) pc ls st0) := by
  intro T hT X
  obtain ⟨v, st₀, t, T', Lc, h0, X', hL, e1, e2, ⟨⟨v', M', hv, hq, hP', -⟩, hz, hk⟩, stp⟩ := hr T hT X
  cases hv
  rw [h0] at hz hk
  obtain ⟨t2, a1, b1⟩ := kk v M' hq ok T'.heap (locs ++ Lc) ls (by rw [e1]; exact hP') ⟨Nat.le_trans hS.1 (by rw [e1]; exact hz), fun q h1 h2 => by rw [e1, hk q (Nat.lt_of_lt_of_le h1 hS.1) h2]; exact hS.2.1 q h1 h2, fun q hq => by
    rcases List.mem_append.mp hq with h | h
    · exact hS.2.2 q h
    · exact hL q h⟩ hl T' rfl X'
  exact ⟨t2, stp t2 a1, b1⟩
theorem wp_pre {vs : List Value} {s : State} {H : Heap} {H0 : Heap} {locs : List Loc} (hK : Kx K s) (hP : Pw K nx M H) : ∀ U : State, U.heap = H → s.WarmedH U.vm → va_Pc vs (fun U => Pw K nx M U.heap ∧ Kx K U ∧ K.1 ≤ U.heap.size) vs.toArray U :=
  fun U hU hW => ⟨rfl, by rw [hU]; exact hP, hK.warm hW, by rw [hU, hP.2]; exact Nat.le_add_right _ _⟩
theorem wp_callV {Q' : Option Value → Mm → Prop} {d' dn' ds' idx nn a ci : Nat} {μ' : MI} {As rest : List Value} {q : vw_C} (hd : decode μ.2.1 pc = .ok (.invokevirtual idx, 3)) (hw : CLv μ.1.cls idx μ' nn) (hC : Ct (el E) K d' μ' (.ref (K.1 + a) :: As) nx M dn' ds' Q') (ha : lk a = (ci, 0)) (hc : vwCl[ci]? = some q) (hq : q.1 = μ'.1.cls) (hn : a < nx)
    (hst : st = As.reverse ++ .ref (K.1 + a) :: rest) (hlen : As.length = nn) (hcat : (rest.map fun v => v.category).sum ≤ 8) (hdd : d' < d) (hrm : k + dn' ≤ f.1 ∧ n + ds' ≤ f.2) (kk : ∀ v M', Q' v M' → Wp E K μ d f (pc + 3) L (v.toList ++ rest) (nx + dn') M' (k + dn') (n + ds') Z) : Wp E K μ d f pc L st nx M k n Z := by
  intro ok H locs ls hP hS hl
  have ok' := ok
  obtain ⟨hx, hb, hml, hown, hts, -, -, hK, -, hfr, hlo, hcs, hss, -⟩ := ok'
  subst hst
  have hrec := va_recv hK.1 hP.1 hc ((wo_get hn).trans (congrArg (fun e => some (K.1 + a, e)) (ce_obj ha (cl_lt hc))))
  refine wp_back ok hP hS hl (va_runV (As := As) (rest := rest) ⟨hx, hb, hml, hown, hts⟩ hC ⟨cb_of hts hw.1 hw.2.1 hdd hfr hlo, hts _ hw.2.2.1, hts _ hw.2.2.2⟩ ⟨ct_blind, ?_, wp_pre (H0 := H) (locs := locs) hK hP⟩ rfl hlen hl.size rfl (lv_room hcat) hd ⟨Nat.le_trans hrm.1 hcs, Nat.le_trans hrm.2 hss⟩) kk
  rw [← hq]
  exact hrec
theorem wp_callS {Q' : Option Value → Mm → Prop} {d' dn' ds' idx nn : Nat} {μ' : MI} {As rest : List Value} (hd : decode μ.2.1 pc = .ok (.invokestatic idx, 3)) (hw : CLs μ.1.cls idx μ' nn) (hC : Ct (el E) K d' μ' As nx M dn' ds' Q')
    (hst : st = As.reverse ++ rest) (hlen : As.length = nn) (hcat : (rest.map fun v => v.category).sum ≤ 8) (hdd : d' < d) (hrm : k + dn' ≤ f.1 ∧ n + ds' ≤ f.2) (kk : ∀ v M', Q' v M' → Wp E K μ d f (pc + 3) L (v.toList ++ rest) (nx + dn') M' (k + dn') (n + ds') Z) : Wp E K μ d f pc L st nx M k n Z := by
  intro ok H locs ls hP hS hl
  have ok' := ok
  obtain ⟨hx, hb, hml, hown, hts, -, -, hK, -, hfr, hlo, hcs, hss, -⟩ := ok'
  subst hst
  exact wp_back ok hP hS hl (va_runS (As := As) (rest := rest) ⟨hx, hb, hml, hown, hts⟩ hC ⟨cb_of hts hw.1 hw.2.1 hdd hfr hlo, hts _ hw.2.2⟩ ⟨ct_blind, wp_pre (H0 := H) (locs := locs) hK hP⟩ rfl hlen hl.size rfl (lv_room hcat) hd ⟨Nat.le_trans hrm.1 hcs, Nat.le_trans hrm.2 hss⟩) kk
theorem wp_callI {Q' : Option Value → Mm → Prop} {d' dn' ds' idx nn b : Nat} {μ' : MI} {As rest : List Value} (hd : decode μ.2.1 pc = .ok (.invokespecial idx, 3)) (hw : CLi μ.1.cls idx μ' nn) (hC : Ct (el E) K d' μ' (.ref b :: As) nx M dn' ds' Q')
    (hst : st = As.reverse ++ .ref b :: rest) (hlen : As.length = nn) (hcat : (rest.map fun v => v.category).sum ≤ 8) (hdd : d' < d) (hrm : k + dn' ≤ f.1 ∧ n + ds' ≤ f.2) (kk : ∀ v M', Q' v M' → Wp E K μ d f (pc + 3) L (v.toList ++ rest) (nx + dn') M' (k + dn') (n + ds') Z) : Wp E K μ d f pc L st nx M k n Z := by
  intro ok H locs ls hP hS hl
  have ok' := ok
  obtain ⟨hx, hb, hml, hown, hts, -, -, hK, -, hfr, hlo, hcs, hss, -⟩ := ok'
  subst hst
  have cb := cb_of (dn := dn') (ds := ds') hts hw.1 hw.2.1 hdd hfr hlo
  unfold Ct at hC
  rw [hw.2.2.2.2] at cb hC
  exact wp_back ok hP hS hl (va_runI (As := As) (rest := rest) ⟨hx, hb, hml, hown, hts⟩ hC ⟨cb, hw.2.2.2.1, hts _ hw.2.2.1⟩ ⟨ct_blind, wp_pre (H0 := H) (locs := locs) hK hP⟩ rfl hlen hl.size rfl (lv_room hcat) hd ⟨Nat.le_trans hrm.1 hcs, Nat.le_trans hrm.2 hss⟩) kk
theorem wp_callSN {Q' : Option Value → Mm → Prop} {d' dn' ds' idx nn : Nat} {host : String} {μ' : MI} {As rest : List Value} (hd : decode μ.2.1 pc = .ok (.invokestatic idx, 3)) (hw : CLsN μ.1.cls idx μ' nn host) (hC : Ct (el E) K d' μ' As nx M dn' ds' Q')
    (hst : st = As.reverse ++ rest) (hlen : As.length = nn) (hcat : (rest.map fun v => v.category).sum ≤ 8) (hdd : d' < d) (hrm : k + dn' ≤ f.1 ∧ n + ds' ≤ f.2) (kk : ∀ v M', Q' v M' → Wp E K μ d f (pc + 3) L (v.toList ++ rest) (nx + dn') M' (k + dn') (n + ds') Z) : Wp E K μ d f pc L st nx M k n Z := by
  intro ok H locs ls hP hS hl
  have ok' := ok
  obtain ⟨hx, hb, hml, hown, hts, -, -, hK, -, hfr, hlo, hcs, hss, -⟩ := ok'
  subst hst
  have hm := hw.1.2.2.2
  exact wp_back ok hP hS hl (va_runSN (As := As) (rest := rest) (host := host) ⟨hx, hb, hml, hown, hts⟩ hC ⟨va_cnB nn hts (gw_inb (fun _ h => h) hw.1.1) rfl rfl rfl (hK.2.1 _ hw.2.1) (hts _ hw.1.2.1) hw.1.2.2.1 ⟨by show d' + 1 ≤ _; omega, by show 8 + (μ'.2.2.1 + 11) + 60 * d' ≤ _; omega⟩, hts _ hw.2.2, trivial⟩ ⟨ct_blind, wp_pre (H0 := H) (locs := locs) hK hP⟩ rfl hlen hl.size rfl (lv_room hcat) hd ⟨Nat.le_trans hrm.1 hcs, Nat.le_trans hrm.2 hss⟩) kk
theorem wp_callIN {Q' : Option Value → Mm → Prop} {d' dn' ds' idx nn b : Nat} {host : String} {μ' : MI} {As rest : List Value} (hd : decode μ.2.1 pc = .ok (.invokespecial idx, 3)) (hw : CLiN μ.1.cls idx μ' nn host) (hC : Ct (el E) K d' μ' (.ref b :: As) nx M dn' ds' Q')
    (hst : st = As.reverse ++ .ref b :: rest) (hlen : As.length = nn) (hcat : (rest.map fun v => v.category).sum ≤ 8) (hdd : d' < d) (hrm : k + dn' ≤ f.1 ∧ n + ds' ≤ f.2) (kk : ∀ v M', Q' v M' → Wp E K μ d f (pc + 3) L (v.toList ++ rest) (nx + dn') M' (k + dn') (n + ds') Z) : Wp E K μ d f pc L st nx M k n Z := by
  intro ok H locs ls hP hS hl
  have ok' := ok
  obtain ⟨hx, hb, hml, hown, hts, -, -, hK, -, hfr, hlo, hcs, hss, -⟩ := ok'
  subst hst
  have hm := hw.1.2.2.2
  have cb := va_cnB (R := eR E) (rm := rmD d' dn' ds') (own := μ.1.cls) (host := host) (index := idx) nn hts (gw_inb (fun _ h => h) hw.1.1) rfl rfl rfl (hK.2.1 _ hw.2.1) (hts _ hw.1.2.1) hw.1.2.2.1 ⟨by show d' + 1 ≤ _; omega, by show 8 + (μ'.2.2.1 + 11) + 60 * d' ≤ _; omega⟩
  unfold Ct at hC
  rw [hw.2.2.2.2] at cb hC
  exact wp_back ok hP hS hl (va_runIN (As := As) (rest := rest) (host := host) ⟨hx, hb, hml, hown, hts⟩ hC ⟨cb, hw.2.2.2.1, hts _ hw.2.2.1⟩ ⟨ct_blind, wp_pre (H0 := H) (locs := locs) hK hP⟩ rfl hlen hl.size rfl (lv_room hcat) hd ⟨Nat.le_trans hrm.1 hcs, Nat.le_trans hrm.2 hss⟩) kk
theorem wp_objInit {idx a : Nat} {rest : List Value} (hd : decode μ.2.1 pc = .ok (.invokespecial idx, 3)) (hw : Cond.methodLink μ.1.cls idx objectInit ∈ gw) (hcat : (rest.map fun v => v.category).sum ≤ 8) (hdd : 0 < d) (kk : Wp E K μ d f (pc + 3) L rest nx M k n Z) : Wp E K μ d f pc L (.ref a :: rest) nx M k n Z := by
  intro ok H locs ls hP hS hl
  have ok' := ok
  obtain ⟨hx, hb, hml, hown, hts, -, -, hK, -, hfr, hlo, hcs, hss, -⟩ := ok'
  refine W.objInit hx hb hown (hts _ hw) (hts _ (gw_of (by decide +kernel) rfl)) (hts _ (gw_of (by decide +kernel) rfl)) rfl (by rw [hml]; exact hl.size) rfl hd (by omega) ?_ (kk ok H locs ls hP hS hl)
  show 2 * 0 + _ + 12 ≤ _
  omega
/-! making -/
theorem Pw.grow {m : Nat} {M' : Mm} {H H1 : Heap} (hP : Pw K nx M H) (z : H1.size = K.1 + (nx + m)) (oq : ∀ q : Nat, q < K.1 + nx → H1[q]? = H[q]?) (ho : ∀ b, b < nx → ce K M' b = ce K M b) (he : ∀ j, j < m → va_at K.2.1 vwCl (K.1 + (nx + j), ce K M' (nx + j)) H1) : Pw K (nx + m) M' H1 := by
  refine ⟨fun i q hi => ?_, z⟩
  obtain ⟨hn, rfl⟩ := wo_some hi
  rcases Nat.lt_or_ge i nx with h | h
  · rw [ho i h]
    exact (hP.1 i _ (wo_get h)).kept (oq _ (by show K.1 + i < _; omega))
  · have := he (i - nx) (by omega)
    rwa [show nx + (i - nx) = i by omega] at this
theorem va_S.grow {A : Nat → Prop} {H0 H H1 : Heap} {locs : List Loc} (hS : va_S A H0 H locs) (z : H.size ≤ H1.size) (oq : ∀ q : Nat, q < H.size → H1[q]? = H[q]?) : va_S A H0 H1 locs :=
  ⟨Nat.le_trans hS.1 z, fun x h1 h2 => (oq x (Nat.lt_of_lt_of_le h1 hS.1)).trans (hS.2.1 x h1 h2), hS.2.2⟩
/-- the memory with zeros in the cell a -/
def wZ (M : Mm) (a : Nat) : Mm := (fun b j => if b = a then 0 else M.1 b j, fun b j => if b = a then 0 else M.2.1 b j, fun b j => if b = a then none else M.2.2 b j)
theorem wZ_ne {b a : Nat} (h : b ≠ a) : ce K (wZ M a) b = ce K M b := ce_congr (fun j => by simp [wZ, h]) (fun j => by simp [wZ, h]) (fun j => by simp [wZ, h])
theorem fvs_zero (b : Nat) (M : Mm) (a : Nat) {C : String} {T : u_T} {N ci : Nat} (h : vwCl[ci]? = some (C, T, N)) : ∀ j, j < N → defaultValue (cl_t ci j) = vp_V (fvs b (wZ M a) a 0 (tcs ci)) j := by
  intro j hj
  have hc := cl_lt h
  have hj31 : j < 31 := Nat.lt_of_lt_of_le hj (cl_n31 h)
  have hl : j < (tcs ci).length := by rw [cl_len h]; exact hj
  obtain ⟨t, ht⟩ : ∃ t, (tcs ci)[j]? = some t := ⟨_, List.getElem?_eq_getElem hl⟩
  have e : vp_V (fvs b (wZ M a) a 0 (tcs ci)) j = fv b (wZ M a) a j t := by
    unfold vp_V
    rw [List.getD_eq_getElem?_getD, fvs_get, ht, Nat.zero_add]
    rfl
  rw [e]
  obtain ⟨h0, h1, h2, h3⟩ := cl_ty0 ci hc j hj31
  rcases h3 t ht with rfl | rfl | rfl
  · rw [h0 ht]; simp [fv, wZ, defaultValue]
  · rw [h1 ht]; simp [fv, wZ, defaultValue]
  · have := h2 ht
    cases hty : cl_t ci j <;> rw [hty] at this <;> first | (simp [fv, wZ, defaultValue, va_rf]; done) | cases this
theorem wp_new {idx ci : Nat} {C : String} {T : u_T} {N : Nat} (hd : decode μ.2.1 pc = .ok (.new idx, 3)) (hc : vwCl[ci]? = some (C, T, N)) (hw1 : Cond.classLink μ.1.cls idx C ∈ gw) (hw2 : Cond.instantiable C N ∈ gw) (hw3 : Cond.initialized C ∈ gw) (ha : lk nx = (ci, 0)) (hrm : k + 1 ≤ f.1 ∧ n + N ≤ f.2)
    (kk : Wp E K μ d f (pc + 3) L (.ref (K.1 + nx) :: st) (nx + 1) (wZ M nx) (k + 1) (n + N) Z) : Wp E K μ d f pc L st nx M k n Z := by
  intro ok H locs ls hP hS hl
  have ok' := ok
  obtain ⟨hx, hb, hml, hown, hts, -, -, hK, -, hfr, hlo, hcs, hss, -⟩ := ok'
  have hKn := hK.1.1 ci _ hc
  refine W.newcK hx hb hown (hts _ hw1) (hts _ hw2) (hts _ hw3) rfl hd (Nat.le_trans hrm.1 hcs) (Nat.le_trans hrm.2 hss) hKn.2.1 hP.2 fun H1 kC hkC e1 z1 o1 => ?_
  refine kk ok H1 locs ls (hP.grow (m := 1) (by omega) o1 (fun b hb => wZ_ne (by omega)) (fun j hj => ?_)) (hS.grow (by rw [z1, hP.2]; omega) (fun q hq => o1 q (by rw [← hP.2]; exact hq))) hl
  have : j = 0 := by omega
  subst this
  rw [Nat.add_zero, ce_obj ha (cl_lt hc)]
  exact ⟨_, hc, (u_born (cl_t ci) hts (cl_ws hc) hKn hkC e1 (cl_tok hc)).to (fun j hj => fvs_zero _ _ _ hc j hj)⟩
theorem wp_newI {N : Nat} {x : Int32} (hd : decode μ.2.1 pc = .ok (.newarray .int, 2)) (hx : ¬ x < 0) (hN : x.toNatClampNeg = N) (hN2 : N ≤ 100000) (ha : lk nx = (9, N)) (hrm : k + 1 ≤ f.1 ∧ n + N ≤ f.2) (hw : Cond.arrayClass .int ∈ gw)
    (kk : Wp E K μ d f (pc + 2) L (.ref (K.1 + nx) :: st) (nx + 1) (wZ M nx) (k + 1) (n + N) Z) : Wp E K μ d f pc L (.int x :: st) nx M k n Z := by
  intro ok H locs ls hP hS hl
  have ok' := ok
  obtain ⟨hex, hb, hml, hown, hts, -, -, hK, -, hfr, hlo, hcs, hss, -⟩ := ok'
  refine va_newaK (atype := .int) hex hb (hts _ hw) rfl hd rfl hx hN (by show N * 4 ≤ _; omega) (Nat.le_trans hrm.1 hcs) (Nat.le_trans hrm.2 hss) hP.2 fun H1 cA e1 z1 o1 _ hnm => ?_
  have hcA : cA = K.2.2 9 := Option.some.inj (hnm.symm.trans (hK.1.2 0 _ rfl).2)
  subst hcA
  refine kk ok H1 locs ls (hP.grow (m := 1) (by omega) o1 (fun b hb => wZ_ne (by omega)) (fun j hj => ?_)) (hS.grow (by rw [z1, hP.2]; omega) (fun q hq => o1 q (by rw [← hP.2]; exact hq))) hl
  have : j = 0 := by omega
  subst this
  rw [Nat.add_zero, ce_int ha]
  show H1[K.1 + nx]? = some (vp_cell _ _)
  rw [e1, vp_cell_i]
  simp [wZ]
  rfl
theorem wp_newZ {N : Nat} {x : Int32} (hd : decode μ.2.1 pc = .ok (.newarray .boolean, 2)) (hx : ¬ x < 0) (hN : x.toNatClampNeg = N) (hN2 : N ≤ 100000) (ha : lk nx = (10, N)) (hrm : k + 1 ≤ f.1 ∧ n + N ≤ f.2) (hw : Cond.arrayClass .boolean ∈ gw)
    (kk : Wp E K μ d f (pc + 2) L (.ref (K.1 + nx) :: st) (nx + 1) (wZ M nx) (k + 1) (n + N) Z) : Wp E K μ d f pc L (.int x :: st) nx M k n Z := by
  intro ok H locs ls hP hS hl
  have ok' := ok
  obtain ⟨hex, hb, hml, hown, hts, -, -, hK, -, hfr, hlo, hcs, hss, -⟩ := ok'
  refine va_newaK (atype := .boolean) hex hb (hts _ hw) rfl hd rfl hx hN (by show N * 1 ≤ _; omega) (Nat.le_trans hrm.1 hcs) (Nat.le_trans hrm.2 hss) hP.2 fun H1 cA e1 z1 o1 _ hnm => ?_
  have hcA : cA = K.2.2 10 := Option.some.inj (hnm.symm.trans (hK.1.2 1 _ rfl).2)
  subst hcA
  refine kk ok H1 locs ls (hP.grow (m := 1) (by omega) o1 (fun b hb => wZ_ne (by omega)) (fun j hj => ?_)) (hS.grow (by rw [z1, hP.2]; omega) (fun q hq => o1 q (by rw [← hP.2]; exact hq))) hl
  have : j = 0 := by omega
  subst this
  rw [Nat.add_zero, ce_boo ha]
  show H1[K.1 + nx]? = some (vp_cell _ _)
  rw [e1, vp_cell_i]
  simp [wZ]
  rfl
theorem wp_newT {idx N : Nat} {x : Int32} (hd : decode μ.2.1 pc = .ok (.anewarray idx, 3)) (hw : Cond.classLink μ.1.cls idx "HoundLicence$Town" ∈ gw) (hx : ¬ x < 0) (hN : x.toNatClampNeg = N) (hN2 : N ≤ 100000) (ha : lk nx = (11, N)) (hrm : k + 1 ≤ f.1 ∧ n + N ≤ f.2)
    (kk : Wp E K μ d f (pc + 3) L (.ref (K.1 + nx) :: st) (nx + 1) (wZ M nx) (k + 1) (n + N) Z) : Wp E K μ d f pc L (.int x :: st) nx M k n Z := by
  intro ok H locs ls hP hS hl
  have ok' := ok
  obtain ⟨hex, hb, hml, hown, hts, -, -, hK, -, hfr, hlo, hcs, hss, -⟩ := ok'
  subst hN
  refine W.anew hex hb hown (hts _ hw) (ao_vm (A := #[]) rfl (hK.2.2 _ (by simp [aoT]))) rfl hd rfl hx (by omega) (Nat.le_trans hrm.1 hcs) (Nat.le_trans hrm.2 hss) fun cA kA comp f1 f2 f3 f4 => ?_
  obtain ⟨kA', comp', g1, g2, g3, g4⟩ := (hK.1.2 2 _ rfl).2
  have hcA : cA = K.2.2 11 := Option.some.inj (f1.symm.trans g4)
  subst hcA
  generalize hH1 : H.push ({ cls := K.2.2 11, slots := Array.replicate x.toNatClampNeg .null, vm := .none } : Cell) = H1
  have z1 : H1.size = H.size + 1 := by rw [← hH1, Array.size_push]
  have e1 : H1[H.size]? = some (arrV (K.2.2 11) x.toNatClampNeg (fun _ => .null)) := by rw [← hH1, Array.getElem?_push_size, ← arrV_new]
  have o1 : ∀ q : Nat, q < H.size → H1[q]? = H[q]? := fun q hq => by rw [← hH1, Array.getElem?_push, if_neg (Nat.ne_of_lt hq)]
  rw [hP.2] at e1 z1 o1 ⊢
  refine kk ok H1 locs ls (hP.grow (m := 1) (by omega) o1 (fun b hb => wZ_ne (by omega)) (fun j hj => ?_)) (hS.grow (by rw [z1, hP.2]; omega) (fun q hq => o1 q (by rw [← hP.2]; exact hq))) hl
  have : j = 0 := by omega
  subst this
  rw [Nat.add_zero, ce_ref ha (by decide)]
  show H1[K.1 + nx]? = some (vp_cell _ _)
  rw [e1, vp_cell_q]
  simp [wZ, va_rf]
/-- a town into an array of towns -/
theorem wp_aastT {a b N : Nat} {i : Int32} (hd : decode μ.2.1 pc = .ok (.aastore, 1)) (ha : lk a = (11, N)) (hn : a < nx) (hb : lk b = (6, 0)) (hbn : b < nx) (hin : vp_in i N) (kk : Wp E K μ d f (pc + 1) L st nx (wR M a i.toNatClampNeg (some b)) k n Z) : Wp E K μ d f pc L (.ref (K.1 + b) :: .int i :: .ref (K.1 + a) :: st) nx M k n Z := by
  intro ok H locs ls hP hS hl
  have hKx := ok.2.2.2.2.2.2.2.1.1
  have hlt : i.toNatClampNeg < N := Nat.not_le.mp fun q => hin (Or.inr q)
  have h0 : ¬ i < 0 := fun q => hin (Or.inl q)
  have hA := hP.at hn (ce_ref (K := K) (M := M) ha (by decide))
  obtain ⟨r', hr', cellV, g1, g2, g3, -⟩ := hP.at hbn (ce_obj (K := K) (M := M) hb (by decide))
  have hcls := (hKx.1 6 _ rfl).2
  obtain ⟨kA, comp, k1, k2, k3, -⟩ := (hKx.2 2 _ rfl).2
  have hcomp : comp = K.2.1.1 6 := Option.some.inj (k3.symm.trans hcls.1)
  subst hcomp
  obtain ⟨kC, hkC, -⟩ := hcls.2
  refine W.aast ok.1 ok.2.1 hA (fun q h => by cases h) (fun h => by cases h) k1 k2 rfl hkC ⟨h0, by show _ < (arrV _ _ _).slots.size; rw [arrV_size]; exact hlt⟩ g1 (fun q h => by rw [g3] at h; cases h) (by rw [g2]; exact hkC) (by rw [g2]; exact va_assign hcls) rfl rfl hd fun H1 e z oq => ?_
  refine kk ok H1 _ ls (hP.store (e := .inl (K.2.2 11, N, .inr (.inr (.inr (.inr (va_up (fun j => (M.2.2 a j).map (fun x => K.1 + x)) i.toNatClampNeg (some (K.1 + b)))))))) ?_ ?_ z oq (fun b hb => wR_ne hb)) (hS.put z oq (Nat.le_add_right _ _)) hl
  · show H1[K.1 + a]? = some (vp_cell _ _)
    rw [e, vp_cell_q, vp_cell_q, arrV_store]
    congr 2
    funext q
    by_cases hq : q = i.toNatClampNeg
    · subst hq
      simp [updV, va_up, va_rf]
    · simp [updV, va_up, hq]
  · rw [ce_ref ha (by decide)]
    congr 7
    funext j
    by_cases hj : j = i.toNatClampNeg
    · subst hj
      simp [wR, va_up]
    · simp [wR, va_up, hj]
end CALL
end
section
section COPY
variable {E : EnvT} {K : CtxT} {μ : MI} {d : Nat} {f : Nat × Nat} {pc : Nat} {L : List (Option Value)} {st : List Value} {nx : Nat} {M : Mm} {k n : Nat} {Z : State → Prop}
theorem wC_row (M : Mm) (a0 sp a dp n : Nat) : (wC M a0 sp a dp n).1 a = va_cpy (M.1 a0) (M.1 a) sp dp n := by
  funext j
  simp [wC, va_cpy]
/-- System.arraycopy between int arrays -/
theorem wp_copy {idx a0 a N0 N1 : Nat} {sp dp m : Int32} {rest : List Value} (hd : decode μ.2.1 pc = .ok (.invokestatic idx, 3)) (hw : Cond.methodLink μ.1.cls idx arraycopyName ∈ gw) (ha0 : lk a0 = (9, N0)) (ha : lk a = (9, N1)) (hn0 : a0 < nx) (hn : a < nx)
    (h1 : ¬ sp < 0) (h2 : ¬ dp < 0) (h3 : ¬ m < 0) (h4 : sp.toNatClampNeg + m.toNatClampNeg ≤ N0) (h5 : dp.toNatClampNeg + m.toNatClampNeg ≤ N1) (hcat : (rest.map fun v => v.category).sum ≤ 8) (hdd : 0 < d)
    (kk : Wp E K μ d f (pc + 3) L rest nx (wC M a0 sp.toNatClampNeg a dp.toNatClampNeg m.toNatClampNeg) k n Z) : Wp E K μ d f pc L (.int m :: .int dp :: .ref (K.1 + a) :: .int sp :: .ref (K.1 + a0) :: rest) nx M k n Z := by
  intro ok H locs ls hP hS hl
  have ok' := ok
  obtain ⟨hx, hb, hml, hown, hts, -, -, hK, -, hfr, hlo, hcs, hss, -⟩ := ok'
  have nn : ∀ z : Int32, ¬ z < 0 → z.toInt = (z.toNatClampNeg : Int) := by
    intro z hz
    have hz0 : (0 : Int) ≤ z.toInt := by
      have := Int32.not_lt.mp hz
      simpa using Int32.le_iff_toInt_le.mp this
    show z.toInt = ((z.toInt.toNat : Nat) : Int)
    omega
  have hc0 : H[K.1 + a0]? = some (vp_cell (K.2.2 9) (N0, .inl (M.1 a0))) := hP.at hn0 (ce_int ha0)
  have hc1 : H[K.1 + a]? = some (vp_cell (K.2.2 9) (N1, .inl (M.1 a))) := hP.at hn (ce_int ha)
  intro T hT X
  obtain ⟨-, k0, hk0, cm0, hkk0⟩ := (hK.1.2 0 _ rfl).1 N0 (fun j => .int (M.1 a0 j))
  obtain ⟨-, k1, hk1, cm1, hkk1⟩ := (hK.1.2 0 _ rfl).1 N1 (fun j => .int (M.1 a j))
  obtain ⟨vm', X', step⟩ := X.arraycopy hx hown (hts _ hw) (hts _ (gw_of (by decide +kernel) rfl)) (hts _ (gw_of (by decide +kernel) rfl)) (hts _ (gw_of (by decide +kernel) rfl)) (src := K.1 + a0) (dst := K.1 + a) (cs := vp_cell (K.2.2 9) (N0, .inl (M.1 a0))) (cd := vp_cell (K.2.2 9) (N1, .inl (M.1 a))) (srcPos := sp) (destPos := dp) (n := m) (by rw [hT]; exact hc0) (by rw [hT]; exact hc1)
    (fun _ h => by cases h) (fun _ h => by cases h) (fun h => by cases h) (fun h => by cases h) hk0 hk1 hkk0 hkk1 (by simp [refKind]) h1 h2 h3
    (by rw [nn sp h1, nn m h3]; show ¬ _ > ((arrV (K.2.2 9) N0 (fun j => .int (M.1 a0 j))).slots.size : Int); rw [arrV_size]; omega)
    (by rw [nn dp h2, nn m h3]; show ¬ _ > ((arrV (K.2.2 9) N1 (fun j => .int (M.1 a j))).slots.size : Int); rw [arrV_size]; omega)
    (fun vm₁ _ i hi => by
      have e : (vp_cell (K.2.2 9) (N0, .inl (M.1 a0))).slots.getD (sp.toNatClampNeg + i) .null = .int (M.1 a0 (sp.toNatClampNeg + i)) := by
        show (arrV (K.2.2 9) N0 (fun j => .int (M.1 a0 j))).slots.getD _ _ = _
        rw [Array.getD_eq_getD_getElem?, arrV_read _ _ (by omega)]
        rfl
      refine ⟨?_, ?_⟩
      · rw [e]
        rfl
      · rw [e]
        exact trivial)
    (g := F0 (em E) pc ls (.int m :: .int dp :: .ref (K.1 + a) :: .int sp :: .ref (K.1 + a0) :: rest)) rfl (by rw [hml]; exact hl.size) (rest := rest) rfl (by rw [hb]; exact hd) (by omega) (by
      have : nativeFrameWords "java/lang/System" "arraycopy" 5 + 11 ≤ 50 := by decide +kernel
      show 2 * 0 + _ + _ ≤ _
      omega)
  have e1 : copied (vp_cell (K.2.2 9) (N0, .inl (M.1 a0))) (vp_cell (K.2.2 9) (N1, .inl (M.1 a))) sp dp m = vp_cell (K.2.2 9) (N1, .inl (va_cpy (M.1 a0) (M.1 a) sp.toNatClampNeg dp.toNatClampNeg m.toNatClampNeg)) := va_copied (fun z => .int z) _ _ _ _ h4
  rw [e1] at X' step
  generalize hcc : vp_cell (K.2.2 9) (N1, .inl (va_cpy (M.1 a0) (M.1 a) sp.toNatClampNeg dp.toNatClampNeg m.toNatClampNeg)) = cc at X' step
  have hlt : K.1 + a < H.size := (Array.getElem?_eq_some_iff.mp hc1).1
  have hheap : ((T.setVm vm').setCell (K.1 + a) cc).heap = H.setIfInBounds (K.1 + a) cc := by rw [← hT]; rfl
  have oq : ∀ q : Nat, q ≠ K.1 + a → (H.setIfInBounds (K.1 + a) cc)[q]? = H[q]? := fun q hq => by simp [Array.getElem?_setIfInBounds, Ne.symm hq]
  obtain ⟨t, a1, b1⟩ := kk ok (H.setIfInBounds (K.1 + a) cc) _ ls (hP.store (e := .inl (K.2.2 9, N1, .inl (va_cpy (M.1 a0) (M.1 a) sp.toNatClampNeg dp.toNatClampNeg m.toNatClampNeg))) (show (H.setIfInBounds (K.1 + a) cc)[K.1 + a]? = some _ by rw [← hcc]; simp [Array.getElem?_setIfInBounds, hlt]) (by rw [ce_int ha, wC_row]) (by simp) oq (fun b hb => wC_ne hb)) ⟨by simp; exact hS.1, fun q g1 g2 => by
      rw [oq q (fun e => g2 (by rw [e]; exact Nat.le_add_right _ _))]
      exact hS.2.1 q g1 g2, fun q hq => by
      rcases List.mem_append.mp hq with h | h
      · exact hS.2.2 q h
      · obtain ⟨z, -, hz⟩ := List.mem_map.mp h
        rw [← hz]
        exact Nat.le_add_right _ _⟩ hl _ hheap X'
  exact ⟨t, step t a1, b1⟩
/-! the law's own script -/
theorem wp_sld {b Ls : Nat} {xs : Nat → Int32} {i : Int32} (hd : decode μ.2.1 pc = .ok (.iaload, 1)) (hX : va_X b Ls xs (es E) (es E).heap) (hbl : b < (es E).heap.size) (hbK : b < K.1) (hin : vp_in i Ls) (kk : Wp E K μ d f (pc + 1) L (.int (xs i.toNatClampNeg) :: st) nx M k n Z) : Wp E K μ d f pc L (.int i :: .ref b :: st) nx M k n Z :=
  fun ok H locs ls hP hS hl => va_sld ok.1 ok.2.1 hX hbl (Nat.not_le.mpr hbK) hS hin hd (kk ok H locs ls hP hS hl)
theorem wp_slen {b Ls : Nat} {xs : Nat → Int32} (hd : decode μ.2.1 pc = .ok (.arraylength, 1)) (hX : va_X b Ls xs (es E) (es E).heap) (hbl : b < (es E).heap.size) (hbK : b < K.1) (kk : Wp E K μ d f (pc + 1) L (.int (Int32.ofNat Ls) :: st) nx M k n Z) : Wp E K μ d f pc L (.ref b :: st) nx M k n Z :=
  fun ok H locs ls hP hS hl => va_slen ok.1 ok.2.1 hX hbl (Nat.not_le.mpr hbK) hS hd (kk ok H locs ls hP hS hl)
end COPY
end
section
/-- the memory behind new int[N][m] at the cell a: the outer row at a, the inner ones behind it -/
def wG (M : Mm) (a N : Nat) : Mm := (fun b j => if a ≤ b ∧ b ≤ a + N then 0 else M.1 b j, fun b j => if a ≤ b ∧ b ≤ a + N then 0 else M.2.1 b j, fun b j => if b = a then (if j < N then some (a + 1 + j) else none) else if a ≤ b ∧ b ≤ a + N then none else M.2.2 b j)
theorem wG_ne {b a N : Nat} {K : CtxT} {M : Mm} (h : b < a) : ce K (wG M a N) b = ce K M b :=
  ce_congr (fun j => by simp [wG, show ¬ a ≤ b by omega]) (fun j => by simp [wG, show ¬ a ≤ b by omega]) (fun j => by simp [wG, show ¬ b = a by omega, show ¬ a ≤ b by omega])
theorem outer_row (c : ClassId) (N h0 : Nat) : ∀ i : Nat, Jvm.Free.Multi.outerC c N h0 i = arrV c N (fun j => va_rf (if j < i then some (h0 + 1 + j) else none))
  | 0 => by
    show ({ cls := c, slots := Array.replicate N .null, vm := .none } : Cell) = _
    rw [arrV_new]
    congr 1
  | i + 1 => by
    show (Jvm.Free.Multi.outerC c N h0 i).setSlot i (.ref (h0 + 1 + i)) = _
    rw [outer_row c N h0 i, arrV_store]
    congr 1
    funext j
    by_cases e : j = i
    · subst e
      simp [updV, va_rf]
    · by_cases h : j < i
      · simp [updV, e, h, Nat.lt_succ_of_lt h]
      · simp [updV, e, h, show ¬ j < i + 1 by omega]
section MULTI
variable {E : EnvT} {K : CtxT} {μ : MI} {d : Nat} {f : Nat × Nat} {pc : Nat} {L : List (Option Value)} {st : List Value} {nx : Nat} {M : Mm} {k n : Nat} {Z : State → Prop}
theorem wp_multi {idx N m : Nat} {x y : Int32} (hd : decode μ.2.1 pc = .ok (.multianewarray idx 2, 4)) (hw : Cond.classLink μ.1.cls idx "[[I" ∈ gw) (hwI : Cond.arrayClass .int ∈ gw) (hx : ¬ x < 0) (hy : ¬ y < 0) (hN : x.toNatClampNeg = N) (hm : y.toNatClampNeg = m) (hN2 : N ≤ 1000) (hm2 : m ≤ 1000)
    (ha : lk nx = (12, N)) (hb : ∀ j, j < N → lk (nx + 1 + j) = (9, m)) (hrm : k + (1 + N) ≤ f.1 ∧ n + (N + N * m) ≤ f.2)
    (kk : Wp E K μ d f (pc + 4) L (.ref (K.1 + nx) :: st) (nx + (1 + N)) (wG M nx N) (k + 1 + N) (n + N + N * m) Z) : Wp E K μ d f pc L (.int y :: .int x :: st) nx M k n Z := by
  intro ok H locs ls hP hS hl
  have ok' := ok
  obtain ⟨hex, hbb, hml, hown, hts, -, -, hK, -, hfr, hlo, hcs, hss, -⟩ := ok'
  subst hN
  subst hm
  intro T hT X
  obtain ⟨vm₁, cA, comp, -, fA, fC, -, -, X', step⟩ := X.multianewarray2F (ty := .int) hex hown (hts _ hw) (ao_vm (A := #[]) rfl (hK.2.2 _ (by simp [aoT]))) (hts _ hwI) (g := F0 (em E) pc ls (.int y :: .int x :: st)) rfl (by rw [hbb]; exact hd) rfl hx hy (by omega) (by show _ * 4 ≤ _; omega) (by omega) rfl rfl (Nat.le_trans hrm.1 hcs) (Nat.le_trans hrm.2 hss)
  have hcA : cA = K.2.2 12 := Option.some.inj (fA.symm.trans (hK.1.2 3 _ rfl).2)
  have hcm : comp = K.2.2 9 := Option.some.inj (fC.symm.trans (hK.1.2 0 _ rfl).2)
  subst hcA
  subst hcm
  obtain ⟨f1, f2, -, -⟩ := Jvm.Free.Multi.fill_facts (T.setVm vm₁) (K.2.2 12) (K.2.2 9) x.toNatClampNeg y.toNatClampNeg (defaultValue .int) x.toNatClampNeg
  have f3 := fun (a : Nat) (h : a < (T.setVm vm₁).heap.size) => Jvm.Free.Multi.fill_old (T.setVm vm₁) (K.2.2 12) (K.2.2 9) x.toNatClampNeg y.toNatClampNeg (defaultValue .int) (a := a) h x.toNatClampNeg
  have f4 := fun j => Jvm.Free.Multi.fill_inner (T.setVm vm₁) (K.2.2 12) (K.2.2 9) x.toNatClampNeg y.toNatClampNeg (defaultValue .int) x.toNatClampNeg j
  generalize Jvm.Free.Multi.fill (T.setVm vm₁) (K.2.2 12) (K.2.2 9) x.toNatClampNeg y.toNatClampNeg (defaultValue .int) x.toNatClampNeg = F at X' step f1 f2 f3 f4
  have hTh : (T.setVm vm₁).heap = H := hT
  rw [hTh, hP.2] at f1 f2 f3 f4
  rw [hT, hP.2] at step
  have hPw : Pw K (nx + (1 + x.toNatClampNeg)) (wG M nx x.toNatClampNeg) F.heap := by
    refine hP.grow (m := 1 + x.toNatClampNeg) (by omega) f3 (fun b hb => wG_ne hb) (fun j hj => ?_)
    rcases Nat.eq_zero_or_pos j with rfl | hj0
    · rw [Nat.add_zero, ce_ref ha (by decide)]
      show F.heap[K.1 + nx]? = some (vp_cell _ _)
      rw [f2, outer_row, vp_cell_q]
      congr 2
      funext i
      by_cases hi : i < x.toNatClampNeg
      · have e : K.1 + nx + 1 + i = K.1 + (nx + 1 + i) := by omega
        simp [wG, hi, va_rf, e]
      · simp [wG, hi, va_rf]
    · obtain ⟨i, rfl⟩ : ∃ i, j = i + 1 := ⟨j - 1, by omega⟩
      have hl9 := hb i (by omega)
      rw [show nx + 1 + i = nx + (i + 1) by omega] at hl9
      rw [ce_int hl9]
      show F.heap[K.1 + (nx + (i + 1))]? = some (vp_cell _ _)
      rw [show K.1 + (nx + (i + 1)) = K.1 + nx + 1 + i by omega, f4 i (by omega), vp_cell_i]
      show some ({ cls := K.2.2 9, slots := Array.replicate y.toNatClampNeg (.int 0), vm := .none } : Cell) = _
      rw [arrV_new]
      congr 2
      funext q
      have : nx ≤ nx + (i + 1) ∧ nx + (i + 1) ≤ nx + x.toNatClampNeg := by omega
      simp [wG, this]
  obtain ⟨t, a1, b1⟩ := kk ok F.heap locs ls hPw (hS.grow (by rw [f1, hP.2]; omega) (fun q hq => f3 q (by rw [← hP.2]; exact hq))) hl F rfl X'
  exact ⟨t, step t a1, b1⟩
end MULTI
end
section
/-! the methods, and the words of fields and calls by their entries -/
abbrev mJ6_bitCount_0f7a4 : MI := (yJ6_bitCount_0f7a4, cJ6_bitCount_0f7a4, 1, (some .int))
abbrev mJ9_floorMod_7cf53 : MI := (yJ9_floorMod_7cf53, cJ9_floorMod_7cf53, 3, (some .int))
abbrev mL_law : MI := (yL_law, cL_law, 4, (some .boolean))
abbrev mX0_forget : MI := (yX0_forget, cX0_forget, 1, none)
abbrev mX0_forgetFirst : MI := (yX0_forgetFirst, cX0_forgetFirst, 3, none)
abbrev mX0_init : MI := (yX0_init, cX0_init, 2, none)
abbrev mX0_remember : MI := (yX0_remember, cX0_remember, 2, none)
abbrev mX0_takeBack : MI := (yX0_takeBack, cX0_takeBack, 2, none)
abbrev mX1_allReached : MI := (yX1_allReached, cX1_allReached, 2, (some .boolean))
abbrev mX1_clearNext : MI := (yX1_clearNext, cX1_clearNext, 2, none)
abbrev mX1_countWays : MI := (yX1_countWays, cX1_countWays, 6, none)
abbrev mX1_fewestHours : MI := (yX1_fewestHours, cX1_fewestHours, 4, (some .int))
abbrev mX1_firstRow : MI := (yX1_firstRow, cX1_firstRow, 7, (some .int))
abbrev mX1_firstWay : MI := (yX1_firstWay, cX1_firstWay, 4, (some .int))
abbrev mX1_init : MI := (yX1_init, cX1_init, 1, none)
abbrev mX1_look : MI := (yX1_look, cX1_look, 5, none)
abbrev mX1_spread : MI := (yX1_spread, cX1_spread, 5, none)
abbrev mX1_swap : MI := (yX1_swap, cX1_swap, 2, none)
abbrev mX1_waysBy : MI := (yX1_waysBy, cX1_waysBy, 3, (some .int))
abbrev mX1_waysFrom : MI := (yX1_waysFrom, cX1_waysFrom, 2, (some .int))
abbrev mX1_withStreet : MI := (yX1_withStreet, cX1_withStreet, 4, (some .int))
abbrev mX2_become : MI := (yX2_become, cX2_become, 2, none)
abbrev mX2_clear : MI := (yX2_clear, cX2_clear, 1, none)
abbrev mX2_comesFrom : MI := (yX2_comesFrom, cX2_comesFrom, 5, (some .boolean))
abbrev mX2_degree : MI := (yX2_degree, cX2_degree, 7, (some .int))
abbrev mX2_hasDog : MI := (yX2_hasDog, cX2_hasDog, 2, (some .boolean))
abbrev mX2_hasMan : MI := (yX2_hasMan, cX2_hasMan, 2, (some .boolean))
abbrev mX2_hasRival : MI := (yX2_hasRival, cX2_hasRival, 3, (some .boolean))
abbrev mX2_inheritsBefore : MI := (yX2_inheritsBefore, cX2_inheritsBefore, 5, (some .boolean))
abbrev mX2_init : MI := (yX2_init, cX2_init, 1, none)
abbrev mX2_mayParent : MI := (yX2_mayParent, cX2_mayParent, 3, (some .boolean))
abbrev mX2_mayParentSome : MI := (yX2_mayParentSome, cX2_mayParentSome, 3, (some .boolean))
abbrev mX2_sings : MI := (yX2_sings, cX2_sings, 2, (some .boolean))
abbrev mX2_wardenAt : MI := (yX2_wardenAt, cX2_wardenAt, 2, (some .int))
abbrev mX3_figure : MI := (yX3_figure, cX3_figure, 1, (some .int))
abbrev mX3_firstFault : MI := (yX3_firstFault, cX3_firstFault, 4, (some .int))
abbrev mX3_goesOn : MI := (yX3_goesOn, cX3_goesOn, 3, (some .boolean))
abbrev mX3_init : MI := (yX3_init, cX3_init, 1, none)
abbrev mX3_isStreet : MI := (yX3_isStreet, cX3_isStreet, 1, (some .boolean))
abbrev mX3_mayOpen : MI := (yX3_mayOpen, cX3_mayOpen, 2, (some .boolean))
abbrev mX3_opens : MI := (yX3_opens, cX3_opens, 2, (some .boolean))
abbrev mX3_takes : MI := (yX3_takes, cX3_takes, 2, (some .boolean))
abbrev mX3_takesDog : MI := (yX3_takesDog, cX3_takesDog, 3, (some .boolean))
abbrev mX3_takesHead : MI := (yX3_takesHead, cX3_takesHead, 2, (some .boolean))
abbrev mX3_takesMan : MI := (yX3_takesMan, cX3_takesMan, 5, (some .boolean))
abbrev mX3_takesParent : MI := (yX3_takesParent, cX3_takesParent, 2, (some .boolean))
abbrev mX4_bachelors : MI := (yX4_bachelors, cX4_bachelors, 3, (some .int))
abbrev mX4_holds : MI := (yX4_holds, cX4_holds, 6, (some .boolean))
abbrev mX4_wardens : MI := (yX4_wardens, cX4_wardens, 3, (some .int))
abbrev mX4_worth : MI := (yX4_worth, cX4_worth, 4, (some .int))
abbrev mX5_add : MI := (yX5_add, cX5_add, 4, none)
abbrev mX5_fits : MI := (yX5_fits, cX5_fits, 6, (some .boolean))
abbrev mX5_init : MI := (yX5_init, cX5_init, 1, none)
abbrev mX5_look : MI := (yX5_look, cX5_look, 5, none)
abbrev mX5_onlyCompany : MI := (yX5_onlyCompany, cX5_onlyCompany, 6, (some .int))
abbrev mX5_share : MI := (yX5_share, cX5_share, 5, (some .int))
abbrev mX5_streetWith : MI := (yX5_streetWith, cX5_streetWith, 6, (some .int))
abbrev mX5_ways : MI := (yX5_ways, cX5_ways, 2, (some .int))
abbrev mX6_forget : MI := (yX6_forget, cX6_forget, 1, none)
abbrev mX6_holds : MI := (yX6_holds, cX6_holds, 2, (some .boolean))
abbrev mX6_init : MI := (yX6_init, cX6_init, 2, none)
abbrev mX6_put : MI := (yX6_put, cX6_put, 3, none)
abbrev mX6_restore : MI := (yX6_restore, cX6_restore, 3, none)
abbrev mX7_allBones : MI := (yX7_allBones, cX7_allBones, 4, (some .int))
abbrev mX7_become : MI := (yX7_become, cX7_become, 2, none)
abbrev mX7_goes : MI := (yX7_goes, cX7_goes, 5, none)
abbrev mX7_hasRoom : MI := (yX7_hasRoom, cX7_hasRoom, 3, (some .boolean))
abbrev mX7_impound : MI := (yX7_impound, cX7_impound, 4, none)
abbrev mX7_impounded : MI := (yX7_impounded, cX7_impounded, 4, (some .int))
abbrev mX7_init : MI := (yX7_init, cX7_init, 1, none)
abbrev mX7_isImpounded : MI := (yX7_isImpounded, cX7_isImpounded, 2, (some .boolean))
abbrev mX7_isLate : MI := (yX7_isLate, cX7_isLate, 2, (some .boolean))
abbrev mX7_isLeashed : MI := (yX7_isLeashed, cX7_isLeashed, 2, (some .boolean))
abbrev mX7_keptBy : MI := (yX7_keptBy, cX7_keptBy, 5, (some .int))
abbrev mX7_mayBeCaught : MI := (yX7_mayBeCaught, cX7_mayBeCaught, 4, (some .boolean))
abbrev mX7_passHour : MI := (yX7_passHour, cX7_passHour, 8, (some .int))
abbrev mX7_perilAt : MI := (yX7_perilAt, cX7_perilAt, 6, (some .int))
abbrev mX7_serve : MI := (yX7_serve, cX7_serve, 4, none)
abbrev mX8_about : MI := (yX8_about, cX8_about, 2, (some .int))
abbrev mX8_again : MI := (yX8_again, cX8_again, 2, (some .int))
abbrev mX8_aired : MI := (yX8_aired, cX8_aired, 2, (some .int))
abbrev mX8_caught : MI := (yX8_caught, cX8_caught, 2, (some .int))
abbrev mX8_chance : MI := (yX8_chance, cX8_chance, 6, (some .int))
abbrev mX8_days : MI := (yX8_days, cX8_days, 6, (some .int))
abbrev mX8_dog : MI := (yX8_dog, cX8_dog, 3, (some .int))
abbrev mX8_fault : MI := (yX8_fault, cX8_fault, 1, (some .int))
abbrev mX8_give : MI := (yX8_give, cX8_give, 4, (some .int))
abbrev mX8_heir : MI := (yX8_heir, cX8_heir, 4, (some .int))
abbrev mX8_hour : MI := (yX8_hour, cX8_hour, 1, (some .int))
abbrev mX8_init : MI := (yX8_init, cX8_init, 1, none)
abbrev mX8_keep : MI := (yX8_keep, cX8_keep, 2, (some .int))
abbrev mX8_lead : MI := (yX8_lead, cX8_lead, 3, (some .int))
abbrev mX8_leash : MI := (yX8_leash, cX8_leash, 2, (some .int))
abbrev mX8_man : MI := (yX8_man, cX8_man, 3, (some .int))
abbrev mX8_ordain : MI := (yX8_ordain, cX8_ordain, 1, (some .int))
abbrev mX8_pays : MI := (yX8_pays, cX8_pays, 3, (some .int))
abbrev mX8_rests : MI := (yX8_rests, cX8_rests, 8, (some .int))
abbrev mX8_routes : MI := (yX8_routes, cX8_routes, 6, (some .int))
abbrev mX8_see : MI := (yX8_see, cX8_see, 4, (some .int))
abbrev mX8_seed : MI := (yX8_seed, cX8_seed, 5, (some .long))
abbrev mX8_spans : MI := (yX8_spans, cX8_spans, 4, (some .int))
abbrev mX8_streetBy : MI := (yX8_streetBy, cX8_streetBy, 2, (some .int))
abbrev mX8_sure : MI := (yX8_sure, cX8_sure, 2, (some .int))
abbrev mX8_tryHours : MI := (yX8_tryHours, cX8_tryHours, 6, (some .int))
abbrev mX8_undo : MI := (yX8_undo, cX8_undo, 1, (some .int))
abbrev mX8_unsee : MI := (yX8_unsee, cX8_unsee, 2, (some .int))
abbrev mX8_walks : MI := (yX8_walks, cX8_walks, 1, (some .int))
abbrev mX8_wipe : MI := (yX8_wipe, cX8_wipe, 2, (some .int))
abbrev mX8_write : MI := (yX8_write, cX8_write, 2, (some .int))
abbrev mX9_about : MI := (yX9_about, cX9_about, 2, (some .int))
abbrev mX9_again : MI := (yX9_again, cX9_again, 3, (some .int))
abbrev mX9_aired : MI := (yX9_aired, cX9_aired, 4, (some .int))
abbrev mX9_begin : MI := (yX9_begin, cX9_begin, 2, none)
abbrev mX9_bonesOf : MI := (yX9_bonesOf, cX9_bonesOf, 3, (some .int))
abbrev mX9_caught : MI := (yX9_caught, cX9_caught, 4, (some .int))
abbrev mX9_chance : MI := (yX9_chance, cX9_chance, 8, (some .int))
abbrev mX9_comes : MI := (yX9_comes, cX9_comes, 4, (some .boolean))
abbrev mX9_days : MI := (yX9_days, cX9_days, 5, (some .int))
abbrev mX9_dog : MI := (yX9_dog, cX9_dog, 3, (some .int))
abbrev mX9_fault : MI := (yX9_fault, cX9_fault, 1, (some .int))
abbrev mX9_figure : MI := (yX9_figure, cX9_figure, 3, (some .int))
abbrev mX9_findWalks : MI := (yX9_findWalks, cX9_findWalks, 5, none)
abbrev mX9_give : MI := (yX9_give, cX9_give, 4, (some .int))
abbrev mX9_goHour : MI := (yX9_goHour, cX9_goHour, 9, (some .int))
abbrev mX9_goLead : MI := (yX9_goLead, cX9_goLead, 5, none)
abbrev mX9_goes : MI := (yX9_goes, cX9_goes, 8, (some .boolean))
abbrev mX9_has : MI := (yX9_has, cX9_has, 2, (some .boolean))
abbrev mX9_heir : MI := (yX9_heir, cX9_heir, 5, (some .int))
abbrev mX9_hour : MI := (yX9_hour, cX9_hour, 1, (some .int))
abbrev mX9_impounded : MI := (yX9_impounded, cX9_impounded, 3, (some .int))
abbrev mX9_in : MI := (yX9_in, cX9_in, 6, (some .boolean))
abbrev mX9_init : MI := (yX9_init, cX9_init, 1, none)
abbrev mX9_isAlone : MI := (yX9_isAlone, cX9_isAlone, 4, (some .boolean))
abbrev mX9_isWalk : MI := (yX9_isWalk, cX9_isWalk, 6, (some .boolean))
abbrev mX9_keep : MI := (yX9_keep, cX9_keep, 3, (some .int))
abbrev mX9_keeps : MI := (yX9_keeps, cX9_keeps, 5, (some .int))
abbrev mX9_lead : MI := (yX9_lead, cX9_lead, 3, (some .int))
abbrev mX9_leash : MI := (yX9_leash, cX9_leash, 2, (some .int))
abbrev mX9_man : MI := (yX9_man, cX9_man, 3, (some .int))
abbrev mX9_many : MI := (yX9_many, cX9_many, 3, (some .int))
abbrev mX9_noDog : MI := (yX9_noDog, cX9_noDog, 2, (some .boolean))
abbrev mX9_noMan : MI := (yX9_noMan, cX9_noMan, 2, (some .boolean))
abbrev mX9_note : MI := (yX9_note, cX9_note, 2, none)
abbrev mX9_one : MI := (yX9_one, cX9_one, 3, (some .int))
abbrev mX9_ordain : MI := (yX9_ordain, cX9_ordain, 2, (some .int))
abbrev mX9_parents : MI := (yX9_parents, cX9_parents, 3, (some .int))
abbrev mX9_pays : MI := (yX9_pays, cX9_pays, 4, (some .int))
abbrev mX9_power : MI := (yX9_power, cX9_power, 4, (some .int))
abbrev mX9_readDog : MI := (yX9_readDog, cX9_readDog, 5, (some .boolean))
abbrev mX9_readHead : MI := (yX9_readHead, cX9_readHead, 4, (some .boolean))
abbrev mX9_readLaw : MI := (yX9_readLaw, cX9_readLaw, 1, (some .int))
abbrev mX9_readMan : MI := (yX9_readMan, cX9_readMan, 5, (some .boolean))
abbrev mX9_readParent : MI := (yX9_readParent, cX9_readParent, 3, (some .boolean))
abbrev mX9_readPart : MI := (yX9_readPart, cX9_readPart, 2, (some .boolean))
abbrev mX9_rests : MI := (yX9_rests, cX9_rests, 11, (some .int))
abbrev mX9_rooms : MI := (yX9_rooms, cX9_rooms, 5, (some .int))
abbrev mX9_routes : MI := (yX9_routes, cX9_routes, 9, (some .int))
abbrev mX9_see : MI := (yX9_see, cX9_see, 4, (some .int))
abbrev mX9_seed : MI := (yX9_seed, cX9_seed, 5, (some .long))
abbrev mX9_spans : MI := (yX9_spans, cX9_spans, 4, (some .int))
abbrev mX9_streetsOf : MI := (yX9_streetsOf, cX9_streetsOf, 8, (some .int))
abbrev mX9_sure : MI := (yX9_sure, cX9_sure, 2, (some .int))
abbrev mX9_undo : MI := (yX9_undo, cX9_undo, 2, (some .int))
abbrev mX9_unsee : MI := (yX9_unsee, cX9_unsee, 2, (some .int))
abbrev mX9_walks : MI := (yX9_walks, cX9_walks, 1, (some .int))
abbrev mX9_wasAt : MI := (yX9_wasAt, cX9_wasAt, 4, (some .int))
abbrev mX9_wipe : MI := (yX9_wipe, cX9_wipe, 2, (some .int))
abbrev mX9_worthOf : MI := (yX9_worthOf, cX9_worthOf, 2, (some .int))
abbrev mX9_write : MI := (yX9_write, cX9_write, 2, (some .int))
abbrev mX9_young : MI := (yX9_young, cX9_young, 4, (some .int))
theorem fl_X8_9 : FL RX8 9 7 0 2 true := ⟨RX8, TX8, 11, rfl, by decide, rfl, gw_of (List.mem_of_getElem? (i := 271) (by decide +kernel)) rfl, rfl⟩
theorem fl_X8_13 : FL RX8 13 7 1 0 false := ⟨RX8, TX8, 11, rfl, by decide, rfl, gw_of (List.mem_of_getElem? (i := 272) (by decide +kernel)) rfl, rfl⟩
theorem fl_X8_20 : FL RX8 20 7 2 2 true := ⟨RX8, TX8, 11, rfl, by decide, rfl, gw_of (List.mem_of_getElem? (i := 273) (by decide +kernel)) rfl, rfl⟩
theorem fl_X8_27 : FL RX8 27 7 3 2 true := ⟨RX8, TX8, 11, rfl, by decide, rfl, gw_of (List.mem_of_getElem? (i := 274) (by decide +kernel)) rfl, rfl⟩
theorem fl_X8_34 : FL RX8 34 7 4 2 true := ⟨RX8, TX8, 11, rfl, by decide, rfl, gw_of (List.mem_of_getElem? (i := 275) (by decide +kernel)) rfl, rfl⟩
theorem fl_X8_38 : FL RX8 38 7 5 2 true := ⟨RX8, TX8, 11, rfl, by decide, rfl, gw_of (List.mem_of_getElem? (i := 276) (by decide +kernel)) rfl, rfl⟩
theorem fl_X8_44 : FL RX8 44 7 6 2 true := ⟨RX8, TX8, 11, rfl, by decide, rfl, gw_of (List.mem_of_getElem? (i := 277) (by decide +kernel)) rfl, rfl⟩
theorem fl_X8_51 : FL RX8 51 7 7 2 true := ⟨RX8, TX8, 11, rfl, by decide, rfl, gw_of (List.mem_of_getElem? (i := 278) (by decide +kernel)) rfl, rfl⟩
theorem fl_X8_58 : FL RX8 58 7 8 2 true := ⟨RX8, TX8, 11, rfl, by decide, rfl, gw_of (List.mem_of_getElem? (i := 279) (by decide +kernel)) rfl, rfl⟩
theorem fl_X8_65 : FL RX8 65 7 9 2 true := ⟨RX8, TX8, 11, rfl, by decide, rfl, gw_of (List.mem_of_getElem? (i := 280) (by decide +kernel)) rfl, rfl⟩
theorem fl_X8_69 : FL RX8 69 7 10 1 false := ⟨RX8, TX8, 11, rfl, by decide, rfl, gw_of (List.mem_of_getElem? (i := 281) (by decide +kernel)) rfl, rfl⟩
theorem fl_X8_77 : FL RX8 77 3 0 2 true := ⟨RX3, TX3, 5, rfl, by decide, rfl, gw_of (List.mem_of_getElem? (i := 171) (by decide +kernel)) rfl, rfl⟩
theorem fl_X8_82 : FL RX8 82 3 1 2 true := ⟨RX3, TX3, 5, rfl, by decide, rfl, gw_of (List.mem_of_getElem? (i := 173) (by decide +kernel)) rfl, rfl⟩
theorem fl_X8_90 : FL RX8 90 2 0 0 false := ⟨RX2, TX2, 8, rfl, by decide, rfl, gw_of (List.mem_of_getElem? (i := 84) (by decide +kernel)) rfl, rfl⟩
theorem fl_X8_93 : FL RX8 93 2 1 0 false := ⟨RX2, TX2, 8, rfl, by decide, rfl, gw_of (List.mem_of_getElem? (i := 90) (by decide +kernel)) rfl, rfl⟩
theorem fl_X8_96 : FL RX8 96 2 2 0 false := ⟨RX2, TX2, 8, rfl, by decide, rfl, gw_of (List.mem_of_getElem? (i := 93) (by decide +kernel)) rfl, rfl⟩
theorem fl_X8_99 : FL RX8 99 6 0 0 false := ⟨RX7, TX7, 7, rfl, by decide, rfl, gw_of (List.mem_of_getElem? (i := 137) (by decide +kernel)) rfl, rfl⟩
theorem fl_X8_106 : FL RX8 106 6 1 0 false := ⟨RX7, TX7, 7, rfl, by decide, rfl, gw_of (List.mem_of_getElem? (i := 139) (by decide +kernel)) rfl, rfl⟩
theorem fl_X8_116 : FL RX8 116 0 0 0 false := ⟨RX0, TX0, 2, rfl, by decide, rfl, gw_of (List.mem_of_getElem? (i := 202) (by decide +kernel)) rfl, rfl⟩
theorem fl_X8_119 : FL RX8 119 4 0 0 false := ⟨RX5, TX5, 6, rfl, by decide, rfl, gw_of (List.mem_of_getElem? (i := 252) (by decide +kernel)) rfl, rfl⟩
theorem fl_X8_124 : FL RX8 124 6 2 2 true := ⟨RX7, TX7, 7, rfl, by decide, rfl, gw_of (List.mem_of_getElem? (i := 142) (by decide +kernel)) rfl, rfl⟩
theorem fl_X8_127 : FL RX8 127 2 5 2 true := ⟨RX2, TX2, 8, rfl, by decide, rfl, gw_of (List.mem_of_getElem? (i := 102) (by decide +kernel)) rfl, rfl⟩
theorem fl_X8_130 : FL RX8 130 2 6 2 true := ⟨RX2, TX2, 8, rfl, by decide, rfl, gw_of (List.mem_of_getElem? (i := 107) (by decide +kernel)) rfl, rfl⟩
theorem fl_X8_137 : FL RX8 137 6 3 2 true := ⟨RX7, TX7, 7, rfl, by decide, rfl, gw_of (List.mem_of_getElem? (i := 145) (by decide +kernel)) rfl, rfl⟩
theorem fl_X8_140 : FL RX8 140 2 7 2 true := ⟨RX2, TX2, 8, rfl, by decide, rfl, gw_of (List.mem_of_getElem? (i := 110) (by decide +kernel)) rfl, rfl⟩
theorem fl_X8_146 : FL RX8 146 6 4 2 true := ⟨RX7, TX7, 7, rfl, by decide, rfl, gw_of (List.mem_of_getElem? (i := 147) (by decide +kernel)) rfl, rfl⟩
theorem fl_X8_149 : FL RX8 149 6 5 2 true := ⟨RX7, TX7, 7, rfl, by decide, rfl, gw_of (List.mem_of_getElem? (i := 151) (by decide +kernel)) rfl, rfl⟩
theorem fl_X8_158 : FL RX8 158 6 6 2 true := ⟨RX7, TX7, 7, rfl, by decide, rfl, gw_of (List.mem_of_getElem? (i := 154) (by decide +kernel)) rfl, rfl⟩
theorem fl_X0_9 : FL RX0 9 0 0 0 false := ⟨RX0, TX0, 2, rfl, by decide, rfl, gw_of (List.mem_of_getElem? (i := 201) (by decide +kernel)) rfl, rfl⟩
theorem fl_X0_17 : FL RX0 17 0 1 2 true := ⟨RX0, TX0, 2, rfl, by decide, rfl, gw_of (List.mem_of_getElem? (i := 203) (by decide +kernel)) rfl, rfl⟩
theorem fl_X1_9 : FL RX1 9 1 0 2 true := ⟨RX1, TX1, 4, rfl, by decide, rfl, gw_of (List.mem_of_getElem? (i := 232) (by decide +kernel)) rfl, rfl⟩
theorem fl_X1_17 : FL RX1 17 1 1 2 true := ⟨RX1, TX1, 4, rfl, by decide, rfl, gw_of (List.mem_of_getElem? (i := 233) (by decide +kernel)) rfl, rfl⟩
theorem fl_X1_20 : FL RX1 20 1 2 2 false := ⟨RX1, TX1, 4, rfl, by decide, rfl, gw_of (List.mem_of_getElem? (i := 234) (by decide +kernel)) rfl, rfl⟩
theorem fl_X1_23 : FL RX1 23 1 3 2 false := ⟨RX1, TX1, 4, rfl, by decide, rfl, gw_of (List.mem_of_getElem? (i := 235) (by decide +kernel)) rfl, rfl⟩
theorem fl_X2_9 : FL RX2 9 2 0 0 false := ⟨RX2, TX2, 8, rfl, by decide, rfl, gw_of (List.mem_of_getElem? (i := 82) (by decide +kernel)) rfl, rfl⟩
theorem fl_X2_15 : FL RX2 15 2 1 0 false := ⟨RX2, TX2, 8, rfl, by decide, rfl, gw_of (List.mem_of_getElem? (i := 87) (by decide +kernel)) rfl, rfl⟩
theorem fl_X2_18 : FL RX2 18 2 2 0 false := ⟨RX2, TX2, 8, rfl, by decide, rfl, gw_of (List.mem_of_getElem? (i := 92) (by decide +kernel)) rfl, rfl⟩
theorem fl_X2_21 : FL RX2 21 2 3 0 false := ⟨RX2, TX2, 8, rfl, by decide, rfl, gw_of (List.mem_of_getElem? (i := 96) (by decide +kernel)) rfl, rfl⟩
theorem fl_X2_24 : FL RX2 24 2 4 2 true := ⟨RX2, TX2, 8, rfl, by decide, rfl, gw_of (List.mem_of_getElem? (i := 98) (by decide +kernel)) rfl, rfl⟩
theorem fl_X2_28 : FL RX2 28 2 5 2 true := ⟨RX2, TX2, 8, rfl, by decide, rfl, gw_of (List.mem_of_getElem? (i := 100) (by decide +kernel)) rfl, rfl⟩
theorem fl_X2_31 : FL RX2 31 2 6 2 true := ⟨RX2, TX2, 8, rfl, by decide, rfl, gw_of (List.mem_of_getElem? (i := 104) (by decide +kernel)) rfl, rfl⟩
theorem fl_X2_34 : FL RX2 34 2 7 2 true := ⟨RX2, TX2, 8, rfl, by decide, rfl, gw_of (List.mem_of_getElem? (i := 109) (by decide +kernel)) rfl, rfl⟩
theorem fl_X3_12 : FL RX3 12 3 0 2 true := ⟨RX3, TX3, 5, rfl, by decide, rfl, gw_of (List.mem_of_getElem? (i := 170) (by decide +kernel)) rfl, rfl⟩
theorem fl_X3_21 : FL RX3 21 3 1 2 true := ⟨RX3, TX3, 5, rfl, by decide, rfl, gw_of (List.mem_of_getElem? (i := 172) (by decide +kernel)) rfl, rfl⟩
theorem fl_X3_25 : FL RX3 25 3 2 0 false := ⟨RX3, TX3, 5, rfl, by decide, rfl, gw_of (List.mem_of_getElem? (i := 174) (by decide +kernel)) rfl, rfl⟩
theorem fl_X3_29 : FL RX3 29 3 3 0 false := ⟨RX3, TX3, 5, rfl, by decide, rfl, gw_of (List.mem_of_getElem? (i := 175) (by decide +kernel)) rfl, rfl⟩
theorem fl_X3_32 : FL RX3 32 3 4 0 false := ⟨RX3, TX3, 5, rfl, by decide, rfl, gw_of (List.mem_of_getElem? (i := 176) (by decide +kernel)) rfl, rfl⟩
theorem fl_X3_68 : FL RX3 68 2 0 0 false := ⟨RX2, TX2, 8, rfl, by decide, rfl, gw_of (List.mem_of_getElem? (i := 85) (by decide +kernel)) rfl, rfl⟩
theorem fl_X3_71 : FL RX3 71 2 1 0 false := ⟨RX2, TX2, 8, rfl, by decide, rfl, gw_of (List.mem_of_getElem? (i := 91) (by decide +kernel)) rfl, rfl⟩
theorem fl_X3_78 : FL RX3 78 2 2 0 false := ⟨RX2, TX2, 8, rfl, by decide, rfl, gw_of (List.mem_of_getElem? (i := 94) (by decide +kernel)) rfl, rfl⟩
theorem fl_X3_81 : FL RX3 81 2 4 2 true := ⟨RX2, TX2, 8, rfl, by decide, rfl, gw_of (List.mem_of_getElem? (i := 99) (by decide +kernel)) rfl, rfl⟩
theorem fl_X3_94 : FL RX3 94 6 2 2 true := ⟨RX7, TX7, 7, rfl, by decide, rfl, gw_of (List.mem_of_getElem? (i := 143) (by decide +kernel)) rfl, rfl⟩
theorem fl_X3_97 : FL RX3 97 2 5 2 true := ⟨RX2, TX2, 8, rfl, by decide, rfl, gw_of (List.mem_of_getElem? (i := 103) (by decide +kernel)) rfl, rfl⟩
theorem fl_X3_100 : FL RX3 100 2 6 2 true := ⟨RX2, TX2, 8, rfl, by decide, rfl, gw_of (List.mem_of_getElem? (i := 108) (by decide +kernel)) rfl, rfl⟩
theorem fl_X3_103 : FL RX3 103 2 7 2 true := ⟨RX2, TX2, 8, rfl, by decide, rfl, gw_of (List.mem_of_getElem? (i := 111) (by decide +kernel)) rfl, rfl⟩
theorem fl_X3_105 : FL RX3 105 6 4 2 true := ⟨RX7, TX7, 7, rfl, by decide, rfl, gw_of (List.mem_of_getElem? (i := 148) (by decide +kernel)) rfl, rfl⟩
theorem fl_X3_115 : FL RX3 115 6 5 2 true := ⟨RX7, TX7, 7, rfl, by decide, rfl, gw_of (List.mem_of_getElem? (i := 152) (by decide +kernel)) rfl, rfl⟩
theorem fl_X3_118 : FL RX3 118 2 3 0 false := ⟨RX2, TX2, 8, rfl, by decide, rfl, gw_of (List.mem_of_getElem? (i := 97) (by decide +kernel)) rfl, rfl⟩
theorem fl_X5_9 : FL RX5 9 4 0 0 false := ⟨RX5, TX5, 6, rfl, by decide, rfl, gw_of (List.mem_of_getElem? (i := 251) (by decide +kernel)) rfl, rfl⟩
theorem fl_X5_15 : FL RX5 15 4 1 2 true := ⟨RX5, TX5, 6, rfl, by decide, rfl, gw_of (List.mem_of_getElem? (i := 253) (by decide +kernel)) rfl, rfl⟩
theorem fl_X5_19 : FL RX5 19 4 2 2 true := ⟨RX5, TX5, 6, rfl, by decide, rfl, gw_of (List.mem_of_getElem? (i := 254) (by decide +kernel)) rfl, rfl⟩
theorem fl_X5_22 : FL RX5 22 4 3 2 true := ⟨RX5, TX5, 6, rfl, by decide, rfl, gw_of (List.mem_of_getElem? (i := 255) (by decide +kernel)) rfl, rfl⟩
theorem fl_X5_25 : FL RX5 25 4 4 2 true := ⟨RX5, TX5, 6, rfl, by decide, rfl, gw_of (List.mem_of_getElem? (i := 256) (by decide +kernel)) rfl, rfl⟩
theorem fl_X5_28 : FL RX5 28 4 5 2 true := ⟨RX5, TX5, 6, rfl, by decide, rfl, gw_of (List.mem_of_getElem? (i := 257) (by decide +kernel)) rfl, rfl⟩
theorem fl_X5_31 : FL RX5 31 2 6 2 true := ⟨RX2, TX2, 8, rfl, by decide, rfl, gw_of (List.mem_of_getElem? (i := 105) (by decide +kernel)) rfl, rfl⟩
theorem fl_X5_42 : FL RX5 42 2 1 0 false := ⟨RX2, TX2, 8, rfl, by decide, rfl, gw_of (List.mem_of_getElem? (i := 88) (by decide +kernel)) rfl, rfl⟩
theorem fl_X5_49 : FL RX5 49 2 0 0 false := ⟨RX2, TX2, 8, rfl, by decide, rfl, gw_of (List.mem_of_getElem? (i := 83) (by decide +kernel)) rfl, rfl⟩
theorem fl_X5_60 : FL RX5 60 6 5 2 true := ⟨RX7, TX7, 7, rfl, by decide, rfl, gw_of (List.mem_of_getElem? (i := 150) (by decide +kernel)) rfl, rfl⟩
theorem fl_X5_65 : FL RX5 65 2 5 2 true := ⟨RX2, TX2, 8, rfl, by decide, rfl, gw_of (List.mem_of_getElem? (i := 101) (by decide +kernel)) rfl, rfl⟩
theorem fl_X5_68 : FL RX5 68 6 2 2 true := ⟨RX7, TX7, 7, rfl, by decide, rfl, gw_of (List.mem_of_getElem? (i := 141) (by decide +kernel)) rfl, rfl⟩
theorem fl_X6_11 : FL RX6 11 5 0 2 true := ⟨RX6, TX6, 2, rfl, by decide, rfl, gw_of (List.mem_of_getElem? (i := 217) (by decide +kernel)) rfl, rfl⟩
theorem fl_X6_17 : FL RX6 17 5 1 0 false := ⟨RX6, TX6, 2, rfl, by decide, rfl, gw_of (List.mem_of_getElem? (i := 218) (by decide +kernel)) rfl, rfl⟩
theorem fl_X7_9 : FL RX7 9 6 0 0 false := ⟨RX7, TX7, 7, rfl, by decide, rfl, gw_of (List.mem_of_getElem? (i := 136) (by decide +kernel)) rfl, rfl⟩
theorem fl_X7_15 : FL RX7 15 6 1 0 false := ⟨RX7, TX7, 7, rfl, by decide, rfl, gw_of (List.mem_of_getElem? (i := 138) (by decide +kernel)) rfl, rfl⟩
theorem fl_X7_18 : FL RX7 18 6 2 2 true := ⟨RX7, TX7, 7, rfl, by decide, rfl, gw_of (List.mem_of_getElem? (i := 140) (by decide +kernel)) rfl, rfl⟩
theorem fl_X7_22 : FL RX7 22 6 3 2 true := ⟨RX7, TX7, 7, rfl, by decide, rfl, gw_of (List.mem_of_getElem? (i := 144) (by decide +kernel)) rfl, rfl⟩
theorem fl_X7_25 : FL RX7 25 6 4 2 true := ⟨RX7, TX7, 7, rfl, by decide, rfl, gw_of (List.mem_of_getElem? (i := 146) (by decide +kernel)) rfl, rfl⟩
theorem fl_X7_28 : FL RX7 28 6 5 2 true := ⟨RX7, TX7, 7, rfl, by decide, rfl, gw_of (List.mem_of_getElem? (i := 149) (by decide +kernel)) rfl, rfl⟩
theorem fl_X7_31 : FL RX7 31 6 6 2 true := ⟨RX7, TX7, 7, rfl, by decide, rfl, gw_of (List.mem_of_getElem? (i := 153) (by decide +kernel)) rfl, rfl⟩
theorem fl_X7_40 : FL RX7 40 2 1 0 false := ⟨RX2, TX2, 8, rfl, by decide, rfl, gw_of (List.mem_of_getElem? (i := 89) (by decide +kernel)) rfl, rfl⟩
theorem fl_X7_59 : FL RX7 59 2 6 2 true := ⟨RX2, TX2, 8, rfl, by decide, rfl, gw_of (List.mem_of_getElem? (i := 106) (by decide +kernel)) rfl, rfl⟩
theorem fl_X7_62 : FL RX7 62 2 0 0 false := ⟨RX2, TX2, 8, rfl, by decide, rfl, gw_of (List.mem_of_getElem? (i := 86) (by decide +kernel)) rfl, rfl⟩
theorem fl_X7_101 : FL RX7 101 2 2 0 false := ⟨RX2, TX2, 8, rfl, by decide, rfl, gw_of (List.mem_of_getElem? (i := 95) (by decide +kernel)) rfl, rfl⟩
theorem fl_X9_7 : FL RX9 7 8 1 2 true := ⟨RX9, TX9, 31, rfl, by decide, rfl, gw_of (List.mem_of_getElem? (i := 731) (by decide +kernel)) rfl, rfl⟩
theorem fl_X9_13 : FL RX9 13 8 6 0 false := ⟨RX9, TX9, 31, rfl, by decide, rfl, gw_of (List.mem_of_getElem? (i := 736) (by decide +kernel)) rfl, rfl⟩
theorem fl_X9_17 : FL RX9 17 8 7 2 true := ⟨RX9, TX9, 31, rfl, by decide, rfl, gw_of (List.mem_of_getElem? (i := 737) (by decide +kernel)) rfl, rfl⟩
theorem fl_X9_20 : FL RX9 20 8 8 2 true := ⟨RX9, TX9, 31, rfl, by decide, rfl, gw_of (List.mem_of_getElem? (i := 738) (by decide +kernel)) rfl, rfl⟩
theorem fl_X9_23 : FL RX9 23 8 9 2 true := ⟨RX9, TX9, 31, rfl, by decide, rfl, gw_of (List.mem_of_getElem? (i := 739) (by decide +kernel)) rfl, rfl⟩
theorem fl_X9_26 : FL RX9 26 8 13 2 true := ⟨RX9, TX9, 31, rfl, by decide, rfl, gw_of (List.mem_of_getElem? (i := 743) (by decide +kernel)) rfl, rfl⟩
theorem fl_X9_29 : FL RX9 29 8 14 2 true := ⟨RX9, TX9, 31, rfl, by decide, rfl, gw_of (List.mem_of_getElem? (i := 744) (by decide +kernel)) rfl, rfl⟩
theorem fl_X9_32 : FL RX9 32 8 15 2 true := ⟨RX9, TX9, 31, rfl, by decide, rfl, gw_of (List.mem_of_getElem? (i := 745) (by decide +kernel)) rfl, rfl⟩
theorem fl_X9_35 : FL RX9 35 8 16 2 true := ⟨RX9, TX9, 31, rfl, by decide, rfl, gw_of (List.mem_of_getElem? (i := 746) (by decide +kernel)) rfl, rfl⟩
theorem fl_X9_38 : FL RX9 38 8 17 2 true := ⟨RX9, TX9, 31, rfl, by decide, rfl, gw_of (List.mem_of_getElem? (i := 747) (by decide +kernel)) rfl, rfl⟩
theorem fl_X9_41 : FL RX9 41 8 18 2 true := ⟨RX9, TX9, 31, rfl, by decide, rfl, gw_of (List.mem_of_getElem? (i := 748) (by decide +kernel)) rfl, rfl⟩
theorem fl_X9_44 : FL RX9 44 8 20 2 true := ⟨RX9, TX9, 31, rfl, by decide, rfl, gw_of (List.mem_of_getElem? (i := 750) (by decide +kernel)) rfl, rfl⟩
theorem fl_X9_47 : FL RX9 47 8 21 2 true := ⟨RX9, TX9, 31, rfl, by decide, rfl, gw_of (List.mem_of_getElem? (i := 751) (by decide +kernel)) rfl, rfl⟩
theorem fl_X9_51 : FL RX9 51 8 23 2 true := ⟨RX9, TX9, 31, rfl, by decide, rfl, gw_of (List.mem_of_getElem? (i := 753) (by decide +kernel)) rfl, rfl⟩
theorem fl_X9_54 : FL RX9 54 8 24 2 true := ⟨RX9, TX9, 31, rfl, by decide, rfl, gw_of (List.mem_of_getElem? (i := 754) (by decide +kernel)) rfl, rfl⟩
theorem fl_X9_57 : FL RX9 57 8 25 2 true := ⟨RX9, TX9, 31, rfl, by decide, rfl, gw_of (List.mem_of_getElem? (i := 755) (by decide +kernel)) rfl, rfl⟩
theorem fl_X9_60 : FL RX9 60 8 27 2 true := ⟨RX9, TX9, 31, rfl, by decide, rfl, gw_of (List.mem_of_getElem? (i := 757) (by decide +kernel)) rfl, rfl⟩
theorem fl_X9_63 : FL RX9 63 8 28 2 true := ⟨RX9, TX9, 31, rfl, by decide, rfl, gw_of (List.mem_of_getElem? (i := 758) (by decide +kernel)) rfl, rfl⟩
theorem fl_X9_66 : FL RX9 66 8 0 0 false := ⟨RX9, TX9, 31, rfl, by decide, rfl, gw_of (List.mem_of_getElem? (i := 730) (by decide +kernel)) rfl, rfl⟩
theorem fl_X9_69 : FL RX9 69 8 4 0 false := ⟨RX9, TX9, 31, rfl, by decide, rfl, gw_of (List.mem_of_getElem? (i := 734) (by decide +kernel)) rfl, rfl⟩
theorem fl_X9_76 : FL RX9 76 8 5 0 false := ⟨RX9, TX9, 31, rfl, by decide, rfl, gw_of (List.mem_of_getElem? (i := 735) (by decide +kernel)) rfl, rfl⟩
theorem fl_X9_81 : FL RX9 81 8 2 0 false := ⟨RX9, TX9, 31, rfl, by decide, rfl, gw_of (List.mem_of_getElem? (i := 732) (by decide +kernel)) rfl, rfl⟩
theorem fl_X9_84 : FL RX9 84 8 3 0 false := ⟨RX9, TX9, 31, rfl, by decide, rfl, gw_of (List.mem_of_getElem? (i := 733) (by decide +kernel)) rfl, rfl⟩
theorem fl_X9_97 : FL RX9 97 8 12 0 false := ⟨RX9, TX9, 31, rfl, by decide, rfl, gw_of (List.mem_of_getElem? (i := 742) (by decide +kernel)) rfl, rfl⟩
theorem fl_X9_100 : FL RX9 100 8 10 0 false := ⟨RX9, TX9, 31, rfl, by decide, rfl, gw_of (List.mem_of_getElem? (i := 740) (by decide +kernel)) rfl, rfl⟩
theorem fl_X9_103 : FL RX9 103 8 11 0 false := ⟨RX9, TX9, 31, rfl, by decide, rfl, gw_of (List.mem_of_getElem? (i := 741) (by decide +kernel)) rfl, rfl⟩
theorem fl_X9_140 : FL RX9 140 8 19 0 false := ⟨RX9, TX9, 31, rfl, by decide, rfl, gw_of (List.mem_of_getElem? (i := 749) (by decide +kernel)) rfl, rfl⟩
theorem fl_X9_150 : FL RX9 150 8 22 0 false := ⟨RX9, TX9, 31, rfl, by decide, rfl, gw_of (List.mem_of_getElem? (i := 752) (by decide +kernel)) rfl, rfl⟩
theorem fl_X9_195 : FL RX9 195 8 30 0 false := ⟨RX9, TX9, 31, rfl, by decide, rfl, gw_of (List.mem_of_getElem? (i := 760) (by decide +kernel)) rfl, rfl⟩
theorem fl_X9_215 : FL RX9 215 8 29 0 false := ⟨RX9, TX9, 31, rfl, by decide, rfl, gw_of (List.mem_of_getElem? (i := 759) (by decide +kernel)) rfl, rfl⟩
theorem fl_X9_229 : FL RX9 229 8 26 1 false := ⟨RX9, TX9, 31, rfl, by decide, rfl, gw_of (List.mem_of_getElem? (i := 756) (by decide +kernel)) rfl, rfl⟩
theorem oi_X8_1 : Cond.methodLink RX8 1 objectInit ∈ gw := gw_of (List.mem_of_getElem? (i := 67) (by decide +kernel)) rfl
theorem cb_X3_init (own : String) : CLb own mX3_init 0 := ⟨gw_of (List.mem_of_getElem? (i := 74) (by decide +kernel)) rfl, gw_of (List.mem_of_getElem? (i := 50) (by decide +kernel)) rfl, by decide +kernel, by decide⟩
theorem cl_X8_19 : CLiN RX8 19 mX3_init 0 "HoundLicence" := ⟨cb_X3_init _, ex_of (List.mem_of_getElem? (i := 72) (by decide +kernel)) rfl, gw_of (List.mem_of_getElem? (i := 73) (by decide +kernel)) rfl, rfl, rfl⟩
theorem cb_X2_init (own : String) : CLb own mX2_init 0 := ⟨gw_of (List.mem_of_getElem? (i := 80) (by decide +kernel)) rfl, gw_of (List.mem_of_getElem? (i := 51) (by decide +kernel)) rfl, by decide +kernel, by decide⟩
theorem cl_X8_26 : CLiN RX8 26 mX2_init 0 "HoundLicence" := ⟨cb_X2_init _, ex_of (List.mem_of_getElem? (i := 189) (by decide +kernel)) rfl, gw_of (List.mem_of_getElem? (i := 79) (by decide +kernel)) rfl, rfl, rfl⟩
theorem cb_X7_init (own : String) : CLb own mX7_init 0 := ⟨gw_of (List.mem_of_getElem? (i := 134) (by decide +kernel)) rfl, gw_of (List.mem_of_getElem? (i := 52) (by decide +kernel)) rfl, by decide +kernel, by decide⟩
theorem cl_X8_33 : CLiN RX8 33 mX7_init 0 "HoundLicence" := ⟨cb_X7_init _, ex_of (List.mem_of_getElem? (i := 191) (by decide +kernel)) rfl, gw_of (List.mem_of_getElem? (i := 133) (by decide +kernel)) rfl, rfl, rfl⟩
theorem cb_X0_init (own : String) : CLb own mX0_init 0 := ⟨gw_of (List.mem_of_getElem? (i := 196) (by decide +kernel)) rfl, gw_of (List.mem_of_getElem? (i := 53) (by decide +kernel)) rfl, by decide +kernel, by decide⟩
theorem cl_X8_43 : CLi RX8 43 mX0_init 0 := ⟨cb_X0_init _, gw_of (List.mem_of_getElem? (i := 194) (by decide +kernel)) rfl, gw_of (List.mem_of_getElem? (i := 195) (by decide +kernel)) rfl, rfl, rfl⟩
theorem cb_X6_init (own : String) : CLb own mX6_init 0 := ⟨gw_of (List.mem_of_getElem? (i := 213) (by decide +kernel)) rfl, gw_of (List.mem_of_getElem? (i := 54) (by decide +kernel)) rfl, by decide +kernel, by decide⟩
theorem cl_X8_50 : CLi RX8 50 mX6_init 0 := ⟨cb_X6_init _, gw_of (List.mem_of_getElem? (i := 211) (by decide +kernel)) rfl, gw_of (List.mem_of_getElem? (i := 212) (by decide +kernel)) rfl, rfl, rfl⟩
theorem cb_X1_init (own : String) : CLb own mX1_init 0 := ⟨gw_of (List.mem_of_getElem? (i := 228) (by decide +kernel)) rfl, gw_of (List.mem_of_getElem? (i := 55) (by decide +kernel)) rfl, by decide +kernel, by decide⟩
theorem cl_X8_57 : CLiN RX8 57 mX1_init 0 "HoundLicence" := ⟨cb_X1_init _, ex_of (List.mem_of_getElem? (i := 226) (by decide +kernel)) rfl, gw_of (List.mem_of_getElem? (i := 227) (by decide +kernel)) rfl, rfl, rfl⟩
theorem cb_X5_init (own : String) : CLb own mX5_init 0 := ⟨gw_of (List.mem_of_getElem? (i := 249) (by decide +kernel)) rfl, gw_of (List.mem_of_getElem? (i := 56) (by decide +kernel)) rfl, by decide +kernel, by decide⟩
theorem cl_X8_64 : CLiN RX8 64 mX5_init 0 "HoundLicence" := ⟨cb_X5_init _, ex_of (List.mem_of_getElem? (i := 247) (by decide +kernel)) rfl, gw_of (List.mem_of_getElem? (i := 248) (by decide +kernel)) rfl, rfl, rfl⟩
theorem cb_X3_firstFault (own : String) : CLb own mX3_firstFault 2 := ⟨gw_of (List.mem_of_getElem? (i := 320) (by decide +kernel)) rfl, gw_of (List.mem_of_getElem? (i := 50) (by decide +kernel)) rfl, by decide +kernel, by decide⟩
theorem cl_X8_73 : CLv RX8 73 mX3_firstFault 2 := ⟨cb_X3_firstFault _, gw_of (List.mem_of_getElem? (i := 317) (by decide +kernel)) rfl, gw_of (List.mem_of_getElem? (i := 318) (by decide +kernel)) rfl, gw_of (List.mem_of_getElem? (i := 319) (by decide +kernel)) rfl⟩
theorem cb_X2_become (own : String) : CLb own mX2_become 1 := ⟨gw_of (List.mem_of_getElem? (i := 404) (by decide +kernel)) rfl, gw_of (List.mem_of_getElem? (i := 51) (by decide +kernel)) rfl, by decide +kernel, by decide⟩
theorem cl_X8_78 : CLv RX8 78 mX2_become 1 := ⟨cb_X2_become _, gw_of (List.mem_of_getElem? (i := 401) (by decide +kernel)) rfl, gw_of (List.mem_of_getElem? (i := 402) (by decide +kernel)) rfl, gw_of (List.mem_of_getElem? (i := 403) (by decide +kernel)) rfl⟩
theorem cb_X7_become (own : String) : CLb own mX7_become 1 := ⟨gw_of (List.mem_of_getElem? (i := 411) (by decide +kernel)) rfl, gw_of (List.mem_of_getElem? (i := 52) (by decide +kernel)) rfl, by decide +kernel, by decide⟩
theorem cl_X8_83 : CLv RX8 83 mX7_become 1 := ⟨cb_X7_become _, gw_of (List.mem_of_getElem? (i := 408) (by decide +kernel)) rfl, gw_of (List.mem_of_getElem? (i := 409) (by decide +kernel)) rfl, gw_of (List.mem_of_getElem? (i := 410) (by decide +kernel)) rfl⟩
theorem cb_X0_forget (own : String) : CLb own mX0_forget 0 := ⟨gw_of (List.mem_of_getElem? (i := 416) (by decide +kernel)) rfl, gw_of (List.mem_of_getElem? (i := 53) (by decide +kernel)) rfl, by decide +kernel, by decide⟩
theorem cl_X8_86 : CLv RX8 86 mX0_forget 0 := ⟨cb_X0_forget _, gw_of (List.mem_of_getElem? (i := 413) (by decide +kernel)) rfl, gw_of (List.mem_of_getElem? (i := 414) (by decide +kernel)) rfl, gw_of (List.mem_of_getElem? (i := 415) (by decide +kernel)) rfl⟩
theorem cb_X6_forget (own : String) : CLb own mX6_forget 0 := ⟨gw_of (List.mem_of_getElem? (i := 420) (by decide +kernel)) rfl, gw_of (List.mem_of_getElem? (i := 54) (by decide +kernel)) rfl, by decide +kernel, by decide⟩
theorem cl_X8_89 : CLv RX8 89 mX6_forget 0 := ⟨cb_X6_forget _, gw_of (List.mem_of_getElem? (i := 417) (by decide +kernel)) rfl, gw_of (List.mem_of_getElem? (i := 418) (by decide +kernel)) rfl, gw_of (List.mem_of_getElem? (i := 419) (by decide +kernel)) rfl⟩
theorem cb_X2_wardenAt (own : String) : CLb own mX2_wardenAt 1 := ⟨gw_of (List.mem_of_getElem? (i := 428) (by decide +kernel)) rfl, gw_of (List.mem_of_getElem? (i := 51) (by decide +kernel)) rfl, by decide +kernel, by decide⟩
theorem cl_X8_102 : CLv RX8 102 mX2_wardenAt 1 := ⟨cb_X2_wardenAt _, gw_of (List.mem_of_getElem? (i := 425) (by decide +kernel)) rfl, gw_of (List.mem_of_getElem? (i := 426) (by decide +kernel)) rfl, gw_of (List.mem_of_getElem? (i := 427) (by decide +kernel)) rfl⟩
theorem cb_X7_impounded (own : String) : CLb own mX7_impounded 1 := ⟨gw_of (List.mem_of_getElem? (i := 433) (by decide +kernel)) rfl, gw_of (List.mem_of_getElem? (i := 52) (by decide +kernel)) rfl, by decide +kernel, by decide⟩
theorem cl_X8_109 : CLv RX8 109 mX7_impounded 1 := ⟨cb_X7_impounded _, gw_of (List.mem_of_getElem? (i := 430) (by decide +kernel)) rfl, gw_of (List.mem_of_getElem? (i := 431) (by decide +kernel)) rfl, gw_of (List.mem_of_getElem? (i := 432) (by decide +kernel)) rfl⟩
theorem cb_X7_allBones (own : String) : CLb own mX7_allBones 1 := ⟨gw_of (List.mem_of_getElem? (i := 441) (by decide +kernel)) rfl, gw_of (List.mem_of_getElem? (i := 52) (by decide +kernel)) rfl, by decide +kernel, by decide⟩
theorem cl_X8_113 : CLv RX8 113 mX7_allBones 1 := ⟨cb_X7_allBones _, gw_of (List.mem_of_getElem? (i := 438) (by decide +kernel)) rfl, gw_of (List.mem_of_getElem? (i := 439) (by decide +kernel)) rfl, gw_of (List.mem_of_getElem? (i := 440) (by decide +kernel)) rfl⟩
theorem cb_X2_hasDog (own : String) : CLb own mX2_hasDog 1 := ⟨gw_of (List.mem_of_getElem? (i := 369) (by decide +kernel)) rfl, gw_of (List.mem_of_getElem? (i := 51) (by decide +kernel)) rfl, by decide +kernel, by decide⟩
theorem cl_X8_120 : CLv RX8 120 mX2_hasDog 1 := ⟨cb_X2_hasDog _, gw_of (List.mem_of_getElem? (i := 446) (by decide +kernel)) rfl, gw_of (List.mem_of_getElem? (i := 367) (by decide +kernel)) rfl, gw_of (List.mem_of_getElem? (i := 368) (by decide +kernel)) rfl⟩
theorem cb_X7_keptBy (own : String) : CLb own mX7_keptBy 2 := ⟨gw_of (List.mem_of_getElem? (i := 377) (by decide +kernel)) rfl, gw_of (List.mem_of_getElem? (i := 52) (by decide +kernel)) rfl, by decide +kernel, by decide⟩
theorem cl_X8_133 : CLv RX8 133 mX7_keptBy 2 := ⟨cb_X7_keptBy _, gw_of (List.mem_of_getElem? (i := 447) (by decide +kernel)) rfl, gw_of (List.mem_of_getElem? (i := 375) (by decide +kernel)) rfl, gw_of (List.mem_of_getElem? (i := 376) (by decide +kernel)) rfl⟩
theorem cb_X2_hasMan (own : String) : CLb own mX2_hasMan 1 := ⟨gw_of (List.mem_of_getElem? (i := 455) (by decide +kernel)) rfl, gw_of (List.mem_of_getElem? (i := 51) (by decide +kernel)) rfl, by decide +kernel, by decide⟩
theorem cl_X8_143 : CLv RX8 143 mX2_hasMan 1 := ⟨cb_X2_hasMan _, gw_of (List.mem_of_getElem? (i := 452) (by decide +kernel)) rfl, gw_of (List.mem_of_getElem? (i := 453) (by decide +kernel)) rfl, gw_of (List.mem_of_getElem? (i := 454) (by decide +kernel)) rfl⟩
theorem cb_X2_sings (own : String) : CLb own mX2_sings 1 := ⟨gw_of (List.mem_of_getElem? (i := 459) (by decide +kernel)) rfl, gw_of (List.mem_of_getElem? (i := 51) (by decide +kernel)) rfl, by decide +kernel, by decide⟩
theorem cl_X8_152 : CLv RX8 152 mX2_sings 1 := ⟨cb_X2_sings _, gw_of (List.mem_of_getElem? (i := 456) (by decide +kernel)) rfl, gw_of (List.mem_of_getElem? (i := 457) (by decide +kernel)) rfl, gw_of (List.mem_of_getElem? (i := 458) (by decide +kernel)) rfl⟩
theorem cb_X7_isLeashed (own : String) : CLb own mX7_isLeashed 1 := ⟨gw_of (List.mem_of_getElem? (i := 463) (by decide +kernel)) rfl, gw_of (List.mem_of_getElem? (i := 52) (by decide +kernel)) rfl, by decide +kernel, by decide⟩
theorem cl_X8_155 : CLv RX8 155 mX7_isLeashed 1 := ⟨cb_X7_isLeashed _, gw_of (List.mem_of_getElem? (i := 460) (by decide +kernel)) rfl, gw_of (List.mem_of_getElem? (i := 461) (by decide +kernel)) rfl, gw_of (List.mem_of_getElem? (i := 462) (by decide +kernel)) rfl⟩
theorem cb_X0_remember (own : String) : CLb own mX0_remember 1 := ⟨gw_of (List.mem_of_getElem? (i := 471) (by decide +kernel)) rfl, gw_of (List.mem_of_getElem? (i := 53) (by decide +kernel)) rfl, by decide +kernel, by decide⟩
theorem cl_X8_161 : CLv RX8 161 mX0_remember 1 := ⟨cb_X0_remember _, gw_of (List.mem_of_getElem? (i := 468) (by decide +kernel)) rfl, gw_of (List.mem_of_getElem? (i := 469) (by decide +kernel)) rfl, gw_of (List.mem_of_getElem? (i := 470) (by decide +kernel)) rfl⟩
theorem cb_X7_goes (own : String) : CLb own mX7_goes 3 := ⟨gw_of (List.mem_of_getElem? (i := 480) (by decide +kernel)) rfl, gw_of (List.mem_of_getElem? (i := 52) (by decide +kernel)) rfl, by decide +kernel, by decide⟩
theorem cl_X8_164 : CLv RX8 164 mX7_goes 3 := ⟨cb_X7_goes _, gw_of (List.mem_of_getElem? (i := 477) (by decide +kernel)) rfl, gw_of (List.mem_of_getElem? (i := 478) (by decide +kernel)) rfl, gw_of (List.mem_of_getElem? (i := 479) (by decide +kernel)) rfl⟩
theorem cb_X7_isImpounded (own : String) : CLb own mX7_isImpounded 1 := ⟨gw_of (List.mem_of_getElem? (i := 437) (by decide +kernel)) rfl, gw_of (List.mem_of_getElem? (i := 52) (by decide +kernel)) rfl, by decide +kernel, by decide⟩
theorem cl_X8_168 : CLv RX8 168 mX7_isImpounded 1 := ⟨cb_X7_isImpounded _, gw_of (List.mem_of_getElem? (i := 488) (by decide +kernel)) rfl, gw_of (List.mem_of_getElem? (i := 435) (by decide +kernel)) rfl, gw_of (List.mem_of_getElem? (i := 436) (by decide +kernel)) rfl⟩
theorem cb_X7_hasRoom (own : String) : CLb own mX7_hasRoom 2 := ⟨gw_of (List.mem_of_getElem? (i := 373) (by decide +kernel)) rfl, gw_of (List.mem_of_getElem? (i := 52) (by decide +kernel)) rfl, by decide +kernel, by decide⟩
theorem cl_X8_171 : CLv RX8 171 mX7_hasRoom 2 := ⟨cb_X7_hasRoom _, gw_of (List.mem_of_getElem? (i := 493) (by decide +kernel)) rfl, gw_of (List.mem_of_getElem? (i := 371) (by decide +kernel)) rfl, gw_of (List.mem_of_getElem? (i := 372) (by decide +kernel)) rfl⟩
theorem cb_X7_passHour (own : String) : CLb own mX7_passHour 3 := ⟨gw_of (List.mem_of_getElem? (i := 501) (by decide +kernel)) rfl, gw_of (List.mem_of_getElem? (i := 52) (by decide +kernel)) rfl, by decide +kernel, by decide⟩
theorem cl_X8_175 : CLv RX8 175 mX7_passHour 3 := ⟨cb_X7_passHour _, gw_of (List.mem_of_getElem? (i := 498) (by decide +kernel)) rfl, gw_of (List.mem_of_getElem? (i := 499) (by decide +kernel)) rfl, gw_of (List.mem_of_getElem? (i := 500) (by decide +kernel)) rfl⟩
theorem cb_X0_takeBack (own : String) : CLb own mX0_takeBack 1 := ⟨gw_of (List.mem_of_getElem? (i := 529) (by decide +kernel)) rfl, gw_of (List.mem_of_getElem? (i := 53) (by decide +kernel)) rfl, by decide +kernel, by decide⟩
theorem cl_X8_179 : CLv RX8 179 mX0_takeBack 1 := ⟨cb_X0_takeBack _, gw_of (List.mem_of_getElem? (i := 526) (by decide +kernel)) rfl, gw_of (List.mem_of_getElem? (i := 527) (by decide +kernel)) rfl, gw_of (List.mem_of_getElem? (i := 528) (by decide +kernel)) rfl⟩
theorem cb_X8_tryHours (own : String) : CLb own mX8_tryHours 3 := ⟨gw_of (List.mem_of_getElem? (i := 537) (by decide +kernel)) rfl, gw_of (List.mem_of_getElem? (i := 49) (by decide +kernel)) rfl, by decide +kernel, by decide⟩
theorem cl_X8_182 : CLv RX8 182 mX8_tryHours 3 := ⟨cb_X8_tryHours _, gw_of (List.mem_of_getElem? (i := 534) (by decide +kernel)) rfl, gw_of (List.mem_of_getElem? (i := 536) (by decide +kernel)) rfl, gw_of (List.mem_of_getElem? (i := 13) (by decide +kernel)) rfl⟩
theorem cb_X1_look (own : String) : CLb own mX1_look 3 := ⟨gw_of (List.mem_of_getElem? (i := 545) (by decide +kernel)) rfl, gw_of (List.mem_of_getElem? (i := 55) (by decide +kernel)) rfl, by decide +kernel, by decide⟩
theorem cl_X8_186 : CLv RX8 186 mX1_look 3 := ⟨cb_X1_look _, gw_of (List.mem_of_getElem? (i := 542) (by decide +kernel)) rfl, gw_of (List.mem_of_getElem? (i := 543) (by decide +kernel)) rfl, gw_of (List.mem_of_getElem? (i := 544) (by decide +kernel)) rfl⟩
theorem cb_X1_countWays (own : String) : CLb own mX1_countWays 2 := ⟨gw_of (List.mem_of_getElem? (i := 553) (by decide +kernel)) rfl, gw_of (List.mem_of_getElem? (i := 55) (by decide +kernel)) rfl, by decide +kernel, by decide⟩
theorem cl_X8_190 : CLv RX8 190 mX1_countWays 2 := ⟨cb_X1_countWays _, gw_of (List.mem_of_getElem? (i := 550) (by decide +kernel)) rfl, gw_of (List.mem_of_getElem? (i := 551) (by decide +kernel)) rfl, gw_of (List.mem_of_getElem? (i := 552) (by decide +kernel)) rfl⟩
theorem cb_X1_waysFrom (own : String) : CLb own mX1_waysFrom 1 := ⟨gw_of (List.mem_of_getElem? (i := 562) (by decide +kernel)) rfl, gw_of (List.mem_of_getElem? (i := 55) (by decide +kernel)) rfl, by decide +kernel, by decide⟩
theorem cl_X8_194 : CLv RX8 194 mX1_waysFrom 1 := ⟨cb_X1_waysFrom _, gw_of (List.mem_of_getElem? (i := 559) (by decide +kernel)) rfl, gw_of (List.mem_of_getElem? (i := 560) (by decide +kernel)) rfl, gw_of (List.mem_of_getElem? (i := 561) (by decide +kernel)) rfl⟩
theorem cb_X1_firstRow (own : String) : CLb own mX1_firstRow 2 := ⟨gw_of (List.mem_of_getElem? (i := 566) (by decide +kernel)) rfl, gw_of (List.mem_of_getElem? (i := 55) (by decide +kernel)) rfl, by decide +kernel, by decide⟩
theorem cl_X8_197 : CLv RX8 197 mX1_firstRow 2 := ⟨cb_X1_firstRow _, gw_of (List.mem_of_getElem? (i := 563) (by decide +kernel)) rfl, gw_of (List.mem_of_getElem? (i := 564) (by decide +kernel)) rfl, gw_of (List.mem_of_getElem? (i := 565) (by decide +kernel)) rfl⟩
theorem cb_X2_hasRival (own : String) : CLb own mX2_hasRival 1 := ⟨gw_of (List.mem_of_getElem? (i := 578) (by decide +kernel)) rfl, gw_of (List.mem_of_getElem? (i := 51) (by decide +kernel)) rfl, by decide +kernel, by decide⟩
theorem cl_X8_201 : CLv RX8 201 mX2_hasRival 1 := ⟨cb_X2_hasRival _, gw_of (List.mem_of_getElem? (i := 575) (by decide +kernel)) rfl, gw_of (List.mem_of_getElem? (i := 576) (by decide +kernel)) rfl, gw_of (List.mem_of_getElem? (i := 577) (by decide +kernel)) rfl⟩
theorem cb_X1_fewestHours (own : String) : CLb own mX1_fewestHours 1 := ⟨gw_of (List.mem_of_getElem? (i := 582) (by decide +kernel)) rfl, gw_of (List.mem_of_getElem? (i := 55) (by decide +kernel)) rfl, by decide +kernel, by decide⟩
theorem cl_X8_204 : CLv RX8 204 mX1_fewestHours 1 := ⟨cb_X1_fewestHours _, gw_of (List.mem_of_getElem? (i := 579) (by decide +kernel)) rfl, gw_of (List.mem_of_getElem? (i := 580) (by decide +kernel)) rfl, gw_of (List.mem_of_getElem? (i := 581) (by decide +kernel)) rfl⟩
theorem cb_X2_degree (own : String) : CLb own mX2_degree 2 := ⟨gw_of (List.mem_of_getElem? (i := 609) (by decide +kernel)) rfl, gw_of (List.mem_of_getElem? (i := 51) (by decide +kernel)) rfl, by decide +kernel, by decide⟩
theorem cl_X8_207 : CLv RX8 207 mX2_degree 2 := ⟨cb_X2_degree _, gw_of (List.mem_of_getElem? (i := 606) (by decide +kernel)) rfl, gw_of (List.mem_of_getElem? (i := 607) (by decide +kernel)) rfl, gw_of (List.mem_of_getElem? (i := 608) (by decide +kernel)) rfl⟩
theorem cb_X2_inheritsBefore (own : String) : CLb own mX2_inheritsBefore 3 := ⟨gw_of (List.mem_of_getElem? (i := 613) (by decide +kernel)) rfl, gw_of (List.mem_of_getElem? (i := 51) (by decide +kernel)) rfl, by decide +kernel, by decide⟩
theorem cl_X8_210 : CLv RX8 210 mX2_inheritsBefore 3 := ⟨cb_X2_inheritsBefore _, gw_of (List.mem_of_getElem? (i := 610) (by decide +kernel)) rfl, gw_of (List.mem_of_getElem? (i := 611) (by decide +kernel)) rfl, gw_of (List.mem_of_getElem? (i := 612) (by decide +kernel)) rfl⟩
theorem cb_X5_add (own : String) : CLb own mX5_add 3 := ⟨gw_of (List.mem_of_getElem? (i := 630) (by decide +kernel)) rfl, gw_of (List.mem_of_getElem? (i := 56) (by decide +kernel)) rfl, by decide +kernel, by decide⟩
theorem cl_X8_214 : CLv RX8 214 mX5_add 3 := ⟨cb_X5_add _, gw_of (List.mem_of_getElem? (i := 627) (by decide +kernel)) rfl, gw_of (List.mem_of_getElem? (i := 628) (by decide +kernel)) rfl, gw_of (List.mem_of_getElem? (i := 629) (by decide +kernel)) rfl⟩
theorem cb_X5_look (own : String) : CLb own mX5_look 2 := ⟨gw_of (List.mem_of_getElem? (i := 642) (by decide +kernel)) rfl, gw_of (List.mem_of_getElem? (i := 56) (by decide +kernel)) rfl, by decide +kernel, by decide⟩
theorem cl_X8_218 : CLv RX8 218 mX5_look 2 := ⟨cb_X5_look _, gw_of (List.mem_of_getElem? (i := 639) (by decide +kernel)) rfl, gw_of (List.mem_of_getElem? (i := 640) (by decide +kernel)) rfl, gw_of (List.mem_of_getElem? (i := 641) (by decide +kernel)) rfl⟩
theorem cb_X5_ways (own : String) : CLb own mX5_ways 1 := ⟨gw_of (List.mem_of_getElem? (i := 655) (by decide +kernel)) rfl, gw_of (List.mem_of_getElem? (i := 56) (by decide +kernel)) rfl, by decide +kernel, by decide⟩
theorem cl_X8_221 : CLv RX8 221 mX5_ways 1 := ⟨cb_X5_ways _, gw_of (List.mem_of_getElem? (i := 652) (by decide +kernel)) rfl, gw_of (List.mem_of_getElem? (i := 653) (by decide +kernel)) rfl, gw_of (List.mem_of_getElem? (i := 654) (by decide +kernel)) rfl⟩
theorem cb_X5_onlyCompany (own : String) : CLb own mX5_onlyCompany 2 := ⟨gw_of (List.mem_of_getElem? (i := 668) (by decide +kernel)) rfl, gw_of (List.mem_of_getElem? (i := 56) (by decide +kernel)) rfl, by decide +kernel, by decide⟩
theorem cl_X8_224 : CLv RX8 224 mX5_onlyCompany 2 := ⟨cb_X5_onlyCompany _, gw_of (List.mem_of_getElem? (i := 665) (by decide +kernel)) rfl, gw_of (List.mem_of_getElem? (i := 666) (by decide +kernel)) rfl, gw_of (List.mem_of_getElem? (i := 667) (by decide +kernel)) rfl⟩
theorem cb_X4_holds (own : String) : CLb own mX4_holds 3 := ⟨gw_of (List.mem_of_getElem? (i := 677) (by decide +kernel)) rfl, gw_of (List.mem_of_getElem? (i := 61) (by decide +kernel)) rfl, by decide +kernel, by decide⟩
theorem cl_X8_228 : CLs RX8 228 mX4_holds 3 := ⟨cb_X4_holds _, gw_of (List.mem_of_getElem? (i := 675) (by decide +kernel)) rfl, gw_of (List.mem_of_getElem? (i := 676) (by decide +kernel)) rfl⟩
theorem cb_J6_bitCount_0f7a4 (own : String) : CLb own mJ6_bitCount_0f7a4 1 := ⟨gw_of (List.mem_of_getElem? (i := 380) (by decide +kernel)) rfl, gw_of (List.mem_of_getElem? (i := 59) (by decide +kernel)) rfl, by decide +kernel, by decide⟩
theorem cl_X8_239 : CLs RX8 239 mJ6_bitCount_0f7a4 1 := ⟨cb_J6_bitCount_0f7a4 _, gw_of (List.mem_of_getElem? (i := 702) (by decide +kernel)) rfl, gw_of (List.mem_of_getElem? (i := 379) (by decide +kernel)) rfl⟩
theorem cb_X6_put (own : String) : CLb own mX6_put 2 := ⟨gw_of (List.mem_of_getElem? (i := 710) (by decide +kernel)) rfl, gw_of (List.mem_of_getElem? (i := 54) (by decide +kernel)) rfl, by decide +kernel, by decide⟩
theorem cl_X8_244 : CLv RX8 244 mX6_put 2 := ⟨cb_X6_put _, gw_of (List.mem_of_getElem? (i := 707) (by decide +kernel)) rfl, gw_of (List.mem_of_getElem? (i := 708) (by decide +kernel)) rfl, gw_of (List.mem_of_getElem? (i := 709) (by decide +kernel)) rfl⟩
theorem cb_X6_holds (own : String) : CLb own mX6_holds 1 := ⟨gw_of (List.mem_of_getElem? (i := 719) (by decide +kernel)) rfl, gw_of (List.mem_of_getElem? (i := 54) (by decide +kernel)) rfl, by decide +kernel, by decide⟩
theorem cl_X8_248 : CLv RX8 248 mX6_holds 1 := ⟨cb_X6_holds _, gw_of (List.mem_of_getElem? (i := 716) (by decide +kernel)) rfl, gw_of (List.mem_of_getElem? (i := 717) (by decide +kernel)) rfl, gw_of (List.mem_of_getElem? (i := 718) (by decide +kernel)) rfl⟩
theorem cb_X6_restore (own : String) : CLb own mX6_restore 2 := ⟨gw_of (List.mem_of_getElem? (i := 723) (by decide +kernel)) rfl, gw_of (List.mem_of_getElem? (i := 54) (by decide +kernel)) rfl, by decide +kernel, by decide⟩
theorem cl_X8_250 : CLv RX8 250 mX6_restore 2 := ⟨cb_X6_restore _, gw_of (List.mem_of_getElem? (i := 720) (by decide +kernel)) rfl, gw_of (List.mem_of_getElem? (i := 721) (by decide +kernel)) rfl, gw_of (List.mem_of_getElem? (i := 722) (by decide +kernel)) rfl⟩
theorem oi_X0_3 : Cond.methodLink RX0 3 objectInit ∈ gw := gw_of (List.mem_of_getElem? (i := 197) (by decide +kernel)) rfl
theorem cl_X0_21 : CLiN RX0 21 mX7_init 0 "HoundLicence" := ⟨cb_X7_init _, ex_of (List.mem_of_getElem? (i := 200) (by decide +kernel)) rfl, gw_of (List.mem_of_getElem? (i := 133) (by decide +kernel)) rfl, rfl, rfl⟩
theorem cb_X0_forgetFirst (own : String) : CLb own mX0_forgetFirst 0 := ⟨gw_of (List.mem_of_getElem? (i := 475) (by decide +kernel)) rfl, gw_of (List.mem_of_getElem? (i := 53) (by decide +kernel)) rfl, by decide +kernel, by decide⟩
theorem cl_X0_22 : CLv RX0 22 mX0_forgetFirst 0 := ⟨cb_X0_forgetFirst _, gw_of (List.mem_of_getElem? (i := 472) (by decide +kernel)) rfl, gw_of (List.mem_of_getElem? (i := 474) (by decide +kernel)) rfl, gw_of (List.mem_of_getElem? (i := 9) (by decide +kernel)) rfl⟩
theorem cl_X0_25 : CLv RX0 25 mX7_become 1 := ⟨cb_X7_become _, gw_of (List.mem_of_getElem? (i := 476) (by decide +kernel)) rfl, gw_of (List.mem_of_getElem? (i := 409) (by decide +kernel)) rfl, gw_of (List.mem_of_getElem? (i := 410) (by decide +kernel)) rfl⟩
theorem oi_X1_3 : Cond.methodLink RX1 3 objectInit ∈ gw := gw_of (List.mem_of_getElem? (i := 229) (by decide +kernel)) rfl
theorem cb_X7_perilAt (own : String) : CLb own mX7_perilAt 3 := ⟨gw_of (List.mem_of_getElem? (i := 549) (by decide +kernel)) rfl, gw_of (List.mem_of_getElem? (i := 52) (by decide +kernel)) rfl, by decide +kernel, by decide⟩
theorem cl_X1_26 : CLv RX1 26 mX7_perilAt 3 := ⟨cb_X7_perilAt _, gw_of (List.mem_of_getElem? (i := 546) (by decide +kernel)) rfl, gw_of (List.mem_of_getElem? (i := 547) (by decide +kernel)) rfl, gw_of (List.mem_of_getElem? (i := 548) (by decide +kernel)) rfl⟩
theorem cb_X8_streetBy (own : String) : CLb own mX8_streetBy 2 := ⟨gw_of (List.mem_of_getElem? (i := 483) (by decide +kernel)) rfl, gw_of (List.mem_of_getElem? (i := 49) (by decide +kernel)) rfl, by decide +kernel, by decide⟩
theorem cl_X1_32 : CLsN RX1 32 mX8_streetBy 2 "HoundLicence" := ⟨cb_X8_streetBy _, ex_of (List.mem_of_getElem? (i := 554) (by decide +kernel)) rfl, gw_of (List.mem_of_getElem? (i := 482) (by decide +kernel)) rfl⟩
theorem cb_X1_waysBy (own : String) : CLb own mX1_waysBy 2 := ⟨gw_of (List.mem_of_getElem? (i := 558) (by decide +kernel)) rfl, gw_of (List.mem_of_getElem? (i := 55) (by decide +kernel)) rfl, by decide +kernel, by decide⟩
theorem cl_X1_36 : CLv RX1 36 mX1_waysBy 2 := ⟨cb_X1_waysBy _, gw_of (List.mem_of_getElem? (i := 555) (by decide +kernel)) rfl, gw_of (List.mem_of_getElem? (i := 557) (by decide +kernel)) rfl, gw_of (List.mem_of_getElem? (i := 14) (by decide +kernel)) rfl⟩
theorem cb_X1_firstWay (own : String) : CLb own mX1_firstWay 2 := ⟨gw_of (List.mem_of_getElem? (i := 570) (by decide +kernel)) rfl, gw_of (List.mem_of_getElem? (i := 55) (by decide +kernel)) rfl, by decide +kernel, by decide⟩
theorem cl_X1_39 : CLv RX1 39 mX1_firstWay 2 := ⟨cb_X1_firstWay _, gw_of (List.mem_of_getElem? (i := 567) (by decide +kernel)) rfl, gw_of (List.mem_of_getElem? (i := 569) (by decide +kernel)) rfl, gw_of (List.mem_of_getElem? (i := 15) (by decide +kernel)) rfl⟩
theorem cb_X1_clearNext (own : String) : CLb own mX1_clearNext 0 := ⟨gw_of (List.mem_of_getElem? (i := 586) (by decide +kernel)) rfl, gw_of (List.mem_of_getElem? (i := 55) (by decide +kernel)) rfl, by decide +kernel, by decide⟩
theorem cl_X1_42 : CLv RX1 42 mX1_clearNext 0 := ⟨cb_X1_clearNext _, gw_of (List.mem_of_getElem? (i := 583) (by decide +kernel)) rfl, gw_of (List.mem_of_getElem? (i := 585) (by decide +kernel)) rfl, gw_of (List.mem_of_getElem? (i := 16) (by decide +kernel)) rfl⟩
theorem cb_X1_swap (own : String) : CLb own mX1_swap 0 := ⟨gw_of (List.mem_of_getElem? (i := 590) (by decide +kernel)) rfl, gw_of (List.mem_of_getElem? (i := 55) (by decide +kernel)) rfl, by decide +kernel, by decide⟩
theorem cl_X1_45 : CLv RX1 45 mX1_swap 0 := ⟨cb_X1_swap _, gw_of (List.mem_of_getElem? (i := 587) (by decide +kernel)) rfl, gw_of (List.mem_of_getElem? (i := 589) (by decide +kernel)) rfl, gw_of (List.mem_of_getElem? (i := 17) (by decide +kernel)) rfl⟩
theorem cb_X1_spread (own : String) : CLb own mX1_spread 2 := ⟨gw_of (List.mem_of_getElem? (i := 594) (by decide +kernel)) rfl, gw_of (List.mem_of_getElem? (i := 55) (by decide +kernel)) rfl, by decide +kernel, by decide⟩
theorem cl_X1_48 : CLv RX1 48 mX1_spread 2 := ⟨cb_X1_spread _, gw_of (List.mem_of_getElem? (i := 591) (by decide +kernel)) rfl, gw_of (List.mem_of_getElem? (i := 593) (by decide +kernel)) rfl, gw_of (List.mem_of_getElem? (i := 18) (by decide +kernel)) rfl⟩
theorem cb_X1_allReached (own : String) : CLb own mX1_allReached 0 := ⟨gw_of (List.mem_of_getElem? (i := 601) (by decide +kernel)) rfl, gw_of (List.mem_of_getElem? (i := 55) (by decide +kernel)) rfl, by decide +kernel, by decide⟩
theorem cl_X1_52 : CLv RX1 52 mX1_allReached 0 := ⟨cb_X1_allReached _, gw_of (List.mem_of_getElem? (i := 598) (by decide +kernel)) rfl, gw_of (List.mem_of_getElem? (i := 600) (by decide +kernel)) rfl, gw_of (List.mem_of_getElem? (i := 19) (by decide +kernel)) rfl⟩
theorem cb_X1_withStreet (own : String) : CLb own mX1_withStreet 2 := ⟨gw_of (List.mem_of_getElem? (i := 597) (by decide +kernel)) rfl, gw_of (List.mem_of_getElem? (i := 55) (by decide +kernel)) rfl, by decide +kernel, by decide⟩
theorem cl_X1_56 : CLs RX1 56 mX1_withStreet 2 := ⟨cb_X1_withStreet _, gw_of (List.mem_of_getElem? (i := 595) (by decide +kernel)) rfl, gw_of (List.mem_of_getElem? (i := 596) (by decide +kernel)) rfl⟩
theorem oi_X2_3 : Cond.methodLink RX2 3 objectInit ∈ gw := gw_of (List.mem_of_getElem? (i := 81) (by decide +kernel)) rfl
theorem ac_X2_37 : Cond.methodLink RX2 37 arraycopyName ∈ gw := gw_of (List.mem_of_getElem? (i := 405) (by decide +kernel)) rfl
theorem cb_J9_floorMod_7cf53 (own : String) : CLb own mJ9_floorMod_7cf53 2 := ⟨gw_of (List.mem_of_getElem? (i := 350) (by decide +kernel)) rfl, gw_of (List.mem_of_getElem? (i := 58) (by decide +kernel)) rfl, by decide +kernel, by decide⟩
theorem cl_X2_43 : CLs RX2 43 mJ9_floorMod_7cf53 2 := ⟨cb_J9_floorMod_7cf53 _, gw_of (List.mem_of_getElem? (i := 429) (by decide +kernel)) rfl, gw_of (List.mem_of_getElem? (i := 349) (by decide +kernel)) rfl⟩
theorem cb_X2_comesFrom (own : String) : CLb own mX2_comesFrom 2 := ⟨gw_of (List.mem_of_getElem? (i := 395) (by decide +kernel)) rfl, gw_of (List.mem_of_getElem? (i := 51) (by decide +kernel)) rfl, by decide +kernel, by decide⟩
theorem cl_X2_49 : CLv RX2 49 mX2_comesFrom 2 := ⟨cb_X2_comesFrom _, gw_of (List.mem_of_getElem? (i := 392) (by decide +kernel)) rfl, gw_of (List.mem_of_getElem? (i := 394) (by decide +kernel)) rfl, gw_of (List.mem_of_getElem? (i := 8) (by decide +kernel)) rfl⟩
theorem cl_X2_53 : CLv RX2 53 mX2_hasDog 1 := ⟨cb_X2_hasDog _, gw_of (List.mem_of_getElem? (i := 396) (by decide +kernel)) rfl, gw_of (List.mem_of_getElem? (i := 367) (by decide +kernel)) rfl, gw_of (List.mem_of_getElem? (i := 368) (by decide +kernel)) rfl⟩
theorem cl_X2_57 : CLv RX2 57 mX2_degree 2 := ⟨cb_X2_degree _, gw_of (List.mem_of_getElem? (i := 614) (by decide +kernel)) rfl, gw_of (List.mem_of_getElem? (i := 607) (by decide +kernel)) rfl, gw_of (List.mem_of_getElem? (i := 608) (by decide +kernel)) rfl⟩
theorem oi_X3_3 : Cond.methodLink RX3 3 objectInit ∈ gw := gw_of (List.mem_of_getElem? (i := 75) (by decide +kernel)) rfl
theorem cl_X3_11 : CLiN RX3 11 mX2_init 0 "HoundLicence" := ⟨cb_X2_init _, ex_of (List.mem_of_getElem? (i := 78) (by decide +kernel)) rfl, gw_of (List.mem_of_getElem? (i := 79) (by decide +kernel)) rfl, rfl, rfl⟩
theorem cl_X3_20 : CLiN RX3 20 mX7_init 0 "HoundLicence" := ⟨cb_X7_init _, ex_of (List.mem_of_getElem? (i := 132) (by decide +kernel)) rfl, gw_of (List.mem_of_getElem? (i := 133) (by decide +kernel)) rfl, rfl, rfl⟩
theorem cb_X2_clear (own : String) : CLb own mX2_clear 0 := ⟨gw_of (List.mem_of_getElem? (i := 324) (by decide +kernel)) rfl, gw_of (List.mem_of_getElem? (i := 51) (by decide +kernel)) rfl, by decide +kernel, by decide⟩
theorem cl_X3_35 : CLv RX3 35 mX2_clear 0 := ⟨cb_X2_clear _, gw_of (List.mem_of_getElem? (i := 321) (by decide +kernel)) rfl, gw_of (List.mem_of_getElem? (i := 322) (by decide +kernel)) rfl, gw_of (List.mem_of_getElem? (i := 323) (by decide +kernel)) rfl⟩
theorem cb_X3_takes (own : String) : CLb own mX3_takes 1 := ⟨gw_of (List.mem_of_getElem? (i := 328) (by decide +kernel)) rfl, gw_of (List.mem_of_getElem? (i := 50) (by decide +kernel)) rfl, by decide +kernel, by decide⟩
theorem cl_X3_38 : CLv RX3 38 mX3_takes 1 := ⟨cb_X3_takes _, gw_of (List.mem_of_getElem? (i := 325) (by decide +kernel)) rfl, gw_of (List.mem_of_getElem? (i := 327) (by decide +kernel)) rfl, gw_of (List.mem_of_getElem? (i := 0) (by decide +kernel)) rfl⟩
theorem cb_X3_opens (own : String) : CLb own mX3_opens 1 := ⟨gw_of (List.mem_of_getElem? (i := 332) (by decide +kernel)) rfl, gw_of (List.mem_of_getElem? (i := 50) (by decide +kernel)) rfl, by decide +kernel, by decide⟩
theorem cl_X3_42 : CLv RX3 42 mX3_opens 1 := ⟨cb_X3_opens _, gw_of (List.mem_of_getElem? (i := 329) (by decide +kernel)) rfl, gw_of (List.mem_of_getElem? (i := 331) (by decide +kernel)) rfl, gw_of (List.mem_of_getElem? (i := 1) (by decide +kernel)) rfl⟩
theorem cb_X3_mayOpen (own : String) : CLb own mX3_mayOpen 1 := ⟨gw_of (List.mem_of_getElem? (i := 336) (by decide +kernel)) rfl, gw_of (List.mem_of_getElem? (i := 50) (by decide +kernel)) rfl, by decide +kernel, by decide⟩
theorem cl_X3_45 : CLv RX3 45 mX3_mayOpen 1 := ⟨cb_X3_mayOpen _, gw_of (List.mem_of_getElem? (i := 333) (by decide +kernel)) rfl, gw_of (List.mem_of_getElem? (i := 335) (by decide +kernel)) rfl, gw_of (List.mem_of_getElem? (i := 2) (by decide +kernel)) rfl⟩
theorem cb_X3_figure (own : String) : CLb own mX3_figure 1 := ⟨gw_of (List.mem_of_getElem? (i := 343) (by decide +kernel)) rfl, gw_of (List.mem_of_getElem? (i := 50) (by decide +kernel)) rfl, by decide +kernel, by decide⟩
theorem cl_X3_48 : CLs RX3 48 mX3_figure 1 := ⟨cb_X3_figure _, gw_of (List.mem_of_getElem? (i := 341) (by decide +kernel)) rfl, gw_of (List.mem_of_getElem? (i := 342) (by decide +kernel)) rfl⟩
theorem cb_X3_takesHead (own : String) : CLb own mX3_takesHead 1 := ⟨gw_of (List.mem_of_getElem? (i := 347) (by decide +kernel)) rfl, gw_of (List.mem_of_getElem? (i := 50) (by decide +kernel)) rfl, by decide +kernel, by decide⟩
theorem cl_X3_52 : CLv RX3 52 mX3_takesHead 1 := ⟨cb_X3_takesHead _, gw_of (List.mem_of_getElem? (i := 344) (by decide +kernel)) rfl, gw_of (List.mem_of_getElem? (i := 346) (by decide +kernel)) rfl, gw_of (List.mem_of_getElem? (i := 3) (by decide +kernel)) rfl⟩
theorem cb_X3_goesOn (own : String) : CLb own mX3_goesOn 2 := ⟨gw_of (List.mem_of_getElem? (i := 357) (by decide +kernel)) rfl, gw_of (List.mem_of_getElem? (i := 50) (by decide +kernel)) rfl, by decide +kernel, by decide⟩
theorem cl_X3_55 : CLv RX3 55 mX3_goesOn 2 := ⟨cb_X3_goesOn _, gw_of (List.mem_of_getElem? (i := 354) (by decide +kernel)) rfl, gw_of (List.mem_of_getElem? (i := 356) (by decide +kernel)) rfl, gw_of (List.mem_of_getElem? (i := 4) (by decide +kernel)) rfl⟩
theorem cb_X3_takesDog (own : String) : CLb own mX3_takesDog 1 := ⟨gw_of (List.mem_of_getElem? (i := 361) (by decide +kernel)) rfl, gw_of (List.mem_of_getElem? (i := 50) (by decide +kernel)) rfl, by decide +kernel, by decide⟩
theorem cl_X3_59 : CLv RX3 59 mX3_takesDog 1 := ⟨cb_X3_takesDog _, gw_of (List.mem_of_getElem? (i := 358) (by decide +kernel)) rfl, gw_of (List.mem_of_getElem? (i := 360) (by decide +kernel)) rfl, gw_of (List.mem_of_getElem? (i := 5) (by decide +kernel)) rfl⟩
theorem cb_X3_takesMan (own : String) : CLb own mX3_takesMan 1 := ⟨gw_of (List.mem_of_getElem? (i := 365) (by decide +kernel)) rfl, gw_of (List.mem_of_getElem? (i := 50) (by decide +kernel)) rfl, by decide +kernel, by decide⟩
theorem cl_X3_62 : CLv RX3 62 mX3_takesMan 1 := ⟨cb_X3_takesMan _, gw_of (List.mem_of_getElem? (i := 362) (by decide +kernel)) rfl, gw_of (List.mem_of_getElem? (i := 364) (by decide +kernel)) rfl, gw_of (List.mem_of_getElem? (i := 6) (by decide +kernel)) rfl⟩
theorem cb_X3_takesParent (own : String) : CLb own mX3_takesParent 1 := ⟨gw_of (List.mem_of_getElem? (i := 387) (by decide +kernel)) rfl, gw_of (List.mem_of_getElem? (i := 50) (by decide +kernel)) rfl, by decide +kernel, by decide⟩
theorem cl_X3_65 : CLv RX3 65 mX3_takesParent 1 := ⟨cb_X3_takesParent _, gw_of (List.mem_of_getElem? (i := 384) (by decide +kernel)) rfl, gw_of (List.mem_of_getElem? (i := 386) (by decide +kernel)) rfl, gw_of (List.mem_of_getElem? (i := 7) (by decide +kernel)) rfl⟩
theorem cb_X2_mayParentSome (own : String) : CLb own mX2_mayParentSome 0 := ⟨gw_of (List.mem_of_getElem? (i := 340) (by decide +kernel)) rfl, gw_of (List.mem_of_getElem? (i := 51) (by decide +kernel)) rfl, by decide +kernel, by decide⟩
theorem cl_X3_74 : CLv RX3 74 mX2_mayParentSome 0 := ⟨cb_X2_mayParentSome _, gw_of (List.mem_of_getElem? (i := 337) (by decide +kernel)) rfl, gw_of (List.mem_of_getElem? (i := 338) (by decide +kernel)) rfl, gw_of (List.mem_of_getElem? (i := 339) (by decide +kernel)) rfl⟩
theorem cl_X3_85 : CLs RX3 85 mJ9_floorMod_7cf53 2 := ⟨cb_J9_floorMod_7cf53 _, gw_of (List.mem_of_getElem? (i := 348) (by decide +kernel)) rfl, gw_of (List.mem_of_getElem? (i := 349) (by decide +kernel)) rfl⟩
theorem cb_X3_isStreet (own : String) : CLb own mX3_isStreet 1 := ⟨gw_of (List.mem_of_getElem? (i := 353) (by decide +kernel)) rfl, gw_of (List.mem_of_getElem? (i := 50) (by decide +kernel)) rfl, by decide +kernel, by decide⟩
theorem cl_X3_91 : CLs RX3 91 mX3_isStreet 1 := ⟨cb_X3_isStreet _, gw_of (List.mem_of_getElem? (i := 351) (by decide +kernel)) rfl, gw_of (List.mem_of_getElem? (i := 352) (by decide +kernel)) rfl⟩
theorem cl_X3_108 : CLv RX3 108 mX2_hasDog 1 := ⟨cb_X2_hasDog _, gw_of (List.mem_of_getElem? (i := 366) (by decide +kernel)) rfl, gw_of (List.mem_of_getElem? (i := 367) (by decide +kernel)) rfl, gw_of (List.mem_of_getElem? (i := 368) (by decide +kernel)) rfl⟩
theorem cl_X3_111 : CLv RX3 111 mX7_hasRoom 2 := ⟨cb_X7_hasRoom _, gw_of (List.mem_of_getElem? (i := 370) (by decide +kernel)) rfl, gw_of (List.mem_of_getElem? (i := 371) (by decide +kernel)) rfl, gw_of (List.mem_of_getElem? (i := 372) (by decide +kernel)) rfl⟩
theorem cb_X2_mayParent (own : String) : CLb own mX2_mayParent 2 := ⟨gw_of (List.mem_of_getElem? (i := 391) (by decide +kernel)) rfl, gw_of (List.mem_of_getElem? (i := 51) (by decide +kernel)) rfl, by decide +kernel, by decide⟩
theorem cl_X3_121 : CLv RX3 121 mX2_mayParent 2 := ⟨cb_X2_mayParent _, gw_of (List.mem_of_getElem? (i := 388) (by decide +kernel)) rfl, gw_of (List.mem_of_getElem? (i := 389) (by decide +kernel)) rfl, gw_of (List.mem_of_getElem? (i := 390) (by decide +kernel)) rfl⟩
theorem cb_X4_wardens (own : String) : CLb own mX4_wardens 3 := ⟨gw_of (List.mem_of_getElem? (i := 680) (by decide +kernel)) rfl, gw_of (List.mem_of_getElem? (i := 61) (by decide +kernel)) rfl, by decide +kernel, by decide⟩
theorem cl_X4_9 : CLs RX4 9 mX4_wardens 3 := ⟨cb_X4_wardens _, gw_of (List.mem_of_getElem? (i := 678) (by decide +kernel)) rfl, gw_of (List.mem_of_getElem? (i := 679) (by decide +kernel)) rfl⟩
theorem cb_X4_bachelors (own : String) : CLb own mX4_bachelors 3 := ⟨gw_of (List.mem_of_getElem? (i := 686) (by decide +kernel)) rfl, gw_of (List.mem_of_getElem? (i := 61) (by decide +kernel)) rfl, by decide +kernel, by decide⟩
theorem cl_X4_15 : CLs RX4 15 mX4_bachelors 3 := ⟨cb_X4_bachelors _, gw_of (List.mem_of_getElem? (i := 684) (by decide +kernel)) rfl, gw_of (List.mem_of_getElem? (i := 685) (by decide +kernel)) rfl⟩
theorem cb_X4_worth (own : String) : CLb own mX4_worth 2 := ⟨gw_of (List.mem_of_getElem? (i := 683) (by decide +kernel)) rfl, gw_of (List.mem_of_getElem? (i := 61) (by decide +kernel)) rfl, by decide +kernel, by decide⟩
theorem cl_X4_18 : CLs RX4 18 mX4_worth 2 := ⟨cb_X4_worth _, gw_of (List.mem_of_getElem? (i := 681) (by decide +kernel)) rfl, gw_of (List.mem_of_getElem? (i := 682) (by decide +kernel)) rfl⟩
theorem oi_X5_3 : Cond.methodLink RX5 3 objectInit ∈ gw := gw_of (List.mem_of_getElem? (i := 250) (by decide +kernel)) rfl
theorem ac_X5_36 : Cond.methodLink RX5 36 arraycopyName ∈ gw := gw_of (List.mem_of_getElem? (i := 643) (by decide +kernel)) rfl
theorem cb_X5_fits (own : String) : CLb own mX5_fits 4 := ⟨gw_of (List.mem_of_getElem? (i := 647) (by decide +kernel)) rfl, gw_of (List.mem_of_getElem? (i := 56) (by decide +kernel)) rfl, by decide +kernel, by decide⟩
theorem cl_X5_45 : CLv RX5 45 mX5_fits 4 := ⟨cb_X5_fits _, gw_of (List.mem_of_getElem? (i := 644) (by decide +kernel)) rfl, gw_of (List.mem_of_getElem? (i := 646) (by decide +kernel)) rfl, gw_of (List.mem_of_getElem? (i := 20) (by decide +kernel)) rfl⟩
theorem cb_X5_streetWith (own : String) : CLb own mX5_streetWith 5 := ⟨gw_of (List.mem_of_getElem? (i := 650) (by decide +kernel)) rfl, gw_of (List.mem_of_getElem? (i := 56) (by decide +kernel)) rfl, by decide +kernel, by decide⟩
theorem cl_X5_52 : CLs RX5 52 mX5_streetWith 5 := ⟨cb_X5_streetWith _, gw_of (List.mem_of_getElem? (i := 648) (by decide +kernel)) rfl, gw_of (List.mem_of_getElem? (i := 649) (by decide +kernel)) rfl⟩
theorem cl_X5_56 : CLv RX5 56 mX2_hasDog 1 := ⟨cb_X2_hasDog _, gw_of (List.mem_of_getElem? (i := 651) (by decide +kernel)) rfl, gw_of (List.mem_of_getElem? (i := 367) (by decide +kernel)) rfl, gw_of (List.mem_of_getElem? (i := 368) (by decide +kernel)) rfl⟩
theorem cb_X5_share (own : String) : CLb own mX5_share 2 := ⟨gw_of (List.mem_of_getElem? (i := 659) (by decide +kernel)) rfl, gw_of (List.mem_of_getElem? (i := 56) (by decide +kernel)) rfl, by decide +kernel, by decide⟩
theorem cl_X5_71 : CLv RX5 71 mX5_share 2 := ⟨cb_X5_share _, gw_of (List.mem_of_getElem? (i := 656) (by decide +kernel)) rfl, gw_of (List.mem_of_getElem? (i := 658) (by decide +kernel)) rfl, gw_of (List.mem_of_getElem? (i := 21) (by decide +kernel)) rfl⟩
theorem cl_X5_75 : CLv RX5 75 mX2_hasMan 1 := ⟨cb_X2_hasMan _, gw_of (List.mem_of_getElem? (i := 660) (by decide +kernel)) rfl, gw_of (List.mem_of_getElem? (i := 453) (by decide +kernel)) rfl, gw_of (List.mem_of_getElem? (i := 454) (by decide +kernel)) rfl⟩
theorem cl_X5_78 : CLv RX5 78 mX5_ways 1 := ⟨cb_X5_ways _, gw_of (List.mem_of_getElem? (i := 669) (by decide +kernel)) rfl, gw_of (List.mem_of_getElem? (i := 653) (by decide +kernel)) rfl, gw_of (List.mem_of_getElem? (i := 654) (by decide +kernel)) rfl⟩
theorem oi_X6_3 : Cond.methodLink RX6 3 objectInit ∈ gw := gw_of (List.mem_of_getElem? (i := 214) (by decide +kernel)) rfl
theorem cl_X6_21 : CLiN RX6 21 mX7_init 0 "HoundLicence" := ⟨cb_X7_init _, ex_of (List.mem_of_getElem? (i := 216) (by decide +kernel)) rfl, gw_of (List.mem_of_getElem? (i := 133) (by decide +kernel)) rfl, rfl, rfl⟩
theorem cl_X6_22 : CLv RX6 22 mX7_become 1 := ⟨cb_X7_become _, gw_of (List.mem_of_getElem? (i := 711) (by decide +kernel)) rfl, gw_of (List.mem_of_getElem? (i := 409) (by decide +kernel)) rfl, gw_of (List.mem_of_getElem? (i := 410) (by decide +kernel)) rfl⟩
theorem oi_X7_3 : Cond.methodLink RX7 3 objectInit ∈ gw := gw_of (List.mem_of_getElem? (i := 135) (by decide +kernel)) rfl
theorem ac_X7_34 : Cond.methodLink RX7 34 arraycopyName ∈ gw := gw_of (List.mem_of_getElem? (i := 412) (by decide +kernel)) rfl
theorem cl_X7_45 : CLv RX7 45 mX7_isImpounded 1 := ⟨cb_X7_isImpounded _, gw_of (List.mem_of_getElem? (i := 434) (by decide +kernel)) rfl, gw_of (List.mem_of_getElem? (i := 435) (by decide +kernel)) rfl, gw_of (List.mem_of_getElem? (i := 436) (by decide +kernel)) rfl⟩
theorem cl_X7_49 : CLv RX7 49 mX7_keptBy 2 := ⟨cb_X7_keptBy _, gw_of (List.mem_of_getElem? (i := 374) (by decide +kernel)) rfl, gw_of (List.mem_of_getElem? (i := 375) (by decide +kernel)) rfl, gw_of (List.mem_of_getElem? (i := 376) (by decide +kernel)) rfl⟩
theorem cl_X7_53 : CLs RX7 53 mJ6_bitCount_0f7a4 1 := ⟨cb_J6_bitCount_0f7a4 _, gw_of (List.mem_of_getElem? (i := 378) (by decide +kernel)) rfl, gw_of (List.mem_of_getElem? (i := 379) (by decide +kernel)) rfl⟩
theorem cl_X7_65 : CLsN RX7 65 mX8_streetBy 2 "HoundLicence" := ⟨cb_X8_streetBy _, ex_of (List.mem_of_getElem? (i := 481) (by decide +kernel)) rfl, gw_of (List.mem_of_getElem? (i := 482) (by decide +kernel)) rfl⟩
theorem cl_X7_69 : CLv RX7 69 mX2_wardenAt 1 := ⟨cb_X2_wardenAt _, gw_of (List.mem_of_getElem? (i := 502) (by decide +kernel)) rfl, gw_of (List.mem_of_getElem? (i := 426) (by decide +kernel)) rfl, gw_of (List.mem_of_getElem? (i := 427) (by decide +kernel)) rfl⟩
theorem cb_X7_isLate (own : String) : CLb own mX7_isLate 2 := ⟨gw_of (List.mem_of_getElem? (i := 505) (by decide +kernel)) rfl, gw_of (List.mem_of_getElem? (i := 52) (by decide +kernel)) rfl, by decide +kernel, by decide⟩
theorem cl_X7_72 : CLs RX7 72 mX7_isLate 2 := ⟨cb_X7_isLate _, gw_of (List.mem_of_getElem? (i := 503) (by decide +kernel)) rfl, gw_of (List.mem_of_getElem? (i := 504) (by decide +kernel)) rfl⟩
theorem cb_X7_serve (own : String) : CLb own mX7_serve 2 := ⟨gw_of (List.mem_of_getElem? (i := 510) (by decide +kernel)) rfl, gw_of (List.mem_of_getElem? (i := 52) (by decide +kernel)) rfl, by decide +kernel, by decide⟩
theorem cl_X7_76 : CLv RX7 76 mX7_serve 2 := ⟨cb_X7_serve _, gw_of (List.mem_of_getElem? (i := 507) (by decide +kernel)) rfl, gw_of (List.mem_of_getElem? (i := 509) (by decide +kernel)) rfl, gw_of (List.mem_of_getElem? (i := 10) (by decide +kernel)) rfl⟩
theorem cb_X7_mayBeCaught (own : String) : CLb own mX7_mayBeCaught 3 := ⟨gw_of (List.mem_of_getElem? (i := 515) (by decide +kernel)) rfl, gw_of (List.mem_of_getElem? (i := 52) (by decide +kernel)) rfl, by decide +kernel, by decide⟩
theorem cl_X7_80 : CLv RX7 80 mX7_mayBeCaught 3 := ⟨cb_X7_mayBeCaught _, gw_of (List.mem_of_getElem? (i := 512) (by decide +kernel)) rfl, gw_of (List.mem_of_getElem? (i := 514) (by decide +kernel)) rfl, gw_of (List.mem_of_getElem? (i := 11) (by decide +kernel)) rfl⟩
theorem cb_X7_impound (own : String) : CLb own mX7_impound 2 := ⟨gw_of (List.mem_of_getElem? (i := 521) (by decide +kernel)) rfl, gw_of (List.mem_of_getElem? (i := 52) (by decide +kernel)) rfl, by decide +kernel, by decide⟩
theorem cl_X7_84 : CLv RX7 84 mX7_impound 2 := ⟨cb_X7_impound _, gw_of (List.mem_of_getElem? (i := 518) (by decide +kernel)) rfl, gw_of (List.mem_of_getElem? (i := 520) (by decide +kernel)) rfl, gw_of (List.mem_of_getElem? (i := 12) (by decide +kernel)) rfl⟩
theorem cl_X7_87 : CLs RX7 87 mJ9_floorMod_7cf53 2 := ⟨cb_J9_floorMod_7cf53 _, gw_of (List.mem_of_getElem? (i := 506) (by decide +kernel)) rfl, gw_of (List.mem_of_getElem? (i := 349) (by decide +kernel)) rfl⟩
theorem cl_X7_92 : CLv RX7 92 mX7_isLeashed 1 := ⟨cb_X7_isLeashed _, gw_of (List.mem_of_getElem? (i := 516) (by decide +kernel)) rfl, gw_of (List.mem_of_getElem? (i := 461) (by decide +kernel)) rfl, gw_of (List.mem_of_getElem? (i := 462) (by decide +kernel)) rfl⟩
theorem cl_X7_95 : CLv RX7 95 mX2_sings 1 := ⟨cb_X2_sings _, gw_of (List.mem_of_getElem? (i := 517) (by decide +kernel)) rfl, gw_of (List.mem_of_getElem? (i := 457) (by decide +kernel)) rfl, gw_of (List.mem_of_getElem? (i := 458) (by decide +kernel)) rfl⟩
theorem cl_X7_98 : CLv RX7 98 mX2_hasDog 1 := ⟨cb_X2_hasDog _, gw_of (List.mem_of_getElem? (i := 511) (by decide +kernel)) rfl, gw_of (List.mem_of_getElem? (i := 367) (by decide +kernel)) rfl, gw_of (List.mem_of_getElem? (i := 368) (by decide +kernel)) rfl⟩
theorem cb_X8_init (own : String) : CLb own mX8_init 0 := ⟨gw_of (List.mem_of_getElem? (i := 66) (by decide +kernel)) rfl, gw_of (List.mem_of_getElem? (i := 49) (by decide +kernel)) rfl, by decide +kernel, by decide⟩
theorem cl_L_9 : CLi RL 9 mX8_init 0 := ⟨cb_X8_init _, gw_of (List.mem_of_getElem? (i := 64) (by decide +kernel)) rfl, gw_of (List.mem_of_getElem? (i := 65) (by decide +kernel)) rfl, rfl, rfl⟩
theorem cb_X9_init (own : String) : CLb own mX9_init 0 := ⟨gw_of (List.mem_of_getElem? (i := 728) (by decide +kernel)) rfl, gw_of (List.mem_of_getElem? (i := 57) (by decide +kernel)) rfl, by decide +kernel, by decide⟩
theorem cl_L_12 : CLi RL 12 mX9_init 0 := ⟨cb_X9_init _, gw_of (List.mem_of_getElem? (i := 726) (by decide +kernel)) rfl, gw_of (List.mem_of_getElem? (i := 727) (by decide +kernel)) rfl, rfl, rfl⟩
theorem cb_X8_write (own : String) : CLb own mX8_write 1 := ⟨gw_of (List.mem_of_getElem? (i := 308) (by decide +kernel)) rfl, gw_of (List.mem_of_getElem? (i := 49) (by decide +kernel)) rfl, by decide +kernel, by decide⟩
theorem cl_L_13 : CLv RL 13 mX8_write 1 := ⟨cb_X8_write _, gw_of (List.mem_of_getElem? (i := 305) (by decide +kernel)) rfl, gw_of (List.mem_of_getElem? (i := 306) (by decide +kernel)) rfl, gw_of (List.mem_of_getElem? (i := 307) (by decide +kernel)) rfl⟩
theorem cb_X9_write (own : String) : CLb own mX9_write 1 := ⟨gw_of (List.mem_of_getElem? (i := 828) (by decide +kernel)) rfl, gw_of (List.mem_of_getElem? (i := 57) (by decide +kernel)) rfl, by decide +kernel, by decide⟩
theorem cl_L_17 : CLv RL 17 mX9_write 1 := ⟨cb_X9_write _, gw_of (List.mem_of_getElem? (i := 825) (by decide +kernel)) rfl, gw_of (List.mem_of_getElem? (i := 826) (by decide +kernel)) rfl, gw_of (List.mem_of_getElem? (i := 827) (by decide +kernel)) rfl⟩
theorem cb_X8_wipe (own : String) : CLb own mX8_wipe 0 := ⟨gw_of (List.mem_of_getElem? (i := 312) (by decide +kernel)) rfl, gw_of (List.mem_of_getElem? (i := 49) (by decide +kernel)) rfl, by decide +kernel, by decide⟩
theorem cl_L_18 : CLv RL 18 mX8_wipe 0 := ⟨cb_X8_wipe _, gw_of (List.mem_of_getElem? (i := 309) (by decide +kernel)) rfl, gw_of (List.mem_of_getElem? (i := 310) (by decide +kernel)) rfl, gw_of (List.mem_of_getElem? (i := 311) (by decide +kernel)) rfl⟩
theorem cb_X9_wipe (own : String) : CLb own mX9_wipe 0 := ⟨gw_of (List.mem_of_getElem? (i := 836) (by decide +kernel)) rfl, gw_of (List.mem_of_getElem? (i := 57) (by decide +kernel)) rfl, by decide +kernel, by decide⟩
theorem cl_L_22 : CLv RL 22 mX9_wipe 0 := ⟨cb_X9_wipe _, gw_of (List.mem_of_getElem? (i := 833) (by decide +kernel)) rfl, gw_of (List.mem_of_getElem? (i := 834) (by decide +kernel)) rfl, gw_of (List.mem_of_getElem? (i := 835) (by decide +kernel)) rfl⟩
theorem cb_X8_fault (own : String) : CLb own mX8_fault 0 := ⟨gw_of (List.mem_of_getElem? (i := 316) (by decide +kernel)) rfl, gw_of (List.mem_of_getElem? (i := 49) (by decide +kernel)) rfl, by decide +kernel, by decide⟩
theorem cl_L_23 : CLv RL 23 mX8_fault 0 := ⟨cb_X8_fault _, gw_of (List.mem_of_getElem? (i := 313) (by decide +kernel)) rfl, gw_of (List.mem_of_getElem? (i := 314) (by decide +kernel)) rfl, gw_of (List.mem_of_getElem? (i := 315) (by decide +kernel)) rfl⟩
theorem cb_X9_fault (own : String) : CLb own mX9_fault 0 := ⟨gw_of (List.mem_of_getElem? (i := 840) (by decide +kernel)) rfl, gw_of (List.mem_of_getElem? (i := 57) (by decide +kernel)) rfl, by decide +kernel, by decide⟩
theorem cl_L_26 : CLv RL 26 mX9_fault 0 := ⟨cb_X9_fault _, gw_of (List.mem_of_getElem? (i := 837) (by decide +kernel)) rfl, gw_of (List.mem_of_getElem? (i := 838) (by decide +kernel)) rfl, gw_of (List.mem_of_getElem? (i := 839) (by decide +kernel)) rfl⟩
theorem cb_X8_ordain (own : String) : CLb own mX8_ordain 0 := ⟨gw_of (List.mem_of_getElem? (i := 400) (by decide +kernel)) rfl, gw_of (List.mem_of_getElem? (i := 49) (by decide +kernel)) rfl, by decide +kernel, by decide⟩
theorem cl_L_27 : CLv RL 27 mX8_ordain 0 := ⟨cb_X8_ordain _, gw_of (List.mem_of_getElem? (i := 397) (by decide +kernel)) rfl, gw_of (List.mem_of_getElem? (i := 398) (by decide +kernel)) rfl, gw_of (List.mem_of_getElem? (i := 399) (by decide +kernel)) rfl⟩
theorem cb_X9_ordain (own : String) : CLb own mX9_ordain 0 := ⟨gw_of (List.mem_of_getElem? (i := 896) (by decide +kernel)) rfl, gw_of (List.mem_of_getElem? (i := 57) (by decide +kernel)) rfl, by decide +kernel, by decide⟩
theorem cl_L_30 : CLv RL 30 mX9_ordain 0 := ⟨cb_X9_ordain _, gw_of (List.mem_of_getElem? (i := 893) (by decide +kernel)) rfl, gw_of (List.mem_of_getElem? (i := 894) (by decide +kernel)) rfl, gw_of (List.mem_of_getElem? (i := 895) (by decide +kernel)) rfl⟩
theorem cb_X8_about (own : String) : CLb own mX8_about 1 := ⟨gw_of (List.mem_of_getElem? (i := 424) (by decide +kernel)) rfl, gw_of (List.mem_of_getElem? (i := 49) (by decide +kernel)) rfl, by decide +kernel, by decide⟩
theorem cl_L_31 : CLv RL 31 mX8_about 1 := ⟨cb_X8_about _, gw_of (List.mem_of_getElem? (i := 421) (by decide +kernel)) rfl, gw_of (List.mem_of_getElem? (i := 422) (by decide +kernel)) rfl, gw_of (List.mem_of_getElem? (i := 423) (by decide +kernel)) rfl⟩
theorem cb_X9_about (own : String) : CLb own mX9_about 1 := ⟨gw_of (List.mem_of_getElem? (i := 900) (by decide +kernel)) rfl, gw_of (List.mem_of_getElem? (i := 57) (by decide +kernel)) rfl, by decide +kernel, by decide⟩
theorem cl_L_34 : CLv RL 34 mX9_about 1 := ⟨cb_X9_about _, gw_of (List.mem_of_getElem? (i := 897) (by decide +kernel)) rfl, gw_of (List.mem_of_getElem? (i := 898) (by decide +kernel)) rfl, gw_of (List.mem_of_getElem? (i := 899) (by decide +kernel)) rfl⟩
theorem cb_X8_dog (own : String) : CLb own mX8_dog 2 := ⟨gw_of (List.mem_of_getElem? (i := 445) (by decide +kernel)) rfl, gw_of (List.mem_of_getElem? (i := 49) (by decide +kernel)) rfl, by decide +kernel, by decide⟩
theorem cl_L_35 : CLv RL 35 mX8_dog 2 := ⟨cb_X8_dog _, gw_of (List.mem_of_getElem? (i := 442) (by decide +kernel)) rfl, gw_of (List.mem_of_getElem? (i := 443) (by decide +kernel)) rfl, gw_of (List.mem_of_getElem? (i := 444) (by decide +kernel)) rfl⟩
theorem cb_X9_dog (own : String) : CLb own mX9_dog 2 := ⟨gw_of (List.mem_of_getElem? (i := 911) (by decide +kernel)) rfl, gw_of (List.mem_of_getElem? (i := 57) (by decide +kernel)) rfl, by decide +kernel, by decide⟩
theorem cl_L_39 : CLv RL 39 mX9_dog 2 := ⟨cb_X9_dog _, gw_of (List.mem_of_getElem? (i := 908) (by decide +kernel)) rfl, gw_of (List.mem_of_getElem? (i := 909) (by decide +kernel)) rfl, gw_of (List.mem_of_getElem? (i := 910) (by decide +kernel)) rfl⟩
theorem cb_X8_man (own : String) : CLb own mX8_man 2 := ⟨gw_of (List.mem_of_getElem? (i := 451) (by decide +kernel)) rfl, gw_of (List.mem_of_getElem? (i := 49) (by decide +kernel)) rfl, by decide +kernel, by decide⟩
theorem cl_L_40 : CLv RL 40 mX8_man 2 := ⟨cb_X8_man _, gw_of (List.mem_of_getElem? (i := 448) (by decide +kernel)) rfl, gw_of (List.mem_of_getElem? (i := 449) (by decide +kernel)) rfl, gw_of (List.mem_of_getElem? (i := 450) (by decide +kernel)) rfl⟩
theorem cb_X9_man (own : String) : CLb own mX9_man 2 := ⟨gw_of (List.mem_of_getElem? (i := 923) (by decide +kernel)) rfl, gw_of (List.mem_of_getElem? (i := 57) (by decide +kernel)) rfl, by decide +kernel, by decide⟩
theorem cl_L_43 : CLv RL 43 mX9_man 2 := ⟨cb_X9_man _, gw_of (List.mem_of_getElem? (i := 920) (by decide +kernel)) rfl, gw_of (List.mem_of_getElem? (i := 921) (by decide +kernel)) rfl, gw_of (List.mem_of_getElem? (i := 922) (by decide +kernel)) rfl⟩
theorem cb_X8_lead (own : String) : CLb own mX8_lead 2 := ⟨gw_of (List.mem_of_getElem? (i := 467) (by decide +kernel)) rfl, gw_of (List.mem_of_getElem? (i := 49) (by decide +kernel)) rfl, by decide +kernel, by decide⟩
theorem cl_L_44 : CLv RL 44 mX8_lead 2 := ⟨cb_X8_lead _, gw_of (List.mem_of_getElem? (i := 464) (by decide +kernel)) rfl, gw_of (List.mem_of_getElem? (i := 465) (by decide +kernel)) rfl, gw_of (List.mem_of_getElem? (i := 466) (by decide +kernel)) rfl⟩
theorem cb_X9_lead (own : String) : CLb own mX9_lead 2 := ⟨gw_of (List.mem_of_getElem? (i := 931) (by decide +kernel)) rfl, gw_of (List.mem_of_getElem? (i := 57) (by decide +kernel)) rfl, by decide +kernel, by decide⟩
theorem cl_L_47 : CLv RL 47 mX9_lead 2 := ⟨cb_X9_lead _, gw_of (List.mem_of_getElem? (i := 928) (by decide +kernel)) rfl, gw_of (List.mem_of_getElem? (i := 929) (by decide +kernel)) rfl, gw_of (List.mem_of_getElem? (i := 930) (by decide +kernel)) rfl⟩
theorem cb_X8_leash (own : String) : CLb own mX8_leash 1 := ⟨gw_of (List.mem_of_getElem? (i := 487) (by decide +kernel)) rfl, gw_of (List.mem_of_getElem? (i := 49) (by decide +kernel)) rfl, by decide +kernel, by decide⟩
theorem cl_L_48 : CLv RL 48 mX8_leash 1 := ⟨cb_X8_leash _, gw_of (List.mem_of_getElem? (i := 484) (by decide +kernel)) rfl, gw_of (List.mem_of_getElem? (i := 485) (by decide +kernel)) rfl, gw_of (List.mem_of_getElem? (i := 486) (by decide +kernel)) rfl⟩
theorem cb_X9_leash (own : String) : CLb own mX9_leash 1 := ⟨gw_of (List.mem_of_getElem? (i := 944) (by decide +kernel)) rfl, gw_of (List.mem_of_getElem? (i := 57) (by decide +kernel)) rfl, by decide +kernel, by decide⟩
theorem cl_L_51 : CLv RL 51 mX9_leash 1 := ⟨cb_X9_leash _, gw_of (List.mem_of_getElem? (i := 941) (by decide +kernel)) rfl, gw_of (List.mem_of_getElem? (i := 942) (by decide +kernel)) rfl, gw_of (List.mem_of_getElem? (i := 943) (by decide +kernel)) rfl⟩
theorem cb_X8_give (own : String) : CLb own mX8_give 2 := ⟨gw_of (List.mem_of_getElem? (i := 492) (by decide +kernel)) rfl, gw_of (List.mem_of_getElem? (i := 49) (by decide +kernel)) rfl, by decide +kernel, by decide⟩
theorem cl_L_52 : CLv RL 52 mX8_give 2 := ⟨cb_X8_give _, gw_of (List.mem_of_getElem? (i := 489) (by decide +kernel)) rfl, gw_of (List.mem_of_getElem? (i := 490) (by decide +kernel)) rfl, gw_of (List.mem_of_getElem? (i := 491) (by decide +kernel)) rfl⟩
theorem cb_X9_give (own : String) : CLb own mX9_give 2 := ⟨gw_of (List.mem_of_getElem? (i := 948) (by decide +kernel)) rfl, gw_of (List.mem_of_getElem? (i := 57) (by decide +kernel)) rfl, by decide +kernel, by decide⟩
theorem cl_L_55 : CLv RL 55 mX9_give 2 := ⟨cb_X9_give _, gw_of (List.mem_of_getElem? (i := 945) (by decide +kernel)) rfl, gw_of (List.mem_of_getElem? (i := 946) (by decide +kernel)) rfl, gw_of (List.mem_of_getElem? (i := 947) (by decide +kernel)) rfl⟩
theorem cb_X8_hour (own : String) : CLb own mX8_hour 0 := ⟨gw_of (List.mem_of_getElem? (i := 497) (by decide +kernel)) rfl, gw_of (List.mem_of_getElem? (i := 49) (by decide +kernel)) rfl, by decide +kernel, by decide⟩
theorem cl_L_56 : CLv RL 56 mX8_hour 0 := ⟨cb_X8_hour _, gw_of (List.mem_of_getElem? (i := 494) (by decide +kernel)) rfl, gw_of (List.mem_of_getElem? (i := 495) (by decide +kernel)) rfl, gw_of (List.mem_of_getElem? (i := 496) (by decide +kernel)) rfl⟩
theorem cb_X9_hour (own : String) : CLb own mX9_hour 0 := ⟨gw_of (List.mem_of_getElem? (i := 955) (by decide +kernel)) rfl, gw_of (List.mem_of_getElem? (i := 57) (by decide +kernel)) rfl, by decide +kernel, by decide⟩
theorem cl_L_59 : CLv RL 59 mX9_hour 0 := ⟨cb_X9_hour _, gw_of (List.mem_of_getElem? (i := 952) (by decide +kernel)) rfl, gw_of (List.mem_of_getElem? (i := 953) (by decide +kernel)) rfl, gw_of (List.mem_of_getElem? (i := 954) (by decide +kernel)) rfl⟩
theorem cb_X8_undo (own : String) : CLb own mX8_undo 0 := ⟨gw_of (List.mem_of_getElem? (i := 525) (by decide +kernel)) rfl, gw_of (List.mem_of_getElem? (i := 49) (by decide +kernel)) rfl, by decide +kernel, by decide⟩
theorem cl_L_60 : CLv RL 60 mX8_undo 0 := ⟨cb_X8_undo _, gw_of (List.mem_of_getElem? (i := 522) (by decide +kernel)) rfl, gw_of (List.mem_of_getElem? (i := 523) (by decide +kernel)) rfl, gw_of (List.mem_of_getElem? (i := 524) (by decide +kernel)) rfl⟩
theorem cb_X9_undo (own : String) : CLb own mX9_undo 0 := ⟨gw_of (List.mem_of_getElem? (i := 963) (by decide +kernel)) rfl, gw_of (List.mem_of_getElem? (i := 57) (by decide +kernel)) rfl, by decide +kernel, by decide⟩
theorem cl_L_63 : CLv RL 63 mX9_undo 0 := ⟨cb_X9_undo _, gw_of (List.mem_of_getElem? (i := 960) (by decide +kernel)) rfl, gw_of (List.mem_of_getElem? (i := 961) (by decide +kernel)) rfl, gw_of (List.mem_of_getElem? (i := 962) (by decide +kernel)) rfl⟩
theorem cb_X8_caught (own : String) : CLb own mX8_caught 1 := ⟨gw_of (List.mem_of_getElem? (i := 533) (by decide +kernel)) rfl, gw_of (List.mem_of_getElem? (i := 49) (by decide +kernel)) rfl, by decide +kernel, by decide⟩
theorem cl_L_64 : CLv RL 64 mX8_caught 1 := ⟨cb_X8_caught _, gw_of (List.mem_of_getElem? (i := 530) (by decide +kernel)) rfl, gw_of (List.mem_of_getElem? (i := 531) (by decide +kernel)) rfl, gw_of (List.mem_of_getElem? (i := 532) (by decide +kernel)) rfl⟩
theorem cb_X9_caught (own : String) : CLb own mX9_caught 1 := ⟨gw_of (List.mem_of_getElem? (i := 967) (by decide +kernel)) rfl, gw_of (List.mem_of_getElem? (i := 57) (by decide +kernel)) rfl, by decide +kernel, by decide⟩
theorem cl_L_67 : CLv RL 67 mX9_caught 1 := ⟨cb_X9_caught _, gw_of (List.mem_of_getElem? (i := 964) (by decide +kernel)) rfl, gw_of (List.mem_of_getElem? (i := 965) (by decide +kernel)) rfl, gw_of (List.mem_of_getElem? (i := 966) (by decide +kernel)) rfl⟩
theorem cb_X8_routes (own : String) : CLb own mX8_routes 4 := ⟨gw_of (List.mem_of_getElem? (i := 541) (by decide +kernel)) rfl, gw_of (List.mem_of_getElem? (i := 49) (by decide +kernel)) rfl, by decide +kernel, by decide⟩
theorem cl_L_68 : CLv RL 68 mX8_routes 4 := ⟨cb_X8_routes _, gw_of (List.mem_of_getElem? (i := 538) (by decide +kernel)) rfl, gw_of (List.mem_of_getElem? (i := 539) (by decide +kernel)) rfl, gw_of (List.mem_of_getElem? (i := 540) (by decide +kernel)) rfl⟩
theorem cb_X9_routes (own : String) : CLb own mX9_routes 4 := ⟨gw_of (List.mem_of_getElem? (i := 976) (by decide +kernel)) rfl, gw_of (List.mem_of_getElem? (i := 57) (by decide +kernel)) rfl, by decide +kernel, by decide⟩
theorem cl_L_72 : CLv RL 72 mX9_routes 4 := ⟨cb_X9_routes _, gw_of (List.mem_of_getElem? (i := 973) (by decide +kernel)) rfl, gw_of (List.mem_of_getElem? (i := 974) (by decide +kernel)) rfl, gw_of (List.mem_of_getElem? (i := 975) (by decide +kernel)) rfl⟩
theorem cb_X8_aired (own : String) : CLb own mX8_aired 1 := ⟨gw_of (List.mem_of_getElem? (i := 574) (by decide +kernel)) rfl, gw_of (List.mem_of_getElem? (i := 49) (by decide +kernel)) rfl, by decide +kernel, by decide⟩
theorem cl_L_73 : CLv RL 73 mX8_aired 1 := ⟨cb_X8_aired _, gw_of (List.mem_of_getElem? (i := 571) (by decide +kernel)) rfl, gw_of (List.mem_of_getElem? (i := 572) (by decide +kernel)) rfl, gw_of (List.mem_of_getElem? (i := 573) (by decide +kernel)) rfl⟩
theorem cb_X9_aired (own : String) : CLb own mX9_aired 1 := ⟨gw_of (List.mem_of_getElem? (i := 993) (by decide +kernel)) rfl, gw_of (List.mem_of_getElem? (i := 57) (by decide +kernel)) rfl, by decide +kernel, by decide⟩
theorem cl_L_76 : CLv RL 76 mX9_aired 1 := ⟨cb_X9_aired _, gw_of (List.mem_of_getElem? (i := 990) (by decide +kernel)) rfl, gw_of (List.mem_of_getElem? (i := 991) (by decide +kernel)) rfl, gw_of (List.mem_of_getElem? (i := 992) (by decide +kernel)) rfl⟩
theorem cb_X8_heir (own : String) : CLb own mX8_heir 1 := ⟨gw_of (List.mem_of_getElem? (i := 605) (by decide +kernel)) rfl, gw_of (List.mem_of_getElem? (i := 49) (by decide +kernel)) rfl, by decide +kernel, by decide⟩
theorem cl_L_77 : CLv RL 77 mX8_heir 1 := ⟨cb_X8_heir _, gw_of (List.mem_of_getElem? (i := 602) (by decide +kernel)) rfl, gw_of (List.mem_of_getElem? (i := 603) (by decide +kernel)) rfl, gw_of (List.mem_of_getElem? (i := 604) (by decide +kernel)) rfl⟩
theorem cb_X9_heir (own : String) : CLb own mX9_heir 1 := ⟨gw_of (List.mem_of_getElem? (i := 1001) (by decide +kernel)) rfl, gw_of (List.mem_of_getElem? (i := 57) (by decide +kernel)) rfl, by decide +kernel, by decide⟩
theorem cl_L_80 : CLv RL 80 mX9_heir 1 := ⟨cb_X9_heir _, gw_of (List.mem_of_getElem? (i := 998) (by decide +kernel)) rfl, gw_of (List.mem_of_getElem? (i := 999) (by decide +kernel)) rfl, gw_of (List.mem_of_getElem? (i := 1000) (by decide +kernel)) rfl⟩
theorem cb_X8_pays (own : String) : CLb own mX8_pays 2 := ⟨gw_of (List.mem_of_getElem? (i := 618) (by decide +kernel)) rfl, gw_of (List.mem_of_getElem? (i := 49) (by decide +kernel)) rfl, by decide +kernel, by decide⟩
theorem cl_L_81 : CLv RL 81 mX8_pays 2 := ⟨cb_X8_pays _, gw_of (List.mem_of_getElem? (i := 615) (by decide +kernel)) rfl, gw_of (List.mem_of_getElem? (i := 616) (by decide +kernel)) rfl, gw_of (List.mem_of_getElem? (i := 617) (by decide +kernel)) rfl⟩
theorem cb_X9_pays (own : String) : CLb own mX9_pays 2 := ⟨gw_of (List.mem_of_getElem? (i := 1005) (by decide +kernel)) rfl, gw_of (List.mem_of_getElem? (i := 57) (by decide +kernel)) rfl, by decide +kernel, by decide⟩
theorem cl_L_84 : CLv RL 84 mX9_pays 2 := ⟨cb_X9_pays _, gw_of (List.mem_of_getElem? (i := 1002) (by decide +kernel)) rfl, gw_of (List.mem_of_getElem? (i := 1003) (by decide +kernel)) rfl, gw_of (List.mem_of_getElem? (i := 1004) (by decide +kernel)) rfl⟩
theorem cb_X8_spans (own : String) : CLb own mX8_spans 3 := ⟨gw_of (List.mem_of_getElem? (i := 622) (by decide +kernel)) rfl, gw_of (List.mem_of_getElem? (i := 49) (by decide +kernel)) rfl, by decide +kernel, by decide⟩
theorem cl_L_85 : CLv RL 85 mX8_spans 3 := ⟨cb_X8_spans _, gw_of (List.mem_of_getElem? (i := 619) (by decide +kernel)) rfl, gw_of (List.mem_of_getElem? (i := 620) (by decide +kernel)) rfl, gw_of (List.mem_of_getElem? (i := 621) (by decide +kernel)) rfl⟩
theorem cb_X9_spans (own : String) : CLb own mX9_spans 3 := ⟨gw_of (List.mem_of_getElem? (i := 1010) (by decide +kernel)) rfl, gw_of (List.mem_of_getElem? (i := 57) (by decide +kernel)) rfl, by decide +kernel, by decide⟩
theorem cl_L_89 : CLv RL 89 mX9_spans 3 := ⟨cb_X9_spans _, gw_of (List.mem_of_getElem? (i := 1007) (by decide +kernel)) rfl, gw_of (List.mem_of_getElem? (i := 1008) (by decide +kernel)) rfl, gw_of (List.mem_of_getElem? (i := 1009) (by decide +kernel)) rfl⟩
theorem cb_X8_see (own : String) : CLb own mX8_see 3 := ⟨gw_of (List.mem_of_getElem? (i := 626) (by decide +kernel)) rfl, gw_of (List.mem_of_getElem? (i := 49) (by decide +kernel)) rfl, by decide +kernel, by decide⟩
theorem cl_L_90 : CLv RL 90 mX8_see 3 := ⟨cb_X8_see _, gw_of (List.mem_of_getElem? (i := 623) (by decide +kernel)) rfl, gw_of (List.mem_of_getElem? (i := 624) (by decide +kernel)) rfl, gw_of (List.mem_of_getElem? (i := 625) (by decide +kernel)) rfl⟩
theorem cb_X9_see (own : String) : CLb own mX9_see 3 := ⟨gw_of (List.mem_of_getElem? (i := 1015) (by decide +kernel)) rfl, gw_of (List.mem_of_getElem? (i := 57) (by decide +kernel)) rfl, by decide +kernel, by decide⟩
theorem cl_L_93 : CLv RL 93 mX9_see 3 := ⟨cb_X9_see _, gw_of (List.mem_of_getElem? (i := 1012) (by decide +kernel)) rfl, gw_of (List.mem_of_getElem? (i := 1013) (by decide +kernel)) rfl, gw_of (List.mem_of_getElem? (i := 1014) (by decide +kernel)) rfl⟩
theorem cb_X8_unsee (own : String) : CLb own mX8_unsee 0 := ⟨gw_of (List.mem_of_getElem? (i := 634) (by decide +kernel)) rfl, gw_of (List.mem_of_getElem? (i := 49) (by decide +kernel)) rfl, by decide +kernel, by decide⟩
theorem cl_L_94 : CLv RL 94 mX8_unsee 0 := ⟨cb_X8_unsee _, gw_of (List.mem_of_getElem? (i := 631) (by decide +kernel)) rfl, gw_of (List.mem_of_getElem? (i := 632) (by decide +kernel)) rfl, gw_of (List.mem_of_getElem? (i := 633) (by decide +kernel)) rfl⟩
theorem cb_X9_unsee (own : String) : CLb own mX9_unsee 0 := ⟨gw_of (List.mem_of_getElem? (i := 1020) (by decide +kernel)) rfl, gw_of (List.mem_of_getElem? (i := 57) (by decide +kernel)) rfl, by decide +kernel, by decide⟩
theorem cl_L_97 : CLv RL 97 mX9_unsee 0 := ⟨cb_X9_unsee _, gw_of (List.mem_of_getElem? (i := 1017) (by decide +kernel)) rfl, gw_of (List.mem_of_getElem? (i := 1018) (by decide +kernel)) rfl, gw_of (List.mem_of_getElem? (i := 1019) (by decide +kernel)) rfl⟩
theorem cb_X8_walks (own : String) : CLb own mX8_walks 0 := ⟨gw_of (List.mem_of_getElem? (i := 638) (by decide +kernel)) rfl, gw_of (List.mem_of_getElem? (i := 49) (by decide +kernel)) rfl, by decide +kernel, by decide⟩
theorem cl_L_98 : CLv RL 98 mX8_walks 0 := ⟨cb_X8_walks _, gw_of (List.mem_of_getElem? (i := 635) (by decide +kernel)) rfl, gw_of (List.mem_of_getElem? (i := 636) (by decide +kernel)) rfl, gw_of (List.mem_of_getElem? (i := 637) (by decide +kernel)) rfl⟩
theorem cb_X9_walks (own : String) : CLb own mX9_walks 0 := ⟨gw_of (List.mem_of_getElem? (i := 1024) (by decide +kernel)) rfl, gw_of (List.mem_of_getElem? (i := 57) (by decide +kernel)) rfl, by decide +kernel, by decide⟩
theorem cl_L_101 : CLv RL 101 mX9_walks 0 := ⟨cb_X9_walks _, gw_of (List.mem_of_getElem? (i := 1021) (by decide +kernel)) rfl, gw_of (List.mem_of_getElem? (i := 1022) (by decide +kernel)) rfl, gw_of (List.mem_of_getElem? (i := 1023) (by decide +kernel)) rfl⟩
theorem cb_X8_sure (own : String) : CLb own mX8_sure 1 := ⟨gw_of (List.mem_of_getElem? (i := 664) (by decide +kernel)) rfl, gw_of (List.mem_of_getElem? (i := 49) (by decide +kernel)) rfl, by decide +kernel, by decide⟩
theorem cl_L_102 : CLv RL 102 mX8_sure 1 := ⟨cb_X8_sure _, gw_of (List.mem_of_getElem? (i := 661) (by decide +kernel)) rfl, gw_of (List.mem_of_getElem? (i := 662) (by decide +kernel)) rfl, gw_of (List.mem_of_getElem? (i := 663) (by decide +kernel)) rfl⟩
theorem cb_X9_sure (own : String) : CLb own mX9_sure 1 := ⟨gw_of (List.mem_of_getElem? (i := 1040) (by decide +kernel)) rfl, gw_of (List.mem_of_getElem? (i := 57) (by decide +kernel)) rfl, by decide +kernel, by decide⟩
theorem cl_L_105 : CLv RL 105 mX9_sure 1 := ⟨cb_X9_sure _, gw_of (List.mem_of_getElem? (i := 1037) (by decide +kernel)) rfl, gw_of (List.mem_of_getElem? (i := 1038) (by decide +kernel)) rfl, gw_of (List.mem_of_getElem? (i := 1039) (by decide +kernel)) rfl⟩
theorem cb_X8_rests (own : String) : CLb own mX8_rests 2 := ⟨gw_of (List.mem_of_getElem? (i := 673) (by decide +kernel)) rfl, gw_of (List.mem_of_getElem? (i := 49) (by decide +kernel)) rfl, by decide +kernel, by decide⟩
theorem cl_L_106 : CLv RL 106 mX8_rests 2 := ⟨cb_X8_rests _, gw_of (List.mem_of_getElem? (i := 670) (by decide +kernel)) rfl, gw_of (List.mem_of_getElem? (i := 671) (by decide +kernel)) rfl, gw_of (List.mem_of_getElem? (i := 672) (by decide +kernel)) rfl⟩
theorem cb_X9_rests (own : String) : CLb own mX9_rests 2 := ⟨gw_of (List.mem_of_getElem? (i := 1044) (by decide +kernel)) rfl, gw_of (List.mem_of_getElem? (i := 57) (by decide +kernel)) rfl, by decide +kernel, by decide⟩
theorem cl_L_109 : CLv RL 109 mX9_rests 2 := ⟨cb_X9_rests _, gw_of (List.mem_of_getElem? (i := 1041) (by decide +kernel)) rfl, gw_of (List.mem_of_getElem? (i := 1042) (by decide +kernel)) rfl, gw_of (List.mem_of_getElem? (i := 1043) (by decide +kernel)) rfl⟩
theorem cb_X8_chance (own : String) : CLb own mX8_chance 3 := ⟨gw_of (List.mem_of_getElem? (i := 690) (by decide +kernel)) rfl, gw_of (List.mem_of_getElem? (i := 49) (by decide +kernel)) rfl, by decide +kernel, by decide⟩
theorem cl_L_110 : CLv RL 110 mX8_chance 3 := ⟨cb_X8_chance _, gw_of (List.mem_of_getElem? (i := 687) (by decide +kernel)) rfl, gw_of (List.mem_of_getElem? (i := 688) (by decide +kernel)) rfl, gw_of (List.mem_of_getElem? (i := 689) (by decide +kernel)) rfl⟩
theorem cb_X9_chance (own : String) : CLb own mX9_chance 3 := ⟨gw_of (List.mem_of_getElem? (i := 1052) (by decide +kernel)) rfl, gw_of (List.mem_of_getElem? (i := 57) (by decide +kernel)) rfl, by decide +kernel, by decide⟩
theorem cl_L_114 : CLv RL 114 mX9_chance 3 := ⟨cb_X9_chance _, gw_of (List.mem_of_getElem? (i := 1049) (by decide +kernel)) rfl, gw_of (List.mem_of_getElem? (i := 1050) (by decide +kernel)) rfl, gw_of (List.mem_of_getElem? (i := 1051) (by decide +kernel)) rfl⟩
theorem cb_X8_seed (own : String) : CLb own mX8_seed 1 := ⟨gw_of (List.mem_of_getElem? (i := 694) (by decide +kernel)) rfl, gw_of (List.mem_of_getElem? (i := 49) (by decide +kernel)) rfl, by decide +kernel, by decide⟩
theorem cl_L_117 : CLv RL 117 mX8_seed 1 := ⟨cb_X8_seed _, gw_of (List.mem_of_getElem? (i := 691) (by decide +kernel)) rfl, gw_of (List.mem_of_getElem? (i := 692) (by decide +kernel)) rfl, gw_of (List.mem_of_getElem? (i := 693) (by decide +kernel)) rfl⟩
theorem cb_X9_seed (own : String) : CLb own mX9_seed 1 := ⟨gw_of (List.mem_of_getElem? (i := 1056) (by decide +kernel)) rfl, gw_of (List.mem_of_getElem? (i := 57) (by decide +kernel)) rfl, by decide +kernel, by decide⟩
theorem cl_L_121 : CLv RL 121 mX9_seed 1 := ⟨cb_X9_seed _, gw_of (List.mem_of_getElem? (i := 1053) (by decide +kernel)) rfl, gw_of (List.mem_of_getElem? (i := 1054) (by decide +kernel)) rfl, gw_of (List.mem_of_getElem? (i := 1055) (by decide +kernel)) rfl⟩
theorem cb_X8_days (own : String) : CLb own mX8_days 1 := ⟨gw_of (List.mem_of_getElem? (i := 698) (by decide +kernel)) rfl, gw_of (List.mem_of_getElem? (i := 49) (by decide +kernel)) rfl, by decide +kernel, by decide⟩
theorem cl_L_122 : CLv RL 122 mX8_days 1 := ⟨cb_X8_days _, gw_of (List.mem_of_getElem? (i := 695) (by decide +kernel)) rfl, gw_of (List.mem_of_getElem? (i := 696) (by decide +kernel)) rfl, gw_of (List.mem_of_getElem? (i := 697) (by decide +kernel)) rfl⟩
theorem cb_X9_days (own : String) : CLb own mX9_days 1 := ⟨gw_of (List.mem_of_getElem? (i := 1060) (by decide +kernel)) rfl, gw_of (List.mem_of_getElem? (i := 57) (by decide +kernel)) rfl, by decide +kernel, by decide⟩
theorem cl_L_125 : CLv RL 125 mX9_days 1 := ⟨cb_X9_days _, gw_of (List.mem_of_getElem? (i := 1057) (by decide +kernel)) rfl, gw_of (List.mem_of_getElem? (i := 1058) (by decide +kernel)) rfl, gw_of (List.mem_of_getElem? (i := 1059) (by decide +kernel)) rfl⟩
theorem cb_X8_keep (own : String) : CLb own mX8_keep 1 := ⟨gw_of (List.mem_of_getElem? (i := 706) (by decide +kernel)) rfl, gw_of (List.mem_of_getElem? (i := 49) (by decide +kernel)) rfl, by decide +kernel, by decide⟩
theorem cl_L_126 : CLv RL 126 mX8_keep 1 := ⟨cb_X8_keep _, gw_of (List.mem_of_getElem? (i := 703) (by decide +kernel)) rfl, gw_of (List.mem_of_getElem? (i := 704) (by decide +kernel)) rfl, gw_of (List.mem_of_getElem? (i := 705) (by decide +kernel)) rfl⟩
theorem cb_X9_keep (own : String) : CLb own mX9_keep 1 := ⟨gw_of (List.mem_of_getElem? (i := 1067) (by decide +kernel)) rfl, gw_of (List.mem_of_getElem? (i := 57) (by decide +kernel)) rfl, by decide +kernel, by decide⟩
theorem cl_L_129 : CLv RL 129 mX9_keep 1 := ⟨cb_X9_keep _, gw_of (List.mem_of_getElem? (i := 1064) (by decide +kernel)) rfl, gw_of (List.mem_of_getElem? (i := 1065) (by decide +kernel)) rfl, gw_of (List.mem_of_getElem? (i := 1066) (by decide +kernel)) rfl⟩
theorem cb_X8_again (own : String) : CLb own mX8_again 1 := ⟨gw_of (List.mem_of_getElem? (i := 715) (by decide +kernel)) rfl, gw_of (List.mem_of_getElem? (i := 49) (by decide +kernel)) rfl, by decide +kernel, by decide⟩
theorem cl_L_130 : CLv RL 130 mX8_again 1 := ⟨cb_X8_again _, gw_of (List.mem_of_getElem? (i := 712) (by decide +kernel)) rfl, gw_of (List.mem_of_getElem? (i := 713) (by decide +kernel)) rfl, gw_of (List.mem_of_getElem? (i := 714) (by decide +kernel)) rfl⟩
theorem cb_X9_again (own : String) : CLb own mX9_again 1 := ⟨gw_of (List.mem_of_getElem? (i := 1071) (by decide +kernel)) rfl, gw_of (List.mem_of_getElem? (i := 57) (by decide +kernel)) rfl, by decide +kernel, by decide⟩
theorem cl_L_133 : CLv RL 133 mX9_again 1 := ⟨cb_X9_again _, gw_of (List.mem_of_getElem? (i := 1068) (by decide +kernel)) rfl, gw_of (List.mem_of_getElem? (i := 1069) (by decide +kernel)) rfl, gw_of (List.mem_of_getElem? (i := 1070) (by decide +kernel)) rfl⟩
theorem oi_X9_1 : Cond.methodLink RX9 1 objectInit ∈ gw := gw_of (List.mem_of_getElem? (i := 729) (by decide +kernel)) rfl
theorem cb_X9_in (own : String) : CLb own mX9_in 3 := ⟨gw_of (List.mem_of_getElem? (i := 832) (by decide +kernel)) rfl, gw_of (List.mem_of_getElem? (i := 57) (by decide +kernel)) rfl, by decide +kernel, by decide⟩
theorem cl_X9_72 : CLs RX9 72 mX9_in 3 := ⟨cb_X9_in _, gw_of (List.mem_of_getElem? (i := 830) (by decide +kernel)) rfl, gw_of (List.mem_of_getElem? (i := 831) (by decide +kernel)) rfl⟩
theorem cb_X9_has (own : String) : CLb own mX9_has 2 := ⟨gw_of (List.mem_of_getElem? (i := 876) (by decide +kernel)) rfl, gw_of (List.mem_of_getElem? (i := 57) (by decide +kernel)) rfl, by decide +kernel, by decide⟩
theorem cl_X9_89 : CLs RX9 89 mX9_has 2 := ⟨cb_X9_has _, gw_of (List.mem_of_getElem? (i := 874) (by decide +kernel)) rfl, gw_of (List.mem_of_getElem? (i := 875) (by decide +kernel)) rfl⟩
theorem cb_X9_figure (own : String) : CLb own mX9_figure 2 := ⟨gw_of (List.mem_of_getElem? (i := 852) (by decide +kernel)) rfl, gw_of (List.mem_of_getElem? (i := 57) (by decide +kernel)) rfl, by decide +kernel, by decide⟩
theorem cl_X9_93 : CLv RX9 93 mX9_figure 2 := ⟨cb_X9_figure _, gw_of (List.mem_of_getElem? (i := 849) (by decide +kernel)) rfl, gw_of (List.mem_of_getElem? (i := 851) (by decide +kernel)) rfl, gw_of (List.mem_of_getElem? (i := 24) (by decide +kernel)) rfl⟩
theorem cb_X9_rooms (own : String) : CLb own mX9_rooms 0 := ⟨gw_of (List.mem_of_getElem? (i := 868) (by decide +kernel)) rfl, gw_of (List.mem_of_getElem? (i := 57) (by decide +kernel)) rfl, by decide +kernel, by decide⟩
theorem cl_X9_106 : CLv RX9 106 mX9_rooms 0 := ⟨cb_X9_rooms _, gw_of (List.mem_of_getElem? (i := 865) (by decide +kernel)) rfl, gw_of (List.mem_of_getElem? (i := 867) (by decide +kernel)) rfl, gw_of (List.mem_of_getElem? (i := 28) (by decide +kernel)) rfl⟩
theorem cb_X9_one (own : String) : CLb own mX9_one 1 := ⟨gw_of (List.mem_of_getElem? (i := 872) (by decide +kernel)) rfl, gw_of (List.mem_of_getElem? (i := 57) (by decide +kernel)) rfl, by decide +kernel, by decide⟩
theorem cl_X9_110 : CLv RX9 110 mX9_one 1 := ⟨cb_X9_one _, gw_of (List.mem_of_getElem? (i := 869) (by decide +kernel)) rfl, gw_of (List.mem_of_getElem? (i := 871) (by decide +kernel)) rfl, gw_of (List.mem_of_getElem? (i := 29) (by decide +kernel)) rfl⟩
theorem cb_X9_comes (own : String) : CLb own mX9_comes 2 := ⟨gw_of (List.mem_of_getElem? (i := 888) (by decide +kernel)) rfl, gw_of (List.mem_of_getElem? (i := 57) (by decide +kernel)) rfl, by decide +kernel, by decide⟩
theorem cl_X9_114 : CLv RX9 114 mX9_comes 2 := ⟨cb_X9_comes _, gw_of (List.mem_of_getElem? (i := 885) (by decide +kernel)) rfl, gw_of (List.mem_of_getElem? (i := 887) (by decide +kernel)) rfl, gw_of (List.mem_of_getElem? (i := 32) (by decide +kernel)) rfl⟩
theorem cb_X9_young (own : String) : CLb own mX9_young 1 := ⟨gw_of (List.mem_of_getElem? (i := 884) (by decide +kernel)) rfl, gw_of (List.mem_of_getElem? (i := 57) (by decide +kernel)) rfl, by decide +kernel, by decide⟩
theorem cl_X9_117 : CLv RX9 117 mX9_young 1 := ⟨cb_X9_young _, gw_of (List.mem_of_getElem? (i := 881) (by decide +kernel)) rfl, gw_of (List.mem_of_getElem? (i := 883) (by decide +kernel)) rfl, gw_of (List.mem_of_getElem? (i := 31) (by decide +kernel)) rfl⟩
theorem cb_X9_parents (own : String) : CLb own mX9_parents 0 := ⟨gw_of (List.mem_of_getElem? (i := 880) (by decide +kernel)) rfl, gw_of (List.mem_of_getElem? (i := 57) (by decide +kernel)) rfl, by decide +kernel, by decide⟩
theorem cl_X9_120 : CLv RX9 120 mX9_parents 0 := ⟨cb_X9_parents _, gw_of (List.mem_of_getElem? (i := 877) (by decide +kernel)) rfl, gw_of (List.mem_of_getElem? (i := 879) (by decide +kernel)) rfl, gw_of (List.mem_of_getElem? (i := 30) (by decide +kernel)) rfl⟩
theorem cb_X9_readDog (own : String) : CLb own mX9_readDog 0 := ⟨gw_of (List.mem_of_getElem? (i := 860) (by decide +kernel)) rfl, gw_of (List.mem_of_getElem? (i := 57) (by decide +kernel)) rfl, by decide +kernel, by decide⟩
theorem cl_X9_123 : CLv RX9 123 mX9_readDog 0 := ⟨cb_X9_readDog _, gw_of (List.mem_of_getElem? (i := 857) (by decide +kernel)) rfl, gw_of (List.mem_of_getElem? (i := 859) (by decide +kernel)) rfl, gw_of (List.mem_of_getElem? (i := 26) (by decide +kernel)) rfl⟩
theorem cb_X9_readMan (own : String) : CLb own mX9_readMan 0 := ⟨gw_of (List.mem_of_getElem? (i := 864) (by decide +kernel)) rfl, gw_of (List.mem_of_getElem? (i := 57) (by decide +kernel)) rfl, by decide +kernel, by decide⟩
theorem cl_X9_126 : CLv RX9 126 mX9_readMan 0 := ⟨cb_X9_readMan _, gw_of (List.mem_of_getElem? (i := 861) (by decide +kernel)) rfl, gw_of (List.mem_of_getElem? (i := 863) (by decide +kernel)) rfl, gw_of (List.mem_of_getElem? (i := 27) (by decide +kernel)) rfl⟩
theorem cb_X9_readParent (own : String) : CLb own mX9_readParent 0 := ⟨gw_of (List.mem_of_getElem? (i := 892) (by decide +kernel)) rfl, gw_of (List.mem_of_getElem? (i := 57) (by decide +kernel)) rfl, by decide +kernel, by decide⟩
theorem cl_X9_128 : CLv RX9 128 mX9_readParent 0 := ⟨cb_X9_readParent _, gw_of (List.mem_of_getElem? (i := 889) (by decide +kernel)) rfl, gw_of (List.mem_of_getElem? (i := 891) (by decide +kernel)) rfl, gw_of (List.mem_of_getElem? (i := 33) (by decide +kernel)) rfl⟩
theorem cb_X9_readHead (own : String) : CLb own mX9_readHead 0 := ⟨gw_of (List.mem_of_getElem? (i := 848) (by decide +kernel)) rfl, gw_of (List.mem_of_getElem? (i := 57) (by decide +kernel)) rfl, by decide +kernel, by decide⟩
theorem cl_X9_131 : CLv RX9 131 mX9_readHead 0 := ⟨cb_X9_readHead _, gw_of (List.mem_of_getElem? (i := 845) (by decide +kernel)) rfl, gw_of (List.mem_of_getElem? (i := 847) (by decide +kernel)) rfl, gw_of (List.mem_of_getElem? (i := 23) (by decide +kernel)) rfl⟩
theorem cb_X9_readPart (own : String) : CLb own mX9_readPart 0 := ⟨gw_of (List.mem_of_getElem? (i := 856) (by decide +kernel)) rfl, gw_of (List.mem_of_getElem? (i := 57) (by decide +kernel)) rfl, by decide +kernel, by decide⟩
theorem cl_X9_134 : CLv RX9 134 mX9_readPart 0 := ⟨cb_X9_readPart _, gw_of (List.mem_of_getElem? (i := 853) (by decide +kernel)) rfl, gw_of (List.mem_of_getElem? (i := 855) (by decide +kernel)) rfl, gw_of (List.mem_of_getElem? (i := 25) (by decide +kernel)) rfl⟩
theorem cb_X9_readLaw (own : String) : CLb own mX9_readLaw 0 := ⟨gw_of (List.mem_of_getElem? (i := 844) (by decide +kernel)) rfl, gw_of (List.mem_of_getElem? (i := 57) (by decide +kernel)) rfl, by decide +kernel, by decide⟩
theorem cl_X9_137 : CLv RX9 137 mX9_readLaw 0 := ⟨cb_X9_readLaw _, gw_of (List.mem_of_getElem? (i := 841) (by decide +kernel)) rfl, gw_of (List.mem_of_getElem? (i := 843) (by decide +kernel)) rfl, gw_of (List.mem_of_getElem? (i := 22) (by decide +kernel)) rfl⟩
theorem cb_X9_impounded (own : String) : CLb own mX9_impounded 0 := ⟨gw_of (List.mem_of_getElem? (i := 904) (by decide +kernel)) rfl, gw_of (List.mem_of_getElem? (i := 57) (by decide +kernel)) rfl, by decide +kernel, by decide⟩
theorem cl_X9_143 : CLv RX9 143 mX9_impounded 0 := ⟨cb_X9_impounded _, gw_of (List.mem_of_getElem? (i := 901) (by decide +kernel)) rfl, gw_of (List.mem_of_getElem? (i := 903) (by decide +kernel)) rfl, gw_of (List.mem_of_getElem? (i := 34) (by decide +kernel)) rfl⟩
theorem cb_X9_bonesOf (own : String) : CLb own mX9_bonesOf 1 := ⟨gw_of (List.mem_of_getElem? (i := 907) (by decide +kernel)) rfl, gw_of (List.mem_of_getElem? (i := 57) (by decide +kernel)) rfl, by decide +kernel, by decide⟩
theorem cl_X9_146 : CLs RX9 146 mX9_bonesOf 1 := ⟨cb_X9_bonesOf _, gw_of (List.mem_of_getElem? (i := 905) (by decide +kernel)) rfl, gw_of (List.mem_of_getElem? (i := 906) (by decide +kernel)) rfl⟩
theorem cb_X9_noDog (own : String) : CLb own mX9_noDog 1 := ⟨gw_of (List.mem_of_getElem? (i := 915) (by decide +kernel)) rfl, gw_of (List.mem_of_getElem? (i := 57) (by decide +kernel)) rfl, by decide +kernel, by decide⟩
theorem cl_X9_153 : CLv RX9 153 mX9_noDog 1 := ⟨cb_X9_noDog _, gw_of (List.mem_of_getElem? (i := 912) (by decide +kernel)) rfl, gw_of (List.mem_of_getElem? (i := 914) (by decide +kernel)) rfl, gw_of (List.mem_of_getElem? (i := 35) (by decide +kernel)) rfl⟩
theorem cb_X9_keeps (own : String) : CLb own mX9_keeps 2 := ⟨gw_of (List.mem_of_getElem? (i := 919) (by decide +kernel)) rfl, gw_of (List.mem_of_getElem? (i := 57) (by decide +kernel)) rfl, by decide +kernel, by decide⟩
theorem cl_X9_157 : CLv RX9 157 mX9_keeps 2 := ⟨cb_X9_keeps _, gw_of (List.mem_of_getElem? (i := 916) (by decide +kernel)) rfl, gw_of (List.mem_of_getElem? (i := 918) (by decide +kernel)) rfl, gw_of (List.mem_of_getElem? (i := 36) (by decide +kernel)) rfl⟩
theorem cb_X9_noMan (own : String) : CLb own mX9_noMan 1 := ⟨gw_of (List.mem_of_getElem? (i := 927) (by decide +kernel)) rfl, gw_of (List.mem_of_getElem? (i := 57) (by decide +kernel)) rfl, by decide +kernel, by decide⟩
theorem cl_X9_161 : CLv RX9 161 mX9_noMan 1 := ⟨cb_X9_noMan _, gw_of (List.mem_of_getElem? (i := 924) (by decide +kernel)) rfl, gw_of (List.mem_of_getElem? (i := 926) (by decide +kernel)) rfl, gw_of (List.mem_of_getElem? (i := 37) (by decide +kernel)) rfl⟩
theorem cb_X9_note (own : String) : CLb own mX9_note 0 := ⟨gw_of (List.mem_of_getElem? (i := 936) (by decide +kernel)) rfl, gw_of (List.mem_of_getElem? (i := 57) (by decide +kernel)) rfl, by decide +kernel, by decide⟩
theorem cl_X9_166 : CLv RX9 166 mX9_note 0 := ⟨cb_X9_note _, gw_of (List.mem_of_getElem? (i := 933) (by decide +kernel)) rfl, gw_of (List.mem_of_getElem? (i := 935) (by decide +kernel)) rfl, gw_of (List.mem_of_getElem? (i := 38) (by decide +kernel)) rfl⟩
theorem cb_X9_goLead (own : String) : CLb own mX9_goLead 3 := ⟨gw_of (List.mem_of_getElem? (i := 940) (by decide +kernel)) rfl, gw_of (List.mem_of_getElem? (i := 57) (by decide +kernel)) rfl, by decide +kernel, by decide⟩
theorem cl_X9_169 : CLv RX9 169 mX9_goLead 3 := ⟨cb_X9_goLead _, gw_of (List.mem_of_getElem? (i := 937) (by decide +kernel)) rfl, gw_of (List.mem_of_getElem? (i := 939) (by decide +kernel)) rfl, gw_of (List.mem_of_getElem? (i := 39) (by decide +kernel)) rfl⟩
theorem cb_X9_many (own : String) : CLb own mX9_many 1 := ⟨gw_of (List.mem_of_getElem? (i := 951) (by decide +kernel)) rfl, gw_of (List.mem_of_getElem? (i := 57) (by decide +kernel)) rfl, by decide +kernel, by decide⟩
theorem cl_X9_173 : CLs RX9 173 mX9_many 1 := ⟨cb_X9_many _, gw_of (List.mem_of_getElem? (i := 949) (by decide +kernel)) rfl, gw_of (List.mem_of_getElem? (i := 950) (by decide +kernel)) rfl⟩
theorem cb_X9_goHour (own : String) : CLb own mX9_goHour 3 := ⟨gw_of (List.mem_of_getElem? (i := 959) (by decide +kernel)) rfl, gw_of (List.mem_of_getElem? (i := 57) (by decide +kernel)) rfl, by decide +kernel, by decide⟩
theorem cl_X9_176 : CLv RX9 176 mX9_goHour 3 := ⟨cb_X9_goHour _, gw_of (List.mem_of_getElem? (i := 956) (by decide +kernel)) rfl, gw_of (List.mem_of_getElem? (i := 958) (by decide +kernel)) rfl, gw_of (List.mem_of_getElem? (i := 40) (by decide +kernel)) rfl⟩
theorem cb_X9_begin (own : String) : CLb own mX9_begin 0 := ⟨gw_of (List.mem_of_getElem? (i := 972) (by decide +kernel)) rfl, gw_of (List.mem_of_getElem? (i := 57) (by decide +kernel)) rfl, by decide +kernel, by decide⟩
theorem cl_X9_182 : CLv RX9 182 mX9_begin 0 := ⟨cb_X9_begin _, gw_of (List.mem_of_getElem? (i := 969) (by decide +kernel)) rfl, gw_of (List.mem_of_getElem? (i := 971) (by decide +kernel)) rfl, gw_of (List.mem_of_getElem? (i := 41) (by decide +kernel)) rfl⟩
theorem cb_X9_isAlone (own : String) : CLb own mX9_isAlone 1 := ⟨gw_of (List.mem_of_getElem? (i := 989) (by decide +kernel)) rfl, gw_of (List.mem_of_getElem? (i := 57) (by decide +kernel)) rfl, by decide +kernel, by decide⟩
theorem cl_X9_185 : CLv RX9 185 mX9_isAlone 1 := ⟨cb_X9_isAlone _, gw_of (List.mem_of_getElem? (i := 986) (by decide +kernel)) rfl, gw_of (List.mem_of_getElem? (i := 988) (by decide +kernel)) rfl, gw_of (List.mem_of_getElem? (i := 43) (by decide +kernel)) rfl⟩
theorem cb_X9_power (own : String) : CLb own mX9_power 2 := ⟨gw_of (List.mem_of_getElem? (i := 981) (by decide +kernel)) rfl, gw_of (List.mem_of_getElem? (i := 57) (by decide +kernel)) rfl, by decide +kernel, by decide⟩
theorem cl_X9_188 : CLs RX9 188 mX9_power 2 := ⟨cb_X9_power _, gw_of (List.mem_of_getElem? (i := 979) (by decide +kernel)) rfl, gw_of (List.mem_of_getElem? (i := 980) (by decide +kernel)) rfl⟩
theorem cb_X9_goes (own : String) : CLb own mX9_goes 4 := ⟨gw_of (List.mem_of_getElem? (i := 985) (by decide +kernel)) rfl, gw_of (List.mem_of_getElem? (i := 57) (by decide +kernel)) rfl, by decide +kernel, by decide⟩
theorem cl_X9_198 : CLv RX9 198 mX9_goes 4 := ⟨cb_X9_goes _, gw_of (List.mem_of_getElem? (i := 982) (by decide +kernel)) rfl, gw_of (List.mem_of_getElem? (i := 984) (by decide +kernel)) rfl, gw_of (List.mem_of_getElem? (i := 42) (by decide +kernel)) rfl⟩
theorem cb_X9_streetsOf (own : String) : CLb own mX9_streetsOf 3 := ⟨gw_of (List.mem_of_getElem? (i := 997) (by decide +kernel)) rfl, gw_of (List.mem_of_getElem? (i := 57) (by decide +kernel)) rfl, by decide +kernel, by decide⟩
theorem cl_X9_202 : CLv RX9 202 mX9_streetsOf 3 := ⟨cb_X9_streetsOf _, gw_of (List.mem_of_getElem? (i := 994) (by decide +kernel)) rfl, gw_of (List.mem_of_getElem? (i := 996) (by decide +kernel)) rfl, gw_of (List.mem_of_getElem? (i := 44) (by decide +kernel)) rfl⟩
theorem cb_X9_wasAt (own : String) : CLb own mX9_wasAt 3 := ⟨gw_of (List.mem_of_getElem? (i := 1036) (by decide +kernel)) rfl, gw_of (List.mem_of_getElem? (i := 57) (by decide +kernel)) rfl, by decide +kernel, by decide⟩
theorem cl_X9_212 : CLv RX9 212 mX9_wasAt 3 := ⟨cb_X9_wasAt _, gw_of (List.mem_of_getElem? (i := 1033) (by decide +kernel)) rfl, gw_of (List.mem_of_getElem? (i := 1035) (by decide +kernel)) rfl, gw_of (List.mem_of_getElem? (i := 47) (by decide +kernel)) rfl⟩
theorem cb_X9_isWalk (own : String) : CLb own mX9_isWalk 1 := ⟨gw_of (List.mem_of_getElem? (i := 1032) (by decide +kernel)) rfl, gw_of (List.mem_of_getElem? (i := 57) (by decide +kernel)) rfl, by decide +kernel, by decide⟩
theorem cl_X9_218 : CLv RX9 218 mX9_isWalk 1 := ⟨cb_X9_isWalk _, gw_of (List.mem_of_getElem? (i := 1029) (by decide +kernel)) rfl, gw_of (List.mem_of_getElem? (i := 1031) (by decide +kernel)) rfl, gw_of (List.mem_of_getElem? (i := 46) (by decide +kernel)) rfl⟩
theorem cb_X9_findWalks (own : String) : CLb own mX9_findWalks 0 := ⟨gw_of (List.mem_of_getElem? (i := 1028) (by decide +kernel)) rfl, gw_of (List.mem_of_getElem? (i := 57) (by decide +kernel)) rfl, by decide +kernel, by decide⟩
theorem cl_X9_221 : CLv RX9 221 mX9_findWalks 0 := ⟨cb_X9_findWalks _, gw_of (List.mem_of_getElem? (i := 1025) (by decide +kernel)) rfl, gw_of (List.mem_of_getElem? (i := 1027) (by decide +kernel)) rfl, gw_of (List.mem_of_getElem? (i := 45) (by decide +kernel)) rfl⟩
theorem cb_X9_worthOf (own : String) : CLb own mX9_worthOf 2 := ⟨gw_of (List.mem_of_getElem? (i := 1048) (by decide +kernel)) rfl, gw_of (List.mem_of_getElem? (i := 57) (by decide +kernel)) rfl, by decide +kernel, by decide⟩
theorem cl_X9_226 : CLs RX9 226 mX9_worthOf 2 := ⟨cb_X9_worthOf _, gw_of (List.mem_of_getElem? (i := 1046) (by decide +kernel)) rfl, gw_of (List.mem_of_getElem? (i := 1047) (by decide +kernel)) rfl⟩
theorem ka_boolean : Cond.arrayClass .boolean ∈ gw := gw_of (List.mem_of_getElem? (i := 824) (by decide +kernel)) rfl
theorem ka_int : Cond.arrayClass .int ∈ gw := gw_of (List.mem_of_getElem? (i := 129) (by decide +kernel)) rfl
theorem kl_X8_17 : Cond.classLink RX8 17 "HoundLicence$Reader" ∈ gw := gw_of (List.mem_of_getElem? (i := 70) (by decide +kernel)) rfl
theorem kl_X8_24 : Cond.classLink RX8 24 "HoundLicence$Law" ∈ gw := gw_of (List.mem_of_getElem? (i := 188) (by decide +kernel)) rfl
theorem kl_X8_31 : Cond.classLink RX8 31 "HoundLicence$Town" ∈ gw := gw_of (List.mem_of_getElem? (i := 190) (by decide +kernel)) rfl
theorem kl_X8_41 : Cond.classLink RX8 41 "HoundLicence$Acts" ∈ gw := gw_of (List.mem_of_getElem? (i := 192) (by decide +kernel)) rfl
theorem kl_X8_48 : Cond.classLink RX8 48 "HoundLicence$Slots" ∈ gw := gw_of (List.mem_of_getElem? (i := 209) (by decide +kernel)) rfl
theorem kl_X8_55 : Cond.classLink RX8 55 "HoundLicence$Ahead" ∈ gw := gw_of (List.mem_of_getElem? (i := 224) (by decide +kernel)) rfl
theorem kl_X8_62 : Cond.classLink RX8 62 "HoundLicence$Sightings" ∈ gw := gw_of (List.mem_of_getElem? (i := 245) (by decide +kernel)) rfl
theorem kl_X0_15 : Cond.classLink RX0 15 "HoundLicence$Town" ∈ gw := gw_of (List.mem_of_getElem? (i := 198) (by decide +kernel)) rfl
theorem kl_X1_15 : Cond.classLink RX1 15 "[[I" ∈ gw := gw_of (List.mem_of_getElem? (i := 230) (by decide +kernel)) rfl
theorem kl_X3_9 : Cond.classLink RX3 9 "HoundLicence$Law" ∈ gw := gw_of (List.mem_of_getElem? (i := 76) (by decide +kernel)) rfl
theorem kl_X3_18 : Cond.classLink RX3 18 "HoundLicence$Town" ∈ gw := gw_of (List.mem_of_getElem? (i := 130) (by decide +kernel)) rfl
theorem kl_X6_9 : Cond.classLink RX6 9 "HoundLicence$Town" ∈ gw := gw_of (List.mem_of_getElem? (i := 215) (by decide +kernel)) rfl
theorem kl_L_7 : Cond.classLink RL 7 "HoundLicence" ∈ gw := gw_of (List.mem_of_getElem? (i := 62) (by decide +kernel)) rfl
theorem kl_L_10 : Cond.classLink RL 10 "HoundLicenceModel" ∈ gw := gw_of (List.mem_of_getElem? (i := 724) (by decide +kernel)) rfl
theorem kc_X8_227 : Cond.constant RX8 227 (99999) ∈ gw := gw_of (List.mem_of_getElem? (i := 674) (by decide +kernel)) rfl
theorem kc_J6_265 : Cond.constant RJ6 265 (1431655765) ∈ gw := gw_of (List.mem_of_getElem? (i := 381) (by decide +kernel)) rfl
theorem kc_J6_266 : Cond.constant RJ6 266 (858993459) ∈ gw := gw_of (List.mem_of_getElem? (i := 382) (by decide +kernel)) rfl
theorem kc_J6_267 : Cond.constant RJ6 267 (252645135) ∈ gw := gw_of (List.mem_of_getElem? (i := 383) (by decide +kernel)) rfl
theorem kc_X8_233 : Cond.constantLong RX8 233 (6364136223846793005) ∈ gw := gw_of (List.mem_of_getElem? (i := 699) (by decide +kernel)) rfl
theorem kc_X8_235 : Cond.constantLong RX8 235 (1442695040888963407) ∈ gw := gw_of (List.mem_of_getElem? (i := 700) (by decide +kernel)) rfl
theorem kc_X8_237 : Cond.constantLong RX8 237 (12) ∈ gw := gw_of (List.mem_of_getElem? (i := 701) (by decide +kernel)) rfl
theorem kc_L_115 : Cond.constantLong RL 115 (4294967295) ∈ gw := gw_of (List.mem_of_getElem? (i := 1072) (by decide +kernel)) rfl
theorem kc_X9_79 : Cond.constantLong RX9 79 (255) ∈ gw := gw_of (List.mem_of_getElem? (i := 829) (by decide +kernel)) rfl
theorem kc_X9_87 : Cond.constantLong RX9 87 (9) ∈ gw := gw_of (List.mem_of_getElem? (i := 873) (by decide +kernel)) rfl
theorem kc_X9_164 : Cond.constantLong RX9 164 (2) ∈ gw := gw_of (List.mem_of_getElem? (i := 932) (by decide +kernel)) rfl
theorem kc_X9_180 : Cond.constantLong RX9 180 (24) ∈ gw := gw_of (List.mem_of_getElem? (i := 968) (by decide +kernel)) rfl
theorem kc_X9_191 : Cond.constantLong RX9 191 (7) ∈ gw := gw_of (List.mem_of_getElem? (i := 977) (by decide +kernel)) rfl
theorem kc_X9_193 : Cond.constantLong RX9 193 (4) ∈ gw := gw_of (List.mem_of_getElem? (i := 978) (by decide +kernel)) rfl
theorem kc_X9_206 : Cond.constantLong RX9 206 (12) ∈ gw := gw_of (List.mem_of_getElem? (i := 1006) (by decide +kernel)) rfl
theorem kc_X9_208 : Cond.constantLong RX9 208 (99) ∈ gw := gw_of (List.mem_of_getElem? (i := 1011) (by decide +kernel)) rfl
theorem kc_X9_210 : Cond.constantLong RX9 210 (11) ∈ gw := gw_of (List.mem_of_getElem? (i := 1016) (by decide +kernel)) rfl
theorem kc_X9_224 : Cond.constantLong RX9 224 (99999) ∈ gw := gw_of (List.mem_of_getElem? (i := 1045) (by decide +kernel)) rfl
theorem kc_X9_233 : Cond.constantLong RX9 233 (30) ∈ gw := gw_of (List.mem_of_getElem? (i := 1061) (by decide +kernel)) rfl
theorem kc_X9_235 : Cond.constantLong RX9 235 (6364136223846793005) ∈ gw := gw_of (List.mem_of_getElem? (i := 1062) (by decide +kernel)) rfl
theorem kc_X9_237 : Cond.constantLong RX9 237 (1442695040888963407) ∈ gw := gw_of (List.mem_of_getElem? (i := 1063) (by decide +kernel)) rfl
theorem kj_X8 : Cond.initialized RX8 ∈ gw := gw_of (List.mem_of_getElem? (i := 49) (by decide +kernel)) rfl
theorem kj_X0 : Cond.initialized RX0 ∈ gw := gw_of (List.mem_of_getElem? (i := 53) (by decide +kernel)) rfl
theorem kj_X1 : Cond.initialized RX1 ∈ gw := gw_of (List.mem_of_getElem? (i := 55) (by decide +kernel)) rfl
theorem kj_X2 : Cond.initialized RX2 ∈ gw := gw_of (List.mem_of_getElem? (i := 51) (by decide +kernel)) rfl
theorem kj_X3 : Cond.initialized RX3 ∈ gw := gw_of (List.mem_of_getElem? (i := 50) (by decide +kernel)) rfl
theorem kj_X4 : Cond.initialized RX4 ∈ gw := gw_of (List.mem_of_getElem? (i := 61) (by decide +kernel)) rfl
theorem kj_X5 : Cond.initialized RX5 ∈ gw := gw_of (List.mem_of_getElem? (i := 56) (by decide +kernel)) rfl
theorem kj_X6 : Cond.initialized RX6 ∈ gw := gw_of (List.mem_of_getElem? (i := 54) (by decide +kernel)) rfl
theorem kj_X7 : Cond.initialized RX7 ∈ gw := gw_of (List.mem_of_getElem? (i := 52) (by decide +kernel)) rfl
theorem kj_L : Cond.initialized RL ∈ gw := gw_of (List.mem_of_getElem? (i := 48) (by decide +kernel)) rfl
theorem kj_X9 : Cond.initialized RX9 ∈ gw := gw_of (List.mem_of_getElem? (i := 57) (by decide +kernel)) rfl
theorem kj_J6 : Cond.initialized RJ6 ∈ gw := gw_of (List.mem_of_getElem? (i := 59) (by decide +kernel)) rfl
theorem kj_J9 : Cond.initialized RJ9 ∈ gw := gw_of (List.mem_of_getElem? (i := 58) (by decide +kernel)) rfl
theorem kj_J10 : Cond.initialized RJ10 ∈ gw := gw_of (List.mem_of_getElem? (i := 60) (by decide +kernel)) rfl
theorem ki_X8 : Cond.instantiable RX8 11 ∈ gw := gw_of (List.mem_of_getElem? (i := 63) (by decide +kernel)) rfl
theorem ki_X0 : Cond.instantiable RX0 2 ∈ gw := gw_of (List.mem_of_getElem? (i := 193) (by decide +kernel)) rfl
theorem ki_X1 : Cond.instantiable RX1 4 ∈ gw := gw_of (List.mem_of_getElem? (i := 225) (by decide +kernel)) rfl
theorem ki_X2 : Cond.instantiable RX2 8 ∈ gw := gw_of (List.mem_of_getElem? (i := 77) (by decide +kernel)) rfl
theorem ki_X3 : Cond.instantiable RX3 5 ∈ gw := gw_of (List.mem_of_getElem? (i := 71) (by decide +kernel)) rfl
theorem ki_X5 : Cond.instantiable RX5 6 ∈ gw := gw_of (List.mem_of_getElem? (i := 246) (by decide +kernel)) rfl
theorem ki_X6 : Cond.instantiable RX6 2 ∈ gw := gw_of (List.mem_of_getElem? (i := 210) (by decide +kernel)) rfl
theorem ki_X7 : Cond.instantiable RX7 7 ∈ gw := gw_of (List.mem_of_getElem? (i := 131) (by decide +kernel)) rfl
theorem ki_X9 : Cond.instantiable RX9 31 ∈ gw := gw_of (List.mem_of_getElem? (i := 725) (by decide +kernel)) rfl
end
section
/-! the system made: 168 cells, none new -/
theorem lk_n {a kd N : Nat} (h : lk a = (kd, N)) : N < 2 ^ 31 := by
  have h0 : ∀ p ∈ ly, p.2 ≤ 350 := by decide +kernel
  have h1 : (lk a).2 ≤ 350 := by
    unfold lk
    rw [List.getD_eq_getElem?_getD]
    cases hq : ly[a]? with
    | none => decide
    | some p => exact h0 p (List.mem_of_getElem? hq)
  rw [h] at h1
  exact Nat.lt_of_le_of_lt h1 (by decide)
theorem lk_lt' {a kd N : Nat} (h : lk a = (kd, N)) (hk : kd ≠ 99) : a < 168 := lk_lt (by rw [h]; exact hk)
/-- the references that never change, by cell and place -/
def rtab (a k : Nat) : Option Nat := match (lk a).1 with
  | 0 => if k = 1 then some (a + 1) else none
  | 1 => if k = 0 then some (a + 1) else if k = 1 then some (a + 2) else none
  | 2 => if 4 ≤ k ∧ k ≤ 7 then some (a + (k - 3)) else none
  | 3 => if k = 0 then some (a + 1) else if k = 1 then some (a + 6) else none
  | 4 => if 1 ≤ k ∧ k ≤ 5 then some (a + k) else none
  | 5 => if k = 0 then some (a + 1) else none
  | 6 => if 2 ≤ k ∧ k ≤ 6 then some (a + (k - 1)) else none
  | 7 => [some 1, none, some 2, some 14, some 19, some 25, some 31, some 117, some 131, some 144][k]?.join
  | 8 => [none, some 151, none, none, none, none, none, some 152, some 153, some 154, none, none, none, some 155, some 156, some 157, some 158, some 159, some 160, none, some 161, some 162, none, some 163, some 164, some 165, none, some 166, some 167][k]?.join
  | 11 => if a = 118 then (if k < 2 then some (119 + 6 * k) else none) else none
  | 12 => if k < 8 then some (a + 1 + k) else none
  | _ => none
def RS (M : Mm) : Prop := ∀ a k b, rtab a k = some b → M.2.2 a k = some b
theorem RS.of {M M' : Mm} (h : RS M) (e : M'.2.2 = M.2.2) : RS M' := fun a k b q => by rw [e]; exact h a k b q
/-- a town at the cell t, a law at the cell w -/
def IT (t : Nat) : Prop := lk t = (6, 0) ∧ lk (t + 1) = (9, 4) ∧ lk (t + 2) = (9, 4) ∧ lk (t + 3) = (9, 5) ∧ lk (t + 4) = (9, 5) ∧ lk (t + 5) = (9, 5)
def IL (w : Nat) : Prop := lk w = (2, 0) ∧ lk (w + 1) = (9, 4) ∧ lk (w + 2) = (9, 4) ∧ lk (w + 3) = (9, 4) ∧ lk (w + 4) = (9, 4)
def b2i (b : Bool) : Int32 := if b then 1 else 0
theorem b2i_0 {b : Bool} (h : b2i b = 0) : b = false := by cases b <;> first | rfl | (exact absurd h (by decide))
theorem b2i_1 {b : Bool} (h : ¬ b2i b = 0) : b = true := by cases b <;> first | rfl | (exact absurd rfl h)
theorem b2i_nar (b : Bool) : narrow .boolean (.int (b2i b)) = .int (b2i b) := by cases b <;> rfl
theorem rt_T2 {t : Nat} (h : IT t) : rtab t 2 = some (t + 1) := by simp [rtab, h.1]
theorem rt_T3 {t : Nat} (h : IT t) : rtab t 3 = some (t + 2) := by simp [rtab, h.1]
theorem rt_T4 {t : Nat} (h : IT t) : rtab t 4 = some (t + 3) := by simp [rtab, h.1]
theorem rt_T5 {t : Nat} (h : IT t) : rtab t 5 = some (t + 4) := by simp [rtab, h.1]
theorem rt_T6 {t : Nat} (h : IT t) : rtab t 6 = some (t + 5) := by simp [rtab, h.1]
theorem rt_L4 {w : Nat} (h : IL w) : rtab w 4 = some (w + 1) := by simp [rtab, h.1]
theorem rt_L5 {w : Nat} (h : IL w) : rtab w 5 = some (w + 2) := by simp [rtab, h.1]
theorem rt_L6 {w : Nat} (h : IL w) : rtab w 6 = some (w + 3) := by simp [rtab, h.1]
theorem rt_L7 {w : Nat} (h : IL w) : rtab w 7 = some (w + 4) := by simp [rtab, h.1]
theorem lk_0 : lk 0 = (7, 0) := rfl
theorem lk_1 : lk 1 = (9, 60) := rfl
theorem lk_2 : lk 2 = (3, 0) := rfl
theorem lk_3 : lk 3 = (2, 0) := rfl
theorem lk_4 : lk 4 = (9, 4) := rfl
theorem lk_5 : lk 5 = (9, 4) := rfl
theorem lk_6 : lk 6 = (9, 4) := rfl
theorem lk_7 : lk 7 = (9, 4) := rfl
theorem lk_8 : lk 8 = (6, 0) := rfl
theorem lk_9 : lk 9 = (9, 4) := rfl
theorem lk_10 : lk 10 = (9, 4) := rfl
theorem lk_11 : lk 11 = (9, 5) := rfl
theorem lk_12 : lk 12 = (9, 5) := rfl
theorem lk_13 : lk 13 = (9, 5) := rfl
theorem lk_14 : lk 14 = (2, 0) := rfl
theorem lk_15 : lk 15 = (9, 4) := rfl
theorem lk_16 : lk 16 = (9, 4) := rfl
theorem lk_17 : lk 17 = (9, 4) := rfl
theorem lk_18 : lk 18 = (9, 4) := rfl
theorem lk_19 : lk 19 = (6, 0) := rfl
theorem lk_20 : lk 20 = (9, 4) := rfl
theorem lk_21 : lk 21 = (9, 4) := rfl
theorem lk_22 : lk 22 = (9, 5) := rfl
theorem lk_23 : lk 23 = (9, 5) := rfl
theorem lk_24 : lk 24 = (9, 5) := rfl
theorem lk_25 : lk 25 = (6, 0) := rfl
theorem lk_26 : lk 26 = (9, 4) := rfl
theorem lk_27 : lk 27 = (9, 4) := rfl
theorem lk_28 : lk 28 = (9, 5) := rfl
theorem lk_29 : lk 29 = (9, 5) := rfl
theorem lk_30 : lk 30 = (9, 5) := rfl
theorem lk_31 : lk 31 = (0, 0) := rfl
theorem lk_32 : lk 32 = (11, 14) := rfl
theorem lk_117 : lk 117 = (5, 0) := rfl
theorem lk_118 : lk 118 = (11, 2) := rfl
theorem lk_131 : lk 131 = (1, 0) := rfl
theorem lk_132 : lk 132 = (9, 7) := rfl
theorem lk_133 : lk 133 = (12, 8) := rfl
theorem lk_134 : lk 134 = (9, 5) := rfl
theorem lk_135 : lk 135 = (9, 5) := rfl
theorem lk_136 : lk 136 = (9, 5) := rfl
theorem lk_137 : lk 137 = (9, 5) := rfl
theorem lk_138 : lk 138 = (9, 5) := rfl
theorem lk_139 : lk 139 = (9, 5) := rfl
theorem lk_140 : lk 140 = (9, 5) := rfl
theorem lk_141 : lk 141 = (9, 5) := rfl
theorem lk_142 : lk 142 = (9, 5) := rfl
theorem lk_143 : lk 143 = (9, 5) := rfl
theorem lk_144 : lk 144 = (4, 0) := rfl
theorem lk_145 : lk 145 = (9, 6) := rfl
theorem lk_146 : lk 146 = (9, 6) := rfl
theorem lk_147 : lk 147 = (9, 6) := rfl
theorem lk_148 : lk 148 = (9, 5) := rfl
theorem lk_149 : lk 149 = (9, 4) := rfl
theorem lk_150 : lk 150 = (8, 0) := rfl
theorem lk_151 : lk 151 = (9, 60) := rfl
theorem lk_152 : lk 152 = (9, 4) := rfl
theorem lk_153 : lk 153 = (9, 16) := rfl
theorem lk_154 : lk 154 = (9, 15) := rfl
theorem lk_155 : lk 155 = (9, 4) := rfl
theorem lk_156 : lk 156 = (9, 16) := rfl
theorem lk_157 : lk 157 = (9, 15) := rfl
theorem lk_158 : lk 158 = (9, 25) := rfl
theorem lk_159 : lk 159 = (9, 25) := rfl
theorem lk_160 : lk 160 = (9, 350) := rfl
theorem lk_161 : lk 161 = (9, 50) := rfl
theorem lk_162 : lk 162 = (10, 2) := rfl
theorem lk_163 : lk 163 = (9, 6) := rfl
theorem lk_164 : lk 164 = (9, 6) := rfl
theorem lk_165 : lk 165 = (9, 6) := rfl
theorem lk_166 : lk 166 = (9, 4) := rfl
theorem lk_167 : lk 167 = (9, 5) := rfl
theorem IT_8 : IT 8 := ⟨rfl, rfl, rfl, rfl, rfl, rfl⟩
theorem IT_19 : IT 19 := ⟨rfl, rfl, rfl, rfl, rfl, rfl⟩
theorem IT_25 : IT 25 := ⟨rfl, rfl, rfl, rfl, rfl, rfl⟩
theorem IL_3 : IL 3 := ⟨rfl, rfl, rfl, rfl, rfl⟩
theorem IL_14 : IL 14 := ⟨rfl, rfl, rfl, rfl, rfl⟩
theorem IT_acts : ∀ i, i < 14 → IT (33 + 6 * i) := by
  have h : ∀ i, i < 14 → lk (33 + 6 * i) = (6, 0) ∧ lk (33 + 6 * i + 1) = (9, 4) ∧ lk (33 + 6 * i + 2) = (9, 4) ∧ lk (33 + 6 * i + 3) = (9, 5) ∧ lk (33 + 6 * i + 4) = (9, 5) ∧ lk (33 + 6 * i + 5) = (9, 5) := by decide +kernel
  exact h
theorem IT_slots : ∀ i, i < 2 → IT (119 + 6 * i) := by
  have h : ∀ i, i < 2 → lk (119 + 6 * i) = (6, 0) ∧ lk (119 + 6 * i + 1) = (9, 4) ∧ lk (119 + 6 * i + 2) = (9, 4) ∧ lk (119 + 6 * i + 3) = (9, 5) ∧ lk (119 + 6 * i + 4) = (9, 5) ∧ lk (119 + 6 * i + 5) = (9, 5) := by decide +kernel
  exact h
section WF
variable {E : EnvT} {K : CtxT} {μ : MI} {d : Nat} {f : Nat × Nat} {pc : Nat} {L : List (Option Value)} {st : List Value} {M : Mm} {k n : Nat} {Z : State → Prop}
theorem wf_getI {a idx ci kf : Nat} {fin : Bool} (hd : decode μ.2.1 pc = .ok (.getfield idx, 3)) (hf : FL μ.1.cls idx ci kf 0 fin) (ha : lk a = (ci, 0)) (kk : Wp E K μ d f (pc + 3) L (.int (M.1 a kf) :: st) 168 M k n Z) : Wp E K μ d f pc L (.ref (K.1 + a) :: st) 168 M k n Z := wp_getf hd hf ha (lk_lt' ha (by have := hf.lt.1; omega)) kk
theorem wf_getJ {a idx ci kf : Nat} {fin : Bool} (hd : decode μ.2.1 pc = .ok (.getfield idx, 3)) (hf : FL μ.1.cls idx ci kf 1 fin) (ha : lk a = (ci, 0)) (kk : Wp E K μ d f (pc + 3) L (.long (M.2.1 a kf) :: st) 168 M k n Z) : Wp E K μ d f pc L (.ref (K.1 + a) :: st) 168 M k n Z := wp_getf hd hf ha (lk_lt' ha (by have := hf.lt.1; omega)) kk
theorem wf_getR {a idx ci kf b : Nat} {fin : Bool} (hd : decode μ.2.1 pc = .ok (.getfield idx, 3)) (hf : FL μ.1.cls idx ci kf 2 fin) (ha : lk a = (ci, 0)) (hr : M.2.2 a kf = some b) (kk : Wp E K μ d f (pc + 3) L (.ref (K.1 + b) :: st) 168 M k n Z) : Wp E K μ d f pc L (.ref (K.1 + a) :: st) 168 M k n Z := wp_getf hd hf ha (lk_lt' ha (by have := hf.lt.1; omega)) (by rw [show fv K.1 M a kf 2 = .ref (K.1 + b) by simp [fv, hr, va_rf]]; exact kk)
theorem wf_putI {a idx ci kf : Nat} {x : Int32} (hd : decode μ.2.1 pc = .ok (.putfield idx, 3)) (hf : FL μ.1.cls idx ci kf 0 false) (ha : lk a = (ci, 0)) (kk : Wp E K μ d f (pc + 3) L st 168 (wI M a kf x) k n Z) : Wp E K μ d f pc L (.int x :: .ref (K.1 + a) :: st) 168 M k n Z := wp_putI hd hf (fun h => by cases h) ha (lk_lt' ha (by have := hf.lt.1; omega)) kk
theorem wf_putJ {a idx ci kf : Nat} {x : Int64} (hd : decode μ.2.1 pc = .ok (.putfield idx, 3)) (hf : FL μ.1.cls idx ci kf 1 false) (ha : lk a = (ci, 0)) (kk : Wp E K μ d f (pc + 3) L st 168 (wJ M a kf x) k n Z) : Wp E K μ d f pc L (.long x :: .ref (K.1 + a) :: st) 168 M k n Z := wp_putJ hd hf (fun h => by cases h) ha (lk_lt' ha (by have := hf.lt.1; omega)) kk
theorem wf_putR {a idx ci kf b : Nat} (hd : decode μ.2.1 pc = .ok (.putfield idx, 3)) (hf : FL μ.1.cls idx ci kf 2 false) (ha : lk a = (ci, 0)) (kk : Wp E K μ d f (pc + 3) L st 168 (wR M a kf (some b)) k n Z) : Wp E K μ d f pc L (.ref (K.1 + b) :: .ref (K.1 + a) :: st) 168 M k n Z := wp_putR hd hf (fun h => by cases h) ha (lk_lt' ha (by have := hf.lt.1; omega)) kk
theorem wf_iald {a N j : Nat} {i : Int32} (hd : decode μ.2.1 pc = .ok (.iaload, 1)) (ha : lk a = (9, N)) (hi : i = nI j) (hj : j < N) (kk : Wp E K μ d f (pc + 1) L (.int (M.1 a j) :: st) 168 M k n Z) : Wp E K μ d f pc L (.int i :: .ref (K.1 + a) :: st) 168 M k n Z := wp_iald hd ha (lk_lt' ha (by decide)) (by rw [hi]; exact vp_in_nI hj (lk_n ha)) (by rw [hi, nI_clamp (Nat.lt_trans hj (lk_n ha))]; exact kk)
theorem wf_bald {a N j : Nat} {i : Int32} (hd : decode μ.2.1 pc = .ok (.baload, 1)) (ha : lk a = (10, N)) (hi : i = nI j) (hj : j < N) (kk : Wp E K μ d f (pc + 1) L (.int (M.1 a j) :: st) 168 M k n Z) : Wp E K μ d f pc L (.int i :: .ref (K.1 + a) :: st) 168 M k n Z := wp_bald hd ha (lk_lt' ha (by decide)) (by rw [hi]; exact vp_in_nI hj (lk_n ha)) (by rw [hi, nI_clamp (Nat.lt_trans hj (lk_n ha))]; exact kk)
theorem wf_aaldT {a N j b : Nat} {i : Int32} (hd : decode μ.2.1 pc = .ok (.aaload, 1)) (ha : lk a = (11, N)) (hi : i = nI j) (hj : j < N) (hr : M.2.2 a j = some b) (kk : Wp E K μ d f (pc + 1) L (.ref (K.1 + b) :: st) 168 M k n Z) : Wp E K μ d f pc L (.int i :: .ref (K.1 + a) :: st) 168 M k n Z := wp_aaldT hd ha (lk_lt' ha (by decide)) (by rw [hi]; exact vp_in_nI hj (lk_n ha)) (by rw [hi, nI_clamp (Nat.lt_trans hj (lk_n ha)), hr]; exact kk)
theorem wf_aaldA {a N j b : Nat} {i : Int32} (hd : decode μ.2.1 pc = .ok (.aaload, 1)) (ha : lk a = (12, N)) (hi : i = nI j) (hj : j < N) (hr : M.2.2 a j = some b) (kk : Wp E K μ d f (pc + 1) L (.ref (K.1 + b) :: st) 168 M k n Z) : Wp E K μ d f pc L (.int i :: .ref (K.1 + a) :: st) 168 M k n Z := wp_aaldA hd ha (lk_lt' ha (by decide)) (by rw [hi]; exact vp_in_nI hj (lk_n ha)) (by rw [hi, nI_clamp (Nat.lt_trans hj (lk_n ha)), hr]; exact kk)
theorem wf_iast {a N j : Nat} {i x : Int32} (hd : decode μ.2.1 pc = .ok (.iastore, 1)) (ha : lk a = (9, N)) (hi : i = nI j) (hj : j < N) (kk : Wp E K μ d f (pc + 1) L st 168 (wI M a j x) k n Z) : Wp E K μ d f pc L (.int x :: .int i :: .ref (K.1 + a) :: st) 168 M k n Z := wp_iast hd ha (lk_lt' ha (by decide)) (by rw [hi]; exact vp_in_nI hj (lk_n ha)) (by rw [hi, nI_clamp (Nat.lt_trans hj (lk_n ha))]; exact kk)
theorem wf_bast {a N j : Nat} {i x : Int32} (hd : decode μ.2.1 pc = .ok (.bastore, 1)) (ha : lk a = (10, N)) (hx : narrow .boolean (.int x) = .int x) (hi : i = nI j) (hj : j < N) (kk : Wp E K μ d f (pc + 1) L st 168 (wI M a j x) k n Z) : Wp E K μ d f pc L (.int x :: .int i :: .ref (K.1 + a) :: st) 168 M k n Z := wp_bast hd ha (lk_lt' ha (by decide)) hx (by rw [hi]; exact vp_in_nI hj (lk_n ha)) (by rw [hi, nI_clamp (Nat.lt_trans hj (lk_n ha))]; exact kk)
theorem wf_aastT {a b N j : Nat} {i : Int32} (hd : decode μ.2.1 pc = .ok (.aastore, 1)) (ha : lk a = (11, N)) (hb : lk b = (6, 0)) (hi : i = nI j) (hj : j < N) (kk : Wp E K μ d f (pc + 1) L st 168 (wR M a j (some b)) k n Z) : Wp E K μ d f pc L (.ref (K.1 + b) :: .int i :: .ref (K.1 + a) :: st) 168 M k n Z := wp_aastT hd ha (lk_lt' ha (by decide)) hb (lk_lt' hb (by decide)) (by rw [hi]; exact vp_in_nI hj (lk_n ha)) (by rw [hi, nI_clamp (Nat.lt_trans hj (lk_n ha))]; exact kk)
theorem wf_alen {a N : Nat} (hd : decode μ.2.1 pc = .ok (.arraylength, 1)) (ha : lk a = (9, N)) (kk : Wp E K μ d f (pc + 1) L (.int (nI N) :: st) 168 M k n Z) : Wp E K μ d f pc L (.ref (K.1 + a) :: st) 168 M k n Z := wp_alen hd ha (lk_lt' ha (by decide)) kk
theorem wf_copy {idx a0 a N0 N1 m : Nat} {rest : List Value} (hd : decode μ.2.1 pc = .ok (.invokestatic idx, 3)) (hw : Cond.methodLink μ.1.cls idx arraycopyName ∈ gw) (ha0 : lk a0 = (9, N0)) (ha : lk a = (9, N1)) (h4 : m ≤ N0) (h5 : m ≤ N1) (hcat : (rest.map fun v => v.category).sum ≤ 8) (hdd : 0 < d)
    (kk : Wp E K μ d f (pc + 3) L rest 168 (wC M a0 0 a 0 m) k n Z) : Wp E K μ d f pc L (.int (nI m) :: .int (nI 0) :: .ref (K.1 + a) :: .int (nI 0) :: .ref (K.1 + a0) :: rest) 168 M k n Z := by
  have hm : m < 2 ^ 31 := Nat.lt_of_le_of_lt h4 (lk_n ha0)
  have h0 : (nI 0).toNatClampNeg = 0 := nI_clamp (by decide)
  refine wp_copy (N0 := N0) (N1 := N1) hd hw ha0 ha (lk_lt' ha0 (by decide)) (lk_lt' ha (by decide)) (nI_pos (by decide)) (nI_pos (by decide)) (nI_pos hm) (by rw [h0, nI_clamp hm]; omega) (by rw [h0, nI_clamp hm]; omega) hcat hdd ?_
  rw [h0, nI_clamp hm]
  exact kk
/-- contracts of the system made: with an int, a long, no answer -/
abbrev Ci (l : Launch) (K : CtxT) (d : Nat) (μ : MI) (vs : List Value) (M : Mm) (Q : Int32 → Mm → Prop) : Prop := Ct l K d μ vs 168 M 0 0 (fun v M' => ∃ r, v = some (.int r) ∧ Q r M')
abbrev Cl (l : Launch) (K : CtxT) (d : Nat) (μ : MI) (vs : List Value) (M : Mm) (Q : Int64 → Mm → Prop) : Prop := Ct l K d μ vs 168 M 0 0 (fun v M' => ∃ r, v = some (.long r) ∧ Q r M')
abbrev Cv (l : Launch) (K : CtxT) (d : Nat) (μ : MI) (vs : List Value) (M : Mm) (Q : Mm → Prop) : Prop := Ct l K d μ vs 168 M 0 0 (fun v M' => v = none ∧ Q M')
def zI (E : EnvT) (K : CtxT) (Q : Int32 → Mm → Prop) : State → Prop := zM E K 168 0 0 (fun v M' => ∃ r, v = some (.int r) ∧ Q r M')
def zL (E : EnvT) (K : CtxT) (Q : Int64 → Mm → Prop) : State → Prop := zM E K 168 0 0 (fun v M' => ∃ r, v = some (.long r) ∧ Q r M')
def zV (E : EnvT) (K : CtxT) (Q : Mm → Prop) : State → Prop := zM E K 168 0 0 (fun v M' => v = none ∧ Q M')
theorem ci_of {l : Launch} {vs : List Value} {Q : Int32 → Mm → Prop} (hp : plainName μ.1.cls = true) (hlen : (lg_sl vs).length ≤ μ.2.2.1) (hL : enl vs ++ List.replicate (μ.2.2.1 - (enl vs).length) none = L) (hL2 : L.length = μ.2.2.1)
    (body : ∀ E : EnvT, Wp E K μ d (0, 0) 0 L [] 168 M 0 0 (zI E K Q)) : Ci l K d μ vs M Q := ct_of hp hlen hL hL2 (fun E _ => body E)
theorem cl_of {l : Launch} {vs : List Value} {Q : Int64 → Mm → Prop} (hp : plainName μ.1.cls = true) (hlen : (lg_sl vs).length ≤ μ.2.2.1) (hL : enl vs ++ List.replicate (μ.2.2.1 - (enl vs).length) none = L) (hL2 : L.length = μ.2.2.1)
    (body : ∀ E : EnvT, Wp E K μ d (0, 0) 0 L [] 168 M 0 0 (zL E K Q)) : Cl l K d μ vs M Q := ct_of hp hlen hL hL2 (fun E _ => body E)
theorem cv_of {l : Launch} {vs : List Value} {Q : Mm → Prop} (hp : plainName μ.1.cls = true) (hlen : (lg_sl vs).length ≤ μ.2.2.1) (hL : enl vs ++ List.replicate (μ.2.2.1 - (enl vs).length) none = L) (hL2 : L.length = μ.2.2.1)
    (body : ∀ E : EnvT, Wp E K μ d (0, 0) 0 L [] 168 M 0 0 (zV E K Q)) : Cv l K d μ vs M Q := ct_of hp hlen hL hL2 (fun E _ => body E)
theorem wf_iret {x : Int32} {Q : Int32 → Mm → Prop} (hd : decode μ.2.1 pc = .ok (.ireturn, 1)) (hr : μ.2.2.2 = some .int) (hq : Q x M) : Wp E K μ d f pc L [.int x] 168 M 0 0 (zI E K Q) := wp_iret hd hr ⟨_, rfl, hq⟩
theorem wf_zret {x : Int32} {Q : Int32 → Mm → Prop} (b : Bool) (hd : decode μ.2.1 pc = .ok (.ireturn, 1)) (hr : μ.2.2.2 = some .boolean) (hb : x = b2i b) (hq : Q (b2i b) M) : Wp E K μ d f pc L [.int x] 168 M 0 0 (zI E K Q) := by
  subst hb
  exact wp_zret hd hr (b2i_nar b) ⟨_, rfl, hq⟩
theorem wf_lret {x : Int64} {Q : Int64 → Mm → Prop} (hd : decode μ.2.1 pc = .ok (.lreturn, 1)) (hr : μ.2.2.2 = some .long) (hq : Q x M) : Wp E K μ d f pc L [.long x] 168 M 0 0 (zL E K Q) := wp_lret hd hr ⟨_, rfl, hq⟩
theorem wf_vret {Q : Mm → Prop} (hd : decode μ.2.1 pc = .ok (.return_, 1)) (hr : μ.2.2.2 = none) (hq : Q M) : Wp E K μ d f pc L [] 168 M 0 0 (zV E K Q) := wp_vret hd hr ⟨rfl, hq⟩
theorem wf_callVi {Q' : Int32 → Mm → Prop} {d' idx nn a ci : Nat} {μ' : MI} {As rest : List Value} {q : vw_C} (hd : decode μ.2.1 pc = .ok (.invokevirtual idx, 3)) (hw : CLv μ.1.cls idx μ' nn) (hC : Ci (el E) K d' μ' (.ref (K.1 + a) :: As) M Q') (ha : lk a = (ci, 0)) (hc : vwCl[ci]? = some q) (hq : q.1 = μ'.1.cls) (hst : st = As.reverse ++ .ref (K.1 + a) :: rest) (hlen : As.length = nn) (hcat : (rest.map fun v => v.category).sum ≤ 8) (hdd : d' < d) (hrm : k ≤ f.1 ∧ n ≤ f.2) (kk : ∀ r M', Q' r M' → Wp E K μ d f (pc + 3) L (.int r :: rest) 168 M' k n Z) : Wp E K μ d f pc L st 168 M k n Z :=
  wp_callV hd hw hC ha hc hq (lk_lt' ha (by have := cl_lt hc; omega)) hst hlen hcat hdd hrm (fun v M' h => by obtain ⟨r, rfl, h⟩ := h; exact kk r M' h)
theorem wf_callVl {Q' : Int64 → Mm → Prop} {d' idx nn a ci : Nat} {μ' : MI} {As rest : List Value} {q : vw_C} (hd : decode μ.2.1 pc = .ok (.invokevirtual idx, 3)) (hw : CLv μ.1.cls idx μ' nn) (hC : Cl (el E) K d' μ' (.ref (K.1 + a) :: As) M Q') (ha : lk a = (ci, 0)) (hc : vwCl[ci]? = some q) (hq : q.1 = μ'.1.cls) (hst : st = As.reverse ++ .ref (K.1 + a) :: rest) (hlen : As.length = nn) (hcat : (rest.map fun v => v.category).sum ≤ 8) (hdd : d' < d) (hrm : k ≤ f.1 ∧ n ≤ f.2) (kk : ∀ r M', Q' r M' → Wp E K μ d f (pc + 3) L (.long r :: rest) 168 M' k n Z) : Wp E K μ d f pc L st 168 M k n Z :=
  wp_callV hd hw hC ha hc hq (lk_lt' ha (by have := cl_lt hc; omega)) hst hlen hcat hdd hrm (fun v M' h => by obtain ⟨r, rfl, h⟩ := h; exact kk r M' h)
theorem wf_callVv {Q' : Mm → Prop} {d' idx nn a ci : Nat} {μ' : MI} {As rest : List Value} {q : vw_C} (hd : decode μ.2.1 pc = .ok (.invokevirtual idx, 3)) (hw : CLv μ.1.cls idx μ' nn) (hC : Cv (el E) K d' μ' (.ref (K.1 + a) :: As) M Q') (ha : lk a = (ci, 0)) (hc : vwCl[ci]? = some q) (hq : q.1 = μ'.1.cls) (hst : st = As.reverse ++ .ref (K.1 + a) :: rest) (hlen : As.length = nn) (hcat : (rest.map fun v => v.category).sum ≤ 8) (hdd : d' < d) (hrm : k ≤ f.1 ∧ n ≤ f.2) (kk : ∀ M', Q' M' → Wp E K μ d f (pc + 3) L rest 168 M' k n Z) : Wp E K μ d f pc L st 168 M k n Z :=
  wp_callV hd hw hC ha hc hq (lk_lt' ha (by have := cl_lt hc; omega)) hst hlen hcat hdd hrm (fun v M' h => by obtain ⟨rfl, h⟩ := h; exact kk M' h)
theorem wf_callSi {Q' : Int32 → Mm → Prop} {d' idx nn : Nat} {μ' : MI} {As rest : List Value} (hd : decode μ.2.1 pc = .ok (.invokestatic idx, 3)) (hw : CLs μ.1.cls idx μ' nn) (hC : Ci (el E) K d' μ' As M Q') (hst : st = As.reverse ++ rest) (hlen : As.length = nn) (hcat : (rest.map fun v => v.category).sum ≤ 8) (hdd : d' < d) (hrm : k ≤ f.1 ∧ n ≤ f.2) (kk : ∀ r M', Q' r M' → Wp E K μ d f (pc + 3) L (.int r :: rest) 168 M' k n Z) : Wp E K μ d f pc L st 168 M k n Z :=
  wp_callS hd hw hC hst hlen hcat hdd hrm (fun v M' h => by obtain ⟨r, rfl, h⟩ := h; exact kk r M' h)
theorem wf_callSl {Q' : Int64 → Mm → Prop} {d' idx nn : Nat} {μ' : MI} {As rest : List Value} (hd : decode μ.2.1 pc = .ok (.invokestatic idx, 3)) (hw : CLs μ.1.cls idx μ' nn) (hC : Cl (el E) K d' μ' As M Q') (hst : st = As.reverse ++ rest) (hlen : As.length = nn) (hcat : (rest.map fun v => v.category).sum ≤ 8) (hdd : d' < d) (hrm : k ≤ f.1 ∧ n ≤ f.2) (kk : ∀ r M', Q' r M' → Wp E K μ d f (pc + 3) L (.long r :: rest) 168 M' k n Z) : Wp E K μ d f pc L st 168 M k n Z :=
  wp_callS hd hw hC hst hlen hcat hdd hrm (fun v M' h => by obtain ⟨r, rfl, h⟩ := h; exact kk r M' h)
theorem wf_callSv {Q' : Mm → Prop} {d' idx nn : Nat} {μ' : MI} {As rest : List Value} (hd : decode μ.2.1 pc = .ok (.invokestatic idx, 3)) (hw : CLs μ.1.cls idx μ' nn) (hC : Cv (el E) K d' μ' As M Q') (hst : st = As.reverse ++ rest) (hlen : As.length = nn) (hcat : (rest.map fun v => v.category).sum ≤ 8) (hdd : d' < d) (hrm : k ≤ f.1 ∧ n ≤ f.2) (kk : ∀ M', Q' M' → Wp E K μ d f (pc + 3) L rest 168 M' k n Z) : Wp E K μ d f pc L st 168 M k n Z :=
  wp_callS hd hw hC hst hlen hcat hdd hrm (fun v M' h => by obtain ⟨rfl, h⟩ := h; exact kk M' h)
theorem wf_callSNi {Q' : Int32 → Mm → Prop} {d' idx nn : Nat} {host : String} {μ' : MI} {As rest : List Value} (hd : decode μ.2.1 pc = .ok (.invokestatic idx, 3)) (hw : CLsN μ.1.cls idx μ' nn host) (hC : Ci (el E) K d' μ' As M Q') (hst : st = As.reverse ++ rest) (hlen : As.length = nn) (hcat : (rest.map fun v => v.category).sum ≤ 8) (hdd : d' < d) (hrm : k ≤ f.1 ∧ n ≤ f.2) (kk : ∀ r M', Q' r M' → Wp E K μ d f (pc + 3) L (.int r :: rest) 168 M' k n Z) : Wp E K μ d f pc L st 168 M k n Z :=
  wp_callSN hd hw hC hst hlen hcat hdd hrm (fun v M' h => by obtain ⟨r, rfl, h⟩ := h; exact kk r M' h)
theorem wf_callSNl {Q' : Int64 → Mm → Prop} {d' idx nn : Nat} {host : String} {μ' : MI} {As rest : List Value} (hd : decode μ.2.1 pc = .ok (.invokestatic idx, 3)) (hw : CLsN μ.1.cls idx μ' nn host) (hC : Cl (el E) K d' μ' As M Q') (hst : st = As.reverse ++ rest) (hlen : As.length = nn) (hcat : (rest.map fun v => v.category).sum ≤ 8) (hdd : d' < d) (hrm : k ≤ f.1 ∧ n ≤ f.2) (kk : ∀ r M', Q' r M' → Wp E K μ d f (pc + 3) L (.long r :: rest) 168 M' k n Z) : Wp E K μ d f pc L st 168 M k n Z :=
  wp_callSN hd hw hC hst hlen hcat hdd hrm (fun v M' h => by obtain ⟨r, rfl, h⟩ := h; exact kk r M' h)
theorem wf_callSNv {Q' : Mm → Prop} {d' idx nn : Nat} {host : String} {μ' : MI} {As rest : List Value} (hd : decode μ.2.1 pc = .ok (.invokestatic idx, 3)) (hw : CLsN μ.1.cls idx μ' nn host) (hC : Cv (el E) K d' μ' As M Q') (hst : st = As.reverse ++ rest) (hlen : As.length = nn) (hcat : (rest.map fun v => v.category).sum ≤ 8) (hdd : d' < d) (hrm : k ≤ f.1 ∧ n ≤ f.2) (kk : ∀ M', Q' M' → Wp E K μ d f (pc + 3) L rest 168 M' k n Z) : Wp E K μ d f pc L st 168 M k n Z :=
  wp_callSN hd hw hC hst hlen hcat hdd hrm (fun v M' h => by obtain ⟨rfl, h⟩ := h; exact kk M' h)
end WF
end
section
/-! constants as the walk writes them -/
theorem bp_m9 : (Int8.ofInt (-9)).toInt32 = (-9 : Int32) := by decide +kernel
theorem bp_m4 : (Int8.ofInt (-4)).toInt32 = (-4 : Int32) := by decide +kernel
theorem bp_m3 : (Int8.ofInt (-3)).toInt32 = (-3 : Int32) := by decide +kernel
theorem bp_m2 : (Int8.ofInt (-2)).toInt32 = (-2 : Int32) := by decide +kernel
theorem bp_6 : (Int8.ofInt (6)).toInt32 = nI 6 := by decide +kernel
theorem bp_7 : (Int8.ofInt (7)).toInt32 = nI 7 := by decide +kernel
theorem bp_8 : (Int8.ofInt (8)).toInt32 = nI 8 := by decide +kernel
theorem bp_9 : (Int8.ofInt (9)).toInt32 = nI 9 := by decide +kernel
theorem bp_10 : (Int8.ofInt (10)).toInt32 = nI 10 := by decide +kernel
theorem bp_12 : (Int8.ofInt (12)).toInt32 = nI 12 := by decide +kernel
theorem bp_13 : (Int8.ofInt (13)).toInt32 = nI 13 := by decide +kernel
theorem bp_14 : (Int8.ofInt (14)).toInt32 = nI 14 := by decide +kernel
theorem bp_15 : (Int8.ofInt (15)).toInt32 = nI 15 := by decide +kernel
theorem bp_16 : (Int8.ofInt (16)).toInt32 = nI 16 := by decide +kernel
theorem bp_18 : (Int8.ofInt (18)).toInt32 = nI 18 := by decide +kernel
theorem bp_19 : (Int8.ofInt (19)).toInt32 = nI 19 := by decide +kernel
theorem bp_24 : (Int8.ofInt (24)).toInt32 = nI 24 := by decide +kernel
theorem bp_25 : (Int8.ofInt (25)).toInt32 = nI 25 := by decide +kernel
theorem bp_30 : (Int8.ofInt (30)).toInt32 = nI 30 := by decide +kernel
theorem bp_31 : (Int8.ofInt (31)).toInt32 = nI 31 := by decide +kernel
theorem bp_32 : (Int8.ofInt (32)).toInt32 = nI 32 := by decide +kernel
theorem bp_33 : (Int8.ofInt (33)).toInt32 = nI 33 := by decide +kernel
theorem bp_45 : (Int8.ofInt (45)).toInt32 = nI 45 := by decide +kernel
theorem bp_48 : (Int8.ofInt (48)).toInt32 = nI 48 := by decide +kernel
theorem bp_50 : (Int8.ofInt (50)).toInt32 = nI 50 := by decide +kernel
theorem bp_57 : (Int8.ofInt (57)).toInt32 = nI 57 := by decide +kernel
theorem bp_60 : (Int8.ofInt (60)).toInt32 = nI 60 := by decide +kernel
theorem bp_63 : (Int8.ofInt (63)).toInt32 = nI 63 := by decide +kernel
theorem bp_68 : (Int8.ofInt (68)).toInt32 = nI 68 := by decide +kernel
theorem bp_76 : (Int8.ofInt (76)).toInt32 = nI 76 := by decide +kernel
theorem bp_77 : (Int8.ofInt (77)).toInt32 = nI 77 := by decide +kernel
theorem bp_80 : (Int8.ofInt (80)).toInt32 = nI 80 := by decide +kernel
theorem bp_99 : (Int8.ofInt (99)).toInt32 = nI 99 := by decide +kernel
theorem ic_m1 : Int32.ofInt (-1) = (-1 : Int32) := by decide +kernel
theorem ic_0 : Int32.ofInt (0) = nI 0 := by decide +kernel
theorem ic_1 : Int32.ofInt (1) = nI 1 := by decide +kernel
theorem ic_2 : Int32.ofInt (2) = nI 2 := by decide +kernel
theorem ic_3 : Int32.ofInt (3) = nI 3 := by decide +kernel
theorem ic_4 : Int32.ofInt (4) = nI 4 := by decide +kernel
theorem ic_5 : Int32.ofInt (5) = nI 5 := by decide +kernel
theorem sp_255 : (Int16.ofInt (255)).toInt32 = nI 255 := by decide +kernel
theorem sp_325 : (Int16.ofInt (325)).toInt32 = nI 325 := by decide +kernel
theorem sp_350 : (Int16.ofInt (350)).toInt32 = nI 350 := by decide +kernel
theorem sp_9999 : (Int16.ofInt (9999)).toInt32 = nI 9999 := by decide +kernel
section WF2
variable {E : EnvT} {K : CtxT} {μ : MI} {d : Nat} {f : Nat × Nat} {pc : Nat} {L : List (Option Value)} {st : List Value} {nx : Nat} {M : Mm} {k n : Nat} {Z : State → Prop}
theorem wp_iinc1 {i j : Nat} {L' : List (Option Value)} (hd : decode μ.2.1 pc = .ok (.iinc i 1, 3)) (hx : L[i]? = some (some (.int (nI j)))) (hk : nolong L i = true) (hL : L.set i (some (.int (nI (j + 1)))) = L') (kk : Wp E K μ d f (pc + 3) L' st nx M k n Z) : Wp E K μ d f pc L st nx M k n Z :=
  wp_iinc (L' := L') hd hx hk (by rw [show nI j + Int32.ofInt 1 = nI (j + 1) from nI_1 j]; exact hL) kk
theorem wp_iremN {a b : Nat} {x y : Int32} (hd : decode μ.2.1 pc = .ok (.irem, 1)) (hx : x = nI a) (hy : y = nI b) (ha : a < 2 ^ 31) (hb : 0 < b) (hb2 : b < 2 ^ 31) (kk : Wp E K μ d f (pc + 1) L (.int (nI (a % b)) :: st) nx M k n Z) : Wp E K μ d f pc L (.int y :: .int x :: st) nx M k n Z := by
  subst hx hy
  exact wp_irem hd (nI_ne0 hb hb2) (by rw [pk_rem ha hb hb2]; exact kk)
theorem wp_idivN {a b : Nat} {x y : Int32} (hd : decode μ.2.1 pc = .ok (.idiv, 1)) (hx : x = nI a) (hy : y = nI b) (ha : a < 2 ^ 31) (hb : 0 < b) (hb2 : b < 2 ^ 31) (kk : Wp E K μ d f (pc + 1) L (.int (nI (a / b)) :: st) nx M k n Z) : Wp E K μ d f pc L (.int y :: .int x :: st) nx M k n Z := by
  subst hx hy
  exact wp_idiv hd (nI_ne0 hb hb2) (by rw [pk_div ha hb hb2]; exact kk)
/-- a name for the number on top -/
theorem wp_top {x : Int32} (y : Int32) (h : x = y) (kk : Wp E K μ d f pc L (.int y :: st) nx M k n Z) : Wp E K μ d f pc L (.int x :: st) nx M k n Z := by
  subst h
  exact kk
theorem wp_mem {M' : Mm} (h : M = M') (kk : Wp E K μ d f pc L st nx M' k n Z) : Wp E K μ d f pc L st nx M k n Z := by
  subst h
  exact kk
end WF2
end
section
/-! rows on bits, shifts and unsigned numbers, to paste: each family out of a closed proof of our own, whole with what it rests on; each by itself clean at Lean in its own claim (generation 39, form 5). Take a family whole -/
/-! ===== Int32 by its bits: bt x i ===== -/
def bt (x : Int32) (i : Nat) : Bool := x.toBitVec.getLsbD i
theorem b_ext {x y : Int32} (h : ∀ i, i < 32 → bt x i = bt y i) : x = y := Int32.toBitVec_inj.mp (BitVec.eq_of_getLsbD_eq (fun i hi => h i hi))
theorem b_or (x y : Int32) (i : Nat) : bt (x ||| y) i = (bt x i || bt y i) := by unfold bt; rw [Int32.toBitVec_or, BitVec.getLsbD_or]
theorem b_and (x y : Int32) (i : Nat) : bt (x &&& y) i = (bt x i && bt y i) := by unfold bt; rw [Int32.toBitVec_and, BitVec.getLsbD_and]
theorem b_xor (x y : Int32) (i : Nat) : bt (x ^^^ y) i = (bt x i ^^ bt y i) := by unfold bt; rw [Int32.toBitVec_xor, BitVec.getLsbD_xor]
theorem b_big {x : Int32} {i : Nat} (h : 32 ≤ i) : bt x i = false := BitVec.getLsbD_of_ge _ _ h
theorem b_255 (i : Nat) : bt 255 i = decide (i < 8) := by
  rcases Nat.lt_or_ge i 32 with h | h
  · exact (by decide +kernel : ∀ i, i < 32 → bt 255 i = decide (i < 8)) i h
  · rw [b_big h, decide_eq_false (by omega)]
theorem b_65535 (i : Nat) : bt 65535 i = decide (i < 16) := by
  rcases Nat.lt_or_ge i 32 with h | h
  · exact (by decide +kernel : ∀ i, i < 32 → bt 65535 i = decide (i < 16)) i h
  · rw [b_big h, decide_eq_false (by omega)]
theorem b_m1 : ∀ i, i < 32 → bt (-1) i = true := by decide +kernel
theorem b_0 (i : Nat) : bt 0 i = false := BitVec.getLsbD_zero
theorem s_l : ∀ n, n < 32 → ((nI n &&& 31).toBitVec.smod 32).toNat = n := by decide +kernel
theorem s_u : ∀ n, n < 32 → (((nI n).toUInt32 &&& Int32.toUInt32 31).toBitVec % 32).toNat = n := by decide +kernel
theorem b_shl (n : Nat) (hn : n < 32) (x : Int32) {i : Nat} (hi : i < 32) : bt (x <<< (nI n &&& 31)) i = (decide (n ≤ i) && bt x (i - n)) := by
  unfold bt
  rw [Int32.toBitVec_shiftLeft]
  show (x.toBitVec <<< ((nI n &&& 31).toBitVec.smod 32).toNat).getLsbD i = _
  rw [s_l n hn, BitVec.getLsbD_shiftLeft]
  rcases Nat.lt_or_ge i n with h | h
  · simp [h, Nat.not_le.mpr h]
  · simp [hi, h, Nat.not_lt.mpr h]
theorem b_ushr (n : Nat) (hn : n < 32) (x : Int32) (i : Nat) : bt ((x.toUInt32 >>> ((nI n).toUInt32 &&& Int32.toUInt32 31)).toInt32) i = bt x (n + i) := by
  show (x.toUInt32 >>> ((nI n).toUInt32 &&& Int32.toUInt32 31)).toBitVec.getLsbD i = x.toUInt32.toBitVec.getLsbD (n + i)
  rw [UInt32.toBitVec_shiftRight]
  show (x.toUInt32.toBitVec >>> (((nI n).toUInt32 &&& Int32.toUInt32 31).toBitVec % 32).toNat).getLsbD i = _
  rw [s_u n hn, BitVec.getLsbD_ushiftRight]
theorem b_sshr (n : Nat) (hn : n < 32) (x : Int32) {i : Nat} (hi : i < 32) : bt (x >>> (nI n &&& 31)) i = if n + i < 32 then bt x (n + i) else bt x 31 := by
  unfold bt
  rw [Int32.toBitVec_shiftRight]
  show (x.toBitVec.sshiftRight ((nI n &&& 31).toBitVec.smod 32).toNat).getLsbD i = _
  rw [s_l n hn, BitVec.getLsbD_sshiftRight, BitVec.msb_eq_getLsbD_last]
  simp [hi]
theorem b_shl8 (x : Int32) {i : Nat} (hi : i < 32) : bt (x <<< ((8 : Int32) &&& 31)) i = (decide (8 ≤ i) && bt x (i - 8)) := b_shl 8 (by omega) x hi
theorem b_shl16 (x : Int32) {i : Nat} (hi : i < 32) : bt (x <<< ((16 : Int32) &&& 31)) i = (decide (16 ≤ i) && bt x (i - 16)) := b_shl 16 (by omega) x hi
theorem b_shl24 (x : Int32) {i : Nat} (hi : i < 32) : bt (x <<< ((24 : Int32) &&& 31)) i = (decide (24 ≤ i) && bt x (i - 24)) := b_shl 24 (by omega) x hi
theorem b_sshr8 (x : Int32) {i : Nat} (hi : i < 32) : bt (x >>> ((8 : Int32) &&& 31)) i = if 8 + i < 32 then bt x (8 + i) else bt x 31 := b_sshr 8 (by omega) x hi
/-! ===== nI under and, xor, >>>, one bit, 65535 ===== -/
theorem nx_and (a b : Nat) : nI a &&& nI b = nI (a &&& b) := by
  apply Int32.toBitVec_inj.1
  show BitVec.ofNat 32 a &&& BitVec.ofNat 32 b = BitVec.ofNat 32 (a &&& b)
  apply BitVec.eq_of_getLsbD_eq
  intro i hi
  simp [hi]
theorem nx_xor (a b : Nat) : nI a ^^^ nI b = nI (a ^^^ b) := by
  apply Int32.toBitVec_inj.1
  show BitVec.ofNat 32 a ^^^ BitVec.ofNat 32 b = BitVec.ofNat 32 (a ^^^ b)
  apply BitVec.eq_of_getLsbD_eq
  intro i hi
  simp [hi]
/-! what a law, a town are, as numbers -/
abbrev Pg : Type := Nat → Int32
/-- a law: how many dogs, men; leash; round, rank, room, parent, who sings -/
abbrev Lw : Type := Nat × Nat × Int32 × Pg × Pg × Pg × Pg × Pg
abbrev lD (Λ : Lw) : Nat := Λ.1
abbrev lM (Λ : Lw) : Nat := Λ.2.1
abbrev lLe (Λ : Lw) : Int32 := Λ.2.2.1
abbrev lRo (Λ : Lw) : Pg := Λ.2.2.2.1
abbrev lRa (Λ : Lw) : Pg := Λ.2.2.2.2.1
abbrev lRm (Λ : Lw) : Pg := Λ.2.2.2.2.2.1
abbrev lPa (Λ : Lw) : Pg := Λ.2.2.2.2.2.2.1
abbrev lSi (Λ : Lw) : Pg := Λ.2.2.2.2.2.2.2
/-- nobody: -9 -/
abbrev no9 : Int32 := -9
def inD (x : Int32) (n : Nat) : Bool := !decide (x < 0) && !decide (nI n ≤ x)
theorem inD_of {x : Int32} {n : Nat} (h : inD x n = true) (hn : n < 2 ^ 31) : ∃ j, j < n ∧ x = nI j := by
  simp only [inD, Bool.and_eq_true, Bool.not_eq_true', decide_eq_false_iff_not] at h
  obtain ⟨j, hj, rfl⟩ := nI_of h.1
  refine ⟨j, ?_, rfl⟩
  rcases Nat.lt_or_ge j n with q | q
  · exact q
  · exact absurd (nI_le q hj) h.2
theorem inD_nI {j n : Nat} (hn : n < 2 ^ 31) (hj : j < n) : inD (nI j) n = true := by
  simp only [inD, Bool.and_eq_true, Bool.not_eq_true', decide_eq_false_iff_not]
  exact ⟨nI_pos (by omega), nI_ge hj hn⟩
theorem inD_no {n : Nat} : inD no9 n = false := by
  have : no9 < 0 := by decide
  simp [inD, this]
/-- one bit -/
abbrev bit (m : Nat) : Int32 := nI 1 <<< (nI m &&& 31)
abbrev bat (x : Int32) (m : Nat) : Int32 := (x >>> (nI m &&& 31)) &&& nI 1
/-- what holds of a law -/
def OkL (Λ : Lw) : Prop := lD Λ ≤ 4 ∧ lM Λ ≤ 5 ∧ (∃ h, h ≤ 12 ∧ lLe Λ = nI h) ∧ (∀ i, i < 4 → ∃ s, s < 5 ∧ lRo Λ i = nI s) ∧
  (∀ d, d < lD Λ → (∃ r, r ≤ 9 ∧ lRa Λ d = nI r) ∧ (∃ r, 1 ≤ r ∧ r ≤ 3 ∧ lRm Λ d = nI r) ∧ (lPa Λ d = no9 ∨ ∃ q, q < lD Λ ∧ lPa Λ d = nI q)) ∧ (∀ m, m < lM Λ → lSi Λ m = nI 0 ∨ lSi Λ m = nI 1)
/-- how many dogs and men at most -/
def OkN (Λ : Lw) : Prop := lD Λ ≤ 4 ∧ lM Λ ≤ 5 ∧ True
theorem OkL.N {Λ : Lw} (h : OkL Λ) : OkN Λ := ⟨h.1, h.2.1, trivial⟩
/-- what holds of a town: a page of 25 numbers: 0 streets of dogs, 4 bones, 8 keepers, 13 streets of men, 18 who is leashed, 19 sentences, 24 the hour -/
def OkP (Λ : Lw) (P : Pg) (h : Nat) : Prop := P 24 = nI h ∧ (∀ d, d < lD Λ → ∃ s, s < 5 ∧ P d = nI s) ∧
  (∀ m, m < lM Λ → (P (8 + m) = no9 ∨ ∃ d, d < lD Λ ∧ P (8 + m) = nI d) ∧ (∃ s, s < 5 ∧ P (13 + m) = nI s) ∧ (∃ s, s ≤ 3 ∧ P (19 + m) = nI s) ∧ (∀ d, d < lD Λ → P (8 + m) = nI d → P (19 + m) = nI 0 → P (13 + m) = P d)) ∧
  (∀ d, lD Λ ≤ d → d < 4 → P d = 0 ∧ P (4 + d) = 0) ∧ (∀ m, lM Λ ≤ m → m < 5 → P (8 + m) = 0 ∧ P (13 + m) = 0 ∧ P (19 + m) = 0)
/-- a law at the cell w of the class -/
def XL (M : Mm) (w : Nat) (Λ : Lw) : Prop := M.1 w 0 = nI (lD Λ) ∧ M.1 w 1 = nI (lM Λ) ∧ M.1 w 2 = lLe Λ ∧ (∀ m, m < lM Λ → (bat (M.1 w 3) m = nI 1 ↔ lSi Λ m = nI 1)) ∧ (∀ i, i < 4 → M.1 (w + 1) i = lRo Λ i) ∧
  ∀ d, d < lD Λ → M.1 (w + 2) d = lRa Λ d ∧ M.1 (w + 3) d = lRm Λ d ∧ M.1 (w + 4) d = lPa Λ d
/-- a town at the cell t of the class -/
def XT (M : Mm) (t : Nat) (Λ : Lw) (P : Pg) : Prop := M.1 t 0 = P 24 ∧ M.1 t 1 = P 18 ∧ (∀ d, d < lD Λ → M.1 (t + 1) d = P d ∧ M.1 (t + 2) d = P (4 + d)) ∧
  ∀ m, m < lM Λ → M.1 (t + 3) m = P (8 + m) ∧ M.1 (t + 4) m = P (13 + m) ∧ M.1 (t + 5) m = P (19 + m)
/-- a page at the cell p of the reference, from the place o on -/
def MT (M : Mm) (p o : Nat) (P : Pg) : Prop := ∀ j, j < 25 → M.1 p (o + j) = P j
/-- the same but for the cells lo .. hi - 1 -/
def Sm (lo hi : Nat) (M M' : Mm) : Prop := M'.2 = M.2 ∧ ∀ a, (a < lo ∨ hi ≤ a) → ∀ k, M'.1 a k = M.1 a k
theorem Sm.rf {lo hi : Nat} {M : Mm} : Sm lo hi M M := ⟨rfl, fun _ _ _ => rfl⟩
theorem Sm.tr {lo hi : Nat} {M M1 M2 : Mm} (h1 : Sm lo hi M M1) (h2 : Sm lo hi M1 M2) : Sm lo hi M M2 := ⟨h2.1.trans h1.1, fun a ha k => (h2.2 a ha k).trans (h1.2 a ha k)⟩
theorem Sm.up {lo hi lo' hi' : Nat} {M M1 : Mm} (h : Sm lo hi M M1) (hl : lo' ≤ lo) (hh : hi ≤ hi') : Sm lo' hi' M M1 := ⟨h.1, fun a ha k => h.2 a (by omega) k⟩
theorem Sm.w {lo hi a k : Nat} {M : Mm} {x : Int32} (h1 : lo ≤ a) (h2 : a < hi) : Sm lo hi M (wI M a k x) := ⟨rfl, fun b hb j => by simp [wI, show b ≠ a by omega]⟩
theorem Sm.c {lo hi a0 sp a dp n : Nat} {M : Mm} (h1 : lo ≤ a) (h2 : a < hi) : Sm lo hi M (wC M a0 sp a dp n) := ⟨rfl, fun b hb j => by simp [wC, show b ≠ a by omega]⟩
theorem Sm.rs {lo hi : Nat} {M M' : Mm} (h : Sm lo hi M M') (hR : RS M) : RS M' := hR.of (by rw [h.1])
theorem wI_at (M : Mm) (a k : Nat) (x : Int32) : (wI M a k x).1 a k = x := by simp [wI]
theorem wI_nk {M : Mm} {a k j : Nat} {x : Int32} (h : j ≠ k) : (wI M a k x).1 a j = M.1 a j := by simp [wI, h]
theorem wI_na {M : Mm} {a k b j : Nat} {x : Int32} (h : b ≠ a) : (wI M a k x).1 b j = M.1 b j := by simp [wI, h]
theorem XT.sm {M M' : Mm} {lo hi t : Nat} {Λ : Lw} {P : Pg} (h : XT M t Λ P) (s : Sm lo hi M M') (ho : t + 6 ≤ lo ∨ hi ≤ t) : XT M' t Λ P := by
  obtain ⟨h1, h2, h3, h4⟩ := h
  have e : ∀ i, i < 6 → ∀ k, M'.1 (t + i) k = M.1 (t + i) k := fun i hi k => s.2 _ (by omega) k
  refine ⟨(e 0 (by omega) 0).trans h1, (e 0 (by omega) 1).trans h2, fun d hd => ?_, fun m hm => ?_⟩
  · rw [e 1 (by omega), e 2 (by omega)]; exact h3 d hd
  · rw [e 3 (by omega), e 4 (by omega), e 5 (by omega)]; exact h4 m hm
theorem XL.sm {M M' : Mm} {lo hi w : Nat} {Λ : Lw} (h : XL M w Λ) (s : Sm lo hi M M') (ho : w + 5 ≤ lo ∨ hi ≤ w) : XL M' w Λ := by
  obtain ⟨h1, h2, h3, h4, h5, h6⟩ := h
  have e : ∀ i, i < 5 → ∀ k, M'.1 (w + i) k = M.1 (w + i) k := fun i hi k => s.2 _ (by omega) k
  have e0 := e 0 (by omega)
  rw [Nat.add_zero] at e0
  refine ⟨(e0 0).trans h1, (e0 1).trans h2, (e0 2).trans h3, fun m hm => ?_, fun i hi => ?_, fun d hd => ?_⟩
  · rw [e0 3]; exact h4 m hm
  · rw [e 1 (by omega)]; exact h5 i hi
  · rw [e 2 (by omega), e 3 (by omega), e 4 (by omega)]; exact h6 d hd
/-! one place of a town written: the page has it -/
theorem XT.hour {M : Mm} {t : Nat} {Λ : Lw} {P : Pg} (h : XT M t Λ P) (hL : lD Λ ≤ 4 ∧ lM Λ ≤ 5) (x : Int32) : XT (wI M t 0 x) t Λ (upd P 24 x) := by
  obtain ⟨h1, h2, h3, h4⟩ := h
  refine ⟨by simp [wI, upd], by simp [wI, upd, h2], fun d hd => ?_, fun m hm => ?_⟩
  · have := h3 d hd
    simp [wI, upd, this, show d ≠ 24 by omega, show 4 + d ≠ 24 by omega]
  · have := h4 m hm
    simp [wI, upd, this, show 8 + m ≠ 24 by omega, show 13 + m ≠ 24 by omega, show 19 + m ≠ 24 by omega]
theorem XT.leash {M : Mm} {t : Nat} {Λ : Lw} {P : Pg} (h : XT M t Λ P) (hL : lD Λ ≤ 4 ∧ lM Λ ≤ 5) (x : Int32) : XT (wI M t 1 x) t Λ (upd P 18 x) := by
  obtain ⟨h1, h2, h3, h4⟩ := h
  refine ⟨by simp [wI, upd, h1], by simp [wI, upd], fun d hd => ?_, fun m hm => ?_⟩
  · have := h3 d hd
    simp [wI, upd, this, show d ≠ 18 by omega, show 4 + d ≠ 18 by omega]
  · have := h4 m hm
    simp [wI, upd, this, show 8 + m ≠ 18 by omega, show 13 + m ≠ 18 by omega, show 19 + m ≠ 18 by omega]
theorem XT.dog {M : Mm} {t d0 : Nat} {Λ : Lw} {P : Pg} (h : XT M t Λ P) (hL : lD Λ ≤ 4 ∧ lM Λ ≤ 5) (hd0 : d0 < 4) (x : Int32) : XT (wI M (t + 1) d0 x) t Λ (upd P d0 x) := by
  obtain ⟨h1, h2, h3, h4⟩ := h
  refine ⟨by simp [wI, upd, h1, show (24 : Nat) ≠ d0 by omega], by simp [wI, upd, h2, show (18 : Nat) ≠ d0 by omega], fun d hd => ?_, fun m hm => ?_⟩
  · have := h3 d hd
    simp [wI, upd, this, show 4 + d ≠ d0 by omega]
  · have := h4 m hm
    simp [wI, upd, this, show 8 + m ≠ d0 by omega, show 13 + m ≠ d0 by omega, show 19 + m ≠ d0 by omega]
theorem XT.bone {M : Mm} {t d0 : Nat} {Λ : Lw} {P : Pg} (h : XT M t Λ P) (hL : lD Λ ≤ 4 ∧ lM Λ ≤ 5) (hd0 : d0 < 4) (x : Int32) : XT (wI M (t + 2) d0 x) t Λ (upd P (4 + d0) x) := by
  obtain ⟨h1, h2, h3, h4⟩ := h
  refine ⟨by simp [wI, upd, h1, show (24 : Nat) ≠ 4 + d0 by omega], by simp [wI, upd, h2, show (18 : Nat) ≠ 4 + d0 by omega], fun d hd => ?_, fun m hm => ?_⟩
  · have := h3 d hd
    simp [wI, upd, this, show d ≠ 4 + d0 by omega]
  · have := h4 m hm
    simp [wI, upd, this, show 8 + m ≠ 4 + d0 by omega, show 13 + m ≠ 4 + d0 by omega, show 19 + m ≠ 4 + d0 by omega]
theorem XT.keeper {M : Mm} {t m0 : Nat} {Λ : Lw} {P : Pg} (h : XT M t Λ P) (hL : lD Λ ≤ 4 ∧ lM Λ ≤ 5) (hm0 : m0 < 5) (x : Int32) : XT (wI M (t + 3) m0 x) t Λ (upd P (8 + m0) x) := by
  obtain ⟨h1, h2, h3, h4⟩ := h
  refine ⟨by simp [wI, upd, h1, show (24 : Nat) ≠ 8 + m0 by omega], by simp [wI, upd, h2, show (18 : Nat) ≠ 8 + m0 by omega], fun d hd => ?_, fun m hm => ?_⟩
  · have := h3 d hd
    simp [wI, upd, this, show d ≠ 8 + m0 by omega, show 4 + d ≠ 8 + m0 by omega]
  · have := h4 m hm
    simp [wI, upd, this, show 13 + m ≠ 8 + m0 by omega, show 19 + m ≠ 8 + m0 by omega]
theorem XT.man {M : Mm} {t m0 : Nat} {Λ : Lw} {P : Pg} (h : XT M t Λ P) (hL : lD Λ ≤ 4 ∧ lM Λ ≤ 5) (hm0 : m0 < 5) (x : Int32) : XT (wI M (t + 4) m0 x) t Λ (upd P (13 + m0) x) := by
  obtain ⟨h1, h2, h3, h4⟩ := h
  refine ⟨by simp [wI, upd, h1, show (24 : Nat) ≠ 13 + m0 by omega], by simp [wI, upd, h2, show (18 : Nat) ≠ 13 + m0 by omega], fun d hd => ?_, fun m hm => ?_⟩
  · have := h3 d hd
    simp [wI, upd, this, show d ≠ 13 + m0 by omega, show 4 + d ≠ 13 + m0 by omega]
  · have := h4 m hm
    simp [wI, upd, this, show 8 + m ≠ 13 + m0 by omega, show 19 + m ≠ 13 + m0 by omega]
theorem XT.sent {M : Mm} {t m0 : Nat} {Λ : Lw} {P : Pg} (h : XT M t Λ P) (hL : lD Λ ≤ 4 ∧ lM Λ ≤ 5) (hm0 : m0 < 5) (x : Int32) : XT (wI M (t + 5) m0 x) t Λ (upd P (19 + m0) x) := by
  obtain ⟨h1, h2, h3, h4⟩ := h
  refine ⟨by simp [wI, upd, h1, show (24 : Nat) ≠ 19 + m0 by omega], by simp [wI, upd, h2, show (18 : Nat) ≠ 19 + m0 by omega], fun d hd => ?_, fun m hm => ?_⟩
  · have := h3 d hd
    simp [wI, upd, this, show d ≠ 19 + m0 by omega, show 4 + d ≠ 19 + m0 by omega]
  · have := h4 m hm
    simp [wI, upd, this, show 8 + m ≠ 19 + m0 by omega, show 13 + m ≠ 19 + m0 by omega]
/-! the acts of a town -/
/-- a street by a way: 0 stays, 1 on, 2 back -/
def stN (s w : Nat) : Nat := (s + (if w = 2 then 4 else w)) % 5
def sN (P : Pg) (d : Nat) : Nat := (P d).toNatClampNeg
/-- the first i men have gone with the dog d to the street s -/
def goPn (P : Pg) (d s i : Nat) : Pg := fun j => if j = d then nI s else if 13 ≤ j ∧ j < 13 + i ∧ P (8 + (j - 13)) = nI d ∧ ¬ 0 < P (19 + (j - 13)) then nI s else P j
def goP (Λ : Lw) (P : Pg) (d w : Nat) : Pg := goPn P d (stN (sN P d) w) (lM Λ)
/-- a man's hour behind bars -/
def servP (P : Pg) (m : Nat) : Pg :=
  if ¬ 0 < P (19 + m) - nI 1 ∧ P (8 + m) ≠ no9 then upd (upd P (19 + m) (P (19 + m) - nI 1)) (13 + m) (P (P (8 + m)).toNatClampNeg) else upd P (19 + m) (P (19 + m) - nI 1)
/-- a man is caught -/
def catP (P : Pg) (m : Nat) : Pg :=
  if P (8 + m) ≠ no9 then upd (upd P (19 + m) (nI 3)) (4 + (P (8 + m)).toNatClampNeg) (P (4 + (P (8 + m)).toNatClampNeg) + nI 2) else upd P (19 + m) (nI 3)
def mayP (Λ : Lw) (P : Pg) (m : Nat) (late : Bool) : Bool := decide (P (8 + m) = no9) || (!decide (bat (P 18) m = nI 1) && (late || decide (lSi Λ m = nI 1)))
def hstP (Λ : Lw) (late : Bool) (wd : Int32) (c : Int32 × Pg) (m : Nat) : Int32 × Pg :=
  if 0 < c.2 (19 + m) then (c.1, servP c.2 m) else if c.2 (13 + m) = wd ∧ mayP Λ c.2 m late = true then (c.1 ||| bit m, catP c.2 m) else c
def hitP (Λ : Lw) (late : Bool) (wd : Int32) (c : Int32 × Pg) : Nat → Int32 × Pg
  | 0 => c
  | m + 1 => hstP Λ late wd (hitP Λ late wd c m) m
/-- an hour, by a leash, the round so many farther, at the hour h: who is caught, and the page -/
def hourP (Λ : Lw) (P : Pg) (h far : Nat) (by_ : Int32) : Int32 × Pg :=
  let c := hitP Λ (decide (by_ ≤ nI (h % 12))) (lRo Λ ((h + far) % 4)) (nI 0, P) (lM Λ)
  (c.1, upd c.2 24 (c.2 24 + nI 1))
end
section
/-- a contract of a method of java/lang/Math -/
theorem ciF_of {l : Launch} {K : CtxT} {d : Nat} {μ : MI} {vs : List Value} {M : Mm} {Q : Int32 → Mm → Prop} {L : List (Option Value)} (hp : plainFor μ.1 = true) (hlen : (lg_sl vs).length ≤ μ.2.2.1) (hL : enl vs ++ List.replicate (μ.2.2.1 - (enl vs).length) none = L) (hL2 : L.length = μ.2.2.1)
    (body : ∀ E : EnvT, Wp E K μ d (0, 0) 0 L [] 168 M 0 0 (zI E K Q)) : Ci l K d μ vs M Q := by
  unfold Ci Ct Met
  refine MetFree.of_bodySF (code := μ.2.1) (maxLocals := μ.2.2.1) (ret := μ.2.2.2) hp ?_ ?_
  · intro args s m h hn
    obtain ⟨meth, c, h1, h2, h3, h4, h5, h6, -, -⟩ := Cond.code_spec hn (atoms_spec (ws := Jvm.Cond.code μ.1 μ.2.1 μ.2.2.1 μ.2.2.2 :: gw) h _ List.mem_cons_self)
    exact ⟨meth, c, h1, h2, h3, h4, h5, h6⟩
  · intro p e s m args below meth c s₁ B hml hv _
    have hh0 : s₁.heap = s.heap := by rw [B.state]; rfl
    obtain ⟨rfl, hP, hK, hsz⟩ := hv
    have hts := atoms_spec (ws := Jvm.Cond.code μ.1 μ.2.1 μ.2.2.1 μ.2.2.2 :: gw) B.pre
    have hown : s.vm.findClass μ.1.cls = some m.cls := findClass_of_methodNamed B.named
    have h := body (p, l, e, rmD d 0 0, s, m, vs.toArray, below, meth, c) ⟨B.exec, B.bytes, hml, hown, fun w hw => hts w (List.mem_cons_of_mem _ hw), B.returns, B.notSynchronized, hK, (name_of_methodNamed B.named B.method).1, Nat.le_refl _, Nat.le_refl _, Nat.le_refl _, Nat.le_refl _, hsz⟩ s.heap []
    have hl := lv_entry vs (n := μ.2.2.1) hlen
    have hW := h _ hP va_S.rf ⟨hL2, _, hl, fun i v hi => by
      subst hL
      rcases Nat.lt_or_ge i (enl vs).length with q | q
      · rw [List.getElem?_append_left q] at hi
        have := enl_in vs 0 i v hi
        rwa [Nat.zero_add] at this
      · rw [List.getElem?_append_right q, List.getElem?_replicate] at hi
        split at hi <;> cases hi⟩
    obtain ⟨t, a1, o, b1, b2, b3⟩ := hW s₁ hh0 (Stand.of_body B)
    rw [lg_entry_eq]
    exact ⟨t, o, a1, b1, b2, ⟨b3.1, b3.2⟩⟩
theorem xor_pos {a b : Nat} (ha : a < 2 ^ 31) (hb : b < 2 ^ 31) : 0 ≤ nI a ^^^ nI b := by
  rw [nx_xor]
  exact nI_pos' (Nat.xor_lt_two_pow ha hb)
theorem c_floorMod {l : Launch} {K : CtxT} {M : Mm} {a b : Nat} (ha : a < 2 ^ 31) (hb : 0 < b) (hb2 : b < 2 ^ 31) : Ci l K 0 mJ9_floorMod_7cf53 [.int (nI a), .int (nI b)] M (fun r M' => r = nI (a % b) ∧ M' = M) := by
  refine ciF_of (L := [some (.int (nI a)), some (.int (nI b)), none]) (by decide +kernel) (Nat.le_of_ble_eq_true rfl) rfl rfl (fun E => ?_)
  refine wp_iload_n (pc := 0) dJ9_floorMod_7cf53_0 rfl ?_
  refine wp_iload_n (pc := 1) dJ9_floorMod_7cf53_1 rfl ?_
  refine wp_iremN (pc := 2) dJ9_floorMod_7cf53_2 rfl rfl ha hb hb2 ?_
  refine wp_istore_n (pc := 3) (L' := [_, _, _]) dJ9_floorMod_7cf53_3 (Nat.le_of_ble_eq_true rfl) rfl rfl ?_
  refine wp_iload_n (pc := 4) dJ9_floorMod_7cf53_4 rfl ?_
  refine wp_iload_n (pc := 5) dJ9_floorMod_7cf53_5 rfl ?_
  refine wp_ixor (pc := 6) dJ9_floorMod_7cf53_6 ?_
  refine wp_if_ge (pc := 7) 18 dJ9_floorMod_7cf53_7 (by decide) (fun h7 => ?_) (fun h7 => ?_)
  · refine wp_iload_n (pc := 18) dJ9_floorMod_7cf53_18 rfl ?_
    refine wf_iret (pc := 19) dJ9_floorMod_7cf53_19 rfl ?_
    exact ⟨rfl, rfl⟩
  · exact absurd (xor_pos ha hb2) h7
/-- how many bits of the first five -/
def pop5 (k : Nat) : Nat := k % 2 + k / 2 % 2 + k / 4 % 2 + k / 8 % 2 + k / 16 % 2
theorem c_bitCount {l : Launch} {K : CtxT} {M : Mm} {a : Nat} (ha : a < 32) : Ci l K 0 mJ6_bitCount_0f7a4 [.int (nI a)] M (fun r M' => r = nI (pop5 a) ∧ M' = M) := by
  refine ci_of (L := [some (.int (nI a))]) (by decide +kernel) (Nat.le_of_ble_eq_true rfl) rfl rfl (fun E => ?_)
  refine wp_iload_n (pc := 0) dJ6_bitCount_0f7a4_0 rfl ?_
  refine wp_iload_n (pc := 1) dJ6_bitCount_0f7a4_1 rfl ?_
  refine wp_ic (pc := 2) (x := nI 1) dJ6_bitCount_0f7a4_2 ic_1 ?_
  refine wp_iushr (pc := 3) dJ6_bitCount_0f7a4_3 ?_
  refine wp_ldcw (pc := 4) dJ6_bitCount_0f7a4_4 kc_J6_265 ?_
  refine wp_iand (pc := 7) dJ6_bitCount_0f7a4_7 ?_
  refine wp_isub (pc := 8) dJ6_bitCount_0f7a4_8 ?_
  refine wp_istore_n (pc := 9) (L' := [_]) dJ6_bitCount_0f7a4_9 (Nat.le_of_ble_eq_true rfl) rfl rfl ?_
  refine wp_iload_n (pc := 10) dJ6_bitCount_0f7a4_10 rfl ?_
  refine wp_ldcw (pc := 11) dJ6_bitCount_0f7a4_11 kc_J6_266 ?_
  refine wp_iand (pc := 14) dJ6_bitCount_0f7a4_14 ?_
  refine wp_iload_n (pc := 15) dJ6_bitCount_0f7a4_15 rfl ?_
  refine wp_ic (pc := 16) (x := nI 2) dJ6_bitCount_0f7a4_16 ic_2 ?_
  refine wp_iushr (pc := 17) dJ6_bitCount_0f7a4_17 ?_
  refine wp_ldcw (pc := 18) dJ6_bitCount_0f7a4_18 kc_J6_266 ?_
  refine wp_iand (pc := 21) dJ6_bitCount_0f7a4_21 ?_
  refine wp_iadd (pc := 22) dJ6_bitCount_0f7a4_22 ?_
  refine wp_istore_n (pc := 23) (L' := [_]) dJ6_bitCount_0f7a4_23 (Nat.le_of_ble_eq_true rfl) rfl rfl ?_
  refine wp_iload_n (pc := 24) dJ6_bitCount_0f7a4_24 rfl ?_
  refine wp_iload_n (pc := 25) dJ6_bitCount_0f7a4_25 rfl ?_
  refine wp_ic (pc := 26) (x := nI 4) dJ6_bitCount_0f7a4_26 ic_4 ?_
  refine wp_iushr (pc := 27) dJ6_bitCount_0f7a4_27 ?_
  refine wp_iadd (pc := 28) dJ6_bitCount_0f7a4_28 ?_
  refine wp_ldcw (pc := 29) dJ6_bitCount_0f7a4_29 kc_J6_267 ?_
  refine wp_iand (pc := 32) dJ6_bitCount_0f7a4_32 ?_
  refine wp_istore_n (pc := 33) (L' := [_]) dJ6_bitCount_0f7a4_33 (Nat.le_of_ble_eq_true rfl) rfl rfl ?_
  refine wp_iload_n (pc := 34) dJ6_bitCount_0f7a4_34 rfl ?_
  refine wp_iload_n (pc := 35) dJ6_bitCount_0f7a4_35 rfl ?_
  refine wp_bipush (pc := 36) (x := nI 8) dJ6_bitCount_0f7a4_36 bp_8 ?_
  refine wp_iushr (pc := 38) dJ6_bitCount_0f7a4_38 ?_
  refine wp_iadd (pc := 39) dJ6_bitCount_0f7a4_39 ?_
  refine wp_istore_n (pc := 40) (L' := [_]) dJ6_bitCount_0f7a4_40 (Nat.le_of_ble_eq_true rfl) rfl rfl ?_
  refine wp_iload_n (pc := 41) dJ6_bitCount_0f7a4_41 rfl ?_
  refine wp_iload_n (pc := 42) dJ6_bitCount_0f7a4_42 rfl ?_
  refine wp_bipush (pc := 43) (x := nI 16) dJ6_bitCount_0f7a4_43 bp_16 ?_
  refine wp_iushr (pc := 45) dJ6_bitCount_0f7a4_45 ?_
  refine wp_iadd (pc := 46) dJ6_bitCount_0f7a4_46 ?_
  refine wp_istore_n (pc := 47) (L' := [_]) dJ6_bitCount_0f7a4_47 (Nat.le_of_ble_eq_true rfl) rfl rfl ?_
  refine wp_iload_n (pc := 48) dJ6_bitCount_0f7a4_48 rfl ?_
  refine wp_bipush (pc := 49) (x := nI 63) dJ6_bitCount_0f7a4_49 bp_63 ?_
  refine wp_iand (pc := 51) dJ6_bitCount_0f7a4_51 ?_
  refine wf_iret (pc := 52) dJ6_bitCount_0f7a4_52 rfl ?_
  refine ⟨?_, rfl⟩
  clear E l K M
  revert a
  decide +kernel
theorem c_streetBy {l : Launch} {K : CtxT} {M : Mm} {s v : Nat} (hs : s < 5) (hv : v < 3) : Ci l K 0 mX8_streetBy [.int (nI s), .int (nI v)] M (fun r M' => r = nI (stN s v) ∧ M' = M) := by
  refine ci_of (L := [some (.int (nI s)), some (.int (nI v))]) (by decide +kernel) (Nat.le_of_ble_eq_true rfl) rfl rfl (fun E => ?_)
  refine wp_iload_n (pc := 0) dX8_streetBy_0 rfl ?_
  refine wp_iload_n (pc := 1) dX8_streetBy_1 rfl ?_
  refine wp_ic (pc := 2) (x := nI 2) dX8_streetBy_2 ic_2 ?_
  refine wp_icmp_ne (pc := 3) 10 dX8_streetBy_3 (by decide) (fun h3 => ?_) (fun h3 => ?_)
  · have e3 : s + (if v = 2 then 4 else v) = s + v := by rw [if_neg (fun q => h3 (by rw [q]))]
    refine wp_iload_n (pc := 10) dX8_streetBy_10 rfl ?_
    refine wp_iadd (pc := 11) dX8_streetBy_11 ?_
    refine wp_top (nI (s + (if v = 2 then 4 else v))) (by rw [nI_add, e3]) ?_
    refine wp_ic (pc := 12) (x := nI 5) dX8_streetBy_12 ic_5 ?_
    refine wp_iremN (pc := 13) dX8_streetBy_13 rfl rfl (by rw [e3]; omega) (by decide) (by decide) ?_
    refine wf_iret (pc := 14) dX8_streetBy_14 rfl ?_
    exact ⟨rfl, rfl⟩
  · have e3 : s + (if v = 2 then 4 else v) = s + 4 := by rw [if_pos ((nI_eq (by omega) (by decide)).mp h3)]
    refine wp_ic (pc := 6) (x := nI 4) dX8_streetBy_6 ic_4 ?_
    refine wp_goto (pc := 7) 11 dX8_streetBy_7 (by decide) ?_
    refine wp_iadd (pc := 11) dX8_streetBy_11 ?_
    refine wp_top (nI (s + (if v = 2 then 4 else v))) (by rw [nI_add, e3]) ?_
    refine wp_ic (pc := 12) (x := nI 5) dX8_streetBy_12 ic_5 ?_
    refine wp_iremN (pc := 13) dX8_streetBy_13 rfl rfl (by rw [e3]; omega) (by decide) (by decide) ?_
    refine wf_iret (pc := 14) dX8_streetBy_14 rfl ?_
    exact ⟨rfl, rfl⟩
theorem c_hasDog {l : Launch} {K : CtxT} {M : Mm} {w : Nat} {Λ : Lw} (hW : IL w) (hR : RS M) (hL : OkN Λ) (hx : XL M w Λ) {x : Int32} : Ci l K 0 mX2_hasDog [.ref (K.1 + w), .int x] M (fun r M' => r = b2i (inD x (lD Λ)) ∧ M' = M) := by
  refine ci_of (L := [some (.ref (K.1 + w)), some (.int x)]) (by decide +kernel) (Nat.le_of_ble_eq_true rfl) rfl rfl (fun E => ?_)
  refine wp_iload_n (pc := 0) dX2_hasDog_0 rfl ?_
  refine wp_if_lt (pc := 1) 16 dX2_hasDog_1 (by decide) (fun h1 => ?_) (fun h1 => ?_)
  · have e : inD x (lD Λ) = false := by simp [inD, h1]
    refine wp_ic (pc := 16) (x := nI 0) dX2_hasDog_16 ic_0 ?_
    refine wf_zret (pc := 17) (false) dX2_hasDog_17 rfl rfl ?_
    exact ⟨by rw [e], rfl⟩
  · refine wp_iload_n (pc := 4) dX2_hasDog_4 rfl ?_
    refine wp_aload_n (pc := 5) dX2_hasDog_5 rfl ?_
    refine wf_getI (pc := 6) dX2_hasDog_6 fl_X2_9 hW.1 ?_
    rw [hx.1]
    refine wp_icmp_ge (pc := 9) 16 dX2_hasDog_9 (by decide) (fun h9 => ?_) (fun h9 => ?_)
    · have e : inD x (lD Λ) = false := by simp [inD, h9]
      refine wp_ic (pc := 16) (x := nI 0) dX2_hasDog_16 ic_0 ?_
      refine wf_zret (pc := 17) (false) dX2_hasDog_17 rfl rfl ?_
      exact ⟨by rw [e], rfl⟩
    · have e : inD x (lD Λ) = true := by simp [inD, h1, h9]
      refine wp_ic (pc := 12) (x := nI 1) dX2_hasDog_12 ic_1 ?_
      refine wp_goto (pc := 13) 17 dX2_hasDog_13 (by decide) ?_
      refine wf_zret (pc := 17) (true) dX2_hasDog_17 rfl rfl ?_
      exact ⟨by rw [e], rfl⟩
theorem c_hasMan {l : Launch} {K : CtxT} {M : Mm} {w : Nat} {Λ : Lw} (hW : IL w) (hR : RS M) (hL : OkN Λ) (hx : XL M w Λ) {x : Int32} : Ci l K 0 mX2_hasMan [.ref (K.1 + w), .int x] M (fun r M' => r = b2i (inD x (lM Λ)) ∧ M' = M) := by
  refine ci_of (L := [some (.ref (K.1 + w)), some (.int x)]) (by decide +kernel) (Nat.le_of_ble_eq_true rfl) rfl rfl (fun E => ?_)
  refine wp_iload_n (pc := 0) dX2_hasMan_0 rfl ?_
  refine wp_if_lt (pc := 1) 16 dX2_hasMan_1 (by decide) (fun h1 => ?_) (fun h1 => ?_)
  · have e : inD x (lM Λ) = false := by simp [inD, h1]
    refine wp_ic (pc := 16) (x := nI 0) dX2_hasMan_16 ic_0 ?_
    refine wf_zret (pc := 17) (false) dX2_hasMan_17 rfl rfl ?_
    exact ⟨by rw [e], rfl⟩
  · refine wp_iload_n (pc := 4) dX2_hasMan_4 rfl ?_
    refine wp_aload_n (pc := 5) dX2_hasMan_5 rfl ?_
    refine wf_getI (pc := 6) dX2_hasMan_6 fl_X2_15 hW.1 ?_
    rw [hx.2.1]
    refine wp_icmp_ge (pc := 9) 16 dX2_hasMan_9 (by decide) (fun h9 => ?_) (fun h9 => ?_)
    · have e : inD x (lM Λ) = false := by simp [inD, h9]
      refine wp_ic (pc := 16) (x := nI 0) dX2_hasMan_16 ic_0 ?_
      refine wf_zret (pc := 17) (false) dX2_hasMan_17 rfl rfl ?_
      exact ⟨by rw [e], rfl⟩
    · have e : inD x (lM Λ) = true := by simp [inD, h1, h9]
      refine wp_ic (pc := 12) (x := nI 1) dX2_hasMan_12 ic_1 ?_
      refine wp_goto (pc := 13) 17 dX2_hasMan_13 (by decide) ?_
      refine wf_zret (pc := 17) (true) dX2_hasMan_17 rfl rfl ?_
      exact ⟨by rw [e], rfl⟩
theorem c_sings {l : Launch} {K : CtxT} {M : Mm} {w : Nat} {Λ : Lw} (hW : IL w) (hR : RS M) (hL : OkN Λ) (hx : XL M w Λ) {m : Nat} (hm : m < lM Λ) : Ci l K 0 mX2_sings [.ref (K.1 + w), .int (nI m)] M (fun r M' => r = b2i (decide (lSi Λ m = nI 1)) ∧ M' = M) := by
  refine ci_of (L := [some (.ref (K.1 + w)), some (.int (nI m))]) (by decide +kernel) (Nat.le_of_ble_eq_true rfl) rfl rfl (fun E => ?_)
  refine wp_aload_n (pc := 0) dX2_sings_0 rfl ?_
  refine wf_getI (pc := 1) dX2_sings_1 fl_X2_21 hW.1 ?_
  refine wp_iload_n (pc := 4) dX2_sings_4 rfl ?_
  refine wp_ishr (pc := 5) dX2_sings_5 ?_
  refine wp_ic (pc := 6) (x := nI 1) dX2_sings_6 ic_1 ?_
  refine wp_iand (pc := 7) dX2_sings_7 ?_
  refine wp_ic (pc := 8) (x := nI 1) dX2_sings_8 ic_1 ?_
  refine wp_icmp_ne (pc := 9) 16 dX2_sings_9 (by decide) (fun h9 => ?_) (fun h9 => ?_)
  · have e : ¬ lSi Λ m = nI 1 := fun q => h9 ((hx.2.2.2.1 m hm).mpr q)
    refine wp_ic (pc := 16) (x := nI 0) dX2_sings_16 ic_0 ?_
    refine wf_zret (pc := 17) (false) dX2_sings_17 rfl rfl ?_
    exact ⟨by simp [e, b2i], rfl⟩
  · have e : lSi Λ m = nI 1 := (hx.2.2.2.1 m hm).mp h9
    refine wp_ic (pc := 12) (x := nI 1) dX2_sings_12 ic_1 ?_
    refine wp_goto (pc := 13) 17 dX2_sings_13 (by decide) ?_
    refine wf_zret (pc := 17) (true) dX2_sings_17 rfl rfl ?_
    exact ⟨by simp [e, b2i], rfl⟩
theorem c_wardenAt {l : Launch} {K : CtxT} {M : Mm} {w : Nat} {Λ : Lw} (hW : IL w) (hR : RS M) (hL : OkN Λ) (hx : XL M w Λ) {h : Nat} (hh : h < 2 ^ 31) : Ci l K 1 mX2_wardenAt [.ref (K.1 + w), .int (nI h)] M (fun r M' => r = lRo Λ (h % 4) ∧ M' = M) := by
  refine ci_of (L := [some (.ref (K.1 + w)), some (.int (nI h))]) (by decide +kernel) (Nat.le_of_ble_eq_true rfl) rfl rfl (fun E => ?_)
  refine wp_aload_n (pc := 0) dX2_wardenAt_0 rfl ?_
  refine wf_getR (pc := 1) dX2_wardenAt_1 fl_X2_24 hW.1 (hR _ _ _ (rt_L4 hW)) ?_
  refine wp_iload_n (pc := 4) dX2_wardenAt_4 rfl ?_
  refine wp_ic (pc := 5) (x := nI 4) dX2_wardenAt_5 ic_4 ?_
  refine wf_callSi (pc := 6) dX2_wardenAt_6 cl_X2_43 (c_floorMod hh (by decide) (by decide)) rfl rfl (Nat.le_of_ble_eq_true rfl) (by decide) ⟨Nat.le_refl _, Nat.le_refl _⟩ (fun r6 M6 q6 => ?_)
  rw [q6.1, q6.2]
  refine wf_iald (pc := 9) (j := (h % 4)) dX2_wardenAt_9 hW.2.1 rfl (by omega) ?_
  refine wf_iret (pc := 10) dX2_wardenAt_10 rfl ?_
  exact ⟨hx.2.2.2.2.1 _ (by omega), rfl⟩
theorem c_isLeashed {l : Launch} {K : CtxT} {M : Mm} {t m : Nat} {Λ : Lw} {P : Pg} (hT : IT t) (ht : XT M t Λ P) : Ci l K 0 mX7_isLeashed [.ref (K.1 + t), .int (nI m)] M (fun r M' => r = b2i (decide (bat (P 18) m = nI 1)) ∧ M' = M) := by
  refine ci_of (L := [some (.ref (K.1 + t)), some (.int (nI m))]) (by decide +kernel) (Nat.le_of_ble_eq_true rfl) rfl rfl (fun E => ?_)
  refine wp_aload_n (pc := 0) dX7_isLeashed_0 rfl ?_
  refine wf_getI (pc := 1) dX7_isLeashed_1 fl_X7_15 hT.1 ?_
  rw [ht.2.1]
  refine wp_iload_n (pc := 4) dX7_isLeashed_4 rfl ?_
  refine wp_ishr (pc := 5) dX7_isLeashed_5 ?_
  refine wp_ic (pc := 6) (x := nI 1) dX7_isLeashed_6 ic_1 ?_
  refine wp_iand (pc := 7) dX7_isLeashed_7 ?_
  refine wp_ic (pc := 8) (x := nI 1) dX7_isLeashed_8 ic_1 ?_
  refine wp_icmp_ne (pc := 9) 16 dX7_isLeashed_9 (by decide) (fun h9 => ?_) (fun h9 => ?_)
  · refine wp_ic (pc := 16) (x := nI 0) dX7_isLeashed_16 ic_0 ?_
    refine wf_zret (pc := 17) (false) dX7_isLeashed_17 rfl rfl ?_
    exact ⟨by simp [h9, b2i], rfl⟩
  · refine wp_ic (pc := 12) (x := nI 1) dX7_isLeashed_12 ic_1 ?_
    refine wp_goto (pc := 13) 17 dX7_isLeashed_13 (by decide) ?_
    refine wf_zret (pc := 17) (true) dX7_isLeashed_17 rfl rfl ?_
    exact ⟨by simp [h9, b2i], rfl⟩
theorem c_isImpounded {l : Launch} {K : CtxT} {M : Mm} {t m : Nat} {Λ : Lw} {P : Pg} (hT : IT t) (hR : RS M) (ht : XT M t Λ P) (hm : m < lM Λ) (hm5 : m < 5) : Ci l K 0 mX7_isImpounded [.ref (K.1 + t), .int (nI m)] M (fun r M' => r = b2i (decide (0 < P (19 + m))) ∧ M' = M) := by
  refine ci_of (L := [some (.ref (K.1 + t)), some (.int (nI m))]) (by decide +kernel) (Nat.le_of_ble_eq_true rfl) rfl rfl (fun E => ?_)
  refine wp_aload_n (pc := 0) dX7_isImpounded_0 rfl ?_
  refine wf_getR (pc := 1) dX7_isImpounded_1 fl_X7_31 hT.1 (hR _ _ _ (rt_T6 hT)) ?_
  refine wp_iload_n (pc := 4) dX7_isImpounded_4 rfl ?_
  refine wf_iald (pc := 5) (j := m) dX7_isImpounded_5 hT.2.2.2.2.2 rfl (by omega) ?_
  rw [(ht.2.2.2 m hm).2.2]
  refine wp_if_le (pc := 6) 13 dX7_isImpounded_6 (by decide) (fun h6 => ?_) (fun h6 => ?_)
  · refine wp_ic (pc := 13) (x := nI 0) dX7_isImpounded_13 ic_0 ?_
    refine wf_zret (pc := 14) (false) dX7_isImpounded_14 rfl rfl ?_
    exact ⟨by simp [h6, b2i], rfl⟩
  · refine wp_ic (pc := 9) (x := nI 1) dX7_isImpounded_9 ic_1 ?_
    refine wp_goto (pc := 10) 14 dX7_isImpounded_10 (by decide) ?_
    refine wf_zret (pc := 14) (true) dX7_isImpounded_14 rfl rfl ?_
    exact ⟨by simp [h6, b2i], rfl⟩
theorem c_isLate {l : Launch} {K : CtxT} {M : Mm} {h : Nat} {x : Int32} (hh : h < 2 ^ 31) : Ci l K 1 mX7_isLate [.int (nI h), .int x] M (fun r M' => r = b2i (decide (x ≤ nI (h % 12))) ∧ M' = M) := by
  refine ci_of (L := [some (.int (nI h)), some (.int x)]) (by decide +kernel) (Nat.le_of_ble_eq_true rfl) rfl rfl (fun E => ?_)
  refine wp_iload_n (pc := 0) dX7_isLate_0 rfl ?_
  refine wp_bipush (pc := 1) (x := nI 12) dX7_isLate_1 bp_12 ?_
  refine wf_callSi (pc := 3) dX7_isLate_3 cl_X7_87 (c_floorMod hh (by decide) (by decide)) rfl rfl (Nat.le_of_ble_eq_true rfl) (by decide) ⟨Nat.le_refl _, Nat.le_refl _⟩ (fun r3 M3 q3 => ?_)
  rw [q3.1, q3.2]
  refine wp_iload_n (pc := 6) dX7_isLate_6 rfl ?_
  refine wp_icmp_lt (pc := 7) 14 dX7_isLate_7 (by decide) (fun h7 => ?_) (fun h7 => ?_)
  · have e : ¬ x ≤ nI (h % 12) := Int32.not_le.mpr h7
    refine wp_ic (pc := 14) (x := nI 0) dX7_isLate_14 ic_0 ?_
    refine wf_zret (pc := 15) (false) dX7_isLate_15 rfl rfl ?_
    exact ⟨by simp [e, b2i], rfl⟩
  · have e : x ≤ nI (h % 12) := Int32.not_lt.mp h7
    refine wp_ic (pc := 10) (x := nI 1) dX7_isLate_10 ic_1 ?_
    refine wp_goto (pc := 11) 15 dX7_isLate_11 (by decide) ?_
    refine wf_zret (pc := 15) (true) dX7_isLate_15 rfl rfl ?_
    exact ⟨by simp [e, b2i], rfl⟩
theorem c_mayBeCaught {l : Launch} {K : CtxT} {M : Mm} {t w : Nat} {Λ : Lw} {P : Pg} (hT : IT t) (hW : IL w) (hR : RS M) (hL : OkN Λ) (hx : XL M w Λ) (ht : XT M t Λ P) {m : Nat} (hm : m < lM Λ) {late : Bool} : Ci l K 1 mX7_mayBeCaught [.ref (K.1 + t), .ref (K.1 + w), .int (nI m), .int (b2i late)] M (fun r M' => r = b2i (mayP Λ P m late) ∧ M' = M) := by
  have hm5 : m < 5 := Nat.lt_of_lt_of_le hm hL.2.1
  refine ci_of (L := [some (.ref (K.1 + t)), some (.ref (K.1 + w)), some (.int (nI m)), some (.int (b2i late))]) (by decide +kernel) (Nat.le_of_ble_eq_true rfl) rfl rfl (fun E => ?_)
  refine wp_aload_n (pc := 0) dX7_mayBeCaught_0 rfl ?_
  refine wf_getR (pc := 1) dX7_mayBeCaught_1 fl_X7_25 hT.1 (hR _ _ _ (rt_T4 hT)) ?_
  refine wp_iload_n (pc := 4) dX7_mayBeCaught_4 rfl ?_
  refine wf_iald (pc := 5) (j := m) dX7_mayBeCaught_5 hT.2.2.2.1 rfl (by omega) ?_
  rw [(ht.2.2.2 m hm).1]
  refine wp_bipush (pc := 6) (x := (-9)) dX7_mayBeCaught_6 bp_m9 ?_
  refine wp_icmp_eq (pc := 8) 31 dX7_mayBeCaught_8 (by decide) (fun h8 => ?_) (fun h8 => ?_)
  · refine wp_ic (pc := 31) (x := nI 1) dX7_mayBeCaught_31 ic_1 ?_
    refine wp_goto (pc := 32) 36 dX7_mayBeCaught_32 (by decide) ?_
    refine wf_zret (pc := 36) (true) dX7_mayBeCaught_36 rfl rfl ?_
    exact ⟨by simp [mayP, *], rfl⟩
  · refine wp_aload_n (pc := 11) dX7_mayBeCaught_11 rfl ?_
    refine wp_iload_n (pc := 12) dX7_mayBeCaught_12 rfl ?_
    refine wf_callVi (pc := 13) dX7_mayBeCaught_13 cl_X7_92 (c_isLeashed hT ht) hT.1 rfl rfl rfl rfl (Nat.le_of_ble_eq_true rfl) (by decide) ⟨Nat.le_refl _, Nat.le_refl _⟩ (fun r13 M13 q13 => ?_)
    rw [q13.1, q13.2]
    refine wp_if_ne (pc := 16) 35 dX7_mayBeCaught_16 (by decide) (fun h16 => ?_) (fun h16 => ?_)
    · have h16 := b2i_1 h16
      have h16 := of_decide_eq_true h16
      refine wp_ic (pc := 35) (x := nI 0) dX7_mayBeCaught_35 ic_0 ?_
      refine wf_zret (pc := 36) (false) dX7_mayBeCaught_36 rfl rfl ?_
      exact ⟨by simp [mayP, *], rfl⟩
    · have h16 := b2i_0 h16
      have h16 := of_decide_eq_false h16
      refine wp_iload_n (pc := 19) dX7_mayBeCaught_19 rfl ?_
      refine wp_if_ne (pc := 20) 31 dX7_mayBeCaught_20 (by decide) (fun h20 => ?_) (fun h20 => ?_)
      · have h20 := b2i_1 h20
        refine wp_ic (pc := 31) (x := nI 1) dX7_mayBeCaught_31 ic_1 ?_
        refine wp_goto (pc := 32) 36 dX7_mayBeCaught_32 (by decide) ?_
        refine wf_zret (pc := 36) (true) dX7_mayBeCaught_36 rfl rfl ?_
        exact ⟨by simp [mayP, *], rfl⟩
      · have h20 := b2i_0 h20
        refine wp_aload_n (pc := 23) dX7_mayBeCaught_23 rfl ?_
        refine wp_iload_n (pc := 24) dX7_mayBeCaught_24 rfl ?_
        refine wf_callVi (pc := 25) dX7_mayBeCaught_25 cl_X7_95 (c_sings hW hR hL hx hm) hW.1 rfl rfl rfl rfl (Nat.le_of_ble_eq_true rfl) (by decide) ⟨Nat.le_refl _, Nat.le_refl _⟩ (fun r25 M25 q25 => ?_)
        rw [q25.1, q25.2]
        refine wp_if_eq (pc := 28) 35 dX7_mayBeCaught_28 (by decide) (fun h28 => ?_) (fun h28 => ?_)
        · have h28 := b2i_0 h28
          have h28 := of_decide_eq_false h28
          refine wp_ic (pc := 35) (x := nI 0) dX7_mayBeCaught_35 ic_0 ?_
          refine wf_zret (pc := 36) (false) dX7_mayBeCaught_36 rfl rfl ?_
          exact ⟨by simp [mayP, *], rfl⟩
        · have h28 := b2i_1 h28
          have h28 := of_decide_eq_true h28
          refine wp_ic (pc := 31) (x := nI 1) dX7_mayBeCaught_31 ic_1 ?_
          refine wp_goto (pc := 32) 36 dX7_mayBeCaught_32 (by decide) ?_
          refine wf_zret (pc := 36) (true) dX7_mayBeCaught_36 rfl rfl ?_
          exact ⟨by simp [mayP, *], rfl⟩
end
section
/-! what men a dog keeps, as a set -/
def kepN (P : Pg) (d : Nat) : Nat → Nat
  | 0 => 0
  | m + 1 => if P (8 + m) = nI d then kepN P d m ||| 2 ^ m else kepN P d m
def impN (P : Pg) : Nat → Nat
  | 0 => 0
  | m + 1 => if 0 < P (19 + m) then impN P m ||| 2 ^ m else impN P m
theorem or_bit {a m : Nat} (hm : m < 5) : nI a ||| bit m = nI (a ||| 2 ^ m) := by
  have e : ∀ m, m < 5 → nI 1 <<< (nI m &&& 31) = nI (2 ^ m) := by decide +kernel
  rw [show bit m = nI (2 ^ m) from e m hm]
  apply Int32.toBitVec_inj.1
  show BitVec.ofNat 32 a ||| BitVec.ofNat 32 (2 ^ m) = BitVec.ofNat 32 (a ||| 2 ^ m)
  apply BitVec.eq_of_getLsbD_eq
  intro i hi
  simp [hi]
theorem or_lt {a m n : Nat} (ha : a < 2 ^ m) (h : m < n) : a ||| 2 ^ m < 2 ^ (m + 1) := Nat.or_lt_two_pow (Nat.lt_of_lt_of_le ha (Nat.pow_le_pow_right (by decide) (by omega))) (Nat.pow_lt_pow_right (by decide) (by omega))
theorem kepN_lt (P : Pg) (d : Nat) : ∀ m, kepN P d m < 2 ^ m
  | 0 => by simp [kepN]
  | m + 1 => by
    have h := kepN_lt P d m
    unfold kepN
    split
    · exact or_lt h (Nat.lt_succ_self _)
    · exact Nat.lt_of_lt_of_le h (Nat.pow_le_pow_right (by decide) (by omega))
theorem impN_lt (P : Pg) : ∀ m, impN P m < 2 ^ m
  | 0 => by simp [impN]
  | m + 1 => by
    have h := impN_lt P m
    unfold impN
    split
    · exact or_lt h (Nat.lt_succ_self _)
    · exact Nat.lt_of_lt_of_le h (Nat.pow_le_pow_right (by decide) (by omega))
theorem lt32 {a n : Nat} (h : a < 2 ^ n) (hn : n ≤ 5) : a < 32 := Nat.lt_of_lt_of_le h (Nat.pow_le_pow_right (by decide) hn)
def sumB (P : Pg) : Nat → Int32
  | 0 => nI 0
  | d + 1 => sumB P d + P (4 + d)
theorem c_keptBy {l : Launch} {K : CtxT} {M : Mm} {t w : Nat} {Λ : Lw} {P : Pg} (hT : IT t) (hW : IL w) (hR : RS M) (hL : OkN Λ) (hx : XL M w Λ) (ht : XT M t Λ P) {d : Nat} (hd : d < 2 ^ 31) : Ci l K 1 mX7_keptBy [.ref (K.1 + t), .ref (K.1 + w), .int (nI d)] M (fun r M' => r = nI (kepN P d (lM Λ)) ∧ M' = M) := by
  have hN := hL.2.1
  refine ci_of (L := [some (.ref (K.1 + t)), some (.ref (K.1 + w)), some (.int (nI d)), none, none]) (by decide +kernel) (Nat.le_of_ble_eq_true rfl) rfl rfl (fun E => ?_)
  have loop : ∀ (n m : Nat), n = lM Λ - m → m ≤ lM Λ → Wp E K mX7_keptBy 1 (0, 0) 5 [some (.ref (K.1 + t)), some (.ref (K.1 + w)), some (.int (nI d)), some (.int (nI (kepN P d m))), some (.int (nI m))] [] 168 M 0 0 (zI E K (fun r M' => r = nI (kepN P d (lM Λ)) ∧ M' = M)) := by
    intro n
    induction n with
    | zero =>
      intro m hn hm
      refine wp_iload (pc := 5) dX7_keptBy_5 rfl ?_
      refine wp_aload_n (pc := 7) dX7_keptBy_7 rfl ?_
      refine wf_getI (pc := 8) dX7_keptBy_8 fl_X7_40 hW.1 ?_
      rw [hx.2.1]
      refine wp_icmp_ge (pc := 11) 38 dX7_keptBy_11 (by decide) (fun h11 => ?_) (fun h11 => ?_)
      · have e : m = lM Λ := by omega
        subst e
        refine wp_iload_n (pc := 38) dX7_keptBy_38 rfl ?_
        refine wf_iret (pc := 39) dX7_keptBy_39 rfl ?_
        exact ⟨rfl, rfl⟩
      · exact absurd (nI_le (by omega) (by omega)) h11
    | succ n ih =>
      intro m hn hm
      refine wp_iload (pc := 5) dX7_keptBy_5 rfl ?_
      refine wp_aload_n (pc := 7) dX7_keptBy_7 rfl ?_
      refine wf_getI (pc := 8) dX7_keptBy_8 fl_X7_40 hW.1 ?_
      rw [hx.2.1]
      refine wp_icmp_ge (pc := 11) 38 dX7_keptBy_11 (by decide) (fun h11 => ?_) (fun h11 => ?_)
      · exact absurd h11 (nI_ge (by omega) (by omega))
      · refine wp_aload_n (pc := 14) dX7_keptBy_14 rfl ?_
        refine wf_getR (pc := 15) dX7_keptBy_15 fl_X7_25 hT.1 (hR _ _ _ (rt_T4 hT)) ?_
        refine wp_iload (pc := 18) dX7_keptBy_18 rfl ?_
        refine wf_iald (pc := 20) (j := m) dX7_keptBy_20 hT.2.2.2.1 rfl (by omega) ?_
        refine wp_iload_n (pc := 21) dX7_keptBy_21 rfl ?_
        rw [(ht.2.2.2 m (by omega)).1]
        refine wp_icmp_ne (pc := 22) 32 dX7_keptBy_22 (by decide) (fun h22 => ?_) (fun h22 => ?_)
        · have e2 : kepN P d (m + 1) = kepN P d m := by simp [kepN, h22]
          refine wp_iinc1 (pc := 32) (L' := [_, _, _, _, _]) dX7_keptBy_32 rfl rfl rfl ?_
          refine wp_goto (pc := 35) 5 dX7_keptBy_35 (by decide) ?_
          first | exact ih (m + 1) (by omega) (by omega) | (rw [← e2]; exact ih (m + 1) (by omega) (by omega))
        · have e2 : kepN P d (m + 1) = kepN P d m ||| 2 ^ m := by simp [kepN, h22]
          refine wp_iload_n (pc := 25) dX7_keptBy_25 rfl ?_
          refine wp_ic (pc := 26) (x := nI 1) dX7_keptBy_26 ic_1 ?_
          refine wp_iload (pc := 27) dX7_keptBy_27 rfl ?_
          refine wp_ishl (pc := 29) dX7_keptBy_29 ?_
          refine wp_ior (pc := 30) dX7_keptBy_30 ?_
          refine wp_top (nI (kepN P d m ||| 2 ^ m)) (or_bit (by omega)) ?_
          rw [← e2]
          refine wp_istore_n (pc := 31) (L' := [_, _, _, _, _]) dX7_keptBy_31 (Nat.le_of_ble_eq_true rfl) rfl rfl ?_
          refine wp_iinc1 (pc := 32) (L' := [_, _, _, _, _]) dX7_keptBy_32 rfl rfl rfl ?_
          refine wp_goto (pc := 35) 5 dX7_keptBy_35 (by decide) ?_
          first | exact ih (m + 1) (by omega) (by omega) | (rw [← e2]; exact ih (m + 1) (by omega) (by omega))
  refine wp_ic (pc := 0) (x := nI 0) dX7_keptBy_0 ic_0 ?_
  refine wp_istore_n (pc := 1) (L' := [_, _, _, _, _]) dX7_keptBy_1 (Nat.le_of_ble_eq_true rfl) rfl rfl ?_
  refine wp_ic (pc := 2) (x := nI 0) dX7_keptBy_2 ic_0 ?_
  refine wp_istore (pc := 3) (L' := [_, _, _, _, _]) dX7_keptBy_3 (Nat.le_of_ble_eq_true rfl) rfl rfl ?_
  exact loop (lM Λ) 0 (by omega) (by omega)
theorem wC_at {M : Mm} {a0 a n j : Nat} (h : j < n) : (wC M a0 0 a 0 n).1 a j = M.1 a0 j := by simp [wC, h]
theorem wC_na {M : Mm} {a0 a sp dp n b j : Nat} (h : b ≠ a) : (wC M a0 sp a dp n).1 b j = M.1 b j := by simp [wC, h]
/-- the town t is a copy of what the town t2 was -/
def Cp (t t2 : Nat) (M M' : Mm) : Prop := (∀ k, k < 2 → M'.1 t k = M.1 t2 k) ∧ (∀ k, k < 4 → M'.1 (t + 1) k = M.1 (t2 + 1) k ∧ M'.1 (t + 2) k = M.1 (t2 + 2) k) ∧ ∀ k, k < 5 → M'.1 (t + 3) k = M.1 (t2 + 3) k ∧ M'.1 (t + 4) k = M.1 (t2 + 4) k ∧ M'.1 (t + 5) k = M.1 (t2 + 5) k
theorem Cp.XT {t t2 : Nat} {M M' : Mm} {Λ : Lw} {P : Pg} (h : Cp t t2 M M') (hL : lD Λ ≤ 4 ∧ lM Λ ≤ 5) (hx : XT M t2 Λ P) : XT M' t Λ P := by
  obtain ⟨h1, h2, h3⟩ := h
  obtain ⟨g1, g2, g3, g4⟩ := hx
  refine ⟨(h1 0 (by omega)).trans g1, (h1 1 (by omega)).trans g2, fun d hd => ?_, fun m hm => ?_⟩
  · rw [(h2 d (by omega)).1, (h2 d (by omega)).2]; exact g3 d hd
  · rw [(h3 m (by omega)).1, (h3 m (by omega)).2.1, (h3 m (by omega)).2.2]; exact g4 m hm
theorem c_hasRoom {l : Launch} {K : CtxT} {M : Mm} {t w : Nat} {Λ : Lw} {P : Pg} (hT : IT t) (hW : IL w) (hR : RS M) (hL : OkN Λ) (hx : XL M w Λ) (ht : XT M t Λ P) {d : Nat} (hd : d < lD Λ) : Ci l K 2 mX7_hasRoom [.ref (K.1 + t), .ref (K.1 + w), .int (nI d)] M (fun r M' => r = b2i (decide (nI (pop5 (kepN P d (lM Λ))) < lRm Λ d)) ∧ M' = M) := by
  have hD := hL.1
  refine ci_of (L := [some (.ref (K.1 + t)), some (.ref (K.1 + w)), some (.int (nI d))]) (by decide +kernel) (Nat.le_of_ble_eq_true rfl) rfl rfl (fun E => ?_)
  refine wp_aload_n (pc := 0) dX7_hasRoom_0 rfl ?_
  refine wp_aload_n (pc := 1) dX7_hasRoom_1 rfl ?_
  refine wp_iload_n (pc := 2) dX7_hasRoom_2 rfl ?_
  refine wf_callVi (pc := 3) dX7_hasRoom_3 cl_X7_49 (c_keptBy hT hW hR hL hx ht (by omega)) hT.1 rfl rfl rfl rfl (Nat.le_of_ble_eq_true rfl) (by decide) ⟨Nat.le_refl _, Nat.le_refl _⟩ (fun r3 M3 q3 => ?_)
  rw [q3.1, q3.2]
  refine wf_callSi (pc := 6) dX7_hasRoom_6 cl_X7_53 (c_bitCount (lt32 (kepN_lt P _ _) hL.2.1)) rfl rfl (Nat.le_of_ble_eq_true rfl) (by decide) ⟨Nat.le_refl _, Nat.le_refl _⟩ (fun r6 M6 q6 => ?_)
  rw [q6.1, q6.2]
  refine wp_aload_n (pc := 9) dX7_hasRoom_9 rfl ?_
  refine wf_getR (pc := 10) dX7_hasRoom_10 fl_X7_59 hW.1 (hR _ _ _ (rt_L6 hW)) ?_
  refine wp_iload_n (pc := 13) dX7_hasRoom_13 rfl ?_
  refine wf_iald (pc := 14) (j := d) dX7_hasRoom_14 hW.2.2.2.1 rfl (by omega) ?_
  rw [(hx.2.2.2.2.2 d hd).2.1]
  refine wp_icmp_ge (pc := 15) 22 dX7_hasRoom_15 (by decide) (fun h15 => ?_) (fun h15 => ?_)
  · have e : ¬ nI (pop5 (kepN P d (lM Λ))) < lRm Λ d := Int32.not_lt.mpr h15
    refine wp_ic (pc := 22) (x := nI 0) dX7_hasRoom_22 ic_0 ?_
    refine wf_zret (pc := 23) (false) dX7_hasRoom_23 rfl rfl ?_
    exact ⟨by simp [e, b2i], rfl⟩
  · have e : nI (pop5 (kepN P d (lM Λ))) < lRm Λ d := Int32.not_le.mp h15
    refine wp_ic (pc := 18) (x := nI 1) dX7_hasRoom_18 ic_1 ?_
    refine wp_goto (pc := 19) 23 dX7_hasRoom_19 (by decide) ?_
    refine wf_zret (pc := 23) (true) dX7_hasRoom_23 rfl rfl ?_
    exact ⟨by simp [e, b2i], rfl⟩
theorem c_impounded {l : Launch} {K : CtxT} {M : Mm} {t w : Nat} {Λ : Lw} {P : Pg} (hT : IT t) (hW : IL w) (hR : RS M) (hL : OkN Λ) (hx : XL M w Λ) (ht : XT M t Λ P) : Ci l K 1 mX7_impounded [.ref (K.1 + t), .ref (K.1 + w)] M (fun r M' => r = nI (impN P (lM Λ)) ∧ M' = M) := by
  have hN := hL.2.1
  refine ci_of (L := [some (.ref (K.1 + t)), some (.ref (K.1 + w)), none, none]) (by decide +kernel) (Nat.le_of_ble_eq_true rfl) rfl rfl (fun E => ?_)
  have loop : ∀ (n m : Nat), n = lM Λ - m → m ≤ lM Λ → Wp E K mX7_impounded 1 (0, 0) 4 [some (.ref (K.1 + t)), some (.ref (K.1 + w)), some (.int (nI (impN P m))), some (.int (nI m))] [] 168 M 0 0 (zI E K (fun r M' => r = nI (impN P (lM Λ)) ∧ M' = M)) := by
    intro n
    induction n with
    | zero =>
      intro m hn hm
      refine wp_iload_n (pc := 4) dX7_impounded_4 rfl ?_
      refine wp_aload_n (pc := 5) dX7_impounded_5 rfl ?_
      refine wf_getI (pc := 6) dX7_impounded_6 fl_X7_40 hW.1 ?_
      rw [hx.2.1]
      refine wp_icmp_ge (pc := 9) 32 dX7_impounded_9 (by decide) (fun h9 => ?_) (fun h9 => ?_)
      · have e : m = lM Λ := by omega
        subst e
        refine wp_iload_n (pc := 32) dX7_impounded_32 rfl ?_
        refine wf_iret (pc := 33) dX7_impounded_33 rfl ?_
        exact ⟨rfl, rfl⟩
      · exact absurd (nI_le (by omega) (by omega)) h9
    | succ n ih =>
      intro m hn hm
      refine wp_iload_n (pc := 4) dX7_impounded_4 rfl ?_
      refine wp_aload_n (pc := 5) dX7_impounded_5 rfl ?_
      refine wf_getI (pc := 6) dX7_impounded_6 fl_X7_40 hW.1 ?_
      rw [hx.2.1]
      refine wp_icmp_ge (pc := 9) 32 dX7_impounded_9 (by decide) (fun h9 => ?_) (fun h9 => ?_)
      · exact absurd h9 (nI_ge (by omega) (by omega))
      · refine wp_aload_n (pc := 12) dX7_impounded_12 rfl ?_
        refine wp_iload_n (pc := 13) dX7_impounded_13 rfl ?_
        refine wf_callVi (pc := 14) dX7_impounded_14 cl_X7_45 (c_isImpounded hT hR ht (by omega) (by omega)) hT.1 rfl rfl rfl rfl (Nat.le_of_ble_eq_true rfl) (by decide) ⟨Nat.le_refl _, Nat.le_refl _⟩ (fun r14 M14 q14 => ?_)
        rw [q14.1, q14.2]
        refine wp_if_eq (pc := 17) 26 dX7_impounded_17 (by decide) (fun h17 => ?_) (fun h17 => ?_)
        · have h17 := b2i_0 h17
          have h17 := of_decide_eq_false h17
          have e2 : impN P (m + 1) = impN P m := by simp [impN, h17]
          refine wp_iinc1 (pc := 26) (L' := [_, _, _, _]) dX7_impounded_26 rfl rfl rfl ?_
          refine wp_goto (pc := 29) 4 dX7_impounded_29 (by decide) ?_
          first | exact ih (m + 1) (by omega) (by omega) | (rw [← e2]; exact ih (m + 1) (by omega) (by omega))
        · have h17 := b2i_1 h17
          have h17 := of_decide_eq_true h17
          have e2 : impN P (m + 1) = impN P m ||| 2 ^ m := by simp [impN, h17]
          refine wp_iload_n (pc := 20) dX7_impounded_20 rfl ?_
          refine wp_ic (pc := 21) (x := nI 1) dX7_impounded_21 ic_1 ?_
          refine wp_iload_n (pc := 22) dX7_impounded_22 rfl ?_
          refine wp_ishl (pc := 23) dX7_impounded_23 ?_
          refine wp_ior (pc := 24) dX7_impounded_24 ?_
          refine wp_top (nI (impN P m ||| 2 ^ m)) (or_bit (by omega)) ?_
          rw [← e2]
          refine wp_istore_n (pc := 25) (L' := [_, _, _, _]) dX7_impounded_25 (Nat.le_of_ble_eq_true rfl) rfl rfl ?_
          refine wp_iinc1 (pc := 26) (L' := [_, _, _, _]) dX7_impounded_26 rfl rfl rfl ?_
          refine wp_goto (pc := 29) 4 dX7_impounded_29 (by decide) ?_
          first | exact ih (m + 1) (by omega) (by omega) | (rw [← e2]; exact ih (m + 1) (by omega) (by omega))
  refine wp_ic (pc := 0) (x := nI 0) dX7_impounded_0 ic_0 ?_
  refine wp_istore_n (pc := 1) (L' := [_, _, _, _]) dX7_impounded_1 (Nat.le_of_ble_eq_true rfl) rfl rfl ?_
  refine wp_ic (pc := 2) (x := nI 0) dX7_impounded_2 ic_0 ?_
  refine wp_istore_n (pc := 3) (L' := [_, _, _, _]) dX7_impounded_3 (Nat.le_of_ble_eq_true rfl) rfl rfl ?_
  exact loop (lM Λ) 0 (by omega) (by omega)
theorem c_allBones {l : Launch} {K : CtxT} {M : Mm} {t w : Nat} {Λ : Lw} {P : Pg} (hT : IT t) (hW : IL w) (hR : RS M) (hL : OkN Λ) (hx : XL M w Λ) (ht : XT M t Λ P) : Ci l K 1 mX7_allBones [.ref (K.1 + t), .ref (K.1 + w)] M (fun r M' => r = sumB P (lD Λ) ∧ M' = M) := by
  have hD := hL.1
  refine ci_of (L := [some (.ref (K.1 + t)), some (.ref (K.1 + w)), none, none]) (by decide +kernel) (Nat.le_of_ble_eq_true rfl) rfl rfl (fun E => ?_)
  have loop : ∀ (n m : Nat), n = lD Λ - m → m ≤ lD Λ → Wp E K mX7_allBones 1 (0, 0) 4 [some (.ref (K.1 + t)), some (.ref (K.1 + w)), some (.int (sumB P m)), some (.int (nI m))] [] 168 M 0 0 (zI E K (fun r M' => r = sumB P (lD Λ) ∧ M' = M)) := by
    intro n
    induction n with
    | zero =>
      intro m hn hm
      refine wp_iload_n (pc := 4) dX7_allBones_4 rfl ?_
      refine wp_aload_n (pc := 5) dX7_allBones_5 rfl ?_
      refine wf_getI (pc := 6) dX7_allBones_6 fl_X7_62 hW.1 ?_
      rw [hx.1]
      refine wp_icmp_ge (pc := 9) 27 dX7_allBones_9 (by decide) (fun h9 => ?_) (fun h9 => ?_)
      · have e : m = lD Λ := by omega
        subst e
        refine wp_iload_n (pc := 27) dX7_allBones_27 rfl ?_
        refine wf_iret (pc := 28) dX7_allBones_28 rfl ?_
        exact ⟨rfl, rfl⟩
      · exact absurd (nI_le (by omega) (by omega)) h9
    | succ n ih =>
      intro m hn hm
      refine wp_iload_n (pc := 4) dX7_allBones_4 rfl ?_
      refine wp_aload_n (pc := 5) dX7_allBones_5 rfl ?_
      refine wf_getI (pc := 6) dX7_allBones_6 fl_X7_62 hW.1 ?_
      rw [hx.1]
      refine wp_icmp_ge (pc := 9) 27 dX7_allBones_9 (by decide) (fun h9 => ?_) (fun h9 => ?_)
      · exact absurd h9 (nI_ge (by omega) (by omega))
      · refine wp_iload_n (pc := 12) dX7_allBones_12 rfl ?_
        refine wp_aload_n (pc := 13) dX7_allBones_13 rfl ?_
        refine wf_getR (pc := 14) dX7_allBones_14 fl_X7_22 hT.1 (hR _ _ _ (rt_T3 hT)) ?_
        refine wp_iload_n (pc := 17) dX7_allBones_17 rfl ?_
        refine wf_iald (pc := 18) (j := m) dX7_allBones_18 hT.2.2.1 rfl (by omega) ?_
        rw [(ht.2.2.1 m (by omega)).2]
        refine wp_iadd (pc := 19) dX7_allBones_19 ?_
        refine wp_istore_n (pc := 20) (L' := [_, _, _, _]) dX7_allBones_20 (Nat.le_of_ble_eq_true rfl) rfl rfl ?_
        refine wp_iinc1 (pc := 21) (L' := [_, _, _, _]) dX7_allBones_21 rfl rfl rfl ?_
        refine wp_goto (pc := 24) 4 dX7_allBones_24 (by decide) ?_
        exact ih (m + 1) (by omega) (by omega)
  refine wp_ic (pc := 0) (x := nI 0) dX7_allBones_0 ic_0 ?_
  refine wp_istore_n (pc := 1) (L' := [_, _, _, _]) dX7_allBones_1 (Nat.le_of_ble_eq_true rfl) rfl rfl ?_
  refine wp_ic (pc := 2) (x := nI 0) dX7_allBones_2 ic_0 ?_
  refine wp_istore_n (pc := 3) (L' := [_, _, _, _]) dX7_allBones_3 (Nat.le_of_ble_eq_true rfl) rfl rfl ?_
  exact loop (lD Λ) 0 (by omega) (by omega)
theorem c_Town_become {l : Launch} {K : CtxT} {M : Mm} {t t2 : Nat} (hT : IT t) (hT2 : IT t2) (hR : RS M) (hd : t + 6 ≤ t2 ∨ t2 + 6 ≤ t) : Cv l K 1 mX7_become [.ref (K.1 + t), .ref (K.1 + t2)] M (fun M' => Cp t t2 M M' ∧ Sm t (t + 6) M M') := by
  refine cv_of (L := [some (.ref (K.1 + t)), some (.ref (K.1 + t2))]) (by decide +kernel) (Nat.le_of_ble_eq_true rfl) rfl rfl (fun E => ?_)
  refine wp_aload_n (pc := 0) dX7_become_0 rfl ?_
  refine wp_aload_n (pc := 1) dX7_become_1 rfl ?_
  refine wf_getI (pc := 2) dX7_become_2 fl_X7_9 hT2.1 ?_
  refine wf_putI (pc := 5) dX7_become_5 fl_X7_9 hT.1 ?_
  refine wp_aload_n (pc := 8) dX7_become_8 rfl ?_
  refine wp_aload_n (pc := 9) dX7_become_9 rfl ?_
  refine wf_getI (pc := 10) dX7_become_10 fl_X7_15 hT2.1 ?_
  refine wf_putI (pc := 13) dX7_become_13 fl_X7_15 hT.1 ?_
  refine wp_aload_n (pc := 16) dX7_become_16 rfl ?_
  refine wf_getR (pc := 17) dX7_become_17 fl_X7_18 hT2.1 (hR _ _ _ (rt_T2 hT2)) ?_
  refine wp_ic (pc := 20) (x := nI 0) dX7_become_20 ic_0 ?_
  refine wp_aload_n (pc := 21) dX7_become_21 rfl ?_
  refine wf_getR (pc := 22) dX7_become_22 fl_X7_18 hT.1 (hR _ _ _ (rt_T2 hT)) ?_
  refine wp_ic (pc := 25) (x := nI 0) dX7_become_25 ic_0 ?_
  refine wp_ic (pc := 26) (x := nI 4) dX7_become_26 ic_4 ?_
  refine wf_copy (pc := 27) dX7_become_27 ac_X7_34 hT2.2.1 hT.2.1 (by decide) (by decide) (Nat.le_of_ble_eq_true rfl) (by decide) ?_
  refine wp_aload_n (pc := 30) dX7_become_30 rfl ?_
  refine wf_getR (pc := 31) dX7_become_31 fl_X7_22 hT2.1 (hR _ _ _ (rt_T3 hT2)) ?_
  refine wp_ic (pc := 34) (x := nI 0) dX7_become_34 ic_0 ?_
  refine wp_aload_n (pc := 35) dX7_become_35 rfl ?_
  refine wf_getR (pc := 36) dX7_become_36 fl_X7_22 hT.1 (hR _ _ _ (rt_T3 hT)) ?_
  refine wp_ic (pc := 39) (x := nI 0) dX7_become_39 ic_0 ?_
  refine wp_ic (pc := 40) (x := nI 4) dX7_become_40 ic_4 ?_
  refine wf_copy (pc := 41) dX7_become_41 ac_X7_34 hT2.2.2.1 hT.2.2.1 (by decide) (by decide) (Nat.le_of_ble_eq_true rfl) (by decide) ?_
  refine wp_aload_n (pc := 44) dX7_become_44 rfl ?_
  refine wf_getR (pc := 45) dX7_become_45 fl_X7_25 hT2.1 (hR _ _ _ (rt_T4 hT2)) ?_
  refine wp_ic (pc := 48) (x := nI 0) dX7_become_48 ic_0 ?_
  refine wp_aload_n (pc := 49) dX7_become_49 rfl ?_
  refine wf_getR (pc := 50) dX7_become_50 fl_X7_25 hT.1 (hR _ _ _ (rt_T4 hT)) ?_
  refine wp_ic (pc := 53) (x := nI 0) dX7_become_53 ic_0 ?_
  refine wp_ic (pc := 54) (x := nI 5) dX7_become_54 ic_5 ?_
  refine wf_copy (pc := 55) dX7_become_55 ac_X7_34 hT2.2.2.2.1 hT.2.2.2.1 (by decide) (by decide) (Nat.le_of_ble_eq_true rfl) (by decide) ?_
  refine wp_aload_n (pc := 58) dX7_become_58 rfl ?_
  refine wf_getR (pc := 59) dX7_become_59 fl_X7_28 hT2.1 (hR _ _ _ (rt_T5 hT2)) ?_
  refine wp_ic (pc := 62) (x := nI 0) dX7_become_62 ic_0 ?_
  refine wp_aload_n (pc := 63) dX7_become_63 rfl ?_
  refine wf_getR (pc := 64) dX7_become_64 fl_X7_28 hT.1 (hR _ _ _ (rt_T5 hT)) ?_
  refine wp_ic (pc := 67) (x := nI 0) dX7_become_67 ic_0 ?_
  refine wp_ic (pc := 68) (x := nI 5) dX7_become_68 ic_5 ?_
  refine wf_copy (pc := 69) dX7_become_69 ac_X7_34 hT2.2.2.2.2.1 hT.2.2.2.2.1 (by decide) (by decide) (Nat.le_of_ble_eq_true rfl) (by decide) ?_
  refine wp_aload_n (pc := 72) dX7_become_72 rfl ?_
  refine wf_getR (pc := 73) dX7_become_73 fl_X7_31 hT2.1 (hR _ _ _ (rt_T6 hT2)) ?_
  refine wp_ic (pc := 76) (x := nI 0) dX7_become_76 ic_0 ?_
  refine wp_aload_n (pc := 77) dX7_become_77 rfl ?_
  refine wf_getR (pc := 78) dX7_become_78 fl_X7_31 hT.1 (hR _ _ _ (rt_T6 hT)) ?_
  refine wp_ic (pc := 81) (x := nI 0) dX7_become_81 ic_0 ?_
  refine wp_ic (pc := 82) (x := nI 5) dX7_become_82 ic_5 ?_
  refine wf_copy (pc := 83) dX7_become_83 ac_X7_34 hT2.2.2.2.2.2 hT.2.2.2.2.2 (by decide) (by decide) (Nat.le_of_ble_eq_true rfl) (by decide) ?_
  refine wf_vret (pc := 86) dX7_become_86 rfl ?_
  refine ⟨⟨fun k hk => ?_, fun k hk => ?_, fun k hk => ?_⟩, ?_⟩
  · rcases (show k = 0 ∨ k = 1 by omega) with rfl | rfl <;> simp (disch := omega) only [wC_na, wI_at, wI_nk, wI_na]
  · constructor <;> simp (disch := omega) only [wC_at, wC_na, wI_at, wI_nk, wI_na]
  · refine ⟨?_, ?_, ?_⟩ <;> simp (disch := omega) only [wC_at, wC_na, wI_at, wI_nk, wI_na]
  · exact (((((((Sm.w (by omega) (by omega)).tr (Sm.w (by omega) (by omega))).tr (Sm.c (by omega) (by omega))).tr (Sm.c (by omega) (by omega))).tr (Sm.c (by omega) (by omega))).tr (Sm.c (by omega) (by omega))).tr (Sm.c (by omega) (by omega)))
theorem c_impound {l : Launch} {K : CtxT} {M : Mm} {t w : Nat} {Λ : Lw} {P : Pg} (hT : IT t) (hW : IL w) (hR : RS M) (hL : OkN Λ) (hx : XL M w Λ) (ht : XT M t Λ P) (hd : w + 5 ≤ t ∨ t + 6 ≤ w) {m : Nat} (hm : m < lM Λ) (hk : P (8 + m) = no9 ∨ ∃ d, d < lD Λ ∧ P (8 + m) = nI d) : Cv l K 1 mX7_impound [.ref (K.1 + t), .ref (K.1 + w), .int (nI m)] M (fun M' => XT M' t Λ (catP P m) ∧ Sm t (t + 6) M M') := by
  have hD := hL.1
  have hN := hL.2.1
  refine cv_of (L := [some (.ref (K.1 + t)), some (.ref (K.1 + w)), some (.int (nI m)), none]) (by decide +kernel) (Nat.le_of_ble_eq_true rfl) rfl rfl (fun E => ?_)
  refine wp_aload_n (pc := 0) dX7_impound_0 rfl ?_
  refine wf_getR (pc := 1) dX7_impound_1 fl_X7_31 hT.1 (hR _ _ _ (rt_T6 hT)) ?_
  refine wp_iload_n (pc := 4) dX7_impound_4 rfl ?_
  refine wp_ic (pc := 5) (x := nI 3) dX7_impound_5 ic_3 ?_
  refine wf_iast (pc := 6) (j := m) dX7_impound_6 hT.2.2.2.2.2 rfl (by omega) ?_
  have ht1 := ht.sent ⟨hL.1, hL.2.1⟩ (show m < 5 by omega) (nI 3)
  have hs1 : Sm t (t + 6) M (wI M (t + 5) m (nI 3)) := Sm.w (by omega) (by omega)
  have hx := hx.sm hs1 hd
  have hR := hs1.rs hR
  generalize wI M (t + 5) m (nI 3) = M1 at ht1 hs1 hx hR ⊢
  refine wp_aload_n (pc := 7) dX7_impound_7 rfl ?_
  refine wf_getR (pc := 8) dX7_impound_8 fl_X7_25 hT.1 (hR _ _ _ (rt_T4 hT)) ?_
  refine wp_iload_n (pc := 11) dX7_impound_11 rfl ?_
  refine wf_iald (pc := 12) (j := m) dX7_impound_12 hT.2.2.2.1 rfl (by omega) ?_
  rw [show M1.1 (t + 3) m = P (8 + m) from by rw [(ht1.2.2.2 m hm).1]; simp [upd, show 8 + m ≠ 19 + m by omega]]
  refine wp_istore_n (pc := 13) (L' := [_, _, _, _]) dX7_impound_13 (Nat.le_of_ble_eq_true rfl) rfl rfl ?_
  refine wp_aload_n (pc := 14) dX7_impound_14 rfl ?_
  refine wp_iload_n (pc := 15) dX7_impound_15 rfl ?_
  refine wf_callVi (pc := 16) dX7_impound_16 cl_X7_98 (c_hasDog hW hR hL hx) hW.1 rfl rfl rfl rfl (Nat.le_of_ble_eq_true rfl) (by decide) ⟨Nat.le_refl _, Nat.le_refl _⟩ (fun r16 M16 q16 => ?_)
  rw [q16.1, q16.2]
  refine wp_if_eq (pc := 19) 32 dX7_impound_19 (by decide) (fun h19 => ?_) (fun h19 => ?_)
  · have h19 := b2i_0 h19
    have e : P (8 + m) = no9 := by
      rcases hk with q | ⟨d, hd2, q⟩
      · exact q
      · rw [q, inD_nI (by omega) hd2] at h19; cases h19
    have e2 : catP P m = upd P (19 + m) (nI 3) := by simp [catP, e]
    refine wf_vret (pc := 32) dX7_impound_32 rfl ?_
    first | (rw [e2]; exact ⟨ht1, hs1⟩) | (rw [e2, e3]; exact ⟨ht1.bone ⟨hL.1, hL.2.1⟩ (by omega) _, hs1.tr (Sm.w (by omega) (by omega))⟩)
  · have h19 := b2i_1 h19
    obtain ⟨d0, hd0, e⟩ := inD_of h19 (by omega)
    rw [e]
    have e3 : M1.1 (t + 2) d0 = P (4 + d0) := by rw [(ht1.2.2.1 d0 hd0).2]; simp [upd, show 4 + d0 ≠ 19 + m by omega]
    have e2 : catP P m = upd (upd P (19 + m) (nI 3)) (4 + d0) (P (4 + d0) + nI 2) := by
      have : P (8 + m) ≠ no9 := by rw [e]; exact fun q => absurd (nI_pos (n := d0) (by omega)) (by rw [q]; decide)
      simp only [catP, this, ne_eq, not_false_eq_true, if_true]
      rw [e, nI_clamp (by omega)]
    refine wp_aload_n (pc := 22) dX7_impound_22 rfl ?_
    refine wf_getR (pc := 23) dX7_impound_23 fl_X7_22 hT.1 (hR _ _ _ (rt_T3 hT)) ?_
    refine wp_iload_n (pc := 26) dX7_impound_26 rfl ?_
    refine wp_dup2 (pc := 27) dX7_impound_27 rfl rfl ?_
    refine wf_iald (pc := 28) (j := d0) dX7_impound_28 hT.2.2.1 rfl (by omega) ?_
    refine wp_ic (pc := 29) (x := nI 2) dX7_impound_29 ic_2 ?_
    refine wp_iadd (pc := 30) dX7_impound_30 ?_
    refine wf_iast (pc := 31) (j := d0) dX7_impound_31 hT.2.2.1 rfl (by omega) ?_
    refine wf_vret (pc := 32) dX7_impound_32 rfl ?_
    first | (rw [e2]; exact ⟨ht1, hs1⟩) | (rw [e2, e3]; exact ⟨ht1.bone ⟨hL.1, hL.2.1⟩ (by omega) _, hs1.tr (Sm.w (by omega) (by omega))⟩)
theorem c_serve {l : Launch} {K : CtxT} {M : Mm} {t w : Nat} {Λ : Lw} {P : Pg} (hT : IT t) (hW : IL w) (hR : RS M) (hL : OkN Λ) (hx : XL M w Λ) (ht : XT M t Λ P) (hd : w + 5 ≤ t ∨ t + 6 ≤ w) {m : Nat} (hm : m < lM Λ) (hk : P (8 + m) = no9 ∨ ∃ d, d < lD Λ ∧ P (8 + m) = nI d) : Cv l K 1 mX7_serve [.ref (K.1 + t), .ref (K.1 + w), .int (nI m)] M (fun M' => XT M' t Λ (servP P m) ∧ Sm t (t + 6) M M') := by
  have hD := hL.1
  have hN := hL.2.1
  refine cv_of (L := [some (.ref (K.1 + t)), some (.ref (K.1 + w)), some (.int (nI m)), none]) (by decide +kernel) (Nat.le_of_ble_eq_true rfl) rfl rfl (fun E => ?_)
  refine wp_aload_n (pc := 0) dX7_serve_0 rfl ?_
  refine wf_getR (pc := 1) dX7_serve_1 fl_X7_31 hT.1 (hR _ _ _ (rt_T6 hT)) ?_
  refine wp_iload_n (pc := 4) dX7_serve_4 rfl ?_
  refine wp_dup2 (pc := 5) dX7_serve_5 rfl rfl ?_
  refine wf_iald (pc := 6) (j := m) dX7_serve_6 hT.2.2.2.2.2 rfl (by omega) ?_
  rw [(ht.2.2.2 m hm).2.2]
  refine wp_ic (pc := 7) (x := nI 1) dX7_serve_7 ic_1 ?_
  refine wp_isub (pc := 8) dX7_serve_8 ?_
  refine wf_iast (pc := 9) (j := m) dX7_serve_9 hT.2.2.2.2.2 rfl (by omega) ?_
  have ht1 := ht.sent ⟨hL.1, hL.2.1⟩ (show m < 5 by omega) (P (19 + m) - nI 1)
  have hs1 : Sm t (t + 6) M (wI M (t + 5) m (P (19 + m) - nI 1)) := Sm.w (by omega) (by omega)
  have hx := hx.sm hs1 hd
  have hR := hs1.rs hR
  generalize wI M (t + 5) m (P (19 + m) - nI 1) = M1 at ht1 hs1 hx hR ⊢
  refine wp_aload_n (pc := 10) dX7_serve_10 rfl ?_
  refine wf_getR (pc := 11) dX7_serve_11 fl_X7_25 hT.1 (hR _ _ _ (rt_T4 hT)) ?_
  refine wp_iload_n (pc := 14) dX7_serve_14 rfl ?_
  refine wf_iald (pc := 15) (j := m) dX7_serve_15 hT.2.2.2.1 rfl (by omega) ?_
  rw [show M1.1 (t + 3) m = P (8 + m) from by rw [(ht1.2.2.2 m hm).1]; simp [upd, show 8 + m ≠ 19 + m by omega]]
  refine wp_istore_n (pc := 16) (L' := [_, _, _, _]) dX7_serve_16 (Nat.le_of_ble_eq_true rfl) rfl rfl ?_
  refine wp_aload_n (pc := 17) dX7_serve_17 rfl ?_
  refine wp_iload_n (pc := 18) dX7_serve_18 rfl ?_
  refine wf_callVi (pc := 19) dX7_serve_19 cl_X7_45 (c_isImpounded hT hR ht1 hm (by omega)) hT.1 rfl rfl rfl rfl (Nat.le_of_ble_eq_true rfl) (by decide) ⟨Nat.le_refl _, Nat.le_refl _⟩ (fun r19 M19 q19 => ?_)
  rw [q19.1, q19.2]
  refine wp_if_ne (pc := 22) 45 dX7_serve_22 (by decide) (fun h22 => ?_) (fun h22 => ?_)
  · have h22 := b2i_1 h22
    have h22 := of_decide_eq_true h22
    rw [show upd P (19 + m) (P (19 + m) - nI 1) (19 + m) = P (19 + m) - nI 1 from by simp [upd]] at h22
    have e2 : servP P m = upd P (19 + m) (P (19 + m) - nI 1) := by simp [servP, h22]
    refine wf_vret (pc := 45) dX7_serve_45 rfl ?_
    first | (rw [e2]; exact ⟨ht1, hs1⟩) | (rw [e2, e3]; exact ⟨ht1.man ⟨hL.1, hL.2.1⟩ (by omega) _, hs1.tr (Sm.w (by omega) (by omega))⟩)
  · have h22 := b2i_0 h22
    have h22 := of_decide_eq_false h22
    rw [show upd P (19 + m) (P (19 + m) - nI 1) (19 + m) = P (19 + m) - nI 1 from by simp [upd]] at h22
    refine wp_aload_n (pc := 25) dX7_serve_25 rfl ?_
    refine wp_iload_n (pc := 26) dX7_serve_26 rfl ?_
    refine wf_callVi (pc := 27) dX7_serve_27 cl_X7_98 (c_hasDog hW hR hL hx) hW.1 rfl rfl rfl rfl (Nat.le_of_ble_eq_true rfl) (by decide) ⟨Nat.le_refl _, Nat.le_refl _⟩ (fun r27 M27 q27 => ?_)
    rw [q27.1, q27.2]
    refine wp_if_eq (pc := 30) 45 dX7_serve_30 (by decide) (fun h30 => ?_) (fun h30 => ?_)
    · have h30 := b2i_0 h30
      have e : P (8 + m) = no9 := by
        rcases hk with q | ⟨d, hd2, q⟩
        · exact q
        · rw [q, inD_nI (by omega) hd2] at h30; cases h30
      have e2 : servP P m = upd P (19 + m) (P (19 + m) - nI 1) := by simp [servP, e]
      refine wf_vret (pc := 45) dX7_serve_45 rfl ?_
      first | (rw [e2]; exact ⟨ht1, hs1⟩) | (rw [e2, e3]; exact ⟨ht1.man ⟨hL.1, hL.2.1⟩ (by omega) _, hs1.tr (Sm.w (by omega) (by omega))⟩)
    · have h30 := b2i_1 h30
      obtain ⟨d0, hd0, e⟩ := inD_of h30 (by omega)
      rw [e]
      have e3 : M1.1 (t + 1) d0 = P d0 := by rw [(ht1.2.2.1 d0 hd0).1]; simp [upd, show d0 ≠ 19 + m by omega]
      have e2 : servP P m = upd (upd P (19 + m) (P (19 + m) - nI 1)) (13 + m) (P d0) := by
        have : P (8 + m) ≠ no9 := by rw [e]; exact fun q => absurd (nI_pos (n := d0) (by omega)) (by rw [q]; decide)
        simp only [servP, this, ne_eq, not_false_eq_true, and_true, h22, if_true]
        rw [e, nI_clamp (by omega)]
      refine wp_aload_n (pc := 33) dX7_serve_33 rfl ?_
      refine wf_getR (pc := 34) dX7_serve_34 fl_X7_28 hT.1 (hR _ _ _ (rt_T5 hT)) ?_
      refine wp_iload_n (pc := 37) dX7_serve_37 rfl ?_
      refine wp_aload_n (pc := 38) dX7_serve_38 rfl ?_
      refine wf_getR (pc := 39) dX7_serve_39 fl_X7_18 hT.1 (hR _ _ _ (rt_T2 hT)) ?_
      refine wp_iload_n (pc := 42) dX7_serve_42 rfl ?_
      refine wf_iald (pc := 43) (j := d0) dX7_serve_43 hT.2.1 rfl (by omega) ?_
      refine wf_iast (pc := 44) (j := m) dX7_serve_44 hT.2.2.2.2.1 rfl (by omega) ?_
      refine wf_vret (pc := 45) dX7_serve_45 rfl ?_
      first | (rw [e2]; exact ⟨ht1, hs1⟩) | (rw [e2, e3]; exact ⟨ht1.man ⟨hL.1, hL.2.1⟩ (by omega) _, hs1.tr (Sm.w (by omega) (by omega))⟩)
theorem servP_keeper (P : Pg) {m j : Nat} (hm : m < 5) (hj : j < 5) : servP P m (8 + j) = P (8 + j) := by
  unfold servP
  split <;> simp [upd, show 8 + j ≠ 19 + m by omega, show 8 + j ≠ 13 + m by omega]
theorem catP_keeper (P : Pg) {m j d : Nat} (hm : m < 5) (hj : j < 5) (hd : d < 4) (hk : P (8 + m) = no9 ∨ P (8 + m) = nI d) : catP P m (8 + j) = P (8 + j) := by
  unfold catP
  rcases hk with q | q
  · simp [upd, q, show 8 + j ≠ 19 + m by omega]
  · rw [q, nI_clamp (by omega)]
    split <;> simp [upd, show 8 + j ≠ 19 + m by omega, show 8 + j ≠ 4 + d by omega]
/-- who keeps whom -/
def KpP (Λ : Lw) (P : Pg) : Prop := ∀ m, m < lM Λ → P (8 + m) = no9 ∨ ∃ d, d < lD Λ ∧ P (8 + m) = nI d
theorem hitP_keeper {Λ : Lw} {late : Bool} {wd : Int32} {c : Int32 × Pg} (hL : lD Λ ≤ 4 ∧ lM Λ ≤ 5) (hk : KpP Λ c.2) : ∀ m, m ≤ lM Λ → ∀ j, j < 5 → (hitP Λ late wd c m).2 (8 + j) = c.2 (8 + j)
  | 0, _, j, _ => rfl
  | m + 1, hm, j, hj => by
    have ih := hitP_keeper hL hk (late := late) (wd := wd) m (by omega)
    show (hstP Λ late wd (hitP Λ late wd c m) m).2 (8 + j) = _
    unfold hstP
    split
    · rw [show ((hitP Λ late wd c m).1, servP (hitP Λ late wd c m).2 m).2 = servP (hitP Λ late wd c m).2 m from rfl, servP_keeper _ (by omega) hj]; exact ih j hj
    · split
      · have h1 := hk m (by omega)
        rw [← ih m (by omega)] at h1
        show catP (hitP Λ late wd c m).2 m (8 + j) = _
        rcases h1 with q | ⟨d, hd, q⟩
        · rw [catP_keeper (d := 0) _ (by omega) hj (by omega) (Or.inl q)]; exact ih j hj
        · rw [catP_keeper (d := d) _ (by omega) hj (by omega) (Or.inr q)]; exact ih j hj
      · exact ih j hj
theorem c_passHour {l : Launch} {K : CtxT} {M : Mm} {t w : Nat} {Λ : Lw} {P : Pg} (hT : IT t) (hW : IL w) (hR : RS M) (hL : OkN Λ) (hx : XL M w Λ) (ht : XT M t Λ P) (hk : KpP Λ P) (hd : w + 5 ≤ t ∨ t + 6 ≤ w) {h far : Nat} {x : Int32} (hh : P 24 = nI h) (hf : h + far < 2 ^ 31) : Ci l K 3 mX7_passHour [.ref (K.1 + t), .ref (K.1 + w), .int x, .int (nI far)] M (fun r M' => r = (hourP Λ P h far x).1 ∧ XT M' t Λ (hourP Λ P h far x).2 ∧ Sm t (t + 6) M M') := by
  have hD := hL.1
  have hN := hL.2.1
  refine ci_of (L := [some (.ref (K.1 + t)), some (.ref (K.1 + w)), some (.int x), some (.int (nI far)), none, none, none, none]) (by decide +kernel) (Nat.le_of_ble_eq_true rfl) rfl rfl (fun E => ?_)
  have loop : ∀ (n m : Nat) (M1 : Mm), n = lM Λ - m → m ≤ lM Λ → RS M1 → XL M1 w Λ → XT M1 t Λ (hitP Λ (decide (x ≤ nI (h % 12))) (lRo Λ ((h + far) % 4)) (nI 0, P) m).2 → Sm t (t + 6) M M1 → Wp E K mX7_passHour 3 (0, 0) 28 [some (.ref (K.1 + t)), some (.ref (K.1 + w)), some (.int x), some (.int (nI far)), some (.int (lRo Λ ((h + far) % 4))), some (.int (b2i (decide (x ≤ nI (h % 12))))), some (.int (hitP Λ (decide (x ≤ nI (h % 12))) (lRo Λ ((h + far) % 4)) (nI 0, P) m).1), some (.int (nI m))] [] 168 M1 0 0 (zI E K (fun r M' => r = (hourP Λ P h far x).1 ∧ XT M' t Λ (hourP Λ P h far x).2 ∧ Sm t (t + 6) M M')) := by
    intro n
    induction n with
    | zero =>
      intro m M1 hn hm hR hx ht hs
      refine wp_iload (pc := 28) dX7_passHour_28 rfl ?_
      refine wp_aload_n (pc := 30) dX7_passHour_30 rfl ?_
      refine wf_getI (pc := 31) dX7_passHour_31 fl_X7_40 hW.1 ?_
      rw [hx.2.1]
      refine wp_icmp_ge (pc := 34) 102 dX7_passHour_34 (by decide) (fun h34 => ?_) (fun h34 => ?_)
      · have e : m = lM Λ := by omega
        subst e
        refine wp_aload_n (pc := 102) dX7_passHour_102 rfl ?_
        refine wp_dup (pc := 103) dX7_passHour_103 rfl ?_
        refine wf_getI (pc := 104) dX7_passHour_104 fl_X7_9 hT.1 ?_
        refine wp_ic (pc := 107) (x := nI 1) dX7_passHour_107 ic_1 ?_
        refine wp_iadd (pc := 108) dX7_passHour_108 ?_
        refine wf_putI (pc := 109) dX7_passHour_109 fl_X7_9 hT.1 ?_
        refine wp_iload (pc := 112) dX7_passHour_112 rfl ?_
        refine wf_iret (pc := 114) dX7_passHour_114 rfl ?_
        have e := ht.1
        exact ⟨rfl, by rw [e]; exact ht.hour ⟨hL.1, hL.2.1⟩ _, hs.tr (Sm.w (by omega) (by omega))⟩
      · exact absurd (nI_le (by omega) (by omega)) h34
    | succ n ih =>
      intro m M1 hn hm hR hx ht hs
      have hkm : (hitP Λ (decide (x ≤ nI (h % 12))) (lRo Λ ((h + far) % 4)) (nI 0, P) m).2 (8 + m) = no9 ∨ ∃ d, d < lD Λ ∧ (hitP Λ (decide (x ≤ nI (h % 12))) (lRo Λ ((h + far) % 4)) (nI 0, P) m).2 (8 + m) = nI d := by
        rw [hitP_keeper ⟨hL.1, hL.2.1⟩ hk m hm m (by omega)]
        exact hk m (by omega)
      refine wp_iload (pc := 28) dX7_passHour_28 rfl ?_
      refine wp_aload_n (pc := 30) dX7_passHour_30 rfl ?_
      refine wf_getI (pc := 31) dX7_passHour_31 fl_X7_40 hW.1 ?_
      rw [hx.2.1]
      refine wp_icmp_ge (pc := 34) 102 dX7_passHour_34 (by decide) (fun h34 => ?_) (fun h34 => ?_)
      · exact absurd h34 (nI_ge (by omega) (by omega))
      · refine wp_aload_n (pc := 37) dX7_passHour_37 rfl ?_
        refine wp_iload (pc := 38) dX7_passHour_38 rfl ?_
        refine wf_callVi (pc := 40) dX7_passHour_40 cl_X7_45 (c_isImpounded hT hR ht (show m < lM Λ by omega) (by omega)) hT.1 rfl rfl rfl rfl (Nat.le_of_ble_eq_true rfl) (by decide) ⟨Nat.le_refl _, Nat.le_refl _⟩ (fun r40 M40 q40 => ?_)
        rw [q40.1, q40.2]
        refine wp_if_eq (pc := 43) 56 dX7_passHour_43 (by decide) (fun h43 => ?_) (fun h43 => ?_)
        · have h43 := b2i_0 h43
          have h43 := of_decide_eq_false h43
          refine wp_aload_n (pc := 56) dX7_passHour_56 rfl ?_
          refine wf_getR (pc := 57) dX7_passHour_57 fl_X7_28 hT.1 (hR _ _ _ (rt_T5 hT)) ?_
          refine wp_iload (pc := 60) dX7_passHour_60 rfl ?_
          refine wf_iald (pc := 62) (j := m) dX7_passHour_62 hT.2.2.2.2.1 rfl (by omega) ?_
          refine wp_iload (pc := 63) dX7_passHour_63 rfl ?_
          rw [(ht.2.2.2 m (by omega)).2.1]
          refine wp_icmp_ne (pc := 65) 96 dX7_passHour_65 (by decide) (fun h65 => ?_) (fun h65 => ?_)
          · have e2 : hitP Λ (decide (x ≤ nI (h % 12))) (lRo Λ ((h + far) % 4)) (nI 0, P) (m + 1) = hitP Λ (decide (x ≤ nI (h % 12))) (lRo Λ ((h + far) % 4)) (nI 0, P) m := by simp only [hitP, hstP, h43, h65, if_false, false_and]
            refine wp_iinc1 (pc := 96) (L' := [_, _, _, _, _, _, _, _]) dX7_passHour_96 rfl rfl rfl ?_
            refine wp_goto (pc := 99) 28 dX7_passHour_99 (by decide) ?_
            have g := ih (m + 1) _ (by omega) (by omega) hR hx (by rw [e2]; exact ht) hs
            rw [e2] at g
            exact g
          · refine wp_aload_n (pc := 68) dX7_passHour_68 rfl ?_
            refine wp_aload_n (pc := 69) dX7_passHour_69 rfl ?_
            refine wp_iload (pc := 70) dX7_passHour_70 rfl ?_
            refine wp_iload (pc := 72) dX7_passHour_72 rfl ?_
            refine wf_callVi (pc := 74) dX7_passHour_74 cl_X7_80 (c_mayBeCaught hT hW hR hL hx ht (show m < lM Λ by omega)) hT.1 rfl rfl rfl rfl (Nat.le_of_ble_eq_true rfl) (by decide) ⟨Nat.le_refl _, Nat.le_refl _⟩ (fun r74 M74 q74 => ?_)
            rw [q74.1, q74.2]
            refine wp_if_eq (pc := 77) 96 dX7_passHour_77 (by decide) (fun h77 => ?_) (fun h77 => ?_)
            · have h77 := b2i_0 h77
              have e2 : hitP Λ (decide (x ≤ nI (h % 12))) (lRo Λ ((h + far) % 4)) (nI 0, P) (m + 1) = hitP Λ (decide (x ≤ nI (h % 12))) (lRo Λ ((h + far) % 4)) (nI 0, P) m := by simp [hitP, hstP, h43, h77]
              refine wp_iinc1 (pc := 96) (L' := [_, _, _, _, _, _, _, _]) dX7_passHour_96 rfl rfl rfl ?_
              refine wp_goto (pc := 99) 28 dX7_passHour_99 (by decide) ?_
              have g := ih (m + 1) _ (by omega) (by omega) hR hx (by rw [e2]; exact ht) hs
              rw [e2] at g
              exact g
            · have h77 := b2i_1 h77
              have e2 : hitP Λ (decide (x ≤ nI (h % 12))) (lRo Λ ((h + far) % 4)) (nI 0, P) (m + 1) = ((hitP Λ (decide (x ≤ nI (h % 12))) (lRo Λ ((h + far) % 4)) (nI 0, P) m).1 ||| bit m, catP (hitP Λ (decide (x ≤ nI (h % 12))) (lRo Λ ((h + far) % 4)) (nI 0, P) m).2 m) := by simp [hitP, hstP, h43, h65, h77]
              refine wp_aload_n (pc := 80) dX7_passHour_80 rfl ?_
              refine wp_aload_n (pc := 81) dX7_passHour_81 rfl ?_
              refine wp_iload (pc := 82) dX7_passHour_82 rfl ?_
              refine wf_callVv (pc := 84) dX7_passHour_84 cl_X7_84 (c_impound hT hW hR hL hx ht hd (show m < lM Λ by omega) hkm) hT.1 rfl rfl rfl rfl (Nat.le_of_ble_eq_true rfl) (by decide) ⟨Nat.le_refl _, Nat.le_refl _⟩ (fun M84 q84 => ?_)
              have hx := hx.sm q84.2 hd
              have hR := q84.2.rs hR
              have hs := hs.tr q84.2
              have ht := q84.1
              refine wp_iload (pc := 87) dX7_passHour_87 rfl ?_
              refine wp_ic (pc := 89) (x := nI 1) dX7_passHour_89 ic_1 ?_
              refine wp_iload (pc := 90) dX7_passHour_90 rfl ?_
              refine wp_ishl (pc := 92) dX7_passHour_92 ?_
              refine wp_ior (pc := 93) dX7_passHour_93 ?_
              refine wp_istore (pc := 94) (L' := [_, _, _, _, _, _, _, _]) dX7_passHour_94 (Nat.le_of_ble_eq_true rfl) rfl rfl ?_
              refine wp_iinc1 (pc := 96) (L' := [_, _, _, _, _, _, _, _]) dX7_passHour_96 rfl rfl rfl ?_
              refine wp_goto (pc := 99) 28 dX7_passHour_99 (by decide) ?_
              have g := ih (m + 1) _ (by omega) (by omega) hR hx (by rw [e2]; exact ht) hs
              rw [e2] at g
              exact g
        · have h43 := b2i_1 h43
          have h43 := of_decide_eq_true h43
          have e2 : hitP Λ (decide (x ≤ nI (h % 12))) (lRo Λ ((h + far) % 4)) (nI 0, P) (m + 1) = ((hitP Λ (decide (x ≤ nI (h % 12))) (lRo Λ ((h + far) % 4)) (nI 0, P) m).1, servP (hitP Λ (decide (x ≤ nI (h % 12))) (lRo Λ ((h + far) % 4)) (nI 0, P) m).2 m) := by simp only [hitP, hstP, h43, if_true]
          refine wp_aload_n (pc := 46) dX7_passHour_46 rfl ?_
          refine wp_aload_n (pc := 47) dX7_passHour_47 rfl ?_
          refine wp_iload (pc := 48) dX7_passHour_48 rfl ?_
          refine wf_callVv (pc := 50) dX7_passHour_50 cl_X7_76 (c_serve hT hW hR hL hx ht hd (show m < lM Λ by omega) hkm) hT.1 rfl rfl rfl rfl (Nat.le_of_ble_eq_true rfl) (by decide) ⟨Nat.le_refl _, Nat.le_refl _⟩ (fun M50 q50 => ?_)
          have hx := hx.sm q50.2 hd
          have hR := q50.2.rs hR
          have hs := hs.tr q50.2
          have ht := q50.1
          refine wp_goto (pc := 53) 96 dX7_passHour_53 (by decide) ?_
          refine wp_iinc1 (pc := 96) (L' := [_, _, _, _, _, _, _, _]) dX7_passHour_96 rfl rfl rfl ?_
          refine wp_goto (pc := 99) 28 dX7_passHour_99 (by decide) ?_
          have g := ih (m + 1) _ (by omega) (by omega) hR hx (by rw [e2]; exact ht) hs
          rw [e2] at g
          exact g
  refine wp_aload_n (pc := 0) dX7_passHour_0 rfl ?_
  refine wp_aload_n (pc := 1) dX7_passHour_1 rfl ?_
  refine wf_getI (pc := 2) dX7_passHour_2 fl_X7_9 hT.1 ?_
  rw [ht.1, hh]
  refine wp_iload_n (pc := 5) dX7_passHour_5 rfl ?_
  refine wp_iadd (pc := 6) dX7_passHour_6 ?_
  rw [nI_add]
  refine wf_callVi (pc := 7) dX7_passHour_7 cl_X7_69 (c_wardenAt hW hR hL hx hf) hW.1 rfl rfl rfl rfl (Nat.le_of_ble_eq_true rfl) (by decide) ⟨Nat.le_refl _, Nat.le_refl _⟩ (fun r7 M7 q7 => ?_)
  rw [q7.1, q7.2]
  refine wp_istore (pc := 10) (L' := [_, _, _, _, _, _, _, _]) dX7_passHour_10 (Nat.le_of_ble_eq_true rfl) rfl rfl ?_
  refine wp_aload_n (pc := 12) dX7_passHour_12 rfl ?_
  refine wf_getI (pc := 13) dX7_passHour_13 fl_X7_9 hT.1 ?_
  rw [ht.1, hh]
  refine wp_iload_n (pc := 16) dX7_passHour_16 rfl ?_
  refine wf_callSi (pc := 17) dX7_passHour_17 cl_X7_72 (c_isLate (show h < 2 ^ 31 by omega)) rfl rfl (Nat.le_of_ble_eq_true rfl) (by decide) ⟨Nat.le_refl _, Nat.le_refl _⟩ (fun r17 M17 q17 => ?_)
  rw [q17.1, q17.2]
  refine wp_istore (pc := 20) (L' := [_, _, _, _, _, _, _, _]) dX7_passHour_20 (Nat.le_of_ble_eq_true rfl) rfl rfl ?_
  refine wp_ic (pc := 22) (x := nI 0) dX7_passHour_22 ic_0 ?_
  refine wp_istore (pc := 23) (L' := [_, _, _, _, _, _, _, _]) dX7_passHour_23 (Nat.le_of_ble_eq_true rfl) rfl rfl ?_
  refine wp_ic (pc := 25) (x := nI 0) dX7_passHour_25 ic_0 ?_
  refine wp_istore (pc := 26) (L' := [_, _, _, _, _, _, _, _]) dX7_passHour_26 (Nat.le_of_ble_eq_true rfl) rfl rfl ?_
  exact loop (lM Λ) 0 M (by omega) (by omega) hR hx ht Sm.rf
theorem XT.congr {M : Mm} {t : Nat} {Λ : Lw} {P P' : Pg} (h : XT M t Λ P) (hL : lD Λ ≤ 4 ∧ lM Λ ≤ 5) (e : ∀ j, j < 25 → P' j = P j) : XT M t Λ P' := by
  obtain ⟨h1, h2, h3, h4⟩ := h
  refine ⟨h1.trans (e 24 (by omega)).symm, h2.trans (e 18 (by omega)).symm, fun d hd => ?_, fun m hm => ?_⟩
  · rw [e d (by omega), e (4 + d) (by omega)]; exact h3 d hd
  · rw [e (8 + m) (by omega), e (13 + m) (by omega), e (19 + m) (by omega)]; exact h4 m hm
theorem goPn_same {P : Pg} {d s i j : Nat} (h : j < 13 ∨ 18 ≤ j) (hi : i ≤ 5) (hj : j ≠ d) : goPn P d s i j = P j := by
  unfold goPn
  rw [if_neg hj, if_neg (by omega)]
theorem goPn_0 {P : Pg} {d s j : Nat} : goPn P d s 0 j = upd P d (nI s) j := by
  unfold goPn upd
  by_cases h : j = d
  · rw [if_pos h, if_pos h]
  · rw [if_neg h, if_neg h, if_neg (by omega)]
theorem goPn_yes {P : Pg} {d s m j : Nat} (hd : d < 4) (h : P (8 + m) = nI d ∧ ¬ 0 < P (19 + m)) : goPn P d s (m + 1) j = upd (goPn P d s m) (13 + m) (nI s) j := by
  unfold goPn upd
  dsimp only
  by_cases hj : j = 13 + m
  · subst hj
    rw [if_neg (by omega), if_pos rfl, if_pos]
    rw [show 13 + m - 13 = m by omega]
    exact ⟨by omega, by omega, h⟩
  · rw [if_neg hj]
    by_cases hd : j = d
    · rw [if_pos hd, if_pos hd]
    · rw [if_neg hd, if_neg hd]
      by_cases hc : 13 ≤ j ∧ j < 13 + m ∧ P (8 + (j - 13)) = nI d ∧ ¬ 0 < P (19 + (j - 13))
      · rw [if_pos hc, if_pos ⟨hc.1, by omega, hc.2.2⟩]
      · rw [if_neg hc, if_neg (fun q => hc ⟨q.1, by omega, q.2.2⟩)]
theorem goPn_no {P : Pg} {d s m j : Nat} (h : ¬ (P (8 + m) = nI d ∧ ¬ 0 < P (19 + m))) : goPn P d s (m + 1) j = goPn P d s m j := by
  unfold goPn
  by_cases hd : j = d
  · rw [if_pos hd, if_pos hd]
  · rw [if_neg hd, if_neg hd]
    by_cases hc : 13 ≤ j ∧ j < 13 + m ∧ P (8 + (j - 13)) = nI d ∧ ¬ 0 < P (19 + (j - 13))
    · rw [if_pos hc, if_pos ⟨hc.1, by omega, hc.2.2⟩]
    · rw [if_neg hc, if_neg]
      intro q
      by_cases hj : j = 13 + m
      · subst hj
        rw [show 13 + m - 13 = m by omega] at q
        exact h q.2.2
      · exact hc ⟨q.1, by omega, q.2.2⟩
theorem c_goes {l : Launch} {K : CtxT} {M : Mm} {t w : Nat} {Λ : Lw} {P : Pg} (hT : IT t) (hW : IL w) (hR : RS M) (hL : OkN Λ) (hx : XL M w Λ) (ht : XT M t Λ P) (hd : w + 5 ≤ t ∨ t + 6 ≤ w) {d v : Nat} (hdd : d < lD Λ) (hv : v < 3) (hst : ∃ s, s < 5 ∧ P d = nI s) : Cv l K 1 mX7_goes [.ref (K.1 + t), .ref (K.1 + w), .int (nI d), .int (nI v)] M (fun M' => XT M' t Λ (goP Λ P d v) ∧ Sm t (t + 6) M M') := by
  have hD := hL.1
  have hN := hL.2.1
  have e0 : P d = nI (sN P d) := by
    obtain ⟨s, hs, e⟩ := hst
    unfold sN
    rw [e, nI_clamp (by omega)]
  have hs0 : sN P d < 5 := by
    obtain ⟨s, hs, e⟩ := hst
    unfold sN
    rw [e, nI_clamp (by omega)]
    exact hs
  refine cv_of (L := [some (.ref (K.1 + t)), some (.ref (K.1 + w)), some (.int (nI d)), some (.int (nI v)), none]) (by decide +kernel) (Nat.le_of_ble_eq_true rfl) rfl rfl (fun E => ?_)
  have loop : ∀ (n m : Nat) (M1 : Mm), n = lM Λ - m → m ≤ lM Λ → RS M1 → XL M1 w Λ → XT M1 t Λ (goPn P d (stN (sN P d) v) m) → Sm t (t + 6) M M1 → Wp E K mX7_goes 1 (0, 0) 19 [some (.ref (K.1 + t)), some (.ref (K.1 + w)), some (.int (nI d)), some (.int (nI v)), some (.int (nI m))] [] 168 M1 0 0 (zV E K (fun M' => XT M' t Λ (goP Λ P d v) ∧ Sm t (t + 6) M M')) := by
    intro n
    induction n with
    | zero =>
      intro m M1 hn hm hR hx ht hs
      refine wp_iload (pc := 19) dX7_goes_19 rfl ?_
      refine wp_aload_n (pc := 21) dX7_goes_21 rfl ?_
      refine wf_getI (pc := 22) dX7_goes_22 fl_X7_40 hW.1 ?_
      rw [hx.2.1]
      refine wp_icmp_ge (pc := 25) 67 dX7_goes_25 (by decide) (fun h25 => ?_) (fun h25 => ?_)
      · have e : m = lM Λ := by omega
        subst e
        refine wf_vret (pc := 67) dX7_goes_67 rfl ?_
        exact ⟨ht, hs⟩
      · exact absurd (nI_le (by omega) (by omega)) h25
    | succ n ih =>
      intro m M1 hn hm hR hx ht hs
      refine wp_iload (pc := 19) dX7_goes_19 rfl ?_
      refine wp_aload_n (pc := 21) dX7_goes_21 rfl ?_
      refine wf_getI (pc := 22) dX7_goes_22 fl_X7_40 hW.1 ?_
      rw [hx.2.1]
      refine wp_icmp_ge (pc := 25) 67 dX7_goes_25 (by decide) (fun h25 => ?_) (fun h25 => ?_)
      · exact absurd h25 (nI_ge (by omega) (by omega))
      · refine wp_aload_n (pc := 28) dX7_goes_28 rfl ?_
        refine wf_getR (pc := 29) dX7_goes_29 fl_X7_25 hT.1 (hR _ _ _ (rt_T4 hT)) ?_
        refine wp_iload (pc := 32) dX7_goes_32 rfl ?_
        refine wf_iald (pc := 34) (j := m) dX7_goes_34 hT.2.2.2.1 rfl (by omega) ?_
        rw [(ht.2.2.2 m (by omega)).1, goPn_same (by omega) (by omega) (by omega)]
        refine wp_iload_n (pc := 35) dX7_goes_35 rfl ?_
        refine wp_icmp_ne (pc := 36) 61 dX7_goes_36 (by decide) (fun h36 => ?_) (fun h36 => ?_)
        · have e2 : ∀ j, goPn P d (stN (sN P d) v) (m + 1) j = goPn P d (stN (sN P d) v) m j := fun j => goPn_no (fun q => h36 q.1)
          refine wp_iinc1 (pc := 61) (L' := [_, _, _, _, _]) dX7_goes_61 rfl rfl rfl ?_
          refine wp_goto (pc := 64) 19 dX7_goes_64 (by decide) ?_
          first | exact ih (m + 1) _ (by omega) (by omega) hR hx (ht.congr ⟨hL.1, hL.2.1⟩ (fun j _ => e2 j)) hs | exact ih (m + 1) _ (by omega) (by omega) (hs2.rs hR) (hx.sm hs2 hd) (ht2.congr ⟨hL.1, hL.2.1⟩ (fun j _ => e2 j)) (hs.tr hs2)
        · refine wp_aload_n (pc := 39) dX7_goes_39 rfl ?_
          refine wp_iload (pc := 40) dX7_goes_40 rfl ?_
          refine wf_callVi (pc := 42) dX7_goes_42 cl_X7_45 (c_isImpounded hT hR ht (show m < lM Λ by omega) (by omega)) hT.1 rfl rfl rfl rfl (Nat.le_of_ble_eq_true rfl) (by decide) ⟨Nat.le_refl _, Nat.le_refl _⟩ (fun r42 M42 q42 => ?_)
          rw [q42.1, q42.2]
          refine wp_if_ne (pc := 45) 61 dX7_goes_45 (by decide) (fun h45 => ?_) (fun h45 => ?_)
          · have h45 := b2i_1 h45
            have h45 := of_decide_eq_true h45
            rw [goPn_same (by omega) (by omega) (by omega)] at h45
            have e2 : ∀ j, goPn P d (stN (sN P d) v) (m + 1) j = goPn P d (stN (sN P d) v) m j := fun j => goPn_no (fun q => q.2 h45)
            refine wp_iinc1 (pc := 61) (L' := [_, _, _, _, _]) dX7_goes_61 rfl rfl rfl ?_
            refine wp_goto (pc := 64) 19 dX7_goes_64 (by decide) ?_
            first | exact ih (m + 1) _ (by omega) (by omega) hR hx (ht.congr ⟨hL.1, hL.2.1⟩ (fun j _ => e2 j)) hs | exact ih (m + 1) _ (by omega) (by omega) (hs2.rs hR) (hx.sm hs2 hd) (ht2.congr ⟨hL.1, hL.2.1⟩ (fun j _ => e2 j)) (hs.tr hs2)
          · have h45 := b2i_0 h45
            have h45 := of_decide_eq_false h45
            rw [goPn_same (by omega) (by omega) (by omega)] at h45
            have e2 : ∀ j, goPn P d (stN (sN P d) v) (m + 1) j = upd (goPn P d (stN (sN P d) v) m) (13 + m) (nI (stN (sN P d) v)) j := fun j => goPn_yes (by omega) ⟨h36, h45⟩
            have ht2 := ht.man ⟨hL.1, hL.2.1⟩ (show m < 5 by omega) (nI (stN (sN P d) v))
            have hs2 : Sm t (t + 6) M1 (wI M1 (t + 4) m (nI (stN (sN P d) v))) := Sm.w (by omega) (by omega)
            refine wp_aload_n (pc := 48) dX7_goes_48 rfl ?_
            refine wf_getR (pc := 49) dX7_goes_49 fl_X7_28 hT.1 (hR _ _ _ (rt_T5 hT)) ?_
            refine wp_iload (pc := 52) dX7_goes_52 rfl ?_
            refine wp_aload_n (pc := 54) dX7_goes_54 rfl ?_
            refine wf_getR (pc := 55) dX7_goes_55 fl_X7_18 hT.1 (hR _ _ _ (rt_T2 hT)) ?_
            refine wp_iload_n (pc := 58) dX7_goes_58 rfl ?_
            refine wf_iald (pc := 59) (j := d) dX7_goes_59 hT.2.1 rfl (by omega) ?_
            rw [show M1.1 (t + 1) d = nI (stN (sN P d) v) from by rw [(ht.2.2.1 d hdd).1]; simp [goPn]]
            refine wf_iast (pc := 60) (j := m) dX7_goes_60 hT.2.2.2.2.1 rfl (by omega) ?_
            refine wp_iinc1 (pc := 61) (L' := [_, _, _, _, _]) dX7_goes_61 rfl rfl rfl ?_
            refine wp_goto (pc := 64) 19 dX7_goes_64 (by decide) ?_
            first | exact ih (m + 1) _ (by omega) (by omega) hR hx (ht.congr ⟨hL.1, hL.2.1⟩ (fun j _ => e2 j)) hs | exact ih (m + 1) _ (by omega) (by omega) (hs2.rs hR) (hx.sm hs2 hd) (ht2.congr ⟨hL.1, hL.2.1⟩ (fun j _ => e2 j)) (hs.tr hs2)
  refine wp_aload_n (pc := 0) dX7_goes_0 rfl ?_
  refine wf_getR (pc := 1) dX7_goes_1 fl_X7_18 hT.1 (hR _ _ _ (rt_T2 hT)) ?_
  refine wp_iload_n (pc := 4) dX7_goes_4 rfl ?_
  refine wp_aload_n (pc := 5) dX7_goes_5 rfl ?_
  refine wf_getR (pc := 6) dX7_goes_6 fl_X7_18 hT.1 (hR _ _ _ (rt_T2 hT)) ?_
  refine wp_iload_n (pc := 9) dX7_goes_9 rfl ?_
  refine wf_iald (pc := 10) (j := d) dX7_goes_10 hT.2.1 rfl (by omega) ?_
  rw [(ht.2.2.1 d hdd).1, e0]
  refine wp_iload_n (pc := 11) dX7_goes_11 rfl ?_
  refine wf_callSNi (pc := 12) dX7_goes_12 cl_X7_65 (c_streetBy hs0 hv) rfl rfl (Nat.le_of_ble_eq_true rfl) (by decide) ⟨Nat.le_refl _, Nat.le_refl _⟩ (fun r12 M12 q12 => ?_)
  rw [q12.1, q12.2]
  refine wf_iast (pc := 15) (j := d) dX7_goes_15 hT.2.1 rfl (by omega) ?_
  have ht2 := ht.dog ⟨hL.1, hL.2.1⟩ (show d < 4 by omega) (nI (stN (sN P d) v))
  have hs2 : Sm t (t + 6) M (wI M (t + 1) d (nI (stN (sN P d) v))) := Sm.w (by omega) (by omega)
  refine wp_ic (pc := 16) (x := nI 0) dX7_goes_16 ic_0 ?_
  refine wp_istore (pc := 17) (L' := [_, _, _, _, _]) dX7_goes_17 (Nat.le_of_ble_eq_true rfl) rfl rfl ?_
  exact loop (lM Λ) 0 _ (by omega) (by omega) (hs2.rs hR) (hx.sm hs2 hd) (ht2.congr ⟨hL.1, hL.2.1⟩ (fun j _ => goPn_0)) hs2
end
section
/-! parents, degrees, rivals, peril -/
def nv (x : Nat) : Int32 := if x = 9 then no9 else nI x
theorem nv_9 : nv 9 = no9 := rfl
theorem nv_n {x : Nat} (h : x ≠ 9) : nv x = nI x := if_neg h
/-- the parent by its number; 9: none -/
def pq (pa : Pg) (d : Nat) : Nat := if pa d = no9 then 9 else (pa d).toNatClampNeg
def PaOk (Λ : Lw) : Prop := ∀ d, d < lD Λ → lPa Λ d = no9 ∨ ∃ q, q < lD Λ ∧ lPa Λ d = nI q
theorem pq_ok {Λ : Lw} (hp : PaOk Λ) (hL : OkN Λ) {d : Nat} (hd : d < lD Λ) : lPa Λ d = nv (pq (lPa Λ) d) ∧ (pq (lPa Λ) d = 9 ∨ pq (lPa Λ) d < lD Λ) := by
  have hD := hL.1
  rcases hp d hd with h | ⟨q, hq, h⟩
  · unfold pq; rw [if_pos h]; exact ⟨h, Or.inl rfl⟩
  · have hn : ¬ lPa Λ d = no9 := by rw [h]; exact fun e => absurd (nI_pos (n := q) (by omega)) (by rw [e]; decide)
    unfold pq; rw [if_neg hn, h, nI_clamp (by omega)]
    exact ⟨(nv_n (by omega)).symm, Or.inr hq⟩
theorem nv_in {x n : Nat} (hn : n ≤ 4) (h : x = 9 ∨ x < n) : inD (nv x) n = decide (x < n) := by
  rcases h with rfl | h
  · rw [nv_9, inD_no]; exact (decide_eq_false (by omega)).symm
  · rw [nv_n (by omega), inD_nI (by omega) h]; exact (decide_eq_true h).symm
def cfN (q : Nat → Nat) (D : Nat) : Nat → Nat → Nat → Bool
  | 0, _, _ => false
  | n + 1, x, f => if x < D then (if x = f then true else cfN q D n (q x) f) else false
def dgI (q : Nat → Nat) (D : Nat) : Nat → Nat → Nat → Nat → Nat
  | 0, _, _, _ => 9
  | n + 1, j, u, o => if o < D then (if u = o then j else dgI q D n (j + 1) u (q o)) else 9
def dgO (q : Nat → Nat) (D : Nat) : Nat → Nat → Nat → Nat → Nat
  | 0, _, _, _ => 9
  | n + 1, i, u, o => if u < D then (if dgI q D 4 0 u o = 9 then dgO q D n (i + 1) (q u) o else i + dgI q D 4 0 u o) else 9
theorem dgI_le (q : Nat → Nat) (D : Nat) : ∀ (n j u o : Nat), j + n ≤ 4 → dgI q D n j u o = 9 ∨ dgI q D n j u o < 4
  | 0, _, _, _, _ => Or.inl rfl
  | n + 1, j, u, o, h => by
    unfold dgI
    split
    · split
      · exact Or.inr (by omega)
      · exact dgI_le q D n (j + 1) u (q o) (by omega)
    · exact Or.inl rfl
theorem dgO_le (q : Nat → Nat) (D : Nat) : ∀ (n i u o : Nat), i + n ≤ 4 → dgO q D n i u o = 9 ∨ dgO q D n i u o < 7
  | 0, _, _, _, _ => Or.inl rfl
  | n + 1, i, u, o, h => by
    unfold dgO
    split
    · split
      · exact dgO_le q D n (i + 1) (q u) o (by omega)
      · rename_i h9
        rcases dgI_le q D 4 0 u o (by omega) with e | e
        · exact absurd e h9
        · exact Or.inr (by omega)
    · exact Or.inl rfl
def anyN (n : Nat) (f : Nat → Bool) : Bool := (List.range n).any f
theorem anyN_t {n m : Nat} {f : Nat → Bool} (hm : m < n) (h : f m = true) : anyN n f = true := List.any_eq_true.mpr ⟨m, List.mem_range.mpr hm, h⟩
theorem anyN_f {n : Nat} {f : Nat → Bool} (h : ∀ m, m < n → f m = false) : anyN n f = false := by
  unfold anyN
  rw [List.any_eq_false]
  intro m hm
  rw [h m (List.mem_range.mp hm)]
  decide
def rivB (Λ : Lw) (d o : Nat) : Bool := decide (o ≠ d) && decide (lRa Λ o = lRa Λ d)
def perB (Λ : Lw) (P : Pg) (d k : Nat) (late : Bool) (m : Nat) : Bool := decide (P (8 + m) = nI d) && (decide (P (19 + m) ≤ nI k) && mayP Λ P m late)
def perP (Λ : Lw) (P : Pg) (d h k : Nat) : Int32 := if anyN (lM Λ) (perB Λ P d k (decide (lLe Λ ≤ nI ((h + k) % 12)))) = true then lRo Λ ((h + k) % 4) else no9
def rootN (pa : Pg) : Nat → Nat
  | 0 => 0
  | d + 1 => rootN pa d + (if pa d = no9 then 1 else 0)
theorem rootN_le (pa : Pg) : ∀ n, rootN pa n ≤ n
  | 0 => Nat.le_refl _
  | n + 1 => by have := rootN_le pa n; unfold rootN; split <;> omega
def inhB (Λ : Lw) (d o b : Nat) : Bool := !decide (b < lD Λ) || (decide (0 < nv (dgO (pq (lPa Λ)) (lD Λ) 4 0 d b) - nv (dgO (pq (lPa Λ)) (lD Λ) 4 0 d o)) || (decide (nv (dgO (pq (lPa Λ)) (lD Λ) 4 0 d b) - nv (dgO (pq (lPa Λ)) (lD Λ) 4 0 d o) = 0) && decide (lRa Λ b < lRa Λ o)))
theorem c_comesFrom {l : Launch} {K : CtxT} {M : Mm} {w : Nat} {Λ : Lw} (hW : IL w) (hR : RS M) (hL : OkN Λ) (hx : XL M w Λ) (hp : PaOk Λ) {x0 f : Nat} (hx0 : x0 = 9 ∨ x0 < lD Λ) (hf : f < 4) : Ci l K 1 mX2_comesFrom [.ref (K.1 + w), .int (nv x0), .int (nI f)] M (fun r M' => r = b2i (cfN (pq (lPa Λ)) (lD Λ) 4 x0 f) ∧ M' = M) := by
  refine ci_of (L := [some (.ref (K.1 + w)), some (.int (nv x0)), some (.int (nI f)), none, none]) (by decide +kernel) (Nat.le_of_ble_eq_true rfl) rfl rfl (fun E => ?_)
  generalize hB : cfN (pq (lPa Λ)) (lD Λ) 4 x0 f = B
  have loop : ∀ (n i x : Nat), n = 4 - i → i ≤ 4 → (x = 9 ∨ x < lD Λ) → cfN (pq (lPa Λ)) (lD Λ) n x f = B → Wp E K mX2_comesFrom 1 (0, 0) 5 [some (.ref (K.1 + w)), some (.int (nv x0)), some (.int (nI f)), some (.int (nv x)), some (.int (nI i))] [] 168 M 0 0 (zI E K (fun r M' => r = b2i B ∧ M' = M)) := by
    intro n
    induction n with
    | zero =>
      intro i x hn hi hx9 hb
      refine wp_iload (pc := 5) dX2_comesFrom_5 rfl ?_
      refine wp_ic (pc := 7) (x := nI 4) dX2_comesFrom_7 ic_4 ?_
      refine wp_icmp_ge (pc := 8) 39 dX2_comesFrom_8 (by decide) (fun h8 => ?_) (fun h8 => ?_)
      · refine wp_ic (pc := 39) (x := nI 0) dX2_comesFrom_39 ic_0 ?_
        refine wf_zret (pc := 40) (false) dX2_comesFrom_40 rfl rfl ?_
        exact ⟨by rw [← hb] <;> rfl, rfl⟩
      · exact absurd (nI_le (by omega) (by omega)) h8
    | succ n ih =>
      intro i x hn hi hx9 hb
      refine wp_iload (pc := 5) dX2_comesFrom_5 rfl ?_
      refine wp_ic (pc := 7) (x := nI 4) dX2_comesFrom_7 ic_4 ?_
      refine wp_icmp_ge (pc := 8) 39 dX2_comesFrom_8 (by decide) (fun h8 => ?_) (fun h8 => ?_)
      · exact absurd h8 (nI_ge (by omega) (by omega))
      · refine wp_aload_n (pc := 11) dX2_comesFrom_11 rfl ?_
        refine wp_iload_n (pc := 12) dX2_comesFrom_12 rfl ?_
        refine wf_callVi (pc := 13) dX2_comesFrom_13 cl_X2_53 (c_hasDog hW hR hL hx) hW.1 rfl rfl rfl rfl (Nat.le_of_ble_eq_true rfl) (by decide) ⟨Nat.le_refl _, Nat.le_refl _⟩ (fun r13 M13 q13 => ?_)
        rw [q13.1, q13.2, nv_in hL.1 hx9]
        refine wp_if_eq (pc := 16) 39 dX2_comesFrom_16 (by decide) (fun h16 => ?_) (fun h16 => ?_)
        · have h16 := b2i_0 h16
          have h16 := of_decide_eq_false h16
          simp only [cfN, h16, if_false] at hb
          refine wp_ic (pc := 39) (x := nI 0) dX2_comesFrom_39 ic_0 ?_
          refine wf_zret (pc := 40) (false) dX2_comesFrom_40 rfl rfl ?_
          exact ⟨by rw [← hb] <;> rfl, rfl⟩
        · have h16 := b2i_1 h16
          have h16 := of_decide_eq_true h16
          simp only [cfN, h16, if_true] at hb
          have hpx := pq_ok hp hL h16
          have hnx : nv x = nI x := nv_n (by have := hL.1; omega)
          have hD := hL.1
          refine wp_iload_n (pc := 19) dX2_comesFrom_19 rfl ?_
          refine wp_iload_n (pc := 20) dX2_comesFrom_20 rfl ?_
          refine wp_icmp_ne (pc := 21) 26 dX2_comesFrom_21 (by decide) (fun h21 => ?_) (fun h21 => ?_)
          · rw [hnx] at h21
            have h21 : ¬ x = f := fun q => h21 (by rw [q])
            rw [if_neg h21] at hb
            refine wp_aload_n (pc := 26) dX2_comesFrom_26 rfl ?_
            refine wf_getR (pc := 27) dX2_comesFrom_27 fl_X2_34 hW.1 (hR _ _ _ (rt_L7 hW)) ?_
            refine wp_iload_n (pc := 30) dX2_comesFrom_30 rfl ?_
            refine wf_iald (pc := 31) (j := x) dX2_comesFrom_31 hW.2.2.2.2 hnx (by omega) ?_
            rw [(hx.2.2.2.2.2 x h16).2.2, hpx.1]
            refine wp_istore_n (pc := 32) (L' := [_, _, _, _, _]) dX2_comesFrom_32 (Nat.le_of_ble_eq_true rfl) rfl rfl ?_
            refine wp_iinc1 (pc := 33) (L' := [_, _, _, _, _]) dX2_comesFrom_33 rfl rfl rfl ?_
            refine wp_goto (pc := 36) 5 dX2_comesFrom_36 (by decide) ?_
            exact ih (i + 1) _ (by omega) (by omega) hpx.2 hb
          · rw [hnx] at h21
            have h21 : x = f := (nI_eq (by omega) (by omega)).mp h21
            rw [if_pos h21] at hb
            refine wp_ic (pc := 24) (x := nI 1) dX2_comesFrom_24 ic_1 ?_
            refine wf_zret (pc := 25) (true) dX2_comesFrom_25 rfl rfl ?_
            exact ⟨by rw [← hb] <;> rfl, rfl⟩
  refine wp_iload_n (pc := 0) dX2_comesFrom_0 rfl ?_
  refine wp_istore_n (pc := 1) (L' := [_, _, _, _, _]) dX2_comesFrom_1 (Nat.le_of_ble_eq_true rfl) rfl rfl ?_
  refine wp_ic (pc := 2) (x := nI 0) dX2_comesFrom_2 ic_0 ?_
  refine wp_istore (pc := 3) (L' := [_, _, _, _, _]) dX2_comesFrom_3 (Nat.le_of_ble_eq_true rfl) rfl rfl ?_
  exact loop 4 0 x0 (by omega) (by omega) hx0 hB
theorem c_comesFromN {l : Launch} {K : CtxT} {M : Mm} {w : Nat} {Λ : Lw} (hW : IL w) (hR : RS M) (hL : OkN Λ) (hx : XL M w Λ) (hp : PaOk Λ) {x0 f : Nat} (hx0 : x0 < lD Λ) (hf : f < 4) : Ci l K 1 mX2_comesFrom [.ref (K.1 + w), .int (nI x0), .int (nI f)] M (fun r M' => r = b2i (cfN (pq (lPa Λ)) (lD Λ) 4 x0 f) ∧ M' = M) := by
  have h := c_comesFrom (l := l) (K := K) hW hR hL hx hp (x0 := x0) (f := f) (Or.inr hx0) hf
  rwa [nv_n (show x0 ≠ 9 by have := hL.1; omega)] at h
theorem c_mayParent {l : Launch} {K : CtxT} {M : Mm} {w : Nat} {Λ : Lw} (hW : IL w) (hR : RS M) (hL : OkN Λ) (hx : XL M w Λ) (hp : PaOk Λ) {d f : Nat} (hd : d < lD Λ) (hf : f < lD Λ) : Ci l K 2 mX2_mayParent [.ref (K.1 + w), .int (nI d), .int (nI f)] M (fun r M' => r = b2i (decide (d ≠ f) && (decide (lPa Λ f = no9) && !cfN (pq (lPa Λ)) (lD Λ) 4 d f)) ∧ M' = M) := by
  have hD := hL.1
  refine ci_of (L := [some (.ref (K.1 + w)), some (.int (nI d)), some (.int (nI f))]) (by decide +kernel) (Nat.le_of_ble_eq_true rfl) rfl rfl (fun E => ?_)
  refine wp_iload_n (pc := 0) dX2_mayParent_0 rfl ?_
  refine wp_iload_n (pc := 1) dX2_mayParent_1 rfl ?_
  refine wp_icmp_eq (pc := 2) 29 dX2_mayParent_2 (by decide) (fun h2 => ?_) (fun h2 => ?_)
  · have h2 := (nI_eq (by omega) (by omega)).mp h2
    refine wp_ic (pc := 29) (x := nI 0) dX2_mayParent_29 ic_0 ?_
    refine wf_zret (pc := 30) (false) dX2_mayParent_30 rfl rfl ?_
    exact ⟨by simp [*], rfl⟩
  · have h2 : ¬ d = f := fun q => h2 (by rw [q])
    refine wp_aload_n (pc := 5) dX2_mayParent_5 rfl ?_
    refine wf_getR (pc := 6) dX2_mayParent_6 fl_X2_34 hW.1 (hR _ _ _ (rt_L7 hW)) ?_
    refine wp_iload_n (pc := 9) dX2_mayParent_9 rfl ?_
    refine wf_iald (pc := 10) (j := f) dX2_mayParent_10 hW.2.2.2.2 rfl (by omega) ?_
    rw [(hx.2.2.2.2.2 f hf).2.2]
    refine wp_bipush (pc := 11) (x := (-9)) dX2_mayParent_11 bp_m9 ?_
    refine wp_icmp_ne (pc := 13) 29 dX2_mayParent_13 (by decide) (fun h13 => ?_) (fun h13 => ?_)
    · refine wp_ic (pc := 29) (x := nI 0) dX2_mayParent_29 ic_0 ?_
      refine wf_zret (pc := 30) (false) dX2_mayParent_30 rfl rfl ?_
      exact ⟨by simp [*], rfl⟩
    · refine wp_aload_n (pc := 16) dX2_mayParent_16 rfl ?_
      refine wp_iload_n (pc := 17) dX2_mayParent_17 rfl ?_
      refine wp_iload_n (pc := 18) dX2_mayParent_18 rfl ?_
      refine wf_callVi (pc := 19) dX2_mayParent_19 cl_X2_49 (c_comesFromN hW hR hL hx hp hd (by omega)) hW.1 rfl rfl rfl rfl (Nat.le_of_ble_eq_true rfl) (by decide) ⟨Nat.le_refl _, Nat.le_refl _⟩ (fun r19 M19 q19 => ?_)
      rw [q19.1, q19.2]
      refine wp_if_ne (pc := 22) 29 dX2_mayParent_22 (by decide) (fun h22 => ?_) (fun h22 => ?_)
      · have h22 := b2i_1 h22
        refine wp_ic (pc := 29) (x := nI 0) dX2_mayParent_29 ic_0 ?_
        refine wf_zret (pc := 30) (false) dX2_mayParent_30 rfl rfl ?_
        exact ⟨by simp [*], rfl⟩
      · have h22 := b2i_0 h22
        refine wp_ic (pc := 25) (x := nI 1) dX2_mayParent_25 ic_1 ?_
        refine wp_goto (pc := 26) 30 dX2_mayParent_26 (by decide) ?_
        refine wf_zret (pc := 30) (true) dX2_mayParent_30 rfl rfl ?_
        exact ⟨by simp [*], rfl⟩
theorem c_mayParentSome {l : Launch} {K : CtxT} {M : Mm} {w : Nat} {Λ : Lw} (hW : IL w) (hR : RS M) (hL : OkN Λ) (hx : XL M w Λ) : Ci l K 1 mX2_mayParentSome [.ref (K.1 + w)] M (fun r M' => r = b2i (decide (1 < rootN (lPa Λ) (lD Λ))) ∧ M' = M) := by
  have hD := hL.1
  refine ci_of (L := [some (.ref (K.1 + w)), none, none]) (by decide +kernel) (Nat.le_of_ble_eq_true rfl) rfl rfl (fun E => ?_)
  have loop : ∀ (n i : Nat), n = lD Λ - i → i ≤ lD Λ → Wp E K mX2_mayParentSome 1 (0, 0) 4 [some (.ref (K.1 + w)), some (.int (nI (rootN (lPa Λ) i))), some (.int (nI i))] [] 168 M 0 0 (zI E K (fun r M' => r = b2i (decide (1 < rootN (lPa Λ) (lD Λ))) ∧ M' = M)) := by
    intro n
    induction n with
    | zero =>
      intro i hn hm
      refine wp_iload_n (pc := 4) dX2_mayParentSome_4 rfl ?_
      refine wp_aload_n (pc := 5) dX2_mayParentSome_5 rfl ?_
      refine wf_getI (pc := 6) dX2_mayParentSome_6 fl_X2_9 hW.1 ?_
      rw [hx.1]
      refine wp_icmp_ge (pc := 9) 37 dX2_mayParentSome_9 (by decide) (fun h9 => ?_) (fun h9 => ?_)
      · have e : i = lD Λ := by omega
        subst e
        have hr := rootN_le (lPa Λ) (lD Λ)
        refine wp_iload_n (pc := 37) dX2_mayParentSome_37 rfl ?_
        refine wp_ic (pc := 38) (x := nI 1) dX2_mayParentSome_38 ic_1 ?_
        refine wp_icmp_le (pc := 39) 46 dX2_mayParentSome_39 (by decide) (fun h39 => ?_) (fun h39 => ?_)
        · have h39 : ¬ 1 < rootN (lPa Λ) (lD Λ) := fun q => (nI_ge q (by omega)) h39
          refine wp_ic (pc := 46) (x := nI 0) dX2_mayParentSome_46 ic_0 ?_
          refine wf_zret (pc := 47) (false) dX2_mayParentSome_47 rfl rfl ?_
          exact ⟨by simp [h39, b2i], rfl⟩
        · have h39 : 1 < rootN (lPa Λ) (lD Λ) := by rcases Nat.lt_or_ge 1 (rootN (lPa Λ) (lD Λ)) with q | q; exact q; exact absurd (nI_le q (by omega)) h39
          refine wp_ic (pc := 42) (x := nI 1) dX2_mayParentSome_42 ic_1 ?_
          refine wp_goto (pc := 43) 47 dX2_mayParentSome_43 (by decide) ?_
          refine wf_zret (pc := 47) (true) dX2_mayParentSome_47 rfl rfl ?_
          exact ⟨by simp [h39, b2i], rfl⟩
      · exact absurd (nI_le (by omega) (by omega)) h9
    | succ n ih =>
      intro i hn hm
      refine wp_iload_n (pc := 4) dX2_mayParentSome_4 rfl ?_
      refine wp_aload_n (pc := 5) dX2_mayParentSome_5 rfl ?_
      refine wf_getI (pc := 6) dX2_mayParentSome_6 fl_X2_9 hW.1 ?_
      rw [hx.1]
      refine wp_icmp_ge (pc := 9) 37 dX2_mayParentSome_9 (by decide) (fun h9 => ?_) (fun h9 => ?_)
      · exact absurd h9 (nI_ge (by omega) (by omega))
      · refine wp_iload_n (pc := 12) dX2_mayParentSome_12 rfl ?_
        refine wp_aload_n (pc := 13) dX2_mayParentSome_13 rfl ?_
        refine wf_getR (pc := 14) dX2_mayParentSome_14 fl_X2_34 hW.1 (hR _ _ _ (rt_L7 hW)) ?_
        refine wp_iload_n (pc := 17) dX2_mayParentSome_17 rfl ?_
        refine wf_iald (pc := 18) (j := i) dX2_mayParentSome_18 hW.2.2.2.2 rfl (by omega) ?_
        rw [(hx.2.2.2.2.2 i (by omega)).2.2]
        refine wp_bipush (pc := 19) (x := (-9)) dX2_mayParentSome_19 bp_m9 ?_
        refine wp_icmp_ne (pc := 21) 28 dX2_mayParentSome_21 (by decide) (fun h21 => ?_) (fun h21 => ?_)
        · have e2 : rootN (lPa Λ) (i + 1) = rootN (lPa Λ) i + 0 := by simp [rootN, h21]
          refine wp_ic (pc := 28) (x := nI 0) dX2_mayParentSome_28 ic_0 ?_
          refine wp_iadd (pc := 29) dX2_mayParentSome_29 ?_
          refine wp_istore_n (pc := 30) (L' := [_, _, _]) dX2_mayParentSome_30 (Nat.le_of_ble_eq_true rfl) rfl rfl ?_
          refine wp_iinc1 (pc := 31) (L' := [_, _, _]) dX2_mayParentSome_31 rfl rfl rfl ?_
          refine wp_goto (pc := 34) 4 dX2_mayParentSome_34 (by decide) ?_
          have g := ih (i + 1) (by omega) (by omega)
          rw [e2, ← nI_add] at g
          exact g
        · have e2 : rootN (lPa Λ) (i + 1) = rootN (lPa Λ) i + 1 := by simp [rootN, h21]
          refine wp_ic (pc := 24) (x := nI 1) dX2_mayParentSome_24 ic_1 ?_
          refine wp_goto (pc := 25) 29 dX2_mayParentSome_25 (by decide) ?_
          refine wp_iadd (pc := 29) dX2_mayParentSome_29 ?_
          refine wp_istore_n (pc := 30) (L' := [_, _, _]) dX2_mayParentSome_30 (Nat.le_of_ble_eq_true rfl) rfl rfl ?_
          refine wp_iinc1 (pc := 31) (L' := [_, _, _]) dX2_mayParentSome_31 rfl rfl rfl ?_
          refine wp_goto (pc := 34) 4 dX2_mayParentSome_34 (by decide) ?_
          have g := ih (i + 1) (by omega) (by omega)
          rw [e2, ← nI_add] at g
          exact g
  refine wp_ic (pc := 0) (x := nI 0) dX2_mayParentSome_0 ic_0 ?_
  refine wp_istore_n (pc := 1) (L' := [_, _, _]) dX2_mayParentSome_1 (Nat.le_of_ble_eq_true rfl) rfl rfl ?_
  refine wp_ic (pc := 2) (x := nI 0) dX2_mayParentSome_2 ic_0 ?_
  refine wp_istore_n (pc := 3) (L' := [_, _, _]) dX2_mayParentSome_3 (Nat.le_of_ble_eq_true rfl) rfl rfl ?_
  exact loop (lD Λ) 0 (by omega) (by omega)
theorem c_hasRival {l : Launch} {K : CtxT} {M : Mm} {w : Nat} {Λ : Lw} (hW : IL w) (hR : RS M) (hL : OkN Λ) (hx : XL M w Λ) {d : Nat} (hd : d < lD Λ) : Ci l K 1 mX2_hasRival [.ref (K.1 + w), .int (nI d)] M (fun r M' => r = b2i (anyN (lD Λ) (rivB Λ d)) ∧ M' = M) := by
  have hD := hL.1
  refine ci_of (L := [some (.ref (K.1 + w)), some (.int (nI d)), none]) (by decide +kernel) (Nat.le_of_ble_eq_true rfl) rfl rfl (fun E => ?_)
  have loop : ∀ (n i : Nat), n = lD Λ - i → i ≤ lD Λ →  (∀ o, o < i → rivB Λ d o = false) → Wp E K mX2_hasRival 1 (0, 0) 2 [some (.ref (K.1 + w)), some (.int (nI d)), some (.int (nI i))] [] 168 M 0 0 (zI E K (fun r M' => r = b2i (anyN (lD Λ) (rivB Λ d)) ∧ M' = M)) := by
    intro n
    induction n with
    | zero =>
      intro i hn hm hf
      refine wp_iload_n (pc := 2) dX2_hasRival_2 rfl ?_
      refine wp_aload_n (pc := 3) dX2_hasRival_3 rfl ?_
      refine wf_getI (pc := 4) dX2_hasRival_4 fl_X2_9 hW.1 ?_
      rw [hx.1]
      refine wp_icmp_ge (pc := 7) 38 dX2_hasRival_7 (by decide) (fun h7 => ?_) (fun h7 => ?_)
      · have e : i = lD Λ := by omega
        subst e
        refine wp_ic (pc := 38) (x := nI 0) dX2_hasRival_38 ic_0 ?_
        refine wf_zret (pc := 39) (false) dX2_hasRival_39 rfl rfl ?_
        exact ⟨by rw [anyN_f hf] <;> rfl, rfl⟩
      · exact absurd (nI_le (by omega) (by omega)) h7
    | succ n ih =>
      intro i hn hm hf
      refine wp_iload_n (pc := 2) dX2_hasRival_2 rfl ?_
      refine wp_aload_n (pc := 3) dX2_hasRival_3 rfl ?_
      refine wf_getI (pc := 4) dX2_hasRival_4 fl_X2_9 hW.1 ?_
      rw [hx.1]
      refine wp_icmp_ge (pc := 7) 38 dX2_hasRival_7 (by decide) (fun h7 => ?_) (fun h7 => ?_)
      · exact absurd h7 (nI_ge (by omega) (by omega))
      · refine wp_iload_n (pc := 10) dX2_hasRival_10 rfl ?_
        refine wp_iload_n (pc := 11) dX2_hasRival_11 rfl ?_
        refine wp_icmp_eq (pc := 12) 32 dX2_hasRival_12 (by decide) (fun h12 => ?_) (fun h12 => ?_)
        · have h12 := (nI_eq (by omega) (by omega)).mp h12
          have e2 : rivB Λ d i = false := by simp [rivB, h12]
          refine wp_iinc1 (pc := 32) (L' := [_, _, _]) dX2_hasRival_32 rfl rfl rfl ?_
          refine wp_goto (pc := 35) 2 dX2_hasRival_35 (by decide) ?_
          exact ih (i + 1) (by omega) (by omega) (fun o ho => by rcases Nat.lt_succ_iff_lt_or_eq.mp ho with q | rfl; exact hf o q; exact e2)
        · have h12 : ¬ i = d := fun q => h12 (by rw [q])
          refine wp_aload_n (pc := 15) dX2_hasRival_15 rfl ?_
          refine wf_getR (pc := 16) dX2_hasRival_16 fl_X2_28 hW.1 (hR _ _ _ (rt_L5 hW)) ?_
          refine wp_iload_n (pc := 19) dX2_hasRival_19 rfl ?_
          refine wf_iald (pc := 20) (j := i) dX2_hasRival_20 hW.2.2.1 rfl (by omega) ?_
          rw [(hx.2.2.2.2.2 i (by omega)).1]
          refine wp_aload_n (pc := 21) dX2_hasRival_21 rfl ?_
          refine wf_getR (pc := 22) dX2_hasRival_22 fl_X2_28 hW.1 (hR _ _ _ (rt_L5 hW)) ?_
          refine wp_iload_n (pc := 25) dX2_hasRival_25 rfl ?_
          refine wf_iald (pc := 26) (j := d) dX2_hasRival_26 hW.2.2.1 rfl (by omega) ?_
          rw [(hx.2.2.2.2.2 d (by omega)).1]
          refine wp_icmp_ne (pc := 27) 32 dX2_hasRival_27 (by decide) (fun h27 => ?_) (fun h27 => ?_)
          · have e2 : rivB Λ d i = false := by simp [rivB, h27]
            refine wp_iinc1 (pc := 32) (L' := [_, _, _]) dX2_hasRival_32 rfl rfl rfl ?_
            refine wp_goto (pc := 35) 2 dX2_hasRival_35 (by decide) ?_
            exact ih (i + 1) (by omega) (by omega) (fun o ho => by rcases Nat.lt_succ_iff_lt_or_eq.mp ho with q | rfl; exact hf o q; exact e2)
          · have e2 : rivB Λ d i = true := by simp [rivB, h12, h27]
            refine wp_ic (pc := 30) (x := nI 1) dX2_hasRival_30 ic_1 ?_
            refine wf_zret (pc := 31) (true) dX2_hasRival_31 rfl rfl ?_
            exact ⟨by rw [anyN_t (show i < lD Λ by omega) e2] <;> rfl, rfl⟩
  refine wp_ic (pc := 0) (x := nI 0) dX2_hasRival_0 ic_0 ?_
  refine wp_istore_n (pc := 1) (L' := [_, _, _]) dX2_hasRival_1 (Nat.le_of_ble_eq_true rfl) rfl rfl ?_
  exact loop (lD Λ) 0 (by omega) (by omega) (fun o ho => absurd ho (by omega))
theorem c_degree {l : Launch} {K : CtxT} {M : Mm} {w : Nat} {Λ : Lw} (hW : IL w) (hR : RS M) (hL : OkN Λ) (hx : XL M w Λ) (hp : PaOk Λ) {d0 o0 : Nat} (hd0 : d0 < lD Λ) (ho0 : o0 < lD Λ) : Ci l K 1 mX2_degree [.ref (K.1 + w), .int (nI d0), .int (nI o0)] M (fun r M' => r = nv (dgO (pq (lPa Λ)) (lD Λ) 4 0 d0 o0) ∧ M' = M) := by
  have hD := hL.1
  refine ci_of (L := [some (.ref (K.1 + w)), some (.int (nI d0)), some (.int (nI o0)), none, none, none, none]) (by decide +kernel) (Nat.le_of_ble_eq_true rfl) rfl rfl (fun E => ?_)
  generalize hB : dgO (pq (lPa Λ)) (lD Λ) 4 0 d0 o0 = B
  have inner : ∀ (u i G : Nat), u < lD Λ → i < 4 → (G = 9 → ∀ z1 z2, Wp E K mX2_degree 1 (0, 0) 67 [some (.ref (K.1 + w)), some (.int (nI d0)), some (.int (nI o0)), some (.int (nI u)), some (.int (nI i)), z1, z2] [] 168 M 0 0 (zI E K (fun r M' => r = nv B ∧ M' = M))) → (G ≠ 9 → G < 4 ∧ i + G = B) →
      ∀ (n j x : Nat), n = 4 - j → j ≤ 4 → (x = 9 ∨ x < lD Λ) → dgI (pq (lPa Λ)) (lD Λ) n j u x = G → Wp E K mX2_degree 1 (0, 0) 25 [some (.ref (K.1 + w)), some (.int (nI d0)), some (.int (nI o0)), some (.int (nI u)), some (.int (nI i)), some (.int (nv x)), some (.int (nI j))] [] 168 M 0 0 (zI E K (fun r M' => r = nv B ∧ M' = M)) := by
    intro u i G hu hi hout hin n
    induction n with
    | zero =>
      intro j x hn hj hx9 hb
      refine wp_iload (pc := 25) dX2_degree_25 rfl ?_
      refine wp_ic (pc := 27) (x := nI 4) dX2_degree_27 ic_4 ?_
      refine wp_icmp_ge (pc := 28) 67 dX2_degree_28 (by decide) (fun h28 => ?_) (fun h28 => ?_)
      · exact hout hb.symm _ _
      · exact absurd (nI_le (by omega) (by omega)) h28
    | succ n ih =>
      intro j x hn hj hx9 hb
      refine wp_iload (pc := 25) dX2_degree_25 rfl ?_
      refine wp_ic (pc := 27) (x := nI 4) dX2_degree_27 ic_4 ?_
      refine wp_icmp_ge (pc := 28) 67 dX2_degree_28 (by decide) (fun h28 => ?_) (fun h28 => ?_)
      · exact absurd h28 (nI_ge (by omega) (by omega))
      · refine wp_aload_n (pc := 31) dX2_degree_31 rfl ?_
        refine wp_iload (pc := 32) dX2_degree_32 rfl ?_
        refine wf_callVi (pc := 34) dX2_degree_34 cl_X2_53 (c_hasDog hW hR hL hx) hW.1 rfl rfl rfl rfl (Nat.le_of_ble_eq_true rfl) (by decide) ⟨Nat.le_refl _, Nat.le_refl _⟩ (fun r34 M34 q34 => ?_)
        rw [q34.1, q34.2, nv_in hL.1 hx9]
        refine wp_if_eq (pc := 37) 67 dX2_degree_37 (by decide) (fun h37 => ?_) (fun h37 => ?_)
        · have h37 := b2i_0 h37
          have h37 := of_decide_eq_false h37
          simp only [dgI, h37, if_false] at hb
          exact hout hb.symm _ _
        · have h37 := b2i_1 h37
          have h37 := of_decide_eq_true h37
          simp only [dgI, h37, if_true] at hb
          have hpx := pq_ok hp hL h37
          have hnx : nv x = nI x := nv_n (by omega)
          refine wp_iload_n (pc := 40) dX2_degree_40 rfl ?_
          refine wp_iload (pc := 41) dX2_degree_41 rfl ?_
          refine wp_icmp_ne (pc := 43) 52 dX2_degree_43 (by decide) (fun h43 => ?_) (fun h43 => ?_)
          · rw [hnx] at h43
            have h43 : ¬ u = x := fun q => h43 (by rw [q])
            rw [if_neg h43] at hb
            refine wp_aload_n (pc := 52) dX2_degree_52 rfl ?_
            refine wf_getR (pc := 53) dX2_degree_53 fl_X2_34 hW.1 (hR _ _ _ (rt_L7 hW)) ?_
            refine wp_iload (pc := 56) dX2_degree_56 rfl ?_
            refine wf_iald (pc := 58) (j := x) dX2_degree_58 hW.2.2.2.2 hnx (by omega) ?_
            rw [(hx.2.2.2.2.2 x h37).2.2, hpx.1]
            refine wp_istore (pc := 59) (L' := [_, _, _, _, _, _, _]) dX2_degree_59 (Nat.le_of_ble_eq_true rfl) rfl rfl ?_
            refine wp_iinc1 (pc := 61) (L' := [_, _, _, _, _, _, _]) dX2_degree_61 rfl rfl rfl ?_
            refine wp_goto (pc := 64) 25 dX2_degree_64 (by decide) ?_
            exact ih (j + 1) _ (by omega) (by omega) hpx.2 hb
          · rw [hnx] at h43
            have h43 : u = x := (nI_eq (by omega) (by omega)).mp h43
            rw [if_pos h43] at hb
            refine wp_iload (pc := 46) dX2_degree_46 rfl ?_
            refine wp_iload (pc := 48) dX2_degree_48 rfl ?_
            refine wp_iadd (pc := 50) dX2_degree_50 ?_
            refine wf_iret (pc := 51) dX2_degree_51 rfl ?_
            have e9 : G ≠ 9 := by omega
            have e8 := hin e9
            exact ⟨by rw [← e8.2, ← hb, nI_add, nv_n (by omega)], rfl⟩
  have loop : ∀ (n i u : Nat), n = 4 - i → i ≤ 4 → (u = 9 ∨ u < lD Λ) → dgO (pq (lPa Λ)) (lD Λ) n i u o0 = B → ∀ z1 z2, Wp E K mX2_degree 1 (0, 0) 5 [some (.ref (K.1 + w)), some (.int (nI d0)), some (.int (nI o0)), some (.int (nv u)), some (.int (nI i)), z1, z2] [] 168 M 0 0 (zI E K (fun r M' => r = nv B ∧ M' = M)) := by
    intro n
    induction n with
    | zero =>
      intro i u hn hi hu9 hb z1 z2
      refine wp_iload (pc := 5) dX2_degree_5 rfl ?_
      refine wp_ic (pc := 7) (x := nI 4) dX2_degree_7 ic_4 ?_
      refine wp_icmp_ge (pc := 8) 80 dX2_degree_8 (by decide) (fun h8 => ?_) (fun h8 => ?_)
      · refine wp_bipush (pc := 80) (x := (-9)) dX2_degree_80 bp_m9 ?_
        refine wf_iret (pc := 82) dX2_degree_82 rfl ?_
        exact ⟨by rw [← hb] <;> rfl, rfl⟩
      · exact absurd (nI_le (by omega) (by omega)) h8
    | succ n ih =>
      intro i u hn hi hu9 hb z1 z2
      have k67 : u < lD Λ → dgI (pq (lPa Λ)) (lD Λ) 4 0 u o0 = 9 → ∀ z1 z2, Wp E K mX2_degree 1 (0, 0) 67 [some (.ref (K.1 + w)), some (.int (nI d0)), some (.int (nI o0)), some (.int (nI u)), some (.int (nI i)), z1, z2] [] 168 M 0 0 (zI E K (fun r M' => r = nv B ∧ M' = M)) := by
        intro hu e9 z1 z2
        have hpx := pq_ok hp hL hu
        simp only [dgO, hu, e9, if_true] at hb
        refine wp_aload_n (pc := 67) dX2_degree_67 rfl ?_
        refine wf_getR (pc := 68) dX2_degree_68 fl_X2_34 hW.1 (hR _ _ _ (rt_L7 hW)) ?_
        refine wp_iload_n (pc := 71) dX2_degree_71 rfl ?_
        refine wf_iald (pc := 72) (j := u) dX2_degree_72 hW.2.2.2.2 rfl (by omega) ?_
        rw [(hx.2.2.2.2.2 u hu).2.2, hpx.1]
        refine wp_istore_n (pc := 73) (L' := [_, _, _, _, _, _, _]) dX2_degree_73 (Nat.le_of_ble_eq_true rfl) rfl rfl ?_
        refine wp_iinc1 (pc := 74) (L' := [_, _, _, _, _, _, _]) dX2_degree_74 rfl rfl rfl ?_
        refine wp_goto (pc := 77) 5 dX2_degree_77 (by decide) ?_
        exact ih (i + 1) _ (by omega) (by omega) hpx.2 hb _ _
      refine wp_iload (pc := 5) dX2_degree_5 rfl ?_
      refine wp_ic (pc := 7) (x := nI 4) dX2_degree_7 ic_4 ?_
      refine wp_icmp_ge (pc := 8) 80 dX2_degree_8 (by decide) (fun h8 => ?_) (fun h8 => ?_)
      · exact absurd h8 (nI_ge (by omega) (by omega))
      · refine wp_aload_n (pc := 11) dX2_degree_11 rfl ?_
        refine wp_iload_n (pc := 12) dX2_degree_12 rfl ?_
        refine wf_callVi (pc := 13) dX2_degree_13 cl_X2_53 (c_hasDog hW hR hL hx) hW.1 rfl rfl rfl rfl (Nat.le_of_ble_eq_true rfl) (by decide) ⟨Nat.le_refl _, Nat.le_refl _⟩ (fun r13 M13 q13 => ?_)
        rw [q13.1, q13.2, nv_in hL.1 hu9]
        refine wp_if_eq (pc := 16) 80 dX2_degree_16 (by decide) (fun h16 => ?_) (fun h16 => ?_)
        · have h16 := b2i_0 h16
          have h16 := of_decide_eq_false h16
          simp only [dgO, h16, if_false] at hb
          refine wp_bipush (pc := 80) (x := (-9)) dX2_degree_80 bp_m9 ?_
          refine wf_iret (pc := 82) dX2_degree_82 rfl ?_
          exact ⟨by rw [← hb] <;> rfl, rfl⟩
        · have h16 := b2i_1 h16
          have h16 := of_decide_eq_true h16
          simp only [dgO, h16, if_true] at hb
          have hpx := pq_ok hp hL h16
          have hnx : nv u = nI u := nv_n (by omega)
          rw [hnx]
          refine wp_iload_n (pc := 19) dX2_degree_19 rfl ?_
          refine wp_istore (pc := 20) (L' := [_, _, _, _, _, _, _]) dX2_degree_20 (Nat.le_of_ble_eq_true rfl) rfl rfl ?_
          refine wp_ic (pc := 22) (x := nI 0) dX2_degree_22 ic_0 ?_
          refine wp_istore (pc := 23) (L' := [_, _, _, _, _, _, _]) dX2_degree_23 (Nat.le_of_ble_eq_true rfl) rfl rfl ?_
          have g := inner u i _ h16 (by omega) (fun e9 => k67 h16 e9) (fun e9 => by rw [if_neg e9] at hb; exact ⟨by rcases dgI_le (pq (lPa Λ)) (lD Λ) 4 0 u o0 (by omega) with e | e; exact absurd e e9; exact e, hb⟩) 4 0 o0 (by omega) (by omega) (Or.inr ho0) rfl
          rw [nv_n (show o0 ≠ 9 by omega)] at g
          exact g
  refine wp_iload_n (pc := 0) dX2_degree_0 rfl ?_
  refine wp_istore_n (pc := 1) (L' := [_, _, _, _, _, _, _]) dX2_degree_1 (Nat.le_of_ble_eq_true rfl) rfl rfl ?_
  refine wp_ic (pc := 2) (x := nI 0) dX2_degree_2 ic_0 ?_
  refine wp_istore (pc := 3) (L' := [_, _, _, _, _, _, _]) dX2_degree_3 (Nat.le_of_ble_eq_true rfl) rfl rfl ?_
  have g := loop 4 0 d0 (by omega) (by omega) (Or.inr hd0) hB none none
  rw [nv_n (show d0 ≠ 9 by omega)] at g
  exact g
theorem c_inheritsBefore {l : Launch} {K : CtxT} {M : Mm} {w : Nat} {Λ : Lw} (hW : IL w) (hR : RS M) (hL : OkN Λ) (hx : XL M w Λ) (hp : PaOk Λ) {d o b : Nat} (hd : d < lD Λ) (ho : o < lD Λ) (hb : b = 9 ∨ b < lD Λ) : Ci l K 2 mX2_inheritsBefore [.ref (K.1 + w), .int (nI d), .int (nI o), .int (nv b)] M (fun r M' => r = b2i (inhB Λ d o b) ∧ M' = M) := by
  have hD := hL.1
  refine ci_of (L := [some (.ref (K.1 + w)), some (.int (nI d)), some (.int (nI o)), some (.int (nv b)), none]) (by decide +kernel) (Nat.le_of_ble_eq_true rfl) rfl rfl (fun E => ?_)
  refine wp_aload_n (pc := 0) dX2_inheritsBefore_0 rfl ?_
  refine wp_iload_n (pc := 1) dX2_inheritsBefore_1 rfl ?_
  refine wf_callVi (pc := 2) dX2_inheritsBefore_2 cl_X2_53 (c_hasDog hW hR hL hx) hW.1 rfl rfl rfl rfl (Nat.le_of_ble_eq_true rfl) (by decide) ⟨Nat.le_refl _, Nat.le_refl _⟩ (fun r2 M2 q2 => ?_)
  rw [q2.1, q2.2, nv_in hL.1 hb]
  refine wp_if_ne (pc := 5) 10 dX2_inheritsBefore_5 (by decide) (fun h5 => ?_) (fun h5 => ?_)
  · have h5 := b2i_1 h5
    have h5 := of_decide_eq_true h5
    rw [nv_n (show b ≠ 9 by omega)]
    refine wp_aload_n (pc := 10) dX2_inheritsBefore_10 rfl ?_
    refine wp_iload_n (pc := 11) dX2_inheritsBefore_11 rfl ?_
    refine wp_iload_n (pc := 12) dX2_inheritsBefore_12 rfl ?_
    refine wf_callVi (pc := 13) dX2_inheritsBefore_13 cl_X2_57 (c_degree hW hR hL hx hp hd h5) hW.1 rfl rfl rfl rfl (Nat.le_of_ble_eq_true rfl) (by decide) ⟨Nat.le_refl _, Nat.le_refl _⟩ (fun r13 M13 q13 => ?_)
    rw [q13.1, q13.2]
    refine wp_aload_n (pc := 16) dX2_inheritsBefore_16 rfl ?_
    refine wp_iload_n (pc := 17) dX2_inheritsBefore_17 rfl ?_
    refine wp_iload_n (pc := 18) dX2_inheritsBefore_18 rfl ?_
    refine wf_callVi (pc := 19) dX2_inheritsBefore_19 cl_X2_57 (c_degree hW hR hL hx hp hd ho) hW.1 rfl rfl rfl rfl (Nat.le_of_ble_eq_true rfl) (by decide) ⟨Nat.le_refl _, Nat.le_refl _⟩ (fun r19 M19 q19 => ?_)
    rw [q19.1, q19.2]
    refine wp_isub (pc := 22) dX2_inheritsBefore_22 ?_
    refine wp_istore (pc := 23) (L' := [_, _, _, _, _]) dX2_inheritsBefore_23 (Nat.le_of_ble_eq_true rfl) rfl rfl ?_
    refine wp_iload (pc := 25) dX2_inheritsBefore_25 rfl ?_
    refine wp_if_gt (pc := 27) 50 dX2_inheritsBefore_27 (by decide) (fun h27 => ?_) (fun h27 => ?_)
    · refine wp_ic (pc := 50) (x := nI 1) dX2_inheritsBefore_50 ic_1 ?_
      refine wp_goto (pc := 51) 55 dX2_inheritsBefore_51 (by decide) ?_
      refine wf_zret (pc := 55) (true) dX2_inheritsBefore_55 rfl rfl ?_
      refine ⟨?_, rfl⟩
      first | (simp [inhB, h5]; done) | (simp only [inhB, h5, h27, decide_true, Bool.true_or, Bool.or_true]; done) | (simp only [inhB, h5, h27, h32, decide_true, decide_false, Bool.not_true, Bool.false_or, Bool.false_and]; done) | (have h47 := Int32.not_le.mp h47; simp only [inhB, h5, h27, h32, h47, show ¬ (0 : Int32) < 0 by decide, decide_true, decide_false, Bool.not_true, Bool.false_or, Bool.true_and]; done) | (have h47 := Int32.not_lt.mpr h47; simp only [inhB, h5, h27, h32, h47, show ¬ (0 : Int32) < 0 by decide, decide_true, decide_false, Bool.not_true, Bool.false_or, Bool.true_and, Bool.and_false]; done)
    · refine wp_iload (pc := 30) dX2_inheritsBefore_30 rfl ?_
      refine wp_if_ne (pc := 32) 54 dX2_inheritsBefore_32 (by decide) (fun h32 => ?_) (fun h32 => ?_)
      · refine wp_ic (pc := 54) (x := nI 0) dX2_inheritsBefore_54 ic_0 ?_
        refine wf_zret (pc := 55) (false) dX2_inheritsBefore_55 rfl rfl ?_
        refine ⟨?_, rfl⟩
        first | (simp [inhB, h5]; done) | (simp only [inhB, h5, h27, decide_true, Bool.true_or, Bool.or_true]; done) | (simp only [inhB, h5, h27, h32, decide_true, decide_false, Bool.not_true, Bool.false_or, Bool.false_and]; done) | (have h47 := Int32.not_le.mp h47; simp only [inhB, h5, h27, h32, h47, show ¬ (0 : Int32) < 0 by decide, decide_true, decide_false, Bool.not_true, Bool.false_or, Bool.true_and]; done) | (have h47 := Int32.not_lt.mpr h47; simp only [inhB, h5, h27, h32, h47, show ¬ (0 : Int32) < 0 by decide, decide_true, decide_false, Bool.not_true, Bool.false_or, Bool.true_and, Bool.and_false]; done)
      · refine wp_aload_n (pc := 35) dX2_inheritsBefore_35 rfl ?_
        refine wf_getR (pc := 36) dX2_inheritsBefore_36 fl_X2_28 hW.1 (hR _ _ _ (rt_L5 hW)) ?_
        refine wp_iload_n (pc := 39) dX2_inheritsBefore_39 rfl ?_
        refine wf_iald (pc := 40) (j := o) dX2_inheritsBefore_40 hW.2.2.1 rfl (by omega) ?_
        rw [(hx.2.2.2.2.2 o ho).1]
        refine wp_aload_n (pc := 41) dX2_inheritsBefore_41 rfl ?_
        refine wf_getR (pc := 42) dX2_inheritsBefore_42 fl_X2_28 hW.1 (hR _ _ _ (rt_L5 hW)) ?_
        refine wp_iload_n (pc := 45) dX2_inheritsBefore_45 rfl ?_
        refine wf_iald (pc := 46) (j := b) dX2_inheritsBefore_46 hW.2.2.1 rfl (by omega) ?_
        rw [(hx.2.2.2.2.2 b h5).1]
        refine wp_icmp_le (pc := 47) 54 dX2_inheritsBefore_47 (by decide) (fun h47 => ?_) (fun h47 => ?_)
        · refine wp_ic (pc := 54) (x := nI 0) dX2_inheritsBefore_54 ic_0 ?_
          refine wf_zret (pc := 55) (false) dX2_inheritsBefore_55 rfl rfl ?_
          refine ⟨?_, rfl⟩
          first | (simp [inhB, h5]; done) | (simp only [inhB, h5, h27, decide_true, Bool.true_or, Bool.or_true]; done) | (simp only [inhB, h5, h27, h32, decide_true, decide_false, Bool.not_true, Bool.false_or, Bool.false_and]; done) | (have h47 := Int32.not_le.mp h47; simp only [inhB, h5, h27, h32, h47, show ¬ (0 : Int32) < 0 by decide, decide_true, decide_false, Bool.not_true, Bool.false_or, Bool.true_and]; done) | (have h47 := Int32.not_lt.mpr h47; simp only [inhB, h5, h27, h32, h47, show ¬ (0 : Int32) < 0 by decide, decide_true, decide_false, Bool.not_true, Bool.false_or, Bool.true_and, Bool.and_false]; done)
        · refine wp_ic (pc := 50) (x := nI 1) dX2_inheritsBefore_50 ic_1 ?_
          refine wp_goto (pc := 51) 55 dX2_inheritsBefore_51 (by decide) ?_
          refine wf_zret (pc := 55) (true) dX2_inheritsBefore_55 rfl rfl ?_
          refine ⟨?_, rfl⟩
          first | (simp [inhB, h5]; done) | (simp only [inhB, h5, h27, decide_true, Bool.true_or, Bool.or_true]; done) | (simp only [inhB, h5, h27, h32, decide_true, decide_false, Bool.not_true, Bool.false_or, Bool.false_and]; done) | (have h47 := Int32.not_le.mp h47; simp only [inhB, h5, h27, h32, h47, show ¬ (0 : Int32) < 0 by decide, decide_true, decide_false, Bool.not_true, Bool.false_or, Bool.true_and]; done) | (have h47 := Int32.not_lt.mpr h47; simp only [inhB, h5, h27, h32, h47, show ¬ (0 : Int32) < 0 by decide, decide_true, decide_false, Bool.not_true, Bool.false_or, Bool.true_and, Bool.and_false]; done)
  · have h5 := b2i_0 h5
    have h5 := of_decide_eq_false h5
    refine wp_ic (pc := 8) (x := nI 1) dX2_inheritsBefore_8 ic_1 ?_
    refine wf_zret (pc := 9) (true) dX2_inheritsBefore_9 rfl rfl ?_
    refine ⟨?_, rfl⟩
    first | (simp [inhB, h5]; done) | (simp only [inhB, h5, h27, decide_true, Bool.true_or, Bool.or_true]; done) | (simp only [inhB, h5, h27, h32, decide_true, decide_false, Bool.not_true, Bool.false_or, Bool.false_and]; done) | (have h47 := Int32.not_le.mp h47; simp only [inhB, h5, h27, h32, h47, show ¬ (0 : Int32) < 0 by decide, decide_true, decide_false, Bool.not_true, Bool.false_or, Bool.true_and]; done) | (have h47 := Int32.not_lt.mpr h47; simp only [inhB, h5, h27, h32, h47, show ¬ (0 : Int32) < 0 by decide, decide_true, decide_false, Bool.not_true, Bool.false_or, Bool.true_and, Bool.and_false]; done)
theorem c_perilAt {l : Launch} {K : CtxT} {M : Mm} {t w : Nat} {Λ : Lw} {P : Pg} (hT : IT t) (hW : IL w) (hR : RS M) (hL : OkN Λ) (hx : XL M w Λ) (ht : XT M t Λ P) {d h k : Nat} (hd : d < 4) (hk : k < 10) (hh : P 24 = nI h) (hb : h + k < 2 ^ 31) : Ci l K 2 mX7_perilAt [.ref (K.1 + t), .ref (K.1 + w), .int (nI d), .int (nI k)] M (fun r M' => r = perP Λ P d h k ∧ M' = M) := by
  have hN := hL.2.1
  refine ci_of (L := [some (.ref (K.1 + t)), some (.ref (K.1 + w)), some (.int (nI d)), some (.int (nI k)), none, none]) (by decide +kernel) (Nat.le_of_ble_eq_true rfl) rfl rfl (fun E => ?_)
  have loop : ∀ (n m : Nat), n = lM Λ - m → m ≤ lM Λ →  (∀ o, o < m → perB Λ P d k (decide (lLe Λ ≤ nI ((h + k) % 12))) o = false) → Wp E K mX7_perilAt 2 (0, 0) 18 [some (.ref (K.1 + t)), some (.ref (K.1 + w)), some (.int (nI d)), some (.int (nI k)), some (.int (b2i (decide (lLe Λ ≤ nI ((h + k) % 12))))), some (.int (nI m))] [] 168 M 0 0 (zI E K (fun r M' => r = perP Λ P d h k ∧ M' = M)) := by
    intro n
    induction n with
    | zero =>
      intro m hn hm hf
      refine wp_iload (pc := 18) dX7_perilAt_18 rfl ?_
      refine wp_aload_n (pc := 20) dX7_perilAt_20 rfl ?_
      refine wf_getI (pc := 21) dX7_perilAt_21 fl_X7_40 hW.1 ?_
      rw [hx.2.1]
      refine wp_icmp_ge (pc := 24) 78 dX7_perilAt_24 (by decide) (fun h24 => ?_) (fun h24 => ?_)
      · have e : m = lM Λ := by omega
        subst e
        refine wp_bipush (pc := 78) (x := (-9)) dX7_perilAt_78 bp_m9 ?_
        refine wf_iret (pc := 80) dX7_perilAt_80 rfl ?_
        exact ⟨by unfold perP; rw [anyN_f hf]; rfl, rfl⟩
      · exact absurd (nI_le (by omega) (by omega)) h24
    | succ n ih =>
      intro m hn hm hf
      refine wp_iload (pc := 18) dX7_perilAt_18 rfl ?_
      refine wp_aload_n (pc := 20) dX7_perilAt_20 rfl ?_
      refine wf_getI (pc := 21) dX7_perilAt_21 fl_X7_40 hW.1 ?_
      rw [hx.2.1]
      refine wp_icmp_ge (pc := 24) 78 dX7_perilAt_24 (by decide) (fun h24 => ?_) (fun h24 => ?_)
      · exact absurd h24 (nI_ge (by omega) (by omega))
      · refine wp_aload_n (pc := 27) dX7_perilAt_27 rfl ?_
        refine wf_getR (pc := 28) dX7_perilAt_28 fl_X7_25 hT.1 (hR _ _ _ (rt_T4 hT)) ?_
        refine wp_iload (pc := 31) dX7_perilAt_31 rfl ?_
        refine wf_iald (pc := 33) (j := m) dX7_perilAt_33 hT.2.2.2.1 rfl (by omega) ?_
        rw [(ht.2.2.2 m (by omega)).1]
        refine wp_iload_n (pc := 34) dX7_perilAt_34 rfl ?_
        refine wp_icmp_ne (pc := 35) 72 dX7_perilAt_35 (by decide) (fun h35 => ?_) (fun h35 => ?_)
        · have e2 : perB Λ P d k (decide (lLe Λ ≤ nI ((h + k) % 12))) m = false := by simp [perB, h35]
          refine wp_iinc1 (pc := 72) (L' := [_, _, _, _, _, _]) dX7_perilAt_72 rfl rfl rfl ?_
          refine wp_goto (pc := 75) 18 dX7_perilAt_75 (by decide) ?_
          exact ih (m + 1) (by omega) (by omega) (fun o ho => by rcases Nat.lt_succ_iff_lt_or_eq.mp ho with q | rfl; exact hf o q; exact e2)
        · refine wp_aload_n (pc := 38) dX7_perilAt_38 rfl ?_
          refine wf_getR (pc := 39) dX7_perilAt_39 fl_X7_31 hT.1 (hR _ _ _ (rt_T6 hT)) ?_
          refine wp_iload (pc := 42) dX7_perilAt_42 rfl ?_
          refine wf_iald (pc := 44) (j := m) dX7_perilAt_44 hT.2.2.2.2.2 rfl (by omega) ?_
          rw [(ht.2.2.2 m (by omega)).2.2]
          refine wp_iload_n (pc := 45) dX7_perilAt_45 rfl ?_
          refine wp_icmp_gt (pc := 46) 72 dX7_perilAt_46 (by decide) (fun h46 => ?_) (fun h46 => ?_)
          · have e2 : perB Λ P d k (decide (lLe Λ ≤ nI ((h + k) % 12))) m = false := by have := Int32.not_le.mpr h46; simp [perB, this]
            refine wp_iinc1 (pc := 72) (L' := [_, _, _, _, _, _]) dX7_perilAt_72 rfl rfl rfl ?_
            refine wp_goto (pc := 75) 18 dX7_perilAt_75 (by decide) ?_
            exact ih (m + 1) (by omega) (by omega) (fun o ho => by rcases Nat.lt_succ_iff_lt_or_eq.mp ho with q | rfl; exact hf o q; exact e2)
          · refine wp_aload_n (pc := 49) dX7_perilAt_49 rfl ?_
            refine wp_aload_n (pc := 50) dX7_perilAt_50 rfl ?_
            refine wp_iload (pc := 51) dX7_perilAt_51 rfl ?_
            refine wp_iload (pc := 53) dX7_perilAt_53 rfl ?_
            refine wf_callVi (pc := 55) dX7_perilAt_55 cl_X7_80 (c_mayBeCaught hT hW hR hL hx ht (show m < lM Λ by omega)) hT.1 rfl rfl rfl rfl (Nat.le_of_ble_eq_true rfl) (by decide) ⟨Nat.le_refl _, Nat.le_refl _⟩ (fun r55 M55 q55 => ?_)
            rw [q55.1, q55.2]
            refine wp_if_eq (pc := 58) 72 dX7_perilAt_58 (by decide) (fun h58 => ?_) (fun h58 => ?_)
            · have h58 := b2i_0 h58
              have e2 : perB Λ P d k (decide (lLe Λ ≤ nI ((h + k) % 12))) m = false := by simp [perB, h58]
              refine wp_iinc1 (pc := 72) (L' := [_, _, _, _, _, _]) dX7_perilAt_72 rfl rfl rfl ?_
              refine wp_goto (pc := 75) 18 dX7_perilAt_75 (by decide) ?_
              exact ih (m + 1) (by omega) (by omega) (fun o ho => by rcases Nat.lt_succ_iff_lt_or_eq.mp ho with q | rfl; exact hf o q; exact e2)
            · have h58 := b2i_1 h58
              have h46 := Int32.not_lt.mp h46
              have e2 : perB Λ P d k (decide (lLe Λ ≤ nI ((h + k) % 12))) m = true := by simp [perB, h35, h46, h58]
              refine wp_aload_n (pc := 61) dX7_perilAt_61 rfl ?_
              refine wp_aload_n (pc := 62) dX7_perilAt_62 rfl ?_
              refine wf_getI (pc := 63) dX7_perilAt_63 fl_X7_9 hT.1 ?_
              rw [ht.1, hh]
              refine wp_iload_n (pc := 66) dX7_perilAt_66 rfl ?_
              refine wp_iadd (pc := 67) dX7_perilAt_67 ?_
              rw [nI_add]
              refine wf_callVi (pc := 68) dX7_perilAt_68 cl_X7_69 (c_wardenAt hW hR hL hx hb) hW.1 rfl rfl rfl rfl (Nat.le_of_ble_eq_true rfl) (by decide) ⟨Nat.le_refl _, Nat.le_refl _⟩ (fun r68 M68 q68 => ?_)
              rw [q68.1, q68.2]
              refine wf_iret (pc := 71) dX7_perilAt_71 rfl ?_
              exact ⟨by unfold perP; rw [anyN_t (show m < lM Λ by omega) e2] <;> rfl, rfl⟩
  refine wp_aload_n (pc := 0) dX7_perilAt_0 rfl ?_
  refine wf_getI (pc := 1) dX7_perilAt_1 fl_X7_9 hT.1 ?_
  rw [ht.1, hh]
  refine wp_iload_n (pc := 4) dX7_perilAt_4 rfl ?_
  refine wp_iadd (pc := 5) dX7_perilAt_5 ?_
  rw [nI_add]
  refine wp_aload_n (pc := 6) dX7_perilAt_6 rfl ?_
  refine wf_getI (pc := 7) dX7_perilAt_7 fl_X7_101 hW.1 ?_
  rw [hx.2.2.1]
  refine wf_callSi (pc := 10) dX7_perilAt_10 cl_X7_72 (c_isLate hb) rfl rfl (Nat.le_of_ble_eq_true rfl) (by decide) ⟨Nat.le_refl _, Nat.le_refl _⟩ (fun r10 M10 q10 => ?_)
  rw [q10.1, q10.2]
  refine wp_istore (pc := 13) (L' := [_, _, _, _, _, _]) dX7_perilAt_13 (Nat.le_of_ble_eq_true rfl) rfl rfl ?_
  refine wp_ic (pc := 15) (x := nI 0) dX7_perilAt_15 ic_0 ?_
  refine wp_istore (pc := 16) (L' := [_, _, _, _, _, _]) dX7_perilAt_16 (Nat.le_of_ble_eq_true rfl) rfl rfl ?_
  exact loop (lM Λ) 0 (by omega) (by omega) (fun o ho => absurd ho (by omega))
end
