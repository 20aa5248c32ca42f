-- ===== PART A: goes FIRST, ahead of the names: the tables' words, and 'selects' of the private methods out of them =====
/-- a private method of a class that the tables say can be made, by its rows of tables_1 -/
def lw_okq (q : MethodName × Nat) : Prop := (q.1.cls ≠ "java/lang/invoke/MethodHandle" ∧ q.1.cls ≠ "java/lang/invoke/VarHandle") ∧ Cond.instantiable q.1.cls q.2 ∈ tables_1 ∧ Cond.privateMethod q.1 ∈ tables_1 ∧ Cond.instanceMethod q.1 ∈ tables_1
theorem lw_p0 : lw_okq (⟨"ScrapHouse", "findBallot", "(I)LScrapHouse$Ballot;"⟩, 12) := ⟨⟨by decide +kernel, by decide +kernel⟩, List.mem_of_getElem? (i := 15) (by decide +kernel), List.mem_of_getElem? (i := 150) (by decide +kernel), List.mem_of_getElem? (i := 151) (by decide +kernel)⟩
theorem lw_p1 : lw_okq (⟨"ScrapHouse", "findNurse", "(I)LScrapHouse$Nurse;"⟩, 12) := ⟨⟨by decide +kernel, by decide +kernel⟩, List.mem_of_getElem? (i := 15) (by decide +kernel), List.mem_of_getElem? (i := 273) (by decide +kernel), List.mem_of_getElem? (i := 274) (by decide +kernel)⟩
theorem lw_p2 : lw_okq (⟨"ScrapHouse", "isOver", "(III)Z"⟩, 12) := ⟨⟨by decide +kernel, by decide +kernel⟩, List.mem_of_getElem? (i := 15) (by decide +kernel), List.mem_of_getElem? (i := 277) (by decide +kernel), List.mem_of_getElem? (i := 278) (by decide +kernel)⟩
theorem lw_p3 : lw_okq (⟨"ScrapHouse", "childrenAt", "(III)I"⟩, 12) := ⟨⟨by decide +kernel, by decide +kernel⟩, List.mem_of_getElem? (i := 15) (by decide +kernel), List.mem_of_getElem? (i := 281) (by decide +kernel), List.mem_of_getElem? (i := 282) (by decide +kernel)⟩
theorem lw_p4 : lw_okq (⟨"ScrapHouse", "findChild", "(I)LScrapHouse$Child;"⟩, 12) := ⟨⟨by decide +kernel, by decide +kernel⟩, List.mem_of_getElem? (i := 15) (by decide +kernel), List.mem_of_getElem? (i := 293) (by decide +kernel), List.mem_of_getElem? (i := 294) (by decide +kernel)⟩
theorem lw_p5 : lw_okq (⟨"ScrapHouse", "isGone", "(LScrapHouse$Child;I)Z"⟩, 12) := ⟨⟨by decide +kernel, by decide +kernel⟩, List.mem_of_getElem? (i := 15) (by decide +kernel), List.mem_of_getElem? (i := 300) (by decide +kernel), List.mem_of_getElem? (i := 301) (by decide +kernel)⟩
theorem lw_p6 : lw_okq (⟨"ScrapHouse", "isPast", "(I)Z"⟩, 12) := ⟨⟨by decide +kernel, by decide +kernel⟩, List.mem_of_getElem? (i := 15) (by decide +kernel), List.mem_of_getElem? (i := 314) (by decide +kernel), List.mem_of_getElem? (i := 315) (by decide +kernel)⟩
theorem lw_p7 : lw_okq (⟨"ScrapHouse", "seenDays", "(ILScrapHouse$Look;III)I"⟩, 12) := ⟨⟨by decide +kernel, by decide +kernel⟩, List.mem_of_getElem? (i := 15) (by decide +kernel), List.mem_of_getElem? (i := 348) (by decide +kernel), List.mem_of_getElem? (i := 349) (by decide +kernel)⟩
theorem lw_p8 : lw_okq (⟨"ScrapHouse", "daysWith", "(IIII)I"⟩, 12) := ⟨⟨by decide +kernel, by decide +kernel⟩, List.mem_of_getElem? (i := 15) (by decide +kernel), List.mem_of_getElem? (i := 352) (by decide +kernel), List.mem_of_getElem? (i := 353) (by decide +kernel)⟩
theorem lw_p9 : lw_okq (⟨"ScrapHouse$Half", "unlike", "(II)I"⟩, 2) := ⟨⟨by decide +kernel, by decide +kernel⟩, List.mem_of_getElem? (i := 182) (by decide +kernel), List.mem_of_getElem? (i := 378) (by decide +kernel), List.mem_of_getElem? (i := 379) (by decide +kernel)⟩
theorem lw_p10 : lw_okq (⟨"ScrapHouse$Reader", "tests", "(I)Z"⟩, 4) := ⟨⟨by decide +kernel, by decide +kernel⟩, List.mem_of_getElem? (i := 45) (by decide +kernel), List.mem_of_getElem? (i := 413) (by decide +kernel), List.mem_of_getElem? (i := 414) (by decide +kernel)⟩
theorem lw_p11 : lw_okq (⟨"ScrapHouse$Reader", "part", "(I)Z"⟩, 4) := ⟨⟨by decide +kernel, by decide +kernel⟩, List.mem_of_getElem? (i := 45) (by decide +kernel), List.mem_of_getElem? (i := 417) (by decide +kernel), List.mem_of_getElem? (i := 418) (by decide +kernel)⟩
theorem lw_p12 : lw_okq (⟨"ScrapHouse$Reader", "unit", "(I)Z"⟩, 4) := ⟨⟨by decide +kernel, by decide +kernel⟩, List.mem_of_getElem? (i := 45) (by decide +kernel), List.mem_of_getElem? (i := 421) (by decide +kernel), List.mem_of_getElem? (i := 422) (by decide +kernel)⟩
theorem lw_p13 : lw_okq (⟨"ScrapHouse$Reader", "next", "()I"⟩, 4) := ⟨⟨by decide +kernel, by decide +kernel⟩, List.mem_of_getElem? (i := 45) (by decide +kernel), List.mem_of_getElem? (i := 425) (by decide +kernel), List.mem_of_getElem? (i := 426) (by decide +kernel)⟩
theorem lw_p14 : lw_okq (⟨"ScrapHouse$Reader", "test", "()Z"⟩, 4) := ⟨⟨by decide +kernel, by decide +kernel⟩, List.mem_of_getElem? (i := 45) (by decide +kernel), List.mem_of_getElem? (i := 433) (by decide +kernel), List.mem_of_getElem? (i := 434) (by decide +kernel)⟩
theorem lw_p15 : lw_okq (⟨"ScrapHouse$Reader", "letterValue", "()I"⟩, 4) := ⟨⟨by decide +kernel, by decide +kernel⟩, List.mem_of_getElem? (i := 45) (by decide +kernel), List.mem_of_getElem? (i := 437) (by decide +kernel), List.mem_of_getElem? (i := 438) (by decide +kernel)⟩
def lw_privs_1 : List (MethodName × Nat) := [(⟨"ScrapHouse", "findBallot", "(I)LScrapHouse$Ballot;"⟩, 12), (⟨"ScrapHouse", "findNurse", "(I)LScrapHouse$Nurse;"⟩, 12), (⟨"ScrapHouse", "isOver", "(III)Z"⟩, 12), (⟨"ScrapHouse", "childrenAt", "(III)I"⟩, 12), (⟨"ScrapHouse", "findChild", "(I)LScrapHouse$Child;"⟩, 12), (⟨"ScrapHouse", "isGone", "(LScrapHouse$Child;I)Z"⟩, 12), (⟨"ScrapHouse", "isPast", "(I)Z"⟩, 12), (⟨"ScrapHouse", "seenDays", "(ILScrapHouse$Look;III)I"⟩, 12), (⟨"ScrapHouse", "daysWith", "(IIII)I"⟩, 12), (⟨"ScrapHouse$Half", "unlike", "(II)I"⟩, 2), (⟨"ScrapHouse$Reader", "tests", "(I)Z"⟩, 4), (⟨"ScrapHouse$Reader", "part", "(I)Z"⟩, 4), (⟨"ScrapHouse$Reader", "unit", "(I)Z"⟩, 4), (⟨"ScrapHouse$Reader", "next", "()I"⟩, 4), (⟨"ScrapHouse$Reader", "test", "()Z"⟩, 4), (⟨"ScrapHouse$Reader", "letterValue", "()I"⟩, 4)]
theorem lw_r1 : ∀ q ∈ lw_privs_1, lw_okq q := List.forall_mem_cons.mpr ⟨lw_p0, List.forall_mem_cons.mpr ⟨lw_p1, List.forall_mem_cons.mpr ⟨lw_p2, List.forall_mem_cons.mpr ⟨lw_p3, List.forall_mem_cons.mpr ⟨lw_p4, List.forall_mem_cons.mpr ⟨lw_p5, List.forall_mem_cons.mpr ⟨lw_p6, List.forall_mem_cons.mpr ⟨lw_p7, List.forall_mem_cons.mpr ⟨lw_p8, List.forall_mem_cons.mpr ⟨lw_p9, List.forall_mem_cons.mpr ⟨lw_p10, List.forall_mem_cons.mpr ⟨lw_p11, List.forall_mem_cons.mpr ⟨lw_p12, List.forall_mem_cons.mpr ⟨lw_p13, List.forall_mem_cons.mpr ⟨lw_p14, List.forall_mem_cons.mpr ⟨lw_p15, fun _ h => absurd h List.not_mem_nil⟩⟩⟩⟩⟩⟩⟩⟩⟩⟩⟩⟩⟩⟩⟩⟩
theorem lw_p16 : lw_okq (⟨"ScrapHouse$Reader", "fail", "()V"⟩, 4) := ⟨⟨by decide +kernel, by decide +kernel⟩, List.mem_of_getElem? (i := 45) (by decide +kernel), List.mem_of_getElem? (i := 441) (by decide +kernel), List.mem_of_getElem? (i := 442) (by decide +kernel)⟩
theorem lw_p17 : lw_okq (⟨"ScrapHouse$Reader", "take", "(C)Z"⟩, 4) := ⟨⟨by decide +kernel, by decide +kernel⟩, List.mem_of_getElem? (i := 45) (by decide +kernel), List.mem_of_getElem? (i := 445) (by decide +kernel), List.mem_of_getElem? (i := 446) (by decide +kernel)⟩
theorem lw_p18 : lw_okq (⟨"ScrapHouse$Reader", "number", "()I"⟩, 4) := ⟨⟨by decide +kernel, by decide +kernel⟩, List.mem_of_getElem? (i := 45) (by decide +kernel), List.mem_of_getElem? (i := 449) (by decide +kernel), List.mem_of_getElem? (i := 450) (by decide +kernel)⟩
theorem lw_p19 : lw_okq (⟨"ScrapHouse", "childrenFitting", "(LScrapHouse$Claim;)I"⟩, 12) := ⟨⟨by decide +kernel, by decide +kernel⟩, List.mem_of_getElem? (i := 15) (by decide +kernel), List.mem_of_getElem? (i := 487) (by decide +kernel), List.mem_of_getElem? (i := 488) (by decide +kernel)⟩
theorem lw_p20 : lw_okq (⟨"ScrapHouse", "setValues", "(LScrapHouse$Child;LScrapHouse$Claim;I)V"⟩, 12) := ⟨⟨by decide +kernel, by decide +kernel⟩, List.mem_of_getElem? (i := 15) (by decide +kernel), List.mem_of_getElem? (i := 496) (by decide +kernel), List.mem_of_getElem? (i := 497) (by decide +kernel)⟩
theorem lw_p21 : lw_okq (⟨"ScrapHouseModel", "lineOf", "(I)[I"⟩, 33) := ⟨⟨by decide +kernel, by decide +kernel⟩, List.mem_of_getElem? (i := 537) (by decide +kernel), List.mem_of_getElem? (i := 655) (by decide +kernel), List.mem_of_getElem? (i := 656) (by decide +kernel)⟩
theorem lw_p22 : lw_okq (⟨"ScrapHouseModel", "isWoman", "(II)Z"⟩, 33) := ⟨⟨by decide +kernel, by decide +kernel⟩, List.mem_of_getElem? (i := 537) (by decide +kernel), List.mem_of_getElem? (i := 665) (by decide +kernel), List.mem_of_getElem? (i := 666) (by decide +kernel)⟩
theorem lw_p23 : lw_okq (⟨"ScrapHouseModel", "hasRoom", "(III)Z"⟩, 33) := ⟨⟨by decide +kernel, by decide +kernel⟩, List.mem_of_getElem? (i := 537) (by decide +kernel), List.mem_of_getElem? (i := 682) (by decide +kernel), List.mem_of_getElem? (i := 683) (by decide +kernel)⟩
theorem lw_p24 : lw_okq (⟨"ScrapHouseModel", "changesOn", "(I)Z"⟩, 33) := ⟨⟨by decide +kernel, by decide +kernel⟩, List.mem_of_getElem? (i := 537) (by decide +kernel), List.mem_of_getElem? (i := 686) (by decide +kernel), List.mem_of_getElem? (i := 687) (by decide +kernel)⟩
theorem lw_p25 : lw_okq (⟨"ScrapHouseModel", "manyAt", "(III)I"⟩, 33) := ⟨⟨by decide +kernel, by decide +kernel⟩, List.mem_of_getElem? (i := 537) (by decide +kernel), List.mem_of_getElem? (i := 690) (by decide +kernel), List.mem_of_getElem? (i := 691) (by decide +kernel)⟩
theorem lw_p26 : lw_okq (⟨"ScrapHouseModel", "isThere", "(III)Z"⟩, 33) := ⟨⟨by decide +kernel, by decide +kernel⟩, List.mem_of_getElem? (i := 537) (by decide +kernel), List.mem_of_getElem? (i := 694) (by decide +kernel), List.mem_of_getElem? (i := 695) (by decide +kernel)⟩
theorem lw_p27 : lw_okq (⟨"ScrapHouseModel", "where", "(III)I"⟩, 33) := ⟨⟨by decide +kernel, by decide +kernel⟩, List.mem_of_getElem? (i := 537) (by decide +kernel), List.mem_of_getElem? (i := 698) (by decide +kernel), List.mem_of_getElem? (i := 699) (by decide +kernel)⟩
theorem lw_p28 : lw_okq (⟨"ScrapHouseModel", "isChild", "(I)Z"⟩, 33) := ⟨⟨by decide +kernel, by decide +kernel⟩, List.mem_of_getElem? (i := 537) (by decide +kernel), List.mem_of_getElem? (i := 706) (by decide +kernel), List.mem_of_getElem? (i := 707) (by decide +kernel)⟩
theorem lw_p29 : lw_okq (⟨"ScrapHouseModel", "areDays", "(II)Z"⟩, 33) := ⟨⟨by decide +kernel, by decide +kernel⟩, List.mem_of_getElem? (i := 537) (by decide +kernel), List.mem_of_getElem? (i := 714) (by decide +kernel), List.mem_of_getElem? (i := 715) (by decide +kernel)⟩
theorem lw_p30 : lw_okq (⟨"ScrapHouseModel", "areWeeks", "(IIII)Z"⟩, 33) := ⟨⟨by decide +kernel, by decide +kernel⟩, List.mem_of_getElem? (i := 537) (by decide +kernel), List.mem_of_getElem? (i := 730) (by decide +kernel), List.mem_of_getElem? (i := 731) (by decide +kernel)⟩
theorem lw_p31 : lw_okq (⟨"ScrapHouseModel", "daysWith", "(IIIIZ)I"⟩, 33) := ⟨⟨by decide +kernel, by decide +kernel⟩, List.mem_of_getElem? (i := 537) (by decide +kernel), List.mem_of_getElem? (i := 734) (by decide +kernel), List.mem_of_getElem? (i := 735) (by decide +kernel)⟩
def lw_privs_2 : List (MethodName × Nat) := [(⟨"ScrapHouse$Reader", "fail", "()V"⟩, 4), (⟨"ScrapHouse$Reader", "take", "(C)Z"⟩, 4), (⟨"ScrapHouse$Reader", "number", "()I"⟩, 4), (⟨"ScrapHouse", "childrenFitting", "(LScrapHouse$Claim;)I"⟩, 12), (⟨"ScrapHouse", "setValues", "(LScrapHouse$Child;LScrapHouse$Claim;I)V"⟩, 12), (⟨"ScrapHouseModel", "lineOf", "(I)[I"⟩, 33), (⟨"ScrapHouseModel", "isWoman", "(II)Z"⟩, 33), (⟨"ScrapHouseModel", "hasRoom", "(III)Z"⟩, 33), (⟨"ScrapHouseModel", "changesOn", "(I)Z"⟩, 33), (⟨"ScrapHouseModel", "manyAt", "(III)I"⟩, 33), (⟨"ScrapHouseModel", "isThere", "(III)Z"⟩, 33), (⟨"ScrapHouseModel", "where", "(III)I"⟩, 33), (⟨"ScrapHouseModel", "isChild", "(I)Z"⟩, 33), (⟨"ScrapHouseModel", "areDays", "(II)Z"⟩, 33), (⟨"ScrapHouseModel", "areWeeks", "(IIII)Z"⟩, 33), (⟨"ScrapHouseModel", "daysWith", "(IIIIZ)I"⟩, 33)]
theorem lw_r2 : ∀ q ∈ lw_privs_2, lw_okq q := List.forall_mem_cons.mpr ⟨lw_p16, List.forall_mem_cons.mpr ⟨lw_p17, List.forall_mem_cons.mpr ⟨lw_p18, List.forall_mem_cons.mpr ⟨lw_p19, List.forall_mem_cons.mpr ⟨lw_p20, List.forall_mem_cons.mpr ⟨lw_p21, List.forall_mem_cons.mpr ⟨lw_p22, List.forall_mem_cons.mpr ⟨lw_p23, List.forall_mem_cons.mpr ⟨lw_p24, List.forall_mem_cons.mpr ⟨lw_p25, List.forall_mem_cons.mpr ⟨lw_p26, List.forall_mem_cons.mpr ⟨lw_p27, List.forall_mem_cons.mpr ⟨lw_p28, List.forall_mem_cons.mpr ⟨lw_p29, List.forall_mem_cons.mpr ⟨lw_p30, List.forall_mem_cons.mpr ⟨lw_p31, fun _ h => absurd h List.not_mem_nil⟩⟩⟩⟩⟩⟩⟩⟩⟩⟩⟩⟩⟩⟩⟩⟩
theorem lw_p32 : lw_okq (⟨"ScrapHouseModel", "isSeen", "(III)Z"⟩, 33) := ⟨⟨by decide +kernel, by decide +kernel⟩, List.mem_of_getElem? (i := 537) (by decide +kernel), List.mem_of_getElem? (i := 738) (by decide +kernel), List.mem_of_getElem? (i := 739) (by decide +kernel)⟩
theorem lw_p33 : lw_okq (⟨"ScrapHouseModel", "offOf", "(III)I"⟩, 33) := ⟨⟨by decide +kernel, by decide +kernel⟩, List.mem_of_getElem? (i := 537) (by decide +kernel), List.mem_of_getElem? (i := 751) (by decide +kernel), List.mem_of_getElem? (i := 752) (by decide +kernel)⟩
theorem lw_p34 : lw_okq (⟨"ScrapHouseModel", "offBy", "(IIIZ)I"⟩, 33) := ⟨⟨by decide +kernel, by decide +kernel⟩, List.mem_of_getElem? (i := 537) (by decide +kernel), List.mem_of_getElem? (i := 755) (by decide +kernel), List.mem_of_getElem? (i := 756) (by decide +kernel)⟩
theorem lw_p35 : lw_okq (⟨"ScrapHouseModel", "tests", "()V"⟩, 33) := ⟨⟨by decide +kernel, by decide +kernel⟩, List.mem_of_getElem? (i := 537) (by decide +kernel), List.mem_of_getElem? (i := 774) (by decide +kernel), List.mem_of_getElem? (i := 775) (by decide +kernel)⟩
theorem lw_p36 : lw_okq (⟨"ScrapHouseModel", "part", "()V"⟩, 33) := ⟨⟨by decide +kernel, by decide +kernel⟩, List.mem_of_getElem? (i := 537) (by decide +kernel), List.mem_of_getElem? (i := 778) (by decide +kernel), List.mem_of_getElem? (i := 779) (by decide +kernel)⟩
theorem lw_p37 : lw_okq (⟨"ScrapHouseModel", "unit", "()V"⟩, 33) := ⟨⟨by decide +kernel, by decide +kernel⟩, List.mem_of_getElem? (i := 537) (by decide +kernel), List.mem_of_getElem? (i := 782) (by decide +kernel), List.mem_of_getElem? (i := 783) (by decide +kernel)⟩
theorem lw_p38 : lw_okq (⟨"ScrapHouseModel", "peek", "()I"⟩, 33) := ⟨⟨by decide +kernel, by decide +kernel⟩, List.mem_of_getElem? (i := 537) (by decide +kernel), List.mem_of_getElem? (i := 786) (by decide +kernel), List.mem_of_getElem? (i := 787) (by decide +kernel)⟩
theorem lw_p39 : lw_okq (⟨"ScrapHouseModel", "fail", "()V"⟩, 33) := ⟨⟨by decide +kernel, by decide +kernel⟩, List.mem_of_getElem? (i := 537) (by decide +kernel), List.mem_of_getElem? (i := 790) (by decide +kernel), List.mem_of_getElem? (i := 791) (by decide +kernel)⟩
theorem lw_p40 : lw_okq (⟨"ScrapHouseModel", "say", "(I)V"⟩, 33) := ⟨⟨by decide +kernel, by decide +kernel⟩, List.mem_of_getElem? (i := 537) (by decide +kernel), List.mem_of_getElem? (i := 794) (by decide +kernel), List.mem_of_getElem? (i := 795) (by decide +kernel)⟩
theorem lw_p41 : lw_okq (⟨"ScrapHouseModel", "isOpen", "(I)Z"⟩, 33) := ⟨⟨by decide +kernel, by decide +kernel⟩, List.mem_of_getElem? (i := 537) (by decide +kernel), List.mem_of_getElem? (i := 807) (by decide +kernel), List.mem_of_getElem? (i := 808) (by decide +kernel)⟩
theorem lw_p42 : lw_okq (⟨"ScrapHouseModel", "agreeing", "(IIIII)I"⟩, 33) := ⟨⟨by decide +kernel, by decide +kernel⟩, List.mem_of_getElem? (i := 537) (by decide +kernel), List.mem_of_getElem? (i := 811) (by decide +kernel), List.mem_of_getElem? (i := 812) (by decide +kernel)⟩
theorem lw_p43 : lw_okq (⟨"ScrapHouseModel", "holds", "(IIIII)Z"⟩, 33) := ⟨⟨by decide +kernel, by decide +kernel⟩, List.mem_of_getElem? (i := 537) (by decide +kernel), List.mem_of_getElem? (i := 815) (by decide +kernel), List.mem_of_getElem? (i := 816) (by decide +kernel)⟩
theorem lw_p44 : lw_okq (⟨"ScrapHouseModel", "areBoth", "(II)Z"⟩, 33) := ⟨⟨by decide +kernel, by decide +kernel⟩, List.mem_of_getElem? (i := 537) (by decide +kernel), List.mem_of_getElem? (i := 828) (by decide +kernel), List.mem_of_getElem? (i := 829) (by decide +kernel)⟩
def lw_privs_3 : List (MethodName × Nat) := [(⟨"ScrapHouseModel", "isSeen", "(III)Z"⟩, 33), (⟨"ScrapHouseModel", "offOf", "(III)I"⟩, 33), (⟨"ScrapHouseModel", "offBy", "(IIIZ)I"⟩, 33), (⟨"ScrapHouseModel", "tests", "()V"⟩, 33), (⟨"ScrapHouseModel", "part", "()V"⟩, 33), (⟨"ScrapHouseModel", "unit", "()V"⟩, 33), (⟨"ScrapHouseModel", "peek", "()I"⟩, 33), (⟨"ScrapHouseModel", "fail", "()V"⟩, 33), (⟨"ScrapHouseModel", "say", "(I)V"⟩, 33), (⟨"ScrapHouseModel", "isOpen", "(I)Z"⟩, 33), (⟨"ScrapHouseModel", "agreeing", "(IIIII)I"⟩, 33), (⟨"ScrapHouseModel", "holds", "(IIIII)Z"⟩, 33), (⟨"ScrapHouseModel", "areBoth", "(II)Z"⟩, 33)]
theorem lw_r3 : ∀ q ∈ lw_privs_3, lw_okq q := List.forall_mem_cons.mpr ⟨lw_p32, List.forall_mem_cons.mpr ⟨lw_p33, List.forall_mem_cons.mpr ⟨lw_p34, List.forall_mem_cons.mpr ⟨lw_p35, List.forall_mem_cons.mpr ⟨lw_p36, List.forall_mem_cons.mpr ⟨lw_p37, List.forall_mem_cons.mpr ⟨lw_p38, List.forall_mem_cons.mpr ⟨lw_p39, List.forall_mem_cons.mpr ⟨lw_p40, List.forall_mem_cons.mpr ⟨lw_p41, List.forall_mem_cons.mpr ⟨lw_p42, List.forall_mem_cons.mpr ⟨lw_p43, List.forall_mem_cons.mpr ⟨lw_p44, fun _ h => absurd h List.not_mem_nil⟩⟩⟩⟩⟩⟩⟩⟩⟩⟩⟩⟩⟩
def lw_privs : List (MethodName × Nat) := lw_privs_1 ++ (lw_privs_2 ++ (lw_privs_3))
def lw_tbl : List Cond := k2_sels lw_privs ++ tables_1
theorem lw_privs_ok : ∀ q ∈ lw_privs, lw_okq q := by
  show ∀ q ∈ lw_privs_1 ++ (lw_privs_2 ++ (lw_privs_3)), lw_okq q
  exact List.forall_mem_append.mpr ⟨lw_r1, List.forall_mem_append.mpr ⟨lw_r2, lw_r3⟩⟩
def RX0 : String := "ScrapHouse$Ballot"
def TX0 : u_T := fun k => match k with
  | _ => ("ScrapHouse$Ballot", "has", "[I", true)
def tyX0 : Nat → FieldType := fun k => match k with
  | _ => .array .int
theorem nmX0 : ∀ a, a < 1 → ∀ b, b < 1 → a ≠ b → (TX0 a).2.1 ≠ (TX0 b).2.1 := by decide +kernel
theorem tyX0_ok : ∀ k, k < 1 → parseFieldDescriptor (TX0 k).2.2.1 = some (tyX0 k) := by decide +kernel
abbrev cX0_init : ByteArray := prog_2_method_1_code
def yX0_init : MethodName := ⟨RX0, "<init>", "(IIIJ)V"⟩
abbrev cX0_kindOf : ByteArray := prog_2_method_2_code
def yX0_kindOf : MethodName := ⟨RX0, "kindOf", "(III)I"⟩
abbrev cX0_ballOf : ByteArray := prog_2_method_3_code
def yX0_ballOf : MethodName := ⟨RX0, "ballOf", "(I)I"⟩
abbrev cX0_give : ByteArray := prog_2_method_4_code
def yX0_give : MethodName := ⟨RX0, "give", "(II)V"⟩
abbrev cX0_sendAway : ByteArray := prog_2_method_5_code
def yX0_sendAway : MethodName := ⟨RX0, "sendAway", "(I)I"⟩
def RX1 : String := "ScrapHouse$Child"
def TX1 : u_T := fun k => match k with
  | 0 => ("ScrapHouse$Child", "day", "I", true)
  | 1 => ("ScrapHouse$Child", "sex", "I", true)
  | 2 => ("ScrapHouse$Child", "mark", "I", true)
  | 3 => ("ScrapHouse$Child", "half", "LScrapHouse$Half;", true)
  | 4 => ("ScrapHouse$Child", "ballot", "I", true)
  | 5 => ("ScrapHouse$Child", "woman", "I", true)
  | 6 => ("ScrapHouse$Child", "coming", "LScrapHouse$Move;", true)
  | 7 => ("ScrapHouse$Child", "moveCount", "I", false)
  | 8 => ("ScrapHouse$Child", "mother", "I", false)
  | _ => ("ScrapHouse$Child", "askers", "I", false)
def tyX1 : Nat → FieldType := fun k => match k with
  | 0 => .int
  | 1 => .int
  | 2 => .int
  | 3 => .object "ScrapHouse$Half"
  | 4 => .int
  | 5 => .int
  | 6 => .object "ScrapHouse$Move"
  | 7 => .int
  | 8 => .int
  | _ => .int
theorem nmX1 : ∀ a, a < 10 → ∀ b, b < 10 → a ≠ b → (TX1 a).2.1 ≠ (TX1 b).2.1 := by decide +kernel
theorem tyX1_ok : ∀ k, k < 10 → parseFieldDescriptor (TX1 k).2.2.1 = some (tyX1 k) := by decide +kernel
abbrev cX1_init : ByteArray := prog_3_method_1_code
def yX1_init : MethodName := ⟨RX1, "<init>", "(IIILScrapHouse$Half;II)V"⟩
abbrev cX1_mayAsk : ByteArray := prog_3_method_2_code
def yX1_mayAsk : MethodName := ⟨RX1, "mayAsk", "(I)Z"⟩
abbrev cX1_lastUpTo : ByteArray := prog_3_method_3_code
def yX1_lastUpTo : MethodName := ⟨RX1, "lastUpTo", "(I)LScrapHouse$Move;"⟩
abbrev cX1_placeOn : ByteArray := prog_3_method_4_code
def yX1_placeOn : MethodName := ⟨RX1, "placeOn", "(II)I"⟩
abbrev cX1_daysAt : ByteArray := prog_3_method_5_code
def yX1_daysAt : MethodName := ⟨RX1, "daysAt", "(IIII)I"⟩
def RX2 : String := "ScrapHouse$Claim"
def TX2 : u_T := fun k => match k with
  | 0 => ("ScrapHouse$Claim", "half", "LScrapHouse$Half;", true)
  | 1 => ("ScrapHouse$Claim", "first", "I", true)
  | 2 => ("ScrapHouse$Claim", "last", "I", true)
  | 3 => ("ScrapHouse$Claim", "sex", "I", true)
  | _ => ("ScrapHouse$Claim", "mark", "I", true)
def tyX2 : Nat → FieldType := fun k => match k with
  | 0 => .object "ScrapHouse$Half"
  | 1 => .int
  | 2 => .int
  | 3 => .int
  | _ => .int
theorem nmX2 : ∀ a, a < 5 → ∀ b, b < 5 → a ≠ b → (TX2 a).2.1 ≠ (TX2 b).2.1 := by decide +kernel
theorem tyX2_ok : ∀ k, k < 5 → parseFieldDescriptor (TX2 k).2.2.1 = some (tyX2 k) := by decide +kernel
abbrev cX2_init : ByteArray := prog_4_method_1_code
def yX2_init : MethodName := ⟨RX2, "<init>", "(LScrapHouse$Half;IIII)V"⟩
abbrev cX2_agreeing : ByteArray := prog_4_method_2_code
def yX2_agreeing : MethodName := ⟨RX2, "agreeing", "(LScrapHouse$Child;)I"⟩
abbrev cX2_disagreeing : ByteArray := prog_4_method_3_code
def yX2_disagreeing : MethodName := ⟨RX2, "disagreeing", "(LScrapHouse$Child;)I"⟩
def RX3 : String := "ScrapHouse$Half"
def TX3 : u_T := fun k => match k with
  | 0 => ("ScrapHouse$Half", "edge", "I", true)
  | _ => ("ScrapHouse$Half", "threads", "I", true)
def tyX3 : Nat → FieldType := fun k => match k with
  | 0 => .int
  | _ => .int
theorem nmX3 : ∀ a, a < 2 → ∀ b, b < 2 → a ≠ b → (TX3 a).2.1 ≠ (TX3 b).2.1 := by decide +kernel
theorem tyX3_ok : ∀ k, k < 2 → parseFieldDescriptor (TX3 k).2.2.1 = some (tyX3 k) := by decide +kernel
abbrev cX3_init : ByteArray := prog_5_method_1_code
def yX3_init : MethodName := ⟨RX3, "<init>", "(II)V"⟩
abbrev cX3_canBe : ByteArray := prog_5_method_2_code
def yX3_canBe : MethodName := ⟨RX3, "canBe", "(II)Z"⟩
abbrev cX3_farOff : ByteArray := prog_5_method_3_code
def yX3_farOff : MethodName := ⟨RX3, "farOff", "(LScrapHouse$Half;)I"⟩
abbrev cX3_unlike : ByteArray := prog_5_method_4_code
def yX3_unlike : MethodName := ⟨RX3, "unlike", "(II)I"⟩
abbrev cX3_numberAt : ByteArray := prog_5_method_5_code
def yX3_numberAt : MethodName := ⟨RX3, "numberAt", "(II)I"⟩
abbrev cX3_turn : ByteArray := prog_5_method_6_code
def yX3_turn : MethodName := ⟨RX3, "turn", "(I)I"⟩
def RX4 : String := "ScrapHouse$Look"
def TX4 : u_T := fun k => match k with
  | 0 => ("ScrapHouse$Look", "day", "I", true)
  | _ => ("ScrapHouse$Look", "earlier", "LScrapHouse$Look;", true)
def tyX4 : Nat → FieldType := fun k => match k with
  | 0 => .int
  | _ => .object "ScrapHouse$Look"
theorem nmX4 : ∀ a, a < 2 → ∀ b, b < 2 → a ≠ b → (TX4 a).2.1 ≠ (TX4 b).2.1 := by decide +kernel
theorem tyX4_ok : ∀ k, k < 2 → parseFieldDescriptor (TX4 k).2.2.1 = some (tyX4 k) := by decide +kernel
abbrev cX4_init : ByteArray := prog_6_method_1_code
def yX4_init : MethodName := ⟨RX4, "<init>", "(ILScrapHouse$Look;)V"⟩
def RX5 : String := "ScrapHouse$Move"
def TX5 : u_T := fun k => match k with
  | 0 => ("ScrapHouse$Move", "place", "I", true)
  | 1 => ("ScrapHouse$Move", "from", "I", true)
  | 2 => ("ScrapHouse$Move", "told", "I", true)
  | _ => ("ScrapHouse$Move", "next", "LScrapHouse$Move;", false)
def tyX5 : Nat → FieldType := fun k => match k with
  | 0 => .int
  | 1 => .int
  | 2 => .int
  | _ => .object "ScrapHouse$Move"
theorem nmX5 : ∀ a, a < 4 → ∀ b, b < 4 → a ≠ b → (TX5 a).2.1 ≠ (TX5 b).2.1 := by decide +kernel
theorem tyX5_ok : ∀ k, k < 4 → parseFieldDescriptor (TX5 k).2.2.1 = some (tyX5 k) := by decide +kernel
abbrev cX5_init : ByteArray := prog_7_method_1_code
def yX5_init : MethodName := ⟨RX5, "<init>", "(III)V"⟩
def RX6 : String := "ScrapHouse$Nurse"
def TX6 : u_T := fun k => match k with
  | 0 => ("ScrapHouse$Nurse", "bedCount", "I", false)
  | _ => ("ScrapHouse$Nurse", "latest", "LScrapHouse$Look;", false)
def tyX6 : Nat → FieldType := fun k => match k with
  | 0 => .int
  | _ => .object "ScrapHouse$Look"
theorem nmX6 : ∀ a, a < 2 → ∀ b, b < 2 → a ≠ b → (TX6 a).2.1 ≠ (TX6 b).2.1 := by decide +kernel
theorem tyX6_ok : ∀ k, k < 2 → parseFieldDescriptor (TX6 k).2.2.1 = some (tyX6 k) := by decide +kernel
abbrev cX6_init : ByteArray := prog_8_method_1_code
def yX6_init : MethodName := ⟨RX6, "<init>", "()V"⟩
def RX7 : String := "ScrapHouse$Reader"
def TX7 : u_T := fun k => match k with
  | 0 => ("ScrapHouse$Reader", "values", "[I", true)
  | 1 => ("ScrapHouse$Reader", "text", "LScrapHouse$Text;", false)
  | 2 => ("ScrapHouse$Reader", "at", "I", false)
  | _ => ("ScrapHouse$Reader", "failedAt", "I", false)
def tyX7 : Nat → FieldType := fun k => match k with
  | 0 => .array .int
  | 1 => .object "ScrapHouse$Text"
  | 2 => .int
  | _ => .int
theorem nmX7 : ∀ a, a < 4 → ∀ b, b < 4 → a ≠ b → (TX7 a).2.1 ≠ (TX7 b).2.1 := by decide +kernel
theorem tyX7_ok : ∀ k, k < 4 → parseFieldDescriptor (TX7 k).2.2.1 = some (tyX7 k) := by decide +kernel
abbrev cX7_init : ByteArray := prog_9_method_1_code
def yX7_init : MethodName := ⟨RX7, "<init>", "(LScrapHouse$Text;)V"⟩
abbrev cX7_faultOf : ByteArray := prog_9_method_2_code
def yX7_faultOf : MethodName := ⟨RX7, "faultOf", "(LScrapHouse$Text;)I"⟩
abbrev cX7_holds : ByteArray := prog_9_method_3_code
def yX7_holds : MethodName := ⟨RX7, "holds", "(LScrapHouse$Text;)Z"⟩
abbrev cX7_tests : ByteArray := prog_9_method_4_code
def yX7_tests : MethodName := ⟨RX7, "tests", "(I)Z"⟩
abbrev cX7_part : ByteArray := prog_9_method_5_code
def yX7_part : MethodName := ⟨RX7, "part", "(I)Z"⟩
abbrev cX7_unit : ByteArray := prog_9_method_6_code
def yX7_unit : MethodName := ⟨RX7, "unit", "(I)Z"⟩
abbrev cX7_test : ByteArray := prog_9_method_7_code
def yX7_test : MethodName := ⟨RX7, "test", "()Z"⟩
abbrev cX7_letterValue : ByteArray := prog_9_method_8_code
def yX7_letterValue : MethodName := ⟨RX7, "letterValue", "()I"⟩
abbrev cX7_number : ByteArray := prog_9_method_9_code
def yX7_number : MethodName := ⟨RX7, "number", "()I"⟩
abbrev cX7_isDigit : ByteArray := prog_9_method_10_code
def yX7_isDigit : MethodName := ⟨RX7, "isDigit", "(I)Z"⟩
abbrev cX7_take : ByteArray := prog_9_method_11_code
def yX7_take : MethodName := ⟨RX7, "take", "(C)Z"⟩
abbrev cX7_next : ByteArray := prog_9_method_12_code
def yX7_next : MethodName := ⟨RX7, "next", "()I"⟩
abbrev cX7_fail : ByteArray := prog_9_method_13_code
def yX7_fail : MethodName := ⟨RX7, "fail", "()V"⟩
def RX8 : String := "ScrapHouse$Text"
def TX8 : u_T := fun k => match k with
  | 0 => ("ScrapHouse$Text", "bytes", "[B", true)
  | _ => ("ScrapHouse$Text", "length", "I", false)
def tyX8 : Nat → FieldType := fun k => match k with
  | 0 => .array .byte
  | _ => .int
theorem nmX8 : ∀ a, a < 2 → ∀ b, b < 2 → a ≠ b → (TX8 a).2.1 ≠ (TX8 b).2.1 := by decide +kernel
theorem tyX8_ok : ∀ k, k < 2 → parseFieldDescriptor (TX8 k).2.2.1 = some (tyX8 k) := by decide +kernel
abbrev cX8_init : ByteArray := prog_10_method_1_code
def yX8_init : MethodName := ⟨RX8, "<init>", "()V"⟩
abbrev cX8_add : ByteArray := prog_10_method_2_code
def yX8_add : MethodName := ⟨RX8, "add", "(I)V"⟩
abbrev cX8_byteAt : ByteArray := prog_10_method_3_code
def yX8_byteAt : MethodName := ⟨RX8, "byteAt", "(I)I"⟩
def RX9 : String := "ScrapHouse"
def TX9 : u_T := fun k => match k with
  | 0 => ("ScrapHouse", "now", "I", false)
  | 1 => ("ScrapHouse", "ballotCount", "I", false)
  | 2 => ("ScrapHouse", "childCount", "I", false)
  | 3 => ("ScrapHouse", "moveCount", "I", false)
  | 4 => ("ScrapHouse", "lookCount", "I", false)
  | 5 => ("ScrapHouse", "ruleCount", "I", false)
  | 6 => ("ScrapHouse", "ballots", "[LScrapHouse$Ballot;", true)
  | 7 => ("ScrapHouse", "children", "[LScrapHouse$Child;", true)
  | 8 => ("ScrapHouse", "nurses", "[LScrapHouse$Nurse;", true)
  | 9 => ("ScrapHouse", "tape", "LScrapHouse$Text;", false)
  | 10 => ("ScrapHouse", "inForce", "LScrapHouse$Text;", false)
  | _ => ("ScrapHouse", "reader", "LScrapHouse$Reader;", true)
def tyX9 : Nat → FieldType := fun k => match k with
  | 0 => .int
  | 1 => .int
  | 2 => .int
  | 3 => .int
  | 4 => .int
  | 5 => .int
  | 6 => .array (.object "ScrapHouse$Ballot")
  | 7 => .array (.object "ScrapHouse$Child")
  | 8 => .array (.object "ScrapHouse$Nurse")
  | 9 => .object "ScrapHouse$Text"
  | 10 => .object "ScrapHouse$Text"
  | _ => .object "ScrapHouse$Reader"
theorem nmX9 : ∀ a, a < 12 → ∀ b, b < 12 → a ≠ b → (TX9 a).2.1 ≠ (TX9 b).2.1 := by decide +kernel
theorem tyX9_ok : ∀ k, k < 12 → parseFieldDescriptor (TX9 k).2.2.1 = some (tyX9 k) := by decide +kernel
abbrev cX9_init : ByteArray := prog_1_method_1_code
def yX9_init : MethodName := ⟨RX9, "<init>", "()V"⟩
abbrev cX9_days : ByteArray := prog_1_method_2_code
def yX9_days : MethodName := ⟨RX9, "days", "(I)I"⟩
abbrev cX9_ballot : ByteArray := prog_1_method_3_code
def yX9_ballot : MethodName := ⟨RX9, "ballot", "(IIIJ)I"⟩
abbrev cX9_ball : ByteArray := prog_1_method_4_code
def yX9_ball : MethodName := ⟨RX9, "ball", "(II)I"⟩
abbrev cX9_away : ByteArray := prog_1_method_5_code
def yX9_away : MethodName := ⟨RX9, "away", "(II)I"⟩
abbrev cX9_leave : ByteArray := prog_1_method_6_code
def yX9_leave : MethodName := ⟨RX9, "leave", "(IIIIII)I"⟩
abbrev cX9_beds : ByteArray := prog_1_method_7_code
def yX9_beds : MethodName := ⟨RX9, "beds", "(II)Z"⟩
abbrev cX9_move : ByteArray := prog_1_method_8_code
def yX9_move : MethodName := ⟨RX9, "move", "(III)Z"⟩
abbrev cX9_place : ByteArray := prog_1_method_9_code
def yX9_place : MethodName := ⟨RX9, "place", "(III)I"⟩
abbrev cX9_look : ByteArray := prog_1_method_10_code
def yX9_look : MethodName := ⟨RX9, "look", "(I)Z"⟩
abbrev cX9_many : ByteArray := prog_1_method_11_code
def yX9_many : MethodName := ⟨RX9, "many", "(III)I"⟩
abbrev cX9_pay : ByteArray := prog_1_method_12_code
def yX9_pay : MethodName := ⟨RX9, "pay", "(IIII)I"⟩
abbrev cX9_gap : ByteArray := prog_1_method_13_code
def yX9_gap : MethodName := ⟨RX9, "gap", "(IIII)I"⟩
abbrev cX9_off : ByteArray := prog_1_method_14_code
def yX9_off : MethodName := ⟨RX9, "off", "(III)I"⟩
abbrev cX9_feed : ByteArray := prog_1_method_15_code
def yX9_feed : MethodName := ⟨RX9, "feed", "(I)I"⟩
abbrev cX9_end : ByteArray := prog_1_method_16_code
def yX9_end : MethodName := ⟨RX9, "end", "(I)Z"⟩
abbrev cX9_fault : ByteArray := prog_1_method_17_code
def yX9_fault : MethodName := ⟨RX9, "fault", "()I"⟩
abbrev cX9_rule : ByteArray := prog_1_method_18_code
def yX9_rule : MethodName := ⟨RX9, "rule", "()Z"⟩
abbrev cX9_claim : ByteArray := prog_1_method_19_code
def yX9_claim : MethodName := ⟨RX9, "claim", "(IIIIII)I"⟩
abbrev cX9_name : ByteArray := prog_1_method_20_code
def yX9_name : MethodName := ⟨RX9, "name", "(II)Z"⟩
abbrev cX9_allow : ByteArray := prog_1_method_21_code
def yX9_allow : MethodName := ⟨RX9, "allow", "(IIZ)Z"⟩
abbrev cX9_ask : ByteArray := prog_1_method_22_code
def yX9_ask : MethodName := ⟨RX9, "ask", "(II)I"⟩
abbrev cX9_guess : ByteArray := prog_1_method_23_code
def yX9_guess : MethodName := ⟨RX9, "guess", "(III)I"⟩
abbrev cX9_told : ByteArray := prog_1_method_24_code
def yX9_told : MethodName := ⟨RX9, "told", "(II)I"⟩
abbrev cX9_count : ByteArray := prog_1_method_25_code
def yX9_count : MethodName := ⟨RX9, "count", "(I)I"⟩
abbrev cX9_within : ByteArray := prog_1_method_26_code
def yX9_within : MethodName := ⟨RX9, "within", "(III)Z"⟩
abbrev cX9_isPlace : ByteArray := prog_1_method_27_code
def yX9_isPlace : MethodName := ⟨RX9, "isPlace", "(I)Z"⟩
abbrev cX9_isWho : ByteArray := prog_1_method_28_code
def yX9_isWho : MethodName := ⟨RX9, "isWho", "(I)Z"⟩
abbrev cX9_areWeeks : ByteArray := prog_1_method_29_code
def yX9_areWeeks : MethodName := ⟨RX9, "areWeeks", "(II)Z"⟩
abbrev cX9_isPast : ByteArray := prog_1_method_30_code
def yX9_isPast : MethodName := ⟨RX9, "isPast", "(I)Z"⟩
abbrev cX9_findBallot : ByteArray := prog_1_method_31_code
def yX9_findBallot : MethodName := ⟨RX9, "findBallot", "(I)LScrapHouse$Ballot;"⟩
abbrev cX9_findChild : ByteArray := prog_1_method_32_code
def yX9_findChild : MethodName := ⟨RX9, "findChild", "(I)LScrapHouse$Child;"⟩
abbrev cX9_findNurse : ByteArray := prog_1_method_33_code
def yX9_findNurse : MethodName := ⟨RX9, "findNurse", "(I)LScrapHouse$Nurse;"⟩
abbrev cX9_isGone : ByteArray := prog_1_method_34_code
def yX9_isGone : MethodName := ⟨RX9, "isGone", "(LScrapHouse$Child;I)Z"⟩
abbrev cX9_childrenAt : ByteArray := prog_1_method_35_code
def yX9_childrenAt : MethodName := ⟨RX9, "childrenAt", "(III)I"⟩
abbrev cX9_isOver : ByteArray := prog_1_method_36_code
def yX9_isOver : MethodName := ⟨RX9, "isOver", "(III)Z"⟩
abbrev cX9_daysWith : ByteArray := prog_1_method_37_code
def yX9_daysWith : MethodName := ⟨RX9, "daysWith", "(IIII)I"⟩
abbrev cX9_seenDays : ByteArray := prog_1_method_38_code
def yX9_seenDays : MethodName := ⟨RX9, "seenDays", "(ILScrapHouse$Look;III)I"⟩
abbrev cX9_childrenFitting : ByteArray := prog_1_method_39_code
def yX9_childrenFitting : MethodName := ⟨RX9, "childrenFitting", "(LScrapHouse$Claim;)I"⟩
abbrev cX9_setValues : ByteArray := prog_1_method_40_code
def yX9_setValues : MethodName := ⟨RX9, "setValues", "(LScrapHouse$Child;LScrapHouse$Claim;I)V"⟩
def RX10 : String := "ScrapHouseModel"
def TX10 : u_T := fun k => match k with
  | 0 => ("ScrapHouseModel", "now", "I", false)
  | 1 => ("ScrapHouseModel", "ballots", "I", false)
  | 2 => ("ScrapHouseModel", "children", "I", false)
  | 3 => ("ScrapHouseModel", "moves", "I", false)
  | 4 => ("ScrapHouseModel", "looks", "I", false)
  | 5 => ("ScrapHouseModel", "rules", "I", false)
  | 6 => ("ScrapHouseModel", "women", "[I", true)
  | 7 => ("ScrapHouseModel", "ball", "[I", true)
  | 8 => ("ScrapHouseModel", "line", "[I", true)
  | 9 => ("ScrapHouseModel", "born", "[I", true)
  | 10 => ("ScrapHouseModel", "sex", "[I", true)
  | 11 => ("ScrapHouseModel", "mark", "[I", true)
  | 12 => ("ScrapHouseModel", "edge", "[I", true)
  | 13 => ("ScrapHouseModel", "threads", "[I", true)
  | 14 => ("ScrapHouseModel", "ofBallot", "[I", true)
  | 15 => ("ScrapHouseModel", "ofWoman", "[I", true)
  | 16 => ("ScrapHouseModel", "number", "[I", true)
  | 17 => ("ScrapHouseModel", "may", "[Z", true)
  | 18 => ("ScrapHouseModel", "moved", "[I", true)
  | 19 => ("ScrapHouseModel", "movePlace", "[I", true)
  | 20 => ("ScrapHouseModel", "moveFrom", "[I", true)
  | 21 => ("ScrapHouseModel", "moveTold", "[I", true)
  | 22 => ("ScrapHouseModel", "beds", "[I", true)
  | 23 => ("ScrapHouseModel", "looked", "[Z", true)
  | 24 => ("ScrapHouseModel", "tape", "[I", true)
  | 25 => ("ScrapHouseModel", "codes", "[I", true)
  | 26 => ("ScrapHouseModel", "saying", "[I", true)
  | 27 => ("ScrapHouseModel", "size", "I", false)
  | 28 => ("ScrapHouseModel", "at", "I", false)
  | 29 => ("ScrapHouseModel", "wrong", "I", false)
  | 30 => ("ScrapHouseModel", "deep", "I", false)
  | 31 => ("ScrapHouseModel", "said", "I", false)
  | _ => ("ScrapHouseModel", "pile", "[Z", true)
def tyX10 : Nat → FieldType := fun k => match k with
  | 0 => .int
  | 1 => .int
  | 2 => .int
  | 3 => .int
  | 4 => .int
  | 5 => .int
  | 6 => .array .int
  | 7 => .array .int
  | 8 => .array .int
  | 9 => .array .int
  | 10 => .array .int
  | 11 => .array .int
  | 12 => .array .int
  | 13 => .array .int
  | 14 => .array .int
  | 15 => .array .int
  | 16 => .array .int
  | 17 => .array .boolean
  | 18 => .array .int
  | 19 => .array .int
  | 20 => .array .int
  | 21 => .array .int
  | 22 => .array .int
  | 23 => .array .boolean
  | 24 => .array .int
  | 25 => .array .int
  | 26 => .array .int
  | 27 => .int
  | 28 => .int
  | 29 => .int
  | 30 => .int
  | 31 => .int
  | _ => .array .boolean
theorem nmX10 : ∀ a, a < 33 → ∀ b, b < 33 → a ≠ b → (TX10 a).2.1 ≠ (TX10 b).2.1 := by decide +kernel
theorem tyX10_ok : ∀ k, k < 33 → parseFieldDescriptor (TX10 k).2.2.1 = some (tyX10 k) := by decide +kernel
abbrev cX10_in : ByteArray := prog_12_method_1_code
def yX10_in : MethodName := ⟨RX10, "in", "(III)Z"⟩
abbrev cX10_init : ByteArray := prog_12_method_2_code
def yX10_init : MethodName := ⟨RX10, "<init>", "()V"⟩
abbrev cX10_days : ByteArray := prog_12_method_3_code
def yX10_days : MethodName := ⟨RX10, "days", "(I)I"⟩
abbrev cX10_ballot : ByteArray := prog_12_method_4_code
def yX10_ballot : MethodName := ⟨RX10, "ballot", "(IIIJ)I"⟩
abbrev cX10_lineOf : ByteArray := prog_12_method_5_code
def yX10_lineOf : MethodName := ⟨RX10, "lineOf", "(I)[I"⟩
abbrev cX10_isWoman : ByteArray := prog_12_method_6_code
def yX10_isWoman : MethodName := ⟨RX10, "isWoman", "(II)Z"⟩
abbrev cX10_ball : ByteArray := prog_12_method_7_code
def yX10_ball : MethodName := ⟨RX10, "ball", "(II)I"⟩
abbrev cX10_away : ByteArray := prog_12_method_8_code
def yX10_away : MethodName := ⟨RX10, "away", "(II)I"⟩
abbrev cX10_leave : ByteArray := prog_12_method_9_code
def yX10_leave : MethodName := ⟨RX10, "leave", "(IIIIII)I"⟩
abbrev cX10_isChild : ByteArray := prog_12_method_10_code
def yX10_isChild : MethodName := ⟨RX10, "isChild", "(I)Z"⟩
abbrev cX10_where : ByteArray := prog_12_method_11_code
def yX10_where : MethodName := ⟨RX10, "where", "(III)I"⟩
abbrev cX10_isThere : ByteArray := prog_12_method_12_code
def yX10_isThere : MethodName := ⟨RX10, "isThere", "(III)Z"⟩
abbrev cX10_manyAt : ByteArray := prog_12_method_13_code
def yX10_manyAt : MethodName := ⟨RX10, "manyAt", "(III)I"⟩
abbrev cX10_hasRoom : ByteArray := prog_12_method_14_code
def yX10_hasRoom : MethodName := ⟨RX10, "hasRoom", "(III)Z"⟩
abbrev cX10_changesOn : ByteArray := prog_12_method_15_code
def yX10_changesOn : MethodName := ⟨RX10, "changesOn", "(I)Z"⟩
abbrev cX10_beds : ByteArray := prog_12_method_16_code
def yX10_beds : MethodName := ⟨RX10, "beds", "(II)Z"⟩
abbrev cX10_move : ByteArray := prog_12_method_17_code
def yX10_move : MethodName := ⟨RX10, "move", "(III)Z"⟩
abbrev cX10_areDays : ByteArray := prog_12_method_18_code
def yX10_areDays : MethodName := ⟨RX10, "areDays", "(II)Z"⟩
abbrev cX10_place : ByteArray := prog_12_method_19_code
def yX10_place : MethodName := ⟨RX10, "place", "(III)I"⟩
abbrev cX10_many : ByteArray := prog_12_method_20_code
def yX10_many : MethodName := ⟨RX10, "many", "(III)I"⟩
abbrev cX10_look : ByteArray := prog_12_method_21_code
def yX10_look : MethodName := ⟨RX10, "look", "(I)Z"⟩
abbrev cX10_isSeen : ByteArray := prog_12_method_22_code
def yX10_isSeen : MethodName := ⟨RX10, "isSeen", "(III)Z"⟩
abbrev cX10_daysWith : ByteArray := prog_12_method_23_code
def yX10_daysWith : MethodName := ⟨RX10, "daysWith", "(IIIIZ)I"⟩
abbrev cX10_areWeeks : ByteArray := prog_12_method_24_code
def yX10_areWeeks : MethodName := ⟨RX10, "areWeeks", "(IIII)Z"⟩
abbrev cX10_pay : ByteArray := prog_12_method_25_code
def yX10_pay : MethodName := ⟨RX10, "pay", "(IIII)I"⟩
abbrev cX10_gap : ByteArray := prog_12_method_26_code
def yX10_gap : MethodName := ⟨RX10, "gap", "(IIII)I"⟩
abbrev cX10_third : ByteArray := prog_12_method_27_code
def yX10_third : MethodName := ⟨RX10, "third", "(II)I"⟩
abbrev cX10_offBy : ByteArray := prog_12_method_28_code
def yX10_offBy : MethodName := ⟨RX10, "offBy", "(IIIZ)I"⟩
abbrev cX10_offOf : ByteArray := prog_12_method_29_code
def yX10_offOf : MethodName := ⟨RX10, "offOf", "(III)I"⟩
abbrev cX10_off : ByteArray := prog_12_method_30_code
def yX10_off : MethodName := ⟨RX10, "off", "(III)I"⟩
abbrev cX10_feed : ByteArray := prog_12_method_31_code
def yX10_feed : MethodName := ⟨RX10, "feed", "(I)I"⟩
abbrev cX10_end : ByteArray := prog_12_method_32_code
def yX10_end : MethodName := ⟨RX10, "end", "(I)Z"⟩
abbrev cX10_peek : ByteArray := prog_12_method_33_code
def yX10_peek : MethodName := ⟨RX10, "peek", "()I"⟩
abbrev cX10_fail : ByteArray := prog_12_method_34_code
def yX10_fail : MethodName := ⟨RX10, "fail", "()V"⟩
abbrev cX10_say : ByteArray := prog_12_method_35_code
def yX10_say : MethodName := ⟨RX10, "say", "(I)V"⟩
abbrev cX10_unit : ByteArray := prog_12_method_36_code
def yX10_unit : MethodName := ⟨RX10, "unit", "()V"⟩
abbrev cX10_part : ByteArray := prog_12_method_37_code
def yX10_part : MethodName := ⟨RX10, "part", "()V"⟩
abbrev cX10_tests : ByteArray := prog_12_method_38_code
def yX10_tests : MethodName := ⟨RX10, "tests", "()V"⟩
abbrev cX10_fault : ByteArray := prog_12_method_39_code
def yX10_fault : MethodName := ⟨RX10, "fault", "()I"⟩
abbrev cX10_rule : ByteArray := prog_12_method_40_code
def yX10_rule : MethodName := ⟨RX10, "rule", "()Z"⟩
abbrev cX10_holds : ByteArray := prog_12_method_41_code
def yX10_holds : MethodName := ⟨RX10, "holds", "(IIIII)Z"⟩
abbrev cX10_isOpen : ByteArray := prog_12_method_42_code
def yX10_isOpen : MethodName := ⟨RX10, "isOpen", "(I)Z"⟩
abbrev cX10_agreeing : ByteArray := prog_12_method_43_code
def yX10_agreeing : MethodName := ⟨RX10, "agreeing", "(IIIII)I"⟩
abbrev cX10_claim : ByteArray := prog_12_method_44_code
def yX10_claim : MethodName := ⟨RX10, "claim", "(IIIIII)I"⟩
abbrev cX10_name : ByteArray := prog_12_method_45_code
def yX10_name : MethodName := ⟨RX10, "name", "(II)Z"⟩
abbrev cX10_areBoth : ByteArray := prog_12_method_46_code
def yX10_areBoth : MethodName := ⟨RX10, "areBoth", "(II)Z"⟩
abbrev cX10_allow : ByteArray := prog_12_method_47_code
def yX10_allow : MethodName := ⟨RX10, "allow", "(IIZ)Z"⟩
abbrev cX10_ask : ByteArray := prog_12_method_48_code
def yX10_ask : MethodName := ⟨RX10, "ask", "(II)I"⟩
abbrev cX10_guess : ByteArray := prog_12_method_49_code
def yX10_guess : MethodName := ⟨RX10, "guess", "(III)I"⟩
abbrev cX10_told : ByteArray := prog_12_method_50_code
def yX10_told : MethodName := ⟨RX10, "told", "(II)I"⟩
abbrev cX10_count : ByteArray := prog_12_method_51_code
def yX10_count : MethodName := ⟨RX10, "count", "(I)I"⟩
def RJ9 : String := "java/lang/Math"
def TJ9 : u_T := fun k => match k with
  | _ => ("", "", "", false)
def tyJ9 : Nat → FieldType := fun k => match k with
  | _ => .int
theorem nmJ9 : ∀ a, a < 0 → ∀ b, b < 0 → a ≠ b → (TJ9 a).2.1 ≠ (TJ9 b).2.1 := by decide +kernel
theorem tyJ9_ok : ∀ k, k < 0 → parseFieldDescriptor (TJ9 k).2.2.1 = some (tyJ9 k) := by decide +kernel
abbrev cJ9_max_7cf53 : ByteArray := prog_13_method_65_code
def yJ9_max_7cf53 : MethodName := ⟨RJ9, "max", "(II)I"⟩
abbrev cJ9_min_7cf53 : ByteArray := prog_13_method_69_code
def yJ9_min_7cf53 : MethodName := ⟨RJ9, "min", "(II)I"⟩
def RJ10 : String := "java/lang/System"
def TJ10 : u_T := fun k => match k with
  | _ => ("", "", "", false)
def tyJ10 : Nat → FieldType := fun k => match k with
  | _ => .int
theorem nmJ10 : ∀ a, a < 0 → ∀ b, b < 0 → a ≠ b → (TJ10 a).2.1 ≠ (TJ10 b).2.1 := by decide +kernel
theorem tyJ10_ok : ∀ k, k < 0 → parseFieldDescriptor (TJ10 k).2.2.1 = some (tyJ10 k) := by decide +kernel
def RL : String := "ScrapHouseLaw"
abbrev cL_law : ByteArray := code
def yL_law : MethodName := ⟨RL, "law", "([I)Z"⟩
abbrev vwCl : List vw_C := [(RX0, TX0, 1), (RX1, TX1, 10), (RX2, TX2, 5), (RX3, TX3, 2), (RX4, TX4, 2), (RX5, TX5, 4), (RX6, TX6, 2), (RX7, TX7, 4), (RX8, TX8, 2), (RX9, TX9, 12), (RX10, TX10, 33)]
def gw : List Cond := lw_tbl.filter goodWord
theorem gw_in {w : Cond} (h : w ∈ tables_1) (hg : goodWord w = true) : w ∈ gw := List.mem_filter.mpr ⟨List.mem_append_right _ h, hg⟩
theorem gw_sel {q : MethodName × Nat} (h : q ∈ lw_privs) : Cond.selects q.1.cls q.1 q.1 ∈ gw := List.mem_filter.mpr ⟨List.mem_append_left _ (List.mem_map.mpr ⟨q, h, rfl⟩), rfl⟩
theorem gw_in1 {w : Cond} (h : w ∈ tables_1_1) (hg : goodWord w = true) : w ∈ gw := gw_in (List.mem_append_left _ h) hg
theorem gw_in2 {w : Cond} (h : w ∈ tables_1_2) (hg : goodWord w = true) : w ∈ gw := gw_in (List.mem_append_right _ (List.mem_append_left _ h)) hg
theorem gw_in3 {w : Cond} (h : w ∈ tables_1_3) (hg : goodWord w = true) : w ∈ gw := gw_in (List.mem_append_right _ (List.mem_append_right _ (List.mem_append_left _ h))) hg
theorem gw_in4 {w : Cond} (h : w ∈ tables_1_4) (hg : goodWord w = true) : w ∈ gw := gw_in (List.mem_append_right _ (List.mem_append_right _ (List.mem_append_right _ h))) hg
