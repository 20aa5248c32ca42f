section
-- ===== PART A: goes FIRST, ahead of the names: the tables' words, and 'selects' of the private methods out of them =====
/-- a private method of a class that the tables say can be made, by its rows of tables_1 -/
def lw_okq (q : MethodName × Nat) : Prop := (q.1.cls ≠ "java/lang/invoke/MethodHandle" ∧ q.1.cls ≠ "java/lang/invoke/VarHandle") ∧ Cond.instantiable q.1.cls q.2 ∈ tables_1 ∧ Cond.privateMethod q.1 ∈ tables_1 ∧ Cond.instanceMethod q.1 ∈ tables_1
theorem lw_p0 : lw_okq (⟨"ScrapHouse", "findBallot", "(I)LScrapHouse$Ballot;"⟩, 12) := ⟨⟨by decide +kernel, by decide +kernel⟩, List.mem_of_getElem? (i := 15) (by decide +kernel), List.mem_of_getElem? (i := 150) (by decide +kernel), List.mem_of_getElem? (i := 151) (by decide +kernel)⟩
theorem lw_p1 : lw_okq (⟨"ScrapHouse", "findNurse", "(I)LScrapHouse$Nurse;"⟩, 12) := ⟨⟨by decide +kernel, by decide +kernel⟩, List.mem_of_getElem? (i := 15) (by decide +kernel), List.mem_of_getElem? (i := 273) (by decide +kernel), List.mem_of_getElem? (i := 274) (by decide +kernel)⟩
theorem lw_p2 : lw_okq (⟨"ScrapHouse", "isOver", "(III)Z"⟩, 12) := ⟨⟨by decide +kernel, by decide +kernel⟩, List.mem_of_getElem? (i := 15) (by decide +kernel), List.mem_of_getElem? (i := 277) (by decide +kernel), List.mem_of_getElem? (i := 278) (by decide +kernel)⟩
theorem lw_p3 : lw_okq (⟨"ScrapHouse", "childrenAt", "(III)I"⟩, 12) := ⟨⟨by decide +kernel, by decide +kernel⟩, List.mem_of_getElem? (i := 15) (by decide +kernel), List.mem_of_getElem? (i := 281) (by decide +kernel), List.mem_of_getElem? (i := 282) (by decide +kernel)⟩
theorem lw_p4 : lw_okq (⟨"ScrapHouse", "findChild", "(I)LScrapHouse$Child;"⟩, 12) := ⟨⟨by decide +kernel, by decide +kernel⟩, List.mem_of_getElem? (i := 15) (by decide +kernel), List.mem_of_getElem? (i := 293) (by decide +kernel), List.mem_of_getElem? (i := 294) (by decide +kernel)⟩
theorem lw_p5 : lw_okq (⟨"ScrapHouse", "isGone", "(LScrapHouse$Child;I)Z"⟩, 12) := ⟨⟨by decide +kernel, by decide +kernel⟩, List.mem_of_getElem? (i := 15) (by decide +kernel), List.mem_of_getElem? (i := 300) (by decide +kernel), List.mem_of_getElem? (i := 301) (by decide +kernel)⟩
theorem lw_p6 : lw_okq (⟨"ScrapHouse", "isPast", "(I)Z"⟩, 12) := ⟨⟨by decide +kernel, by decide +kernel⟩, List.mem_of_getElem? (i := 15) (by decide +kernel), List.mem_of_getElem? (i := 314) (by decide +kernel), List.mem_of_getElem? (i := 315) (by decide +kernel)⟩
theorem lw_p7 : lw_okq (⟨"ScrapHouse", "seenDays", "(ILScrapHouse$Look;III)I"⟩, 12) := ⟨⟨by decide +kernel, by decide +kernel⟩, List.mem_of_getElem? (i := 15) (by decide +kernel), List.mem_of_getElem? (i := 348) (by decide +kernel), List.mem_of_getElem? (i := 349) (by decide +kernel)⟩
theorem lw_p8 : lw_okq (⟨"ScrapHouse", "daysWith", "(IIII)I"⟩, 12) := ⟨⟨by decide +kernel, by decide +kernel⟩, List.mem_of_getElem? (i := 15) (by decide +kernel), List.mem_of_getElem? (i := 352) (by decide +kernel), List.mem_of_getElem? (i := 353) (by decide +kernel)⟩
theorem lw_p9 : lw_okq (⟨"ScrapHouse$Half", "unlike", "(II)I"⟩, 2) := ⟨⟨by decide +kernel, by decide +kernel⟩, List.mem_of_getElem? (i := 182) (by decide +kernel), List.mem_of_getElem? (i := 378) (by decide +kernel), List.mem_of_getElem? (i := 379) (by decide +kernel)⟩
theorem lw_p10 : lw_okq (⟨"ScrapHouse$Reader", "tests", "(I)Z"⟩, 4) := ⟨⟨by decide +kernel, by decide +kernel⟩, List.mem_of_getElem? (i := 45) (by decide +kernel), List.mem_of_getElem? (i := 413) (by decide +kernel), List.mem_of_getElem? (i := 414) (by decide +kernel)⟩
theorem lw_p11 : lw_okq (⟨"ScrapHouse$Reader", "part", "(I)Z"⟩, 4) := ⟨⟨by decide +kernel, by decide +kernel⟩, List.mem_of_getElem? (i := 45) (by decide +kernel), List.mem_of_getElem? (i := 417) (by decide +kernel), List.mem_of_getElem? (i := 418) (by decide +kernel)⟩
theorem lw_p12 : lw_okq (⟨"ScrapHouse$Reader", "unit", "(I)Z"⟩, 4) := ⟨⟨by decide +kernel, by decide +kernel⟩, List.mem_of_getElem? (i := 45) (by decide +kernel), List.mem_of_getElem? (i := 421) (by decide +kernel), List.mem_of_getElem? (i := 422) (by decide +kernel)⟩
theorem lw_p13 : lw_okq (⟨"ScrapHouse$Reader", "next", "()I"⟩, 4) := ⟨⟨by decide +kernel, by decide +kernel⟩, List.mem_of_getElem? (i := 45) (by decide +kernel), List.mem_of_getElem? (i := 425) (by decide +kernel), List.mem_of_getElem? (i := 426) (by decide +kernel)⟩
theorem lw_p14 : lw_okq (⟨"ScrapHouse$Reader", "test", "()Z"⟩, 4) := ⟨⟨by decide +kernel, by decide +kernel⟩, List.mem_of_getElem? (i := 45) (by decide +kernel), List.mem_of_getElem? (i := 434) (by decide +kernel), List.mem_of_getElem? (i := 435) (by decide +kernel)⟩
theorem lw_p15 : lw_okq (⟨"ScrapHouse$Reader", "letterValue", "()I"⟩, 4) := ⟨⟨by decide +kernel, by decide +kernel⟩, List.mem_of_getElem? (i := 45) (by decide +kernel), List.mem_of_getElem? (i := 438) (by decide +kernel), List.mem_of_getElem? (i := 439) (by decide +kernel)⟩
def lw_privs_1 : List (MethodName × Nat) := [(⟨"ScrapHouse", "findBallot", "(I)LScrapHouse$Ballot;"⟩, 12), (⟨"ScrapHouse", "findNurse", "(I)LScrapHouse$Nurse;"⟩, 12), (⟨"ScrapHouse", "isOver", "(III)Z"⟩, 12), (⟨"ScrapHouse", "childrenAt", "(III)I"⟩, 12), (⟨"ScrapHouse", "findChild", "(I)LScrapHouse$Child;"⟩, 12), (⟨"ScrapHouse", "isGone", "(LScrapHouse$Child;I)Z"⟩, 12), (⟨"ScrapHouse", "isPast", "(I)Z"⟩, 12), (⟨"ScrapHouse", "seenDays", "(ILScrapHouse$Look;III)I"⟩, 12), (⟨"ScrapHouse", "daysWith", "(IIII)I"⟩, 12), (⟨"ScrapHouse$Half", "unlike", "(II)I"⟩, 2), (⟨"ScrapHouse$Reader", "tests", "(I)Z"⟩, 4), (⟨"ScrapHouse$Reader", "part", "(I)Z"⟩, 4), (⟨"ScrapHouse$Reader", "unit", "(I)Z"⟩, 4), (⟨"ScrapHouse$Reader", "next", "()I"⟩, 4), (⟨"ScrapHouse$Reader", "test", "()Z"⟩, 4), (⟨"ScrapHouse$Reader", "letterValue", "()I"⟩, 4)]
theorem lw_r1 : ∀ q ∈ lw_privs_1, lw_okq q := List.forall_mem_cons.mpr ⟨lw_p0, List.forall_mem_cons.mpr ⟨lw_p1, List.forall_mem_cons.mpr ⟨lw_p2, List.forall_mem_cons.mpr ⟨lw_p3, List.forall_mem_cons.mpr ⟨lw_p4, List.forall_mem_cons.mpr ⟨lw_p5, List.forall_mem_cons.mpr ⟨lw_p6, List.forall_mem_cons.mpr ⟨lw_p7, List.forall_mem_cons.mpr ⟨lw_p8, List.forall_mem_cons.mpr ⟨lw_p9, List.forall_mem_cons.mpr ⟨lw_p10, List.forall_mem_cons.mpr ⟨lw_p11, List.forall_mem_cons.mpr ⟨lw_p12, List.forall_mem_cons.mpr ⟨lw_p13, List.forall_mem_cons.mpr ⟨lw_p14, List.forall_mem_cons.mpr ⟨lw_p15, fun _ h => absurd h List.not_mem_nil⟩⟩⟩⟩⟩⟩⟩⟩⟩⟩⟩⟩⟩⟩⟩⟩
theorem lw_p16 : lw_okq (⟨"ScrapHouse$Reader", "fail", "()V"⟩, 4) := ⟨⟨by decide +kernel, by decide +kernel⟩, List.mem_of_getElem? (i := 45) (by decide +kernel), List.mem_of_getElem? (i := 442) (by decide +kernel), List.mem_of_getElem? (i := 443) (by decide +kernel)⟩
theorem lw_p17 : lw_okq (⟨"ScrapHouse$Reader", "take", "(C)Z"⟩, 4) := ⟨⟨by decide +kernel, by decide +kernel⟩, List.mem_of_getElem? (i := 45) (by decide +kernel), List.mem_of_getElem? (i := 446) (by decide +kernel), List.mem_of_getElem? (i := 447) (by decide +kernel)⟩
theorem lw_p18 : lw_okq (⟨"ScrapHouse$Reader", "number", "()I"⟩, 4) := ⟨⟨by decide +kernel, by decide +kernel⟩, List.mem_of_getElem? (i := 45) (by decide +kernel), List.mem_of_getElem? (i := 450) (by decide +kernel), List.mem_of_getElem? (i := 451) (by decide +kernel)⟩
theorem lw_p19 : lw_okq (⟨"ScrapHouse", "answerTo", "(LScrapHouse$Claim;)I"⟩, 12) := ⟨⟨by decide +kernel, by decide +kernel⟩, List.mem_of_getElem? (i := 15) (by decide +kernel), List.mem_of_getElem? (i := 489) (by decide +kernel), List.mem_of_getElem? (i := 490) (by decide +kernel)⟩
theorem lw_p20 : lw_okq (⟨"ScrapHouse", "holdsOf", "(LScrapHouse$Child;LScrapHouse$Claim;I)Z"⟩, 12) := ⟨⟨by decide +kernel, by decide +kernel⟩, List.mem_of_getElem? (i := 15) (by decide +kernel), List.mem_of_getElem? (i := 498) (by decide +kernel), List.mem_of_getElem? (i := 499) (by decide +kernel)⟩
theorem lw_p21 : lw_okq (⟨"ScrapHouseModel", "lineOf", "(I)[I"⟩, 33) := ⟨⟨by decide +kernel, by decide +kernel⟩, List.mem_of_getElem? (i := 539) (by decide +kernel), List.mem_of_getElem? (i := 657) (by decide +kernel), List.mem_of_getElem? (i := 658) (by decide +kernel)⟩
theorem lw_p22 : lw_okq (⟨"ScrapHouseModel", "isWoman", "(II)Z"⟩, 33) := ⟨⟨by decide +kernel, by decide +kernel⟩, List.mem_of_getElem? (i := 539) (by decide +kernel), List.mem_of_getElem? (i := 667) (by decide +kernel), List.mem_of_getElem? (i := 668) (by decide +kernel)⟩
theorem lw_p23 : lw_okq (⟨"ScrapHouseModel", "hasRoom", "(III)Z"⟩, 33) := ⟨⟨by decide +kernel, by decide +kernel⟩, List.mem_of_getElem? (i := 539) (by decide +kernel), List.mem_of_getElem? (i := 684) (by decide +kernel), List.mem_of_getElem? (i := 685) (by decide +kernel)⟩
theorem lw_p24 : lw_okq (⟨"ScrapHouseModel", "changesOn", "(I)Z"⟩, 33) := ⟨⟨by decide +kernel, by decide +kernel⟩, List.mem_of_getElem? (i := 539) (by decide +kernel), List.mem_of_getElem? (i := 688) (by decide +kernel), List.mem_of_getElem? (i := 689) (by decide +kernel)⟩
theorem lw_p25 : lw_okq (⟨"ScrapHouseModel", "manyAt", "(III)I"⟩, 33) := ⟨⟨by decide +kernel, by decide +kernel⟩, List.mem_of_getElem? (i := 539) (by decide +kernel), List.mem_of_getElem? (i := 692) (by decide +kernel), List.mem_of_getElem? (i := 693) (by decide +kernel)⟩
theorem lw_p26 : lw_okq (⟨"ScrapHouseModel", "isThere", "(III)Z"⟩, 33) := ⟨⟨by decide +kernel, by decide +kernel⟩, List.mem_of_getElem? (i := 539) (by decide +kernel), List.mem_of_getElem? (i := 696) (by decide +kernel), List.mem_of_getElem? (i := 697) (by decide +kernel)⟩
theorem lw_p27 : lw_okq (⟨"ScrapHouseModel", "where", "(III)I"⟩, 33) := ⟨⟨by decide +kernel, by decide +kernel⟩, List.mem_of_getElem? (i := 539) (by decide +kernel), List.mem_of_getElem? (i := 700) (by decide +kernel), List.mem_of_getElem? (i := 701) (by decide +kernel)⟩
theorem lw_p28 : lw_okq (⟨"ScrapHouseModel", "isChild", "(I)Z"⟩, 33) := ⟨⟨by decide +kernel, by decide +kernel⟩, List.mem_of_getElem? (i := 539) (by decide +kernel), List.mem_of_getElem? (i := 708) (by decide +kernel), List.mem_of_getElem? (i := 709) (by decide +kernel)⟩
theorem lw_p29 : lw_okq (⟨"ScrapHouseModel", "areDays", "(II)Z"⟩, 33) := ⟨⟨by decide +kernel, by decide +kernel⟩, List.mem_of_getElem? (i := 539) (by decide +kernel), List.mem_of_getElem? (i := 716) (by decide +kernel), List.mem_of_getElem? (i := 717) (by decide +kernel)⟩
theorem lw_p30 : lw_okq (⟨"ScrapHouseModel", "areWeeks", "(IIII)Z"⟩, 33) := ⟨⟨by decide +kernel, by decide +kernel⟩, List.mem_of_getElem? (i := 539) (by decide +kernel), List.mem_of_getElem? (i := 732) (by decide +kernel), List.mem_of_getElem? (i := 733) (by decide +kernel)⟩
theorem lw_p31 : lw_okq (⟨"ScrapHouseModel", "daysWith", "(IIIIZ)I"⟩, 33) := ⟨⟨by decide +kernel, by decide +kernel⟩, List.mem_of_getElem? (i := 539) (by decide +kernel), List.mem_of_getElem? (i := 736) (by decide +kernel), List.mem_of_getElem? (i := 737) (by decide +kernel)⟩
def lw_privs_2 : List (MethodName × Nat) := [(⟨"ScrapHouse$Reader", "fail", "()V"⟩, 4), (⟨"ScrapHouse$Reader", "take", "(C)Z"⟩, 4), (⟨"ScrapHouse$Reader", "number", "()I"⟩, 4), (⟨"ScrapHouse", "answerTo", "(LScrapHouse$Claim;)I"⟩, 12), (⟨"ScrapHouse", "holdsOf", "(LScrapHouse$Child;LScrapHouse$Claim;I)Z"⟩, 12), (⟨"ScrapHouseModel", "lineOf", "(I)[I"⟩, 33), (⟨"ScrapHouseModel", "isWoman", "(II)Z"⟩, 33), (⟨"ScrapHouseModel", "hasRoom", "(III)Z"⟩, 33), (⟨"ScrapHouseModel", "changesOn", "(I)Z"⟩, 33), (⟨"ScrapHouseModel", "manyAt", "(III)I"⟩, 33), (⟨"ScrapHouseModel", "isThere", "(III)Z"⟩, 33), (⟨"ScrapHouseModel", "where", "(III)I"⟩, 33), (⟨"ScrapHouseModel", "isChild", "(I)Z"⟩, 33), (⟨"ScrapHouseModel", "areDays", "(II)Z"⟩, 33), (⟨"ScrapHouseModel", "areWeeks", "(IIII)Z"⟩, 33), (⟨"ScrapHouseModel", "daysWith", "(IIIIZ)I"⟩, 33)]
theorem lw_r2 : ∀ q ∈ lw_privs_2, lw_okq q := List.forall_mem_cons.mpr ⟨lw_p16, List.forall_mem_cons.mpr ⟨lw_p17, List.forall_mem_cons.mpr ⟨lw_p18, List.forall_mem_cons.mpr ⟨lw_p19, List.forall_mem_cons.mpr ⟨lw_p20, List.forall_mem_cons.mpr ⟨lw_p21, List.forall_mem_cons.mpr ⟨lw_p22, List.forall_mem_cons.mpr ⟨lw_p23, List.forall_mem_cons.mpr ⟨lw_p24, List.forall_mem_cons.mpr ⟨lw_p25, List.forall_mem_cons.mpr ⟨lw_p26, List.forall_mem_cons.mpr ⟨lw_p27, List.forall_mem_cons.mpr ⟨lw_p28, List.forall_mem_cons.mpr ⟨lw_p29, List.forall_mem_cons.mpr ⟨lw_p30, List.forall_mem_cons.mpr ⟨lw_p31, fun _ h => absurd h List.not_mem_nil⟩⟩⟩⟩⟩⟩⟩⟩⟩⟩⟩⟩⟩⟩⟩⟩
theorem lw_p32 : lw_okq (⟨"ScrapHouseModel", "isSeen", "(III)Z"⟩, 33) := ⟨⟨by decide +kernel, by decide +kernel⟩, List.mem_of_getElem? (i := 539) (by decide +kernel), List.mem_of_getElem? (i := 740) (by decide +kernel), List.mem_of_getElem? (i := 741) (by decide +kernel)⟩
theorem lw_p33 : lw_okq (⟨"ScrapHouseModel", "offOf", "(III)I"⟩, 33) := ⟨⟨by decide +kernel, by decide +kernel⟩, List.mem_of_getElem? (i := 539) (by decide +kernel), List.mem_of_getElem? (i := 753) (by decide +kernel), List.mem_of_getElem? (i := 754) (by decide +kernel)⟩
theorem lw_p34 : lw_okq (⟨"ScrapHouseModel", "offBy", "(IIIZ)I"⟩, 33) := ⟨⟨by decide +kernel, by decide +kernel⟩, List.mem_of_getElem? (i := 539) (by decide +kernel), List.mem_of_getElem? (i := 757) (by decide +kernel), List.mem_of_getElem? (i := 758) (by decide +kernel)⟩
theorem lw_p35 : lw_okq (⟨"ScrapHouseModel", "tests", "()V"⟩, 33) := ⟨⟨by decide +kernel, by decide +kernel⟩, List.mem_of_getElem? (i := 539) (by decide +kernel), List.mem_of_getElem? (i := 776) (by decide +kernel), List.mem_of_getElem? (i := 777) (by decide +kernel)⟩
theorem lw_p36 : lw_okq (⟨"ScrapHouseModel", "part", "()V"⟩, 33) := ⟨⟨by decide +kernel, by decide +kernel⟩, List.mem_of_getElem? (i := 539) (by decide +kernel), List.mem_of_getElem? (i := 780) (by decide +kernel), List.mem_of_getElem? (i := 781) (by decide +kernel)⟩
theorem lw_p37 : lw_okq (⟨"ScrapHouseModel", "unit", "()V"⟩, 33) := ⟨⟨by decide +kernel, by decide +kernel⟩, List.mem_of_getElem? (i := 539) (by decide +kernel), List.mem_of_getElem? (i := 784) (by decide +kernel), List.mem_of_getElem? (i := 785) (by decide +kernel)⟩
theorem lw_p38 : lw_okq (⟨"ScrapHouseModel", "peek", "()I"⟩, 33) := ⟨⟨by decide +kernel, by decide +kernel⟩, List.mem_of_getElem? (i := 539) (by decide +kernel), List.mem_of_getElem? (i := 788) (by decide +kernel), List.mem_of_getElem? (i := 789) (by decide +kernel)⟩
theorem lw_p39 : lw_okq (⟨"ScrapHouseModel", "fail", "()V"⟩, 33) := ⟨⟨by decide +kernel, by decide +kernel⟩, List.mem_of_getElem? (i := 539) (by decide +kernel), List.mem_of_getElem? (i := 792) (by decide +kernel), List.mem_of_getElem? (i := 793) (by decide +kernel)⟩
theorem lw_p40 : lw_okq (⟨"ScrapHouseModel", "say", "(I)V"⟩, 33) := ⟨⟨by decide +kernel, by decide +kernel⟩, List.mem_of_getElem? (i := 539) (by decide +kernel), List.mem_of_getElem? (i := 796) (by decide +kernel), List.mem_of_getElem? (i := 797) (by decide +kernel)⟩
theorem lw_p41 : lw_okq (⟨"ScrapHouseModel", "isOpen", "(I)Z"⟩, 33) := ⟨⟨by decide +kernel, by decide +kernel⟩, List.mem_of_getElem? (i := 539) (by decide +kernel), List.mem_of_getElem? (i := 809) (by decide +kernel), List.mem_of_getElem? (i := 810) (by decide +kernel)⟩
theorem lw_p42 : lw_okq (⟨"ScrapHouseModel", "agreeing", "(IIIII)I"⟩, 33) := ⟨⟨by decide +kernel, by decide +kernel⟩, List.mem_of_getElem? (i := 539) (by decide +kernel), List.mem_of_getElem? (i := 813) (by decide +kernel), List.mem_of_getElem? (i := 814) (by decide +kernel)⟩
theorem lw_p43 : lw_okq (⟨"ScrapHouseModel", "holds", "(IIIII)Z"⟩, 33) := ⟨⟨by decide +kernel, by decide +kernel⟩, List.mem_of_getElem? (i := 539) (by decide +kernel), List.mem_of_getElem? (i := 817) (by decide +kernel), List.mem_of_getElem? (i := 818) (by decide +kernel)⟩
theorem lw_p44 : lw_okq (⟨"ScrapHouseModel", "areBoth", "(II)Z"⟩, 33) := ⟨⟨by decide +kernel, by decide +kernel⟩, List.mem_of_getElem? (i := 539) (by decide +kernel), List.mem_of_getElem? (i := 830) (by decide +kernel), List.mem_of_getElem? (i := 831) (by decide +kernel)⟩
def lw_privs_3 : List (MethodName × Nat) := [(⟨"ScrapHouseModel", "isSeen", "(III)Z"⟩, 33), (⟨"ScrapHouseModel", "offOf", "(III)I"⟩, 33), (⟨"ScrapHouseModel", "offBy", "(IIIZ)I"⟩, 33), (⟨"ScrapHouseModel", "tests", "()V"⟩, 33), (⟨"ScrapHouseModel", "part", "()V"⟩, 33), (⟨"ScrapHouseModel", "unit", "()V"⟩, 33), (⟨"ScrapHouseModel", "peek", "()I"⟩, 33), (⟨"ScrapHouseModel", "fail", "()V"⟩, 33), (⟨"ScrapHouseModel", "say", "(I)V"⟩, 33), (⟨"ScrapHouseModel", "isOpen", "(I)Z"⟩, 33), (⟨"ScrapHouseModel", "agreeing", "(IIIII)I"⟩, 33), (⟨"ScrapHouseModel", "holds", "(IIIII)Z"⟩, 33), (⟨"ScrapHouseModel", "areBoth", "(II)Z"⟩, 33)]
theorem lw_r3 : ∀ q ∈ lw_privs_3, lw_okq q := List.forall_mem_cons.mpr ⟨lw_p32, List.forall_mem_cons.mpr ⟨lw_p33, List.forall_mem_cons.mpr ⟨lw_p34, List.forall_mem_cons.mpr ⟨lw_p35, List.forall_mem_cons.mpr ⟨lw_p36, List.forall_mem_cons.mpr ⟨lw_p37, List.forall_mem_cons.mpr ⟨lw_p38, List.forall_mem_cons.mpr ⟨lw_p39, List.forall_mem_cons.mpr ⟨lw_p40, List.forall_mem_cons.mpr ⟨lw_p41, List.forall_mem_cons.mpr ⟨lw_p42, List.forall_mem_cons.mpr ⟨lw_p43, List.forall_mem_cons.mpr ⟨lw_p44, fun _ h => absurd h List.not_mem_nil⟩⟩⟩⟩⟩⟩⟩⟩⟩⟩⟩⟩⟩
def lw_privs : List (MethodName × Nat) := lw_privs_1 ++ (lw_privs_2 ++ (lw_privs_3))
def lw_tbl : List Cond := k2_sels lw_privs ++ tables_1
theorem lw_privs_ok : ∀ q ∈ lw_privs, lw_okq q := by
  show ∀ q ∈ lw_privs_1 ++ (lw_privs_2 ++ (lw_privs_3)), lw_okq q
  exact List.forall_mem_append.mpr ⟨lw_r1, List.forall_mem_append.mpr ⟨lw_r2, lw_r3⟩⟩
def RX0 : String := "ScrapHouse$Ballot"
def TX0 : u_T := fun k => match k with
  | _ => ("ScrapHouse$Ballot", "has", "[I", true)
def tyX0 : Nat → FieldType := fun k => match k with
  | _ => .array .int
theorem nmX0 : ∀ a, a < 1 → ∀ b, b < 1 → a ≠ b → (TX0 a).2.1 ≠ (TX0 b).2.1 := by decide +kernel
theorem tyX0_ok : ∀ k, k < 1 → parseFieldDescriptor (TX0 k).2.2.1 = some (tyX0 k) := by decide +kernel
abbrev cX0_init : ByteArray := prog_2_method_1_code
def yX0_init : MethodName := ⟨RX0, "<init>", "(IIIJ)V"⟩
abbrev cX0_kindOf : ByteArray := prog_2_method_2_code
def yX0_kindOf : MethodName := ⟨RX0, "kindOf", "(III)I"⟩
abbrev cX0_ballOf : ByteArray := prog_2_method_3_code
def yX0_ballOf : MethodName := ⟨RX0, "ballOf", "(I)I"⟩
abbrev cX0_give : ByteArray := prog_2_method_4_code
def yX0_give : MethodName := ⟨RX0, "give", "(II)V"⟩
abbrev cX0_sendAway : ByteArray := prog_2_method_5_code
def yX0_sendAway : MethodName := ⟨RX0, "sendAway", "(I)I"⟩
def RX1 : String := "ScrapHouse$Child"
def TX1 : u_T := fun k => match k with
  | 0 => ("ScrapHouse$Child", "day", "I", true)
  | 1 => ("ScrapHouse$Child", "sex", "I", true)
  | 2 => ("ScrapHouse$Child", "mark", "I", true)
  | 3 => ("ScrapHouse$Child", "half", "LScrapHouse$Half;", true)
  | 4 => ("ScrapHouse$Child", "ballot", "I", true)
  | 5 => ("ScrapHouse$Child", "woman", "I", true)
  | 6 => ("ScrapHouse$Child", "coming", "LScrapHouse$Move;", true)
  | 7 => ("ScrapHouse$Child", "moveCount", "I", false)
  | 8 => ("ScrapHouse$Child", "mother", "I", false)
  | _ => ("ScrapHouse$Child", "askers", "I", false)
def tyX1 : Nat → FieldType := fun k => match k with
  | 0 => .int
  | 1 => .int
  | 2 => .int
  | 3 => .object "ScrapHouse$Half"
  | 4 => .int
  | 5 => .int
  | 6 => .object "ScrapHouse$Move"
  | 7 => .int
  | 8 => .int
  | _ => .int
theorem nmX1 : ∀ a, a < 10 → ∀ b, b < 10 → a ≠ b → (TX1 a).2.1 ≠ (TX1 b).2.1 := by decide +kernel
theorem tyX1_ok : ∀ k, k < 10 → parseFieldDescriptor (TX1 k).2.2.1 = some (tyX1 k) := by decide +kernel
abbrev cX1_init : ByteArray := prog_3_method_1_code
def yX1_init : MethodName := ⟨RX1, "<init>", "(IIILScrapHouse$Half;II)V"⟩
abbrev cX1_mayAsk : ByteArray := prog_3_method_2_code
def yX1_mayAsk : MethodName := ⟨RX1, "mayAsk", "(I)Z"⟩
abbrev cX1_lastUpTo : ByteArray := prog_3_method_3_code
def yX1_lastUpTo : MethodName := ⟨RX1, "lastUpTo", "(I)LScrapHouse$Move;"⟩
abbrev cX1_placeOn : ByteArray := prog_3_method_4_code
def yX1_placeOn : MethodName := ⟨RX1, "placeOn", "(II)I"⟩
abbrev cX1_daysAt : ByteArray := prog_3_method_5_code
def yX1_daysAt : MethodName := ⟨RX1, "daysAt", "(IIII)I"⟩
def RX2 : String := "ScrapHouse$Claim"
def TX2 : u_T := fun k => match k with
  | 0 => ("ScrapHouse$Claim", "half", "LScrapHouse$Half;", true)
  | 1 => ("ScrapHouse$Claim", "first", "I", true)
  | 2 => ("ScrapHouse$Claim", "last", "I", true)
  | 3 => ("ScrapHouse$Claim", "sex", "I", true)
  | _ => ("ScrapHouse$Claim", "mark", "I", true)
def tyX2 : Nat → FieldType := fun k => match k with
  | 0 => .object "ScrapHouse$Half"
  | 1 => .int
  | 2 => .int
  | 3 => .int
  | _ => .int
theorem nmX2 : ∀ a, a < 5 → ∀ b, b < 5 → a ≠ b → (TX2 a).2.1 ≠ (TX2 b).2.1 := by decide +kernel
theorem tyX2_ok : ∀ k, k < 5 → parseFieldDescriptor (TX2 k).2.2.1 = some (tyX2 k) := by decide +kernel
abbrev cX2_init : ByteArray := prog_4_method_1_code
def yX2_init : MethodName := ⟨RX2, "<init>", "(LScrapHouse$Half;IIII)V"⟩
abbrev cX2_agreeing : ByteArray := prog_4_method_2_code
def yX2_agreeing : MethodName := ⟨RX2, "agreeing", "(LScrapHouse$Child;)I"⟩
abbrev cX2_disagreeing : ByteArray := prog_4_method_3_code
def yX2_disagreeing : MethodName := ⟨RX2, "disagreeing", "(LScrapHouse$Child;)I"⟩
def RX3 : String := "ScrapHouse$Half"
def TX3 : u_T := fun k => match k with
  | 0 => ("ScrapHouse$Half", "edge", "I", true)
  | _ => ("ScrapHouse$Half", "threads", "I", true)
def tyX3 : Nat → FieldType := fun k => match k with
  | 0 => .int
  | _ => .int
theorem nmX3 : ∀ a, a < 2 → ∀ b, b < 2 → a ≠ b → (TX3 a).2.1 ≠ (TX3 b).2.1 := by decide +kernel
theorem tyX3_ok : ∀ k, k < 2 → parseFieldDescriptor (TX3 k).2.2.1 = some (tyX3 k) := by decide +kernel
abbrev cX3_init : ByteArray := prog_5_method_1_code
def yX3_init : MethodName := ⟨RX3, "<init>", "(II)V"⟩
abbrev cX3_canBe : ByteArray := prog_5_method_2_code
def yX3_canBe : MethodName := ⟨RX3, "canBe", "(II)Z"⟩
abbrev cX3_farOff : ByteArray := prog_5_method_3_code
def yX3_farOff : MethodName := ⟨RX3, "farOff", "(LScrapHouse$Half;)I"⟩
abbrev cX3_unlike : ByteArray := prog_5_method_4_code
def yX3_unlike : MethodName := ⟨RX3, "unlike", "(II)I"⟩
abbrev cX3_numberAt : ByteArray := prog_5_method_5_code
def yX3_numberAt : MethodName := ⟨RX3, "numberAt", "(II)I"⟩
abbrev cX3_turn : ByteArray := prog_5_method_6_code
def yX3_turn : MethodName := ⟨RX3, "turn", "(I)I"⟩
def RX4 : String := "ScrapHouse$Look"
def TX4 : u_T := fun k => match k with
  | 0 => ("ScrapHouse$Look", "day", "I", true)
  | _ => ("ScrapHouse$Look", "earlier", "LScrapHouse$Look;", true)
def tyX4 : Nat → FieldType := fun k => match k with
  | 0 => .int
  | _ => .object "ScrapHouse$Look"
theorem nmX4 : ∀ a, a < 2 → ∀ b, b < 2 → a ≠ b → (TX4 a).2.1 ≠ (TX4 b).2.1 := by decide +kernel
theorem tyX4_ok : ∀ k, k < 2 → parseFieldDescriptor (TX4 k).2.2.1 = some (tyX4 k) := by decide +kernel
abbrev cX4_init : ByteArray := prog_6_method_1_code
def yX4_init : MethodName := ⟨RX4, "<init>", "(ILScrapHouse$Look;)V"⟩
def RX5 : String := "ScrapHouse$Move"
def TX5 : u_T := fun k => match k with
  | 0 => ("ScrapHouse$Move", "place", "I", true)
  | 1 => ("ScrapHouse$Move", "from", "I", true)
  | 2 => ("ScrapHouse$Move", "told", "I", true)
  | _ => ("ScrapHouse$Move", "next", "LScrapHouse$Move;", false)
def tyX5 : Nat → FieldType := fun k => match k with
  | 0 => .int
  | 1 => .int
  | 2 => .int
  | _ => .object "ScrapHouse$Move"
theorem nmX5 : ∀ a, a < 4 → ∀ b, b < 4 → a ≠ b → (TX5 a).2.1 ≠ (TX5 b).2.1 := by decide +kernel
theorem tyX5_ok : ∀ k, k < 4 → parseFieldDescriptor (TX5 k).2.2.1 = some (tyX5 k) := by decide +kernel
abbrev cX5_init : ByteArray := prog_7_method_1_code
def yX5_init : MethodName := ⟨RX5, "<init>", "(III)V"⟩
def RX6 : String := "ScrapHouse$Nurse"
def TX6 : u_T := fun k => match k with
  | 0 => ("ScrapHouse$Nurse", "bedCount", "I", false)
  | _ => ("ScrapHouse$Nurse", "latest", "LScrapHouse$Look;", false)
def tyX6 : Nat → FieldType := fun k => match k with
  | 0 => .int
  | _ => .object "ScrapHouse$Look"
theorem nmX6 : ∀ a, a < 2 → ∀ b, b < 2 → a ≠ b → (TX6 a).2.1 ≠ (TX6 b).2.1 := by decide +kernel
theorem tyX6_ok : ∀ k, k < 2 → parseFieldDescriptor (TX6 k).2.2.1 = some (tyX6 k) := by decide +kernel
abbrev cX6_init : ByteArray := prog_8_method_1_code
def yX6_init : MethodName := ⟨RX6, "<init>", "()V"⟩
def RX7 : String := "ScrapHouse$Reader"
def TX7 : u_T := fun k => match k with
  | 0 => ("ScrapHouse$Reader", "values", "[I", true)
  | 1 => ("ScrapHouse$Reader", "text", "LScrapHouse$Text;", false)
  | 2 => ("ScrapHouse$Reader", "at", "I", false)
  | _ => ("ScrapHouse$Reader", "failedAt", "I", false)
def tyX7 : Nat → FieldType := fun k => match k with
  | 0 => .array .int
  | 1 => .object "ScrapHouse$Text"
  | 2 => .int
  | _ => .int
theorem nmX7 : ∀ a, a < 4 → ∀ b, b < 4 → a ≠ b → (TX7 a).2.1 ≠ (TX7 b).2.1 := by decide +kernel
theorem tyX7_ok : ∀ k, k < 4 → parseFieldDescriptor (TX7 k).2.2.1 = some (tyX7 k) := by decide +kernel
abbrev cX7_init : ByteArray := prog_9_method_1_code
def yX7_init : MethodName := ⟨RX7, "<init>", "(LScrapHouse$Text;)V"⟩
abbrev cX7_faultOf : ByteArray := prog_9_method_2_code
def yX7_faultOf : MethodName := ⟨RX7, "faultOf", "(LScrapHouse$Text;)I"⟩
abbrev cX7_holds : ByteArray := prog_9_method_3_code
def yX7_holds : MethodName := ⟨RX7, "holds", "(LScrapHouse$Text;)Z"⟩
abbrev cX7_tests : ByteArray := prog_9_method_4_code
def yX7_tests : MethodName := ⟨RX7, "tests", "(I)Z"⟩
abbrev cX7_part : ByteArray := prog_9_method_5_code
def yX7_part : MethodName := ⟨RX7, "part", "(I)Z"⟩
abbrev cX7_unit : ByteArray := prog_9_method_6_code
def yX7_unit : MethodName := ⟨RX7, "unit", "(I)Z"⟩
abbrev cX7_test : ByteArray := prog_9_method_7_code
def yX7_test : MethodName := ⟨RX7, "test", "()Z"⟩
abbrev cX7_letterValue : ByteArray := prog_9_method_8_code
def yX7_letterValue : MethodName := ⟨RX7, "letterValue", "()I"⟩
abbrev cX7_number : ByteArray := prog_9_method_9_code
def yX7_number : MethodName := ⟨RX7, "number", "()I"⟩
abbrev cX7_isDigit : ByteArray := prog_9_method_10_code
def yX7_isDigit : MethodName := ⟨RX7, "isDigit", "(I)Z"⟩
abbrev cX7_take : ByteArray := prog_9_method_11_code
def yX7_take : MethodName := ⟨RX7, "take", "(C)Z"⟩
abbrev cX7_next : ByteArray := prog_9_method_12_code
def yX7_next : MethodName := ⟨RX7, "next", "()I"⟩
abbrev cX7_fail : ByteArray := prog_9_method_13_code
def yX7_fail : MethodName := ⟨RX7, "fail", "()V"⟩
def RX8 : String := "ScrapHouse$Text"
def TX8 : u_T := fun k => match k with
  | 0 => ("ScrapHouse$Text", "bytes", "[B", true)
  | _ => ("ScrapHouse$Text", "length", "I", false)
def tyX8 : Nat → FieldType := fun k => match k with
  | 0 => .array .byte
  | _ => .int
theorem nmX8 : ∀ a, a < 2 → ∀ b, b < 2 → a ≠ b → (TX8 a).2.1 ≠ (TX8 b).2.1 := by decide +kernel
theorem tyX8_ok : ∀ k, k < 2 → parseFieldDescriptor (TX8 k).2.2.1 = some (tyX8 k) := by decide +kernel
abbrev cX8_init : ByteArray := prog_10_method_1_code
def yX8_init : MethodName := ⟨RX8, "<init>", "()V"⟩
abbrev cX8_add : ByteArray := prog_10_method_2_code
def yX8_add : MethodName := ⟨RX8, "add", "(I)V"⟩
abbrev cX8_byteAt : ByteArray := prog_10_method_3_code
def yX8_byteAt : MethodName := ⟨RX8, "byteAt", "(I)I"⟩
def RX9 : String := "ScrapHouse"
def TX9 : u_T := fun k => match k with
  | 0 => ("ScrapHouse", "now", "I", false)
  | 1 => ("ScrapHouse", "ballotCount", "I", false)
  | 2 => ("ScrapHouse", "childCount", "I", false)
  | 3 => ("ScrapHouse", "moveCount", "I", false)
  | 4 => ("ScrapHouse", "lookCount", "I", false)
  | 5 => ("ScrapHouse", "ruleCount", "I", false)
  | 6 => ("ScrapHouse", "ballots", "[LScrapHouse$Ballot;", true)
  | 7 => ("ScrapHouse", "children", "[LScrapHouse$Child;", true)
  | 8 => ("ScrapHouse", "nurses", "[LScrapHouse$Nurse;", true)
  | 9 => ("ScrapHouse", "tape", "LScrapHouse$Text;", false)
  | 10 => ("ScrapHouse", "inForce", "LScrapHouse$Text;", false)
  | _ => ("ScrapHouse", "reader", "LScrapHouse$Reader;", true)
def tyX9 : Nat → FieldType := fun k => match k with
  | 0 => .int
  | 1 => .int
  | 2 => .int
  | 3 => .int
  | 4 => .int
  | 5 => .int
  | 6 => .array (.object "ScrapHouse$Ballot")
  | 7 => .array (.object "ScrapHouse$Child")
  | 8 => .array (.object "ScrapHouse$Nurse")
  | 9 => .object "ScrapHouse$Text"
  | 10 => .object "ScrapHouse$Text"
  | _ => .object "ScrapHouse$Reader"
theorem nmX9 : ∀ a, a < 12 → ∀ b, b < 12 → a ≠ b → (TX9 a).2.1 ≠ (TX9 b).2.1 := by decide +kernel
theorem tyX9_ok : ∀ k, k < 12 → parseFieldDescriptor (TX9 k).2.2.1 = some (tyX9 k) := by decide +kernel
abbrev cX9_init : ByteArray := prog_1_method_1_code
def yX9_init : MethodName := ⟨RX9, "<init>", "()V"⟩
abbrev cX9_days : ByteArray := prog_1_method_2_code
def yX9_days : MethodName := ⟨RX9, "days", "(I)I"⟩
abbrev cX9_ballot : ByteArray := prog_1_method_3_code
def yX9_ballot : MethodName := ⟨RX9, "ballot", "(IIIJ)I"⟩
abbrev cX9_ball : ByteArray := prog_1_method_4_code
def yX9_ball : MethodName := ⟨RX9, "ball", "(II)I"⟩
abbrev cX9_away : ByteArray := prog_1_method_5_code
def yX9_away : MethodName := ⟨RX9, "away", "(II)I"⟩
abbrev cX9_leave : ByteArray := prog_1_method_6_code
def yX9_leave : MethodName := ⟨RX9, "leave", "(IIIIII)I"⟩
abbrev cX9_beds : ByteArray := prog_1_method_7_code
def yX9_beds : MethodName := ⟨RX9, "beds", "(II)Z"⟩
abbrev cX9_move : ByteArray := prog_1_method_8_code
def yX9_move : MethodName := ⟨RX9, "move", "(III)Z"⟩
abbrev cX9_place : ByteArray := prog_1_method_9_code
def yX9_place : MethodName := ⟨RX9, "place", "(III)I"⟩
abbrev cX9_look : ByteArray := prog_1_method_10_code
def yX9_look : MethodName := ⟨RX9, "look", "(I)Z"⟩
abbrev cX9_many : ByteArray := prog_1_method_11_code
def yX9_many : MethodName := ⟨RX9, "many", "(III)I"⟩
abbrev cX9_pay : ByteArray := prog_1_method_12_code
def yX9_pay : MethodName := ⟨RX9, "pay", "(IIII)I"⟩
abbrev cX9_gap : ByteArray := prog_1_method_13_code
def yX9_gap : MethodName := ⟨RX9, "gap", "(IIII)I"⟩
abbrev cX9_off : ByteArray := prog_1_method_14_code
def yX9_off : MethodName := ⟨RX9, "off", "(III)I"⟩
abbrev cX9_feed : ByteArray := prog_1_method_15_code
def yX9_feed : MethodName := ⟨RX9, "feed", "(I)I"⟩
abbrev cX9_end : ByteArray := prog_1_method_16_code
def yX9_end : MethodName := ⟨RX9, "end", "(I)Z"⟩
abbrev cX9_fault : ByteArray := prog_1_method_17_code
def yX9_fault : MethodName := ⟨RX9, "fault", "()I"⟩
abbrev cX9_rule : ByteArray := prog_1_method_18_code
def yX9_rule : MethodName := ⟨RX9, "rule", "()Z"⟩
abbrev cX9_claim : ByteArray := prog_1_method_19_code
def yX9_claim : MethodName := ⟨RX9, "claim", "(IIIIII)I"⟩
abbrev cX9_name : ByteArray := prog_1_method_20_code
def yX9_name : MethodName := ⟨RX9, "name", "(II)Z"⟩
abbrev cX9_allow : ByteArray := prog_1_method_21_code
def yX9_allow : MethodName := ⟨RX9, "allow", "(IIZ)Z"⟩
abbrev cX9_ask : ByteArray := prog_1_method_22_code
def yX9_ask : MethodName := ⟨RX9, "ask", "(II)I"⟩
abbrev cX9_guess : ByteArray := prog_1_method_23_code
def yX9_guess : MethodName := ⟨RX9, "guess", "(III)I"⟩
abbrev cX9_told : ByteArray := prog_1_method_24_code
def yX9_told : MethodName := ⟨RX9, "told", "(II)I"⟩
abbrev cX9_count : ByteArray := prog_1_method_25_code
def yX9_count : MethodName := ⟨RX9, "count", "(I)I"⟩
abbrev cX9_within : ByteArray := prog_1_method_26_code
def yX9_within : MethodName := ⟨RX9, "within", "(III)Z"⟩
abbrev cX9_isPlace : ByteArray := prog_1_method_27_code
def yX9_isPlace : MethodName := ⟨RX9, "isPlace", "(I)Z"⟩
abbrev cX9_isWho : ByteArray := prog_1_method_28_code
def yX9_isWho : MethodName := ⟨RX9, "isWho", "(I)Z"⟩
abbrev cX9_areWeeks : ByteArray := prog_1_method_29_code
def yX9_areWeeks : MethodName := ⟨RX9, "areWeeks", "(II)Z"⟩
abbrev cX9_isPast : ByteArray := prog_1_method_30_code
def yX9_isPast : MethodName := ⟨RX9, "isPast", "(I)Z"⟩
abbrev cX9_findBallot : ByteArray := prog_1_method_31_code
def yX9_findBallot : MethodName := ⟨RX9, "findBallot", "(I)LScrapHouse$Ballot;"⟩
abbrev cX9_findChild : ByteArray := prog_1_method_32_code
def yX9_findChild : MethodName := ⟨RX9, "findChild", "(I)LScrapHouse$Child;"⟩
abbrev cX9_findNurse : ByteArray := prog_1_method_33_code
def yX9_findNurse : MethodName := ⟨RX9, "findNurse", "(I)LScrapHouse$Nurse;"⟩
abbrev cX9_isGone : ByteArray := prog_1_method_34_code
def yX9_isGone : MethodName := ⟨RX9, "isGone", "(LScrapHouse$Child;I)Z"⟩
abbrev cX9_childrenAt : ByteArray := prog_1_method_35_code
def yX9_childrenAt : MethodName := ⟨RX9, "childrenAt", "(III)I"⟩
abbrev cX9_isOver : ByteArray := prog_1_method_36_code
def yX9_isOver : MethodName := ⟨RX9, "isOver", "(III)Z"⟩
abbrev cX9_daysWith : ByteArray := prog_1_method_37_code
def yX9_daysWith : MethodName := ⟨RX9, "daysWith", "(IIII)I"⟩
abbrev cX9_seenDays : ByteArray := prog_1_method_38_code
def yX9_seenDays : MethodName := ⟨RX9, "seenDays", "(ILScrapHouse$Look;III)I"⟩
abbrev cX9_answerTo : ByteArray := prog_1_method_39_code
def yX9_answerTo : MethodName := ⟨RX9, "answerTo", "(LScrapHouse$Claim;)I"⟩
abbrev cX9_holdsOf : ByteArray := prog_1_method_40_code
def yX9_holdsOf : MethodName := ⟨RX9, "holdsOf", "(LScrapHouse$Child;LScrapHouse$Claim;I)Z"⟩
def RX10 : String := "ScrapHouseModel"
def TX10 : u_T := fun k => match k with
  | 0 => ("ScrapHouseModel", "now", "I", false)
  | 1 => ("ScrapHouseModel", "ballots", "I", false)
  | 2 => ("ScrapHouseModel", "children", "I", false)
  | 3 => ("ScrapHouseModel", "moves", "I", false)
  | 4 => ("ScrapHouseModel", "looks", "I", false)
  | 5 => ("ScrapHouseModel", "rules", "I", false)
  | 6 => ("ScrapHouseModel", "women", "[I", true)
  | 7 => ("ScrapHouseModel", "ball", "[I", true)
  | 8 => ("ScrapHouseModel", "line", "[I", true)
  | 9 => ("ScrapHouseModel", "born", "[I", true)
  | 10 => ("ScrapHouseModel", "sex", "[I", true)
  | 11 => ("ScrapHouseModel", "mark", "[I", true)
  | 12 => ("ScrapHouseModel", "edge", "[I", true)
  | 13 => ("ScrapHouseModel", "threads", "[I", true)
  | 14 => ("ScrapHouseModel", "ofBallot", "[I", true)
  | 15 => ("ScrapHouseModel", "ofWoman", "[I", true)
  | 16 => ("ScrapHouseModel", "number", "[I", true)
  | 17 => ("ScrapHouseModel", "may", "[Z", true)
  | 18 => ("ScrapHouseModel", "moved", "[I", true)
  | 19 => ("ScrapHouseModel", "movePlace", "[I", true)
  | 20 => ("ScrapHouseModel", "moveFrom", "[I", true)
  | 21 => ("ScrapHouseModel", "moveTold", "[I", true)
  | 22 => ("ScrapHouseModel", "beds", "[I", true)
  | 23 => ("ScrapHouseModel", "looked", "[Z", true)
  | 24 => ("ScrapHouseModel", "tape", "[I", true)
  | 25 => ("ScrapHouseModel", "codes", "[I", true)
  | 26 => ("ScrapHouseModel", "saying", "[I", true)
  | 27 => ("ScrapHouseModel", "size", "I", false)
  | 28 => ("ScrapHouseModel", "at", "I", false)
  | 29 => ("ScrapHouseModel", "wrong", "I", false)
  | 30 => ("ScrapHouseModel", "deep", "I", false)
  | 31 => ("ScrapHouseModel", "said", "I", false)
  | _ => ("ScrapHouseModel", "pile", "[Z", true)
def tyX10 : Nat → FieldType := fun k => match k with
  | 0 => .int
  | 1 => .int
  | 2 => .int
  | 3 => .int
  | 4 => .int
  | 5 => .int
  | 6 => .array .int
  | 7 => .array .int
  | 8 => .array .int
  | 9 => .array .int
  | 10 => .array .int
  | 11 => .array .int
  | 12 => .array .int
  | 13 => .array .int
  | 14 => .array .int
  | 15 => .array .int
  | 16 => .array .int
  | 17 => .array .boolean
  | 18 => .array .int
  | 19 => .array .int
  | 20 => .array .int
  | 21 => .array .int
  | 22 => .array .int
  | 23 => .array .boolean
  | 24 => .array .int
  | 25 => .array .int
  | 26 => .array .int
  | 27 => .int
  | 28 => .int
  | 29 => .int
  | 30 => .int
  | 31 => .int
  | _ => .array .boolean
theorem nmX10 : ∀ a, a < 33 → ∀ b, b < 33 → a ≠ b → (TX10 a).2.1 ≠ (TX10 b).2.1 := by decide +kernel
theorem tyX10_ok : ∀ k, k < 33 → parseFieldDescriptor (TX10 k).2.2.1 = some (tyX10 k) := by decide +kernel
abbrev cX10_in : ByteArray := prog_12_method_1_code
def yX10_in : MethodName := ⟨RX10, "in", "(III)Z"⟩
abbrev cX10_init : ByteArray := prog_12_method_2_code
def yX10_init : MethodName := ⟨RX10, "<init>", "()V"⟩
abbrev cX10_days : ByteArray := prog_12_method_3_code
def yX10_days : MethodName := ⟨RX10, "days", "(I)I"⟩
abbrev cX10_ballot : ByteArray := prog_12_method_4_code
def yX10_ballot : MethodName := ⟨RX10, "ballot", "(IIIJ)I"⟩
abbrev cX10_lineOf : ByteArray := prog_12_method_5_code
def yX10_lineOf : MethodName := ⟨RX10, "lineOf", "(I)[I"⟩
abbrev cX10_isWoman : ByteArray := prog_12_method_6_code
def yX10_isWoman : MethodName := ⟨RX10, "isWoman", "(II)Z"⟩
abbrev cX10_ball : ByteArray := prog_12_method_7_code
def yX10_ball : MethodName := ⟨RX10, "ball", "(II)I"⟩
abbrev cX10_away : ByteArray := prog_12_method_8_code
def yX10_away : MethodName := ⟨RX10, "away", "(II)I"⟩
abbrev cX10_leave : ByteArray := prog_12_method_9_code
def yX10_leave : MethodName := ⟨RX10, "leave", "(IIIIII)I"⟩
abbrev cX10_isChild : ByteArray := prog_12_method_10_code
def yX10_isChild : MethodName := ⟨RX10, "isChild", "(I)Z"⟩
abbrev cX10_where : ByteArray := prog_12_method_11_code
def yX10_where : MethodName := ⟨RX10, "where", "(III)I"⟩
abbrev cX10_isThere : ByteArray := prog_12_method_12_code
def yX10_isThere : MethodName := ⟨RX10, "isThere", "(III)Z"⟩
abbrev cX10_manyAt : ByteArray := prog_12_method_13_code
def yX10_manyAt : MethodName := ⟨RX10, "manyAt", "(III)I"⟩
abbrev cX10_hasRoom : ByteArray := prog_12_method_14_code
def yX10_hasRoom : MethodName := ⟨RX10, "hasRoom", "(III)Z"⟩
abbrev cX10_changesOn : ByteArray := prog_12_method_15_code
def yX10_changesOn : MethodName := ⟨RX10, "changesOn", "(I)Z"⟩
abbrev cX10_beds : ByteArray := prog_12_method_16_code
def yX10_beds : MethodName := ⟨RX10, "beds", "(II)Z"⟩
abbrev cX10_move : ByteArray := prog_12_method_17_code
def yX10_move : MethodName := ⟨RX10, "move", "(III)Z"⟩
abbrev cX10_areDays : ByteArray := prog_12_method_18_code
def yX10_areDays : MethodName := ⟨RX10, "areDays", "(II)Z"⟩
abbrev cX10_place : ByteArray := prog_12_method_19_code
def yX10_place : MethodName := ⟨RX10, "place", "(III)I"⟩
abbrev cX10_many : ByteArray := prog_12_method_20_code
def yX10_many : MethodName := ⟨RX10, "many", "(III)I"⟩
abbrev cX10_look : ByteArray := prog_12_method_21_code
def yX10_look : MethodName := ⟨RX10, "look", "(I)Z"⟩
abbrev cX10_isSeen : ByteArray := prog_12_method_22_code
def yX10_isSeen : MethodName := ⟨RX10, "isSeen", "(III)Z"⟩
abbrev cX10_daysWith : ByteArray := prog_12_method_23_code
def yX10_daysWith : MethodName := ⟨RX10, "daysWith", "(IIIIZ)I"⟩
abbrev cX10_areWeeks : ByteArray := prog_12_method_24_code
def yX10_areWeeks : MethodName := ⟨RX10, "areWeeks", "(IIII)Z"⟩
abbrev cX10_pay : ByteArray := prog_12_method_25_code
def yX10_pay : MethodName := ⟨RX10, "pay", "(IIII)I"⟩
abbrev cX10_gap : ByteArray := prog_12_method_26_code
def yX10_gap : MethodName := ⟨RX10, "gap", "(IIII)I"⟩
abbrev cX10_third : ByteArray := prog_12_method_27_code
def yX10_third : MethodName := ⟨RX10, "third", "(II)I"⟩
abbrev cX10_offBy : ByteArray := prog_12_method_28_code
def yX10_offBy : MethodName := ⟨RX10, "offBy", "(IIIZ)I"⟩
abbrev cX10_offOf : ByteArray := prog_12_method_29_code
def yX10_offOf : MethodName := ⟨RX10, "offOf", "(III)I"⟩
abbrev cX10_off : ByteArray := prog_12_method_30_code
def yX10_off : MethodName := ⟨RX10, "off", "(III)I"⟩
abbrev cX10_feed : ByteArray := prog_12_method_31_code
def yX10_feed : MethodName := ⟨RX10, "feed", "(I)I"⟩
abbrev cX10_end : ByteArray := prog_12_method_32_code
def yX10_end : MethodName := ⟨RX10, "end", "(I)Z"⟩
abbrev cX10_peek : ByteArray := prog_12_method_33_code
def yX10_peek : MethodName := ⟨RX10, "peek", "()I"⟩
abbrev cX10_fail : ByteArray := prog_12_method_34_code
def yX10_fail : MethodName := ⟨RX10, "fail", "()V"⟩
abbrev cX10_say : ByteArray := prog_12_method_35_code
def yX10_say : MethodName := ⟨RX10, "say", "(I)V"⟩
abbrev cX10_unit : ByteArray := prog_12_method_36_code
def yX10_unit : MethodName := ⟨RX10, "unit", "()V"⟩
abbrev cX10_part : ByteArray := prog_12_method_37_code
def yX10_part : MethodName := ⟨RX10, "part", "()V"⟩
abbrev cX10_tests : ByteArray := prog_12_method_38_code
def yX10_tests : MethodName := ⟨RX10, "tests", "()V"⟩
abbrev cX10_fault : ByteArray := prog_12_method_39_code
def yX10_fault : MethodName := ⟨RX10, "fault", "()I"⟩
abbrev cX10_rule : ByteArray := prog_12_method_40_code
def yX10_rule : MethodName := ⟨RX10, "rule", "()Z"⟩
abbrev cX10_holds : ByteArray := prog_12_method_41_code
def yX10_holds : MethodName := ⟨RX10, "holds", "(IIIII)Z"⟩
abbrev cX10_isOpen : ByteArray := prog_12_method_42_code
def yX10_isOpen : MethodName := ⟨RX10, "isOpen", "(I)Z"⟩
abbrev cX10_agreeing : ByteArray := prog_12_method_43_code
def yX10_agreeing : MethodName := ⟨RX10, "agreeing", "(IIIII)I"⟩
abbrev cX10_claim : ByteArray := prog_12_method_44_code
def yX10_claim : MethodName := ⟨RX10, "claim", "(IIIIII)I"⟩
abbrev cX10_name : ByteArray := prog_12_method_45_code
def yX10_name : MethodName := ⟨RX10, "name", "(II)Z"⟩
abbrev cX10_areBoth : ByteArray := prog_12_method_46_code
def yX10_areBoth : MethodName := ⟨RX10, "areBoth", "(II)Z"⟩
abbrev cX10_allow : ByteArray := prog_12_method_47_code
def yX10_allow : MethodName := ⟨RX10, "allow", "(IIZ)Z"⟩
abbrev cX10_ask : ByteArray := prog_12_method_48_code
def yX10_ask : MethodName := ⟨RX10, "ask", "(II)I"⟩
abbrev cX10_guess : ByteArray := prog_12_method_49_code
def yX10_guess : MethodName := ⟨RX10, "guess", "(III)I"⟩
abbrev cX10_told : ByteArray := prog_12_method_50_code
def yX10_told : MethodName := ⟨RX10, "told", "(II)I"⟩
abbrev cX10_count : ByteArray := prog_12_method_51_code
def yX10_count : MethodName := ⟨RX10, "count", "(I)I"⟩
def RJ9 : String := "java/lang/Math"
def TJ9 : u_T := fun k => match k with
  | _ => ("", "", "", false)
def tyJ9 : Nat → FieldType := fun k => match k with
  | _ => .int
theorem nmJ9 : ∀ a, a < 0 → ∀ b, b < 0 → a ≠ b → (TJ9 a).2.1 ≠ (TJ9 b).2.1 := by decide +kernel
theorem tyJ9_ok : ∀ k, k < 0 → parseFieldDescriptor (TJ9 k).2.2.1 = some (tyJ9 k) := by decide +kernel
abbrev cJ9_max_7cf53 : ByteArray := prog_13_method_65_code
def yJ9_max_7cf53 : MethodName := ⟨RJ9, "max", "(II)I"⟩
abbrev cJ9_min_7cf53 : ByteArray := prog_13_method_69_code
def yJ9_min_7cf53 : MethodName := ⟨RJ9, "min", "(II)I"⟩
def RJ10 : String := "java/lang/System"
def TJ10 : u_T := fun k => match k with
  | _ => ("", "", "", false)
def tyJ10 : Nat → FieldType := fun k => match k with
  | _ => .int
theorem nmJ10 : ∀ a, a < 0 → ∀ b, b < 0 → a ≠ b → (TJ10 a).2.1 ≠ (TJ10 b).2.1 := by decide +kernel
theorem tyJ10_ok : ∀ k, k < 0 → parseFieldDescriptor (TJ10 k).2.2.1 = some (tyJ10 k) := by decide +kernel
def RL : String := "ScrapHouseLaw"
abbrev cL_law : ByteArray := code
def yL_law : MethodName := ⟨RL, "law", "([I)Z"⟩
abbrev vwCl : List vw_C := [(RX0, TX0, 1), (RX1, TX1, 10), (RX2, TX2, 5), (RX3, TX3, 2), (RX4, TX4, 2), (RX5, TX5, 4), (RX6, TX6, 2), (RX7, TX7, 4), (RX8, TX8, 2), (RX9, TX9, 12), (RX10, TX10, 33)]
def gw : List Cond := lw_tbl.filter goodWord
theorem gw_in {w : Cond} (h : w ∈ tables_1) (hg : goodWord w = true) : w ∈ gw := List.mem_filter.mpr ⟨List.mem_append_right _ h, hg⟩
theorem gw_sel {q : MethodName × Nat} (h : q ∈ lw_privs) : Cond.selects q.1.cls q.1 q.1 ∈ gw := List.mem_filter.mpr ⟨List.mem_append_left _ (List.mem_map.mpr ⟨q, h, rfl⟩), rfl⟩
theorem gw_in1 {w : Cond} (h : w ∈ tables_1_1) (hg : goodWord w = true) : w ∈ gw := gw_in (List.mem_append_left _ h) hg
theorem gw_in2 {w : Cond} (h : w ∈ tables_1_2) (hg : goodWord w = true) : w ∈ gw := gw_in (List.mem_append_right _ (List.mem_append_left _ h)) hg
theorem gw_in3 {w : Cond} (h : w ∈ tables_1_3) (hg : goodWord w = true) : w ∈ gw := gw_in (List.mem_append_right _ (List.mem_append_right _ (List.mem_append_left _ h))) hg
theorem gw_in4 {w : Cond} (h : w ∈ tables_1_4) (hg : goodWord w = true) : w ∈ gw := gw_in (List.mem_append_right _ (List.mem_append_right _ (List.mem_append_right _ h))) hg
end
section
theorem tw_0 : (Jvm.Cond.initialized "ScrapHouseLaw") ∈ gw := gw_in1 (List.mem_of_getElem? (i := 0) (by decide +kernel)) rfl
theorem tw_1 : (Jvm.Cond.initialized "ScrapHouse") ∈ gw := gw_in1 (List.mem_of_getElem? (i := 1) (by decide +kernel)) rfl
theorem tw_2 : (Jvm.Cond.initialized "ScrapHouse$Text") ∈ gw := gw_in1 (List.mem_of_getElem? (i := 2) (by decide +kernel)) rfl
theorem tw_3 : (Jvm.Cond.initialized "ScrapHouse$Reader") ∈ gw := gw_in1 (List.mem_of_getElem? (i := 3) (by decide +kernel)) rfl
theorem tw_4 : (Jvm.Cond.initialized "ScrapHouse$Nurse") ∈ gw := gw_in1 (List.mem_of_getElem? (i := 4) (by decide +kernel)) rfl
theorem tw_5 : (Jvm.Cond.initialized "ScrapHouseModel") ∈ gw := gw_in1 (List.mem_of_getElem? (i := 5) (by decide +kernel)) rfl
theorem tw_6 : (Jvm.Cond.initialized "ScrapHouse$Ballot") ∈ gw := gw_in1 (List.mem_of_getElem? (i := 6) (by decide +kernel)) rfl
theorem tw_7 : (Jvm.Cond.initialized "java/lang/System") ∈ gw := gw_in1 (List.mem_of_getElem? (i := 7) (by decide +kernel)) rfl
theorem tw_8 : (Jvm.Cond.initialized "ScrapHouse$Half") ∈ gw := gw_in1 (List.mem_of_getElem? (i := 8) (by decide +kernel)) rfl
theorem tw_9 : (Jvm.Cond.initialized "ScrapHouse$Child") ∈ gw := gw_in1 (List.mem_of_getElem? (i := 9) (by decide +kernel)) rfl
theorem tw_10 : (Jvm.Cond.initialized "ScrapHouse$Move") ∈ gw := gw_in1 (List.mem_of_getElem? (i := 10) (by decide +kernel)) rfl
theorem tw_11 : (Jvm.Cond.initialized "ScrapHouse$Look") ∈ gw := gw_in1 (List.mem_of_getElem? (i := 11) (by decide +kernel)) rfl
theorem tw_12 : (Jvm.Cond.initialized "java/lang/Math") ∈ gw := gw_in1 (List.mem_of_getElem? (i := 12) (by decide +kernel)) rfl
theorem tw_13 : (Jvm.Cond.initialized "ScrapHouse$Claim") ∈ gw := gw_in1 (List.mem_of_getElem? (i := 13) (by decide +kernel)) rfl
theorem tw_14 : (Jvm.Cond.classLink "ScrapHouseLaw" (7 : Nat) "ScrapHouse") ∈ gw := gw_in1 (List.mem_of_getElem? (i := 14) (by decide +kernel)) rfl
theorem tw_15 : (Jvm.Cond.instantiable "ScrapHouse" (12 : Nat)) ∈ gw := gw_in1 (List.mem_of_getElem? (i := 15) (by decide +kernel)) rfl
theorem tw_16 : (Jvm.Cond.methodLink "ScrapHouseLaw" (9 : Nat) ({ cls := "ScrapHouse", name := "<init>", desc := "()V" } : Jvm.MethodName)) ∈ gw := gw_in1 (List.mem_of_getElem? (i := 16) (by decide +kernel)) rfl
theorem tw_17 : (Jvm.Cond.instanceMethod ({ cls := "ScrapHouse", name := "<init>", desc := "()V" } : Jvm.MethodName)) ∈ gw := gw_in1 (List.mem_of_getElem? (i := 17) (by decide +kernel)) rfl
theorem tw_18 : (Jvm.Cond.code ({ cls := "ScrapHouse", name := "<init>", desc := "()V" } : Jvm.MethodName) prog_1_method_1_code (2 : Nat) (Option.none : Option Jvm.ClassFile.FieldType)) ∈ gw := gw_in1 (List.mem_of_getElem? (i := 18) (rfl)) rfl
theorem tw_19 : (Jvm.Cond.methodLink "ScrapHouse" (1 : Nat) ({ cls := "java/lang/Object", name := "<init>", desc := "()V" } : Jvm.MethodName)) ∈ gw := gw_in1 (List.mem_of_getElem? (i := 19) (by decide +kernel)) rfl
theorem tw_20 : (Jvm.Cond.instanceMethod ({ cls := "java/lang/Object", name := "<init>", desc := "()V" } : Jvm.MethodName)) ∈ gw := gw_in1 (List.mem_of_getElem? (i := 20) (by decide +kernel)) rfl
theorem tw_21 : (Jvm.Cond.code ({ cls := "java/lang/Object", name := "<init>", desc := "()V" } : Jvm.MethodName) object_method_1_code (1 : Nat) (Option.none : Option Jvm.ClassFile.FieldType)) ∈ gw := gw_in1 (List.mem_of_getElem? (i := 21) (rfl)) rfl
theorem tw_22 : (Jvm.Cond.classLink "ScrapHouse" (9 : Nat) "ScrapHouse$Ballot") ∈ gw := gw_in1 (List.mem_of_getElem? (i := 22) (by decide +kernel)) rfl
theorem tw_24 : (Jvm.Cond.classLink "ScrapHouse" (15 : Nat) "ScrapHouse$Child") ∈ gw := gw_in1 (List.mem_of_getElem? (i := 24) (by decide +kernel)) rfl
theorem tw_26 : (Jvm.Cond.classLink "ScrapHouse" (21 : Nat) "ScrapHouse$Nurse") ∈ gw := gw_in1 (List.mem_of_getElem? (i := 26) (by decide +kernel)) rfl
theorem tw_28 : (Jvm.Cond.classLink "ScrapHouse" (27 : Nat) "ScrapHouse$Text") ∈ gw := gw_in1 (List.mem_of_getElem? (i := 28) (by decide +kernel)) rfl
theorem tw_29 : (Jvm.Cond.instantiable "ScrapHouse$Text" (2 : Nat)) ∈ gw := gw_in1 (List.mem_of_getElem? (i := 29) (by decide +kernel)) rfl
theorem tw_31 : (Jvm.Cond.instanceMethod ({ cls := "ScrapHouse$Text", name := "<init>", desc := "()V" } : Jvm.MethodName)) ∈ gw := gw_in1 (List.mem_of_getElem? (i := 31) (by decide +kernel)) rfl
theorem tw_32 : (Jvm.Cond.code ({ cls := "ScrapHouse$Text", name := "<init>", desc := "()V" } : Jvm.MethodName) prog_10_method_1_code (1 : Nat) (Option.none : Option Jvm.ClassFile.FieldType)) ∈ gw := gw_in1 (List.mem_of_getElem? (i := 32) (rfl)) rfl
theorem tw_33 : (Jvm.Cond.methodLink "ScrapHouse$Text" (3 : Nat) ({ cls := "java/lang/Object", name := "<init>", desc := "()V" } : Jvm.MethodName)) ∈ gw := gw_in1 (List.mem_of_getElem? (i := 33) (by decide +kernel)) rfl
theorem tw_34 : (Jvm.Cond.fieldLink "ScrapHouse$Text" (9 : Nat) "ScrapHouse$Text" "bytes" "[B") ∈ gw := gw_in1 (List.mem_of_getElem? (i := 34) (by decide +kernel)) rfl
theorem tw_35 : (Jvm.Cond.fieldLink "ScrapHouse$Text" (15 : Nat) "ScrapHouse$Text" "length" "I") ∈ gw := gw_in1 (List.mem_of_getElem? (i := 35) (by decide +kernel)) rfl
theorem tw_36 : (Jvm.Cond.fieldLink "ScrapHouse$Reader" (78 : Nat) "ScrapHouse$Text" "length" "I") ∈ gw := gw_in1 (List.mem_of_getElem? (i := 36) (by decide +kernel)) rfl
theorem tw_37 : (Jvm.Cond.fieldLink "ScrapHouse" (175 : Nat) "ScrapHouse$Text" "length" "I") ∈ gw := gw_in1 (List.mem_of_getElem? (i := 37) (by decide +kernel)) rfl
theorem tw_38 : (Jvm.Cond.laysFinal "ScrapHouse$Text" "ScrapHouse$Text" "bytes" "[B") ∈ gw := gw_in1 (List.mem_of_getElem? (i := 38) (by decide +kernel)) rfl
theorem tw_40 : (Jvm.Cond.lays "ScrapHouse$Text" "ScrapHouse$Text" "length" "I") ∈ gw := gw_in1 (List.mem_of_getElem? (i := 40) (by decide +kernel)) rfl
theorem tw_43 : (Jvm.Cond.arrayClass Jvm.ClassFile.FieldType.byte) ∈ gw := gw_in1 (List.mem_of_getElem? (i := 43) (by decide +kernel)) rfl
theorem tw_44 : (Jvm.Cond.classLink "ScrapHouse" (37 : Nat) "ScrapHouse$Reader") ∈ gw := gw_in1 (List.mem_of_getElem? (i := 44) (by decide +kernel)) rfl
theorem tw_45 : (Jvm.Cond.instantiable "ScrapHouse$Reader" (4 : Nat)) ∈ gw := gw_in1 (List.mem_of_getElem? (i := 45) (by decide +kernel)) rfl
theorem tw_46 : (Jvm.Cond.methodLink "ScrapHouse" (39 : Nat) ({ cls := "ScrapHouse$Reader", name := "<init>", desc := "(LScrapHouse$Text;)V" } : Jvm.MethodName)) ∈ gw := gw_in1 (List.mem_of_getElem? (i := 46) (by decide +kernel)) rfl
theorem tw_47 : (Jvm.Cond.instanceMethod ({ cls := "ScrapHouse$Reader", name := "<init>", desc := "(LScrapHouse$Text;)V" } : Jvm.MethodName)) ∈ gw := gw_in1 (List.mem_of_getElem? (i := 47) (by decide +kernel)) rfl
theorem tw_48 : (Jvm.Cond.code ({ cls := "ScrapHouse$Reader", name := "<init>", desc := "(LScrapHouse$Text;)V" } : Jvm.MethodName) prog_9_method_1_code (2 : Nat) (Option.none : Option Jvm.ClassFile.FieldType)) ∈ gw := gw_in1 (List.mem_of_getElem? (i := 48) (rfl)) rfl
theorem tw_49 : (Jvm.Cond.methodLink "ScrapHouse$Reader" (3 : Nat) ({ cls := "java/lang/Object", name := "<init>", desc := "()V" } : Jvm.MethodName)) ∈ gw := gw_in1 (List.mem_of_getElem? (i := 49) (by decide +kernel)) rfl
theorem tw_50 : (Jvm.Cond.fieldLink "ScrapHouse$Reader" (9 : Nat) "ScrapHouse$Reader" "LETTERS" "[C") ∈ gw := gw_in1 (List.mem_of_getElem? (i := 50) (by decide +kernel)) rfl
theorem tw_52 : (Jvm.Cond.fieldLink "ScrapHouse$Reader" (15 : Nat) "ScrapHouse$Reader" "values" "[I") ∈ gw := gw_in1 (List.mem_of_getElem? (i := 52) (by decide +kernel)) rfl
theorem tw_53 : (Jvm.Cond.fieldLink "ScrapHouse" (257 : Nat) "ScrapHouse$Reader" "values" "[I") ∈ gw := gw_in1 (List.mem_of_getElem? (i := 53) (by decide +kernel)) rfl
theorem tw_54 : (Jvm.Cond.fieldLink "ScrapHouse$Reader" (19 : Nat) "ScrapHouse$Reader" "text" "LScrapHouse$Text;") ∈ gw := gw_in1 (List.mem_of_getElem? (i := 54) (by decide +kernel)) rfl
theorem tw_55 : (Jvm.Cond.fieldLink "ScrapHouse$Reader" (31 : Nat) "ScrapHouse$Reader" "at" "I") ∈ gw := gw_in1 (List.mem_of_getElem? (i := 55) (by decide +kernel)) rfl
theorem tw_56 : (Jvm.Cond.fieldLink "ScrapHouse$Reader" (27 : Nat) "ScrapHouse$Reader" "failedAt" "I") ∈ gw := gw_in1 (List.mem_of_getElem? (i := 56) (by decide +kernel)) rfl
theorem tw_57 : (Jvm.Cond.laysFinal "ScrapHouse$Reader" "ScrapHouse$Reader" "values" "[I") ∈ gw := gw_in1 (List.mem_of_getElem? (i := 57) (by decide +kernel)) rfl
theorem tw_59 : (Jvm.Cond.lays "ScrapHouse$Reader" "ScrapHouse$Reader" "text" "LScrapHouse$Text;") ∈ gw := gw_in1 (List.mem_of_getElem? (i := 59) (by decide +kernel)) rfl
theorem tw_61 : (Jvm.Cond.lays "ScrapHouse$Reader" "ScrapHouse$Reader" "at" "I") ∈ gw := gw_in1 (List.mem_of_getElem? (i := 61) (by decide +kernel)) rfl
theorem tw_63 : (Jvm.Cond.lays "ScrapHouse$Reader" "ScrapHouse$Reader" "failedAt" "I") ∈ gw := gw_in1 (List.mem_of_getElem? (i := 63) (by decide +kernel)) rfl
theorem tw_66 : (Jvm.Cond.arrayClass Jvm.ClassFile.FieldType.int) ∈ gw := gw_in1 (List.mem_of_getElem? (i := 66) (by decide +kernel)) rfl
theorem tw_67 : (Jvm.Cond.instantiable "ScrapHouse$Nurse" (2 : Nat)) ∈ gw := gw_in1 (List.mem_of_getElem? (i := 67) (by decide +kernel)) rfl
theorem tw_69 : (Jvm.Cond.instanceMethod ({ cls := "ScrapHouse$Nurse", name := "<init>", desc := "()V" } : Jvm.MethodName)) ∈ gw := gw_in1 (List.mem_of_getElem? (i := 69) (by decide +kernel)) rfl
theorem tw_70 : (Jvm.Cond.code ({ cls := "ScrapHouse$Nurse", name := "<init>", desc := "()V" } : Jvm.MethodName) prog_8_method_1_code (1 : Nat) (Option.none : Option Jvm.ClassFile.FieldType)) ∈ gw := gw_in1 (List.mem_of_getElem? (i := 70) (rfl)) rfl
theorem tw_71 : (Jvm.Cond.methodLink "ScrapHouse$Nurse" (1 : Nat) ({ cls := "java/lang/Object", name := "<init>", desc := "()V" } : Jvm.MethodName)) ∈ gw := gw_in1 (List.mem_of_getElem? (i := 71) (by decide +kernel)) rfl
theorem tw_72 : (Jvm.Cond.fieldLink "ScrapHouse$Nurse" (9 : Nat) "ScrapHouse$Nurse" "bedCount" "I") ∈ gw := gw_in1 (List.mem_of_getElem? (i := 72) (by decide +kernel)) rfl
theorem tw_73 : (Jvm.Cond.fieldLink "ScrapHouse" (97 : Nat) "ScrapHouse$Nurse" "bedCount" "I") ∈ gw := gw_in1 (List.mem_of_getElem? (i := 73) (by decide +kernel)) rfl
theorem tw_74 : (Jvm.Cond.fieldLink "ScrapHouse" (139 : Nat) "ScrapHouse$Nurse" "latest" "LScrapHouse$Look;") ∈ gw := gw_in1 (List.mem_of_getElem? (i := 74) (by decide +kernel)) rfl
theorem tw_75 : (Jvm.Cond.lays "ScrapHouse$Nurse" "ScrapHouse$Nurse" "bedCount" "I") ∈ gw := gw_in1 (List.mem_of_getElem? (i := 75) (by decide +kernel)) rfl
theorem tw_77 : (Jvm.Cond.lays "ScrapHouse$Nurse" "ScrapHouse$Nurse" "latest" "LScrapHouse$Look;") ∈ gw := gw_in1 (List.mem_of_getElem? (i := 77) (by decide +kernel)) rfl
theorem tw_80 : (Jvm.Cond.fieldLink "ScrapHouse" (51 : Nat) "ScrapHouse" "now" "I") ∈ gw := gw_in1 (List.mem_of_getElem? (i := 80) (by decide +kernel)) rfl
theorem tw_81 : (Jvm.Cond.fieldLink "ScrapHouse" (55 : Nat) "ScrapHouse" "ballotCount" "I") ∈ gw := gw_in1 (List.mem_of_getElem? (i := 81) (by decide +kernel)) rfl
theorem tw_82 : (Jvm.Cond.fieldLink "ScrapHouse" (78 : Nat) "ScrapHouse" "childCount" "I") ∈ gw := gw_in1 (List.mem_of_getElem? (i := 82) (by decide +kernel)) rfl
theorem tw_83 : (Jvm.Cond.fieldLink "ScrapHouse" (111 : Nat) "ScrapHouse" "moveCount" "I") ∈ gw := gw_in1 (List.mem_of_getElem? (i := 83) (by decide +kernel)) rfl
theorem tw_84 : (Jvm.Cond.fieldLink "ScrapHouse" (149 : Nat) "ScrapHouse" "lookCount" "I") ∈ gw := gw_in1 (List.mem_of_getElem? (i := 84) (by decide +kernel)) rfl
theorem tw_85 : (Jvm.Cond.fieldLink "ScrapHouse" (186 : Nat) "ScrapHouse" "ruleCount" "I") ∈ gw := gw_in1 (List.mem_of_getElem? (i := 85) (by decide +kernel)) rfl
theorem tw_86 : (Jvm.Cond.fieldLink "ScrapHouse" (11 : Nat) "ScrapHouse" "ballots" "[LScrapHouse$Ballot;") ∈ gw := gw_in1 (List.mem_of_getElem? (i := 86) (by decide +kernel)) rfl
theorem tw_87 : (Jvm.Cond.fieldLink "ScrapHouse" (17 : Nat) "ScrapHouse" "children" "[LScrapHouse$Child;") ∈ gw := gw_in1 (List.mem_of_getElem? (i := 87) (by decide +kernel)) rfl
theorem tw_88 : (Jvm.Cond.fieldLink "ScrapHouse" (23 : Nat) "ScrapHouse" "nurses" "[LScrapHouse$Nurse;") ∈ gw := gw_in1 (List.mem_of_getElem? (i := 88) (by decide +kernel)) rfl
theorem tw_89 : (Jvm.Cond.fieldLink "ScrapHouse" (30 : Nat) "ScrapHouse" "tape" "LScrapHouse$Text;") ∈ gw := gw_in1 (List.mem_of_getElem? (i := 89) (by decide +kernel)) rfl
theorem tw_90 : (Jvm.Cond.fieldLink "ScrapHouse" (34 : Nat) "ScrapHouse" "inForce" "LScrapHouse$Text;") ∈ gw := gw_in1 (List.mem_of_getElem? (i := 90) (by decide +kernel)) rfl
theorem tw_91 : (Jvm.Cond.fieldLink "ScrapHouse" (42 : Nat) "ScrapHouse" "reader" "LScrapHouse$Reader;") ∈ gw := gw_in1 (List.mem_of_getElem? (i := 91) (by decide +kernel)) rfl
theorem tw_92 : (Jvm.Cond.lays "ScrapHouse" "ScrapHouse" "now" "I") ∈ gw := gw_in1 (List.mem_of_getElem? (i := 92) (by decide +kernel)) rfl
theorem tw_94 : (Jvm.Cond.lays "ScrapHouse" "ScrapHouse" "ballotCount" "I") ∈ gw := gw_in1 (List.mem_of_getElem? (i := 94) (by decide +kernel)) rfl
theorem tw_96 : (Jvm.Cond.lays "ScrapHouse" "ScrapHouse" "childCount" "I") ∈ gw := gw_in1 (List.mem_of_getElem? (i := 96) (by decide +kernel)) rfl
theorem tw_98 : (Jvm.Cond.lays "ScrapHouse" "ScrapHouse" "moveCount" "I") ∈ gw := gw_in1 (List.mem_of_getElem? (i := 98) (by decide +kernel)) rfl
theorem tw_100 : (Jvm.Cond.lays "ScrapHouse" "ScrapHouse" "lookCount" "I") ∈ gw := gw_in1 (List.mem_of_getElem? (i := 100) (by decide +kernel)) rfl
theorem tw_102 : (Jvm.Cond.lays "ScrapHouse" "ScrapHouse" "ruleCount" "I") ∈ gw := gw_in1 (List.mem_of_getElem? (i := 102) (by decide +kernel)) rfl
theorem tw_104 : (Jvm.Cond.laysFinal "ScrapHouse" "ScrapHouse" "ballots" "[LScrapHouse$Ballot;") ∈ gw := gw_in1 (List.mem_of_getElem? (i := 104) (by decide +kernel)) rfl
theorem tw_106 : (Jvm.Cond.laysFinal "ScrapHouse" "ScrapHouse" "children" "[LScrapHouse$Child;") ∈ gw := gw_in1 (List.mem_of_getElem? (i := 106) (by decide +kernel)) rfl
theorem tw_108 : (Jvm.Cond.laysFinal "ScrapHouse" "ScrapHouse" "nurses" "[LScrapHouse$Nurse;") ∈ gw := gw_in1 (List.mem_of_getElem? (i := 108) (by decide +kernel)) rfl
theorem tw_110 : (Jvm.Cond.lays "ScrapHouse" "ScrapHouse" "tape" "LScrapHouse$Text;") ∈ gw := gw_in1 (List.mem_of_getElem? (i := 110) (by decide +kernel)) rfl
theorem tw_112 : (Jvm.Cond.lays "ScrapHouse" "ScrapHouse" "inForce" "LScrapHouse$Text;") ∈ gw := gw_in1 (List.mem_of_getElem? (i := 112) (by decide +kernel)) rfl
theorem tw_114 : (Jvm.Cond.laysFinal "ScrapHouse" "ScrapHouse" "reader" "LScrapHouse$Reader;") ∈ gw := gw_in1 (List.mem_of_getElem? (i := 114) (by decide +kernel)) rfl
theorem tw_117 : (Jvm.Cond.methodLink "ScrapHouseLaw" (13 : Nat) ({ cls := "ScrapHouse", name := "days", desc := "(I)I" } : Jvm.MethodName)) ∈ gw := gw_in1 (List.mem_of_getElem? (i := 117) (by decide +kernel)) rfl
theorem tw_118 : (Jvm.Cond.instanceMethod ({ cls := "ScrapHouse", name := "days", desc := "(I)I" } : Jvm.MethodName)) ∈ gw := gw_in1 (List.mem_of_getElem? (i := 118) (by decide +kernel)) rfl
theorem tw_119 : (Jvm.Cond.selects "ScrapHouse" ({ cls := "ScrapHouse", name := "days", desc := "(I)I" } : Jvm.MethodName) ({ cls := "ScrapHouse", name := "days", desc := "(I)I" } : Jvm.MethodName)) ∈ gw := gw_in1 (List.mem_of_getElem? (i := 119) (by decide +kernel)) rfl
theorem tw_120 : (Jvm.Cond.code ({ cls := "ScrapHouse", name := "days", desc := "(I)I" } : Jvm.MethodName) prog_1_method_2_code (2 : Nat) (Option.some Jvm.ClassFile.FieldType.int)) ∈ gw := gw_in1 (List.mem_of_getElem? (i := 120) (rfl)) rfl
theorem tw_121 : (Jvm.Cond.methodLink "ScrapHouse" (47 : Nat) ({ cls := "ScrapHouse", name := "within", desc := "(III)Z" } : Jvm.MethodName)) ∈ gw := gw_in1 (List.mem_of_getElem? (i := 121) (by decide +kernel)) rfl
theorem tw_122 : (Jvm.Cond.static ({ cls := "ScrapHouse", name := "within", desc := "(III)Z" } : Jvm.MethodName)) ∈ gw := gw_in1 (List.mem_of_getElem? (i := 122) (by decide +kernel)) rfl
theorem tw_123 : (Jvm.Cond.code ({ cls := "ScrapHouse", name := "within", desc := "(III)Z" } : Jvm.MethodName) prog_1_method_26_code (3 : Nat) (Option.some Jvm.ClassFile.FieldType.boolean)) ∈ gw := gw_in1 (List.mem_of_getElem? (i := 123) (rfl)) rfl
theorem tw_124 : (Jvm.Cond.methodLink "ScrapHouseLaw" (20 : Nat) ({ cls := "ScrapHouse", name := "ballot", desc := "(IIIJ)I" } : Jvm.MethodName)) ∈ gw := gw_in1 (List.mem_of_getElem? (i := 124) (by decide +kernel)) rfl
theorem tw_125 : (Jvm.Cond.instanceMethod ({ cls := "ScrapHouse", name := "ballot", desc := "(IIIJ)I" } : Jvm.MethodName)) ∈ gw := gw_in1 (List.mem_of_getElem? (i := 125) (by decide +kernel)) rfl
theorem tw_126 : (Jvm.Cond.selects "ScrapHouse" ({ cls := "ScrapHouse", name := "ballot", desc := "(IIIJ)I" } : Jvm.MethodName) ({ cls := "ScrapHouse", name := "ballot", desc := "(IIIJ)I" } : Jvm.MethodName)) ∈ gw := gw_in1 (List.mem_of_getElem? (i := 126) (by decide +kernel)) rfl
theorem tw_127 : (Jvm.Cond.code ({ cls := "ScrapHouse", name := "ballot", desc := "(IIIJ)I" } : Jvm.MethodName) prog_1_method_3_code (6 : Nat) (Option.some Jvm.ClassFile.FieldType.int)) ∈ gw := gw_in1 (List.mem_of_getElem? (i := 127) (rfl)) rfl
theorem tw_128 : (Jvm.Cond.instantiable "ScrapHouse$Ballot" (1 : Nat)) ∈ gw := gw_in1 (List.mem_of_getElem? (i := 128) (by decide +kernel)) rfl
theorem tw_129 : (Jvm.Cond.methodLink "ScrapHouse" (58 : Nat) ({ cls := "ScrapHouse$Ballot", name := "<init>", desc := "(IIIJ)V" } : Jvm.MethodName)) ∈ gw := gw_in1 (List.mem_of_getElem? (i := 129) (by decide +kernel)) rfl
theorem tw_130 : (Jvm.Cond.instanceMethod ({ cls := "ScrapHouse$Ballot", name := "<init>", desc := "(IIIJ)V" } : Jvm.MethodName)) ∈ gw := gw_in1 (List.mem_of_getElem? (i := 130) (by decide +kernel)) rfl
theorem tw_131 : (Jvm.Cond.code ({ cls := "ScrapHouse$Ballot", name := "<init>", desc := "(IIIJ)V" } : Jvm.MethodName) prog_2_method_1_code (12 : Nat) (Option.none : Option Jvm.ClassFile.FieldType)) ∈ gw := gw_in1 (List.mem_of_getElem? (i := 131) (rfl)) rfl
theorem tw_132 : (Jvm.Cond.methodLink "ScrapHouse$Ballot" (3 : Nat) ({ cls := "java/lang/Object", name := "<init>", desc := "()V" } : Jvm.MethodName)) ∈ gw := gw_in1 (List.mem_of_getElem? (i := 132) (by decide +kernel)) rfl
theorem tw_133 : (Jvm.Cond.methodLink "ScrapHouse$Ballot" (9 : Nat) ({ cls := "ScrapHouse$Ballot", name := "kindOf", desc := "(III)I" } : Jvm.MethodName)) ∈ gw := gw_in1 (List.mem_of_getElem? (i := 133) (by decide +kernel)) rfl
theorem tw_134 : (Jvm.Cond.static ({ cls := "ScrapHouse$Ballot", name := "kindOf", desc := "(III)I" } : Jvm.MethodName)) ∈ gw := gw_in1 (List.mem_of_getElem? (i := 134) (by decide +kernel)) rfl
theorem tw_135 : (Jvm.Cond.code ({ cls := "ScrapHouse$Ballot", name := "kindOf", desc := "(III)I" } : Jvm.MethodName) prog_2_method_2_code (3 : Nat) (Option.some Jvm.ClassFile.FieldType.int)) ∈ gw := gw_in1 (List.mem_of_getElem? (i := 135) (rfl)) rfl
theorem tw_136 : (Jvm.Cond.constantLong "ScrapHouse$Ballot" (19 : Nat) (6364136223846793005 : Int64)) ∈ gw := gw_in1 (List.mem_of_getElem? (i := 136) (by decide +kernel)) rfl
theorem tw_137 : (Jvm.Cond.constantLong "ScrapHouse$Ballot" (21 : Nat) (1442695040888963407 : Int64)) ∈ gw := gw_in1 (List.mem_of_getElem? (i := 137) (by decide +kernel)) rfl
theorem tw_138 : (Jvm.Cond.methodLink "ScrapHouse$Ballot" (23 : Nat) ({ cls := "java/lang/System", name := "arraycopy", desc := "(Ljava/lang/Object;ILjava/lang/Object;II)V" } : Jvm.MethodName)) ∈ gw := gw_in1 (List.mem_of_getElem? (i := 138) (by decide +kernel)) rfl
theorem tw_139 : (Jvm.Cond.static ({ cls := "java/lang/System", name := "arraycopy", desc := "(Ljava/lang/Object;ILjava/lang/Object;II)V" } : Jvm.MethodName)) ∈ gw := gw_in1 (List.mem_of_getElem? (i := 139) (by decide +kernel)) rfl
theorem tw_140 : (Jvm.Cond.native ({ cls := "java/lang/System", name := "arraycopy", desc := "(Ljava/lang/Object;ILjava/lang/Object;II)V" } : Jvm.MethodName)) ∈ gw := gw_in1 (List.mem_of_getElem? (i := 140) (by decide +kernel)) rfl
theorem tw_141 : (Jvm.Cond.fieldLink "ScrapHouse$Ballot" (15 : Nat) "ScrapHouse$Ballot" "has" "[I") ∈ gw := gw_in1 (List.mem_of_getElem? (i := 141) (by decide +kernel)) rfl
theorem tw_142 : (Jvm.Cond.laysFinal "ScrapHouse$Ballot" "ScrapHouse$Ballot" "has" "[I") ∈ gw := gw_in1 (List.mem_of_getElem? (i := 142) (by decide +kernel)) rfl
theorem tw_145 : (Jvm.Cond.methodLink "ScrapHouseLaw" (25 : Nat) ({ cls := "ScrapHouse", name := "ball", desc := "(II)I" } : Jvm.MethodName)) ∈ gw := gw_in1 (List.mem_of_getElem? (i := 145) (by decide +kernel)) rfl
theorem tw_146 : (Jvm.Cond.instanceMethod ({ cls := "ScrapHouse", name := "ball", desc := "(II)I" } : Jvm.MethodName)) ∈ gw := gw_in1 (List.mem_of_getElem? (i := 146) (by decide +kernel)) rfl
theorem tw_147 : (Jvm.Cond.selects "ScrapHouse" ({ cls := "ScrapHouse", name := "ball", desc := "(II)I" } : Jvm.MethodName) ({ cls := "ScrapHouse", name := "ball", desc := "(II)I" } : Jvm.MethodName)) ∈ gw := gw_in1 (List.mem_of_getElem? (i := 147) (by decide +kernel)) rfl
theorem tw_148 : (Jvm.Cond.code ({ cls := "ScrapHouse", name := "ball", desc := "(II)I" } : Jvm.MethodName) prog_1_method_4_code (4 : Nat) (Option.some Jvm.ClassFile.FieldType.int)) ∈ gw := gw_in1 (List.mem_of_getElem? (i := 148) (rfl)) rfl
theorem tw_149 : (Jvm.Cond.methodLink "ScrapHouse" (61 : Nat) ({ cls := "ScrapHouse", name := "findBallot", desc := "(I)LScrapHouse$Ballot;" } : Jvm.MethodName)) ∈ gw := gw_in1 (List.mem_of_getElem? (i := 149) (by decide +kernel)) rfl
theorem tw_151 : (Jvm.Cond.instanceMethod ({ cls := "ScrapHouse", name := "findBallot", desc := "(I)LScrapHouse$Ballot;" } : Jvm.MethodName)) ∈ gw := gw_in1 (List.mem_of_getElem? (i := 151) (by decide +kernel)) rfl
theorem tw_152 : (Jvm.Cond.code ({ cls := "ScrapHouse", name := "findBallot", desc := "(I)LScrapHouse$Ballot;" } : Jvm.MethodName) prog_1_method_31_code (2 : Nat) (Option.some (Jvm.ClassFile.FieldType.object "ScrapHouse$Ballot"))) ∈ gw := gw_in1 (List.mem_of_getElem? (i := 152) (rfl)) rfl
theorem tw_153 : (Jvm.Cond.methodLink "ScrapHouse" (65 : Nat) ({ cls := "ScrapHouse$Ballot", name := "ballOf", desc := "(I)I" } : Jvm.MethodName)) ∈ gw := gw_in1 (List.mem_of_getElem? (i := 153) (by decide +kernel)) rfl
theorem tw_154 : (Jvm.Cond.instanceMethod ({ cls := "ScrapHouse$Ballot", name := "ballOf", desc := "(I)I" } : Jvm.MethodName)) ∈ gw := gw_in1 (List.mem_of_getElem? (i := 154) (by decide +kernel)) rfl
theorem tw_155 : (Jvm.Cond.selects "ScrapHouse$Ballot" ({ cls := "ScrapHouse$Ballot", name := "ballOf", desc := "(I)I" } : Jvm.MethodName) ({ cls := "ScrapHouse$Ballot", name := "ballOf", desc := "(I)I" } : Jvm.MethodName)) ∈ gw := gw_in1 (List.mem_of_getElem? (i := 155) (by decide +kernel)) rfl
theorem tw_156 : (Jvm.Cond.code ({ cls := "ScrapHouse$Ballot", name := "ballOf", desc := "(I)I" } : Jvm.MethodName) prog_2_method_3_code (2 : Nat) (Option.some Jvm.ClassFile.FieldType.int)) ∈ gw := gw_in1 (List.mem_of_getElem? (i := 156) (rfl)) rfl
theorem tw_158 : (Jvm.Cond.methodLink "ScrapHouseLaw" (30 : Nat) ({ cls := "ScrapHouse", name := "away", desc := "(II)I" } : Jvm.MethodName)) ∈ gw := gw_in1 (List.mem_of_getElem? (i := 158) (by decide +kernel)) rfl
theorem tw_159 : (Jvm.Cond.instanceMethod ({ cls := "ScrapHouse", name := "away", desc := "(II)I" } : Jvm.MethodName)) ∈ gw := gw_in1 (List.mem_of_getElem? (i := 159) (by decide +kernel)) rfl
theorem tw_160 : (Jvm.Cond.selects "ScrapHouse" ({ cls := "ScrapHouse", name := "away", desc := "(II)I" } : Jvm.MethodName) ({ cls := "ScrapHouse", name := "away", desc := "(II)I" } : Jvm.MethodName)) ∈ gw := gw_in1 (List.mem_of_getElem? (i := 160) (by decide +kernel)) rfl
theorem tw_161 : (Jvm.Cond.code ({ cls := "ScrapHouse", name := "away", desc := "(II)I" } : Jvm.MethodName) prog_1_method_5_code (4 : Nat) (Option.some Jvm.ClassFile.FieldType.int)) ∈ gw := gw_in1 (List.mem_of_getElem? (i := 161) (rfl)) rfl
theorem tw_162 : (Jvm.Cond.methodLink "ScrapHouse" (69 : Nat) ({ cls := "ScrapHouse$Ballot", name := "sendAway", desc := "(I)I" } : Jvm.MethodName)) ∈ gw := gw_in1 (List.mem_of_getElem? (i := 162) (by decide +kernel)) rfl
theorem tw_163 : (Jvm.Cond.instanceMethod ({ cls := "ScrapHouse$Ballot", name := "sendAway", desc := "(I)I" } : Jvm.MethodName)) ∈ gw := gw_in1 (List.mem_of_getElem? (i := 163) (by decide +kernel)) rfl
theorem tw_164 : (Jvm.Cond.selects "ScrapHouse$Ballot" ({ cls := "ScrapHouse$Ballot", name := "sendAway", desc := "(I)I" } : Jvm.MethodName) ({ cls := "ScrapHouse$Ballot", name := "sendAway", desc := "(I)I" } : Jvm.MethodName)) ∈ gw := gw_in1 (List.mem_of_getElem? (i := 164) (by decide +kernel)) rfl
theorem tw_165 : (Jvm.Cond.code ({ cls := "ScrapHouse$Ballot", name := "sendAway", desc := "(I)I" } : Jvm.MethodName) prog_2_method_5_code (3 : Nat) (Option.some Jvm.ClassFile.FieldType.int)) ∈ gw := gw_in1 (List.mem_of_getElem? (i := 165) (rfl)) rfl
theorem tw_166 : (Jvm.Cond.methodLink "ScrapHouse$Ballot" (33 : Nat) ({ cls := "ScrapHouse$Ballot", name := "give", desc := "(II)V" } : Jvm.MethodName)) ∈ gw := gw_in1 (List.mem_of_getElem? (i := 166) (by decide +kernel)) rfl
theorem tw_167 : (Jvm.Cond.instanceMethod ({ cls := "ScrapHouse$Ballot", name := "give", desc := "(II)V" } : Jvm.MethodName)) ∈ gw := gw_in1 (List.mem_of_getElem? (i := 167) (by decide +kernel)) rfl
theorem tw_168 : (Jvm.Cond.selects "ScrapHouse$Ballot" ({ cls := "ScrapHouse$Ballot", name := "give", desc := "(II)V" } : Jvm.MethodName) ({ cls := "ScrapHouse$Ballot", name := "give", desc := "(II)V" } : Jvm.MethodName)) ∈ gw := gw_in1 (List.mem_of_getElem? (i := 168) (by decide +kernel)) rfl
theorem tw_169 : (Jvm.Cond.code ({ cls := "ScrapHouse$Ballot", name := "give", desc := "(II)V" } : Jvm.MethodName) prog_2_method_4_code (3 : Nat) (Option.none : Option Jvm.ClassFile.FieldType)) ∈ gw := gw_in1 (List.mem_of_getElem? (i := 169) (rfl)) rfl
theorem tw_170 : (Jvm.Cond.methodLink "ScrapHouseLaw" (34 : Nat) ({ cls := "ScrapHouse", name := "leave", desc := "(IIIIII)I" } : Jvm.MethodName)) ∈ gw := gw_in1 (List.mem_of_getElem? (i := 170) (by decide +kernel)) rfl
theorem tw_171 : (Jvm.Cond.instanceMethod ({ cls := "ScrapHouse", name := "leave", desc := "(IIIIII)I" } : Jvm.MethodName)) ∈ gw := gw_in1 (List.mem_of_getElem? (i := 171) (by decide +kernel)) rfl
theorem tw_172 : (Jvm.Cond.selects "ScrapHouse" ({ cls := "ScrapHouse", name := "leave", desc := "(IIIIII)I" } : Jvm.MethodName) ({ cls := "ScrapHouse", name := "leave", desc := "(IIIIII)I" } : Jvm.MethodName)) ∈ gw := gw_in1 (List.mem_of_getElem? (i := 172) (by decide +kernel)) rfl
theorem tw_173 : (Jvm.Cond.code ({ cls := "ScrapHouse", name := "leave", desc := "(IIIIII)I" } : Jvm.MethodName) prog_1_method_6_code (8 : Nat) (Option.some Jvm.ClassFile.FieldType.int)) ∈ gw := gw_in1 (List.mem_of_getElem? (i := 173) (rfl)) rfl
theorem tw_174 : (Jvm.Cond.methodLink "ScrapHouse" (72 : Nat) ({ cls := "ScrapHouse$Half", name := "canBe", desc := "(II)Z" } : Jvm.MethodName)) ∈ gw := gw_in1 (List.mem_of_getElem? (i := 174) (by decide +kernel)) rfl
theorem tw_175 : (Jvm.Cond.static ({ cls := "ScrapHouse$Half", name := "canBe", desc := "(II)Z" } : Jvm.MethodName)) ∈ gw := gw_in1 (List.mem_of_getElem? (i := 175) (by decide +kernel)) rfl
theorem tw_176 : (Jvm.Cond.code ({ cls := "ScrapHouse$Half", name := "canBe", desc := "(II)Z" } : Jvm.MethodName) prog_5_method_2_code (2 : Nat) (Option.some Jvm.ClassFile.FieldType.boolean)) ∈ gw := gw_in1 (List.mem_of_getElem? (i := 176) (rfl)) rfl
theorem tw_177 : (Jvm.Cond.constant "ScrapHouse$Half" (16 : Nat) (16777215 : Int32)) ∈ gw := gw_in1 (List.mem_of_getElem? (i := 177) (by decide +kernel)) rfl
theorem tw_179 : (Jvm.Cond.methodLink "ScrapHouse" (81 : Nat) ({ cls := "ScrapHouse$Ballot", name := "give", desc := "(II)V" } : Jvm.MethodName)) ∈ gw := gw_in1 (List.mem_of_getElem? (i := 179) (by decide +kernel)) rfl
theorem tw_180 : (Jvm.Cond.instantiable "ScrapHouse$Child" (10 : Nat)) ∈ gw := gw_in1 (List.mem_of_getElem? (i := 180) (by decide +kernel)) rfl
theorem tw_181 : (Jvm.Cond.classLink "ScrapHouse" (73 : Nat) "ScrapHouse$Half") ∈ gw := gw_in1 (List.mem_of_getElem? (i := 181) (by decide +kernel)) rfl
theorem tw_182 : (Jvm.Cond.instantiable "ScrapHouse$Half" (2 : Nat)) ∈ gw := gw_in1 (List.mem_of_getElem? (i := 182) (by decide +kernel)) rfl
theorem tw_183 : (Jvm.Cond.methodLink "ScrapHouse" (85 : Nat) ({ cls := "ScrapHouse$Half", name := "<init>", desc := "(II)V" } : Jvm.MethodName)) ∈ gw := gw_in1 (List.mem_of_getElem? (i := 183) (by decide +kernel)) rfl
theorem tw_184 : (Jvm.Cond.instanceMethod ({ cls := "ScrapHouse$Half", name := "<init>", desc := "(II)V" } : Jvm.MethodName)) ∈ gw := gw_in1 (List.mem_of_getElem? (i := 184) (by decide +kernel)) rfl
theorem tw_185 : (Jvm.Cond.code ({ cls := "ScrapHouse$Half", name := "<init>", desc := "(II)V" } : Jvm.MethodName) prog_5_method_1_code (3 : Nat) (Option.none : Option Jvm.ClassFile.FieldType)) ∈ gw := gw_in1 (List.mem_of_getElem? (i := 185) (rfl)) rfl
theorem tw_186 : (Jvm.Cond.methodLink "ScrapHouse$Half" (1 : Nat) ({ cls := "java/lang/Object", name := "<init>", desc := "()V" } : Jvm.MethodName)) ∈ gw := gw_in1 (List.mem_of_getElem? (i := 186) (by decide +kernel)) rfl
theorem tw_187 : (Jvm.Cond.fieldLink "ScrapHouse$Half" (7 : Nat) "ScrapHouse$Half" "edge" "I") ∈ gw := gw_in1 (List.mem_of_getElem? (i := 187) (by decide +kernel)) rfl
theorem tw_188 : (Jvm.Cond.fieldLink "ScrapHouse" (217 : Nat) "ScrapHouse$Half" "edge" "I") ∈ gw := gw_in1 (List.mem_of_getElem? (i := 188) (by decide +kernel)) rfl
theorem tw_189 : (Jvm.Cond.fieldLink "ScrapHouse$Half" (13 : Nat) "ScrapHouse$Half" "threads" "I") ∈ gw := gw_in1 (List.mem_of_getElem? (i := 189) (by decide +kernel)) rfl
theorem tw_190 : (Jvm.Cond.fieldLink "ScrapHouse" (220 : Nat) "ScrapHouse$Half" "threads" "I") ∈ gw := gw_in1 (List.mem_of_getElem? (i := 190) (by decide +kernel)) rfl
theorem tw_191 : (Jvm.Cond.laysFinal "ScrapHouse$Half" "ScrapHouse$Half" "edge" "I") ∈ gw := gw_in1 (List.mem_of_getElem? (i := 191) (by decide +kernel)) rfl
theorem tw_193 : (Jvm.Cond.laysFinal "ScrapHouse$Half" "ScrapHouse$Half" "threads" "I") ∈ gw := gw_in1 (List.mem_of_getElem? (i := 193) (by decide +kernel)) rfl
theorem tw_196 : (Jvm.Cond.methodLink "ScrapHouse" (87 : Nat) ({ cls := "ScrapHouse$Child", name := "<init>", desc := "(IIILScrapHouse$Half;II)V" } : Jvm.MethodName)) ∈ gw := gw_in1 (List.mem_of_getElem? (i := 196) (by decide +kernel)) rfl
theorem tw_197 : (Jvm.Cond.instanceMethod ({ cls := "ScrapHouse$Child", name := "<init>", desc := "(IIILScrapHouse$Half;II)V" } : Jvm.MethodName)) ∈ gw := gw_in1 (List.mem_of_getElem? (i := 197) (by decide +kernel)) rfl
theorem tw_198 : (Jvm.Cond.code ({ cls := "ScrapHouse$Child", name := "<init>", desc := "(IIILScrapHouse$Half;II)V" } : Jvm.MethodName) prog_3_method_1_code (7 : Nat) (Option.none : Option Jvm.ClassFile.FieldType)) ∈ gw := gw_in1 (List.mem_of_getElem? (i := 198) (rfl)) rfl
theorem tw_199 : (Jvm.Cond.methodLink "ScrapHouse$Child" (3 : Nat) ({ cls := "java/lang/Object", name := "<init>", desc := "()V" } : Jvm.MethodName)) ∈ gw := gw_in1 (List.mem_of_getElem? (i := 199) (by decide +kernel)) rfl
theorem tw_200 : (Jvm.Cond.classLink "ScrapHouse$Child" (34 : Nat) "ScrapHouse$Move") ∈ gw := gw_in1 (List.mem_of_getElem? (i := 200) (by decide +kernel)) rfl
theorem tw_201 : (Jvm.Cond.instantiable "ScrapHouse$Move" (4 : Nat)) ∈ gw := gw_in1 (List.mem_of_getElem? (i := 201) (by decide +kernel)) rfl
theorem tw_202 : (Jvm.Cond.methodLink "ScrapHouse$Child" (36 : Nat) ({ cls := "ScrapHouse$Move", name := "<init>", desc := "(III)V" } : Jvm.MethodName)) ∈ gw := gw_in1 (List.mem_of_getElem? (i := 202) (by decide +kernel)) rfl
theorem tw_203 : (Jvm.Cond.instanceMethod ({ cls := "ScrapHouse$Move", name := "<init>", desc := "(III)V" } : Jvm.MethodName)) ∈ gw := gw_in1 (List.mem_of_getElem? (i := 203) (by decide +kernel)) rfl
theorem tw_204 : (Jvm.Cond.code ({ cls := "ScrapHouse$Move", name := "<init>", desc := "(III)V" } : Jvm.MethodName) prog_7_method_1_code (4 : Nat) (Option.none : Option Jvm.ClassFile.FieldType)) ∈ gw := gw_in1 (List.mem_of_getElem? (i := 204) (rfl)) rfl
theorem tw_205 : (Jvm.Cond.methodLink "ScrapHouse$Move" (1 : Nat) ({ cls := "java/lang/Object", name := "<init>", desc := "()V" } : Jvm.MethodName)) ∈ gw := gw_in1 (List.mem_of_getElem? (i := 205) (by decide +kernel)) rfl
theorem tw_206 : (Jvm.Cond.fieldLink "ScrapHouse$Move" (7 : Nat) "ScrapHouse$Move" "place" "I") ∈ gw := gw_in1 (List.mem_of_getElem? (i := 206) (by decide +kernel)) rfl
theorem tw_207 : (Jvm.Cond.fieldLink "ScrapHouse$Child" (55 : Nat) "ScrapHouse$Move" "place" "I") ∈ gw := gw_in1 (List.mem_of_getElem? (i := 207) (by decide +kernel)) rfl
theorem tw_208 : (Jvm.Cond.fieldLink "ScrapHouse" (232 : Nat) "ScrapHouse$Move" "place" "I") ∈ gw := gw_in1 (List.mem_of_getElem? (i := 208) (by decide +kernel)) rfl
theorem tw_209 : (Jvm.Cond.fieldLink "ScrapHouse$Move" (13 : Nat) "ScrapHouse$Move" "from" "I") ∈ gw := gw_in1 (List.mem_of_getElem? (i := 209) (by decide +kernel)) rfl
theorem tw_210 : (Jvm.Cond.fieldLink "ScrapHouse$Child" (49 : Nat) "ScrapHouse$Move" "from" "I") ∈ gw := gw_in1 (List.mem_of_getElem? (i := 210) (by decide +kernel)) rfl
theorem tw_211 : (Jvm.Cond.fieldLink "ScrapHouse" (235 : Nat) "ScrapHouse$Move" "from" "I") ∈ gw := gw_in1 (List.mem_of_getElem? (i := 211) (by decide +kernel)) rfl
theorem tw_212 : (Jvm.Cond.fieldLink "ScrapHouse$Move" (16 : Nat) "ScrapHouse$Move" "told" "I") ∈ gw := gw_in1 (List.mem_of_getElem? (i := 212) (by decide +kernel)) rfl
theorem tw_213 : (Jvm.Cond.fieldLink "ScrapHouse$Child" (52 : Nat) "ScrapHouse$Move" "told" "I") ∈ gw := gw_in1 (List.mem_of_getElem? (i := 213) (by decide +kernel)) rfl
theorem tw_214 : (Jvm.Cond.fieldLink "ScrapHouse$Child" (46 : Nat) "ScrapHouse$Move" "next" "LScrapHouse$Move;") ∈ gw := gw_in1 (List.mem_of_getElem? (i := 214) (by decide +kernel)) rfl
theorem tw_215 : (Jvm.Cond.fieldLink "ScrapHouse" (127 : Nat) "ScrapHouse$Move" "next" "LScrapHouse$Move;") ∈ gw := gw_in1 (List.mem_of_getElem? (i := 215) (by decide +kernel)) rfl
theorem tw_216 : (Jvm.Cond.laysFinal "ScrapHouse$Move" "ScrapHouse$Move" "place" "I") ∈ gw := gw_in1 (List.mem_of_getElem? (i := 216) (by decide +kernel)) rfl
theorem tw_218 : (Jvm.Cond.laysFinal "ScrapHouse$Move" "ScrapHouse$Move" "from" "I") ∈ gw := gw_in1 (List.mem_of_getElem? (i := 218) (by decide +kernel)) rfl
theorem tw_220 : (Jvm.Cond.laysFinal "ScrapHouse$Move" "ScrapHouse$Move" "told" "I") ∈ gw := gw_in1 (List.mem_of_getElem? (i := 220) (by decide +kernel)) rfl
theorem tw_222 : (Jvm.Cond.lays "ScrapHouse$Move" "ScrapHouse$Move" "next" "LScrapHouse$Move;") ∈ gw := gw_in1 (List.mem_of_getElem? (i := 222) (by decide +kernel)) rfl
theorem tw_225 : (Jvm.Cond.fieldLink "ScrapHouse$Child" (15 : Nat) "ScrapHouse$Child" "day" "I") ∈ gw := gw_in1 (List.mem_of_getElem? (i := 225) (by decide +kernel)) rfl
theorem tw_226 : (Jvm.Cond.fieldLink "ScrapHouse$Claim" (28 : Nat) "ScrapHouse$Child" "day" "I") ∈ gw := gw_in1 (List.mem_of_getElem? (i := 226) (by decide +kernel)) rfl
theorem tw_227 : (Jvm.Cond.fieldLink "ScrapHouse" (108 : Nat) "ScrapHouse$Child" "day" "I") ∈ gw := gw_in1 (List.mem_of_getElem? (i := 227) (by decide +kernel)) rfl
theorem tw_228 : (Jvm.Cond.fieldLink "ScrapHouse$Child" (18 : Nat) "ScrapHouse$Child" "sex" "I") ∈ gw := gw_in1 (List.mem_of_getElem? (i := 228) (by decide +kernel)) rfl
theorem tw_229 : (Jvm.Cond.fieldLink "ScrapHouse$Claim" (37 : Nat) "ScrapHouse$Child" "sex" "I") ∈ gw := gw_in1 (List.mem_of_getElem? (i := 229) (by decide +kernel)) rfl
theorem tw_230 : (Jvm.Cond.fieldLink "ScrapHouse" (211 : Nat) "ScrapHouse$Child" "sex" "I") ∈ gw := gw_in1 (List.mem_of_getElem? (i := 230) (by decide +kernel)) rfl
theorem tw_231 : (Jvm.Cond.fieldLink "ScrapHouse$Child" (21 : Nat) "ScrapHouse$Child" "mark" "I") ∈ gw := gw_in1 (List.mem_of_getElem? (i := 231) (by decide +kernel)) rfl
theorem tw_232 : (Jvm.Cond.fieldLink "ScrapHouse$Claim" (38 : Nat) "ScrapHouse$Child" "mark" "I") ∈ gw := gw_in1 (List.mem_of_getElem? (i := 232) (by decide +kernel)) rfl
theorem tw_233 : (Jvm.Cond.fieldLink "ScrapHouse" (214 : Nat) "ScrapHouse$Child" "mark" "I") ∈ gw := gw_in1 (List.mem_of_getElem? (i := 233) (by decide +kernel)) rfl
theorem tw_234 : (Jvm.Cond.fieldLink "ScrapHouse$Child" (24 : Nat) "ScrapHouse$Child" "half" "LScrapHouse$Half;") ∈ gw := gw_in1 (List.mem_of_getElem? (i := 234) (by decide +kernel)) rfl
theorem tw_235 : (Jvm.Cond.fieldLink "ScrapHouse" (167 : Nat) "ScrapHouse$Child" "half" "LScrapHouse$Half;") ∈ gw := gw_in1 (List.mem_of_getElem? (i := 235) (by decide +kernel)) rfl
theorem tw_236 : (Jvm.Cond.fieldLink "ScrapHouse$Child" (28 : Nat) "ScrapHouse$Child" "ballot" "I") ∈ gw := gw_in1 (List.mem_of_getElem? (i := 236) (by decide +kernel)) rfl
theorem tw_237 : (Jvm.Cond.fieldLink "ScrapHouse" (223 : Nat) "ScrapHouse$Child" "ballot" "I") ∈ gw := gw_in1 (List.mem_of_getElem? (i := 237) (by decide +kernel)) rfl
theorem tw_238 : (Jvm.Cond.fieldLink "ScrapHouse$Child" (31 : Nat) "ScrapHouse$Child" "woman" "I") ∈ gw := gw_in1 (List.mem_of_getElem? (i := 238) (by decide +kernel)) rfl
theorem tw_239 : (Jvm.Cond.fieldLink "ScrapHouse" (226 : Nat) "ScrapHouse$Child" "woman" "I") ∈ gw := gw_in1 (List.mem_of_getElem? (i := 239) (by decide +kernel)) rfl
theorem tw_240 : (Jvm.Cond.fieldLink "ScrapHouse$Child" (39 : Nat) "ScrapHouse$Child" "coming" "LScrapHouse$Move;") ∈ gw := gw_in2 (List.mem_of_getElem? (i := 0) (by decide +kernel)) rfl
theorem tw_241 : (Jvm.Cond.fieldLink "ScrapHouse" (229 : Nat) "ScrapHouse$Child" "coming" "LScrapHouse$Move;") ∈ gw := gw_in2 (List.mem_of_getElem? (i := 1) (by decide +kernel)) rfl
theorem tw_242 : (Jvm.Cond.fieldLink "ScrapHouse" (131 : Nat) "ScrapHouse$Child" "moveCount" "I") ∈ gw := gw_in2 (List.mem_of_getElem? (i := 2) (by decide +kernel)) rfl
theorem tw_243 : (Jvm.Cond.fieldLink "ScrapHouse$Child" (11 : Nat) "ScrapHouse$Child" "mother" "I") ∈ gw := gw_in2 (List.mem_of_getElem? (i := 3) (by decide +kernel)) rfl
theorem tw_244 : (Jvm.Cond.fieldLink "ScrapHouse" (199 : Nat) "ScrapHouse$Child" "mother" "I") ∈ gw := gw_in2 (List.mem_of_getElem? (i := 4) (by decide +kernel)) rfl
theorem tw_245 : (Jvm.Cond.fieldLink "ScrapHouse$Child" (43 : Nat) "ScrapHouse$Child" "askers" "I") ∈ gw := gw_in2 (List.mem_of_getElem? (i := 5) (by decide +kernel)) rfl
theorem tw_246 : (Jvm.Cond.fieldLink "ScrapHouse" (208 : Nat) "ScrapHouse$Child" "askers" "I") ∈ gw := gw_in2 (List.mem_of_getElem? (i := 6) (by decide +kernel)) rfl
theorem tw_247 : (Jvm.Cond.laysFinal "ScrapHouse$Child" "ScrapHouse$Child" "day" "I") ∈ gw := gw_in2 (List.mem_of_getElem? (i := 7) (by decide +kernel)) rfl
theorem tw_249 : (Jvm.Cond.laysFinal "ScrapHouse$Child" "ScrapHouse$Child" "sex" "I") ∈ gw := gw_in2 (List.mem_of_getElem? (i := 9) (by decide +kernel)) rfl
theorem tw_251 : (Jvm.Cond.laysFinal "ScrapHouse$Child" "ScrapHouse$Child" "mark" "I") ∈ gw := gw_in2 (List.mem_of_getElem? (i := 11) (by decide +kernel)) rfl
theorem tw_253 : (Jvm.Cond.laysFinal "ScrapHouse$Child" "ScrapHouse$Child" "half" "LScrapHouse$Half;") ∈ gw := gw_in2 (List.mem_of_getElem? (i := 13) (by decide +kernel)) rfl
theorem tw_255 : (Jvm.Cond.laysFinal "ScrapHouse$Child" "ScrapHouse$Child" "ballot" "I") ∈ gw := gw_in2 (List.mem_of_getElem? (i := 15) (by decide +kernel)) rfl
theorem tw_257 : (Jvm.Cond.laysFinal "ScrapHouse$Child" "ScrapHouse$Child" "woman" "I") ∈ gw := gw_in2 (List.mem_of_getElem? (i := 17) (by decide +kernel)) rfl
theorem tw_259 : (Jvm.Cond.laysFinal "ScrapHouse$Child" "ScrapHouse$Child" "coming" "LScrapHouse$Move;") ∈ gw := gw_in2 (List.mem_of_getElem? (i := 19) (by decide +kernel)) rfl
theorem tw_261 : (Jvm.Cond.lays "ScrapHouse$Child" "ScrapHouse$Child" "moveCount" "I") ∈ gw := gw_in2 (List.mem_of_getElem? (i := 21) (by decide +kernel)) rfl
theorem tw_263 : (Jvm.Cond.lays "ScrapHouse$Child" "ScrapHouse$Child" "mother" "I") ∈ gw := gw_in2 (List.mem_of_getElem? (i := 23) (by decide +kernel)) rfl
theorem tw_265 : (Jvm.Cond.lays "ScrapHouse$Child" "ScrapHouse$Child" "askers" "I") ∈ gw := gw_in2 (List.mem_of_getElem? (i := 25) (by decide +kernel)) rfl
theorem tw_268 : (Jvm.Cond.methodLink "ScrapHouseLaw" (39 : Nat) ({ cls := "ScrapHouse", name := "beds", desc := "(II)Z" } : Jvm.MethodName)) ∈ gw := gw_in2 (List.mem_of_getElem? (i := 28) (by decide +kernel)) rfl
theorem tw_269 : (Jvm.Cond.instanceMethod ({ cls := "ScrapHouse", name := "beds", desc := "(II)Z" } : Jvm.MethodName)) ∈ gw := gw_in2 (List.mem_of_getElem? (i := 29) (by decide +kernel)) rfl
theorem tw_270 : (Jvm.Cond.selects "ScrapHouse" ({ cls := "ScrapHouse", name := "beds", desc := "(II)Z" } : Jvm.MethodName) ({ cls := "ScrapHouse", name := "beds", desc := "(II)Z" } : Jvm.MethodName)) ∈ gw := gw_in2 (List.mem_of_getElem? (i := 30) (by decide +kernel)) rfl
theorem tw_271 : (Jvm.Cond.code ({ cls := "ScrapHouse", name := "beds", desc := "(II)Z" } : Jvm.MethodName) prog_1_method_7_code (4 : Nat) (Option.some Jvm.ClassFile.FieldType.boolean)) ∈ gw := gw_in2 (List.mem_of_getElem? (i := 31) (rfl)) rfl
theorem tw_272 : (Jvm.Cond.methodLink "ScrapHouse" (90 : Nat) ({ cls := "ScrapHouse", name := "findNurse", desc := "(I)LScrapHouse$Nurse;" } : Jvm.MethodName)) ∈ gw := gw_in2 (List.mem_of_getElem? (i := 32) (by decide +kernel)) rfl
theorem tw_274 : (Jvm.Cond.instanceMethod ({ cls := "ScrapHouse", name := "findNurse", desc := "(I)LScrapHouse$Nurse;" } : Jvm.MethodName)) ∈ gw := gw_in2 (List.mem_of_getElem? (i := 34) (by decide +kernel)) rfl
theorem tw_275 : (Jvm.Cond.code ({ cls := "ScrapHouse", name := "findNurse", desc := "(I)LScrapHouse$Nurse;" } : Jvm.MethodName) prog_1_method_33_code (2 : Nat) (Option.some (Jvm.ClassFile.FieldType.object "ScrapHouse$Nurse"))) ∈ gw := gw_in2 (List.mem_of_getElem? (i := 35) (rfl)) rfl
theorem tw_276 : (Jvm.Cond.methodLink "ScrapHouse" (94 : Nat) ({ cls := "ScrapHouse", name := "isOver", desc := "(III)Z" } : Jvm.MethodName)) ∈ gw := gw_in2 (List.mem_of_getElem? (i := 36) (by decide +kernel)) rfl
theorem tw_278 : (Jvm.Cond.instanceMethod ({ cls := "ScrapHouse", name := "isOver", desc := "(III)Z" } : Jvm.MethodName)) ∈ gw := gw_in2 (List.mem_of_getElem? (i := 38) (by decide +kernel)) rfl
theorem tw_279 : (Jvm.Cond.code ({ cls := "ScrapHouse", name := "isOver", desc := "(III)Z" } : Jvm.MethodName) prog_1_method_36_code (7 : Nat) (Option.some Jvm.ClassFile.FieldType.boolean)) ∈ gw := gw_in2 (List.mem_of_getElem? (i := 39) (rfl)) rfl
theorem tw_280 : (Jvm.Cond.methodLink "ScrapHouse" (152 : Nat) ({ cls := "ScrapHouse", name := "childrenAt", desc := "(III)I" } : Jvm.MethodName)) ∈ gw := gw_in2 (List.mem_of_getElem? (i := 40) (by decide +kernel)) rfl
theorem tw_282 : (Jvm.Cond.instanceMethod ({ cls := "ScrapHouse", name := "childrenAt", desc := "(III)I" } : Jvm.MethodName)) ∈ gw := gw_in2 (List.mem_of_getElem? (i := 42) (by decide +kernel)) rfl
theorem tw_283 : (Jvm.Cond.code ({ cls := "ScrapHouse", name := "childrenAt", desc := "(III)I" } : Jvm.MethodName) prog_1_method_35_code (6 : Nat) (Option.some Jvm.ClassFile.FieldType.int)) ∈ gw := gw_in2 (List.mem_of_getElem? (i := 43) (rfl)) rfl
theorem tw_284 : (Jvm.Cond.methodLink "ScrapHouse" (135 : Nat) ({ cls := "ScrapHouse$Child", name := "placeOn", desc := "(II)I" } : Jvm.MethodName)) ∈ gw := gw_in2 (List.mem_of_getElem? (i := 44) (by decide +kernel)) rfl
theorem tw_285 : (Jvm.Cond.instanceMethod ({ cls := "ScrapHouse$Child", name := "placeOn", desc := "(II)I" } : Jvm.MethodName)) ∈ gw := gw_in2 (List.mem_of_getElem? (i := 45) (by decide +kernel)) rfl
theorem tw_286 : (Jvm.Cond.selects "ScrapHouse$Child" ({ cls := "ScrapHouse$Child", name := "placeOn", desc := "(II)I" } : Jvm.MethodName) ({ cls := "ScrapHouse$Child", name := "placeOn", desc := "(II)I" } : Jvm.MethodName)) ∈ gw := gw_in2 (List.mem_of_getElem? (i := 46) (by decide +kernel)) rfl
theorem tw_287 : (Jvm.Cond.code ({ cls := "ScrapHouse$Child", name := "placeOn", desc := "(II)I" } : Jvm.MethodName) prog_3_method_4_code (5 : Nat) (Option.some Jvm.ClassFile.FieldType.int)) ∈ gw := gw_in2 (List.mem_of_getElem? (i := 47) (rfl)) rfl
theorem tw_288 : (Jvm.Cond.methodLink "ScrapHouseLaw" (44 : Nat) ({ cls := "ScrapHouse", name := "move", desc := "(III)Z" } : Jvm.MethodName)) ∈ gw := gw_in2 (List.mem_of_getElem? (i := 48) (by decide +kernel)) rfl
theorem tw_289 : (Jvm.Cond.instanceMethod ({ cls := "ScrapHouse", name := "move", desc := "(III)Z" } : Jvm.MethodName)) ∈ gw := gw_in2 (List.mem_of_getElem? (i := 49) (by decide +kernel)) rfl
theorem tw_290 : (Jvm.Cond.selects "ScrapHouse" ({ cls := "ScrapHouse", name := "move", desc := "(III)Z" } : Jvm.MethodName) ({ cls := "ScrapHouse", name := "move", desc := "(III)Z" } : Jvm.MethodName)) ∈ gw := gw_in2 (List.mem_of_getElem? (i := 50) (by decide +kernel)) rfl
theorem tw_291 : (Jvm.Cond.code ({ cls := "ScrapHouse", name := "move", desc := "(III)Z" } : Jvm.MethodName) prog_1_method_8_code (8 : Nat) (Option.some Jvm.ClassFile.FieldType.boolean)) ∈ gw := gw_in2 (List.mem_of_getElem? (i := 51) (rfl)) rfl
theorem tw_292 : (Jvm.Cond.methodLink "ScrapHouse" (100 : Nat) ({ cls := "ScrapHouse", name := "findChild", desc := "(I)LScrapHouse$Child;" } : Jvm.MethodName)) ∈ gw := gw_in2 (List.mem_of_getElem? (i := 52) (by decide +kernel)) rfl
theorem tw_294 : (Jvm.Cond.instanceMethod ({ cls := "ScrapHouse", name := "findChild", desc := "(I)LScrapHouse$Child;" } : Jvm.MethodName)) ∈ gw := gw_in2 (List.mem_of_getElem? (i := 54) (by decide +kernel)) rfl
theorem tw_295 : (Jvm.Cond.code ({ cls := "ScrapHouse", name := "findChild", desc := "(I)LScrapHouse$Child;" } : Jvm.MethodName) prog_1_method_32_code (2 : Nat) (Option.some (Jvm.ClassFile.FieldType.object "ScrapHouse$Child"))) ∈ gw := gw_in2 (List.mem_of_getElem? (i := 55) (rfl)) rfl
theorem tw_296 : (Jvm.Cond.methodLink "ScrapHouse" (104 : Nat) ({ cls := "ScrapHouse", name := "isPlace", desc := "(I)Z" } : Jvm.MethodName)) ∈ gw := gw_in2 (List.mem_of_getElem? (i := 56) (by decide +kernel)) rfl
theorem tw_297 : (Jvm.Cond.static ({ cls := "ScrapHouse", name := "isPlace", desc := "(I)Z" } : Jvm.MethodName)) ∈ gw := gw_in2 (List.mem_of_getElem? (i := 57) (by decide +kernel)) rfl
theorem tw_298 : (Jvm.Cond.code ({ cls := "ScrapHouse", name := "isPlace", desc := "(I)Z" } : Jvm.MethodName) prog_1_method_27_code (1 : Nat) (Option.some Jvm.ClassFile.FieldType.boolean)) ∈ gw := gw_in2 (List.mem_of_getElem? (i := 58) (rfl)) rfl
theorem tw_299 : (Jvm.Cond.methodLink "ScrapHouse" (114 : Nat) ({ cls := "ScrapHouse", name := "isGone", desc := "(LScrapHouse$Child;I)Z" } : Jvm.MethodName)) ∈ gw := gw_in2 (List.mem_of_getElem? (i := 59) (by decide +kernel)) rfl
theorem tw_301 : (Jvm.Cond.instanceMethod ({ cls := "ScrapHouse", name := "isGone", desc := "(LScrapHouse$Child;I)Z" } : Jvm.MethodName)) ∈ gw := gw_in2 (List.mem_of_getElem? (i := 61) (by decide +kernel)) rfl
theorem tw_302 : (Jvm.Cond.code ({ cls := "ScrapHouse", name := "isGone", desc := "(LScrapHouse$Child;I)Z" } : Jvm.MethodName) prog_1_method_34_code (4 : Nat) (Option.some Jvm.ClassFile.FieldType.boolean)) ∈ gw := gw_in2 (List.mem_of_getElem? (i := 62) (rfl)) rfl
theorem tw_303 : (Jvm.Cond.methodLink "ScrapHouse" (118 : Nat) ({ cls := "ScrapHouse$Child", name := "lastUpTo", desc := "(I)LScrapHouse$Move;" } : Jvm.MethodName)) ∈ gw := gw_in2 (List.mem_of_getElem? (i := 63) (by decide +kernel)) rfl
theorem tw_304 : (Jvm.Cond.instanceMethod ({ cls := "ScrapHouse$Child", name := "lastUpTo", desc := "(I)LScrapHouse$Move;" } : Jvm.MethodName)) ∈ gw := gw_in2 (List.mem_of_getElem? (i := 64) (by decide +kernel)) rfl
theorem tw_305 : (Jvm.Cond.selects "ScrapHouse$Child" ({ cls := "ScrapHouse$Child", name := "lastUpTo", desc := "(I)LScrapHouse$Move;" } : Jvm.MethodName) ({ cls := "ScrapHouse$Child", name := "lastUpTo", desc := "(I)LScrapHouse$Move;" } : Jvm.MethodName)) ∈ gw := gw_in2 (List.mem_of_getElem? (i := 65) (by decide +kernel)) rfl
theorem tw_306 : (Jvm.Cond.code ({ cls := "ScrapHouse$Child", name := "lastUpTo", desc := "(I)LScrapHouse$Move;" } : Jvm.MethodName) prog_3_method_3_code (3 : Nat) (Option.some (Jvm.ClassFile.FieldType.object "ScrapHouse$Move"))) ∈ gw := gw_in2 (List.mem_of_getElem? (i := 66) (rfl)) rfl
theorem tw_307 : (Jvm.Cond.classLink "ScrapHouse" (122 : Nat) "ScrapHouse$Move") ∈ gw := gw_in2 (List.mem_of_getElem? (i := 67) (by decide +kernel)) rfl
theorem tw_308 : (Jvm.Cond.methodLink "ScrapHouse" (124 : Nat) ({ cls := "ScrapHouse$Move", name := "<init>", desc := "(III)V" } : Jvm.MethodName)) ∈ gw := gw_in2 (List.mem_of_getElem? (i := 68) (by decide +kernel)) rfl
theorem tw_309 : (Jvm.Cond.methodLink "ScrapHouseLaw" (49 : Nat) ({ cls := "ScrapHouse", name := "place", desc := "(III)I" } : Jvm.MethodName)) ∈ gw := gw_in2 (List.mem_of_getElem? (i := 69) (by decide +kernel)) rfl
theorem tw_310 : (Jvm.Cond.instanceMethod ({ cls := "ScrapHouse", name := "place", desc := "(III)I" } : Jvm.MethodName)) ∈ gw := gw_in2 (List.mem_of_getElem? (i := 70) (by decide +kernel)) rfl
theorem tw_311 : (Jvm.Cond.selects "ScrapHouse" ({ cls := "ScrapHouse", name := "place", desc := "(III)I" } : Jvm.MethodName) ({ cls := "ScrapHouse", name := "place", desc := "(III)I" } : Jvm.MethodName)) ∈ gw := gw_in2 (List.mem_of_getElem? (i := 71) (by decide +kernel)) rfl
theorem tw_312 : (Jvm.Cond.code ({ cls := "ScrapHouse", name := "place", desc := "(III)I" } : Jvm.MethodName) prog_1_method_9_code (5 : Nat) (Option.some Jvm.ClassFile.FieldType.int)) ∈ gw := gw_in2 (List.mem_of_getElem? (i := 72) (rfl)) rfl
theorem tw_313 : (Jvm.Cond.methodLink "ScrapHouse" (132 : Nat) ({ cls := "ScrapHouse", name := "isPast", desc := "(I)Z" } : Jvm.MethodName)) ∈ gw := gw_in2 (List.mem_of_getElem? (i := 73) (by decide +kernel)) rfl
theorem tw_315 : (Jvm.Cond.instanceMethod ({ cls := "ScrapHouse", name := "isPast", desc := "(I)Z" } : Jvm.MethodName)) ∈ gw := gw_in2 (List.mem_of_getElem? (i := 75) (by decide +kernel)) rfl
theorem tw_316 : (Jvm.Cond.code ({ cls := "ScrapHouse", name := "isPast", desc := "(I)Z" } : Jvm.MethodName) prog_1_method_30_code (2 : Nat) (Option.some Jvm.ClassFile.FieldType.boolean)) ∈ gw := gw_in2 (List.mem_of_getElem? (i := 76) (rfl)) rfl
theorem tw_317 : (Jvm.Cond.methodLink "ScrapHouseLaw" (54 : Nat) ({ cls := "ScrapHouse", name := "look", desc := "(I)Z" } : Jvm.MethodName)) ∈ gw := gw_in2 (List.mem_of_getElem? (i := 77) (by decide +kernel)) rfl
theorem tw_318 : (Jvm.Cond.instanceMethod ({ cls := "ScrapHouse", name := "look", desc := "(I)Z" } : Jvm.MethodName)) ∈ gw := gw_in2 (List.mem_of_getElem? (i := 78) (by decide +kernel)) rfl
theorem tw_319 : (Jvm.Cond.selects "ScrapHouse" ({ cls := "ScrapHouse", name := "look", desc := "(I)Z" } : Jvm.MethodName) ({ cls := "ScrapHouse", name := "look", desc := "(I)Z" } : Jvm.MethodName)) ∈ gw := gw_in2 (List.mem_of_getElem? (i := 79) (by decide +kernel)) rfl
theorem tw_320 : (Jvm.Cond.code ({ cls := "ScrapHouse", name := "look", desc := "(I)Z" } : Jvm.MethodName) prog_1_method_10_code (3 : Nat) (Option.some Jvm.ClassFile.FieldType.boolean)) ∈ gw := gw_in2 (List.mem_of_getElem? (i := 80) (rfl)) rfl
theorem tw_321 : (Jvm.Cond.classLink "ScrapHouse" (144 : Nat) "ScrapHouse$Look") ∈ gw := gw_in2 (List.mem_of_getElem? (i := 81) (by decide +kernel)) rfl
theorem tw_322 : (Jvm.Cond.instantiable "ScrapHouse$Look" (2 : Nat)) ∈ gw := gw_in2 (List.mem_of_getElem? (i := 82) (by decide +kernel)) rfl
theorem tw_323 : (Jvm.Cond.methodLink "ScrapHouse" (146 : Nat) ({ cls := "ScrapHouse$Look", name := "<init>", desc := "(ILScrapHouse$Look;)V" } : Jvm.MethodName)) ∈ gw := gw_in2 (List.mem_of_getElem? (i := 83) (by decide +kernel)) rfl
theorem tw_324 : (Jvm.Cond.instanceMethod ({ cls := "ScrapHouse$Look", name := "<init>", desc := "(ILScrapHouse$Look;)V" } : Jvm.MethodName)) ∈ gw := gw_in2 (List.mem_of_getElem? (i := 84) (by decide +kernel)) rfl
theorem tw_325 : (Jvm.Cond.code ({ cls := "ScrapHouse$Look", name := "<init>", desc := "(ILScrapHouse$Look;)V" } : Jvm.MethodName) prog_6_method_1_code (3 : Nat) (Option.none : Option Jvm.ClassFile.FieldType)) ∈ gw := gw_in2 (List.mem_of_getElem? (i := 85) (rfl)) rfl
theorem tw_326 : (Jvm.Cond.methodLink "ScrapHouse$Look" (1 : Nat) ({ cls := "java/lang/Object", name := "<init>", desc := "()V" } : Jvm.MethodName)) ∈ gw := gw_in2 (List.mem_of_getElem? (i := 86) (by decide +kernel)) rfl
theorem tw_327 : (Jvm.Cond.fieldLink "ScrapHouse$Look" (7 : Nat) "ScrapHouse$Look" "day" "I") ∈ gw := gw_in2 (List.mem_of_getElem? (i := 87) (by decide +kernel)) rfl
theorem tw_328 : (Jvm.Cond.fieldLink "ScrapHouse" (143 : Nat) "ScrapHouse$Look" "day" "I") ∈ gw := gw_in2 (List.mem_of_getElem? (i := 88) (by decide +kernel)) rfl
theorem tw_329 : (Jvm.Cond.fieldLink "ScrapHouse$Look" (13 : Nat) "ScrapHouse$Look" "earlier" "LScrapHouse$Look;") ∈ gw := gw_in2 (List.mem_of_getElem? (i := 89) (by decide +kernel)) rfl
theorem tw_330 : (Jvm.Cond.fieldLink "ScrapHouse" (246 : Nat) "ScrapHouse$Look" "earlier" "LScrapHouse$Look;") ∈ gw := gw_in2 (List.mem_of_getElem? (i := 90) (by decide +kernel)) rfl
theorem tw_331 : (Jvm.Cond.laysFinal "ScrapHouse$Look" "ScrapHouse$Look" "day" "I") ∈ gw := gw_in2 (List.mem_of_getElem? (i := 91) (by decide +kernel)) rfl
theorem tw_333 : (Jvm.Cond.laysFinal "ScrapHouse$Look" "ScrapHouse$Look" "earlier" "LScrapHouse$Look;") ∈ gw := gw_in2 (List.mem_of_getElem? (i := 93) (by decide +kernel)) rfl
theorem tw_336 : (Jvm.Cond.methodLink "ScrapHouseLaw" (59 : Nat) ({ cls := "ScrapHouse", name := "many", desc := "(III)I" } : Jvm.MethodName)) ∈ gw := gw_in2 (List.mem_of_getElem? (i := 96) (by decide +kernel)) rfl
theorem tw_337 : (Jvm.Cond.instanceMethod ({ cls := "ScrapHouse", name := "many", desc := "(III)I" } : Jvm.MethodName)) ∈ gw := gw_in2 (List.mem_of_getElem? (i := 97) (by decide +kernel)) rfl
theorem tw_338 : (Jvm.Cond.selects "ScrapHouse" ({ cls := "ScrapHouse", name := "many", desc := "(III)I" } : Jvm.MethodName) ({ cls := "ScrapHouse", name := "many", desc := "(III)I" } : Jvm.MethodName)) ∈ gw := gw_in2 (List.mem_of_getElem? (i := 98) (by decide +kernel)) rfl
theorem tw_339 : (Jvm.Cond.code ({ cls := "ScrapHouse", name := "many", desc := "(III)I" } : Jvm.MethodName) prog_1_method_11_code (4 : Nat) (Option.some Jvm.ClassFile.FieldType.int)) ∈ gw := gw_in2 (List.mem_of_getElem? (i := 99) (rfl)) rfl
theorem tw_340 : (Jvm.Cond.methodLink "ScrapHouseLaw" (63 : Nat) ({ cls := "ScrapHouse", name := "pay", desc := "(IIII)I" } : Jvm.MethodName)) ∈ gw := gw_in2 (List.mem_of_getElem? (i := 100) (by decide +kernel)) rfl
theorem tw_341 : (Jvm.Cond.instanceMethod ({ cls := "ScrapHouse", name := "pay", desc := "(IIII)I" } : Jvm.MethodName)) ∈ gw := gw_in2 (List.mem_of_getElem? (i := 101) (by decide +kernel)) rfl
theorem tw_342 : (Jvm.Cond.selects "ScrapHouse" ({ cls := "ScrapHouse", name := "pay", desc := "(IIII)I" } : Jvm.MethodName) ({ cls := "ScrapHouse", name := "pay", desc := "(IIII)I" } : Jvm.MethodName)) ∈ gw := gw_in2 (List.mem_of_getElem? (i := 102) (by decide +kernel)) rfl
theorem tw_343 : (Jvm.Cond.code ({ cls := "ScrapHouse", name := "pay", desc := "(IIII)I" } : Jvm.MethodName) prog_1_method_12_code (6 : Nat) (Option.some Jvm.ClassFile.FieldType.int)) ∈ gw := gw_in2 (List.mem_of_getElem? (i := 103) (rfl)) rfl
theorem tw_344 : (Jvm.Cond.methodLink "ScrapHouse" (156 : Nat) ({ cls := "ScrapHouse", name := "areWeeks", desc := "(II)Z" } : Jvm.MethodName)) ∈ gw := gw_in2 (List.mem_of_getElem? (i := 104) (by decide +kernel)) rfl
theorem tw_345 : (Jvm.Cond.static ({ cls := "ScrapHouse", name := "areWeeks", desc := "(II)Z" } : Jvm.MethodName)) ∈ gw := gw_in2 (List.mem_of_getElem? (i := 105) (by decide +kernel)) rfl
theorem tw_346 : (Jvm.Cond.code ({ cls := "ScrapHouse", name := "areWeeks", desc := "(II)Z" } : Jvm.MethodName) prog_1_method_29_code (2 : Nat) (Option.some Jvm.ClassFile.FieldType.boolean)) ∈ gw := gw_in2 (List.mem_of_getElem? (i := 106) (rfl)) rfl
theorem tw_347 : (Jvm.Cond.methodLink "ScrapHouse" (159 : Nat) ({ cls := "ScrapHouse", name := "seenDays", desc := "(ILScrapHouse$Look;III)I" } : Jvm.MethodName)) ∈ gw := gw_in2 (List.mem_of_getElem? (i := 107) (by decide +kernel)) rfl
theorem tw_349 : (Jvm.Cond.instanceMethod ({ cls := "ScrapHouse", name := "seenDays", desc := "(ILScrapHouse$Look;III)I" } : Jvm.MethodName)) ∈ gw := gw_in2 (List.mem_of_getElem? (i := 109) (by decide +kernel)) rfl
theorem tw_350 : (Jvm.Cond.code ({ cls := "ScrapHouse", name := "seenDays", desc := "(ILScrapHouse$Look;III)I" } : Jvm.MethodName) prog_1_method_38_code (11 : Nat) (Option.some Jvm.ClassFile.FieldType.int)) ∈ gw := gw_in2 (List.mem_of_getElem? (i := 110) (rfl)) rfl
theorem tw_351 : (Jvm.Cond.methodLink "ScrapHouse" (163 : Nat) ({ cls := "ScrapHouse", name := "daysWith", desc := "(IIII)I" } : Jvm.MethodName)) ∈ gw := gw_in2 (List.mem_of_getElem? (i := 111) (by decide +kernel)) rfl
theorem tw_353 : (Jvm.Cond.instanceMethod ({ cls := "ScrapHouse", name := "daysWith", desc := "(IIII)I" } : Jvm.MethodName)) ∈ gw := gw_in2 (List.mem_of_getElem? (i := 113) (by decide +kernel)) rfl
theorem tw_354 : (Jvm.Cond.code ({ cls := "ScrapHouse", name := "daysWith", desc := "(IIII)I" } : Jvm.MethodName) prog_1_method_37_code (9 : Nat) (Option.some Jvm.ClassFile.FieldType.int)) ∈ gw := gw_in2 (List.mem_of_getElem? (i := 114) (rfl)) rfl
theorem tw_355 : (Jvm.Cond.methodLink "ScrapHouse" (238 : Nat) ({ cls := "java/lang/Math", name := "min", desc := "(II)I" } : Jvm.MethodName)) ∈ gw := gw_in2 (List.mem_of_getElem? (i := 115) (by decide +kernel)) rfl
theorem tw_356 : (Jvm.Cond.static ({ cls := "java/lang/Math", name := "min", desc := "(II)I" } : Jvm.MethodName)) ∈ gw := gw_in2 (List.mem_of_getElem? (i := 116) (by decide +kernel)) rfl
theorem tw_357 : (Jvm.Cond.code ({ cls := "java/lang/Math", name := "min", desc := "(II)I" } : Jvm.MethodName) prog_13_method_69_code (2 : Nat) (Option.some Jvm.ClassFile.FieldType.int)) ∈ gw := gw_in2 (List.mem_of_getElem? (i := 117) (rfl)) rfl
theorem tw_358 : (Jvm.Cond.methodLink "ScrapHouse" (243 : Nat) ({ cls := "ScrapHouse$Child", name := "daysAt", desc := "(IIII)I" } : Jvm.MethodName)) ∈ gw := gw_in2 (List.mem_of_getElem? (i := 118) (by decide +kernel)) rfl
theorem tw_359 : (Jvm.Cond.instanceMethod ({ cls := "ScrapHouse$Child", name := "daysAt", desc := "(IIII)I" } : Jvm.MethodName)) ∈ gw := gw_in2 (List.mem_of_getElem? (i := 119) (by decide +kernel)) rfl
theorem tw_360 : (Jvm.Cond.selects "ScrapHouse$Child" ({ cls := "ScrapHouse$Child", name := "daysAt", desc := "(IIII)I" } : Jvm.MethodName) ({ cls := "ScrapHouse$Child", name := "daysAt", desc := "(IIII)I" } : Jvm.MethodName)) ∈ gw := gw_in2 (List.mem_of_getElem? (i := 120) (by decide +kernel)) rfl
theorem tw_361 : (Jvm.Cond.code ({ cls := "ScrapHouse$Child", name := "daysAt", desc := "(IIII)I" } : Jvm.MethodName) prog_3_method_5_code (10 : Nat) (Option.some Jvm.ClassFile.FieldType.int)) ∈ gw := gw_in2 (List.mem_of_getElem? (i := 121) (rfl)) rfl
theorem tw_362 : (Jvm.Cond.methodLink "ScrapHouse$Child" (58 : Nat) ({ cls := "java/lang/Math", name := "max", desc := "(II)I" } : Jvm.MethodName)) ∈ gw := gw_in2 (List.mem_of_getElem? (i := 122) (by decide +kernel)) rfl
theorem tw_363 : (Jvm.Cond.static ({ cls := "java/lang/Math", name := "max", desc := "(II)I" } : Jvm.MethodName)) ∈ gw := gw_in2 (List.mem_of_getElem? (i := 123) (by decide +kernel)) rfl
theorem tw_364 : (Jvm.Cond.code ({ cls := "java/lang/Math", name := "max", desc := "(II)I" } : Jvm.MethodName) prog_13_method_65_code (2 : Nat) (Option.some Jvm.ClassFile.FieldType.int)) ∈ gw := gw_in2 (List.mem_of_getElem? (i := 124) (rfl)) rfl
theorem tw_365 : (Jvm.Cond.methodLink "ScrapHouseLaw" (68 : Nat) ({ cls := "ScrapHouse", name := "gap", desc := "(IIII)I" } : Jvm.MethodName)) ∈ gw := gw_in2 (List.mem_of_getElem? (i := 125) (by decide +kernel)) rfl
theorem tw_366 : (Jvm.Cond.instanceMethod ({ cls := "ScrapHouse", name := "gap", desc := "(IIII)I" } : Jvm.MethodName)) ∈ gw := gw_in2 (List.mem_of_getElem? (i := 126) (by decide +kernel)) rfl
theorem tw_367 : (Jvm.Cond.selects "ScrapHouse" ({ cls := "ScrapHouse", name := "gap", desc := "(IIII)I" } : Jvm.MethodName) ({ cls := "ScrapHouse", name := "gap", desc := "(IIII)I" } : Jvm.MethodName)) ∈ gw := gw_in2 (List.mem_of_getElem? (i := 127) (by decide +kernel)) rfl
theorem tw_368 : (Jvm.Cond.code ({ cls := "ScrapHouse", name := "gap", desc := "(IIII)I" } : Jvm.MethodName) prog_1_method_13_code (7 : Nat) (Option.some Jvm.ClassFile.FieldType.int)) ∈ gw := gw_in2 (List.mem_of_getElem? (i := 128) (rfl)) rfl
theorem tw_369 : (Jvm.Cond.methodLink "ScrapHouseLaw" (72 : Nat) ({ cls := "ScrapHouse", name := "off", desc := "(III)I" } : Jvm.MethodName)) ∈ gw := gw_in2 (List.mem_of_getElem? (i := 129) (by decide +kernel)) rfl
theorem tw_370 : (Jvm.Cond.instanceMethod ({ cls := "ScrapHouse", name := "off", desc := "(III)I" } : Jvm.MethodName)) ∈ gw := gw_in2 (List.mem_of_getElem? (i := 130) (by decide +kernel)) rfl
theorem tw_371 : (Jvm.Cond.selects "ScrapHouse" ({ cls := "ScrapHouse", name := "off", desc := "(III)I" } : Jvm.MethodName) ({ cls := "ScrapHouse", name := "off", desc := "(III)I" } : Jvm.MethodName)) ∈ gw := gw_in2 (List.mem_of_getElem? (i := 131) (by decide +kernel)) rfl
theorem tw_372 : (Jvm.Cond.code ({ cls := "ScrapHouse", name := "off", desc := "(III)I" } : Jvm.MethodName) prog_1_method_14_code (5 : Nat) (Option.some Jvm.ClassFile.FieldType.int)) ∈ gw := gw_in2 (List.mem_of_getElem? (i := 132) (rfl)) rfl
theorem tw_373 : (Jvm.Cond.methodLink "ScrapHouse" (171 : Nat) ({ cls := "ScrapHouse$Half", name := "farOff", desc := "(LScrapHouse$Half;)I" } : Jvm.MethodName)) ∈ gw := gw_in2 (List.mem_of_getElem? (i := 133) (by decide +kernel)) rfl
theorem tw_374 : (Jvm.Cond.instanceMethod ({ cls := "ScrapHouse$Half", name := "farOff", desc := "(LScrapHouse$Half;)I" } : Jvm.MethodName)) ∈ gw := gw_in2 (List.mem_of_getElem? (i := 134) (by decide +kernel)) rfl
theorem tw_375 : (Jvm.Cond.selects "ScrapHouse$Half" ({ cls := "ScrapHouse$Half", name := "farOff", desc := "(LScrapHouse$Half;)I" } : Jvm.MethodName) ({ cls := "ScrapHouse$Half", name := "farOff", desc := "(LScrapHouse$Half;)I" } : Jvm.MethodName)) ∈ gw := gw_in2 (List.mem_of_getElem? (i := 135) (by decide +kernel)) rfl
theorem tw_376 : (Jvm.Cond.code ({ cls := "ScrapHouse$Half", name := "farOff", desc := "(LScrapHouse$Half;)I" } : Jvm.MethodName) prog_5_method_3_code (4 : Nat) (Option.some Jvm.ClassFile.FieldType.int)) ∈ gw := gw_in2 (List.mem_of_getElem? (i := 136) (rfl)) rfl
theorem tw_377 : (Jvm.Cond.methodLink "ScrapHouse$Half" (23 : Nat) ({ cls := "ScrapHouse$Half", name := "unlike", desc := "(II)I" } : Jvm.MethodName)) ∈ gw := gw_in2 (List.mem_of_getElem? (i := 137) (by decide +kernel)) rfl
theorem tw_379 : (Jvm.Cond.instanceMethod ({ cls := "ScrapHouse$Half", name := "unlike", desc := "(II)I" } : Jvm.MethodName)) ∈ gw := gw_in2 (List.mem_of_getElem? (i := 139) (by decide +kernel)) rfl
theorem tw_380 : (Jvm.Cond.code ({ cls := "ScrapHouse$Half", name := "unlike", desc := "(II)I" } : Jvm.MethodName) prog_5_method_4_code (6 : Nat) (Option.some Jvm.ClassFile.FieldType.int)) ∈ gw := gw_in2 (List.mem_of_getElem? (i := 140) (rfl)) rfl
theorem tw_381 : (Jvm.Cond.methodLink "ScrapHouse$Half" (36 : Nat) ({ cls := "ScrapHouse$Half", name := "numberAt", desc := "(II)I" } : Jvm.MethodName)) ∈ gw := gw_in2 (List.mem_of_getElem? (i := 141) (by decide +kernel)) rfl
theorem tw_382 : (Jvm.Cond.static ({ cls := "ScrapHouse$Half", name := "numberAt", desc := "(II)I" } : Jvm.MethodName)) ∈ gw := gw_in2 (List.mem_of_getElem? (i := 142) (by decide +kernel)) rfl
theorem tw_383 : (Jvm.Cond.code ({ cls := "ScrapHouse$Half", name := "numberAt", desc := "(II)I" } : Jvm.MethodName) prog_5_method_5_code (2 : Nat) (Option.some Jvm.ClassFile.FieldType.int)) ∈ gw := gw_in2 (List.mem_of_getElem? (i := 143) (rfl)) rfl
theorem tw_384 : (Jvm.Cond.methodLink "ScrapHouse$Half" (27 : Nat) ({ cls := "ScrapHouse$Half", name := "turn", desc := "(I)I" } : Jvm.MethodName)) ∈ gw := gw_in2 (List.mem_of_getElem? (i := 144) (by decide +kernel)) rfl
theorem tw_385 : (Jvm.Cond.static ({ cls := "ScrapHouse$Half", name := "turn", desc := "(I)I" } : Jvm.MethodName)) ∈ gw := gw_in2 (List.mem_of_getElem? (i := 145) (by decide +kernel)) rfl
theorem tw_386 : (Jvm.Cond.code ({ cls := "ScrapHouse$Half", name := "turn", desc := "(I)I" } : Jvm.MethodName) prog_5_method_6_code (3 : Nat) (Option.some Jvm.ClassFile.FieldType.int)) ∈ gw := gw_in2 (List.mem_of_getElem? (i := 146) (rfl)) rfl
theorem tw_387 : (Jvm.Cond.methodLink "ScrapHouse$Half" (31 : Nat) ({ cls := "java/lang/Math", name := "min", desc := "(II)I" } : Jvm.MethodName)) ∈ gw := gw_in2 (List.mem_of_getElem? (i := 147) (by decide +kernel)) rfl
theorem tw_388 : (Jvm.Cond.methodLink "ScrapHouseLaw" (76 : Nat) ({ cls := "ScrapHouse", name := "feed", desc := "(I)I" } : Jvm.MethodName)) ∈ gw := gw_in2 (List.mem_of_getElem? (i := 148) (by decide +kernel)) rfl
theorem tw_389 : (Jvm.Cond.instanceMethod ({ cls := "ScrapHouse", name := "feed", desc := "(I)I" } : Jvm.MethodName)) ∈ gw := gw_in2 (List.mem_of_getElem? (i := 149) (by decide +kernel)) rfl
theorem tw_390 : (Jvm.Cond.selects "ScrapHouse" ({ cls := "ScrapHouse", name := "feed", desc := "(I)I" } : Jvm.MethodName) ({ cls := "ScrapHouse", name := "feed", desc := "(I)I" } : Jvm.MethodName)) ∈ gw := gw_in2 (List.mem_of_getElem? (i := 150) (by decide +kernel)) rfl
theorem tw_391 : (Jvm.Cond.code ({ cls := "ScrapHouse", name := "feed", desc := "(I)I" } : Jvm.MethodName) prog_1_method_15_code (4 : Nat) (Option.some Jvm.ClassFile.FieldType.int)) ∈ gw := gw_in2 (List.mem_of_getElem? (i := 151) (rfl)) rfl
theorem tw_392 : (Jvm.Cond.methodLink "ScrapHouse" (178 : Nat) ({ cls := "ScrapHouse$Text", name := "add", desc := "(I)V" } : Jvm.MethodName)) ∈ gw := gw_in2 (List.mem_of_getElem? (i := 152) (by decide +kernel)) rfl
theorem tw_393 : (Jvm.Cond.instanceMethod ({ cls := "ScrapHouse$Text", name := "add", desc := "(I)V" } : Jvm.MethodName)) ∈ gw := gw_in2 (List.mem_of_getElem? (i := 153) (by decide +kernel)) rfl
theorem tw_394 : (Jvm.Cond.selects "ScrapHouse$Text" ({ cls := "ScrapHouse$Text", name := "add", desc := "(I)V" } : Jvm.MethodName) ({ cls := "ScrapHouse$Text", name := "add", desc := "(I)V" } : Jvm.MethodName)) ∈ gw := gw_in2 (List.mem_of_getElem? (i := 154) (by decide +kernel)) rfl
theorem tw_395 : (Jvm.Cond.code ({ cls := "ScrapHouse$Text", name := "add", desc := "(I)V" } : Jvm.MethodName) prog_10_method_2_code (2 : Nat) (Option.none : Option Jvm.ClassFile.FieldType)) ∈ gw := gw_in2 (List.mem_of_getElem? (i := 155) (rfl)) rfl
theorem tw_396 : (Jvm.Cond.methodLink "ScrapHouseLaw" (80 : Nat) ({ cls := "ScrapHouse", name := "end", desc := "(I)Z" } : Jvm.MethodName)) ∈ gw := gw_in2 (List.mem_of_getElem? (i := 156) (by decide +kernel)) rfl
theorem tw_397 : (Jvm.Cond.instanceMethod ({ cls := "ScrapHouse", name := "end", desc := "(I)Z" } : Jvm.MethodName)) ∈ gw := gw_in2 (List.mem_of_getElem? (i := 157) (by decide +kernel)) rfl
theorem tw_398 : (Jvm.Cond.selects "ScrapHouse" ({ cls := "ScrapHouse", name := "end", desc := "(I)Z" } : Jvm.MethodName) ({ cls := "ScrapHouse", name := "end", desc := "(I)Z" } : Jvm.MethodName)) ∈ gw := gw_in2 (List.mem_of_getElem? (i := 158) (by decide +kernel)) rfl
theorem tw_399 : (Jvm.Cond.code ({ cls := "ScrapHouse", name := "end", desc := "(I)Z" } : Jvm.MethodName) prog_1_method_16_code (2 : Nat) (Option.some Jvm.ClassFile.FieldType.boolean)) ∈ gw := gw_in2 (List.mem_of_getElem? (i := 159) (rfl)) rfl
theorem tw_400 : (Jvm.Cond.methodLink "ScrapHouseLaw" (84 : Nat) ({ cls := "ScrapHouse", name := "fault", desc := "()I" } : Jvm.MethodName)) ∈ gw := gw_in2 (List.mem_of_getElem? (i := 160) (by decide +kernel)) rfl
theorem tw_401 : (Jvm.Cond.instanceMethod ({ cls := "ScrapHouse", name := "fault", desc := "()I" } : Jvm.MethodName)) ∈ gw := gw_in2 (List.mem_of_getElem? (i := 161) (by decide +kernel)) rfl
theorem tw_402 : (Jvm.Cond.selects "ScrapHouse" ({ cls := "ScrapHouse", name := "fault", desc := "()I" } : Jvm.MethodName) ({ cls := "ScrapHouse", name := "fault", desc := "()I" } : Jvm.MethodName)) ∈ gw := gw_in2 (List.mem_of_getElem? (i := 162) (by decide +kernel)) rfl
theorem tw_403 : (Jvm.Cond.code ({ cls := "ScrapHouse", name := "fault", desc := "()I" } : Jvm.MethodName) prog_1_method_17_code (1 : Nat) (Option.some Jvm.ClassFile.FieldType.int)) ∈ gw := gw_in2 (List.mem_of_getElem? (i := 163) (rfl)) rfl
theorem tw_404 : (Jvm.Cond.methodLink "ScrapHouse" (182 : Nat) ({ cls := "ScrapHouse$Reader", name := "faultOf", desc := "(LScrapHouse$Text;)I" } : Jvm.MethodName)) ∈ gw := gw_in2 (List.mem_of_getElem? (i := 164) (by decide +kernel)) rfl
theorem tw_405 : (Jvm.Cond.instanceMethod ({ cls := "ScrapHouse$Reader", name := "faultOf", desc := "(LScrapHouse$Text;)I" } : Jvm.MethodName)) ∈ gw := gw_in2 (List.mem_of_getElem? (i := 165) (by decide +kernel)) rfl
theorem tw_406 : (Jvm.Cond.selects "ScrapHouse$Reader" ({ cls := "ScrapHouse$Reader", name := "faultOf", desc := "(LScrapHouse$Text;)I" } : Jvm.MethodName) ({ cls := "ScrapHouse$Reader", name := "faultOf", desc := "(LScrapHouse$Text;)I" } : Jvm.MethodName)) ∈ gw := gw_in2 (List.mem_of_getElem? (i := 166) (by decide +kernel)) rfl
theorem tw_407 : (Jvm.Cond.code ({ cls := "ScrapHouse$Reader", name := "faultOf", desc := "(LScrapHouse$Text;)I" } : Jvm.MethodName) prog_9_method_2_code (2 : Nat) (Option.some Jvm.ClassFile.FieldType.int)) ∈ gw := gw_in2 (List.mem_of_getElem? (i := 167) (rfl)) rfl
theorem tw_408 : (Jvm.Cond.methodLink "ScrapHouse$Reader" (23 : Nat) ({ cls := "ScrapHouse$Reader", name := "holds", desc := "(LScrapHouse$Text;)Z" } : Jvm.MethodName)) ∈ gw := gw_in2 (List.mem_of_getElem? (i := 168) (by decide +kernel)) rfl
theorem tw_409 : (Jvm.Cond.instanceMethod ({ cls := "ScrapHouse$Reader", name := "holds", desc := "(LScrapHouse$Text;)Z" } : Jvm.MethodName)) ∈ gw := gw_in2 (List.mem_of_getElem? (i := 169) (by decide +kernel)) rfl
theorem tw_410 : (Jvm.Cond.selects "ScrapHouse$Reader" ({ cls := "ScrapHouse$Reader", name := "holds", desc := "(LScrapHouse$Text;)Z" } : Jvm.MethodName) ({ cls := "ScrapHouse$Reader", name := "holds", desc := "(LScrapHouse$Text;)Z" } : Jvm.MethodName)) ∈ gw := gw_in2 (List.mem_of_getElem? (i := 170) (by decide +kernel)) rfl
theorem tw_411 : (Jvm.Cond.code ({ cls := "ScrapHouse$Reader", name := "holds", desc := "(LScrapHouse$Text;)Z" } : Jvm.MethodName) prog_9_method_3_code (3 : Nat) (Option.some Jvm.ClassFile.FieldType.boolean)) ∈ gw := gw_in2 (List.mem_of_getElem? (i := 171) (rfl)) rfl
theorem tw_412 : (Jvm.Cond.methodLink "ScrapHouse$Reader" (34 : Nat) ({ cls := "ScrapHouse$Reader", name := "tests", desc := "(I)Z" } : Jvm.MethodName)) ∈ gw := gw_in2 (List.mem_of_getElem? (i := 172) (by decide +kernel)) rfl
theorem tw_414 : (Jvm.Cond.instanceMethod ({ cls := "ScrapHouse$Reader", name := "tests", desc := "(I)Z" } : Jvm.MethodName)) ∈ gw := gw_in2 (List.mem_of_getElem? (i := 174) (by decide +kernel)) rfl
theorem tw_415 : (Jvm.Cond.code ({ cls := "ScrapHouse$Reader", name := "tests", desc := "(I)Z" } : Jvm.MethodName) prog_9_method_4_code (5 : Nat) (Option.some Jvm.ClassFile.FieldType.boolean)) ∈ gw := gw_in2 (List.mem_of_getElem? (i := 175) (rfl)) rfl
theorem tw_416 : (Jvm.Cond.methodLink "ScrapHouse$Reader" (45 : Nat) ({ cls := "ScrapHouse$Reader", name := "part", desc := "(I)Z" } : Jvm.MethodName)) ∈ gw := gw_in2 (List.mem_of_getElem? (i := 176) (by decide +kernel)) rfl
theorem tw_418 : (Jvm.Cond.instanceMethod ({ cls := "ScrapHouse$Reader", name := "part", desc := "(I)Z" } : Jvm.MethodName)) ∈ gw := gw_in2 (List.mem_of_getElem? (i := 178) (by decide +kernel)) rfl
theorem tw_419 : (Jvm.Cond.code ({ cls := "ScrapHouse$Reader", name := "part", desc := "(I)Z" } : Jvm.MethodName) prog_9_method_5_code (5 : Nat) (Option.some Jvm.ClassFile.FieldType.boolean)) ∈ gw := gw_in2 (List.mem_of_getElem? (i := 179) (rfl)) rfl
theorem tw_420 : (Jvm.Cond.methodLink "ScrapHouse$Reader" (52 : Nat) ({ cls := "ScrapHouse$Reader", name := "unit", desc := "(I)Z" } : Jvm.MethodName)) ∈ gw := gw_in2 (List.mem_of_getElem? (i := 180) (by decide +kernel)) rfl
theorem tw_422 : (Jvm.Cond.instanceMethod ({ cls := "ScrapHouse$Reader", name := "unit", desc := "(I)Z" } : Jvm.MethodName)) ∈ gw := gw_in2 (List.mem_of_getElem? (i := 182) (by decide +kernel)) rfl
theorem tw_423 : (Jvm.Cond.code ({ cls := "ScrapHouse$Reader", name := "unit", desc := "(I)Z" } : Jvm.MethodName) prog_9_method_6_code (3 : Nat) (Option.some Jvm.ClassFile.FieldType.boolean)) ∈ gw := gw_in2 (List.mem_of_getElem? (i := 183) (rfl)) rfl
theorem tw_424 : (Jvm.Cond.methodLink "ScrapHouse$Reader" (38 : Nat) ({ cls := "ScrapHouse$Reader", name := "next", desc := "()I" } : Jvm.MethodName)) ∈ gw := gw_in2 (List.mem_of_getElem? (i := 184) (by decide +kernel)) rfl
theorem tw_426 : (Jvm.Cond.instanceMethod ({ cls := "ScrapHouse$Reader", name := "next", desc := "()I" } : Jvm.MethodName)) ∈ gw := gw_in2 (List.mem_of_getElem? (i := 186) (by decide +kernel)) rfl
theorem tw_427 : (Jvm.Cond.code ({ cls := "ScrapHouse$Reader", name := "next", desc := "()I" } : Jvm.MethodName) prog_9_method_12_code (1 : Nat) (Option.some Jvm.ClassFile.FieldType.int)) ∈ gw := gw_in2 (List.mem_of_getElem? (i := 187) (rfl)) rfl
theorem tw_428 : (Jvm.Cond.methodLink "ScrapHouse$Reader" (68 : Nat) ({ cls := "ScrapHouse$Text", name := "byteAt", desc := "(I)I" } : Jvm.MethodName)) ∈ gw := gw_in2 (List.mem_of_getElem? (i := 188) (by decide +kernel)) rfl
theorem tw_429 : (Jvm.Cond.instanceMethod ({ cls := "ScrapHouse$Text", name := "byteAt", desc := "(I)I" } : Jvm.MethodName)) ∈ gw := gw_in2 (List.mem_of_getElem? (i := 189) (by decide +kernel)) rfl
theorem tw_430 : (Jvm.Cond.selects "ScrapHouse$Text" ({ cls := "ScrapHouse$Text", name := "byteAt", desc := "(I)I" } : Jvm.MethodName) ({ cls := "ScrapHouse$Text", name := "byteAt", desc := "(I)I" } : Jvm.MethodName)) ∈ gw := gw_in2 (List.mem_of_getElem? (i := 190) (by decide +kernel)) rfl
theorem tw_431 : (Jvm.Cond.code ({ cls := "ScrapHouse$Text", name := "byteAt", desc := "(I)I" } : Jvm.MethodName) prog_10_method_3_code (2 : Nat) (Option.some Jvm.ClassFile.FieldType.int)) ∈ gw := gw_in2 (List.mem_of_getElem? (i := 191) (rfl)) rfl
theorem tw_433 : (Jvm.Cond.methodLink "ScrapHouse$Reader" (55 : Nat) ({ cls := "ScrapHouse$Reader", name := "test", desc := "()Z" } : Jvm.MethodName)) ∈ gw := gw_in2 (List.mem_of_getElem? (i := 193) (by decide +kernel)) rfl
theorem tw_435 : (Jvm.Cond.instanceMethod ({ cls := "ScrapHouse$Reader", name := "test", desc := "()Z" } : Jvm.MethodName)) ∈ gw := gw_in2 (List.mem_of_getElem? (i := 195) (by decide +kernel)) rfl
theorem tw_436 : (Jvm.Cond.code ({ cls := "ScrapHouse$Reader", name := "test", desc := "()Z" } : Jvm.MethodName) prog_9_method_7_code (2 : Nat) (Option.some Jvm.ClassFile.FieldType.boolean)) ∈ gw := gw_in2 (List.mem_of_getElem? (i := 196) (rfl)) rfl
theorem tw_437 : (Jvm.Cond.methodLink "ScrapHouse$Reader" (59 : Nat) ({ cls := "ScrapHouse$Reader", name := "letterValue", desc := "()I" } : Jvm.MethodName)) ∈ gw := gw_in2 (List.mem_of_getElem? (i := 197) (by decide +kernel)) rfl
theorem tw_439 : (Jvm.Cond.instanceMethod ({ cls := "ScrapHouse$Reader", name := "letterValue", desc := "()I" } : Jvm.MethodName)) ∈ gw := gw_in2 (List.mem_of_getElem? (i := 199) (by decide +kernel)) rfl
theorem tw_440 : (Jvm.Cond.code ({ cls := "ScrapHouse$Reader", name := "letterValue", desc := "()I" } : Jvm.MethodName) prog_9_method_8_code (3 : Nat) (Option.some Jvm.ClassFile.FieldType.int)) ∈ gw := gw_in2 (List.mem_of_getElem? (i := 200) (rfl)) rfl
theorem tw_441 : (Jvm.Cond.methodLink "ScrapHouse$Reader" (42 : Nat) ({ cls := "ScrapHouse$Reader", name := "fail", desc := "()V" } : Jvm.MethodName)) ∈ gw := gw_in2 (List.mem_of_getElem? (i := 201) (by decide +kernel)) rfl
theorem tw_443 : (Jvm.Cond.instanceMethod ({ cls := "ScrapHouse$Reader", name := "fail", desc := "()V" } : Jvm.MethodName)) ∈ gw := gw_in2 (List.mem_of_getElem? (i := 203) (by decide +kernel)) rfl
theorem tw_444 : (Jvm.Cond.code ({ cls := "ScrapHouse$Reader", name := "fail", desc := "()V" } : Jvm.MethodName) prog_9_method_13_code (1 : Nat) (Option.none : Option Jvm.ClassFile.FieldType)) ∈ gw := gw_in2 (List.mem_of_getElem? (i := 204) (rfl)) rfl
theorem tw_445 : (Jvm.Cond.methodLink "ScrapHouse$Reader" (48 : Nat) ({ cls := "ScrapHouse$Reader", name := "take", desc := "(C)Z" } : Jvm.MethodName)) ∈ gw := gw_in2 (List.mem_of_getElem? (i := 205) (by decide +kernel)) rfl
theorem tw_447 : (Jvm.Cond.instanceMethod ({ cls := "ScrapHouse$Reader", name := "take", desc := "(C)Z" } : Jvm.MethodName)) ∈ gw := gw_in2 (List.mem_of_getElem? (i := 207) (by decide +kernel)) rfl
theorem tw_448 : (Jvm.Cond.code ({ cls := "ScrapHouse$Reader", name := "take", desc := "(C)Z" } : Jvm.MethodName) prog_9_method_11_code (3 : Nat) (Option.some Jvm.ClassFile.FieldType.boolean)) ∈ gw := gw_in2 (List.mem_of_getElem? (i := 208) (rfl)) rfl
theorem tw_449 : (Jvm.Cond.methodLink "ScrapHouse$Reader" (62 : Nat) ({ cls := "ScrapHouse$Reader", name := "number", desc := "()I" } : Jvm.MethodName)) ∈ gw := gw_in2 (List.mem_of_getElem? (i := 209) (by decide +kernel)) rfl
theorem tw_451 : (Jvm.Cond.instanceMethod ({ cls := "ScrapHouse$Reader", name := "number", desc := "()I" } : Jvm.MethodName)) ∈ gw := gw_in2 (List.mem_of_getElem? (i := 211) (by decide +kernel)) rfl
theorem tw_452 : (Jvm.Cond.code ({ cls := "ScrapHouse$Reader", name := "number", desc := "()I" } : Jvm.MethodName) prog_9_method_9_code (3 : Nat) (Option.some Jvm.ClassFile.FieldType.int)) ∈ gw := gw_in2 (List.mem_of_getElem? (i := 212) (rfl)) rfl
theorem tw_453 : (Jvm.Cond.methodLink "ScrapHouse$Reader" (65 : Nat) ({ cls := "ScrapHouse$Reader", name := "isDigit", desc := "(I)Z" } : Jvm.MethodName)) ∈ gw := gw_in2 (List.mem_of_getElem? (i := 213) (by decide +kernel)) rfl
theorem tw_454 : (Jvm.Cond.static ({ cls := "ScrapHouse$Reader", name := "isDigit", desc := "(I)Z" } : Jvm.MethodName)) ∈ gw := gw_in2 (List.mem_of_getElem? (i := 214) (by decide +kernel)) rfl
theorem tw_455 : (Jvm.Cond.code ({ cls := "ScrapHouse$Reader", name := "isDigit", desc := "(I)Z" } : Jvm.MethodName) prog_9_method_10_code (1 : Nat) (Option.some Jvm.ClassFile.FieldType.boolean)) ∈ gw := gw_in2 (List.mem_of_getElem? (i := 215) (rfl)) rfl
theorem tw_457 : (Jvm.Cond.methodLink "ScrapHouseLaw" (89 : Nat) ({ cls := "ScrapHouse", name := "rule", desc := "()Z" } : Jvm.MethodName)) ∈ gw := gw_in2 (List.mem_of_getElem? (i := 217) (by decide +kernel)) rfl
theorem tw_458 : (Jvm.Cond.instanceMethod ({ cls := "ScrapHouse", name := "rule", desc := "()Z" } : Jvm.MethodName)) ∈ gw := gw_in2 (List.mem_of_getElem? (i := 218) (by decide +kernel)) rfl
theorem tw_459 : (Jvm.Cond.selects "ScrapHouse" ({ cls := "ScrapHouse", name := "rule", desc := "()Z" } : Jvm.MethodName) ({ cls := "ScrapHouse", name := "rule", desc := "()Z" } : Jvm.MethodName)) ∈ gw := gw_in2 (List.mem_of_getElem? (i := 219) (by decide +kernel)) rfl
theorem tw_460 : (Jvm.Cond.code ({ cls := "ScrapHouse", name := "rule", desc := "()Z" } : Jvm.MethodName) prog_1_method_18_code (2 : Nat) (Option.some Jvm.ClassFile.FieldType.boolean)) ∈ gw := gw_in2 (List.mem_of_getElem? (i := 220) (rfl)) rfl
theorem tw_461 : (Jvm.Cond.methodLink "ScrapHouseLaw" (94 : Nat) ({ cls := "ScrapHouse", name := "claim", desc := "(IIIIII)I" } : Jvm.MethodName)) ∈ gw := gw_in2 (List.mem_of_getElem? (i := 221) (by decide +kernel)) rfl
theorem tw_462 : (Jvm.Cond.instanceMethod ({ cls := "ScrapHouse", name := "claim", desc := "(IIIIII)I" } : Jvm.MethodName)) ∈ gw := gw_in2 (List.mem_of_getElem? (i := 222) (by decide +kernel)) rfl
theorem tw_463 : (Jvm.Cond.selects "ScrapHouse" ({ cls := "ScrapHouse", name := "claim", desc := "(IIIIII)I" } : Jvm.MethodName) ({ cls := "ScrapHouse", name := "claim", desc := "(IIIIII)I" } : Jvm.MethodName)) ∈ gw := gw_in2 (List.mem_of_getElem? (i := 223) (by decide +kernel)) rfl
theorem tw_464 : (Jvm.Cond.code ({ cls := "ScrapHouse", name := "claim", desc := "(IIIIII)I" } : Jvm.MethodName) prog_1_method_19_code (7 : Nat) (Option.some Jvm.ClassFile.FieldType.int)) ∈ gw := gw_in2 (List.mem_of_getElem? (i := 224) (rfl)) rfl
theorem tw_465 : (Jvm.Cond.classLink "ScrapHouse" (189 : Nat) "ScrapHouse$Claim") ∈ gw := gw_in2 (List.mem_of_getElem? (i := 225) (by decide +kernel)) rfl
theorem tw_466 : (Jvm.Cond.instantiable "ScrapHouse$Claim" (5 : Nat)) ∈ gw := gw_in2 (List.mem_of_getElem? (i := 226) (by decide +kernel)) rfl
theorem tw_467 : (Jvm.Cond.methodLink "ScrapHouse" (191 : Nat) ({ cls := "ScrapHouse$Claim", name := "<init>", desc := "(LScrapHouse$Half;IIII)V" } : Jvm.MethodName)) ∈ gw := gw_in2 (List.mem_of_getElem? (i := 227) (by decide +kernel)) rfl
theorem tw_468 : (Jvm.Cond.instanceMethod ({ cls := "ScrapHouse$Claim", name := "<init>", desc := "(LScrapHouse$Half;IIII)V" } : Jvm.MethodName)) ∈ gw := gw_in2 (List.mem_of_getElem? (i := 228) (by decide +kernel)) rfl
theorem tw_469 : (Jvm.Cond.code ({ cls := "ScrapHouse$Claim", name := "<init>", desc := "(LScrapHouse$Half;IIII)V" } : Jvm.MethodName) prog_4_method_1_code (6 : Nat) (Option.none : Option Jvm.ClassFile.FieldType)) ∈ gw := gw_in2 (List.mem_of_getElem? (i := 229) (rfl)) rfl
theorem tw_470 : (Jvm.Cond.methodLink "ScrapHouse$Claim" (3 : Nat) ({ cls := "java/lang/Object", name := "<init>", desc := "()V" } : Jvm.MethodName)) ∈ gw := gw_in2 (List.mem_of_getElem? (i := 230) (by decide +kernel)) rfl
theorem tw_471 : (Jvm.Cond.fieldLink "ScrapHouse$Claim" (9 : Nat) "ScrapHouse$Claim" "half" "LScrapHouse$Half;") ∈ gw := gw_in2 (List.mem_of_getElem? (i := 231) (by decide +kernel)) rfl
theorem tw_472 : (Jvm.Cond.fieldLink "ScrapHouse" (261 : Nat) "ScrapHouse$Claim" "half" "LScrapHouse$Half;") ∈ gw := gw_in2 (List.mem_of_getElem? (i := 232) (by decide +kernel)) rfl
theorem tw_473 : (Jvm.Cond.fieldLink "ScrapHouse$Claim" (15 : Nat) "ScrapHouse$Claim" "first" "I") ∈ gw := gw_in2 (List.mem_of_getElem? (i := 233) (by decide +kernel)) rfl
theorem tw_474 : (Jvm.Cond.fieldLink "ScrapHouse$Claim" (19 : Nat) "ScrapHouse$Claim" "last" "I") ∈ gw := gw_in2 (List.mem_of_getElem? (i := 234) (by decide +kernel)) rfl
theorem tw_475 : (Jvm.Cond.fieldLink "ScrapHouse$Claim" (22 : Nat) "ScrapHouse$Claim" "sex" "I") ∈ gw := gw_in2 (List.mem_of_getElem? (i := 235) (by decide +kernel)) rfl
theorem tw_476 : (Jvm.Cond.fieldLink "ScrapHouse$Claim" (25 : Nat) "ScrapHouse$Claim" "mark" "I") ∈ gw := gw_in2 (List.mem_of_getElem? (i := 236) (by decide +kernel)) rfl
theorem tw_477 : (Jvm.Cond.laysFinal "ScrapHouse$Claim" "ScrapHouse$Claim" "half" "LScrapHouse$Half;") ∈ gw := gw_in2 (List.mem_of_getElem? (i := 237) (by decide +kernel)) rfl
theorem tw_479 : (Jvm.Cond.laysFinal "ScrapHouse$Claim" "ScrapHouse$Claim" "first" "I") ∈ gw := gw_in2 (List.mem_of_getElem? (i := 239) (by decide +kernel)) rfl
theorem tw_481 : (Jvm.Cond.laysFinal "ScrapHouse$Claim" "ScrapHouse$Claim" "last" "I") ∈ gw := gw_in3 (List.mem_of_getElem? (i := 1) (by decide +kernel)) rfl
theorem tw_483 : (Jvm.Cond.laysFinal "ScrapHouse$Claim" "ScrapHouse$Claim" "sex" "I") ∈ gw := gw_in3 (List.mem_of_getElem? (i := 3) (by decide +kernel)) rfl
theorem tw_485 : (Jvm.Cond.laysFinal "ScrapHouse$Claim" "ScrapHouse$Claim" "mark" "I") ∈ gw := gw_in3 (List.mem_of_getElem? (i := 5) (by decide +kernel)) rfl
theorem tw_488 : (Jvm.Cond.methodLink "ScrapHouse" (194 : Nat) ({ cls := "ScrapHouse", name := "answerTo", desc := "(LScrapHouse$Claim;)I" } : Jvm.MethodName)) ∈ gw := gw_in3 (List.mem_of_getElem? (i := 8) (by decide +kernel)) rfl
theorem tw_490 : (Jvm.Cond.instanceMethod ({ cls := "ScrapHouse", name := "answerTo", desc := "(LScrapHouse$Claim;)I" } : Jvm.MethodName)) ∈ gw := gw_in3 (List.mem_of_getElem? (i := 10) (by decide +kernel)) rfl
theorem tw_491 : (Jvm.Cond.code ({ cls := "ScrapHouse", name := "answerTo", desc := "(LScrapHouse$Claim;)I" } : Jvm.MethodName) prog_1_method_39_code (6 : Nat) (Option.some Jvm.ClassFile.FieldType.int)) ∈ gw := gw_in3 (List.mem_of_getElem? (i := 11) (rfl)) rfl
theorem tw_492 : (Jvm.Cond.methodLink "ScrapHouse" (249 : Nat) ({ cls := "ScrapHouse$Claim", name := "disagreeing", desc := "(LScrapHouse$Child;)I" } : Jvm.MethodName)) ∈ gw := gw_in3 (List.mem_of_getElem? (i := 12) (by decide +kernel)) rfl
theorem tw_493 : (Jvm.Cond.instanceMethod ({ cls := "ScrapHouse$Claim", name := "disagreeing", desc := "(LScrapHouse$Child;)I" } : Jvm.MethodName)) ∈ gw := gw_in3 (List.mem_of_getElem? (i := 13) (by decide +kernel)) rfl
theorem tw_494 : (Jvm.Cond.selects "ScrapHouse$Claim" ({ cls := "ScrapHouse$Claim", name := "disagreeing", desc := "(LScrapHouse$Child;)I" } : Jvm.MethodName) ({ cls := "ScrapHouse$Claim", name := "disagreeing", desc := "(LScrapHouse$Child;)I" } : Jvm.MethodName)) ∈ gw := gw_in3 (List.mem_of_getElem? (i := 14) (by decide +kernel)) rfl
theorem tw_495 : (Jvm.Cond.code ({ cls := "ScrapHouse$Claim", name := "disagreeing", desc := "(LScrapHouse$Child;)I" } : Jvm.MethodName) prog_4_method_3_code (3 : Nat) (Option.some Jvm.ClassFile.FieldType.int)) ∈ gw := gw_in3 (List.mem_of_getElem? (i := 15) (rfl)) rfl
theorem tw_497 : (Jvm.Cond.methodLink "ScrapHouse" (253 : Nat) ({ cls := "ScrapHouse", name := "holdsOf", desc := "(LScrapHouse$Child;LScrapHouse$Claim;I)Z" } : Jvm.MethodName)) ∈ gw := gw_in3 (List.mem_of_getElem? (i := 17) (by decide +kernel)) rfl
theorem tw_499 : (Jvm.Cond.instanceMethod ({ cls := "ScrapHouse", name := "holdsOf", desc := "(LScrapHouse$Child;LScrapHouse$Claim;I)Z" } : Jvm.MethodName)) ∈ gw := gw_in3 (List.mem_of_getElem? (i := 19) (by decide +kernel)) rfl
theorem tw_500 : (Jvm.Cond.code ({ cls := "ScrapHouse", name := "holdsOf", desc := "(LScrapHouse$Child;LScrapHouse$Claim;I)Z" } : Jvm.MethodName) prog_1_method_40_code (4 : Nat) (Option.some Jvm.ClassFile.FieldType.boolean)) ∈ gw := gw_in3 (List.mem_of_getElem? (i := 20) (rfl)) rfl
theorem tw_501 : (Jvm.Cond.methodLink "ScrapHouse" (262 : Nat) ({ cls := "ScrapHouse$Claim", name := "agreeing", desc := "(LScrapHouse$Child;)I" } : Jvm.MethodName)) ∈ gw := gw_in3 (List.mem_of_getElem? (i := 21) (by decide +kernel)) rfl
theorem tw_502 : (Jvm.Cond.instanceMethod ({ cls := "ScrapHouse$Claim", name := "agreeing", desc := "(LScrapHouse$Child;)I" } : Jvm.MethodName)) ∈ gw := gw_in3 (List.mem_of_getElem? (i := 22) (by decide +kernel)) rfl
theorem tw_503 : (Jvm.Cond.selects "ScrapHouse$Claim" ({ cls := "ScrapHouse$Claim", name := "agreeing", desc := "(LScrapHouse$Child;)I" } : Jvm.MethodName) ({ cls := "ScrapHouse$Claim", name := "agreeing", desc := "(LScrapHouse$Child;)I" } : Jvm.MethodName)) ∈ gw := gw_in3 (List.mem_of_getElem? (i := 23) (by decide +kernel)) rfl
theorem tw_504 : (Jvm.Cond.code ({ cls := "ScrapHouse$Claim", name := "agreeing", desc := "(LScrapHouse$Child;)I" } : Jvm.MethodName) prog_4_method_2_code (3 : Nat) (Option.some Jvm.ClassFile.FieldType.int)) ∈ gw := gw_in3 (List.mem_of_getElem? (i := 24) (rfl)) rfl
theorem tw_505 : (Jvm.Cond.methodLink "ScrapHouse" (265 : Nat) ({ cls := "ScrapHouse$Reader", name := "holds", desc := "(LScrapHouse$Text;)Z" } : Jvm.MethodName)) ∈ gw := gw_in3 (List.mem_of_getElem? (i := 25) (by decide +kernel)) rfl
theorem tw_506 : (Jvm.Cond.methodLink "ScrapHouseLaw" (98 : Nat) ({ cls := "ScrapHouse", name := "name", desc := "(II)Z" } : Jvm.MethodName)) ∈ gw := gw_in3 (List.mem_of_getElem? (i := 26) (by decide +kernel)) rfl
theorem tw_507 : (Jvm.Cond.instanceMethod ({ cls := "ScrapHouse", name := "name", desc := "(II)Z" } : Jvm.MethodName)) ∈ gw := gw_in3 (List.mem_of_getElem? (i := 27) (by decide +kernel)) rfl
theorem tw_508 : (Jvm.Cond.selects "ScrapHouse" ({ cls := "ScrapHouse", name := "name", desc := "(II)Z" } : Jvm.MethodName) ({ cls := "ScrapHouse", name := "name", desc := "(II)Z" } : Jvm.MethodName)) ∈ gw := gw_in3 (List.mem_of_getElem? (i := 28) (by decide +kernel)) rfl
theorem tw_509 : (Jvm.Cond.code ({ cls := "ScrapHouse", name := "name", desc := "(II)Z" } : Jvm.MethodName) prog_1_method_20_code (4 : Nat) (Option.some Jvm.ClassFile.FieldType.boolean)) ∈ gw := gw_in3 (List.mem_of_getElem? (i := 29) (rfl)) rfl
theorem tw_510 : (Jvm.Cond.constant "ScrapHouse" (198 : Nat) (1000000 : Int32)) ∈ gw := gw_in3 (List.mem_of_getElem? (i := 30) (by decide +kernel)) rfl
theorem tw_511 : (Jvm.Cond.methodLink "ScrapHouseLaw" (102 : Nat) ({ cls := "ScrapHouse", name := "allow", desc := "(IIZ)Z" } : Jvm.MethodName)) ∈ gw := gw_in3 (List.mem_of_getElem? (i := 31) (by decide +kernel)) rfl
theorem tw_512 : (Jvm.Cond.instanceMethod ({ cls := "ScrapHouse", name := "allow", desc := "(IIZ)Z" } : Jvm.MethodName)) ∈ gw := gw_in3 (List.mem_of_getElem? (i := 32) (by decide +kernel)) rfl
theorem tw_513 : (Jvm.Cond.selects "ScrapHouse" ({ cls := "ScrapHouse", name := "allow", desc := "(IIZ)Z" } : Jvm.MethodName) ({ cls := "ScrapHouse", name := "allow", desc := "(IIZ)Z" } : Jvm.MethodName)) ∈ gw := gw_in3 (List.mem_of_getElem? (i := 33) (by decide +kernel)) rfl
theorem tw_514 : (Jvm.Cond.code ({ cls := "ScrapHouse", name := "allow", desc := "(IIZ)Z" } : Jvm.MethodName) prog_1_method_21_code (5 : Nat) (Option.some Jvm.ClassFile.FieldType.boolean)) ∈ gw := gw_in3 (List.mem_of_getElem? (i := 34) (rfl)) rfl
theorem tw_515 : (Jvm.Cond.methodLink "ScrapHouse" (202 : Nat) ({ cls := "ScrapHouse", name := "isWho", desc := "(I)Z" } : Jvm.MethodName)) ∈ gw := gw_in3 (List.mem_of_getElem? (i := 35) (by decide +kernel)) rfl
theorem tw_516 : (Jvm.Cond.static ({ cls := "ScrapHouse", name := "isWho", desc := "(I)Z" } : Jvm.MethodName)) ∈ gw := gw_in3 (List.mem_of_getElem? (i := 36) (by decide +kernel)) rfl
theorem tw_517 : (Jvm.Cond.code ({ cls := "ScrapHouse", name := "isWho", desc := "(I)Z" } : Jvm.MethodName) prog_1_method_28_code (1 : Nat) (Option.some Jvm.ClassFile.FieldType.boolean)) ∈ gw := gw_in3 (List.mem_of_getElem? (i := 37) (rfl)) rfl
theorem tw_518 : (Jvm.Cond.methodLink "ScrapHouse" (205 : Nat) ({ cls := "ScrapHouse$Child", name := "mayAsk", desc := "(I)Z" } : Jvm.MethodName)) ∈ gw := gw_in3 (List.mem_of_getElem? (i := 38) (by decide +kernel)) rfl
theorem tw_519 : (Jvm.Cond.instanceMethod ({ cls := "ScrapHouse$Child", name := "mayAsk", desc := "(I)Z" } : Jvm.MethodName)) ∈ gw := gw_in3 (List.mem_of_getElem? (i := 39) (by decide +kernel)) rfl
theorem tw_520 : (Jvm.Cond.selects "ScrapHouse$Child" ({ cls := "ScrapHouse$Child", name := "mayAsk", desc := "(I)Z" } : Jvm.MethodName) ({ cls := "ScrapHouse$Child", name := "mayAsk", desc := "(I)Z" } : Jvm.MethodName)) ∈ gw := gw_in3 (List.mem_of_getElem? (i := 40) (by decide +kernel)) rfl
theorem tw_521 : (Jvm.Cond.code ({ cls := "ScrapHouse$Child", name := "mayAsk", desc := "(I)Z" } : Jvm.MethodName) prog_3_method_2_code (2 : Nat) (Option.some Jvm.ClassFile.FieldType.boolean)) ∈ gw := gw_in3 (List.mem_of_getElem? (i := 41) (rfl)) rfl
theorem tw_522 : (Jvm.Cond.methodLink "ScrapHouseLaw" (107 : Nat) ({ cls := "ScrapHouse", name := "ask", desc := "(II)I" } : Jvm.MethodName)) ∈ gw := gw_in3 (List.mem_of_getElem? (i := 42) (by decide +kernel)) rfl
theorem tw_523 : (Jvm.Cond.instanceMethod ({ cls := "ScrapHouse", name := "ask", desc := "(II)I" } : Jvm.MethodName)) ∈ gw := gw_in3 (List.mem_of_getElem? (i := 43) (by decide +kernel)) rfl
theorem tw_524 : (Jvm.Cond.selects "ScrapHouse" ({ cls := "ScrapHouse", name := "ask", desc := "(II)I" } : Jvm.MethodName) ({ cls := "ScrapHouse", name := "ask", desc := "(II)I" } : Jvm.MethodName)) ∈ gw := gw_in3 (List.mem_of_getElem? (i := 44) (by decide +kernel)) rfl
theorem tw_525 : (Jvm.Cond.code ({ cls := "ScrapHouse", name := "ask", desc := "(II)I" } : Jvm.MethodName) prog_1_method_22_code (4 : Nat) (Option.some Jvm.ClassFile.FieldType.int)) ∈ gw := gw_in3 (List.mem_of_getElem? (i := 45) (rfl)) rfl
theorem tw_526 : (Jvm.Cond.methodLink "ScrapHouseLaw" (111 : Nat) ({ cls := "ScrapHouse", name := "guess", desc := "(III)I" } : Jvm.MethodName)) ∈ gw := gw_in3 (List.mem_of_getElem? (i := 46) (by decide +kernel)) rfl
theorem tw_527 : (Jvm.Cond.instanceMethod ({ cls := "ScrapHouse", name := "guess", desc := "(III)I" } : Jvm.MethodName)) ∈ gw := gw_in3 (List.mem_of_getElem? (i := 47) (by decide +kernel)) rfl
theorem tw_528 : (Jvm.Cond.selects "ScrapHouse" ({ cls := "ScrapHouse", name := "guess", desc := "(III)I" } : Jvm.MethodName) ({ cls := "ScrapHouse", name := "guess", desc := "(III)I" } : Jvm.MethodName)) ∈ gw := gw_in3 (List.mem_of_getElem? (i := 48) (by decide +kernel)) rfl
theorem tw_529 : (Jvm.Cond.code ({ cls := "ScrapHouse", name := "guess", desc := "(III)I" } : Jvm.MethodName) prog_1_method_23_code (5 : Nat) (Option.some Jvm.ClassFile.FieldType.int)) ∈ gw := gw_in3 (List.mem_of_getElem? (i := 49) (rfl)) rfl
theorem tw_530 : (Jvm.Cond.methodLink "ScrapHouseLaw" (115 : Nat) ({ cls := "ScrapHouse", name := "told", desc := "(II)I" } : Jvm.MethodName)) ∈ gw := gw_in3 (List.mem_of_getElem? (i := 50) (by decide +kernel)) rfl
theorem tw_531 : (Jvm.Cond.instanceMethod ({ cls := "ScrapHouse", name := "told", desc := "(II)I" } : Jvm.MethodName)) ∈ gw := gw_in3 (List.mem_of_getElem? (i := 51) (by decide +kernel)) rfl
theorem tw_532 : (Jvm.Cond.selects "ScrapHouse" ({ cls := "ScrapHouse", name := "told", desc := "(II)I" } : Jvm.MethodName) ({ cls := "ScrapHouse", name := "told", desc := "(II)I" } : Jvm.MethodName)) ∈ gw := gw_in3 (List.mem_of_getElem? (i := 52) (by decide +kernel)) rfl
theorem tw_533 : (Jvm.Cond.code ({ cls := "ScrapHouse", name := "told", desc := "(II)I" } : Jvm.MethodName) prog_1_method_24_code (4 : Nat) (Option.some Jvm.ClassFile.FieldType.int)) ∈ gw := gw_in3 (List.mem_of_getElem? (i := 53) (rfl)) rfl
theorem tw_534 : (Jvm.Cond.methodLink "ScrapHouseLaw" (119 : Nat) ({ cls := "ScrapHouse", name := "count", desc := "(I)I" } : Jvm.MethodName)) ∈ gw := gw_in3 (List.mem_of_getElem? (i := 54) (by decide +kernel)) rfl
theorem tw_535 : (Jvm.Cond.instanceMethod ({ cls := "ScrapHouse", name := "count", desc := "(I)I" } : Jvm.MethodName)) ∈ gw := gw_in3 (List.mem_of_getElem? (i := 55) (by decide +kernel)) rfl
theorem tw_536 : (Jvm.Cond.selects "ScrapHouse" ({ cls := "ScrapHouse", name := "count", desc := "(I)I" } : Jvm.MethodName) ({ cls := "ScrapHouse", name := "count", desc := "(I)I" } : Jvm.MethodName)) ∈ gw := gw_in3 (List.mem_of_getElem? (i := 56) (by decide +kernel)) rfl
theorem tw_537 : (Jvm.Cond.code ({ cls := "ScrapHouse", name := "count", desc := "(I)I" } : Jvm.MethodName) prog_1_method_25_code (2 : Nat) (Option.some Jvm.ClassFile.FieldType.int)) ∈ gw := gw_in3 (List.mem_of_getElem? (i := 57) (rfl)) rfl
theorem tw_538 : (Jvm.Cond.classLink "ScrapHouseLaw" (10 : Nat) "ScrapHouseModel") ∈ gw := gw_in3 (List.mem_of_getElem? (i := 58) (by decide +kernel)) rfl
theorem tw_539 : (Jvm.Cond.instantiable "ScrapHouseModel" (33 : Nat)) ∈ gw := gw_in3 (List.mem_of_getElem? (i := 59) (by decide +kernel)) rfl
theorem tw_540 : (Jvm.Cond.methodLink "ScrapHouseLaw" (12 : Nat) ({ cls := "ScrapHouseModel", name := "<init>", desc := "()V" } : Jvm.MethodName)) ∈ gw := gw_in3 (List.mem_of_getElem? (i := 60) (by decide +kernel)) rfl
theorem tw_541 : (Jvm.Cond.instanceMethod ({ cls := "ScrapHouseModel", name := "<init>", desc := "()V" } : Jvm.MethodName)) ∈ gw := gw_in3 (List.mem_of_getElem? (i := 61) (by decide +kernel)) rfl
theorem tw_542 : (Jvm.Cond.code ({ cls := "ScrapHouseModel", name := "<init>", desc := "()V" } : Jvm.MethodName) prog_12_method_2_code (2 : Nat) (Option.none : Option Jvm.ClassFile.FieldType)) ∈ gw := gw_in3 (List.mem_of_getElem? (i := 62) (rfl)) rfl
theorem tw_543 : (Jvm.Cond.methodLink "ScrapHouseModel" (1 : Nat) ({ cls := "java/lang/Object", name := "<init>", desc := "()V" } : Jvm.MethodName)) ∈ gw := gw_in3 (List.mem_of_getElem? (i := 63) (by decide +kernel)) rfl
theorem tw_544 : (Jvm.Cond.fieldLink "ScrapHouseModel" (81 : Nat) "ScrapHouseModel" "now" "I") ∈ gw := gw_in3 (List.mem_of_getElem? (i := 64) (by decide +kernel)) rfl
theorem tw_545 : (Jvm.Cond.fieldLink "ScrapHouseModel" (85 : Nat) "ScrapHouseModel" "ballots" "I") ∈ gw := gw_in3 (List.mem_of_getElem? (i := 65) (by decide +kernel)) rfl
theorem tw_546 : (Jvm.Cond.fieldLink "ScrapHouseModel" (101 : Nat) "ScrapHouseModel" "children" "I") ∈ gw := gw_in3 (List.mem_of_getElem? (i := 66) (by decide +kernel)) rfl
theorem tw_547 : (Jvm.Cond.fieldLink "ScrapHouseModel" (104 : Nat) "ScrapHouseModel" "moves" "I") ∈ gw := gw_in3 (List.mem_of_getElem? (i := 67) (by decide +kernel)) rfl
theorem tw_548 : (Jvm.Cond.fieldLink "ScrapHouseModel" (130 : Nat) "ScrapHouseModel" "looks" "I") ∈ gw := gw_in3 (List.mem_of_getElem? (i := 68) (by decide +kernel)) rfl
theorem tw_549 : (Jvm.Cond.fieldLink "ScrapHouseModel" (198 : Nat) "ScrapHouseModel" "rules" "I") ∈ gw := gw_in3 (List.mem_of_getElem? (i := 69) (by decide +kernel)) rfl
theorem tw_550 : (Jvm.Cond.fieldLink "ScrapHouseModel" (9 : Nat) "ScrapHouseModel" "women" "[I") ∈ gw := gw_in3 (List.mem_of_getElem? (i := 70) (by decide +kernel)) rfl
theorem tw_551 : (Jvm.Cond.fieldLink "ScrapHouseModel" (13 : Nat) "ScrapHouseModel" "ball" "[I") ∈ gw := gw_in3 (List.mem_of_getElem? (i := 71) (by decide +kernel)) rfl
theorem tw_552 : (Jvm.Cond.fieldLink "ScrapHouseModel" (16 : Nat) "ScrapHouseModel" "line" "[I") ∈ gw := gw_in3 (List.mem_of_getElem? (i := 72) (by decide +kernel)) rfl
theorem tw_553 : (Jvm.Cond.fieldLink "ScrapHouseModel" (19 : Nat) "ScrapHouseModel" "born" "[I") ∈ gw := gw_in3 (List.mem_of_getElem? (i := 73) (by decide +kernel)) rfl
theorem tw_554 : (Jvm.Cond.fieldLink "ScrapHouseModel" (22 : Nat) "ScrapHouseModel" "sex" "[I") ∈ gw := gw_in3 (List.mem_of_getElem? (i := 74) (by decide +kernel)) rfl
theorem tw_555 : (Jvm.Cond.fieldLink "ScrapHouseModel" (25 : Nat) "ScrapHouseModel" "mark" "[I") ∈ gw := gw_in3 (List.mem_of_getElem? (i := 75) (by decide +kernel)) rfl
theorem tw_556 : (Jvm.Cond.fieldLink "ScrapHouseModel" (28 : Nat) "ScrapHouseModel" "edge" "[I") ∈ gw := gw_in3 (List.mem_of_getElem? (i := 76) (by decide +kernel)) rfl
theorem tw_557 : (Jvm.Cond.fieldLink "ScrapHouseModel" (31 : Nat) "ScrapHouseModel" "threads" "[I") ∈ gw := gw_in3 (List.mem_of_getElem? (i := 77) (by decide +kernel)) rfl
theorem tw_558 : (Jvm.Cond.fieldLink "ScrapHouseModel" (34 : Nat) "ScrapHouseModel" "ofBallot" "[I") ∈ gw := gw_in3 (List.mem_of_getElem? (i := 78) (by decide +kernel)) rfl
theorem tw_559 : (Jvm.Cond.fieldLink "ScrapHouseModel" (37 : Nat) "ScrapHouseModel" "ofWoman" "[I") ∈ gw := gw_in3 (List.mem_of_getElem? (i := 79) (by decide +kernel)) rfl
theorem tw_560 : (Jvm.Cond.fieldLink "ScrapHouseModel" (40 : Nat) "ScrapHouseModel" "number" "[I") ∈ gw := gw_in3 (List.mem_of_getElem? (i := 80) (by decide +kernel)) rfl
theorem tw_561 : (Jvm.Cond.fieldLink "ScrapHouseModel" (43 : Nat) "ScrapHouseModel" "may" "[Z") ∈ gw := gw_in3 (List.mem_of_getElem? (i := 81) (by decide +kernel)) rfl
theorem tw_562 : (Jvm.Cond.fieldLink "ScrapHouseModel" (47 : Nat) "ScrapHouseModel" "moved" "[I") ∈ gw := gw_in3 (List.mem_of_getElem? (i := 82) (by decide +kernel)) rfl
theorem tw_563 : (Jvm.Cond.fieldLink "ScrapHouseModel" (50 : Nat) "ScrapHouseModel" "movePlace" "[I") ∈ gw := gw_in3 (List.mem_of_getElem? (i := 83) (by decide +kernel)) rfl
theorem tw_564 : (Jvm.Cond.fieldLink "ScrapHouseModel" (53 : Nat) "ScrapHouseModel" "moveFrom" "[I") ∈ gw := gw_in3 (List.mem_of_getElem? (i := 84) (by decide +kernel)) rfl
theorem tw_565 : (Jvm.Cond.fieldLink "ScrapHouseModel" (56 : Nat) "ScrapHouseModel" "moveTold" "[I") ∈ gw := gw_in3 (List.mem_of_getElem? (i := 85) (by decide +kernel)) rfl
theorem tw_566 : (Jvm.Cond.fieldLink "ScrapHouseModel" (59 : Nat) "ScrapHouseModel" "beds" "[I") ∈ gw := gw_in3 (List.mem_of_getElem? (i := 86) (by decide +kernel)) rfl
theorem tw_567 : (Jvm.Cond.fieldLink "ScrapHouseModel" (62 : Nat) "ScrapHouseModel" "looked" "[Z") ∈ gw := gw_in3 (List.mem_of_getElem? (i := 87) (by decide +kernel)) rfl
theorem tw_568 : (Jvm.Cond.fieldLink "ScrapHouseModel" (65 : Nat) "ScrapHouseModel" "tape" "[I") ∈ gw := gw_in3 (List.mem_of_getElem? (i := 88) (by decide +kernel)) rfl
theorem tw_569 : (Jvm.Cond.fieldLink "ScrapHouseModel" (68 : Nat) "ScrapHouseModel" "codes" "[I") ∈ gw := gw_in3 (List.mem_of_getElem? (i := 89) (by decide +kernel)) rfl
theorem tw_570 : (Jvm.Cond.fieldLink "ScrapHouseModel" (71 : Nat) "ScrapHouseModel" "saying" "[I") ∈ gw := gw_in3 (List.mem_of_getElem? (i := 90) (by decide +kernel)) rfl
theorem tw_571 : (Jvm.Cond.fieldLink "ScrapHouseModel" (160 : Nat) "ScrapHouseModel" "size" "I") ∈ gw := gw_in3 (List.mem_of_getElem? (i := 91) (by decide +kernel)) rfl
theorem tw_572 : (Jvm.Cond.fieldLink "ScrapHouseModel" (163 : Nat) "ScrapHouseModel" "at" "I") ∈ gw := gw_in3 (List.mem_of_getElem? (i := 92) (by decide +kernel)) rfl
theorem tw_573 : (Jvm.Cond.fieldLink "ScrapHouseModel" (166 : Nat) "ScrapHouseModel" "wrong" "I") ∈ gw := gw_in3 (List.mem_of_getElem? (i := 93) (by decide +kernel)) rfl
theorem tw_574 : (Jvm.Cond.fieldLink "ScrapHouseModel" (176 : Nat) "ScrapHouseModel" "deep" "I") ∈ gw := gw_in3 (List.mem_of_getElem? (i := 94) (by decide +kernel)) rfl
theorem tw_575 : (Jvm.Cond.fieldLink "ScrapHouseModel" (169 : Nat) "ScrapHouseModel" "said" "I") ∈ gw := gw_in3 (List.mem_of_getElem? (i := 95) (by decide +kernel)) rfl
theorem tw_576 : (Jvm.Cond.fieldLink "ScrapHouseModel" (74 : Nat) "ScrapHouseModel" "pile" "[Z") ∈ gw := gw_in3 (List.mem_of_getElem? (i := 96) (by decide +kernel)) rfl
theorem tw_577 : (Jvm.Cond.lays "ScrapHouseModel" "ScrapHouseModel" "now" "I") ∈ gw := gw_in3 (List.mem_of_getElem? (i := 97) (by decide +kernel)) rfl
theorem tw_579 : (Jvm.Cond.lays "ScrapHouseModel" "ScrapHouseModel" "ballots" "I") ∈ gw := gw_in3 (List.mem_of_getElem? (i := 99) (by decide +kernel)) rfl
theorem tw_581 : (Jvm.Cond.lays "ScrapHouseModel" "ScrapHouseModel" "children" "I") ∈ gw := gw_in3 (List.mem_of_getElem? (i := 101) (by decide +kernel)) rfl
theorem tw_583 : (Jvm.Cond.lays "ScrapHouseModel" "ScrapHouseModel" "moves" "I") ∈ gw := gw_in3 (List.mem_of_getElem? (i := 103) (by decide +kernel)) rfl
theorem tw_585 : (Jvm.Cond.lays "ScrapHouseModel" "ScrapHouseModel" "looks" "I") ∈ gw := gw_in3 (List.mem_of_getElem? (i := 105) (by decide +kernel)) rfl
theorem tw_587 : (Jvm.Cond.lays "ScrapHouseModel" "ScrapHouseModel" "rules" "I") ∈ gw := gw_in3 (List.mem_of_getElem? (i := 107) (by decide +kernel)) rfl
theorem tw_589 : (Jvm.Cond.laysFinal "ScrapHouseModel" "ScrapHouseModel" "women" "[I") ∈ gw := gw_in3 (List.mem_of_getElem? (i := 109) (by decide +kernel)) rfl
theorem tw_591 : (Jvm.Cond.laysFinal "ScrapHouseModel" "ScrapHouseModel" "ball" "[I") ∈ gw := gw_in3 (List.mem_of_getElem? (i := 111) (by decide +kernel)) rfl
theorem tw_593 : (Jvm.Cond.laysFinal "ScrapHouseModel" "ScrapHouseModel" "line" "[I") ∈ gw := gw_in3 (List.mem_of_getElem? (i := 113) (by decide +kernel)) rfl
theorem tw_595 : (Jvm.Cond.laysFinal "ScrapHouseModel" "ScrapHouseModel" "born" "[I") ∈ gw := gw_in3 (List.mem_of_getElem? (i := 115) (by decide +kernel)) rfl
theorem tw_597 : (Jvm.Cond.laysFinal "ScrapHouseModel" "ScrapHouseModel" "sex" "[I") ∈ gw := gw_in3 (List.mem_of_getElem? (i := 117) (by decide +kernel)) rfl
theorem tw_599 : (Jvm.Cond.laysFinal "ScrapHouseModel" "ScrapHouseModel" "mark" "[I") ∈ gw := gw_in3 (List.mem_of_getElem? (i := 119) (by decide +kernel)) rfl
theorem tw_601 : (Jvm.Cond.laysFinal "ScrapHouseModel" "ScrapHouseModel" "edge" "[I") ∈ gw := gw_in3 (List.mem_of_getElem? (i := 121) (by decide +kernel)) rfl
theorem tw_603 : (Jvm.Cond.laysFinal "ScrapHouseModel" "ScrapHouseModel" "threads" "[I") ∈ gw := gw_in3 (List.mem_of_getElem? (i := 123) (by decide +kernel)) rfl
theorem tw_605 : (Jvm.Cond.laysFinal "ScrapHouseModel" "ScrapHouseModel" "ofBallot" "[I") ∈ gw := gw_in3 (List.mem_of_getElem? (i := 125) (by decide +kernel)) rfl
theorem tw_607 : (Jvm.Cond.laysFinal "ScrapHouseModel" "ScrapHouseModel" "ofWoman" "[I") ∈ gw := gw_in3 (List.mem_of_getElem? (i := 127) (by decide +kernel)) rfl
theorem tw_609 : (Jvm.Cond.laysFinal "ScrapHouseModel" "ScrapHouseModel" "number" "[I") ∈ gw := gw_in3 (List.mem_of_getElem? (i := 129) (by decide +kernel)) rfl
theorem tw_611 : (Jvm.Cond.laysFinal "ScrapHouseModel" "ScrapHouseModel" "may" "[Z") ∈ gw := gw_in3 (List.mem_of_getElem? (i := 131) (by decide +kernel)) rfl
theorem tw_613 : (Jvm.Cond.laysFinal "ScrapHouseModel" "ScrapHouseModel" "moved" "[I") ∈ gw := gw_in3 (List.mem_of_getElem? (i := 133) (by decide +kernel)) rfl
theorem tw_615 : (Jvm.Cond.laysFinal "ScrapHouseModel" "ScrapHouseModel" "movePlace" "[I") ∈ gw := gw_in3 (List.mem_of_getElem? (i := 135) (by decide +kernel)) rfl
theorem tw_617 : (Jvm.Cond.laysFinal "ScrapHouseModel" "ScrapHouseModel" "moveFrom" "[I") ∈ gw := gw_in3 (List.mem_of_getElem? (i := 137) (by decide +kernel)) rfl
theorem tw_619 : (Jvm.Cond.laysFinal "ScrapHouseModel" "ScrapHouseModel" "moveTold" "[I") ∈ gw := gw_in3 (List.mem_of_getElem? (i := 139) (by decide +kernel)) rfl
theorem tw_621 : (Jvm.Cond.laysFinal "ScrapHouseModel" "ScrapHouseModel" "beds" "[I") ∈ gw := gw_in3 (List.mem_of_getElem? (i := 141) (by decide +kernel)) rfl
theorem tw_623 : (Jvm.Cond.laysFinal "ScrapHouseModel" "ScrapHouseModel" "looked" "[Z") ∈ gw := gw_in3 (List.mem_of_getElem? (i := 143) (by decide +kernel)) rfl
theorem tw_625 : (Jvm.Cond.laysFinal "ScrapHouseModel" "ScrapHouseModel" "tape" "[I") ∈ gw := gw_in3 (List.mem_of_getElem? (i := 145) (by decide +kernel)) rfl
theorem tw_627 : (Jvm.Cond.laysFinal "ScrapHouseModel" "ScrapHouseModel" "codes" "[I") ∈ gw := gw_in3 (List.mem_of_getElem? (i := 147) (by decide +kernel)) rfl
theorem tw_629 : (Jvm.Cond.laysFinal "ScrapHouseModel" "ScrapHouseModel" "saying" "[I") ∈ gw := gw_in3 (List.mem_of_getElem? (i := 149) (by decide +kernel)) rfl
theorem tw_631 : (Jvm.Cond.lays "ScrapHouseModel" "ScrapHouseModel" "size" "I") ∈ gw := gw_in3 (List.mem_of_getElem? (i := 151) (by decide +kernel)) rfl
theorem tw_633 : (Jvm.Cond.lays "ScrapHouseModel" "ScrapHouseModel" "at" "I") ∈ gw := gw_in3 (List.mem_of_getElem? (i := 153) (by decide +kernel)) rfl
theorem tw_635 : (Jvm.Cond.lays "ScrapHouseModel" "ScrapHouseModel" "wrong" "I") ∈ gw := gw_in3 (List.mem_of_getElem? (i := 155) (by decide +kernel)) rfl
theorem tw_637 : (Jvm.Cond.lays "ScrapHouseModel" "ScrapHouseModel" "deep" "I") ∈ gw := gw_in3 (List.mem_of_getElem? (i := 157) (by decide +kernel)) rfl
theorem tw_639 : (Jvm.Cond.lays "ScrapHouseModel" "ScrapHouseModel" "said" "I") ∈ gw := gw_in3 (List.mem_of_getElem? (i := 159) (by decide +kernel)) rfl
theorem tw_641 : (Jvm.Cond.laysFinal "ScrapHouseModel" "ScrapHouseModel" "pile" "[Z") ∈ gw := gw_in3 (List.mem_of_getElem? (i := 161) (by decide +kernel)) rfl
theorem tw_644 : (Jvm.Cond.arrayClass Jvm.ClassFile.FieldType.boolean) ∈ gw := gw_in3 (List.mem_of_getElem? (i := 164) (by decide +kernel)) rfl
theorem tw_645 : (Jvm.Cond.methodLink "ScrapHouseLaw" (17 : Nat) ({ cls := "ScrapHouseModel", name := "days", desc := "(I)I" } : Jvm.MethodName)) ∈ gw := gw_in3 (List.mem_of_getElem? (i := 165) (by decide +kernel)) rfl
theorem tw_646 : (Jvm.Cond.instanceMethod ({ cls := "ScrapHouseModel", name := "days", desc := "(I)I" } : Jvm.MethodName)) ∈ gw := gw_in3 (List.mem_of_getElem? (i := 166) (by decide +kernel)) rfl
theorem tw_647 : (Jvm.Cond.selects "ScrapHouseModel" ({ cls := "ScrapHouseModel", name := "days", desc := "(I)I" } : Jvm.MethodName) ({ cls := "ScrapHouseModel", name := "days", desc := "(I)I" } : Jvm.MethodName)) ∈ gw := gw_in3 (List.mem_of_getElem? (i := 167) (by decide +kernel)) rfl
theorem tw_648 : (Jvm.Cond.code ({ cls := "ScrapHouseModel", name := "days", desc := "(I)I" } : Jvm.MethodName) prog_12_method_3_code (2 : Nat) (Option.some Jvm.ClassFile.FieldType.int)) ∈ gw := gw_in3 (List.mem_of_getElem? (i := 168) (rfl)) rfl
theorem tw_649 : (Jvm.Cond.methodLink "ScrapHouseModel" (77 : Nat) ({ cls := "ScrapHouseModel", name := "in", desc := "(III)Z" } : Jvm.MethodName)) ∈ gw := gw_in3 (List.mem_of_getElem? (i := 169) (by decide +kernel)) rfl
theorem tw_650 : (Jvm.Cond.static ({ cls := "ScrapHouseModel", name := "in", desc := "(III)Z" } : Jvm.MethodName)) ∈ gw := gw_in3 (List.mem_of_getElem? (i := 170) (by decide +kernel)) rfl
theorem tw_651 : (Jvm.Cond.code ({ cls := "ScrapHouseModel", name := "in", desc := "(III)Z" } : Jvm.MethodName) prog_12_method_1_code (3 : Nat) (Option.some Jvm.ClassFile.FieldType.boolean)) ∈ gw := gw_in3 (List.mem_of_getElem? (i := 171) (rfl)) rfl
theorem tw_652 : (Jvm.Cond.methodLink "ScrapHouseLaw" (24 : Nat) ({ cls := "ScrapHouseModel", name := "ballot", desc := "(IIIJ)I" } : Jvm.MethodName)) ∈ gw := gw_in3 (List.mem_of_getElem? (i := 172) (by decide +kernel)) rfl
theorem tw_653 : (Jvm.Cond.instanceMethod ({ cls := "ScrapHouseModel", name := "ballot", desc := "(IIIJ)I" } : Jvm.MethodName)) ∈ gw := gw_in3 (List.mem_of_getElem? (i := 173) (by decide +kernel)) rfl
theorem tw_654 : (Jvm.Cond.selects "ScrapHouseModel" ({ cls := "ScrapHouseModel", name := "ballot", desc := "(IIIJ)I" } : Jvm.MethodName) ({ cls := "ScrapHouseModel", name := "ballot", desc := "(IIIJ)I" } : Jvm.MethodName)) ∈ gw := gw_in3 (List.mem_of_getElem? (i := 174) (by decide +kernel)) rfl
theorem tw_655 : (Jvm.Cond.code ({ cls := "ScrapHouseModel", name := "ballot", desc := "(IIIJ)I" } : Jvm.MethodName) prog_12_method_4_code (13 : Nat) (Option.some Jvm.ClassFile.FieldType.int)) ∈ gw := gw_in3 (List.mem_of_getElem? (i := 175) (rfl)) rfl
theorem tw_656 : (Jvm.Cond.methodLink "ScrapHouseModel" (88 : Nat) ({ cls := "ScrapHouseModel", name := "lineOf", desc := "(I)[I" } : Jvm.MethodName)) ∈ gw := gw_in3 (List.mem_of_getElem? (i := 176) (by decide +kernel)) rfl
theorem tw_658 : (Jvm.Cond.instanceMethod ({ cls := "ScrapHouseModel", name := "lineOf", desc := "(I)[I" } : Jvm.MethodName)) ∈ gw := gw_in3 (List.mem_of_getElem? (i := 178) (by decide +kernel)) rfl
theorem tw_659 : (Jvm.Cond.code ({ cls := "ScrapHouseModel", name := "lineOf", desc := "(I)[I" } : Jvm.MethodName) prog_12_method_5_code (3 : Nat) (Option.some (Jvm.ClassFile.FieldType.array Jvm.ClassFile.FieldType.int))) ∈ gw := gw_in3 (List.mem_of_getElem? (i := 179) (rfl)) rfl
theorem tw_660 : (Jvm.Cond.constantLong "ScrapHouseModel" (92 : Nat) (6364136223846793005 : Int64)) ∈ gw := gw_in3 (List.mem_of_getElem? (i := 180) (by decide +kernel)) rfl
theorem tw_661 : (Jvm.Cond.constantLong "ScrapHouseModel" (94 : Nat) (1442695040888963407 : Int64)) ∈ gw := gw_in3 (List.mem_of_getElem? (i := 181) (by decide +kernel)) rfl
theorem tw_662 : (Jvm.Cond.methodLink "ScrapHouseLaw" (29 : Nat) ({ cls := "ScrapHouseModel", name := "ball", desc := "(II)I" } : Jvm.MethodName)) ∈ gw := gw_in3 (List.mem_of_getElem? (i := 182) (by decide +kernel)) rfl
theorem tw_663 : (Jvm.Cond.instanceMethod ({ cls := "ScrapHouseModel", name := "ball", desc := "(II)I" } : Jvm.MethodName)) ∈ gw := gw_in3 (List.mem_of_getElem? (i := 183) (by decide +kernel)) rfl
theorem tw_664 : (Jvm.Cond.selects "ScrapHouseModel" ({ cls := "ScrapHouseModel", name := "ball", desc := "(II)I" } : Jvm.MethodName) ({ cls := "ScrapHouseModel", name := "ball", desc := "(II)I" } : Jvm.MethodName)) ∈ gw := gw_in3 (List.mem_of_getElem? (i := 184) (by decide +kernel)) rfl
theorem tw_665 : (Jvm.Cond.code ({ cls := "ScrapHouseModel", name := "ball", desc := "(II)I" } : Jvm.MethodName) prog_12_method_7_code (3 : Nat) (Option.some Jvm.ClassFile.FieldType.int)) ∈ gw := gw_in3 (List.mem_of_getElem? (i := 185) (rfl)) rfl
theorem tw_666 : (Jvm.Cond.methodLink "ScrapHouseModel" (96 : Nat) ({ cls := "ScrapHouseModel", name := "isWoman", desc := "(II)Z" } : Jvm.MethodName)) ∈ gw := gw_in3 (List.mem_of_getElem? (i := 186) (by decide +kernel)) rfl
theorem tw_668 : (Jvm.Cond.instanceMethod ({ cls := "ScrapHouseModel", name := "isWoman", desc := "(II)Z" } : Jvm.MethodName)) ∈ gw := gw_in3 (List.mem_of_getElem? (i := 188) (by decide +kernel)) rfl
theorem tw_669 : (Jvm.Cond.code ({ cls := "ScrapHouseModel", name := "isWoman", desc := "(II)Z" } : Jvm.MethodName) prog_12_method_6_code (3 : Nat) (Option.some Jvm.ClassFile.FieldType.boolean)) ∈ gw := gw_in3 (List.mem_of_getElem? (i := 189) (rfl)) rfl
theorem tw_670 : (Jvm.Cond.methodLink "ScrapHouseLaw" (33 : Nat) ({ cls := "ScrapHouseModel", name := "away", desc := "(II)I" } : Jvm.MethodName)) ∈ gw := gw_in3 (List.mem_of_getElem? (i := 190) (by decide +kernel)) rfl
theorem tw_671 : (Jvm.Cond.instanceMethod ({ cls := "ScrapHouseModel", name := "away", desc := "(II)I" } : Jvm.MethodName)) ∈ gw := gw_in3 (List.mem_of_getElem? (i := 191) (by decide +kernel)) rfl
theorem tw_672 : (Jvm.Cond.selects "ScrapHouseModel" ({ cls := "ScrapHouseModel", name := "away", desc := "(II)I" } : Jvm.MethodName) ({ cls := "ScrapHouseModel", name := "away", desc := "(II)I" } : Jvm.MethodName)) ∈ gw := gw_in3 (List.mem_of_getElem? (i := 192) (by decide +kernel)) rfl
theorem tw_673 : (Jvm.Cond.code ({ cls := "ScrapHouseModel", name := "away", desc := "(II)I" } : Jvm.MethodName) prog_12_method_8_code (4 : Nat) (Option.some Jvm.ClassFile.FieldType.int)) ∈ gw := gw_in3 (List.mem_of_getElem? (i := 193) (rfl)) rfl
theorem tw_674 : (Jvm.Cond.methodLink "ScrapHouseLaw" (38 : Nat) ({ cls := "ScrapHouseModel", name := "leave", desc := "(IIIIII)I" } : Jvm.MethodName)) ∈ gw := gw_in3 (List.mem_of_getElem? (i := 194) (by decide +kernel)) rfl
theorem tw_675 : (Jvm.Cond.instanceMethod ({ cls := "ScrapHouseModel", name := "leave", desc := "(IIIIII)I" } : Jvm.MethodName)) ∈ gw := gw_in3 (List.mem_of_getElem? (i := 195) (by decide +kernel)) rfl
theorem tw_676 : (Jvm.Cond.selects "ScrapHouseModel" ({ cls := "ScrapHouseModel", name := "leave", desc := "(IIIIII)I" } : Jvm.MethodName) ({ cls := "ScrapHouseModel", name := "leave", desc := "(IIIIII)I" } : Jvm.MethodName)) ∈ gw := gw_in3 (List.mem_of_getElem? (i := 196) (by decide +kernel)) rfl
theorem tw_677 : (Jvm.Cond.code ({ cls := "ScrapHouseModel", name := "leave", desc := "(IIIIII)I" } : Jvm.MethodName) prog_12_method_9_code (7 : Nat) (Option.some Jvm.ClassFile.FieldType.int)) ∈ gw := gw_in3 (List.mem_of_getElem? (i := 197) (rfl)) rfl
theorem tw_678 : (Jvm.Cond.constant "ScrapHouseModel" (100 : Nat) (16777215 : Int32)) ∈ gw := gw_in3 (List.mem_of_getElem? (i := 198) (by decide +kernel)) rfl
theorem tw_679 : (Jvm.Cond.methodLink "ScrapHouseLaw" (43 : Nat) ({ cls := "ScrapHouseModel", name := "beds", desc := "(II)Z" } : Jvm.MethodName)) ∈ gw := gw_in3 (List.mem_of_getElem? (i := 199) (by decide +kernel)) rfl
theorem tw_680 : (Jvm.Cond.instanceMethod ({ cls := "ScrapHouseModel", name := "beds", desc := "(II)Z" } : Jvm.MethodName)) ∈ gw := gw_in3 (List.mem_of_getElem? (i := 200) (by decide +kernel)) rfl
theorem tw_681 : (Jvm.Cond.selects "ScrapHouseModel" ({ cls := "ScrapHouseModel", name := "beds", desc := "(II)Z" } : Jvm.MethodName) ({ cls := "ScrapHouseModel", name := "beds", desc := "(II)Z" } : Jvm.MethodName)) ∈ gw := gw_in3 (List.mem_of_getElem? (i := 201) (by decide +kernel)) rfl
theorem tw_682 : (Jvm.Cond.code ({ cls := "ScrapHouseModel", name := "beds", desc := "(II)Z" } : Jvm.MethodName) prog_12_method_16_code (3 : Nat) (Option.some Jvm.ClassFile.FieldType.boolean)) ∈ gw := gw_in3 (List.mem_of_getElem? (i := 202) (rfl)) rfl
theorem tw_683 : (Jvm.Cond.methodLink "ScrapHouseModel" (121 : Nat) ({ cls := "ScrapHouseModel", name := "hasRoom", desc := "(III)Z" } : Jvm.MethodName)) ∈ gw := gw_in3 (List.mem_of_getElem? (i := 203) (by decide +kernel)) rfl
theorem tw_685 : (Jvm.Cond.instanceMethod ({ cls := "ScrapHouseModel", name := "hasRoom", desc := "(III)Z" } : Jvm.MethodName)) ∈ gw := gw_in3 (List.mem_of_getElem? (i := 205) (by decide +kernel)) rfl
theorem tw_686 : (Jvm.Cond.code ({ cls := "ScrapHouseModel", name := "hasRoom", desc := "(III)Z" } : Jvm.MethodName) prog_12_method_14_code (5 : Nat) (Option.some Jvm.ClassFile.FieldType.boolean)) ∈ gw := gw_in3 (List.mem_of_getElem? (i := 206) (rfl)) rfl
theorem tw_687 : (Jvm.Cond.methodLink "ScrapHouseModel" (114 : Nat) ({ cls := "ScrapHouseModel", name := "changesOn", desc := "(I)Z" } : Jvm.MethodName)) ∈ gw := gw_in3 (List.mem_of_getElem? (i := 207) (by decide +kernel)) rfl
theorem tw_689 : (Jvm.Cond.instanceMethod ({ cls := "ScrapHouseModel", name := "changesOn", desc := "(I)Z" } : Jvm.MethodName)) ∈ gw := gw_in3 (List.mem_of_getElem? (i := 209) (by decide +kernel)) rfl
theorem tw_690 : (Jvm.Cond.code ({ cls := "ScrapHouseModel", name := "changesOn", desc := "(I)Z" } : Jvm.MethodName) prog_12_method_15_code (3 : Nat) (Option.some Jvm.ClassFile.FieldType.boolean)) ∈ gw := gw_in3 (List.mem_of_getElem? (i := 210) (rfl)) rfl
theorem tw_691 : (Jvm.Cond.methodLink "ScrapHouseModel" (118 : Nat) ({ cls := "ScrapHouseModel", name := "manyAt", desc := "(III)I" } : Jvm.MethodName)) ∈ gw := gw_in3 (List.mem_of_getElem? (i := 211) (by decide +kernel)) rfl
theorem tw_693 : (Jvm.Cond.instanceMethod ({ cls := "ScrapHouseModel", name := "manyAt", desc := "(III)I" } : Jvm.MethodName)) ∈ gw := gw_in3 (List.mem_of_getElem? (i := 213) (by decide +kernel)) rfl
theorem tw_694 : (Jvm.Cond.code ({ cls := "ScrapHouseModel", name := "manyAt", desc := "(III)I" } : Jvm.MethodName) prog_12_method_13_code (6 : Nat) (Option.some Jvm.ClassFile.FieldType.int)) ∈ gw := gw_in3 (List.mem_of_getElem? (i := 214) (rfl)) rfl
theorem tw_695 : (Jvm.Cond.methodLink "ScrapHouseModel" (107 : Nat) ({ cls := "ScrapHouseModel", name := "isThere", desc := "(III)Z" } : Jvm.MethodName)) ∈ gw := gw_in3 (List.mem_of_getElem? (i := 215) (by decide +kernel)) rfl
theorem tw_697 : (Jvm.Cond.instanceMethod ({ cls := "ScrapHouseModel", name := "isThere", desc := "(III)Z" } : Jvm.MethodName)) ∈ gw := gw_in3 (List.mem_of_getElem? (i := 217) (by decide +kernel)) rfl
theorem tw_698 : (Jvm.Cond.code ({ cls := "ScrapHouseModel", name := "isThere", desc := "(III)Z" } : Jvm.MethodName) prog_12_method_12_code (4 : Nat) (Option.some Jvm.ClassFile.FieldType.boolean)) ∈ gw := gw_in3 (List.mem_of_getElem? (i := 218) (rfl)) rfl
theorem tw_699 : (Jvm.Cond.methodLink "ScrapHouseModel" (110 : Nat) ({ cls := "ScrapHouseModel", name := "where", desc := "(III)I" } : Jvm.MethodName)) ∈ gw := gw_in3 (List.mem_of_getElem? (i := 219) (by decide +kernel)) rfl
theorem tw_701 : (Jvm.Cond.instanceMethod ({ cls := "ScrapHouseModel", name := "where", desc := "(III)I" } : Jvm.MethodName)) ∈ gw := gw_in3 (List.mem_of_getElem? (i := 221) (by decide +kernel)) rfl
theorem tw_702 : (Jvm.Cond.code ({ cls := "ScrapHouseModel", name := "where", desc := "(III)I" } : Jvm.MethodName) prog_12_method_11_code (7 : Nat) (Option.some Jvm.ClassFile.FieldType.int)) ∈ gw := gw_in3 (List.mem_of_getElem? (i := 222) (rfl)) rfl
theorem tw_703 : (Jvm.Cond.methodLink "ScrapHouseLaw" (48 : Nat) ({ cls := "ScrapHouseModel", name := "move", desc := "(III)Z" } : Jvm.MethodName)) ∈ gw := gw_in3 (List.mem_of_getElem? (i := 223) (by decide +kernel)) rfl
theorem tw_704 : (Jvm.Cond.instanceMethod ({ cls := "ScrapHouseModel", name := "move", desc := "(III)Z" } : Jvm.MethodName)) ∈ gw := gw_in3 (List.mem_of_getElem? (i := 224) (by decide +kernel)) rfl
theorem tw_705 : (Jvm.Cond.selects "ScrapHouseModel" ({ cls := "ScrapHouseModel", name := "move", desc := "(III)Z" } : Jvm.MethodName) ({ cls := "ScrapHouseModel", name := "move", desc := "(III)Z" } : Jvm.MethodName)) ∈ gw := gw_in3 (List.mem_of_getElem? (i := 225) (by decide +kernel)) rfl
theorem tw_706 : (Jvm.Cond.code ({ cls := "ScrapHouseModel", name := "move", desc := "(III)Z" } : Jvm.MethodName) prog_12_method_17_code (5 : Nat) (Option.some Jvm.ClassFile.FieldType.boolean)) ∈ gw := gw_in3 (List.mem_of_getElem? (i := 226) (rfl)) rfl
theorem tw_707 : (Jvm.Cond.methodLink "ScrapHouseModel" (124 : Nat) ({ cls := "ScrapHouseModel", name := "isChild", desc := "(I)Z" } : Jvm.MethodName)) ∈ gw := gw_in3 (List.mem_of_getElem? (i := 227) (by decide +kernel)) rfl
theorem tw_709 : (Jvm.Cond.instanceMethod ({ cls := "ScrapHouseModel", name := "isChild", desc := "(I)Z" } : Jvm.MethodName)) ∈ gw := gw_in3 (List.mem_of_getElem? (i := 229) (by decide +kernel)) rfl
theorem tw_710 : (Jvm.Cond.code ({ cls := "ScrapHouseModel", name := "isChild", desc := "(I)Z" } : Jvm.MethodName) prog_12_method_10_code (2 : Nat) (Option.some Jvm.ClassFile.FieldType.boolean)) ∈ gw := gw_in3 (List.mem_of_getElem? (i := 230) (rfl)) rfl
theorem tw_711 : (Jvm.Cond.methodLink "ScrapHouseLaw" (53 : Nat) ({ cls := "ScrapHouseModel", name := "place", desc := "(III)I" } : Jvm.MethodName)) ∈ gw := gw_in3 (List.mem_of_getElem? (i := 231) (by decide +kernel)) rfl
theorem tw_712 : (Jvm.Cond.instanceMethod ({ cls := "ScrapHouseModel", name := "place", desc := "(III)I" } : Jvm.MethodName)) ∈ gw := gw_in3 (List.mem_of_getElem? (i := 232) (by decide +kernel)) rfl
theorem tw_713 : (Jvm.Cond.selects "ScrapHouseModel" ({ cls := "ScrapHouseModel", name := "place", desc := "(III)I" } : Jvm.MethodName) ({ cls := "ScrapHouseModel", name := "place", desc := "(III)I" } : Jvm.MethodName)) ∈ gw := gw_in3 (List.mem_of_getElem? (i := 233) (by decide +kernel)) rfl
theorem tw_714 : (Jvm.Cond.code ({ cls := "ScrapHouseModel", name := "place", desc := "(III)I" } : Jvm.MethodName) prog_12_method_19_code (4 : Nat) (Option.some Jvm.ClassFile.FieldType.int)) ∈ gw := gw_in3 (List.mem_of_getElem? (i := 234) (rfl)) rfl
theorem tw_715 : (Jvm.Cond.methodLink "ScrapHouseModel" (127 : Nat) ({ cls := "ScrapHouseModel", name := "areDays", desc := "(II)Z" } : Jvm.MethodName)) ∈ gw := gw_in3 (List.mem_of_getElem? (i := 235) (by decide +kernel)) rfl
theorem tw_717 : (Jvm.Cond.instanceMethod ({ cls := "ScrapHouseModel", name := "areDays", desc := "(II)Z" } : Jvm.MethodName)) ∈ gw := gw_in3 (List.mem_of_getElem? (i := 237) (by decide +kernel)) rfl
theorem tw_718 : (Jvm.Cond.code ({ cls := "ScrapHouseModel", name := "areDays", desc := "(II)Z" } : Jvm.MethodName) prog_12_method_18_code (3 : Nat) (Option.some Jvm.ClassFile.FieldType.boolean)) ∈ gw := gw_in3 (List.mem_of_getElem? (i := 238) (rfl)) rfl
theorem tw_719 : (Jvm.Cond.methodLink "ScrapHouseLaw" (62 : Nat) ({ cls := "ScrapHouseModel", name := "many", desc := "(III)I" } : Jvm.MethodName)) ∈ gw := gw_in3 (List.mem_of_getElem? (i := 239) (by decide +kernel)) rfl
theorem tw_720 : (Jvm.Cond.instanceMethod ({ cls := "ScrapHouseModel", name := "many", desc := "(III)I" } : Jvm.MethodName)) ∈ gw := gw_in4 (List.mem_of_getElem? (i := 0) (by decide +kernel)) rfl
theorem tw_721 : (Jvm.Cond.selects "ScrapHouseModel" ({ cls := "ScrapHouseModel", name := "many", desc := "(III)I" } : Jvm.MethodName) ({ cls := "ScrapHouseModel", name := "many", desc := "(III)I" } : Jvm.MethodName)) ∈ gw := gw_in4 (List.mem_of_getElem? (i := 1) (by decide +kernel)) rfl
theorem tw_722 : (Jvm.Cond.code ({ cls := "ScrapHouseModel", name := "many", desc := "(III)I" } : Jvm.MethodName) prog_12_method_20_code (4 : Nat) (Option.some Jvm.ClassFile.FieldType.int)) ∈ gw := gw_in4 (List.mem_of_getElem? (i := 2) (rfl)) rfl
theorem tw_723 : (Jvm.Cond.methodLink "ScrapHouseLaw" (58 : Nat) ({ cls := "ScrapHouseModel", name := "look", desc := "(I)Z" } : Jvm.MethodName)) ∈ gw := gw_in4 (List.mem_of_getElem? (i := 3) (by decide +kernel)) rfl
theorem tw_724 : (Jvm.Cond.instanceMethod ({ cls := "ScrapHouseModel", name := "look", desc := "(I)Z" } : Jvm.MethodName)) ∈ gw := gw_in4 (List.mem_of_getElem? (i := 4) (by decide +kernel)) rfl
theorem tw_725 : (Jvm.Cond.selects "ScrapHouseModel" ({ cls := "ScrapHouseModel", name := "look", desc := "(I)Z" } : Jvm.MethodName) ({ cls := "ScrapHouseModel", name := "look", desc := "(I)Z" } : Jvm.MethodName)) ∈ gw := gw_in4 (List.mem_of_getElem? (i := 5) (by decide +kernel)) rfl
theorem tw_726 : (Jvm.Cond.code ({ cls := "ScrapHouseModel", name := "look", desc := "(I)Z" } : Jvm.MethodName) prog_12_method_21_code (2 : Nat) (Option.some Jvm.ClassFile.FieldType.boolean)) ∈ gw := gw_in4 (List.mem_of_getElem? (i := 6) (rfl)) rfl
theorem tw_727 : (Jvm.Cond.methodLink "ScrapHouseLaw" (67 : Nat) ({ cls := "ScrapHouseModel", name := "pay", desc := "(IIII)I" } : Jvm.MethodName)) ∈ gw := gw_in4 (List.mem_of_getElem? (i := 7) (by decide +kernel)) rfl
theorem tw_728 : (Jvm.Cond.instanceMethod ({ cls := "ScrapHouseModel", name := "pay", desc := "(IIII)I" } : Jvm.MethodName)) ∈ gw := gw_in4 (List.mem_of_getElem? (i := 8) (by decide +kernel)) rfl
theorem tw_729 : (Jvm.Cond.selects "ScrapHouseModel" ({ cls := "ScrapHouseModel", name := "pay", desc := "(IIII)I" } : Jvm.MethodName) ({ cls := "ScrapHouseModel", name := "pay", desc := "(IIII)I" } : Jvm.MethodName)) ∈ gw := gw_in4 (List.mem_of_getElem? (i := 9) (by decide +kernel)) rfl
theorem tw_730 : (Jvm.Cond.code ({ cls := "ScrapHouseModel", name := "pay", desc := "(IIII)I" } : Jvm.MethodName) prog_12_method_25_code (5 : Nat) (Option.some Jvm.ClassFile.FieldType.int)) ∈ gw := gw_in4 (List.mem_of_getElem? (i := 10) (rfl)) rfl
theorem tw_731 : (Jvm.Cond.methodLink "ScrapHouseModel" (142 : Nat) ({ cls := "ScrapHouseModel", name := "areWeeks", desc := "(IIII)Z" } : Jvm.MethodName)) ∈ gw := gw_in4 (List.mem_of_getElem? (i := 11) (by decide +kernel)) rfl
theorem tw_733 : (Jvm.Cond.instanceMethod ({ cls := "ScrapHouseModel", name := "areWeeks", desc := "(IIII)Z" } : Jvm.MethodName)) ∈ gw := gw_in4 (List.mem_of_getElem? (i := 13) (by decide +kernel)) rfl
theorem tw_734 : (Jvm.Cond.code ({ cls := "ScrapHouseModel", name := "areWeeks", desc := "(IIII)Z" } : Jvm.MethodName) prog_12_method_24_code (5 : Nat) (Option.some Jvm.ClassFile.FieldType.boolean)) ∈ gw := gw_in4 (List.mem_of_getElem? (i := 14) (rfl)) rfl
theorem tw_735 : (Jvm.Cond.methodLink "ScrapHouseModel" (146 : Nat) ({ cls := "ScrapHouseModel", name := "daysWith", desc := "(IIIIZ)I" } : Jvm.MethodName)) ∈ gw := gw_in4 (List.mem_of_getElem? (i := 15) (by decide +kernel)) rfl
theorem tw_737 : (Jvm.Cond.instanceMethod ({ cls := "ScrapHouseModel", name := "daysWith", desc := "(IIIIZ)I" } : Jvm.MethodName)) ∈ gw := gw_in4 (List.mem_of_getElem? (i := 17) (by decide +kernel)) rfl
theorem tw_738 : (Jvm.Cond.code ({ cls := "ScrapHouseModel", name := "daysWith", desc := "(IIIIZ)I" } : Jvm.MethodName) prog_12_method_23_code (10 : Nat) (Option.some Jvm.ClassFile.FieldType.int)) ∈ gw := gw_in4 (List.mem_of_getElem? (i := 18) (rfl)) rfl
theorem tw_739 : (Jvm.Cond.methodLink "ScrapHouseModel" (139 : Nat) ({ cls := "ScrapHouseModel", name := "isSeen", desc := "(III)Z" } : Jvm.MethodName)) ∈ gw := gw_in4 (List.mem_of_getElem? (i := 19) (by decide +kernel)) rfl
theorem tw_741 : (Jvm.Cond.instanceMethod ({ cls := "ScrapHouseModel", name := "isSeen", desc := "(III)Z" } : Jvm.MethodName)) ∈ gw := gw_in4 (List.mem_of_getElem? (i := 21) (by decide +kernel)) rfl
theorem tw_742 : (Jvm.Cond.code ({ cls := "ScrapHouseModel", name := "isSeen", desc := "(III)Z" } : Jvm.MethodName) prog_12_method_22_code (5 : Nat) (Option.some Jvm.ClassFile.FieldType.boolean)) ∈ gw := gw_in4 (List.mem_of_getElem? (i := 22) (rfl)) rfl
theorem tw_743 : (Jvm.Cond.methodLink "ScrapHouseModel" (133 : Nat) ({ cls := "java/lang/Math", name := "min", desc := "(II)I" } : Jvm.MethodName)) ∈ gw := gw_in4 (List.mem_of_getElem? (i := 23) (by decide +kernel)) rfl
theorem tw_744 : (Jvm.Cond.methodLink "ScrapHouseLaw" (71 : Nat) ({ cls := "ScrapHouseModel", name := "gap", desc := "(IIII)I" } : Jvm.MethodName)) ∈ gw := gw_in4 (List.mem_of_getElem? (i := 24) (by decide +kernel)) rfl
theorem tw_745 : (Jvm.Cond.instanceMethod ({ cls := "ScrapHouseModel", name := "gap", desc := "(IIII)I" } : Jvm.MethodName)) ∈ gw := gw_in4 (List.mem_of_getElem? (i := 25) (by decide +kernel)) rfl
theorem tw_746 : (Jvm.Cond.selects "ScrapHouseModel" ({ cls := "ScrapHouseModel", name := "gap", desc := "(IIII)I" } : Jvm.MethodName) ({ cls := "ScrapHouseModel", name := "gap", desc := "(IIII)I" } : Jvm.MethodName)) ∈ gw := gw_in4 (List.mem_of_getElem? (i := 26) (by decide +kernel)) rfl
theorem tw_747 : (Jvm.Cond.code ({ cls := "ScrapHouseModel", name := "gap", desc := "(IIII)I" } : Jvm.MethodName) prog_12_method_26_code (5 : Nat) (Option.some Jvm.ClassFile.FieldType.int)) ∈ gw := gw_in4 (List.mem_of_getElem? (i := 27) (rfl)) rfl
theorem tw_748 : (Jvm.Cond.methodLink "ScrapHouseLaw" (75 : Nat) ({ cls := "ScrapHouseModel", name := "off", desc := "(III)I" } : Jvm.MethodName)) ∈ gw := gw_in4 (List.mem_of_getElem? (i := 28) (by decide +kernel)) rfl
theorem tw_749 : (Jvm.Cond.instanceMethod ({ cls := "ScrapHouseModel", name := "off", desc := "(III)I" } : Jvm.MethodName)) ∈ gw := gw_in4 (List.mem_of_getElem? (i := 29) (by decide +kernel)) rfl
theorem tw_750 : (Jvm.Cond.selects "ScrapHouseModel" ({ cls := "ScrapHouseModel", name := "off", desc := "(III)I" } : Jvm.MethodName) ({ cls := "ScrapHouseModel", name := "off", desc := "(III)I" } : Jvm.MethodName)) ∈ gw := gw_in4 (List.mem_of_getElem? (i := 30) (by decide +kernel)) rfl
theorem tw_751 : (Jvm.Cond.code ({ cls := "ScrapHouseModel", name := "off", desc := "(III)I" } : Jvm.MethodName) prog_12_method_30_code (4 : Nat) (Option.some Jvm.ClassFile.FieldType.int)) ∈ gw := gw_in4 (List.mem_of_getElem? (i := 31) (rfl)) rfl
theorem tw_752 : (Jvm.Cond.methodLink "ScrapHouseModel" (157 : Nat) ({ cls := "ScrapHouseModel", name := "offOf", desc := "(III)I" } : Jvm.MethodName)) ∈ gw := gw_in4 (List.mem_of_getElem? (i := 32) (by decide +kernel)) rfl
theorem tw_754 : (Jvm.Cond.instanceMethod ({ cls := "ScrapHouseModel", name := "offOf", desc := "(III)I" } : Jvm.MethodName)) ∈ gw := gw_in4 (List.mem_of_getElem? (i := 34) (by decide +kernel)) rfl
theorem tw_755 : (Jvm.Cond.code ({ cls := "ScrapHouseModel", name := "offOf", desc := "(III)I" } : Jvm.MethodName) prog_12_method_29_code (4 : Nat) (Option.some Jvm.ClassFile.FieldType.int)) ∈ gw := gw_in4 (List.mem_of_getElem? (i := 35) (rfl)) rfl
theorem tw_756 : (Jvm.Cond.methodLink "ScrapHouseModel" (153 : Nat) ({ cls := "ScrapHouseModel", name := "offBy", desc := "(IIIZ)I" } : Jvm.MethodName)) ∈ gw := gw_in4 (List.mem_of_getElem? (i := 36) (by decide +kernel)) rfl
theorem tw_758 : (Jvm.Cond.instanceMethod ({ cls := "ScrapHouseModel", name := "offBy", desc := "(IIIZ)I" } : Jvm.MethodName)) ∈ gw := gw_in4 (List.mem_of_getElem? (i := 38) (by decide +kernel)) rfl
theorem tw_759 : (Jvm.Cond.code ({ cls := "ScrapHouseModel", name := "offBy", desc := "(IIIZ)I" } : Jvm.MethodName) prog_12_method_28_code (9 : Nat) (Option.some Jvm.ClassFile.FieldType.int)) ∈ gw := gw_in4 (List.mem_of_getElem? (i := 39) (rfl)) rfl
theorem tw_760 : (Jvm.Cond.methodLink "ScrapHouseModel" (150 : Nat) ({ cls := "ScrapHouseModel", name := "third", desc := "(II)I" } : Jvm.MethodName)) ∈ gw := gw_in4 (List.mem_of_getElem? (i := 40) (by decide +kernel)) rfl
theorem tw_761 : (Jvm.Cond.static ({ cls := "ScrapHouseModel", name := "third", desc := "(II)I" } : Jvm.MethodName)) ∈ gw := gw_in4 (List.mem_of_getElem? (i := 41) (by decide +kernel)) rfl
theorem tw_762 : (Jvm.Cond.code ({ cls := "ScrapHouseModel", name := "third", desc := "(II)I" } : Jvm.MethodName) prog_12_method_27_code (2 : Nat) (Option.some Jvm.ClassFile.FieldType.int)) ∈ gw := gw_in4 (List.mem_of_getElem? (i := 42) (rfl)) rfl
theorem tw_763 : (Jvm.Cond.methodLink "ScrapHouseLaw" (79 : Nat) ({ cls := "ScrapHouseModel", name := "feed", desc := "(I)I" } : Jvm.MethodName)) ∈ gw := gw_in4 (List.mem_of_getElem? (i := 43) (by decide +kernel)) rfl
theorem tw_764 : (Jvm.Cond.instanceMethod ({ cls := "ScrapHouseModel", name := "feed", desc := "(I)I" } : Jvm.MethodName)) ∈ gw := gw_in4 (List.mem_of_getElem? (i := 44) (by decide +kernel)) rfl
theorem tw_765 : (Jvm.Cond.selects "ScrapHouseModel" ({ cls := "ScrapHouseModel", name := "feed", desc := "(I)I" } : Jvm.MethodName) ({ cls := "ScrapHouseModel", name := "feed", desc := "(I)I" } : Jvm.MethodName)) ∈ gw := gw_in4 (List.mem_of_getElem? (i := 45) (by decide +kernel)) rfl
theorem tw_766 : (Jvm.Cond.code ({ cls := "ScrapHouseModel", name := "feed", desc := "(I)I" } : Jvm.MethodName) prog_12_method_31_code (5 : Nat) (Option.some Jvm.ClassFile.FieldType.int)) ∈ gw := gw_in4 (List.mem_of_getElem? (i := 46) (rfl)) rfl
theorem tw_767 : (Jvm.Cond.methodLink "ScrapHouseLaw" (83 : Nat) ({ cls := "ScrapHouseModel", name := "end", desc := "(I)Z" } : Jvm.MethodName)) ∈ gw := gw_in4 (List.mem_of_getElem? (i := 47) (by decide +kernel)) rfl
theorem tw_768 : (Jvm.Cond.instanceMethod ({ cls := "ScrapHouseModel", name := "end", desc := "(I)Z" } : Jvm.MethodName)) ∈ gw := gw_in4 (List.mem_of_getElem? (i := 48) (by decide +kernel)) rfl
theorem tw_769 : (Jvm.Cond.selects "ScrapHouseModel" ({ cls := "ScrapHouseModel", name := "end", desc := "(I)Z" } : Jvm.MethodName) ({ cls := "ScrapHouseModel", name := "end", desc := "(I)Z" } : Jvm.MethodName)) ∈ gw := gw_in4 (List.mem_of_getElem? (i := 49) (by decide +kernel)) rfl
theorem tw_770 : (Jvm.Cond.code ({ cls := "ScrapHouseModel", name := "end", desc := "(I)Z" } : Jvm.MethodName) prog_12_method_32_code (2 : Nat) (Option.some Jvm.ClassFile.FieldType.boolean)) ∈ gw := gw_in4 (List.mem_of_getElem? (i := 50) (rfl)) rfl
theorem tw_771 : (Jvm.Cond.methodLink "ScrapHouseLaw" (88 : Nat) ({ cls := "ScrapHouseModel", name := "fault", desc := "()I" } : Jvm.MethodName)) ∈ gw := gw_in4 (List.mem_of_getElem? (i := 51) (by decide +kernel)) rfl
theorem tw_772 : (Jvm.Cond.instanceMethod ({ cls := "ScrapHouseModel", name := "fault", desc := "()I" } : Jvm.MethodName)) ∈ gw := gw_in4 (List.mem_of_getElem? (i := 52) (by decide +kernel)) rfl
theorem tw_773 : (Jvm.Cond.selects "ScrapHouseModel" ({ cls := "ScrapHouseModel", name := "fault", desc := "()I" } : Jvm.MethodName) ({ cls := "ScrapHouseModel", name := "fault", desc := "()I" } : Jvm.MethodName)) ∈ gw := gw_in4 (List.mem_of_getElem? (i := 53) (by decide +kernel)) rfl
theorem tw_774 : (Jvm.Cond.code ({ cls := "ScrapHouseModel", name := "fault", desc := "()I" } : Jvm.MethodName) prog_12_method_39_code (1 : Nat) (Option.some Jvm.ClassFile.FieldType.int)) ∈ gw := gw_in4 (List.mem_of_getElem? (i := 54) (rfl)) rfl
theorem tw_775 : (Jvm.Cond.methodLink "ScrapHouseModel" (179 : Nat) ({ cls := "ScrapHouseModel", name := "tests", desc := "()V" } : Jvm.MethodName)) ∈ gw := gw_in4 (List.mem_of_getElem? (i := 55) (by decide +kernel)) rfl
theorem tw_777 : (Jvm.Cond.instanceMethod ({ cls := "ScrapHouseModel", name := "tests", desc := "()V" } : Jvm.MethodName)) ∈ gw := gw_in4 (List.mem_of_getElem? (i := 57) (by decide +kernel)) rfl
theorem tw_778 : (Jvm.Cond.code ({ cls := "ScrapHouseModel", name := "tests", desc := "()V" } : Jvm.MethodName) prog_12_method_38_code (1 : Nat) (Option.none : Option Jvm.ClassFile.FieldType)) ∈ gw := gw_in4 (List.mem_of_getElem? (i := 58) (rfl)) rfl
theorem tw_779 : (Jvm.Cond.methodLink "ScrapHouseModel" (192 : Nat) ({ cls := "ScrapHouseModel", name := "part", desc := "()V" } : Jvm.MethodName)) ∈ gw := gw_in4 (List.mem_of_getElem? (i := 59) (by decide +kernel)) rfl
theorem tw_781 : (Jvm.Cond.instanceMethod ({ cls := "ScrapHouseModel", name := "part", desc := "()V" } : Jvm.MethodName)) ∈ gw := gw_in4 (List.mem_of_getElem? (i := 61) (by decide +kernel)) rfl
theorem tw_782 : (Jvm.Cond.code ({ cls := "ScrapHouseModel", name := "part", desc := "()V" } : Jvm.MethodName) prog_12_method_37_code (1 : Nat) (Option.none : Option Jvm.ClassFile.FieldType)) ∈ gw := gw_in4 (List.mem_of_getElem? (i := 62) (rfl)) rfl
theorem tw_783 : (Jvm.Cond.methodLink "ScrapHouseModel" (189 : Nat) ({ cls := "ScrapHouseModel", name := "unit", desc := "()V" } : Jvm.MethodName)) ∈ gw := gw_in4 (List.mem_of_getElem? (i := 63) (by decide +kernel)) rfl
theorem tw_785 : (Jvm.Cond.instanceMethod ({ cls := "ScrapHouseModel", name := "unit", desc := "()V" } : Jvm.MethodName)) ∈ gw := gw_in4 (List.mem_of_getElem? (i := 65) (by decide +kernel)) rfl
theorem tw_786 : (Jvm.Cond.code ({ cls := "ScrapHouseModel", name := "unit", desc := "()V" } : Jvm.MethodName) prog_12_method_36_code (6 : Nat) (Option.none : Option Jvm.ClassFile.FieldType)) ∈ gw := gw_in4 (List.mem_of_getElem? (i := 66) (rfl)) rfl
theorem tw_787 : (Jvm.Cond.methodLink "ScrapHouseModel" (172 : Nat) ({ cls := "ScrapHouseModel", name := "peek", desc := "()I" } : Jvm.MethodName)) ∈ gw := gw_in4 (List.mem_of_getElem? (i := 67) (by decide +kernel)) rfl
theorem tw_789 : (Jvm.Cond.instanceMethod ({ cls := "ScrapHouseModel", name := "peek", desc := "()I" } : Jvm.MethodName)) ∈ gw := gw_in4 (List.mem_of_getElem? (i := 69) (by decide +kernel)) rfl
theorem tw_790 : (Jvm.Cond.code ({ cls := "ScrapHouseModel", name := "peek", desc := "()I" } : Jvm.MethodName) prog_12_method_33_code (1 : Nat) (Option.some Jvm.ClassFile.FieldType.int)) ∈ gw := gw_in4 (List.mem_of_getElem? (i := 70) (rfl)) rfl
theorem tw_791 : (Jvm.Cond.methodLink "ScrapHouseModel" (182 : Nat) ({ cls := "ScrapHouseModel", name := "fail", desc := "()V" } : Jvm.MethodName)) ∈ gw := gw_in4 (List.mem_of_getElem? (i := 71) (by decide +kernel)) rfl
theorem tw_793 : (Jvm.Cond.instanceMethod ({ cls := "ScrapHouseModel", name := "fail", desc := "()V" } : Jvm.MethodName)) ∈ gw := gw_in4 (List.mem_of_getElem? (i := 73) (by decide +kernel)) rfl
theorem tw_794 : (Jvm.Cond.code ({ cls := "ScrapHouseModel", name := "fail", desc := "()V" } : Jvm.MethodName) prog_12_method_34_code (1 : Nat) (Option.none : Option Jvm.ClassFile.FieldType)) ∈ gw := gw_in4 (List.mem_of_getElem? (i := 74) (rfl)) rfl
theorem tw_795 : (Jvm.Cond.methodLink "ScrapHouseModel" (185 : Nat) ({ cls := "ScrapHouseModel", name := "say", desc := "(I)V" } : Jvm.MethodName)) ∈ gw := gw_in4 (List.mem_of_getElem? (i := 75) (by decide +kernel)) rfl
theorem tw_797 : (Jvm.Cond.instanceMethod ({ cls := "ScrapHouseModel", name := "say", desc := "(I)V" } : Jvm.MethodName)) ∈ gw := gw_in4 (List.mem_of_getElem? (i := 77) (by decide +kernel)) rfl
theorem tw_798 : (Jvm.Cond.code ({ cls := "ScrapHouseModel", name := "say", desc := "(I)V" } : Jvm.MethodName) prog_12_method_35_code (2 : Nat) (Option.none : Option Jvm.ClassFile.FieldType)) ∈ gw := gw_in4 (List.mem_of_getElem? (i := 78) (rfl)) rfl
theorem tw_799 : (Jvm.Cond.methodLink "ScrapHouseLaw" (93 : Nat) ({ cls := "ScrapHouseModel", name := "rule", desc := "()Z" } : Jvm.MethodName)) ∈ gw := gw_in4 (List.mem_of_getElem? (i := 79) (by decide +kernel)) rfl
theorem tw_800 : (Jvm.Cond.instanceMethod ({ cls := "ScrapHouseModel", name := "rule", desc := "()Z" } : Jvm.MethodName)) ∈ gw := gw_in4 (List.mem_of_getElem? (i := 80) (by decide +kernel)) rfl
theorem tw_801 : (Jvm.Cond.selects "ScrapHouseModel" ({ cls := "ScrapHouseModel", name := "rule", desc := "()Z" } : Jvm.MethodName) ({ cls := "ScrapHouseModel", name := "rule", desc := "()Z" } : Jvm.MethodName)) ∈ gw := gw_in4 (List.mem_of_getElem? (i := 81) (by decide +kernel)) rfl
theorem tw_802 : (Jvm.Cond.code ({ cls := "ScrapHouseModel", name := "rule", desc := "()Z" } : Jvm.MethodName) prog_12_method_40_code (2 : Nat) (Option.some Jvm.ClassFile.FieldType.boolean)) ∈ gw := gw_in4 (List.mem_of_getElem? (i := 82) (rfl)) rfl
theorem tw_803 : (Jvm.Cond.methodLink "ScrapHouseModel" (195 : Nat) ({ cls := "ScrapHouseModel", name := "fault", desc := "()I" } : Jvm.MethodName)) ∈ gw := gw_in4 (List.mem_of_getElem? (i := 83) (by decide +kernel)) rfl
theorem tw_804 : (Jvm.Cond.methodLink "ScrapHouseLaw" (97 : Nat) ({ cls := "ScrapHouseModel", name := "claim", desc := "(IIIIII)I" } : Jvm.MethodName)) ∈ gw := gw_in4 (List.mem_of_getElem? (i := 84) (by decide +kernel)) rfl
theorem tw_805 : (Jvm.Cond.instanceMethod ({ cls := "ScrapHouseModel", name := "claim", desc := "(IIIIII)I" } : Jvm.MethodName)) ∈ gw := gw_in4 (List.mem_of_getElem? (i := 85) (by decide +kernel)) rfl
theorem tw_806 : (Jvm.Cond.selects "ScrapHouseModel" ({ cls := "ScrapHouseModel", name := "claim", desc := "(IIIIII)I" } : Jvm.MethodName) ({ cls := "ScrapHouseModel", name := "claim", desc := "(IIIIII)I" } : Jvm.MethodName)) ∈ gw := gw_in4 (List.mem_of_getElem? (i := 86) (by decide +kernel)) rfl
theorem tw_807 : (Jvm.Cond.code ({ cls := "ScrapHouseModel", name := "claim", desc := "(IIIIII)I" } : Jvm.MethodName) prog_12_method_44_code (13 : Nat) (Option.some Jvm.ClassFile.FieldType.int)) ∈ gw := gw_in4 (List.mem_of_getElem? (i := 87) (rfl)) rfl
theorem tw_808 : (Jvm.Cond.methodLink "ScrapHouseModel" (201 : Nat) ({ cls := "ScrapHouseModel", name := "isOpen", desc := "(I)Z" } : Jvm.MethodName)) ∈ gw := gw_in4 (List.mem_of_getElem? (i := 88) (by decide +kernel)) rfl
theorem tw_810 : (Jvm.Cond.instanceMethod ({ cls := "ScrapHouseModel", name := "isOpen", desc := "(I)Z" } : Jvm.MethodName)) ∈ gw := gw_in4 (List.mem_of_getElem? (i := 90) (by decide +kernel)) rfl
theorem tw_811 : (Jvm.Cond.code ({ cls := "ScrapHouseModel", name := "isOpen", desc := "(I)Z" } : Jvm.MethodName) prog_12_method_42_code (3 : Nat) (Option.some Jvm.ClassFile.FieldType.boolean)) ∈ gw := gw_in4 (List.mem_of_getElem? (i := 91) (rfl)) rfl
theorem tw_812 : (Jvm.Cond.methodLink "ScrapHouseModel" (204 : Nat) ({ cls := "ScrapHouseModel", name := "agreeing", desc := "(IIIII)I" } : Jvm.MethodName)) ∈ gw := gw_in4 (List.mem_of_getElem? (i := 92) (by decide +kernel)) rfl
theorem tw_814 : (Jvm.Cond.instanceMethod ({ cls := "ScrapHouseModel", name := "agreeing", desc := "(IIIII)I" } : Jvm.MethodName)) ∈ gw := gw_in4 (List.mem_of_getElem? (i := 94) (by decide +kernel)) rfl
theorem tw_815 : (Jvm.Cond.code ({ cls := "ScrapHouseModel", name := "agreeing", desc := "(IIIII)I" } : Jvm.MethodName) prog_12_method_43_code (6 : Nat) (Option.some Jvm.ClassFile.FieldType.int)) ∈ gw := gw_in4 (List.mem_of_getElem? (i := 95) (rfl)) rfl
theorem tw_816 : (Jvm.Cond.methodLink "ScrapHouseModel" (208 : Nat) ({ cls := "ScrapHouseModel", name := "holds", desc := "(IIIII)Z" } : Jvm.MethodName)) ∈ gw := gw_in4 (List.mem_of_getElem? (i := 96) (by decide +kernel)) rfl
theorem tw_818 : (Jvm.Cond.instanceMethod ({ cls := "ScrapHouseModel", name := "holds", desc := "(IIIII)Z" } : Jvm.MethodName)) ∈ gw := gw_in4 (List.mem_of_getElem? (i := 98) (by decide +kernel)) rfl
theorem tw_819 : (Jvm.Cond.code ({ cls := "ScrapHouseModel", name := "holds", desc := "(IIIII)Z" } : Jvm.MethodName) prog_12_method_41_code (11 : Nat) (Option.some Jvm.ClassFile.FieldType.boolean)) ∈ gw := gw_in4 (List.mem_of_getElem? (i := 99) (rfl)) rfl
theorem tw_820 : (Jvm.Cond.methodLink "ScrapHouseLaw" (101 : Nat) ({ cls := "ScrapHouseModel", name := "name", desc := "(II)Z" } : Jvm.MethodName)) ∈ gw := gw_in4 (List.mem_of_getElem? (i := 100) (by decide +kernel)) rfl
theorem tw_821 : (Jvm.Cond.instanceMethod ({ cls := "ScrapHouseModel", name := "name", desc := "(II)Z" } : Jvm.MethodName)) ∈ gw := gw_in4 (List.mem_of_getElem? (i := 101) (by decide +kernel)) rfl
theorem tw_822 : (Jvm.Cond.selects "ScrapHouseModel" ({ cls := "ScrapHouseModel", name := "name", desc := "(II)Z" } : Jvm.MethodName) ({ cls := "ScrapHouseModel", name := "name", desc := "(II)Z" } : Jvm.MethodName)) ∈ gw := gw_in4 (List.mem_of_getElem? (i := 102) (by decide +kernel)) rfl
theorem tw_823 : (Jvm.Cond.code ({ cls := "ScrapHouseModel", name := "name", desc := "(II)Z" } : Jvm.MethodName) prog_12_method_45_code (3 : Nat) (Option.some Jvm.ClassFile.FieldType.boolean)) ∈ gw := gw_in4 (List.mem_of_getElem? (i := 103) (rfl)) rfl
theorem tw_824 : (Jvm.Cond.constant "ScrapHouseModel" (212 : Nat) (1000000 : Int32)) ∈ gw := gw_in4 (List.mem_of_getElem? (i := 104) (by decide +kernel)) rfl
theorem tw_825 : (Jvm.Cond.methodLink "ScrapHouseLaw" (106 : Nat) ({ cls := "ScrapHouseModel", name := "allow", desc := "(IIZ)Z" } : Jvm.MethodName)) ∈ gw := gw_in4 (List.mem_of_getElem? (i := 105) (by decide +kernel)) rfl
theorem tw_826 : (Jvm.Cond.instanceMethod ({ cls := "ScrapHouseModel", name := "allow", desc := "(IIZ)Z" } : Jvm.MethodName)) ∈ gw := gw_in4 (List.mem_of_getElem? (i := 106) (by decide +kernel)) rfl
theorem tw_827 : (Jvm.Cond.selects "ScrapHouseModel" ({ cls := "ScrapHouseModel", name := "allow", desc := "(IIZ)Z" } : Jvm.MethodName) ({ cls := "ScrapHouseModel", name := "allow", desc := "(IIZ)Z" } : Jvm.MethodName)) ∈ gw := gw_in4 (List.mem_of_getElem? (i := 107) (by decide +kernel)) rfl
theorem tw_828 : (Jvm.Cond.code ({ cls := "ScrapHouseModel", name := "allow", desc := "(IIZ)Z" } : Jvm.MethodName) prog_12_method_47_code (4 : Nat) (Option.some Jvm.ClassFile.FieldType.boolean)) ∈ gw := gw_in4 (List.mem_of_getElem? (i := 108) (rfl)) rfl
theorem tw_829 : (Jvm.Cond.methodLink "ScrapHouseModel" (213 : Nat) ({ cls := "ScrapHouseModel", name := "areBoth", desc := "(II)Z" } : Jvm.MethodName)) ∈ gw := gw_in4 (List.mem_of_getElem? (i := 109) (by decide +kernel)) rfl
theorem tw_831 : (Jvm.Cond.instanceMethod ({ cls := "ScrapHouseModel", name := "areBoth", desc := "(II)Z" } : Jvm.MethodName)) ∈ gw := gw_in4 (List.mem_of_getElem? (i := 111) (by decide +kernel)) rfl
theorem tw_832 : (Jvm.Cond.code ({ cls := "ScrapHouseModel", name := "areBoth", desc := "(II)Z" } : Jvm.MethodName) prog_12_method_46_code (3 : Nat) (Option.some Jvm.ClassFile.FieldType.boolean)) ∈ gw := gw_in4 (List.mem_of_getElem? (i := 112) (rfl)) rfl
theorem tw_833 : (Jvm.Cond.methodLink "ScrapHouseLaw" (110 : Nat) ({ cls := "ScrapHouseModel", name := "ask", desc := "(II)I" } : Jvm.MethodName)) ∈ gw := gw_in4 (List.mem_of_getElem? (i := 113) (by decide +kernel)) rfl
theorem tw_834 : (Jvm.Cond.instanceMethod ({ cls := "ScrapHouseModel", name := "ask", desc := "(II)I" } : Jvm.MethodName)) ∈ gw := gw_in4 (List.mem_of_getElem? (i := 114) (by decide +kernel)) rfl
theorem tw_835 : (Jvm.Cond.selects "ScrapHouseModel" ({ cls := "ScrapHouseModel", name := "ask", desc := "(II)I" } : Jvm.MethodName) ({ cls := "ScrapHouseModel", name := "ask", desc := "(II)I" } : Jvm.MethodName)) ∈ gw := gw_in4 (List.mem_of_getElem? (i := 115) (by decide +kernel)) rfl
theorem tw_836 : (Jvm.Cond.code ({ cls := "ScrapHouseModel", name := "ask", desc := "(II)I" } : Jvm.MethodName) prog_12_method_48_code (3 : Nat) (Option.some Jvm.ClassFile.FieldType.int)) ∈ gw := gw_in4 (List.mem_of_getElem? (i := 116) (rfl)) rfl
theorem tw_837 : (Jvm.Cond.methodLink "ScrapHouseLaw" (114 : Nat) ({ cls := "ScrapHouseModel", name := "guess", desc := "(III)I" } : Jvm.MethodName)) ∈ gw := gw_in4 (List.mem_of_getElem? (i := 117) (by decide +kernel)) rfl
theorem tw_838 : (Jvm.Cond.instanceMethod ({ cls := "ScrapHouseModel", name := "guess", desc := "(III)I" } : Jvm.MethodName)) ∈ gw := gw_in4 (List.mem_of_getElem? (i := 118) (by decide +kernel)) rfl
theorem tw_839 : (Jvm.Cond.selects "ScrapHouseModel" ({ cls := "ScrapHouseModel", name := "guess", desc := "(III)I" } : Jvm.MethodName) ({ cls := "ScrapHouseModel", name := "guess", desc := "(III)I" } : Jvm.MethodName)) ∈ gw := gw_in4 (List.mem_of_getElem? (i := 119) (by decide +kernel)) rfl
theorem tw_840 : (Jvm.Cond.code ({ cls := "ScrapHouseModel", name := "guess", desc := "(III)I" } : Jvm.MethodName) prog_12_method_49_code (4 : Nat) (Option.some Jvm.ClassFile.FieldType.int)) ∈ gw := gw_in4 (List.mem_of_getElem? (i := 120) (rfl)) rfl
theorem tw_841 : (Jvm.Cond.methodLink "ScrapHouseLaw" (118 : Nat) ({ cls := "ScrapHouseModel", name := "told", desc := "(II)I" } : Jvm.MethodName)) ∈ gw := gw_in4 (List.mem_of_getElem? (i := 121) (by decide +kernel)) rfl
theorem tw_842 : (Jvm.Cond.instanceMethod ({ cls := "ScrapHouseModel", name := "told", desc := "(II)I" } : Jvm.MethodName)) ∈ gw := gw_in4 (List.mem_of_getElem? (i := 122) (by decide +kernel)) rfl
theorem tw_843 : (Jvm.Cond.selects "ScrapHouseModel" ({ cls := "ScrapHouseModel", name := "told", desc := "(II)I" } : Jvm.MethodName) ({ cls := "ScrapHouseModel", name := "told", desc := "(II)I" } : Jvm.MethodName)) ∈ gw := gw_in4 (List.mem_of_getElem? (i := 123) (by decide +kernel)) rfl
theorem tw_844 : (Jvm.Cond.code ({ cls := "ScrapHouseModel", name := "told", desc := "(II)I" } : Jvm.MethodName) prog_12_method_50_code (5 : Nat) (Option.some Jvm.ClassFile.FieldType.int)) ∈ gw := gw_in4 (List.mem_of_getElem? (i := 124) (rfl)) rfl
theorem tw_845 : (Jvm.Cond.methodLink "ScrapHouseLaw" (122 : Nat) ({ cls := "ScrapHouseModel", name := "count", desc := "(I)I" } : Jvm.MethodName)) ∈ gw := gw_in4 (List.mem_of_getElem? (i := 125) (by decide +kernel)) rfl
theorem tw_846 : (Jvm.Cond.instanceMethod ({ cls := "ScrapHouseModel", name := "count", desc := "(I)I" } : Jvm.MethodName)) ∈ gw := gw_in4 (List.mem_of_getElem? (i := 126) (by decide +kernel)) rfl
theorem tw_847 : (Jvm.Cond.selects "ScrapHouseModel" ({ cls := "ScrapHouseModel", name := "count", desc := "(I)I" } : Jvm.MethodName) ({ cls := "ScrapHouseModel", name := "count", desc := "(I)I" } : Jvm.MethodName)) ∈ gw := gw_in4 (List.mem_of_getElem? (i := 127) (by decide +kernel)) rfl
theorem tw_848 : (Jvm.Cond.code ({ cls := "ScrapHouseModel", name := "count", desc := "(I)I" } : Jvm.MethodName) prog_12_method_51_code (2 : Nat) (Option.some Jvm.ClassFile.FieldType.int)) ∈ gw := gw_in4 (List.mem_of_getElem? (i := 128) (rfl)) rfl
theorem tw_849 : (Jvm.Cond.constantLong "ScrapHouseLaw" (18 : Nat) (4294967295 : Int64)) ∈ gw := gw_in4 (List.mem_of_getElem? (i := 129) (by decide +kernel)) rfl
theorem tw_850 : (Jvm.Cond.arrayClass Jvm.ClassFile.FieldType.char) ∈ gw := gw_in4 (List.mem_of_getElem? (i := 130) (by decide +kernel)) rfl
end
section
/-! ===== the tables that every method knows, the world of a method, and a row for each instruction that touches it ===== -/
abbrev tysA (ca : Nat → ClassId) : List (ClassId × FieldType) := [(ca 0, .byte), (ca 1, .int), (ca 2, .boolean), (ca 3, .object "ScrapHouse$Ballot"), (ca 4, .object "ScrapHouse$Child"), (ca 5, .object "ScrapHouse$Nurse")]
abbrev nest (own : String) (i : Nat) (y : MethodName) : Cond := .methodLinkNest own i y "ScrapHouse"
def gN (U : State) : Prop := va_Nw (nest RX9 29 yX8_init) U ∧ va_Nw (nest RX9 46 yX6_init) U ∧ va_Nw (nest RX0 29 yX9_within) U ∧ va_Nw (nest RX3 17 yX9_within) U ∧ va_Nw (nest RX8 19 yX9_within) U ∧ va_Nw (nest RX7 74 yX9_within) U ∧ va_Nw (nest RX2 33 yX9_within) U ∧ va_AO "ScrapHouse$Ballot" U ∧ va_AO "ScrapHouse$Child" U ∧ va_AO "ScrapHouse$Nurse" U
def gK (D : va_G) (ca : Nat → ClassId) (U : State) : Prop := va_K D vwCl (tysA ca) U ∧ gN U
theorem gN.warm {s U : State} (hW : s.WarmedH U.vm) (h : gN s) : gN U := by
  obtain ⟨h1, h2, h3, h4, h5, h6, h7, h8, h9, h10⟩ := h
  exact ⟨va_Nw.warmM hW h1, va_Nw.warmM hW h2, va_Nw.warmM hW h3, va_Nw.warmM hW h4, va_Nw.warmM hW h5, va_Nw.warmM hW h6, va_Nw.warmM hW h7, va_AO.moved hW.alike h8, va_AO.moved hW.alike h9, va_AO.moved hW.alike h10⟩
theorem gN.same {u U : State} (e : u.vm = U.vm) (h : gN u) : gN U := by
  obtain ⟨h1, h2, h3, h4, h5, h6, h7, h8, h9, h10⟩ := h
  have ea : u.vm.Alike U.vm := by rw [e]; exact Vm.Alike.refl _
  exact ⟨va_Nw.same rfl e h1, va_Nw.same rfl e h2, va_Nw.same rfl e h3, va_Nw.same rfl e h4, va_Nw.same rfl e h5, va_Nw.same rfl e h6, va_Nw.same rfl e h7, va_AO.moved ea h8, va_AO.moved ea h9, va_AO.moved ea h10⟩
theorem gK.warm {D : va_G} {ca : Nat → ClassId} {s U : State} (hW : s.WarmedH U.vm) (h : gK D ca s) : gK D ca U := ⟨va_K.moved hW.alike h.1, h.2.warm hW⟩
theorem gK.blind {D : va_G} {ca : Nat → ClassId} {U : State} {g : JFrame} {mk : MethodId} {a : Array Value} (h : gK D ca U) : gK D ca (U.calling g mk a) := ⟨va_K.moved (u := U) (U := U.calling g mk a) (Vm.Alike.refl U.vm) h.1, h.2.same rfl⟩
/-- what stands fast in a method: the machine, its code, the words -/
def cx (p : Program) (s : State) (m : MethodId) (c : Code) (args : Array Value) (cc : ByteArray) (nL : Nat) (own : String) (D : va_G) (ca : Nat → ClassId) : Prop :=
  p.tables.exec = Jvm.exec ∧ c.code = cc ∧ c.maxLocals = nL ∧ s.vm.findClass own = some m.cls ∧ (∀ w ∈ gw, w.before args s = true) ∧ gK D ca s
abbrev wz (y : MethodName) (b : ByteArray) (n : Nat) (r : Option FieldType) : List Cond := .code y b n r :: gw
theorem wz_good {y y2 : MethodName} {b b2 : ByteArray} {n n2 : Nat} {r r2 : Option FieldType} (h : Cond.code y2 b2 n2 r2 ∈ gw) : ∀ w ∈ wz y2 b2 n2 r2, w ∈ gw ∧ ((w.onTables && w.keeps) = true ∨ ∃ ty, w = .arrayClass ty) := by
  have g : ∀ w ∈ gw, w ∈ gw ∧ ((w.onTables && w.keeps) = true ∨ ∃ ty, w = .arrayClass ty) := fun w hw => ⟨hw, good_of_word (List.mem_filter.mp hw).2⟩
  intro w hw
  rcases List.mem_cons.mp hw with e | e
  · rw [e]; exact g _ h
  · exact g w e
def upd2 {α : Type} (f : Nat → Nat → α) (k i : Nat) (x : α) : Nat → Nat → α := fun a b => if a = k ∧ b = i then x else f a b
theorem upd2_at {α : Type} (f : Nat → Nat → α) (k i : Nat) (x : α) : upd2 f k i x k i = x := by simp [upd2]
theorem upd2_k {α : Type} (f : Nat → Nat → α) {k k' : Nat} (i i' : Nat) (x : α) (h : k' ≠ k) : upd2 f k i x k' i' = f k' i' := by simp [upd2, h]
theorem upd2_i {α : Type} (f : Nat → Nat → α) (k : Nat) {i i' : Nat} (x : α) (h : i' ≠ i) : upd2 f k i x k i' = f k i' := by simp [upd2, h]
/-- the cells of the world, by kind and number: where each lies, what it holds -/
def wq (D : va_G) (cnt : Nat → Nat) (ad : Nat → Nat → Nat) (ct : Nat → Nat → va_E) (H : Heap) : Prop := (∀ k i, i < cnt k → va_at D vwCl (ad k i, ct k i) H) ∧ (∀ k i k' i', i < cnt k → i' < cnt k' → ad k i = ad k' i' → k = k' ∧ i = i')
def wA (cnt : Nat → Nat) (ad : Nat → Nat → Nat) (sz : Nat) : Nat → Prop := fun q => (∃ k i, i < cnt k ∧ ad k i = q) ∨ sz ≤ q
def wd (D : va_G) (A : Nat → Prop) (H0 : Heap) (cnt : Nat → Nat) (ad : Nat → Nat → Nat) (ct : Nat → Nat → va_E) (H : Heap) (locs : List Loc) : Prop := wq D cnt ad ct H ∧ (∀ k i, i < cnt k → A (ad k i)) ∧ va_S A H0 H locs ∧ (∀ q, H0.size ≤ q → A q)
theorem wd.start {D : va_G} {cnt : Nat → Nat} {ad : Nat → Nat → Nat} {ct : Nat → Nat → va_E} {H : Heap} (h : wq D cnt ad ct H) : wd D (wA cnt ad H.size) H cnt ad ct H [] := ⟨h, fun k i hi => Or.inl ⟨k, i, hi, rfl⟩, va_S.rf, fun _ h => Or.inr h⟩
theorem wd.put {D : va_G} {A : Nat → Prop} {H0 : Heap} {cnt : Nat → Nat} {ad : Nat → Nat → Nat} {ct : Nat → Nat → va_E} {H H1 : Heap} {locs : List Loc} (h : wd D A H0 cnt ad ct H locs) {k i : Nat} (hi : i < cnt k) {e : va_E} {z : Nat} (he : va_at D vwCl (ad k i, e) H1) (hz : H1.size = H.size) (oq : ∀ q : Nat, q ≠ ad k i → H1[q]? = H[q]?) : wd D A H0 cnt ad (upd2 ct k i e) H1 (locs ++ [⟨ad k i, z⟩]) := by
  obtain ⟨⟨h1, h2⟩, h3, h4, h5⟩ := h
  refine ⟨⟨fun k' i' hi' => ?_, h2⟩, h3, h4.put hz oq (h3 k i hi), h5⟩
  by_cases hk : k' = k ∧ i' = i
  · obtain ⟨rfl, rfl⟩ := hk
    rw [upd2_at]; exact he
  · have : upd2 ct k i e k' i' = ct k' i' := by simp [upd2, hk]
    rw [this]
    exact (h1 k' i' hi').kept (oq _ (fun q => hk (h2 k' i' k i hi' hi q)))
theorem wd.new {D : va_G} {A : Nat → Prop} {H0 : Heap} {cnt : Nat → Nat} {ad : Nat → Nat → Nat} {ct : Nat → Nat → va_E} {H H1 : Heap} {locs : List Loc} (h : wd D A H0 cnt ad ct H locs) (k : Nat) {e : va_E} (he : va_at D vwCl (H.size, e) H1) (hz : H1.size = H.size + 1) (oq : ∀ q : Nat, q < H.size → H1[q]? = H[q]?) : wd D A H0 (va_up cnt k (cnt k + 1)) (upd2 ad k (cnt k) H.size) (upd2 ct k (cnt k) e) H1 locs := by
  obtain ⟨⟨h1, h2⟩, h3, h4, h5⟩ := h
  have hl : ∀ k' i', i' < cnt k' → ad k' i' < H.size := fun k' i' hi' => (h1 k' i' hi').lt
  have hs : ∀ k' i', i' < va_up cnt k (cnt k + 1) k' → (k' = k ∧ i' = cnt k) ∨ (i' < cnt k' ∧ ¬ (k' = k ∧ i' = cnt k)) := by
    intro k' i' hi'
    by_cases hk : k' = k
    · subst hk
      rw [va_up_self] at hi'
      by_cases e : i' = cnt k'
      · exact Or.inl ⟨rfl, e⟩
      · exact Or.inr ⟨by omega, fun q => e q.2⟩
    · rw [va_up_ne _ _ hk] at hi'
      exact Or.inr ⟨hi', fun q => hk q.1⟩
  refine ⟨⟨fun k' i' hi' => ?_, fun k1 i1 k2 i2 g1 g2 => ?_⟩, fun k' i' hi' => ?_, ⟨by rw [hz]; exact Nat.le_trans h4.1 (Nat.le_succ _), fun q g1 g2 => (oq q (Nat.lt_of_lt_of_le g1 h4.1)).trans (h4.2.1 q g1 g2), h4.2.2⟩, h5⟩
  · rcases hs k' i' hi' with ⟨rfl, rfl⟩ | ⟨q1, q2⟩
    · rw [upd2_at, upd2_at]; exact he
    · have e1 : upd2 ct k (cnt k) e k' i' = ct k' i' := by simp [upd2, q2]
      have e2 : upd2 ad k (cnt k) H.size k' i' = ad k' i' := by simp [upd2, q2]
      rw [e1, e2]
      exact (h1 k' i' q1).kept (oq _ (hl k' i' q1))
  · rcases hs k1 i1 g1 with ⟨rfl, rfl⟩ | ⟨q1, q2⟩ <;> rcases hs k2 i2 g2 with ⟨r1, r2⟩ | ⟨r1, r2⟩
    · subst r1; subst r2; intro _; exact ⟨rfl, rfl⟩
    · have e2 : upd2 ad k1 (cnt k1) H.size k2 i2 = ad k2 i2 := by simp [upd2, r2]
      rw [upd2_at, e2]
      intro q
      have := hl k2 i2 r1
      omega
    · subst r1; subst r2
      have e2 : upd2 ad k2 (cnt k2) H.size k1 i1 = ad k1 i1 := by simp [upd2, q2]
      rw [upd2_at, e2]
      intro q
      have := hl k1 i1 q1
      omega
    · have e1 : upd2 ad k (cnt k) H.size k1 i1 = ad k1 i1 := by simp [upd2, q2]
      have e2 : upd2 ad k (cnt k) H.size k2 i2 = ad k2 i2 := by simp [upd2, r2]
      rw [e1, e2]
      exact h2 k1 i1 k2 i2 q1 r1
  · rcases hs k' i' hi' with ⟨rfl, rfl⟩ | ⟨q1, q2⟩
    · rw [upd2_at]; exact h5 _ h4.1
    · have e2 : upd2 ad k (cnt k) H.size k' i' = ad k' i' := by simp [upd2, q2]
      rw [e2]; exact h3 k' i' q1
section XR
variable {p : Program} {l : Launch} {e : Env} {R : Room} {s : State} {m : MethodId} {args : Array Value} {below : List Frame} {meth : Method} {c : Code} {H : Heap} {locs : List Loc} {cells slots : Nat} {Q : State → Prop}
variable {cc : ByteArray} {nL : Nat} {own : String} {D : va_G} {ca : Nat → ClassId} {A : Nat → Prop} {H0 : Heap} {cnt : Nat → Nat} {ad : Nat → Nat → Nat} {ct : Nat → Nat → va_E} {pc : Nat} {ls : Array Slot} {rest : List Value}
theorem wd.one (hw : wd D A H0 cnt ad ct H locs) {k i : Nat} (hi : i < cnt k) {e : va_E} (hc : ct k i = e) : va_P D vwCl [(ad k i, e)] H := by
  intro j q hq
  have hz : j < 1 := (List.getElem?_eq_some_iff.mp hq).1
  rw [show j = 0 by omega] at hq
  cases hq
  rw [← hc]
  exact hw.1.1 k i hi
theorem x_get (E : cx p s m c args cc nL own D ca) (hw : wd D A H0 cnt ad ct H locs) {ci index : Nat} {C : String} {T : u_T} {N : Nat} {fs : List Value} (k i : Nat) (hi : i < cnt k) (hc : ct k i = .inr (ci, fs)) (hcl : vwCl[ci]? = some (C, T, N)) (hly : ∀ w ∈ u_ws C T N, w ∈ gw) (j : Nat) (hj : j < N) (hlink : Cond.fieldLink own index (T j).1 (T j).2.1 (T j).2.2.1 ∈ gw) {v : Value} (hv : fs[j]? = some v) (hdg : decode cc pc = .ok (.getfield index, 3))
    (kk : W p l e R s m args below meth c H locs cells slots Q (F0 m (pc + 3) ls (v :: rest))) : W p l e R s m args below meth c H locs cells slots Q (F0 m pc ls (.ref (ad k i) :: rest)) :=
  va_get E.1 E.2.1 E.2.2.2.2.1 hly E.2.2.2.1 E.2.2.2.2.2.1 (hw.one hi hc) 0 rfl hcl j hj (E.2.2.2.2.1 _ hlink) (fun _ h => h) hv hdg kk
theorem x_put (E : cx p s m c args cc nL own D ca) (hw : wd D A H0 cnt ad ct H locs) {ci index : Nat} {C : String} {T : u_T} {N : Nat} {fs : List Value} (k i : Nat) (hi : i < cnt k) (hc : ct k i = .inr (ci, fs)) (hcl : vwCl[ci]? = some (C, T, N)) (hly : ∀ w ∈ u_ws C T N, w ∈ gw) (ty0 : Nat → FieldType) (hty : ∀ k, k < N → parseFieldDescriptor (T k).2.2.1 = some (ty0 k)) (hnm : ∀ a, a < N → ∀ b, b < N → a ≠ b → (T a).2.1 ≠ (T b).2.1) (j : Nat) (hj : j < N) (hlink : Cond.fieldLink own index (T j).1 (T j).2.1 (T j).2.2.1 ∈ gw) (hfin : (T j).2.2.2 = false ∨ ((T j).2.2.2 = true ∧ meth.name = "<init>" ∧ (T j).1 = own)) {v : Value} (hn : narrow (ty0 j) v = v) (hfit : fits (ty0 j) v = true) (hl : j < fs.length) (hdg : decode cc pc = .ok (.putfield index, 3))
    (kk : ∀ (H1 : Heap) (locs1 : List Loc), wd D A H0 cnt ad (upd2 ct k i (.inr (ci, fs.set j v))) H1 locs1 → W p l e R s m args below meth c H1 locs1 cells slots Q (F0 m (pc + 3) ls rest)) : W p l e R s m args below meth c H locs cells slots Q (F0 m pc ls (v :: .ref (ad k i) :: rest)) := by
  have hts := E.2.2.2.2.1
  have hK := E.2.2.2.2.2.1
  have hap := va_apart (own := own) hts hly ty0 hty hnm hK hcl
  obtain ⟨r, h1, cell, q1, q2, q3, q4⟩ := (hw.one hi hc) 0 _ rfl
  have hr : r = (C, T, N) := Option.some.inj (h1.symm.trans hcl)
  subst hr
  obtain ⟨hS, hfc, kC, hkC, hkind⟩ := hK.1 ci _ hcl
  obtain ⟨cf, kf, fi, f, hi0, hsl⟩ := hS j hj
  have hlay := hts _ (hly _ (u_in_lay hj))
  have hst := (u_facts hfc hkC (u_lays hts hly hj) hi0).1
  have fin : ∀ H' : Heap, H'[ad k i]? = some (cell.setSlot (D.2 ci j) v) → H'.size = H.size → (∀ q, q ≠ ad k i → H'[q]? = H[q]?) → W p l e R s m args below meth c H' (locs ++ [⟨ad k i, D.2 ci j⟩]) cells slots Q (F0 m (pc + 3) ls rest) := fun H' e1 e2 e3 =>
    kk H' _ (hw.put hi ⟨_, hcl, t_OB.to (V := updV (vp_V fs) j v) ⟨_, e1, q2, q3, t_set q4 hap hj v⟩ (fun j _ => vp_updV_set hl v j)⟩ e2 e3)
  rcases hfin with hfin | ⟨hfin, hin2, hdecl⟩
  · unfold u_lay at hlay
    rw [if_neg (by rw [hfin]; decide)] at hlay
    have h6 := u_store hfc hkC hkind hlay hi0 (hty j hj) hn hfit
    refine W.putK E.1 E.2.1 (f := f) ⟨E.2.2.2.1, hts _ hlink, ⟨_, _, _, hi0⟩, hst⟩ (by rw [q2]; exact h6) q1 q3 (by rw [hsl]; exact k2_hasslot (q4 j hj)) rfl rfl hdg fun H' e1 e2 e3 => ?_
    rw [hsl] at e1 ⊢
    exact fin H' e1 e2 e3
  · unfold u_lay at hlay
    rw [if_pos hfin] at hlay
    have hcf : m.cls = cf := by
      obtain ⟨_, _, c', _, _, _, -, -, hf', -, -, -, hown2, -⟩ := Cond.laysFinal_spec hlay
      have e1 : c' = cf := by have := hi0.symm.trans hf'; simp at this; exact this.1.symm
      rw [hdecl] at hown2
      rw [← e1]; exact Option.some.inj (E.2.2.2.1.symm.trans hown2)
    have h6 := u_fits hfc hkC hkind (Or.inr hlay) hi0 (hty j hj) hn hfit
    refine W.putFinK E.1 E.2.1 E.2.2.2.1 (hts _ hlink) hi0 hst hcf hin2 (by rw [q2]; exact h6) q1 q3 (by rw [hsl]; exact k2_hasslot (q4 j hj)) rfl rfl hdg fun H' e1 e2 e3 => ?_
    rw [hsl] at e1 ⊢
    exact fin H' e1 e2 e3
theorem x_new (E : cx p s m c args cc nL own D ca) (hw : wd D A H0 cnt ad ct H locs) {ci index : Nat} {C : String} {T : u_T} {N : Nat} {fs : List Value} (k : Nat) (hcl : vwCl[ci]? = some (C, T, N)) (hly : ∀ w ∈ u_ws C T N, w ∈ gw) (ty0 : Nat → FieldType) (hty : ∀ k, k < N → parseFieldDescriptor (T k).2.2.1 = some (ty0 k)) (hlink : Cond.classLink own index C ∈ gw) (hinst : Cond.instantiable C N ∈ gw) (hini : Cond.initialized C ∈ gw) (hfs : ∀ j, j < N → defaultValue (ty0 j) = vp_V fs j) (hcells : cells + 1 ≤ R.cells) (hslots : slots + N ≤ R.slots) (hdg : decode cc pc = .ok (.new index, 3))
    (kk : ∀ (q : Nat) (H1 : Heap), wd D A H0 (va_up cnt k (cnt k + 1)) (upd2 ad k (cnt k) q) (upd2 ct k (cnt k) (.inr (ci, fs))) H1 locs → W p l e R s m args below meth c H1 locs (cells + 1) (slots + N) Q (F0 m (pc + 3) ls (.ref q :: rest))) : W p l e R s m args below meth c H locs cells slots Q (F0 m pc ls rest) := by
  have hts := E.2.2.2.2.1
  have hKn := E.2.2.2.2.2.1.1 ci _ hcl
  refine W.newcK E.1 E.2.1 E.2.2.2.1 (hts _ hlink) (hts _ hinst) (hts _ hini) rfl hdg hcells hslots hKn.2.1 rfl fun H1 kC hkC e1 z1 o1 => ?_
  exact kk H.size H1 (hw.new k ⟨_, hcl, (u_born ty0 hts hly hKn hkC e1 hty).to hfs⟩ z1 o1)
theorem x_uniq {ty : FieldType} {c1 c2 : ClassId} (h1 : s.vm.findClass ("[" ++ ty.toString) = some c1) (h2 : va_RA s c2 ty) : c1 = c2 := by
  have h3 : s.vm.findClass ("[" ++ ty.toString) = some c2 := by
    cases ty with
    | object C => obtain ⟨kA, comp, g1, g2, g3, g4⟩ := h2; exact g4
    | _ => exact h2
  exact Option.some.inj (h1.symm.trans h3)
theorem x_newa (E : cx p s m c args cc nL own D ca) (hw : wd D A H0 cnt ad ct H locs) {atype : ArrayType} (harr : Cond.arrayClass (newarray.typeOf atype) ∈ gw) (k t0 : Nat) {cA : ClassId} (ht : (tysA ca)[t0]? = some (cA, newarray.typeOf atype)) {n : Int32} {N' : Nat} (hd : defaultValue (newarray.typeOf atype) = .int 0) (hn : n = nI N') (hN : N' < 1000000) (hbytes : N' * componentBytes (newarray.typeOf atype) ≤ 536870912) (hcells : cells + 1 ≤ R.cells) (hslots : slots + N' ≤ R.slots) (hdg : decode cc pc = .ok (.newarray atype, 2))
    (kk : ∀ (q : Nat) (H1 : Heap), wd D A H0 (va_up cnt k (cnt k + 1)) (upd2 ad k (cnt k) q) (upd2 ct k (cnt k) (.inl (cA, N', .inl (fun _ => 0)))) H1 locs → W p l e R s m args below meth c H1 locs (cells + 1) (slots + N') Q (F0 m (pc + 2) ls (.ref q :: rest))) : W p l e R s m args below meth c H locs cells slots Q (F0 m pc ls (.int n :: rest)) := by
  refine va_newaK E.1 E.2.1 (E.2.2.2.2.1 _ harr) rfl hdg rfl (by rw [hn]; exact nI_pos (by omega)) (by rw [hn]; exact nI_clamp (by omega)) hbytes hcells hslots rfl fun H1 cA' e1 z1 o1 hAr hNm => ?_
  have he : cA' = cA := x_uniq hNm (E.2.2.2.2.2.1.2 t0 _ ht).2
  subst he
  exact kk H.size H1 (hw.new k (show H1[H.size]? = some (vp_cell _ _) by rw [e1, vp_cell_i, hd]) z1 o1)
theorem x_newq (E : cx p s m c args cc nL own D ca) (hw : wd D A H0 cnt ad ct H locs) {index : Nat} {C : String} (hlink : Cond.classLink own index C ∈ gw) (hover : va_AO C s) (k t0 : Nat) {cA : ClassId} (ht : (tysA ca)[t0]? = some (cA, .object C)) {n : Int32} {N' : Nat} (hn : n = nI N') (hN : N' < 1000000) (hcells : cells + 1 ≤ R.cells) (hslots : slots + N' ≤ R.slots) (hdg : decode cc pc = .ok (.anewarray index, 3))
    (kk : ∀ (q : Nat) (H1 : Heap), wd D A H0 (va_up cnt k (cnt k + 1)) (upd2 ad k (cnt k) q) (upd2 ct k (cnt k) (.inl (cA, N', .inr (.inr (.inr (.inr (fun _ => none))))))) H1 locs → W p l e R s m args below meth c H1 locs (cells + 1) (slots + N') Q (F0 m (pc + 3) ls (.ref q :: rest))) : W p l e R s m args below meth c H locs cells slots Q (F0 m pc ls (.int n :: rest)) := by
  have hcl : n.toNatClampNeg = N' := by rw [hn]; exact nI_clamp (by omega)
  refine W.anew E.1 E.2.1 E.2.2.2.1 (E.2.2.2.2.1 _ hlink) (va_AO.use hover) rfl hdg rfl (by rw [hn]; exact nI_pos (by omega)) (by rw [hcl]; omega) hcells (by rw [hcl]; exact hslots) fun cA' kA comp f1 f2 f3 f4 => ?_
  rw [hcl]
  have he : cA' = cA := x_uniq f1 (E.2.2.2.2.2.1.2 t0 _ ht).2
  subst he
  refine kk H.size _ (hw.new k (show _ = some (vp_cell _ _) from ?_) ?_ ?_)
  · rw [Array.getElem?_push_size]; exact congrArg some (arrV_new _ _ _)
  · simp
  · intro q hq
    rw [Array.getElem?_push, if_neg (Nat.ne_of_lt hq)]
theorem x_ild (E : cx p s m c args cc nL own D ca) (hw : wd D A H0 cnt ad ct H locs) (k i : Nat) (hi : i < cnt k) {n : Nat} {f : Nat → Int32} (hc : ct k i = .inl (ca 1, n, .inl f)) {x : Int32} (j : Nat) (hx : x = nI j) (hj : j < n) (hn : n < 1000000) (hdg : decode cc pc = .ok (.iaload, 1))
    (kk : W p l e R s m args below meth c H locs cells slots Q (F0 m (pc + 1) ls (.int (f j) :: rest))) : W p l e R s m args below meth c H locs cells slots Q (F0 m pc ls (.int x :: .ref (ad k i) :: rest)) := by
  subst hx
  refine va_iald E.1 E.2.1 E.2.2.2.2.2.1 (hw.one hi hc) 0 1 rfl rfl (vp_in_nI hj (by omega)) hdg ?_
  rw [nI_clamp (by omega)]
  exact kk
theorem x_bld (E : cx p s m c args cc nL own D ca) (hw : wd D A H0 cnt ad ct H locs) (k i : Nat) (hi : i < cnt k) {n : Nat} {f : Nat → Int32} (hc : ct k i = .inl (ca 0, n, .inl f)) {x : Int32} (j : Nat) (hx : x = nI j) (hj : j < n) (hn : n < 1000000) (hdg : decode cc pc = .ok (.baload, 1))
    (kk : W p l e R s m args below meth c H locs cells slots Q (F0 m (pc + 1) ls (.int (f j) :: rest))) : W p l e R s m args below meth c H locs cells slots Q (F0 m pc ls (.int x :: .ref (ad k i) :: rest)) := by
  subst hx
  refine va_bald E.1 E.2.1 E.2.2.2.2.2.1 (hw.one hi hc) 0 0 rfl rfl (vp_in_nI hj (by omega)) hdg ?_
  rw [nI_clamp (by omega)]
  exact kk
theorem x_zld (E : cx p s m c args cc nL own D ca) (hw : wd D A H0 cnt ad ct H locs) (k i : Nat) (hi : i < cnt k) {n : Nat} {f : Nat → Int32} (hc : ct k i = .inl (ca 2, n, .inl f)) {x : Int32} (j : Nat) (hx : x = nI j) (hj : j < n) (hn : n < 1000000) (hdg : decode cc pc = .ok (.baload, 1))
    (kk : W p l e R s m args below meth c H locs cells slots Q (F0 m (pc + 1) ls (.int (f j) :: rest))) : W p l e R s m args below meth c H locs cells slots Q (F0 m pc ls (.int x :: .ref (ad k i) :: rest)) := by
  subst hx
  refine va_zald E.1 E.2.1 E.2.2.2.2.2.1 (hw.one hi hc) 0 2 rfl rfl (vp_in_nI hj (by omega)) hdg ?_
  rw [nI_clamp (by omega)]
  exact kk
theorem x_ald (E : cx p s m c args cc nL own D ca) (hw : wd D A H0 cnt ad ct H locs) (t0 : Nat) {cA : ClassId} {C : String} (ht : (tysA ca)[t0]? = some (cA, .object C)) (k i : Nat) (hi : i < cnt k) {n : Nat} {f : Nat → Option Nat} (hc : ct k i = .inl (cA, n, .inr (.inr (.inr (.inr f))))) {x : Int32} (j : Nat) (hx : x = nI j) (hj : j < n) (hn : n < 1000000) (hdg : decode cc pc = .ok (.aaload, 1)) {v : Value} (hv : va_rf (f j) = v)
    (kk : W p l e R s m args below meth c H locs cells slots Q (F0 m (pc + 1) ls (v :: rest))) : W p l e R s m args below meth c H locs cells slots Q (F0 m pc ls (.int x :: .ref (ad k i) :: rest)) := by
  subst hx
  refine va_aldq E.1 E.2.1 E.2.2.2.2.2.1 (hw.one hi hc) 0 t0 rfl ht (vp_in_nI hj (by omega)) hdg ?_
  rw [nI_clamp (by omega), hv]
  exact kk
theorem x_ist (E : cx p s m c args cc nL own D ca) (hw : wd D A H0 cnt ad ct H locs) (k i : Nat) (hi : i < cnt k) {n : Nat} {f : Nat → Int32} (hc : ct k i = .inl (ca 1, n, .inl f)) {x z : Int32} (j : Nat) (hx : x = nI j) (hj : j < n) (hn : n < 1000000) (hdg : decode cc pc = .ok (.iastore, 1))
    (kk : ∀ (H1 : Heap) (locs1 : List Loc), wd D A H0 cnt ad (upd2 ct k i (.inl (ca 1, n, .inl (upd f j z)))) H1 locs1 → W p l e R s m args below meth c H1 locs1 cells slots Q (F0 m (pc + 1) ls rest)) : W p l e R s m args below meth c H locs cells slots Q (F0 m pc ls (.int z :: .int x :: .ref (ad k i) :: rest)) := by
  subst hx
  have hin : vp_in (nI j) n := vp_in_nI hj (by omega)
  refine W.iast E.1 E.2.1 ((hw.one hi hc) 0 _ rfl) ((E.2.2.2.2.2.1.2 1 _ rfl).1 n (fun j => .int (f j))) (fun q => by cases q) (by show ¬ (nI j < 0 ∨ (arrV _ _ _).slots.size ≤ _); rw [arrV_size]; exact hin) rfl rfl hdg fun H1 e z1 oq => ?_
  rw [nI_clamp (by omega)] at e ⊢
  refine kk H1 _ (hw.put hi (show H1[ad k i]? = some (vp_cell _ _) from ?_) z1 oq)
  rw [e, vp_cell_i, vp_cell_i, arrV_store]
  congr 2
  funext q
  by_cases hq : q = j
  · subst hq
    simp [updV, upd]
  · simp [updV, upd, hq]
theorem x_bst (E : cx p s m c args cc nL own D ca) (hw : wd D A H0 cnt ad ct H locs) (k i : Nat) (hi : i < cnt k) {n : Nat} {f : Nat → Int32} (hc : ct k i = .inl (ca 0, n, .inl f)) {x z : Int32} (j : Nat) (hx : x = nI j) (hj : j < n) (hn : n < 1000000) (hdg : decode cc pc = .ok (.bastore, 1))
    (kk : ∀ (H1 : Heap) (locs1 : List Loc), wd D A H0 cnt ad (upd2 ct k i (.inl (ca 0, n, .inl (upd f j z.toInt8.toInt32)))) H1 locs1 → W p l e R s m args below meth c H1 locs1 cells slots Q (F0 m (pc + 1) ls rest)) : W p l e R s m args below meth c H locs cells slots Q (F0 m pc ls (.int z :: .int x :: .ref (ad k i) :: rest)) := by
  subst hx
  have hin : vp_in (nI j) n := vp_in_nI hj (by omega)
  refine W.bast E.1 E.2.1 ((hw.one hi hc) 0 _ rfl) ((E.2.2.2.2.2.1.2 0 _ rfl).1 n (fun j => .int (f j))) (fun q => by cases q) (by show ¬ (nI j < 0 ∨ (arrV _ _ _).slots.size ≤ _); rw [arrV_size]; exact hin) rfl rfl hdg fun H1 e z1 oq => ?_
  rw [nI_clamp (by omega)] at e ⊢
  refine kk H1 _ (hw.put hi (show H1[ad k i]? = some (vp_cell _ _) from ?_) z1 oq)
  rw [e, vp_cell_i, vp_cell_i, arrV_store, narrow_byte]
  congr 2
  funext q
  by_cases hq : q = j
  · subst hq
    simp [updV, upd]
  · simp [updV, upd, hq]
theorem x_zst (E : cx p s m c args cc nL own D ca) (hw : wd D A H0 cnt ad ct H locs) (k i : Nat) (hi : i < cnt k) {n : Nat} {f : Nat → Int32} (hc : ct k i = .inl (ca 2, n, .inl f)) {x z : Int32} (j : Nat) (hx : x = nI j) (hj : j < n) (hn : n < 1000000) (hz : narrow .boolean (.int z) = .int z) (hdg : decode cc pc = .ok (.bastore, 1))
    (kk : ∀ (H1 : Heap) (locs1 : List Loc), wd D A H0 cnt ad (upd2 ct k i (.inl (ca 2, n, .inl (upd f j z)))) H1 locs1 → W p l e R s m args below meth c H1 locs1 cells slots Q (F0 m (pc + 1) ls rest)) : W p l e R s m args below meth c H locs cells slots Q (F0 m pc ls (.int z :: .int x :: .ref (ad k i) :: rest)) := by
  subst hx
  have hin : vp_in (nI j) n := vp_in_nI hj (by omega)
  refine W.zast E.1 E.2.1 ((hw.one hi hc) 0 _ rfl) ((E.2.2.2.2.2.1.2 2 _ rfl).1 n (fun j => .int (f j))) (fun q => by cases q) (by show ¬ (nI j < 0 ∨ (arrV _ _ _).slots.size ≤ _); rw [arrV_size]; exact hin) rfl rfl hdg fun H1 e z1 oq => ?_
  rw [nI_clamp (by omega), hz] at e
  rw [nI_clamp (by omega)]
  refine kk H1 _ (hw.put hi (show H1[ad k i]? = some (vp_cell _ _) from ?_) z1 oq)
  rw [e, vp_cell_i, vp_cell_i, arrV_store]
  congr 2
  funext q
  by_cases hq : q = j
  · subst hq
    simp [updV, upd]
  · simp [updV, upd, hq]
theorem x_ast (E : cx p s m c args cc nL own D ca) (hw : wd D A H0 cnt ad ct H locs) (t0 : Nat) {cA : ClassId} {r : vw_C} {ci : Nat} (ht : (tysA ca)[t0]? = some (cA, .object r.1)) (hcl : vwCl[ci]? = some r) (k i : Nat) (hi : i < cnt k) {n : Nat} {f : Nat → Option Nat} (hc : ct k i = .inl (cA, n, .inr (.inr (.inr (.inr f))))) (k2 i2 : Nat) (hi2 : i2 < cnt k2) {fs : List Value} (hc2 : ct k2 i2 = .inr (ci, fs)) {x : Int32} (j : Nat) (hx : x = nI j) (hj : j < n) (hn : n < 1000000) (hdg : decode cc pc = .ok (.aastore, 1))
    (kk : ∀ (H1 : Heap) (locs1 : List Loc), wd D A H0 cnt ad (upd2 ct k i (.inl (cA, n, .inr (.inr (.inr (.inr (va_up f j (some (ad k2 i2))))))))) H1 locs1 → W p l e R s m args below meth c H1 locs1 cells slots Q (F0 m (pc + 1) ls rest)) : W p l e R s m args below meth c H locs cells slots Q (F0 m pc ls (.ref (ad k2 i2) :: .int x :: .ref (ad k i) :: rest)) := by
  subst hx
  have hK := E.2.2.2.2.2.1
  obtain ⟨r', hr', cellV, g1, g2, g3, -⟩ := (hw.one hi2 hc2) 0 _ rfl
  have hcls := (hK.1 ci r hcl).2
  obtain ⟨kA, comp, k1, k2', k3, -⟩ := (hK.2 t0 _ ht).2
  have hcomp : comp = D.1 ci := Option.some.inj (k3.symm.trans hcls.1)
  subst hcomp
  obtain ⟨kC, hkC, -⟩ := hcls.2
  refine W.aast E.1 E.2.1 ((hw.one hi hc) 0 _ rfl) (fun q h => by cases h) (fun h => by cases h) k1 k2' rfl hkC ⟨nI_pos (by omega), by show _ < (arrV _ _ _).slots.size; rw [arrV_size, nI_clamp (by omega)]; exact hj⟩ g1 (fun q h => by rw [g3] at h; cases h) (by rw [g2]; exact hkC) (by rw [g2]; exact va_assign hcls) rfl rfl hdg fun H1 e z1 oq => ?_
  rw [nI_clamp (by omega)] at e ⊢
  refine kk H1 _ (hw.put hi (show H1[ad k i]? = some (vp_cell _ _) from ?_) z1 oq)
  rw [e, vp_cell_q, vp_cell_q, arrV_store]
  congr 2
  funext q
  by_cases hq : q = j
  · subst hq
    simp [updV, va_up, va_rf]
  · simp [updV, va_up, hq]
theorem x_len (E : cx p s m c args cc nL own D ca) (hw : wd D A H0 cnt ad ct H locs) (t0 : Nat) {cA : ClassId} {ty : FieldType} (ht : (tysA ca)[t0]? = some (cA, ty)) (k i : Nat) (hi : i < cnt k) {x : vp_A} (hc : ct k i = .inl (cA, x)) (hdg : decode cc pc = .ok (.arraylength, 1))
    (kk : W p l e R s m args below meth c H locs cells slots Q (F0 m (pc + 1) ls (.int (nI x.1) :: rest))) : W p l e R s m args below meth c H locs cells slots Q (F0 m pc ls (.ref (ad k i) :: rest)) :=
  va_alen E.1 E.2.1 E.2.2.2.2.2.1 (hw.one hi hc) 0 t0 rfl ht rfl hdg kk
theorem x_recv (E : cx p s m c args cc nL own D ca) (hw : wd D A H0 cnt ad ct H locs) {ci : Nat} {r : vw_C} (hcl : vwCl[ci]? = some r) {k i : Nat} (hi : i < cnt k) {fs : List Value} (hc : ct k i = .inr (ci, fs)) : ∃ cell : Cell, H[ad k i]? = some cell ∧ cell.vm.isStatics = false ∧ s.vm.findClass r.1 = some cell.cls :=
  va_recv E.2.2.2.2.2.1 (hw.one hi hc) (q0 := 0) hcl rfl
end XR
end
section
/-! ===== contracts: from a body's walk to the contract, from a contract to a call ===== -/
abbrev WT : Type := (Nat → Nat) × (Nat → Nat → Nat) × (Nat → Nat → va_E)
/-- a method that changes the world: what it answers, and the world behind it -/
def QcW (D : va_G) (A : Nat → Prop) (post : Option Value → WT → Prop) : Array Value → State → Outcome → State → Prop := fun _ st o t => (∃ (v : Option Value) (u : WT), o = .returned v ∧ post v u ∧ wq D u.1 u.2.1 u.2.2 t.heap ∧ ∀ k i, i < u.1 k → A (u.2.1 k i)) ∧ va_F A st t
theorem x_met {l : Launch} {y : MethodName} {cc : ByteArray} {nL : Nat} {ret : Option FieldType} {rm : Room} {avs : List Value} {P : State → Prop} {D : va_G} {ca : Nat → ClassId} {Qc : Array Value → State → Outcome → State → Prop} {mc ms : Nat} {free : Addr → Prop} (hy : plainName y.cls = true) (hn : (lg_sl avs).length ≤ nL)
    (body : ∀ (p : Program) (e : Env) (s : State) (m : MethodId) (below : List Frame) (meth : Method) (c : Code), cx p s m c avs.toArray cc nL y.cls D ca → meth.sig.returnType = ret → meth.locks = false → meth.name = y.name → P s → ∀ ls : Array Slot, lv_has ls nL (lv_args 0 avs) → W p l e rm s m avs.toArray below meth c s.heap [] 0 0 (MQ below Qc avs.toArray s mc ms free) (F0 m 0 ls [])) :
    Met l y (wz y cc nL ret) rm (va_Pc avs (fun U => P U ∧ gK D ca U)) Qc mc ms free := by
  refine Met.ofW (cc := cc) (maxL := nL) (ret := ret) hy rfl ?_
  intro p e s m args below meth c s₁ B hml hv
  obtain ⟨rfl, hP, hK⟩ := hv
  have hts := atoms_spec (ws := wz y cc nL ret) B.pre
  rw [lg_entry_eq]
  exact body p e s m below meth c ⟨B.exec, B.bytes, hml, findClass_of_methodNamed B.named, fun w h => hts w (List.mem_cons_of_mem _ h), hK⟩ B.returns B.notSynchronized (name_of_methodNamed B.named B.method).1 hP _ (lv_entry avs hn)
abbrev cbD (y : MethodName) (n : Nat) : Prop := y.cls ≠ "java/lang/invoke/MethodHandle" ∧ y.cls ≠ "java/lang/invoke/VarHandle" ∧ (parseMethodDescriptor y.desc).map (fun d => d.parameters.length) = some n
def cbV (y : MethodName) (b : ByteArray) (maxL : Nat) (ret : Option FieldType) (n : Nat) : Prop := Cond.code y b maxL ret ∈ gw ∧ Cond.initialized y.cls ∈ gw ∧ cbD y n ∧ Cond.instanceMethod y ∈ gw ∧ Cond.selects y.cls y y ∈ gw
def cbS (y : MethodName) (b : ByteArray) (maxL : Nat) (ret : Option FieldType) (n : Nat) : Prop := Cond.code y b maxL ret ∈ gw ∧ Cond.initialized y.cls ∈ gw ∧ cbD y n ∧ Cond.static y ∈ gw
def cbI (y : MethodName) (b : ByteArray) (maxL : Nat) (n : Nat) : Prop := Cond.code y b maxL none ∈ gw ∧ Cond.initialized y.cls ∈ gw ∧ cbD y n ∧ Cond.instanceMethod y ∈ gw ∧ y.name = "<init>"
section XC
variable {p : Program} {l : Launch} {e : Env} {R : Room} {s : State} {m : MethodId} {args : Array Value} {below : List Frame} {meth : Method} {c : Code} {H : Heap} {locs : List Loc} {cells slots : Nat} {Q : State → Prop}
variable {cc : ByteArray} {nL : Nat} {own : String} {D : va_G} {ca : Nat → ClassId} {A : Nat → Prop} {H0 : Heap} {cnt : Nat → Nat} {ad : Nat → Nat → Nat} {ct : Nat → Nat → va_E} {pc : Nat} {ls : Array Slot} {rest st0 : List Value}
variable {y : MethodName} {b : ByteArray} {maxL n index mc ms : Nat} {ret : Option FieldType} {rm : Room} {As : List Value} {bb : Addr} {P : State → Prop} {Qc : Array Value → State → Outcome → State → Prop} {free : Addr → Prop}
abbrev xR (rm R : Room) (maxL mc ms : Nat) : Prop := rm.cells = mc ∧ rm.slots = ms ∧ rm.frames + 1 ≤ R.frames ∧ 8 + (maxL + 11) + rm.locals ≤ R.locals
theorem x_sig (hd : cbD y n) : ∀ sig, parseMethodDescriptor y.desc = some sig → n = sig.parameters.length := fun sig h => by
  have h2 := hd.2.2
  rw [h] at h2
  exact (Option.some.inj h2).symm
theorem x_B (E : cx p s m c args cc nL own D ca) (hcode : Cond.code y b maxL ret ∈ gw) (hini : Cond.initialized y.cls ∈ gw) (hd : cbD y n) (hl : Cond.methodLink own index y ∈ gw) (hR : xR rm R maxL mc ms) : CallB R s args own index y b maxL ret (wz y b maxL ret) rm mc ms n :=
  ⟨hR.1, hR.2.1, hR.2.2.1, hR.2.2.2, pay_in (big := gw) E.2.2.2.2.1 (wz_good (y := y) (b := b) (n := maxL) (r := ret) hcode), List.mem_cons_self, E.2.2.2.2.1 _ hcode, E.2.2.2.2.1 _ hini, ⟨hd.1, hd.2.1⟩, x_sig hd, E.2.2.2.2.1 _ hl⟩
theorem x_N {host : String} (E : cx p s m c args cc nL own D ca) (hcode : Cond.code y b maxL ret ∈ gw) (hini : Cond.initialized y.cls ∈ gw) (hd : cbD y n) (hl : va_Nw (.methodLinkNest own index y host) s) (hR : xR rm R maxL mc ms) : va_CN R s args own index y host b maxL ret (wz y b maxL ret) rm mc ms n :=
  ⟨⟨hR.1, hR.2.1, hR.2.2.1, hR.2.2.2, pay_in (big := gw) E.2.2.2.2.1 (wz_good (y := y) (b := b) (n := maxL) (r := ret) hcode), List.mem_cons_self⟩, E.2.2.2.2.1 _ hcode, E.2.2.2.2.1 _ hini, ⟨hd.1, hd.2.1⟩, x_sig hd, va_Nw.use rfl hl⟩
theorem x_blind {av : List Value} (hPb : ∀ (U : State) (g : JFrame) (mk : MethodId) (a : Array Value), P U → P (U.calling g mk a)) : FrameBlind (va_Pc av (fun U => P U ∧ gK D ca U)) := fun a U g mk q => ⟨q.1, hPb U g mk a q.2.1, q.2.2.blind⟩
theorem x_pre {av : List Value} (E : cx p s m c args cc nL own D ca) (hPb : ∀ (U : State) (g : JFrame) (mk : MethodId) (a : Array Value), P U → P (U.calling g mk a)) (hP : ∀ U : State, U.heap = H → s.WarmedH U.vm → P U) : PreS s H (va_Pc av (fun U => P U ∧ gK D ca U)) av := ⟨x_blind hPb, fun U hU hW => ⟨rfl, hP U hU hW, E.2.2.2.2.2.warm hW⟩⟩
/-- the five kinds of call -/
theorem x_runV (E : cx p s m c args cc nL own D ca) (cb : cbV y b maxL ret n) (hl : Cond.methodLink own index y ∈ gw) (hM : Met l y (wz y b maxL ret) rm (va_Pc (.ref bb :: As) (fun U => P U ∧ gK D ca U)) Qc mc ms free) (hR : xR rm R maxL mc ms) (hrec : ∃ cell : Cell, H[bb]? = some cell ∧ cell.vm.isStatics = false ∧ s.vm.findClass y.cls = some cell.cls) (hPb : ∀ (U : State) (g : JFrame) (mk : MethodId) (a : Array Value), P U → P (U.calling g mk a)) (hP : ∀ U : State, U.heap = H → s.WarmedH U.vm → P U) (hn : As.length = n) (hsz : ls.size = nL) (hst : st0 = As.reverse ++ .ref bb :: rest) (hW : (rest.map fun v => v.category).sum ≤ 8) (hdg : decode cc pc = .ok (.invokevirtual index, 3)) (hf : cells + mc ≤ R.cells ∧ slots + ms ≤ R.slots) : va_Run p l e R s m args below meth c H locs cells slots mc ms (F0 m pc ls st0) rest (Qc (Value.ref bb :: As).toArray) free :=
  va_runV (Ts := gw) ⟨E.1, E.2.1, E.2.2.1, E.2.2.2.1, E.2.2.2.2.1⟩ hM ⟨x_B E cb.1 cb.2.1 cb.2.2.1 hl hR, E.2.2.2.2.1 _ cb.2.2.2.1, E.2.2.2.2.1 _ cb.2.2.2.2⟩ ⟨x_blind hPb, hrec, (x_pre E hPb hP).2⟩ rfl hn hsz hst (lv_room hW) hdg hf
theorem x_runS (E : cx p s m c args cc nL own D ca) (cb : cbS y b maxL ret n) (hl : Cond.methodLink own index y ∈ gw) (hM : Met l y (wz y b maxL ret) rm (va_Pc As (fun U => P U ∧ gK D ca U)) Qc mc ms free) (hR : xR rm R maxL mc ms) (hPb : ∀ (U : State) (g : JFrame) (mk : MethodId) (a : Array Value), P U → P (U.calling g mk a)) (hP : ∀ U : State, U.heap = H → s.WarmedH U.vm → P U) (hn : As.length = n) (hsz : ls.size = nL) (hst : st0 = As.reverse ++ rest) (hW : (rest.map fun v => v.category).sum ≤ 8) (hdg : decode cc pc = .ok (.invokestatic index, 3)) (hf : cells + mc ≤ R.cells ∧ slots + ms ≤ R.slots) : va_Run p l e R s m args below meth c H locs cells slots mc ms (F0 m pc ls st0) rest (Qc As.toArray) free :=
  va_runS (Ts := gw) ⟨E.1, E.2.1, E.2.2.1, E.2.2.2.1, E.2.2.2.2.1⟩ hM ⟨x_B E cb.1 cb.2.1 cb.2.2.1 hl hR, E.2.2.2.2.1 _ cb.2.2.2⟩ (x_pre E hPb hP) rfl hn hsz hst (lv_room hW) hdg hf
theorem x_runI (E : cx p s m c args cc nL own D ca) (cb : cbI y b maxL n) (hl : Cond.methodLink own index y ∈ gw) (hM : Met l y (wz y b maxL none) rm (va_Pc (.ref bb :: As) (fun U => P U ∧ gK D ca U)) Qc mc ms free) (hR : xR rm R maxL mc ms) (hPb : ∀ (U : State) (g : JFrame) (mk : MethodId) (a : Array Value), P U → P (U.calling g mk a)) (hP : ∀ U : State, U.heap = H → s.WarmedH U.vm → P U) (hn : As.length = n) (hsz : ls.size = nL) (hst : st0 = As.reverse ++ .ref bb :: rest) (hW : (rest.map fun v => v.category).sum ≤ 8) (hdg : decode cc pc = .ok (.invokespecial index, 3)) (hf : cells + mc ≤ R.cells ∧ slots + ms ≤ R.slots) : va_Run p l e R s m args below meth c H locs cells slots mc ms (F0 m pc ls st0) rest (Qc (Value.ref bb :: As).toArray) free :=
  va_runI (Ts := gw) ⟨E.1, E.2.1, E.2.2.1, E.2.2.2.1, E.2.2.2.2.1⟩ hM ⟨x_B E cb.1 cb.2.1 cb.2.2.1 hl hR, cb.2.2.2.2, E.2.2.2.2.1 _ cb.2.2.2.1⟩ (x_pre E hPb hP) rfl hn hsz hst (lv_room hW) hdg hf
theorem x_runSN {host : String} (E : cx p s m c args cc nL own D ca) (cb : cbS y b maxL ret n) (hl : va_Nw (.methodLinkNest own index y host) s) (hM : Met l y (wz y b maxL ret) rm (va_Pc As (fun U => P U ∧ gK D ca U)) Qc mc ms free) (hR : xR rm R maxL mc ms) (hPb : ∀ (U : State) (g : JFrame) (mk : MethodId) (a : Array Value), P U → P (U.calling g mk a)) (hP : ∀ U : State, U.heap = H → s.WarmedH U.vm → P U) (hn : As.length = n) (hsz : ls.size = nL) (hst : st0 = As.reverse ++ rest) (hW : (rest.map fun v => v.category).sum ≤ 8) (hdg : decode cc pc = .ok (.invokestatic index, 3)) (hf : cells + mc ≤ R.cells ∧ slots + ms ≤ R.slots) : va_Run p l e R s m args below meth c H locs cells slots mc ms (F0 m pc ls st0) rest (Qc As.toArray) free :=
  va_runSN (Ts := gw) ⟨E.1, E.2.1, E.2.2.1, E.2.2.2.1, E.2.2.2.2.1⟩ hM ⟨x_N E cb.1 cb.2.1 cb.2.2.1 hl hR, E.2.2.2.2.1 _ cb.2.2.2, trivial⟩ (x_pre E hPb hP) rfl hn hsz hst (lv_room hW) hdg hf
theorem x_runIN {host : String} (E : cx p s m c args cc nL own D ca) (cb : cbI y b maxL n) (hl : va_Nw (.methodLinkNest own index y host) s) (hM : Met l y (wz y b maxL none) rm (va_Pc (.ref bb :: As) (fun U => P U ∧ gK D ca U)) Qc mc ms free) (hR : xR rm R maxL mc ms) (hPb : ∀ (U : State) (g : JFrame) (mk : MethodId) (a : Array Value), P U → P (U.calling g mk a)) (hP : ∀ U : State, U.heap = H → s.WarmedH U.vm → P U) (hn : As.length = n) (hsz : ls.size = nL) (hst : st0 = As.reverse ++ .ref bb :: rest) (hW : (rest.map fun v => v.category).sum ≤ 8) (hdg : decode cc pc = .ok (.invokespecial index, 3)) (hf : cells + mc ≤ R.cells ∧ slots + ms ≤ R.slots) : va_Run p l e R s m args below meth c H locs cells slots mc ms (F0 m pc ls st0) rest (Qc (Value.ref bb :: As).toArray) free :=
  va_runIN (Ts := gw) ⟨E.1, E.2.1, E.2.2.1, E.2.2.2.1, E.2.2.2.2.1⟩ hM ⟨x_N E cb.1 cb.2.1 cb.2.2.1 hl hR, cb.2.2.2.2, E.2.2.2.2.1 _ cb.2.2.2.1⟩ (x_pre E hPb hP) rfl hn hsz hst (lv_room hW) hdg hf
/-- behind a call that only reads -/
theorem x_read {r : Int32} {a : Array Value} (hr : va_Run p l e R s m args below meth c H locs cells slots 0 0 (F0 m pc ls st0) rest (QcRead r a) (fun _ => False)) (kk : W p l e R s m args below meth c H locs cells slots Q (F0 m (pc + 3) ls (.int r :: rest))) : W p l e R s m args below meth c H locs cells slots Q (F0 m pc ls st0) := by
  intro T hT X
  obtain ⟨v, st₀, t, T', L, h0, X', hL, e1, -, ⟨hv, hh⟩, st⟩ := hr T hT X
  cases hv
  obtain ⟨t2, a1, b1⟩ := kk T' (by rw [e1, hh, h0]) (Stand.forget X' (fun q h => (hL q h).elim))
  exact ⟨t2, st t2 a1, b1⟩
/-- the same, of a reference -/
def QcRef (r : Option Nat) : Array Value → State → Outcome → State → Prop := fun _ st o t => o = .returned (some (va_rf r)) ∧ t.heap = st.heap
theorem x_readq {r : Option Nat} {a : Array Value} (hr : va_Run p l e R s m args below meth c H locs cells slots 0 0 (F0 m pc ls st0) rest (QcRef r a) (fun _ => False)) (kk : W p l e R s m args below meth c H locs cells slots Q (F0 m (pc + 3) ls (va_rf r :: rest))) : W p l e R s m args below meth c H locs cells slots Q (F0 m pc ls st0) := by
  intro T hT X
  obtain ⟨v, st₀, t, T', L, h0, X', hL, e1, -, ⟨hv, hh⟩, st⟩ := hr T hT X
  cases hv
  obtain ⟨t2, a1, b1⟩ := kk T' (by rw [e1, hh, h0]) (Stand.forget X' (fun q h => (hL q h).elim))
  exact ⟨t2, st t2 a1, b1⟩
/-- behind a call that changes the world -/
theorem x_wrote {post : Option Value → WT → Prop} {a : Array Value} (hw : wd D A H0 cnt ad ct H locs) (hr : va_Run p l e R s m args below meth c H locs cells slots mc ms (F0 m pc ls st0) rest (QcW D (wA cnt ad H.size) post a) (wA cnt ad H.size)) (kk : ∀ (v : Option Value) (u : WT) (H1 : Heap) (locs1 : List Loc), post v u → wd D A H0 u.1 u.2.1 u.2.2 H1 locs1 → H.size ≤ H1.size → (∀ q : Nat, q < H.size → ¬ wA cnt ad H.size q → H1[q]? = H[q]?) → W p l e R s m args below meth c H1 locs1 (cells + mc) (slots + ms) Q (F0 m (pc + 3) ls (v.toList ++ rest))) : W p l e R s m args below meth c H locs cells slots Q (F0 m pc ls st0) := by
  intro T hT X
  obtain ⟨v, st₀, t, T', L, h0, X', hL, e1, e2, ⟨⟨v', u, hv, hp, hq, hA1⟩, hz, hk⟩, st⟩ := hr T hT X
  cases hv
  rw [h0] at hz hk
  obtain ⟨⟨g1, g2⟩, g3, g4, g5⟩ := hw
  have hA : ∀ q, wA cnt ad H.size q → A q := by
    intro q h
    rcases h with ⟨k, i, hi, rfl⟩ | h
    · exact g3 k i hi
    · exact g5 q (Nat.le_trans g4.1 h)
  obtain ⟨t2, a1, b1⟩ := kk v u T'.heap (locs ++ L) hp ⟨by rw [e1]; exact hq, fun k i hi => hA _ (hA1 k i hi), ⟨Nat.le_trans g4.1 (by rw [e1]; exact hz), fun q h1 h2 => by rw [e1, hk q (Nat.lt_of_lt_of_le h1 g4.1) (fun z => h2 (hA q z))]; exact g4.2.1 q h1 h2, fun q hq => by
      rcases List.mem_append.mp hq with h | h
      · exact g4.2.2 q h
      · exact hA _ (hL q h)⟩, g5⟩ (by rw [e1]; exact hz) (fun q h1 h2 => by rw [e1]; exact hk q h1 h2) T' rfl X'
  exact ⟨t2, st t2 a1, b1⟩
/-- ends of methods that only read -/
theorem x_iret (E : cx p s m c args cc nL own D ca) (hr : meth.sig.returnType = some .int) (hlk : meth.locks = false) {r v : Int32} (hv : v = r) (hdg : decode cc pc = .ok (.ireturn, 1)) : W p l e R s m args below meth c s.heap [] 0 0 (MQ below (QcRead r) args s 0 0 (fun _ => False)) (F0 m pc ls [.int v]) := by
  subst hv
  exact W.iret E.1 E.2.1 hr (fun t ht _ => ⟨rfl, ht⟩) (fun q h => by cases h) hdg
theorem x_nar {v : Int32} (h : v = 0 ∨ v = 1) : narrow .boolean (.int v) = .int v := by
  rcases h with rfl | rfl <;> rfl
theorem x_zret (E : cx p s m c args cc nL own D ca) (hr : meth.sig.returnType = some .boolean) (hlk : meth.locks = false) {r v : Int32} (hn : v = 0 ∨ v = 1) (hv : v = r) (hdg : decode cc pc = .ok (.ireturn, 1)) : W p l e R s m args below meth c s.heap [] 0 0 (MQ below (QcRead r) args s 0 0 (fun _ => False)) (F0 m pc ls [.int v]) := by
  subst hv
  exact W.zret E.1 E.2.1 hr (x_nar hn) (fun t ht _ => ⟨rfl, ht⟩) (fun q h => by cases h) hdg
theorem x_aret (E : cx p s m c args cc nL own D ca) {rt : FieldType} (hr : meth.sig.returnType = some rt) (hrt : (∃ n, rt = .object n) ∨ ∃ t, rt = .array t) (hlk : meth.locks = false) {r : Option Nat} {v : Value} (hv : v = va_rf r) (hdg : decode cc pc = .ok (.areturn, 1)) : W p l e R s m args below meth c s.heap [] 0 0 (MQ below (QcRef r) args s 0 0 (fun _ => False)) (F0 m pc ls [v]) := by
  subst hv
  exact W.aret E.1 E.2.1 hr hrt (va_rf_or r) (fun t ht _ => ⟨rfl, ht⟩) (fun q h => by cases h) hdg
/-- ends of methods that change the world -/
theorem x_wq {post : Option Value → WT → Prop} {v : Option Value} (hw : wd D A s.heap cnt ad ct H locs) (hp : post v (cnt, ad, ct)) : ∀ t : State, t.heap = H → s.WarmedH t.vm → QcW D A post args s (.returned v) t := fun t ht _ => ⟨⟨v, (cnt, ad, ct), rfl, hp, by rw [ht]; exact hw.1, hw.2.1⟩, hw.2.2.1.F ht⟩
theorem x_vretW (E : cx p s m c args cc nL own D ca) (hr : meth.sig.returnType = none) (hlk : meth.locks = false) {post : Option Value → WT → Prop} (hw : wd D A s.heap cnt ad ct H locs) (h1 : cells ≤ mc) (h2 : slots ≤ ms) (hp : post none (cnt, ad, ct)) (hdg : decode cc pc = .ok (.return_, 1)) : W p l e R s m args below meth c H locs cells slots (MQ below (QcW D A post) args s mc ms A) (F0 m pc ls []) :=
  W.widen h1 h2 (W.vret E.1 E.2.1 hr (x_wq hw hp) hw.2.2.1.2.2 hdg)
theorem x_iretW (E : cx p s m c args cc nL own D ca) (hr : meth.sig.returnType = some .int) (hlk : meth.locks = false) {post : Option Value → WT → Prop} {v : Int32} (hw : wd D A s.heap cnt ad ct H locs) (h1 : cells ≤ mc) (h2 : slots ≤ ms) (hp : post (some (.int v)) (cnt, ad, ct)) (hdg : decode cc pc = .ok (.ireturn, 1)) : W p l e R s m args below meth c H locs cells slots (MQ below (QcW D A post) args s mc ms A) (F0 m pc ls [.int v]) :=
  W.widen h1 h2 (W.iret E.1 E.2.1 hr (x_wq hw hp) hw.2.2.1.2.2 hdg)
theorem x_zretW (E : cx p s m c args cc nL own D ca) (hr : meth.sig.returnType = some .boolean) (hlk : meth.locks = false) {post : Option Value → WT → Prop} {v : Int32} (hn : v = 0 ∨ v = 1) (hw : wd D A s.heap cnt ad ct H locs) (h1 : cells ≤ mc) (h2 : slots ≤ ms) (hp : post (some (.int v)) (cnt, ad, ct)) (hdg : decode cc pc = .ok (.ireturn, 1)) : W p l e R s m args below meth c H locs cells slots (MQ below (QcW D A post) args s mc ms A) (F0 m pc ls [.int v]) :=
  W.widen h1 h2 (W.zret E.1 E.2.1 hr (x_nar hn) (x_wq hw hp) hw.2.2.1.2.2 hdg)
end XC
/-! ===== the reference's world: one object, its ints v by field, its arrays g by field ===== -/
def mInt (j : Nat) : Bool := j < 6 || (27 ≤ j && j ≤ 31)
def mZ (k : Nat) : Bool := k == 17 || k == 23 || k == 32
def mlen (k : Nat) : Nat := if k = 6 then 50 else if k = 7 then 1000 else if k = 8 then 20 else if k < 17 then 60 else if k = 17 then 1200 else if k < 22 then 300 else if k = 22 then 13 else if k = 23 then 26013 else if k = 24 then 100 else if k < 27 then 240 else 120
def mcnt (k : Nat) : Nat := if k = 33 then 1 else if k < 33 ∧ mInt k = false then 1 else 0
def mfl (ad : Nat → Nat → Nat) (v : Nat → Int32) : List Value := (List.range 33).map (fun j => if mInt j then .int (v j) else .ref (ad j 0))
def mct (ca : Nat → ClassId) (ad : Nat → Nat → Nat) (v : Nat → Int32) (g : Nat → Nat → Int32) : Nat → Nat → va_E := fun k _ => if k = 33 then .inr (10, mfl ad v) else .inl (ca (if mZ k then 2 else 1), mlen k, .inl (g k))
theorem mlen_lt (k : Nat) : mlen k < 1000000 := by
  unfold mlen
  repeat (first | omega | split)
theorem mfl_len (ad : Nat → Nat → Nat) (v : Nat → Int32) : (mfl ad v).length = 33 := by simp [mfl]
theorem mfl_i {ad : Nat → Nat → Nat} {v : Nat → Int32} {j : Nat} (hj : j < 33) (h : mInt j = true) : (mfl ad v)[j]? = some (.int (v j)) := by simp [mfl, hj, h]
theorem mfl_r {ad : Nat → Nat → Nat} {v : Nat → Int32} {j : Nat} (hj : j < 33) (h : mInt j = false) : (mfl ad v)[j]? = some (.ref (ad j 0)) := by simp [mfl, hj, h]
theorem mfl_set {ad : Nat → Nat → Nat} {v : Nat → Int32} {j : Nat} (hj : j < 33) (h : mInt j = true) (x : Int32) : (mfl ad v).set j (.int x) = mfl ad (upd v j x) := by
  apply List.ext_getElem?
  intro i
  by_cases hi : i = j
  · subst hi
    rw [List.getElem?_set_self (by rw [mfl_len]; exact hj), mfl_i hj h]
    simp [upd]
  · rw [List.getElem?_set_ne (Ne.symm hi)]
    simp only [mfl, List.getElem?_map]
    cases hr : (List.range 33)[i]? with
    | none => rfl
    | some q =>
      have : q = i := by
        have := List.getElem?_eq_some_iff.mp hr
        obtain ⟨h1, h2⟩ := this
        simpa using h2.symm
      subst this
      simp [upd, hi]
theorem cl_10 : vwCl[10]? = some (RX10, TX10, 33) := rfl
theorem wd.ct {D : va_G} {A : Nat → Prop} {H0 : Heap} {cnt : Nat → Nat} {ad : Nat → Nat → Nat} {ct ct' : Nat → Nat → va_E} {H : Heap} {locs : List Loc} (h : wd D A H0 cnt ad ct H locs) (he : ∀ k i, i < cnt k → ct k i = ct' k i) : wd D A H0 cnt ad ct' H locs := ⟨⟨fun k i hi => by rw [← he k i hi]; exact h.1.1 k i hi, h.1.2⟩, h.2⟩
abbrev mw (D : va_G) (A : Nat → Prop) (H0 : Heap) (ca : Nat → ClassId) (ad : Nat → Nat → Nat) (v : Nat → Int32) (g : Nat → Nat → Int32) (H : Heap) (locs : List Loc) : Prop := wd D A H0 mcnt ad (mct ca ad v g) H locs
abbrev mq (D : va_G) (ca : Nat → ClassId) (ad : Nat → Nat → Nat) (v : Nat → Int32) (g : Nat → Nat → Int32) (H : Heap) : Prop := wq D mcnt ad (mct ca ad v g) H
theorem mcnt_33 : 0 < mcnt 33 := by decide
theorem mcnt_0 {k i : Nat} (h : i < mcnt k) : i = 0 := by
  unfold mcnt at h
  split at h
  · omega
  · split at h <;> omega
theorem ly_10 : ∀ w ∈ u_ws RX10 TX10 33, w ∈ gw := by
  have h : ∀ w ∈ u_ws RX10 TX10 33, w ∈ tables_1 := by decide +kernel
  have h2 : ∀ w ∈ u_ws RX10 TX10 33, goodWord w = true := by decide +kernel
  exact fun w hw => gw_in (h w hw) (h2 w hw)
theorem tyX10_int : ∀ j, j < 33 → mInt j = true → tyX10 j = .int := by decide +kernel
theorem TX10_fin : ∀ j, j < 33 → mInt j = true → (TX10 j).2.2.2 = false := by decide +kernel
/-- a method of the reference that changes it: its answer, its ints and arrays behind it -/
def QcM (D : va_G) (ca : Nat → ClassId) (ad : Nat → Nat → Nat) (A : Nat → Prop) (r : Option Value) (v : Nat → Int32) (g : Nat → Nat → Int32) : Array Value → State → Outcome → State → Prop := fun _ st o t => (o = .returned r ∧ mq D ca ad v g t.heap) ∧ va_F A st t
section XM
variable {p : Program} {l : Launch} {e : Env} {R : Room} {s : State} {m : MethodId} {args : Array Value} {below : List Frame} {meth : Method} {c : Code} {H : Heap} {locs : List Loc} {cells slots : Nat} {Q : State → Prop}
variable {cc : ByteArray} {nL : Nat} {own : String} {D : va_G} {ca : Nat → ClassId} {A : Nat → Prop} {H0 : Heap} {ad : Nat → Nat → Nat} {v : Nat → Int32} {g : Nat → Nat → Int32} {pc : Nat} {ls : Array Slot} {rest st0 : List Value}
theorem m_geti (E : cx p s m c args cc nL own D ca) (hw : mw D A H0 ca ad v g H locs) {index : Nat} (j : Nat) (hj : j < 33) (h : mInt j = true) (hlink : Cond.fieldLink own index (TX10 j).1 (TX10 j).2.1 (TX10 j).2.2.1 ∈ gw) {x : Int32} (hx : v j = x) (hdg : decode cc pc = .ok (.getfield index, 3))
    (kk : W p l e R s m args below meth c H locs cells slots Q (F0 m (pc + 3) ls (.int x :: rest))) : W p l e R s m args below meth c H locs cells slots Q (F0 m pc ls (.ref (ad 33 0) :: rest)) := by
  subst hx
  exact x_get E hw 33 0 mcnt_33 rfl cl_10 ly_10 j hj hlink (mfl_i hj h) hdg kk
theorem m_getr (E : cx p s m c args cc nL own D ca) (hw : mw D A H0 ca ad v g H locs) {index : Nat} (j : Nat) (hj : j < 33) (h : mInt j = false) (hlink : Cond.fieldLink own index (TX10 j).1 (TX10 j).2.1 (TX10 j).2.2.1 ∈ gw) (hdg : decode cc pc = .ok (.getfield index, 3))
    (kk : W p l e R s m args below meth c H locs cells slots Q (F0 m (pc + 3) ls (.ref (ad j 0) :: rest))) : W p l e R s m args below meth c H locs cells slots Q (F0 m pc ls (.ref (ad 33 0) :: rest)) :=
  x_get E hw 33 0 mcnt_33 rfl cl_10 ly_10 j hj hlink (mfl_r hj h) hdg kk
theorem m_put (E : cx p s m c args cc nL own D ca) (hw : mw D A H0 ca ad v g H locs) {index : Nat} (j : Nat) (hj : j < 33) (h : mInt j = true) (hlink : Cond.fieldLink own index (TX10 j).1 (TX10 j).2.1 (TX10 j).2.2.1 ∈ gw) {x : Int32} (hdg : decode cc pc = .ok (.putfield index, 3))
    (kk : ∀ (H1 : Heap) (locs1 : List Loc), mw D A H0 ca ad (upd v j x) g H1 locs1 → W p l e R s m args below meth c H1 locs1 cells slots Q (F0 m (pc + 3) ls rest)) : W p l e R s m args below meth c H locs cells slots Q (F0 m pc ls (.int x :: .ref (ad 33 0) :: rest)) := by
  refine x_put E hw 33 0 mcnt_33 rfl cl_10 ly_10 tyX10 tyX10_ok nmX10 j hj hlink (Or.inl (TX10_fin j hj h)) (by rw [tyX10_int j hj h]; rfl) (by rw [tyX10_int j hj h]; rfl) (by rw [mfl_len]; exact hj) hdg fun H1 locs1 hw1 => ?_
  refine kk H1 locs1 (hw1.ct fun k i hi => ?_)
  rw [mcnt_0 hi]
  by_cases hk : k = 33
  · subst hk
    rw [upd2_at, mfl_set hj h]; rfl
  · rw [upd2_k _ _ _ _ hk]
    simp [mct, hk]
theorem m_ild (E : cx p s m c args cc nL own D ca) (hw : mw D A H0 ca ad v g H locs) (k : Nat) (hk : k < 33 ∧ mInt k = false ∧ mZ k = false) {x : Int32} (j : Nat) (hx : x = nI j) (hj : j < mlen k) (hdg : decode cc pc = .ok (.iaload, 1))
    (kk : W p l e R s m args below meth c H locs cells slots Q (F0 m (pc + 1) ls (.int (g k j) :: rest))) : W p l e R s m args below meth c H locs cells slots Q (F0 m pc ls (.int x :: .ref (ad k 0) :: rest)) := by
  refine x_ild E hw k 0 (by have : k ≠ 33 := by omega
                            simp [mcnt, hk, this]) (by have : k ≠ 33 := by omega
                                                       simp only [mct, this, hk.2.2, if_false]; rfl) j hx hj (mlen_lt k) hdg kk
theorem m_zld (E : cx p s m c args cc nL own D ca) (hw : mw D A H0 ca ad v g H locs) (k : Nat) (hk : k < 33 ∧ mInt k = false ∧ mZ k = true) {x : Int32} (j : Nat) (hx : x = nI j) (hj : j < mlen k) (hdg : decode cc pc = .ok (.baload, 1))
    (kk : W p l e R s m args below meth c H locs cells slots Q (F0 m (pc + 1) ls (.int (g k j) :: rest))) : W p l e R s m args below meth c H locs cells slots Q (F0 m pc ls (.int x :: .ref (ad k 0) :: rest)) := by
  refine x_zld E hw k 0 (by have : k ≠ 33 := by omega
                            simp [mcnt, hk, this]) (by have : k ≠ 33 := by omega
                                                       simp only [mct, this, hk.2.2, if_false]; rfl) j hx hj (mlen_lt k) hdg kk
theorem m_stct {k : Nat} (hk : k < 33) (j : Nat) (z : Int32) : ∀ k' i, i < mcnt k' → upd2 (mct ca ad v g) k 0 (.inl (ca (if mZ k then 2 else 1), mlen k, .inl (upd (g k) j z))) k' i = mct ca ad v (upd2 g k j z) k' i := by
  intro k' i hi
  rw [mcnt_0 hi]
  by_cases h : k' = k
  · subst h
    have h3 : k' ≠ 33 := by omega
    rw [upd2_at]
    have e : upd (g k') j z = upd2 g k' j z k' := by
      funext b
      simp [upd, upd2]
    simp only [mct, h3, if_false, e]
  · rw [upd2_k _ _ _ _ h]
    have e : upd2 g k j z k' = g k' := by
      funext b
      simp [upd2, h]
    simp only [mct, e]
theorem m_ist (E : cx p s m c args cc nL own D ca) (hw : mw D A H0 ca ad v g H locs) (k : Nat) (hk : k < 33 ∧ mInt k = false ∧ mZ k = false) {x z : Int32} (j : Nat) (hx : x = nI j) (hj : j < mlen k) (hdg : decode cc pc = .ok (.iastore, 1))
    (kk : ∀ (H1 : Heap) (locs1 : List Loc), mw D A H0 ca ad v (upd2 g k j z) H1 locs1 → W p l e R s m args below meth c H1 locs1 cells slots Q (F0 m (pc + 1) ls rest)) : W p l e R s m args below meth c H locs cells slots Q (F0 m pc ls (.int z :: .int x :: .ref (ad k 0) :: rest)) := by
  have h33 : k ≠ 33 := by omega
  refine x_ist E hw k 0 (by simp [mcnt, hk, h33]) (by simp only [mct, h33, hk.2.2, if_false]; rfl) j hx hj (mlen_lt k) hdg fun H1 locs1 hw1 => kk H1 locs1 (hw1.ct ?_)
  have := m_stct (ca := ca) (ad := ad) (v := v) (g := g) hk.1 j z
  rw [hk.2.2] at this
  exact this
theorem m_zst (E : cx p s m c args cc nL own D ca) (hw : mw D A H0 ca ad v g H locs) (k : Nat) (hk : k < 33 ∧ mInt k = false ∧ mZ k = true) {x z : Int32} (j : Nat) (hx : x = nI j) (hj : j < mlen k) (hz : z = 0 ∨ z = 1) (hdg : decode cc pc = .ok (.bastore, 1))
    (kk : ∀ (H1 : Heap) (locs1 : List Loc), mw D A H0 ca ad v (upd2 g k j z) H1 locs1 → W p l e R s m args below meth c H1 locs1 cells slots Q (F0 m (pc + 1) ls rest)) : W p l e R s m args below meth c H locs cells slots Q (F0 m pc ls (.int z :: .int x :: .ref (ad k 0) :: rest)) := by
  have h33 : k ≠ 33 := by omega
  refine x_zst E hw k 0 (by simp [mcnt, hk, h33]) (by simp only [mct, h33, hk.2.2, if_true, if_false]; rfl) j hx hj (mlen_lt k) (x_nar hz) hdg fun H1 locs1 hw1 => kk H1 locs1 (hw1.ct ?_)
  have := m_stct (ca := ca) (ad := ad) (v := v) (g := g) hk.1 j z
  rw [hk.2.2] at this
  exact this
theorem m_recv (E : cx p s m c args cc nL own D ca) (hw : mw D A H0 ca ad v g H locs) : ∃ cell : Cell, H[ad 33 0]? = some cell ∧ cell.vm.isStatics = false ∧ s.vm.findClass "ScrapHouseModel" = some cell.cls := x_recv E hw cl_10 (k := 33) (i := 0) mcnt_33 rfl
/-- behind a call of the reference's own that changes it -/
theorem m_wrote {a : Array Value} {r : Option Value} {v' : Nat → Int32} {g' : Nat → Nat → Int32} {mc ms : Nat} (hw : mw D A H0 ca ad v g H locs) (hr : va_Run p l e R s m args below meth c H locs cells slots mc ms (F0 m pc ls st0) rest (QcM D ca ad (wA mcnt ad H.size) r v' g' a) (wA mcnt ad H.size)) (kk : ∀ (H1 : Heap) (locs1 : List Loc), mw D A H0 ca ad v' g' H1 locs1 → H.size ≤ H1.size → (∀ q : Nat, q < H.size → ¬ wA mcnt ad H.size q → H1[q]? = H[q]?) → W p l e R s m args below meth c H1 locs1 (cells + mc) (slots + ms) Q (F0 m (pc + 3) ls (r.toList ++ rest))) : W p l e R s m args below meth c H locs cells slots Q (F0 m pc ls st0) := by
  refine x_wrote (post := fun w u => w = r ∧ u = (mcnt, ad, mct ca ad v' g')) (mc := mc) (ms := ms) (rest := rest) hw (a := a) (fun T hT X => ?_) (fun w u H1 locs1 hp hw1 hz hk => ?_)
  · obtain ⟨v1, st₀, t, T', L, h0, X', hL, e1, e2, ⟨⟨hv, hq⟩, hF⟩, st⟩ := hr T hT X
    cases hv
    exact ⟨r, st₀, t, T', L, h0, X', hL, e1, e2, ⟨⟨r, (mcnt, ad, mct ca ad v' g'), rfl, ⟨rfl, rfl⟩, hq, fun k i hi => Or.inl ⟨k, i, hi, rfl⟩⟩, hF⟩, st⟩
  · obtain ⟨rfl, rfl⟩ := hp
    exact kk H1 locs1 hw1 hz hk
theorem m_vret (E : cx p s m c args cc nL own D ca) (hr : meth.sig.returnType = none) (hlk : meth.locks = false) {v' : Nat → Int32} {g' : Nat → Nat → Int32} (hw : mw D A s.heap ca ad v g H locs) (hv : v = v') (hg : g = g') (hdg : decode cc pc = .ok (.return_, 1)) : W p l e R s m args below meth c H locs cells slots (MQ below (QcM D ca ad A none v' g') args s cells slots A) (F0 m pc ls []) := by
  subst hv; subst hg
  exact W.vret E.1 E.2.1 hr (fun t ht _ => ⟨⟨rfl, by rw [ht]; exact hw.1⟩, hw.2.2.1.F ht⟩) hw.2.2.1.2.2 hdg
theorem m_iret (E : cx p s m c args cc nL own D ca) (hr : meth.sig.returnType = some .int) (hlk : meth.locks = false) {v' : Nat → Int32} {g' : Nat → Nat → Int32} {x : Int32} {r : Option Value} (hw : mw D A s.heap ca ad v g H locs) (hx : some (.int x) = r) (hv : v = v') (hg : g = g') (hdg : decode cc pc = .ok (.ireturn, 1)) : W p l e R s m args below meth c H locs cells slots (MQ below (QcM D ca ad A r v' g') args s cells slots A) (F0 m pc ls [.int x]) := by
  subst hv; subst hg; subst hx
  exact W.iret E.1 E.2.1 hr (fun t ht _ => ⟨⟨rfl, by rw [ht]; exact hw.1⟩, hw.2.2.1.F ht⟩) hw.2.2.1.2.2 hdg
theorem m_zret (E : cx p s m c args cc nL own D ca) (hr : meth.sig.returnType = some .boolean) (hlk : meth.locks = false) {v' : Nat → Int32} {g' : Nat → Nat → Int32} {x : Int32} {r : Option Value} (hn : x = 0 ∨ x = 1) (hw : mw D A s.heap ca ad v g H locs) (hx : some (.int x) = r) (hv : v = v') (hg : g = g') (hdg : decode cc pc = .ok (.ireturn, 1)) : W p l e R s m args below meth c H locs cells slots (MQ below (QcM D ca ad A r v' g') args s cells slots A) (F0 m pc ls [.int x]) := by
  subst hv; subst hg; subst hx
  exact W.zret E.1 E.2.1 hr (x_nar hn) (fun t ht _ => ⟨⟨rfl, by rw [ht]; exact hw.1⟩, hw.2.2.1.F ht⟩) hw.2.2.1.2.2 hdg
end XM
/-- a truth as an int -/
def bI (q : Prop) [Decidable q] : Int32 := if q then 1 else 0
theorem bI_or (q : Prop) [Decidable q] : bI q = 0 ∨ bI q = 1 := by unfold bI; split <;> simp
theorem bI_0 {q : Prop} [Decidable q] : bI q = 0 ↔ ¬ q := by unfold bI; split <;> simp_all
theorem bI_n0 {q : Prop} [Decidable q] : ¬ bI q = 0 ↔ q := by unfold bI; split <;> simp_all
theorem bI_t {q : Prop} [Decidable q] (h : q) : (1 : Int32) = bI q := (if_pos h).symm
theorem bI_f {q : Prop} [Decidable q] (h : ¬ q) : (0 : Int32) = bI q := (if_neg h).symm
end
