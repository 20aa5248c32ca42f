section
-- ===== PART A: goes FIRST, ahead of the names: the tables' words, and 'selects' of the private methods out of them =====
/-- a private method of a class that the tables say can be made, by its rows of tables_1 -/
def lw_okq (q : MethodName × Nat) : Prop := (q.1.cls ≠ "java/lang/invoke/MethodHandle" ∧ q.1.cls ≠ "java/lang/invoke/VarHandle") ∧ Cond.instantiable q.1.cls q.2 ∈ tables_1 ∧ Cond.privateMethod q.1 ∈ tables_1 ∧ Cond.instanceMethod q.1 ∈ tables_1
theorem lw_p0 : lw_okq (⟨"ScrapHouse", "findBallot", "(I)LScrapHouse$Ballot;"⟩, 12) := ⟨⟨by decide +kernel, by decide +kernel⟩, List.mem_of_getElem? (i := 15) (by decide +kernel), List.mem_of_getElem? (i := 150) (by decide +kernel), List.mem_of_getElem? (i := 151) (by decide +kernel)⟩
theorem lw_p1 : lw_okq (⟨"ScrapHouse", "findNurse", "(I)LScrapHouse$Nurse;"⟩, 12) := ⟨⟨by decide +kernel, by decide +kernel⟩, List.mem_of_getElem? (i := 15) (by decide +kernel), List.mem_of_getElem? (i := 273) (by decide +kernel), List.mem_of_getElem? (i := 274) (by decide +kernel)⟩
theorem lw_p2 : lw_okq (⟨"ScrapHouse", "isOver", "(III)Z"⟩, 12) := ⟨⟨by decide +kernel, by decide +kernel⟩, List.mem_of_getElem? (i := 15) (by decide +kernel), List.mem_of_getElem? (i := 277) (by decide +kernel), List.mem_of_getElem? (i := 278) (by decide +kernel)⟩
theorem lw_p3 : lw_okq (⟨"ScrapHouse", "childrenAt", "(III)I"⟩, 12) := ⟨⟨by decide +kernel, by decide +kernel⟩, List.mem_of_getElem? (i := 15) (by decide +kernel), List.mem_of_getElem? (i := 281) (by decide +kernel), List.mem_of_getElem? (i := 282) (by decide +kernel)⟩
theorem lw_p4 : lw_okq (⟨"ScrapHouse", "findChild", "(I)LScrapHouse$Child;"⟩, 12) := ⟨⟨by decide +kernel, by decide +kernel⟩, List.mem_of_getElem? (i := 15) (by decide +kernel), List.mem_of_getElem? (i := 293) (by decide +kernel), List.mem_of_getElem? (i := 294) (by decide +kernel)⟩
theorem lw_p5 : lw_okq (⟨"ScrapHouse", "isGone", "(LScrapHouse$Child;I)Z"⟩, 12) := ⟨⟨by decide +kernel, by decide +kernel⟩, List.mem_of_getElem? (i := 15) (by decide +kernel), List.mem_of_getElem? (i := 300) (by decide +kernel), List.mem_of_getElem? (i := 301) (by decide +kernel)⟩
theorem lw_p6 : lw_okq (⟨"ScrapHouse", "isPast", "(I)Z"⟩, 12) := ⟨⟨by decide +kernel, by decide +kernel⟩, List.mem_of_getElem? (i := 15) (by decide +kernel), List.mem_of_getElem? (i := 314) (by decide +kernel), List.mem_of_getElem? (i := 315) (by decide +kernel)⟩
theorem lw_p7 : lw_okq (⟨"ScrapHouse", "seenDays", "(ILScrapHouse$Look;III)I"⟩, 12) := ⟨⟨by decide +kernel, by decide +kernel⟩, List.mem_of_getElem? (i := 15) (by decide +kernel), List.mem_of_getElem? (i := 348) (by decide +kernel), List.mem_of_getElem? (i := 349) (by decide +kernel)⟩
theorem lw_p8 : lw_okq (⟨"ScrapHouse", "daysWith", "(IIII)I"⟩, 12) := ⟨⟨by decide +kernel, by decide +kernel⟩, List.mem_of_getElem? (i := 15) (by decide +kernel), List.mem_of_getElem? (i := 352) (by decide +kernel), List.mem_of_getElem? (i := 353) (by decide +kernel)⟩
theorem lw_p9 : lw_okq (⟨"ScrapHouse$Half", "unlike", "(II)I"⟩, 2) := ⟨⟨by decide +kernel, by decide +kernel⟩, List.mem_of_getElem? (i := 182) (by decide +kernel), List.mem_of_getElem? (i := 378) (by decide +kernel), List.mem_of_getElem? (i := 379) (by decide +kernel)⟩
theorem lw_p10 : lw_okq (⟨"ScrapHouse$Reader", "tests", "(I)Z"⟩, 4) := ⟨⟨by decide +kernel, by decide +kernel⟩, List.mem_of_getElem? (i := 45) (by decide +kernel), List.mem_of_getElem? (i := 413) (by decide +kernel), List.mem_of_getElem? (i := 414) (by decide +kernel)⟩
theorem lw_p11 : lw_okq (⟨"ScrapHouse$Reader", "part", "(I)Z"⟩, 4) := ⟨⟨by decide +kernel, by decide +kernel⟩, List.mem_of_getElem? (i := 45) (by decide +kernel), List.mem_of_getElem? (i := 417) (by decide +kernel), List.mem_of_getElem? (i := 418) (by decide +kernel)⟩
theorem lw_p12 : lw_okq (⟨"ScrapHouse$Reader", "unit", "(I)Z"⟩, 4) := ⟨⟨by decide +kernel, by decide +kernel⟩, List.mem_of_getElem? (i := 45) (by decide +kernel), List.mem_of_getElem? (i := 421) (by decide +kernel), List.mem_of_getElem? (i := 422) (by decide +kernel)⟩
theorem lw_p13 : lw_okq (⟨"ScrapHouse$Reader", "next", "()I"⟩, 4) := ⟨⟨by decide +kernel, by decide +kernel⟩, List.mem_of_getElem? (i := 45) (by decide +kernel), List.mem_of_getElem? (i := 425) (by decide +kernel), List.mem_of_getElem? (i := 426) (by decide +kernel)⟩
theorem lw_p14 : lw_okq (⟨"ScrapHouse$Reader", "test", "()Z"⟩, 4) := ⟨⟨by decide +kernel, by decide +kernel⟩, List.mem_of_getElem? (i := 45) (by decide +kernel), List.mem_of_getElem? (i := 434) (by decide +kernel), List.mem_of_getElem? (i := 435) (by decide +kernel)⟩
theorem lw_p15 : lw_okq (⟨"ScrapHouse$Reader", "letterValue", "()I"⟩, 4) := ⟨⟨by decide +kernel, by decide +kernel⟩, List.mem_of_getElem? (i := 45) (by decide +kernel), List.mem_of_getElem? (i := 438) (by decide +kernel), List.mem_of_getElem? (i := 439) (by decide +kernel)⟩
def lw_privs_1 : List (MethodName × Nat) := [(⟨"ScrapHouse", "findBallot", "(I)LScrapHouse$Ballot;"⟩, 12), (⟨"ScrapHouse", "findNurse", "(I)LScrapHouse$Nurse;"⟩, 12), (⟨"ScrapHouse", "isOver", "(III)Z"⟩, 12), (⟨"ScrapHouse", "childrenAt", "(III)I"⟩, 12), (⟨"ScrapHouse", "findChild", "(I)LScrapHouse$Child;"⟩, 12), (⟨"ScrapHouse", "isGone", "(LScrapHouse$Child;I)Z"⟩, 12), (⟨"ScrapHouse", "isPast", "(I)Z"⟩, 12), (⟨"ScrapHouse", "seenDays", "(ILScrapHouse$Look;III)I"⟩, 12), (⟨"ScrapHouse", "daysWith", "(IIII)I"⟩, 12), (⟨"ScrapHouse$Half", "unlike", "(II)I"⟩, 2), (⟨"ScrapHouse$Reader", "tests", "(I)Z"⟩, 4), (⟨"ScrapHouse$Reader", "part", "(I)Z"⟩, 4), (⟨"ScrapHouse$Reader", "unit", "(I)Z"⟩, 4), (⟨"ScrapHouse$Reader", "next", "()I"⟩, 4), (⟨"ScrapHouse$Reader", "test", "()Z"⟩, 4), (⟨"ScrapHouse$Reader", "letterValue", "()I"⟩, 4)]
theorem lw_r1 : ∀ q ∈ lw_privs_1, lw_okq q := List.forall_mem_cons.mpr ⟨lw_p0, List.forall_mem_cons.mpr ⟨lw_p1, List.forall_mem_cons.mpr ⟨lw_p2, List.forall_mem_cons.mpr ⟨lw_p3, List.forall_mem_cons.mpr ⟨lw_p4, List.forall_mem_cons.mpr ⟨lw_p5, List.forall_mem_cons.mpr ⟨lw_p6, List.forall_mem_cons.mpr ⟨lw_p7, List.forall_mem_cons.mpr ⟨lw_p8, List.forall_mem_cons.mpr ⟨lw_p9, List.forall_mem_cons.mpr ⟨lw_p10, List.forall_mem_cons.mpr ⟨lw_p11, List.forall_mem_cons.mpr ⟨lw_p12, List.forall_mem_cons.mpr ⟨lw_p13, List.forall_mem_cons.mpr ⟨lw_p14, List.forall_mem_cons.mpr ⟨lw_p15, fun _ h => absurd h List.not_mem_nil⟩⟩⟩⟩⟩⟩⟩⟩⟩⟩⟩⟩⟩⟩⟩⟩
theorem lw_p16 : lw_okq (⟨"ScrapHouse$Reader", "fail", "()V"⟩, 4) := ⟨⟨by decide +kernel, by decide +kernel⟩, List.mem_of_getElem? (i := 45) (by decide +kernel), List.mem_of_getElem? (i := 442) (by decide +kernel), List.mem_of_getElem? (i := 443) (by decide +kernel)⟩
theorem lw_p17 : lw_okq (⟨"ScrapHouse$Reader", "take", "(C)Z"⟩, 4) := ⟨⟨by decide +kernel, by decide +kernel⟩, List.mem_of_getElem? (i := 45) (by decide +kernel), List.mem_of_getElem? (i := 446) (by decide +kernel), List.mem_of_getElem? (i := 447) (by decide +kernel)⟩
theorem lw_p18 : lw_okq (⟨"ScrapHouse$Reader", "number", "()I"⟩, 4) := ⟨⟨by decide +kernel, by decide +kernel⟩, List.mem_of_getElem? (i := 45) (by decide +kernel), List.mem_of_getElem? (i := 450) (by decide +kernel), List.mem_of_getElem? (i := 451) (by decide +kernel)⟩
theorem lw_p19 : lw_okq (⟨"ScrapHouse", "answerTo", "(LScrapHouse$Claim;)I"⟩, 12) := ⟨⟨by decide +kernel, by decide +kernel⟩, List.mem_of_getElem? (i := 15) (by decide +kernel), List.mem_of_getElem? (i := 489) (by decide +kernel), List.mem_of_getElem? (i := 490) (by decide +kernel)⟩
theorem lw_p20 : lw_okq (⟨"ScrapHouse", "holdsOf", "(LScrapHouse$Child;LScrapHouse$Claim;I)Z"⟩, 12) := ⟨⟨by decide +kernel, by decide +kernel⟩, List.mem_of_getElem? (i := 15) (by decide +kernel), List.mem_of_getElem? (i := 498) (by decide +kernel), List.mem_of_getElem? (i := 499) (by decide +kernel)⟩
theorem lw_p21 : lw_okq (⟨"ScrapHouseModel", "lineOf", "(I)[I"⟩, 33) := ⟨⟨by decide +kernel, by decide +kernel⟩, List.mem_of_getElem? (i := 539) (by decide +kernel), List.mem_of_getElem? (i := 657) (by decide +kernel), List.mem_of_getElem? (i := 658) (by decide +kernel)⟩
theorem lw_p22 : lw_okq (⟨"ScrapHouseModel", "isWoman", "(II)Z"⟩, 33) := ⟨⟨by decide +kernel, by decide +kernel⟩, List.mem_of_getElem? (i := 539) (by decide +kernel), List.mem_of_getElem? (i := 667) (by decide +kernel), List.mem_of_getElem? (i := 668) (by decide +kernel)⟩
theorem lw_p23 : lw_okq (⟨"ScrapHouseModel", "hasRoom", "(III)Z"⟩, 33) := ⟨⟨by decide +kernel, by decide +kernel⟩, List.mem_of_getElem? (i := 539) (by decide +kernel), List.mem_of_getElem? (i := 684) (by decide +kernel), List.mem_of_getElem? (i := 685) (by decide +kernel)⟩
theorem lw_p24 : lw_okq (⟨"ScrapHouseModel", "changesOn", "(I)Z"⟩, 33) := ⟨⟨by decide +kernel, by decide +kernel⟩, List.mem_of_getElem? (i := 539) (by decide +kernel), List.mem_of_getElem? (i := 688) (by decide +kernel), List.mem_of_getElem? (i := 689) (by decide +kernel)⟩
theorem lw_p25 : lw_okq (⟨"ScrapHouseModel", "manyAt", "(III)I"⟩, 33) := ⟨⟨by decide +kernel, by decide +kernel⟩, List.mem_of_getElem? (i := 539) (by decide +kernel), List.mem_of_getElem? (i := 692) (by decide +kernel), List.mem_of_getElem? (i := 693) (by decide +kernel)⟩
theorem lw_p26 : lw_okq (⟨"ScrapHouseModel", "isThere", "(III)Z"⟩, 33) := ⟨⟨by decide +kernel, by decide +kernel⟩, List.mem_of_getElem? (i := 539) (by decide +kernel), List.mem_of_getElem? (i := 696) (by decide +kernel), List.mem_of_getElem? (i := 697) (by decide +kernel)⟩
theorem lw_p27 : lw_okq (⟨"ScrapHouseModel", "where", "(III)I"⟩, 33) := ⟨⟨by decide +kernel, by decide +kernel⟩, List.mem_of_getElem? (i := 539) (by decide +kernel), List.mem_of_getElem? (i := 700) (by decide +kernel), List.mem_of_getElem? (i := 701) (by decide +kernel)⟩
theorem lw_p28 : lw_okq (⟨"ScrapHouseModel", "isChild", "(I)Z"⟩, 33) := ⟨⟨by decide +kernel, by decide +kernel⟩, List.mem_of_getElem? (i := 539) (by decide +kernel), List.mem_of_getElem? (i := 708) (by decide +kernel), List.mem_of_getElem? (i := 709) (by decide +kernel)⟩
theorem lw_p29 : lw_okq (⟨"ScrapHouseModel", "areDays", "(II)Z"⟩, 33) := ⟨⟨by decide +kernel, by decide +kernel⟩, List.mem_of_getElem? (i := 539) (by decide +kernel), List.mem_of_getElem? (i := 716) (by decide +kernel), List.mem_of_getElem? (i := 717) (by decide +kernel)⟩
theorem lw_p30 : lw_okq (⟨"ScrapHouseModel", "areWeeks", "(IIII)Z"⟩, 33) := ⟨⟨by decide +kernel, by decide +kernel⟩, List.mem_of_getElem? (i := 539) (by decide +kernel), List.mem_of_getElem? (i := 732) (by decide +kernel), List.mem_of_getElem? (i := 733) (by decide +kernel)⟩
theorem lw_p31 : lw_okq (⟨"ScrapHouseModel", "daysWith", "(IIIIZ)I"⟩, 33) := ⟨⟨by decide +kernel, by decide +kernel⟩, List.mem_of_getElem? (i := 539) (by decide +kernel), List.mem_of_getElem? (i := 736) (by decide +kernel), List.mem_of_getElem? (i := 737) (by decide +kernel)⟩
def lw_privs_2 : List (MethodName × Nat) := [(⟨"ScrapHouse$Reader", "fail", "()V"⟩, 4), (⟨"ScrapHouse$Reader", "take", "(C)Z"⟩, 4), (⟨"ScrapHouse$Reader", "number", "()I"⟩, 4), (⟨"ScrapHouse", "answerTo", "(LScrapHouse$Claim;)I"⟩, 12), (⟨"ScrapHouse", "holdsOf", "(LScrapHouse$Child;LScrapHouse$Claim;I)Z"⟩, 12), (⟨"ScrapHouseModel", "lineOf", "(I)[I"⟩, 33), (⟨"ScrapHouseModel", "isWoman", "(II)Z"⟩, 33), (⟨"ScrapHouseModel", "hasRoom", "(III)Z"⟩, 33), (⟨"ScrapHouseModel", "changesOn", "(I)Z"⟩, 33), (⟨"ScrapHouseModel", "manyAt", "(III)I"⟩, 33), (⟨"ScrapHouseModel", "isThere", "(III)Z"⟩, 33), (⟨"ScrapHouseModel", "where", "(III)I"⟩, 33), (⟨"ScrapHouseModel", "isChild", "(I)Z"⟩, 33), (⟨"ScrapHouseModel", "areDays", "(II)Z"⟩, 33), (⟨"ScrapHouseModel", "areWeeks", "(IIII)Z"⟩, 33), (⟨"ScrapHouseModel", "daysWith", "(IIIIZ)I"⟩, 33)]
theorem lw_r2 : ∀ q ∈ lw_privs_2, lw_okq q := List.forall_mem_cons.mpr ⟨lw_p16, List.forall_mem_cons.mpr ⟨lw_p17, List.forall_mem_cons.mpr ⟨lw_p18, List.forall_mem_cons.mpr ⟨lw_p19, List.forall_mem_cons.mpr ⟨lw_p20, List.forall_mem_cons.mpr ⟨lw_p21, List.forall_mem_cons.mpr ⟨lw_p22, List.forall_mem_cons.mpr ⟨lw_p23, List.forall_mem_cons.mpr ⟨lw_p24, List.forall_mem_cons.mpr ⟨lw_p25, List.forall_mem_cons.mpr ⟨lw_p26, List.forall_mem_cons.mpr ⟨lw_p27, List.forall_mem_cons.mpr ⟨lw_p28, List.forall_mem_cons.mpr ⟨lw_p29, List.forall_mem_cons.mpr ⟨lw_p30, List.forall_mem_cons.mpr ⟨lw_p31, fun _ h => absurd h List.not_mem_nil⟩⟩⟩⟩⟩⟩⟩⟩⟩⟩⟩⟩⟩⟩⟩⟩
theorem lw_p32 : lw_okq (⟨"ScrapHouseModel", "isSeen", "(III)Z"⟩, 33) := ⟨⟨by decide +kernel, by decide +kernel⟩, List.mem_of_getElem? (i := 539) (by decide +kernel), List.mem_of_getElem? (i := 740) (by decide +kernel), List.mem_of_getElem? (i := 741) (by decide +kernel)⟩
theorem lw_p33 : lw_okq (⟨"ScrapHouseModel", "offOf", "(III)I"⟩, 33) := ⟨⟨by decide +kernel, by decide +kernel⟩, List.mem_of_getElem? (i := 539) (by decide +kernel), List.mem_of_getElem? (i := 753) (by decide +kernel), List.mem_of_getElem? (i := 754) (by decide +kernel)⟩
theorem lw_p34 : lw_okq (⟨"ScrapHouseModel", "offBy", "(IIIZ)I"⟩, 33) := ⟨⟨by decide +kernel, by decide +kernel⟩, List.mem_of_getElem? (i := 539) (by decide +kernel), List.mem_of_getElem? (i := 757) (by decide +kernel), List.mem_of_getElem? (i := 758) (by decide +kernel)⟩
theorem lw_p35 : lw_okq (⟨"ScrapHouseModel", "tests", "()V"⟩, 33) := ⟨⟨by decide +kernel, by decide +kernel⟩, List.mem_of_getElem? (i := 539) (by decide +kernel), List.mem_of_getElem? (i := 776) (by decide +kernel), List.mem_of_getElem? (i := 777) (by decide +kernel)⟩
theorem lw_p36 : lw_okq (⟨"ScrapHouseModel", "part", "()V"⟩, 33) := ⟨⟨by decide +kernel, by decide +kernel⟩, List.mem_of_getElem? (i := 539) (by decide +kernel), List.mem_of_getElem? (i := 780) (by decide +kernel), List.mem_of_getElem? (i := 781) (by decide +kernel)⟩
theorem lw_p37 : lw_okq (⟨"ScrapHouseModel", "unit", "()V"⟩, 33) := ⟨⟨by decide +kernel, by decide +kernel⟩, List.mem_of_getElem? (i := 539) (by decide +kernel), List.mem_of_getElem? (i := 784) (by decide +kernel), List.mem_of_getElem? (i := 785) (by decide +kernel)⟩
theorem lw_p38 : lw_okq (⟨"ScrapHouseModel", "peek", "()I"⟩, 33) := ⟨⟨by decide +kernel, by decide +kernel⟩, List.mem_of_getElem? (i := 539) (by decide +kernel), List.mem_of_getElem? (i := 788) (by decide +kernel), List.mem_of_getElem? (i := 789) (by decide +kernel)⟩
theorem lw_p39 : lw_okq (⟨"ScrapHouseModel", "fail", "()V"⟩, 33) := ⟨⟨by decide +kernel, by decide +kernel⟩, List.mem_of_getElem? (i := 539) (by decide +kernel), List.mem_of_getElem? (i := 792) (by decide +kernel), List.mem_of_getElem? (i := 793) (by decide +kernel)⟩
theorem lw_p40 : lw_okq (⟨"ScrapHouseModel", "say", "(I)V"⟩, 33) := ⟨⟨by decide +kernel, by decide +kernel⟩, List.mem_of_getElem? (i := 539) (by decide +kernel), List.mem_of_getElem? (i := 796) (by decide +kernel), List.mem_of_getElem? (i := 797) (by decide +kernel)⟩
theorem lw_p41 : lw_okq (⟨"ScrapHouseModel", "isOpen", "(I)Z"⟩, 33) := ⟨⟨by decide +kernel, by decide +kernel⟩, List.mem_of_getElem? (i := 539) (by decide +kernel), List.mem_of_getElem? (i := 809) (by decide +kernel), List.mem_of_getElem? (i := 810) (by decide +kernel)⟩
theorem lw_p42 : lw_okq (⟨"ScrapHouseModel", "agreeing", "(IIIII)I"⟩, 33) := ⟨⟨by decide +kernel, by decide +kernel⟩, List.mem_of_getElem? (i := 539) (by decide +kernel), List.mem_of_getElem? (i := 813) (by decide +kernel), List.mem_of_getElem? (i := 814) (by decide +kernel)⟩
theorem lw_p43 : lw_okq (⟨"ScrapHouseModel", "holds", "(IIIII)Z"⟩, 33) := ⟨⟨by decide +kernel, by decide +kernel⟩, List.mem_of_getElem? (i := 539) (by decide +kernel), List.mem_of_getElem? (i := 817) (by decide +kernel), List.mem_of_getElem? (i := 818) (by decide +kernel)⟩
theorem lw_p44 : lw_okq (⟨"ScrapHouseModel", "areBoth", "(II)Z"⟩, 33) := ⟨⟨by decide +kernel, by decide +kernel⟩, List.mem_of_getElem? (i := 539) (by decide +kernel), List.mem_of_getElem? (i := 830) (by decide +kernel), List.mem_of_getElem? (i := 831) (by decide +kernel)⟩
def lw_privs_3 : List (MethodName × Nat) := [(⟨"ScrapHouseModel", "isSeen", "(III)Z"⟩, 33), (⟨"ScrapHouseModel", "offOf", "(III)I"⟩, 33), (⟨"ScrapHouseModel", "offBy", "(IIIZ)I"⟩, 33), (⟨"ScrapHouseModel", "tests", "()V"⟩, 33), (⟨"ScrapHouseModel", "part", "()V"⟩, 33), (⟨"ScrapHouseModel", "unit", "()V"⟩, 33), (⟨"ScrapHouseModel", "peek", "()I"⟩, 33), (⟨"ScrapHouseModel", "fail", "()V"⟩, 33), (⟨"ScrapHouseModel", "say", "(I)V"⟩, 33), (⟨"ScrapHouseModel", "isOpen", "(I)Z"⟩, 33), (⟨"ScrapHouseModel", "agreeing", "(IIIII)I"⟩, 33), (⟨"ScrapHouseModel", "holds", "(IIIII)Z"⟩, 33), (⟨"ScrapHouseModel", "areBoth", "(II)Z"⟩, 33)]
theorem lw_r3 : ∀ q ∈ lw_privs_3, lw_okq q := List.forall_mem_cons.mpr ⟨lw_p32, List.forall_mem_cons.mpr ⟨lw_p33, List.forall_mem_cons.mpr ⟨lw_p34, List.forall_mem_cons.mpr ⟨lw_p35, List.forall_mem_cons.mpr ⟨lw_p36, List.forall_mem_cons.mpr ⟨lw_p37, List.forall_mem_cons.mpr ⟨lw_p38, List.forall_mem_cons.mpr ⟨lw_p39, List.forall_mem_cons.mpr ⟨lw_p40, List.forall_mem_cons.mpr ⟨lw_p41, List.forall_mem_cons.mpr ⟨lw_p42, List.forall_mem_cons.mpr ⟨lw_p43, List.forall_mem_cons.mpr ⟨lw_p44, fun _ h => absurd h List.not_mem_nil⟩⟩⟩⟩⟩⟩⟩⟩⟩⟩⟩⟩⟩
def lw_privs : List (MethodName × Nat) := lw_privs_1 ++ (lw_privs_2 ++ (lw_privs_3))
def lw_tbl : List Cond := k2_sels lw_privs ++ tables_1
theorem lw_privs_ok : ∀ q ∈ lw_privs, lw_okq q := by
  show ∀ q ∈ lw_privs_1 ++ (lw_privs_2 ++ (lw_privs_3)), lw_okq q
  exact List.forall_mem_append.mpr ⟨lw_r1, List.forall_mem_append.mpr ⟨lw_r2, lw_r3⟩⟩
def RX0 : String := "ScrapHouse$Ballot"
def TX0 : u_T := fun k => match k with
  | _ => ("ScrapHouse$Ballot", "has", "[I", true)
def tyX0 : Nat → FieldType := fun k => match k with
  | _ => .array .int
theorem nmX0 : ∀ a, a < 1 → ∀ b, b < 1 → a ≠ b → (TX0 a).2.1 ≠ (TX0 b).2.1 := by decide +kernel
theorem tyX0_ok : ∀ k, k < 1 → parseFieldDescriptor (TX0 k).2.2.1 = some (tyX0 k) := by decide +kernel
abbrev cX0_init : ByteArray := prog_2_method_1_code
def yX0_init : MethodName := ⟨RX0, "<init>", "(IIIJ)V"⟩
abbrev cX0_kindOf : ByteArray := prog_2_method_2_code
def yX0_kindOf : MethodName := ⟨RX0, "kindOf", "(III)I"⟩
abbrev cX0_ballOf : ByteArray := prog_2_method_3_code
def yX0_ballOf : MethodName := ⟨RX0, "ballOf", "(I)I"⟩
abbrev cX0_give : ByteArray := prog_2_method_4_code
def yX0_give : MethodName := ⟨RX0, "give", "(II)V"⟩
abbrev cX0_sendAway : ByteArray := prog_2_method_5_code
def yX0_sendAway : MethodName := ⟨RX0, "sendAway", "(I)I"⟩
def RX1 : String := "ScrapHouse$Child"
def TX1 : u_T := fun k => match k with
  | 0 => ("ScrapHouse$Child", "day", "I", true)
  | 1 => ("ScrapHouse$Child", "sex", "I", true)
  | 2 => ("ScrapHouse$Child", "mark", "I", true)
  | 3 => ("ScrapHouse$Child", "half", "LScrapHouse$Half;", true)
  | 4 => ("ScrapHouse$Child", "ballot", "I", true)
  | 5 => ("ScrapHouse$Child", "woman", "I", true)
  | 6 => ("ScrapHouse$Child", "coming", "LScrapHouse$Move;", true)
  | 7 => ("ScrapHouse$Child", "moveCount", "I", false)
  | 8 => ("ScrapHouse$Child", "mother", "I", false)
  | _ => ("ScrapHouse$Child", "askers", "I", false)
def tyX1 : Nat → FieldType := fun k => match k with
  | 0 => .int
  | 1 => .int
  | 2 => .int
  | 3 => .object "ScrapHouse$Half"
  | 4 => .int
  | 5 => .int
  | 6 => .object "ScrapHouse$Move"
  | 7 => .int
  | 8 => .int
  | _ => .int
theorem nmX1 : ∀ a, a < 10 → ∀ b, b < 10 → a ≠ b → (TX1 a).2.1 ≠ (TX1 b).2.1 := by decide +kernel
theorem tyX1_ok : ∀ k, k < 10 → parseFieldDescriptor (TX1 k).2.2.1 = some (tyX1 k) := by decide +kernel
abbrev cX1_init : ByteArray := prog_3_method_1_code
def yX1_init : MethodName := ⟨RX1, "<init>", "(IIILScrapHouse$Half;II)V"⟩
abbrev cX1_mayAsk : ByteArray := prog_3_method_2_code
def yX1_mayAsk : MethodName := ⟨RX1, "mayAsk", "(I)Z"⟩
abbrev cX1_lastUpTo : ByteArray := prog_3_method_3_code
def yX1_lastUpTo : MethodName := ⟨RX1, "lastUpTo", "(I)LScrapHouse$Move;"⟩
abbrev cX1_placeOn : ByteArray := prog_3_method_4_code
def yX1_placeOn : MethodName := ⟨RX1, "placeOn", "(II)I"⟩
abbrev cX1_daysAt : ByteArray := prog_3_method_5_code
def yX1_daysAt : MethodName := ⟨RX1, "daysAt", "(IIII)I"⟩
def RX2 : String := "ScrapHouse$Claim"
def TX2 : u_T := fun k => match k with
  | 0 => ("ScrapHouse$Claim", "half", "LScrapHouse$Half;", true)
  | 1 => ("ScrapHouse$Claim", "first", "I", true)
  | 2 => ("ScrapHouse$Claim", "last", "I", true)
  | 3 => ("ScrapHouse$Claim", "sex", "I", true)
  | _ => ("ScrapHouse$Claim", "mark", "I", true)
def tyX2 : Nat → FieldType := fun k => match k with
  | 0 => .object "ScrapHouse$Half"
  | 1 => .int
  | 2 => .int
  | 3 => .int
  | _ => .int
theorem nmX2 : ∀ a, a < 5 → ∀ b, b < 5 → a ≠ b → (TX2 a).2.1 ≠ (TX2 b).2.1 := by decide +kernel
theorem tyX2_ok : ∀ k, k < 5 → parseFieldDescriptor (TX2 k).2.2.1 = some (tyX2 k) := by decide +kernel
abbrev cX2_init : ByteArray := prog_4_method_1_code
def yX2_init : MethodName := ⟨RX2, "<init>", "(LScrapHouse$Half;IIII)V"⟩
abbrev cX2_agreeing : ByteArray := prog_4_method_2_code
def yX2_agreeing : MethodName := ⟨RX2, "agreeing", "(LScrapHouse$Child;)I"⟩
abbrev cX2_disagreeing : ByteArray := prog_4_method_3_code
def yX2_disagreeing : MethodName := ⟨RX2, "disagreeing", "(LScrapHouse$Child;)I"⟩
def RX3 : String := "ScrapHouse$Half"
def TX3 : u_T := fun k => match k with
  | 0 => ("ScrapHouse$Half", "edge", "I", true)
  | _ => ("ScrapHouse$Half", "threads", "I", true)
def tyX3 : Nat → FieldType := fun k => match k with
  | 0 => .int
  | _ => .int
theorem nmX3 : ∀ a, a < 2 → ∀ b, b < 2 → a ≠ b → (TX3 a).2.1 ≠ (TX3 b).2.1 := by decide +kernel
theorem tyX3_ok : ∀ k, k < 2 → parseFieldDescriptor (TX3 k).2.2.1 = some (tyX3 k) := by decide +kernel
abbrev cX3_init : ByteArray := prog_5_method_1_code
def yX3_init : MethodName := ⟨RX3, "<init>", "(II)V"⟩
abbrev cX3_canBe : ByteArray := prog_5_method_2_code
def yX3_canBe : MethodName := ⟨RX3, "canBe", "(II)Z"⟩
abbrev cX3_farOff : ByteArray := prog_5_method_3_code
def yX3_farOff : MethodName := ⟨RX3, "farOff", "(LScrapHouse$Half;)I"⟩
abbrev cX3_unlike : ByteArray := prog_5_method_4_code
def yX3_unlike : MethodName := ⟨RX3, "unlike", "(II)I"⟩
abbrev cX3_numberAt : ByteArray := prog_5_method_5_code
def yX3_numberAt : MethodName := ⟨RX3, "numberAt", "(II)I"⟩
abbrev cX3_turn : ByteArray := prog_5_method_6_code
def yX3_turn : MethodName := ⟨RX3, "turn", "(I)I"⟩
def RX4 : String := "ScrapHouse$Look"
def TX4 : u_T := fun k => match k with
  | 0 => ("ScrapHouse$Look", "day", "I", true)
  | _ => ("ScrapHouse$Look", "earlier", "LScrapHouse$Look;", true)
def tyX4 : Nat → FieldType := fun k => match k with
  | 0 => .int
  | _ => .object "ScrapHouse$Look"
theorem nmX4 : ∀ a, a < 2 → ∀ b, b < 2 → a ≠ b → (TX4 a).2.1 ≠ (TX4 b).2.1 := by decide +kernel
theorem tyX4_ok : ∀ k, k < 2 → parseFieldDescriptor (TX4 k).2.2.1 = some (tyX4 k) := by decide +kernel
abbrev cX4_init : ByteArray := prog_6_method_1_code
def yX4_init : MethodName := ⟨RX4, "<init>", "(ILScrapHouse$Look;)V"⟩
def RX5 : String := "ScrapHouse$Move"
def TX5 : u_T := fun k => match k with
  | 0 => ("ScrapHouse$Move", "place", "I", true)
  | 1 => ("ScrapHouse$Move", "from", "I", true)
  | 2 => ("ScrapHouse$Move", "told", "I", true)
  | _ => ("ScrapHouse$Move", "next", "LScrapHouse$Move;", false)
def tyX5 : Nat → FieldType := fun k => match k with
  | 0 => .int
  | 1 => .int
  | 2 => .int
  | _ => .object "ScrapHouse$Move"
theorem nmX5 : ∀ a, a < 4 → ∀ b, b < 4 → a ≠ b → (TX5 a).2.1 ≠ (TX5 b).2.1 := by decide +kernel
theorem tyX5_ok : ∀ k, k < 4 → parseFieldDescriptor (TX5 k).2.2.1 = some (tyX5 k) := by decide +kernel
abbrev cX5_init : ByteArray := prog_7_method_1_code
def yX5_init : MethodName := ⟨RX5, "<init>", "(III)V"⟩
def RX6 : String := "ScrapHouse$Nurse"
def TX6 : u_T := fun k => match k with
  | 0 => ("ScrapHouse$Nurse", "bedCount", "I", false)
  | _ => ("ScrapHouse$Nurse", "latest", "LScrapHouse$Look;", false)
def tyX6 : Nat → FieldType := fun k => match k with
  | 0 => .int
  | _ => .object "ScrapHouse$Look"
theorem nmX6 : ∀ a, a < 2 → ∀ b, b < 2 → a ≠ b → (TX6 a).2.1 ≠ (TX6 b).2.1 := by decide +kernel
theorem tyX6_ok : ∀ k, k < 2 → parseFieldDescriptor (TX6 k).2.2.1 = some (tyX6 k) := by decide +kernel
abbrev cX6_init : ByteArray := prog_8_method_1_code
def yX6_init : MethodName := ⟨RX6, "<init>", "()V"⟩
def RX7 : String := "ScrapHouse$Reader"
def TX7 : u_T := fun k => match k with
  | 0 => ("ScrapHouse$Reader", "values", "[I", true)
  | 1 => ("ScrapHouse$Reader", "text", "LScrapHouse$Text;", false)
  | 2 => ("ScrapHouse$Reader", "at", "I", false)
  | _ => ("ScrapHouse$Reader", "failedAt", "I", false)
def tyX7 : Nat → FieldType := fun k => match k with
  | 0 => .array .int
  | 1 => .object "ScrapHouse$Text"
  | 2 => .int
  | _ => .int
theorem nmX7 : ∀ a, a < 4 → ∀ b, b < 4 → a ≠ b → (TX7 a).2.1 ≠ (TX7 b).2.1 := by decide +kernel
theorem tyX7_ok : ∀ k, k < 4 → parseFieldDescriptor (TX7 k).2.2.1 = some (tyX7 k) := by decide +kernel
abbrev cX7_init : ByteArray := prog_9_method_1_code
def yX7_init : MethodName := ⟨RX7, "<init>", "(LScrapHouse$Text;)V"⟩
abbrev cX7_faultOf : ByteArray := prog_9_method_2_code
def yX7_faultOf : MethodName := ⟨RX7, "faultOf", "(LScrapHouse$Text;)I"⟩
abbrev cX7_holds : ByteArray := prog_9_method_3_code
def yX7_holds : MethodName := ⟨RX7, "holds", "(LScrapHouse$Text;)Z"⟩
abbrev cX7_tests : ByteArray := prog_9_method_4_code
def yX7_tests : MethodName := ⟨RX7, "tests", "(I)Z"⟩
abbrev cX7_part : ByteArray := prog_9_method_5_code
def yX7_part : MethodName := ⟨RX7, "part", "(I)Z"⟩
abbrev cX7_unit : ByteArray := prog_9_method_6_code
def yX7_unit : MethodName := ⟨RX7, "unit", "(I)Z"⟩
abbrev cX7_test : ByteArray := prog_9_method_7_code
def yX7_test : MethodName := ⟨RX7, "test", "()Z"⟩
abbrev cX7_letterValue : ByteArray := prog_9_method_8_code
def yX7_letterValue : MethodName := ⟨RX7, "letterValue", "()I"⟩
abbrev cX7_number : ByteArray := prog_9_method_9_code
def yX7_number : MethodName := ⟨RX7, "number", "()I"⟩
abbrev cX7_isDigit : ByteArray := prog_9_method_10_code
def yX7_isDigit : MethodName := ⟨RX7, "isDigit", "(I)Z"⟩
abbrev cX7_take : ByteArray := prog_9_method_11_code
def yX7_take : MethodName := ⟨RX7, "take", "(C)Z"⟩
abbrev cX7_next : ByteArray := prog_9_method_12_code
def yX7_next : MethodName := ⟨RX7, "next", "()I"⟩
abbrev cX7_fail : ByteArray := prog_9_method_13_code
def yX7_fail : MethodName := ⟨RX7, "fail", "()V"⟩
def RX8 : String := "ScrapHouse$Text"
def TX8 : u_T := fun k => match k with
  | 0 => ("ScrapHouse$Text", "bytes", "[B", true)
  | _ => ("ScrapHouse$Text", "length", "I", false)
def tyX8 : Nat → FieldType := fun k => match k with
  | 0 => .array .byte
  | _ => .int
theorem nmX8 : ∀ a, a < 2 → ∀ b, b < 2 → a ≠ b → (TX8 a).2.1 ≠ (TX8 b).2.1 := by decide +kernel
theorem tyX8_ok : ∀ k, k < 2 → parseFieldDescriptor (TX8 k).2.2.1 = some (tyX8 k) := by decide +kernel
abbrev cX8_init : ByteArray := prog_10_method_1_code
def yX8_init : MethodName := ⟨RX8, "<init>", "()V"⟩
abbrev cX8_add : ByteArray := prog_10_method_2_code
def yX8_add : MethodName := ⟨RX8, "add", "(I)V"⟩
abbrev cX8_byteAt : ByteArray := prog_10_method_3_code
def yX8_byteAt : MethodName := ⟨RX8, "byteAt", "(I)I"⟩
def RX9 : String := "ScrapHouse"
def TX9 : u_T := fun k => match k with
  | 0 => ("ScrapHouse", "now", "I", false)
  | 1 => ("ScrapHouse", "ballotCount", "I", false)
  | 2 => ("ScrapHouse", "childCount", "I", false)
  | 3 => ("ScrapHouse", "moveCount", "I", false)
  | 4 => ("ScrapHouse", "lookCount", "I", false)
  | 5 => ("ScrapHouse", "ruleCount", "I", false)
  | 6 => ("ScrapHouse", "ballots", "[LScrapHouse$Ballot;", true)
  | 7 => ("ScrapHouse", "children", "[LScrapHouse$Child;", true)
  | 8 => ("ScrapHouse", "nurses", "[LScrapHouse$Nurse;", true)
  | 9 => ("ScrapHouse", "tape", "LScrapHouse$Text;", false)
  | 10 => ("ScrapHouse", "inForce", "LScrapHouse$Text;", false)
  | _ => ("ScrapHouse", "reader", "LScrapHouse$Reader;", true)
def tyX9 : Nat → FieldType := fun k => match k with
  | 0 => .int
  | 1 => .int
  | 2 => .int
  | 3 => .int
  | 4 => .int
  | 5 => .int
  | 6 => .array (.object "ScrapHouse$Ballot")
  | 7 => .array (.object "ScrapHouse$Child")
  | 8 => .array (.object "ScrapHouse$Nurse")
  | 9 => .object "ScrapHouse$Text"
  | 10 => .object "ScrapHouse$Text"
  | _ => .object "ScrapHouse$Reader"
theorem nmX9 : ∀ a, a < 12 → ∀ b, b < 12 → a ≠ b → (TX9 a).2.1 ≠ (TX9 b).2.1 := by decide +kernel
theorem tyX9_ok : ∀ k, k < 12 → parseFieldDescriptor (TX9 k).2.2.1 = some (tyX9 k) := by decide +kernel
abbrev cX9_init : ByteArray := prog_1_method_1_code
def yX9_init : MethodName := ⟨RX9, "<init>", "()V"⟩
abbrev cX9_days : ByteArray := prog_1_method_2_code
def yX9_days : MethodName := ⟨RX9, "days", "(I)I"⟩
abbrev cX9_ballot : ByteArray := prog_1_method_3_code
def yX9_ballot : MethodName := ⟨RX9, "ballot", "(IIIJ)I"⟩
abbrev cX9_ball : ByteArray := prog_1_method_4_code
def yX9_ball : MethodName := ⟨RX9, "ball", "(II)I"⟩
abbrev cX9_away : ByteArray := prog_1_method_5_code
def yX9_away : MethodName := ⟨RX9, "away", "(II)I"⟩
abbrev cX9_leave : ByteArray := prog_1_method_6_code
def yX9_leave : MethodName := ⟨RX9, "leave", "(IIIIII)I"⟩
abbrev cX9_beds : ByteArray := prog_1_method_7_code
def yX9_beds : MethodName := ⟨RX9, "beds", "(II)Z"⟩
abbrev cX9_move : ByteArray := prog_1_method_8_code
def yX9_move : MethodName := ⟨RX9, "move", "(III)Z"⟩
abbrev cX9_place : ByteArray := prog_1_method_9_code
def yX9_place : MethodName := ⟨RX9, "place", "(III)I"⟩
abbrev cX9_look : ByteArray := prog_1_method_10_code
def yX9_look : MethodName := ⟨RX9, "look", "(I)Z"⟩
abbrev cX9_many : ByteArray := prog_1_method_11_code
def yX9_many : MethodName := ⟨RX9, "many", "(III)I"⟩
abbrev cX9_pay : ByteArray := prog_1_method_12_code
def yX9_pay : MethodName := ⟨RX9, "pay", "(IIII)I"⟩
abbrev cX9_gap : ByteArray := prog_1_method_13_code
def yX9_gap : MethodName := ⟨RX9, "gap", "(IIII)I"⟩
abbrev cX9_off : ByteArray := prog_1_method_14_code
def yX9_off : MethodName := ⟨RX9, "off", "(III)I"⟩
abbrev cX9_feed : ByteArray := prog_1_method_15_code
def yX9_feed : MethodName := ⟨RX9, "feed", "(I)I"⟩
abbrev cX9_end : ByteArray := prog_1_method_16_code
def yX9_end : MethodName := ⟨RX9, "end", "(I)Z"⟩
abbrev cX9_fault : ByteArray := prog_1_method_17_code
def yX9_fault : MethodName := ⟨RX9, "fault", "()I"⟩
abbrev cX9_rule : ByteArray := prog_1_method_18_code
def yX9_rule : MethodName := ⟨RX9, "rule", "()Z"⟩
abbrev cX9_claim : ByteArray := prog_1_method_19_code
def yX9_claim : MethodName := ⟨RX9, "claim", "(IIIIII)I"⟩
abbrev cX9_name : ByteArray := prog_1_method_20_code
def yX9_name : MethodName := ⟨RX9, "name", "(II)Z"⟩
abbrev cX9_allow : ByteArray := prog_1_method_21_code
def yX9_allow : MethodName := ⟨RX9, "allow", "(IIZ)Z"⟩
abbrev cX9_ask : ByteArray := prog_1_method_22_code
def yX9_ask : MethodName := ⟨RX9, "ask", "(II)I"⟩
abbrev cX9_guess : ByteArray := prog_1_method_23_code
def yX9_guess : MethodName := ⟨RX9, "guess", "(III)I"⟩
abbrev cX9_told : ByteArray := prog_1_method_24_code
def yX9_told : MethodName := ⟨RX9, "told", "(II)I"⟩
abbrev cX9_count : ByteArray := prog_1_method_25_code
def yX9_count : MethodName := ⟨RX9, "count", "(I)I"⟩
abbrev cX9_within : ByteArray := prog_1_method_26_code
def yX9_within : MethodName := ⟨RX9, "within", "(III)Z"⟩
abbrev cX9_isPlace : ByteArray := prog_1_method_27_code
def yX9_isPlace : MethodName := ⟨RX9, "isPlace", "(I)Z"⟩
abbrev cX9_isWho : ByteArray := prog_1_method_28_code
def yX9_isWho : MethodName := ⟨RX9, "isWho", "(I)Z"⟩
abbrev cX9_areWeeks : ByteArray := prog_1_method_29_code
def yX9_areWeeks : MethodName := ⟨RX9, "areWeeks", "(II)Z"⟩
abbrev cX9_isPast : ByteArray := prog_1_method_30_code
def yX9_isPast : MethodName := ⟨RX9, "isPast", "(I)Z"⟩
abbrev cX9_findBallot : ByteArray := prog_1_method_31_code
def yX9_findBallot : MethodName := ⟨RX9, "findBallot", "(I)LScrapHouse$Ballot;"⟩
abbrev cX9_findChild : ByteArray := prog_1_method_32_code
def yX9_findChild : MethodName := ⟨RX9, "findChild", "(I)LScrapHouse$Child;"⟩
abbrev cX9_findNurse : ByteArray := prog_1_method_33_code
def yX9_findNurse : MethodName := ⟨RX9, "findNurse", "(I)LScrapHouse$Nurse;"⟩
abbrev cX9_isGone : ByteArray := prog_1_method_34_code
def yX9_isGone : MethodName := ⟨RX9, "isGone", "(LScrapHouse$Child;I)Z"⟩
abbrev cX9_childrenAt : ByteArray := prog_1_method_35_code
def yX9_childrenAt : MethodName := ⟨RX9, "childrenAt", "(III)I"⟩
abbrev cX9_isOver : ByteArray := prog_1_method_36_code
def yX9_isOver : MethodName := ⟨RX9, "isOver", "(III)Z"⟩
abbrev cX9_daysWith : ByteArray := prog_1_method_37_code
def yX9_daysWith : MethodName := ⟨RX9, "daysWith", "(IIII)I"⟩
abbrev cX9_seenDays : ByteArray := prog_1_method_38_code
def yX9_seenDays : MethodName := ⟨RX9, "seenDays", "(ILScrapHouse$Look;III)I"⟩
abbrev cX9_answerTo : ByteArray := prog_1_method_39_code
def yX9_answerTo : MethodName := ⟨RX9, "answerTo", "(LScrapHouse$Claim;)I"⟩
abbrev cX9_holdsOf : ByteArray := prog_1_method_40_code
def yX9_holdsOf : MethodName := ⟨RX9, "holdsOf", "(LScrapHouse$Child;LScrapHouse$Claim;I)Z"⟩
def RX10 : String := "ScrapHouseModel"
def TX10 : u_T := fun k => match k with
  | 0 => ("ScrapHouseModel", "now", "I", false)
  | 1 => ("ScrapHouseModel", "ballots", "I", false)
  | 2 => ("ScrapHouseModel", "children", "I", false)
  | 3 => ("ScrapHouseModel", "moves", "I", false)
  | 4 => ("ScrapHouseModel", "looks", "I", false)
  | 5 => ("ScrapHouseModel", "rules", "I", false)
  | 6 => ("ScrapHouseModel", "women", "[I", true)
  | 7 => ("ScrapHouseModel", "ball", "[I", true)
  | 8 => ("ScrapHouseModel", "line", "[I", true)
  | 9 => ("ScrapHouseModel", "born", "[I", true)
  | 10 => ("ScrapHouseModel", "sex", "[I", true)
  | 11 => ("ScrapHouseModel", "mark", "[I", true)
  | 12 => ("ScrapHouseModel", "edge", "[I", true)
  | 13 => ("ScrapHouseModel", "threads", "[I", true)
  | 14 => ("ScrapHouseModel", "ofBallot", "[I", true)
  | 15 => ("ScrapHouseModel", "ofWoman", "[I", true)
  | 16 => ("ScrapHouseModel", "number", "[I", true)
  | 17 => ("ScrapHouseModel", "may", "[Z", true)
  | 18 => ("ScrapHouseModel", "moved", "[I", true)
  | 19 => ("ScrapHouseModel", "movePlace", "[I", true)
  | 20 => ("ScrapHouseModel", "moveFrom", "[I", true)
  | 21 => ("ScrapHouseModel", "moveTold", "[I", true)
  | 22 => ("ScrapHouseModel", "beds", "[I", true)
  | 23 => ("ScrapHouseModel", "looked", "[Z", true)
  | 24 => ("ScrapHouseModel", "tape", "[I", true)
  | 25 => ("ScrapHouseModel", "codes", "[I", true)
  | 26 => ("ScrapHouseModel", "saying", "[I", true)
  | 27 => ("ScrapHouseModel", "size", "I", false)
  | 28 => ("ScrapHouseModel", "at", "I", false)
  | 29 => ("ScrapHouseModel", "wrong", "I", false)
  | 30 => ("ScrapHouseModel", "deep", "I", false)
  | 31 => ("ScrapHouseModel", "said", "I", false)
  | _ => ("ScrapHouseModel", "pile", "[Z", true)
def tyX10 : Nat → FieldType := fun k => match k with
  | 0 => .int
  | 1 => .int
  | 2 => .int
  | 3 => .int
  | 4 => .int
  | 5 => .int
  | 6 => .array .int
  | 7 => .array .int
  | 8 => .array .int
  | 9 => .array .int
  | 10 => .array .int
  | 11 => .array .int
  | 12 => .array .int
  | 13 => .array .int
  | 14 => .array .int
  | 15 => .array .int
  | 16 => .array .int
  | 17 => .array .boolean
  | 18 => .array .int
  | 19 => .array .int
  | 20 => .array .int
  | 21 => .array .int
  | 22 => .array .int
  | 23 => .array .boolean
  | 24 => .array .int
  | 25 => .array .int
  | 26 => .array .int
  | 27 => .int
  | 28 => .int
  | 29 => .int
  | 30 => .int
  | 31 => .int
  | _ => .array .boolean
theorem nmX10 : ∀ a, a < 33 → ∀ b, b < 33 → a ≠ b → (TX10 a).2.1 ≠ (TX10 b).2.1 := by decide +kernel
theorem tyX10_ok : ∀ k, k < 33 → parseFieldDescriptor (TX10 k).2.2.1 = some (tyX10 k) := by decide +kernel
abbrev cX10_in : ByteArray := prog_12_method_1_code
def yX10_in : MethodName := ⟨RX10, "in", "(III)Z"⟩
abbrev cX10_init : ByteArray := prog_12_method_2_code
def yX10_init : MethodName := ⟨RX10, "<init>", "()V"⟩
abbrev cX10_days : ByteArray := prog_12_method_3_code
def yX10_days : MethodName := ⟨RX10, "days", "(I)I"⟩
abbrev cX10_ballot : ByteArray := prog_12_method_4_code
def yX10_ballot : MethodName := ⟨RX10, "ballot", "(IIIJ)I"⟩
abbrev cX10_lineOf : ByteArray := prog_12_method_5_code
def yX10_lineOf : MethodName := ⟨RX10, "lineOf", "(I)[I"⟩
abbrev cX10_isWoman : ByteArray := prog_12_method_6_code
def yX10_isWoman : MethodName := ⟨RX10, "isWoman", "(II)Z"⟩
abbrev cX10_ball : ByteArray := prog_12_method_7_code
def yX10_ball : MethodName := ⟨RX10, "ball", "(II)I"⟩
abbrev cX10_away : ByteArray := prog_12_method_8_code
def yX10_away : MethodName := ⟨RX10, "away", "(II)I"⟩
abbrev cX10_leave : ByteArray := prog_12_method_9_code
def yX10_leave : MethodName := ⟨RX10, "leave", "(IIIIII)I"⟩
abbrev cX10_isChild : ByteArray := prog_12_method_10_code
def yX10_isChild : MethodName := ⟨RX10, "isChild", "(I)Z"⟩
abbrev cX10_where : ByteArray := prog_12_method_11_code
def yX10_where : MethodName := ⟨RX10, "where", "(III)I"⟩
abbrev cX10_isThere : ByteArray := prog_12_method_12_code
def yX10_isThere : MethodName := ⟨RX10, "isThere", "(III)Z"⟩
abbrev cX10_manyAt : ByteArray := prog_12_method_13_code
def yX10_manyAt : MethodName := ⟨RX10, "manyAt", "(III)I"⟩
abbrev cX10_hasRoom : ByteArray := prog_12_method_14_code
def yX10_hasRoom : MethodName := ⟨RX10, "hasRoom", "(III)Z"⟩
abbrev cX10_changesOn : ByteArray := prog_12_method_15_code
def yX10_changesOn : MethodName := ⟨RX10, "changesOn", "(I)Z"⟩
abbrev cX10_beds : ByteArray := prog_12_method_16_code
def yX10_beds : MethodName := ⟨RX10, "beds", "(II)Z"⟩
abbrev cX10_move : ByteArray := prog_12_method_17_code
def yX10_move : MethodName := ⟨RX10, "move", "(III)Z"⟩
abbrev cX10_areDays : ByteArray := prog_12_method_18_code
def yX10_areDays : MethodName := ⟨RX10, "areDays", "(II)Z"⟩
abbrev cX10_place : ByteArray := prog_12_method_19_code
def yX10_place : MethodName := ⟨RX10, "place", "(III)I"⟩
abbrev cX10_many : ByteArray := prog_12_method_20_code
def yX10_many : MethodName := ⟨RX10, "many", "(III)I"⟩
abbrev cX10_look : ByteArray := prog_12_method_21_code
def yX10_look : MethodName := ⟨RX10, "look", "(I)Z"⟩
abbrev cX10_isSeen : ByteArray := prog_12_method_22_code
def yX10_isSeen : MethodName := ⟨RX10, "isSeen", "(III)Z"⟩
abbrev cX10_daysWith : ByteArray := prog_12_method_23_code
def yX10_daysWith : MethodName := ⟨RX10, "daysWith", "(IIIIZ)I"⟩
abbrev cX10_areWeeks : ByteArray := prog_12_method_24_code
def yX10_areWeeks : MethodName := ⟨RX10, "areWeeks", "(IIII)Z"⟩
abbrev cX10_pay : ByteArray := prog_12_method_25_code
def yX10_pay : MethodName := ⟨RX10, "pay", "(IIII)I"⟩
abbrev cX10_gap : ByteArray := prog_12_method_26_code
def yX10_gap : MethodName := ⟨RX10, "gap", "(IIII)I"⟩
abbrev cX10_third : ByteArray := prog_12_method_27_code
def yX10_third : MethodName := ⟨RX10, "third", "(II)I"⟩
abbrev cX10_offBy : ByteArray := prog_12_method_28_code
def yX10_offBy : MethodName := ⟨RX10, "offBy", "(IIIZ)I"⟩
abbrev cX10_offOf : ByteArray := prog_12_method_29_code
def yX10_offOf : MethodName := ⟨RX10, "offOf", "(III)I"⟩
abbrev cX10_off : ByteArray := prog_12_method_30_code
def yX10_off : MethodName := ⟨RX10, "off", "(III)I"⟩
abbrev cX10_feed : ByteArray := prog_12_method_31_code
def yX10_feed : MethodName := ⟨RX10, "feed", "(I)I"⟩
abbrev cX10_end : ByteArray := prog_12_method_32_code
def yX10_end : MethodName := ⟨RX10, "end", "(I)Z"⟩
abbrev cX10_peek : ByteArray := prog_12_method_33_code
def yX10_peek : MethodName := ⟨RX10, "peek", "()I"⟩
abbrev cX10_fail : ByteArray := prog_12_method_34_code
def yX10_fail : MethodName := ⟨RX10, "fail", "()V"⟩
abbrev cX10_say : ByteArray := prog_12_method_35_code
def yX10_say : MethodName := ⟨RX10, "say", "(I)V"⟩
abbrev cX10_unit : ByteArray := prog_12_method_36_code
def yX10_unit : MethodName := ⟨RX10, "unit", "()V"⟩
abbrev cX10_part : ByteArray := prog_12_method_37_code
def yX10_part : MethodName := ⟨RX10, "part", "()V"⟩
abbrev cX10_tests : ByteArray := prog_12_method_38_code
def yX10_tests : MethodName := ⟨RX10, "tests", "()V"⟩
abbrev cX10_fault : ByteArray := prog_12_method_39_code
def yX10_fault : MethodName := ⟨RX10, "fault", "()I"⟩
abbrev cX10_rule : ByteArray := prog_12_method_40_code
def yX10_rule : MethodName := ⟨RX10, "rule", "()Z"⟩
abbrev cX10_holds : ByteArray := prog_12_method_41_code
def yX10_holds : MethodName := ⟨RX10, "holds", "(IIIII)Z"⟩
abbrev cX10_isOpen : ByteArray := prog_12_method_42_code
def yX10_isOpen : MethodName := ⟨RX10, "isOpen", "(I)Z"⟩
abbrev cX10_agreeing : ByteArray := prog_12_method_43_code
def yX10_agreeing : MethodName := ⟨RX10, "agreeing", "(IIIII)I"⟩
abbrev cX10_claim : ByteArray := prog_12_method_44_code
def yX10_claim : MethodName := ⟨RX10, "claim", "(IIIIII)I"⟩
abbrev cX10_name : ByteArray := prog_12_method_45_code
def yX10_name : MethodName := ⟨RX10, "name", "(II)Z"⟩
abbrev cX10_areBoth : ByteArray := prog_12_method_46_code
def yX10_areBoth : MethodName := ⟨RX10, "areBoth", "(II)Z"⟩
abbrev cX10_allow : ByteArray := prog_12_method_47_code
def yX10_allow : MethodName := ⟨RX10, "allow", "(IIZ)Z"⟩
abbrev cX10_ask : ByteArray := prog_12_method_48_code
def yX10_ask : MethodName := ⟨RX10, "ask", "(II)I"⟩
abbrev cX10_guess : ByteArray := prog_12_method_49_code
def yX10_guess : MethodName := ⟨RX10, "guess", "(III)I"⟩
abbrev cX10_told : ByteArray := prog_12_method_50_code
def yX10_told : MethodName := ⟨RX10, "told", "(II)I"⟩
abbrev cX10_count : ByteArray := prog_12_method_51_code
def yX10_count : MethodName := ⟨RX10, "count", "(I)I"⟩
def RJ9 : String := "java/lang/Math"
def TJ9 : u_T := fun k => match k with
  | _ => ("", "", "", false)
def tyJ9 : Nat → FieldType := fun k => match k with
  | _ => .int
theorem nmJ9 : ∀ a, a < 0 → ∀ b, b < 0 → a ≠ b → (TJ9 a).2.1 ≠ (TJ9 b).2.1 := by decide +kernel
theorem tyJ9_ok : ∀ k, k < 0 → parseFieldDescriptor (TJ9 k).2.2.1 = some (tyJ9 k) := by decide +kernel
abbrev cJ9_max_7cf53 : ByteArray := prog_13_method_65_code
def yJ9_max_7cf53 : MethodName := ⟨RJ9, "max", "(II)I"⟩
abbrev cJ9_min_7cf53 : ByteArray := prog_13_method_69_code
def yJ9_min_7cf53 : MethodName := ⟨RJ9, "min", "(II)I"⟩
def RJ10 : String := "java/lang/System"
def TJ10 : u_T := fun k => match k with
  | _ => ("", "", "", false)
def tyJ10 : Nat → FieldType := fun k => match k with
  | _ => .int
theorem nmJ10 : ∀ a, a < 0 → ∀ b, b < 0 → a ≠ b → (TJ10 a).2.1 ≠ (TJ10 b).2.1 := by decide +kernel
theorem tyJ10_ok : ∀ k, k < 0 → parseFieldDescriptor (TJ10 k).2.2.1 = some (tyJ10 k) := by decide +kernel
def RL : String := "ScrapHouseLaw"
abbrev cL_law : ByteArray := code
def yL_law : MethodName := ⟨RL, "law", "([I)Z"⟩
abbrev vwCl : List vw_C := [(RX0, TX0, 1), (RX1, TX1, 10), (RX2, TX2, 5), (RX3, TX3, 2), (RX4, TX4, 2), (RX5, TX5, 4), (RX6, TX6, 2), (RX7, TX7, 4), (RX8, TX8, 2), (RX9, TX9, 12), (RX10, TX10, 33)]
def gw : List Cond := lw_tbl.filter goodWord
theorem gw_in {w : Cond} (h : w ∈ tables_1) (hg : goodWord w = true) : w ∈ gw := List.mem_filter.mpr ⟨List.mem_append_right _ h, hg⟩
theorem gw_sel {q : MethodName × Nat} (h : q ∈ lw_privs) : Cond.selects q.1.cls q.1 q.1 ∈ gw := List.mem_filter.mpr ⟨List.mem_append_left _ (List.mem_map.mpr ⟨q, h, rfl⟩), rfl⟩
theorem gw_in1 {w : Cond} (h : w ∈ tables_1_1) (hg : goodWord w = true) : w ∈ gw := gw_in (List.mem_append_left _ h) hg
theorem gw_in2 {w : Cond} (h : w ∈ tables_1_2) (hg : goodWord w = true) : w ∈ gw := gw_in (List.mem_append_right _ (List.mem_append_left _ h)) hg
theorem gw_in3 {w : Cond} (h : w ∈ tables_1_3) (hg : goodWord w = true) : w ∈ gw := gw_in (List.mem_append_right _ (List.mem_append_right _ (List.mem_append_left _ h))) hg
theorem gw_in4 {w : Cond} (h : w ∈ tables_1_4) (hg : goodWord w = true) : w ∈ gw := gw_in (List.mem_append_right _ (List.mem_append_right _ (List.mem_append_right _ h))) hg
end
section
theorem tw_0 : (Jvm.Cond.initialized "ScrapHouseLaw") ∈ gw := gw_in1 (List.mem_of_getElem? (i := 0) (by decide +kernel)) rfl
theorem tw_1 : (Jvm.Cond.initialized "ScrapHouse") ∈ gw := gw_in1 (List.mem_of_getElem? (i := 1) (by decide +kernel)) rfl
theorem tw_2 : (Jvm.Cond.initialized "ScrapHouse$Text") ∈ gw := gw_in1 (List.mem_of_getElem? (i := 2) (by decide +kernel)) rfl
theorem tw_3 : (Jvm.Cond.initialized "ScrapHouse$Reader") ∈ gw := gw_in1 (List.mem_of_getElem? (i := 3) (by decide +kernel)) rfl
theorem tw_4 : (Jvm.Cond.initialized "ScrapHouse$Nurse") ∈ gw := gw_in1 (List.mem_of_getElem? (i := 4) (by decide +kernel)) rfl
theorem tw_5 : (Jvm.Cond.initialized "ScrapHouseModel") ∈ gw := gw_in1 (List.mem_of_getElem? (i := 5) (by decide +kernel)) rfl
theorem tw_6 : (Jvm.Cond.initialized "ScrapHouse$Ballot") ∈ gw := gw_in1 (List.mem_of_getElem? (i := 6) (by decide +kernel)) rfl
theorem tw_7 : (Jvm.Cond.initialized "java/lang/System") ∈ gw := gw_in1 (List.mem_of_getElem? (i := 7) (by decide +kernel)) rfl
theorem tw_8 : (Jvm.Cond.initialized "ScrapHouse$Half") ∈ gw := gw_in1 (List.mem_of_getElem? (i := 8) (by decide +kernel)) rfl
theorem tw_9 : (Jvm.Cond.initialized "ScrapHouse$Child") ∈ gw := gw_in1 (List.mem_of_getElem? (i := 9) (by decide +kernel)) rfl
theorem tw_10 : (Jvm.Cond.initialized "ScrapHouse$Move") ∈ gw := gw_in1 (List.mem_of_getElem? (i := 10) (by decide +kernel)) rfl
theorem tw_11 : (Jvm.Cond.initialized "ScrapHouse$Look") ∈ gw := gw_in1 (List.mem_of_getElem? (i := 11) (by decide +kernel)) rfl
theorem tw_12 : (Jvm.Cond.initialized "java/lang/Math") ∈ gw := gw_in1 (List.mem_of_getElem? (i := 12) (by decide +kernel)) rfl
theorem tw_13 : (Jvm.Cond.initialized "ScrapHouse$Claim") ∈ gw := gw_in1 (List.mem_of_getElem? (i := 13) (by decide +kernel)) rfl
theorem tw_14 : (Jvm.Cond.classLink "ScrapHouseLaw" (7 : Nat) "ScrapHouse") ∈ gw := gw_in1 (List.mem_of_getElem? (i := 14) (by decide +kernel)) rfl
theorem tw_15 : (Jvm.Cond.instantiable "ScrapHouse" (12 : Nat)) ∈ gw := gw_in1 (List.mem_of_getElem? (i := 15) (by decide +kernel)) rfl
theorem tw_16 : (Jvm.Cond.methodLink "ScrapHouseLaw" (9 : Nat) ({ cls := "ScrapHouse", name := "<init>", desc := "()V" } : Jvm.MethodName)) ∈ gw := gw_in1 (List.mem_of_getElem? (i := 16) (by decide +kernel)) rfl
theorem tw_17 : (Jvm.Cond.instanceMethod ({ cls := "ScrapHouse", name := "<init>", desc := "()V" } : Jvm.MethodName)) ∈ gw := gw_in1 (List.mem_of_getElem? (i := 17) (by decide +kernel)) rfl
theorem tw_18 : (Jvm.Cond.code ({ cls := "ScrapHouse", name := "<init>", desc := "()V" } : Jvm.MethodName) prog_1_method_1_code (2 : Nat) (Option.none : Option Jvm.ClassFile.FieldType)) ∈ gw := gw_in1 (List.mem_of_getElem? (i := 18) (rfl)) rfl
theorem tw_19 : (Jvm.Cond.methodLink "ScrapHouse" (1 : Nat) ({ cls := "java/lang/Object", name := "<init>", desc := "()V" } : Jvm.MethodName)) ∈ gw := gw_in1 (List.mem_of_getElem? (i := 19) (by decide +kernel)) rfl
theorem tw_20 : (Jvm.Cond.instanceMethod ({ cls := "java/lang/Object", name := "<init>", desc := "()V" } : Jvm.MethodName)) ∈ gw := gw_in1 (List.mem_of_getElem? (i := 20) (by decide +kernel)) rfl
theorem tw_21 : (Jvm.Cond.code ({ cls := "java/lang/Object", name := "<init>", desc := "()V" } : Jvm.MethodName) object_method_1_code (1 : Nat) (Option.none : Option Jvm.ClassFile.FieldType)) ∈ gw := gw_in1 (List.mem_of_getElem? (i := 21) (rfl)) rfl
theorem tw_22 : (Jvm.Cond.classLink "ScrapHouse" (9 : Nat) "ScrapHouse$Ballot") ∈ gw := gw_in1 (List.mem_of_getElem? (i := 22) (by decide +kernel)) rfl
theorem tw_24 : (Jvm.Cond.classLink "ScrapHouse" (15 : Nat) "ScrapHouse$Child") ∈ gw := gw_in1 (List.mem_of_getElem? (i := 24) (by decide +kernel)) rfl
theorem tw_26 : (Jvm.Cond.classLink "ScrapHouse" (21 : Nat) "ScrapHouse$Nurse") ∈ gw := gw_in1 (List.mem_of_getElem? (i := 26) (by decide +kernel)) rfl
theorem tw_28 : (Jvm.Cond.classLink "ScrapHouse" (27 : Nat) "ScrapHouse$Text") ∈ gw := gw_in1 (List.mem_of_getElem? (i := 28) (by decide +kernel)) rfl
theorem tw_29 : (Jvm.Cond.instantiable "ScrapHouse$Text" (2 : Nat)) ∈ gw := gw_in1 (List.mem_of_getElem? (i := 29) (by decide +kernel)) rfl
theorem tw_31 : (Jvm.Cond.instanceMethod ({ cls := "ScrapHouse$Text", name := "<init>", desc := "()V" } : Jvm.MethodName)) ∈ gw := gw_in1 (List.mem_of_getElem? (i := 31) (by decide +kernel)) rfl
theorem tw_32 : (Jvm.Cond.code ({ cls := "ScrapHouse$Text", name := "<init>", desc := "()V" } : Jvm.MethodName) prog_10_method_1_code (1 : Nat) (Option.none : Option Jvm.ClassFile.FieldType)) ∈ gw := gw_in1 (List.mem_of_getElem? (i := 32) (rfl)) rfl
theorem tw_33 : (Jvm.Cond.methodLink "ScrapHouse$Text" (3 : Nat) ({ cls := "java/lang/Object", name := "<init>", desc := "()V" } : Jvm.MethodName)) ∈ gw := gw_in1 (List.mem_of_getElem? (i := 33) (by decide +kernel)) rfl
theorem tw_34 : (Jvm.Cond.fieldLink "ScrapHouse$Text" (9 : Nat) "ScrapHouse$Text" "bytes" "[B") ∈ gw := gw_in1 (List.mem_of_getElem? (i := 34) (by decide +kernel)) rfl
theorem tw_35 : (Jvm.Cond.fieldLink "ScrapHouse$Text" (15 : Nat) "ScrapHouse$Text" "length" "I") ∈ gw := gw_in1 (List.mem_of_getElem? (i := 35) (by decide +kernel)) rfl
theorem tw_36 : (Jvm.Cond.fieldLink "ScrapHouse$Reader" (78 : Nat) "ScrapHouse$Text" "length" "I") ∈ gw := gw_in1 (List.mem_of_getElem? (i := 36) (by decide +kernel)) rfl
theorem tw_37 : (Jvm.Cond.fieldLink "ScrapHouse" (175 : Nat) "ScrapHouse$Text" "length" "I") ∈ gw := gw_in1 (List.mem_of_getElem? (i := 37) (by decide +kernel)) rfl
theorem tw_38 : (Jvm.Cond.laysFinal "ScrapHouse$Text" "ScrapHouse$Text" "bytes" "[B") ∈ gw := gw_in1 (List.mem_of_getElem? (i := 38) (by decide +kernel)) rfl
theorem tw_40 : (Jvm.Cond.lays "ScrapHouse$Text" "ScrapHouse$Text" "length" "I") ∈ gw := gw_in1 (List.mem_of_getElem? (i := 40) (by decide +kernel)) rfl
theorem tw_43 : (Jvm.Cond.arrayClass Jvm.ClassFile.FieldType.byte) ∈ gw := gw_in1 (List.mem_of_getElem? (i := 43) (by decide +kernel)) rfl
theorem tw_44 : (Jvm.Cond.classLink "ScrapHouse" (37 : Nat) "ScrapHouse$Reader") ∈ gw := gw_in1 (List.mem_of_getElem? (i := 44) (by decide +kernel)) rfl
theorem tw_45 : (Jvm.Cond.instantiable "ScrapHouse$Reader" (4 : Nat)) ∈ gw := gw_in1 (List.mem_of_getElem? (i := 45) (by decide +kernel)) rfl
theorem tw_46 : (Jvm.Cond.methodLink "ScrapHouse" (39 : Nat) ({ cls := "ScrapHouse$Reader", name := "<init>", desc := "(LScrapHouse$Text;)V" } : Jvm.MethodName)) ∈ gw := gw_in1 (List.mem_of_getElem? (i := 46) (by decide +kernel)) rfl
theorem tw_47 : (Jvm.Cond.instanceMethod ({ cls := "ScrapHouse$Reader", name := "<init>", desc := "(LScrapHouse$Text;)V" } : Jvm.MethodName)) ∈ gw := gw_in1 (List.mem_of_getElem? (i := 47) (by decide +kernel)) rfl
theorem tw_48 : (Jvm.Cond.code ({ cls := "ScrapHouse$Reader", name := "<init>", desc := "(LScrapHouse$Text;)V" } : Jvm.MethodName) prog_9_method_1_code (2 : Nat) (Option.none : Option Jvm.ClassFile.FieldType)) ∈ gw := gw_in1 (List.mem_of_getElem? (i := 48) (rfl)) rfl
theorem tw_49 : (Jvm.Cond.methodLink "ScrapHouse$Reader" (3 : Nat) ({ cls := "java/lang/Object", name := "<init>", desc := "()V" } : Jvm.MethodName)) ∈ gw := gw_in1 (List.mem_of_getElem? (i := 49) (by decide +kernel)) rfl
theorem tw_50 : (Jvm.Cond.fieldLink "ScrapHouse$Reader" (9 : Nat) "ScrapHouse$Reader" "LETTERS" "[C") ∈ gw := gw_in1 (List.mem_of_getElem? (i := 50) (by decide +kernel)) rfl
theorem tw_52 : (Jvm.Cond.fieldLink "ScrapHouse$Reader" (15 : Nat) "ScrapHouse$Reader" "values" "[I") ∈ gw := gw_in1 (List.mem_of_getElem? (i := 52) (by decide +kernel)) rfl
theorem tw_53 : (Jvm.Cond.fieldLink "ScrapHouse" (257 : Nat) "ScrapHouse$Reader" "values" "[I") ∈ gw := gw_in1 (List.mem_of_getElem? (i := 53) (by decide +kernel)) rfl
theorem tw_54 : (Jvm.Cond.fieldLink "ScrapHouse$Reader" (19 : Nat) "ScrapHouse$Reader" "text" "LScrapHouse$Text;") ∈ gw := gw_in1 (List.mem_of_getElem? (i := 54) (by decide +kernel)) rfl
theorem tw_55 : (Jvm.Cond.fieldLink "ScrapHouse$Reader" (31 : Nat) "ScrapHouse$Reader" "at" "I") ∈ gw := gw_in1 (List.mem_of_getElem? (i := 55) (by decide +kernel)) rfl
theorem tw_56 : (Jvm.Cond.fieldLink "ScrapHouse$Reader" (27 : Nat) "ScrapHouse$Reader" "failedAt" "I") ∈ gw := gw_in1 (List.mem_of_getElem? (i := 56) (by decide +kernel)) rfl
theorem tw_57 : (Jvm.Cond.laysFinal "ScrapHouse$Reader" "ScrapHouse$Reader" "values" "[I") ∈ gw := gw_in1 (List.mem_of_getElem? (i := 57) (by decide +kernel)) rfl
theorem tw_59 : (Jvm.Cond.lays "ScrapHouse$Reader" "ScrapHouse$Reader" "text" "LScrapHouse$Text;") ∈ gw := gw_in1 (List.mem_of_getElem? (i := 59) (by decide +kernel)) rfl
theorem tw_61 : (Jvm.Cond.lays "ScrapHouse$Reader" "ScrapHouse$Reader" "at" "I") ∈ gw := gw_in1 (List.mem_of_getElem? (i := 61) (by decide +kernel)) rfl
theorem tw_63 : (Jvm.Cond.lays "ScrapHouse$Reader" "ScrapHouse$Reader" "failedAt" "I") ∈ gw := gw_in1 (List.mem_of_getElem? (i := 63) (by decide +kernel)) rfl
theorem tw_66 : (Jvm.Cond.arrayClass Jvm.ClassFile.FieldType.int) ∈ gw := gw_in1 (List.mem_of_getElem? (i := 66) (by decide +kernel)) rfl
theorem tw_67 : (Jvm.Cond.instantiable "ScrapHouse$Nurse" (2 : Nat)) ∈ gw := gw_in1 (List.mem_of_getElem? (i := 67) (by decide +kernel)) rfl
theorem tw_69 : (Jvm.Cond.instanceMethod ({ cls := "ScrapHouse$Nurse", name := "<init>", desc := "()V" } : Jvm.MethodName)) ∈ gw := gw_in1 (List.mem_of_getElem? (i := 69) (by decide +kernel)) rfl
theorem tw_70 : (Jvm.Cond.code ({ cls := "ScrapHouse$Nurse", name := "<init>", desc := "()V" } : Jvm.MethodName) prog_8_method_1_code (1 : Nat) (Option.none : Option Jvm.ClassFile.FieldType)) ∈ gw := gw_in1 (List.mem_of_getElem? (i := 70) (rfl)) rfl
theorem tw_71 : (Jvm.Cond.methodLink "ScrapHouse$Nurse" (1 : Nat) ({ cls := "java/lang/Object", name := "<init>", desc := "()V" } : Jvm.MethodName)) ∈ gw := gw_in1 (List.mem_of_getElem? (i := 71) (by decide +kernel)) rfl
theorem tw_72 : (Jvm.Cond.fieldLink "ScrapHouse$Nurse" (9 : Nat) "ScrapHouse$Nurse" "bedCount" "I") ∈ gw := gw_in1 (List.mem_of_getElem? (i := 72) (by decide +kernel)) rfl
theorem tw_73 : (Jvm.Cond.fieldLink "ScrapHouse" (97 : Nat) "ScrapHouse$Nurse" "bedCount" "I") ∈ gw := gw_in1 (List.mem_of_getElem? (i := 73) (by decide +kernel)) rfl
theorem tw_74 : (Jvm.Cond.fieldLink "ScrapHouse" (139 : Nat) "ScrapHouse$Nurse" "latest" "LScrapHouse$Look;") ∈ gw := gw_in1 (List.mem_of_getElem? (i := 74) (by decide +kernel)) rfl
theorem tw_75 : (Jvm.Cond.lays "ScrapHouse$Nurse" "ScrapHouse$Nurse" "bedCount" "I") ∈ gw := gw_in1 (List.mem_of_getElem? (i := 75) (by decide +kernel)) rfl
theorem tw_77 : (Jvm.Cond.lays "ScrapHouse$Nurse" "ScrapHouse$Nurse" "latest" "LScrapHouse$Look;") ∈ gw := gw_in1 (List.mem_of_getElem? (i := 77) (by decide +kernel)) rfl
theorem tw_80 : (Jvm.Cond.fieldLink "ScrapHouse" (51 : Nat) "ScrapHouse" "now" "I") ∈ gw := gw_in1 (List.mem_of_getElem? (i := 80) (by decide +kernel)) rfl
theorem tw_81 : (Jvm.Cond.fieldLink "ScrapHouse" (55 : Nat) "ScrapHouse" "ballotCount" "I") ∈ gw := gw_in1 (List.mem_of_getElem? (i := 81) (by decide +kernel)) rfl
theorem tw_82 : (Jvm.Cond.fieldLink "ScrapHouse" (78 : Nat) "ScrapHouse" "childCount" "I") ∈ gw := gw_in1 (List.mem_of_getElem? (i := 82) (by decide +kernel)) rfl
theorem tw_83 : (Jvm.Cond.fieldLink "ScrapHouse" (111 : Nat) "ScrapHouse" "moveCount" "I") ∈ gw := gw_in1 (List.mem_of_getElem? (i := 83) (by decide +kernel)) rfl
theorem tw_84 : (Jvm.Cond.fieldLink "ScrapHouse" (149 : Nat) "ScrapHouse" "lookCount" "I") ∈ gw := gw_in1 (List.mem_of_getElem? (i := 84) (by decide +kernel)) rfl
theorem tw_85 : (Jvm.Cond.fieldLink "ScrapHouse" (186 : Nat) "ScrapHouse" "ruleCount" "I") ∈ gw := gw_in1 (List.mem_of_getElem? (i := 85) (by decide +kernel)) rfl
theorem tw_86 : (Jvm.Cond.fieldLink "ScrapHouse" (11 : Nat) "ScrapHouse" "ballots" "[LScrapHouse$Ballot;") ∈ gw := gw_in1 (List.mem_of_getElem? (i := 86) (by decide +kernel)) rfl
theorem tw_87 : (Jvm.Cond.fieldLink "ScrapHouse" (17 : Nat) "ScrapHouse" "children" "[LScrapHouse$Child;") ∈ gw := gw_in1 (List.mem_of_getElem? (i := 87) (by decide +kernel)) rfl
theorem tw_88 : (Jvm.Cond.fieldLink "ScrapHouse" (23 : Nat) "ScrapHouse" "nurses" "[LScrapHouse$Nurse;") ∈ gw := gw_in1 (List.mem_of_getElem? (i := 88) (by decide +kernel)) rfl
theorem tw_89 : (Jvm.Cond.fieldLink "ScrapHouse" (30 : Nat) "ScrapHouse" "tape" "LScrapHouse$Text;") ∈ gw := gw_in1 (List.mem_of_getElem? (i := 89) (by decide +kernel)) rfl
theorem tw_90 : (Jvm.Cond.fieldLink "ScrapHouse" (34 : Nat) "ScrapHouse" "inForce" "LScrapHouse$Text;") ∈ gw := gw_in1 (List.mem_of_getElem? (i := 90) (by decide +kernel)) rfl
theorem tw_91 : (Jvm.Cond.fieldLink "ScrapHouse" (42 : Nat) "ScrapHouse" "reader" "LScrapHouse$Reader;") ∈ gw := gw_in1 (List.mem_of_getElem? (i := 91) (by decide +kernel)) rfl
theorem tw_92 : (Jvm.Cond.lays "ScrapHouse" "ScrapHouse" "now" "I") ∈ gw := gw_in1 (List.mem_of_getElem? (i := 92) (by decide +kernel)) rfl
theorem tw_94 : (Jvm.Cond.lays "ScrapHouse" "ScrapHouse" "ballotCount" "I") ∈ gw := gw_in1 (List.mem_of_getElem? (i := 94) (by decide +kernel)) rfl
theorem tw_96 : (Jvm.Cond.lays "ScrapHouse" "ScrapHouse" "childCount" "I") ∈ gw := gw_in1 (List.mem_of_getElem? (i := 96) (by decide +kernel)) rfl
theorem tw_98 : (Jvm.Cond.lays "ScrapHouse" "ScrapHouse" "moveCount" "I") ∈ gw := gw_in1 (List.mem_of_getElem? (i := 98) (by decide +kernel)) rfl
theorem tw_100 : (Jvm.Cond.lays "ScrapHouse" "ScrapHouse" "lookCount" "I") ∈ gw := gw_in1 (List.mem_of_getElem? (i := 100) (by decide +kernel)) rfl
theorem tw_102 : (Jvm.Cond.lays "ScrapHouse" "ScrapHouse" "ruleCount" "I") ∈ gw := gw_in1 (List.mem_of_getElem? (i := 102) (by decide +kernel)) rfl
theorem tw_104 : (Jvm.Cond.laysFinal "ScrapHouse" "ScrapHouse" "ballots" "[LScrapHouse$Ballot;") ∈ gw := gw_in1 (List.mem_of_getElem? (i := 104) (by decide +kernel)) rfl
theorem tw_106 : (Jvm.Cond.laysFinal "ScrapHouse" "ScrapHouse" "children" "[LScrapHouse$Child;") ∈ gw := gw_in1 (List.mem_of_getElem? (i := 106) (by decide +kernel)) rfl
theorem tw_108 : (Jvm.Cond.laysFinal "ScrapHouse" "ScrapHouse" "nurses" "[LScrapHouse$Nurse;") ∈ gw := gw_in1 (List.mem_of_getElem? (i := 108) (by decide +kernel)) rfl
theorem tw_110 : (Jvm.Cond.lays "ScrapHouse" "ScrapHouse" "tape" "LScrapHouse$Text;") ∈ gw := gw_in1 (List.mem_of_getElem? (i := 110) (by decide +kernel)) rfl
theorem tw_112 : (Jvm.Cond.lays "ScrapHouse" "ScrapHouse" "inForce" "LScrapHouse$Text;") ∈ gw := gw_in1 (List.mem_of_getElem? (i := 112) (by decide +kernel)) rfl
theorem tw_114 : (Jvm.Cond.laysFinal "ScrapHouse" "ScrapHouse" "reader" "LScrapHouse$Reader;") ∈ gw := gw_in1 (List.mem_of_getElem? (i := 114) (by decide +kernel)) rfl
theorem tw_117 : (Jvm.Cond.methodLink "ScrapHouseLaw" (13 : Nat) ({ cls := "ScrapHouse", name := "days", desc := "(I)I" } : Jvm.MethodName)) ∈ gw := gw_in1 (List.mem_of_getElem? (i := 117) (by decide +kernel)) rfl
theorem tw_118 : (Jvm.Cond.instanceMethod ({ cls := "ScrapHouse", name := "days", desc := "(I)I" } : Jvm.MethodName)) ∈ gw := gw_in1 (List.mem_of_getElem? (i := 118) (by decide +kernel)) rfl
theorem tw_119 : (Jvm.Cond.selects "ScrapHouse" ({ cls := "ScrapHouse", name := "days", desc := "(I)I" } : Jvm.MethodName) ({ cls := "ScrapHouse", name := "days", desc := "(I)I" } : Jvm.MethodName)) ∈ gw := gw_in1 (List.mem_of_getElem? (i := 119) (by decide +kernel)) rfl
theorem tw_120 : (Jvm.Cond.code ({ cls := "ScrapHouse", name := "days", desc := "(I)I" } : Jvm.MethodName) prog_1_method_2_code (2 : Nat) (Option.some Jvm.ClassFile.FieldType.int)) ∈ gw := gw_in1 (List.mem_of_getElem? (i := 120) (rfl)) rfl
theorem tw_121 : (Jvm.Cond.methodLink "ScrapHouse" (47 : Nat) ({ cls := "ScrapHouse", name := "within", desc := "(III)Z" } : Jvm.MethodName)) ∈ gw := gw_in1 (List.mem_of_getElem? (i := 121) (by decide +kernel)) rfl
theorem tw_122 : (Jvm.Cond.static ({ cls := "ScrapHouse", name := "within", desc := "(III)Z" } : Jvm.MethodName)) ∈ gw := gw_in1 (List.mem_of_getElem? (i := 122) (by decide +kernel)) rfl
theorem tw_123 : (Jvm.Cond.code ({ cls := "ScrapHouse", name := "within", desc := "(III)Z" } : Jvm.MethodName) prog_1_method_26_code (3 : Nat) (Option.some Jvm.ClassFile.FieldType.boolean)) ∈ gw := gw_in1 (List.mem_of_getElem? (i := 123) (rfl)) rfl
theorem tw_124 : (Jvm.Cond.methodLink "ScrapHouseLaw" (20 : Nat) ({ cls := "ScrapHouse", name := "ballot", desc := "(IIIJ)I" } : Jvm.MethodName)) ∈ gw := gw_in1 (List.mem_of_getElem? (i := 124) (by decide +kernel)) rfl
theorem tw_125 : (Jvm.Cond.instanceMethod ({ cls := "ScrapHouse", name := "ballot", desc := "(IIIJ)I" } : Jvm.MethodName)) ∈ gw := gw_in1 (List.mem_of_getElem? (i := 125) (by decide +kernel)) rfl
theorem tw_126 : (Jvm.Cond.selects "ScrapHouse" ({ cls := "ScrapHouse", name := "ballot", desc := "(IIIJ)I" } : Jvm.MethodName) ({ cls := "ScrapHouse", name := "ballot", desc := "(IIIJ)I" } : Jvm.MethodName)) ∈ gw := gw_in1 (List.mem_of_getElem? (i := 126) (by decide +kernel)) rfl
theorem tw_127 : (Jvm.Cond.code ({ cls := "ScrapHouse", name := "ballot", desc := "(IIIJ)I" } : Jvm.MethodName) prog_1_method_3_code (6 : Nat) (Option.some Jvm.ClassFile.FieldType.int)) ∈ gw := gw_in1 (List.mem_of_getElem? (i := 127) (rfl)) rfl
theorem tw_128 : (Jvm.Cond.instantiable "ScrapHouse$Ballot" (1 : Nat)) ∈ gw := gw_in1 (List.mem_of_getElem? (i := 128) (by decide +kernel)) rfl
theorem tw_129 : (Jvm.Cond.methodLink "ScrapHouse" (58 : Nat) ({ cls := "ScrapHouse$Ballot", name := "<init>", desc := "(IIIJ)V" } : Jvm.MethodName)) ∈ gw := gw_in1 (List.mem_of_getElem? (i := 129) (by decide +kernel)) rfl
theorem tw_130 : (Jvm.Cond.instanceMethod ({ cls := "ScrapHouse$Ballot", name := "<init>", desc := "(IIIJ)V" } : Jvm.MethodName)) ∈ gw := gw_in1 (List.mem_of_getElem? (i := 130) (by decide +kernel)) rfl
theorem tw_131 : (Jvm.Cond.code ({ cls := "ScrapHouse$Ballot", name := "<init>", desc := "(IIIJ)V" } : Jvm.MethodName) prog_2_method_1_code (12 : Nat) (Option.none : Option Jvm.ClassFile.FieldType)) ∈ gw := gw_in1 (List.mem_of_getElem? (i := 131) (rfl)) rfl
theorem tw_132 : (Jvm.Cond.methodLink "ScrapHouse$Ballot" (3 : Nat) ({ cls := "java/lang/Object", name := "<init>", desc := "()V" } : Jvm.MethodName)) ∈ gw := gw_in1 (List.mem_of_getElem? (i := 132) (by decide +kernel)) rfl
theorem tw_133 : (Jvm.Cond.methodLink "ScrapHouse$Ballot" (9 : Nat) ({ cls := "ScrapHouse$Ballot", name := "kindOf", desc := "(III)I" } : Jvm.MethodName)) ∈ gw := gw_in1 (List.mem_of_getElem? (i := 133) (by decide +kernel)) rfl
theorem tw_134 : (Jvm.Cond.static ({ cls := "ScrapHouse$Ballot", name := "kindOf", desc := "(III)I" } : Jvm.MethodName)) ∈ gw := gw_in1 (List.mem_of_getElem? (i := 134) (by decide +kernel)) rfl
theorem tw_135 : (Jvm.Cond.code ({ cls := "ScrapHouse$Ballot", name := "kindOf", desc := "(III)I" } : Jvm.MethodName) prog_2_method_2_code (3 : Nat) (Option.some Jvm.ClassFile.FieldType.int)) ∈ gw := gw_in1 (List.mem_of_getElem? (i := 135) (rfl)) rfl
theorem tw_136 : (Jvm.Cond.constantLong "ScrapHouse$Ballot" (19 : Nat) (6364136223846793005 : Int64)) ∈ gw := gw_in1 (List.mem_of_getElem? (i := 136) (by decide +kernel)) rfl
theorem tw_137 : (Jvm.Cond.constantLong "ScrapHouse$Ballot" (21 : Nat) (1442695040888963407 : Int64)) ∈ gw := gw_in1 (List.mem_of_getElem? (i := 137) (by decide +kernel)) rfl
theorem tw_138 : (Jvm.Cond.methodLink "ScrapHouse$Ballot" (23 : Nat) ({ cls := "java/lang/System", name := "arraycopy", desc := "(Ljava/lang/Object;ILjava/lang/Object;II)V" } : Jvm.MethodName)) ∈ gw := gw_in1 (List.mem_of_getElem? (i := 138) (by decide +kernel)) rfl
theorem tw_139 : (Jvm.Cond.static ({ cls := "java/lang/System", name := "arraycopy", desc := "(Ljava/lang/Object;ILjava/lang/Object;II)V" } : Jvm.MethodName)) ∈ gw := gw_in1 (List.mem_of_getElem? (i := 139) (by decide +kernel)) rfl
theorem tw_140 : (Jvm.Cond.native ({ cls := "java/lang/System", name := "arraycopy", desc := "(Ljava/lang/Object;ILjava/lang/Object;II)V" } : Jvm.MethodName)) ∈ gw := gw_in1 (List.mem_of_getElem? (i := 140) (by decide +kernel)) rfl
theorem tw_141 : (Jvm.Cond.fieldLink "ScrapHouse$Ballot" (15 : Nat) "ScrapHouse$Ballot" "has" "[I") ∈ gw := gw_in1 (List.mem_of_getElem? (i := 141) (by decide +kernel)) rfl
theorem tw_142 : (Jvm.Cond.laysFinal "ScrapHouse$Ballot" "ScrapHouse$Ballot" "has" "[I") ∈ gw := gw_in1 (List.mem_of_getElem? (i := 142) (by decide +kernel)) rfl
theorem tw_145 : (Jvm.Cond.methodLink "ScrapHouseLaw" (25 : Nat) ({ cls := "ScrapHouse", name := "ball", desc := "(II)I" } : Jvm.MethodName)) ∈ gw := gw_in1 (List.mem_of_getElem? (i := 145) (by decide +kernel)) rfl
theorem tw_146 : (Jvm.Cond.instanceMethod ({ cls := "ScrapHouse", name := "ball", desc := "(II)I" } : Jvm.MethodName)) ∈ gw := gw_in1 (List.mem_of_getElem? (i := 146) (by decide +kernel)) rfl
theorem tw_147 : (Jvm.Cond.selects "ScrapHouse" ({ cls := "ScrapHouse", name := "ball", desc := "(II)I" } : Jvm.MethodName) ({ cls := "ScrapHouse", name := "ball", desc := "(II)I" } : Jvm.MethodName)) ∈ gw := gw_in1 (List.mem_of_getElem? (i := 147) (by decide +kernel)) rfl
theorem tw_148 : (Jvm.Cond.code ({ cls := "ScrapHouse", name := "ball", desc := "(II)I" } : Jvm.MethodName) prog_1_method_4_code (4 : Nat) (Option.some Jvm.ClassFile.FieldType.int)) ∈ gw := gw_in1 (List.mem_of_getElem? (i := 148) (rfl)) rfl
theorem tw_149 : (Jvm.Cond.methodLink "ScrapHouse" (61 : Nat) ({ cls := "ScrapHouse", name := "findBallot", desc := "(I)LScrapHouse$Ballot;" } : Jvm.MethodName)) ∈ gw := gw_in1 (List.mem_of_getElem? (i := 149) (by decide +kernel)) rfl
theorem tw_151 : (Jvm.Cond.instanceMethod ({ cls := "ScrapHouse", name := "findBallot", desc := "(I)LScrapHouse$Ballot;" } : Jvm.MethodName)) ∈ gw := gw_in1 (List.mem_of_getElem? (i := 151) (by decide +kernel)) rfl
theorem tw_152 : (Jvm.Cond.code ({ cls := "ScrapHouse", name := "findBallot", desc := "(I)LScrapHouse$Ballot;" } : Jvm.MethodName) prog_1_method_31_code (2 : Nat) (Option.some (Jvm.ClassFile.FieldType.object "ScrapHouse$Ballot"))) ∈ gw := gw_in1 (List.mem_of_getElem? (i := 152) (rfl)) rfl
theorem tw_153 : (Jvm.Cond.methodLink "ScrapHouse" (65 : Nat) ({ cls := "ScrapHouse$Ballot", name := "ballOf", desc := "(I)I" } : Jvm.MethodName)) ∈ gw := gw_in1 (List.mem_of_getElem? (i := 153) (by decide +kernel)) rfl
theorem tw_154 : (Jvm.Cond.instanceMethod ({ cls := "ScrapHouse$Ballot", name := "ballOf", desc := "(I)I" } : Jvm.MethodName)) ∈ gw := gw_in1 (List.mem_of_getElem? (i := 154) (by decide +kernel)) rfl
theorem tw_155 : (Jvm.Cond.selects "ScrapHouse$Ballot" ({ cls := "ScrapHouse$Ballot", name := "ballOf", desc := "(I)I" } : Jvm.MethodName) ({ cls := "ScrapHouse$Ballot", name := "ballOf", desc := "(I)I" } : Jvm.MethodName)) ∈ gw := gw_in1 (List.mem_of_getElem? (i := 155) (by decide +kernel)) rfl
theorem tw_156 : (Jvm.Cond.code ({ cls := "ScrapHouse$Ballot", name := "ballOf", desc := "(I)I" } : Jvm.MethodName) prog_2_method_3_code (2 : Nat) (Option.some Jvm.ClassFile.FieldType.int)) ∈ gw := gw_in1 (List.mem_of_getElem? (i := 156) (rfl)) rfl
theorem tw_158 : (Jvm.Cond.methodLink "ScrapHouseLaw" (30 : Nat) ({ cls := "ScrapHouse", name := "away", desc := "(II)I" } : Jvm.MethodName)) ∈ gw := gw_in1 (List.mem_of_getElem? (i := 158) (by decide +kernel)) rfl
theorem tw_159 : (Jvm.Cond.instanceMethod ({ cls := "ScrapHouse", name := "away", desc := "(II)I" } : Jvm.MethodName)) ∈ gw := gw_in1 (List.mem_of_getElem? (i := 159) (by decide +kernel)) rfl
theorem tw_160 : (Jvm.Cond.selects "ScrapHouse" ({ cls := "ScrapHouse", name := "away", desc := "(II)I" } : Jvm.MethodName) ({ cls := "ScrapHouse", name := "away", desc := "(II)I" } : Jvm.MethodName)) ∈ gw := gw_in1 (List.mem_of_getElem? (i := 160) (by decide +kernel)) rfl
theorem tw_161 : (Jvm.Cond.code ({ cls := "ScrapHouse", name := "away", desc := "(II)I" } : Jvm.MethodName) prog_1_method_5_code (4 : Nat) (Option.some Jvm.ClassFile.FieldType.int)) ∈ gw := gw_in1 (List.mem_of_getElem? (i := 161) (rfl)) rfl
theorem tw_162 : (Jvm.Cond.methodLink "ScrapHouse" (69 : Nat) ({ cls := "ScrapHouse$Ballot", name := "sendAway", desc := "(I)I" } : Jvm.MethodName)) ∈ gw := gw_in1 (List.mem_of_getElem? (i := 162) (by decide +kernel)) rfl
theorem tw_163 : (Jvm.Cond.instanceMethod ({ cls := "ScrapHouse$Ballot", name := "sendAway", desc := "(I)I" } : Jvm.MethodName)) ∈ gw := gw_in1 (List.mem_of_getElem? (i := 163) (by decide +kernel)) rfl
theorem tw_164 : (Jvm.Cond.selects "ScrapHouse$Ballot" ({ cls := "ScrapHouse$Ballot", name := "sendAway", desc := "(I)I" } : Jvm.MethodName) ({ cls := "ScrapHouse$Ballot", name := "sendAway", desc := "(I)I" } : Jvm.MethodName)) ∈ gw := gw_in1 (List.mem_of_getElem? (i := 164) (by decide +kernel)) rfl
theorem tw_165 : (Jvm.Cond.code ({ cls := "ScrapHouse$Ballot", name := "sendAway", desc := "(I)I" } : Jvm.MethodName) prog_2_method_5_code (3 : Nat) (Option.some Jvm.ClassFile.FieldType.int)) ∈ gw := gw_in1 (List.mem_of_getElem? (i := 165) (rfl)) rfl
theorem tw_166 : (Jvm.Cond.methodLink "ScrapHouse$Ballot" (33 : Nat) ({ cls := "ScrapHouse$Ballot", name := "give", desc := "(II)V" } : Jvm.MethodName)) ∈ gw := gw_in1 (List.mem_of_getElem? (i := 166) (by decide +kernel)) rfl
theorem tw_167 : (Jvm.Cond.instanceMethod ({ cls := "ScrapHouse$Ballot", name := "give", desc := "(II)V" } : Jvm.MethodName)) ∈ gw := gw_in1 (List.mem_of_getElem? (i := 167) (by decide +kernel)) rfl
theorem tw_168 : (Jvm.Cond.selects "ScrapHouse$Ballot" ({ cls := "ScrapHouse$Ballot", name := "give", desc := "(II)V" } : Jvm.MethodName) ({ cls := "ScrapHouse$Ballot", name := "give", desc := "(II)V" } : Jvm.MethodName)) ∈ gw := gw_in1 (List.mem_of_getElem? (i := 168) (by decide +kernel)) rfl
theorem tw_169 : (Jvm.Cond.code ({ cls := "ScrapHouse$Ballot", name := "give", desc := "(II)V" } : Jvm.MethodName) prog_2_method_4_code (3 : Nat) (Option.none : Option Jvm.ClassFile.FieldType)) ∈ gw := gw_in1 (List.mem_of_getElem? (i := 169) (rfl)) rfl
theorem tw_170 : (Jvm.Cond.methodLink "ScrapHouseLaw" (34 : Nat) ({ cls := "ScrapHouse", name := "leave", desc := "(IIIIII)I" } : Jvm.MethodName)) ∈ gw := gw_in1 (List.mem_of_getElem? (i := 170) (by decide +kernel)) rfl
theorem tw_171 : (Jvm.Cond.instanceMethod ({ cls := "ScrapHouse", name := "leave", desc := "(IIIIII)I" } : Jvm.MethodName)) ∈ gw := gw_in1 (List.mem_of_getElem? (i := 171) (by decide +kernel)) rfl
theorem tw_172 : (Jvm.Cond.selects "ScrapHouse" ({ cls := "ScrapHouse", name := "leave", desc := "(IIIIII)I" } : Jvm.MethodName) ({ cls := "ScrapHouse", name := "leave", desc := "(IIIIII)I" } : Jvm.MethodName)) ∈ gw := gw_in1 (List.mem_of_getElem? (i := 172) (by decide +kernel)) rfl
theorem tw_173 : (Jvm.Cond.code ({ cls := "ScrapHouse", name := "leave", desc := "(IIIIII)I" } : Jvm.MethodName) prog_1_method_6_code (8 : Nat) (Option.some Jvm.ClassFile.FieldType.int)) ∈ gw := gw_in1 (List.mem_of_getElem? (i := 173) (rfl)) rfl
theorem tw_174 : (Jvm.Cond.methodLink "ScrapHouse" (72 : Nat) ({ cls := "ScrapHouse$Half", name := "canBe", desc := "(II)Z" } : Jvm.MethodName)) ∈ gw := gw_in1 (List.mem_of_getElem? (i := 174) (by decide +kernel)) rfl
theorem tw_175 : (Jvm.Cond.static ({ cls := "ScrapHouse$Half", name := "canBe", desc := "(II)Z" } : Jvm.MethodName)) ∈ gw := gw_in1 (List.mem_of_getElem? (i := 175) (by decide +kernel)) rfl
theorem tw_176 : (Jvm.Cond.code ({ cls := "ScrapHouse$Half", name := "canBe", desc := "(II)Z" } : Jvm.MethodName) prog_5_method_2_code (2 : Nat) (Option.some Jvm.ClassFile.FieldType.boolean)) ∈ gw := gw_in1 (List.mem_of_getElem? (i := 176) (rfl)) rfl
theorem tw_177 : (Jvm.Cond.constant "ScrapHouse$Half" (16 : Nat) (16777215 : Int32)) ∈ gw := gw_in1 (List.mem_of_getElem? (i := 177) (by decide +kernel)) rfl
theorem tw_179 : (Jvm.Cond.methodLink "ScrapHouse" (81 : Nat) ({ cls := "ScrapHouse$Ballot", name := "give", desc := "(II)V" } : Jvm.MethodName)) ∈ gw := gw_in1 (List.mem_of_getElem? (i := 179) (by decide +kernel)) rfl
theorem tw_180 : (Jvm.Cond.instantiable "ScrapHouse$Child" (10 : Nat)) ∈ gw := gw_in1 (List.mem_of_getElem? (i := 180) (by decide +kernel)) rfl
theorem tw_181 : (Jvm.Cond.classLink "ScrapHouse" (73 : Nat) "ScrapHouse$Half") ∈ gw := gw_in1 (List.mem_of_getElem? (i := 181) (by decide +kernel)) rfl
theorem tw_182 : (Jvm.Cond.instantiable "ScrapHouse$Half" (2 : Nat)) ∈ gw := gw_in1 (List.mem_of_getElem? (i := 182) (by decide +kernel)) rfl
theorem tw_183 : (Jvm.Cond.methodLink "ScrapHouse" (85 : Nat) ({ cls := "ScrapHouse$Half", name := "<init>", desc := "(II)V" } : Jvm.MethodName)) ∈ gw := gw_in1 (List.mem_of_getElem? (i := 183) (by decide +kernel)) rfl
theorem tw_184 : (Jvm.Cond.instanceMethod ({ cls := "ScrapHouse$Half", name := "<init>", desc := "(II)V" } : Jvm.MethodName)) ∈ gw := gw_in1 (List.mem_of_getElem? (i := 184) (by decide +kernel)) rfl
theorem tw_185 : (Jvm.Cond.code ({ cls := "ScrapHouse$Half", name := "<init>", desc := "(II)V" } : Jvm.MethodName) prog_5_method_1_code (3 : Nat) (Option.none : Option Jvm.ClassFile.FieldType)) ∈ gw := gw_in1 (List.mem_of_getElem? (i := 185) (rfl)) rfl
theorem tw_186 : (Jvm.Cond.methodLink "ScrapHouse$Half" (1 : Nat) ({ cls := "java/lang/Object", name := "<init>", desc := "()V" } : Jvm.MethodName)) ∈ gw := gw_in1 (List.mem_of_getElem? (i := 186) (by decide +kernel)) rfl
theorem tw_187 : (Jvm.Cond.fieldLink "ScrapHouse$Half" (7 : Nat) "ScrapHouse$Half" "edge" "I") ∈ gw := gw_in1 (List.mem_of_getElem? (i := 187) (by decide +kernel)) rfl
theorem tw_188 : (Jvm.Cond.fieldLink "ScrapHouse" (217 : Nat) "ScrapHouse$Half" "edge" "I") ∈ gw := gw_in1 (List.mem_of_getElem? (i := 188) (by decide +kernel)) rfl
theorem tw_189 : (Jvm.Cond.fieldLink "ScrapHouse$Half" (13 : Nat) "ScrapHouse$Half" "threads" "I") ∈ gw := gw_in1 (List.mem_of_getElem? (i := 189) (by decide +kernel)) rfl
theorem tw_190 : (Jvm.Cond.fieldLink "ScrapHouse" (220 : Nat) "ScrapHouse$Half" "threads" "I") ∈ gw := gw_in1 (List.mem_of_getElem? (i := 190) (by decide +kernel)) rfl
theorem tw_191 : (Jvm.Cond.laysFinal "ScrapHouse$Half" "ScrapHouse$Half" "edge" "I") ∈ gw := gw_in1 (List.mem_of_getElem? (i := 191) (by decide +kernel)) rfl
theorem tw_193 : (Jvm.Cond.laysFinal "ScrapHouse$Half" "ScrapHouse$Half" "threads" "I") ∈ gw := gw_in1 (List.mem_of_getElem? (i := 193) (by decide +kernel)) rfl
theorem tw_196 : (Jvm.Cond.methodLink "ScrapHouse" (87 : Nat) ({ cls := "ScrapHouse$Child", name := "<init>", desc := "(IIILScrapHouse$Half;II)V" } : Jvm.MethodName)) ∈ gw := gw_in1 (List.mem_of_getElem? (i := 196) (by decide +kernel)) rfl
theorem tw_197 : (Jvm.Cond.instanceMethod ({ cls := "ScrapHouse$Child", name := "<init>", desc := "(IIILScrapHouse$Half;II)V" } : Jvm.MethodName)) ∈ gw := gw_in1 (List.mem_of_getElem? (i := 197) (by decide +kernel)) rfl
theorem tw_198 : (Jvm.Cond.code ({ cls := "ScrapHouse$Child", name := "<init>", desc := "(IIILScrapHouse$Half;II)V" } : Jvm.MethodName) prog_3_method_1_code (7 : Nat) (Option.none : Option Jvm.ClassFile.FieldType)) ∈ gw := gw_in1 (List.mem_of_getElem? (i := 198) (rfl)) rfl
theorem tw_199 : (Jvm.Cond.methodLink "ScrapHouse$Child" (3 : Nat) ({ cls := "java/lang/Object", name := "<init>", desc := "()V" } : Jvm.MethodName)) ∈ gw := gw_in1 (List.mem_of_getElem? (i := 199) (by decide +kernel)) rfl
theorem tw_200 : (Jvm.Cond.classLink "ScrapHouse$Child" (34 : Nat) "ScrapHouse$Move") ∈ gw := gw_in1 (List.mem_of_getElem? (i := 200) (by decide +kernel)) rfl
theorem tw_201 : (Jvm.Cond.instantiable "ScrapHouse$Move" (4 : Nat)) ∈ gw := gw_in1 (List.mem_of_getElem? (i := 201) (by decide +kernel)) rfl
theorem tw_202 : (Jvm.Cond.methodLink "ScrapHouse$Child" (36 : Nat) ({ cls := "ScrapHouse$Move", name := "<init>", desc := "(III)V" } : Jvm.MethodName)) ∈ gw := gw_in1 (List.mem_of_getElem? (i := 202) (by decide +kernel)) rfl
theorem tw_203 : (Jvm.Cond.instanceMethod ({ cls := "ScrapHouse$Move", name := "<init>", desc := "(III)V" } : Jvm.MethodName)) ∈ gw := gw_in1 (List.mem_of_getElem? (i := 203) (by decide +kernel)) rfl
theorem tw_204 : (Jvm.Cond.code ({ cls := "ScrapHouse$Move", name := "<init>", desc := "(III)V" } : Jvm.MethodName) prog_7_method_1_code (4 : Nat) (Option.none : Option Jvm.ClassFile.FieldType)) ∈ gw := gw_in1 (List.mem_of_getElem? (i := 204) (rfl)) rfl
theorem tw_205 : (Jvm.Cond.methodLink "ScrapHouse$Move" (1 : Nat) ({ cls := "java/lang/Object", name := "<init>", desc := "()V" } : Jvm.MethodName)) ∈ gw := gw_in1 (List.mem_of_getElem? (i := 205) (by decide +kernel)) rfl
theorem tw_206 : (Jvm.Cond.fieldLink "ScrapHouse$Move" (7 : Nat) "ScrapHouse$Move" "place" "I") ∈ gw := gw_in1 (List.mem_of_getElem? (i := 206) (by decide +kernel)) rfl
theorem tw_207 : (Jvm.Cond.fieldLink "ScrapHouse$Child" (55 : Nat) "ScrapHouse$Move" "place" "I") ∈ gw := gw_in1 (List.mem_of_getElem? (i := 207) (by decide +kernel)) rfl
theorem tw_208 : (Jvm.Cond.fieldLink "ScrapHouse" (232 : Nat) "ScrapHouse$Move" "place" "I") ∈ gw := gw_in1 (List.mem_of_getElem? (i := 208) (by decide +kernel)) rfl
theorem tw_209 : (Jvm.Cond.fieldLink "ScrapHouse$Move" (13 : Nat) "ScrapHouse$Move" "from" "I") ∈ gw := gw_in1 (List.mem_of_getElem? (i := 209) (by decide +kernel)) rfl
theorem tw_210 : (Jvm.Cond.fieldLink "ScrapHouse$Child" (49 : Nat) "ScrapHouse$Move" "from" "I") ∈ gw := gw_in1 (List.mem_of_getElem? (i := 210) (by decide +kernel)) rfl
theorem tw_211 : (Jvm.Cond.fieldLink "ScrapHouse" (235 : Nat) "ScrapHouse$Move" "from" "I") ∈ gw := gw_in1 (List.mem_of_getElem? (i := 211) (by decide +kernel)) rfl
theorem tw_212 : (Jvm.Cond.fieldLink "ScrapHouse$Move" (16 : Nat) "ScrapHouse$Move" "told" "I") ∈ gw := gw_in1 (List.mem_of_getElem? (i := 212) (by decide +kernel)) rfl
theorem tw_213 : (Jvm.Cond.fieldLink "ScrapHouse$Child" (52 : Nat) "ScrapHouse$Move" "told" "I") ∈ gw := gw_in1 (List.mem_of_getElem? (i := 213) (by decide +kernel)) rfl
theorem tw_214 : (Jvm.Cond.fieldLink "ScrapHouse$Child" (46 : Nat) "ScrapHouse$Move" "next" "LScrapHouse$Move;") ∈ gw := gw_in1 (List.mem_of_getElem? (i := 214) (by decide +kernel)) rfl
theorem tw_215 : (Jvm.Cond.fieldLink "ScrapHouse" (127 : Nat) "ScrapHouse$Move" "next" "LScrapHouse$Move;") ∈ gw := gw_in1 (List.mem_of_getElem? (i := 215) (by decide +kernel)) rfl
theorem tw_216 : (Jvm.Cond.laysFinal "ScrapHouse$Move" "ScrapHouse$Move" "place" "I") ∈ gw := gw_in1 (List.mem_of_getElem? (i := 216) (by decide +kernel)) rfl
theorem tw_218 : (Jvm.Cond.laysFinal "ScrapHouse$Move" "ScrapHouse$Move" "from" "I") ∈ gw := gw_in1 (List.mem_of_getElem? (i := 218) (by decide +kernel)) rfl
theorem tw_220 : (Jvm.Cond.laysFinal "ScrapHouse$Move" "ScrapHouse$Move" "told" "I") ∈ gw := gw_in1 (List.mem_of_getElem? (i := 220) (by decide +kernel)) rfl
theorem tw_222 : (Jvm.Cond.lays "ScrapHouse$Move" "ScrapHouse$Move" "next" "LScrapHouse$Move;") ∈ gw := gw_in1 (List.mem_of_getElem? (i := 222) (by decide +kernel)) rfl
theorem tw_225 : (Jvm.Cond.fieldLink "ScrapHouse$Child" (15 : Nat) "ScrapHouse$Child" "day" "I") ∈ gw := gw_in1 (List.mem_of_getElem? (i := 225) (by decide +kernel)) rfl
theorem tw_226 : (Jvm.Cond.fieldLink "ScrapHouse$Claim" (28 : Nat) "ScrapHouse$Child" "day" "I") ∈ gw := gw_in1 (List.mem_of_getElem? (i := 226) (by decide +kernel)) rfl
theorem tw_227 : (Jvm.Cond.fieldLink "ScrapHouse" (108 : Nat) "ScrapHouse$Child" "day" "I") ∈ gw := gw_in1 (List.mem_of_getElem? (i := 227) (by decide +kernel)) rfl
theorem tw_228 : (Jvm.Cond.fieldLink "ScrapHouse$Child" (18 : Nat) "ScrapHouse$Child" "sex" "I") ∈ gw := gw_in1 (List.mem_of_getElem? (i := 228) (by decide +kernel)) rfl
theorem tw_229 : (Jvm.Cond.fieldLink "ScrapHouse$Claim" (37 : Nat) "ScrapHouse$Child" "sex" "I") ∈ gw := gw_in1 (List.mem_of_getElem? (i := 229) (by decide +kernel)) rfl
theorem tw_230 : (Jvm.Cond.fieldLink "ScrapHouse" (211 : Nat) "ScrapHouse$Child" "sex" "I") ∈ gw := gw_in1 (List.mem_of_getElem? (i := 230) (by decide +kernel)) rfl
theorem tw_231 : (Jvm.Cond.fieldLink "ScrapHouse$Child" (21 : Nat) "ScrapHouse$Child" "mark" "I") ∈ gw := gw_in1 (List.mem_of_getElem? (i := 231) (by decide +kernel)) rfl
theorem tw_232 : (Jvm.Cond.fieldLink "ScrapHouse$Claim" (38 : Nat) "ScrapHouse$Child" "mark" "I") ∈ gw := gw_in1 (List.mem_of_getElem? (i := 232) (by decide +kernel)) rfl
theorem tw_233 : (Jvm.Cond.fieldLink "ScrapHouse" (214 : Nat) "ScrapHouse$Child" "mark" "I") ∈ gw := gw_in1 (List.mem_of_getElem? (i := 233) (by decide +kernel)) rfl
theorem tw_234 : (Jvm.Cond.fieldLink "ScrapHouse$Child" (24 : Nat) "ScrapHouse$Child" "half" "LScrapHouse$Half;") ∈ gw := gw_in1 (List.mem_of_getElem? (i := 234) (by decide +kernel)) rfl
theorem tw_235 : (Jvm.Cond.fieldLink "ScrapHouse" (167 : Nat) "ScrapHouse$Child" "half" "LScrapHouse$Half;") ∈ gw := gw_in1 (List.mem_of_getElem? (i := 235) (by decide +kernel)) rfl
theorem tw_236 : (Jvm.Cond.fieldLink "ScrapHouse$Child" (28 : Nat) "ScrapHouse$Child" "ballot" "I") ∈ gw := gw_in1 (List.mem_of_getElem? (i := 236) (by decide +kernel)) rfl
theorem tw_237 : (Jvm.Cond.fieldLink "ScrapHouse" (223 : Nat) "ScrapHouse$Child" "ballot" "I") ∈ gw := gw_in1 (List.mem_of_getElem? (i := 237) (by decide +kernel)) rfl
theorem tw_238 : (Jvm.Cond.fieldLink "ScrapHouse$Child" (31 : Nat) "ScrapHouse$Child" "woman" "I") ∈ gw := gw_in1 (List.mem_of_getElem? (i := 238) (by decide +kernel)) rfl
theorem tw_239 : (Jvm.Cond.fieldLink "ScrapHouse" (226 : Nat) "ScrapHouse$Child" "woman" "I") ∈ gw := gw_in1 (List.mem_of_getElem? (i := 239) (by decide +kernel)) rfl
theorem tw_240 : (Jvm.Cond.fieldLink "ScrapHouse$Child" (39 : Nat) "ScrapHouse$Child" "coming" "LScrapHouse$Move;") ∈ gw := gw_in2 (List.mem_of_getElem? (i := 0) (by decide +kernel)) rfl
theorem tw_241 : (Jvm.Cond.fieldLink "ScrapHouse" (229 : Nat) "ScrapHouse$Child" "coming" "LScrapHouse$Move;") ∈ gw := gw_in2 (List.mem_of_getElem? (i := 1) (by decide +kernel)) rfl
theorem tw_242 : (Jvm.Cond.fieldLink "ScrapHouse" (131 : Nat) "ScrapHouse$Child" "moveCount" "I") ∈ gw := gw_in2 (List.mem_of_getElem? (i := 2) (by decide +kernel)) rfl
theorem tw_243 : (Jvm.Cond.fieldLink "ScrapHouse$Child" (11 : Nat) "ScrapHouse$Child" "mother" "I") ∈ gw := gw_in2 (List.mem_of_getElem? (i := 3) (by decide +kernel)) rfl
theorem tw_244 : (Jvm.Cond.fieldLink "ScrapHouse" (199 : Nat) "ScrapHouse$Child" "mother" "I") ∈ gw := gw_in2 (List.mem_of_getElem? (i := 4) (by decide +kernel)) rfl
theorem tw_245 : (Jvm.Cond.fieldLink "ScrapHouse$Child" (43 : Nat) "ScrapHouse$Child" "askers" "I") ∈ gw := gw_in2 (List.mem_of_getElem? (i := 5) (by decide +kernel)) rfl
theorem tw_246 : (Jvm.Cond.fieldLink "ScrapHouse" (208 : Nat) "ScrapHouse$Child" "askers" "I") ∈ gw := gw_in2 (List.mem_of_getElem? (i := 6) (by decide +kernel)) rfl
theorem tw_247 : (Jvm.Cond.laysFinal "ScrapHouse$Child" "ScrapHouse$Child" "day" "I") ∈ gw := gw_in2 (List.mem_of_getElem? (i := 7) (by decide +kernel)) rfl
theorem tw_249 : (Jvm.Cond.laysFinal "ScrapHouse$Child" "ScrapHouse$Child" "sex" "I") ∈ gw := gw_in2 (List.mem_of_getElem? (i := 9) (by decide +kernel)) rfl
theorem tw_251 : (Jvm.Cond.laysFinal "ScrapHouse$Child" "ScrapHouse$Child" "mark" "I") ∈ gw := gw_in2 (List.mem_of_getElem? (i := 11) (by decide +kernel)) rfl
theorem tw_253 : (Jvm.Cond.laysFinal "ScrapHouse$Child" "ScrapHouse$Child" "half" "LScrapHouse$Half;") ∈ gw := gw_in2 (List.mem_of_getElem? (i := 13) (by decide +kernel)) rfl
theorem tw_255 : (Jvm.Cond.laysFinal "ScrapHouse$Child" "ScrapHouse$Child" "ballot" "I") ∈ gw := gw_in2 (List.mem_of_getElem? (i := 15) (by decide +kernel)) rfl
theorem tw_257 : (Jvm.Cond.laysFinal "ScrapHouse$Child" "ScrapHouse$Child" "woman" "I") ∈ gw := gw_in2 (List.mem_of_getElem? (i := 17) (by decide +kernel)) rfl
theorem tw_259 : (Jvm.Cond.laysFinal "ScrapHouse$Child" "ScrapHouse$Child" "coming" "LScrapHouse$Move;") ∈ gw := gw_in2 (List.mem_of_getElem? (i := 19) (by decide +kernel)) rfl
theorem tw_261 : (Jvm.Cond.lays "ScrapHouse$Child" "ScrapHouse$Child" "moveCount" "I") ∈ gw := gw_in2 (List.mem_of_getElem? (i := 21) (by decide +kernel)) rfl
theorem tw_263 : (Jvm.Cond.lays "ScrapHouse$Child" "ScrapHouse$Child" "mother" "I") ∈ gw := gw_in2 (List.mem_of_getElem? (i := 23) (by decide +kernel)) rfl
theorem tw_265 : (Jvm.Cond.lays "ScrapHouse$Child" "ScrapHouse$Child" "askers" "I") ∈ gw := gw_in2 (List.mem_of_getElem? (i := 25) (by decide +kernel)) rfl
theorem tw_268 : (Jvm.Cond.methodLink "ScrapHouseLaw" (39 : Nat) ({ cls := "ScrapHouse", name := "beds", desc := "(II)Z" } : Jvm.MethodName)) ∈ gw := gw_in2 (List.mem_of_getElem? (i := 28) (by decide +kernel)) rfl
theorem tw_269 : (Jvm.Cond.instanceMethod ({ cls := "ScrapHouse", name := "beds", desc := "(II)Z" } : Jvm.MethodName)) ∈ gw := gw_in2 (List.mem_of_getElem? (i := 29) (by decide +kernel)) rfl
theorem tw_270 : (Jvm.Cond.selects "ScrapHouse" ({ cls := "ScrapHouse", name := "beds", desc := "(II)Z" } : Jvm.MethodName) ({ cls := "ScrapHouse", name := "beds", desc := "(II)Z" } : Jvm.MethodName)) ∈ gw := gw_in2 (List.mem_of_getElem? (i := 30) (by decide +kernel)) rfl
theorem tw_271 : (Jvm.Cond.code ({ cls := "ScrapHouse", name := "beds", desc := "(II)Z" } : Jvm.MethodName) prog_1_method_7_code (4 : Nat) (Option.some Jvm.ClassFile.FieldType.boolean)) ∈ gw := gw_in2 (List.mem_of_getElem? (i := 31) (rfl)) rfl
theorem tw_272 : (Jvm.Cond.methodLink "ScrapHouse" (90 : Nat) ({ cls := "ScrapHouse", name := "findNurse", desc := "(I)LScrapHouse$Nurse;" } : Jvm.MethodName)) ∈ gw := gw_in2 (List.mem_of_getElem? (i := 32) (by decide +kernel)) rfl
theorem tw_274 : (Jvm.Cond.instanceMethod ({ cls := "ScrapHouse", name := "findNurse", desc := "(I)LScrapHouse$Nurse;" } : Jvm.MethodName)) ∈ gw := gw_in2 (List.mem_of_getElem? (i := 34) (by decide +kernel)) rfl
theorem tw_275 : (Jvm.Cond.code ({ cls := "ScrapHouse", name := "findNurse", desc := "(I)LScrapHouse$Nurse;" } : Jvm.MethodName) prog_1_method_33_code (2 : Nat) (Option.some (Jvm.ClassFile.FieldType.object "ScrapHouse$Nurse"))) ∈ gw := gw_in2 (List.mem_of_getElem? (i := 35) (rfl)) rfl
theorem tw_276 : (Jvm.Cond.methodLink "ScrapHouse" (94 : Nat) ({ cls := "ScrapHouse", name := "isOver", desc := "(III)Z" } : Jvm.MethodName)) ∈ gw := gw_in2 (List.mem_of_getElem? (i := 36) (by decide +kernel)) rfl
theorem tw_278 : (Jvm.Cond.instanceMethod ({ cls := "ScrapHouse", name := "isOver", desc := "(III)Z" } : Jvm.MethodName)) ∈ gw := gw_in2 (List.mem_of_getElem? (i := 38) (by decide +kernel)) rfl
theorem tw_279 : (Jvm.Cond.code ({ cls := "ScrapHouse", name := "isOver", desc := "(III)Z" } : Jvm.MethodName) prog_1_method_36_code (7 : Nat) (Option.some Jvm.ClassFile.FieldType.boolean)) ∈ gw := gw_in2 (List.mem_of_getElem? (i := 39) (rfl)) rfl
theorem tw_280 : (Jvm.Cond.methodLink "ScrapHouse" (152 : Nat) ({ cls := "ScrapHouse", name := "childrenAt", desc := "(III)I" } : Jvm.MethodName)) ∈ gw := gw_in2 (List.mem_of_getElem? (i := 40) (by decide +kernel)) rfl
theorem tw_282 : (Jvm.Cond.instanceMethod ({ cls := "ScrapHouse", name := "childrenAt", desc := "(III)I" } : Jvm.MethodName)) ∈ gw := gw_in2 (List.mem_of_getElem? (i := 42) (by decide +kernel)) rfl
theorem tw_283 : (Jvm.Cond.code ({ cls := "ScrapHouse", name := "childrenAt", desc := "(III)I" } : Jvm.MethodName) prog_1_method_35_code (6 : Nat) (Option.some Jvm.ClassFile.FieldType.int)) ∈ gw := gw_in2 (List.mem_of_getElem? (i := 43) (rfl)) rfl
theorem tw_284 : (Jvm.Cond.methodLink "ScrapHouse" (135 : Nat) ({ cls := "ScrapHouse$Child", name := "placeOn", desc := "(II)I" } : Jvm.MethodName)) ∈ gw := gw_in2 (List.mem_of_getElem? (i := 44) (by decide +kernel)) rfl
theorem tw_285 : (Jvm.Cond.instanceMethod ({ cls := "ScrapHouse$Child", name := "placeOn", desc := "(II)I" } : Jvm.MethodName)) ∈ gw := gw_in2 (List.mem_of_getElem? (i := 45) (by decide +kernel)) rfl
theorem tw_286 : (Jvm.Cond.selects "ScrapHouse$Child" ({ cls := "ScrapHouse$Child", name := "placeOn", desc := "(II)I" } : Jvm.MethodName) ({ cls := "ScrapHouse$Child", name := "placeOn", desc := "(II)I" } : Jvm.MethodName)) ∈ gw := gw_in2 (List.mem_of_getElem? (i := 46) (by decide +kernel)) rfl
theorem tw_287 : (Jvm.Cond.code ({ cls := "ScrapHouse$Child", name := "placeOn", desc := "(II)I" } : Jvm.MethodName) prog_3_method_4_code (5 : Nat) (Option.some Jvm.ClassFile.FieldType.int)) ∈ gw := gw_in2 (List.mem_of_getElem? (i := 47) (rfl)) rfl
theorem tw_288 : (Jvm.Cond.methodLink "ScrapHouseLaw" (44 : Nat) ({ cls := "ScrapHouse", name := "move", desc := "(III)Z" } : Jvm.MethodName)) ∈ gw := gw_in2 (List.mem_of_getElem? (i := 48) (by decide +kernel)) rfl
theorem tw_289 : (Jvm.Cond.instanceMethod ({ cls := "ScrapHouse", name := "move", desc := "(III)Z" } : Jvm.MethodName)) ∈ gw := gw_in2 (List.mem_of_getElem? (i := 49) (by decide +kernel)) rfl
theorem tw_290 : (Jvm.Cond.selects "ScrapHouse" ({ cls := "ScrapHouse", name := "move", desc := "(III)Z" } : Jvm.MethodName) ({ cls := "ScrapHouse", name := "move", desc := "(III)Z" } : Jvm.MethodName)) ∈ gw := gw_in2 (List.mem_of_getElem? (i := 50) (by decide +kernel)) rfl
theorem tw_291 : (Jvm.Cond.code ({ cls := "ScrapHouse", name := "move", desc := "(III)Z" } : Jvm.MethodName) prog_1_method_8_code (8 : Nat) (Option.some Jvm.ClassFile.FieldType.boolean)) ∈ gw := gw_in2 (List.mem_of_getElem? (i := 51) (rfl)) rfl
theorem tw_292 : (Jvm.Cond.methodLink "ScrapHouse" (100 : Nat) ({ cls := "ScrapHouse", name := "findChild", desc := "(I)LScrapHouse$Child;" } : Jvm.MethodName)) ∈ gw := gw_in2 (List.mem_of_getElem? (i := 52) (by decide +kernel)) rfl
theorem tw_294 : (Jvm.Cond.instanceMethod ({ cls := "ScrapHouse", name := "findChild", desc := "(I)LScrapHouse$Child;" } : Jvm.MethodName)) ∈ gw := gw_in2 (List.mem_of_getElem? (i := 54) (by decide +kernel)) rfl
theorem tw_295 : (Jvm.Cond.code ({ cls := "ScrapHouse", name := "findChild", desc := "(I)LScrapHouse$Child;" } : Jvm.MethodName) prog_1_method_32_code (2 : Nat) (Option.some (Jvm.ClassFile.FieldType.object "ScrapHouse$Child"))) ∈ gw := gw_in2 (List.mem_of_getElem? (i := 55) (rfl)) rfl
theorem tw_296 : (Jvm.Cond.methodLink "ScrapHouse" (104 : Nat) ({ cls := "ScrapHouse", name := "isPlace", desc := "(I)Z" } : Jvm.MethodName)) ∈ gw := gw_in2 (List.mem_of_getElem? (i := 56) (by decide +kernel)) rfl
theorem tw_297 : (Jvm.Cond.static ({ cls := "ScrapHouse", name := "isPlace", desc := "(I)Z" } : Jvm.MethodName)) ∈ gw := gw_in2 (List.mem_of_getElem? (i := 57) (by decide +kernel)) rfl
theorem tw_298 : (Jvm.Cond.code ({ cls := "ScrapHouse", name := "isPlace", desc := "(I)Z" } : Jvm.MethodName) prog_1_method_27_code (1 : Nat) (Option.some Jvm.ClassFile.FieldType.boolean)) ∈ gw := gw_in2 (List.mem_of_getElem? (i := 58) (rfl)) rfl
theorem tw_299 : (Jvm.Cond.methodLink "ScrapHouse" (114 : Nat) ({ cls := "ScrapHouse", name := "isGone", desc := "(LScrapHouse$Child;I)Z" } : Jvm.MethodName)) ∈ gw := gw_in2 (List.mem_of_getElem? (i := 59) (by decide +kernel)) rfl
theorem tw_301 : (Jvm.Cond.instanceMethod ({ cls := "ScrapHouse", name := "isGone", desc := "(LScrapHouse$Child;I)Z" } : Jvm.MethodName)) ∈ gw := gw_in2 (List.mem_of_getElem? (i := 61) (by decide +kernel)) rfl
theorem tw_302 : (Jvm.Cond.code ({ cls := "ScrapHouse", name := "isGone", desc := "(LScrapHouse$Child;I)Z" } : Jvm.MethodName) prog_1_method_34_code (4 : Nat) (Option.some Jvm.ClassFile.FieldType.boolean)) ∈ gw := gw_in2 (List.mem_of_getElem? (i := 62) (rfl)) rfl
theorem tw_303 : (Jvm.Cond.methodLink "ScrapHouse" (118 : Nat) ({ cls := "ScrapHouse$Child", name := "lastUpTo", desc := "(I)LScrapHouse$Move;" } : Jvm.MethodName)) ∈ gw := gw_in2 (List.mem_of_getElem? (i := 63) (by decide +kernel)) rfl
theorem tw_304 : (Jvm.Cond.instanceMethod ({ cls := "ScrapHouse$Child", name := "lastUpTo", desc := "(I)LScrapHouse$Move;" } : Jvm.MethodName)) ∈ gw := gw_in2 (List.mem_of_getElem? (i := 64) (by decide +kernel)) rfl
theorem tw_305 : (Jvm.Cond.selects "ScrapHouse$Child" ({ cls := "ScrapHouse$Child", name := "lastUpTo", desc := "(I)LScrapHouse$Move;" } : Jvm.MethodName) ({ cls := "ScrapHouse$Child", name := "lastUpTo", desc := "(I)LScrapHouse$Move;" } : Jvm.MethodName)) ∈ gw := gw_in2 (List.mem_of_getElem? (i := 65) (by decide +kernel)) rfl
theorem tw_306 : (Jvm.Cond.code ({ cls := "ScrapHouse$Child", name := "lastUpTo", desc := "(I)LScrapHouse$Move;" } : Jvm.MethodName) prog_3_method_3_code (3 : Nat) (Option.some (Jvm.ClassFile.FieldType.object "ScrapHouse$Move"))) ∈ gw := gw_in2 (List.mem_of_getElem? (i := 66) (rfl)) rfl
theorem tw_307 : (Jvm.Cond.classLink "ScrapHouse" (122 : Nat) "ScrapHouse$Move") ∈ gw := gw_in2 (List.mem_of_getElem? (i := 67) (by decide +kernel)) rfl
theorem tw_308 : (Jvm.Cond.methodLink "ScrapHouse" (124 : Nat) ({ cls := "ScrapHouse$Move", name := "<init>", desc := "(III)V" } : Jvm.MethodName)) ∈ gw := gw_in2 (List.mem_of_getElem? (i := 68) (by decide +kernel)) rfl
theorem tw_309 : (Jvm.Cond.methodLink "ScrapHouseLaw" (49 : Nat) ({ cls := "ScrapHouse", name := "place", desc := "(III)I" } : Jvm.MethodName)) ∈ gw := gw_in2 (List.mem_of_getElem? (i := 69) (by decide +kernel)) rfl
theorem tw_310 : (Jvm.Cond.instanceMethod ({ cls := "ScrapHouse", name := "place", desc := "(III)I" } : Jvm.MethodName)) ∈ gw := gw_in2 (List.mem_of_getElem? (i := 70) (by decide +kernel)) rfl
theorem tw_311 : (Jvm.Cond.selects "ScrapHouse" ({ cls := "ScrapHouse", name := "place", desc := "(III)I" } : Jvm.MethodName) ({ cls := "ScrapHouse", name := "place", desc := "(III)I" } : Jvm.MethodName)) ∈ gw := gw_in2 (List.mem_of_getElem? (i := 71) (by decide +kernel)) rfl
theorem tw_312 : (Jvm.Cond.code ({ cls := "ScrapHouse", name := "place", desc := "(III)I" } : Jvm.MethodName) prog_1_method_9_code (5 : Nat) (Option.some Jvm.ClassFile.FieldType.int)) ∈ gw := gw_in2 (List.mem_of_getElem? (i := 72) (rfl)) rfl
theorem tw_313 : (Jvm.Cond.methodLink "ScrapHouse" (132 : Nat) ({ cls := "ScrapHouse", name := "isPast", desc := "(I)Z" } : Jvm.MethodName)) ∈ gw := gw_in2 (List.mem_of_getElem? (i := 73) (by decide +kernel)) rfl
theorem tw_315 : (Jvm.Cond.instanceMethod ({ cls := "ScrapHouse", name := "isPast", desc := "(I)Z" } : Jvm.MethodName)) ∈ gw := gw_in2 (List.mem_of_getElem? (i := 75) (by decide +kernel)) rfl
theorem tw_316 : (Jvm.Cond.code ({ cls := "ScrapHouse", name := "isPast", desc := "(I)Z" } : Jvm.MethodName) prog_1_method_30_code (2 : Nat) (Option.some Jvm.ClassFile.FieldType.boolean)) ∈ gw := gw_in2 (List.mem_of_getElem? (i := 76) (rfl)) rfl
theorem tw_317 : (Jvm.Cond.methodLink "ScrapHouseLaw" (54 : Nat) ({ cls := "ScrapHouse", name := "look", desc := "(I)Z" } : Jvm.MethodName)) ∈ gw := gw_in2 (List.mem_of_getElem? (i := 77) (by decide +kernel)) rfl
theorem tw_318 : (Jvm.Cond.instanceMethod ({ cls := "ScrapHouse", name := "look", desc := "(I)Z" } : Jvm.MethodName)) ∈ gw := gw_in2 (List.mem_of_getElem? (i := 78) (by decide +kernel)) rfl
theorem tw_319 : (Jvm.Cond.selects "ScrapHouse" ({ cls := "ScrapHouse", name := "look", desc := "(I)Z" } : Jvm.MethodName) ({ cls := "ScrapHouse", name := "look", desc := "(I)Z" } : Jvm.MethodName)) ∈ gw := gw_in2 (List.mem_of_getElem? (i := 79) (by decide +kernel)) rfl
theorem tw_320 : (Jvm.Cond.code ({ cls := "ScrapHouse", name := "look", desc := "(I)Z" } : Jvm.MethodName) prog_1_method_10_code (3 : Nat) (Option.some Jvm.ClassFile.FieldType.boolean)) ∈ gw := gw_in2 (List.mem_of_getElem? (i := 80) (rfl)) rfl
theorem tw_321 : (Jvm.Cond.classLink "ScrapHouse" (144 : Nat) "ScrapHouse$Look") ∈ gw := gw_in2 (List.mem_of_getElem? (i := 81) (by decide +kernel)) rfl
theorem tw_322 : (Jvm.Cond.instantiable "ScrapHouse$Look" (2 : Nat)) ∈ gw := gw_in2 (List.mem_of_getElem? (i := 82) (by decide +kernel)) rfl
theorem tw_323 : (Jvm.Cond.methodLink "ScrapHouse" (146 : Nat) ({ cls := "ScrapHouse$Look", name := "<init>", desc := "(ILScrapHouse$Look;)V" } : Jvm.MethodName)) ∈ gw := gw_in2 (List.mem_of_getElem? (i := 83) (by decide +kernel)) rfl
theorem tw_324 : (Jvm.Cond.instanceMethod ({ cls := "ScrapHouse$Look", name := "<init>", desc := "(ILScrapHouse$Look;)V" } : Jvm.MethodName)) ∈ gw := gw_in2 (List.mem_of_getElem? (i := 84) (by decide +kernel)) rfl
theorem tw_325 : (Jvm.Cond.code ({ cls := "ScrapHouse$Look", name := "<init>", desc := "(ILScrapHouse$Look;)V" } : Jvm.MethodName) prog_6_method_1_code (3 : Nat) (Option.none : Option Jvm.ClassFile.FieldType)) ∈ gw := gw_in2 (List.mem_of_getElem? (i := 85) (rfl)) rfl
theorem tw_326 : (Jvm.Cond.methodLink "ScrapHouse$Look" (1 : Nat) ({ cls := "java/lang/Object", name := "<init>", desc := "()V" } : Jvm.MethodName)) ∈ gw := gw_in2 (List.mem_of_getElem? (i := 86) (by decide +kernel)) rfl
theorem tw_327 : (Jvm.Cond.fieldLink "ScrapHouse$Look" (7 : Nat) "ScrapHouse$Look" "day" "I") ∈ gw := gw_in2 (List.mem_of_getElem? (i := 87) (by decide +kernel)) rfl
theorem tw_328 : (Jvm.Cond.fieldLink "ScrapHouse" (143 : Nat) "ScrapHouse$Look" "day" "I") ∈ gw := gw_in2 (List.mem_of_getElem? (i := 88) (by decide +kernel)) rfl
theorem tw_329 : (Jvm.Cond.fieldLink "ScrapHouse$Look" (13 : Nat) "ScrapHouse$Look" "earlier" "LScrapHouse$Look;") ∈ gw := gw_in2 (List.mem_of_getElem? (i := 89) (by decide +kernel)) rfl
theorem tw_330 : (Jvm.Cond.fieldLink "ScrapHouse" (246 : Nat) "ScrapHouse$Look" "earlier" "LScrapHouse$Look;") ∈ gw := gw_in2 (List.mem_of_getElem? (i := 90) (by decide +kernel)) rfl
theorem tw_331 : (Jvm.Cond.laysFinal "ScrapHouse$Look" "ScrapHouse$Look" "day" "I") ∈ gw := gw_in2 (List.mem_of_getElem? (i := 91) (by decide +kernel)) rfl
theorem tw_333 : (Jvm.Cond.laysFinal "ScrapHouse$Look" "ScrapHouse$Look" "earlier" "LScrapHouse$Look;") ∈ gw := gw_in2 (List.mem_of_getElem? (i := 93) (by decide +kernel)) rfl
theorem tw_336 : (Jvm.Cond.methodLink "ScrapHouseLaw" (59 : Nat) ({ cls := "ScrapHouse", name := "many", desc := "(III)I" } : Jvm.MethodName)) ∈ gw := gw_in2 (List.mem_of_getElem? (i := 96) (by decide +kernel)) rfl
theorem tw_337 : (Jvm.Cond.instanceMethod ({ cls := "ScrapHouse", name := "many", desc := "(III)I" } : Jvm.MethodName)) ∈ gw := gw_in2 (List.mem_of_getElem? (i := 97) (by decide +kernel)) rfl
theorem tw_338 : (Jvm.Cond.selects "ScrapHouse" ({ cls := "ScrapHouse", name := "many", desc := "(III)I" } : Jvm.MethodName) ({ cls := "ScrapHouse", name := "many", desc := "(III)I" } : Jvm.MethodName)) ∈ gw := gw_in2 (List.mem_of_getElem? (i := 98) (by decide +kernel)) rfl
theorem tw_339 : (Jvm.Cond.code ({ cls := "ScrapHouse", name := "many", desc := "(III)I" } : Jvm.MethodName) prog_1_method_11_code (4 : Nat) (Option.some Jvm.ClassFile.FieldType.int)) ∈ gw := gw_in2 (List.mem_of_getElem? (i := 99) (rfl)) rfl
theorem tw_340 : (Jvm.Cond.methodLink "ScrapHouseLaw" (63 : Nat) ({ cls := "ScrapHouse", name := "pay", desc := "(IIII)I" } : Jvm.MethodName)) ∈ gw := gw_in2 (List.mem_of_getElem? (i := 100) (by decide +kernel)) rfl
theorem tw_341 : (Jvm.Cond.instanceMethod ({ cls := "ScrapHouse", name := "pay", desc := "(IIII)I" } : Jvm.MethodName)) ∈ gw := gw_in2 (List.mem_of_getElem? (i := 101) (by decide +kernel)) rfl
theorem tw_342 : (Jvm.Cond.selects "ScrapHouse" ({ cls := "ScrapHouse", name := "pay", desc := "(IIII)I" } : Jvm.MethodName) ({ cls := "ScrapHouse", name := "pay", desc := "(IIII)I" } : Jvm.MethodName)) ∈ gw := gw_in2 (List.mem_of_getElem? (i := 102) (by decide +kernel)) rfl
theorem tw_343 : (Jvm.Cond.code ({ cls := "ScrapHouse", name := "pay", desc := "(IIII)I" } : Jvm.MethodName) prog_1_method_12_code (6 : Nat) (Option.some Jvm.ClassFile.FieldType.int)) ∈ gw := gw_in2 (List.mem_of_getElem? (i := 103) (rfl)) rfl
theorem tw_344 : (Jvm.Cond.methodLink "ScrapHouse" (156 : Nat) ({ cls := "ScrapHouse", name := "areWeeks", desc := "(II)Z" } : Jvm.MethodName)) ∈ gw := gw_in2 (List.mem_of_getElem? (i := 104) (by decide +kernel)) rfl
theorem tw_345 : (Jvm.Cond.static ({ cls := "ScrapHouse", name := "areWeeks", desc := "(II)Z" } : Jvm.MethodName)) ∈ gw := gw_in2 (List.mem_of_getElem? (i := 105) (by decide +kernel)) rfl
theorem tw_346 : (Jvm.Cond.code ({ cls := "ScrapHouse", name := "areWeeks", desc := "(II)Z" } : Jvm.MethodName) prog_1_method_29_code (2 : Nat) (Option.some Jvm.ClassFile.FieldType.boolean)) ∈ gw := gw_in2 (List.mem_of_getElem? (i := 106) (rfl)) rfl
theorem tw_347 : (Jvm.Cond.methodLink "ScrapHouse" (159 : Nat) ({ cls := "ScrapHouse", name := "seenDays", desc := "(ILScrapHouse$Look;III)I" } : Jvm.MethodName)) ∈ gw := gw_in2 (List.mem_of_getElem? (i := 107) (by decide +kernel)) rfl
theorem tw_349 : (Jvm.Cond.instanceMethod ({ cls := "ScrapHouse", name := "seenDays", desc := "(ILScrapHouse$Look;III)I" } : Jvm.MethodName)) ∈ gw := gw_in2 (List.mem_of_getElem? (i := 109) (by decide +kernel)) rfl
theorem tw_350 : (Jvm.Cond.code ({ cls := "ScrapHouse", name := "seenDays", desc := "(ILScrapHouse$Look;III)I" } : Jvm.MethodName) prog_1_method_38_code (11 : Nat) (Option.some Jvm.ClassFile.FieldType.int)) ∈ gw := gw_in2 (List.mem_of_getElem? (i := 110) (rfl)) rfl
theorem tw_351 : (Jvm.Cond.methodLink "ScrapHouse" (163 : Nat) ({ cls := "ScrapHouse", name := "daysWith", desc := "(IIII)I" } : Jvm.MethodName)) ∈ gw := gw_in2 (List.mem_of_getElem? (i := 111) (by decide +kernel)) rfl
theorem tw_353 : (Jvm.Cond.instanceMethod ({ cls := "ScrapHouse", name := "daysWith", desc := "(IIII)I" } : Jvm.MethodName)) ∈ gw := gw_in2 (List.mem_of_getElem? (i := 113) (by decide +kernel)) rfl
theorem tw_354 : (Jvm.Cond.code ({ cls := "ScrapHouse", name := "daysWith", desc := "(IIII)I" } : Jvm.MethodName) prog_1_method_37_code (9 : Nat) (Option.some Jvm.ClassFile.FieldType.int)) ∈ gw := gw_in2 (List.mem_of_getElem? (i := 114) (rfl)) rfl
theorem tw_355 : (Jvm.Cond.methodLink "ScrapHouse" (238 : Nat) ({ cls := "java/lang/Math", name := "min", desc := "(II)I" } : Jvm.MethodName)) ∈ gw := gw_in2 (List.mem_of_getElem? (i := 115) (by decide +kernel)) rfl
theorem tw_356 : (Jvm.Cond.static ({ cls := "java/lang/Math", name := "min", desc := "(II)I" } : Jvm.MethodName)) ∈ gw := gw_in2 (List.mem_of_getElem? (i := 116) (by decide +kernel)) rfl
theorem tw_357 : (Jvm.Cond.code ({ cls := "java/lang/Math", name := "min", desc := "(II)I" } : Jvm.MethodName) prog_13_method_69_code (2 : Nat) (Option.some Jvm.ClassFile.FieldType.int)) ∈ gw := gw_in2 (List.mem_of_getElem? (i := 117) (rfl)) rfl
theorem tw_358 : (Jvm.Cond.methodLink "ScrapHouse" (243 : Nat) ({ cls := "ScrapHouse$Child", name := "daysAt", desc := "(IIII)I" } : Jvm.MethodName)) ∈ gw := gw_in2 (List.mem_of_getElem? (i := 118) (by decide +kernel)) rfl
theorem tw_359 : (Jvm.Cond.instanceMethod ({ cls := "ScrapHouse$Child", name := "daysAt", desc := "(IIII)I" } : Jvm.MethodName)) ∈ gw := gw_in2 (List.mem_of_getElem? (i := 119) (by decide +kernel)) rfl
theorem tw_360 : (Jvm.Cond.selects "ScrapHouse$Child" ({ cls := "ScrapHouse$Child", name := "daysAt", desc := "(IIII)I" } : Jvm.MethodName) ({ cls := "ScrapHouse$Child", name := "daysAt", desc := "(IIII)I" } : Jvm.MethodName)) ∈ gw := gw_in2 (List.mem_of_getElem? (i := 120) (by decide +kernel)) rfl
theorem tw_361 : (Jvm.Cond.code ({ cls := "ScrapHouse$Child", name := "daysAt", desc := "(IIII)I" } : Jvm.MethodName) prog_3_method_5_code (10 : Nat) (Option.some Jvm.ClassFile.FieldType.int)) ∈ gw := gw_in2 (List.mem_of_getElem? (i := 121) (rfl)) rfl
theorem tw_362 : (Jvm.Cond.methodLink "ScrapHouse$Child" (58 : Nat) ({ cls := "java/lang/Math", name := "max", desc := "(II)I" } : Jvm.MethodName)) ∈ gw := gw_in2 (List.mem_of_getElem? (i := 122) (by decide +kernel)) rfl
theorem tw_363 : (Jvm.Cond.static ({ cls := "java/lang/Math", name := "max", desc := "(II)I" } : Jvm.MethodName)) ∈ gw := gw_in2 (List.mem_of_getElem? (i := 123) (by decide +kernel)) rfl
theorem tw_364 : (Jvm.Cond.code ({ cls := "java/lang/Math", name := "max", desc := "(II)I" } : Jvm.MethodName) prog_13_method_65_code (2 : Nat) (Option.some Jvm.ClassFile.FieldType.int)) ∈ gw := gw_in2 (List.mem_of_getElem? (i := 124) (rfl)) rfl
theorem tw_365 : (Jvm.Cond.methodLink "ScrapHouseLaw" (68 : Nat) ({ cls := "ScrapHouse", name := "gap", desc := "(IIII)I" } : Jvm.MethodName)) ∈ gw := gw_in2 (List.mem_of_getElem? (i := 125) (by decide +kernel)) rfl
theorem tw_366 : (Jvm.Cond.instanceMethod ({ cls := "ScrapHouse", name := "gap", desc := "(IIII)I" } : Jvm.MethodName)) ∈ gw := gw_in2 (List.mem_of_getElem? (i := 126) (by decide +kernel)) rfl
theorem tw_367 : (Jvm.Cond.selects "ScrapHouse" ({ cls := "ScrapHouse", name := "gap", desc := "(IIII)I" } : Jvm.MethodName) ({ cls := "ScrapHouse", name := "gap", desc := "(IIII)I" } : Jvm.MethodName)) ∈ gw := gw_in2 (List.mem_of_getElem? (i := 127) (by decide +kernel)) rfl
theorem tw_368 : (Jvm.Cond.code ({ cls := "ScrapHouse", name := "gap", desc := "(IIII)I" } : Jvm.MethodName) prog_1_method_13_code (7 : Nat) (Option.some Jvm.ClassFile.FieldType.int)) ∈ gw := gw_in2 (List.mem_of_getElem? (i := 128) (rfl)) rfl
theorem tw_369 : (Jvm.Cond.methodLink "ScrapHouseLaw" (72 : Nat) ({ cls := "ScrapHouse", name := "off", desc := "(III)I" } : Jvm.MethodName)) ∈ gw := gw_in2 (List.mem_of_getElem? (i := 129) (by decide +kernel)) rfl
theorem tw_370 : (Jvm.Cond.instanceMethod ({ cls := "ScrapHouse", name := "off", desc := "(III)I" } : Jvm.MethodName)) ∈ gw := gw_in2 (List.mem_of_getElem? (i := 130) (by decide +kernel)) rfl
theorem tw_371 : (Jvm.Cond.selects "ScrapHouse" ({ cls := "ScrapHouse", name := "off", desc := "(III)I" } : Jvm.MethodName) ({ cls := "ScrapHouse", name := "off", desc := "(III)I" } : Jvm.MethodName)) ∈ gw := gw_in2 (List.mem_of_getElem? (i := 131) (by decide +kernel)) rfl
theorem tw_372 : (Jvm.Cond.code ({ cls := "ScrapHouse", name := "off", desc := "(III)I" } : Jvm.MethodName) prog_1_method_14_code (5 : Nat) (Option.some Jvm.ClassFile.FieldType.int)) ∈ gw := gw_in2 (List.mem_of_getElem? (i := 132) (rfl)) rfl
theorem tw_373 : (Jvm.Cond.methodLink "ScrapHouse" (171 : Nat) ({ cls := "ScrapHouse$Half", name := "farOff", desc := "(LScrapHouse$Half;)I" } : Jvm.MethodName)) ∈ gw := gw_in2 (List.mem_of_getElem? (i := 133) (by decide +kernel)) rfl
theorem tw_374 : (Jvm.Cond.instanceMethod ({ cls := "ScrapHouse$Half", name := "farOff", desc := "(LScrapHouse$Half;)I" } : Jvm.MethodName)) ∈ gw := gw_in2 (List.mem_of_getElem? (i := 134) (by decide +kernel)) rfl
theorem tw_375 : (Jvm.Cond.selects "ScrapHouse$Half" ({ cls := "ScrapHouse$Half", name := "farOff", desc := "(LScrapHouse$Half;)I" } : Jvm.MethodName) ({ cls := "ScrapHouse$Half", name := "farOff", desc := "(LScrapHouse$Half;)I" } : Jvm.MethodName)) ∈ gw := gw_in2 (List.mem_of_getElem? (i := 135) (by decide +kernel)) rfl
theorem tw_376 : (Jvm.Cond.code ({ cls := "ScrapHouse$Half", name := "farOff", desc := "(LScrapHouse$Half;)I" } : Jvm.MethodName) prog_5_method_3_code (4 : Nat) (Option.some Jvm.ClassFile.FieldType.int)) ∈ gw := gw_in2 (List.mem_of_getElem? (i := 136) (rfl)) rfl
theorem tw_377 : (Jvm.Cond.methodLink "ScrapHouse$Half" (23 : Nat) ({ cls := "ScrapHouse$Half", name := "unlike", desc := "(II)I" } : Jvm.MethodName)) ∈ gw := gw_in2 (List.mem_of_getElem? (i := 137) (by decide +kernel)) rfl
theorem tw_379 : (Jvm.Cond.instanceMethod ({ cls := "ScrapHouse$Half", name := "unlike", desc := "(II)I" } : Jvm.MethodName)) ∈ gw := gw_in2 (List.mem_of_getElem? (i := 139) (by decide +kernel)) rfl
theorem tw_380 : (Jvm.Cond.code ({ cls := "ScrapHouse$Half", name := "unlike", desc := "(II)I" } : Jvm.MethodName) prog_5_method_4_code (6 : Nat) (Option.some Jvm.ClassFile.FieldType.int)) ∈ gw := gw_in2 (List.mem_of_getElem? (i := 140) (rfl)) rfl
theorem tw_381 : (Jvm.Cond.methodLink "ScrapHouse$Half" (36 : Nat) ({ cls := "ScrapHouse$Half", name := "numberAt", desc := "(II)I" } : Jvm.MethodName)) ∈ gw := gw_in2 (List.mem_of_getElem? (i := 141) (by decide +kernel)) rfl
theorem tw_382 : (Jvm.Cond.static ({ cls := "ScrapHouse$Half", name := "numberAt", desc := "(II)I" } : Jvm.MethodName)) ∈ gw := gw_in2 (List.mem_of_getElem? (i := 142) (by decide +kernel)) rfl
theorem tw_383 : (Jvm.Cond.code ({ cls := "ScrapHouse$Half", name := "numberAt", desc := "(II)I" } : Jvm.MethodName) prog_5_method_5_code (2 : Nat) (Option.some Jvm.ClassFile.FieldType.int)) ∈ gw := gw_in2 (List.mem_of_getElem? (i := 143) (rfl)) rfl
theorem tw_384 : (Jvm.Cond.methodLink "ScrapHouse$Half" (27 : Nat) ({ cls := "ScrapHouse$Half", name := "turn", desc := "(I)I" } : Jvm.MethodName)) ∈ gw := gw_in2 (List.mem_of_getElem? (i := 144) (by decide +kernel)) rfl
theorem tw_385 : (Jvm.Cond.static ({ cls := "ScrapHouse$Half", name := "turn", desc := "(I)I" } : Jvm.MethodName)) ∈ gw := gw_in2 (List.mem_of_getElem? (i := 145) (by decide +kernel)) rfl
theorem tw_386 : (Jvm.Cond.code ({ cls := "ScrapHouse$Half", name := "turn", desc := "(I)I" } : Jvm.MethodName) prog_5_method_6_code (3 : Nat) (Option.some Jvm.ClassFile.FieldType.int)) ∈ gw := gw_in2 (List.mem_of_getElem? (i := 146) (rfl)) rfl
theorem tw_387 : (Jvm.Cond.methodLink "ScrapHouse$Half" (31 : Nat) ({ cls := "java/lang/Math", name := "min", desc := "(II)I" } : Jvm.MethodName)) ∈ gw := gw_in2 (List.mem_of_getElem? (i := 147) (by decide +kernel)) rfl
theorem tw_388 : (Jvm.Cond.methodLink "ScrapHouseLaw" (76 : Nat) ({ cls := "ScrapHouse", name := "feed", desc := "(I)I" } : Jvm.MethodName)) ∈ gw := gw_in2 (List.mem_of_getElem? (i := 148) (by decide +kernel)) rfl
theorem tw_389 : (Jvm.Cond.instanceMethod ({ cls := "ScrapHouse", name := "feed", desc := "(I)I" } : Jvm.MethodName)) ∈ gw := gw_in2 (List.mem_of_getElem? (i := 149) (by decide +kernel)) rfl
theorem tw_390 : (Jvm.Cond.selects "ScrapHouse" ({ cls := "ScrapHouse", name := "feed", desc := "(I)I" } : Jvm.MethodName) ({ cls := "ScrapHouse", name := "feed", desc := "(I)I" } : Jvm.MethodName)) ∈ gw := gw_in2 (List.mem_of_getElem? (i := 150) (by decide +kernel)) rfl
theorem tw_391 : (Jvm.Cond.code ({ cls := "ScrapHouse", name := "feed", desc := "(I)I" } : Jvm.MethodName) prog_1_method_15_code (4 : Nat) (Option.some Jvm.ClassFile.FieldType.int)) ∈ gw := gw_in2 (List.mem_of_getElem? (i := 151) (rfl)) rfl
theorem tw_392 : (Jvm.Cond.methodLink "ScrapHouse" (178 : Nat) ({ cls := "ScrapHouse$Text", name := "add", desc := "(I)V" } : Jvm.MethodName)) ∈ gw := gw_in2 (List.mem_of_getElem? (i := 152) (by decide +kernel)) rfl
theorem tw_393 : (Jvm.Cond.instanceMethod ({ cls := "ScrapHouse$Text", name := "add", desc := "(I)V" } : Jvm.MethodName)) ∈ gw := gw_in2 (List.mem_of_getElem? (i := 153) (by decide +kernel)) rfl
theorem tw_394 : (Jvm.Cond.selects "ScrapHouse$Text" ({ cls := "ScrapHouse$Text", name := "add", desc := "(I)V" } : Jvm.MethodName) ({ cls := "ScrapHouse$Text", name := "add", desc := "(I)V" } : Jvm.MethodName)) ∈ gw := gw_in2 (List.mem_of_getElem? (i := 154) (by decide +kernel)) rfl
theorem tw_395 : (Jvm.Cond.code ({ cls := "ScrapHouse$Text", name := "add", desc := "(I)V" } : Jvm.MethodName) prog_10_method_2_code (2 : Nat) (Option.none : Option Jvm.ClassFile.FieldType)) ∈ gw := gw_in2 (List.mem_of_getElem? (i := 155) (rfl)) rfl
theorem tw_396 : (Jvm.Cond.methodLink "ScrapHouseLaw" (80 : Nat) ({ cls := "ScrapHouse", name := "end", desc := "(I)Z" } : Jvm.MethodName)) ∈ gw := gw_in2 (List.mem_of_getElem? (i := 156) (by decide +kernel)) rfl
theorem tw_397 : (Jvm.Cond.instanceMethod ({ cls := "ScrapHouse", name := "end", desc := "(I)Z" } : Jvm.MethodName)) ∈ gw := gw_in2 (List.mem_of_getElem? (i := 157) (by decide +kernel)) rfl
theorem tw_398 : (Jvm.Cond.selects "ScrapHouse" ({ cls := "ScrapHouse", name := "end", desc := "(I)Z" } : Jvm.MethodName) ({ cls := "ScrapHouse", name := "end", desc := "(I)Z" } : Jvm.MethodName)) ∈ gw := gw_in2 (List.mem_of_getElem? (i := 158) (by decide +kernel)) rfl
theorem tw_399 : (Jvm.Cond.code ({ cls := "ScrapHouse", name := "end", desc := "(I)Z" } : Jvm.MethodName) prog_1_method_16_code (2 : Nat) (Option.some Jvm.ClassFile.FieldType.boolean)) ∈ gw := gw_in2 (List.mem_of_getElem? (i := 159) (rfl)) rfl
theorem tw_400 : (Jvm.Cond.methodLink "ScrapHouseLaw" (84 : Nat) ({ cls := "ScrapHouse", name := "fault", desc := "()I" } : Jvm.MethodName)) ∈ gw := gw_in2 (List.mem_of_getElem? (i := 160) (by decide +kernel)) rfl
theorem tw_401 : (Jvm.Cond.instanceMethod ({ cls := "ScrapHouse", name := "fault", desc := "()I" } : Jvm.MethodName)) ∈ gw := gw_in2 (List.mem_of_getElem? (i := 161) (by decide +kernel)) rfl
theorem tw_402 : (Jvm.Cond.selects "ScrapHouse" ({ cls := "ScrapHouse", name := "fault", desc := "()I" } : Jvm.MethodName) ({ cls := "ScrapHouse", name := "fault", desc := "()I" } : Jvm.MethodName)) ∈ gw := gw_in2 (List.mem_of_getElem? (i := 162) (by decide +kernel)) rfl
theorem tw_403 : (Jvm.Cond.code ({ cls := "ScrapHouse", name := "fault", desc := "()I" } : Jvm.MethodName) prog_1_method_17_code (1 : Nat) (Option.some Jvm.ClassFile.FieldType.int)) ∈ gw := gw_in2 (List.mem_of_getElem? (i := 163) (rfl)) rfl
theorem tw_404 : (Jvm.Cond.methodLink "ScrapHouse" (182 : Nat) ({ cls := "ScrapHouse$Reader", name := "faultOf", desc := "(LScrapHouse$Text;)I" } : Jvm.MethodName)) ∈ gw := gw_in2 (List.mem_of_getElem? (i := 164) (by decide +kernel)) rfl
theorem tw_405 : (Jvm.Cond.instanceMethod ({ cls := "ScrapHouse$Reader", name := "faultOf", desc := "(LScrapHouse$Text;)I" } : Jvm.MethodName)) ∈ gw := gw_in2 (List.mem_of_getElem? (i := 165) (by decide +kernel)) rfl
theorem tw_406 : (Jvm.Cond.selects "ScrapHouse$Reader" ({ cls := "ScrapHouse$Reader", name := "faultOf", desc := "(LScrapHouse$Text;)I" } : Jvm.MethodName) ({ cls := "ScrapHouse$Reader", name := "faultOf", desc := "(LScrapHouse$Text;)I" } : Jvm.MethodName)) ∈ gw := gw_in2 (List.mem_of_getElem? (i := 166) (by decide +kernel)) rfl
theorem tw_407 : (Jvm.Cond.code ({ cls := "ScrapHouse$Reader", name := "faultOf", desc := "(LScrapHouse$Text;)I" } : Jvm.MethodName) prog_9_method_2_code (2 : Nat) (Option.some Jvm.ClassFile.FieldType.int)) ∈ gw := gw_in2 (List.mem_of_getElem? (i := 167) (rfl)) rfl
theorem tw_408 : (Jvm.Cond.methodLink "ScrapHouse$Reader" (23 : Nat) ({ cls := "ScrapHouse$Reader", name := "holds", desc := "(LScrapHouse$Text;)Z" } : Jvm.MethodName)) ∈ gw := gw_in2 (List.mem_of_getElem? (i := 168) (by decide +kernel)) rfl
theorem tw_409 : (Jvm.Cond.instanceMethod ({ cls := "ScrapHouse$Reader", name := "holds", desc := "(LScrapHouse$Text;)Z" } : Jvm.MethodName)) ∈ gw := gw_in2 (List.mem_of_getElem? (i := 169) (by decide +kernel)) rfl
theorem tw_410 : (Jvm.Cond.selects "ScrapHouse$Reader" ({ cls := "ScrapHouse$Reader", name := "holds", desc := "(LScrapHouse$Text;)Z" } : Jvm.MethodName) ({ cls := "ScrapHouse$Reader", name := "holds", desc := "(LScrapHouse$Text;)Z" } : Jvm.MethodName)) ∈ gw := gw_in2 (List.mem_of_getElem? (i := 170) (by decide +kernel)) rfl
theorem tw_411 : (Jvm.Cond.code ({ cls := "ScrapHouse$Reader", name := "holds", desc := "(LScrapHouse$Text;)Z" } : Jvm.MethodName) prog_9_method_3_code (3 : Nat) (Option.some Jvm.ClassFile.FieldType.boolean)) ∈ gw := gw_in2 (List.mem_of_getElem? (i := 171) (rfl)) rfl
theorem tw_412 : (Jvm.Cond.methodLink "ScrapHouse$Reader" (34 : Nat) ({ cls := "ScrapHouse$Reader", name := "tests", desc := "(I)Z" } : Jvm.MethodName)) ∈ gw := gw_in2 (List.mem_of_getElem? (i := 172) (by decide +kernel)) rfl
theorem tw_414 : (Jvm.Cond.instanceMethod ({ cls := "ScrapHouse$Reader", name := "tests", desc := "(I)Z" } : Jvm.MethodName)) ∈ gw := gw_in2 (List.mem_of_getElem? (i := 174) (by decide +kernel)) rfl
theorem tw_415 : (Jvm.Cond.code ({ cls := "ScrapHouse$Reader", name := "tests", desc := "(I)Z" } : Jvm.MethodName) prog_9_method_4_code (5 : Nat) (Option.some Jvm.ClassFile.FieldType.boolean)) ∈ gw := gw_in2 (List.mem_of_getElem? (i := 175) (rfl)) rfl
theorem tw_416 : (Jvm.Cond.methodLink "ScrapHouse$Reader" (45 : Nat) ({ cls := "ScrapHouse$Reader", name := "part", desc := "(I)Z" } : Jvm.MethodName)) ∈ gw := gw_in2 (List.mem_of_getElem? (i := 176) (by decide +kernel)) rfl
theorem tw_418 : (Jvm.Cond.instanceMethod ({ cls := "ScrapHouse$Reader", name := "part", desc := "(I)Z" } : Jvm.MethodName)) ∈ gw := gw_in2 (List.mem_of_getElem? (i := 178) (by decide +kernel)) rfl
theorem tw_419 : (Jvm.Cond.code ({ cls := "ScrapHouse$Reader", name := "part", desc := "(I)Z" } : Jvm.MethodName) prog_9_method_5_code (5 : Nat) (Option.some Jvm.ClassFile.FieldType.boolean)) ∈ gw := gw_in2 (List.mem_of_getElem? (i := 179) (rfl)) rfl
theorem tw_420 : (Jvm.Cond.methodLink "ScrapHouse$Reader" (52 : Nat) ({ cls := "ScrapHouse$Reader", name := "unit", desc := "(I)Z" } : Jvm.MethodName)) ∈ gw := gw_in2 (List.mem_of_getElem? (i := 180) (by decide +kernel)) rfl
theorem tw_422 : (Jvm.Cond.instanceMethod ({ cls := "ScrapHouse$Reader", name := "unit", desc := "(I)Z" } : Jvm.MethodName)) ∈ gw := gw_in2 (List.mem_of_getElem? (i := 182) (by decide +kernel)) rfl
theorem tw_423 : (Jvm.Cond.code ({ cls := "ScrapHouse$Reader", name := "unit", desc := "(I)Z" } : Jvm.MethodName) prog_9_method_6_code (3 : Nat) (Option.some Jvm.ClassFile.FieldType.boolean)) ∈ gw := gw_in2 (List.mem_of_getElem? (i := 183) (rfl)) rfl
theorem tw_424 : (Jvm.Cond.methodLink "ScrapHouse$Reader" (38 : Nat) ({ cls := "ScrapHouse$Reader", name := "next", desc := "()I" } : Jvm.MethodName)) ∈ gw := gw_in2 (List.mem_of_getElem? (i := 184) (by decide +kernel)) rfl
theorem tw_426 : (Jvm.Cond.instanceMethod ({ cls := "ScrapHouse$Reader", name := "next", desc := "()I" } : Jvm.MethodName)) ∈ gw := gw_in2 (List.mem_of_getElem? (i := 186) (by decide +kernel)) rfl
theorem tw_427 : (Jvm.Cond.code ({ cls := "ScrapHouse$Reader", name := "next", desc := "()I" } : Jvm.MethodName) prog_9_method_12_code (1 : Nat) (Option.some Jvm.ClassFile.FieldType.int)) ∈ gw := gw_in2 (List.mem_of_getElem? (i := 187) (rfl)) rfl
theorem tw_428 : (Jvm.Cond.methodLink "ScrapHouse$Reader" (68 : Nat) ({ cls := "ScrapHouse$Text", name := "byteAt", desc := "(I)I" } : Jvm.MethodName)) ∈ gw := gw_in2 (List.mem_of_getElem? (i := 188) (by decide +kernel)) rfl
theorem tw_429 : (Jvm.Cond.instanceMethod ({ cls := "ScrapHouse$Text", name := "byteAt", desc := "(I)I" } : Jvm.MethodName)) ∈ gw := gw_in2 (List.mem_of_getElem? (i := 189) (by decide +kernel)) rfl
theorem tw_430 : (Jvm.Cond.selects "ScrapHouse$Text" ({ cls := "ScrapHouse$Text", name := "byteAt", desc := "(I)I" } : Jvm.MethodName) ({ cls := "ScrapHouse$Text", name := "byteAt", desc := "(I)I" } : Jvm.MethodName)) ∈ gw := gw_in2 (List.mem_of_getElem? (i := 190) (by decide +kernel)) rfl
theorem tw_431 : (Jvm.Cond.code ({ cls := "ScrapHouse$Text", name := "byteAt", desc := "(I)I" } : Jvm.MethodName) prog_10_method_3_code (2 : Nat) (Option.some Jvm.ClassFile.FieldType.int)) ∈ gw := gw_in2 (List.mem_of_getElem? (i := 191) (rfl)) rfl
theorem tw_433 : (Jvm.Cond.methodLink "ScrapHouse$Reader" (55 : Nat) ({ cls := "ScrapHouse$Reader", name := "test", desc := "()Z" } : Jvm.MethodName)) ∈ gw := gw_in2 (List.mem_of_getElem? (i := 193) (by decide +kernel)) rfl
theorem tw_435 : (Jvm.Cond.instanceMethod ({ cls := "ScrapHouse$Reader", name := "test", desc := "()Z" } : Jvm.MethodName)) ∈ gw := gw_in2 (List.mem_of_getElem? (i := 195) (by decide +kernel)) rfl
theorem tw_436 : (Jvm.Cond.code ({ cls := "ScrapHouse$Reader", name := "test", desc := "()Z" } : Jvm.MethodName) prog_9_method_7_code (2 : Nat) (Option.some Jvm.ClassFile.FieldType.boolean)) ∈ gw := gw_in2 (List.mem_of_getElem? (i := 196) (rfl)) rfl
theorem tw_437 : (Jvm.Cond.methodLink "ScrapHouse$Reader" (59 : Nat) ({ cls := "ScrapHouse$Reader", name := "letterValue", desc := "()I" } : Jvm.MethodName)) ∈ gw := gw_in2 (List.mem_of_getElem? (i := 197) (by decide +kernel)) rfl
theorem tw_439 : (Jvm.Cond.instanceMethod ({ cls := "ScrapHouse$Reader", name := "letterValue", desc := "()I" } : Jvm.MethodName)) ∈ gw := gw_in2 (List.mem_of_getElem? (i := 199) (by decide +kernel)) rfl
theorem tw_440 : (Jvm.Cond.code ({ cls := "ScrapHouse$Reader", name := "letterValue", desc := "()I" } : Jvm.MethodName) prog_9_method_8_code (3 : Nat) (Option.some Jvm.ClassFile.FieldType.int)) ∈ gw := gw_in2 (List.mem_of_getElem? (i := 200) (rfl)) rfl
theorem tw_441 : (Jvm.Cond.methodLink "ScrapHouse$Reader" (42 : Nat) ({ cls := "ScrapHouse$Reader", name := "fail", desc := "()V" } : Jvm.MethodName)) ∈ gw := gw_in2 (List.mem_of_getElem? (i := 201) (by decide +kernel)) rfl
theorem tw_443 : (Jvm.Cond.instanceMethod ({ cls := "ScrapHouse$Reader", name := "fail", desc := "()V" } : Jvm.MethodName)) ∈ gw := gw_in2 (List.mem_of_getElem? (i := 203) (by decide +kernel)) rfl
theorem tw_444 : (Jvm.Cond.code ({ cls := "ScrapHouse$Reader", name := "fail", desc := "()V" } : Jvm.MethodName) prog_9_method_13_code (1 : Nat) (Option.none : Option Jvm.ClassFile.FieldType)) ∈ gw := gw_in2 (List.mem_of_getElem? (i := 204) (rfl)) rfl
theorem tw_445 : (Jvm.Cond.methodLink "ScrapHouse$Reader" (48 : Nat) ({ cls := "ScrapHouse$Reader", name := "take", desc := "(C)Z" } : Jvm.MethodName)) ∈ gw := gw_in2 (List.mem_of_getElem? (i := 205) (by decide +kernel)) rfl
theorem tw_447 : (Jvm.Cond.instanceMethod ({ cls := "ScrapHouse$Reader", name := "take", desc := "(C)Z" } : Jvm.MethodName)) ∈ gw := gw_in2 (List.mem_of_getElem? (i := 207) (by decide +kernel)) rfl
theorem tw_448 : (Jvm.Cond.code ({ cls := "ScrapHouse$Reader", name := "take", desc := "(C)Z" } : Jvm.MethodName) prog_9_method_11_code (3 : Nat) (Option.some Jvm.ClassFile.FieldType.boolean)) ∈ gw := gw_in2 (List.mem_of_getElem? (i := 208) (rfl)) rfl
theorem tw_449 : (Jvm.Cond.methodLink "ScrapHouse$Reader" (62 : Nat) ({ cls := "ScrapHouse$Reader", name := "number", desc := "()I" } : Jvm.MethodName)) ∈ gw := gw_in2 (List.mem_of_getElem? (i := 209) (by decide +kernel)) rfl
theorem tw_451 : (Jvm.Cond.instanceMethod ({ cls := "ScrapHouse$Reader", name := "number", desc := "()I" } : Jvm.MethodName)) ∈ gw := gw_in2 (List.mem_of_getElem? (i := 211) (by decide +kernel)) rfl
theorem tw_452 : (Jvm.Cond.code ({ cls := "ScrapHouse$Reader", name := "number", desc := "()I" } : Jvm.MethodName) prog_9_method_9_code (3 : Nat) (Option.some Jvm.ClassFile.FieldType.int)) ∈ gw := gw_in2 (List.mem_of_getElem? (i := 212) (rfl)) rfl
theorem tw_453 : (Jvm.Cond.methodLink "ScrapHouse$Reader" (65 : Nat) ({ cls := "ScrapHouse$Reader", name := "isDigit", desc := "(I)Z" } : Jvm.MethodName)) ∈ gw := gw_in2 (List.mem_of_getElem? (i := 213) (by decide +kernel)) rfl
theorem tw_454 : (Jvm.Cond.static ({ cls := "ScrapHouse$Reader", name := "isDigit", desc := "(I)Z" } : Jvm.MethodName)) ∈ gw := gw_in2 (List.mem_of_getElem? (i := 214) (by decide +kernel)) rfl
theorem tw_455 : (Jvm.Cond.code ({ cls := "ScrapHouse$Reader", name := "isDigit", desc := "(I)Z" } : Jvm.MethodName) prog_9_method_10_code (1 : Nat) (Option.some Jvm.ClassFile.FieldType.boolean)) ∈ gw := gw_in2 (List.mem_of_getElem? (i := 215) (rfl)) rfl
theorem tw_457 : (Jvm.Cond.methodLink "ScrapHouseLaw" (89 : Nat) ({ cls := "ScrapHouse", name := "rule", desc := "()Z" } : Jvm.MethodName)) ∈ gw := gw_in2 (List.mem_of_getElem? (i := 217) (by decide +kernel)) rfl
theorem tw_458 : (Jvm.Cond.instanceMethod ({ cls := "ScrapHouse", name := "rule", desc := "()Z" } : Jvm.MethodName)) ∈ gw := gw_in2 (List.mem_of_getElem? (i := 218) (by decide +kernel)) rfl
theorem tw_459 : (Jvm.Cond.selects "ScrapHouse" ({ cls := "ScrapHouse", name := "rule", desc := "()Z" } : Jvm.MethodName) ({ cls := "ScrapHouse", name := "rule", desc := "()Z" } : Jvm.MethodName)) ∈ gw := gw_in2 (List.mem_of_getElem? (i := 219) (by decide +kernel)) rfl
theorem tw_460 : (Jvm.Cond.code ({ cls := "ScrapHouse", name := "rule", desc := "()Z" } : Jvm.MethodName) prog_1_method_18_code (2 : Nat) (Option.some Jvm.ClassFile.FieldType.boolean)) ∈ gw := gw_in2 (List.mem_of_getElem? (i := 220) (rfl)) rfl
theorem tw_461 : (Jvm.Cond.methodLink "ScrapHouseLaw" (94 : Nat) ({ cls := "ScrapHouse", name := "claim", desc := "(IIIIII)I" } : Jvm.MethodName)) ∈ gw := gw_in2 (List.mem_of_getElem? (i := 221) (by decide +kernel)) rfl
theorem tw_462 : (Jvm.Cond.instanceMethod ({ cls := "ScrapHouse", name := "claim", desc := "(IIIIII)I" } : Jvm.MethodName)) ∈ gw := gw_in2 (List.mem_of_getElem? (i := 222) (by decide +kernel)) rfl
theorem tw_463 : (Jvm.Cond.selects "ScrapHouse" ({ cls := "ScrapHouse", name := "claim", desc := "(IIIIII)I" } : Jvm.MethodName) ({ cls := "ScrapHouse", name := "claim", desc := "(IIIIII)I" } : Jvm.MethodName)) ∈ gw := gw_in2 (List.mem_of_getElem? (i := 223) (by decide +kernel)) rfl
theorem tw_464 : (Jvm.Cond.code ({ cls := "ScrapHouse", name := "claim", desc := "(IIIIII)I" } : Jvm.MethodName) prog_1_method_19_code (7 : Nat) (Option.some Jvm.ClassFile.FieldType.int)) ∈ gw := gw_in2 (List.mem_of_getElem? (i := 224) (rfl)) rfl
theorem tw_465 : (Jvm.Cond.classLink "ScrapHouse" (189 : Nat) "ScrapHouse$Claim") ∈ gw := gw_in2 (List.mem_of_getElem? (i := 225) (by decide +kernel)) rfl
theorem tw_466 : (Jvm.Cond.instantiable "ScrapHouse$Claim" (5 : Nat)) ∈ gw := gw_in2 (List.mem_of_getElem? (i := 226) (by decide +kernel)) rfl
theorem tw_467 : (Jvm.Cond.methodLink "ScrapHouse" (191 : Nat) ({ cls := "ScrapHouse$Claim", name := "<init>", desc := "(LScrapHouse$Half;IIII)V" } : Jvm.MethodName)) ∈ gw := gw_in2 (List.mem_of_getElem? (i := 227) (by decide +kernel)) rfl
theorem tw_468 : (Jvm.Cond.instanceMethod ({ cls := "ScrapHouse$Claim", name := "<init>", desc := "(LScrapHouse$Half;IIII)V" } : Jvm.MethodName)) ∈ gw := gw_in2 (List.mem_of_getElem? (i := 228) (by decide +kernel)) rfl
theorem tw_469 : (Jvm.Cond.code ({ cls := "ScrapHouse$Claim", name := "<init>", desc := "(LScrapHouse$Half;IIII)V" } : Jvm.MethodName) prog_4_method_1_code (6 : Nat) (Option.none : Option Jvm.ClassFile.FieldType)) ∈ gw := gw_in2 (List.mem_of_getElem? (i := 229) (rfl)) rfl
theorem tw_470 : (Jvm.Cond.methodLink "ScrapHouse$Claim" (3 : Nat) ({ cls := "java/lang/Object", name := "<init>", desc := "()V" } : Jvm.MethodName)) ∈ gw := gw_in2 (List.mem_of_getElem? (i := 230) (by decide +kernel)) rfl
theorem tw_471 : (Jvm.Cond.fieldLink "ScrapHouse$Claim" (9 : Nat) "ScrapHouse$Claim" "half" "LScrapHouse$Half;") ∈ gw := gw_in2 (List.mem_of_getElem? (i := 231) (by decide +kernel)) rfl
theorem tw_472 : (Jvm.Cond.fieldLink "ScrapHouse" (261 : Nat) "ScrapHouse$Claim" "half" "LScrapHouse$Half;") ∈ gw := gw_in2 (List.mem_of_getElem? (i := 232) (by decide +kernel)) rfl
theorem tw_473 : (Jvm.Cond.fieldLink "ScrapHouse$Claim" (15 : Nat) "ScrapHouse$Claim" "first" "I") ∈ gw := gw_in2 (List.mem_of_getElem? (i := 233) (by decide +kernel)) rfl
theorem tw_474 : (Jvm.Cond.fieldLink "ScrapHouse$Claim" (19 : Nat) "ScrapHouse$Claim" "last" "I") ∈ gw := gw_in2 (List.mem_of_getElem? (i := 234) (by decide +kernel)) rfl
theorem tw_475 : (Jvm.Cond.fieldLink "ScrapHouse$Claim" (22 : Nat) "ScrapHouse$Claim" "sex" "I") ∈ gw := gw_in2 (List.mem_of_getElem? (i := 235) (by decide +kernel)) rfl
theorem tw_476 : (Jvm.Cond.fieldLink "ScrapHouse$Claim" (25 : Nat) "ScrapHouse$Claim" "mark" "I") ∈ gw := gw_in2 (List.mem_of_getElem? (i := 236) (by decide +kernel)) rfl
theorem tw_477 : (Jvm.Cond.laysFinal "ScrapHouse$Claim" "ScrapHouse$Claim" "half" "LScrapHouse$Half;") ∈ gw := gw_in2 (List.mem_of_getElem? (i := 237) (by decide +kernel)) rfl
theorem tw_479 : (Jvm.Cond.laysFinal "ScrapHouse$Claim" "ScrapHouse$Claim" "first" "I") ∈ gw := gw_in2 (List.mem_of_getElem? (i := 239) (by decide +kernel)) rfl
theorem tw_481 : (Jvm.Cond.laysFinal "ScrapHouse$Claim" "ScrapHouse$Claim" "last" "I") ∈ gw := gw_in3 (List.mem_of_getElem? (i := 1) (by decide +kernel)) rfl
theorem tw_483 : (Jvm.Cond.laysFinal "ScrapHouse$Claim" "ScrapHouse$Claim" "sex" "I") ∈ gw := gw_in3 (List.mem_of_getElem? (i := 3) (by decide +kernel)) rfl
theorem tw_485 : (Jvm.Cond.laysFinal "ScrapHouse$Claim" "ScrapHouse$Claim" "mark" "I") ∈ gw := gw_in3 (List.mem_of_getElem? (i := 5) (by decide +kernel)) rfl
theorem tw_488 : (Jvm.Cond.methodLink "ScrapHouse" (194 : Nat) ({ cls := "ScrapHouse", name := "answerTo", desc := "(LScrapHouse$Claim;)I" } : Jvm.MethodName)) ∈ gw := gw_in3 (List.mem_of_getElem? (i := 8) (by decide +kernel)) rfl
theorem tw_490 : (Jvm.Cond.instanceMethod ({ cls := "ScrapHouse", name := "answerTo", desc := "(LScrapHouse$Claim;)I" } : Jvm.MethodName)) ∈ gw := gw_in3 (List.mem_of_getElem? (i := 10) (by decide +kernel)) rfl
theorem tw_491 : (Jvm.Cond.code ({ cls := "ScrapHouse", name := "answerTo", desc := "(LScrapHouse$Claim;)I" } : Jvm.MethodName) prog_1_method_39_code (6 : Nat) (Option.some Jvm.ClassFile.FieldType.int)) ∈ gw := gw_in3 (List.mem_of_getElem? (i := 11) (rfl)) rfl
theorem tw_492 : (Jvm.Cond.methodLink "ScrapHouse" (249 : Nat) ({ cls := "ScrapHouse$Claim", name := "disagreeing", desc := "(LScrapHouse$Child;)I" } : Jvm.MethodName)) ∈ gw := gw_in3 (List.mem_of_getElem? (i := 12) (by decide +kernel)) rfl
theorem tw_493 : (Jvm.Cond.instanceMethod ({ cls := "ScrapHouse$Claim", name := "disagreeing", desc := "(LScrapHouse$Child;)I" } : Jvm.MethodName)) ∈ gw := gw_in3 (List.mem_of_getElem? (i := 13) (by decide +kernel)) rfl
theorem tw_494 : (Jvm.Cond.selects "ScrapHouse$Claim" ({ cls := "ScrapHouse$Claim", name := "disagreeing", desc := "(LScrapHouse$Child;)I" } : Jvm.MethodName) ({ cls := "ScrapHouse$Claim", name := "disagreeing", desc := "(LScrapHouse$Child;)I" } : Jvm.MethodName)) ∈ gw := gw_in3 (List.mem_of_getElem? (i := 14) (by decide +kernel)) rfl
theorem tw_495 : (Jvm.Cond.code ({ cls := "ScrapHouse$Claim", name := "disagreeing", desc := "(LScrapHouse$Child;)I" } : Jvm.MethodName) prog_4_method_3_code (3 : Nat) (Option.some Jvm.ClassFile.FieldType.int)) ∈ gw := gw_in3 (List.mem_of_getElem? (i := 15) (rfl)) rfl
theorem tw_497 : (Jvm.Cond.methodLink "ScrapHouse" (253 : Nat) ({ cls := "ScrapHouse", name := "holdsOf", desc := "(LScrapHouse$Child;LScrapHouse$Claim;I)Z" } : Jvm.MethodName)) ∈ gw := gw_in3 (List.mem_of_getElem? (i := 17) (by decide +kernel)) rfl
theorem tw_499 : (Jvm.Cond.instanceMethod ({ cls := "ScrapHouse", name := "holdsOf", desc := "(LScrapHouse$Child;LScrapHouse$Claim;I)Z" } : Jvm.MethodName)) ∈ gw := gw_in3 (List.mem_of_getElem? (i := 19) (by decide +kernel)) rfl
theorem tw_500 : (Jvm.Cond.code ({ cls := "ScrapHouse", name := "holdsOf", desc := "(LScrapHouse$Child;LScrapHouse$Claim;I)Z" } : Jvm.MethodName) prog_1_method_40_code (4 : Nat) (Option.some Jvm.ClassFile.FieldType.boolean)) ∈ gw := gw_in3 (List.mem_of_getElem? (i := 20) (rfl)) rfl
theorem tw_501 : (Jvm.Cond.methodLink "ScrapHouse" (262 : Nat) ({ cls := "ScrapHouse$Claim", name := "agreeing", desc := "(LScrapHouse$Child;)I" } : Jvm.MethodName)) ∈ gw := gw_in3 (List.mem_of_getElem? (i := 21) (by decide +kernel)) rfl
theorem tw_502 : (Jvm.Cond.instanceMethod ({ cls := "ScrapHouse$Claim", name := "agreeing", desc := "(LScrapHouse$Child;)I" } : Jvm.MethodName)) ∈ gw := gw_in3 (List.mem_of_getElem? (i := 22) (by decide +kernel)) rfl
theorem tw_503 : (Jvm.Cond.selects "ScrapHouse$Claim" ({ cls := "ScrapHouse$Claim", name := "agreeing", desc := "(LScrapHouse$Child;)I" } : Jvm.MethodName) ({ cls := "ScrapHouse$Claim", name := "agreeing", desc := "(LScrapHouse$Child;)I" } : Jvm.MethodName)) ∈ gw := gw_in3 (List.mem_of_getElem? (i := 23) (by decide +kernel)) rfl
theorem tw_504 : (Jvm.Cond.code ({ cls := "ScrapHouse$Claim", name := "agreeing", desc := "(LScrapHouse$Child;)I" } : Jvm.MethodName) prog_4_method_2_code (3 : Nat) (Option.some Jvm.ClassFile.FieldType.int)) ∈ gw := gw_in3 (List.mem_of_getElem? (i := 24) (rfl)) rfl
theorem tw_505 : (Jvm.Cond.methodLink "ScrapHouse" (265 : Nat) ({ cls := "ScrapHouse$Reader", name := "holds", desc := "(LScrapHouse$Text;)Z" } : Jvm.MethodName)) ∈ gw := gw_in3 (List.mem_of_getElem? (i := 25) (by decide +kernel)) rfl
theorem tw_506 : (Jvm.Cond.methodLink "ScrapHouseLaw" (98 : Nat) ({ cls := "ScrapHouse", name := "name", desc := "(II)Z" } : Jvm.MethodName)) ∈ gw := gw_in3 (List.mem_of_getElem? (i := 26) (by decide +kernel)) rfl
theorem tw_507 : (Jvm.Cond.instanceMethod ({ cls := "ScrapHouse", name := "name", desc := "(II)Z" } : Jvm.MethodName)) ∈ gw := gw_in3 (List.mem_of_getElem? (i := 27) (by decide +kernel)) rfl
theorem tw_508 : (Jvm.Cond.selects "ScrapHouse" ({ cls := "ScrapHouse", name := "name", desc := "(II)Z" } : Jvm.MethodName) ({ cls := "ScrapHouse", name := "name", desc := "(II)Z" } : Jvm.MethodName)) ∈ gw := gw_in3 (List.mem_of_getElem? (i := 28) (by decide +kernel)) rfl
theorem tw_509 : (Jvm.Cond.code ({ cls := "ScrapHouse", name := "name", desc := "(II)Z" } : Jvm.MethodName) prog_1_method_20_code (4 : Nat) (Option.some Jvm.ClassFile.FieldType.boolean)) ∈ gw := gw_in3 (List.mem_of_getElem? (i := 29) (rfl)) rfl
theorem tw_510 : (Jvm.Cond.constant "ScrapHouse" (198 : Nat) (1000000 : Int32)) ∈ gw := gw_in3 (List.mem_of_getElem? (i := 30) (by decide +kernel)) rfl
theorem tw_511 : (Jvm.Cond.methodLink "ScrapHouseLaw" (102 : Nat) ({ cls := "ScrapHouse", name := "allow", desc := "(IIZ)Z" } : Jvm.MethodName)) ∈ gw := gw_in3 (List.mem_of_getElem? (i := 31) (by decide +kernel)) rfl
theorem tw_512 : (Jvm.Cond.instanceMethod ({ cls := "ScrapHouse", name := "allow", desc := "(IIZ)Z" } : Jvm.MethodName)) ∈ gw := gw_in3 (List.mem_of_getElem? (i := 32) (by decide +kernel)) rfl
theorem tw_513 : (Jvm.Cond.selects "ScrapHouse" ({ cls := "ScrapHouse", name := "allow", desc := "(IIZ)Z" } : Jvm.MethodName) ({ cls := "ScrapHouse", name := "allow", desc := "(IIZ)Z" } : Jvm.MethodName)) ∈ gw := gw_in3 (List.mem_of_getElem? (i := 33) (by decide +kernel)) rfl
theorem tw_514 : (Jvm.Cond.code ({ cls := "ScrapHouse", name := "allow", desc := "(IIZ)Z" } : Jvm.MethodName) prog_1_method_21_code (5 : Nat) (Option.some Jvm.ClassFile.FieldType.boolean)) ∈ gw := gw_in3 (List.mem_of_getElem? (i := 34) (rfl)) rfl
theorem tw_515 : (Jvm.Cond.methodLink "ScrapHouse" (202 : Nat) ({ cls := "ScrapHouse", name := "isWho", desc := "(I)Z" } : Jvm.MethodName)) ∈ gw := gw_in3 (List.mem_of_getElem? (i := 35) (by decide +kernel)) rfl
theorem tw_516 : (Jvm.Cond.static ({ cls := "ScrapHouse", name := "isWho", desc := "(I)Z" } : Jvm.MethodName)) ∈ gw := gw_in3 (List.mem_of_getElem? (i := 36) (by decide +kernel)) rfl
theorem tw_517 : (Jvm.Cond.code ({ cls := "ScrapHouse", name := "isWho", desc := "(I)Z" } : Jvm.MethodName) prog_1_method_28_code (1 : Nat) (Option.some Jvm.ClassFile.FieldType.boolean)) ∈ gw := gw_in3 (List.mem_of_getElem? (i := 37) (rfl)) rfl
theorem tw_518 : (Jvm.Cond.methodLink "ScrapHouse" (205 : Nat) ({ cls := "ScrapHouse$Child", name := "mayAsk", desc := "(I)Z" } : Jvm.MethodName)) ∈ gw := gw_in3 (List.mem_of_getElem? (i := 38) (by decide +kernel)) rfl
theorem tw_519 : (Jvm.Cond.instanceMethod ({ cls := "ScrapHouse$Child", name := "mayAsk", desc := "(I)Z" } : Jvm.MethodName)) ∈ gw := gw_in3 (List.mem_of_getElem? (i := 39) (by decide +kernel)) rfl
theorem tw_520 : (Jvm.Cond.selects "ScrapHouse$Child" ({ cls := "ScrapHouse$Child", name := "mayAsk", desc := "(I)Z" } : Jvm.MethodName) ({ cls := "ScrapHouse$Child", name := "mayAsk", desc := "(I)Z" } : Jvm.MethodName)) ∈ gw := gw_in3 (List.mem_of_getElem? (i := 40) (by decide +kernel)) rfl
theorem tw_521 : (Jvm.Cond.code ({ cls := "ScrapHouse$Child", name := "mayAsk", desc := "(I)Z" } : Jvm.MethodName) prog_3_method_2_code (2 : Nat) (Option.some Jvm.ClassFile.FieldType.boolean)) ∈ gw := gw_in3 (List.mem_of_getElem? (i := 41) (rfl)) rfl
theorem tw_522 : (Jvm.Cond.methodLink "ScrapHouseLaw" (107 : Nat) ({ cls := "ScrapHouse", name := "ask", desc := "(II)I" } : Jvm.MethodName)) ∈ gw := gw_in3 (List.mem_of_getElem? (i := 42) (by decide +kernel)) rfl
theorem tw_523 : (Jvm.Cond.instanceMethod ({ cls := "ScrapHouse", name := "ask", desc := "(II)I" } : Jvm.MethodName)) ∈ gw := gw_in3 (List.mem_of_getElem? (i := 43) (by decide +kernel)) rfl
theorem tw_524 : (Jvm.Cond.selects "ScrapHouse" ({ cls := "ScrapHouse", name := "ask", desc := "(II)I" } : Jvm.MethodName) ({ cls := "ScrapHouse", name := "ask", desc := "(II)I" } : Jvm.MethodName)) ∈ gw := gw_in3 (List.mem_of_getElem? (i := 44) (by decide +kernel)) rfl
theorem tw_525 : (Jvm.Cond.code ({ cls := "ScrapHouse", name := "ask", desc := "(II)I" } : Jvm.MethodName) prog_1_method_22_code (4 : Nat) (Option.some Jvm.ClassFile.FieldType.int)) ∈ gw := gw_in3 (List.mem_of_getElem? (i := 45) (rfl)) rfl
theorem tw_526 : (Jvm.Cond.methodLink "ScrapHouseLaw" (111 : Nat) ({ cls := "ScrapHouse", name := "guess", desc := "(III)I" } : Jvm.MethodName)) ∈ gw := gw_in3 (List.mem_of_getElem? (i := 46) (by decide +kernel)) rfl
theorem tw_527 : (Jvm.Cond.instanceMethod ({ cls := "ScrapHouse", name := "guess", desc := "(III)I" } : Jvm.MethodName)) ∈ gw := gw_in3 (List.mem_of_getElem? (i := 47) (by decide +kernel)) rfl
theorem tw_528 : (Jvm.Cond.selects "ScrapHouse" ({ cls := "ScrapHouse", name := "guess", desc := "(III)I" } : Jvm.MethodName) ({ cls := "ScrapHouse", name := "guess", desc := "(III)I" } : Jvm.MethodName)) ∈ gw := gw_in3 (List.mem_of_getElem? (i := 48) (by decide +kernel)) rfl
theorem tw_529 : (Jvm.Cond.code ({ cls := "ScrapHouse", name := "guess", desc := "(III)I" } : Jvm.MethodName) prog_1_method_23_code (5 : Nat) (Option.some Jvm.ClassFile.FieldType.int)) ∈ gw := gw_in3 (List.mem_of_getElem? (i := 49) (rfl)) rfl
theorem tw_530 : (Jvm.Cond.methodLink "ScrapHouseLaw" (115 : Nat) ({ cls := "ScrapHouse", name := "told", desc := "(II)I" } : Jvm.MethodName)) ∈ gw := gw_in3 (List.mem_of_getElem? (i := 50) (by decide +kernel)) rfl
theorem tw_531 : (Jvm.Cond.instanceMethod ({ cls := "ScrapHouse", name := "told", desc := "(II)I" } : Jvm.MethodName)) ∈ gw := gw_in3 (List.mem_of_getElem? (i := 51) (by decide +kernel)) rfl
theorem tw_532 : (Jvm.Cond.selects "ScrapHouse" ({ cls := "ScrapHouse", name := "told", desc := "(II)I" } : Jvm.MethodName) ({ cls := "ScrapHouse", name := "told", desc := "(II)I" } : Jvm.MethodName)) ∈ gw := gw_in3 (List.mem_of_getElem? (i := 52) (by decide +kernel)) rfl
theorem tw_533 : (Jvm.Cond.code ({ cls := "ScrapHouse", name := "told", desc := "(II)I" } : Jvm.MethodName) prog_1_method_24_code (4 : Nat) (Option.some Jvm.ClassFile.FieldType.int)) ∈ gw := gw_in3 (List.mem_of_getElem? (i := 53) (rfl)) rfl
theorem tw_534 : (Jvm.Cond.methodLink "ScrapHouseLaw" (119 : Nat) ({ cls := "ScrapHouse", name := "count", desc := "(I)I" } : Jvm.MethodName)) ∈ gw := gw_in3 (List.mem_of_getElem? (i := 54) (by decide +kernel)) rfl
theorem tw_535 : (Jvm.Cond.instanceMethod ({ cls := "ScrapHouse", name := "count", desc := "(I)I" } : Jvm.MethodName)) ∈ gw := gw_in3 (List.mem_of_getElem? (i := 55) (by decide +kernel)) rfl
theorem tw_536 : (Jvm.Cond.selects "ScrapHouse" ({ cls := "ScrapHouse", name := "count", desc := "(I)I" } : Jvm.MethodName) ({ cls := "ScrapHouse", name := "count", desc := "(I)I" } : Jvm.MethodName)) ∈ gw := gw_in3 (List.mem_of_getElem? (i := 56) (by decide +kernel)) rfl
theorem tw_537 : (Jvm.Cond.code ({ cls := "ScrapHouse", name := "count", desc := "(I)I" } : Jvm.MethodName) prog_1_method_25_code (2 : Nat) (Option.some Jvm.ClassFile.FieldType.int)) ∈ gw := gw_in3 (List.mem_of_getElem? (i := 57) (rfl)) rfl
theorem tw_538 : (Jvm.Cond.classLink "ScrapHouseLaw" (10 : Nat) "ScrapHouseModel") ∈ gw := gw_in3 (List.mem_of_getElem? (i := 58) (by decide +kernel)) rfl
theorem tw_539 : (Jvm.Cond.instantiable "ScrapHouseModel" (33 : Nat)) ∈ gw := gw_in3 (List.mem_of_getElem? (i := 59) (by decide +kernel)) rfl
theorem tw_540 : (Jvm.Cond.methodLink "ScrapHouseLaw" (12 : Nat) ({ cls := "ScrapHouseModel", name := "<init>", desc := "()V" } : Jvm.MethodName)) ∈ gw := gw_in3 (List.mem_of_getElem? (i := 60) (by decide +kernel)) rfl
theorem tw_541 : (Jvm.Cond.instanceMethod ({ cls := "ScrapHouseModel", name := "<init>", desc := "()V" } : Jvm.MethodName)) ∈ gw := gw_in3 (List.mem_of_getElem? (i := 61) (by decide +kernel)) rfl
theorem tw_542 : (Jvm.Cond.code ({ cls := "ScrapHouseModel", name := "<init>", desc := "()V" } : Jvm.MethodName) prog_12_method_2_code (2 : Nat) (Option.none : Option Jvm.ClassFile.FieldType)) ∈ gw := gw_in3 (List.mem_of_getElem? (i := 62) (rfl)) rfl
theorem tw_543 : (Jvm.Cond.methodLink "ScrapHouseModel" (1 : Nat) ({ cls := "java/lang/Object", name := "<init>", desc := "()V" } : Jvm.MethodName)) ∈ gw := gw_in3 (List.mem_of_getElem? (i := 63) (by decide +kernel)) rfl
theorem tw_544 : (Jvm.Cond.fieldLink "ScrapHouseModel" (81 : Nat) "ScrapHouseModel" "now" "I") ∈ gw := gw_in3 (List.mem_of_getElem? (i := 64) (by decide +kernel)) rfl
theorem tw_545 : (Jvm.Cond.fieldLink "ScrapHouseModel" (85 : Nat) "ScrapHouseModel" "ballots" "I") ∈ gw := gw_in3 (List.mem_of_getElem? (i := 65) (by decide +kernel)) rfl
theorem tw_546 : (Jvm.Cond.fieldLink "ScrapHouseModel" (101 : Nat) "ScrapHouseModel" "children" "I") ∈ gw := gw_in3 (List.mem_of_getElem? (i := 66) (by decide +kernel)) rfl
theorem tw_547 : (Jvm.Cond.fieldLink "ScrapHouseModel" (104 : Nat) "ScrapHouseModel" "moves" "I") ∈ gw := gw_in3 (List.mem_of_getElem? (i := 67) (by decide +kernel)) rfl
theorem tw_548 : (Jvm.Cond.fieldLink "ScrapHouseModel" (130 : Nat) "ScrapHouseModel" "looks" "I") ∈ gw := gw_in3 (List.mem_of_getElem? (i := 68) (by decide +kernel)) rfl
theorem tw_549 : (Jvm.Cond.fieldLink "ScrapHouseModel" (198 : Nat) "ScrapHouseModel" "rules" "I") ∈ gw := gw_in3 (List.mem_of_getElem? (i := 69) (by decide +kernel)) rfl
theorem tw_550 : (Jvm.Cond.fieldLink "ScrapHouseModel" (9 : Nat) "ScrapHouseModel" "women" "[I") ∈ gw := gw_in3 (List.mem_of_getElem? (i := 70) (by decide +kernel)) rfl
theorem tw_551 : (Jvm.Cond.fieldLink "ScrapHouseModel" (13 : Nat) "ScrapHouseModel" "ball" "[I") ∈ gw := gw_in3 (List.mem_of_getElem? (i := 71) (by decide +kernel)) rfl
theorem tw_552 : (Jvm.Cond.fieldLink "ScrapHouseModel" (16 : Nat) "ScrapHouseModel" "line" "[I") ∈ gw := gw_in3 (List.mem_of_getElem? (i := 72) (by decide +kernel)) rfl
theorem tw_553 : (Jvm.Cond.fieldLink "ScrapHouseModel" (19 : Nat) "ScrapHouseModel" "born" "[I") ∈ gw := gw_in3 (List.mem_of_getElem? (i := 73) (by decide +kernel)) rfl
theorem tw_554 : (Jvm.Cond.fieldLink "ScrapHouseModel" (22 : Nat) "ScrapHouseModel" "sex" "[I") ∈ gw := gw_in3 (List.mem_of_getElem? (i := 74) (by decide +kernel)) rfl
theorem tw_555 : (Jvm.Cond.fieldLink "ScrapHouseModel" (25 : Nat) "ScrapHouseModel" "mark" "[I") ∈ gw := gw_in3 (List.mem_of_getElem? (i := 75) (by decide +kernel)) rfl
theorem tw_556 : (Jvm.Cond.fieldLink "ScrapHouseModel" (28 : Nat) "ScrapHouseModel" "edge" "[I") ∈ gw := gw_in3 (List.mem_of_getElem? (i := 76) (by decide +kernel)) rfl
theorem tw_557 : (Jvm.Cond.fieldLink "ScrapHouseModel" (31 : Nat) "ScrapHouseModel" "threads" "[I") ∈ gw := gw_in3 (List.mem_of_getElem? (i := 77) (by decide +kernel)) rfl
theorem tw_558 : (Jvm.Cond.fieldLink "ScrapHouseModel" (34 : Nat) "ScrapHouseModel" "ofBallot" "[I") ∈ gw := gw_in3 (List.mem_of_getElem? (i := 78) (by decide +kernel)) rfl
theorem tw_559 : (Jvm.Cond.fieldLink "ScrapHouseModel" (37 : Nat) "ScrapHouseModel" "ofWoman" "[I") ∈ gw := gw_in3 (List.mem_of_getElem? (i := 79) (by decide +kernel)) rfl
theorem tw_560 : (Jvm.Cond.fieldLink "ScrapHouseModel" (40 : Nat) "ScrapHouseModel" "number" "[I") ∈ gw := gw_in3 (List.mem_of_getElem? (i := 80) (by decide +kernel)) rfl
theorem tw_561 : (Jvm.Cond.fieldLink "ScrapHouseModel" (43 : Nat) "ScrapHouseModel" "may" "[Z") ∈ gw := gw_in3 (List.mem_of_getElem? (i := 81) (by decide +kernel)) rfl
theorem tw_562 : (Jvm.Cond.fieldLink "ScrapHouseModel" (47 : Nat) "ScrapHouseModel" "moved" "[I") ∈ gw := gw_in3 (List.mem_of_getElem? (i := 82) (by decide +kernel)) rfl
theorem tw_563 : (Jvm.Cond.fieldLink "ScrapHouseModel" (50 : Nat) "ScrapHouseModel" "movePlace" "[I") ∈ gw := gw_in3 (List.mem_of_getElem? (i := 83) (by decide +kernel)) rfl
theorem tw_564 : (Jvm.Cond.fieldLink "ScrapHouseModel" (53 : Nat) "ScrapHouseModel" "moveFrom" "[I") ∈ gw := gw_in3 (List.mem_of_getElem? (i := 84) (by decide +kernel)) rfl
theorem tw_565 : (Jvm.Cond.fieldLink "ScrapHouseModel" (56 : Nat) "ScrapHouseModel" "moveTold" "[I") ∈ gw := gw_in3 (List.mem_of_getElem? (i := 85) (by decide +kernel)) rfl
theorem tw_566 : (Jvm.Cond.fieldLink "ScrapHouseModel" (59 : Nat) "ScrapHouseModel" "beds" "[I") ∈ gw := gw_in3 (List.mem_of_getElem? (i := 86) (by decide +kernel)) rfl
theorem tw_567 : (Jvm.Cond.fieldLink "ScrapHouseModel" (62 : Nat) "ScrapHouseModel" "looked" "[Z") ∈ gw := gw_in3 (List.mem_of_getElem? (i := 87) (by decide +kernel)) rfl
theorem tw_568 : (Jvm.Cond.fieldLink "ScrapHouseModel" (65 : Nat) "ScrapHouseModel" "tape" "[I") ∈ gw := gw_in3 (List.mem_of_getElem? (i := 88) (by decide +kernel)) rfl
theorem tw_569 : (Jvm.Cond.fieldLink "ScrapHouseModel" (68 : Nat) "ScrapHouseModel" "codes" "[I") ∈ gw := gw_in3 (List.mem_of_getElem? (i := 89) (by decide +kernel)) rfl
theorem tw_570 : (Jvm.Cond.fieldLink "ScrapHouseModel" (71 : Nat) "ScrapHouseModel" "saying" "[I") ∈ gw := gw_in3 (List.mem_of_getElem? (i := 90) (by decide +kernel)) rfl
theorem tw_571 : (Jvm.Cond.fieldLink "ScrapHouseModel" (160 : Nat) "ScrapHouseModel" "size" "I") ∈ gw := gw_in3 (List.mem_of_getElem? (i := 91) (by decide +kernel)) rfl
theorem tw_572 : (Jvm.Cond.fieldLink "ScrapHouseModel" (163 : Nat) "ScrapHouseModel" "at" "I") ∈ gw := gw_in3 (List.mem_of_getElem? (i := 92) (by decide +kernel)) rfl
theorem tw_573 : (Jvm.Cond.fieldLink "ScrapHouseModel" (166 : Nat) "ScrapHouseModel" "wrong" "I") ∈ gw := gw_in3 (List.mem_of_getElem? (i := 93) (by decide +kernel)) rfl
theorem tw_574 : (Jvm.Cond.fieldLink "ScrapHouseModel" (176 : Nat) "ScrapHouseModel" "deep" "I") ∈ gw := gw_in3 (List.mem_of_getElem? (i := 94) (by decide +kernel)) rfl
theorem tw_575 : (Jvm.Cond.fieldLink "ScrapHouseModel" (169 : Nat) "ScrapHouseModel" "said" "I") ∈ gw := gw_in3 (List.mem_of_getElem? (i := 95) (by decide +kernel)) rfl
theorem tw_576 : (Jvm.Cond.fieldLink "ScrapHouseModel" (74 : Nat) "ScrapHouseModel" "pile" "[Z") ∈ gw := gw_in3 (List.mem_of_getElem? (i := 96) (by decide +kernel)) rfl
theorem tw_577 : (Jvm.Cond.lays "ScrapHouseModel" "ScrapHouseModel" "now" "I") ∈ gw := gw_in3 (List.mem_of_getElem? (i := 97) (by decide +kernel)) rfl
theorem tw_579 : (Jvm.Cond.lays "ScrapHouseModel" "ScrapHouseModel" "ballots" "I") ∈ gw := gw_in3 (List.mem_of_getElem? (i := 99) (by decide +kernel)) rfl
theorem tw_581 : (Jvm.Cond.lays "ScrapHouseModel" "ScrapHouseModel" "children" "I") ∈ gw := gw_in3 (List.mem_of_getElem? (i := 101) (by decide +kernel)) rfl
theorem tw_583 : (Jvm.Cond.lays "ScrapHouseModel" "ScrapHouseModel" "moves" "I") ∈ gw := gw_in3 (List.mem_of_getElem? (i := 103) (by decide +kernel)) rfl
theorem tw_585 : (Jvm.Cond.lays "ScrapHouseModel" "ScrapHouseModel" "looks" "I") ∈ gw := gw_in3 (List.mem_of_getElem? (i := 105) (by decide +kernel)) rfl
theorem tw_587 : (Jvm.Cond.lays "ScrapHouseModel" "ScrapHouseModel" "rules" "I") ∈ gw := gw_in3 (List.mem_of_getElem? (i := 107) (by decide +kernel)) rfl
theorem tw_589 : (Jvm.Cond.laysFinal "ScrapHouseModel" "ScrapHouseModel" "women" "[I") ∈ gw := gw_in3 (List.mem_of_getElem? (i := 109) (by decide +kernel)) rfl
theorem tw_591 : (Jvm.Cond.laysFinal "ScrapHouseModel" "ScrapHouseModel" "ball" "[I") ∈ gw := gw_in3 (List.mem_of_getElem? (i := 111) (by decide +kernel)) rfl
theorem tw_593 : (Jvm.Cond.laysFinal "ScrapHouseModel" "ScrapHouseModel" "line" "[I") ∈ gw := gw_in3 (List.mem_of_getElem? (i := 113) (by decide +kernel)) rfl
theorem tw_595 : (Jvm.Cond.laysFinal "ScrapHouseModel" "ScrapHouseModel" "born" "[I") ∈ gw := gw_in3 (List.mem_of_getElem? (i := 115) (by decide +kernel)) rfl
theorem tw_597 : (Jvm.Cond.laysFinal "ScrapHouseModel" "ScrapHouseModel" "sex" "[I") ∈ gw := gw_in3 (List.mem_of_getElem? (i := 117) (by decide +kernel)) rfl
theorem tw_599 : (Jvm.Cond.laysFinal "ScrapHouseModel" "ScrapHouseModel" "mark" "[I") ∈ gw := gw_in3 (List.mem_of_getElem? (i := 119) (by decide +kernel)) rfl
theorem tw_601 : (Jvm.Cond.laysFinal "ScrapHouseModel" "ScrapHouseModel" "edge" "[I") ∈ gw := gw_in3 (List.mem_of_getElem? (i := 121) (by decide +kernel)) rfl
theorem tw_603 : (Jvm.Cond.laysFinal "ScrapHouseModel" "ScrapHouseModel" "threads" "[I") ∈ gw := gw_in3 (List.mem_of_getElem? (i := 123) (by decide +kernel)) rfl
theorem tw_605 : (Jvm.Cond.laysFinal "ScrapHouseModel" "ScrapHouseModel" "ofBallot" "[I") ∈ gw := gw_in3 (List.mem_of_getElem? (i := 125) (by decide +kernel)) rfl
theorem tw_607 : (Jvm.Cond.laysFinal "ScrapHouseModel" "ScrapHouseModel" "ofWoman" "[I") ∈ gw := gw_in3 (List.mem_of_getElem? (i := 127) (by decide +kernel)) rfl
theorem tw_609 : (Jvm.Cond.laysFinal "ScrapHouseModel" "ScrapHouseModel" "number" "[I") ∈ gw := gw_in3 (List.mem_of_getElem? (i := 129) (by decide +kernel)) rfl
theorem tw_611 : (Jvm.Cond.laysFinal "ScrapHouseModel" "ScrapHouseModel" "may" "[Z") ∈ gw := gw_in3 (List.mem_of_getElem? (i := 131) (by decide +kernel)) rfl
theorem tw_613 : (Jvm.Cond.laysFinal "ScrapHouseModel" "ScrapHouseModel" "moved" "[I") ∈ gw := gw_in3 (List.mem_of_getElem? (i := 133) (by decide +kernel)) rfl
theorem tw_615 : (Jvm.Cond.laysFinal "ScrapHouseModel" "ScrapHouseModel" "movePlace" "[I") ∈ gw := gw_in3 (List.mem_of_getElem? (i := 135) (by decide +kernel)) rfl
theorem tw_617 : (Jvm.Cond.laysFinal "ScrapHouseModel" "ScrapHouseModel" "moveFrom" "[I") ∈ gw := gw_in3 (List.mem_of_getElem? (i := 137) (by decide +kernel)) rfl
theorem tw_619 : (Jvm.Cond.laysFinal "ScrapHouseModel" "ScrapHouseModel" "moveTold" "[I") ∈ gw := gw_in3 (List.mem_of_getElem? (i := 139) (by decide +kernel)) rfl
theorem tw_621 : (Jvm.Cond.laysFinal "ScrapHouseModel" "ScrapHouseModel" "beds" "[I") ∈ gw := gw_in3 (List.mem_of_getElem? (i := 141) (by decide +kernel)) rfl
theorem tw_623 : (Jvm.Cond.laysFinal "ScrapHouseModel" "ScrapHouseModel" "looked" "[Z") ∈ gw := gw_in3 (List.mem_of_getElem? (i := 143) (by decide +kernel)) rfl
theorem tw_625 : (Jvm.Cond.laysFinal "ScrapHouseModel" "ScrapHouseModel" "tape" "[I") ∈ gw := gw_in3 (List.mem_of_getElem? (i := 145) (by decide +kernel)) rfl
theorem tw_627 : (Jvm.Cond.laysFinal "ScrapHouseModel" "ScrapHouseModel" "codes" "[I") ∈ gw := gw_in3 (List.mem_of_getElem? (i := 147) (by decide +kernel)) rfl
theorem tw_629 : (Jvm.Cond.laysFinal "ScrapHouseModel" "ScrapHouseModel" "saying" "[I") ∈ gw := gw_in3 (List.mem_of_getElem? (i := 149) (by decide +kernel)) rfl
theorem tw_631 : (Jvm.Cond.lays "ScrapHouseModel" "ScrapHouseModel" "size" "I") ∈ gw := gw_in3 (List.mem_of_getElem? (i := 151) (by decide +kernel)) rfl
theorem tw_633 : (Jvm.Cond.lays "ScrapHouseModel" "ScrapHouseModel" "at" "I") ∈ gw := gw_in3 (List.mem_of_getElem? (i := 153) (by decide +kernel)) rfl
theorem tw_635 : (Jvm.Cond.lays "ScrapHouseModel" "ScrapHouseModel" "wrong" "I") ∈ gw := gw_in3 (List.mem_of_getElem? (i := 155) (by decide +kernel)) rfl
theorem tw_637 : (Jvm.Cond.lays "ScrapHouseModel" "ScrapHouseModel" "deep" "I") ∈ gw := gw_in3 (List.mem_of_getElem? (i := 157) (by decide +kernel)) rfl
theorem tw_639 : (Jvm.Cond.lays "ScrapHouseModel" "ScrapHouseModel" "said" "I") ∈ gw := gw_in3 (List.mem_of_getElem? (i := 159) (by decide +kernel)) rfl
theorem tw_641 : (Jvm.Cond.laysFinal "ScrapHouseModel" "ScrapHouseModel" "pile" "[Z") ∈ gw := gw_in3 (List.mem_of_getElem? (i := 161) (by decide +kernel)) rfl
theorem tw_644 : (Jvm.Cond.arrayClass Jvm.ClassFile.FieldType.boolean) ∈ gw := gw_in3 (List.mem_of_getElem? (i := 164) (by decide +kernel)) rfl
theorem tw_645 : (Jvm.Cond.methodLink "ScrapHouseLaw" (17 : Nat) ({ cls := "ScrapHouseModel", name := "days", desc := "(I)I" } : Jvm.MethodName)) ∈ gw := gw_in3 (List.mem_of_getElem? (i := 165) (by decide +kernel)) rfl
theorem tw_646 : (Jvm.Cond.instanceMethod ({ cls := "ScrapHouseModel", name := "days", desc := "(I)I" } : Jvm.MethodName)) ∈ gw := gw_in3 (List.mem_of_getElem? (i := 166) (by decide +kernel)) rfl
theorem tw_647 : (Jvm.Cond.selects "ScrapHouseModel" ({ cls := "ScrapHouseModel", name := "days", desc := "(I)I" } : Jvm.MethodName) ({ cls := "ScrapHouseModel", name := "days", desc := "(I)I" } : Jvm.MethodName)) ∈ gw := gw_in3 (List.mem_of_getElem? (i := 167) (by decide +kernel)) rfl
theorem tw_648 : (Jvm.Cond.code ({ cls := "ScrapHouseModel", name := "days", desc := "(I)I" } : Jvm.MethodName) prog_12_method_3_code (2 : Nat) (Option.some Jvm.ClassFile.FieldType.int)) ∈ gw := gw_in3 (List.mem_of_getElem? (i := 168) (rfl)) rfl
theorem tw_649 : (Jvm.Cond.methodLink "ScrapHouseModel" (77 : Nat) ({ cls := "ScrapHouseModel", name := "in", desc := "(III)Z" } : Jvm.MethodName)) ∈ gw := gw_in3 (List.mem_of_getElem? (i := 169) (by decide +kernel)) rfl
theorem tw_650 : (Jvm.Cond.static ({ cls := "ScrapHouseModel", name := "in", desc := "(III)Z" } : Jvm.MethodName)) ∈ gw := gw_in3 (List.mem_of_getElem? (i := 170) (by decide +kernel)) rfl
theorem tw_651 : (Jvm.Cond.code ({ cls := "ScrapHouseModel", name := "in", desc := "(III)Z" } : Jvm.MethodName) prog_12_method_1_code (3 : Nat) (Option.some Jvm.ClassFile.FieldType.boolean)) ∈ gw := gw_in3 (List.mem_of_getElem? (i := 171) (rfl)) rfl
theorem tw_652 : (Jvm.Cond.methodLink "ScrapHouseLaw" (24 : Nat) ({ cls := "ScrapHouseModel", name := "ballot", desc := "(IIIJ)I" } : Jvm.MethodName)) ∈ gw := gw_in3 (List.mem_of_getElem? (i := 172) (by decide +kernel)) rfl
theorem tw_653 : (Jvm.Cond.instanceMethod ({ cls := "ScrapHouseModel", name := "ballot", desc := "(IIIJ)I" } : Jvm.MethodName)) ∈ gw := gw_in3 (List.mem_of_getElem? (i := 173) (by decide +kernel)) rfl
theorem tw_654 : (Jvm.Cond.selects "ScrapHouseModel" ({ cls := "ScrapHouseModel", name := "ballot", desc := "(IIIJ)I" } : Jvm.MethodName) ({ cls := "ScrapHouseModel", name := "ballot", desc := "(IIIJ)I" } : Jvm.MethodName)) ∈ gw := gw_in3 (List.mem_of_getElem? (i := 174) (by decide +kernel)) rfl
theorem tw_655 : (Jvm.Cond.code ({ cls := "ScrapHouseModel", name := "ballot", desc := "(IIIJ)I" } : Jvm.MethodName) prog_12_method_4_code (13 : Nat) (Option.some Jvm.ClassFile.FieldType.int)) ∈ gw := gw_in3 (List.mem_of_getElem? (i := 175) (rfl)) rfl
theorem tw_656 : (Jvm.Cond.methodLink "ScrapHouseModel" (88 : Nat) ({ cls := "ScrapHouseModel", name := "lineOf", desc := "(I)[I" } : Jvm.MethodName)) ∈ gw := gw_in3 (List.mem_of_getElem? (i := 176) (by decide +kernel)) rfl
theorem tw_658 : (Jvm.Cond.instanceMethod ({ cls := "ScrapHouseModel", name := "lineOf", desc := "(I)[I" } : Jvm.MethodName)) ∈ gw := gw_in3 (List.mem_of_getElem? (i := 178) (by decide +kernel)) rfl
theorem tw_659 : (Jvm.Cond.code ({ cls := "ScrapHouseModel", name := "lineOf", desc := "(I)[I" } : Jvm.MethodName) prog_12_method_5_code (3 : Nat) (Option.some (Jvm.ClassFile.FieldType.array Jvm.ClassFile.FieldType.int))) ∈ gw := gw_in3 (List.mem_of_getElem? (i := 179) (rfl)) rfl
theorem tw_660 : (Jvm.Cond.constantLong "ScrapHouseModel" (92 : Nat) (6364136223846793005 : Int64)) ∈ gw := gw_in3 (List.mem_of_getElem? (i := 180) (by decide +kernel)) rfl
theorem tw_661 : (Jvm.Cond.constantLong "ScrapHouseModel" (94 : Nat) (1442695040888963407 : Int64)) ∈ gw := gw_in3 (List.mem_of_getElem? (i := 181) (by decide +kernel)) rfl
theorem tw_662 : (Jvm.Cond.methodLink "ScrapHouseLaw" (29 : Nat) ({ cls := "ScrapHouseModel", name := "ball", desc := "(II)I" } : Jvm.MethodName)) ∈ gw := gw_in3 (List.mem_of_getElem? (i := 182) (by decide +kernel)) rfl
theorem tw_663 : (Jvm.Cond.instanceMethod ({ cls := "ScrapHouseModel", name := "ball", desc := "(II)I" } : Jvm.MethodName)) ∈ gw := gw_in3 (List.mem_of_getElem? (i := 183) (by decide +kernel)) rfl
theorem tw_664 : (Jvm.Cond.selects "ScrapHouseModel" ({ cls := "ScrapHouseModel", name := "ball", desc := "(II)I" } : Jvm.MethodName) ({ cls := "ScrapHouseModel", name := "ball", desc := "(II)I" } : Jvm.MethodName)) ∈ gw := gw_in3 (List.mem_of_getElem? (i := 184) (by decide +kernel)) rfl
theorem tw_665 : (Jvm.Cond.code ({ cls := "ScrapHouseModel", name := "ball", desc := "(II)I" } : Jvm.MethodName) prog_12_method_7_code (3 : Nat) (Option.some Jvm.ClassFile.FieldType.int)) ∈ gw := gw_in3 (List.mem_of_getElem? (i := 185) (rfl)) rfl
theorem tw_666 : (Jvm.Cond.methodLink "ScrapHouseModel" (96 : Nat) ({ cls := "ScrapHouseModel", name := "isWoman", desc := "(II)Z" } : Jvm.MethodName)) ∈ gw := gw_in3 (List.mem_of_getElem? (i := 186) (by decide +kernel)) rfl
theorem tw_668 : (Jvm.Cond.instanceMethod ({ cls := "ScrapHouseModel", name := "isWoman", desc := "(II)Z" } : Jvm.MethodName)) ∈ gw := gw_in3 (List.mem_of_getElem? (i := 188) (by decide +kernel)) rfl
theorem tw_669 : (Jvm.Cond.code ({ cls := "ScrapHouseModel", name := "isWoman", desc := "(II)Z" } : Jvm.MethodName) prog_12_method_6_code (3 : Nat) (Option.some Jvm.ClassFile.FieldType.boolean)) ∈ gw := gw_in3 (List.mem_of_getElem? (i := 189) (rfl)) rfl
theorem tw_670 : (Jvm.Cond.methodLink "ScrapHouseLaw" (33 : Nat) ({ cls := "ScrapHouseModel", name := "away", desc := "(II)I" } : Jvm.MethodName)) ∈ gw := gw_in3 (List.mem_of_getElem? (i := 190) (by decide +kernel)) rfl
theorem tw_671 : (Jvm.Cond.instanceMethod ({ cls := "ScrapHouseModel", name := "away", desc := "(II)I" } : Jvm.MethodName)) ∈ gw := gw_in3 (List.mem_of_getElem? (i := 191) (by decide +kernel)) rfl
theorem tw_672 : (Jvm.Cond.selects "ScrapHouseModel" ({ cls := "ScrapHouseModel", name := "away", desc := "(II)I" } : Jvm.MethodName) ({ cls := "ScrapHouseModel", name := "away", desc := "(II)I" } : Jvm.MethodName)) ∈ gw := gw_in3 (List.mem_of_getElem? (i := 192) (by decide +kernel)) rfl
theorem tw_673 : (Jvm.Cond.code ({ cls := "ScrapHouseModel", name := "away", desc := "(II)I" } : Jvm.MethodName) prog_12_method_8_code (4 : Nat) (Option.some Jvm.ClassFile.FieldType.int)) ∈ gw := gw_in3 (List.mem_of_getElem? (i := 193) (rfl)) rfl
theorem tw_674 : (Jvm.Cond.methodLink "ScrapHouseLaw" (38 : Nat) ({ cls := "ScrapHouseModel", name := "leave", desc := "(IIIIII)I" } : Jvm.MethodName)) ∈ gw := gw_in3 (List.mem_of_getElem? (i := 194) (by decide +kernel)) rfl
theorem tw_675 : (Jvm.Cond.instanceMethod ({ cls := "ScrapHouseModel", name := "leave", desc := "(IIIIII)I" } : Jvm.MethodName)) ∈ gw := gw_in3 (List.mem_of_getElem? (i := 195) (by decide +kernel)) rfl
theorem tw_676 : (Jvm.Cond.selects "ScrapHouseModel" ({ cls := "ScrapHouseModel", name := "leave", desc := "(IIIIII)I" } : Jvm.MethodName) ({ cls := "ScrapHouseModel", name := "leave", desc := "(IIIIII)I" } : Jvm.MethodName)) ∈ gw := gw_in3 (List.mem_of_getElem? (i := 196) (by decide +kernel)) rfl
theorem tw_677 : (Jvm.Cond.code ({ cls := "ScrapHouseModel", name := "leave", desc := "(IIIIII)I" } : Jvm.MethodName) prog_12_method_9_code (7 : Nat) (Option.some Jvm.ClassFile.FieldType.int)) ∈ gw := gw_in3 (List.mem_of_getElem? (i := 197) (rfl)) rfl
theorem tw_678 : (Jvm.Cond.constant "ScrapHouseModel" (100 : Nat) (16777215 : Int32)) ∈ gw := gw_in3 (List.mem_of_getElem? (i := 198) (by decide +kernel)) rfl
theorem tw_679 : (Jvm.Cond.methodLink "ScrapHouseLaw" (43 : Nat) ({ cls := "ScrapHouseModel", name := "beds", desc := "(II)Z" } : Jvm.MethodName)) ∈ gw := gw_in3 (List.mem_of_getElem? (i := 199) (by decide +kernel)) rfl
theorem tw_680 : (Jvm.Cond.instanceMethod ({ cls := "ScrapHouseModel", name := "beds", desc := "(II)Z" } : Jvm.MethodName)) ∈ gw := gw_in3 (List.mem_of_getElem? (i := 200) (by decide +kernel)) rfl
theorem tw_681 : (Jvm.Cond.selects "ScrapHouseModel" ({ cls := "ScrapHouseModel", name := "beds", desc := "(II)Z" } : Jvm.MethodName) ({ cls := "ScrapHouseModel", name := "beds", desc := "(II)Z" } : Jvm.MethodName)) ∈ gw := gw_in3 (List.mem_of_getElem? (i := 201) (by decide +kernel)) rfl
theorem tw_682 : (Jvm.Cond.code ({ cls := "ScrapHouseModel", name := "beds", desc := "(II)Z" } : Jvm.MethodName) prog_12_method_16_code (3 : Nat) (Option.some Jvm.ClassFile.FieldType.boolean)) ∈ gw := gw_in3 (List.mem_of_getElem? (i := 202) (rfl)) rfl
theorem tw_683 : (Jvm.Cond.methodLink "ScrapHouseModel" (121 : Nat) ({ cls := "ScrapHouseModel", name := "hasRoom", desc := "(III)Z" } : Jvm.MethodName)) ∈ gw := gw_in3 (List.mem_of_getElem? (i := 203) (by decide +kernel)) rfl
theorem tw_685 : (Jvm.Cond.instanceMethod ({ cls := "ScrapHouseModel", name := "hasRoom", desc := "(III)Z" } : Jvm.MethodName)) ∈ gw := gw_in3 (List.mem_of_getElem? (i := 205) (by decide +kernel)) rfl
theorem tw_686 : (Jvm.Cond.code ({ cls := "ScrapHouseModel", name := "hasRoom", desc := "(III)Z" } : Jvm.MethodName) prog_12_method_14_code (5 : Nat) (Option.some Jvm.ClassFile.FieldType.boolean)) ∈ gw := gw_in3 (List.mem_of_getElem? (i := 206) (rfl)) rfl
theorem tw_687 : (Jvm.Cond.methodLink "ScrapHouseModel" (114 : Nat) ({ cls := "ScrapHouseModel", name := "changesOn", desc := "(I)Z" } : Jvm.MethodName)) ∈ gw := gw_in3 (List.mem_of_getElem? (i := 207) (by decide +kernel)) rfl
theorem tw_689 : (Jvm.Cond.instanceMethod ({ cls := "ScrapHouseModel", name := "changesOn", desc := "(I)Z" } : Jvm.MethodName)) ∈ gw := gw_in3 (List.mem_of_getElem? (i := 209) (by decide +kernel)) rfl
theorem tw_690 : (Jvm.Cond.code ({ cls := "ScrapHouseModel", name := "changesOn", desc := "(I)Z" } : Jvm.MethodName) prog_12_method_15_code (3 : Nat) (Option.some Jvm.ClassFile.FieldType.boolean)) ∈ gw := gw_in3 (List.mem_of_getElem? (i := 210) (rfl)) rfl
theorem tw_691 : (Jvm.Cond.methodLink "ScrapHouseModel" (118 : Nat) ({ cls := "ScrapHouseModel", name := "manyAt", desc := "(III)I" } : Jvm.MethodName)) ∈ gw := gw_in3 (List.mem_of_getElem? (i := 211) (by decide +kernel)) rfl
theorem tw_693 : (Jvm.Cond.instanceMethod ({ cls := "ScrapHouseModel", name := "manyAt", desc := "(III)I" } : Jvm.MethodName)) ∈ gw := gw_in3 (List.mem_of_getElem? (i := 213) (by decide +kernel)) rfl
theorem tw_694 : (Jvm.Cond.code ({ cls := "ScrapHouseModel", name := "manyAt", desc := "(III)I" } : Jvm.MethodName) prog_12_method_13_code (6 : Nat) (Option.some Jvm.ClassFile.FieldType.int)) ∈ gw := gw_in3 (List.mem_of_getElem? (i := 214) (rfl)) rfl
theorem tw_695 : (Jvm.Cond.methodLink "ScrapHouseModel" (107 : Nat) ({ cls := "ScrapHouseModel", name := "isThere", desc := "(III)Z" } : Jvm.MethodName)) ∈ gw := gw_in3 (List.mem_of_getElem? (i := 215) (by decide +kernel)) rfl
theorem tw_697 : (Jvm.Cond.instanceMethod ({ cls := "ScrapHouseModel", name := "isThere", desc := "(III)Z" } : Jvm.MethodName)) ∈ gw := gw_in3 (List.mem_of_getElem? (i := 217) (by decide +kernel)) rfl
theorem tw_698 : (Jvm.Cond.code ({ cls := "ScrapHouseModel", name := "isThere", desc := "(III)Z" } : Jvm.MethodName) prog_12_method_12_code (4 : Nat) (Option.some Jvm.ClassFile.FieldType.boolean)) ∈ gw := gw_in3 (List.mem_of_getElem? (i := 218) (rfl)) rfl
theorem tw_699 : (Jvm.Cond.methodLink "ScrapHouseModel" (110 : Nat) ({ cls := "ScrapHouseModel", name := "where", desc := "(III)I" } : Jvm.MethodName)) ∈ gw := gw_in3 (List.mem_of_getElem? (i := 219) (by decide +kernel)) rfl
theorem tw_701 : (Jvm.Cond.instanceMethod ({ cls := "ScrapHouseModel", name := "where", desc := "(III)I" } : Jvm.MethodName)) ∈ gw := gw_in3 (List.mem_of_getElem? (i := 221) (by decide +kernel)) rfl
theorem tw_702 : (Jvm.Cond.code ({ cls := "ScrapHouseModel", name := "where", desc := "(III)I" } : Jvm.MethodName) prog_12_method_11_code (7 : Nat) (Option.some Jvm.ClassFile.FieldType.int)) ∈ gw := gw_in3 (List.mem_of_getElem? (i := 222) (rfl)) rfl
theorem tw_703 : (Jvm.Cond.methodLink "ScrapHouseLaw" (48 : Nat) ({ cls := "ScrapHouseModel", name := "move", desc := "(III)Z" } : Jvm.MethodName)) ∈ gw := gw_in3 (List.mem_of_getElem? (i := 223) (by decide +kernel)) rfl
theorem tw_704 : (Jvm.Cond.instanceMethod ({ cls := "ScrapHouseModel", name := "move", desc := "(III)Z" } : Jvm.MethodName)) ∈ gw := gw_in3 (List.mem_of_getElem? (i := 224) (by decide +kernel)) rfl
theorem tw_705 : (Jvm.Cond.selects "ScrapHouseModel" ({ cls := "ScrapHouseModel", name := "move", desc := "(III)Z" } : Jvm.MethodName) ({ cls := "ScrapHouseModel", name := "move", desc := "(III)Z" } : Jvm.MethodName)) ∈ gw := gw_in3 (List.mem_of_getElem? (i := 225) (by decide +kernel)) rfl
theorem tw_706 : (Jvm.Cond.code ({ cls := "ScrapHouseModel", name := "move", desc := "(III)Z" } : Jvm.MethodName) prog_12_method_17_code (5 : Nat) (Option.some Jvm.ClassFile.FieldType.boolean)) ∈ gw := gw_in3 (List.mem_of_getElem? (i := 226) (rfl)) rfl
theorem tw_707 : (Jvm.Cond.methodLink "ScrapHouseModel" (124 : Nat) ({ cls := "ScrapHouseModel", name := "isChild", desc := "(I)Z" } : Jvm.MethodName)) ∈ gw := gw_in3 (List.mem_of_getElem? (i := 227) (by decide +kernel)) rfl
theorem tw_709 : (Jvm.Cond.instanceMethod ({ cls := "ScrapHouseModel", name := "isChild", desc := "(I)Z" } : Jvm.MethodName)) ∈ gw := gw_in3 (List.mem_of_getElem? (i := 229) (by decide +kernel)) rfl
theorem tw_710 : (Jvm.Cond.code ({ cls := "ScrapHouseModel", name := "isChild", desc := "(I)Z" } : Jvm.MethodName) prog_12_method_10_code (2 : Nat) (Option.some Jvm.ClassFile.FieldType.boolean)) ∈ gw := gw_in3 (List.mem_of_getElem? (i := 230) (rfl)) rfl
theorem tw_711 : (Jvm.Cond.methodLink "ScrapHouseLaw" (53 : Nat) ({ cls := "ScrapHouseModel", name := "place", desc := "(III)I" } : Jvm.MethodName)) ∈ gw := gw_in3 (List.mem_of_getElem? (i := 231) (by decide +kernel)) rfl
theorem tw_712 : (Jvm.Cond.instanceMethod ({ cls := "ScrapHouseModel", name := "place", desc := "(III)I" } : Jvm.MethodName)) ∈ gw := gw_in3 (List.mem_of_getElem? (i := 232) (by decide +kernel)) rfl
theorem tw_713 : (Jvm.Cond.selects "ScrapHouseModel" ({ cls := "ScrapHouseModel", name := "place", desc := "(III)I" } : Jvm.MethodName) ({ cls := "ScrapHouseModel", name := "place", desc := "(III)I" } : Jvm.MethodName)) ∈ gw := gw_in3 (List.mem_of_getElem? (i := 233) (by decide +kernel)) rfl
theorem tw_714 : (Jvm.Cond.code ({ cls := "ScrapHouseModel", name := "place", desc := "(III)I" } : Jvm.MethodName) prog_12_method_19_code (4 : Nat) (Option.some Jvm.ClassFile.FieldType.int)) ∈ gw := gw_in3 (List.mem_of_getElem? (i := 234) (rfl)) rfl
theorem tw_715 : (Jvm.Cond.methodLink "ScrapHouseModel" (127 : Nat) ({ cls := "ScrapHouseModel", name := "areDays", desc := "(II)Z" } : Jvm.MethodName)) ∈ gw := gw_in3 (List.mem_of_getElem? (i := 235) (by decide +kernel)) rfl
theorem tw_717 : (Jvm.Cond.instanceMethod ({ cls := "ScrapHouseModel", name := "areDays", desc := "(II)Z" } : Jvm.MethodName)) ∈ gw := gw_in3 (List.mem_of_getElem? (i := 237) (by decide +kernel)) rfl
theorem tw_718 : (Jvm.Cond.code ({ cls := "ScrapHouseModel", name := "areDays", desc := "(II)Z" } : Jvm.MethodName) prog_12_method_18_code (3 : Nat) (Option.some Jvm.ClassFile.FieldType.boolean)) ∈ gw := gw_in3 (List.mem_of_getElem? (i := 238) (rfl)) rfl
theorem tw_719 : (Jvm.Cond.methodLink "ScrapHouseLaw" (62 : Nat) ({ cls := "ScrapHouseModel", name := "many", desc := "(III)I" } : Jvm.MethodName)) ∈ gw := gw_in3 (List.mem_of_getElem? (i := 239) (by decide +kernel)) rfl
theorem tw_720 : (Jvm.Cond.instanceMethod ({ cls := "ScrapHouseModel", name := "many", desc := "(III)I" } : Jvm.MethodName)) ∈ gw := gw_in4 (List.mem_of_getElem? (i := 0) (by decide +kernel)) rfl
theorem tw_721 : (Jvm.Cond.selects "ScrapHouseModel" ({ cls := "ScrapHouseModel", name := "many", desc := "(III)I" } : Jvm.MethodName) ({ cls := "ScrapHouseModel", name := "many", desc := "(III)I" } : Jvm.MethodName)) ∈ gw := gw_in4 (List.mem_of_getElem? (i := 1) (by decide +kernel)) rfl
theorem tw_722 : (Jvm.Cond.code ({ cls := "ScrapHouseModel", name := "many", desc := "(III)I" } : Jvm.MethodName) prog_12_method_20_code (4 : Nat) (Option.some Jvm.ClassFile.FieldType.int)) ∈ gw := gw_in4 (List.mem_of_getElem? (i := 2) (rfl)) rfl
theorem tw_723 : (Jvm.Cond.methodLink "ScrapHouseLaw" (58 : Nat) ({ cls := "ScrapHouseModel", name := "look", desc := "(I)Z" } : Jvm.MethodName)) ∈ gw := gw_in4 (List.mem_of_getElem? (i := 3) (by decide +kernel)) rfl
theorem tw_724 : (Jvm.Cond.instanceMethod ({ cls := "ScrapHouseModel", name := "look", desc := "(I)Z" } : Jvm.MethodName)) ∈ gw := gw_in4 (List.mem_of_getElem? (i := 4) (by decide +kernel)) rfl
theorem tw_725 : (Jvm.Cond.selects "ScrapHouseModel" ({ cls := "ScrapHouseModel", name := "look", desc := "(I)Z" } : Jvm.MethodName) ({ cls := "ScrapHouseModel", name := "look", desc := "(I)Z" } : Jvm.MethodName)) ∈ gw := gw_in4 (List.mem_of_getElem? (i := 5) (by decide +kernel)) rfl
theorem tw_726 : (Jvm.Cond.code ({ cls := "ScrapHouseModel", name := "look", desc := "(I)Z" } : Jvm.MethodName) prog_12_method_21_code (2 : Nat) (Option.some Jvm.ClassFile.FieldType.boolean)) ∈ gw := gw_in4 (List.mem_of_getElem? (i := 6) (rfl)) rfl
theorem tw_727 : (Jvm.Cond.methodLink "ScrapHouseLaw" (67 : Nat) ({ cls := "ScrapHouseModel", name := "pay", desc := "(IIII)I" } : Jvm.MethodName)) ∈ gw := gw_in4 (List.mem_of_getElem? (i := 7) (by decide +kernel)) rfl
theorem tw_728 : (Jvm.Cond.instanceMethod ({ cls := "ScrapHouseModel", name := "pay", desc := "(IIII)I" } : Jvm.MethodName)) ∈ gw := gw_in4 (List.mem_of_getElem? (i := 8) (by decide +kernel)) rfl
theorem tw_729 : (Jvm.Cond.selects "ScrapHouseModel" ({ cls := "ScrapHouseModel", name := "pay", desc := "(IIII)I" } : Jvm.MethodName) ({ cls := "ScrapHouseModel", name := "pay", desc := "(IIII)I" } : Jvm.MethodName)) ∈ gw := gw_in4 (List.mem_of_getElem? (i := 9) (by decide +kernel)) rfl
theorem tw_730 : (Jvm.Cond.code ({ cls := "ScrapHouseModel", name := "pay", desc := "(IIII)I" } : Jvm.MethodName) prog_12_method_25_code (5 : Nat) (Option.some Jvm.ClassFile.FieldType.int)) ∈ gw := gw_in4 (List.mem_of_getElem? (i := 10) (rfl)) rfl
theorem tw_731 : (Jvm.Cond.methodLink "ScrapHouseModel" (142 : Nat) ({ cls := "ScrapHouseModel", name := "areWeeks", desc := "(IIII)Z" } : Jvm.MethodName)) ∈ gw := gw_in4 (List.mem_of_getElem? (i := 11) (by decide +kernel)) rfl
theorem tw_733 : (Jvm.Cond.instanceMethod ({ cls := "ScrapHouseModel", name := "areWeeks", desc := "(IIII)Z" } : Jvm.MethodName)) ∈ gw := gw_in4 (List.mem_of_getElem? (i := 13) (by decide +kernel)) rfl
theorem tw_734 : (Jvm.Cond.code ({ cls := "ScrapHouseModel", name := "areWeeks", desc := "(IIII)Z" } : Jvm.MethodName) prog_12_method_24_code (5 : Nat) (Option.some Jvm.ClassFile.FieldType.boolean)) ∈ gw := gw_in4 (List.mem_of_getElem? (i := 14) (rfl)) rfl
theorem tw_735 : (Jvm.Cond.methodLink "ScrapHouseModel" (146 : Nat) ({ cls := "ScrapHouseModel", name := "daysWith", desc := "(IIIIZ)I" } : Jvm.MethodName)) ∈ gw := gw_in4 (List.mem_of_getElem? (i := 15) (by decide +kernel)) rfl
theorem tw_737 : (Jvm.Cond.instanceMethod ({ cls := "ScrapHouseModel", name := "daysWith", desc := "(IIIIZ)I" } : Jvm.MethodName)) ∈ gw := gw_in4 (List.mem_of_getElem? (i := 17) (by decide +kernel)) rfl
theorem tw_738 : (Jvm.Cond.code ({ cls := "ScrapHouseModel", name := "daysWith", desc := "(IIIIZ)I" } : Jvm.MethodName) prog_12_method_23_code (10 : Nat) (Option.some Jvm.ClassFile.FieldType.int)) ∈ gw := gw_in4 (List.mem_of_getElem? (i := 18) (rfl)) rfl
theorem tw_739 : (Jvm.Cond.methodLink "ScrapHouseModel" (139 : Nat) ({ cls := "ScrapHouseModel", name := "isSeen", desc := "(III)Z" } : Jvm.MethodName)) ∈ gw := gw_in4 (List.mem_of_getElem? (i := 19) (by decide +kernel)) rfl
theorem tw_741 : (Jvm.Cond.instanceMethod ({ cls := "ScrapHouseModel", name := "isSeen", desc := "(III)Z" } : Jvm.MethodName)) ∈ gw := gw_in4 (List.mem_of_getElem? (i := 21) (by decide +kernel)) rfl
theorem tw_742 : (Jvm.Cond.code ({ cls := "ScrapHouseModel", name := "isSeen", desc := "(III)Z" } : Jvm.MethodName) prog_12_method_22_code (5 : Nat) (Option.some Jvm.ClassFile.FieldType.boolean)) ∈ gw := gw_in4 (List.mem_of_getElem? (i := 22) (rfl)) rfl
theorem tw_743 : (Jvm.Cond.methodLink "ScrapHouseModel" (133 : Nat) ({ cls := "java/lang/Math", name := "min", desc := "(II)I" } : Jvm.MethodName)) ∈ gw := gw_in4 (List.mem_of_getElem? (i := 23) (by decide +kernel)) rfl
theorem tw_744 : (Jvm.Cond.methodLink "ScrapHouseLaw" (71 : Nat) ({ cls := "ScrapHouseModel", name := "gap", desc := "(IIII)I" } : Jvm.MethodName)) ∈ gw := gw_in4 (List.mem_of_getElem? (i := 24) (by decide +kernel)) rfl
theorem tw_745 : (Jvm.Cond.instanceMethod ({ cls := "ScrapHouseModel", name := "gap", desc := "(IIII)I" } : Jvm.MethodName)) ∈ gw := gw_in4 (List.mem_of_getElem? (i := 25) (by decide +kernel)) rfl
theorem tw_746 : (Jvm.Cond.selects "ScrapHouseModel" ({ cls := "ScrapHouseModel", name := "gap", desc := "(IIII)I" } : Jvm.MethodName) ({ cls := "ScrapHouseModel", name := "gap", desc := "(IIII)I" } : Jvm.MethodName)) ∈ gw := gw_in4 (List.mem_of_getElem? (i := 26) (by decide +kernel)) rfl
theorem tw_747 : (Jvm.Cond.code ({ cls := "ScrapHouseModel", name := "gap", desc := "(IIII)I" } : Jvm.MethodName) prog_12_method_26_code (5 : Nat) (Option.some Jvm.ClassFile.FieldType.int)) ∈ gw := gw_in4 (List.mem_of_getElem? (i := 27) (rfl)) rfl
theorem tw_748 : (Jvm.Cond.methodLink "ScrapHouseLaw" (75 : Nat) ({ cls := "ScrapHouseModel", name := "off", desc := "(III)I" } : Jvm.MethodName)) ∈ gw := gw_in4 (List.mem_of_getElem? (i := 28) (by decide +kernel)) rfl
theorem tw_749 : (Jvm.Cond.instanceMethod ({ cls := "ScrapHouseModel", name := "off", desc := "(III)I" } : Jvm.MethodName)) ∈ gw := gw_in4 (List.mem_of_getElem? (i := 29) (by decide +kernel)) rfl
theorem tw_750 : (Jvm.Cond.selects "ScrapHouseModel" ({ cls := "ScrapHouseModel", name := "off", desc := "(III)I" } : Jvm.MethodName) ({ cls := "ScrapHouseModel", name := "off", desc := "(III)I" } : Jvm.MethodName)) ∈ gw := gw_in4 (List.mem_of_getElem? (i := 30) (by decide +kernel)) rfl
theorem tw_751 : (Jvm.Cond.code ({ cls := "ScrapHouseModel", name := "off", desc := "(III)I" } : Jvm.MethodName) prog_12_method_30_code (4 : Nat) (Option.some Jvm.ClassFile.FieldType.int)) ∈ gw := gw_in4 (List.mem_of_getElem? (i := 31) (rfl)) rfl
theorem tw_752 : (Jvm.Cond.methodLink "ScrapHouseModel" (157 : Nat) ({ cls := "ScrapHouseModel", name := "offOf", desc := "(III)I" } : Jvm.MethodName)) ∈ gw := gw_in4 (List.mem_of_getElem? (i := 32) (by decide +kernel)) rfl
theorem tw_754 : (Jvm.Cond.instanceMethod ({ cls := "ScrapHouseModel", name := "offOf", desc := "(III)I" } : Jvm.MethodName)) ∈ gw := gw_in4 (List.mem_of_getElem? (i := 34) (by decide +kernel)) rfl
theorem tw_755 : (Jvm.Cond.code ({ cls := "ScrapHouseModel", name := "offOf", desc := "(III)I" } : Jvm.MethodName) prog_12_method_29_code (4 : Nat) (Option.some Jvm.ClassFile.FieldType.int)) ∈ gw := gw_in4 (List.mem_of_getElem? (i := 35) (rfl)) rfl
theorem tw_756 : (Jvm.Cond.methodLink "ScrapHouseModel" (153 : Nat) ({ cls := "ScrapHouseModel", name := "offBy", desc := "(IIIZ)I" } : Jvm.MethodName)) ∈ gw := gw_in4 (List.mem_of_getElem? (i := 36) (by decide +kernel)) rfl
theorem tw_758 : (Jvm.Cond.instanceMethod ({ cls := "ScrapHouseModel", name := "offBy", desc := "(IIIZ)I" } : Jvm.MethodName)) ∈ gw := gw_in4 (List.mem_of_getElem? (i := 38) (by decide +kernel)) rfl
theorem tw_759 : (Jvm.Cond.code ({ cls := "ScrapHouseModel", name := "offBy", desc := "(IIIZ)I" } : Jvm.MethodName) prog_12_method_28_code (9 : Nat) (Option.some Jvm.ClassFile.FieldType.int)) ∈ gw := gw_in4 (List.mem_of_getElem? (i := 39) (rfl)) rfl
theorem tw_760 : (Jvm.Cond.methodLink "ScrapHouseModel" (150 : Nat) ({ cls := "ScrapHouseModel", name := "third", desc := "(II)I" } : Jvm.MethodName)) ∈ gw := gw_in4 (List.mem_of_getElem? (i := 40) (by decide +kernel)) rfl
theorem tw_761 : (Jvm.Cond.static ({ cls := "ScrapHouseModel", name := "third", desc := "(II)I" } : Jvm.MethodName)) ∈ gw := gw_in4 (List.mem_of_getElem? (i := 41) (by decide +kernel)) rfl
theorem tw_762 : (Jvm.Cond.code ({ cls := "ScrapHouseModel", name := "third", desc := "(II)I" } : Jvm.MethodName) prog_12_method_27_code (2 : Nat) (Option.some Jvm.ClassFile.FieldType.int)) ∈ gw := gw_in4 (List.mem_of_getElem? (i := 42) (rfl)) rfl
theorem tw_763 : (Jvm.Cond.methodLink "ScrapHouseLaw" (79 : Nat) ({ cls := "ScrapHouseModel", name := "feed", desc := "(I)I" } : Jvm.MethodName)) ∈ gw := gw_in4 (List.mem_of_getElem? (i := 43) (by decide +kernel)) rfl
theorem tw_764 : (Jvm.Cond.instanceMethod ({ cls := "ScrapHouseModel", name := "feed", desc := "(I)I" } : Jvm.MethodName)) ∈ gw := gw_in4 (List.mem_of_getElem? (i := 44) (by decide +kernel)) rfl
theorem tw_765 : (Jvm.Cond.selects "ScrapHouseModel" ({ cls := "ScrapHouseModel", name := "feed", desc := "(I)I" } : Jvm.MethodName) ({ cls := "ScrapHouseModel", name := "feed", desc := "(I)I" } : Jvm.MethodName)) ∈ gw := gw_in4 (List.mem_of_getElem? (i := 45) (by decide +kernel)) rfl
theorem tw_766 : (Jvm.Cond.code ({ cls := "ScrapHouseModel", name := "feed", desc := "(I)I" } : Jvm.MethodName) prog_12_method_31_code (5 : Nat) (Option.some Jvm.ClassFile.FieldType.int)) ∈ gw := gw_in4 (List.mem_of_getElem? (i := 46) (rfl)) rfl
theorem tw_767 : (Jvm.Cond.methodLink "ScrapHouseLaw" (83 : Nat) ({ cls := "ScrapHouseModel", name := "end", desc := "(I)Z" } : Jvm.MethodName)) ∈ gw := gw_in4 (List.mem_of_getElem? (i := 47) (by decide +kernel)) rfl
theorem tw_768 : (Jvm.Cond.instanceMethod ({ cls := "ScrapHouseModel", name := "end", desc := "(I)Z" } : Jvm.MethodName)) ∈ gw := gw_in4 (List.mem_of_getElem? (i := 48) (by decide +kernel)) rfl
theorem tw_769 : (Jvm.Cond.selects "ScrapHouseModel" ({ cls := "ScrapHouseModel", name := "end", desc := "(I)Z" } : Jvm.MethodName) ({ cls := "ScrapHouseModel", name := "end", desc := "(I)Z" } : Jvm.MethodName)) ∈ gw := gw_in4 (List.mem_of_getElem? (i := 49) (by decide +kernel)) rfl
theorem tw_770 : (Jvm.Cond.code ({ cls := "ScrapHouseModel", name := "end", desc := "(I)Z" } : Jvm.MethodName) prog_12_method_32_code (2 : Nat) (Option.some Jvm.ClassFile.FieldType.boolean)) ∈ gw := gw_in4 (List.mem_of_getElem? (i := 50) (rfl)) rfl
theorem tw_771 : (Jvm.Cond.methodLink "ScrapHouseLaw" (88 : Nat) ({ cls := "ScrapHouseModel", name := "fault", desc := "()I" } : Jvm.MethodName)) ∈ gw := gw_in4 (List.mem_of_getElem? (i := 51) (by decide +kernel)) rfl
theorem tw_772 : (Jvm.Cond.instanceMethod ({ cls := "ScrapHouseModel", name := "fault", desc := "()I" } : Jvm.MethodName)) ∈ gw := gw_in4 (List.mem_of_getElem? (i := 52) (by decide +kernel)) rfl
theorem tw_773 : (Jvm.Cond.selects "ScrapHouseModel" ({ cls := "ScrapHouseModel", name := "fault", desc := "()I" } : Jvm.MethodName) ({ cls := "ScrapHouseModel", name := "fault", desc := "()I" } : Jvm.MethodName)) ∈ gw := gw_in4 (List.mem_of_getElem? (i := 53) (by decide +kernel)) rfl
theorem tw_774 : (Jvm.Cond.code ({ cls := "ScrapHouseModel", name := "fault", desc := "()I" } : Jvm.MethodName) prog_12_method_39_code (1 : Nat) (Option.some Jvm.ClassFile.FieldType.int)) ∈ gw := gw_in4 (List.mem_of_getElem? (i := 54) (rfl)) rfl
theorem tw_775 : (Jvm.Cond.methodLink "ScrapHouseModel" (179 : Nat) ({ cls := "ScrapHouseModel", name := "tests", desc := "()V" } : Jvm.MethodName)) ∈ gw := gw_in4 (List.mem_of_getElem? (i := 55) (by decide +kernel)) rfl
theorem tw_777 : (Jvm.Cond.instanceMethod ({ cls := "ScrapHouseModel", name := "tests", desc := "()V" } : Jvm.MethodName)) ∈ gw := gw_in4 (List.mem_of_getElem? (i := 57) (by decide +kernel)) rfl
theorem tw_778 : (Jvm.Cond.code ({ cls := "ScrapHouseModel", name := "tests", desc := "()V" } : Jvm.MethodName) prog_12_method_38_code (1 : Nat) (Option.none : Option Jvm.ClassFile.FieldType)) ∈ gw := gw_in4 (List.mem_of_getElem? (i := 58) (rfl)) rfl
theorem tw_779 : (Jvm.Cond.methodLink "ScrapHouseModel" (192 : Nat) ({ cls := "ScrapHouseModel", name := "part", desc := "()V" } : Jvm.MethodName)) ∈ gw := gw_in4 (List.mem_of_getElem? (i := 59) (by decide +kernel)) rfl
theorem tw_781 : (Jvm.Cond.instanceMethod ({ cls := "ScrapHouseModel", name := "part", desc := "()V" } : Jvm.MethodName)) ∈ gw := gw_in4 (List.mem_of_getElem? (i := 61) (by decide +kernel)) rfl
theorem tw_782 : (Jvm.Cond.code ({ cls := "ScrapHouseModel", name := "part", desc := "()V" } : Jvm.MethodName) prog_12_method_37_code (1 : Nat) (Option.none : Option Jvm.ClassFile.FieldType)) ∈ gw := gw_in4 (List.mem_of_getElem? (i := 62) (rfl)) rfl
theorem tw_783 : (Jvm.Cond.methodLink "ScrapHouseModel" (189 : Nat) ({ cls := "ScrapHouseModel", name := "unit", desc := "()V" } : Jvm.MethodName)) ∈ gw := gw_in4 (List.mem_of_getElem? (i := 63) (by decide +kernel)) rfl
theorem tw_785 : (Jvm.Cond.instanceMethod ({ cls := "ScrapHouseModel", name := "unit", desc := "()V" } : Jvm.MethodName)) ∈ gw := gw_in4 (List.mem_of_getElem? (i := 65) (by decide +kernel)) rfl
theorem tw_786 : (Jvm.Cond.code ({ cls := "ScrapHouseModel", name := "unit", desc := "()V" } : Jvm.MethodName) prog_12_method_36_code (6 : Nat) (Option.none : Option Jvm.ClassFile.FieldType)) ∈ gw := gw_in4 (List.mem_of_getElem? (i := 66) (rfl)) rfl
theorem tw_787 : (Jvm.Cond.methodLink "ScrapHouseModel" (172 : Nat) ({ cls := "ScrapHouseModel", name := "peek", desc := "()I" } : Jvm.MethodName)) ∈ gw := gw_in4 (List.mem_of_getElem? (i := 67) (by decide +kernel)) rfl
theorem tw_789 : (Jvm.Cond.instanceMethod ({ cls := "ScrapHouseModel", name := "peek", desc := "()I" } : Jvm.MethodName)) ∈ gw := gw_in4 (List.mem_of_getElem? (i := 69) (by decide +kernel)) rfl
theorem tw_790 : (Jvm.Cond.code ({ cls := "ScrapHouseModel", name := "peek", desc := "()I" } : Jvm.MethodName) prog_12_method_33_code (1 : Nat) (Option.some Jvm.ClassFile.FieldType.int)) ∈ gw := gw_in4 (List.mem_of_getElem? (i := 70) (rfl)) rfl
theorem tw_791 : (Jvm.Cond.methodLink "ScrapHouseModel" (182 : Nat) ({ cls := "ScrapHouseModel", name := "fail", desc := "()V" } : Jvm.MethodName)) ∈ gw := gw_in4 (List.mem_of_getElem? (i := 71) (by decide +kernel)) rfl
theorem tw_793 : (Jvm.Cond.instanceMethod ({ cls := "ScrapHouseModel", name := "fail", desc := "()V" } : Jvm.MethodName)) ∈ gw := gw_in4 (List.mem_of_getElem? (i := 73) (by decide +kernel)) rfl
theorem tw_794 : (Jvm.Cond.code ({ cls := "ScrapHouseModel", name := "fail", desc := "()V" } : Jvm.MethodName) prog_12_method_34_code (1 : Nat) (Option.none : Option Jvm.ClassFile.FieldType)) ∈ gw := gw_in4 (List.mem_of_getElem? (i := 74) (rfl)) rfl
theorem tw_795 : (Jvm.Cond.methodLink "ScrapHouseModel" (185 : Nat) ({ cls := "ScrapHouseModel", name := "say", desc := "(I)V" } : Jvm.MethodName)) ∈ gw := gw_in4 (List.mem_of_getElem? (i := 75) (by decide +kernel)) rfl
theorem tw_797 : (Jvm.Cond.instanceMethod ({ cls := "ScrapHouseModel", name := "say", desc := "(I)V" } : Jvm.MethodName)) ∈ gw := gw_in4 (List.mem_of_getElem? (i := 77) (by decide +kernel)) rfl
theorem tw_798 : (Jvm.Cond.code ({ cls := "ScrapHouseModel", name := "say", desc := "(I)V" } : Jvm.MethodName) prog_12_method_35_code (2 : Nat) (Option.none : Option Jvm.ClassFile.FieldType)) ∈ gw := gw_in4 (List.mem_of_getElem? (i := 78) (rfl)) rfl
theorem tw_799 : (Jvm.Cond.methodLink "ScrapHouseLaw" (93 : Nat) ({ cls := "ScrapHouseModel", name := "rule", desc := "()Z" } : Jvm.MethodName)) ∈ gw := gw_in4 (List.mem_of_getElem? (i := 79) (by decide +kernel)) rfl
theorem tw_800 : (Jvm.Cond.instanceMethod ({ cls := "ScrapHouseModel", name := "rule", desc := "()Z" } : Jvm.MethodName)) ∈ gw := gw_in4 (List.mem_of_getElem? (i := 80) (by decide +kernel)) rfl
theorem tw_801 : (Jvm.Cond.selects "ScrapHouseModel" ({ cls := "ScrapHouseModel", name := "rule", desc := "()Z" } : Jvm.MethodName) ({ cls := "ScrapHouseModel", name := "rule", desc := "()Z" } : Jvm.MethodName)) ∈ gw := gw_in4 (List.mem_of_getElem? (i := 81) (by decide +kernel)) rfl
theorem tw_802 : (Jvm.Cond.code ({ cls := "ScrapHouseModel", name := "rule", desc := "()Z" } : Jvm.MethodName) prog_12_method_40_code (2 : Nat) (Option.some Jvm.ClassFile.FieldType.boolean)) ∈ gw := gw_in4 (List.mem_of_getElem? (i := 82) (rfl)) rfl
theorem tw_803 : (Jvm.Cond.methodLink "ScrapHouseModel" (195 : Nat) ({ cls := "ScrapHouseModel", name := "fault", desc := "()I" } : Jvm.MethodName)) ∈ gw := gw_in4 (List.mem_of_getElem? (i := 83) (by decide +kernel)) rfl
theorem tw_804 : (Jvm.Cond.methodLink "ScrapHouseLaw" (97 : Nat) ({ cls := "ScrapHouseModel", name := "claim", desc := "(IIIIII)I" } : Jvm.MethodName)) ∈ gw := gw_in4 (List.mem_of_getElem? (i := 84) (by decide +kernel)) rfl
theorem tw_805 : (Jvm.Cond.instanceMethod ({ cls := "ScrapHouseModel", name := "claim", desc := "(IIIIII)I" } : Jvm.MethodName)) ∈ gw := gw_in4 (List.mem_of_getElem? (i := 85) (by decide +kernel)) rfl
theorem tw_806 : (Jvm.Cond.selects "ScrapHouseModel" ({ cls := "ScrapHouseModel", name := "claim", desc := "(IIIIII)I" } : Jvm.MethodName) ({ cls := "ScrapHouseModel", name := "claim", desc := "(IIIIII)I" } : Jvm.MethodName)) ∈ gw := gw_in4 (List.mem_of_getElem? (i := 86) (by decide +kernel)) rfl
theorem tw_807 : (Jvm.Cond.code ({ cls := "ScrapHouseModel", name := "claim", desc := "(IIIIII)I" } : Jvm.MethodName) prog_12_method_44_code (13 : Nat) (Option.some Jvm.ClassFile.FieldType.int)) ∈ gw := gw_in4 (List.mem_of_getElem? (i := 87) (rfl)) rfl
theorem tw_808 : (Jvm.Cond.methodLink "ScrapHouseModel" (201 : Nat) ({ cls := "ScrapHouseModel", name := "isOpen", desc := "(I)Z" } : Jvm.MethodName)) ∈ gw := gw_in4 (List.mem_of_getElem? (i := 88) (by decide +kernel)) rfl
theorem tw_810 : (Jvm.Cond.instanceMethod ({ cls := "ScrapHouseModel", name := "isOpen", desc := "(I)Z" } : Jvm.MethodName)) ∈ gw := gw_in4 (List.mem_of_getElem? (i := 90) (by decide +kernel)) rfl
theorem tw_811 : (Jvm.Cond.code ({ cls := "ScrapHouseModel", name := "isOpen", desc := "(I)Z" } : Jvm.MethodName) prog_12_method_42_code (3 : Nat) (Option.some Jvm.ClassFile.FieldType.boolean)) ∈ gw := gw_in4 (List.mem_of_getElem? (i := 91) (rfl)) rfl
theorem tw_812 : (Jvm.Cond.methodLink "ScrapHouseModel" (204 : Nat) ({ cls := "ScrapHouseModel", name := "agreeing", desc := "(IIIII)I" } : Jvm.MethodName)) ∈ gw := gw_in4 (List.mem_of_getElem? (i := 92) (by decide +kernel)) rfl
theorem tw_814 : (Jvm.Cond.instanceMethod ({ cls := "ScrapHouseModel", name := "agreeing", desc := "(IIIII)I" } : Jvm.MethodName)) ∈ gw := gw_in4 (List.mem_of_getElem? (i := 94) (by decide +kernel)) rfl
theorem tw_815 : (Jvm.Cond.code ({ cls := "ScrapHouseModel", name := "agreeing", desc := "(IIIII)I" } : Jvm.MethodName) prog_12_method_43_code (6 : Nat) (Option.some Jvm.ClassFile.FieldType.int)) ∈ gw := gw_in4 (List.mem_of_getElem? (i := 95) (rfl)) rfl
theorem tw_816 : (Jvm.Cond.methodLink "ScrapHouseModel" (208 : Nat) ({ cls := "ScrapHouseModel", name := "holds", desc := "(IIIII)Z" } : Jvm.MethodName)) ∈ gw := gw_in4 (List.mem_of_getElem? (i := 96) (by decide +kernel)) rfl
theorem tw_818 : (Jvm.Cond.instanceMethod ({ cls := "ScrapHouseModel", name := "holds", desc := "(IIIII)Z" } : Jvm.MethodName)) ∈ gw := gw_in4 (List.mem_of_getElem? (i := 98) (by decide +kernel)) rfl
theorem tw_819 : (Jvm.Cond.code ({ cls := "ScrapHouseModel", name := "holds", desc := "(IIIII)Z" } : Jvm.MethodName) prog_12_method_41_code (11 : Nat) (Option.some Jvm.ClassFile.FieldType.boolean)) ∈ gw := gw_in4 (List.mem_of_getElem? (i := 99) (rfl)) rfl
theorem tw_820 : (Jvm.Cond.methodLink "ScrapHouseLaw" (101 : Nat) ({ cls := "ScrapHouseModel", name := "name", desc := "(II)Z" } : Jvm.MethodName)) ∈ gw := gw_in4 (List.mem_of_getElem? (i := 100) (by decide +kernel)) rfl
theorem tw_821 : (Jvm.Cond.instanceMethod ({ cls := "ScrapHouseModel", name := "name", desc := "(II)Z" } : Jvm.MethodName)) ∈ gw := gw_in4 (List.mem_of_getElem? (i := 101) (by decide +kernel)) rfl
theorem tw_822 : (Jvm.Cond.selects "ScrapHouseModel" ({ cls := "ScrapHouseModel", name := "name", desc := "(II)Z" } : Jvm.MethodName) ({ cls := "ScrapHouseModel", name := "name", desc := "(II)Z" } : Jvm.MethodName)) ∈ gw := gw_in4 (List.mem_of_getElem? (i := 102) (by decide +kernel)) rfl
theorem tw_823 : (Jvm.Cond.code ({ cls := "ScrapHouseModel", name := "name", desc := "(II)Z" } : Jvm.MethodName) prog_12_method_45_code (3 : Nat) (Option.some Jvm.ClassFile.FieldType.boolean)) ∈ gw := gw_in4 (List.mem_of_getElem? (i := 103) (rfl)) rfl
theorem tw_824 : (Jvm.Cond.constant "ScrapHouseModel" (212 : Nat) (1000000 : Int32)) ∈ gw := gw_in4 (List.mem_of_getElem? (i := 104) (by decide +kernel)) rfl
theorem tw_825 : (Jvm.Cond.methodLink "ScrapHouseLaw" (106 : Nat) ({ cls := "ScrapHouseModel", name := "allow", desc := "(IIZ)Z" } : Jvm.MethodName)) ∈ gw := gw_in4 (List.mem_of_getElem? (i := 105) (by decide +kernel)) rfl
theorem tw_826 : (Jvm.Cond.instanceMethod ({ cls := "ScrapHouseModel", name := "allow", desc := "(IIZ)Z" } : Jvm.MethodName)) ∈ gw := gw_in4 (List.mem_of_getElem? (i := 106) (by decide +kernel)) rfl
theorem tw_827 : (Jvm.Cond.selects "ScrapHouseModel" ({ cls := "ScrapHouseModel", name := "allow", desc := "(IIZ)Z" } : Jvm.MethodName) ({ cls := "ScrapHouseModel", name := "allow", desc := "(IIZ)Z" } : Jvm.MethodName)) ∈ gw := gw_in4 (List.mem_of_getElem? (i := 107) (by decide +kernel)) rfl
theorem tw_828 : (Jvm.Cond.code ({ cls := "ScrapHouseModel", name := "allow", desc := "(IIZ)Z" } : Jvm.MethodName) prog_12_method_47_code (4 : Nat) (Option.some Jvm.ClassFile.FieldType.boolean)) ∈ gw := gw_in4 (List.mem_of_getElem? (i := 108) (rfl)) rfl
theorem tw_829 : (Jvm.Cond.methodLink "ScrapHouseModel" (213 : Nat) ({ cls := "ScrapHouseModel", name := "areBoth", desc := "(II)Z" } : Jvm.MethodName)) ∈ gw := gw_in4 (List.mem_of_getElem? (i := 109) (by decide +kernel)) rfl
theorem tw_831 : (Jvm.Cond.instanceMethod ({ cls := "ScrapHouseModel", name := "areBoth", desc := "(II)Z" } : Jvm.MethodName)) ∈ gw := gw_in4 (List.mem_of_getElem? (i := 111) (by decide +kernel)) rfl
theorem tw_832 : (Jvm.Cond.code ({ cls := "ScrapHouseModel", name := "areBoth", desc := "(II)Z" } : Jvm.MethodName) prog_12_method_46_code (3 : Nat) (Option.some Jvm.ClassFile.FieldType.boolean)) ∈ gw := gw_in4 (List.mem_of_getElem? (i := 112) (rfl)) rfl
theorem tw_833 : (Jvm.Cond.methodLink "ScrapHouseLaw" (110 : Nat) ({ cls := "ScrapHouseModel", name := "ask", desc := "(II)I" } : Jvm.MethodName)) ∈ gw := gw_in4 (List.mem_of_getElem? (i := 113) (by decide +kernel)) rfl
theorem tw_834 : (Jvm.Cond.instanceMethod ({ cls := "ScrapHouseModel", name := "ask", desc := "(II)I" } : Jvm.MethodName)) ∈ gw := gw_in4 (List.mem_of_getElem? (i := 114) (by decide +kernel)) rfl
theorem tw_835 : (Jvm.Cond.selects "ScrapHouseModel" ({ cls := "ScrapHouseModel", name := "ask", desc := "(II)I" } : Jvm.MethodName) ({ cls := "ScrapHouseModel", name := "ask", desc := "(II)I" } : Jvm.MethodName)) ∈ gw := gw_in4 (List.mem_of_getElem? (i := 115) (by decide +kernel)) rfl
theorem tw_836 : (Jvm.Cond.code ({ cls := "ScrapHouseModel", name := "ask", desc := "(II)I" } : Jvm.MethodName) prog_12_method_48_code (3 : Nat) (Option.some Jvm.ClassFile.FieldType.int)) ∈ gw := gw_in4 (List.mem_of_getElem? (i := 116) (rfl)) rfl
theorem tw_837 : (Jvm.Cond.methodLink "ScrapHouseLaw" (114 : Nat) ({ cls := "ScrapHouseModel", name := "guess", desc := "(III)I" } : Jvm.MethodName)) ∈ gw := gw_in4 (List.mem_of_getElem? (i := 117) (by decide +kernel)) rfl
theorem tw_838 : (Jvm.Cond.instanceMethod ({ cls := "ScrapHouseModel", name := "guess", desc := "(III)I" } : Jvm.MethodName)) ∈ gw := gw_in4 (List.mem_of_getElem? (i := 118) (by decide +kernel)) rfl
theorem tw_839 : (Jvm.Cond.selects "ScrapHouseModel" ({ cls := "ScrapHouseModel", name := "guess", desc := "(III)I" } : Jvm.MethodName) ({ cls := "ScrapHouseModel", name := "guess", desc := "(III)I" } : Jvm.MethodName)) ∈ gw := gw_in4 (List.mem_of_getElem? (i := 119) (by decide +kernel)) rfl
theorem tw_840 : (Jvm.Cond.code ({ cls := "ScrapHouseModel", name := "guess", desc := "(III)I" } : Jvm.MethodName) prog_12_method_49_code (4 : Nat) (Option.some Jvm.ClassFile.FieldType.int)) ∈ gw := gw_in4 (List.mem_of_getElem? (i := 120) (rfl)) rfl
theorem tw_841 : (Jvm.Cond.methodLink "ScrapHouseLaw" (118 : Nat) ({ cls := "ScrapHouseModel", name := "told", desc := "(II)I" } : Jvm.MethodName)) ∈ gw := gw_in4 (List.mem_of_getElem? (i := 121) (by decide +kernel)) rfl
theorem tw_842 : (Jvm.Cond.instanceMethod ({ cls := "ScrapHouseModel", name := "told", desc := "(II)I" } : Jvm.MethodName)) ∈ gw := gw_in4 (List.mem_of_getElem? (i := 122) (by decide +kernel)) rfl
theorem tw_843 : (Jvm.Cond.selects "ScrapHouseModel" ({ cls := "ScrapHouseModel", name := "told", desc := "(II)I" } : Jvm.MethodName) ({ cls := "ScrapHouseModel", name := "told", desc := "(II)I" } : Jvm.MethodName)) ∈ gw := gw_in4 (List.mem_of_getElem? (i := 123) (by decide +kernel)) rfl
theorem tw_844 : (Jvm.Cond.code ({ cls := "ScrapHouseModel", name := "told", desc := "(II)I" } : Jvm.MethodName) prog_12_method_50_code (5 : Nat) (Option.some Jvm.ClassFile.FieldType.int)) ∈ gw := gw_in4 (List.mem_of_getElem? (i := 124) (rfl)) rfl
theorem tw_845 : (Jvm.Cond.methodLink "ScrapHouseLaw" (122 : Nat) ({ cls := "ScrapHouseModel", name := "count", desc := "(I)I" } : Jvm.MethodName)) ∈ gw := gw_in4 (List.mem_of_getElem? (i := 125) (by decide +kernel)) rfl
theorem tw_846 : (Jvm.Cond.instanceMethod ({ cls := "ScrapHouseModel", name := "count", desc := "(I)I" } : Jvm.MethodName)) ∈ gw := gw_in4 (List.mem_of_getElem? (i := 126) (by decide +kernel)) rfl
theorem tw_847 : (Jvm.Cond.selects "ScrapHouseModel" ({ cls := "ScrapHouseModel", name := "count", desc := "(I)I" } : Jvm.MethodName) ({ cls := "ScrapHouseModel", name := "count", desc := "(I)I" } : Jvm.MethodName)) ∈ gw := gw_in4 (List.mem_of_getElem? (i := 127) (by decide +kernel)) rfl
theorem tw_848 : (Jvm.Cond.code ({ cls := "ScrapHouseModel", name := "count", desc := "(I)I" } : Jvm.MethodName) prog_12_method_51_code (2 : Nat) (Option.some Jvm.ClassFile.FieldType.int)) ∈ gw := gw_in4 (List.mem_of_getElem? (i := 128) (rfl)) rfl
theorem tw_849 : (Jvm.Cond.constantLong "ScrapHouseLaw" (18 : Nat) (4294967295 : Int64)) ∈ gw := gw_in4 (List.mem_of_getElem? (i := 129) (by decide +kernel)) rfl
theorem tw_850 : (Jvm.Cond.arrayClass Jvm.ClassFile.FieldType.char) ∈ gw := gw_in4 (List.mem_of_getElem? (i := 130) (by decide +kernel)) rfl
end
section
theorem dX10_in_0 : decode cX10_in 0 = .ok (.iload_n 0, 1) := by decide +kernel
theorem dX10_in_1 : decode cX10_in 1 = .ok (.iload_n 1, 1) := by decide +kernel
theorem dX10_in_2 : decode cX10_in 2 = .ok (.if_icmp .lt 12, 3) := by decide +kernel
theorem dX10_in_5 : decode cX10_in 5 = .ok (.iload_n 0, 1) := by decide +kernel
theorem dX10_in_6 : decode cX10_in 6 = .ok (.iload_n 2, 1) := by decide +kernel
theorem dX10_in_7 : decode cX10_in 7 = .ok (.if_icmp .gt 7, 3) := by decide +kernel
theorem dX10_in_10 : decode cX10_in 10 = .ok (.iconst 1, 1) := by decide +kernel
theorem dX10_in_11 : decode cX10_in 11 = .ok (.goto 4, 3) := by decide +kernel
theorem dX10_in_14 : decode cX10_in 14 = .ok (.iconst 0, 1) := by decide +kernel
theorem dX10_in_15 : decode cX10_in 15 = .ok (.ireturn, 1) := by decide +kernel
theorem dX10_init_0 : decode cX10_init 0 = .ok (.aload_n 0, 1) := by decide +kernel
theorem dX10_init_1 : decode cX10_init 1 = .ok (.invokespecial 1, 3) := by decide +kernel
theorem dX10_init_4 : decode cX10_init 4 = .ok (.aload_n 0, 1) := by decide +kernel
theorem dX10_init_5 : decode cX10_init 5 = .ok (.bipush 50, 2) := by decide +kernel
theorem dX10_init_7 : decode cX10_init 7 = .ok (.newarray .int, 2) := by decide +kernel
theorem dX10_init_9 : decode cX10_init 9 = .ok (.putfield 9, 3) := by decide +kernel
theorem dX10_init_12 : decode cX10_init 12 = .ok (.aload_n 0, 1) := by decide +kernel
theorem dX10_init_13 : decode cX10_init 13 = .ok (.sipush 1000, 3) := by decide +kernel
theorem dX10_init_16 : decode cX10_init 16 = .ok (.newarray .int, 2) := by decide +kernel
theorem dX10_init_18 : decode cX10_init 18 = .ok (.putfield 13, 3) := by decide +kernel
theorem dX10_init_21 : decode cX10_init 21 = .ok (.aload_n 0, 1) := by decide +kernel
theorem dX10_init_22 : decode cX10_init 22 = .ok (.bipush 20, 2) := by decide +kernel
theorem dX10_init_24 : decode cX10_init 24 = .ok (.newarray .int, 2) := by decide +kernel
theorem dX10_init_26 : decode cX10_init 26 = .ok (.putfield 16, 3) := by decide +kernel
theorem dX10_init_29 : decode cX10_init 29 = .ok (.aload_n 0, 1) := by decide +kernel
theorem dX10_init_30 : decode cX10_init 30 = .ok (.bipush 60, 2) := by decide +kernel
theorem dX10_init_32 : decode cX10_init 32 = .ok (.newarray .int, 2) := by decide +kernel
theorem dX10_init_34 : decode cX10_init 34 = .ok (.putfield 19, 3) := by decide +kernel
theorem dX10_init_37 : decode cX10_init 37 = .ok (.aload_n 0, 1) := by decide +kernel
theorem dX10_init_38 : decode cX10_init 38 = .ok (.bipush 60, 2) := by decide +kernel
theorem dX10_init_40 : decode cX10_init 40 = .ok (.newarray .int, 2) := by decide +kernel
theorem dX10_init_42 : decode cX10_init 42 = .ok (.putfield 22, 3) := by decide +kernel
theorem dX10_init_45 : decode cX10_init 45 = .ok (.aload_n 0, 1) := by decide +kernel
theorem dX10_init_46 : decode cX10_init 46 = .ok (.bipush 60, 2) := by decide +kernel
theorem dX10_init_48 : decode cX10_init 48 = .ok (.newarray .int, 2) := by decide +kernel
theorem dX10_init_50 : decode cX10_init 50 = .ok (.putfield 25, 3) := by decide +kernel
theorem dX10_init_53 : decode cX10_init 53 = .ok (.aload_n 0, 1) := by decide +kernel
theorem dX10_init_54 : decode cX10_init 54 = .ok (.bipush 60, 2) := by decide +kernel
theorem dX10_init_56 : decode cX10_init 56 = .ok (.newarray .int, 2) := by decide +kernel
theorem dX10_init_58 : decode cX10_init 58 = .ok (.putfield 28, 3) := by decide +kernel
theorem dX10_init_61 : decode cX10_init 61 = .ok (.aload_n 0, 1) := by decide +kernel
theorem dX10_init_62 : decode cX10_init 62 = .ok (.bipush 60, 2) := by decide +kernel
theorem dX10_init_64 : decode cX10_init 64 = .ok (.newarray .int, 2) := by decide +kernel
theorem dX10_init_66 : decode cX10_init 66 = .ok (.putfield 31, 3) := by decide +kernel
theorem dX10_init_69 : decode cX10_init 69 = .ok (.aload_n 0, 1) := by decide +kernel
theorem dX10_init_70 : decode cX10_init 70 = .ok (.bipush 60, 2) := by decide +kernel
theorem dX10_init_72 : decode cX10_init 72 = .ok (.newarray .int, 2) := by decide +kernel
theorem dX10_init_74 : decode cX10_init 74 = .ok (.putfield 34, 3) := by decide +kernel
theorem dX10_init_77 : decode cX10_init 77 = .ok (.aload_n 0, 1) := by decide +kernel
theorem dX10_init_78 : decode cX10_init 78 = .ok (.bipush 60, 2) := by decide +kernel
theorem dX10_init_80 : decode cX10_init 80 = .ok (.newarray .int, 2) := by decide +kernel
theorem dX10_init_82 : decode cX10_init 82 = .ok (.putfield 37, 3) := by decide +kernel
theorem dX10_init_85 : decode cX10_init 85 = .ok (.aload_n 0, 1) := by decide +kernel
theorem dX10_init_86 : decode cX10_init 86 = .ok (.bipush 60, 2) := by decide +kernel
theorem dX10_init_88 : decode cX10_init 88 = .ok (.newarray .int, 2) := by decide +kernel
theorem dX10_init_90 : decode cX10_init 90 = .ok (.putfield 40, 3) := by decide +kernel
theorem dX10_init_93 : decode cX10_init 93 = .ok (.aload_n 0, 1) := by decide +kernel
theorem dX10_init_94 : decode cX10_init 94 = .ok (.sipush 1200, 3) := by decide +kernel
theorem dX10_init_97 : decode cX10_init 97 = .ok (.newarray .boolean, 2) := by decide +kernel
theorem dX10_init_99 : decode cX10_init 99 = .ok (.putfield 43, 3) := by decide +kernel
theorem dX10_init_102 : decode cX10_init 102 = .ok (.aload_n 0, 1) := by decide +kernel
theorem dX10_init_103 : decode cX10_init 103 = .ok (.sipush 300, 3) := by decide +kernel
theorem dX10_init_106 : decode cX10_init 106 = .ok (.newarray .int, 2) := by decide +kernel
theorem dX10_init_108 : decode cX10_init 108 = .ok (.putfield 47, 3) := by decide +kernel
theorem dX10_init_111 : decode cX10_init 111 = .ok (.aload_n 0, 1) := by decide +kernel
theorem dX10_init_112 : decode cX10_init 112 = .ok (.sipush 300, 3) := by decide +kernel
theorem dX10_init_115 : decode cX10_init 115 = .ok (.newarray .int, 2) := by decide +kernel
theorem dX10_init_117 : decode cX10_init 117 = .ok (.putfield 50, 3) := by decide +kernel
theorem dX10_init_120 : decode cX10_init 120 = .ok (.aload_n 0, 1) := by decide +kernel
theorem dX10_init_121 : decode cX10_init 121 = .ok (.sipush 300, 3) := by decide +kernel
theorem dX10_init_124 : decode cX10_init 124 = .ok (.newarray .int, 2) := by decide +kernel
theorem dX10_init_126 : decode cX10_init 126 = .ok (.putfield 53, 3) := by decide +kernel
theorem dX10_init_129 : decode cX10_init 129 = .ok (.aload_n 0, 1) := by decide +kernel
theorem dX10_init_130 : decode cX10_init 130 = .ok (.sipush 300, 3) := by decide +kernel
theorem dX10_init_133 : decode cX10_init 133 = .ok (.newarray .int, 2) := by decide +kernel
theorem dX10_init_135 : decode cX10_init 135 = .ok (.putfield 56, 3) := by decide +kernel
theorem dX10_init_138 : decode cX10_init 138 = .ok (.aload_n 0, 1) := by decide +kernel
theorem dX10_init_139 : decode cX10_init 139 = .ok (.bipush 13, 2) := by decide +kernel
theorem dX10_init_141 : decode cX10_init 141 = .ok (.newarray .int, 2) := by decide +kernel
theorem dX10_init_143 : decode cX10_init 143 = .ok (.putfield 59, 3) := by decide +kernel
theorem dX10_init_146 : decode cX10_init 146 = .ok (.aload_n 0, 1) := by decide +kernel
theorem dX10_init_147 : decode cX10_init 147 = .ok (.sipush 26013, 3) := by decide +kernel
theorem dX10_init_150 : decode cX10_init 150 = .ok (.newarray .boolean, 2) := by decide +kernel
theorem dX10_init_152 : decode cX10_init 152 = .ok (.putfield 62, 3) := by decide +kernel
theorem dX10_init_155 : decode cX10_init 155 = .ok (.aload_n 0, 1) := by decide +kernel
theorem dX10_init_156 : decode cX10_init 156 = .ok (.bipush 100, 2) := by decide +kernel
theorem dX10_init_158 : decode cX10_init 158 = .ok (.newarray .int, 2) := by decide +kernel
theorem dX10_init_160 : decode cX10_init 160 = .ok (.putfield 65, 3) := by decide +kernel
theorem dX10_init_163 : decode cX10_init 163 = .ok (.aload_n 0, 1) := by decide +kernel
theorem dX10_init_164 : decode cX10_init 164 = .ok (.sipush 240, 3) := by decide +kernel
theorem dX10_init_167 : decode cX10_init 167 = .ok (.newarray .int, 2) := by decide +kernel
theorem dX10_init_169 : decode cX10_init 169 = .ok (.putfield 68, 3) := by decide +kernel
theorem dX10_init_172 : decode cX10_init 172 = .ok (.aload_n 0, 1) := by decide +kernel
theorem dX10_init_173 : decode cX10_init 173 = .ok (.sipush 240, 3) := by decide +kernel
theorem dX10_init_176 : decode cX10_init 176 = .ok (.newarray .int, 2) := by decide +kernel
theorem dX10_init_178 : decode cX10_init 178 = .ok (.putfield 71, 3) := by decide +kernel
theorem dX10_init_181 : decode cX10_init 181 = .ok (.aload_n 0, 1) := by decide +kernel
theorem dX10_init_182 : decode cX10_init 182 = .ok (.bipush 120, 2) := by decide +kernel
theorem dX10_init_184 : decode cX10_init 184 = .ok (.newarray .boolean, 2) := by decide +kernel
theorem dX10_init_186 : decode cX10_init 186 = .ok (.putfield 74, 3) := by decide +kernel
theorem dX10_init_189 : decode cX10_init 189 = .ok (.iconst 1, 1) := by decide +kernel
theorem dX10_init_190 : decode cX10_init 190 = .ok (.istore_n 1, 1) := by decide +kernel
theorem dX10_init_191 : decode cX10_init 191 = .ok (.iload_n 1, 1) := by decide +kernel
theorem dX10_init_192 : decode cX10_init 192 = .ok (.bipush 13, 2) := by decide +kernel
theorem dX10_init_194 : decode cX10_init 194 = .ok (.if_icmp .ge 16, 3) := by decide +kernel
theorem dX10_init_197 : decode cX10_init 197 = .ok (.aload_n 0, 1) := by decide +kernel
theorem dX10_init_198 : decode cX10_init 198 = .ok (.getfield 59, 3) := by decide +kernel
theorem dX10_init_201 : decode cX10_init 201 = .ok (.iload_n 1, 1) := by decide +kernel
theorem dX10_init_202 : decode cX10_init 202 = .ok (.iconst 2, 1) := by decide +kernel
theorem dX10_init_203 : decode cX10_init 203 = .ok (.iastore, 1) := by decide +kernel
theorem dX10_init_204 : decode cX10_init 204 = .ok (.iinc 1 1, 3) := by decide +kernel
theorem dX10_init_207 : decode cX10_init 207 = .ok (.goto (-16), 3) := by decide +kernel
theorem dX10_init_210 : decode cX10_init 210 = .ok (.return_, 1) := by decide +kernel
theorem dX10_days_0 : decode cX10_days 0 = .ok (.iload_n 1, 1) := by decide +kernel
theorem dX10_days_1 : decode cX10_days 1 = .ok (.iconst 0, 1) := by decide +kernel
theorem dX10_days_2 : decode cX10_days 2 = .ok (.sipush 1000, 3) := by decide +kernel
theorem dX10_days_5 : decode cX10_days 5 = .ok (.invokestatic 77, 3) := by decide +kernel
theorem dX10_days_8 : decode cX10_days 8 = .ok (.ifCond .eq 15, 3) := by decide +kernel
theorem dX10_days_11 : decode cX10_days 11 = .ok (.aload_n 0, 1) := by decide +kernel
theorem dX10_days_12 : decode cX10_days 12 = .ok (.getfield 81, 3) := by decide +kernel
theorem dX10_days_15 : decode cX10_days 15 = .ok (.iload_n 1, 1) := by decide +kernel
theorem dX10_days_16 : decode cX10_days 16 = .ok (.iadd, 1) := by decide +kernel
theorem dX10_days_17 : decode cX10_days 17 = .ok (.sipush 2000, 3) := by decide +kernel
theorem dX10_days_20 : decode cX10_days 20 = .ok (.if_icmp .le 5, 3) := by decide +kernel
theorem dX10_days_23 : decode cX10_days 23 = .ok (.iconst (-1), 1) := by decide +kernel
theorem dX10_days_24 : decode cX10_days 24 = .ok (.ireturn, 1) := by decide +kernel
theorem dX10_days_25 : decode cX10_days 25 = .ok (.aload_n 0, 1) := by decide +kernel
theorem dX10_days_26 : decode cX10_days 26 = .ok (.dup, 1) := by decide +kernel
theorem dX10_days_27 : decode cX10_days 27 = .ok (.getfield 81, 3) := by decide +kernel
theorem dX10_days_30 : decode cX10_days 30 = .ok (.iload_n 1, 1) := by decide +kernel
theorem dX10_days_31 : decode cX10_days 31 = .ok (.iadd, 1) := by decide +kernel
theorem dX10_days_32 : decode cX10_days 32 = .ok (.putfield 81, 3) := by decide +kernel
theorem dX10_days_35 : decode cX10_days 35 = .ok (.aload_n 0, 1) := by decide +kernel
theorem dX10_days_36 : decode cX10_days 36 = .ok (.getfield 81, 3) := by decide +kernel
theorem dX10_days_39 : decode cX10_days 39 = .ok (.ireturn, 1) := by decide +kernel
theorem dX10_ballot_0 : decode cX10_ballot 0 = .ok (.iload_n 1, 1) := by decide +kernel
theorem dX10_ballot_1 : decode cX10_ballot 1 = .ok (.iconst 1, 1) := by decide +kernel
theorem dX10_ballot_2 : decode cX10_ballot 2 = .ok (.bipush 20, 2) := by decide +kernel
theorem dX10_ballot_4 : decode cX10_ballot 4 = .ok (.invokestatic 77, 3) := by decide +kernel
theorem dX10_ballot_7 : decode cX10_ballot 7 = .ok (.ifCond .eq 32, 3) := by decide +kernel
theorem dX10_ballot_10 : decode cX10_ballot 10 = .ok (.iload_n 2, 1) := by decide +kernel
theorem dX10_ballot_11 : decode cX10_ballot 11 = .ok (.iconst 0, 1) := by decide +kernel
theorem dX10_ballot_12 : decode cX10_ballot 12 = .ok (.iload_n 1, 1) := by decide +kernel
theorem dX10_ballot_13 : decode cX10_ballot 13 = .ok (.invokestatic 77, 3) := by decide +kernel
theorem dX10_ballot_16 : decode cX10_ballot 16 = .ok (.ifCond .eq 23, 3) := by decide +kernel
theorem dX10_ballot_19 : decode cX10_ballot 19 = .ok (.iload_n 3, 1) := by decide +kernel
theorem dX10_ballot_20 : decode cX10_ballot 20 = .ok (.iconst 0, 1) := by decide +kernel
theorem dX10_ballot_21 : decode cX10_ballot 21 = .ok (.iload_n 1, 1) := by decide +kernel
theorem dX10_ballot_22 : decode cX10_ballot 22 = .ok (.iload_n 2, 1) := by decide +kernel
theorem dX10_ballot_23 : decode cX10_ballot 23 = .ok (.isub, 1) := by decide +kernel
theorem dX10_ballot_24 : decode cX10_ballot 24 = .ok (.invokestatic 77, 3) := by decide +kernel
theorem dX10_ballot_27 : decode cX10_ballot 27 = .ok (.ifCond .eq 12, 3) := by decide +kernel
theorem dX10_ballot_30 : decode cX10_ballot 30 = .ok (.aload_n 0, 1) := by decide +kernel
theorem dX10_ballot_31 : decode cX10_ballot 31 = .ok (.getfield 85, 3) := by decide +kernel
theorem dX10_ballot_34 : decode cX10_ballot 34 = .ok (.bipush 50, 2) := by decide +kernel
theorem dX10_ballot_36 : decode cX10_ballot 36 = .ok (.if_icmp .ne 5, 3) := by decide +kernel
theorem dX10_ballot_39 : decode cX10_ballot 39 = .ok (.iconst (-1), 1) := by decide +kernel
theorem dX10_ballot_40 : decode cX10_ballot 40 = .ok (.ireturn, 1) := by decide +kernel
theorem dX10_ballot_41 : decode cX10_ballot 41 = .ok (.aload_n 0, 1) := by decide +kernel
theorem dX10_ballot_42 : decode cX10_ballot 42 = .ok (.iload_n 1, 1) := by decide +kernel
theorem dX10_ballot_43 : decode cX10_ballot 43 = .ok (.invokevirtual 88, 3) := by decide +kernel
theorem dX10_ballot_46 : decode cX10_ballot 46 = .ok (.astore 6, 2) := by decide +kernel
theorem dX10_ballot_48 : decode cX10_ballot 48 = .ok (.lload 4, 2) := by decide +kernel
theorem dX10_ballot_50 : decode cX10_ballot 50 = .ok (.lstore 7, 2) := by decide +kernel
theorem dX10_ballot_52 : decode cX10_ballot 52 = .ok (.iconst 0, 1) := by decide +kernel
theorem dX10_ballot_53 : decode cX10_ballot 53 = .ok (.istore 9, 2) := by decide +kernel
theorem dX10_ballot_55 : decode cX10_ballot 55 = .ok (.iload 9, 2) := by decide +kernel
theorem dX10_ballot_57 : decode cX10_ballot 57 = .ok (.iload_n 1, 1) := by decide +kernel
theorem dX10_ballot_58 : decode cX10_ballot 58 = .ok (.if_icmp .ge 113, 3) := by decide +kernel
theorem dX10_ballot_61 : decode cX10_ballot 61 = .ok (.lload 7, 2) := by decide +kernel
theorem dX10_ballot_63 : decode cX10_ballot 63 = .ok (.ldc2_w 92, 3) := by decide +kernel
theorem dX10_ballot_66 : decode cX10_ballot 66 = .ok (.lmul, 1) := by decide +kernel
theorem dX10_ballot_67 : decode cX10_ballot 67 = .ok (.ldc2_w 94, 3) := by decide +kernel
theorem dX10_ballot_70 : decode cX10_ballot 70 = .ok (.ladd, 1) := by decide +kernel
theorem dX10_ballot_71 : decode cX10_ballot 71 = .ok (.lstore 7, 2) := by decide +kernel
theorem dX10_ballot_73 : decode cX10_ballot 73 = .ok (.lload 7, 2) := by decide +kernel
theorem dX10_ballot_75 : decode cX10_ballot 75 = .ok (.bipush 33, 2) := by decide +kernel
theorem dX10_ballot_77 : decode cX10_ballot 77 = .ok (.lushr, 1) := by decide +kernel
theorem dX10_ballot_78 : decode cX10_ballot 78 = .ok (.iload_n 1, 1) := by decide +kernel
theorem dX10_ballot_79 : decode cX10_ballot 79 = .ok (.iload 9, 2) := by decide +kernel
theorem dX10_ballot_81 : decode cX10_ballot 81 = .ok (.isub, 1) := by decide +kernel
theorem dX10_ballot_82 : decode cX10_ballot 82 = .ok (.i2l, 1) := by decide +kernel
theorem dX10_ballot_83 : decode cX10_ballot 83 = .ok (.lrem, 1) := by decide +kernel
theorem dX10_ballot_84 : decode cX10_ballot 84 = .ok (.l2i, 1) := by decide +kernel
theorem dX10_ballot_85 : decode cX10_ballot 85 = .ok (.istore 10, 2) := by decide +kernel
theorem dX10_ballot_87 : decode cX10_ballot 87 = .ok (.aload 6, 2) := by decide +kernel
theorem dX10_ballot_89 : decode cX10_ballot 89 = .ok (.iload 10, 2) := by decide +kernel
theorem dX10_ballot_91 : decode cX10_ballot 91 = .ok (.iaload, 1) := by decide +kernel
theorem dX10_ballot_92 : decode cX10_ballot 92 = .ok (.istore 11, 2) := by decide +kernel
theorem dX10_ballot_94 : decode cX10_ballot 94 = .ok (.iload 10, 2) := by decide +kernel
theorem dX10_ballot_96 : decode cX10_ballot 96 = .ok (.istore 12, 2) := by decide +kernel
theorem dX10_ballot_98 : decode cX10_ballot 98 = .ok (.iload 12, 2) := by decide +kernel
theorem dX10_ballot_100 : decode cX10_ballot 100 = .ok (.iload_n 1, 1) := by decide +kernel
theorem dX10_ballot_101 : decode cX10_ballot 101 = .ok (.iload 9, 2) := by decide +kernel
theorem dX10_ballot_103 : decode cX10_ballot 103 = .ok (.isub, 1) := by decide +kernel
theorem dX10_ballot_104 : decode cX10_ballot 104 = .ok (.iconst 1, 1) := by decide +kernel
theorem dX10_ballot_105 : decode cX10_ballot 105 = .ok (.isub, 1) := by decide +kernel
theorem dX10_ballot_106 : decode cX10_ballot 106 = .ok (.if_icmp .ge 21, 3) := by decide +kernel
theorem dX10_ballot_109 : decode cX10_ballot 109 = .ok (.aload 6, 2) := by decide +kernel
theorem dX10_ballot_111 : decode cX10_ballot 111 = .ok (.iload 12, 2) := by decide +kernel
theorem dX10_ballot_113 : decode cX10_ballot 113 = .ok (.aload 6, 2) := by decide +kernel
theorem dX10_ballot_115 : decode cX10_ballot 115 = .ok (.iload 12, 2) := by decide +kernel
theorem dX10_ballot_117 : decode cX10_ballot 117 = .ok (.iconst 1, 1) := by decide +kernel
theorem dX10_ballot_118 : decode cX10_ballot 118 = .ok (.iadd, 1) := by decide +kernel
theorem dX10_ballot_119 : decode cX10_ballot 119 = .ok (.iaload, 1) := by decide +kernel
theorem dX10_ballot_120 : decode cX10_ballot 120 = .ok (.iastore, 1) := by decide +kernel
theorem dX10_ballot_121 : decode cX10_ballot 121 = .ok (.iinc 12 1, 3) := by decide +kernel
theorem dX10_ballot_124 : decode cX10_ballot 124 = .ok (.goto (-26), 3) := by decide +kernel
theorem dX10_ballot_127 : decode cX10_ballot 127 = .ok (.aload_n 0, 1) := by decide +kernel
theorem dX10_ballot_128 : decode cX10_ballot 128 = .ok (.getfield 13, 3) := by decide +kernel
theorem dX10_ballot_131 : decode cX10_ballot 131 = .ok (.bipush 20, 2) := by decide +kernel
theorem dX10_ballot_133 : decode cX10_ballot 133 = .ok (.aload_n 0, 1) := by decide +kernel
theorem dX10_ballot_134 : decode cX10_ballot 134 = .ok (.getfield 85, 3) := by decide +kernel
theorem dX10_ballot_137 : decode cX10_ballot 137 = .ok (.imul, 1) := by decide +kernel
theorem dX10_ballot_138 : decode cX10_ballot 138 = .ok (.iload 9, 2) := by decide +kernel
theorem dX10_ballot_140 : decode cX10_ballot 140 = .ok (.iadd, 1) := by decide +kernel
theorem dX10_ballot_141 : decode cX10_ballot 141 = .ok (.iload 11, 2) := by decide +kernel
theorem dX10_ballot_143 : decode cX10_ballot 143 = .ok (.iload_n 2, 1) := by decide +kernel
theorem dX10_ballot_144 : decode cX10_ballot 144 = .ok (.if_icmp .ge 7, 3) := by decide +kernel
theorem dX10_ballot_147 : decode cX10_ballot 147 = .ok (.iconst 0, 1) := by decide +kernel
theorem dX10_ballot_148 : decode cX10_ballot 148 = .ok (.goto 16, 3) := by decide +kernel
theorem dX10_ballot_151 : decode cX10_ballot 151 = .ok (.iload 11, 2) := by decide +kernel
theorem dX10_ballot_153 : decode cX10_ballot 153 = .ok (.iload_n 2, 1) := by decide +kernel
theorem dX10_ballot_154 : decode cX10_ballot 154 = .ok (.iload_n 3, 1) := by decide +kernel
theorem dX10_ballot_155 : decode cX10_ballot 155 = .ok (.iadd, 1) := by decide +kernel
theorem dX10_ballot_156 : decode cX10_ballot 156 = .ok (.if_icmp .ge 7, 3) := by decide +kernel
theorem dX10_ballot_159 : decode cX10_ballot 159 = .ok (.iconst 1, 1) := by decide +kernel
theorem dX10_ballot_160 : decode cX10_ballot 160 = .ok (.goto 4, 3) := by decide +kernel
theorem dX10_ballot_163 : decode cX10_ballot 163 = .ok (.iconst 2, 1) := by decide +kernel
theorem dX10_ballot_164 : decode cX10_ballot 164 = .ok (.iastore, 1) := by decide +kernel
theorem dX10_ballot_165 : decode cX10_ballot 165 = .ok (.iinc 9 1, 3) := by decide +kernel
theorem dX10_ballot_168 : decode cX10_ballot 168 = .ok (.goto (-113), 3) := by decide +kernel
theorem dX10_ballot_171 : decode cX10_ballot 171 = .ok (.aload_n 0, 1) := by decide +kernel
theorem dX10_ballot_172 : decode cX10_ballot 172 = .ok (.getfield 9, 3) := by decide +kernel
theorem dX10_ballot_175 : decode cX10_ballot 175 = .ok (.aload_n 0, 1) := by decide +kernel
theorem dX10_ballot_176 : decode cX10_ballot 176 = .ok (.getfield 85, 3) := by decide +kernel
theorem dX10_ballot_179 : decode cX10_ballot 179 = .ok (.iload_n 1, 1) := by decide +kernel
theorem dX10_ballot_180 : decode cX10_ballot 180 = .ok (.iastore, 1) := by decide +kernel
theorem dX10_ballot_181 : decode cX10_ballot 181 = .ok (.aload_n 0, 1) := by decide +kernel
theorem dX10_ballot_182 : decode cX10_ballot 182 = .ok (.dup, 1) := by decide +kernel
theorem dX10_ballot_183 : decode cX10_ballot 183 = .ok (.getfield 85, 3) := by decide +kernel
theorem dX10_ballot_186 : decode cX10_ballot 186 = .ok (.iconst 1, 1) := by decide +kernel
theorem dX10_ballot_187 : decode cX10_ballot 187 = .ok (.iadd, 1) := by decide +kernel
theorem dX10_ballot_188 : decode cX10_ballot 188 = .ok (.putfield 85, 3) := by decide +kernel
theorem dX10_ballot_191 : decode cX10_ballot 191 = .ok (.aload_n 0, 1) := by decide +kernel
theorem dX10_ballot_192 : decode cX10_ballot 192 = .ok (.getfield 85, 3) := by decide +kernel
theorem dX10_ballot_195 : decode cX10_ballot 195 = .ok (.iconst 1, 1) := by decide +kernel
theorem dX10_ballot_196 : decode cX10_ballot 196 = .ok (.isub, 1) := by decide +kernel
theorem dX10_ballot_197 : decode cX10_ballot 197 = .ok (.ireturn, 1) := by decide +kernel
theorem dX10_lineOf_0 : decode cX10_lineOf 0 = .ok (.iconst 0, 1) := by decide +kernel
theorem dX10_lineOf_1 : decode cX10_lineOf 1 = .ok (.istore_n 2, 1) := by decide +kernel
theorem dX10_lineOf_2 : decode cX10_lineOf 2 = .ok (.iload_n 2, 1) := by decide +kernel
theorem dX10_lineOf_3 : decode cX10_lineOf 3 = .ok (.iload_n 1, 1) := by decide +kernel
theorem dX10_lineOf_4 : decode cX10_lineOf 4 = .ok (.if_icmp .ge 16, 3) := by decide +kernel
theorem dX10_lineOf_7 : decode cX10_lineOf 7 = .ok (.aload_n 0, 1) := by decide +kernel
theorem dX10_lineOf_8 : decode cX10_lineOf 8 = .ok (.getfield 16, 3) := by decide +kernel
theorem dX10_lineOf_11 : decode cX10_lineOf 11 = .ok (.iload_n 2, 1) := by decide +kernel
theorem dX10_lineOf_12 : decode cX10_lineOf 12 = .ok (.iload_n 2, 1) := by decide +kernel
theorem dX10_lineOf_13 : decode cX10_lineOf 13 = .ok (.iastore, 1) := by decide +kernel
theorem dX10_lineOf_14 : decode cX10_lineOf 14 = .ok (.iinc 2 1, 3) := by decide +kernel
theorem dX10_lineOf_17 : decode cX10_lineOf 17 = .ok (.goto (-15), 3) := by decide +kernel
theorem dX10_lineOf_20 : decode cX10_lineOf 20 = .ok (.aload_n 0, 1) := by decide +kernel
theorem dX10_lineOf_21 : decode cX10_lineOf 21 = .ok (.getfield 16, 3) := by decide +kernel
theorem dX10_lineOf_24 : decode cX10_lineOf 24 = .ok (.areturn, 1) := by decide +kernel
theorem dX10_isWoman_0 : decode cX10_isWoman 0 = .ok (.iload_n 1, 1) := by decide +kernel
theorem dX10_isWoman_1 : decode cX10_isWoman 1 = .ok (.iconst 0, 1) := by decide +kernel
theorem dX10_isWoman_2 : decode cX10_isWoman 2 = .ok (.aload_n 0, 1) := by decide +kernel
theorem dX10_isWoman_3 : decode cX10_isWoman 3 = .ok (.getfield 85, 3) := by decide +kernel
theorem dX10_isWoman_6 : decode cX10_isWoman 6 = .ok (.iconst 1, 1) := by decide +kernel
theorem dX10_isWoman_7 : decode cX10_isWoman 7 = .ok (.isub, 1) := by decide +kernel
theorem dX10_isWoman_8 : decode cX10_isWoman 8 = .ok (.invokestatic 77, 3) := by decide +kernel
theorem dX10_isWoman_11 : decode cX10_isWoman 11 = .ok (.ifCond .eq 23, 3) := by decide +kernel
theorem dX10_isWoman_14 : decode cX10_isWoman 14 = .ok (.iload_n 2, 1) := by decide +kernel
theorem dX10_isWoman_15 : decode cX10_isWoman 15 = .ok (.iconst 0, 1) := by decide +kernel
theorem dX10_isWoman_16 : decode cX10_isWoman 16 = .ok (.aload_n 0, 1) := by decide +kernel
theorem dX10_isWoman_17 : decode cX10_isWoman 17 = .ok (.getfield 9, 3) := by decide +kernel
theorem dX10_isWoman_20 : decode cX10_isWoman 20 = .ok (.iload_n 1, 1) := by decide +kernel
theorem dX10_isWoman_21 : decode cX10_isWoman 21 = .ok (.iaload, 1) := by decide +kernel
theorem dX10_isWoman_22 : decode cX10_isWoman 22 = .ok (.iconst 1, 1) := by decide +kernel
theorem dX10_isWoman_23 : decode cX10_isWoman 23 = .ok (.isub, 1) := by decide +kernel
theorem dX10_isWoman_24 : decode cX10_isWoman 24 = .ok (.invokestatic 77, 3) := by decide +kernel
theorem dX10_isWoman_27 : decode cX10_isWoman 27 = .ok (.ifCond .eq 7, 3) := by decide +kernel
theorem dX10_isWoman_30 : decode cX10_isWoman 30 = .ok (.iconst 1, 1) := by decide +kernel
theorem dX10_isWoman_31 : decode cX10_isWoman 31 = .ok (.goto 4, 3) := by decide +kernel
theorem dX10_isWoman_34 : decode cX10_isWoman 34 = .ok (.iconst 0, 1) := by decide +kernel
theorem dX10_isWoman_35 : decode cX10_isWoman 35 = .ok (.ireturn, 1) := by decide +kernel
theorem dX10_ball_0 : decode cX10_ball 0 = .ok (.aload_n 0, 1) := by decide +kernel
theorem dX10_ball_1 : decode cX10_ball 1 = .ok (.iload_n 1, 1) := by decide +kernel
theorem dX10_ball_2 : decode cX10_ball 2 = .ok (.iload_n 2, 1) := by decide +kernel
theorem dX10_ball_3 : decode cX10_ball 3 = .ok (.invokevirtual 96, 3) := by decide +kernel
theorem dX10_ball_6 : decode cX10_ball 6 = .ok (.ifCond .eq 17, 3) := by decide +kernel
theorem dX10_ball_9 : decode cX10_ball 9 = .ok (.aload_n 0, 1) := by decide +kernel
theorem dX10_ball_10 : decode cX10_ball 10 = .ok (.getfield 13, 3) := by decide +kernel
theorem dX10_ball_13 : decode cX10_ball 13 = .ok (.bipush 20, 2) := by decide +kernel
theorem dX10_ball_15 : decode cX10_ball 15 = .ok (.iload_n 1, 1) := by decide +kernel
theorem dX10_ball_16 : decode cX10_ball 16 = .ok (.imul, 1) := by decide +kernel
theorem dX10_ball_17 : decode cX10_ball 17 = .ok (.iload_n 2, 1) := by decide +kernel
theorem dX10_ball_18 : decode cX10_ball 18 = .ok (.iadd, 1) := by decide +kernel
theorem dX10_ball_19 : decode cX10_ball 19 = .ok (.iaload, 1) := by decide +kernel
theorem dX10_ball_20 : decode cX10_ball 20 = .ok (.goto 4, 3) := by decide +kernel
theorem dX10_ball_23 : decode cX10_ball 23 = .ok (.iconst (-1), 1) := by decide +kernel
theorem dX10_ball_24 : decode cX10_ball 24 = .ok (.ireturn, 1) := by decide +kernel
theorem dX10_away_0 : decode cX10_away 0 = .ok (.aload_n 0, 1) := by decide +kernel
theorem dX10_away_1 : decode cX10_away 1 = .ok (.iload_n 1, 1) := by decide +kernel
theorem dX10_away_2 : decode cX10_away 2 = .ok (.iload_n 2, 1) := by decide +kernel
theorem dX10_away_3 : decode cX10_away 3 = .ok (.invokevirtual 96, 3) := by decide +kernel
theorem dX10_away_6 : decode cX10_away 6 = .ok (.ifCond .eq 17, 3) := by decide +kernel
theorem dX10_away_9 : decode cX10_away 9 = .ok (.aload_n 0, 1) := by decide +kernel
theorem dX10_away_10 : decode cX10_away 10 = .ok (.getfield 13, 3) := by decide +kernel
theorem dX10_away_13 : decode cX10_away 13 = .ok (.bipush 20, 2) := by decide +kernel
theorem dX10_away_15 : decode cX10_away 15 = .ok (.iload_n 1, 1) := by decide +kernel
theorem dX10_away_16 : decode cX10_away 16 = .ok (.imul, 1) := by decide +kernel
theorem dX10_away_17 : decode cX10_away 17 = .ok (.iload_n 2, 1) := by decide +kernel
theorem dX10_away_18 : decode cX10_away 18 = .ok (.iadd, 1) := by decide +kernel
theorem dX10_away_19 : decode cX10_away 19 = .ok (.iaload, 1) := by decide +kernel
theorem dX10_away_20 : decode cX10_away 20 = .ok (.ifCond .eq 6, 3) := by decide +kernel
theorem dX10_away_23 : decode cX10_away 23 = .ok (.bipush (-2), 2) := by decide +kernel
theorem dX10_away_25 : decode cX10_away 25 = .ok (.ireturn, 1) := by decide +kernel
theorem dX10_away_26 : decode cX10_away 26 = .ok (.aload_n 0, 1) := by decide +kernel
theorem dX10_away_27 : decode cX10_away 27 = .ok (.getfield 13, 3) := by decide +kernel
theorem dX10_away_30 : decode cX10_away 30 = .ok (.bipush 20, 2) := by decide +kernel
theorem dX10_away_32 : decode cX10_away 32 = .ok (.iload_n 1, 1) := by decide +kernel
theorem dX10_away_33 : decode cX10_away 33 = .ok (.imul, 1) := by decide +kernel
theorem dX10_away_34 : decode cX10_away 34 = .ok (.iload_n 2, 1) := by decide +kernel
theorem dX10_away_35 : decode cX10_away 35 = .ok (.iadd, 1) := by decide +kernel
theorem dX10_away_36 : decode cX10_away 36 = .ok (.iconst 3, 1) := by decide +kernel
theorem dX10_away_37 : decode cX10_away 37 = .ok (.iastore, 1) := by decide +kernel
theorem dX10_away_38 : decode cX10_away 38 = .ok (.iconst 0, 1) := by decide +kernel
theorem dX10_away_39 : decode cX10_away 39 = .ok (.istore_n 3, 1) := by decide +kernel
theorem dX10_away_40 : decode cX10_away 40 = .ok (.iload_n 3, 1) := by decide +kernel
theorem dX10_away_41 : decode cX10_away 41 = .ok (.aload_n 0, 1) := by decide +kernel
theorem dX10_away_42 : decode cX10_away 42 = .ok (.getfield 9, 3) := by decide +kernel
theorem dX10_away_45 : decode cX10_away 45 = .ok (.iload_n 1, 1) := by decide +kernel
theorem dX10_away_46 : decode cX10_away 46 = .ok (.iaload, 1) := by decide +kernel
theorem dX10_away_47 : decode cX10_away 47 = .ok (.if_icmp .ge 38, 3) := by decide +kernel
theorem dX10_away_50 : decode cX10_away 50 = .ok (.aload_n 0, 1) := by decide +kernel
theorem dX10_away_51 : decode cX10_away 51 = .ok (.getfield 13, 3) := by decide +kernel
theorem dX10_away_54 : decode cX10_away 54 = .ok (.bipush 20, 2) := by decide +kernel
theorem dX10_away_56 : decode cX10_away 56 = .ok (.iload_n 1, 1) := by decide +kernel
theorem dX10_away_57 : decode cX10_away 57 = .ok (.imul, 1) := by decide +kernel
theorem dX10_away_58 : decode cX10_away 58 = .ok (.iload_n 3, 1) := by decide +kernel
theorem dX10_away_59 : decode cX10_away 59 = .ok (.iadd, 1) := by decide +kernel
theorem dX10_away_60 : decode cX10_away 60 = .ok (.iaload, 1) := by decide +kernel
theorem dX10_away_61 : decode cX10_away 61 = .ok (.iconst 1, 1) := by decide +kernel
theorem dX10_away_62 : decode cX10_away 62 = .ok (.if_icmp .ne 17, 3) := by decide +kernel
theorem dX10_away_65 : decode cX10_away 65 = .ok (.aload_n 0, 1) := by decide +kernel
theorem dX10_away_66 : decode cX10_away 66 = .ok (.getfield 13, 3) := by decide +kernel
theorem dX10_away_69 : decode cX10_away 69 = .ok (.bipush 20, 2) := by decide +kernel
theorem dX10_away_71 : decode cX10_away 71 = .ok (.iload_n 1, 1) := by decide +kernel
theorem dX10_away_72 : decode cX10_away 72 = .ok (.imul, 1) := by decide +kernel
theorem dX10_away_73 : decode cX10_away 73 = .ok (.iload_n 3, 1) := by decide +kernel
theorem dX10_away_74 : decode cX10_away 74 = .ok (.iadd, 1) := by decide +kernel
theorem dX10_away_75 : decode cX10_away 75 = .ok (.iconst 0, 1) := by decide +kernel
theorem dX10_away_76 : decode cX10_away 76 = .ok (.iastore, 1) := by decide +kernel
theorem dX10_away_77 : decode cX10_away 77 = .ok (.iload_n 3, 1) := by decide +kernel
theorem dX10_away_78 : decode cX10_away 78 = .ok (.ireturn, 1) := by decide +kernel
theorem dX10_away_79 : decode cX10_away 79 = .ok (.iinc 3 1, 3) := by decide +kernel
theorem dX10_away_82 : decode cX10_away 82 = .ok (.goto (-42), 3) := by decide +kernel
theorem dX10_away_85 : decode cX10_away 85 = .ok (.iconst (-1), 1) := by decide +kernel
theorem dX10_away_86 : decode cX10_away 86 = .ok (.ireturn, 1) := by decide +kernel
theorem dX10_leave_0 : decode cX10_leave 0 = .ok (.aload_n 0, 1) := by decide +kernel
theorem dX10_leave_1 : decode cX10_leave 1 = .ok (.iload_n 1, 1) := by decide +kernel
theorem dX10_leave_2 : decode cX10_leave 2 = .ok (.iload_n 2, 1) := by decide +kernel
theorem dX10_leave_3 : decode cX10_leave 3 = .ok (.invokevirtual 96, 3) := by decide +kernel
theorem dX10_leave_6 : decode cX10_leave 6 = .ok (.ifCond .eq 68, 3) := by decide +kernel
theorem dX10_leave_9 : decode cX10_leave 9 = .ok (.aload_n 0, 1) := by decide +kernel
theorem dX10_leave_10 : decode cX10_leave 10 = .ok (.getfield 13, 3) := by decide +kernel
theorem dX10_leave_13 : decode cX10_leave 13 = .ok (.bipush 20, 2) := by decide +kernel
theorem dX10_leave_15 : decode cX10_leave 15 = .ok (.iload_n 1, 1) := by decide +kernel
theorem dX10_leave_16 : decode cX10_leave 16 = .ok (.imul, 1) := by decide +kernel
theorem dX10_leave_17 : decode cX10_leave 17 = .ok (.iload_n 2, 1) := by decide +kernel
theorem dX10_leave_18 : decode cX10_leave 18 = .ok (.iadd, 1) := by decide +kernel
theorem dX10_leave_19 : decode cX10_leave 19 = .ok (.iaload, 1) := by decide +kernel
theorem dX10_leave_20 : decode cX10_leave 20 = .ok (.ifCond .ne 54, 3) := by decide +kernel
theorem dX10_leave_23 : decode cX10_leave 23 = .ok (.iload_n 3, 1) := by decide +kernel
theorem dX10_leave_24 : decode cX10_leave 24 = .ok (.iconst 0, 1) := by decide +kernel
theorem dX10_leave_25 : decode cX10_leave 25 = .ok (.iconst 1, 1) := by decide +kernel
theorem dX10_leave_26 : decode cX10_leave 26 = .ok (.invokestatic 77, 3) := by decide +kernel
theorem dX10_leave_29 : decode cX10_leave 29 = .ok (.ifCond .eq 45, 3) := by decide +kernel
theorem dX10_leave_32 : decode cX10_leave 32 = .ok (.iload 4, 2) := by decide +kernel
theorem dX10_leave_34 : decode cX10_leave 34 = .ok (.iconst 0, 1) := by decide +kernel
theorem dX10_leave_35 : decode cX10_leave 35 = .ok (.bipush 9, 2) := by decide +kernel
theorem dX10_leave_37 : decode cX10_leave 37 = .ok (.invokestatic 77, 3) := by decide +kernel
theorem dX10_leave_40 : decode cX10_leave 40 = .ok (.ifCond .eq 34, 3) := by decide +kernel
theorem dX10_leave_43 : decode cX10_leave 43 = .ok (.iload 5, 2) := by decide +kernel
theorem dX10_leave_45 : decode cX10_leave 45 = .ok (.iconst 0, 1) := by decide +kernel
theorem dX10_leave_46 : decode cX10_leave 46 = .ok (.ldc 100, 2) := by decide +kernel
theorem dX10_leave_48 : decode cX10_leave 48 = .ok (.invokestatic 77, 3) := by decide +kernel
theorem dX10_leave_51 : decode cX10_leave 51 = .ok (.ifCond .eq 23, 3) := by decide +kernel
theorem dX10_leave_54 : decode cX10_leave 54 = .ok (.iload 6, 2) := by decide +kernel
theorem dX10_leave_56 : decode cX10_leave 56 = .ok (.iconst 0, 1) := by decide +kernel
theorem dX10_leave_57 : decode cX10_leave 57 = .ok (.ldc 100, 2) := by decide +kernel
theorem dX10_leave_59 : decode cX10_leave 59 = .ok (.invokestatic 77, 3) := by decide +kernel
theorem dX10_leave_62 : decode cX10_leave 62 = .ok (.ifCond .eq 12, 3) := by decide +kernel
theorem dX10_leave_65 : decode cX10_leave 65 = .ok (.aload_n 0, 1) := by decide +kernel
theorem dX10_leave_66 : decode cX10_leave 66 = .ok (.getfield 101, 3) := by decide +kernel
theorem dX10_leave_69 : decode cX10_leave 69 = .ok (.bipush 60, 2) := by decide +kernel
theorem dX10_leave_71 : decode cX10_leave 71 = .ok (.if_icmp .ne 5, 3) := by decide +kernel
theorem dX10_leave_74 : decode cX10_leave 74 = .ok (.iconst (-1), 1) := by decide +kernel
theorem dX10_leave_75 : decode cX10_leave 75 = .ok (.ireturn, 1) := by decide +kernel
theorem dX10_leave_76 : decode cX10_leave 76 = .ok (.aload_n 0, 1) := by decide +kernel
theorem dX10_leave_77 : decode cX10_leave 77 = .ok (.getfield 13, 3) := by decide +kernel
theorem dX10_leave_80 : decode cX10_leave 80 = .ok (.bipush 20, 2) := by decide +kernel
theorem dX10_leave_82 : decode cX10_leave 82 = .ok (.iload_n 1, 1) := by decide +kernel
theorem dX10_leave_83 : decode cX10_leave 83 = .ok (.imul, 1) := by decide +kernel
theorem dX10_leave_84 : decode cX10_leave 84 = .ok (.iload_n 2, 1) := by decide +kernel
theorem dX10_leave_85 : decode cX10_leave 85 = .ok (.iadd, 1) := by decide +kernel
theorem dX10_leave_86 : decode cX10_leave 86 = .ok (.iconst 4, 1) := by decide +kernel
theorem dX10_leave_87 : decode cX10_leave 87 = .ok (.iastore, 1) := by decide +kernel
theorem dX10_leave_88 : decode cX10_leave 88 = .ok (.aload_n 0, 1) := by decide +kernel
theorem dX10_leave_89 : decode cX10_leave 89 = .ok (.getfield 19, 3) := by decide +kernel
theorem dX10_leave_92 : decode cX10_leave 92 = .ok (.aload_n 0, 1) := by decide +kernel
theorem dX10_leave_93 : decode cX10_leave 93 = .ok (.getfield 101, 3) := by decide +kernel
theorem dX10_leave_96 : decode cX10_leave 96 = .ok (.aload_n 0, 1) := by decide +kernel
theorem dX10_leave_97 : decode cX10_leave 97 = .ok (.getfield 81, 3) := by decide +kernel
theorem dX10_leave_100 : decode cX10_leave 100 = .ok (.iastore, 1) := by decide +kernel
theorem dX10_leave_101 : decode cX10_leave 101 = .ok (.aload_n 0, 1) := by decide +kernel
theorem dX10_leave_102 : decode cX10_leave 102 = .ok (.getfield 22, 3) := by decide +kernel
theorem dX10_leave_105 : decode cX10_leave 105 = .ok (.aload_n 0, 1) := by decide +kernel
theorem dX10_leave_106 : decode cX10_leave 106 = .ok (.getfield 101, 3) := by decide +kernel
theorem dX10_leave_109 : decode cX10_leave 109 = .ok (.iload_n 3, 1) := by decide +kernel
theorem dX10_leave_110 : decode cX10_leave 110 = .ok (.iastore, 1) := by decide +kernel
theorem dX10_leave_111 : decode cX10_leave 111 = .ok (.aload_n 0, 1) := by decide +kernel
theorem dX10_leave_112 : decode cX10_leave 112 = .ok (.getfield 25, 3) := by decide +kernel
theorem dX10_leave_115 : decode cX10_leave 115 = .ok (.aload_n 0, 1) := by decide +kernel
theorem dX10_leave_116 : decode cX10_leave 116 = .ok (.getfield 101, 3) := by decide +kernel
theorem dX10_leave_119 : decode cX10_leave 119 = .ok (.iload 4, 2) := by decide +kernel
theorem dX10_leave_121 : decode cX10_leave 121 = .ok (.iastore, 1) := by decide +kernel
theorem dX10_leave_122 : decode cX10_leave 122 = .ok (.aload_n 0, 1) := by decide +kernel
theorem dX10_leave_123 : decode cX10_leave 123 = .ok (.getfield 28, 3) := by decide +kernel
theorem dX10_leave_126 : decode cX10_leave 126 = .ok (.aload_n 0, 1) := by decide +kernel
theorem dX10_leave_127 : decode cX10_leave 127 = .ok (.getfield 101, 3) := by decide +kernel
theorem dX10_leave_130 : decode cX10_leave 130 = .ok (.iload 5, 2) := by decide +kernel
theorem dX10_leave_132 : decode cX10_leave 132 = .ok (.iastore, 1) := by decide +kernel
theorem dX10_leave_133 : decode cX10_leave 133 = .ok (.aload_n 0, 1) := by decide +kernel
theorem dX10_leave_134 : decode cX10_leave 134 = .ok (.getfield 31, 3) := by decide +kernel
theorem dX10_leave_137 : decode cX10_leave 137 = .ok (.aload_n 0, 1) := by decide +kernel
theorem dX10_leave_138 : decode cX10_leave 138 = .ok (.getfield 101, 3) := by decide +kernel
theorem dX10_leave_141 : decode cX10_leave 141 = .ok (.iload 6, 2) := by decide +kernel
theorem dX10_leave_143 : decode cX10_leave 143 = .ok (.iastore, 1) := by decide +kernel
theorem dX10_leave_144 : decode cX10_leave 144 = .ok (.aload_n 0, 1) := by decide +kernel
theorem dX10_leave_145 : decode cX10_leave 145 = .ok (.getfield 34, 3) := by decide +kernel
theorem dX10_leave_148 : decode cX10_leave 148 = .ok (.aload_n 0, 1) := by decide +kernel
theorem dX10_leave_149 : decode cX10_leave 149 = .ok (.getfield 101, 3) := by decide +kernel
theorem dX10_leave_152 : decode cX10_leave 152 = .ok (.iload_n 1, 1) := by decide +kernel
theorem dX10_leave_153 : decode cX10_leave 153 = .ok (.iastore, 1) := by decide +kernel
theorem dX10_leave_154 : decode cX10_leave 154 = .ok (.aload_n 0, 1) := by decide +kernel
theorem dX10_leave_155 : decode cX10_leave 155 = .ok (.getfield 37, 3) := by decide +kernel
theorem dX10_leave_158 : decode cX10_leave 158 = .ok (.aload_n 0, 1) := by decide +kernel
theorem dX10_leave_159 : decode cX10_leave 159 = .ok (.getfield 101, 3) := by decide +kernel
theorem dX10_leave_162 : decode cX10_leave 162 = .ok (.iload_n 2, 1) := by decide +kernel
theorem dX10_leave_163 : decode cX10_leave 163 = .ok (.iastore, 1) := by decide +kernel
theorem dX10_leave_164 : decode cX10_leave 164 = .ok (.aload_n 0, 1) := by decide +kernel
theorem dX10_leave_165 : decode cX10_leave 165 = .ok (.dup, 1) := by decide +kernel
theorem dX10_leave_166 : decode cX10_leave 166 = .ok (.getfield 101, 3) := by decide +kernel
theorem dX10_leave_169 : decode cX10_leave 169 = .ok (.iconst 1, 1) := by decide +kernel
theorem dX10_leave_170 : decode cX10_leave 170 = .ok (.iadd, 1) := by decide +kernel
theorem dX10_leave_171 : decode cX10_leave 171 = .ok (.putfield 101, 3) := by decide +kernel
theorem dX10_leave_174 : decode cX10_leave 174 = .ok (.aload_n 0, 1) := by decide +kernel
theorem dX10_leave_175 : decode cX10_leave 175 = .ok (.getfield 101, 3) := by decide +kernel
theorem dX10_leave_178 : decode cX10_leave 178 = .ok (.iconst 1, 1) := by decide +kernel
theorem dX10_leave_179 : decode cX10_leave 179 = .ok (.isub, 1) := by decide +kernel
theorem dX10_leave_180 : decode cX10_leave 180 = .ok (.ireturn, 1) := by decide +kernel
theorem dX10_isChild_0 : decode cX10_isChild 0 = .ok (.iload_n 1, 1) := by decide +kernel
theorem dX10_isChild_1 : decode cX10_isChild 1 = .ok (.iconst 0, 1) := by decide +kernel
theorem dX10_isChild_2 : decode cX10_isChild 2 = .ok (.aload_n 0, 1) := by decide +kernel
theorem dX10_isChild_3 : decode cX10_isChild 3 = .ok (.getfield 101, 3) := by decide +kernel
theorem dX10_isChild_6 : decode cX10_isChild 6 = .ok (.iconst 1, 1) := by decide +kernel
theorem dX10_isChild_7 : decode cX10_isChild 7 = .ok (.isub, 1) := by decide +kernel
theorem dX10_isChild_8 : decode cX10_isChild 8 = .ok (.invokestatic 77, 3) := by decide +kernel
theorem dX10_isChild_11 : decode cX10_isChild 11 = .ok (.ireturn, 1) := by decide +kernel
theorem dX10_where_0 : decode cX10_where 0 = .ok (.iconst 0, 1) := by decide +kernel
theorem dX10_where_1 : decode cX10_where 1 = .ok (.istore 4, 2) := by decide +kernel
theorem dX10_where_3 : decode cX10_where 3 = .ok (.iconst (-1), 1) := by decide +kernel
theorem dX10_where_4 : decode cX10_where 4 = .ok (.istore 5, 2) := by decide +kernel
theorem dX10_where_6 : decode cX10_where 6 = .ok (.iconst 0, 1) := by decide +kernel
theorem dX10_where_7 : decode cX10_where 7 = .ok (.istore 6, 2) := by decide +kernel
theorem dX10_where_9 : decode cX10_where 9 = .ok (.iload 6, 2) := by decide +kernel
theorem dX10_where_11 : decode cX10_where 11 = .ok (.aload_n 0, 1) := by decide +kernel
theorem dX10_where_12 : decode cX10_where 12 = .ok (.getfield 104, 3) := by decide +kernel
theorem dX10_where_15 : decode cX10_where 15 = .ok (.if_icmp .ge 72, 3) := by decide +kernel
theorem dX10_where_18 : decode cX10_where 18 = .ok (.aload_n 0, 1) := by decide +kernel
theorem dX10_where_19 : decode cX10_where 19 = .ok (.getfield 47, 3) := by decide +kernel
theorem dX10_where_22 : decode cX10_where 22 = .ok (.iload 6, 2) := by decide +kernel
theorem dX10_where_24 : decode cX10_where 24 = .ok (.iaload, 1) := by decide +kernel
theorem dX10_where_25 : decode cX10_where 25 = .ok (.iload_n 1, 1) := by decide +kernel
theorem dX10_where_26 : decode cX10_where 26 = .ok (.if_icmp .ne 55, 3) := by decide +kernel
theorem dX10_where_29 : decode cX10_where 29 = .ok (.aload_n 0, 1) := by decide +kernel
theorem dX10_where_30 : decode cX10_where 30 = .ok (.getfield 56, 3) := by decide +kernel
theorem dX10_where_33 : decode cX10_where 33 = .ok (.iload 6, 2) := by decide +kernel
theorem dX10_where_35 : decode cX10_where 35 = .ok (.iaload, 1) := by decide +kernel
theorem dX10_where_36 : decode cX10_where 36 = .ok (.iload_n 3, 1) := by decide +kernel
theorem dX10_where_37 : decode cX10_where 37 = .ok (.if_icmp .gt 44, 3) := by decide +kernel
theorem dX10_where_40 : decode cX10_where 40 = .ok (.aload_n 0, 1) := by decide +kernel
theorem dX10_where_41 : decode cX10_where 41 = .ok (.getfield 53, 3) := by decide +kernel
theorem dX10_where_44 : decode cX10_where 44 = .ok (.iload 6, 2) := by decide +kernel
theorem dX10_where_46 : decode cX10_where 46 = .ok (.iaload, 1) := by decide +kernel
theorem dX10_where_47 : decode cX10_where 47 = .ok (.iload_n 2, 1) := by decide +kernel
theorem dX10_where_48 : decode cX10_where 48 = .ok (.if_icmp .gt 33, 3) := by decide +kernel
theorem dX10_where_51 : decode cX10_where 51 = .ok (.aload_n 0, 1) := by decide +kernel
theorem dX10_where_52 : decode cX10_where 52 = .ok (.getfield 53, 3) := by decide +kernel
theorem dX10_where_55 : decode cX10_where 55 = .ok (.iload 6, 2) := by decide +kernel
theorem dX10_where_57 : decode cX10_where 57 = .ok (.iaload, 1) := by decide +kernel
theorem dX10_where_58 : decode cX10_where 58 = .ok (.iload 5, 2) := by decide +kernel
theorem dX10_where_60 : decode cX10_where 60 = .ok (.if_icmp .lt 21, 3) := by decide +kernel
theorem dX10_where_63 : decode cX10_where 63 = .ok (.aload_n 0, 1) := by decide +kernel
theorem dX10_where_64 : decode cX10_where 64 = .ok (.getfield 50, 3) := by decide +kernel
theorem dX10_where_67 : decode cX10_where 67 = .ok (.iload 6, 2) := by decide +kernel
theorem dX10_where_69 : decode cX10_where 69 = .ok (.iaload, 1) := by decide +kernel
theorem dX10_where_70 : decode cX10_where 70 = .ok (.istore 4, 2) := by decide +kernel
theorem dX10_where_72 : decode cX10_where 72 = .ok (.aload_n 0, 1) := by decide +kernel
theorem dX10_where_73 : decode cX10_where 73 = .ok (.getfield 53, 3) := by decide +kernel
theorem dX10_where_76 : decode cX10_where 76 = .ok (.iload 6, 2) := by decide +kernel
theorem dX10_where_78 : decode cX10_where 78 = .ok (.iaload, 1) := by decide +kernel
theorem dX10_where_79 : decode cX10_where 79 = .ok (.istore 5, 2) := by decide +kernel
theorem dX10_where_81 : decode cX10_where 81 = .ok (.iinc 6 1, 3) := by decide +kernel
theorem dX10_where_84 : decode cX10_where 84 = .ok (.goto (-75), 3) := by decide +kernel
theorem dX10_where_87 : decode cX10_where 87 = .ok (.iload 4, 2) := by decide +kernel
theorem dX10_where_89 : decode cX10_where 89 = .ok (.ireturn, 1) := by decide +kernel
theorem dX10_isThere_0 : decode cX10_isThere 0 = .ok (.aload_n 0, 1) := by decide +kernel
theorem dX10_isThere_1 : decode cX10_isThere 1 = .ok (.getfield 19, 3) := by decide +kernel
theorem dX10_isThere_4 : decode cX10_isThere 4 = .ok (.iload_n 1, 1) := by decide +kernel
theorem dX10_isThere_5 : decode cX10_isThere 5 = .ok (.iaload, 1) := by decide +kernel
theorem dX10_isThere_6 : decode cX10_isThere 6 = .ok (.iload_n 2, 1) := by decide +kernel
theorem dX10_isThere_7 : decode cX10_isThere 7 = .ok (.if_icmp .gt 17, 3) := by decide +kernel
theorem dX10_isThere_10 : decode cX10_isThere 10 = .ok (.aload_n 0, 1) := by decide +kernel
theorem dX10_isThere_11 : decode cX10_isThere 11 = .ok (.getfield 19, 3) := by decide +kernel
theorem dX10_isThere_14 : decode cX10_isThere 14 = .ok (.iload_n 1, 1) := by decide +kernel
theorem dX10_isThere_15 : decode cX10_isThere 15 = .ok (.iaload, 1) := by decide +kernel
theorem dX10_isThere_16 : decode cX10_isThere 16 = .ok (.iload_n 3, 1) := by decide +kernel
theorem dX10_isThere_17 : decode cX10_isThere 17 = .ok (.if_icmp .gt 7, 3) := by decide +kernel
theorem dX10_isThere_20 : decode cX10_isThere 20 = .ok (.iconst 1, 1) := by decide +kernel
theorem dX10_isThere_21 : decode cX10_isThere 21 = .ok (.goto 4, 3) := by decide +kernel
theorem dX10_isThere_24 : decode cX10_isThere 24 = .ok (.iconst 0, 1) := by decide +kernel
theorem dX10_isThere_25 : decode cX10_isThere 25 = .ok (.ireturn, 1) := by decide +kernel
theorem dX10_manyAt_0 : decode cX10_manyAt 0 = .ok (.iconst 0, 1) := by decide +kernel
theorem dX10_manyAt_1 : decode cX10_manyAt 1 = .ok (.istore 4, 2) := by decide +kernel
theorem dX10_manyAt_3 : decode cX10_manyAt 3 = .ok (.iconst 0, 1) := by decide +kernel
theorem dX10_manyAt_4 : decode cX10_manyAt 4 = .ok (.istore 5, 2) := by decide +kernel
theorem dX10_manyAt_6 : decode cX10_manyAt 6 = .ok (.iload 5, 2) := by decide +kernel
theorem dX10_manyAt_8 : decode cX10_manyAt 8 = .ok (.aload_n 0, 1) := by decide +kernel
theorem dX10_manyAt_9 : decode cX10_manyAt 9 = .ok (.getfield 101, 3) := by decide +kernel
theorem dX10_manyAt_12 : decode cX10_manyAt 12 = .ok (.if_icmp .ge 42, 3) := by decide +kernel
theorem dX10_manyAt_15 : decode cX10_manyAt 15 = .ok (.iload 4, 2) := by decide +kernel
theorem dX10_manyAt_17 : decode cX10_manyAt 17 = .ok (.aload_n 0, 1) := by decide +kernel
theorem dX10_manyAt_18 : decode cX10_manyAt 18 = .ok (.iload 5, 2) := by decide +kernel
theorem dX10_manyAt_20 : decode cX10_manyAt 20 = .ok (.iload_n 2, 1) := by decide +kernel
theorem dX10_manyAt_21 : decode cX10_manyAt 21 = .ok (.iload_n 3, 1) := by decide +kernel
theorem dX10_manyAt_22 : decode cX10_manyAt 22 = .ok (.invokevirtual 107, 3) := by decide +kernel
theorem dX10_manyAt_25 : decode cX10_manyAt 25 = .ok (.ifCond .eq 19, 3) := by decide +kernel
theorem dX10_manyAt_28 : decode cX10_manyAt 28 = .ok (.aload_n 0, 1) := by decide +kernel
theorem dX10_manyAt_29 : decode cX10_manyAt 29 = .ok (.iload 5, 2) := by decide +kernel
theorem dX10_manyAt_31 : decode cX10_manyAt 31 = .ok (.iload_n 2, 1) := by decide +kernel
theorem dX10_manyAt_32 : decode cX10_manyAt 32 = .ok (.iload_n 3, 1) := by decide +kernel
theorem dX10_manyAt_33 : decode cX10_manyAt 33 = .ok (.invokevirtual 110, 3) := by decide +kernel
theorem dX10_manyAt_36 : decode cX10_manyAt 36 = .ok (.iload_n 1, 1) := by decide +kernel
theorem dX10_manyAt_37 : decode cX10_manyAt 37 = .ok (.if_icmp .ne 7, 3) := by decide +kernel
theorem dX10_manyAt_40 : decode cX10_manyAt 40 = .ok (.iconst 1, 1) := by decide +kernel
theorem dX10_manyAt_41 : decode cX10_manyAt 41 = .ok (.goto 4, 3) := by decide +kernel
theorem dX10_manyAt_44 : decode cX10_manyAt 44 = .ok (.iconst 0, 1) := by decide +kernel
theorem dX10_manyAt_45 : decode cX10_manyAt 45 = .ok (.iadd, 1) := by decide +kernel
theorem dX10_manyAt_46 : decode cX10_manyAt 46 = .ok (.istore 4, 2) := by decide +kernel
theorem dX10_manyAt_48 : decode cX10_manyAt 48 = .ok (.iinc 5 1, 3) := by decide +kernel
theorem dX10_manyAt_51 : decode cX10_manyAt 51 = .ok (.goto (-45), 3) := by decide +kernel
theorem dX10_manyAt_54 : decode cX10_manyAt 54 = .ok (.iload 4, 2) := by decide +kernel
theorem dX10_manyAt_56 : decode cX10_manyAt 56 = .ok (.ireturn, 1) := by decide +kernel
theorem dX10_hasRoom_0 : decode cX10_hasRoom 0 = .ok (.iload_n 2, 1) := by decide +kernel
theorem dX10_hasRoom_1 : decode cX10_hasRoom 1 = .ok (.istore 4, 2) := by decide +kernel
theorem dX10_hasRoom_3 : decode cX10_hasRoom 3 = .ok (.iload 4, 2) := by decide +kernel
theorem dX10_hasRoom_5 : decode cX10_hasRoom 5 = .ok (.aload_n 0, 1) := by decide +kernel
theorem dX10_hasRoom_6 : decode cX10_hasRoom 6 = .ok (.getfield 81, 3) := by decide +kernel
theorem dX10_hasRoom_9 : decode cX10_hasRoom 9 = .ok (.if_icmp .gt 44, 3) := by decide +kernel
theorem dX10_hasRoom_12 : decode cX10_hasRoom 12 = .ok (.iload 4, 2) := by decide +kernel
theorem dX10_hasRoom_14 : decode cX10_hasRoom 14 = .ok (.iload_n 2, 1) := by decide +kernel
theorem dX10_hasRoom_15 : decode cX10_hasRoom 15 = .ok (.if_icmp .le 15, 3) := by decide +kernel
theorem dX10_hasRoom_18 : decode cX10_hasRoom 18 = .ok (.aload_n 0, 1) := by decide +kernel
theorem dX10_hasRoom_19 : decode cX10_hasRoom 19 = .ok (.iload 4, 2) := by decide +kernel
theorem dX10_hasRoom_21 : decode cX10_hasRoom 21 = .ok (.invokevirtual 114, 3) := by decide +kernel
theorem dX10_hasRoom_24 : decode cX10_hasRoom 24 = .ok (.ifCond .ne 6, 3) := by decide +kernel
theorem dX10_hasRoom_27 : decode cX10_hasRoom 27 = .ok (.goto 20, 3) := by decide +kernel
theorem dX10_hasRoom_30 : decode cX10_hasRoom 30 = .ok (.aload_n 0, 1) := by decide +kernel
theorem dX10_hasRoom_31 : decode cX10_hasRoom 31 = .ok (.iload_n 1, 1) := by decide +kernel
theorem dX10_hasRoom_32 : decode cX10_hasRoom 32 = .ok (.iload 4, 2) := by decide +kernel
theorem dX10_hasRoom_34 : decode cX10_hasRoom 34 = .ok (.aload_n 0, 1) := by decide +kernel
theorem dX10_hasRoom_35 : decode cX10_hasRoom 35 = .ok (.getfield 81, 3) := by decide +kernel
theorem dX10_hasRoom_38 : decode cX10_hasRoom 38 = .ok (.invokevirtual 118, 3) := by decide +kernel
theorem dX10_hasRoom_41 : decode cX10_hasRoom 41 = .ok (.iload_n 3, 1) := by decide +kernel
theorem dX10_hasRoom_42 : decode cX10_hasRoom 42 = .ok (.if_icmp .le 5, 3) := by decide +kernel
theorem dX10_hasRoom_45 : decode cX10_hasRoom 45 = .ok (.iconst 0, 1) := by decide +kernel
theorem dX10_hasRoom_46 : decode cX10_hasRoom 46 = .ok (.ireturn, 1) := by decide +kernel
theorem dX10_hasRoom_47 : decode cX10_hasRoom 47 = .ok (.iinc 4 1, 3) := by decide +kernel
theorem dX10_hasRoom_50 : decode cX10_hasRoom 50 = .ok (.goto (-47), 3) := by decide +kernel
theorem dX10_hasRoom_53 : decode cX10_hasRoom 53 = .ok (.iconst 1, 1) := by decide +kernel
theorem dX10_hasRoom_54 : decode cX10_hasRoom 54 = .ok (.ireturn, 1) := by decide +kernel
theorem dX10_changesOn_0 : decode cX10_changesOn 0 = .ok (.iconst 0, 1) := by decide +kernel
theorem dX10_changesOn_1 : decode cX10_changesOn 1 = .ok (.istore_n 2, 1) := by decide +kernel
theorem dX10_changesOn_2 : decode cX10_changesOn 2 = .ok (.iload_n 2, 1) := by decide +kernel
theorem dX10_changesOn_3 : decode cX10_changesOn 3 = .ok (.aload_n 0, 1) := by decide +kernel
theorem dX10_changesOn_4 : decode cX10_changesOn 4 = .ok (.getfield 104, 3) := by decide +kernel
theorem dX10_changesOn_7 : decode cX10_changesOn 7 = .ok (.if_icmp .ge 21, 3) := by decide +kernel
theorem dX10_changesOn_10 : decode cX10_changesOn 10 = .ok (.aload_n 0, 1) := by decide +kernel
theorem dX10_changesOn_11 : decode cX10_changesOn 11 = .ok (.getfield 53, 3) := by decide +kernel
theorem dX10_changesOn_14 : decode cX10_changesOn 14 = .ok (.iload_n 2, 1) := by decide +kernel
theorem dX10_changesOn_15 : decode cX10_changesOn 15 = .ok (.iaload, 1) := by decide +kernel
theorem dX10_changesOn_16 : decode cX10_changesOn 16 = .ok (.iload_n 1, 1) := by decide +kernel
theorem dX10_changesOn_17 : decode cX10_changesOn 17 = .ok (.if_icmp .ne 5, 3) := by decide +kernel
theorem dX10_changesOn_20 : decode cX10_changesOn 20 = .ok (.iconst 1, 1) := by decide +kernel
theorem dX10_changesOn_21 : decode cX10_changesOn 21 = .ok (.ireturn, 1) := by decide +kernel
theorem dX10_changesOn_22 : decode cX10_changesOn 22 = .ok (.iinc 2 1, 3) := by decide +kernel
theorem dX10_changesOn_25 : decode cX10_changesOn 25 = .ok (.goto (-23), 3) := by decide +kernel
theorem dX10_changesOn_28 : decode cX10_changesOn 28 = .ok (.iconst 0, 1) := by decide +kernel
theorem dX10_changesOn_29 : decode cX10_changesOn 29 = .ok (.istore_n 2, 1) := by decide +kernel
theorem dX10_changesOn_30 : decode cX10_changesOn 30 = .ok (.iload_n 2, 1) := by decide +kernel
theorem dX10_changesOn_31 : decode cX10_changesOn 31 = .ok (.aload_n 0, 1) := by decide +kernel
theorem dX10_changesOn_32 : decode cX10_changesOn 32 = .ok (.getfield 101, 3) := by decide +kernel
theorem dX10_changesOn_35 : decode cX10_changesOn 35 = .ok (.if_icmp .ge 21, 3) := by decide +kernel
theorem dX10_changesOn_38 : decode cX10_changesOn 38 = .ok (.aload_n 0, 1) := by decide +kernel
theorem dX10_changesOn_39 : decode cX10_changesOn 39 = .ok (.getfield 19, 3) := by decide +kernel
theorem dX10_changesOn_42 : decode cX10_changesOn 42 = .ok (.iload_n 2, 1) := by decide +kernel
theorem dX10_changesOn_43 : decode cX10_changesOn 43 = .ok (.iaload, 1) := by decide +kernel
theorem dX10_changesOn_44 : decode cX10_changesOn 44 = .ok (.iload_n 1, 1) := by decide +kernel
theorem dX10_changesOn_45 : decode cX10_changesOn 45 = .ok (.if_icmp .ne 5, 3) := by decide +kernel
theorem dX10_changesOn_48 : decode cX10_changesOn 48 = .ok (.iconst 1, 1) := by decide +kernel
theorem dX10_changesOn_49 : decode cX10_changesOn 49 = .ok (.ireturn, 1) := by decide +kernel
theorem dX10_changesOn_50 : decode cX10_changesOn 50 = .ok (.iinc 2 1, 3) := by decide +kernel
theorem dX10_changesOn_53 : decode cX10_changesOn 53 = .ok (.goto (-23), 3) := by decide +kernel
theorem dX10_changesOn_56 : decode cX10_changesOn 56 = .ok (.iconst 0, 1) := by decide +kernel
theorem dX10_changesOn_57 : decode cX10_changesOn 57 = .ok (.ireturn, 1) := by decide +kernel
theorem dX10_beds_0 : decode cX10_beds 0 = .ok (.iload_n 1, 1) := by decide +kernel
theorem dX10_beds_1 : decode cX10_beds 1 = .ok (.iconst 1, 1) := by decide +kernel
theorem dX10_beds_2 : decode cX10_beds 2 = .ok (.bipush 12, 2) := by decide +kernel
theorem dX10_beds_4 : decode cX10_beds 4 = .ok (.invokestatic 77, 3) := by decide +kernel
theorem dX10_beds_7 : decode cX10_beds 7 = .ok (.ifCond .eq 22, 3) := by decide +kernel
theorem dX10_beds_10 : decode cX10_beds 10 = .ok (.iload_n 2, 1) := by decide +kernel
theorem dX10_beds_11 : decode cX10_beds 11 = .ok (.iconst 1, 1) := by decide +kernel
theorem dX10_beds_12 : decode cX10_beds 12 = .ok (.iconst 3, 1) := by decide +kernel
theorem dX10_beds_13 : decode cX10_beds 13 = .ok (.invokestatic 77, 3) := by decide +kernel
theorem dX10_beds_16 : decode cX10_beds 16 = .ok (.ifCond .eq 13, 3) := by decide +kernel
theorem dX10_beds_19 : decode cX10_beds 19 = .ok (.aload_n 0, 1) := by decide +kernel
theorem dX10_beds_20 : decode cX10_beds 20 = .ok (.iload_n 1, 1) := by decide +kernel
theorem dX10_beds_21 : decode cX10_beds 21 = .ok (.iconst 0, 1) := by decide +kernel
theorem dX10_beds_22 : decode cX10_beds 22 = .ok (.iload_n 2, 1) := by decide +kernel
theorem dX10_beds_23 : decode cX10_beds 23 = .ok (.invokevirtual 121, 3) := by decide +kernel
theorem dX10_beds_26 : decode cX10_beds 26 = .ok (.ifCond .ne 5, 3) := by decide +kernel
theorem dX10_beds_29 : decode cX10_beds 29 = .ok (.iconst 0, 1) := by decide +kernel
theorem dX10_beds_30 : decode cX10_beds 30 = .ok (.ireturn, 1) := by decide +kernel
theorem dX10_beds_31 : decode cX10_beds 31 = .ok (.aload_n 0, 1) := by decide +kernel
theorem dX10_beds_32 : decode cX10_beds 32 = .ok (.getfield 59, 3) := by decide +kernel
theorem dX10_beds_35 : decode cX10_beds 35 = .ok (.iload_n 1, 1) := by decide +kernel
theorem dX10_beds_36 : decode cX10_beds 36 = .ok (.iload_n 2, 1) := by decide +kernel
theorem dX10_beds_37 : decode cX10_beds 37 = .ok (.iastore, 1) := by decide +kernel
theorem dX10_beds_38 : decode cX10_beds 38 = .ok (.iconst 1, 1) := by decide +kernel
theorem dX10_beds_39 : decode cX10_beds 39 = .ok (.ireturn, 1) := by decide +kernel
theorem dX10_move_0 : decode cX10_move 0 = .ok (.aload_n 0, 1) := by decide +kernel
theorem dX10_move_1 : decode cX10_move 1 = .ok (.iload_n 1, 1) := by decide +kernel
theorem dX10_move_2 : decode cX10_move 2 = .ok (.invokevirtual 124, 3) := by decide +kernel
theorem dX10_move_5 : decode cX10_move 5 = .ok (.ifCond .eq 40, 3) := by decide +kernel
theorem dX10_move_8 : decode cX10_move 8 = .ok (.iload_n 2, 1) := by decide +kernel
theorem dX10_move_9 : decode cX10_move 9 = .ok (.iconst 0, 1) := by decide +kernel
theorem dX10_move_10 : decode cX10_move 10 = .ok (.bipush 15, 2) := by decide +kernel
theorem dX10_move_12 : decode cX10_move 12 = .ok (.invokestatic 77, 3) := by decide +kernel
theorem dX10_move_15 : decode cX10_move 15 = .ok (.ifCond .eq 30, 3) := by decide +kernel
theorem dX10_move_18 : decode cX10_move 18 = .ok (.iload_n 3, 1) := by decide +kernel
theorem dX10_move_19 : decode cX10_move 19 = .ok (.aload_n 0, 1) := by decide +kernel
theorem dX10_move_20 : decode cX10_move 20 = .ok (.getfield 19, 3) := by decide +kernel
theorem dX10_move_23 : decode cX10_move 23 = .ok (.iload_n 1, 1) := by decide +kernel
theorem dX10_move_24 : decode cX10_move 24 = .ok (.iaload, 1) := by decide +kernel
theorem dX10_move_25 : decode cX10_move 25 = .ok (.aload_n 0, 1) := by decide +kernel
theorem dX10_move_26 : decode cX10_move 26 = .ok (.getfield 81, 3) := by decide +kernel
theorem dX10_move_29 : decode cX10_move 29 = .ok (.invokestatic 77, 3) := by decide +kernel
theorem dX10_move_32 : decode cX10_move 32 = .ok (.ifCond .eq 13, 3) := by decide +kernel
theorem dX10_move_35 : decode cX10_move 35 = .ok (.aload_n 0, 1) := by decide +kernel
theorem dX10_move_36 : decode cX10_move 36 = .ok (.getfield 104, 3) := by decide +kernel
theorem dX10_move_39 : decode cX10_move 39 = .ok (.sipush 300, 3) := by decide +kernel
theorem dX10_move_42 : decode cX10_move 42 = .ok (.if_icmp .ne 5, 3) := by decide +kernel
theorem dX10_move_45 : decode cX10_move 45 = .ok (.iconst 0, 1) := by decide +kernel
theorem dX10_move_46 : decode cX10_move 46 = .ok (.ireturn, 1) := by decide +kernel
theorem dX10_move_47 : decode cX10_move 47 = .ok (.aload_n 0, 1) := by decide +kernel
theorem dX10_move_48 : decode cX10_move 48 = .ok (.iload_n 1, 1) := by decide +kernel
theorem dX10_move_49 : decode cX10_move 49 = .ok (.iload_n 3, 1) := by decide +kernel
theorem dX10_move_50 : decode cX10_move 50 = .ok (.aload_n 0, 1) := by decide +kernel
theorem dX10_move_51 : decode cX10_move 51 = .ok (.getfield 81, 3) := by decide +kernel
theorem dX10_move_54 : decode cX10_move 54 = .ok (.invokevirtual 110, 3) := by decide +kernel
theorem dX10_move_57 : decode cX10_move 57 = .ok (.istore 4, 2) := by decide +kernel
theorem dX10_move_59 : decode cX10_move 59 = .ok (.iload 4, 2) := by decide +kernel
theorem dX10_move_61 : decode cX10_move 61 = .ok (.bipush 14, 2) := by decide +kernel
theorem dX10_move_63 : decode cX10_move 63 = .ok (.if_icmp .eq 10, 3) := by decide +kernel
theorem dX10_move_66 : decode cX10_move 66 = .ok (.iload 4, 2) := by decide +kernel
theorem dX10_move_68 : decode cX10_move 68 = .ok (.bipush 15, 2) := by decide +kernel
theorem dX10_move_70 : decode cX10_move 70 = .ok (.if_icmp .ne 5, 3) := by decide +kernel
theorem dX10_move_73 : decode cX10_move 73 = .ok (.iconst 0, 1) := by decide +kernel
theorem dX10_move_74 : decode cX10_move 74 = .ok (.ireturn, 1) := by decide +kernel
theorem dX10_move_75 : decode cX10_move 75 = .ok (.aload_n 0, 1) := by decide +kernel
theorem dX10_move_76 : decode cX10_move 76 = .ok (.getfield 47, 3) := by decide +kernel
theorem dX10_move_79 : decode cX10_move 79 = .ok (.aload_n 0, 1) := by decide +kernel
theorem dX10_move_80 : decode cX10_move 80 = .ok (.getfield 104, 3) := by decide +kernel
theorem dX10_move_83 : decode cX10_move 83 = .ok (.iload_n 1, 1) := by decide +kernel
theorem dX10_move_84 : decode cX10_move 84 = .ok (.iastore, 1) := by decide +kernel
theorem dX10_move_85 : decode cX10_move 85 = .ok (.aload_n 0, 1) := by decide +kernel
theorem dX10_move_86 : decode cX10_move 86 = .ok (.getfield 50, 3) := by decide +kernel
theorem dX10_move_89 : decode cX10_move 89 = .ok (.aload_n 0, 1) := by decide +kernel
theorem dX10_move_90 : decode cX10_move 90 = .ok (.getfield 104, 3) := by decide +kernel
theorem dX10_move_93 : decode cX10_move 93 = .ok (.iload_n 2, 1) := by decide +kernel
theorem dX10_move_94 : decode cX10_move 94 = .ok (.iastore, 1) := by decide +kernel
theorem dX10_move_95 : decode cX10_move 95 = .ok (.aload_n 0, 1) := by decide +kernel
theorem dX10_move_96 : decode cX10_move 96 = .ok (.getfield 53, 3) := by decide +kernel
theorem dX10_move_99 : decode cX10_move 99 = .ok (.aload_n 0, 1) := by decide +kernel
theorem dX10_move_100 : decode cX10_move 100 = .ok (.getfield 104, 3) := by decide +kernel
theorem dX10_move_103 : decode cX10_move 103 = .ok (.iload_n 3, 1) := by decide +kernel
theorem dX10_move_104 : decode cX10_move 104 = .ok (.iastore, 1) := by decide +kernel
theorem dX10_move_105 : decode cX10_move 105 = .ok (.aload_n 0, 1) := by decide +kernel
theorem dX10_move_106 : decode cX10_move 106 = .ok (.getfield 56, 3) := by decide +kernel
theorem dX10_move_109 : decode cX10_move 109 = .ok (.aload_n 0, 1) := by decide +kernel
theorem dX10_move_110 : decode cX10_move 110 = .ok (.getfield 104, 3) := by decide +kernel
theorem dX10_move_113 : decode cX10_move 113 = .ok (.aload_n 0, 1) := by decide +kernel
theorem dX10_move_114 : decode cX10_move 114 = .ok (.getfield 81, 3) := by decide +kernel
theorem dX10_move_117 : decode cX10_move 117 = .ok (.iastore, 1) := by decide +kernel
theorem dX10_move_118 : decode cX10_move 118 = .ok (.aload_n 0, 1) := by decide +kernel
theorem dX10_move_119 : decode cX10_move 119 = .ok (.dup, 1) := by decide +kernel
theorem dX10_move_120 : decode cX10_move 120 = .ok (.getfield 104, 3) := by decide +kernel
theorem dX10_move_123 : decode cX10_move 123 = .ok (.iconst 1, 1) := by decide +kernel
theorem dX10_move_124 : decode cX10_move 124 = .ok (.iadd, 1) := by decide +kernel
theorem dX10_move_125 : decode cX10_move 125 = .ok (.putfield 104, 3) := by decide +kernel
theorem dX10_move_128 : decode cX10_move 128 = .ok (.iload_n 2, 1) := by decide +kernel
theorem dX10_move_129 : decode cX10_move 129 = .ok (.iconst 1, 1) := by decide +kernel
theorem dX10_move_130 : decode cX10_move 130 = .ok (.bipush 12, 2) := by decide +kernel
theorem dX10_move_132 : decode cX10_move 132 = .ok (.invokestatic 77, 3) := by decide +kernel
theorem dX10_move_135 : decode cX10_move 135 = .ok (.ifCond .eq 30, 3) := by decide +kernel
theorem dX10_move_138 : decode cX10_move 138 = .ok (.aload_n 0, 1) := by decide +kernel
theorem dX10_move_139 : decode cX10_move 139 = .ok (.iload_n 2, 1) := by decide +kernel
theorem dX10_move_140 : decode cX10_move 140 = .ok (.iload_n 3, 1) := by decide +kernel
theorem dX10_move_141 : decode cX10_move 141 = .ok (.aload_n 0, 1) := by decide +kernel
theorem dX10_move_142 : decode cX10_move 142 = .ok (.getfield 59, 3) := by decide +kernel
theorem dX10_move_145 : decode cX10_move 145 = .ok (.iload_n 2, 1) := by decide +kernel
theorem dX10_move_146 : decode cX10_move 146 = .ok (.iaload, 1) := by decide +kernel
theorem dX10_move_147 : decode cX10_move 147 = .ok (.invokevirtual 121, 3) := by decide +kernel
theorem dX10_move_150 : decode cX10_move 150 = .ok (.ifCond .ne 15, 3) := by decide +kernel
theorem dX10_move_153 : decode cX10_move 153 = .ok (.aload_n 0, 1) := by decide +kernel
theorem dX10_move_154 : decode cX10_move 154 = .ok (.dup, 1) := by decide +kernel
theorem dX10_move_155 : decode cX10_move 155 = .ok (.getfield 104, 3) := by decide +kernel
theorem dX10_move_158 : decode cX10_move 158 = .ok (.iconst 1, 1) := by decide +kernel
theorem dX10_move_159 : decode cX10_move 159 = .ok (.isub, 1) := by decide +kernel
theorem dX10_move_160 : decode cX10_move 160 = .ok (.putfield 104, 3) := by decide +kernel
theorem dX10_move_163 : decode cX10_move 163 = .ok (.iconst 0, 1) := by decide +kernel
theorem dX10_move_164 : decode cX10_move 164 = .ok (.ireturn, 1) := by decide +kernel
theorem dX10_move_165 : decode cX10_move 165 = .ok (.iconst 1, 1) := by decide +kernel
theorem dX10_move_166 : decode cX10_move 166 = .ok (.ireturn, 1) := by decide +kernel
theorem dX10_areDays_0 : decode cX10_areDays 0 = .ok (.iload_n 1, 1) := by decide +kernel
theorem dX10_areDays_1 : decode cX10_areDays 1 = .ok (.iconst 0, 1) := by decide +kernel
theorem dX10_areDays_2 : decode cX10_areDays 2 = .ok (.aload_n 0, 1) := by decide +kernel
theorem dX10_areDays_3 : decode cX10_areDays 3 = .ok (.getfield 81, 3) := by decide +kernel
theorem dX10_areDays_6 : decode cX10_areDays 6 = .ok (.invokestatic 77, 3) := by decide +kernel
theorem dX10_areDays_9 : decode cX10_areDays 9 = .ok (.ifCond .eq 19, 3) := by decide +kernel
theorem dX10_areDays_12 : decode cX10_areDays 12 = .ok (.iload_n 2, 1) := by decide +kernel
theorem dX10_areDays_13 : decode cX10_areDays 13 = .ok (.iconst 0, 1) := by decide +kernel
theorem dX10_areDays_14 : decode cX10_areDays 14 = .ok (.aload_n 0, 1) := by decide +kernel
theorem dX10_areDays_15 : decode cX10_areDays 15 = .ok (.getfield 81, 3) := by decide +kernel
theorem dX10_areDays_18 : decode cX10_areDays 18 = .ok (.invokestatic 77, 3) := by decide +kernel
theorem dX10_areDays_21 : decode cX10_areDays 21 = .ok (.ifCond .eq 7, 3) := by decide +kernel
theorem dX10_areDays_24 : decode cX10_areDays 24 = .ok (.iconst 1, 1) := by decide +kernel
theorem dX10_areDays_25 : decode cX10_areDays 25 = .ok (.goto 4, 3) := by decide +kernel
theorem dX10_areDays_28 : decode cX10_areDays 28 = .ok (.iconst 0, 1) := by decide +kernel
theorem dX10_areDays_29 : decode cX10_areDays 29 = .ok (.ireturn, 1) := by decide +kernel
theorem dX10_place_0 : decode cX10_place 0 = .ok (.aload_n 0, 1) := by decide +kernel
theorem dX10_place_1 : decode cX10_place 1 = .ok (.iload_n 1, 1) := by decide +kernel
theorem dX10_place_2 : decode cX10_place 2 = .ok (.invokevirtual 124, 3) := by decide +kernel
theorem dX10_place_5 : decode cX10_place 5 = .ok (.ifCond .eq 32, 3) := by decide +kernel
theorem dX10_place_8 : decode cX10_place 8 = .ok (.aload_n 0, 1) := by decide +kernel
theorem dX10_place_9 : decode cX10_place 9 = .ok (.iload_n 2, 1) := by decide +kernel
theorem dX10_place_10 : decode cX10_place 10 = .ok (.iload_n 3, 1) := by decide +kernel
theorem dX10_place_11 : decode cX10_place 11 = .ok (.invokevirtual 127, 3) := by decide +kernel
theorem dX10_place_14 : decode cX10_place 14 = .ok (.ifCond .eq 23, 3) := by decide +kernel
theorem dX10_place_17 : decode cX10_place 17 = .ok (.aload_n 0, 1) := by decide +kernel
theorem dX10_place_18 : decode cX10_place 18 = .ok (.iload_n 1, 1) := by decide +kernel
theorem dX10_place_19 : decode cX10_place 19 = .ok (.iload_n 2, 1) := by decide +kernel
theorem dX10_place_20 : decode cX10_place 20 = .ok (.iload_n 3, 1) := by decide +kernel
theorem dX10_place_21 : decode cX10_place 21 = .ok (.invokevirtual 107, 3) := by decide +kernel
theorem dX10_place_24 : decode cX10_place 24 = .ok (.ifCond .eq 13, 3) := by decide +kernel
theorem dX10_place_27 : decode cX10_place 27 = .ok (.aload_n 0, 1) := by decide +kernel
theorem dX10_place_28 : decode cX10_place 28 = .ok (.iload_n 1, 1) := by decide +kernel
theorem dX10_place_29 : decode cX10_place 29 = .ok (.iload_n 2, 1) := by decide +kernel
theorem dX10_place_30 : decode cX10_place 30 = .ok (.iload_n 3, 1) := by decide +kernel
theorem dX10_place_31 : decode cX10_place 31 = .ok (.invokevirtual 110, 3) := by decide +kernel
theorem dX10_place_34 : decode cX10_place 34 = .ok (.goto 4, 3) := by decide +kernel
theorem dX10_place_37 : decode cX10_place 37 = .ok (.iconst (-1), 1) := by decide +kernel
theorem dX10_place_38 : decode cX10_place 38 = .ok (.ireturn, 1) := by decide +kernel
theorem dX10_many_0 : decode cX10_many 0 = .ok (.iload_n 1, 1) := by decide +kernel
theorem dX10_many_1 : decode cX10_many 1 = .ok (.iconst 0, 1) := by decide +kernel
theorem dX10_many_2 : decode cX10_many 2 = .ok (.bipush 15, 2) := by decide +kernel
theorem dX10_many_4 : decode cX10_many 4 = .ok (.invokestatic 77, 3) := by decide +kernel
theorem dX10_many_7 : decode cX10_many 7 = .ok (.ifCond .eq 22, 3) := by decide +kernel
theorem dX10_many_10 : decode cX10_many 10 = .ok (.aload_n 0, 1) := by decide +kernel
theorem dX10_many_11 : decode cX10_many 11 = .ok (.iload_n 2, 1) := by decide +kernel
theorem dX10_many_12 : decode cX10_many 12 = .ok (.iload_n 3, 1) := by decide +kernel
theorem dX10_many_13 : decode cX10_many 13 = .ok (.invokevirtual 127, 3) := by decide +kernel
theorem dX10_many_16 : decode cX10_many 16 = .ok (.ifCond .eq 13, 3) := by decide +kernel
theorem dX10_many_19 : decode cX10_many 19 = .ok (.aload_n 0, 1) := by decide +kernel
theorem dX10_many_20 : decode cX10_many 20 = .ok (.iload_n 1, 1) := by decide +kernel
theorem dX10_many_21 : decode cX10_many 21 = .ok (.iload_n 2, 1) := by decide +kernel
theorem dX10_many_22 : decode cX10_many 22 = .ok (.iload_n 3, 1) := by decide +kernel
theorem dX10_many_23 : decode cX10_many 23 = .ok (.invokevirtual 118, 3) := by decide +kernel
theorem dX10_many_26 : decode cX10_many 26 = .ok (.goto 4, 3) := by decide +kernel
theorem dX10_many_29 : decode cX10_many 29 = .ok (.iconst (-1), 1) := by decide +kernel
theorem dX10_many_30 : decode cX10_many 30 = .ok (.ireturn, 1) := by decide +kernel
theorem dX10_look_0 : decode cX10_look 0 = .ok (.iload_n 1, 1) := by decide +kernel
theorem dX10_look_1 : decode cX10_look 1 = .ok (.iconst 1, 1) := by decide +kernel
theorem dX10_look_2 : decode cX10_look 2 = .ok (.bipush 12, 2) := by decide +kernel
theorem dX10_look_4 : decode cX10_look 4 = .ok (.invokestatic 77, 3) := by decide +kernel
theorem dX10_look_7 : decode cX10_look 7 = .ok (.ifCond .eq 21, 3) := by decide +kernel
theorem dX10_look_10 : decode cX10_look 10 = .ok (.aload_n 0, 1) := by decide +kernel
theorem dX10_look_11 : decode cX10_look 11 = .ok (.getfield 62, 3) := by decide +kernel
theorem dX10_look_14 : decode cX10_look 14 = .ok (.sipush 2001, 3) := by decide +kernel
theorem dX10_look_17 : decode cX10_look 17 = .ok (.iload_n 1, 1) := by decide +kernel
theorem dX10_look_18 : decode cX10_look 18 = .ok (.imul, 1) := by decide +kernel
theorem dX10_look_19 : decode cX10_look 19 = .ok (.aload_n 0, 1) := by decide +kernel
theorem dX10_look_20 : decode cX10_look 20 = .ok (.getfield 81, 3) := by decide +kernel
theorem dX10_look_23 : decode cX10_look 23 = .ok (.iadd, 1) := by decide +kernel
theorem dX10_look_24 : decode cX10_look 24 = .ok (.baload, 1) := by decide +kernel
theorem dX10_look_25 : decode cX10_look 25 = .ok (.ifCond .eq 5, 3) := by decide +kernel
theorem dX10_look_28 : decode cX10_look 28 = .ok (.iconst 0, 1) := by decide +kernel
theorem dX10_look_29 : decode cX10_look 29 = .ok (.ireturn, 1) := by decide +kernel
theorem dX10_look_30 : decode cX10_look 30 = .ok (.aload_n 0, 1) := by decide +kernel
theorem dX10_look_31 : decode cX10_look 31 = .ok (.getfield 62, 3) := by decide +kernel
theorem dX10_look_34 : decode cX10_look 34 = .ok (.sipush 2001, 3) := by decide +kernel
theorem dX10_look_37 : decode cX10_look 37 = .ok (.iload_n 1, 1) := by decide +kernel
theorem dX10_look_38 : decode cX10_look 38 = .ok (.imul, 1) := by decide +kernel
theorem dX10_look_39 : decode cX10_look 39 = .ok (.aload_n 0, 1) := by decide +kernel
theorem dX10_look_40 : decode cX10_look 40 = .ok (.getfield 81, 3) := by decide +kernel
theorem dX10_look_43 : decode cX10_look 43 = .ok (.iadd, 1) := by decide +kernel
theorem dX10_look_44 : decode cX10_look 44 = .ok (.iconst 1, 1) := by decide +kernel
theorem dX10_look_45 : decode cX10_look 45 = .ok (.bastore, 1) := by decide +kernel
theorem dX10_look_46 : decode cX10_look 46 = .ok (.aload_n 0, 1) := by decide +kernel
theorem dX10_look_47 : decode cX10_look 47 = .ok (.dup, 1) := by decide +kernel
theorem dX10_look_48 : decode cX10_look 48 = .ok (.getfield 130, 3) := by decide +kernel
theorem dX10_look_51 : decode cX10_look 51 = .ok (.iconst 1, 1) := by decide +kernel
theorem dX10_look_52 : decode cX10_look 52 = .ok (.iadd, 1) := by decide +kernel
theorem dX10_look_53 : decode cX10_look 53 = .ok (.putfield 130, 3) := by decide +kernel
theorem dX10_look_56 : decode cX10_look 56 = .ok (.iconst 1, 1) := by decide +kernel
theorem dX10_look_57 : decode cX10_look 57 = .ok (.ireturn, 1) := by decide +kernel
theorem dX10_isSeen_0 : decode cX10_isSeen 0 = .ok (.bipush 7, 2) := by decide +kernel
theorem dX10_isSeen_2 : decode cX10_isSeen 2 = .ok (.iload_n 2, 1) := by decide +kernel
theorem dX10_isSeen_3 : decode cX10_isSeen 3 = .ok (.imul, 1) := by decide +kernel
theorem dX10_isSeen_4 : decode cX10_isSeen 4 = .ok (.istore 4, 2) := by decide +kernel
theorem dX10_isSeen_6 : decode cX10_isSeen 6 = .ok (.iload 4, 2) := by decide +kernel
theorem dX10_isSeen_8 : decode cX10_isSeen 8 = .ok (.iload_n 3, 1) := by decide +kernel
theorem dX10_isSeen_9 : decode cX10_isSeen 9 = .ok (.bipush 7, 2) := by decide +kernel
theorem dX10_isSeen_11 : decode cX10_isSeen 11 = .ok (.iload_n 2, 1) := by decide +kernel
theorem dX10_isSeen_12 : decode cX10_isSeen 12 = .ok (.imul, 1) := by decide +kernel
theorem dX10_isSeen_13 : decode cX10_isSeen 13 = .ok (.bipush 6, 2) := by decide +kernel
theorem dX10_isSeen_15 : decode cX10_isSeen 15 = .ok (.iadd, 1) := by decide +kernel
theorem dX10_isSeen_16 : decode cX10_isSeen 16 = .ok (.invokestatic 133, 3) := by decide +kernel
theorem dX10_isSeen_19 : decode cX10_isSeen 19 = .ok (.if_icmp .gt 27, 3) := by decide +kernel
theorem dX10_isSeen_22 : decode cX10_isSeen 22 = .ok (.aload_n 0, 1) := by decide +kernel
theorem dX10_isSeen_23 : decode cX10_isSeen 23 = .ok (.getfield 62, 3) := by decide +kernel
theorem dX10_isSeen_26 : decode cX10_isSeen 26 = .ok (.sipush 2001, 3) := by decide +kernel
theorem dX10_isSeen_29 : decode cX10_isSeen 29 = .ok (.iload_n 1, 1) := by decide +kernel
theorem dX10_isSeen_30 : decode cX10_isSeen 30 = .ok (.imul, 1) := by decide +kernel
theorem dX10_isSeen_31 : decode cX10_isSeen 31 = .ok (.iload 4, 2) := by decide +kernel
theorem dX10_isSeen_33 : decode cX10_isSeen 33 = .ok (.iadd, 1) := by decide +kernel
theorem dX10_isSeen_34 : decode cX10_isSeen 34 = .ok (.baload, 1) := by decide +kernel
theorem dX10_isSeen_35 : decode cX10_isSeen 35 = .ok (.ifCond .eq 5, 3) := by decide +kernel
theorem dX10_isSeen_38 : decode cX10_isSeen 38 = .ok (.iconst 1, 1) := by decide +kernel
theorem dX10_isSeen_39 : decode cX10_isSeen 39 = .ok (.ireturn, 1) := by decide +kernel
theorem dX10_isSeen_40 : decode cX10_isSeen 40 = .ok (.iinc 4 1, 3) := by decide +kernel
theorem dX10_isSeen_43 : decode cX10_isSeen 43 = .ok (.goto (-37), 3) := by decide +kernel
theorem dX10_isSeen_46 : decode cX10_isSeen 46 = .ok (.iconst 0, 1) := by decide +kernel
theorem dX10_isSeen_47 : decode cX10_isSeen 47 = .ok (.ireturn, 1) := by decide +kernel
theorem dX10_daysWith_0 : decode cX10_daysWith 0 = .ok (.iconst 0, 1) := by decide +kernel
theorem dX10_daysWith_1 : decode cX10_daysWith 1 = .ok (.istore 6, 2) := by decide +kernel
theorem dX10_daysWith_3 : decode cX10_daysWith 3 = .ok (.iload_n 2, 1) := by decide +kernel
theorem dX10_daysWith_4 : decode cX10_daysWith 4 = .ok (.istore 7, 2) := by decide +kernel
theorem dX10_daysWith_6 : decode cX10_daysWith 6 = .ok (.iload 7, 2) := by decide +kernel
theorem dX10_daysWith_8 : decode cX10_daysWith 8 = .ok (.iload_n 3, 1) := by decide +kernel
theorem dX10_daysWith_9 : decode cX10_daysWith 9 = .ok (.if_icmp .gt 112, 3) := by decide +kernel
theorem dX10_daysWith_12 : decode cX10_daysWith 12 = .ok (.bipush 7, 2) := by decide +kernel
theorem dX10_daysWith_14 : decode cX10_daysWith 14 = .ok (.iload 7, 2) := by decide +kernel
theorem dX10_daysWith_16 : decode cX10_daysWith 16 = .ok (.imul, 1) := by decide +kernel
theorem dX10_daysWith_17 : decode cX10_daysWith 17 = .ok (.iload 4, 2) := by decide +kernel
theorem dX10_daysWith_19 : decode cX10_daysWith 19 = .ok (.if_icmp .gt 102, 3) := by decide +kernel
theorem dX10_daysWith_22 : decode cX10_daysWith 22 = .ok (.aload_n 0, 1) := by decide +kernel
theorem dX10_daysWith_23 : decode cX10_daysWith 23 = .ok (.iload_n 1, 1) := by decide +kernel
theorem dX10_daysWith_24 : decode cX10_daysWith 24 = .ok (.iload 7, 2) := by decide +kernel
theorem dX10_daysWith_26 : decode cX10_daysWith 26 = .ok (.iload 4, 2) := by decide +kernel
theorem dX10_daysWith_28 : decode cX10_daysWith 28 = .ok (.invokevirtual 139, 3) := by decide +kernel
theorem dX10_daysWith_31 : decode cX10_daysWith 31 = .ok (.iload 5, 2) := by decide +kernel
theorem dX10_daysWith_33 : decode cX10_daysWith 33 = .ok (.if_icmp .eq 6, 3) := by decide +kernel
theorem dX10_daysWith_36 : decode cX10_daysWith 36 = .ok (.goto 79, 3) := by decide +kernel
theorem dX10_daysWith_39 : decode cX10_daysWith 39 = .ok (.iconst 0, 1) := by decide +kernel
theorem dX10_daysWith_40 : decode cX10_daysWith 40 = .ok (.istore 8, 2) := by decide +kernel
theorem dX10_daysWith_42 : decode cX10_daysWith 42 = .ok (.bipush 7, 2) := by decide +kernel
theorem dX10_daysWith_44 : decode cX10_daysWith 44 = .ok (.iload 7, 2) := by decide +kernel
theorem dX10_daysWith_46 : decode cX10_daysWith 46 = .ok (.imul, 1) := by decide +kernel
theorem dX10_daysWith_47 : decode cX10_daysWith 47 = .ok (.istore 9, 2) := by decide +kernel
theorem dX10_daysWith_49 : decode cX10_daysWith 49 = .ok (.iload 9, 2) := by decide +kernel
theorem dX10_daysWith_51 : decode cX10_daysWith 51 = .ok (.iload 4, 2) := by decide +kernel
theorem dX10_daysWith_53 : decode cX10_daysWith 53 = .ok (.bipush 7, 2) := by decide +kernel
theorem dX10_daysWith_55 : decode cX10_daysWith 55 = .ok (.iload 7, 2) := by decide +kernel
theorem dX10_daysWith_57 : decode cX10_daysWith 57 = .ok (.imul, 1) := by decide +kernel
theorem dX10_daysWith_58 : decode cX10_daysWith 58 = .ok (.bipush 6, 2) := by decide +kernel
theorem dX10_daysWith_60 : decode cX10_daysWith 60 = .ok (.iadd, 1) := by decide +kernel
theorem dX10_daysWith_61 : decode cX10_daysWith 61 = .ok (.invokestatic 133, 3) := by decide +kernel
theorem dX10_daysWith_64 : decode cX10_daysWith 64 = .ok (.if_icmp .gt 51, 3) := by decide +kernel
theorem dX10_daysWith_67 : decode cX10_daysWith 67 = .ok (.iload 9, 2) := by decide +kernel
theorem dX10_daysWith_69 : decode cX10_daysWith 69 = .ok (.bipush 7, 2) := by decide +kernel
theorem dX10_daysWith_71 : decode cX10_daysWith 71 = .ok (.iload 7, 2) := by decide +kernel
theorem dX10_daysWith_73 : decode cX10_daysWith 73 = .ok (.imul, 1) := by decide +kernel
theorem dX10_daysWith_74 : decode cX10_daysWith 74 = .ok (.if_icmp .eq 12, 3) := by decide +kernel
theorem dX10_daysWith_77 : decode cX10_daysWith 77 = .ok (.aload_n 0, 1) := by decide +kernel
theorem dX10_daysWith_78 : decode cX10_daysWith 78 = .ok (.iload 9, 2) := by decide +kernel
theorem dX10_daysWith_80 : decode cX10_daysWith 80 = .ok (.invokevirtual 114, 3) := by decide +kernel
theorem dX10_daysWith_83 : decode cX10_daysWith 83 = .ok (.ifCond .eq 15, 3) := by decide +kernel
theorem dX10_daysWith_86 : decode cX10_daysWith 86 = .ok (.aload_n 0, 1) := by decide +kernel
theorem dX10_daysWith_87 : decode cX10_daysWith 87 = .ok (.iload_n 1, 1) := by decide +kernel
theorem dX10_daysWith_88 : decode cX10_daysWith 88 = .ok (.iload 9, 2) := by decide +kernel
theorem dX10_daysWith_90 : decode cX10_daysWith 90 = .ok (.iload 4, 2) := by decide +kernel
theorem dX10_daysWith_92 : decode cX10_daysWith 92 = .ok (.invokevirtual 118, 3) := by decide +kernel
theorem dX10_daysWith_95 : decode cX10_daysWith 95 = .ok (.goto 5, 3) := by decide +kernel
theorem dX10_daysWith_98 : decode cX10_daysWith 98 = .ok (.iload 8, 2) := by decide +kernel
theorem dX10_daysWith_100 : decode cX10_daysWith 100 = .ok (.istore 8, 2) := by decide +kernel
theorem dX10_daysWith_102 : decode cX10_daysWith 102 = .ok (.iload 6, 2) := by decide +kernel
theorem dX10_daysWith_104 : decode cX10_daysWith 104 = .ok (.iload 8, 2) := by decide +kernel
theorem dX10_daysWith_106 : decode cX10_daysWith 106 = .ok (.iadd, 1) := by decide +kernel
theorem dX10_daysWith_107 : decode cX10_daysWith 107 = .ok (.istore 6, 2) := by decide +kernel
theorem dX10_daysWith_109 : decode cX10_daysWith 109 = .ok (.iinc 9 1, 3) := by decide +kernel
theorem dX10_daysWith_112 : decode cX10_daysWith 112 = .ok (.goto (-63), 3) := by decide +kernel
theorem dX10_daysWith_115 : decode cX10_daysWith 115 = .ok (.iinc 7 1, 3) := by decide +kernel
theorem dX10_daysWith_118 : decode cX10_daysWith 118 = .ok (.goto (-112), 3) := by decide +kernel
theorem dX10_daysWith_121 : decode cX10_daysWith 121 = .ok (.iload 6, 2) := by decide +kernel
theorem dX10_daysWith_123 : decode cX10_daysWith 123 = .ok (.ireturn, 1) := by decide +kernel
theorem dX10_areWeeks_0 : decode cX10_areWeeks 0 = .ok (.iload_n 1, 1) := by decide +kernel
theorem dX10_areWeeks_1 : decode cX10_areWeeks 1 = .ok (.iconst 1, 1) := by decide +kernel
theorem dX10_areWeeks_2 : decode cX10_areWeeks 2 = .ok (.bipush 12, 2) := by decide +kernel
theorem dX10_areWeeks_4 : decode cX10_areWeeks 4 = .ok (.invokestatic 77, 3) := by decide +kernel
theorem dX10_areWeeks_7 : decode cX10_areWeeks 7 = .ok (.ifCond .eq 42, 3) := by decide +kernel
theorem dX10_areWeeks_10 : decode cX10_areWeeks 10 = .ok (.iload_n 2, 1) := by decide +kernel
theorem dX10_areWeeks_11 : decode cX10_areWeeks 11 = .ok (.iconst 0, 1) := by decide +kernel
theorem dX10_areWeeks_12 : decode cX10_areWeeks 12 = .ok (.sipush 300, 3) := by decide +kernel
theorem dX10_areWeeks_15 : decode cX10_areWeeks 15 = .ok (.invokestatic 77, 3) := by decide +kernel
theorem dX10_areWeeks_18 : decode cX10_areWeeks 18 = .ok (.ifCond .eq 31, 3) := by decide +kernel
theorem dX10_areWeeks_21 : decode cX10_areWeeks 21 = .ok (.iload_n 3, 1) := by decide +kernel
theorem dX10_areWeeks_22 : decode cX10_areWeeks 22 = .ok (.iload_n 2, 1) := by decide +kernel
theorem dX10_areWeeks_23 : decode cX10_areWeeks 23 = .ok (.sipush 300, 3) := by decide +kernel
theorem dX10_areWeeks_26 : decode cX10_areWeeks 26 = .ok (.invokestatic 77, 3) := by decide +kernel
theorem dX10_areWeeks_29 : decode cX10_areWeeks 29 = .ok (.ifCond .eq 20, 3) := by decide +kernel
theorem dX10_areWeeks_32 : decode cX10_areWeeks 32 = .ok (.iload 4, 2) := by decide +kernel
theorem dX10_areWeeks_34 : decode cX10_areWeeks 34 = .ok (.iconst 0, 1) := by decide +kernel
theorem dX10_areWeeks_35 : decode cX10_areWeeks 35 = .ok (.aload_n 0, 1) := by decide +kernel
theorem dX10_areWeeks_36 : decode cX10_areWeeks 36 = .ok (.getfield 81, 3) := by decide +kernel
theorem dX10_areWeeks_39 : decode cX10_areWeeks 39 = .ok (.invokestatic 77, 3) := by decide +kernel
theorem dX10_areWeeks_42 : decode cX10_areWeeks 42 = .ok (.ifCond .eq 7, 3) := by decide +kernel
theorem dX10_areWeeks_45 : decode cX10_areWeeks 45 = .ok (.iconst 1, 1) := by decide +kernel
theorem dX10_areWeeks_46 : decode cX10_areWeeks 46 = .ok (.goto 4, 3) := by decide +kernel
theorem dX10_areWeeks_49 : decode cX10_areWeeks 49 = .ok (.iconst 0, 1) := by decide +kernel
theorem dX10_areWeeks_50 : decode cX10_areWeeks 50 = .ok (.ireturn, 1) := by decide +kernel
theorem dX10_pay_0 : decode cX10_pay 0 = .ok (.aload_n 0, 1) := by decide +kernel
theorem dX10_pay_1 : decode cX10_pay 1 = .ok (.iload_n 1, 1) := by decide +kernel
theorem dX10_pay_2 : decode cX10_pay 2 = .ok (.iload_n 2, 1) := by decide +kernel
theorem dX10_pay_3 : decode cX10_pay 3 = .ok (.iload_n 3, 1) := by decide +kernel
theorem dX10_pay_4 : decode cX10_pay 4 = .ok (.iload 4, 2) := by decide +kernel
theorem dX10_pay_6 : decode cX10_pay 6 = .ok (.invokevirtual 142, 3) := by decide +kernel
theorem dX10_pay_9 : decode cX10_pay 9 = .ok (.ifCond .eq 18, 3) := by decide +kernel
theorem dX10_pay_12 : decode cX10_pay 12 = .ok (.iconst 2, 1) := by decide +kernel
theorem dX10_pay_13 : decode cX10_pay 13 = .ok (.aload_n 0, 1) := by decide +kernel
theorem dX10_pay_14 : decode cX10_pay 14 = .ok (.iload_n 1, 1) := by decide +kernel
theorem dX10_pay_15 : decode cX10_pay 15 = .ok (.iload_n 2, 1) := by decide +kernel
theorem dX10_pay_16 : decode cX10_pay 16 = .ok (.iload_n 3, 1) := by decide +kernel
theorem dX10_pay_17 : decode cX10_pay 17 = .ok (.iload 4, 2) := by decide +kernel
theorem dX10_pay_19 : decode cX10_pay 19 = .ok (.iconst 1, 1) := by decide +kernel
theorem dX10_pay_20 : decode cX10_pay 20 = .ok (.invokevirtual 146, 3) := by decide +kernel
theorem dX10_pay_23 : decode cX10_pay 23 = .ok (.imul, 1) := by decide +kernel
theorem dX10_pay_24 : decode cX10_pay 24 = .ok (.goto 4, 3) := by decide +kernel
theorem dX10_pay_27 : decode cX10_pay 27 = .ok (.iconst (-1), 1) := by decide +kernel
theorem dX10_pay_28 : decode cX10_pay 28 = .ok (.ireturn, 1) := by decide +kernel
theorem dX10_gap_0 : decode cX10_gap 0 = .ok (.aload_n 0, 1) := by decide +kernel
theorem dX10_gap_1 : decode cX10_gap 1 = .ok (.iload_n 1, 1) := by decide +kernel
theorem dX10_gap_2 : decode cX10_gap 2 = .ok (.iload_n 2, 1) := by decide +kernel
theorem dX10_gap_3 : decode cX10_gap 3 = .ok (.iload_n 3, 1) := by decide +kernel
theorem dX10_gap_4 : decode cX10_gap 4 = .ok (.iload 4, 2) := by decide +kernel
theorem dX10_gap_6 : decode cX10_gap 6 = .ok (.invokevirtual 142, 3) := by decide +kernel
theorem dX10_gap_9 : decode cX10_gap 9 = .ok (.ifCond .eq 16, 3) := by decide +kernel
theorem dX10_gap_12 : decode cX10_gap 12 = .ok (.aload_n 0, 1) := by decide +kernel
theorem dX10_gap_13 : decode cX10_gap 13 = .ok (.iload_n 1, 1) := by decide +kernel
theorem dX10_gap_14 : decode cX10_gap 14 = .ok (.iload_n 2, 1) := by decide +kernel
theorem dX10_gap_15 : decode cX10_gap 15 = .ok (.iload_n 3, 1) := by decide +kernel
theorem dX10_gap_16 : decode cX10_gap 16 = .ok (.iload 4, 2) := by decide +kernel
theorem dX10_gap_18 : decode cX10_gap 18 = .ok (.iconst 0, 1) := by decide +kernel
theorem dX10_gap_19 : decode cX10_gap 19 = .ok (.invokevirtual 146, 3) := by decide +kernel
theorem dX10_gap_22 : decode cX10_gap 22 = .ok (.goto 4, 3) := by decide +kernel
theorem dX10_gap_25 : decode cX10_gap 25 = .ok (.iconst (-1), 1) := by decide +kernel
theorem dX10_gap_26 : decode cX10_gap 26 = .ok (.ireturn, 1) := by decide +kernel
theorem dX10_third_0 : decode cX10_third 0 = .ok (.iload_n 0, 1) := by decide +kernel
theorem dX10_third_1 : decode cX10_third 1 = .ok (.iconst 3, 1) := by decide +kernel
theorem dX10_third_2 : decode cX10_third 2 = .ok (.iload_n 1, 1) := by decide +kernel
theorem dX10_third_3 : decode cX10_third 3 = .ok (.imul, 1) := by decide +kernel
theorem dX10_third_4 : decode cX10_third 4 = .ok (.ishr, 1) := by decide +kernel
theorem dX10_third_5 : decode cX10_third 5 = .ok (.bipush 7, 2) := by decide +kernel
theorem dX10_third_7 : decode cX10_third 7 = .ok (.iand, 1) := by decide +kernel
theorem dX10_third_8 : decode cX10_third 8 = .ok (.ireturn, 1) := by decide +kernel
theorem dX10_offBy_0 : decode cX10_offBy 0 = .ok (.iconst 0, 1) := by decide +kernel
theorem dX10_offBy_1 : decode cX10_offBy 1 = .ok (.istore 5, 2) := by decide +kernel
theorem dX10_offBy_3 : decode cX10_offBy 3 = .ok (.iconst 0, 1) := by decide +kernel
theorem dX10_offBy_4 : decode cX10_offBy 4 = .ok (.istore 6, 2) := by decide +kernel
theorem dX10_offBy_6 : decode cX10_offBy 6 = .ok (.iload 6, 2) := by decide +kernel
theorem dX10_offBy_8 : decode cX10_offBy 8 = .ok (.bipush 8, 2) := by decide +kernel
theorem dX10_offBy_10 : decode cX10_offBy 10 = .ok (.if_icmp .ge 91, 3) := by decide +kernel
theorem dX10_offBy_13 : decode cX10_offBy 13 = .ok (.iload 4, 2) := by decide +kernel
theorem dX10_offBy_15 : decode cX10_offBy 15 = .ok (.ifCond .eq 11, 3) := by decide +kernel
theorem dX10_offBy_18 : decode cX10_offBy 18 = .ok (.bipush 7, 2) := by decide +kernel
theorem dX10_offBy_20 : decode cX10_offBy 20 = .ok (.iload 6, 2) := by decide +kernel
theorem dX10_offBy_22 : decode cX10_offBy 22 = .ok (.isub, 1) := by decide +kernel
theorem dX10_offBy_23 : decode cX10_offBy 23 = .ok (.goto 5, 3) := by decide +kernel
theorem dX10_offBy_26 : decode cX10_offBy 26 = .ok (.iload 6, 2) := by decide +kernel
theorem dX10_offBy_28 : decode cX10_offBy 28 = .ok (.istore 7, 2) := by decide +kernel
theorem dX10_offBy_30 : decode cX10_offBy 30 = .ok (.aload_n 0, 1) := by decide +kernel
theorem dX10_offBy_31 : decode cX10_offBy 31 = .ok (.getfield 28, 3) := by decide +kernel
theorem dX10_offBy_34 : decode cX10_offBy 34 = .ok (.iload_n 1, 1) := by decide +kernel
theorem dX10_offBy_35 : decode cX10_offBy 35 = .ok (.iaload, 1) := by decide +kernel
theorem dX10_offBy_36 : decode cX10_offBy 36 = .ok (.iload 6, 2) := by decide +kernel
theorem dX10_offBy_38 : decode cX10_offBy 38 = .ok (.invokestatic 150, 3) := by decide +kernel
theorem dX10_offBy_41 : decode cX10_offBy 41 = .ok (.iload_n 2, 1) := by decide +kernel
theorem dX10_offBy_42 : decode cX10_offBy 42 = .ok (.iload 7, 2) := by decide +kernel
theorem dX10_offBy_44 : decode cX10_offBy 44 = .ok (.invokestatic 150, 3) := by decide +kernel
theorem dX10_offBy_47 : decode cX10_offBy 47 = .ok (.iadd, 1) := by decide +kernel
theorem dX10_offBy_48 : decode cX10_offBy 48 = .ok (.bipush 7, 2) := by decide +kernel
theorem dX10_offBy_50 : decode cX10_offBy 50 = .ok (.if_icmp .ne 27, 3) := by decide +kernel
theorem dX10_offBy_53 : decode cX10_offBy 53 = .ok (.aload_n 0, 1) := by decide +kernel
theorem dX10_offBy_54 : decode cX10_offBy 54 = .ok (.getfield 31, 3) := by decide +kernel
theorem dX10_offBy_57 : decode cX10_offBy 57 = .ok (.iload_n 1, 1) := by decide +kernel
theorem dX10_offBy_58 : decode cX10_offBy 58 = .ok (.iaload, 1) := by decide +kernel
theorem dX10_offBy_59 : decode cX10_offBy 59 = .ok (.iload 6, 2) := by decide +kernel
theorem dX10_offBy_61 : decode cX10_offBy 61 = .ok (.invokestatic 150, 3) := by decide +kernel
theorem dX10_offBy_64 : decode cX10_offBy 64 = .ok (.iload_n 3, 1) := by decide +kernel
theorem dX10_offBy_65 : decode cX10_offBy 65 = .ok (.iload 7, 2) := by decide +kernel
theorem dX10_offBy_67 : decode cX10_offBy 67 = .ok (.invokestatic 150, 3) := by decide +kernel
theorem dX10_offBy_70 : decode cX10_offBy 70 = .ok (.if_icmp .ne 7, 3) := by decide +kernel
theorem dX10_offBy_73 : decode cX10_offBy 73 = .ok (.iconst 1, 1) := by decide +kernel
theorem dX10_offBy_74 : decode cX10_offBy 74 = .ok (.goto 4, 3) := by decide +kernel
theorem dX10_offBy_77 : decode cX10_offBy 77 = .ok (.iconst 0, 1) := by decide +kernel
theorem dX10_offBy_78 : decode cX10_offBy 78 = .ok (.istore 8, 2) := by decide +kernel
theorem dX10_offBy_80 : decode cX10_offBy 80 = .ok (.iload 5, 2) := by decide +kernel
theorem dX10_offBy_82 : decode cX10_offBy 82 = .ok (.iload 8, 2) := by decide +kernel
theorem dX10_offBy_84 : decode cX10_offBy 84 = .ok (.ifCond .eq 7, 3) := by decide +kernel
theorem dX10_offBy_87 : decode cX10_offBy 87 = .ok (.iconst 0, 1) := by decide +kernel
theorem dX10_offBy_88 : decode cX10_offBy 88 = .ok (.goto 4, 3) := by decide +kernel
theorem dX10_offBy_91 : decode cX10_offBy 91 = .ok (.iconst 1, 1) := by decide +kernel
theorem dX10_offBy_92 : decode cX10_offBy 92 = .ok (.iadd, 1) := by decide +kernel
theorem dX10_offBy_93 : decode cX10_offBy 93 = .ok (.istore 5, 2) := by decide +kernel
theorem dX10_offBy_95 : decode cX10_offBy 95 = .ok (.iinc 6 1, 3) := by decide +kernel
theorem dX10_offBy_98 : decode cX10_offBy 98 = .ok (.goto (-92), 3) := by decide +kernel
theorem dX10_offBy_101 : decode cX10_offBy 101 = .ok (.iload 5, 2) := by decide +kernel
theorem dX10_offBy_103 : decode cX10_offBy 103 = .ok (.ireturn, 1) := by decide +kernel
theorem dX10_offOf_0 : decode cX10_offOf 0 = .ok (.aload_n 0, 1) := by decide +kernel
theorem dX10_offOf_1 : decode cX10_offOf 1 = .ok (.iload_n 1, 1) := by decide +kernel
theorem dX10_offOf_2 : decode cX10_offOf 2 = .ok (.iload_n 2, 1) := by decide +kernel
theorem dX10_offOf_3 : decode cX10_offOf 3 = .ok (.iload_n 3, 1) := by decide +kernel
theorem dX10_offOf_4 : decode cX10_offOf 4 = .ok (.iconst 0, 1) := by decide +kernel
theorem dX10_offOf_5 : decode cX10_offOf 5 = .ok (.invokevirtual 153, 3) := by decide +kernel
theorem dX10_offOf_8 : decode cX10_offOf 8 = .ok (.aload_n 0, 1) := by decide +kernel
theorem dX10_offOf_9 : decode cX10_offOf 9 = .ok (.iload_n 1, 1) := by decide +kernel
theorem dX10_offOf_10 : decode cX10_offOf 10 = .ok (.iload_n 2, 1) := by decide +kernel
theorem dX10_offOf_11 : decode cX10_offOf 11 = .ok (.iload_n 3, 1) := by decide +kernel
theorem dX10_offOf_12 : decode cX10_offOf 12 = .ok (.iconst 1, 1) := by decide +kernel
theorem dX10_offOf_13 : decode cX10_offOf 13 = .ok (.invokevirtual 153, 3) := by decide +kernel
theorem dX10_offOf_16 : decode cX10_offOf 16 = .ok (.invokestatic 133, 3) := by decide +kernel
theorem dX10_offOf_19 : decode cX10_offOf 19 = .ok (.ireturn, 1) := by decide +kernel
theorem dX10_off_0 : decode cX10_off 0 = .ok (.aload_n 0, 1) := by decide +kernel
theorem dX10_off_1 : decode cX10_off 1 = .ok (.iload_n 1, 1) := by decide +kernel
theorem dX10_off_2 : decode cX10_off 2 = .ok (.invokevirtual 124, 3) := by decide +kernel
theorem dX10_off_5 : decode cX10_off 5 = .ok (.ifCond .eq 33, 3) := by decide +kernel
theorem dX10_off_8 : decode cX10_off 8 = .ok (.iload_n 2, 1) := by decide +kernel
theorem dX10_off_9 : decode cX10_off 9 = .ok (.iconst 0, 1) := by decide +kernel
theorem dX10_off_10 : decode cX10_off 10 = .ok (.ldc 100, 2) := by decide +kernel
theorem dX10_off_12 : decode cX10_off 12 = .ok (.invokestatic 77, 3) := by decide +kernel
theorem dX10_off_15 : decode cX10_off 15 = .ok (.ifCond .eq 23, 3) := by decide +kernel
theorem dX10_off_18 : decode cX10_off 18 = .ok (.iload_n 3, 1) := by decide +kernel
theorem dX10_off_19 : decode cX10_off 19 = .ok (.iconst 0, 1) := by decide +kernel
theorem dX10_off_20 : decode cX10_off 20 = .ok (.ldc 100, 2) := by decide +kernel
theorem dX10_off_22 : decode cX10_off 22 = .ok (.invokestatic 77, 3) := by decide +kernel
theorem dX10_off_25 : decode cX10_off 25 = .ok (.ifCond .eq 13, 3) := by decide +kernel
theorem dX10_off_28 : decode cX10_off 28 = .ok (.aload_n 0, 1) := by decide +kernel
theorem dX10_off_29 : decode cX10_off 29 = .ok (.iload_n 1, 1) := by decide +kernel
theorem dX10_off_30 : decode cX10_off 30 = .ok (.iload_n 2, 1) := by decide +kernel
theorem dX10_off_31 : decode cX10_off 31 = .ok (.iload_n 3, 1) := by decide +kernel
theorem dX10_off_32 : decode cX10_off 32 = .ok (.invokevirtual 157, 3) := by decide +kernel
theorem dX10_off_35 : decode cX10_off 35 = .ok (.goto 4, 3) := by decide +kernel
theorem dX10_off_38 : decode cX10_off 38 = .ok (.iconst (-1), 1) := by decide +kernel
theorem dX10_off_39 : decode cX10_off 39 = .ok (.ireturn, 1) := by decide +kernel
theorem dX10_feed_0 : decode cX10_feed 0 = .ok (.iconst 0, 1) := by decide +kernel
theorem dX10_feed_1 : decode cX10_feed 1 = .ok (.istore_n 2, 1) := by decide +kernel
theorem dX10_feed_2 : decode cX10_feed 2 = .ok (.iconst 0, 1) := by decide +kernel
theorem dX10_feed_3 : decode cX10_feed 3 = .ok (.istore_n 3, 1) := by decide +kernel
theorem dX10_feed_4 : decode cX10_feed 4 = .ok (.iload_n 3, 1) := by decide +kernel
theorem dX10_feed_5 : decode cX10_feed 5 = .ok (.iconst 4, 1) := by decide +kernel
theorem dX10_feed_6 : decode cX10_feed 6 = .ok (.if_icmp .ge 30, 3) := by decide +kernel
theorem dX10_feed_9 : decode cX10_feed 9 = .ok (.iload_n 2, 1) := by decide +kernel
theorem dX10_feed_10 : decode cX10_feed 10 = .ok (.iload_n 1, 1) := by decide +kernel
theorem dX10_feed_11 : decode cX10_feed 11 = .ok (.bipush 8, 2) := by decide +kernel
theorem dX10_feed_13 : decode cX10_feed 13 = .ok (.iload_n 3, 1) := by decide +kernel
theorem dX10_feed_14 : decode cX10_feed 14 = .ok (.imul, 1) := by decide +kernel
theorem dX10_feed_15 : decode cX10_feed 15 = .ok (.ishr, 1) := by decide +kernel
theorem dX10_feed_16 : decode cX10_feed 16 = .ok (.sipush 255, 3) := by decide +kernel
theorem dX10_feed_19 : decode cX10_feed 19 = .ok (.iand, 1) := by decide +kernel
theorem dX10_feed_20 : decode cX10_feed 20 = .ok (.ifCond .eq 7, 3) := by decide +kernel
theorem dX10_feed_23 : decode cX10_feed 23 = .ok (.iconst 1, 1) := by decide +kernel
theorem dX10_feed_24 : decode cX10_feed 24 = .ok (.goto 4, 3) := by decide +kernel
theorem dX10_feed_27 : decode cX10_feed 27 = .ok (.iconst 0, 1) := by decide +kernel
theorem dX10_feed_28 : decode cX10_feed 28 = .ok (.iadd, 1) := by decide +kernel
theorem dX10_feed_29 : decode cX10_feed 29 = .ok (.istore_n 2, 1) := by decide +kernel
theorem dX10_feed_30 : decode cX10_feed 30 = .ok (.iinc 3 1, 3) := by decide +kernel
theorem dX10_feed_33 : decode cX10_feed 33 = .ok (.goto (-29), 3) := by decide +kernel
theorem dX10_feed_36 : decode cX10_feed 36 = .ok (.aload_n 0, 1) := by decide +kernel
theorem dX10_feed_37 : decode cX10_feed 37 = .ok (.getfield 160, 3) := by decide +kernel
theorem dX10_feed_40 : decode cX10_feed 40 = .ok (.iload_n 2, 1) := by decide +kernel
theorem dX10_feed_41 : decode cX10_feed 41 = .ok (.iadd, 1) := by decide +kernel
theorem dX10_feed_42 : decode cX10_feed 42 = .ok (.bipush 100, 2) := by decide +kernel
theorem dX10_feed_44 : decode cX10_feed 44 = .ok (.if_icmp .le 5, 3) := by decide +kernel
theorem dX10_feed_47 : decode cX10_feed 47 = .ok (.iconst (-1), 1) := by decide +kernel
theorem dX10_feed_48 : decode cX10_feed 48 = .ok (.ireturn, 1) := by decide +kernel
theorem dX10_feed_49 : decode cX10_feed 49 = .ok (.iconst 3, 1) := by decide +kernel
theorem dX10_feed_50 : decode cX10_feed 50 = .ok (.istore_n 3, 1) := by decide +kernel
theorem dX10_feed_51 : decode cX10_feed 51 = .ok (.iload_n 3, 1) := by decide +kernel
theorem dX10_feed_52 : decode cX10_feed 52 = .ok (.ifCond .lt 47, 3) := by decide +kernel
theorem dX10_feed_55 : decode cX10_feed 55 = .ok (.iload_n 1, 1) := by decide +kernel
theorem dX10_feed_56 : decode cX10_feed 56 = .ok (.bipush 8, 2) := by decide +kernel
theorem dX10_feed_58 : decode cX10_feed 58 = .ok (.iload_n 3, 1) := by decide +kernel
theorem dX10_feed_59 : decode cX10_feed 59 = .ok (.imul, 1) := by decide +kernel
theorem dX10_feed_60 : decode cX10_feed 60 = .ok (.ishr, 1) := by decide +kernel
theorem dX10_feed_61 : decode cX10_feed 61 = .ok (.sipush 255, 3) := by decide +kernel
theorem dX10_feed_64 : decode cX10_feed 64 = .ok (.iand, 1) := by decide +kernel
theorem dX10_feed_65 : decode cX10_feed 65 = .ok (.istore 4, 2) := by decide +kernel
theorem dX10_feed_67 : decode cX10_feed 67 = .ok (.iload 4, 2) := by decide +kernel
theorem dX10_feed_69 : decode cX10_feed 69 = .ok (.ifCond .eq 24, 3) := by decide +kernel
theorem dX10_feed_72 : decode cX10_feed 72 = .ok (.aload_n 0, 1) := by decide +kernel
theorem dX10_feed_73 : decode cX10_feed 73 = .ok (.getfield 65, 3) := by decide +kernel
theorem dX10_feed_76 : decode cX10_feed 76 = .ok (.aload_n 0, 1) := by decide +kernel
theorem dX10_feed_77 : decode cX10_feed 77 = .ok (.getfield 160, 3) := by decide +kernel
theorem dX10_feed_80 : decode cX10_feed 80 = .ok (.iload 4, 2) := by decide +kernel
theorem dX10_feed_82 : decode cX10_feed 82 = .ok (.iastore, 1) := by decide +kernel
theorem dX10_feed_83 : decode cX10_feed 83 = .ok (.aload_n 0, 1) := by decide +kernel
theorem dX10_feed_84 : decode cX10_feed 84 = .ok (.dup, 1) := by decide +kernel
theorem dX10_feed_85 : decode cX10_feed 85 = .ok (.getfield 160, 3) := by decide +kernel
theorem dX10_feed_88 : decode cX10_feed 88 = .ok (.iconst 1, 1) := by decide +kernel
theorem dX10_feed_89 : decode cX10_feed 89 = .ok (.iadd, 1) := by decide +kernel
theorem dX10_feed_90 : decode cX10_feed 90 = .ok (.putfield 160, 3) := by decide +kernel
theorem dX10_feed_93 : decode cX10_feed 93 = .ok (.iinc 3 (-1), 3) := by decide +kernel
theorem dX10_feed_96 : decode cX10_feed 96 = .ok (.goto (-45), 3) := by decide +kernel
theorem dX10_feed_99 : decode cX10_feed 99 = .ok (.aload_n 0, 1) := by decide +kernel
theorem dX10_feed_100 : decode cX10_feed 100 = .ok (.getfield 160, 3) := by decide +kernel
theorem dX10_feed_103 : decode cX10_feed 103 = .ok (.ireturn, 1) := by decide +kernel
theorem dX10_end_0 : decode cX10_end 0 = .ok (.iload_n 1, 1) := by decide +kernel
theorem dX10_end_1 : decode cX10_end 1 = .ok (.ifCond .lt 11, 3) := by decide +kernel
theorem dX10_end_4 : decode cX10_end 4 = .ok (.iload_n 1, 1) := by decide +kernel
theorem dX10_end_5 : decode cX10_end 5 = .ok (.aload_n 0, 1) := by decide +kernel
theorem dX10_end_6 : decode cX10_end 6 = .ok (.getfield 160, 3) := by decide +kernel
theorem dX10_end_9 : decode cX10_end 9 = .ok (.if_icmp .le 5, 3) := by decide +kernel
theorem dX10_end_12 : decode cX10_end 12 = .ok (.iconst 0, 1) := by decide +kernel
theorem dX10_end_13 : decode cX10_end 13 = .ok (.ireturn, 1) := by decide +kernel
theorem dX10_end_14 : decode cX10_end 14 = .ok (.aload_n 0, 1) := by decide +kernel
theorem dX10_end_15 : decode cX10_end 15 = .ok (.iload_n 1, 1) := by decide +kernel
theorem dX10_end_16 : decode cX10_end 16 = .ok (.putfield 160, 3) := by decide +kernel
theorem dX10_end_19 : decode cX10_end 19 = .ok (.iconst 1, 1) := by decide +kernel
theorem dX10_end_20 : decode cX10_end 20 = .ok (.ireturn, 1) := by decide +kernel
theorem dX10_peek_0 : decode cX10_peek 0 = .ok (.aload_n 0, 1) := by decide +kernel
theorem dX10_peek_1 : decode cX10_peek 1 = .ok (.getfield 163, 3) := by decide +kernel
theorem dX10_peek_4 : decode cX10_peek 4 = .ok (.aload_n 0, 1) := by decide +kernel
theorem dX10_peek_5 : decode cX10_peek 5 = .ok (.getfield 160, 3) := by decide +kernel
theorem dX10_peek_8 : decode cX10_peek 8 = .ok (.if_icmp .ge 30, 3) := by decide +kernel
theorem dX10_peek_11 : decode cX10_peek 11 = .ok (.aload_n 0, 1) := by decide +kernel
theorem dX10_peek_12 : decode cX10_peek 12 = .ok (.getfield 65, 3) := by decide +kernel
theorem dX10_peek_15 : decode cX10_peek 15 = .ok (.aload_n 0, 1) := by decide +kernel
theorem dX10_peek_16 : decode cX10_peek 16 = .ok (.getfield 163, 3) := by decide +kernel
theorem dX10_peek_19 : decode cX10_peek 19 = .ok (.iaload, 1) := by decide +kernel
theorem dX10_peek_20 : decode cX10_peek 20 = .ok (.bipush 32, 2) := by decide +kernel
theorem dX10_peek_22 : decode cX10_peek 22 = .ok (.if_icmp .ne 16, 3) := by decide +kernel
theorem dX10_peek_25 : decode cX10_peek 25 = .ok (.aload_n 0, 1) := by decide +kernel
theorem dX10_peek_26 : decode cX10_peek 26 = .ok (.dup, 1) := by decide +kernel
theorem dX10_peek_27 : decode cX10_peek 27 = .ok (.getfield 163, 3) := by decide +kernel
theorem dX10_peek_30 : decode cX10_peek 30 = .ok (.iconst 1, 1) := by decide +kernel
theorem dX10_peek_31 : decode cX10_peek 31 = .ok (.iadd, 1) := by decide +kernel
theorem dX10_peek_32 : decode cX10_peek 32 = .ok (.putfield 163, 3) := by decide +kernel
theorem dX10_peek_35 : decode cX10_peek 35 = .ok (.goto (-35), 3) := by decide +kernel
theorem dX10_peek_38 : decode cX10_peek 38 = .ok (.aload_n 0, 1) := by decide +kernel
theorem dX10_peek_39 : decode cX10_peek 39 = .ok (.getfield 163, 3) := by decide +kernel
theorem dX10_peek_42 : decode cX10_peek 42 = .ok (.aload_n 0, 1) := by decide +kernel
theorem dX10_peek_43 : decode cX10_peek 43 = .ok (.getfield 160, 3) := by decide +kernel
theorem dX10_peek_46 : decode cX10_peek 46 = .ok (.if_icmp .ge 15, 3) := by decide +kernel
theorem dX10_peek_49 : decode cX10_peek 49 = .ok (.aload_n 0, 1) := by decide +kernel
theorem dX10_peek_50 : decode cX10_peek 50 = .ok (.getfield 65, 3) := by decide +kernel
theorem dX10_peek_53 : decode cX10_peek 53 = .ok (.aload_n 0, 1) := by decide +kernel
theorem dX10_peek_54 : decode cX10_peek 54 = .ok (.getfield 163, 3) := by decide +kernel
theorem dX10_peek_57 : decode cX10_peek 57 = .ok (.iaload, 1) := by decide +kernel
theorem dX10_peek_58 : decode cX10_peek 58 = .ok (.goto 4, 3) := by decide +kernel
theorem dX10_peek_61 : decode cX10_peek 61 = .ok (.iconst (-1), 1) := by decide +kernel
theorem dX10_peek_62 : decode cX10_peek 62 = .ok (.ireturn, 1) := by decide +kernel
theorem dX10_fail_0 : decode cX10_fail 0 = .ok (.aload_n 0, 1) := by decide +kernel
theorem dX10_fail_1 : decode cX10_fail 1 = .ok (.aload_n 0, 1) := by decide +kernel
theorem dX10_fail_2 : decode cX10_fail 2 = .ok (.getfield 166, 3) := by decide +kernel
theorem dX10_fail_5 : decode cX10_fail 5 = .ok (.iconst (-1), 1) := by decide +kernel
theorem dX10_fail_6 : decode cX10_fail 6 = .ok (.if_icmp .ne 10, 3) := by decide +kernel
theorem dX10_fail_9 : decode cX10_fail 9 = .ok (.aload_n 0, 1) := by decide +kernel
theorem dX10_fail_10 : decode cX10_fail 10 = .ok (.getfield 163, 3) := by decide +kernel
theorem dX10_fail_13 : decode cX10_fail 13 = .ok (.goto 7, 3) := by decide +kernel
theorem dX10_fail_16 : decode cX10_fail 16 = .ok (.aload_n 0, 1) := by decide +kernel
theorem dX10_fail_17 : decode cX10_fail 17 = .ok (.getfield 166, 3) := by decide +kernel
theorem dX10_fail_20 : decode cX10_fail 20 = .ok (.putfield 166, 3) := by decide +kernel
theorem dX10_fail_23 : decode cX10_fail 23 = .ok (.return_, 1) := by decide +kernel
theorem dX10_say_0 : decode cX10_say 0 = .ok (.aload_n 0, 1) := by decide +kernel
theorem dX10_say_1 : decode cX10_say 1 = .ok (.getfield 71, 3) := by decide +kernel
theorem dX10_say_4 : decode cX10_say 4 = .ok (.aload_n 0, 1) := by decide +kernel
theorem dX10_say_5 : decode cX10_say 5 = .ok (.getfield 169, 3) := by decide +kernel
theorem dX10_say_8 : decode cX10_say 8 = .ok (.iload_n 1, 1) := by decide +kernel
theorem dX10_say_9 : decode cX10_say 9 = .ok (.iastore, 1) := by decide +kernel
theorem dX10_say_10 : decode cX10_say 10 = .ok (.aload_n 0, 1) := by decide +kernel
theorem dX10_say_11 : decode cX10_say 11 = .ok (.dup, 1) := by decide +kernel
theorem dX10_say_12 : decode cX10_say 12 = .ok (.getfield 169, 3) := by decide +kernel
theorem dX10_say_15 : decode cX10_say 15 = .ok (.iconst 1, 1) := by decide +kernel
theorem dX10_say_16 : decode cX10_say 16 = .ok (.iadd, 1) := by decide +kernel
theorem dX10_say_17 : decode cX10_say 17 = .ok (.putfield 169, 3) := by decide +kernel
theorem dX10_say_20 : decode cX10_say 20 = .ok (.return_, 1) := by decide +kernel
theorem dX10_unit_0 : decode cX10_unit 0 = .ok (.aload_n 0, 1) := by decide +kernel
theorem dX10_unit_1 : decode cX10_unit 1 = .ok (.invokevirtual 172, 3) := by decide +kernel
theorem dX10_unit_4 : decode cX10_unit 4 = .ok (.istore_n 1, 1) := by decide +kernel
theorem dX10_unit_5 : decode cX10_unit 5 = .ok (.iload_n 1, 1) := by decide +kernel
theorem dX10_unit_6 : decode cX10_unit 6 = .ok (.bipush 40, 2) := by decide +kernel
theorem dX10_unit_8 : decode cX10_unit 8 = .ok (.if_icmp .ne 78, 3) := by decide +kernel
theorem dX10_unit_11 : decode cX10_unit 11 = .ok (.aload_n 0, 1) := by decide +kernel
theorem dX10_unit_12 : decode cX10_unit 12 = .ok (.getfield 176, 3) := by decide +kernel
theorem dX10_unit_15 : decode cX10_unit 15 = .ok (.bipush 8, 2) := by decide +kernel
theorem dX10_unit_17 : decode cX10_unit 17 = .ok (.if_icmp .ge 69, 3) := by decide +kernel
theorem dX10_unit_20 : decode cX10_unit 20 = .ok (.aload_n 0, 1) := by decide +kernel
theorem dX10_unit_21 : decode cX10_unit 21 = .ok (.dup, 1) := by decide +kernel
theorem dX10_unit_22 : decode cX10_unit 22 = .ok (.getfield 176, 3) := by decide +kernel
theorem dX10_unit_25 : decode cX10_unit 25 = .ok (.iconst 1, 1) := by decide +kernel
theorem dX10_unit_26 : decode cX10_unit 26 = .ok (.iadd, 1) := by decide +kernel
theorem dX10_unit_27 : decode cX10_unit 27 = .ok (.putfield 176, 3) := by decide +kernel
theorem dX10_unit_30 : decode cX10_unit 30 = .ok (.aload_n 0, 1) := by decide +kernel
theorem dX10_unit_31 : decode cX10_unit 31 = .ok (.dup, 1) := by decide +kernel
theorem dX10_unit_32 : decode cX10_unit 32 = .ok (.getfield 163, 3) := by decide +kernel
theorem dX10_unit_35 : decode cX10_unit 35 = .ok (.iconst 1, 1) := by decide +kernel
theorem dX10_unit_36 : decode cX10_unit 36 = .ok (.iadd, 1) := by decide +kernel
theorem dX10_unit_37 : decode cX10_unit 37 = .ok (.putfield 163, 3) := by decide +kernel
theorem dX10_unit_40 : decode cX10_unit 40 = .ok (.aload_n 0, 1) := by decide +kernel
theorem dX10_unit_41 : decode cX10_unit 41 = .ok (.invokevirtual 179, 3) := by decide +kernel
theorem dX10_unit_44 : decode cX10_unit 44 = .ok (.aload_n 0, 1) := by decide +kernel
theorem dX10_unit_45 : decode cX10_unit 45 = .ok (.getfield 166, 3) := by decide +kernel
theorem dX10_unit_48 : decode cX10_unit 48 = .ok (.iconst (-1), 1) := by decide +kernel
theorem dX10_unit_49 : decode cX10_unit 49 = .ok (.if_icmp .ne 16, 3) := by decide +kernel
theorem dX10_unit_52 : decode cX10_unit 52 = .ok (.aload_n 0, 1) := by decide +kernel
theorem dX10_unit_53 : decode cX10_unit 53 = .ok (.invokevirtual 172, 3) := by decide +kernel
theorem dX10_unit_56 : decode cX10_unit 56 = .ok (.bipush 41, 2) := by decide +kernel
theorem dX10_unit_58 : decode cX10_unit 58 = .ok (.if_icmp .eq 7, 3) := by decide +kernel
theorem dX10_unit_61 : decode cX10_unit 61 = .ok (.aload_n 0, 1) := by decide +kernel
theorem dX10_unit_62 : decode cX10_unit 62 = .ok (.invokevirtual 182, 3) := by decide +kernel
theorem dX10_unit_65 : decode cX10_unit 65 = .ok (.aload_n 0, 1) := by decide +kernel
theorem dX10_unit_66 : decode cX10_unit 66 = .ok (.dup, 1) := by decide +kernel
theorem dX10_unit_67 : decode cX10_unit 67 = .ok (.getfield 163, 3) := by decide +kernel
theorem dX10_unit_70 : decode cX10_unit 70 = .ok (.iconst 1, 1) := by decide +kernel
theorem dX10_unit_71 : decode cX10_unit 71 = .ok (.iadd, 1) := by decide +kernel
theorem dX10_unit_72 : decode cX10_unit 72 = .ok (.putfield 163, 3) := by decide +kernel
theorem dX10_unit_75 : decode cX10_unit 75 = .ok (.aload_n 0, 1) := by decide +kernel
theorem dX10_unit_76 : decode cX10_unit 76 = .ok (.dup, 1) := by decide +kernel
theorem dX10_unit_77 : decode cX10_unit 77 = .ok (.getfield 176, 3) := by decide +kernel
theorem dX10_unit_80 : decode cX10_unit 80 = .ok (.iconst 1, 1) := by decide +kernel
theorem dX10_unit_81 : decode cX10_unit 81 = .ok (.isub, 1) := by decide +kernel
theorem dX10_unit_82 : decode cX10_unit 82 = .ok (.putfield 176, 3) := by decide +kernel
theorem dX10_unit_85 : decode cX10_unit 85 = .ok (.return_, 1) := by decide +kernel
theorem dX10_unit_86 : decode cX10_unit 86 = .ok (.iload_n 1, 1) := by decide +kernel
theorem dX10_unit_87 : decode cX10_unit 87 = .ok (.bipush 111, 2) := by decide +kernel
theorem dX10_unit_89 : decode cX10_unit 89 = .ok (.if_icmp .eq 32, 3) := by decide +kernel
theorem dX10_unit_92 : decode cX10_unit 92 = .ok (.iload_n 1, 1) := by decide +kernel
theorem dX10_unit_93 : decode cX10_unit 93 = .ok (.bipush 102, 2) := by decide +kernel
theorem dX10_unit_95 : decode cX10_unit 95 = .ok (.if_icmp .eq 26, 3) := by decide +kernel
theorem dX10_unit_98 : decode cX10_unit 98 = .ok (.iload_n 1, 1) := by decide +kernel
theorem dX10_unit_99 : decode cX10_unit 99 = .ok (.bipush 119, 2) := by decide +kernel
theorem dX10_unit_101 : decode cX10_unit 101 = .ok (.if_icmp .eq 20, 3) := by decide +kernel
theorem dX10_unit_104 : decode cX10_unit 104 = .ok (.iload_n 1, 1) := by decide +kernel
theorem dX10_unit_105 : decode cX10_unit 105 = .ok (.bipush 99, 2) := by decide +kernel
theorem dX10_unit_107 : decode cX10_unit 107 = .ok (.if_icmp .eq 14, 3) := by decide +kernel
theorem dX10_unit_110 : decode cX10_unit 110 = .ok (.iload_n 1, 1) := by decide +kernel
theorem dX10_unit_111 : decode cX10_unit 111 = .ok (.bipush 100, 2) := by decide +kernel
theorem dX10_unit_113 : decode cX10_unit 113 = .ok (.if_icmp .eq 8, 3) := by decide +kernel
theorem dX10_unit_116 : decode cX10_unit 116 = .ok (.aload_n 0, 1) := by decide +kernel
theorem dX10_unit_117 : decode cX10_unit 117 = .ok (.invokevirtual 182, 3) := by decide +kernel
theorem dX10_unit_120 : decode cX10_unit 120 = .ok (.return_, 1) := by decide +kernel
theorem dX10_unit_121 : decode cX10_unit 121 = .ok (.aload_n 0, 1) := by decide +kernel
theorem dX10_unit_122 : decode cX10_unit 122 = .ok (.dup, 1) := by decide +kernel
theorem dX10_unit_123 : decode cX10_unit 123 = .ok (.getfield 163, 3) := by decide +kernel
theorem dX10_unit_126 : decode cX10_unit 126 = .ok (.iconst 1, 1) := by decide +kernel
theorem dX10_unit_127 : decode cX10_unit 127 = .ok (.iadd, 1) := by decide +kernel
theorem dX10_unit_128 : decode cX10_unit 128 = .ok (.putfield 163, 3) := by decide +kernel
theorem dX10_unit_131 : decode cX10_unit 131 = .ok (.aload_n 0, 1) := by decide +kernel
theorem dX10_unit_132 : decode cX10_unit 132 = .ok (.invokevirtual 172, 3) := by decide +kernel
theorem dX10_unit_135 : decode cX10_unit 135 = .ok (.istore_n 2, 1) := by decide +kernel
theorem dX10_unit_136 : decode cX10_unit 136 = .ok (.iload_n 2, 1) := by decide +kernel
theorem dX10_unit_137 : decode cX10_unit 137 = .ok (.bipush 61, 2) := by decide +kernel
theorem dX10_unit_139 : decode cX10_unit 139 = .ok (.if_icmp .eq 20, 3) := by decide +kernel
theorem dX10_unit_142 : decode cX10_unit 142 = .ok (.iload_n 2, 1) := by decide +kernel
theorem dX10_unit_143 : decode cX10_unit 143 = .ok (.bipush 60, 2) := by decide +kernel
theorem dX10_unit_145 : decode cX10_unit 145 = .ok (.if_icmp .eq 14, 3) := by decide +kernel
theorem dX10_unit_148 : decode cX10_unit 148 = .ok (.iload_n 2, 1) := by decide +kernel
theorem dX10_unit_149 : decode cX10_unit 149 = .ok (.bipush 62, 2) := by decide +kernel
theorem dX10_unit_151 : decode cX10_unit 151 = .ok (.if_icmp .eq 8, 3) := by decide +kernel
theorem dX10_unit_154 : decode cX10_unit 154 = .ok (.aload_n 0, 1) := by decide +kernel
theorem dX10_unit_155 : decode cX10_unit 155 = .ok (.invokevirtual 182, 3) := by decide +kernel
theorem dX10_unit_158 : decode cX10_unit 158 = .ok (.return_, 1) := by decide +kernel
theorem dX10_unit_159 : decode cX10_unit 159 = .ok (.aload_n 0, 1) := by decide +kernel
theorem dX10_unit_160 : decode cX10_unit 160 = .ok (.dup, 1) := by decide +kernel
theorem dX10_unit_161 : decode cX10_unit 161 = .ok (.getfield 163, 3) := by decide +kernel
theorem dX10_unit_164 : decode cX10_unit 164 = .ok (.iconst 1, 1) := by decide +kernel
theorem dX10_unit_165 : decode cX10_unit 165 = .ok (.iadd, 1) := by decide +kernel
theorem dX10_unit_166 : decode cX10_unit 166 = .ok (.putfield 163, 3) := by decide +kernel
theorem dX10_unit_169 : decode cX10_unit 169 = .ok (.aload_n 0, 1) := by decide +kernel
theorem dX10_unit_170 : decode cX10_unit 170 = .ok (.invokevirtual 172, 3) := by decide +kernel
theorem dX10_unit_173 : decode cX10_unit 173 = .ok (.istore_n 3, 1) := by decide +kernel
theorem dX10_unit_174 : decode cX10_unit 174 = .ok (.iload_n 3, 1) := by decide +kernel
theorem dX10_unit_175 : decode cX10_unit 175 = .ok (.bipush 48, 2) := by decide +kernel
theorem dX10_unit_177 : decode cX10_unit 177 = .ok (.if_icmp .lt 9, 3) := by decide +kernel
theorem dX10_unit_180 : decode cX10_unit 180 = .ok (.iload_n 3, 1) := by decide +kernel
theorem dX10_unit_181 : decode cX10_unit 181 = .ok (.bipush 57, 2) := by decide +kernel
theorem dX10_unit_183 : decode cX10_unit 183 = .ok (.if_icmp .le 8, 3) := by decide +kernel
theorem dX10_unit_186 : decode cX10_unit 186 = .ok (.aload_n 0, 1) := by decide +kernel
theorem dX10_unit_187 : decode cX10_unit 187 = .ok (.invokevirtual 182, 3) := by decide +kernel
theorem dX10_unit_190 : decode cX10_unit 190 = .ok (.return_, 1) := by decide +kernel
theorem dX10_unit_191 : decode cX10_unit 191 = .ok (.iconst 0, 1) := by decide +kernel
theorem dX10_unit_192 : decode cX10_unit 192 = .ok (.istore 4, 2) := by decide +kernel
theorem dX10_unit_194 : decode cX10_unit 194 = .ok (.iconst 0, 1) := by decide +kernel
theorem dX10_unit_195 : decode cX10_unit 195 = .ok (.istore 5, 2) := by decide +kernel
theorem dX10_unit_197 : decode cX10_unit 197 = .ok (.aload_n 0, 1) := by decide +kernel
theorem dX10_unit_198 : decode cX10_unit 198 = .ok (.getfield 163, 3) := by decide +kernel
theorem dX10_unit_201 : decode cX10_unit 201 = .ok (.aload_n 0, 1) := by decide +kernel
theorem dX10_unit_202 : decode cX10_unit 202 = .ok (.getfield 160, 3) := by decide +kernel
theorem dX10_unit_205 : decode cX10_unit 205 = .ok (.if_icmp .ge 78, 3) := by decide +kernel
theorem dX10_unit_208 : decode cX10_unit 208 = .ok (.aload_n 0, 1) := by decide +kernel
theorem dX10_unit_209 : decode cX10_unit 209 = .ok (.getfield 65, 3) := by decide +kernel
theorem dX10_unit_212 : decode cX10_unit 212 = .ok (.aload_n 0, 1) := by decide +kernel
theorem dX10_unit_213 : decode cX10_unit 213 = .ok (.getfield 163, 3) := by decide +kernel
theorem dX10_unit_216 : decode cX10_unit 216 = .ok (.iaload, 1) := by decide +kernel
theorem dX10_unit_217 : decode cX10_unit 217 = .ok (.bipush 48, 2) := by decide +kernel
theorem dX10_unit_219 : decode cX10_unit 219 = .ok (.if_icmp .lt 64, 3) := by decide +kernel
theorem dX10_unit_222 : decode cX10_unit 222 = .ok (.aload_n 0, 1) := by decide +kernel
theorem dX10_unit_223 : decode cX10_unit 223 = .ok (.getfield 65, 3) := by decide +kernel
theorem dX10_unit_226 : decode cX10_unit 226 = .ok (.aload_n 0, 1) := by decide +kernel
theorem dX10_unit_227 : decode cX10_unit 227 = .ok (.getfield 163, 3) := by decide +kernel
theorem dX10_unit_230 : decode cX10_unit 230 = .ok (.iaload, 1) := by decide +kernel
theorem dX10_unit_231 : decode cX10_unit 231 = .ok (.bipush 57, 2) := by decide +kernel
theorem dX10_unit_233 : decode cX10_unit 233 = .ok (.if_icmp .gt 50, 3) := by decide +kernel
theorem dX10_unit_236 : decode cX10_unit 236 = .ok (.iload 5, 2) := by decide +kernel
theorem dX10_unit_238 : decode cX10_unit 238 = .ok (.iconst 4, 1) := by decide +kernel
theorem dX10_unit_239 : decode cX10_unit 239 = .ok (.if_icmp .ne 8, 3) := by decide +kernel
theorem dX10_unit_242 : decode cX10_unit 242 = .ok (.aload_n 0, 1) := by decide +kernel
theorem dX10_unit_243 : decode cX10_unit 243 = .ok (.invokevirtual 182, 3) := by decide +kernel
theorem dX10_unit_246 : decode cX10_unit 246 = .ok (.return_, 1) := by decide +kernel
theorem dX10_unit_247 : decode cX10_unit 247 = .ok (.bipush 10, 2) := by decide +kernel
theorem dX10_unit_249 : decode cX10_unit 249 = .ok (.iload 4, 2) := by decide +kernel
theorem dX10_unit_251 : decode cX10_unit 251 = .ok (.imul, 1) := by decide +kernel
theorem dX10_unit_252 : decode cX10_unit 252 = .ok (.aload_n 0, 1) := by decide +kernel
theorem dX10_unit_253 : decode cX10_unit 253 = .ok (.getfield 65, 3) := by decide +kernel
theorem dX10_unit_256 : decode cX10_unit 256 = .ok (.aload_n 0, 1) := by decide +kernel
theorem dX10_unit_257 : decode cX10_unit 257 = .ok (.getfield 163, 3) := by decide +kernel
theorem dX10_unit_260 : decode cX10_unit 260 = .ok (.iaload, 1) := by decide +kernel
theorem dX10_unit_261 : decode cX10_unit 261 = .ok (.iadd, 1) := by decide +kernel
theorem dX10_unit_262 : decode cX10_unit 262 = .ok (.bipush 48, 2) := by decide +kernel
theorem dX10_unit_264 : decode cX10_unit 264 = .ok (.isub, 1) := by decide +kernel
theorem dX10_unit_265 : decode cX10_unit 265 = .ok (.istore 4, 2) := by decide +kernel
theorem dX10_unit_267 : decode cX10_unit 267 = .ok (.iinc 5 1, 3) := by decide +kernel
theorem dX10_unit_270 : decode cX10_unit 270 = .ok (.aload_n 0, 1) := by decide +kernel
theorem dX10_unit_271 : decode cX10_unit 271 = .ok (.dup, 1) := by decide +kernel
theorem dX10_unit_272 : decode cX10_unit 272 = .ok (.getfield 163, 3) := by decide +kernel
theorem dX10_unit_275 : decode cX10_unit 275 = .ok (.iconst 1, 1) := by decide +kernel
theorem dX10_unit_276 : decode cX10_unit 276 = .ok (.iadd, 1) := by decide +kernel
theorem dX10_unit_277 : decode cX10_unit 277 = .ok (.putfield 163, 3) := by decide +kernel
theorem dX10_unit_280 : decode cX10_unit 280 = .ok (.goto (-83), 3) := by decide +kernel
theorem dX10_unit_283 : decode cX10_unit 283 = .ok (.aload_n 0, 1) := by decide +kernel
theorem dX10_unit_284 : decode cX10_unit 284 = .ok (.iconst 0, 1) := by decide +kernel
theorem dX10_unit_285 : decode cX10_unit 285 = .ok (.invokevirtual 185, 3) := by decide +kernel
theorem dX10_unit_288 : decode cX10_unit 288 = .ok (.aload_n 0, 1) := by decide +kernel
theorem dX10_unit_289 : decode cX10_unit 289 = .ok (.iload_n 1, 1) := by decide +kernel
theorem dX10_unit_290 : decode cX10_unit 290 = .ok (.invokevirtual 185, 3) := by decide +kernel
theorem dX10_unit_293 : decode cX10_unit 293 = .ok (.aload_n 0, 1) := by decide +kernel
theorem dX10_unit_294 : decode cX10_unit 294 = .ok (.iload_n 2, 1) := by decide +kernel
theorem dX10_unit_295 : decode cX10_unit 295 = .ok (.invokevirtual 185, 3) := by decide +kernel
theorem dX10_unit_298 : decode cX10_unit 298 = .ok (.aload_n 0, 1) := by decide +kernel
theorem dX10_unit_299 : decode cX10_unit 299 = .ok (.iload 4, 2) := by decide +kernel
theorem dX10_unit_301 : decode cX10_unit 301 = .ok (.invokevirtual 185, 3) := by decide +kernel
theorem dX10_unit_304 : decode cX10_unit 304 = .ok (.return_, 1) := by decide +kernel
theorem dX10_part_0 : decode cX10_part 0 = .ok (.aload_n 0, 1) := by decide +kernel
theorem dX10_part_1 : decode cX10_part 1 = .ok (.invokevirtual 189, 3) := by decide +kernel
theorem dX10_part_4 : decode cX10_part 4 = .ok (.aload_n 0, 1) := by decide +kernel
theorem dX10_part_5 : decode cX10_part 5 = .ok (.getfield 166, 3) := by decide +kernel
theorem dX10_part_8 : decode cX10_part 8 = .ok (.iconst (-1), 1) := by decide +kernel
theorem dX10_part_9 : decode cX10_part 9 = .ok (.if_icmp .ne 34, 3) := by decide +kernel
theorem dX10_part_12 : decode cX10_part 12 = .ok (.aload_n 0, 1) := by decide +kernel
theorem dX10_part_13 : decode cX10_part 13 = .ok (.invokevirtual 172, 3) := by decide +kernel
theorem dX10_part_16 : decode cX10_part 16 = .ok (.bipush 38, 2) := by decide +kernel
theorem dX10_part_18 : decode cX10_part 18 = .ok (.if_icmp .ne 25, 3) := by decide +kernel
theorem dX10_part_21 : decode cX10_part 21 = .ok (.aload_n 0, 1) := by decide +kernel
theorem dX10_part_22 : decode cX10_part 22 = .ok (.dup, 1) := by decide +kernel
theorem dX10_part_23 : decode cX10_part 23 = .ok (.getfield 163, 3) := by decide +kernel
theorem dX10_part_26 : decode cX10_part 26 = .ok (.iconst 1, 1) := by decide +kernel
theorem dX10_part_27 : decode cX10_part 27 = .ok (.iadd, 1) := by decide +kernel
theorem dX10_part_28 : decode cX10_part 28 = .ok (.putfield 163, 3) := by decide +kernel
theorem dX10_part_31 : decode cX10_part 31 = .ok (.aload_n 0, 1) := by decide +kernel
theorem dX10_part_32 : decode cX10_part 32 = .ok (.invokevirtual 189, 3) := by decide +kernel
theorem dX10_part_35 : decode cX10_part 35 = .ok (.aload_n 0, 1) := by decide +kernel
theorem dX10_part_36 : decode cX10_part 36 = .ok (.iconst 1, 1) := by decide +kernel
theorem dX10_part_37 : decode cX10_part 37 = .ok (.invokevirtual 185, 3) := by decide +kernel
theorem dX10_part_40 : decode cX10_part 40 = .ok (.goto (-36), 3) := by decide +kernel
theorem dX10_part_43 : decode cX10_part 43 = .ok (.return_, 1) := by decide +kernel
theorem dX10_tests_0 : decode cX10_tests 0 = .ok (.aload_n 0, 1) := by decide +kernel
theorem dX10_tests_1 : decode cX10_tests 1 = .ok (.invokevirtual 192, 3) := by decide +kernel
theorem dX10_tests_4 : decode cX10_tests 4 = .ok (.aload_n 0, 1) := by decide +kernel
theorem dX10_tests_5 : decode cX10_tests 5 = .ok (.getfield 166, 3) := by decide +kernel
theorem dX10_tests_8 : decode cX10_tests 8 = .ok (.iconst (-1), 1) := by decide +kernel
theorem dX10_tests_9 : decode cX10_tests 9 = .ok (.if_icmp .ne 34, 3) := by decide +kernel
theorem dX10_tests_12 : decode cX10_tests 12 = .ok (.aload_n 0, 1) := by decide +kernel
theorem dX10_tests_13 : decode cX10_tests 13 = .ok (.invokevirtual 172, 3) := by decide +kernel
theorem dX10_tests_16 : decode cX10_tests 16 = .ok (.bipush 124, 2) := by decide +kernel
theorem dX10_tests_18 : decode cX10_tests 18 = .ok (.if_icmp .ne 25, 3) := by decide +kernel
theorem dX10_tests_21 : decode cX10_tests 21 = .ok (.aload_n 0, 1) := by decide +kernel
theorem dX10_tests_22 : decode cX10_tests 22 = .ok (.dup, 1) := by decide +kernel
theorem dX10_tests_23 : decode cX10_tests 23 = .ok (.getfield 163, 3) := by decide +kernel
theorem dX10_tests_26 : decode cX10_tests 26 = .ok (.iconst 1, 1) := by decide +kernel
theorem dX10_tests_27 : decode cX10_tests 27 = .ok (.iadd, 1) := by decide +kernel
theorem dX10_tests_28 : decode cX10_tests 28 = .ok (.putfield 163, 3) := by decide +kernel
theorem dX10_tests_31 : decode cX10_tests 31 = .ok (.aload_n 0, 1) := by decide +kernel
theorem dX10_tests_32 : decode cX10_tests 32 = .ok (.invokevirtual 192, 3) := by decide +kernel
theorem dX10_tests_35 : decode cX10_tests 35 = .ok (.aload_n 0, 1) := by decide +kernel
theorem dX10_tests_36 : decode cX10_tests 36 = .ok (.iconst 2, 1) := by decide +kernel
theorem dX10_tests_37 : decode cX10_tests 37 = .ok (.invokevirtual 185, 3) := by decide +kernel
theorem dX10_tests_40 : decode cX10_tests 40 = .ok (.goto (-36), 3) := by decide +kernel
theorem dX10_tests_43 : decode cX10_tests 43 = .ok (.return_, 1) := by decide +kernel
theorem dX10_fault_0 : decode cX10_fault 0 = .ok (.aload_n 0, 1) := by decide +kernel
theorem dX10_fault_1 : decode cX10_fault 1 = .ok (.iconst 0, 1) := by decide +kernel
theorem dX10_fault_2 : decode cX10_fault 2 = .ok (.putfield 163, 3) := by decide +kernel
theorem dX10_fault_5 : decode cX10_fault 5 = .ok (.aload_n 0, 1) := by decide +kernel
theorem dX10_fault_6 : decode cX10_fault 6 = .ok (.iconst (-1), 1) := by decide +kernel
theorem dX10_fault_7 : decode cX10_fault 7 = .ok (.putfield 166, 3) := by decide +kernel
theorem dX10_fault_10 : decode cX10_fault 10 = .ok (.aload_n 0, 1) := by decide +kernel
theorem dX10_fault_11 : decode cX10_fault 11 = .ok (.iconst 0, 1) := by decide +kernel
theorem dX10_fault_12 : decode cX10_fault 12 = .ok (.putfield 176, 3) := by decide +kernel
theorem dX10_fault_15 : decode cX10_fault 15 = .ok (.aload_n 0, 1) := by decide +kernel
theorem dX10_fault_16 : decode cX10_fault 16 = .ok (.iconst 0, 1) := by decide +kernel
theorem dX10_fault_17 : decode cX10_fault 17 = .ok (.putfield 169, 3) := by decide +kernel
theorem dX10_fault_20 : decode cX10_fault 20 = .ok (.aload_n 0, 1) := by decide +kernel
theorem dX10_fault_21 : decode cX10_fault 21 = .ok (.invokevirtual 179, 3) := by decide +kernel
theorem dX10_fault_24 : decode cX10_fault 24 = .ok (.aload_n 0, 1) := by decide +kernel
theorem dX10_fault_25 : decode cX10_fault 25 = .ok (.getfield 166, 3) := by decide +kernel
theorem dX10_fault_28 : decode cX10_fault 28 = .ok (.iconst (-1), 1) := by decide +kernel
theorem dX10_fault_29 : decode cX10_fault 29 = .ok (.if_icmp .ne 15, 3) := by decide +kernel
theorem dX10_fault_32 : decode cX10_fault 32 = .ok (.aload_n 0, 1) := by decide +kernel
theorem dX10_fault_33 : decode cX10_fault 33 = .ok (.invokevirtual 172, 3) := by decide +kernel
theorem dX10_fault_36 : decode cX10_fault 36 = .ok (.iconst (-1), 1) := by decide +kernel
theorem dX10_fault_37 : decode cX10_fault 37 = .ok (.if_icmp .eq 7, 3) := by decide +kernel
theorem dX10_fault_40 : decode cX10_fault 40 = .ok (.aload_n 0, 1) := by decide +kernel
theorem dX10_fault_41 : decode cX10_fault 41 = .ok (.invokevirtual 182, 3) := by decide +kernel
theorem dX10_fault_44 : decode cX10_fault 44 = .ok (.aload_n 0, 1) := by decide +kernel
theorem dX10_fault_45 : decode cX10_fault 45 = .ok (.getfield 166, 3) := by decide +kernel
theorem dX10_fault_48 : decode cX10_fault 48 = .ok (.ireturn, 1) := by decide +kernel
theorem dX10_rule_0 : decode cX10_rule 0 = .ok (.aload_n 0, 1) := by decide +kernel
theorem dX10_rule_1 : decode cX10_rule 1 = .ok (.invokevirtual 195, 3) := by decide +kernel
theorem dX10_rule_4 : decode cX10_rule 4 = .ok (.iconst (-1), 1) := by decide +kernel
theorem dX10_rule_5 : decode cX10_rule 5 = .ok (.if_icmp .eq 5, 3) := by decide +kernel
theorem dX10_rule_8 : decode cX10_rule 8 = .ok (.iconst 0, 1) := by decide +kernel
theorem dX10_rule_9 : decode cX10_rule 9 = .ok (.ireturn, 1) := by decide +kernel
theorem dX10_rule_10 : decode cX10_rule 10 = .ok (.aload_n 0, 1) := by decide +kernel
theorem dX10_rule_11 : decode cX10_rule 11 = .ok (.iconst 3, 1) := by decide +kernel
theorem dX10_rule_12 : decode cX10_rule 12 = .ok (.invokevirtual 185, 3) := by decide +kernel
theorem dX10_rule_15 : decode cX10_rule 15 = .ok (.iconst 0, 1) := by decide +kernel
theorem dX10_rule_16 : decode cX10_rule 16 = .ok (.istore_n 1, 1) := by decide +kernel
theorem dX10_rule_17 : decode cX10_rule 17 = .ok (.iload_n 1, 1) := by decide +kernel
theorem dX10_rule_18 : decode cX10_rule 18 = .ok (.aload_n 0, 1) := by decide +kernel
theorem dX10_rule_19 : decode cX10_rule 19 = .ok (.getfield 169, 3) := by decide +kernel
theorem dX10_rule_22 : decode cX10_rule 22 = .ok (.if_icmp .ge 21, 3) := by decide +kernel
theorem dX10_rule_25 : decode cX10_rule 25 = .ok (.aload_n 0, 1) := by decide +kernel
theorem dX10_rule_26 : decode cX10_rule 26 = .ok (.getfield 68, 3) := by decide +kernel
theorem dX10_rule_29 : decode cX10_rule 29 = .ok (.iload_n 1, 1) := by decide +kernel
theorem dX10_rule_30 : decode cX10_rule 30 = .ok (.aload_n 0, 1) := by decide +kernel
theorem dX10_rule_31 : decode cX10_rule 31 = .ok (.getfield 71, 3) := by decide +kernel
theorem dX10_rule_34 : decode cX10_rule 34 = .ok (.iload_n 1, 1) := by decide +kernel
theorem dX10_rule_35 : decode cX10_rule 35 = .ok (.iaload, 1) := by decide +kernel
theorem dX10_rule_36 : decode cX10_rule 36 = .ok (.iastore, 1) := by decide +kernel
theorem dX10_rule_37 : decode cX10_rule 37 = .ok (.iinc 1 1, 3) := by decide +kernel
theorem dX10_rule_40 : decode cX10_rule 40 = .ok (.goto (-23), 3) := by decide +kernel
theorem dX10_rule_43 : decode cX10_rule 43 = .ok (.aload_n 0, 1) := by decide +kernel
theorem dX10_rule_44 : decode cX10_rule 44 = .ok (.dup, 1) := by decide +kernel
theorem dX10_rule_45 : decode cX10_rule 45 = .ok (.getfield 198, 3) := by decide +kernel
theorem dX10_rule_48 : decode cX10_rule 48 = .ok (.iconst 1, 1) := by decide +kernel
theorem dX10_rule_49 : decode cX10_rule 49 = .ok (.iadd, 1) := by decide +kernel
theorem dX10_rule_50 : decode cX10_rule 50 = .ok (.putfield 198, 3) := by decide +kernel
theorem dX10_rule_53 : decode cX10_rule 53 = .ok (.aload_n 0, 1) := by decide +kernel
theorem dX10_rule_54 : decode cX10_rule 54 = .ok (.iconst 0, 1) := by decide +kernel
theorem dX10_rule_55 : decode cX10_rule 55 = .ok (.putfield 160, 3) := by decide +kernel
theorem dX10_rule_58 : decode cX10_rule 58 = .ok (.iconst 1, 1) := by decide +kernel
theorem dX10_rule_59 : decode cX10_rule 59 = .ok (.ireturn, 1) := by decide +kernel
theorem dX10_holds_0 : decode cX10_holds 0 = .ok (.iconst 0, 1) := by decide +kernel
theorem dX10_holds_1 : decode cX10_holds 1 = .ok (.istore 6, 2) := by decide +kernel
theorem dX10_holds_3 : decode cX10_holds 3 = .ok (.iconst 0, 1) := by decide +kernel
theorem dX10_holds_4 : decode cX10_holds 4 = .ok (.istore 7, 2) := by decide +kernel
theorem dX10_holds_6 : decode cX10_holds 6 = .ok (.aload_n 0, 1) := by decide +kernel
theorem dX10_holds_7 : decode cX10_holds 7 = .ok (.getfield 68, 3) := by decide +kernel
theorem dX10_holds_10 : decode cX10_holds 10 = .ok (.iload 6, 2) := by decide +kernel
theorem dX10_holds_12 : decode cX10_holds 12 = .ok (.iaload, 1) := by decide +kernel
theorem dX10_holds_13 : decode cX10_holds 13 = .ok (.iconst 3, 1) := by decide +kernel
theorem dX10_holds_14 : decode cX10_holds 14 = .ok (.if_icmp .eq 256, 3) := by decide +kernel
theorem dX10_holds_17 : decode cX10_holds 17 = .ok (.aload_n 0, 1) := by decide +kernel
theorem dX10_holds_18 : decode cX10_holds 18 = .ok (.getfield 68, 3) := by decide +kernel
theorem dX10_holds_21 : decode cX10_holds 21 = .ok (.iload 6, 2) := by decide +kernel
theorem dX10_holds_23 : decode cX10_holds 23 = .ok (.iaload, 1) := by decide +kernel
theorem dX10_holds_24 : decode cX10_holds 24 = .ok (.ifCond .ne 160, 3) := by decide +kernel
theorem dX10_holds_27 : decode cX10_holds 27 = .ok (.aload_n 0, 1) := by decide +kernel
theorem dX10_holds_28 : decode cX10_holds 28 = .ok (.getfield 68, 3) := by decide +kernel
theorem dX10_holds_31 : decode cX10_holds 31 = .ok (.iload 6, 2) := by decide +kernel
theorem dX10_holds_33 : decode cX10_holds 33 = .ok (.iconst 1, 1) := by decide +kernel
theorem dX10_holds_34 : decode cX10_holds 34 = .ok (.iadd, 1) := by decide +kernel
theorem dX10_holds_35 : decode cX10_holds 35 = .ok (.iaload, 1) := by decide +kernel
theorem dX10_holds_36 : decode cX10_holds 36 = .ok (.istore 8, 2) := by decide +kernel
theorem dX10_holds_38 : decode cX10_holds 38 = .ok (.iload 8, 2) := by decide +kernel
theorem dX10_holds_40 : decode cX10_holds 40 = .ok (.bipush 111, 2) := by decide +kernel
theorem dX10_holds_42 : decode cX10_holds 42 = .ok (.if_icmp .ne 7, 3) := by decide +kernel
theorem dX10_holds_45 : decode cX10_holds 45 = .ok (.iload_n 1, 1) := by decide +kernel
theorem dX10_holds_46 : decode cX10_holds 46 = .ok (.goto 39, 3) := by decide +kernel
theorem dX10_holds_49 : decode cX10_holds 49 = .ok (.iload 8, 2) := by decide +kernel
theorem dX10_holds_51 : decode cX10_holds 51 = .ok (.bipush 102, 2) := by decide +kernel
theorem dX10_holds_53 : decode cX10_holds 53 = .ok (.if_icmp .ne 7, 3) := by decide +kernel
theorem dX10_holds_56 : decode cX10_holds 56 = .ok (.iload_n 2, 1) := by decide +kernel
theorem dX10_holds_57 : decode cX10_holds 57 = .ok (.goto 28, 3) := by decide +kernel
theorem dX10_holds_60 : decode cX10_holds 60 = .ok (.iload 8, 2) := by decide +kernel
theorem dX10_holds_62 : decode cX10_holds 62 = .ok (.bipush 119, 2) := by decide +kernel
theorem dX10_holds_64 : decode cX10_holds 64 = .ok (.if_icmp .ne 7, 3) := by decide +kernel
theorem dX10_holds_67 : decode cX10_holds 67 = .ok (.iload_n 3, 1) := by decide +kernel
theorem dX10_holds_68 : decode cX10_holds 68 = .ok (.goto 17, 3) := by decide +kernel
theorem dX10_holds_71 : decode cX10_holds 71 = .ok (.iload 8, 2) := by decide +kernel
theorem dX10_holds_73 : decode cX10_holds 73 = .ok (.bipush 99, 2) := by decide +kernel
theorem dX10_holds_75 : decode cX10_holds 75 = .ok (.if_icmp .ne 8, 3) := by decide +kernel
theorem dX10_holds_78 : decode cX10_holds 78 = .ok (.iload 4, 2) := by decide +kernel
theorem dX10_holds_80 : decode cX10_holds 80 = .ok (.goto 5, 3) := by decide +kernel
theorem dX10_holds_83 : decode cX10_holds 83 = .ok (.iload 5, 2) := by decide +kernel
theorem dX10_holds_85 : decode cX10_holds 85 = .ok (.istore 9, 2) := by decide +kernel
theorem dX10_holds_87 : decode cX10_holds 87 = .ok (.aload_n 0, 1) := by decide +kernel
theorem dX10_holds_88 : decode cX10_holds 88 = .ok (.getfield 68, 3) := by decide +kernel
theorem dX10_holds_91 : decode cX10_holds 91 = .ok (.iload 6, 2) := by decide +kernel
theorem dX10_holds_93 : decode cX10_holds 93 = .ok (.iconst 3, 1) := by decide +kernel
theorem dX10_holds_94 : decode cX10_holds 94 = .ok (.iadd, 1) := by decide +kernel
theorem dX10_holds_95 : decode cX10_holds 95 = .ok (.iaload, 1) := by decide +kernel
theorem dX10_holds_96 : decode cX10_holds 96 = .ok (.istore 10, 2) := by decide +kernel
theorem dX10_holds_98 : decode cX10_holds 98 = .ok (.aload_n 0, 1) := by decide +kernel
theorem dX10_holds_99 : decode cX10_holds 99 = .ok (.getfield 74, 3) := by decide +kernel
theorem dX10_holds_102 : decode cX10_holds 102 = .ok (.iload 7, 2) := by decide +kernel
theorem dX10_holds_104 : decode cX10_holds 104 = .ok (.aload_n 0, 1) := by decide +kernel
theorem dX10_holds_105 : decode cX10_holds 105 = .ok (.getfield 68, 3) := by decide +kernel
theorem dX10_holds_108 : decode cX10_holds 108 = .ok (.iload 6, 2) := by decide +kernel
theorem dX10_holds_110 : decode cX10_holds 110 = .ok (.iconst 2, 1) := by decide +kernel
theorem dX10_holds_111 : decode cX10_holds 111 = .ok (.iadd, 1) := by decide +kernel
theorem dX10_holds_112 : decode cX10_holds 112 = .ok (.iaload, 1) := by decide +kernel
theorem dX10_holds_113 : decode cX10_holds 113 = .ok (.bipush 61, 2) := by decide +kernel
theorem dX10_holds_115 : decode cX10_holds 115 = .ok (.if_icmp .ne 18, 3) := by decide +kernel
theorem dX10_holds_118 : decode cX10_holds 118 = .ok (.iload 9, 2) := by decide +kernel
theorem dX10_holds_120 : decode cX10_holds 120 = .ok (.iload 10, 2) := by decide +kernel
theorem dX10_holds_122 : decode cX10_holds 122 = .ok (.if_icmp .ne 7, 3) := by decide +kernel
theorem dX10_holds_125 : decode cX10_holds 125 = .ok (.iconst 1, 1) := by decide +kernel
theorem dX10_holds_126 : decode cX10_holds 126 = .ok (.goto 48, 3) := by decide +kernel
theorem dX10_holds_129 : decode cX10_holds 129 = .ok (.iconst 0, 1) := by decide +kernel
theorem dX10_holds_130 : decode cX10_holds 130 = .ok (.goto 44, 3) := by decide +kernel
theorem dX10_holds_133 : decode cX10_holds 133 = .ok (.aload_n 0, 1) := by decide +kernel
theorem dX10_holds_134 : decode cX10_holds 134 = .ok (.getfield 68, 3) := by decide +kernel
theorem dX10_holds_137 : decode cX10_holds 137 = .ok (.iload 6, 2) := by decide +kernel
theorem dX10_holds_139 : decode cX10_holds 139 = .ok (.iconst 2, 1) := by decide +kernel
theorem dX10_holds_140 : decode cX10_holds 140 = .ok (.iadd, 1) := by decide +kernel
theorem dX10_holds_141 : decode cX10_holds 141 = .ok (.iaload, 1) := by decide +kernel
theorem dX10_holds_142 : decode cX10_holds 142 = .ok (.bipush 60, 2) := by decide +kernel
theorem dX10_holds_144 : decode cX10_holds 144 = .ok (.if_icmp .ne 18, 3) := by decide +kernel
theorem dX10_holds_147 : decode cX10_holds 147 = .ok (.iload 9, 2) := by decide +kernel
theorem dX10_holds_149 : decode cX10_holds 149 = .ok (.iload 10, 2) := by decide +kernel
theorem dX10_holds_151 : decode cX10_holds 151 = .ok (.if_icmp .ge 7, 3) := by decide +kernel
theorem dX10_holds_154 : decode cX10_holds 154 = .ok (.iconst 1, 1) := by decide +kernel
theorem dX10_holds_155 : decode cX10_holds 155 = .ok (.goto 19, 3) := by decide +kernel
theorem dX10_holds_158 : decode cX10_holds 158 = .ok (.iconst 0, 1) := by decide +kernel
theorem dX10_holds_159 : decode cX10_holds 159 = .ok (.goto 15, 3) := by decide +kernel
theorem dX10_holds_162 : decode cX10_holds 162 = .ok (.iload 9, 2) := by decide +kernel
theorem dX10_holds_164 : decode cX10_holds 164 = .ok (.iload 10, 2) := by decide +kernel
theorem dX10_holds_166 : decode cX10_holds 166 = .ok (.if_icmp .le 7, 3) := by decide +kernel
theorem dX10_holds_169 : decode cX10_holds 169 = .ok (.iconst 1, 1) := by decide +kernel
theorem dX10_holds_170 : decode cX10_holds 170 = .ok (.goto 4, 3) := by decide +kernel
theorem dX10_holds_173 : decode cX10_holds 173 = .ok (.iconst 0, 1) := by decide +kernel
theorem dX10_holds_174 : decode cX10_holds 174 = .ok (.bastore, 1) := by decide +kernel
theorem dX10_holds_175 : decode cX10_holds 175 = .ok (.iinc 7 1, 3) := by decide +kernel
theorem dX10_holds_178 : decode cX10_holds 178 = .ok (.iinc 6 4, 3) := by decide +kernel
theorem dX10_holds_181 : decode cX10_holds 181 = .ok (.goto (-175), 3) := by decide +kernel
theorem dX10_holds_184 : decode cX10_holds 184 = .ok (.iinc 7 (-1), 3) := by decide +kernel
theorem dX10_holds_187 : decode cX10_holds 187 = .ok (.aload_n 0, 1) := by decide +kernel
theorem dX10_holds_188 : decode cX10_holds 188 = .ok (.getfield 74, 3) := by decide +kernel
theorem dX10_holds_191 : decode cX10_holds 191 = .ok (.iload 7, 2) := by decide +kernel
theorem dX10_holds_193 : decode cX10_holds 193 = .ok (.iconst 1, 1) := by decide +kernel
theorem dX10_holds_194 : decode cX10_holds 194 = .ok (.isub, 1) := by decide +kernel
theorem dX10_holds_195 : decode cX10_holds 195 = .ok (.aload_n 0, 1) := by decide +kernel
theorem dX10_holds_196 : decode cX10_holds 196 = .ok (.getfield 68, 3) := by decide +kernel
theorem dX10_holds_199 : decode cX10_holds 199 = .ok (.iload 6, 2) := by decide +kernel
theorem dX10_holds_201 : decode cX10_holds 201 = .ok (.iaload, 1) := by decide +kernel
theorem dX10_holds_202 : decode cX10_holds 202 = .ok (.iconst 1, 1) := by decide +kernel
theorem dX10_holds_203 : decode cX10_holds 203 = .ok (.if_icmp .ne 33, 3) := by decide +kernel
theorem dX10_holds_206 : decode cX10_holds 206 = .ok (.aload_n 0, 1) := by decide +kernel
theorem dX10_holds_207 : decode cX10_holds 207 = .ok (.getfield 74, 3) := by decide +kernel
theorem dX10_holds_210 : decode cX10_holds 210 = .ok (.iload 7, 2) := by decide +kernel
theorem dX10_holds_212 : decode cX10_holds 212 = .ok (.iconst 1, 1) := by decide +kernel
theorem dX10_holds_213 : decode cX10_holds 213 = .ok (.isub, 1) := by decide +kernel
theorem dX10_holds_214 : decode cX10_holds 214 = .ok (.baload, 1) := by decide +kernel
theorem dX10_holds_215 : decode cX10_holds 215 = .ok (.ifCond .eq 17, 3) := by decide +kernel
theorem dX10_holds_218 : decode cX10_holds 218 = .ok (.aload_n 0, 1) := by decide +kernel
theorem dX10_holds_219 : decode cX10_holds 219 = .ok (.getfield 74, 3) := by decide +kernel
theorem dX10_holds_222 : decode cX10_holds 222 = .ok (.iload 7, 2) := by decide +kernel
theorem dX10_holds_224 : decode cX10_holds 224 = .ok (.baload, 1) := by decide +kernel
theorem dX10_holds_225 : decode cX10_holds 225 = .ok (.ifCond .eq 7, 3) := by decide +kernel
theorem dX10_holds_228 : decode cX10_holds 228 = .ok (.iconst 1, 1) := by decide +kernel
theorem dX10_holds_229 : decode cX10_holds 229 = .ok (.goto 34, 3) := by decide +kernel
theorem dX10_holds_232 : decode cX10_holds 232 = .ok (.iconst 0, 1) := by decide +kernel
theorem dX10_holds_233 : decode cX10_holds 233 = .ok (.goto 30, 3) := by decide +kernel
theorem dX10_holds_236 : decode cX10_holds 236 = .ok (.aload_n 0, 1) := by decide +kernel
theorem dX10_holds_237 : decode cX10_holds 237 = .ok (.getfield 74, 3) := by decide +kernel
theorem dX10_holds_240 : decode cX10_holds 240 = .ok (.iload 7, 2) := by decide +kernel
theorem dX10_holds_242 : decode cX10_holds 242 = .ok (.iconst 1, 1) := by decide +kernel
theorem dX10_holds_243 : decode cX10_holds 243 = .ok (.isub, 1) := by decide +kernel
theorem dX10_holds_244 : decode cX10_holds 244 = .ok (.baload, 1) := by decide +kernel
theorem dX10_holds_245 : decode cX10_holds 245 = .ok (.ifCond .ne 13, 3) := by decide +kernel
theorem dX10_holds_248 : decode cX10_holds 248 = .ok (.aload_n 0, 1) := by decide +kernel
theorem dX10_holds_249 : decode cX10_holds 249 = .ok (.getfield 74, 3) := by decide +kernel
theorem dX10_holds_252 : decode cX10_holds 252 = .ok (.iload 7, 2) := by decide +kernel
theorem dX10_holds_254 : decode cX10_holds 254 = .ok (.baload, 1) := by decide +kernel
theorem dX10_holds_255 : decode cX10_holds 255 = .ok (.ifCond .eq 7, 3) := by decide +kernel
theorem dX10_holds_258 : decode cX10_holds 258 = .ok (.iconst 1, 1) := by decide +kernel
theorem dX10_holds_259 : decode cX10_holds 259 = .ok (.goto 4, 3) := by decide +kernel
theorem dX10_holds_262 : decode cX10_holds 262 = .ok (.iconst 0, 1) := by decide +kernel
theorem dX10_holds_263 : decode cX10_holds 263 = .ok (.bastore, 1) := by decide +kernel
theorem dX10_holds_264 : decode cX10_holds 264 = .ok (.iinc 6 1, 3) := by decide +kernel
theorem dX10_holds_267 : decode cX10_holds 267 = .ok (.goto (-261), 3) := by decide +kernel
theorem dX10_holds_270 : decode cX10_holds 270 = .ok (.aload_n 0, 1) := by decide +kernel
theorem dX10_holds_271 : decode cX10_holds 271 = .ok (.getfield 74, 3) := by decide +kernel
theorem dX10_holds_274 : decode cX10_holds 274 = .ok (.iconst 0, 1) := by decide +kernel
theorem dX10_holds_275 : decode cX10_holds 275 = .ok (.baload, 1) := by decide +kernel
theorem dX10_holds_276 : decode cX10_holds 276 = .ok (.ireturn, 1) := by decide +kernel
theorem dX10_isOpen_0 : decode cX10_isOpen 0 = .ok (.aload_n 0, 1) := by decide +kernel
theorem dX10_isOpen_1 : decode cX10_isOpen 1 = .ok (.iload_n 1, 1) := by decide +kernel
theorem dX10_isOpen_2 : decode cX10_isOpen 2 = .ok (.aload_n 0, 1) := by decide +kernel
theorem dX10_isOpen_3 : decode cX10_isOpen 3 = .ok (.getfield 81, 3) := by decide +kernel
theorem dX10_isOpen_6 : decode cX10_isOpen 6 = .ok (.aload_n 0, 1) := by decide +kernel
theorem dX10_isOpen_7 : decode cX10_isOpen 7 = .ok (.getfield 81, 3) := by decide +kernel
theorem dX10_isOpen_10 : decode cX10_isOpen 10 = .ok (.invokevirtual 110, 3) := by decide +kernel
theorem dX10_isOpen_13 : decode cX10_isOpen 13 = .ok (.istore_n 2, 1) := by decide +kernel
theorem dX10_isOpen_14 : decode cX10_isOpen 14 = .ok (.iload_n 2, 1) := by decide +kernel
theorem dX10_isOpen_15 : decode cX10_isOpen 15 = .ok (.bipush 14, 2) := by decide +kernel
theorem dX10_isOpen_17 : decode cX10_isOpen 17 = .ok (.if_icmp .eq 13, 3) := by decide +kernel
theorem dX10_isOpen_20 : decode cX10_isOpen 20 = .ok (.iload_n 2, 1) := by decide +kernel
theorem dX10_isOpen_21 : decode cX10_isOpen 21 = .ok (.bipush 15, 2) := by decide +kernel
theorem dX10_isOpen_23 : decode cX10_isOpen 23 = .ok (.if_icmp .eq 7, 3) := by decide +kernel
theorem dX10_isOpen_26 : decode cX10_isOpen 26 = .ok (.iconst 1, 1) := by decide +kernel
theorem dX10_isOpen_27 : decode cX10_isOpen 27 = .ok (.goto 4, 3) := by decide +kernel
theorem dX10_isOpen_30 : decode cX10_isOpen 30 = .ok (.iconst 0, 1) := by decide +kernel
theorem dX10_isOpen_31 : decode cX10_isOpen 31 = .ok (.ireturn, 1) := by decide +kernel
theorem dX10_agreeing_0 : decode cX10_agreeing 0 = .ok (.aload_n 0, 1) := by decide +kernel
theorem dX10_agreeing_1 : decode cX10_agreeing 1 = .ok (.getfield 19, 3) := by decide +kernel
theorem dX10_agreeing_4 : decode cX10_agreeing 4 = .ok (.iload_n 1, 1) := by decide +kernel
theorem dX10_agreeing_5 : decode cX10_agreeing 5 = .ok (.iaload, 1) := by decide +kernel
theorem dX10_agreeing_6 : decode cX10_agreeing 6 = .ok (.iload_n 2, 1) := by decide +kernel
theorem dX10_agreeing_7 : decode cX10_agreeing 7 = .ok (.iload_n 3, 1) := by decide +kernel
theorem dX10_agreeing_8 : decode cX10_agreeing 8 = .ok (.invokestatic 77, 3) := by decide +kernel
theorem dX10_agreeing_11 : decode cX10_agreeing 11 = .ok (.ifCond .eq 7, 3) := by decide +kernel
theorem dX10_agreeing_14 : decode cX10_agreeing 14 = .ok (.iconst 1, 1) := by decide +kernel
theorem dX10_agreeing_15 : decode cX10_agreeing 15 = .ok (.goto 4, 3) := by decide +kernel
theorem dX10_agreeing_18 : decode cX10_agreeing 18 = .ok (.iconst 0, 1) := by decide +kernel
theorem dX10_agreeing_19 : decode cX10_agreeing 19 = .ok (.iload 4, 2) := by decide +kernel
theorem dX10_agreeing_21 : decode cX10_agreeing 21 = .ok (.aload_n 0, 1) := by decide +kernel
theorem dX10_agreeing_22 : decode cX10_agreeing 22 = .ok (.getfield 22, 3) := by decide +kernel
theorem dX10_agreeing_25 : decode cX10_agreeing 25 = .ok (.iload_n 1, 1) := by decide +kernel
theorem dX10_agreeing_26 : decode cX10_agreeing 26 = .ok (.iaload, 1) := by decide +kernel
theorem dX10_agreeing_27 : decode cX10_agreeing 27 = .ok (.if_icmp .ne 7, 3) := by decide +kernel
theorem dX10_agreeing_30 : decode cX10_agreeing 30 = .ok (.iconst 1, 1) := by decide +kernel
theorem dX10_agreeing_31 : decode cX10_agreeing 31 = .ok (.goto 4, 3) := by decide +kernel
theorem dX10_agreeing_34 : decode cX10_agreeing 34 = .ok (.iconst 0, 1) := by decide +kernel
theorem dX10_agreeing_35 : decode cX10_agreeing 35 = .ok (.iadd, 1) := by decide +kernel
theorem dX10_agreeing_36 : decode cX10_agreeing 36 = .ok (.iload 5, 2) := by decide +kernel
theorem dX10_agreeing_38 : decode cX10_agreeing 38 = .ok (.aload_n 0, 1) := by decide +kernel
theorem dX10_agreeing_39 : decode cX10_agreeing 39 = .ok (.getfield 25, 3) := by decide +kernel
theorem dX10_agreeing_42 : decode cX10_agreeing 42 = .ok (.iload_n 1, 1) := by decide +kernel
theorem dX10_agreeing_43 : decode cX10_agreeing 43 = .ok (.iaload, 1) := by decide +kernel
theorem dX10_agreeing_44 : decode cX10_agreeing 44 = .ok (.if_icmp .ne 7, 3) := by decide +kernel
theorem dX10_agreeing_47 : decode cX10_agreeing 47 = .ok (.iconst 1, 1) := by decide +kernel
theorem dX10_agreeing_48 : decode cX10_agreeing 48 = .ok (.goto 4, 3) := by decide +kernel
theorem dX10_agreeing_51 : decode cX10_agreeing 51 = .ok (.iconst 0, 1) := by decide +kernel
theorem dX10_agreeing_52 : decode cX10_agreeing 52 = .ok (.iadd, 1) := by decide +kernel
theorem dX10_agreeing_53 : decode cX10_agreeing 53 = .ok (.ireturn, 1) := by decide +kernel
theorem dX10_claim_0 : decode cX10_claim 0 = .ok (.iload_n 1, 1) := by decide +kernel
theorem dX10_claim_1 : decode cX10_claim 1 = .ok (.iconst 0, 1) := by decide +kernel
theorem dX10_claim_2 : decode cX10_claim 2 = .ok (.ldc 100, 2) := by decide +kernel
theorem dX10_claim_4 : decode cX10_claim 4 = .ok (.invokestatic 77, 3) := by decide +kernel
theorem dX10_claim_7 : decode cX10_claim 7 = .ok (.ifCond .eq 61, 3) := by decide +kernel
theorem dX10_claim_10 : decode cX10_claim 10 = .ok (.iload_n 2, 1) := by decide +kernel
theorem dX10_claim_11 : decode cX10_claim 11 = .ok (.iconst 0, 1) := by decide +kernel
theorem dX10_claim_12 : decode cX10_claim 12 = .ok (.ldc 100, 2) := by decide +kernel
theorem dX10_claim_14 : decode cX10_claim 14 = .ok (.invokestatic 77, 3) := by decide +kernel
theorem dX10_claim_17 : decode cX10_claim 17 = .ok (.ifCond .eq 51, 3) := by decide +kernel
theorem dX10_claim_20 : decode cX10_claim 20 = .ok (.iload_n 3, 1) := by decide +kernel
theorem dX10_claim_21 : decode cX10_claim 21 = .ok (.iconst 0, 1) := by decide +kernel
theorem dX10_claim_22 : decode cX10_claim 22 = .ok (.sipush 2000, 3) := by decide +kernel
theorem dX10_claim_25 : decode cX10_claim 25 = .ok (.invokestatic 77, 3) := by decide +kernel
theorem dX10_claim_28 : decode cX10_claim 28 = .ok (.ifCond .eq 40, 3) := by decide +kernel
theorem dX10_claim_31 : decode cX10_claim 31 = .ok (.iload 4, 2) := by decide +kernel
theorem dX10_claim_33 : decode cX10_claim 33 = .ok (.iload_n 3, 1) := by decide +kernel
theorem dX10_claim_34 : decode cX10_claim 34 = .ok (.sipush 2000, 3) := by decide +kernel
theorem dX10_claim_37 : decode cX10_claim 37 = .ok (.invokestatic 77, 3) := by decide +kernel
theorem dX10_claim_40 : decode cX10_claim 40 = .ok (.ifCond .eq 28, 3) := by decide +kernel
theorem dX10_claim_43 : decode cX10_claim 43 = .ok (.iload 5, 2) := by decide +kernel
theorem dX10_claim_45 : decode cX10_claim 45 = .ok (.iconst (-1), 1) := by decide +kernel
theorem dX10_claim_46 : decode cX10_claim 46 = .ok (.iconst 1, 1) := by decide +kernel
theorem dX10_claim_47 : decode cX10_claim 47 = .ok (.invokestatic 77, 3) := by decide +kernel
theorem dX10_claim_50 : decode cX10_claim 50 = .ok (.ifCond .eq 18, 3) := by decide +kernel
theorem dX10_claim_53 : decode cX10_claim 53 = .ok (.iload 6, 2) := by decide +kernel
theorem dX10_claim_55 : decode cX10_claim 55 = .ok (.iconst (-1), 1) := by decide +kernel
theorem dX10_claim_56 : decode cX10_claim 56 = .ok (.bipush 9, 2) := by decide +kernel
theorem dX10_claim_58 : decode cX10_claim 58 = .ok (.invokestatic 77, 3) := by decide +kernel
theorem dX10_claim_61 : decode cX10_claim 61 = .ok (.ifCond .eq 7, 3) := by decide +kernel
theorem dX10_claim_64 : decode cX10_claim 64 = .ok (.iconst 1, 1) := by decide +kernel
theorem dX10_claim_65 : decode cX10_claim 65 = .ok (.goto 4, 3) := by decide +kernel
theorem dX10_claim_68 : decode cX10_claim 68 = .ok (.iconst 0, 1) := by decide +kernel
theorem dX10_claim_69 : decode cX10_claim 69 = .ok (.istore 7, 2) := by decide +kernel
theorem dX10_claim_71 : decode cX10_claim 71 = .ok (.iload 7, 2) := by decide +kernel
theorem dX10_claim_73 : decode cX10_claim 73 = .ok (.ifCond .ne 6, 3) := by decide +kernel
theorem dX10_claim_76 : decode cX10_claim 76 = .ok (.bipush (-3), 2) := by decide +kernel
theorem dX10_claim_78 : decode cX10_claim 78 = .ok (.ireturn, 1) := by decide +kernel
theorem dX10_claim_79 : decode cX10_claim 79 = .ok (.aload_n 0, 1) := by decide +kernel
theorem dX10_claim_80 : decode cX10_claim 80 = .ok (.getfield 198, 3) := by decide +kernel
theorem dX10_claim_83 : decode cX10_claim 83 = .ok (.ifCond .ne 5, 3) := by decide +kernel
theorem dX10_claim_86 : decode cX10_claim 86 = .ok (.iconst (-1), 1) := by decide +kernel
theorem dX10_claim_87 : decode cX10_claim 87 = .ok (.ireturn, 1) := by decide +kernel
theorem dX10_claim_88 : decode cX10_claim 88 = .ok (.iconst 1, 1) := by decide +kernel
theorem dX10_claim_89 : decode cX10_claim 89 = .ok (.iload 5, 2) := by decide +kernel
theorem dX10_claim_91 : decode cX10_claim 91 = .ok (.iconst (-1), 1) := by decide +kernel
theorem dX10_claim_92 : decode cX10_claim 92 = .ok (.if_icmp .ne 7, 3) := by decide +kernel
theorem dX10_claim_95 : decode cX10_claim 95 = .ok (.iconst 0, 1) := by decide +kernel
theorem dX10_claim_96 : decode cX10_claim 96 = .ok (.goto 4, 3) := by decide +kernel
theorem dX10_claim_99 : decode cX10_claim 99 = .ok (.iconst 1, 1) := by decide +kernel
theorem dX10_claim_100 : decode cX10_claim 100 = .ok (.iadd, 1) := by decide +kernel
theorem dX10_claim_101 : decode cX10_claim 101 = .ok (.iload 6, 2) := by decide +kernel
theorem dX10_claim_103 : decode cX10_claim 103 = .ok (.iconst (-1), 1) := by decide +kernel
theorem dX10_claim_104 : decode cX10_claim 104 = .ok (.if_icmp .ne 7, 3) := by decide +kernel
theorem dX10_claim_107 : decode cX10_claim 107 = .ok (.iconst 0, 1) := by decide +kernel
theorem dX10_claim_108 : decode cX10_claim 108 = .ok (.goto 4, 3) := by decide +kernel
theorem dX10_claim_111 : decode cX10_claim 111 = .ok (.iconst 1, 1) := by decide +kernel
theorem dX10_claim_112 : decode cX10_claim 112 = .ok (.iadd, 1) := by decide +kernel
theorem dX10_claim_113 : decode cX10_claim 113 = .ok (.istore 8, 2) := by decide +kernel
theorem dX10_claim_115 : decode cX10_claim 115 = .ok (.iconst 0, 1) := by decide +kernel
theorem dX10_claim_116 : decode cX10_claim 116 = .ok (.istore 9, 2) := by decide +kernel
theorem dX10_claim_118 : decode cX10_claim 118 = .ok (.iconst 0, 1) := by decide +kernel
theorem dX10_claim_119 : decode cX10_claim 119 = .ok (.istore 10, 2) := by decide +kernel
theorem dX10_claim_121 : decode cX10_claim 121 = .ok (.iload 10, 2) := by decide +kernel
theorem dX10_claim_123 : decode cX10_claim 123 = .ok (.aload_n 0, 1) := by decide +kernel
theorem dX10_claim_124 : decode cX10_claim 124 = .ok (.getfield 101, 3) := by decide +kernel
theorem dX10_claim_127 : decode cX10_claim 127 = .ok (.if_icmp .ge 46, 3) := by decide +kernel
theorem dX10_claim_130 : decode cX10_claim 130 = .ok (.iload 9, 2) := by decide +kernel
theorem dX10_claim_132 : decode cX10_claim 132 = .ok (.aload_n 0, 1) := by decide +kernel
theorem dX10_claim_133 : decode cX10_claim 133 = .ok (.iload 10, 2) := by decide +kernel
theorem dX10_claim_135 : decode cX10_claim 135 = .ok (.invokevirtual 201, 3) := by decide +kernel
theorem dX10_claim_138 : decode cX10_claim 138 = .ok (.ifCond .eq 25, 3) := by decide +kernel
theorem dX10_claim_141 : decode cX10_claim 141 = .ok (.aload_n 0, 1) := by decide +kernel
theorem dX10_claim_142 : decode cX10_claim 142 = .ok (.iload 10, 2) := by decide +kernel
theorem dX10_claim_144 : decode cX10_claim 144 = .ok (.iload_n 3, 1) := by decide +kernel
theorem dX10_claim_145 : decode cX10_claim 145 = .ok (.iload 4, 2) := by decide +kernel
theorem dX10_claim_147 : decode cX10_claim 147 = .ok (.iload 5, 2) := by decide +kernel
theorem dX10_claim_149 : decode cX10_claim 149 = .ok (.iload 6, 2) := by decide +kernel
theorem dX10_claim_151 : decode cX10_claim 151 = .ok (.invokevirtual 204, 3) := by decide +kernel
theorem dX10_claim_154 : decode cX10_claim 154 = .ok (.iload 8, 2) := by decide +kernel
theorem dX10_claim_156 : decode cX10_claim 156 = .ok (.if_icmp .ne 7, 3) := by decide +kernel
theorem dX10_claim_159 : decode cX10_claim 159 = .ok (.iconst 1, 1) := by decide +kernel
theorem dX10_claim_160 : decode cX10_claim 160 = .ok (.goto 4, 3) := by decide +kernel
theorem dX10_claim_163 : decode cX10_claim 163 = .ok (.iconst 0, 1) := by decide +kernel
theorem dX10_claim_164 : decode cX10_claim 164 = .ok (.iadd, 1) := by decide +kernel
theorem dX10_claim_165 : decode cX10_claim 165 = .ok (.istore 9, 2) := by decide +kernel
theorem dX10_claim_167 : decode cX10_claim 167 = .ok (.iinc 10 1, 3) := by decide +kernel
theorem dX10_claim_170 : decode cX10_claim 170 = .ok (.goto (-49), 3) := by decide +kernel
theorem dX10_claim_173 : decode cX10_claim 173 = .ok (.iconst (-1), 1) := by decide +kernel
theorem dX10_claim_174 : decode cX10_claim 174 = .ok (.istore 10, 2) := by decide +kernel
theorem dX10_claim_176 : decode cX10_claim 176 = .ok (.iconst 0, 1) := by decide +kernel
theorem dX10_claim_177 : decode cX10_claim 177 = .ok (.istore 11, 2) := by decide +kernel
theorem dX10_claim_179 : decode cX10_claim 179 = .ok (.iload 11, 2) := by decide +kernel
theorem dX10_claim_181 : decode cX10_claim 181 = .ok (.aload_n 0, 1) := by decide +kernel
theorem dX10_claim_182 : decode cX10_claim 182 = .ok (.getfield 101, 3) := by decide +kernel
theorem dX10_claim_185 : decode cX10_claim 185 = .ok (.if_icmp .ge 82, 3) := by decide +kernel
theorem dX10_claim_188 : decode cX10_claim 188 = .ok (.aload_n 0, 1) := by decide +kernel
theorem dX10_claim_189 : decode cX10_claim 189 = .ok (.iload 11, 2) := by decide +kernel
theorem dX10_claim_191 : decode cX10_claim 191 = .ok (.iload_n 3, 1) := by decide +kernel
theorem dX10_claim_192 : decode cX10_claim 192 = .ok (.iload 4, 2) := by decide +kernel
theorem dX10_claim_194 : decode cX10_claim 194 = .ok (.iload 5, 2) := by decide +kernel
theorem dX10_claim_196 : decode cX10_claim 196 = .ok (.iload 6, 2) := by decide +kernel
theorem dX10_claim_198 : decode cX10_claim 198 = .ok (.invokevirtual 204, 3) := by decide +kernel
theorem dX10_claim_201 : decode cX10_claim 201 = .ok (.istore 12, 2) := by decide +kernel
theorem dX10_claim_203 : decode cX10_claim 203 = .ok (.aload_n 0, 1) := by decide +kernel
theorem dX10_claim_204 : decode cX10_claim 204 = .ok (.iload 11, 2) := by decide +kernel
theorem dX10_claim_206 : decode cX10_claim 206 = .ok (.invokevirtual 201, 3) := by decide +kernel
theorem dX10_claim_209 : decode cX10_claim 209 = .ok (.ifCond .eq 52, 3) := by decide +kernel
theorem dX10_claim_212 : decode cX10_claim 212 = .ok (.aload_n 0, 1) := by decide +kernel
theorem dX10_claim_213 : decode cX10_claim 213 = .ok (.aload_n 0, 1) := by decide +kernel
theorem dX10_claim_214 : decode cX10_claim 214 = .ok (.iload 11, 2) := by decide +kernel
theorem dX10_claim_216 : decode cX10_claim 216 = .ok (.iload_n 1, 1) := by decide +kernel
theorem dX10_claim_217 : decode cX10_claim 217 = .ok (.iload_n 2, 1) := by decide +kernel
theorem dX10_claim_218 : decode cX10_claim 218 = .ok (.invokevirtual 157, 3) := by decide +kernel
theorem dX10_claim_221 : decode cX10_claim 221 = .ok (.iload 12, 2) := by decide +kernel
theorem dX10_claim_223 : decode cX10_claim 223 = .ok (.iload 8, 2) := by decide +kernel
theorem dX10_claim_225 : decode cX10_claim 225 = .ok (.iload 12, 2) := by decide +kernel
theorem dX10_claim_227 : decode cX10_claim 227 = .ok (.isub, 1) := by decide +kernel
theorem dX10_claim_228 : decode cX10_claim 228 = .ok (.iload 9, 2) := by decide +kernel
theorem dX10_claim_230 : decode cX10_claim 230 = .ok (.aload_n 0, 1) := by decide +kernel
theorem dX10_claim_231 : decode cX10_claim 231 = .ok (.getfield 81, 3) := by decide +kernel
theorem dX10_claim_234 : decode cX10_claim 234 = .ok (.aload_n 0, 1) := by decide +kernel
theorem dX10_claim_235 : decode cX10_claim 235 = .ok (.getfield 19, 3) := by decide +kernel
theorem dX10_claim_238 : decode cX10_claim 238 = .ok (.iload 11, 2) := by decide +kernel
theorem dX10_claim_240 : decode cX10_claim 240 = .ok (.iaload, 1) := by decide +kernel
theorem dX10_claim_241 : decode cX10_claim 241 = .ok (.isub, 1) := by decide +kernel
theorem dX10_claim_242 : decode cX10_claim 242 = .ok (.invokevirtual 208, 3) := by decide +kernel
theorem dX10_claim_245 : decode cX10_claim 245 = .ok (.ifCond .eq 16, 3) := by decide +kernel
theorem dX10_claim_248 : decode cX10_claim 248 = .ok (.iload 10, 2) := by decide +kernel
theorem dX10_claim_250 : decode cX10_claim 250 = .ok (.iconst (-1), 1) := by decide +kernel
theorem dX10_claim_251 : decode cX10_claim 251 = .ok (.if_icmp .eq 6, 3) := by decide +kernel
theorem dX10_claim_254 : decode cX10_claim 254 = .ok (.bipush (-2), 2) := by decide +kernel
theorem dX10_claim_256 : decode cX10_claim 256 = .ok (.ireturn, 1) := by decide +kernel
theorem dX10_claim_257 : decode cX10_claim 257 = .ok (.iload 11, 2) := by decide +kernel
theorem dX10_claim_259 : decode cX10_claim 259 = .ok (.istore 10, 2) := by decide +kernel
theorem dX10_claim_261 : decode cX10_claim 261 = .ok (.iinc 11 1, 3) := by decide +kernel
theorem dX10_claim_264 : decode cX10_claim 264 = .ok (.goto (-85), 3) := by decide +kernel
theorem dX10_claim_267 : decode cX10_claim 267 = .ok (.iload 10, 2) := by decide +kernel
theorem dX10_claim_269 : decode cX10_claim 269 = .ok (.ireturn, 1) := by decide +kernel
theorem dX10_name_0 : decode cX10_name 0 = .ok (.aload_n 0, 1) := by decide +kernel
theorem dX10_name_1 : decode cX10_name 1 = .ok (.iload_n 1, 1) := by decide +kernel
theorem dX10_name_2 : decode cX10_name 2 = .ok (.invokevirtual 124, 3) := by decide +kernel
theorem dX10_name_5 : decode cX10_name 5 = .ok (.ifCond .eq 22, 3) := by decide +kernel
theorem dX10_name_8 : decode cX10_name 8 = .ok (.iload_n 2, 1) := by decide +kernel
theorem dX10_name_9 : decode cX10_name 9 = .ok (.iconst 1, 1) := by decide +kernel
theorem dX10_name_10 : decode cX10_name 10 = .ok (.ldc 212, 2) := by decide +kernel
theorem dX10_name_12 : decode cX10_name 12 = .ok (.invokestatic 77, 3) := by decide +kernel
theorem dX10_name_15 : decode cX10_name 15 = .ok (.ifCond .eq 12, 3) := by decide +kernel
theorem dX10_name_18 : decode cX10_name 18 = .ok (.aload_n 0, 1) := by decide +kernel
theorem dX10_name_19 : decode cX10_name 19 = .ok (.getfield 40, 3) := by decide +kernel
theorem dX10_name_22 : decode cX10_name 22 = .ok (.iload_n 1, 1) := by decide +kernel
theorem dX10_name_23 : decode cX10_name 23 = .ok (.iaload, 1) := by decide +kernel
theorem dX10_name_24 : decode cX10_name 24 = .ok (.ifCond .eq 5, 3) := by decide +kernel
theorem dX10_name_27 : decode cX10_name 27 = .ok (.iconst 0, 1) := by decide +kernel
theorem dX10_name_28 : decode cX10_name 28 = .ok (.ireturn, 1) := by decide +kernel
theorem dX10_name_29 : decode cX10_name 29 = .ok (.aload_n 0, 1) := by decide +kernel
theorem dX10_name_30 : decode cX10_name 30 = .ok (.getfield 40, 3) := by decide +kernel
theorem dX10_name_33 : decode cX10_name 33 = .ok (.iload_n 1, 1) := by decide +kernel
theorem dX10_name_34 : decode cX10_name 34 = .ok (.iload_n 2, 1) := by decide +kernel
theorem dX10_name_35 : decode cX10_name 35 = .ok (.iastore, 1) := by decide +kernel
theorem dX10_name_36 : decode cX10_name 36 = .ok (.iconst 1, 1) := by decide +kernel
theorem dX10_name_37 : decode cX10_name 37 = .ok (.ireturn, 1) := by decide +kernel
theorem dX10_areBoth_0 : decode cX10_areBoth 0 = .ok (.iload_n 1, 1) := by decide +kernel
theorem dX10_areBoth_1 : decode cX10_areBoth 1 = .ok (.iconst 0, 1) := by decide +kernel
theorem dX10_areBoth_2 : decode cX10_areBoth 2 = .ok (.bipush 19, 2) := by decide +kernel
theorem dX10_areBoth_4 : decode cX10_areBoth 4 = .ok (.invokestatic 77, 3) := by decide +kernel
theorem dX10_areBoth_7 : decode cX10_areBoth 7 = .ok (.ifCond .eq 15, 3) := by decide +kernel
theorem dX10_areBoth_10 : decode cX10_areBoth 10 = .ok (.aload_n 0, 1) := by decide +kernel
theorem dX10_areBoth_11 : decode cX10_areBoth 11 = .ok (.iload_n 2, 1) := by decide +kernel
theorem dX10_areBoth_12 : decode cX10_areBoth 12 = .ok (.invokevirtual 124, 3) := by decide +kernel
theorem dX10_areBoth_15 : decode cX10_areBoth 15 = .ok (.ifCond .eq 7, 3) := by decide +kernel
theorem dX10_areBoth_18 : decode cX10_areBoth 18 = .ok (.iconst 1, 1) := by decide +kernel
theorem dX10_areBoth_19 : decode cX10_areBoth 19 = .ok (.goto 4, 3) := by decide +kernel
theorem dX10_areBoth_22 : decode cX10_areBoth 22 = .ok (.iconst 0, 1) := by decide +kernel
theorem dX10_areBoth_23 : decode cX10_areBoth 23 = .ok (.ireturn, 1) := by decide +kernel
theorem dX10_allow_0 : decode cX10_allow 0 = .ok (.aload_n 0, 1) := by decide +kernel
theorem dX10_allow_1 : decode cX10_allow 1 = .ok (.iload_n 1, 1) := by decide +kernel
theorem dX10_allow_2 : decode cX10_allow 2 = .ok (.iload_n 2, 1) := by decide +kernel
theorem dX10_allow_3 : decode cX10_allow 3 = .ok (.invokevirtual 213, 3) := by decide +kernel
theorem dX10_allow_6 : decode cX10_allow 6 = .ok (.ifCond .eq 18, 3) := by decide +kernel
theorem dX10_allow_9 : decode cX10_allow 9 = .ok (.aload_n 0, 1) := by decide +kernel
theorem dX10_allow_10 : decode cX10_allow 10 = .ok (.getfield 43, 3) := by decide +kernel
theorem dX10_allow_13 : decode cX10_allow 13 = .ok (.bipush 20, 2) := by decide +kernel
theorem dX10_allow_15 : decode cX10_allow 15 = .ok (.iload_n 2, 1) := by decide +kernel
theorem dX10_allow_16 : decode cX10_allow 16 = .ok (.imul, 1) := by decide +kernel
theorem dX10_allow_17 : decode cX10_allow 17 = .ok (.iload_n 1, 1) := by decide +kernel
theorem dX10_allow_18 : decode cX10_allow 18 = .ok (.iadd, 1) := by decide +kernel
theorem dX10_allow_19 : decode cX10_allow 19 = .ok (.baload, 1) := by decide +kernel
theorem dX10_allow_20 : decode cX10_allow 20 = .ok (.iload_n 3, 1) := by decide +kernel
theorem dX10_allow_21 : decode cX10_allow 21 = .ok (.if_icmp .ne 5, 3) := by decide +kernel
theorem dX10_allow_24 : decode cX10_allow 24 = .ok (.iconst 0, 1) := by decide +kernel
theorem dX10_allow_25 : decode cX10_allow 25 = .ok (.ireturn, 1) := by decide +kernel
theorem dX10_allow_26 : decode cX10_allow 26 = .ok (.aload_n 0, 1) := by decide +kernel
theorem dX10_allow_27 : decode cX10_allow 27 = .ok (.getfield 43, 3) := by decide +kernel
theorem dX10_allow_30 : decode cX10_allow 30 = .ok (.bipush 20, 2) := by decide +kernel
theorem dX10_allow_32 : decode cX10_allow 32 = .ok (.iload_n 2, 1) := by decide +kernel
theorem dX10_allow_33 : decode cX10_allow 33 = .ok (.imul, 1) := by decide +kernel
theorem dX10_allow_34 : decode cX10_allow 34 = .ok (.iload_n 1, 1) := by decide +kernel
theorem dX10_allow_35 : decode cX10_allow 35 = .ok (.iadd, 1) := by decide +kernel
theorem dX10_allow_36 : decode cX10_allow 36 = .ok (.iload_n 3, 1) := by decide +kernel
theorem dX10_allow_37 : decode cX10_allow 37 = .ok (.bastore, 1) := by decide +kernel
theorem dX10_allow_38 : decode cX10_allow 38 = .ok (.iconst 1, 1) := by decide +kernel
theorem dX10_allow_39 : decode cX10_allow 39 = .ok (.ireturn, 1) := by decide +kernel
theorem dX10_ask_0 : decode cX10_ask 0 = .ok (.aload_n 0, 1) := by decide +kernel
theorem dX10_ask_1 : decode cX10_ask 1 = .ok (.iload_n 1, 1) := by decide +kernel
theorem dX10_ask_2 : decode cX10_ask 2 = .ok (.iload_n 2, 1) := by decide +kernel
theorem dX10_ask_3 : decode cX10_ask 3 = .ok (.invokevirtual 213, 3) := by decide +kernel
theorem dX10_ask_6 : decode cX10_ask 6 = .ok (.ifCond .eq 30, 3) := by decide +kernel
theorem dX10_ask_9 : decode cX10_ask 9 = .ok (.aload_n 0, 1) := by decide +kernel
theorem dX10_ask_10 : decode cX10_ask 10 = .ok (.getfield 43, 3) := by decide +kernel
theorem dX10_ask_13 : decode cX10_ask 13 = .ok (.bipush 20, 2) := by decide +kernel
theorem dX10_ask_15 : decode cX10_ask 15 = .ok (.iload_n 2, 1) := by decide +kernel
theorem dX10_ask_16 : decode cX10_ask 16 = .ok (.imul, 1) := by decide +kernel
theorem dX10_ask_17 : decode cX10_ask 17 = .ok (.iload_n 1, 1) := by decide +kernel
theorem dX10_ask_18 : decode cX10_ask 18 = .ok (.iadd, 1) := by decide +kernel
theorem dX10_ask_19 : decode cX10_ask 19 = .ok (.baload, 1) := by decide +kernel
theorem dX10_ask_20 : decode cX10_ask 20 = .ok (.ifCond .eq 12, 3) := by decide +kernel
theorem dX10_ask_23 : decode cX10_ask 23 = .ok (.aload_n 0, 1) := by decide +kernel
theorem dX10_ask_24 : decode cX10_ask 24 = .ok (.getfield 40, 3) := by decide +kernel
theorem dX10_ask_27 : decode cX10_ask 27 = .ok (.iload_n 2, 1) := by decide +kernel
theorem dX10_ask_28 : decode cX10_ask 28 = .ok (.iaload, 1) := by decide +kernel
theorem dX10_ask_29 : decode cX10_ask 29 = .ok (.goto 8, 3) := by decide +kernel
theorem dX10_ask_32 : decode cX10_ask 32 = .ok (.iconst 0, 1) := by decide +kernel
theorem dX10_ask_33 : decode cX10_ask 33 = .ok (.goto 4, 3) := by decide +kernel
theorem dX10_ask_36 : decode cX10_ask 36 = .ok (.iconst (-1), 1) := by decide +kernel
theorem dX10_ask_37 : decode cX10_ask 37 = .ok (.ireturn, 1) := by decide +kernel
theorem dX10_guess_0 : decode cX10_guess 0 = .ok (.aload_n 0, 1) := by decide +kernel
theorem dX10_guess_1 : decode cX10_guess 1 = .ok (.iload_n 1, 1) := by decide +kernel
theorem dX10_guess_2 : decode cX10_guess 2 = .ok (.iload_n 2, 1) := by decide +kernel
theorem dX10_guess_3 : decode cX10_guess 3 = .ok (.invokevirtual 213, 3) := by decide +kernel
theorem dX10_guess_6 : decode cX10_guess 6 = .ok (.ifCond .eq 13, 3) := by decide +kernel
theorem dX10_guess_9 : decode cX10_guess 9 = .ok (.iload_n 3, 1) := by decide +kernel
theorem dX10_guess_10 : decode cX10_guess 10 = .ok (.iconst 1, 1) := by decide +kernel
theorem dX10_guess_11 : decode cX10_guess 11 = .ok (.ldc 212, 2) := by decide +kernel
theorem dX10_guess_13 : decode cX10_guess 13 = .ok (.invokestatic 77, 3) := by decide +kernel
theorem dX10_guess_16 : decode cX10_guess 16 = .ok (.ifCond .ne 5, 3) := by decide +kernel
theorem dX10_guess_19 : decode cX10_guess 19 = .ok (.iconst (-1), 1) := by decide +kernel
theorem dX10_guess_20 : decode cX10_guess 20 = .ok (.ireturn, 1) := by decide +kernel
theorem dX10_guess_21 : decode cX10_guess 21 = .ok (.aload_n 0, 1) := by decide +kernel
theorem dX10_guess_22 : decode cX10_guess 22 = .ok (.getfield 43, 3) := by decide +kernel
theorem dX10_guess_25 : decode cX10_guess 25 = .ok (.bipush 20, 2) := by decide +kernel
theorem dX10_guess_27 : decode cX10_guess 27 = .ok (.iload_n 2, 1) := by decide +kernel
theorem dX10_guess_28 : decode cX10_guess 28 = .ok (.imul, 1) := by decide +kernel
theorem dX10_guess_29 : decode cX10_guess 29 = .ok (.iload_n 1, 1) := by decide +kernel
theorem dX10_guess_30 : decode cX10_guess 30 = .ok (.iadd, 1) := by decide +kernel
theorem dX10_guess_31 : decode cX10_guess 31 = .ok (.baload, 1) := by decide +kernel
theorem dX10_guess_32 : decode cX10_guess 32 = .ok (.ifCond .eq 17, 3) := by decide +kernel
theorem dX10_guess_35 : decode cX10_guess 35 = .ok (.aload_n 0, 1) := by decide +kernel
theorem dX10_guess_36 : decode cX10_guess 36 = .ok (.getfield 40, 3) := by decide +kernel
theorem dX10_guess_39 : decode cX10_guess 39 = .ok (.iload_n 2, 1) := by decide +kernel
theorem dX10_guess_40 : decode cX10_guess 40 = .ok (.iaload, 1) := by decide +kernel
theorem dX10_guess_41 : decode cX10_guess 41 = .ok (.iload_n 3, 1) := by decide +kernel
theorem dX10_guess_42 : decode cX10_guess 42 = .ok (.if_icmp .ne 7, 3) := by decide +kernel
theorem dX10_guess_45 : decode cX10_guess 45 = .ok (.iconst 1, 1) := by decide +kernel
theorem dX10_guess_46 : decode cX10_guess 46 = .ok (.goto 4, 3) := by decide +kernel
theorem dX10_guess_49 : decode cX10_guess 49 = .ok (.iconst 0, 1) := by decide +kernel
theorem dX10_guess_50 : decode cX10_guess 50 = .ok (.ireturn, 1) := by decide +kernel
theorem dX10_told_0 : decode cX10_told 0 = .ok (.aload_n 0, 1) := by decide +kernel
theorem dX10_told_1 : decode cX10_told 1 = .ok (.iload_n 1, 1) := by decide +kernel
theorem dX10_told_2 : decode cX10_told 2 = .ok (.invokevirtual 124, 3) := by decide +kernel
theorem dX10_told_5 : decode cX10_told 5 = .ok (.ifCond .ne 5, 3) := by decide +kernel
theorem dX10_told_8 : decode cX10_told 8 = .ok (.iconst (-1), 1) := by decide +kernel
theorem dX10_told_9 : decode cX10_told 9 = .ok (.ireturn, 1) := by decide +kernel
theorem dX10_told_10 : decode cX10_told 10 = .ok (.iconst 0, 1) := by decide +kernel
theorem dX10_told_11 : decode cX10_told 11 = .ok (.istore_n 3, 1) := by decide +kernel
theorem dX10_told_12 : decode cX10_told 12 = .ok (.iconst 0, 1) := by decide +kernel
theorem dX10_told_13 : decode cX10_told 13 = .ok (.istore 4, 2) := by decide +kernel
theorem dX10_told_15 : decode cX10_told 15 = .ok (.iload 4, 2) := by decide +kernel
theorem dX10_told_17 : decode cX10_told 17 = .ok (.aload_n 0, 1) := by decide +kernel
theorem dX10_told_18 : decode cX10_told 18 = .ok (.getfield 104, 3) := by decide +kernel
theorem dX10_told_21 : decode cX10_told 21 = .ok (.if_icmp .ge 28, 3) := by decide +kernel
theorem dX10_told_24 : decode cX10_told 24 = .ok (.iload_n 3, 1) := by decide +kernel
theorem dX10_told_25 : decode cX10_told 25 = .ok (.aload_n 0, 1) := by decide +kernel
theorem dX10_told_26 : decode cX10_told 26 = .ok (.getfield 47, 3) := by decide +kernel
theorem dX10_told_29 : decode cX10_told 29 = .ok (.iload 4, 2) := by decide +kernel
theorem dX10_told_31 : decode cX10_told 31 = .ok (.iaload, 1) := by decide +kernel
theorem dX10_told_32 : decode cX10_told 32 = .ok (.iload_n 1, 1) := by decide +kernel
theorem dX10_told_33 : decode cX10_told 33 = .ok (.if_icmp .ne 7, 3) := by decide +kernel
theorem dX10_told_36 : decode cX10_told 36 = .ok (.iconst 1, 1) := by decide +kernel
theorem dX10_told_37 : decode cX10_told 37 = .ok (.goto 4, 3) := by decide +kernel
theorem dX10_told_40 : decode cX10_told 40 = .ok (.iconst 0, 1) := by decide +kernel
theorem dX10_told_41 : decode cX10_told 41 = .ok (.iadd, 1) := by decide +kernel
theorem dX10_told_42 : decode cX10_told 42 = .ok (.istore_n 3, 1) := by decide +kernel
theorem dX10_told_43 : decode cX10_told 43 = .ok (.iinc 4 1, 3) := by decide +kernel
theorem dX10_told_46 : decode cX10_told 46 = .ok (.goto (-31), 3) := by decide +kernel
theorem dX10_told_49 : decode cX10_told 49 = .ok (.iload_n 2, 1) := by decide +kernel
theorem dX10_told_50 : decode cX10_told 50 = .ok (.tableswitch 97 0 7 #[46, 53, 60, 67, 74, 81, 88, 95], 46) := by decide +kernel
theorem dX10_told_96 : decode cX10_told 96 = .ok (.aload_n 0, 1) := by decide +kernel
theorem dX10_told_97 : decode cX10_told 97 = .ok (.getfield 19, 3) := by decide +kernel
theorem dX10_told_100 : decode cX10_told 100 = .ok (.iload_n 1, 1) := by decide +kernel
theorem dX10_told_101 : decode cX10_told 101 = .ok (.iaload, 1) := by decide +kernel
theorem dX10_told_102 : decode cX10_told 102 = .ok (.ireturn, 1) := by decide +kernel
theorem dX10_told_103 : decode cX10_told 103 = .ok (.aload_n 0, 1) := by decide +kernel
theorem dX10_told_104 : decode cX10_told 104 = .ok (.getfield 22, 3) := by decide +kernel
theorem dX10_told_107 : decode cX10_told 107 = .ok (.iload_n 1, 1) := by decide +kernel
theorem dX10_told_108 : decode cX10_told 108 = .ok (.iaload, 1) := by decide +kernel
theorem dX10_told_109 : decode cX10_told 109 = .ok (.ireturn, 1) := by decide +kernel
theorem dX10_told_110 : decode cX10_told 110 = .ok (.aload_n 0, 1) := by decide +kernel
theorem dX10_told_111 : decode cX10_told 111 = .ok (.getfield 25, 3) := by decide +kernel
theorem dX10_told_114 : decode cX10_told 114 = .ok (.iload_n 1, 1) := by decide +kernel
theorem dX10_told_115 : decode cX10_told 115 = .ok (.iaload, 1) := by decide +kernel
theorem dX10_told_116 : decode cX10_told 116 = .ok (.ireturn, 1) := by decide +kernel
theorem dX10_told_117 : decode cX10_told 117 = .ok (.aload_n 0, 1) := by decide +kernel
theorem dX10_told_118 : decode cX10_told 118 = .ok (.getfield 28, 3) := by decide +kernel
theorem dX10_told_121 : decode cX10_told 121 = .ok (.iload_n 1, 1) := by decide +kernel
theorem dX10_told_122 : decode cX10_told 122 = .ok (.iaload, 1) := by decide +kernel
theorem dX10_told_123 : decode cX10_told 123 = .ok (.ireturn, 1) := by decide +kernel
theorem dX10_told_124 : decode cX10_told 124 = .ok (.aload_n 0, 1) := by decide +kernel
theorem dX10_told_125 : decode cX10_told 125 = .ok (.getfield 31, 3) := by decide +kernel
theorem dX10_told_128 : decode cX10_told 128 = .ok (.iload_n 1, 1) := by decide +kernel
theorem dX10_told_129 : decode cX10_told 129 = .ok (.iaload, 1) := by decide +kernel
theorem dX10_told_130 : decode cX10_told 130 = .ok (.ireturn, 1) := by decide +kernel
theorem dX10_told_131 : decode cX10_told 131 = .ok (.aload_n 0, 1) := by decide +kernel
theorem dX10_told_132 : decode cX10_told 132 = .ok (.getfield 34, 3) := by decide +kernel
theorem dX10_told_135 : decode cX10_told 135 = .ok (.iload_n 1, 1) := by decide +kernel
theorem dX10_told_136 : decode cX10_told 136 = .ok (.iaload, 1) := by decide +kernel
theorem dX10_told_137 : decode cX10_told 137 = .ok (.ireturn, 1) := by decide +kernel
theorem dX10_told_138 : decode cX10_told 138 = .ok (.aload_n 0, 1) := by decide +kernel
theorem dX10_told_139 : decode cX10_told 139 = .ok (.getfield 37, 3) := by decide +kernel
theorem dX10_told_142 : decode cX10_told 142 = .ok (.iload_n 1, 1) := by decide +kernel
theorem dX10_told_143 : decode cX10_told 143 = .ok (.iaload, 1) := by decide +kernel
theorem dX10_told_144 : decode cX10_told 144 = .ok (.ireturn, 1) := by decide +kernel
theorem dX10_told_145 : decode cX10_told 145 = .ok (.iload_n 3, 1) := by decide +kernel
theorem dX10_told_146 : decode cX10_told 146 = .ok (.ireturn, 1) := by decide +kernel
theorem dX10_told_147 : decode cX10_told 147 = .ok (.iconst (-1), 1) := by decide +kernel
theorem dX10_told_148 : decode cX10_told 148 = .ok (.ireturn, 1) := by decide +kernel
theorem dX10_count_0 : decode cX10_count 0 = .ok (.iload_n 1, 1) := by decide +kernel
theorem dX10_count_1 : decode cX10_count 1 = .ok (.tableswitch 96 0 7 #[47, 52, 57, 62, 67, 72, 77, 82], 47) := by decide +kernel
theorem dX10_count_48 : decode cX10_count 48 = .ok (.aload_n 0, 1) := by decide +kernel
theorem dX10_count_49 : decode cX10_count 49 = .ok (.getfield 81, 3) := by decide +kernel
theorem dX10_count_52 : decode cX10_count 52 = .ok (.ireturn, 1) := by decide +kernel
theorem dX10_count_53 : decode cX10_count 53 = .ok (.aload_n 0, 1) := by decide +kernel
theorem dX10_count_54 : decode cX10_count 54 = .ok (.getfield 101, 3) := by decide +kernel
theorem dX10_count_57 : decode cX10_count 57 = .ok (.ireturn, 1) := by decide +kernel
theorem dX10_count_58 : decode cX10_count 58 = .ok (.aload_n 0, 1) := by decide +kernel
theorem dX10_count_59 : decode cX10_count 59 = .ok (.getfield 85, 3) := by decide +kernel
theorem dX10_count_62 : decode cX10_count 62 = .ok (.ireturn, 1) := by decide +kernel
theorem dX10_count_63 : decode cX10_count 63 = .ok (.aload_n 0, 1) := by decide +kernel
theorem dX10_count_64 : decode cX10_count 64 = .ok (.getfield 104, 3) := by decide +kernel
theorem dX10_count_67 : decode cX10_count 67 = .ok (.ireturn, 1) := by decide +kernel
theorem dX10_count_68 : decode cX10_count 68 = .ok (.aload_n 0, 1) := by decide +kernel
theorem dX10_count_69 : decode cX10_count 69 = .ok (.getfield 130, 3) := by decide +kernel
theorem dX10_count_72 : decode cX10_count 72 = .ok (.ireturn, 1) := by decide +kernel
theorem dX10_count_73 : decode cX10_count 73 = .ok (.aload_n 0, 1) := by decide +kernel
theorem dX10_count_74 : decode cX10_count 74 = .ok (.getfield 160, 3) := by decide +kernel
theorem dX10_count_77 : decode cX10_count 77 = .ok (.ireturn, 1) := by decide +kernel
theorem dX10_count_78 : decode cX10_count 78 = .ok (.aload_n 0, 1) := by decide +kernel
theorem dX10_count_79 : decode cX10_count 79 = .ok (.getfield 198, 3) := by decide +kernel
theorem dX10_count_82 : decode cX10_count 82 = .ok (.ireturn, 1) := by decide +kernel
theorem dX10_count_83 : decode cX10_count 83 = .ok (.aload_n 0, 1) := by decide +kernel
theorem dX10_count_84 : decode cX10_count 84 = .ok (.iconst 0, 1) := by decide +kernel
theorem dX10_count_85 : decode cX10_count 85 = .ok (.aload_n 0, 1) := by decide +kernel
theorem dX10_count_86 : decode cX10_count 86 = .ok (.getfield 81, 3) := by decide +kernel
theorem dX10_count_89 : decode cX10_count 89 = .ok (.aload_n 0, 1) := by decide +kernel
theorem dX10_count_90 : decode cX10_count 90 = .ok (.getfield 81, 3) := by decide +kernel
theorem dX10_count_93 : decode cX10_count 93 = .ok (.invokevirtual 118, 3) := by decide +kernel
theorem dX10_count_96 : decode cX10_count 96 = .ok (.ireturn, 1) := by decide +kernel
theorem dX10_count_97 : decode cX10_count 97 = .ok (.iconst (-1), 1) := by decide +kernel
theorem dX10_count_98 : decode cX10_count 98 = .ok (.ireturn, 1) := by decide +kernel
theorem dJ9_max_7cf53_0 : decode cJ9_max_7cf53 0 = .ok (.iload_n 0, 1) := by decide +kernel
theorem dJ9_max_7cf53_1 : decode cJ9_max_7cf53 1 = .ok (.iload_n 1, 1) := by decide +kernel
theorem dJ9_max_7cf53_2 : decode cJ9_max_7cf53 2 = .ok (.if_icmp .lt 7, 3) := by decide +kernel
theorem dJ9_max_7cf53_5 : decode cJ9_max_7cf53 5 = .ok (.iload_n 0, 1) := by decide +kernel
theorem dJ9_max_7cf53_6 : decode cJ9_max_7cf53 6 = .ok (.goto 4, 3) := by decide +kernel
theorem dJ9_max_7cf53_9 : decode cJ9_max_7cf53 9 = .ok (.iload_n 1, 1) := by decide +kernel
theorem dJ9_max_7cf53_10 : decode cJ9_max_7cf53 10 = .ok (.ireturn, 1) := by decide +kernel
theorem dJ9_min_7cf53_0 : decode cJ9_min_7cf53 0 = .ok (.iload_n 0, 1) := by decide +kernel
theorem dJ9_min_7cf53_1 : decode cJ9_min_7cf53 1 = .ok (.iload_n 1, 1) := by decide +kernel
theorem dJ9_min_7cf53_2 : decode cJ9_min_7cf53 2 = .ok (.if_icmp .gt 7, 3) := by decide +kernel
theorem dJ9_min_7cf53_5 : decode cJ9_min_7cf53 5 = .ok (.iload_n 0, 1) := by decide +kernel
theorem dJ9_min_7cf53_6 : decode cJ9_min_7cf53 6 = .ok (.goto 4, 3) := by decide +kernel
theorem dJ9_min_7cf53_9 : decode cJ9_min_7cf53 9 = .ok (.iload_n 1, 1) := by decide +kernel
theorem dJ9_min_7cf53_10 : decode cJ9_min_7cf53 10 = .ok (.ireturn, 1) := by decide +kernel
end
section
theorem dX0_init_0 : decode cX0_init 0 = .ok (.aload_n 0, 1) := by decide +kernel
theorem dX0_init_1 : decode cX0_init 1 = .ok (.invokespecial 3, 3) := by decide +kernel
theorem dX0_init_4 : decode cX0_init 4 = .ok (.iload_n 1, 1) := by decide +kernel
theorem dX0_init_5 : decode cX0_init 5 = .ok (.newarray .int, 2) := by decide +kernel
theorem dX0_init_7 : decode cX0_init 7 = .ok (.astore 6, 2) := by decide +kernel
theorem dX0_init_9 : decode cX0_init 9 = .ok (.iconst 0, 1) := by decide +kernel
theorem dX0_init_10 : decode cX0_init 10 = .ok (.istore 7, 2) := by decide +kernel
theorem dX0_init_12 : decode cX0_init 12 = .ok (.iload 7, 2) := by decide +kernel
theorem dX0_init_14 : decode cX0_init 14 = .ok (.iload_n 1, 1) := by decide +kernel
theorem dX0_init_15 : decode cX0_init 15 = .ok (.if_icmp .ge 21, 3) := by decide +kernel
theorem dX0_init_18 : decode cX0_init 18 = .ok (.aload 6, 2) := by decide +kernel
theorem dX0_init_20 : decode cX0_init 20 = .ok (.iload 7, 2) := by decide +kernel
theorem dX0_init_22 : decode cX0_init 22 = .ok (.iload 7, 2) := by decide +kernel
theorem dX0_init_24 : decode cX0_init 24 = .ok (.iload_n 2, 1) := by decide +kernel
theorem dX0_init_25 : decode cX0_init 25 = .ok (.iload_n 3, 1) := by decide +kernel
theorem dX0_init_26 : decode cX0_init 26 = .ok (.invokestatic 9, 3) := by decide +kernel
theorem dX0_init_29 : decode cX0_init 29 = .ok (.iastore, 1) := by decide +kernel
theorem dX0_init_30 : decode cX0_init 30 = .ok (.iinc 7 1, 3) := by decide +kernel
theorem dX0_init_33 : decode cX0_init 33 = .ok (.goto (-21), 3) := by decide +kernel
theorem dX0_init_36 : decode cX0_init 36 = .ok (.aload_n 0, 1) := by decide +kernel
theorem dX0_init_37 : decode cX0_init 37 = .ok (.iload_n 1, 1) := by decide +kernel
theorem dX0_init_38 : decode cX0_init 38 = .ok (.newarray .int, 2) := by decide +kernel
theorem dX0_init_40 : decode cX0_init 40 = .ok (.putfield 15, 3) := by decide +kernel
theorem dX0_init_43 : decode cX0_init 43 = .ok (.lload 4, 2) := by decide +kernel
theorem dX0_init_45 : decode cX0_init 45 = .ok (.lstore 7, 2) := by decide +kernel
theorem dX0_init_47 : decode cX0_init 47 = .ok (.iconst 0, 1) := by decide +kernel
theorem dX0_init_48 : decode cX0_init 48 = .ok (.istore 9, 2) := by decide +kernel
theorem dX0_init_50 : decode cX0_init 50 = .ok (.iload 9, 2) := by decide +kernel
theorem dX0_init_52 : decode cX0_init 52 = .ok (.iload_n 1, 1) := by decide +kernel
theorem dX0_init_53 : decode cX0_init 53 = .ok (.if_icmp .ge 71, 3) := by decide +kernel
theorem dX0_init_56 : decode cX0_init 56 = .ok (.iload_n 1, 1) := by decide +kernel
theorem dX0_init_57 : decode cX0_init 57 = .ok (.iload 9, 2) := by decide +kernel
theorem dX0_init_59 : decode cX0_init 59 = .ok (.isub, 1) := by decide +kernel
theorem dX0_init_60 : decode cX0_init 60 = .ok (.istore 10, 2) := by decide +kernel
theorem dX0_init_62 : decode cX0_init 62 = .ok (.lload 7, 2) := by decide +kernel
theorem dX0_init_64 : decode cX0_init 64 = .ok (.ldc2_w 19, 3) := by decide +kernel
theorem dX0_init_67 : decode cX0_init 67 = .ok (.lmul, 1) := by decide +kernel
theorem dX0_init_68 : decode cX0_init 68 = .ok (.ldc2_w 21, 3) := by decide +kernel
theorem dX0_init_71 : decode cX0_init 71 = .ok (.ladd, 1) := by decide +kernel
theorem dX0_init_72 : decode cX0_init 72 = .ok (.lstore 7, 2) := by decide +kernel
theorem dX0_init_74 : decode cX0_init 74 = .ok (.lload 7, 2) := by decide +kernel
theorem dX0_init_76 : decode cX0_init 76 = .ok (.bipush 33, 2) := by decide +kernel
theorem dX0_init_78 : decode cX0_init 78 = .ok (.lushr, 1) := by decide +kernel
theorem dX0_init_79 : decode cX0_init 79 = .ok (.iload 10, 2) := by decide +kernel
theorem dX0_init_81 : decode cX0_init 81 = .ok (.i2l, 1) := by decide +kernel
theorem dX0_init_82 : decode cX0_init 82 = .ok (.lrem, 1) := by decide +kernel
theorem dX0_init_83 : decode cX0_init 83 = .ok (.l2i, 1) := by decide +kernel
theorem dX0_init_84 : decode cX0_init 84 = .ok (.istore 11, 2) := by decide +kernel
theorem dX0_init_86 : decode cX0_init 86 = .ok (.aload_n 0, 1) := by decide +kernel
theorem dX0_init_87 : decode cX0_init 87 = .ok (.getfield 15, 3) := by decide +kernel
theorem dX0_init_90 : decode cX0_init 90 = .ok (.iload 9, 2) := by decide +kernel
theorem dX0_init_92 : decode cX0_init 92 = .ok (.aload 6, 2) := by decide +kernel
theorem dX0_init_94 : decode cX0_init 94 = .ok (.iload 11, 2) := by decide +kernel
theorem dX0_init_96 : decode cX0_init 96 = .ok (.iaload, 1) := by decide +kernel
theorem dX0_init_97 : decode cX0_init 97 = .ok (.iastore, 1) := by decide +kernel
theorem dX0_init_98 : decode cX0_init 98 = .ok (.aload 6, 2) := by decide +kernel
theorem dX0_init_100 : decode cX0_init 100 = .ok (.iload 11, 2) := by decide +kernel
theorem dX0_init_102 : decode cX0_init 102 = .ok (.iconst 1, 1) := by decide +kernel
theorem dX0_init_103 : decode cX0_init 103 = .ok (.iadd, 1) := by decide +kernel
theorem dX0_init_104 : decode cX0_init 104 = .ok (.aload 6, 2) := by decide +kernel
theorem dX0_init_106 : decode cX0_init 106 = .ok (.iload 11, 2) := by decide +kernel
theorem dX0_init_108 : decode cX0_init 108 = .ok (.iload 10, 2) := by decide +kernel
theorem dX0_init_110 : decode cX0_init 110 = .ok (.iload 11, 2) := by decide +kernel
theorem dX0_init_112 : decode cX0_init 112 = .ok (.isub, 1) := by decide +kernel
theorem dX0_init_113 : decode cX0_init 113 = .ok (.iconst 1, 1) := by decide +kernel
theorem dX0_init_114 : decode cX0_init 114 = .ok (.isub, 1) := by decide +kernel
theorem dX0_init_115 : decode cX0_init 115 = .ok (.invokestatic 23, 3) := by decide +kernel
theorem dX0_init_118 : decode cX0_init 118 = .ok (.iinc 9 1, 3) := by decide +kernel
theorem dX0_init_121 : decode cX0_init 121 = .ok (.goto (-71), 3) := by decide +kernel
theorem dX0_init_124 : decode cX0_init 124 = .ok (.return_, 1) := by decide +kernel
theorem dX0_kindOf_0 : decode cX0_kindOf 0 = .ok (.iload_n 0, 1) := by decide +kernel
theorem dX0_kindOf_1 : decode cX0_kindOf 1 = .ok (.iload_n 1, 1) := by decide +kernel
theorem dX0_kindOf_2 : decode cX0_kindOf 2 = .ok (.if_icmp .ge 5, 3) := by decide +kernel
theorem dX0_kindOf_5 : decode cX0_kindOf 5 = .ok (.iconst 0, 1) := by decide +kernel
theorem dX0_kindOf_6 : decode cX0_kindOf 6 = .ok (.ireturn, 1) := by decide +kernel
theorem dX0_kindOf_7 : decode cX0_kindOf 7 = .ok (.iload_n 0, 1) := by decide +kernel
theorem dX0_kindOf_8 : decode cX0_kindOf 8 = .ok (.iload_n 1, 1) := by decide +kernel
theorem dX0_kindOf_9 : decode cX0_kindOf 9 = .ok (.iload_n 2, 1) := by decide +kernel
theorem dX0_kindOf_10 : decode cX0_kindOf 10 = .ok (.iadd, 1) := by decide +kernel
theorem dX0_kindOf_11 : decode cX0_kindOf 11 = .ok (.if_icmp .ge 7, 3) := by decide +kernel
theorem dX0_kindOf_14 : decode cX0_kindOf 14 = .ok (.iconst 1, 1) := by decide +kernel
theorem dX0_kindOf_15 : decode cX0_kindOf 15 = .ok (.goto 4, 3) := by decide +kernel
theorem dX0_kindOf_18 : decode cX0_kindOf 18 = .ok (.iconst 2, 1) := by decide +kernel
theorem dX0_kindOf_19 : decode cX0_kindOf 19 = .ok (.ireturn, 1) := by decide +kernel
theorem dX0_ballOf_0 : decode cX0_ballOf 0 = .ok (.iload_n 1, 1) := by decide +kernel
theorem dX0_ballOf_1 : decode cX0_ballOf 1 = .ok (.iconst 0, 1) := by decide +kernel
theorem dX0_ballOf_2 : decode cX0_ballOf 2 = .ok (.aload_n 0, 1) := by decide +kernel
theorem dX0_ballOf_3 : decode cX0_ballOf 3 = .ok (.getfield 15, 3) := by decide +kernel
theorem dX0_ballOf_6 : decode cX0_ballOf 6 = .ok (.arraylength, 1) := by decide +kernel
theorem dX0_ballOf_7 : decode cX0_ballOf 7 = .ok (.iconst 1, 1) := by decide +kernel
theorem dX0_ballOf_8 : decode cX0_ballOf 8 = .ok (.isub, 1) := by decide +kernel
theorem dX0_ballOf_9 : decode cX0_ballOf 9 = .ok (.invokestatic 29, 3) := by decide +kernel
theorem dX0_ballOf_12 : decode cX0_ballOf 12 = .ok (.ifCond .eq 12, 3) := by decide +kernel
theorem dX0_ballOf_15 : decode cX0_ballOf 15 = .ok (.aload_n 0, 1) := by decide +kernel
theorem dX0_ballOf_16 : decode cX0_ballOf 16 = .ok (.getfield 15, 3) := by decide +kernel
theorem dX0_ballOf_19 : decode cX0_ballOf 19 = .ok (.iload_n 1, 1) := by decide +kernel
theorem dX0_ballOf_20 : decode cX0_ballOf 20 = .ok (.iaload, 1) := by decide +kernel
theorem dX0_ballOf_21 : decode cX0_ballOf 21 = .ok (.goto 4, 3) := by decide +kernel
theorem dX0_ballOf_24 : decode cX0_ballOf 24 = .ok (.iconst (-1), 1) := by decide +kernel
theorem dX0_ballOf_25 : decode cX0_ballOf 25 = .ok (.ireturn, 1) := by decide +kernel
theorem dX0_give_0 : decode cX0_give 0 = .ok (.iload_n 1, 1) := by decide +kernel
theorem dX0_give_1 : decode cX0_give 1 = .ok (.iconst 0, 1) := by decide +kernel
theorem dX0_give_2 : decode cX0_give 2 = .ok (.aload_n 0, 1) := by decide +kernel
theorem dX0_give_3 : decode cX0_give 3 = .ok (.getfield 15, 3) := by decide +kernel
theorem dX0_give_6 : decode cX0_give 6 = .ok (.arraylength, 1) := by decide +kernel
theorem dX0_give_7 : decode cX0_give 7 = .ok (.iconst 1, 1) := by decide +kernel
theorem dX0_give_8 : decode cX0_give 8 = .ok (.isub, 1) := by decide +kernel
theorem dX0_give_9 : decode cX0_give 9 = .ok (.invokestatic 29, 3) := by decide +kernel
theorem dX0_give_12 : decode cX0_give 12 = .ok (.ifCond .eq 10, 3) := by decide +kernel
theorem dX0_give_15 : decode cX0_give 15 = .ok (.aload_n 0, 1) := by decide +kernel
theorem dX0_give_16 : decode cX0_give 16 = .ok (.getfield 15, 3) := by decide +kernel
theorem dX0_give_19 : decode cX0_give 19 = .ok (.iload_n 1, 1) := by decide +kernel
theorem dX0_give_20 : decode cX0_give 20 = .ok (.iload_n 2, 1) := by decide +kernel
theorem dX0_give_21 : decode cX0_give 21 = .ok (.iastore, 1) := by decide +kernel
theorem dX0_give_22 : decode cX0_give 22 = .ok (.return_, 1) := by decide +kernel
theorem dX0_sendAway_0 : decode cX0_sendAway 0 = .ok (.aload_n 0, 1) := by decide +kernel
theorem dX0_sendAway_1 : decode cX0_sendAway 1 = .ok (.iload_n 1, 1) := by decide +kernel
theorem dX0_sendAway_2 : decode cX0_sendAway 2 = .ok (.iconst 3, 1) := by decide +kernel
theorem dX0_sendAway_3 : decode cX0_sendAway 3 = .ok (.invokevirtual 33, 3) := by decide +kernel
theorem dX0_sendAway_6 : decode cX0_sendAway 6 = .ok (.iconst 0, 1) := by decide +kernel
theorem dX0_sendAway_7 : decode cX0_sendAway 7 = .ok (.istore_n 2, 1) := by decide +kernel
theorem dX0_sendAway_8 : decode cX0_sendAway 8 = .ok (.iload_n 2, 1) := by decide +kernel
theorem dX0_sendAway_9 : decode cX0_sendAway 9 = .ok (.aload_n 0, 1) := by decide +kernel
theorem dX0_sendAway_10 : decode cX0_sendAway 10 = .ok (.getfield 15, 3) := by decide +kernel
theorem dX0_sendAway_13 : decode cX0_sendAway 13 = .ok (.arraylength, 1) := by decide +kernel
theorem dX0_sendAway_14 : decode cX0_sendAway 14 = .ok (.if_icmp .ge 28, 3) := by decide +kernel
theorem dX0_sendAway_17 : decode cX0_sendAway 17 = .ok (.aload_n 0, 1) := by decide +kernel
theorem dX0_sendAway_18 : decode cX0_sendAway 18 = .ok (.getfield 15, 3) := by decide +kernel
theorem dX0_sendAway_21 : decode cX0_sendAway 21 = .ok (.iload_n 2, 1) := by decide +kernel
theorem dX0_sendAway_22 : decode cX0_sendAway 22 = .ok (.iaload, 1) := by decide +kernel
theorem dX0_sendAway_23 : decode cX0_sendAway 23 = .ok (.iconst 1, 1) := by decide +kernel
theorem dX0_sendAway_24 : decode cX0_sendAway 24 = .ok (.if_icmp .ne 12, 3) := by decide +kernel
theorem dX0_sendAway_27 : decode cX0_sendAway 27 = .ok (.aload_n 0, 1) := by decide +kernel
theorem dX0_sendAway_28 : decode cX0_sendAway 28 = .ok (.getfield 15, 3) := by decide +kernel
theorem dX0_sendAway_31 : decode cX0_sendAway 31 = .ok (.iload_n 2, 1) := by decide +kernel
theorem dX0_sendAway_32 : decode cX0_sendAway 32 = .ok (.iconst 0, 1) := by decide +kernel
theorem dX0_sendAway_33 : decode cX0_sendAway 33 = .ok (.iastore, 1) := by decide +kernel
theorem dX0_sendAway_34 : decode cX0_sendAway 34 = .ok (.iload_n 2, 1) := by decide +kernel
theorem dX0_sendAway_35 : decode cX0_sendAway 35 = .ok (.ireturn, 1) := by decide +kernel
theorem dX0_sendAway_36 : decode cX0_sendAway 36 = .ok (.iinc 2 1, 3) := by decide +kernel
theorem dX0_sendAway_39 : decode cX0_sendAway 39 = .ok (.goto (-31), 3) := by decide +kernel
theorem dX0_sendAway_42 : decode cX0_sendAway 42 = .ok (.iconst (-1), 1) := by decide +kernel
theorem dX0_sendAway_43 : decode cX0_sendAway 43 = .ok (.ireturn, 1) := by decide +kernel
theorem dX1_init_0 : decode cX1_init 0 = .ok (.aload_n 0, 1) := by decide +kernel
theorem dX1_init_1 : decode cX1_init 1 = .ok (.invokespecial 3, 3) := by decide +kernel
theorem dX1_init_4 : decode cX1_init 4 = .ok (.aload_n 0, 1) := by decide +kernel
theorem dX1_init_5 : decode cX1_init 5 = .ok (.iconst 0, 1) := by decide +kernel
theorem dX1_init_6 : decode cX1_init 6 = .ok (.putfield 11, 3) := by decide +kernel
theorem dX1_init_9 : decode cX1_init 9 = .ok (.aload_n 0, 1) := by decide +kernel
theorem dX1_init_10 : decode cX1_init 10 = .ok (.iload_n 1, 1) := by decide +kernel
theorem dX1_init_11 : decode cX1_init 11 = .ok (.putfield 15, 3) := by decide +kernel
theorem dX1_init_14 : decode cX1_init 14 = .ok (.aload_n 0, 1) := by decide +kernel
theorem dX1_init_15 : decode cX1_init 15 = .ok (.iload_n 2, 1) := by decide +kernel
theorem dX1_init_16 : decode cX1_init 16 = .ok (.putfield 18, 3) := by decide +kernel
theorem dX1_init_19 : decode cX1_init 19 = .ok (.aload_n 0, 1) := by decide +kernel
theorem dX1_init_20 : decode cX1_init 20 = .ok (.iload_n 3, 1) := by decide +kernel
theorem dX1_init_21 : decode cX1_init 21 = .ok (.putfield 21, 3) := by decide +kernel
theorem dX1_init_24 : decode cX1_init 24 = .ok (.aload_n 0, 1) := by decide +kernel
theorem dX1_init_25 : decode cX1_init 25 = .ok (.aload 4, 2) := by decide +kernel
theorem dX1_init_27 : decode cX1_init 27 = .ok (.putfield 24, 3) := by decide +kernel
theorem dX1_init_30 : decode cX1_init 30 = .ok (.aload_n 0, 1) := by decide +kernel
theorem dX1_init_31 : decode cX1_init 31 = .ok (.iload 5, 2) := by decide +kernel
theorem dX1_init_33 : decode cX1_init 33 = .ok (.putfield 28, 3) := by decide +kernel
theorem dX1_init_36 : decode cX1_init 36 = .ok (.aload_n 0, 1) := by decide +kernel
theorem dX1_init_37 : decode cX1_init 37 = .ok (.iload 6, 2) := by decide +kernel
theorem dX1_init_39 : decode cX1_init 39 = .ok (.putfield 31, 3) := by decide +kernel
theorem dX1_init_42 : decode cX1_init 42 = .ok (.aload_n 0, 1) := by decide +kernel
theorem dX1_init_43 : decode cX1_init 43 = .ok (.new 34, 3) := by decide +kernel
theorem dX1_init_46 : decode cX1_init 46 = .ok (.dup, 1) := by decide +kernel
theorem dX1_init_47 : decode cX1_init 47 = .ok (.iconst 0, 1) := by decide +kernel
theorem dX1_init_48 : decode cX1_init 48 = .ok (.iload_n 1, 1) := by decide +kernel
theorem dX1_init_49 : decode cX1_init 49 = .ok (.iload_n 1, 1) := by decide +kernel
theorem dX1_init_50 : decode cX1_init 50 = .ok (.invokespecial 36, 3) := by decide +kernel
theorem dX1_init_53 : decode cX1_init 53 = .ok (.putfield 39, 3) := by decide +kernel
theorem dX1_init_56 : decode cX1_init 56 = .ok (.return_, 1) := by decide +kernel
theorem dX1_mayAsk_0 : decode cX1_mayAsk 0 = .ok (.aload_n 0, 1) := by decide +kernel
theorem dX1_mayAsk_1 : decode cX1_mayAsk 1 = .ok (.getfield 43, 3) := by decide +kernel
theorem dX1_mayAsk_4 : decode cX1_mayAsk 4 = .ok (.iload_n 1, 1) := by decide +kernel
theorem dX1_mayAsk_5 : decode cX1_mayAsk 5 = .ok (.ishr, 1) := by decide +kernel
theorem dX1_mayAsk_6 : decode cX1_mayAsk 6 = .ok (.iconst 1, 1) := by decide +kernel
theorem dX1_mayAsk_7 : decode cX1_mayAsk 7 = .ok (.iand, 1) := by decide +kernel
theorem dX1_mayAsk_8 : decode cX1_mayAsk 8 = .ok (.ifCond .eq 7, 3) := by decide +kernel
theorem dX1_mayAsk_11 : decode cX1_mayAsk 11 = .ok (.iconst 1, 1) := by decide +kernel
theorem dX1_mayAsk_12 : decode cX1_mayAsk 12 = .ok (.goto 4, 3) := by decide +kernel
theorem dX1_mayAsk_15 : decode cX1_mayAsk 15 = .ok (.iconst 0, 1) := by decide +kernel
theorem dX1_mayAsk_16 : decode cX1_mayAsk 16 = .ok (.ireturn, 1) := by decide +kernel
theorem dX1_lastUpTo_0 : decode cX1_lastUpTo 0 = .ok (.aload_n 0, 1) := by decide +kernel
theorem dX1_lastUpTo_1 : decode cX1_lastUpTo 1 = .ok (.getfield 39, 3) := by decide +kernel
theorem dX1_lastUpTo_4 : decode cX1_lastUpTo 4 = .ok (.astore_n 2, 1) := by decide +kernel
theorem dX1_lastUpTo_5 : decode cX1_lastUpTo 5 = .ok (.aload_n 2, 1) := by decide +kernel
theorem dX1_lastUpTo_6 : decode cX1_lastUpTo 6 = .ok (.getfield 46, 3) := by decide +kernel
theorem dX1_lastUpTo_9 : decode cX1_lastUpTo 9 = .ok (.ifnull 22, 3) := by decide +kernel
theorem dX1_lastUpTo_12 : decode cX1_lastUpTo 12 = .ok (.aload_n 2, 1) := by decide +kernel
theorem dX1_lastUpTo_13 : decode cX1_lastUpTo 13 = .ok (.getfield 46, 3) := by decide +kernel
theorem dX1_lastUpTo_16 : decode cX1_lastUpTo 16 = .ok (.getfield 49, 3) := by decide +kernel
theorem dX1_lastUpTo_19 : decode cX1_lastUpTo 19 = .ok (.iload_n 1, 1) := by decide +kernel
theorem dX1_lastUpTo_20 : decode cX1_lastUpTo 20 = .ok (.if_icmp .gt 11, 3) := by decide +kernel
theorem dX1_lastUpTo_23 : decode cX1_lastUpTo 23 = .ok (.aload_n 2, 1) := by decide +kernel
theorem dX1_lastUpTo_24 : decode cX1_lastUpTo 24 = .ok (.getfield 46, 3) := by decide +kernel
theorem dX1_lastUpTo_27 : decode cX1_lastUpTo 27 = .ok (.astore_n 2, 1) := by decide +kernel
theorem dX1_lastUpTo_28 : decode cX1_lastUpTo 28 = .ok (.goto (-23), 3) := by decide +kernel
theorem dX1_lastUpTo_31 : decode cX1_lastUpTo 31 = .ok (.aload_n 2, 1) := by decide +kernel
theorem dX1_lastUpTo_32 : decode cX1_lastUpTo 32 = .ok (.areturn, 1) := by decide +kernel
theorem dX1_placeOn_0 : decode cX1_placeOn 0 = .ok (.iconst (-1), 1) := by decide +kernel
theorem dX1_placeOn_1 : decode cX1_placeOn 1 = .ok (.istore_n 3, 1) := by decide +kernel
theorem dX1_placeOn_2 : decode cX1_placeOn 2 = .ok (.aload_n 0, 1) := by decide +kernel
theorem dX1_placeOn_3 : decode cX1_placeOn 3 = .ok (.getfield 39, 3) := by decide +kernel
theorem dX1_placeOn_6 : decode cX1_placeOn 6 = .ok (.astore 4, 2) := by decide +kernel
theorem dX1_placeOn_8 : decode cX1_placeOn 8 = .ok (.aload 4, 2) := by decide +kernel
theorem dX1_placeOn_10 : decode cX1_placeOn 10 = .ok (.ifnull 37, 3) := by decide +kernel
theorem dX1_placeOn_13 : decode cX1_placeOn 13 = .ok (.aload 4, 2) := by decide +kernel
theorem dX1_placeOn_15 : decode cX1_placeOn 15 = .ok (.getfield 49, 3) := by decide +kernel
theorem dX1_placeOn_18 : decode cX1_placeOn 18 = .ok (.iload_n 1, 1) := by decide +kernel
theorem dX1_placeOn_19 : decode cX1_placeOn 19 = .ok (.if_icmp .gt 28, 3) := by decide +kernel
theorem dX1_placeOn_22 : decode cX1_placeOn 22 = .ok (.aload 4, 2) := by decide +kernel
theorem dX1_placeOn_24 : decode cX1_placeOn 24 = .ok (.getfield 52, 3) := by decide +kernel
theorem dX1_placeOn_27 : decode cX1_placeOn 27 = .ok (.iload_n 2, 1) := by decide +kernel
theorem dX1_placeOn_28 : decode cX1_placeOn 28 = .ok (.if_icmp .gt 9, 3) := by decide +kernel
theorem dX1_placeOn_31 : decode cX1_placeOn 31 = .ok (.aload 4, 2) := by decide +kernel
theorem dX1_placeOn_33 : decode cX1_placeOn 33 = .ok (.getfield 55, 3) := by decide +kernel
theorem dX1_placeOn_36 : decode cX1_placeOn 36 = .ok (.istore_n 3, 1) := by decide +kernel
theorem dX1_placeOn_37 : decode cX1_placeOn 37 = .ok (.aload 4, 2) := by decide +kernel
theorem dX1_placeOn_39 : decode cX1_placeOn 39 = .ok (.getfield 46, 3) := by decide +kernel
theorem dX1_placeOn_42 : decode cX1_placeOn 42 = .ok (.astore 4, 2) := by decide +kernel
theorem dX1_placeOn_44 : decode cX1_placeOn 44 = .ok (.goto (-36), 3) := by decide +kernel
theorem dX1_placeOn_47 : decode cX1_placeOn 47 = .ok (.iload_n 3, 1) := by decide +kernel
theorem dX1_placeOn_48 : decode cX1_placeOn 48 = .ok (.ireturn, 1) := by decide +kernel
theorem dX1_daysAt_0 : decode cX1_daysAt 0 = .ok (.iconst 0, 1) := by decide +kernel
theorem dX1_daysAt_1 : decode cX1_daysAt 1 = .ok (.istore 5, 2) := by decide +kernel
theorem dX1_daysAt_3 : decode cX1_daysAt 3 = .ok (.iconst (-1), 1) := by decide +kernel
theorem dX1_daysAt_4 : decode cX1_daysAt 4 = .ok (.istore 6, 2) := by decide +kernel
theorem dX1_daysAt_6 : decode cX1_daysAt 6 = .ok (.iload_n 2, 1) := by decide +kernel
theorem dX1_daysAt_7 : decode cX1_daysAt 7 = .ok (.istore 7, 2) := by decide +kernel
theorem dX1_daysAt_9 : decode cX1_daysAt 9 = .ok (.aload_n 0, 1) := by decide +kernel
theorem dX1_daysAt_10 : decode cX1_daysAt 10 = .ok (.getfield 39, 3) := by decide +kernel
theorem dX1_daysAt_13 : decode cX1_daysAt 13 = .ok (.astore 8, 2) := by decide +kernel
theorem dX1_daysAt_15 : decode cX1_daysAt 15 = .ok (.aload 8, 2) := by decide +kernel
theorem dX1_daysAt_17 : decode cX1_daysAt 17 = .ok (.ifnull 74, 3) := by decide +kernel
theorem dX1_daysAt_20 : decode cX1_daysAt 20 = .ok (.aload 8, 2) := by decide +kernel
theorem dX1_daysAt_22 : decode cX1_daysAt 22 = .ok (.getfield 49, 3) := by decide +kernel
theorem dX1_daysAt_25 : decode cX1_daysAt 25 = .ok (.iload_n 3, 1) := by decide +kernel
theorem dX1_daysAt_26 : decode cX1_daysAt 26 = .ok (.if_icmp .gt 65, 3) := by decide +kernel
theorem dX1_daysAt_29 : decode cX1_daysAt 29 = .ok (.aload 8, 2) := by decide +kernel
theorem dX1_daysAt_31 : decode cX1_daysAt 31 = .ok (.getfield 52, 3) := by decide +kernel
theorem dX1_daysAt_34 : decode cX1_daysAt 34 = .ok (.iload 4, 2) := by decide +kernel
theorem dX1_daysAt_36 : decode cX1_daysAt 36 = .ok (.if_icmp .gt 45, 3) := by decide +kernel
theorem dX1_daysAt_39 : decode cX1_daysAt 39 = .ok (.aload 8, 2) := by decide +kernel
theorem dX1_daysAt_41 : decode cX1_daysAt 41 = .ok (.getfield 49, 3) := by decide +kernel
theorem dX1_daysAt_44 : decode cX1_daysAt 44 = .ok (.iload_n 2, 1) := by decide +kernel
theorem dX1_daysAt_45 : decode cX1_daysAt 45 = .ok (.invokestatic 58, 3) := by decide +kernel
theorem dX1_daysAt_48 : decode cX1_daysAt 48 = .ok (.istore 9, 2) := by decide +kernel
theorem dX1_daysAt_50 : decode cX1_daysAt 50 = .ok (.iload 5, 2) := by decide +kernel
theorem dX1_daysAt_52 : decode cX1_daysAt 52 = .ok (.iload 6, 2) := by decide +kernel
theorem dX1_daysAt_54 : decode cX1_daysAt 54 = .ok (.iload_n 1, 1) := by decide +kernel
theorem dX1_daysAt_55 : decode cX1_daysAt 55 = .ok (.if_icmp .ne 11, 3) := by decide +kernel
theorem dX1_daysAt_58 : decode cX1_daysAt 58 = .ok (.iload 9, 2) := by decide +kernel
theorem dX1_daysAt_60 : decode cX1_daysAt 60 = .ok (.iload 7, 2) := by decide +kernel
theorem dX1_daysAt_62 : decode cX1_daysAt 62 = .ok (.isub, 1) := by decide +kernel
theorem dX1_daysAt_63 : decode cX1_daysAt 63 = .ok (.goto 4, 3) := by decide +kernel
theorem dX1_daysAt_66 : decode cX1_daysAt 66 = .ok (.iconst 0, 1) := by decide +kernel
theorem dX1_daysAt_67 : decode cX1_daysAt 67 = .ok (.iadd, 1) := by decide +kernel
theorem dX1_daysAt_68 : decode cX1_daysAt 68 = .ok (.istore 5, 2) := by decide +kernel
theorem dX1_daysAt_70 : decode cX1_daysAt 70 = .ok (.aload 8, 2) := by decide +kernel
theorem dX1_daysAt_72 : decode cX1_daysAt 72 = .ok (.getfield 55, 3) := by decide +kernel
theorem dX1_daysAt_75 : decode cX1_daysAt 75 = .ok (.istore 6, 2) := by decide +kernel
theorem dX1_daysAt_77 : decode cX1_daysAt 77 = .ok (.iload 9, 2) := by decide +kernel
theorem dX1_daysAt_79 : decode cX1_daysAt 79 = .ok (.istore 7, 2) := by decide +kernel
theorem dX1_daysAt_81 : decode cX1_daysAt 81 = .ok (.aload 8, 2) := by decide +kernel
theorem dX1_daysAt_83 : decode cX1_daysAt 83 = .ok (.getfield 46, 3) := by decide +kernel
theorem dX1_daysAt_86 : decode cX1_daysAt 86 = .ok (.astore 8, 2) := by decide +kernel
theorem dX1_daysAt_88 : decode cX1_daysAt 88 = .ok (.goto (-73), 3) := by decide +kernel
theorem dX1_daysAt_91 : decode cX1_daysAt 91 = .ok (.iload 6, 2) := by decide +kernel
theorem dX1_daysAt_93 : decode cX1_daysAt 93 = .ok (.iload_n 1, 1) := by decide +kernel
theorem dX1_daysAt_94 : decode cX1_daysAt 94 = .ok (.if_icmp .ne 19, 3) := by decide +kernel
theorem dX1_daysAt_97 : decode cX1_daysAt 97 = .ok (.iload 5, 2) := by decide +kernel
theorem dX1_daysAt_99 : decode cX1_daysAt 99 = .ok (.iload_n 3, 1) := by decide +kernel
theorem dX1_daysAt_100 : decode cX1_daysAt 100 = .ok (.iconst 1, 1) := by decide +kernel
theorem dX1_daysAt_101 : decode cX1_daysAt 101 = .ok (.iadd, 1) := by decide +kernel
theorem dX1_daysAt_102 : decode cX1_daysAt 102 = .ok (.iload 7, 2) := by decide +kernel
theorem dX1_daysAt_104 : decode cX1_daysAt 104 = .ok (.isub, 1) := by decide +kernel
theorem dX1_daysAt_105 : decode cX1_daysAt 105 = .ok (.iconst 0, 1) := by decide +kernel
theorem dX1_daysAt_106 : decode cX1_daysAt 106 = .ok (.invokestatic 58, 3) := by decide +kernel
theorem dX1_daysAt_109 : decode cX1_daysAt 109 = .ok (.iadd, 1) := by decide +kernel
theorem dX1_daysAt_110 : decode cX1_daysAt 110 = .ok (.goto 5, 3) := by decide +kernel
theorem dX1_daysAt_113 : decode cX1_daysAt 113 = .ok (.iload 5, 2) := by decide +kernel
theorem dX1_daysAt_115 : decode cX1_daysAt 115 = .ok (.ireturn, 1) := by decide +kernel
theorem dX2_init_0 : decode cX2_init 0 = .ok (.aload_n 0, 1) := by decide +kernel
theorem dX2_init_1 : decode cX2_init 1 = .ok (.invokespecial 3, 3) := by decide +kernel
theorem dX2_init_4 : decode cX2_init 4 = .ok (.aload_n 0, 1) := by decide +kernel
theorem dX2_init_5 : decode cX2_init 5 = .ok (.aload_n 1, 1) := by decide +kernel
theorem dX2_init_6 : decode cX2_init 6 = .ok (.putfield 9, 3) := by decide +kernel
theorem dX2_init_9 : decode cX2_init 9 = .ok (.aload_n 0, 1) := by decide +kernel
theorem dX2_init_10 : decode cX2_init 10 = .ok (.iload_n 2, 1) := by decide +kernel
theorem dX2_init_11 : decode cX2_init 11 = .ok (.putfield 15, 3) := by decide +kernel
theorem dX2_init_14 : decode cX2_init 14 = .ok (.aload_n 0, 1) := by decide +kernel
theorem dX2_init_15 : decode cX2_init 15 = .ok (.iload_n 3, 1) := by decide +kernel
theorem dX2_init_16 : decode cX2_init 16 = .ok (.putfield 19, 3) := by decide +kernel
theorem dX2_init_19 : decode cX2_init 19 = .ok (.aload_n 0, 1) := by decide +kernel
theorem dX2_init_20 : decode cX2_init 20 = .ok (.iload 4, 2) := by decide +kernel
theorem dX2_init_22 : decode cX2_init 22 = .ok (.putfield 22, 3) := by decide +kernel
theorem dX2_init_25 : decode cX2_init 25 = .ok (.aload_n 0, 1) := by decide +kernel
theorem dX2_init_26 : decode cX2_init 26 = .ok (.iload 5, 2) := by decide +kernel
theorem dX2_init_28 : decode cX2_init 28 = .ok (.putfield 25, 3) := by decide +kernel
theorem dX2_init_31 : decode cX2_init 31 = .ok (.return_, 1) := by decide +kernel
theorem dX2_agreeing_0 : decode cX2_agreeing 0 = .ok (.aload_n 1, 1) := by decide +kernel
theorem dX2_agreeing_1 : decode cX2_agreeing 1 = .ok (.getfield 28, 3) := by decide +kernel
theorem dX2_agreeing_4 : decode cX2_agreeing 4 = .ok (.aload_n 0, 1) := by decide +kernel
theorem dX2_agreeing_5 : decode cX2_agreeing 5 = .ok (.getfield 15, 3) := by decide +kernel
theorem dX2_agreeing_8 : decode cX2_agreeing 8 = .ok (.aload_n 0, 1) := by decide +kernel
theorem dX2_agreeing_9 : decode cX2_agreeing 9 = .ok (.getfield 19, 3) := by decide +kernel
theorem dX2_agreeing_12 : decode cX2_agreeing 12 = .ok (.invokestatic 33, 3) := by decide +kernel
theorem dX2_agreeing_15 : decode cX2_agreeing 15 = .ok (.ifCond .eq 7, 3) := by decide +kernel
theorem dX2_agreeing_18 : decode cX2_agreeing 18 = .ok (.iconst 1, 1) := by decide +kernel
theorem dX2_agreeing_19 : decode cX2_agreeing 19 = .ok (.goto 4, 3) := by decide +kernel
theorem dX2_agreeing_22 : decode cX2_agreeing 22 = .ok (.iconst 0, 1) := by decide +kernel
theorem dX2_agreeing_23 : decode cX2_agreeing 23 = .ok (.istore_n 2, 1) := by decide +kernel
theorem dX2_agreeing_24 : decode cX2_agreeing 24 = .ok (.iload_n 2, 1) := by decide +kernel
theorem dX2_agreeing_25 : decode cX2_agreeing 25 = .ok (.aload_n 1, 1) := by decide +kernel
theorem dX2_agreeing_26 : decode cX2_agreeing 26 = .ok (.getfield 37, 3) := by decide +kernel
theorem dX2_agreeing_29 : decode cX2_agreeing 29 = .ok (.aload_n 0, 1) := by decide +kernel
theorem dX2_agreeing_30 : decode cX2_agreeing 30 = .ok (.getfield 22, 3) := by decide +kernel
theorem dX2_agreeing_33 : decode cX2_agreeing 33 = .ok (.if_icmp .ne 7, 3) := by decide +kernel
theorem dX2_agreeing_36 : decode cX2_agreeing 36 = .ok (.iconst 1, 1) := by decide +kernel
theorem dX2_agreeing_37 : decode cX2_agreeing 37 = .ok (.goto 4, 3) := by decide +kernel
theorem dX2_agreeing_40 : decode cX2_agreeing 40 = .ok (.iconst 0, 1) := by decide +kernel
theorem dX2_agreeing_41 : decode cX2_agreeing 41 = .ok (.iadd, 1) := by decide +kernel
theorem dX2_agreeing_42 : decode cX2_agreeing 42 = .ok (.istore_n 2, 1) := by decide +kernel
theorem dX2_agreeing_43 : decode cX2_agreeing 43 = .ok (.iload_n 2, 1) := by decide +kernel
theorem dX2_agreeing_44 : decode cX2_agreeing 44 = .ok (.aload_n 1, 1) := by decide +kernel
theorem dX2_agreeing_45 : decode cX2_agreeing 45 = .ok (.getfield 38, 3) := by decide +kernel
theorem dX2_agreeing_48 : decode cX2_agreeing 48 = .ok (.aload_n 0, 1) := by decide +kernel
theorem dX2_agreeing_49 : decode cX2_agreeing 49 = .ok (.getfield 25, 3) := by decide +kernel
theorem dX2_agreeing_52 : decode cX2_agreeing 52 = .ok (.if_icmp .ne 7, 3) := by decide +kernel
theorem dX2_agreeing_55 : decode cX2_agreeing 55 = .ok (.iconst 1, 1) := by decide +kernel
theorem dX2_agreeing_56 : decode cX2_agreeing 56 = .ok (.goto 4, 3) := by decide +kernel
theorem dX2_agreeing_59 : decode cX2_agreeing 59 = .ok (.iconst 0, 1) := by decide +kernel
theorem dX2_agreeing_60 : decode cX2_agreeing 60 = .ok (.iadd, 1) := by decide +kernel
theorem dX2_agreeing_61 : decode cX2_agreeing 61 = .ok (.istore_n 2, 1) := by decide +kernel
theorem dX2_agreeing_62 : decode cX2_agreeing 62 = .ok (.iload_n 2, 1) := by decide +kernel
theorem dX2_agreeing_63 : decode cX2_agreeing 63 = .ok (.ireturn, 1) := by decide +kernel
theorem dX2_disagreeing_0 : decode cX2_disagreeing 0 = .ok (.aload_n 1, 1) := by decide +kernel
theorem dX2_disagreeing_1 : decode cX2_disagreeing 1 = .ok (.getfield 28, 3) := by decide +kernel
theorem dX2_disagreeing_4 : decode cX2_disagreeing 4 = .ok (.aload_n 0, 1) := by decide +kernel
theorem dX2_disagreeing_5 : decode cX2_disagreeing 5 = .ok (.getfield 15, 3) := by decide +kernel
theorem dX2_disagreeing_8 : decode cX2_disagreeing 8 = .ok (.aload_n 0, 1) := by decide +kernel
theorem dX2_disagreeing_9 : decode cX2_disagreeing 9 = .ok (.getfield 19, 3) := by decide +kernel
theorem dX2_disagreeing_12 : decode cX2_disagreeing 12 = .ok (.invokestatic 33, 3) := by decide +kernel
theorem dX2_disagreeing_15 : decode cX2_disagreeing 15 = .ok (.ifCond .eq 7, 3) := by decide +kernel
theorem dX2_disagreeing_18 : decode cX2_disagreeing 18 = .ok (.iconst 0, 1) := by decide +kernel
theorem dX2_disagreeing_19 : decode cX2_disagreeing 19 = .ok (.goto 4, 3) := by decide +kernel
theorem dX2_disagreeing_22 : decode cX2_disagreeing 22 = .ok (.iconst 1, 1) := by decide +kernel
theorem dX2_disagreeing_23 : decode cX2_disagreeing 23 = .ok (.istore_n 2, 1) := by decide +kernel
theorem dX2_disagreeing_24 : decode cX2_disagreeing 24 = .ok (.iload_n 2, 1) := by decide +kernel
theorem dX2_disagreeing_25 : decode cX2_disagreeing 25 = .ok (.aload_n 0, 1) := by decide +kernel
theorem dX2_disagreeing_26 : decode cX2_disagreeing 26 = .ok (.getfield 22, 3) := by decide +kernel
theorem dX2_disagreeing_29 : decode cX2_disagreeing 29 = .ok (.iconst (-1), 1) := by decide +kernel
theorem dX2_disagreeing_30 : decode cX2_disagreeing 30 = .ok (.if_icmp .eq 18, 3) := by decide +kernel
theorem dX2_disagreeing_33 : decode cX2_disagreeing 33 = .ok (.aload_n 1, 1) := by decide +kernel
theorem dX2_disagreeing_34 : decode cX2_disagreeing 34 = .ok (.getfield 37, 3) := by decide +kernel
theorem dX2_disagreeing_37 : decode cX2_disagreeing 37 = .ok (.aload_n 0, 1) := by decide +kernel
theorem dX2_disagreeing_38 : decode cX2_disagreeing 38 = .ok (.getfield 22, 3) := by decide +kernel
theorem dX2_disagreeing_41 : decode cX2_disagreeing 41 = .ok (.if_icmp .eq 7, 3) := by decide +kernel
theorem dX2_disagreeing_44 : decode cX2_disagreeing 44 = .ok (.iconst 1, 1) := by decide +kernel
theorem dX2_disagreeing_45 : decode cX2_disagreeing 45 = .ok (.goto 4, 3) := by decide +kernel
theorem dX2_disagreeing_48 : decode cX2_disagreeing 48 = .ok (.iconst 0, 1) := by decide +kernel
theorem dX2_disagreeing_49 : decode cX2_disagreeing 49 = .ok (.iadd, 1) := by decide +kernel
theorem dX2_disagreeing_50 : decode cX2_disagreeing 50 = .ok (.istore_n 2, 1) := by decide +kernel
theorem dX2_disagreeing_51 : decode cX2_disagreeing 51 = .ok (.iload_n 2, 1) := by decide +kernel
theorem dX2_disagreeing_52 : decode cX2_disagreeing 52 = .ok (.aload_n 0, 1) := by decide +kernel
theorem dX2_disagreeing_53 : decode cX2_disagreeing 53 = .ok (.getfield 25, 3) := by decide +kernel
theorem dX2_disagreeing_56 : decode cX2_disagreeing 56 = .ok (.iconst (-1), 1) := by decide +kernel
theorem dX2_disagreeing_57 : decode cX2_disagreeing 57 = .ok (.if_icmp .eq 18, 3) := by decide +kernel
theorem dX2_disagreeing_60 : decode cX2_disagreeing 60 = .ok (.aload_n 1, 1) := by decide +kernel
theorem dX2_disagreeing_61 : decode cX2_disagreeing 61 = .ok (.getfield 38, 3) := by decide +kernel
theorem dX2_disagreeing_64 : decode cX2_disagreeing 64 = .ok (.aload_n 0, 1) := by decide +kernel
theorem dX2_disagreeing_65 : decode cX2_disagreeing 65 = .ok (.getfield 25, 3) := by decide +kernel
theorem dX2_disagreeing_68 : decode cX2_disagreeing 68 = .ok (.if_icmp .eq 7, 3) := by decide +kernel
theorem dX2_disagreeing_71 : decode cX2_disagreeing 71 = .ok (.iconst 1, 1) := by decide +kernel
theorem dX2_disagreeing_72 : decode cX2_disagreeing 72 = .ok (.goto 4, 3) := by decide +kernel
theorem dX2_disagreeing_75 : decode cX2_disagreeing 75 = .ok (.iconst 0, 1) := by decide +kernel
theorem dX2_disagreeing_76 : decode cX2_disagreeing 76 = .ok (.iadd, 1) := by decide +kernel
theorem dX2_disagreeing_77 : decode cX2_disagreeing 77 = .ok (.istore_n 2, 1) := by decide +kernel
theorem dX2_disagreeing_78 : decode cX2_disagreeing 78 = .ok (.iload_n 2, 1) := by decide +kernel
theorem dX2_disagreeing_79 : decode cX2_disagreeing 79 = .ok (.ireturn, 1) := by decide +kernel
theorem dX3_init_0 : decode cX3_init 0 = .ok (.aload_n 0, 1) := by decide +kernel
theorem dX3_init_1 : decode cX3_init 1 = .ok (.invokespecial 1, 3) := by decide +kernel
theorem dX3_init_4 : decode cX3_init 4 = .ok (.aload_n 0, 1) := by decide +kernel
theorem dX3_init_5 : decode cX3_init 5 = .ok (.iload_n 1, 1) := by decide +kernel
theorem dX3_init_6 : decode cX3_init 6 = .ok (.putfield 7, 3) := by decide +kernel
theorem dX3_init_9 : decode cX3_init 9 = .ok (.aload_n 0, 1) := by decide +kernel
theorem dX3_init_10 : decode cX3_init 10 = .ok (.iload_n 2, 1) := by decide +kernel
theorem dX3_init_11 : decode cX3_init 11 = .ok (.putfield 13, 3) := by decide +kernel
theorem dX3_init_14 : decode cX3_init 14 = .ok (.return_, 1) := by decide +kernel
theorem dX3_canBe_0 : decode cX3_canBe 0 = .ok (.iload_n 0, 1) := by decide +kernel
theorem dX3_canBe_1 : decode cX3_canBe 1 = .ok (.iconst 0, 1) := by decide +kernel
theorem dX3_canBe_2 : decode cX3_canBe 2 = .ok (.ldc 16, 2) := by decide +kernel
theorem dX3_canBe_4 : decode cX3_canBe 4 = .ok (.invokestatic 17, 3) := by decide +kernel
theorem dX3_canBe_7 : decode cX3_canBe 7 = .ok (.ifCond .eq 17, 3) := by decide +kernel
theorem dX3_canBe_10 : decode cX3_canBe 10 = .ok (.iload_n 1, 1) := by decide +kernel
theorem dX3_canBe_11 : decode cX3_canBe 11 = .ok (.iconst 0, 1) := by decide +kernel
theorem dX3_canBe_12 : decode cX3_canBe 12 = .ok (.ldc 16, 2) := by decide +kernel
theorem dX3_canBe_14 : decode cX3_canBe 14 = .ok (.invokestatic 17, 3) := by decide +kernel
theorem dX3_canBe_17 : decode cX3_canBe 17 = .ok (.ifCond .eq 7, 3) := by decide +kernel
theorem dX3_canBe_20 : decode cX3_canBe 20 = .ok (.iconst 1, 1) := by decide +kernel
theorem dX3_canBe_21 : decode cX3_canBe 21 = .ok (.goto 4, 3) := by decide +kernel
theorem dX3_canBe_24 : decode cX3_canBe 24 = .ok (.iconst 0, 1) := by decide +kernel
theorem dX3_canBe_25 : decode cX3_canBe 25 = .ok (.ireturn, 1) := by decide +kernel
theorem dX3_farOff_0 : decode cX3_farOff 0 = .ok (.aload_n 0, 1) := by decide +kernel
theorem dX3_farOff_1 : decode cX3_farOff 1 = .ok (.aload_n 1, 1) := by decide +kernel
theorem dX3_farOff_2 : decode cX3_farOff 2 = .ok (.getfield 7, 3) := by decide +kernel
theorem dX3_farOff_5 : decode cX3_farOff 5 = .ok (.aload_n 1, 1) := by decide +kernel
theorem dX3_farOff_6 : decode cX3_farOff 6 = .ok (.getfield 13, 3) := by decide +kernel
theorem dX3_farOff_9 : decode cX3_farOff 9 = .ok (.invokevirtual 23, 3) := by decide +kernel
theorem dX3_farOff_12 : decode cX3_farOff 12 = .ok (.istore_n 2, 1) := by decide +kernel
theorem dX3_farOff_13 : decode cX3_farOff 13 = .ok (.aload_n 0, 1) := by decide +kernel
theorem dX3_farOff_14 : decode cX3_farOff 14 = .ok (.aload_n 1, 1) := by decide +kernel
theorem dX3_farOff_15 : decode cX3_farOff 15 = .ok (.getfield 7, 3) := by decide +kernel
theorem dX3_farOff_18 : decode cX3_farOff 18 = .ok (.invokestatic 27, 3) := by decide +kernel
theorem dX3_farOff_21 : decode cX3_farOff 21 = .ok (.aload_n 1, 1) := by decide +kernel
theorem dX3_farOff_22 : decode cX3_farOff 22 = .ok (.getfield 13, 3) := by decide +kernel
theorem dX3_farOff_25 : decode cX3_farOff 25 = .ok (.invokestatic 27, 3) := by decide +kernel
theorem dX3_farOff_28 : decode cX3_farOff 28 = .ok (.invokevirtual 23, 3) := by decide +kernel
theorem dX3_farOff_31 : decode cX3_farOff 31 = .ok (.istore_n 3, 1) := by decide +kernel
theorem dX3_farOff_32 : decode cX3_farOff 32 = .ok (.iload_n 2, 1) := by decide +kernel
theorem dX3_farOff_33 : decode cX3_farOff 33 = .ok (.iload_n 3, 1) := by decide +kernel
theorem dX3_farOff_34 : decode cX3_farOff 34 = .ok (.invokestatic 31, 3) := by decide +kernel
theorem dX3_farOff_37 : decode cX3_farOff 37 = .ok (.ireturn, 1) := by decide +kernel
theorem dX3_unlike_0 : decode cX3_unlike 0 = .ok (.iconst 0, 1) := by decide +kernel
theorem dX3_unlike_1 : decode cX3_unlike 1 = .ok (.istore_n 3, 1) := by decide +kernel
theorem dX3_unlike_2 : decode cX3_unlike 2 = .ok (.iconst 0, 1) := by decide +kernel
theorem dX3_unlike_3 : decode cX3_unlike 3 = .ok (.istore 4, 2) := by decide +kernel
theorem dX3_unlike_5 : decode cX3_unlike 5 = .ok (.iload 4, 2) := by decide +kernel
theorem dX3_unlike_7 : decode cX3_unlike 7 = .ok (.bipush 8, 2) := by decide +kernel
theorem dX3_unlike_9 : decode cX3_unlike 9 = .ok (.if_icmp .ge 63, 3) := by decide +kernel
theorem dX3_unlike_12 : decode cX3_unlike 12 = .ok (.aload_n 0, 1) := by decide +kernel
theorem dX3_unlike_13 : decode cX3_unlike 13 = .ok (.getfield 7, 3) := by decide +kernel
theorem dX3_unlike_16 : decode cX3_unlike 16 = .ok (.iload 4, 2) := by decide +kernel
theorem dX3_unlike_18 : decode cX3_unlike 18 = .ok (.invokestatic 36, 3) := by decide +kernel
theorem dX3_unlike_21 : decode cX3_unlike 21 = .ok (.iload_n 1, 1) := by decide +kernel
theorem dX3_unlike_22 : decode cX3_unlike 22 = .ok (.iload 4, 2) := by decide +kernel
theorem dX3_unlike_24 : decode cX3_unlike 24 = .ok (.invokestatic 36, 3) := by decide +kernel
theorem dX3_unlike_27 : decode cX3_unlike 27 = .ok (.iadd, 1) := by decide +kernel
theorem dX3_unlike_28 : decode cX3_unlike 28 = .ok (.bipush 7, 2) := by decide +kernel
theorem dX3_unlike_30 : decode cX3_unlike 30 = .ok (.if_icmp .ne 7, 3) := by decide +kernel
theorem dX3_unlike_33 : decode cX3_unlike 33 = .ok (.iconst 1, 1) := by decide +kernel
theorem dX3_unlike_34 : decode cX3_unlike 34 = .ok (.goto 4, 3) := by decide +kernel
theorem dX3_unlike_37 : decode cX3_unlike 37 = .ok (.iconst 0, 1) := by decide +kernel
theorem dX3_unlike_38 : decode cX3_unlike 38 = .ok (.istore 5, 2) := by decide +kernel
theorem dX3_unlike_40 : decode cX3_unlike 40 = .ok (.iload 5, 2) := by decide +kernel
theorem dX3_unlike_42 : decode cX3_unlike 42 = .ok (.ifCond .eq 21, 3) := by decide +kernel
theorem dX3_unlike_45 : decode cX3_unlike 45 = .ok (.aload_n 0, 1) := by decide +kernel
theorem dX3_unlike_46 : decode cX3_unlike 46 = .ok (.getfield 13, 3) := by decide +kernel
theorem dX3_unlike_49 : decode cX3_unlike 49 = .ok (.iload 4, 2) := by decide +kernel
theorem dX3_unlike_51 : decode cX3_unlike 51 = .ok (.invokestatic 36, 3) := by decide +kernel
theorem dX3_unlike_54 : decode cX3_unlike 54 = .ok (.iload_n 2, 1) := by decide +kernel
theorem dX3_unlike_55 : decode cX3_unlike 55 = .ok (.iload 4, 2) := by decide +kernel
theorem dX3_unlike_57 : decode cX3_unlike 57 = .ok (.invokestatic 36, 3) := by decide +kernel
theorem dX3_unlike_60 : decode cX3_unlike 60 = .ok (.if_icmp .eq 6, 3) := by decide +kernel
theorem dX3_unlike_63 : decode cX3_unlike 63 = .ok (.iinc 3 1, 3) := by decide +kernel
theorem dX3_unlike_66 : decode cX3_unlike 66 = .ok (.iinc 4 1, 3) := by decide +kernel
theorem dX3_unlike_69 : decode cX3_unlike 69 = .ok (.goto (-64), 3) := by decide +kernel
theorem dX3_unlike_72 : decode cX3_unlike 72 = .ok (.iload_n 3, 1) := by decide +kernel
theorem dX3_unlike_73 : decode cX3_unlike 73 = .ok (.ireturn, 1) := by decide +kernel
theorem dX3_numberAt_0 : decode cX3_numberAt 0 = .ok (.iload_n 0, 1) := by decide +kernel
theorem dX3_numberAt_1 : decode cX3_numberAt 1 = .ok (.iconst 3, 1) := by decide +kernel
theorem dX3_numberAt_2 : decode cX3_numberAt 2 = .ok (.iload_n 1, 1) := by decide +kernel
theorem dX3_numberAt_3 : decode cX3_numberAt 3 = .ok (.imul, 1) := by decide +kernel
theorem dX3_numberAt_4 : decode cX3_numberAt 4 = .ok (.ishr, 1) := by decide +kernel
theorem dX3_numberAt_5 : decode cX3_numberAt 5 = .ok (.bipush 7, 2) := by decide +kernel
theorem dX3_numberAt_7 : decode cX3_numberAt 7 = .ok (.iand, 1) := by decide +kernel
theorem dX3_numberAt_8 : decode cX3_numberAt 8 = .ok (.ireturn, 1) := by decide +kernel
theorem dX3_turn_0 : decode cX3_turn 0 = .ok (.iconst 0, 1) := by decide +kernel
theorem dX3_turn_1 : decode cX3_turn 1 = .ok (.istore_n 1, 1) := by decide +kernel
theorem dX3_turn_2 : decode cX3_turn 2 = .ok (.iconst 0, 1) := by decide +kernel
theorem dX3_turn_3 : decode cX3_turn 3 = .ok (.istore_n 2, 1) := by decide +kernel
theorem dX3_turn_4 : decode cX3_turn 4 = .ok (.iload_n 2, 1) := by decide +kernel
theorem dX3_turn_5 : decode cX3_turn 5 = .ok (.bipush 8, 2) := by decide +kernel
theorem dX3_turn_7 : decode cX3_turn 7 = .ok (.if_icmp .ge 19, 3) := by decide +kernel
theorem dX3_turn_10 : decode cX3_turn 10 = .ok (.iload_n 1, 1) := by decide +kernel
theorem dX3_turn_11 : decode cX3_turn 11 = .ok (.iconst 3, 1) := by decide +kernel
theorem dX3_turn_12 : decode cX3_turn 12 = .ok (.ishl, 1) := by decide +kernel
theorem dX3_turn_13 : decode cX3_turn 13 = .ok (.iload_n 0, 1) := by decide +kernel
theorem dX3_turn_14 : decode cX3_turn 14 = .ok (.iload_n 2, 1) := by decide +kernel
theorem dX3_turn_15 : decode cX3_turn 15 = .ok (.invokestatic 36, 3) := by decide +kernel
theorem dX3_turn_18 : decode cX3_turn 18 = .ok (.ior, 1) := by decide +kernel
theorem dX3_turn_19 : decode cX3_turn 19 = .ok (.istore_n 1, 1) := by decide +kernel
theorem dX3_turn_20 : decode cX3_turn 20 = .ok (.iinc 2 1, 3) := by decide +kernel
theorem dX3_turn_23 : decode cX3_turn 23 = .ok (.goto (-19), 3) := by decide +kernel
theorem dX3_turn_26 : decode cX3_turn 26 = .ok (.iload_n 1, 1) := by decide +kernel
theorem dX3_turn_27 : decode cX3_turn 27 = .ok (.ireturn, 1) := by decide +kernel
theorem dX4_init_0 : decode cX4_init 0 = .ok (.aload_n 0, 1) := by decide +kernel
theorem dX4_init_1 : decode cX4_init 1 = .ok (.invokespecial 1, 3) := by decide +kernel
theorem dX4_init_4 : decode cX4_init 4 = .ok (.aload_n 0, 1) := by decide +kernel
theorem dX4_init_5 : decode cX4_init 5 = .ok (.iload_n 1, 1) := by decide +kernel
theorem dX4_init_6 : decode cX4_init 6 = .ok (.putfield 7, 3) := by decide +kernel
theorem dX4_init_9 : decode cX4_init 9 = .ok (.aload_n 0, 1) := by decide +kernel
theorem dX4_init_10 : decode cX4_init 10 = .ok (.aload_n 2, 1) := by decide +kernel
theorem dX4_init_11 : decode cX4_init 11 = .ok (.putfield 13, 3) := by decide +kernel
theorem dX4_init_14 : decode cX4_init 14 = .ok (.return_, 1) := by decide +kernel
theorem dX5_init_0 : decode cX5_init 0 = .ok (.aload_n 0, 1) := by decide +kernel
theorem dX5_init_1 : decode cX5_init 1 = .ok (.invokespecial 1, 3) := by decide +kernel
theorem dX5_init_4 : decode cX5_init 4 = .ok (.aload_n 0, 1) := by decide +kernel
theorem dX5_init_5 : decode cX5_init 5 = .ok (.iload_n 1, 1) := by decide +kernel
theorem dX5_init_6 : decode cX5_init 6 = .ok (.putfield 7, 3) := by decide +kernel
theorem dX5_init_9 : decode cX5_init 9 = .ok (.aload_n 0, 1) := by decide +kernel
theorem dX5_init_10 : decode cX5_init 10 = .ok (.iload_n 2, 1) := by decide +kernel
theorem dX5_init_11 : decode cX5_init 11 = .ok (.putfield 13, 3) := by decide +kernel
theorem dX5_init_14 : decode cX5_init 14 = .ok (.aload_n 0, 1) := by decide +kernel
theorem dX5_init_15 : decode cX5_init 15 = .ok (.iload_n 3, 1) := by decide +kernel
theorem dX5_init_16 : decode cX5_init 16 = .ok (.putfield 16, 3) := by decide +kernel
theorem dX5_init_19 : decode cX5_init 19 = .ok (.return_, 1) := by decide +kernel
theorem dX6_init_0 : decode cX6_init 0 = .ok (.aload_n 0, 1) := by decide +kernel
theorem dX6_init_1 : decode cX6_init 1 = .ok (.invokespecial 1, 3) := by decide +kernel
theorem dX6_init_4 : decode cX6_init 4 = .ok (.aload_n 0, 1) := by decide +kernel
theorem dX6_init_5 : decode cX6_init 5 = .ok (.iconst 2, 1) := by decide +kernel
theorem dX6_init_6 : decode cX6_init 6 = .ok (.putfield 9, 3) := by decide +kernel
theorem dX6_init_9 : decode cX6_init 9 = .ok (.return_, 1) := by decide +kernel
theorem dX7_init_0 : decode cX7_init 0 = .ok (.aload_n 0, 1) := by decide +kernel
theorem dX7_init_1 : decode cX7_init 1 = .ok (.invokespecial 3, 3) := by decide +kernel
theorem dX7_init_4 : decode cX7_init 4 = .ok (.aload_n 0, 1) := by decide +kernel
theorem dX7_init_5 : decode cX7_init 5 = .ok (.getstatic 9, 3) := by decide +kernel
theorem dX7_init_8 : decode cX7_init 8 = .ok (.arraylength, 1) := by decide +kernel
theorem dX7_init_9 : decode cX7_init 9 = .ok (.newarray .int, 2) := by decide +kernel
theorem dX7_init_11 : decode cX7_init 11 = .ok (.putfield 15, 3) := by decide +kernel
theorem dX7_init_14 : decode cX7_init 14 = .ok (.aload_n 0, 1) := by decide +kernel
theorem dX7_init_15 : decode cX7_init 15 = .ok (.aload_n 1, 1) := by decide +kernel
theorem dX7_init_16 : decode cX7_init 16 = .ok (.putfield 19, 3) := by decide +kernel
theorem dX7_init_19 : decode cX7_init 19 = .ok (.return_, 1) := by decide +kernel
theorem dX7_faultOf_0 : decode cX7_faultOf 0 = .ok (.aload_n 0, 1) := by decide +kernel
theorem dX7_faultOf_1 : decode cX7_faultOf 1 = .ok (.aload_n 1, 1) := by decide +kernel
theorem dX7_faultOf_2 : decode cX7_faultOf 2 = .ok (.invokevirtual 23, 3) := by decide +kernel
theorem dX7_faultOf_5 : decode cX7_faultOf 5 = .ok (.pop, 1) := by decide +kernel
theorem dX7_faultOf_6 : decode cX7_faultOf 6 = .ok (.aload_n 0, 1) := by decide +kernel
theorem dX7_faultOf_7 : decode cX7_faultOf 7 = .ok (.getfield 27, 3) := by decide +kernel
theorem dX7_faultOf_10 : decode cX7_faultOf 10 = .ok (.ireturn, 1) := by decide +kernel
theorem dX7_holds_0 : decode cX7_holds 0 = .ok (.aload_n 0, 1) := by decide +kernel
theorem dX7_holds_1 : decode cX7_holds 1 = .ok (.aload_n 1, 1) := by decide +kernel
theorem dX7_holds_2 : decode cX7_holds 2 = .ok (.putfield 19, 3) := by decide +kernel
theorem dX7_holds_5 : decode cX7_holds 5 = .ok (.aload_n 0, 1) := by decide +kernel
theorem dX7_holds_6 : decode cX7_holds 6 = .ok (.iconst 0, 1) := by decide +kernel
theorem dX7_holds_7 : decode cX7_holds 7 = .ok (.putfield 31, 3) := by decide +kernel
theorem dX7_holds_10 : decode cX7_holds 10 = .ok (.aload_n 0, 1) := by decide +kernel
theorem dX7_holds_11 : decode cX7_holds 11 = .ok (.iconst (-1), 1) := by decide +kernel
theorem dX7_holds_12 : decode cX7_holds 12 = .ok (.putfield 27, 3) := by decide +kernel
theorem dX7_holds_15 : decode cX7_holds 15 = .ok (.aload_n 0, 1) := by decide +kernel
theorem dX7_holds_16 : decode cX7_holds 16 = .ok (.iconst 0, 1) := by decide +kernel
theorem dX7_holds_17 : decode cX7_holds 17 = .ok (.invokevirtual 34, 3) := by decide +kernel
theorem dX7_holds_20 : decode cX7_holds 20 = .ok (.istore_n 2, 1) := by decide +kernel
theorem dX7_holds_21 : decode cX7_holds 21 = .ok (.aload_n 0, 1) := by decide +kernel
theorem dX7_holds_22 : decode cX7_holds 22 = .ok (.invokevirtual 38, 3) := by decide +kernel
theorem dX7_holds_25 : decode cX7_holds 25 = .ok (.iconst (-1), 1) := by decide +kernel
theorem dX7_holds_26 : decode cX7_holds 26 = .ok (.if_icmp .eq 7, 3) := by decide +kernel
theorem dX7_holds_29 : decode cX7_holds 29 = .ok (.aload_n 0, 1) := by decide +kernel
theorem dX7_holds_30 : decode cX7_holds 30 = .ok (.invokevirtual 42, 3) := by decide +kernel
theorem dX7_holds_33 : decode cX7_holds 33 = .ok (.iload_n 2, 1) := by decide +kernel
theorem dX7_holds_34 : decode cX7_holds 34 = .ok (.ifCond .eq 15, 3) := by decide +kernel
theorem dX7_holds_37 : decode cX7_holds 37 = .ok (.aload_n 0, 1) := by decide +kernel
theorem dX7_holds_38 : decode cX7_holds 38 = .ok (.getfield 27, 3) := by decide +kernel
theorem dX7_holds_41 : decode cX7_holds 41 = .ok (.iconst (-1), 1) := by decide +kernel
theorem dX7_holds_42 : decode cX7_holds 42 = .ok (.if_icmp .ne 7, 3) := by decide +kernel
theorem dX7_holds_45 : decode cX7_holds 45 = .ok (.iconst 1, 1) := by decide +kernel
theorem dX7_holds_46 : decode cX7_holds 46 = .ok (.goto 4, 3) := by decide +kernel
theorem dX7_holds_49 : decode cX7_holds 49 = .ok (.iconst 0, 1) := by decide +kernel
theorem dX7_holds_50 : decode cX7_holds 50 = .ok (.ireturn, 1) := by decide +kernel
theorem dX7_tests_0 : decode cX7_tests 0 = .ok (.aload_n 0, 1) := by decide +kernel
theorem dX7_tests_1 : decode cX7_tests 1 = .ok (.iload_n 1, 1) := by decide +kernel
theorem dX7_tests_2 : decode cX7_tests 2 = .ok (.invokevirtual 45, 3) := by decide +kernel
theorem dX7_tests_5 : decode cX7_tests 5 = .ok (.istore_n 2, 1) := by decide +kernel
theorem dX7_tests_6 : decode cX7_tests 6 = .ok (.iconst 0, 1) := by decide +kernel
theorem dX7_tests_7 : decode cX7_tests 7 = .ok (.istore_n 3, 1) := by decide +kernel
theorem dX7_tests_8 : decode cX7_tests 8 = .ok (.iload_n 3, 1) := by decide +kernel
theorem dX7_tests_9 : decode cX7_tests 9 = .ok (.bipush 100, 2) := by decide +kernel
theorem dX7_tests_11 : decode cX7_tests 11 = .ok (.if_icmp .ge 40, 3) := by decide +kernel
theorem dX7_tests_14 : decode cX7_tests 14 = .ok (.aload_n 0, 1) := by decide +kernel
theorem dX7_tests_15 : decode cX7_tests 15 = .ok (.bipush 124, 2) := by decide +kernel
theorem dX7_tests_17 : decode cX7_tests 17 = .ok (.invokevirtual 48, 3) := by decide +kernel
theorem dX7_tests_20 : decode cX7_tests 20 = .ok (.ifCond .eq 31, 3) := by decide +kernel
theorem dX7_tests_23 : decode cX7_tests 23 = .ok (.aload_n 0, 1) := by decide +kernel
theorem dX7_tests_24 : decode cX7_tests 24 = .ok (.iload_n 1, 1) := by decide +kernel
theorem dX7_tests_25 : decode cX7_tests 25 = .ok (.invokevirtual 45, 3) := by decide +kernel
theorem dX7_tests_28 : decode cX7_tests 28 = .ok (.istore 4, 2) := by decide +kernel
theorem dX7_tests_30 : decode cX7_tests 30 = .ok (.iload_n 2, 1) := by decide +kernel
theorem dX7_tests_31 : decode cX7_tests 31 = .ok (.ifCond .ne 8, 3) := by decide +kernel
theorem dX7_tests_34 : decode cX7_tests 34 = .ok (.iload 4, 2) := by decide +kernel
theorem dX7_tests_36 : decode cX7_tests 36 = .ok (.ifCond .eq 7, 3) := by decide +kernel
theorem dX7_tests_39 : decode cX7_tests 39 = .ok (.iconst 1, 1) := by decide +kernel
theorem dX7_tests_40 : decode cX7_tests 40 = .ok (.goto 4, 3) := by decide +kernel
theorem dX7_tests_43 : decode cX7_tests 43 = .ok (.iconst 0, 1) := by decide +kernel
theorem dX7_tests_44 : decode cX7_tests 44 = .ok (.istore_n 2, 1) := by decide +kernel
theorem dX7_tests_45 : decode cX7_tests 45 = .ok (.iinc 3 1, 3) := by decide +kernel
theorem dX7_tests_48 : decode cX7_tests 48 = .ok (.goto (-40), 3) := by decide +kernel
theorem dX7_tests_51 : decode cX7_tests 51 = .ok (.iload_n 2, 1) := by decide +kernel
theorem dX7_tests_52 : decode cX7_tests 52 = .ok (.ireturn, 1) := by decide +kernel
theorem dX7_part_0 : decode cX7_part 0 = .ok (.aload_n 0, 1) := by decide +kernel
theorem dX7_part_1 : decode cX7_part 1 = .ok (.iload_n 1, 1) := by decide +kernel
theorem dX7_part_2 : decode cX7_part 2 = .ok (.invokevirtual 52, 3) := by decide +kernel
theorem dX7_part_5 : decode cX7_part 5 = .ok (.istore_n 2, 1) := by decide +kernel
theorem dX7_part_6 : decode cX7_part 6 = .ok (.iconst 0, 1) := by decide +kernel
theorem dX7_part_7 : decode cX7_part 7 = .ok (.istore_n 3, 1) := by decide +kernel
theorem dX7_part_8 : decode cX7_part 8 = .ok (.iload_n 3, 1) := by decide +kernel
theorem dX7_part_9 : decode cX7_part 9 = .ok (.bipush 100, 2) := by decide +kernel
theorem dX7_part_11 : decode cX7_part 11 = .ok (.if_icmp .ge 40, 3) := by decide +kernel
theorem dX7_part_14 : decode cX7_part 14 = .ok (.aload_n 0, 1) := by decide +kernel
theorem dX7_part_15 : decode cX7_part 15 = .ok (.bipush 38, 2) := by decide +kernel
theorem dX7_part_17 : decode cX7_part 17 = .ok (.invokevirtual 48, 3) := by decide +kernel
theorem dX7_part_20 : decode cX7_part 20 = .ok (.ifCond .eq 31, 3) := by decide +kernel
theorem dX7_part_23 : decode cX7_part 23 = .ok (.aload_n 0, 1) := by decide +kernel
theorem dX7_part_24 : decode cX7_part 24 = .ok (.iload_n 1, 1) := by decide +kernel
theorem dX7_part_25 : decode cX7_part 25 = .ok (.invokevirtual 52, 3) := by decide +kernel
theorem dX7_part_28 : decode cX7_part 28 = .ok (.istore 4, 2) := by decide +kernel
theorem dX7_part_30 : decode cX7_part 30 = .ok (.iload_n 2, 1) := by decide +kernel
theorem dX7_part_31 : decode cX7_part 31 = .ok (.ifCond .eq 12, 3) := by decide +kernel
theorem dX7_part_34 : decode cX7_part 34 = .ok (.iload 4, 2) := by decide +kernel
theorem dX7_part_36 : decode cX7_part 36 = .ok (.ifCond .eq 7, 3) := by decide +kernel
theorem dX7_part_39 : decode cX7_part 39 = .ok (.iconst 1, 1) := by decide +kernel
theorem dX7_part_40 : decode cX7_part 40 = .ok (.goto 4, 3) := by decide +kernel
theorem dX7_part_43 : decode cX7_part 43 = .ok (.iconst 0, 1) := by decide +kernel
theorem dX7_part_44 : decode cX7_part 44 = .ok (.istore_n 2, 1) := by decide +kernel
theorem dX7_part_45 : decode cX7_part 45 = .ok (.iinc 3 1, 3) := by decide +kernel
theorem dX7_part_48 : decode cX7_part 48 = .ok (.goto (-40), 3) := by decide +kernel
theorem dX7_part_51 : decode cX7_part 51 = .ok (.iload_n 2, 1) := by decide +kernel
theorem dX7_part_52 : decode cX7_part 52 = .ok (.ireturn, 1) := by decide +kernel
theorem dX7_unit_0 : decode cX7_unit 0 = .ok (.aload_n 0, 1) := by decide +kernel
theorem dX7_unit_1 : decode cX7_unit 1 = .ok (.invokevirtual 38, 3) := by decide +kernel
theorem dX7_unit_4 : decode cX7_unit 4 = .ok (.bipush 40, 2) := by decide +kernel
theorem dX7_unit_6 : decode cX7_unit 6 = .ok (.if_icmp .eq 8, 3) := by decide +kernel
theorem dX7_unit_9 : decode cX7_unit 9 = .ok (.aload_n 0, 1) := by decide +kernel
theorem dX7_unit_10 : decode cX7_unit 10 = .ok (.invokevirtual 55, 3) := by decide +kernel
theorem dX7_unit_13 : decode cX7_unit 13 = .ok (.ireturn, 1) := by decide +kernel
theorem dX7_unit_14 : decode cX7_unit 14 = .ok (.iload_n 1, 1) := by decide +kernel
theorem dX7_unit_15 : decode cX7_unit 15 = .ok (.bipush 8, 2) := by decide +kernel
theorem dX7_unit_17 : decode cX7_unit 17 = .ok (.if_icmp .lt 9, 3) := by decide +kernel
theorem dX7_unit_20 : decode cX7_unit 20 = .ok (.aload_n 0, 1) := by decide +kernel
theorem dX7_unit_21 : decode cX7_unit 21 = .ok (.invokevirtual 42, 3) := by decide +kernel
theorem dX7_unit_24 : decode cX7_unit 24 = .ok (.iconst 0, 1) := by decide +kernel
theorem dX7_unit_25 : decode cX7_unit 25 = .ok (.ireturn, 1) := by decide +kernel
theorem dX7_unit_26 : decode cX7_unit 26 = .ok (.aload_n 0, 1) := by decide +kernel
theorem dX7_unit_27 : decode cX7_unit 27 = .ok (.dup, 1) := by decide +kernel
theorem dX7_unit_28 : decode cX7_unit 28 = .ok (.getfield 31, 3) := by decide +kernel
theorem dX7_unit_31 : decode cX7_unit 31 = .ok (.iconst 1, 1) := by decide +kernel
theorem dX7_unit_32 : decode cX7_unit 32 = .ok (.iadd, 1) := by decide +kernel
theorem dX7_unit_33 : decode cX7_unit 33 = .ok (.putfield 31, 3) := by decide +kernel
theorem dX7_unit_36 : decode cX7_unit 36 = .ok (.aload_n 0, 1) := by decide +kernel
theorem dX7_unit_37 : decode cX7_unit 37 = .ok (.iload_n 1, 1) := by decide +kernel
theorem dX7_unit_38 : decode cX7_unit 38 = .ok (.iconst 1, 1) := by decide +kernel
theorem dX7_unit_39 : decode cX7_unit 39 = .ok (.iadd, 1) := by decide +kernel
theorem dX7_unit_40 : decode cX7_unit 40 = .ok (.invokevirtual 34, 3) := by decide +kernel
theorem dX7_unit_43 : decode cX7_unit 43 = .ok (.istore_n 2, 1) := by decide +kernel
theorem dX7_unit_44 : decode cX7_unit 44 = .ok (.aload_n 0, 1) := by decide +kernel
theorem dX7_unit_45 : decode cX7_unit 45 = .ok (.bipush 41, 2) := by decide +kernel
theorem dX7_unit_47 : decode cX7_unit 47 = .ok (.invokevirtual 48, 3) := by decide +kernel
theorem dX7_unit_50 : decode cX7_unit 50 = .ok (.ifCond .ne 7, 3) := by decide +kernel
theorem dX7_unit_53 : decode cX7_unit 53 = .ok (.aload_n 0, 1) := by decide +kernel
theorem dX7_unit_54 : decode cX7_unit 54 = .ok (.invokevirtual 42, 3) := by decide +kernel
theorem dX7_unit_57 : decode cX7_unit 57 = .ok (.iload_n 2, 1) := by decide +kernel
theorem dX7_unit_58 : decode cX7_unit 58 = .ok (.ireturn, 1) := by decide +kernel
theorem dX7_test_0 : decode cX7_test 0 = .ok (.aload_n 0, 1) := by decide +kernel
theorem dX7_test_1 : decode cX7_test 1 = .ok (.invokevirtual 59, 3) := by decide +kernel
theorem dX7_test_4 : decode cX7_test 4 = .ok (.istore_n 1, 1) := by decide +kernel
theorem dX7_test_5 : decode cX7_test 5 = .ok (.aload_n 0, 1) := by decide +kernel
theorem dX7_test_6 : decode cX7_test 6 = .ok (.bipush 61, 2) := by decide +kernel
theorem dX7_test_8 : decode cX7_test 8 = .ok (.invokevirtual 48, 3) := by decide +kernel
theorem dX7_test_11 : decode cX7_test 11 = .ok (.ifCond .eq 17, 3) := by decide +kernel
theorem dX7_test_14 : decode cX7_test 14 = .ok (.iload_n 1, 1) := by decide +kernel
theorem dX7_test_15 : decode cX7_test 15 = .ok (.aload_n 0, 1) := by decide +kernel
theorem dX7_test_16 : decode cX7_test 16 = .ok (.invokevirtual 62, 3) := by decide +kernel
theorem dX7_test_19 : decode cX7_test 19 = .ok (.if_icmp .ne 7, 3) := by decide +kernel
theorem dX7_test_22 : decode cX7_test 22 = .ok (.iconst 1, 1) := by decide +kernel
theorem dX7_test_23 : decode cX7_test 23 = .ok (.goto 4, 3) := by decide +kernel
theorem dX7_test_26 : decode cX7_test 26 = .ok (.iconst 0, 1) := by decide +kernel
theorem dX7_test_27 : decode cX7_test 27 = .ok (.ireturn, 1) := by decide +kernel
theorem dX7_test_28 : decode cX7_test 28 = .ok (.aload_n 0, 1) := by decide +kernel
theorem dX7_test_29 : decode cX7_test 29 = .ok (.bipush 60, 2) := by decide +kernel
theorem dX7_test_31 : decode cX7_test 31 = .ok (.invokevirtual 48, 3) := by decide +kernel
theorem dX7_test_34 : decode cX7_test 34 = .ok (.ifCond .eq 17, 3) := by decide +kernel
theorem dX7_test_37 : decode cX7_test 37 = .ok (.iload_n 1, 1) := by decide +kernel
theorem dX7_test_38 : decode cX7_test 38 = .ok (.aload_n 0, 1) := by decide +kernel
theorem dX7_test_39 : decode cX7_test 39 = .ok (.invokevirtual 62, 3) := by decide +kernel
theorem dX7_test_42 : decode cX7_test 42 = .ok (.if_icmp .ge 7, 3) := by decide +kernel
theorem dX7_test_45 : decode cX7_test 45 = .ok (.iconst 1, 1) := by decide +kernel
theorem dX7_test_46 : decode cX7_test 46 = .ok (.goto 4, 3) := by decide +kernel
theorem dX7_test_49 : decode cX7_test 49 = .ok (.iconst 0, 1) := by decide +kernel
theorem dX7_test_50 : decode cX7_test 50 = .ok (.ireturn, 1) := by decide +kernel
theorem dX7_test_51 : decode cX7_test 51 = .ok (.aload_n 0, 1) := by decide +kernel
theorem dX7_test_52 : decode cX7_test 52 = .ok (.bipush 62, 2) := by decide +kernel
theorem dX7_test_54 : decode cX7_test 54 = .ok (.invokevirtual 48, 3) := by decide +kernel
theorem dX7_test_57 : decode cX7_test 57 = .ok (.ifCond .eq 17, 3) := by decide +kernel
theorem dX7_test_60 : decode cX7_test 60 = .ok (.iload_n 1, 1) := by decide +kernel
theorem dX7_test_61 : decode cX7_test 61 = .ok (.aload_n 0, 1) := by decide +kernel
theorem dX7_test_62 : decode cX7_test 62 = .ok (.invokevirtual 62, 3) := by decide +kernel
theorem dX7_test_65 : decode cX7_test 65 = .ok (.if_icmp .le 7, 3) := by decide +kernel
theorem dX7_test_68 : decode cX7_test 68 = .ok (.iconst 1, 1) := by decide +kernel
theorem dX7_test_69 : decode cX7_test 69 = .ok (.goto 4, 3) := by decide +kernel
theorem dX7_test_72 : decode cX7_test 72 = .ok (.iconst 0, 1) := by decide +kernel
theorem dX7_test_73 : decode cX7_test 73 = .ok (.ireturn, 1) := by decide +kernel
theorem dX7_test_74 : decode cX7_test 74 = .ok (.aload_n 0, 1) := by decide +kernel
theorem dX7_test_75 : decode cX7_test 75 = .ok (.invokevirtual 42, 3) := by decide +kernel
theorem dX7_test_78 : decode cX7_test 78 = .ok (.iconst 0, 1) := by decide +kernel
theorem dX7_test_79 : decode cX7_test 79 = .ok (.ireturn, 1) := by decide +kernel
theorem dX7_letterValue_0 : decode cX7_letterValue 0 = .ok (.aload_n 0, 1) := by decide +kernel
theorem dX7_letterValue_1 : decode cX7_letterValue 1 = .ok (.invokevirtual 38, 3) := by decide +kernel
theorem dX7_letterValue_4 : decode cX7_letterValue 4 = .ok (.istore_n 1, 1) := by decide +kernel
theorem dX7_letterValue_5 : decode cX7_letterValue 5 = .ok (.iconst 0, 1) := by decide +kernel
theorem dX7_letterValue_6 : decode cX7_letterValue 6 = .ok (.istore_n 2, 1) := by decide +kernel
theorem dX7_letterValue_7 : decode cX7_letterValue 7 = .ok (.iload_n 2, 1) := by decide +kernel
theorem dX7_letterValue_8 : decode cX7_letterValue 8 = .ok (.getstatic 9, 3) := by decide +kernel
theorem dX7_letterValue_11 : decode cX7_letterValue 11 = .ok (.arraylength, 1) := by decide +kernel
theorem dX7_letterValue_12 : decode cX7_letterValue 12 = .ok (.if_icmp .ge 35, 3) := by decide +kernel
theorem dX7_letterValue_15 : decode cX7_letterValue 15 = .ok (.getstatic 9, 3) := by decide +kernel
theorem dX7_letterValue_18 : decode cX7_letterValue 18 = .ok (.iload_n 2, 1) := by decide +kernel
theorem dX7_letterValue_19 : decode cX7_letterValue 19 = .ok (.caload, 1) := by decide +kernel
theorem dX7_letterValue_20 : decode cX7_letterValue 20 = .ok (.iload_n 1, 1) := by decide +kernel
theorem dX7_letterValue_21 : decode cX7_letterValue 21 = .ok (.if_icmp .ne 20, 3) := by decide +kernel
theorem dX7_letterValue_24 : decode cX7_letterValue 24 = .ok (.aload_n 0, 1) := by decide +kernel
theorem dX7_letterValue_25 : decode cX7_letterValue 25 = .ok (.dup, 1) := by decide +kernel
theorem dX7_letterValue_26 : decode cX7_letterValue 26 = .ok (.getfield 31, 3) := by decide +kernel
theorem dX7_letterValue_29 : decode cX7_letterValue 29 = .ok (.iconst 1, 1) := by decide +kernel
theorem dX7_letterValue_30 : decode cX7_letterValue 30 = .ok (.iadd, 1) := by decide +kernel
theorem dX7_letterValue_31 : decode cX7_letterValue 31 = .ok (.putfield 31, 3) := by decide +kernel
theorem dX7_letterValue_34 : decode cX7_letterValue 34 = .ok (.aload_n 0, 1) := by decide +kernel
theorem dX7_letterValue_35 : decode cX7_letterValue 35 = .ok (.getfield 15, 3) := by decide +kernel
theorem dX7_letterValue_38 : decode cX7_letterValue 38 = .ok (.iload_n 2, 1) := by decide +kernel
theorem dX7_letterValue_39 : decode cX7_letterValue 39 = .ok (.iaload, 1) := by decide +kernel
theorem dX7_letterValue_40 : decode cX7_letterValue 40 = .ok (.ireturn, 1) := by decide +kernel
theorem dX7_letterValue_41 : decode cX7_letterValue 41 = .ok (.iinc 2 1, 3) := by decide +kernel
theorem dX7_letterValue_44 : decode cX7_letterValue 44 = .ok (.goto (-37), 3) := by decide +kernel
theorem dX7_letterValue_47 : decode cX7_letterValue 47 = .ok (.aload_n 0, 1) := by decide +kernel
theorem dX7_letterValue_48 : decode cX7_letterValue 48 = .ok (.invokevirtual 42, 3) := by decide +kernel
theorem dX7_letterValue_51 : decode cX7_letterValue 51 = .ok (.iconst 0, 1) := by decide +kernel
theorem dX7_letterValue_52 : decode cX7_letterValue 52 = .ok (.ireturn, 1) := by decide +kernel
theorem dX7_number_0 : decode cX7_number 0 = .ok (.aload_n 0, 1) := by decide +kernel
theorem dX7_number_1 : decode cX7_number 1 = .ok (.invokevirtual 38, 3) := by decide +kernel
theorem dX7_number_4 : decode cX7_number 4 = .ok (.invokestatic 65, 3) := by decide +kernel
theorem dX7_number_7 : decode cX7_number 7 = .ok (.ifCond .ne 9, 3) := by decide +kernel
theorem dX7_number_10 : decode cX7_number 10 = .ok (.aload_n 0, 1) := by decide +kernel
theorem dX7_number_11 : decode cX7_number 11 = .ok (.invokevirtual 42, 3) := by decide +kernel
theorem dX7_number_14 : decode cX7_number 14 = .ok (.iconst 0, 1) := by decide +kernel
theorem dX7_number_15 : decode cX7_number 15 = .ok (.ireturn, 1) := by decide +kernel
theorem dX7_number_16 : decode cX7_number 16 = .ok (.iconst 0, 1) := by decide +kernel
theorem dX7_number_17 : decode cX7_number 17 = .ok (.istore_n 1, 1) := by decide +kernel
theorem dX7_number_18 : decode cX7_number 18 = .ok (.iconst 0, 1) := by decide +kernel
theorem dX7_number_19 : decode cX7_number 19 = .ok (.istore_n 2, 1) := by decide +kernel
theorem dX7_number_20 : decode cX7_number 20 = .ok (.iload_n 2, 1) := by decide +kernel
theorem dX7_number_21 : decode cX7_number 21 = .ok (.iconst 4, 1) := by decide +kernel
theorem dX7_number_22 : decode cX7_number 22 = .ok (.if_icmp .ge 56, 3) := by decide +kernel
theorem dX7_number_25 : decode cX7_number 25 = .ok (.aload_n 0, 1) := by decide +kernel
theorem dX7_number_26 : decode cX7_number 26 = .ok (.getfield 19, 3) := by decide +kernel
theorem dX7_number_29 : decode cX7_number 29 = .ok (.aload_n 0, 1) := by decide +kernel
theorem dX7_number_30 : decode cX7_number 30 = .ok (.getfield 31, 3) := by decide +kernel
theorem dX7_number_33 : decode cX7_number 33 = .ok (.invokevirtual 68, 3) := by decide +kernel
theorem dX7_number_36 : decode cX7_number 36 = .ok (.invokestatic 65, 3) := by decide +kernel
theorem dX7_number_39 : decode cX7_number 39 = .ok (.ifCond .eq 39, 3) := by decide +kernel
theorem dX7_number_42 : decode cX7_number 42 = .ok (.bipush 10, 2) := by decide +kernel
theorem dX7_number_44 : decode cX7_number 44 = .ok (.iload_n 1, 1) := by decide +kernel
theorem dX7_number_45 : decode cX7_number 45 = .ok (.imul, 1) := by decide +kernel
theorem dX7_number_46 : decode cX7_number 46 = .ok (.aload_n 0, 1) := by decide +kernel
theorem dX7_number_47 : decode cX7_number 47 = .ok (.getfield 19, 3) := by decide +kernel
theorem dX7_number_50 : decode cX7_number 50 = .ok (.aload_n 0, 1) := by decide +kernel
theorem dX7_number_51 : decode cX7_number 51 = .ok (.getfield 31, 3) := by decide +kernel
theorem dX7_number_54 : decode cX7_number 54 = .ok (.invokevirtual 68, 3) := by decide +kernel
theorem dX7_number_57 : decode cX7_number 57 = .ok (.iadd, 1) := by decide +kernel
theorem dX7_number_58 : decode cX7_number 58 = .ok (.bipush 48, 2) := by decide +kernel
theorem dX7_number_60 : decode cX7_number 60 = .ok (.isub, 1) := by decide +kernel
theorem dX7_number_61 : decode cX7_number 61 = .ok (.istore_n 1, 1) := by decide +kernel
theorem dX7_number_62 : decode cX7_number 62 = .ok (.aload_n 0, 1) := by decide +kernel
theorem dX7_number_63 : decode cX7_number 63 = .ok (.dup, 1) := by decide +kernel
theorem dX7_number_64 : decode cX7_number 64 = .ok (.getfield 31, 3) := by decide +kernel
theorem dX7_number_67 : decode cX7_number 67 = .ok (.iconst 1, 1) := by decide +kernel
theorem dX7_number_68 : decode cX7_number 68 = .ok (.iadd, 1) := by decide +kernel
theorem dX7_number_69 : decode cX7_number 69 = .ok (.putfield 31, 3) := by decide +kernel
theorem dX7_number_72 : decode cX7_number 72 = .ok (.iinc 2 1, 3) := by decide +kernel
theorem dX7_number_75 : decode cX7_number 75 = .ok (.goto (-55), 3) := by decide +kernel
theorem dX7_number_78 : decode cX7_number 78 = .ok (.iload_n 1, 1) := by decide +kernel
theorem dX7_number_79 : decode cX7_number 79 = .ok (.ireturn, 1) := by decide +kernel
theorem dX7_isDigit_0 : decode cX7_isDigit 0 = .ok (.iload_n 0, 1) := by decide +kernel
theorem dX7_isDigit_1 : decode cX7_isDigit 1 = .ok (.bipush 48, 2) := by decide +kernel
theorem dX7_isDigit_3 : decode cX7_isDigit 3 = .ok (.bipush 57, 2) := by decide +kernel
theorem dX7_isDigit_5 : decode cX7_isDigit 5 = .ok (.invokestatic 74, 3) := by decide +kernel
theorem dX7_isDigit_8 : decode cX7_isDigit 8 = .ok (.ireturn, 1) := by decide +kernel
theorem dX7_take_0 : decode cX7_take 0 = .ok (.aload_n 0, 1) := by decide +kernel
theorem dX7_take_1 : decode cX7_take 1 = .ok (.invokevirtual 38, 3) := by decide +kernel
theorem dX7_take_4 : decode cX7_take 4 = .ok (.iload_n 1, 1) := by decide +kernel
theorem dX7_take_5 : decode cX7_take 5 = .ok (.if_icmp .ne 7, 3) := by decide +kernel
theorem dX7_take_8 : decode cX7_take 8 = .ok (.iconst 1, 1) := by decide +kernel
theorem dX7_take_9 : decode cX7_take 9 = .ok (.goto 4, 3) := by decide +kernel
theorem dX7_take_12 : decode cX7_take 12 = .ok (.iconst 0, 1) := by decide +kernel
theorem dX7_take_13 : decode cX7_take 13 = .ok (.istore_n 2, 1) := by decide +kernel
theorem dX7_take_14 : decode cX7_take 14 = .ok (.aload_n 0, 1) := by decide +kernel
theorem dX7_take_15 : decode cX7_take 15 = .ok (.dup, 1) := by decide +kernel
theorem dX7_take_16 : decode cX7_take 16 = .ok (.getfield 31, 3) := by decide +kernel
theorem dX7_take_19 : decode cX7_take 19 = .ok (.iload_n 2, 1) := by decide +kernel
theorem dX7_take_20 : decode cX7_take 20 = .ok (.ifCond .eq 7, 3) := by decide +kernel
theorem dX7_take_23 : decode cX7_take 23 = .ok (.iconst 1, 1) := by decide +kernel
theorem dX7_take_24 : decode cX7_take 24 = .ok (.goto 4, 3) := by decide +kernel
theorem dX7_take_27 : decode cX7_take 27 = .ok (.iconst 0, 1) := by decide +kernel
theorem dX7_take_28 : decode cX7_take 28 = .ok (.iadd, 1) := by decide +kernel
theorem dX7_take_29 : decode cX7_take 29 = .ok (.putfield 31, 3) := by decide +kernel
theorem dX7_take_32 : decode cX7_take 32 = .ok (.iload_n 2, 1) := by decide +kernel
theorem dX7_take_33 : decode cX7_take 33 = .ok (.ireturn, 1) := by decide +kernel
theorem dX7_next_0 : decode cX7_next 0 = .ok (.aload_n 0, 1) := by decide +kernel
theorem dX7_next_1 : decode cX7_next 1 = .ok (.getfield 31, 3) := by decide +kernel
theorem dX7_next_4 : decode cX7_next 4 = .ok (.aload_n 0, 1) := by decide +kernel
theorem dX7_next_5 : decode cX7_next 5 = .ok (.getfield 19, 3) := by decide +kernel
theorem dX7_next_8 : decode cX7_next 8 = .ok (.getfield 78, 3) := by decide +kernel
theorem dX7_next_11 : decode cX7_next 11 = .ok (.if_icmp .ge 32, 3) := by decide +kernel
theorem dX7_next_14 : decode cX7_next 14 = .ok (.aload_n 0, 1) := by decide +kernel
theorem dX7_next_15 : decode cX7_next 15 = .ok (.getfield 19, 3) := by decide +kernel
theorem dX7_next_18 : decode cX7_next 18 = .ok (.aload_n 0, 1) := by decide +kernel
theorem dX7_next_19 : decode cX7_next 19 = .ok (.getfield 31, 3) := by decide +kernel
theorem dX7_next_22 : decode cX7_next 22 = .ok (.invokevirtual 68, 3) := by decide +kernel
theorem dX7_next_25 : decode cX7_next 25 = .ok (.bipush 32, 2) := by decide +kernel
theorem dX7_next_27 : decode cX7_next 27 = .ok (.if_icmp .ne 16, 3) := by decide +kernel
theorem dX7_next_30 : decode cX7_next 30 = .ok (.aload_n 0, 1) := by decide +kernel
theorem dX7_next_31 : decode cX7_next 31 = .ok (.dup, 1) := by decide +kernel
theorem dX7_next_32 : decode cX7_next 32 = .ok (.getfield 31, 3) := by decide +kernel
theorem dX7_next_35 : decode cX7_next 35 = .ok (.iconst 1, 1) := by decide +kernel
theorem dX7_next_36 : decode cX7_next 36 = .ok (.iadd, 1) := by decide +kernel
theorem dX7_next_37 : decode cX7_next 37 = .ok (.putfield 31, 3) := by decide +kernel
theorem dX7_next_40 : decode cX7_next 40 = .ok (.goto (-40), 3) := by decide +kernel
theorem dX7_next_43 : decode cX7_next 43 = .ok (.aload_n 0, 1) := by decide +kernel
theorem dX7_next_44 : decode cX7_next 44 = .ok (.getfield 27, 3) := by decide +kernel
theorem dX7_next_47 : decode cX7_next 47 = .ok (.iconst (-1), 1) := by decide +kernel
theorem dX7_next_48 : decode cX7_next 48 = .ok (.if_icmp .ne 17, 3) := by decide +kernel
theorem dX7_next_51 : decode cX7_next 51 = .ok (.aload_n 0, 1) := by decide +kernel
theorem dX7_next_52 : decode cX7_next 52 = .ok (.getfield 19, 3) := by decide +kernel
theorem dX7_next_55 : decode cX7_next 55 = .ok (.aload_n 0, 1) := by decide +kernel
theorem dX7_next_56 : decode cX7_next 56 = .ok (.getfield 31, 3) := by decide +kernel
theorem dX7_next_59 : decode cX7_next 59 = .ok (.invokevirtual 68, 3) := by decide +kernel
theorem dX7_next_62 : decode cX7_next 62 = .ok (.goto 4, 3) := by decide +kernel
theorem dX7_next_65 : decode cX7_next 65 = .ok (.iconst (-1), 1) := by decide +kernel
theorem dX7_next_66 : decode cX7_next 66 = .ok (.ireturn, 1) := by decide +kernel
theorem dX7_fail_0 : decode cX7_fail 0 = .ok (.aload_n 0, 1) := by decide +kernel
theorem dX7_fail_1 : decode cX7_fail 1 = .ok (.getfield 27, 3) := by decide +kernel
theorem dX7_fail_4 : decode cX7_fail 4 = .ok (.iconst (-1), 1) := by decide +kernel
theorem dX7_fail_5 : decode cX7_fail 5 = .ok (.if_icmp .ne 11, 3) := by decide +kernel
theorem dX7_fail_8 : decode cX7_fail 8 = .ok (.aload_n 0, 1) := by decide +kernel
theorem dX7_fail_9 : decode cX7_fail 9 = .ok (.aload_n 0, 1) := by decide +kernel
theorem dX7_fail_10 : decode cX7_fail 10 = .ok (.getfield 31, 3) := by decide +kernel
theorem dX7_fail_13 : decode cX7_fail 13 = .ok (.putfield 27, 3) := by decide +kernel
theorem dX7_fail_16 : decode cX7_fail 16 = .ok (.return_, 1) := by decide +kernel
theorem dX8_init_0 : decode cX8_init 0 = .ok (.aload_n 0, 1) := by decide +kernel
theorem dX8_init_1 : decode cX8_init 1 = .ok (.invokespecial 3, 3) := by decide +kernel
theorem dX8_init_4 : decode cX8_init 4 = .ok (.aload_n 0, 1) := by decide +kernel
theorem dX8_init_5 : decode cX8_init 5 = .ok (.bipush 100, 2) := by decide +kernel
theorem dX8_init_7 : decode cX8_init 7 = .ok (.newarray .byte, 2) := by decide +kernel
theorem dX8_init_9 : decode cX8_init 9 = .ok (.putfield 9, 3) := by decide +kernel
theorem dX8_init_12 : decode cX8_init 12 = .ok (.return_, 1) := by decide +kernel
theorem dX8_add_0 : decode cX8_add 0 = .ok (.iload_n 1, 1) := by decide +kernel
theorem dX8_add_1 : decode cX8_add 1 = .ok (.ifCond .eq 36, 3) := by decide +kernel
theorem dX8_add_4 : decode cX8_add 4 = .ok (.aload_n 0, 1) := by decide +kernel
theorem dX8_add_5 : decode cX8_add 5 = .ok (.getfield 15, 3) := by decide +kernel
theorem dX8_add_8 : decode cX8_add 8 = .ok (.aload_n 0, 1) := by decide +kernel
theorem dX8_add_9 : decode cX8_add 9 = .ok (.getfield 9, 3) := by decide +kernel
theorem dX8_add_12 : decode cX8_add 12 = .ok (.arraylength, 1) := by decide +kernel
theorem dX8_add_13 : decode cX8_add 13 = .ok (.if_icmp .ge 24, 3) := by decide +kernel
theorem dX8_add_16 : decode cX8_add 16 = .ok (.aload_n 0, 1) := by decide +kernel
theorem dX8_add_17 : decode cX8_add 17 = .ok (.getfield 9, 3) := by decide +kernel
theorem dX8_add_20 : decode cX8_add 20 = .ok (.aload_n 0, 1) := by decide +kernel
theorem dX8_add_21 : decode cX8_add 21 = .ok (.getfield 15, 3) := by decide +kernel
theorem dX8_add_24 : decode cX8_add 24 = .ok (.iload_n 1, 1) := by decide +kernel
theorem dX8_add_25 : decode cX8_add 25 = .ok (.i2b, 1) := by decide +kernel
theorem dX8_add_26 : decode cX8_add 26 = .ok (.bastore, 1) := by decide +kernel
theorem dX8_add_27 : decode cX8_add 27 = .ok (.aload_n 0, 1) := by decide +kernel
theorem dX8_add_28 : decode cX8_add 28 = .ok (.dup, 1) := by decide +kernel
theorem dX8_add_29 : decode cX8_add 29 = .ok (.getfield 15, 3) := by decide +kernel
theorem dX8_add_32 : decode cX8_add 32 = .ok (.iconst 1, 1) := by decide +kernel
theorem dX8_add_33 : decode cX8_add 33 = .ok (.iadd, 1) := by decide +kernel
theorem dX8_add_34 : decode cX8_add 34 = .ok (.putfield 15, 3) := by decide +kernel
theorem dX8_add_37 : decode cX8_add 37 = .ok (.return_, 1) := by decide +kernel
theorem dX8_byteAt_0 : decode cX8_byteAt 0 = .ok (.iload_n 1, 1) := by decide +kernel
theorem dX8_byteAt_1 : decode cX8_byteAt 1 = .ok (.iconst 0, 1) := by decide +kernel
theorem dX8_byteAt_2 : decode cX8_byteAt 2 = .ok (.aload_n 0, 1) := by decide +kernel
theorem dX8_byteAt_3 : decode cX8_byteAt 3 = .ok (.getfield 15, 3) := by decide +kernel
theorem dX8_byteAt_6 : decode cX8_byteAt 6 = .ok (.iconst 1, 1) := by decide +kernel
theorem dX8_byteAt_7 : decode cX8_byteAt 7 = .ok (.isub, 1) := by decide +kernel
theorem dX8_byteAt_8 : decode cX8_byteAt 8 = .ok (.invokestatic 19, 3) := by decide +kernel
theorem dX8_byteAt_11 : decode cX8_byteAt 11 = .ok (.ifCond .eq 25, 3) := by decide +kernel
theorem dX8_byteAt_14 : decode cX8_byteAt 14 = .ok (.iload_n 1, 1) := by decide +kernel
theorem dX8_byteAt_15 : decode cX8_byteAt 15 = .ok (.aload_n 0, 1) := by decide +kernel
theorem dX8_byteAt_16 : decode cX8_byteAt 16 = .ok (.getfield 9, 3) := by decide +kernel
theorem dX8_byteAt_19 : decode cX8_byteAt 19 = .ok (.arraylength, 1) := by decide +kernel
theorem dX8_byteAt_20 : decode cX8_byteAt 20 = .ok (.if_icmp .ge 16, 3) := by decide +kernel
theorem dX8_byteAt_23 : decode cX8_byteAt 23 = .ok (.aload_n 0, 1) := by decide +kernel
theorem dX8_byteAt_24 : decode cX8_byteAt 24 = .ok (.getfield 9, 3) := by decide +kernel
theorem dX8_byteAt_27 : decode cX8_byteAt 27 = .ok (.iload_n 1, 1) := by decide +kernel
theorem dX8_byteAt_28 : decode cX8_byteAt 28 = .ok (.baload, 1) := by decide +kernel
theorem dX8_byteAt_29 : decode cX8_byteAt 29 = .ok (.sipush 255, 3) := by decide +kernel
theorem dX8_byteAt_32 : decode cX8_byteAt 32 = .ok (.iand, 1) := by decide +kernel
theorem dX8_byteAt_33 : decode cX8_byteAt 33 = .ok (.goto 4, 3) := by decide +kernel
theorem dX8_byteAt_36 : decode cX8_byteAt 36 = .ok (.iconst (-1), 1) := by decide +kernel
theorem dX8_byteAt_37 : decode cX8_byteAt 37 = .ok (.ireturn, 1) := by decide +kernel
theorem dX9_init_0 : decode cX9_init 0 = .ok (.aload_n 0, 1) := by decide +kernel
theorem dX9_init_1 : decode cX9_init 1 = .ok (.invokespecial 1, 3) := by decide +kernel
theorem dX9_init_4 : decode cX9_init 4 = .ok (.aload_n 0, 1) := by decide +kernel
theorem dX9_init_5 : decode cX9_init 5 = .ok (.bipush 50, 2) := by decide +kernel
theorem dX9_init_7 : decode cX9_init 7 = .ok (.anewarray 9, 3) := by decide +kernel
theorem dX9_init_10 : decode cX9_init 10 = .ok (.putfield 11, 3) := by decide +kernel
theorem dX9_init_13 : decode cX9_init 13 = .ok (.aload_n 0, 1) := by decide +kernel
theorem dX9_init_14 : decode cX9_init 14 = .ok (.bipush 60, 2) := by decide +kernel
theorem dX9_init_16 : decode cX9_init 16 = .ok (.anewarray 15, 3) := by decide +kernel
theorem dX9_init_19 : decode cX9_init 19 = .ok (.putfield 17, 3) := by decide +kernel
theorem dX9_init_22 : decode cX9_init 22 = .ok (.aload_n 0, 1) := by decide +kernel
theorem dX9_init_23 : decode cX9_init 23 = .ok (.bipush 13, 2) := by decide +kernel
theorem dX9_init_25 : decode cX9_init 25 = .ok (.anewarray 21, 3) := by decide +kernel
theorem dX9_init_28 : decode cX9_init 28 = .ok (.putfield 23, 3) := by decide +kernel
theorem dX9_init_31 : decode cX9_init 31 = .ok (.aload_n 0, 1) := by decide +kernel
theorem dX9_init_32 : decode cX9_init 32 = .ok (.new 27, 3) := by decide +kernel
theorem dX9_init_35 : decode cX9_init 35 = .ok (.dup, 1) := by decide +kernel
theorem dX9_init_36 : decode cX9_init 36 = .ok (.invokespecial 29, 3) := by decide +kernel
theorem dX9_init_39 : decode cX9_init 39 = .ok (.putfield 30, 3) := by decide +kernel
theorem dX9_init_42 : decode cX9_init 42 = .ok (.aload_n 0, 1) := by decide +kernel
theorem dX9_init_43 : decode cX9_init 43 = .ok (.new 27, 3) := by decide +kernel
theorem dX9_init_46 : decode cX9_init 46 = .ok (.dup, 1) := by decide +kernel
theorem dX9_init_47 : decode cX9_init 47 = .ok (.invokespecial 29, 3) := by decide +kernel
theorem dX9_init_50 : decode cX9_init 50 = .ok (.putfield 34, 3) := by decide +kernel
theorem dX9_init_53 : decode cX9_init 53 = .ok (.aload_n 0, 1) := by decide +kernel
theorem dX9_init_54 : decode cX9_init 54 = .ok (.new 37, 3) := by decide +kernel
theorem dX9_init_57 : decode cX9_init 57 = .ok (.dup, 1) := by decide +kernel
theorem dX9_init_58 : decode cX9_init 58 = .ok (.aload_n 0, 1) := by decide +kernel
theorem dX9_init_59 : decode cX9_init 59 = .ok (.getfield 34, 3) := by decide +kernel
theorem dX9_init_62 : decode cX9_init 62 = .ok (.invokespecial 39, 3) := by decide +kernel
theorem dX9_init_65 : decode cX9_init 65 = .ok (.putfield 42, 3) := by decide +kernel
theorem dX9_init_68 : decode cX9_init 68 = .ok (.iconst 1, 1) := by decide +kernel
theorem dX9_init_69 : decode cX9_init 69 = .ok (.istore_n 1, 1) := by decide +kernel
theorem dX9_init_70 : decode cX9_init 70 = .ok (.iload_n 1, 1) := by decide +kernel
theorem dX9_init_71 : decode cX9_init 71 = .ok (.bipush 12, 2) := by decide +kernel
theorem dX9_init_73 : decode cX9_init 73 = .ok (.if_icmp .gt 22, 3) := by decide +kernel
theorem dX9_init_76 : decode cX9_init 76 = .ok (.aload_n 0, 1) := by decide +kernel
theorem dX9_init_77 : decode cX9_init 77 = .ok (.getfield 23, 3) := by decide +kernel
theorem dX9_init_80 : decode cX9_init 80 = .ok (.iload_n 1, 1) := by decide +kernel
theorem dX9_init_81 : decode cX9_init 81 = .ok (.new 21, 3) := by decide +kernel
theorem dX9_init_84 : decode cX9_init 84 = .ok (.dup, 1) := by decide +kernel
theorem dX9_init_85 : decode cX9_init 85 = .ok (.invokespecial 46, 3) := by decide +kernel
theorem dX9_init_88 : decode cX9_init 88 = .ok (.aastore, 1) := by decide +kernel
theorem dX9_init_89 : decode cX9_init 89 = .ok (.iinc 1 1, 3) := by decide +kernel
theorem dX9_init_92 : decode cX9_init 92 = .ok (.goto (-22), 3) := by decide +kernel
theorem dX9_init_95 : decode cX9_init 95 = .ok (.return_, 1) := by decide +kernel
theorem dX9_days_0 : decode cX9_days 0 = .ok (.iload_n 1, 1) := by decide +kernel
theorem dX9_days_1 : decode cX9_days 1 = .ok (.iconst 0, 1) := by decide +kernel
theorem dX9_days_2 : decode cX9_days 2 = .ok (.sipush 1000, 3) := by decide +kernel
theorem dX9_days_5 : decode cX9_days 5 = .ok (.invokestatic 47, 3) := by decide +kernel
theorem dX9_days_8 : decode cX9_days 8 = .ok (.ifCond .eq 15, 3) := by decide +kernel
theorem dX9_days_11 : decode cX9_days 11 = .ok (.aload_n 0, 1) := by decide +kernel
theorem dX9_days_12 : decode cX9_days 12 = .ok (.getfield 51, 3) := by decide +kernel
theorem dX9_days_15 : decode cX9_days 15 = .ok (.iload_n 1, 1) := by decide +kernel
theorem dX9_days_16 : decode cX9_days 16 = .ok (.iadd, 1) := by decide +kernel
theorem dX9_days_17 : decode cX9_days 17 = .ok (.sipush 2000, 3) := by decide +kernel
theorem dX9_days_20 : decode cX9_days 20 = .ok (.if_icmp .le 5, 3) := by decide +kernel
theorem dX9_days_23 : decode cX9_days 23 = .ok (.iconst (-1), 1) := by decide +kernel
theorem dX9_days_24 : decode cX9_days 24 = .ok (.ireturn, 1) := by decide +kernel
theorem dX9_days_25 : decode cX9_days 25 = .ok (.aload_n 0, 1) := by decide +kernel
theorem dX9_days_26 : decode cX9_days 26 = .ok (.dup, 1) := by decide +kernel
theorem dX9_days_27 : decode cX9_days 27 = .ok (.getfield 51, 3) := by decide +kernel
theorem dX9_days_30 : decode cX9_days 30 = .ok (.iload_n 1, 1) := by decide +kernel
theorem dX9_days_31 : decode cX9_days 31 = .ok (.iadd, 1) := by decide +kernel
theorem dX9_days_32 : decode cX9_days 32 = .ok (.putfield 51, 3) := by decide +kernel
theorem dX9_days_35 : decode cX9_days 35 = .ok (.aload_n 0, 1) := by decide +kernel
theorem dX9_days_36 : decode cX9_days 36 = .ok (.getfield 51, 3) := by decide +kernel
theorem dX9_days_39 : decode cX9_days 39 = .ok (.ireturn, 1) := by decide +kernel
theorem dX9_ballot_0 : decode cX9_ballot 0 = .ok (.iload_n 1, 1) := by decide +kernel
theorem dX9_ballot_1 : decode cX9_ballot 1 = .ok (.iconst 1, 1) := by decide +kernel
theorem dX9_ballot_2 : decode cX9_ballot 2 = .ok (.bipush 20, 2) := by decide +kernel
theorem dX9_ballot_4 : decode cX9_ballot 4 = .ok (.invokestatic 47, 3) := by decide +kernel
theorem dX9_ballot_7 : decode cX9_ballot 7 = .ok (.ifCond .eq 23, 3) := by decide +kernel
theorem dX9_ballot_10 : decode cX9_ballot 10 = .ok (.iload_n 2, 1) := by decide +kernel
theorem dX9_ballot_11 : decode cX9_ballot 11 = .ok (.iconst 0, 1) := by decide +kernel
theorem dX9_ballot_12 : decode cX9_ballot 12 = .ok (.iload_n 1, 1) := by decide +kernel
theorem dX9_ballot_13 : decode cX9_ballot 13 = .ok (.invokestatic 47, 3) := by decide +kernel
theorem dX9_ballot_16 : decode cX9_ballot 16 = .ok (.ifCond .eq 14, 3) := by decide +kernel
theorem dX9_ballot_19 : decode cX9_ballot 19 = .ok (.iload_n 3, 1) := by decide +kernel
theorem dX9_ballot_20 : decode cX9_ballot 20 = .ok (.iconst 0, 1) := by decide +kernel
theorem dX9_ballot_21 : decode cX9_ballot 21 = .ok (.iload_n 1, 1) := by decide +kernel
theorem dX9_ballot_22 : decode cX9_ballot 22 = .ok (.iload_n 2, 1) := by decide +kernel
theorem dX9_ballot_23 : decode cX9_ballot 23 = .ok (.isub, 1) := by decide +kernel
theorem dX9_ballot_24 : decode cX9_ballot 24 = .ok (.invokestatic 47, 3) := by decide +kernel
theorem dX9_ballot_27 : decode cX9_ballot 27 = .ok (.ifCond .ne 5, 3) := by decide +kernel
theorem dX9_ballot_30 : decode cX9_ballot 30 = .ok (.iconst (-1), 1) := by decide +kernel
theorem dX9_ballot_31 : decode cX9_ballot 31 = .ok (.ireturn, 1) := by decide +kernel
theorem dX9_ballot_32 : decode cX9_ballot 32 = .ok (.aload_n 0, 1) := by decide +kernel
theorem dX9_ballot_33 : decode cX9_ballot 33 = .ok (.getfield 55, 3) := by decide +kernel
theorem dX9_ballot_36 : decode cX9_ballot 36 = .ok (.bipush 50, 2) := by decide +kernel
theorem dX9_ballot_38 : decode cX9_ballot 38 = .ok (.if_icmp .lt 5, 3) := by decide +kernel
theorem dX9_ballot_41 : decode cX9_ballot 41 = .ok (.iconst (-1), 1) := by decide +kernel
theorem dX9_ballot_42 : decode cX9_ballot 42 = .ok (.ireturn, 1) := by decide +kernel
theorem dX9_ballot_43 : decode cX9_ballot 43 = .ok (.aload_n 0, 1) := by decide +kernel
theorem dX9_ballot_44 : decode cX9_ballot 44 = .ok (.getfield 11, 3) := by decide +kernel
theorem dX9_ballot_47 : decode cX9_ballot 47 = .ok (.aload_n 0, 1) := by decide +kernel
theorem dX9_ballot_48 : decode cX9_ballot 48 = .ok (.getfield 55, 3) := by decide +kernel
theorem dX9_ballot_51 : decode cX9_ballot 51 = .ok (.new 9, 3) := by decide +kernel
theorem dX9_ballot_54 : decode cX9_ballot 54 = .ok (.dup, 1) := by decide +kernel
theorem dX9_ballot_55 : decode cX9_ballot 55 = .ok (.iload_n 1, 1) := by decide +kernel
theorem dX9_ballot_56 : decode cX9_ballot 56 = .ok (.iload_n 2, 1) := by decide +kernel
theorem dX9_ballot_57 : decode cX9_ballot 57 = .ok (.iload_n 3, 1) := by decide +kernel
theorem dX9_ballot_58 : decode cX9_ballot 58 = .ok (.lload 4, 2) := by decide +kernel
theorem dX9_ballot_60 : decode cX9_ballot 60 = .ok (.invokespecial 58, 3) := by decide +kernel
theorem dX9_ballot_63 : decode cX9_ballot 63 = .ok (.aastore, 1) := by decide +kernel
theorem dX9_ballot_64 : decode cX9_ballot 64 = .ok (.aload_n 0, 1) := by decide +kernel
theorem dX9_ballot_65 : decode cX9_ballot 65 = .ok (.dup, 1) := by decide +kernel
theorem dX9_ballot_66 : decode cX9_ballot 66 = .ok (.getfield 55, 3) := by decide +kernel
theorem dX9_ballot_69 : decode cX9_ballot 69 = .ok (.iconst 1, 1) := by decide +kernel
theorem dX9_ballot_70 : decode cX9_ballot 70 = .ok (.iadd, 1) := by decide +kernel
theorem dX9_ballot_71 : decode cX9_ballot 71 = .ok (.putfield 55, 3) := by decide +kernel
theorem dX9_ballot_74 : decode cX9_ballot 74 = .ok (.aload_n 0, 1) := by decide +kernel
theorem dX9_ballot_75 : decode cX9_ballot 75 = .ok (.getfield 55, 3) := by decide +kernel
theorem dX9_ballot_78 : decode cX9_ballot 78 = .ok (.iconst 1, 1) := by decide +kernel
theorem dX9_ballot_79 : decode cX9_ballot 79 = .ok (.isub, 1) := by decide +kernel
theorem dX9_ballot_80 : decode cX9_ballot 80 = .ok (.ireturn, 1) := by decide +kernel
theorem dX9_ball_0 : decode cX9_ball 0 = .ok (.aload_n 0, 1) := by decide +kernel
theorem dX9_ball_1 : decode cX9_ball 1 = .ok (.iload_n 1, 1) := by decide +kernel
theorem dX9_ball_2 : decode cX9_ball 2 = .ok (.invokevirtual 61, 3) := by decide +kernel
theorem dX9_ball_5 : decode cX9_ball 5 = .ok (.astore_n 3, 1) := by decide +kernel
theorem dX9_ball_6 : decode cX9_ball 6 = .ok (.aload_n 3, 1) := by decide +kernel
theorem dX9_ball_7 : decode cX9_ball 7 = .ok (.ifnonnull 7, 3) := by decide +kernel
theorem dX9_ball_10 : decode cX9_ball 10 = .ok (.iconst (-1), 1) := by decide +kernel
theorem dX9_ball_11 : decode cX9_ball 11 = .ok (.goto 8, 3) := by decide +kernel
theorem dX9_ball_14 : decode cX9_ball 14 = .ok (.aload_n 3, 1) := by decide +kernel
theorem dX9_ball_15 : decode cX9_ball 15 = .ok (.iload_n 2, 1) := by decide +kernel
theorem dX9_ball_16 : decode cX9_ball 16 = .ok (.invokevirtual 65, 3) := by decide +kernel
theorem dX9_ball_19 : decode cX9_ball 19 = .ok (.ireturn, 1) := by decide +kernel
theorem dX9_away_0 : decode cX9_away 0 = .ok (.aload_n 0, 1) := by decide +kernel
theorem dX9_away_1 : decode cX9_away 1 = .ok (.iload_n 1, 1) := by decide +kernel
theorem dX9_away_2 : decode cX9_away 2 = .ok (.invokevirtual 61, 3) := by decide +kernel
theorem dX9_away_5 : decode cX9_away 5 = .ok (.astore_n 3, 1) := by decide +kernel
theorem dX9_away_6 : decode cX9_away 6 = .ok (.aload_n 3, 1) := by decide +kernel
theorem dX9_away_7 : decode cX9_away 7 = .ok (.ifnull 11, 3) := by decide +kernel
theorem dX9_away_10 : decode cX9_away 10 = .ok (.aload_n 3, 1) := by decide +kernel
theorem dX9_away_11 : decode cX9_away 11 = .ok (.iload_n 2, 1) := by decide +kernel
theorem dX9_away_12 : decode cX9_away 12 = .ok (.invokevirtual 65, 3) := by decide +kernel
theorem dX9_away_15 : decode cX9_away 15 = .ok (.ifCond .eq 6, 3) := by decide +kernel
theorem dX9_away_18 : decode cX9_away 18 = .ok (.bipush (-2), 2) := by decide +kernel
theorem dX9_away_20 : decode cX9_away 20 = .ok (.ireturn, 1) := by decide +kernel
theorem dX9_away_21 : decode cX9_away 21 = .ok (.aload_n 3, 1) := by decide +kernel
theorem dX9_away_22 : decode cX9_away 22 = .ok (.iload_n 2, 1) := by decide +kernel
theorem dX9_away_23 : decode cX9_away 23 = .ok (.invokevirtual 69, 3) := by decide +kernel
theorem dX9_away_26 : decode cX9_away 26 = .ok (.ireturn, 1) := by decide +kernel
theorem dX9_leave_0 : decode cX9_leave 0 = .ok (.aload_n 0, 1) := by decide +kernel
theorem dX9_leave_1 : decode cX9_leave 1 = .ok (.iload_n 1, 1) := by decide +kernel
theorem dX9_leave_2 : decode cX9_leave 2 = .ok (.invokevirtual 61, 3) := by decide +kernel
theorem dX9_leave_5 : decode cX9_leave 5 = .ok (.astore 7, 2) := by decide +kernel
theorem dX9_leave_7 : decode cX9_leave 7 = .ok (.aload 7, 2) := by decide +kernel
theorem dX9_leave_9 : decode cX9_leave 9 = .ok (.ifnull 12, 3) := by decide +kernel
theorem dX9_leave_12 : decode cX9_leave 12 = .ok (.aload 7, 2) := by decide +kernel
theorem dX9_leave_14 : decode cX9_leave 14 = .ok (.iload_n 2, 1) := by decide +kernel
theorem dX9_leave_15 : decode cX9_leave 15 = .ok (.invokevirtual 65, 3) := by decide +kernel
theorem dX9_leave_18 : decode cX9_leave 18 = .ok (.ifCond .eq 5, 3) := by decide +kernel
theorem dX9_leave_21 : decode cX9_leave 21 = .ok (.iconst (-1), 1) := by decide +kernel
theorem dX9_leave_22 : decode cX9_leave 22 = .ok (.ireturn, 1) := by decide +kernel
theorem dX9_leave_23 : decode cX9_leave 23 = .ok (.iload_n 3, 1) := by decide +kernel
theorem dX9_leave_24 : decode cX9_leave 24 = .ok (.iconst 0, 1) := by decide +kernel
theorem dX9_leave_25 : decode cX9_leave 25 = .ok (.iconst 1, 1) := by decide +kernel
theorem dX9_leave_26 : decode cX9_leave 26 = .ok (.invokestatic 47, 3) := by decide +kernel
theorem dX9_leave_29 : decode cX9_leave 29 = .ok (.ifCond .eq 24, 3) := by decide +kernel
theorem dX9_leave_32 : decode cX9_leave 32 = .ok (.iload 4, 2) := by decide +kernel
theorem dX9_leave_34 : decode cX9_leave 34 = .ok (.iconst 0, 1) := by decide +kernel
theorem dX9_leave_35 : decode cX9_leave 35 = .ok (.bipush 9, 2) := by decide +kernel
theorem dX9_leave_37 : decode cX9_leave 37 = .ok (.invokestatic 47, 3) := by decide +kernel
theorem dX9_leave_40 : decode cX9_leave 40 = .ok (.ifCond .eq 13, 3) := by decide +kernel
theorem dX9_leave_43 : decode cX9_leave 43 = .ok (.iload 5, 2) := by decide +kernel
theorem dX9_leave_45 : decode cX9_leave 45 = .ok (.iload 6, 2) := by decide +kernel
theorem dX9_leave_47 : decode cX9_leave 47 = .ok (.invokestatic 72, 3) := by decide +kernel
theorem dX9_leave_50 : decode cX9_leave 50 = .ok (.ifCond .ne 5, 3) := by decide +kernel
theorem dX9_leave_53 : decode cX9_leave 53 = .ok (.iconst (-1), 1) := by decide +kernel
theorem dX9_leave_54 : decode cX9_leave 54 = .ok (.ireturn, 1) := by decide +kernel
theorem dX9_leave_55 : decode cX9_leave 55 = .ok (.aload_n 0, 1) := by decide +kernel
theorem dX9_leave_56 : decode cX9_leave 56 = .ok (.getfield 78, 3) := by decide +kernel
theorem dX9_leave_59 : decode cX9_leave 59 = .ok (.bipush 60, 2) := by decide +kernel
theorem dX9_leave_61 : decode cX9_leave 61 = .ok (.if_icmp .lt 5, 3) := by decide +kernel
theorem dX9_leave_64 : decode cX9_leave 64 = .ok (.iconst (-1), 1) := by decide +kernel
theorem dX9_leave_65 : decode cX9_leave 65 = .ok (.ireturn, 1) := by decide +kernel
theorem dX9_leave_66 : decode cX9_leave 66 = .ok (.aload 7, 2) := by decide +kernel
theorem dX9_leave_68 : decode cX9_leave 68 = .ok (.iload_n 2, 1) := by decide +kernel
theorem dX9_leave_69 : decode cX9_leave 69 = .ok (.iconst 4, 1) := by decide +kernel
theorem dX9_leave_70 : decode cX9_leave 70 = .ok (.invokevirtual 81, 3) := by decide +kernel
theorem dX9_leave_73 : decode cX9_leave 73 = .ok (.aload_n 0, 1) := by decide +kernel
theorem dX9_leave_74 : decode cX9_leave 74 = .ok (.getfield 17, 3) := by decide +kernel
theorem dX9_leave_77 : decode cX9_leave 77 = .ok (.aload_n 0, 1) := by decide +kernel
theorem dX9_leave_78 : decode cX9_leave 78 = .ok (.getfield 78, 3) := by decide +kernel
theorem dX9_leave_81 : decode cX9_leave 81 = .ok (.new 15, 3) := by decide +kernel
theorem dX9_leave_84 : decode cX9_leave 84 = .ok (.dup, 1) := by decide +kernel
theorem dX9_leave_85 : decode cX9_leave 85 = .ok (.aload_n 0, 1) := by decide +kernel
theorem dX9_leave_86 : decode cX9_leave 86 = .ok (.getfield 51, 3) := by decide +kernel
theorem dX9_leave_89 : decode cX9_leave 89 = .ok (.iload_n 3, 1) := by decide +kernel
theorem dX9_leave_90 : decode cX9_leave 90 = .ok (.iload 4, 2) := by decide +kernel
theorem dX9_leave_92 : decode cX9_leave 92 = .ok (.new 73, 3) := by decide +kernel
theorem dX9_leave_95 : decode cX9_leave 95 = .ok (.dup, 1) := by decide +kernel
theorem dX9_leave_96 : decode cX9_leave 96 = .ok (.iload 5, 2) := by decide +kernel
theorem dX9_leave_98 : decode cX9_leave 98 = .ok (.iload 6, 2) := by decide +kernel
theorem dX9_leave_100 : decode cX9_leave 100 = .ok (.invokespecial 85, 3) := by decide +kernel
theorem dX9_leave_103 : decode cX9_leave 103 = .ok (.iload_n 1, 1) := by decide +kernel
theorem dX9_leave_104 : decode cX9_leave 104 = .ok (.iload_n 2, 1) := by decide +kernel
theorem dX9_leave_105 : decode cX9_leave 105 = .ok (.invokespecial 87, 3) := by decide +kernel
theorem dX9_leave_108 : decode cX9_leave 108 = .ok (.aastore, 1) := by decide +kernel
theorem dX9_leave_109 : decode cX9_leave 109 = .ok (.aload_n 0, 1) := by decide +kernel
theorem dX9_leave_110 : decode cX9_leave 110 = .ok (.dup, 1) := by decide +kernel
theorem dX9_leave_111 : decode cX9_leave 111 = .ok (.getfield 78, 3) := by decide +kernel
theorem dX9_leave_114 : decode cX9_leave 114 = .ok (.iconst 1, 1) := by decide +kernel
theorem dX9_leave_115 : decode cX9_leave 115 = .ok (.iadd, 1) := by decide +kernel
theorem dX9_leave_116 : decode cX9_leave 116 = .ok (.putfield 78, 3) := by decide +kernel
theorem dX9_leave_119 : decode cX9_leave 119 = .ok (.aload_n 0, 1) := by decide +kernel
theorem dX9_leave_120 : decode cX9_leave 120 = .ok (.getfield 78, 3) := by decide +kernel
theorem dX9_leave_123 : decode cX9_leave 123 = .ok (.iconst 1, 1) := by decide +kernel
theorem dX9_leave_124 : decode cX9_leave 124 = .ok (.isub, 1) := by decide +kernel
theorem dX9_leave_125 : decode cX9_leave 125 = .ok (.ireturn, 1) := by decide +kernel
theorem dX9_beds_0 : decode cX9_beds 0 = .ok (.aload_n 0, 1) := by decide +kernel
theorem dX9_beds_1 : decode cX9_beds 1 = .ok (.iload_n 1, 1) := by decide +kernel
theorem dX9_beds_2 : decode cX9_beds 2 = .ok (.invokevirtual 90, 3) := by decide +kernel
theorem dX9_beds_5 : decode cX9_beds 5 = .ok (.astore_n 3, 1) := by decide +kernel
theorem dX9_beds_6 : decode cX9_beds 6 = .ok (.aload_n 3, 1) := by decide +kernel
theorem dX9_beds_7 : decode cX9_beds 7 = .ok (.ifnull 22, 3) := by decide +kernel
theorem dX9_beds_10 : decode cX9_beds 10 = .ok (.iload_n 2, 1) := by decide +kernel
theorem dX9_beds_11 : decode cX9_beds 11 = .ok (.iconst 1, 1) := by decide +kernel
theorem dX9_beds_12 : decode cX9_beds 12 = .ok (.iconst 3, 1) := by decide +kernel
theorem dX9_beds_13 : decode cX9_beds 13 = .ok (.invokestatic 47, 3) := by decide +kernel
theorem dX9_beds_16 : decode cX9_beds 16 = .ok (.ifCond .eq 13, 3) := by decide +kernel
theorem dX9_beds_19 : decode cX9_beds 19 = .ok (.aload_n 0, 1) := by decide +kernel
theorem dX9_beds_20 : decode cX9_beds 20 = .ok (.iload_n 1, 1) := by decide +kernel
theorem dX9_beds_21 : decode cX9_beds 21 = .ok (.iload_n 2, 1) := by decide +kernel
theorem dX9_beds_22 : decode cX9_beds 22 = .ok (.iconst 0, 1) := by decide +kernel
theorem dX9_beds_23 : decode cX9_beds 23 = .ok (.invokevirtual 94, 3) := by decide +kernel
theorem dX9_beds_26 : decode cX9_beds 26 = .ok (.ifCond .eq 5, 3) := by decide +kernel
theorem dX9_beds_29 : decode cX9_beds 29 = .ok (.iconst 0, 1) := by decide +kernel
theorem dX9_beds_30 : decode cX9_beds 30 = .ok (.ireturn, 1) := by decide +kernel
theorem dX9_beds_31 : decode cX9_beds 31 = .ok (.aload_n 3, 1) := by decide +kernel
theorem dX9_beds_32 : decode cX9_beds 32 = .ok (.iload_n 2, 1) := by decide +kernel
theorem dX9_beds_33 : decode cX9_beds 33 = .ok (.putfield 97, 3) := by decide +kernel
theorem dX9_beds_36 : decode cX9_beds 36 = .ok (.iconst 1, 1) := by decide +kernel
theorem dX9_beds_37 : decode cX9_beds 37 = .ok (.ireturn, 1) := by decide +kernel
theorem dX9_move_0 : decode cX9_move 0 = .ok (.aload_n 0, 1) := by decide +kernel
theorem dX9_move_1 : decode cX9_move 1 = .ok (.iload_n 1, 1) := by decide +kernel
theorem dX9_move_2 : decode cX9_move 2 = .ok (.invokevirtual 100, 3) := by decide +kernel
theorem dX9_move_5 : decode cX9_move 5 = .ok (.astore 4, 2) := by decide +kernel
theorem dX9_move_7 : decode cX9_move 7 = .ok (.aload 4, 2) := by decide +kernel
theorem dX9_move_9 : decode cX9_move 9 = .ok (.ifnull 26, 3) := by decide +kernel
theorem dX9_move_12 : decode cX9_move 12 = .ok (.iload_n 2, 1) := by decide +kernel
theorem dX9_move_13 : decode cX9_move 13 = .ok (.invokestatic 104, 3) := by decide +kernel
theorem dX9_move_16 : decode cX9_move 16 = .ok (.ifCond .eq 19, 3) := by decide +kernel
theorem dX9_move_19 : decode cX9_move 19 = .ok (.iload_n 3, 1) := by decide +kernel
theorem dX9_move_20 : decode cX9_move 20 = .ok (.aload 4, 2) := by decide +kernel
theorem dX9_move_22 : decode cX9_move 22 = .ok (.getfield 108, 3) := by decide +kernel
theorem dX9_move_25 : decode cX9_move 25 = .ok (.aload_n 0, 1) := by decide +kernel
theorem dX9_move_26 : decode cX9_move 26 = .ok (.getfield 51, 3) := by decide +kernel
theorem dX9_move_29 : decode cX9_move 29 = .ok (.invokestatic 47, 3) := by decide +kernel
theorem dX9_move_32 : decode cX9_move 32 = .ok (.ifCond .ne 5, 3) := by decide +kernel
theorem dX9_move_35 : decode cX9_move 35 = .ok (.iconst 0, 1) := by decide +kernel
theorem dX9_move_36 : decode cX9_move 36 = .ok (.ireturn, 1) := by decide +kernel
theorem dX9_move_37 : decode cX9_move 37 = .ok (.aload_n 0, 1) := by decide +kernel
theorem dX9_move_38 : decode cX9_move 38 = .ok (.getfield 111, 3) := by decide +kernel
theorem dX9_move_41 : decode cX9_move 41 = .ok (.sipush 300, 3) := by decide +kernel
theorem dX9_move_44 : decode cX9_move 44 = .ok (.if_icmp .ge 13, 3) := by decide +kernel
theorem dX9_move_47 : decode cX9_move 47 = .ok (.aload_n 0, 1) := by decide +kernel
theorem dX9_move_48 : decode cX9_move 48 = .ok (.aload 4, 2) := by decide +kernel
theorem dX9_move_50 : decode cX9_move 50 = .ok (.iload_n 3, 1) := by decide +kernel
theorem dX9_move_51 : decode cX9_move 51 = .ok (.invokevirtual 114, 3) := by decide +kernel
theorem dX9_move_54 : decode cX9_move 54 = .ok (.ifCond .eq 5, 3) := by decide +kernel
theorem dX9_move_57 : decode cX9_move 57 = .ok (.iconst 0, 1) := by decide +kernel
theorem dX9_move_58 : decode cX9_move 58 = .ok (.ireturn, 1) := by decide +kernel
theorem dX9_move_59 : decode cX9_move 59 = .ok (.aload 4, 2) := by decide +kernel
theorem dX9_move_61 : decode cX9_move 61 = .ok (.iload_n 3, 1) := by decide +kernel
theorem dX9_move_62 : decode cX9_move 62 = .ok (.invokevirtual 118, 3) := by decide +kernel
theorem dX9_move_65 : decode cX9_move 65 = .ok (.astore 5, 2) := by decide +kernel
theorem dX9_move_67 : decode cX9_move 67 = .ok (.new 122, 3) := by decide +kernel
theorem dX9_move_70 : decode cX9_move 70 = .ok (.dup, 1) := by decide +kernel
theorem dX9_move_71 : decode cX9_move 71 = .ok (.iload_n 2, 1) := by decide +kernel
theorem dX9_move_72 : decode cX9_move 72 = .ok (.iload_n 3, 1) := by decide +kernel
theorem dX9_move_73 : decode cX9_move 73 = .ok (.aload_n 0, 1) := by decide +kernel
theorem dX9_move_74 : decode cX9_move 74 = .ok (.getfield 51, 3) := by decide +kernel
theorem dX9_move_77 : decode cX9_move 77 = .ok (.invokespecial 124, 3) := by decide +kernel
theorem dX9_move_80 : decode cX9_move 80 = .ok (.astore 6, 2) := by decide +kernel
theorem dX9_move_82 : decode cX9_move 82 = .ok (.aload 6, 2) := by decide +kernel
theorem dX9_move_84 : decode cX9_move 84 = .ok (.aload 5, 2) := by decide +kernel
theorem dX9_move_86 : decode cX9_move 86 = .ok (.getfield 127, 3) := by decide +kernel
theorem dX9_move_89 : decode cX9_move 89 = .ok (.putfield 127, 3) := by decide +kernel
theorem dX9_move_92 : decode cX9_move 92 = .ok (.aload 5, 2) := by decide +kernel
theorem dX9_move_94 : decode cX9_move 94 = .ok (.aload 6, 2) := by decide +kernel
theorem dX9_move_96 : decode cX9_move 96 = .ok (.putfield 127, 3) := by decide +kernel
theorem dX9_move_99 : decode cX9_move 99 = .ok (.aload_n 0, 1) := by decide +kernel
theorem dX9_move_100 : decode cX9_move 100 = .ok (.iload_n 2, 1) := by decide +kernel
theorem dX9_move_101 : decode cX9_move 101 = .ok (.invokevirtual 90, 3) := by decide +kernel
theorem dX9_move_104 : decode cX9_move 104 = .ok (.astore 7, 2) := by decide +kernel
theorem dX9_move_106 : decode cX9_move 106 = .ok (.aload 7, 2) := by decide +kernel
theorem dX9_move_108 : decode cX9_move 108 = .ok (.ifnull 29, 3) := by decide +kernel
theorem dX9_move_111 : decode cX9_move 111 = .ok (.aload_n 0, 1) := by decide +kernel
theorem dX9_move_112 : decode cX9_move 112 = .ok (.iload_n 2, 1) := by decide +kernel
theorem dX9_move_113 : decode cX9_move 113 = .ok (.aload 7, 2) := by decide +kernel
theorem dX9_move_115 : decode cX9_move 115 = .ok (.getfield 97, 3) := by decide +kernel
theorem dX9_move_118 : decode cX9_move 118 = .ok (.iload_n 3, 1) := by decide +kernel
theorem dX9_move_119 : decode cX9_move 119 = .ok (.invokevirtual 94, 3) := by decide +kernel
theorem dX9_move_122 : decode cX9_move 122 = .ok (.ifCond .eq 15, 3) := by decide +kernel
theorem dX9_move_125 : decode cX9_move 125 = .ok (.aload 5, 2) := by decide +kernel
theorem dX9_move_127 : decode cX9_move 127 = .ok (.aload 6, 2) := by decide +kernel
theorem dX9_move_129 : decode cX9_move 129 = .ok (.getfield 127, 3) := by decide +kernel
theorem dX9_move_132 : decode cX9_move 132 = .ok (.putfield 127, 3) := by decide +kernel
theorem dX9_move_135 : decode cX9_move 135 = .ok (.iconst 0, 1) := by decide +kernel
theorem dX9_move_136 : decode cX9_move 136 = .ok (.ireturn, 1) := by decide +kernel
theorem dX9_move_137 : decode cX9_move 137 = .ok (.aload 4, 2) := by decide +kernel
theorem dX9_move_139 : decode cX9_move 139 = .ok (.dup, 1) := by decide +kernel
theorem dX9_move_140 : decode cX9_move 140 = .ok (.getfield 131, 3) := by decide +kernel
theorem dX9_move_143 : decode cX9_move 143 = .ok (.iconst 1, 1) := by decide +kernel
theorem dX9_move_144 : decode cX9_move 144 = .ok (.iadd, 1) := by decide +kernel
theorem dX9_move_145 : decode cX9_move 145 = .ok (.putfield 131, 3) := by decide +kernel
theorem dX9_move_148 : decode cX9_move 148 = .ok (.aload_n 0, 1) := by decide +kernel
theorem dX9_move_149 : decode cX9_move 149 = .ok (.dup, 1) := by decide +kernel
theorem dX9_move_150 : decode cX9_move 150 = .ok (.getfield 111, 3) := by decide +kernel
theorem dX9_move_153 : decode cX9_move 153 = .ok (.iconst 1, 1) := by decide +kernel
theorem dX9_move_154 : decode cX9_move 154 = .ok (.iadd, 1) := by decide +kernel
theorem dX9_move_155 : decode cX9_move 155 = .ok (.putfield 111, 3) := by decide +kernel
theorem dX9_move_158 : decode cX9_move 158 = .ok (.iconst 1, 1) := by decide +kernel
theorem dX9_move_159 : decode cX9_move 159 = .ok (.ireturn, 1) := by decide +kernel
theorem dX9_place_0 : decode cX9_place 0 = .ok (.aload_n 0, 1) := by decide +kernel
theorem dX9_place_1 : decode cX9_place 1 = .ok (.iload_n 1, 1) := by decide +kernel
theorem dX9_place_2 : decode cX9_place 2 = .ok (.invokevirtual 100, 3) := by decide +kernel
theorem dX9_place_5 : decode cX9_place 5 = .ok (.astore 4, 2) := by decide +kernel
theorem dX9_place_7 : decode cX9_place 7 = .ok (.aload 4, 2) := by decide +kernel
theorem dX9_place_9 : decode cX9_place 9 = .ok (.ifnull 19, 3) := by decide +kernel
theorem dX9_place_12 : decode cX9_place 12 = .ok (.aload_n 0, 1) := by decide +kernel
theorem dX9_place_13 : decode cX9_place 13 = .ok (.iload_n 2, 1) := by decide +kernel
theorem dX9_place_14 : decode cX9_place 14 = .ok (.invokevirtual 132, 3) := by decide +kernel
theorem dX9_place_17 : decode cX9_place 17 = .ok (.ifCond .eq 11, 3) := by decide +kernel
theorem dX9_place_20 : decode cX9_place 20 = .ok (.aload_n 0, 1) := by decide +kernel
theorem dX9_place_21 : decode cX9_place 21 = .ok (.iload_n 3, 1) := by decide +kernel
theorem dX9_place_22 : decode cX9_place 22 = .ok (.invokevirtual 132, 3) := by decide +kernel
theorem dX9_place_25 : decode cX9_place 25 = .ok (.ifCond .ne 5, 3) := by decide +kernel
theorem dX9_place_28 : decode cX9_place 28 = .ok (.iconst (-1), 1) := by decide +kernel
theorem dX9_place_29 : decode cX9_place 29 = .ok (.ireturn, 1) := by decide +kernel
theorem dX9_place_30 : decode cX9_place 30 = .ok (.aload 4, 2) := by decide +kernel
theorem dX9_place_32 : decode cX9_place 32 = .ok (.iload_n 2, 1) := by decide +kernel
theorem dX9_place_33 : decode cX9_place 33 = .ok (.iload_n 3, 1) := by decide +kernel
theorem dX9_place_34 : decode cX9_place 34 = .ok (.invokevirtual 135, 3) := by decide +kernel
theorem dX9_place_37 : decode cX9_place 37 = .ok (.ireturn, 1) := by decide +kernel
theorem dX9_look_0 : decode cX9_look 0 = .ok (.aload_n 0, 1) := by decide +kernel
theorem dX9_look_1 : decode cX9_look 1 = .ok (.iload_n 1, 1) := by decide +kernel
theorem dX9_look_2 : decode cX9_look 2 = .ok (.invokevirtual 90, 3) := by decide +kernel
theorem dX9_look_5 : decode cX9_look 5 = .ok (.astore_n 2, 1) := by decide +kernel
theorem dX9_look_6 : decode cX9_look 6 = .ok (.aload_n 2, 1) := by decide +kernel
theorem dX9_look_7 : decode cX9_look 7 = .ok (.ifnull 24, 3) := by decide +kernel
theorem dX9_look_10 : decode cX9_look 10 = .ok (.aload_n 2, 1) := by decide +kernel
theorem dX9_look_11 : decode cX9_look 11 = .ok (.getfield 139, 3) := by decide +kernel
theorem dX9_look_14 : decode cX9_look 14 = .ok (.ifnull 19, 3) := by decide +kernel
theorem dX9_look_17 : decode cX9_look 17 = .ok (.aload_n 2, 1) := by decide +kernel
theorem dX9_look_18 : decode cX9_look 18 = .ok (.getfield 139, 3) := by decide +kernel
theorem dX9_look_21 : decode cX9_look 21 = .ok (.getfield 143, 3) := by decide +kernel
theorem dX9_look_24 : decode cX9_look 24 = .ok (.aload_n 0, 1) := by decide +kernel
theorem dX9_look_25 : decode cX9_look 25 = .ok (.getfield 51, 3) := by decide +kernel
theorem dX9_look_28 : decode cX9_look 28 = .ok (.if_icmp .ne 5, 3) := by decide +kernel
theorem dX9_look_31 : decode cX9_look 31 = .ok (.iconst 0, 1) := by decide +kernel
theorem dX9_look_32 : decode cX9_look 32 = .ok (.ireturn, 1) := by decide +kernel
theorem dX9_look_33 : decode cX9_look 33 = .ok (.aload_n 2, 1) := by decide +kernel
theorem dX9_look_34 : decode cX9_look 34 = .ok (.new 144, 3) := by decide +kernel
theorem dX9_look_37 : decode cX9_look 37 = .ok (.dup, 1) := by decide +kernel
theorem dX9_look_38 : decode cX9_look 38 = .ok (.aload_n 0, 1) := by decide +kernel
theorem dX9_look_39 : decode cX9_look 39 = .ok (.getfield 51, 3) := by decide +kernel
theorem dX9_look_42 : decode cX9_look 42 = .ok (.aload_n 2, 1) := by decide +kernel
theorem dX9_look_43 : decode cX9_look 43 = .ok (.getfield 139, 3) := by decide +kernel
theorem dX9_look_46 : decode cX9_look 46 = .ok (.invokespecial 146, 3) := by decide +kernel
theorem dX9_look_49 : decode cX9_look 49 = .ok (.putfield 139, 3) := by decide +kernel
theorem dX9_look_52 : decode cX9_look 52 = .ok (.aload_n 0, 1) := by decide +kernel
theorem dX9_look_53 : decode cX9_look 53 = .ok (.dup, 1) := by decide +kernel
theorem dX9_look_54 : decode cX9_look 54 = .ok (.getfield 149, 3) := by decide +kernel
theorem dX9_look_57 : decode cX9_look 57 = .ok (.iconst 1, 1) := by decide +kernel
theorem dX9_look_58 : decode cX9_look 58 = .ok (.iadd, 1) := by decide +kernel
theorem dX9_look_59 : decode cX9_look 59 = .ok (.putfield 149, 3) := by decide +kernel
theorem dX9_look_62 : decode cX9_look 62 = .ok (.iconst 1, 1) := by decide +kernel
theorem dX9_look_63 : decode cX9_look 63 = .ok (.ireturn, 1) := by decide +kernel
theorem dX9_many_0 : decode cX9_many 0 = .ok (.iload_n 1, 1) := by decide +kernel
theorem dX9_many_1 : decode cX9_many 1 = .ok (.invokestatic 104, 3) := by decide +kernel
theorem dX9_many_4 : decode cX9_many 4 = .ok (.ifCond .eq 19, 3) := by decide +kernel
theorem dX9_many_7 : decode cX9_many 7 = .ok (.aload_n 0, 1) := by decide +kernel
theorem dX9_many_8 : decode cX9_many 8 = .ok (.iload_n 2, 1) := by decide +kernel
theorem dX9_many_9 : decode cX9_many 9 = .ok (.invokevirtual 132, 3) := by decide +kernel
theorem dX9_many_12 : decode cX9_many 12 = .ok (.ifCond .eq 11, 3) := by decide +kernel
theorem dX9_many_15 : decode cX9_many 15 = .ok (.aload_n 0, 1) := by decide +kernel
theorem dX9_many_16 : decode cX9_many 16 = .ok (.iload_n 3, 1) := by decide +kernel
theorem dX9_many_17 : decode cX9_many 17 = .ok (.invokevirtual 132, 3) := by decide +kernel
theorem dX9_many_20 : decode cX9_many 20 = .ok (.ifCond .ne 5, 3) := by decide +kernel
theorem dX9_many_23 : decode cX9_many 23 = .ok (.iconst (-1), 1) := by decide +kernel
theorem dX9_many_24 : decode cX9_many 24 = .ok (.ireturn, 1) := by decide +kernel
theorem dX9_many_25 : decode cX9_many 25 = .ok (.aload_n 0, 1) := by decide +kernel
theorem dX9_many_26 : decode cX9_many 26 = .ok (.iload_n 1, 1) := by decide +kernel
theorem dX9_many_27 : decode cX9_many 27 = .ok (.iload_n 2, 1) := by decide +kernel
theorem dX9_many_28 : decode cX9_many 28 = .ok (.iload_n 3, 1) := by decide +kernel
theorem dX9_many_29 : decode cX9_many 29 = .ok (.invokevirtual 152, 3) := by decide +kernel
theorem dX9_many_32 : decode cX9_many 32 = .ok (.ireturn, 1) := by decide +kernel
theorem dX9_pay_0 : decode cX9_pay 0 = .ok (.aload_n 0, 1) := by decide +kernel
theorem dX9_pay_1 : decode cX9_pay 1 = .ok (.iload_n 1, 1) := by decide +kernel
theorem dX9_pay_2 : decode cX9_pay 2 = .ok (.invokevirtual 90, 3) := by decide +kernel
theorem dX9_pay_5 : decode cX9_pay 5 = .ok (.astore 5, 2) := by decide +kernel
theorem dX9_pay_7 : decode cX9_pay 7 = .ok (.aload 5, 2) := by decide +kernel
theorem dX9_pay_9 : decode cX9_pay 9 = .ok (.ifnull 20, 3) := by decide +kernel
theorem dX9_pay_12 : decode cX9_pay 12 = .ok (.iload_n 2, 1) := by decide +kernel
theorem dX9_pay_13 : decode cX9_pay 13 = .ok (.iload_n 3, 1) := by decide +kernel
theorem dX9_pay_14 : decode cX9_pay 14 = .ok (.invokestatic 156, 3) := by decide +kernel
theorem dX9_pay_17 : decode cX9_pay 17 = .ok (.ifCond .eq 12, 3) := by decide +kernel
theorem dX9_pay_20 : decode cX9_pay 20 = .ok (.aload_n 0, 1) := by decide +kernel
theorem dX9_pay_21 : decode cX9_pay 21 = .ok (.iload 4, 2) := by decide +kernel
theorem dX9_pay_23 : decode cX9_pay 23 = .ok (.invokevirtual 132, 3) := by decide +kernel
theorem dX9_pay_26 : decode cX9_pay 26 = .ok (.ifCond .ne 5, 3) := by decide +kernel
theorem dX9_pay_29 : decode cX9_pay 29 = .ok (.iconst (-1), 1) := by decide +kernel
theorem dX9_pay_30 : decode cX9_pay 30 = .ok (.ireturn, 1) := by decide +kernel
theorem dX9_pay_31 : decode cX9_pay 31 = .ok (.iconst 2, 1) := by decide +kernel
theorem dX9_pay_32 : decode cX9_pay 32 = .ok (.aload_n 0, 1) := by decide +kernel
theorem dX9_pay_33 : decode cX9_pay 33 = .ok (.iload_n 1, 1) := by decide +kernel
theorem dX9_pay_34 : decode cX9_pay 34 = .ok (.aload 5, 2) := by decide +kernel
theorem dX9_pay_36 : decode cX9_pay 36 = .ok (.getfield 139, 3) := by decide +kernel
theorem dX9_pay_39 : decode cX9_pay 39 = .ok (.iload_n 2, 1) := by decide +kernel
theorem dX9_pay_40 : decode cX9_pay 40 = .ok (.iload_n 3, 1) := by decide +kernel
theorem dX9_pay_41 : decode cX9_pay 41 = .ok (.iload 4, 2) := by decide +kernel
theorem dX9_pay_43 : decode cX9_pay 43 = .ok (.invokevirtual 159, 3) := by decide +kernel
theorem dX9_pay_46 : decode cX9_pay 46 = .ok (.imul, 1) := by decide +kernel
theorem dX9_pay_47 : decode cX9_pay 47 = .ok (.ireturn, 1) := by decide +kernel
theorem dX9_gap_0 : decode cX9_gap 0 = .ok (.aload_n 0, 1) := by decide +kernel
theorem dX9_gap_1 : decode cX9_gap 1 = .ok (.iload_n 1, 1) := by decide +kernel
theorem dX9_gap_2 : decode cX9_gap 2 = .ok (.invokevirtual 90, 3) := by decide +kernel
theorem dX9_gap_5 : decode cX9_gap 5 = .ok (.astore 5, 2) := by decide +kernel
theorem dX9_gap_7 : decode cX9_gap 7 = .ok (.aload 5, 2) := by decide +kernel
theorem dX9_gap_9 : decode cX9_gap 9 = .ok (.ifnull 20, 3) := by decide +kernel
theorem dX9_gap_12 : decode cX9_gap 12 = .ok (.iload_n 2, 1) := by decide +kernel
theorem dX9_gap_13 : decode cX9_gap 13 = .ok (.iload_n 3, 1) := by decide +kernel
theorem dX9_gap_14 : decode cX9_gap 14 = .ok (.invokestatic 156, 3) := by decide +kernel
theorem dX9_gap_17 : decode cX9_gap 17 = .ok (.ifCond .eq 12, 3) := by decide +kernel
theorem dX9_gap_20 : decode cX9_gap 20 = .ok (.aload_n 0, 1) := by decide +kernel
theorem dX9_gap_21 : decode cX9_gap 21 = .ok (.iload 4, 2) := by decide +kernel
theorem dX9_gap_23 : decode cX9_gap 23 = .ok (.invokevirtual 132, 3) := by decide +kernel
theorem dX9_gap_26 : decode cX9_gap 26 = .ok (.ifCond .ne 5, 3) := by decide +kernel
theorem dX9_gap_29 : decode cX9_gap 29 = .ok (.iconst (-1), 1) := by decide +kernel
theorem dX9_gap_30 : decode cX9_gap 30 = .ok (.ireturn, 1) := by decide +kernel
theorem dX9_gap_31 : decode cX9_gap 31 = .ok (.aload_n 0, 1) := by decide +kernel
theorem dX9_gap_32 : decode cX9_gap 32 = .ok (.iload_n 1, 1) := by decide +kernel
theorem dX9_gap_33 : decode cX9_gap 33 = .ok (.iload_n 2, 1) := by decide +kernel
theorem dX9_gap_34 : decode cX9_gap 34 = .ok (.iload_n 3, 1) := by decide +kernel
theorem dX9_gap_35 : decode cX9_gap 35 = .ok (.iload 4, 2) := by decide +kernel
theorem dX9_gap_37 : decode cX9_gap 37 = .ok (.invokevirtual 163, 3) := by decide +kernel
theorem dX9_gap_40 : decode cX9_gap 40 = .ok (.istore 6, 2) := by decide +kernel
theorem dX9_gap_42 : decode cX9_gap 42 = .ok (.iload 6, 2) := by decide +kernel
theorem dX9_gap_44 : decode cX9_gap 44 = .ok (.aload_n 0, 1) := by decide +kernel
theorem dX9_gap_45 : decode cX9_gap 45 = .ok (.iload_n 1, 1) := by decide +kernel
theorem dX9_gap_46 : decode cX9_gap 46 = .ok (.aload 5, 2) := by decide +kernel
theorem dX9_gap_48 : decode cX9_gap 48 = .ok (.getfield 139, 3) := by decide +kernel
theorem dX9_gap_51 : decode cX9_gap 51 = .ok (.iload_n 2, 1) := by decide +kernel
theorem dX9_gap_52 : decode cX9_gap 52 = .ok (.iload_n 3, 1) := by decide +kernel
theorem dX9_gap_53 : decode cX9_gap 53 = .ok (.iload 4, 2) := by decide +kernel
theorem dX9_gap_55 : decode cX9_gap 55 = .ok (.invokevirtual 159, 3) := by decide +kernel
theorem dX9_gap_58 : decode cX9_gap 58 = .ok (.isub, 1) := by decide +kernel
theorem dX9_gap_59 : decode cX9_gap 59 = .ok (.ireturn, 1) := by decide +kernel
theorem dX9_off_0 : decode cX9_off 0 = .ok (.aload_n 0, 1) := by decide +kernel
theorem dX9_off_1 : decode cX9_off 1 = .ok (.iload_n 1, 1) := by decide +kernel
theorem dX9_off_2 : decode cX9_off 2 = .ok (.invokevirtual 100, 3) := by decide +kernel
theorem dX9_off_5 : decode cX9_off 5 = .ok (.astore 4, 2) := by decide +kernel
theorem dX9_off_7 : decode cX9_off 7 = .ok (.aload 4, 2) := by decide +kernel
theorem dX9_off_9 : decode cX9_off 9 = .ok (.ifnull 11, 3) := by decide +kernel
theorem dX9_off_12 : decode cX9_off 12 = .ok (.iload_n 2, 1) := by decide +kernel
theorem dX9_off_13 : decode cX9_off 13 = .ok (.iload_n 3, 1) := by decide +kernel
theorem dX9_off_14 : decode cX9_off 14 = .ok (.invokestatic 72, 3) := by decide +kernel
theorem dX9_off_17 : decode cX9_off 17 = .ok (.ifCond .ne 5, 3) := by decide +kernel
theorem dX9_off_20 : decode cX9_off 20 = .ok (.iconst (-1), 1) := by decide +kernel
theorem dX9_off_21 : decode cX9_off 21 = .ok (.ireturn, 1) := by decide +kernel
theorem dX9_off_22 : decode cX9_off 22 = .ok (.aload 4, 2) := by decide +kernel
theorem dX9_off_24 : decode cX9_off 24 = .ok (.getfield 167, 3) := by decide +kernel
theorem dX9_off_27 : decode cX9_off 27 = .ok (.new 73, 3) := by decide +kernel
theorem dX9_off_30 : decode cX9_off 30 = .ok (.dup, 1) := by decide +kernel
theorem dX9_off_31 : decode cX9_off 31 = .ok (.iload_n 2, 1) := by decide +kernel
theorem dX9_off_32 : decode cX9_off 32 = .ok (.iload_n 3, 1) := by decide +kernel
theorem dX9_off_33 : decode cX9_off 33 = .ok (.invokespecial 85, 3) := by decide +kernel
theorem dX9_off_36 : decode cX9_off 36 = .ok (.invokevirtual 171, 3) := by decide +kernel
theorem dX9_off_39 : decode cX9_off 39 = .ok (.ireturn, 1) := by decide +kernel
theorem dX9_feed_0 : decode cX9_feed 0 = .ok (.iconst 0, 1) := by decide +kernel
theorem dX9_feed_1 : decode cX9_feed 1 = .ok (.istore_n 2, 1) := by decide +kernel
theorem dX9_feed_2 : decode cX9_feed 2 = .ok (.bipush 24, 2) := by decide +kernel
theorem dX9_feed_4 : decode cX9_feed 4 = .ok (.istore_n 3, 1) := by decide +kernel
theorem dX9_feed_5 : decode cX9_feed 5 = .ok (.iload_n 3, 1) := by decide +kernel
theorem dX9_feed_6 : decode cX9_feed 6 = .ok (.ifCond .lt 22, 3) := by decide +kernel
theorem dX9_feed_9 : decode cX9_feed 9 = .ok (.iload_n 1, 1) := by decide +kernel
theorem dX9_feed_10 : decode cX9_feed 10 = .ok (.iload_n 3, 1) := by decide +kernel
theorem dX9_feed_11 : decode cX9_feed 11 = .ok (.iushr, 1) := by decide +kernel
theorem dX9_feed_12 : decode cX9_feed 12 = .ok (.sipush 255, 3) := by decide +kernel
theorem dX9_feed_15 : decode cX9_feed 15 = .ok (.iand, 1) := by decide +kernel
theorem dX9_feed_16 : decode cX9_feed 16 = .ok (.ifCond .eq 6, 3) := by decide +kernel
theorem dX9_feed_19 : decode cX9_feed 19 = .ok (.iinc 2 1, 3) := by decide +kernel
theorem dX9_feed_22 : decode cX9_feed 22 = .ok (.iinc 3 (-8), 3) := by decide +kernel
theorem dX9_feed_25 : decode cX9_feed 25 = .ok (.goto (-20), 3) := by decide +kernel
theorem dX9_feed_28 : decode cX9_feed 28 = .ok (.aload_n 0, 1) := by decide +kernel
theorem dX9_feed_29 : decode cX9_feed 29 = .ok (.getfield 30, 3) := by decide +kernel
theorem dX9_feed_32 : decode cX9_feed 32 = .ok (.getfield 175, 3) := by decide +kernel
theorem dX9_feed_35 : decode cX9_feed 35 = .ok (.iload_n 2, 1) := by decide +kernel
theorem dX9_feed_36 : decode cX9_feed 36 = .ok (.iadd, 1) := by decide +kernel
theorem dX9_feed_37 : decode cX9_feed 37 = .ok (.bipush 100, 2) := by decide +kernel
theorem dX9_feed_39 : decode cX9_feed 39 = .ok (.if_icmp .le 5, 3) := by decide +kernel
theorem dX9_feed_42 : decode cX9_feed 42 = .ok (.iconst (-1), 1) := by decide +kernel
theorem dX9_feed_43 : decode cX9_feed 43 = .ok (.ireturn, 1) := by decide +kernel
theorem dX9_feed_44 : decode cX9_feed 44 = .ok (.bipush 24, 2) := by decide +kernel
theorem dX9_feed_46 : decode cX9_feed 46 = .ok (.istore_n 3, 1) := by decide +kernel
theorem dX9_feed_47 : decode cX9_feed 47 = .ok (.iload_n 3, 1) := by decide +kernel
theorem dX9_feed_48 : decode cX9_feed 48 = .ok (.ifCond .lt 23, 3) := by decide +kernel
theorem dX9_feed_51 : decode cX9_feed 51 = .ok (.aload_n 0, 1) := by decide +kernel
theorem dX9_feed_52 : decode cX9_feed 52 = .ok (.getfield 30, 3) := by decide +kernel
theorem dX9_feed_55 : decode cX9_feed 55 = .ok (.iload_n 1, 1) := by decide +kernel
theorem dX9_feed_56 : decode cX9_feed 56 = .ok (.iload_n 3, 1) := by decide +kernel
theorem dX9_feed_57 : decode cX9_feed 57 = .ok (.iushr, 1) := by decide +kernel
theorem dX9_feed_58 : decode cX9_feed 58 = .ok (.sipush 255, 3) := by decide +kernel
theorem dX9_feed_61 : decode cX9_feed 61 = .ok (.iand, 1) := by decide +kernel
theorem dX9_feed_62 : decode cX9_feed 62 = .ok (.invokevirtual 178, 3) := by decide +kernel
theorem dX9_feed_65 : decode cX9_feed 65 = .ok (.iinc 3 (-8), 3) := by decide +kernel
theorem dX9_feed_68 : decode cX9_feed 68 = .ok (.goto (-21), 3) := by decide +kernel
theorem dX9_feed_71 : decode cX9_feed 71 = .ok (.aload_n 0, 1) := by decide +kernel
theorem dX9_feed_72 : decode cX9_feed 72 = .ok (.getfield 30, 3) := by decide +kernel
theorem dX9_feed_75 : decode cX9_feed 75 = .ok (.getfield 175, 3) := by decide +kernel
theorem dX9_feed_78 : decode cX9_feed 78 = .ok (.ireturn, 1) := by decide +kernel
theorem dX9_end_0 : decode cX9_end 0 = .ok (.iload_n 1, 1) := by decide +kernel
theorem dX9_end_1 : decode cX9_end 1 = .ok (.iconst 0, 1) := by decide +kernel
theorem dX9_end_2 : decode cX9_end 2 = .ok (.aload_n 0, 1) := by decide +kernel
theorem dX9_end_3 : decode cX9_end 3 = .ok (.getfield 30, 3) := by decide +kernel
theorem dX9_end_6 : decode cX9_end 6 = .ok (.getfield 175, 3) := by decide +kernel
theorem dX9_end_9 : decode cX9_end 9 = .ok (.invokestatic 47, 3) := by decide +kernel
theorem dX9_end_12 : decode cX9_end 12 = .ok (.ifCond .ne 5, 3) := by decide +kernel
theorem dX9_end_15 : decode cX9_end 15 = .ok (.iconst 0, 1) := by decide +kernel
theorem dX9_end_16 : decode cX9_end 16 = .ok (.ireturn, 1) := by decide +kernel
theorem dX9_end_17 : decode cX9_end 17 = .ok (.aload_n 0, 1) := by decide +kernel
theorem dX9_end_18 : decode cX9_end 18 = .ok (.getfield 30, 3) := by decide +kernel
theorem dX9_end_21 : decode cX9_end 21 = .ok (.iload_n 1, 1) := by decide +kernel
theorem dX9_end_22 : decode cX9_end 22 = .ok (.putfield 175, 3) := by decide +kernel
theorem dX9_end_25 : decode cX9_end 25 = .ok (.iconst 1, 1) := by decide +kernel
theorem dX9_end_26 : decode cX9_end 26 = .ok (.ireturn, 1) := by decide +kernel
theorem dX9_fault_0 : decode cX9_fault 0 = .ok (.aload_n 0, 1) := by decide +kernel
theorem dX9_fault_1 : decode cX9_fault 1 = .ok (.getfield 42, 3) := by decide +kernel
theorem dX9_fault_4 : decode cX9_fault 4 = .ok (.aload_n 0, 1) := by decide +kernel
theorem dX9_fault_5 : decode cX9_fault 5 = .ok (.getfield 30, 3) := by decide +kernel
theorem dX9_fault_8 : decode cX9_fault 8 = .ok (.invokevirtual 182, 3) := by decide +kernel
theorem dX9_fault_11 : decode cX9_fault 11 = .ok (.ireturn, 1) := by decide +kernel
theorem dX9_rule_0 : decode cX9_rule 0 = .ok (.aload_n 0, 1) := by decide +kernel
theorem dX9_rule_1 : decode cX9_rule 1 = .ok (.getfield 42, 3) := by decide +kernel
theorem dX9_rule_4 : decode cX9_rule 4 = .ok (.aload_n 0, 1) := by decide +kernel
theorem dX9_rule_5 : decode cX9_rule 5 = .ok (.getfield 30, 3) := by decide +kernel
theorem dX9_rule_8 : decode cX9_rule 8 = .ok (.invokevirtual 182, 3) := by decide +kernel
theorem dX9_rule_11 : decode cX9_rule 11 = .ok (.iconst (-1), 1) := by decide +kernel
theorem dX9_rule_12 : decode cX9_rule 12 = .ok (.if_icmp .eq 5, 3) := by decide +kernel
theorem dX9_rule_15 : decode cX9_rule 15 = .ok (.iconst 0, 1) := by decide +kernel
theorem dX9_rule_16 : decode cX9_rule 16 = .ok (.ireturn, 1) := by decide +kernel
theorem dX9_rule_17 : decode cX9_rule 17 = .ok (.aload_n 0, 1) := by decide +kernel
theorem dX9_rule_18 : decode cX9_rule 18 = .ok (.getfield 34, 3) := by decide +kernel
theorem dX9_rule_21 : decode cX9_rule 21 = .ok (.astore_n 1, 1) := by decide +kernel
theorem dX9_rule_22 : decode cX9_rule 22 = .ok (.aload_n 0, 1) := by decide +kernel
theorem dX9_rule_23 : decode cX9_rule 23 = .ok (.aload_n 0, 1) := by decide +kernel
theorem dX9_rule_24 : decode cX9_rule 24 = .ok (.getfield 30, 3) := by decide +kernel
theorem dX9_rule_27 : decode cX9_rule 27 = .ok (.putfield 34, 3) := by decide +kernel
theorem dX9_rule_30 : decode cX9_rule 30 = .ok (.aload_n 0, 1) := by decide +kernel
theorem dX9_rule_31 : decode cX9_rule 31 = .ok (.aload_n 1, 1) := by decide +kernel
theorem dX9_rule_32 : decode cX9_rule 32 = .ok (.putfield 30, 3) := by decide +kernel
theorem dX9_rule_35 : decode cX9_rule 35 = .ok (.aload_n 0, 1) := by decide +kernel
theorem dX9_rule_36 : decode cX9_rule 36 = .ok (.getfield 30, 3) := by decide +kernel
theorem dX9_rule_39 : decode cX9_rule 39 = .ok (.iconst 0, 1) := by decide +kernel
theorem dX9_rule_40 : decode cX9_rule 40 = .ok (.putfield 175, 3) := by decide +kernel
theorem dX9_rule_43 : decode cX9_rule 43 = .ok (.aload_n 0, 1) := by decide +kernel
theorem dX9_rule_44 : decode cX9_rule 44 = .ok (.dup, 1) := by decide +kernel
theorem dX9_rule_45 : decode cX9_rule 45 = .ok (.getfield 186, 3) := by decide +kernel
theorem dX9_rule_48 : decode cX9_rule 48 = .ok (.iconst 1, 1) := by decide +kernel
theorem dX9_rule_49 : decode cX9_rule 49 = .ok (.iadd, 1) := by decide +kernel
theorem dX9_rule_50 : decode cX9_rule 50 = .ok (.putfield 186, 3) := by decide +kernel
theorem dX9_rule_53 : decode cX9_rule 53 = .ok (.iconst 1, 1) := by decide +kernel
theorem dX9_rule_54 : decode cX9_rule 54 = .ok (.ireturn, 1) := by decide +kernel
theorem dX9_claim_0 : decode cX9_claim 0 = .ok (.iload_n 1, 1) := by decide +kernel
theorem dX9_claim_1 : decode cX9_claim 1 = .ok (.iload_n 2, 1) := by decide +kernel
theorem dX9_claim_2 : decode cX9_claim 2 = .ok (.invokestatic 72, 3) := by decide +kernel
theorem dX9_claim_5 : decode cX9_claim 5 = .ok (.ifCond .eq 26, 3) := by decide +kernel
theorem dX9_claim_8 : decode cX9_claim 8 = .ok (.iload_n 3, 1) := by decide +kernel
theorem dX9_claim_9 : decode cX9_claim 9 = .ok (.iconst 0, 1) := by decide +kernel
theorem dX9_claim_10 : decode cX9_claim 10 = .ok (.sipush 2000, 3) := by decide +kernel
theorem dX9_claim_13 : decode cX9_claim 13 = .ok (.invokestatic 47, 3) := by decide +kernel
theorem dX9_claim_16 : decode cX9_claim 16 = .ok (.ifCond .eq 15, 3) := by decide +kernel
theorem dX9_claim_19 : decode cX9_claim 19 = .ok (.iload 4, 2) := by decide +kernel
theorem dX9_claim_21 : decode cX9_claim 21 = .ok (.iload_n 3, 1) := by decide +kernel
theorem dX9_claim_22 : decode cX9_claim 22 = .ok (.sipush 2000, 3) := by decide +kernel
theorem dX9_claim_25 : decode cX9_claim 25 = .ok (.invokestatic 47, 3) := by decide +kernel
theorem dX9_claim_28 : decode cX9_claim 28 = .ok (.ifCond .ne 6, 3) := by decide +kernel
theorem dX9_claim_31 : decode cX9_claim 31 = .ok (.bipush (-3), 2) := by decide +kernel
theorem dX9_claim_33 : decode cX9_claim 33 = .ok (.ireturn, 1) := by decide +kernel
theorem dX9_claim_34 : decode cX9_claim 34 = .ok (.iload 5, 2) := by decide +kernel
theorem dX9_claim_36 : decode cX9_claim 36 = .ok (.iconst (-1), 1) := by decide +kernel
theorem dX9_claim_37 : decode cX9_claim 37 = .ok (.iconst 1, 1) := by decide +kernel
theorem dX9_claim_38 : decode cX9_claim 38 = .ok (.invokestatic 47, 3) := by decide +kernel
theorem dX9_claim_41 : decode cX9_claim 41 = .ok (.ifCond .eq 14, 3) := by decide +kernel
theorem dX9_claim_44 : decode cX9_claim 44 = .ok (.iload 6, 2) := by decide +kernel
theorem dX9_claim_46 : decode cX9_claim 46 = .ok (.iconst (-1), 1) := by decide +kernel
theorem dX9_claim_47 : decode cX9_claim 47 = .ok (.bipush 9, 2) := by decide +kernel
theorem dX9_claim_49 : decode cX9_claim 49 = .ok (.invokestatic 47, 3) := by decide +kernel
theorem dX9_claim_52 : decode cX9_claim 52 = .ok (.ifCond .ne 6, 3) := by decide +kernel
theorem dX9_claim_55 : decode cX9_claim 55 = .ok (.bipush (-3), 2) := by decide +kernel
theorem dX9_claim_57 : decode cX9_claim 57 = .ok (.ireturn, 1) := by decide +kernel
theorem dX9_claim_58 : decode cX9_claim 58 = .ok (.aload_n 0, 1) := by decide +kernel
theorem dX9_claim_59 : decode cX9_claim 59 = .ok (.new 189, 3) := by decide +kernel
theorem dX9_claim_62 : decode cX9_claim 62 = .ok (.dup, 1) := by decide +kernel
theorem dX9_claim_63 : decode cX9_claim 63 = .ok (.new 73, 3) := by decide +kernel
theorem dX9_claim_66 : decode cX9_claim 66 = .ok (.dup, 1) := by decide +kernel
theorem dX9_claim_67 : decode cX9_claim 67 = .ok (.iload_n 1, 1) := by decide +kernel
theorem dX9_claim_68 : decode cX9_claim 68 = .ok (.iload_n 2, 1) := by decide +kernel
theorem dX9_claim_69 : decode cX9_claim 69 = .ok (.invokespecial 85, 3) := by decide +kernel
theorem dX9_claim_72 : decode cX9_claim 72 = .ok (.iload_n 3, 1) := by decide +kernel
theorem dX9_claim_73 : decode cX9_claim 73 = .ok (.iload 4, 2) := by decide +kernel
theorem dX9_claim_75 : decode cX9_claim 75 = .ok (.iload 5, 2) := by decide +kernel
theorem dX9_claim_77 : decode cX9_claim 77 = .ok (.iload 6, 2) := by decide +kernel
theorem dX9_claim_79 : decode cX9_claim 79 = .ok (.invokespecial 191, 3) := by decide +kernel
theorem dX9_claim_82 : decode cX9_claim 82 = .ok (.invokevirtual 194, 3) := by decide +kernel
theorem dX9_claim_85 : decode cX9_claim 85 = .ok (.ireturn, 1) := by decide +kernel
theorem dX9_name_0 : decode cX9_name 0 = .ok (.aload_n 0, 1) := by decide +kernel
theorem dX9_name_1 : decode cX9_name 1 = .ok (.iload_n 1, 1) := by decide +kernel
theorem dX9_name_2 : decode cX9_name 2 = .ok (.invokevirtual 100, 3) := by decide +kernel
theorem dX9_name_5 : decode cX9_name 5 = .ok (.astore_n 3, 1) := by decide +kernel
theorem dX9_name_6 : decode cX9_name 6 = .ok (.aload_n 3, 1) := by decide +kernel
theorem dX9_name_7 : decode cX9_name 7 = .ok (.ifnull 20, 3) := by decide +kernel
theorem dX9_name_10 : decode cX9_name 10 = .ok (.iload_n 2, 1) := by decide +kernel
theorem dX9_name_11 : decode cX9_name 11 = .ok (.iconst 1, 1) := by decide +kernel
theorem dX9_name_12 : decode cX9_name 12 = .ok (.ldc 198, 2) := by decide +kernel
theorem dX9_name_14 : decode cX9_name 14 = .ok (.invokestatic 47, 3) := by decide +kernel
theorem dX9_name_17 : decode cX9_name 17 = .ok (.ifCond .eq 10, 3) := by decide +kernel
theorem dX9_name_20 : decode cX9_name 20 = .ok (.aload_n 3, 1) := by decide +kernel
theorem dX9_name_21 : decode cX9_name 21 = .ok (.getfield 199, 3) := by decide +kernel
theorem dX9_name_24 : decode cX9_name 24 = .ok (.ifCond .eq 5, 3) := by decide +kernel
theorem dX9_name_27 : decode cX9_name 27 = .ok (.iconst 0, 1) := by decide +kernel
theorem dX9_name_28 : decode cX9_name 28 = .ok (.ireturn, 1) := by decide +kernel
theorem dX9_name_29 : decode cX9_name 29 = .ok (.aload_n 3, 1) := by decide +kernel
theorem dX9_name_30 : decode cX9_name 30 = .ok (.iload_n 2, 1) := by decide +kernel
theorem dX9_name_31 : decode cX9_name 31 = .ok (.putfield 199, 3) := by decide +kernel
theorem dX9_name_34 : decode cX9_name 34 = .ok (.iconst 1, 1) := by decide +kernel
theorem dX9_name_35 : decode cX9_name 35 = .ok (.ireturn, 1) := by decide +kernel
theorem dX9_allow_0 : decode cX9_allow 0 = .ok (.aload_n 0, 1) := by decide +kernel
theorem dX9_allow_1 : decode cX9_allow 1 = .ok (.iload_n 2, 1) := by decide +kernel
theorem dX9_allow_2 : decode cX9_allow 2 = .ok (.invokevirtual 100, 3) := by decide +kernel
theorem dX9_allow_5 : decode cX9_allow 5 = .ok (.astore 4, 2) := by decide +kernel
theorem dX9_allow_7 : decode cX9_allow 7 = .ok (.aload 4, 2) := by decide +kernel
theorem dX9_allow_9 : decode cX9_allow 9 = .ok (.ifnull 20, 3) := by decide +kernel
theorem dX9_allow_12 : decode cX9_allow 12 = .ok (.iload_n 1, 1) := by decide +kernel
theorem dX9_allow_13 : decode cX9_allow 13 = .ok (.invokestatic 202, 3) := by decide +kernel
theorem dX9_allow_16 : decode cX9_allow 16 = .ok (.ifCond .eq 13, 3) := by decide +kernel
theorem dX9_allow_19 : decode cX9_allow 19 = .ok (.aload 4, 2) := by decide +kernel
theorem dX9_allow_21 : decode cX9_allow 21 = .ok (.iload_n 1, 1) := by decide +kernel
theorem dX9_allow_22 : decode cX9_allow 22 = .ok (.invokevirtual 205, 3) := by decide +kernel
theorem dX9_allow_25 : decode cX9_allow 25 = .ok (.iload_n 3, 1) := by decide +kernel
theorem dX9_allow_26 : decode cX9_allow 26 = .ok (.if_icmp .ne 5, 3) := by decide +kernel
theorem dX9_allow_29 : decode cX9_allow 29 = .ok (.iconst 0, 1) := by decide +kernel
theorem dX9_allow_30 : decode cX9_allow 30 = .ok (.ireturn, 1) := by decide +kernel
theorem dX9_allow_31 : decode cX9_allow 31 = .ok (.aload 4, 2) := by decide +kernel
theorem dX9_allow_33 : decode cX9_allow 33 = .ok (.dup, 1) := by decide +kernel
theorem dX9_allow_34 : decode cX9_allow 34 = .ok (.getfield 208, 3) := by decide +kernel
theorem dX9_allow_37 : decode cX9_allow 37 = .ok (.iconst 1, 1) := by decide +kernel
theorem dX9_allow_38 : decode cX9_allow 38 = .ok (.iload_n 1, 1) := by decide +kernel
theorem dX9_allow_39 : decode cX9_allow 39 = .ok (.ishl, 1) := by decide +kernel
theorem dX9_allow_40 : decode cX9_allow 40 = .ok (.ixor, 1) := by decide +kernel
theorem dX9_allow_41 : decode cX9_allow 41 = .ok (.putfield 208, 3) := by decide +kernel
theorem dX9_allow_44 : decode cX9_allow 44 = .ok (.iconst 1, 1) := by decide +kernel
theorem dX9_allow_45 : decode cX9_allow 45 = .ok (.ireturn, 1) := by decide +kernel
theorem dX9_ask_0 : decode cX9_ask 0 = .ok (.aload_n 0, 1) := by decide +kernel
theorem dX9_ask_1 : decode cX9_ask 1 = .ok (.iload_n 2, 1) := by decide +kernel
theorem dX9_ask_2 : decode cX9_ask 2 = .ok (.invokevirtual 100, 3) := by decide +kernel
theorem dX9_ask_5 : decode cX9_ask 5 = .ok (.astore_n 3, 1) := by decide +kernel
theorem dX9_ask_6 : decode cX9_ask 6 = .ok (.aload_n 3, 1) := by decide +kernel
theorem dX9_ask_7 : decode cX9_ask 7 = .ok (.ifnull 10, 3) := by decide +kernel
theorem dX9_ask_10 : decode cX9_ask 10 = .ok (.iload_n 1, 1) := by decide +kernel
theorem dX9_ask_11 : decode cX9_ask 11 = .ok (.invokestatic 202, 3) := by decide +kernel
theorem dX9_ask_14 : decode cX9_ask 14 = .ok (.ifCond .ne 5, 3) := by decide +kernel
theorem dX9_ask_17 : decode cX9_ask 17 = .ok (.iconst (-1), 1) := by decide +kernel
theorem dX9_ask_18 : decode cX9_ask 18 = .ok (.ireturn, 1) := by decide +kernel
theorem dX9_ask_19 : decode cX9_ask 19 = .ok (.aload_n 3, 1) := by decide +kernel
theorem dX9_ask_20 : decode cX9_ask 20 = .ok (.iload_n 1, 1) := by decide +kernel
theorem dX9_ask_21 : decode cX9_ask 21 = .ok (.invokevirtual 205, 3) := by decide +kernel
theorem dX9_ask_24 : decode cX9_ask 24 = .ok (.ifCond .eq 10, 3) := by decide +kernel
theorem dX9_ask_27 : decode cX9_ask 27 = .ok (.aload_n 3, 1) := by decide +kernel
theorem dX9_ask_28 : decode cX9_ask 28 = .ok (.getfield 199, 3) := by decide +kernel
theorem dX9_ask_31 : decode cX9_ask 31 = .ok (.goto 4, 3) := by decide +kernel
theorem dX9_ask_34 : decode cX9_ask 34 = .ok (.iconst 0, 1) := by decide +kernel
theorem dX9_ask_35 : decode cX9_ask 35 = .ok (.ireturn, 1) := by decide +kernel
theorem dX9_guess_0 : decode cX9_guess 0 = .ok (.aload_n 0, 1) := by decide +kernel
theorem dX9_guess_1 : decode cX9_guess 1 = .ok (.iload_n 2, 1) := by decide +kernel
theorem dX9_guess_2 : decode cX9_guess 2 = .ok (.invokevirtual 100, 3) := by decide +kernel
theorem dX9_guess_5 : decode cX9_guess 5 = .ok (.astore 4, 2) := by decide +kernel
theorem dX9_guess_7 : decode cX9_guess 7 = .ok (.aload 4, 2) := by decide +kernel
theorem dX9_guess_9 : decode cX9_guess 9 = .ok (.ifnull 20, 3) := by decide +kernel
theorem dX9_guess_12 : decode cX9_guess 12 = .ok (.iload_n 1, 1) := by decide +kernel
theorem dX9_guess_13 : decode cX9_guess 13 = .ok (.invokestatic 202, 3) := by decide +kernel
theorem dX9_guess_16 : decode cX9_guess 16 = .ok (.ifCond .eq 13, 3) := by decide +kernel
theorem dX9_guess_19 : decode cX9_guess 19 = .ok (.iload_n 3, 1) := by decide +kernel
theorem dX9_guess_20 : decode cX9_guess 20 = .ok (.iconst 1, 1) := by decide +kernel
theorem dX9_guess_21 : decode cX9_guess 21 = .ok (.ldc 198, 2) := by decide +kernel
theorem dX9_guess_23 : decode cX9_guess 23 = .ok (.invokestatic 47, 3) := by decide +kernel
theorem dX9_guess_26 : decode cX9_guess 26 = .ok (.ifCond .ne 5, 3) := by decide +kernel
theorem dX9_guess_29 : decode cX9_guess 29 = .ok (.iconst (-1), 1) := by decide +kernel
theorem dX9_guess_30 : decode cX9_guess 30 = .ok (.ireturn, 1) := by decide +kernel
theorem dX9_guess_31 : decode cX9_guess 31 = .ok (.aload 4, 2) := by decide +kernel
theorem dX9_guess_33 : decode cX9_guess 33 = .ok (.iload_n 1, 1) := by decide +kernel
theorem dX9_guess_34 : decode cX9_guess 34 = .ok (.invokevirtual 205, 3) := by decide +kernel
theorem dX9_guess_37 : decode cX9_guess 37 = .ok (.ifCond .eq 16, 3) := by decide +kernel
theorem dX9_guess_40 : decode cX9_guess 40 = .ok (.aload 4, 2) := by decide +kernel
theorem dX9_guess_42 : decode cX9_guess 42 = .ok (.getfield 199, 3) := by decide +kernel
theorem dX9_guess_45 : decode cX9_guess 45 = .ok (.iload_n 3, 1) := by decide +kernel
theorem dX9_guess_46 : decode cX9_guess 46 = .ok (.if_icmp .ne 7, 3) := by decide +kernel
theorem dX9_guess_49 : decode cX9_guess 49 = .ok (.iconst 1, 1) := by decide +kernel
theorem dX9_guess_50 : decode cX9_guess 50 = .ok (.goto 4, 3) := by decide +kernel
theorem dX9_guess_53 : decode cX9_guess 53 = .ok (.iconst 0, 1) := by decide +kernel
theorem dX9_guess_54 : decode cX9_guess 54 = .ok (.ireturn, 1) := by decide +kernel
theorem dX9_told_0 : decode cX9_told 0 = .ok (.aload_n 0, 1) := by decide +kernel
theorem dX9_told_1 : decode cX9_told 1 = .ok (.iload_n 1, 1) := by decide +kernel
theorem dX9_told_2 : decode cX9_told 2 = .ok (.invokevirtual 100, 3) := by decide +kernel
theorem dX9_told_5 : decode cX9_told 5 = .ok (.astore_n 3, 1) := by decide +kernel
theorem dX9_told_6 : decode cX9_told 6 = .ok (.aload_n 3, 1) := by decide +kernel
theorem dX9_told_7 : decode cX9_told 7 = .ok (.ifnonnull 5, 3) := by decide +kernel
theorem dX9_told_10 : decode cX9_told 10 = .ok (.iconst (-1), 1) := by decide +kernel
theorem dX9_told_11 : decode cX9_told 11 = .ok (.ireturn, 1) := by decide +kernel
theorem dX9_told_12 : decode cX9_told 12 = .ok (.iload_n 2, 1) := by decide +kernel
theorem dX9_told_13 : decode cX9_told 13 = .ok (.tableswitch 93 0 7 #[47, 52, 57, 62, 70, 78, 83, 88], 47) := by decide +kernel
theorem dX9_told_60 : decode cX9_told 60 = .ok (.aload_n 3, 1) := by decide +kernel
theorem dX9_told_61 : decode cX9_told 61 = .ok (.getfield 108, 3) := by decide +kernel
theorem dX9_told_64 : decode cX9_told 64 = .ok (.ireturn, 1) := by decide +kernel
theorem dX9_told_65 : decode cX9_told 65 = .ok (.aload_n 3, 1) := by decide +kernel
theorem dX9_told_66 : decode cX9_told 66 = .ok (.getfield 211, 3) := by decide +kernel
theorem dX9_told_69 : decode cX9_told 69 = .ok (.ireturn, 1) := by decide +kernel
theorem dX9_told_70 : decode cX9_told 70 = .ok (.aload_n 3, 1) := by decide +kernel
theorem dX9_told_71 : decode cX9_told 71 = .ok (.getfield 214, 3) := by decide +kernel
theorem dX9_told_74 : decode cX9_told 74 = .ok (.ireturn, 1) := by decide +kernel
theorem dX9_told_75 : decode cX9_told 75 = .ok (.aload_n 3, 1) := by decide +kernel
theorem dX9_told_76 : decode cX9_told 76 = .ok (.getfield 167, 3) := by decide +kernel
theorem dX9_told_79 : decode cX9_told 79 = .ok (.getfield 217, 3) := by decide +kernel
theorem dX9_told_82 : decode cX9_told 82 = .ok (.ireturn, 1) := by decide +kernel
theorem dX9_told_83 : decode cX9_told 83 = .ok (.aload_n 3, 1) := by decide +kernel
theorem dX9_told_84 : decode cX9_told 84 = .ok (.getfield 167, 3) := by decide +kernel
theorem dX9_told_87 : decode cX9_told 87 = .ok (.getfield 220, 3) := by decide +kernel
theorem dX9_told_90 : decode cX9_told 90 = .ok (.ireturn, 1) := by decide +kernel
theorem dX9_told_91 : decode cX9_told 91 = .ok (.aload_n 3, 1) := by decide +kernel
theorem dX9_told_92 : decode cX9_told 92 = .ok (.getfield 223, 3) := by decide +kernel
theorem dX9_told_95 : decode cX9_told 95 = .ok (.ireturn, 1) := by decide +kernel
theorem dX9_told_96 : decode cX9_told 96 = .ok (.aload_n 3, 1) := by decide +kernel
theorem dX9_told_97 : decode cX9_told 97 = .ok (.getfield 226, 3) := by decide +kernel
theorem dX9_told_100 : decode cX9_told 100 = .ok (.ireturn, 1) := by decide +kernel
theorem dX9_told_101 : decode cX9_told 101 = .ok (.aload_n 3, 1) := by decide +kernel
theorem dX9_told_102 : decode cX9_told 102 = .ok (.getfield 131, 3) := by decide +kernel
theorem dX9_told_105 : decode cX9_told 105 = .ok (.ireturn, 1) := by decide +kernel
theorem dX9_told_106 : decode cX9_told 106 = .ok (.iconst (-1), 1) := by decide +kernel
theorem dX9_told_107 : decode cX9_told 107 = .ok (.ireturn, 1) := by decide +kernel
theorem dX9_count_0 : decode cX9_count 0 = .ok (.iload_n 1, 1) := by decide +kernel
theorem dX9_count_1 : decode cX9_count 1 = .ok (.tableswitch 99 0 7 #[47, 52, 57, 62, 67, 72, 80, 85], 47) := by decide +kernel
theorem dX9_count_48 : decode cX9_count 48 = .ok (.aload_n 0, 1) := by decide +kernel
theorem dX9_count_49 : decode cX9_count 49 = .ok (.getfield 51, 3) := by decide +kernel
theorem dX9_count_52 : decode cX9_count 52 = .ok (.ireturn, 1) := by decide +kernel
theorem dX9_count_53 : decode cX9_count 53 = .ok (.aload_n 0, 1) := by decide +kernel
theorem dX9_count_54 : decode cX9_count 54 = .ok (.getfield 78, 3) := by decide +kernel
theorem dX9_count_57 : decode cX9_count 57 = .ok (.ireturn, 1) := by decide +kernel
theorem dX9_count_58 : decode cX9_count 58 = .ok (.aload_n 0, 1) := by decide +kernel
theorem dX9_count_59 : decode cX9_count 59 = .ok (.getfield 55, 3) := by decide +kernel
theorem dX9_count_62 : decode cX9_count 62 = .ok (.ireturn, 1) := by decide +kernel
theorem dX9_count_63 : decode cX9_count 63 = .ok (.aload_n 0, 1) := by decide +kernel
theorem dX9_count_64 : decode cX9_count 64 = .ok (.getfield 111, 3) := by decide +kernel
theorem dX9_count_67 : decode cX9_count 67 = .ok (.ireturn, 1) := by decide +kernel
theorem dX9_count_68 : decode cX9_count 68 = .ok (.aload_n 0, 1) := by decide +kernel
theorem dX9_count_69 : decode cX9_count 69 = .ok (.getfield 149, 3) := by decide +kernel
theorem dX9_count_72 : decode cX9_count 72 = .ok (.ireturn, 1) := by decide +kernel
theorem dX9_count_73 : decode cX9_count 73 = .ok (.aload_n 0, 1) := by decide +kernel
theorem dX9_count_74 : decode cX9_count 74 = .ok (.getfield 30, 3) := by decide +kernel
theorem dX9_count_77 : decode cX9_count 77 = .ok (.getfield 175, 3) := by decide +kernel
theorem dX9_count_80 : decode cX9_count 80 = .ok (.ireturn, 1) := by decide +kernel
theorem dX9_count_81 : decode cX9_count 81 = .ok (.aload_n 0, 1) := by decide +kernel
theorem dX9_count_82 : decode cX9_count 82 = .ok (.getfield 186, 3) := by decide +kernel
theorem dX9_count_85 : decode cX9_count 85 = .ok (.ireturn, 1) := by decide +kernel
theorem dX9_count_86 : decode cX9_count 86 = .ok (.aload_n 0, 1) := by decide +kernel
theorem dX9_count_87 : decode cX9_count 87 = .ok (.iconst 0, 1) := by decide +kernel
theorem dX9_count_88 : decode cX9_count 88 = .ok (.aload_n 0, 1) := by decide +kernel
theorem dX9_count_89 : decode cX9_count 89 = .ok (.getfield 51, 3) := by decide +kernel
theorem dX9_count_92 : decode cX9_count 92 = .ok (.aload_n 0, 1) := by decide +kernel
theorem dX9_count_93 : decode cX9_count 93 = .ok (.getfield 51, 3) := by decide +kernel
theorem dX9_count_96 : decode cX9_count 96 = .ok (.invokevirtual 152, 3) := by decide +kernel
theorem dX9_count_99 : decode cX9_count 99 = .ok (.ireturn, 1) := by decide +kernel
theorem dX9_count_100 : decode cX9_count 100 = .ok (.iconst (-1), 1) := by decide +kernel
theorem dX9_count_101 : decode cX9_count 101 = .ok (.ireturn, 1) := by decide +kernel
theorem dX9_within_0 : decode cX9_within 0 = .ok (.iload_n 0, 1) := by decide +kernel
theorem dX9_within_1 : decode cX9_within 1 = .ok (.iload_n 1, 1) := by decide +kernel
theorem dX9_within_2 : decode cX9_within 2 = .ok (.if_icmp .lt 12, 3) := by decide +kernel
theorem dX9_within_5 : decode cX9_within 5 = .ok (.iload_n 0, 1) := by decide +kernel
theorem dX9_within_6 : decode cX9_within 6 = .ok (.iload_n 2, 1) := by decide +kernel
theorem dX9_within_7 : decode cX9_within 7 = .ok (.if_icmp .gt 7, 3) := by decide +kernel
theorem dX9_within_10 : decode cX9_within 10 = .ok (.iconst 1, 1) := by decide +kernel
theorem dX9_within_11 : decode cX9_within 11 = .ok (.goto 4, 3) := by decide +kernel
theorem dX9_within_14 : decode cX9_within 14 = .ok (.iconst 0, 1) := by decide +kernel
theorem dX9_within_15 : decode cX9_within 15 = .ok (.ireturn, 1) := by decide +kernel
theorem dX9_isPlace_0 : decode cX9_isPlace 0 = .ok (.iload_n 0, 1) := by decide +kernel
theorem dX9_isPlace_1 : decode cX9_isPlace 1 = .ok (.iconst 0, 1) := by decide +kernel
theorem dX9_isPlace_2 : decode cX9_isPlace 2 = .ok (.bipush 15, 2) := by decide +kernel
theorem dX9_isPlace_4 : decode cX9_isPlace 4 = .ok (.invokestatic 47, 3) := by decide +kernel
theorem dX9_isPlace_7 : decode cX9_isPlace 7 = .ok (.ireturn, 1) := by decide +kernel
theorem dX9_isWho_0 : decode cX9_isWho 0 = .ok (.iload_n 0, 1) := by decide +kernel
theorem dX9_isWho_1 : decode cX9_isWho 1 = .ok (.iconst 0, 1) := by decide +kernel
theorem dX9_isWho_2 : decode cX9_isWho 2 = .ok (.bipush 19, 2) := by decide +kernel
theorem dX9_isWho_4 : decode cX9_isWho 4 = .ok (.invokestatic 47, 3) := by decide +kernel
theorem dX9_isWho_7 : decode cX9_isWho 7 = .ok (.ireturn, 1) := by decide +kernel
theorem dX9_areWeeks_0 : decode cX9_areWeeks 0 = .ok (.iload_n 0, 1) := by decide +kernel
theorem dX9_areWeeks_1 : decode cX9_areWeeks 1 = .ok (.iconst 0, 1) := by decide +kernel
theorem dX9_areWeeks_2 : decode cX9_areWeeks 2 = .ok (.sipush 300, 3) := by decide +kernel
theorem dX9_areWeeks_5 : decode cX9_areWeeks 5 = .ok (.invokestatic 47, 3) := by decide +kernel
theorem dX9_areWeeks_8 : decode cX9_areWeeks 8 = .ok (.ifCond .eq 18, 3) := by decide +kernel
theorem dX9_areWeeks_11 : decode cX9_areWeeks 11 = .ok (.iload_n 1, 1) := by decide +kernel
theorem dX9_areWeeks_12 : decode cX9_areWeeks 12 = .ok (.iload_n 0, 1) := by decide +kernel
theorem dX9_areWeeks_13 : decode cX9_areWeeks 13 = .ok (.sipush 300, 3) := by decide +kernel
theorem dX9_areWeeks_16 : decode cX9_areWeeks 16 = .ok (.invokestatic 47, 3) := by decide +kernel
theorem dX9_areWeeks_19 : decode cX9_areWeeks 19 = .ok (.ifCond .eq 7, 3) := by decide +kernel
theorem dX9_areWeeks_22 : decode cX9_areWeeks 22 = .ok (.iconst 1, 1) := by decide +kernel
theorem dX9_areWeeks_23 : decode cX9_areWeeks 23 = .ok (.goto 4, 3) := by decide +kernel
theorem dX9_areWeeks_26 : decode cX9_areWeeks 26 = .ok (.iconst 0, 1) := by decide +kernel
theorem dX9_areWeeks_27 : decode cX9_areWeeks 27 = .ok (.ireturn, 1) := by decide +kernel
theorem dX9_isPast_0 : decode cX9_isPast 0 = .ok (.iload_n 1, 1) := by decide +kernel
theorem dX9_isPast_1 : decode cX9_isPast 1 = .ok (.iconst 0, 1) := by decide +kernel
theorem dX9_isPast_2 : decode cX9_isPast 2 = .ok (.aload_n 0, 1) := by decide +kernel
theorem dX9_isPast_3 : decode cX9_isPast 3 = .ok (.getfield 51, 3) := by decide +kernel
theorem dX9_isPast_6 : decode cX9_isPast 6 = .ok (.invokestatic 47, 3) := by decide +kernel
theorem dX9_isPast_9 : decode cX9_isPast 9 = .ok (.ireturn, 1) := by decide +kernel
theorem dX9_findBallot_0 : decode cX9_findBallot 0 = .ok (.iload_n 1, 1) := by decide +kernel
theorem dX9_findBallot_1 : decode cX9_findBallot 1 = .ok (.iconst 0, 1) := by decide +kernel
theorem dX9_findBallot_2 : decode cX9_findBallot 2 = .ok (.aload_n 0, 1) := by decide +kernel
theorem dX9_findBallot_3 : decode cX9_findBallot 3 = .ok (.getfield 55, 3) := by decide +kernel
theorem dX9_findBallot_6 : decode cX9_findBallot 6 = .ok (.iconst 1, 1) := by decide +kernel
theorem dX9_findBallot_7 : decode cX9_findBallot 7 = .ok (.isub, 1) := by decide +kernel
theorem dX9_findBallot_8 : decode cX9_findBallot 8 = .ok (.invokestatic 47, 3) := by decide +kernel
theorem dX9_findBallot_11 : decode cX9_findBallot 11 = .ok (.ifCond .eq 12, 3) := by decide +kernel
theorem dX9_findBallot_14 : decode cX9_findBallot 14 = .ok (.aload_n 0, 1) := by decide +kernel
theorem dX9_findBallot_15 : decode cX9_findBallot 15 = .ok (.getfield 11, 3) := by decide +kernel
theorem dX9_findBallot_18 : decode cX9_findBallot 18 = .ok (.iload_n 1, 1) := by decide +kernel
theorem dX9_findBallot_19 : decode cX9_findBallot 19 = .ok (.aaload, 1) := by decide +kernel
theorem dX9_findBallot_20 : decode cX9_findBallot 20 = .ok (.goto 4, 3) := by decide +kernel
theorem dX9_findBallot_23 : decode cX9_findBallot 23 = .ok (.aconst_null, 1) := by decide +kernel
theorem dX9_findBallot_24 : decode cX9_findBallot 24 = .ok (.areturn, 1) := by decide +kernel
theorem dX9_findChild_0 : decode cX9_findChild 0 = .ok (.iload_n 1, 1) := by decide +kernel
theorem dX9_findChild_1 : decode cX9_findChild 1 = .ok (.iconst 0, 1) := by decide +kernel
theorem dX9_findChild_2 : decode cX9_findChild 2 = .ok (.aload_n 0, 1) := by decide +kernel
theorem dX9_findChild_3 : decode cX9_findChild 3 = .ok (.getfield 78, 3) := by decide +kernel
theorem dX9_findChild_6 : decode cX9_findChild 6 = .ok (.iconst 1, 1) := by decide +kernel
theorem dX9_findChild_7 : decode cX9_findChild 7 = .ok (.isub, 1) := by decide +kernel
theorem dX9_findChild_8 : decode cX9_findChild 8 = .ok (.invokestatic 47, 3) := by decide +kernel
theorem dX9_findChild_11 : decode cX9_findChild 11 = .ok (.ifCond .eq 12, 3) := by decide +kernel
theorem dX9_findChild_14 : decode cX9_findChild 14 = .ok (.aload_n 0, 1) := by decide +kernel
theorem dX9_findChild_15 : decode cX9_findChild 15 = .ok (.getfield 17, 3) := by decide +kernel
theorem dX9_findChild_18 : decode cX9_findChild 18 = .ok (.iload_n 1, 1) := by decide +kernel
theorem dX9_findChild_19 : decode cX9_findChild 19 = .ok (.aaload, 1) := by decide +kernel
theorem dX9_findChild_20 : decode cX9_findChild 20 = .ok (.goto 4, 3) := by decide +kernel
theorem dX9_findChild_23 : decode cX9_findChild 23 = .ok (.aconst_null, 1) := by decide +kernel
theorem dX9_findChild_24 : decode cX9_findChild 24 = .ok (.areturn, 1) := by decide +kernel
theorem dX9_findNurse_0 : decode cX9_findNurse 0 = .ok (.iload_n 1, 1) := by decide +kernel
theorem dX9_findNurse_1 : decode cX9_findNurse 1 = .ok (.iconst 1, 1) := by decide +kernel
theorem dX9_findNurse_2 : decode cX9_findNurse 2 = .ok (.bipush 12, 2) := by decide +kernel
theorem dX9_findNurse_4 : decode cX9_findNurse 4 = .ok (.invokestatic 47, 3) := by decide +kernel
theorem dX9_findNurse_7 : decode cX9_findNurse 7 = .ok (.ifCond .eq 12, 3) := by decide +kernel
theorem dX9_findNurse_10 : decode cX9_findNurse 10 = .ok (.aload_n 0, 1) := by decide +kernel
theorem dX9_findNurse_11 : decode cX9_findNurse 11 = .ok (.getfield 23, 3) := by decide +kernel
theorem dX9_findNurse_14 : decode cX9_findNurse 14 = .ok (.iload_n 1, 1) := by decide +kernel
theorem dX9_findNurse_15 : decode cX9_findNurse 15 = .ok (.aaload, 1) := by decide +kernel
theorem dX9_findNurse_16 : decode cX9_findNurse 16 = .ok (.goto 4, 3) := by decide +kernel
theorem dX9_findNurse_19 : decode cX9_findNurse 19 = .ok (.aconst_null, 1) := by decide +kernel
theorem dX9_findNurse_20 : decode cX9_findNurse 20 = .ok (.areturn, 1) := by decide +kernel
theorem dX9_isGone_0 : decode cX9_isGone 0 = .ok (.aload_n 1, 1) := by decide +kernel
theorem dX9_isGone_1 : decode cX9_isGone 1 = .ok (.iload_n 2, 1) := by decide +kernel
theorem dX9_isGone_2 : decode cX9_isGone 2 = .ok (.aload_n 0, 1) := by decide +kernel
theorem dX9_isGone_3 : decode cX9_isGone 3 = .ok (.getfield 51, 3) := by decide +kernel
theorem dX9_isGone_6 : decode cX9_isGone 6 = .ok (.invokevirtual 135, 3) := by decide +kernel
theorem dX9_isGone_9 : decode cX9_isGone 9 = .ok (.istore_n 3, 1) := by decide +kernel
theorem dX9_isGone_10 : decode cX9_isGone 10 = .ok (.iload_n 3, 1) := by decide +kernel
theorem dX9_isGone_11 : decode cX9_isGone 11 = .ok (.bipush 14, 2) := by decide +kernel
theorem dX9_isGone_13 : decode cX9_isGone 13 = .ok (.if_icmp .eq 9, 3) := by decide +kernel
theorem dX9_isGone_16 : decode cX9_isGone 16 = .ok (.iload_n 3, 1) := by decide +kernel
theorem dX9_isGone_17 : decode cX9_isGone 17 = .ok (.bipush 15, 2) := by decide +kernel
theorem dX9_isGone_19 : decode cX9_isGone 19 = .ok (.if_icmp .ne 7, 3) := by decide +kernel
theorem dX9_isGone_22 : decode cX9_isGone 22 = .ok (.iconst 1, 1) := by decide +kernel
theorem dX9_isGone_23 : decode cX9_isGone 23 = .ok (.goto 4, 3) := by decide +kernel
theorem dX9_isGone_26 : decode cX9_isGone 26 = .ok (.iconst 0, 1) := by decide +kernel
theorem dX9_isGone_27 : decode cX9_isGone 27 = .ok (.ireturn, 1) := by decide +kernel
theorem dX9_childrenAt_0 : decode cX9_childrenAt 0 = .ok (.iconst 0, 1) := by decide +kernel
theorem dX9_childrenAt_1 : decode cX9_childrenAt 1 = .ok (.istore 4, 2) := by decide +kernel
theorem dX9_childrenAt_3 : decode cX9_childrenAt 3 = .ok (.iconst 0, 1) := by decide +kernel
theorem dX9_childrenAt_4 : decode cX9_childrenAt 4 = .ok (.istore 5, 2) := by decide +kernel
theorem dX9_childrenAt_6 : decode cX9_childrenAt 6 = .ok (.iload 5, 2) := by decide +kernel
theorem dX9_childrenAt_8 : decode cX9_childrenAt 8 = .ok (.aload_n 0, 1) := by decide +kernel
theorem dX9_childrenAt_9 : decode cX9_childrenAt 9 = .ok (.getfield 78, 3) := by decide +kernel
theorem dX9_childrenAt_12 : decode cX9_childrenAt 12 = .ok (.if_icmp .ge 28, 3) := by decide +kernel
theorem dX9_childrenAt_15 : decode cX9_childrenAt 15 = .ok (.aload_n 0, 1) := by decide +kernel
theorem dX9_childrenAt_16 : decode cX9_childrenAt 16 = .ok (.getfield 17, 3) := by decide +kernel
theorem dX9_childrenAt_19 : decode cX9_childrenAt 19 = .ok (.iload 5, 2) := by decide +kernel
theorem dX9_childrenAt_21 : decode cX9_childrenAt 21 = .ok (.aaload, 1) := by decide +kernel
theorem dX9_childrenAt_22 : decode cX9_childrenAt 22 = .ok (.iload_n 2, 1) := by decide +kernel
theorem dX9_childrenAt_23 : decode cX9_childrenAt 23 = .ok (.iload_n 3, 1) := by decide +kernel
theorem dX9_childrenAt_24 : decode cX9_childrenAt 24 = .ok (.invokevirtual 135, 3) := by decide +kernel
theorem dX9_childrenAt_27 : decode cX9_childrenAt 27 = .ok (.iload_n 1, 1) := by decide +kernel
theorem dX9_childrenAt_28 : decode cX9_childrenAt 28 = .ok (.if_icmp .ne 6, 3) := by decide +kernel
theorem dX9_childrenAt_31 : decode cX9_childrenAt 31 = .ok (.iinc 4 1, 3) := by decide +kernel
theorem dX9_childrenAt_34 : decode cX9_childrenAt 34 = .ok (.iinc 5 1, 3) := by decide +kernel
theorem dX9_childrenAt_37 : decode cX9_childrenAt 37 = .ok (.goto (-31), 3) := by decide +kernel
theorem dX9_childrenAt_40 : decode cX9_childrenAt 40 = .ok (.iload 4, 2) := by decide +kernel
theorem dX9_childrenAt_42 : decode cX9_childrenAt 42 = .ok (.ireturn, 1) := by decide +kernel
theorem dX9_isOver_0 : decode cX9_isOver 0 = .ok (.aload_n 0, 1) := by decide +kernel
theorem dX9_isOver_1 : decode cX9_isOver 1 = .ok (.iload_n 1, 1) := by decide +kernel
theorem dX9_isOver_2 : decode cX9_isOver 2 = .ok (.iload_n 3, 1) := by decide +kernel
theorem dX9_isOver_3 : decode cX9_isOver 3 = .ok (.aload_n 0, 1) := by decide +kernel
theorem dX9_isOver_4 : decode cX9_isOver 4 = .ok (.getfield 51, 3) := by decide +kernel
theorem dX9_isOver_7 : decode cX9_isOver 7 = .ok (.invokevirtual 152, 3) := by decide +kernel
theorem dX9_isOver_10 : decode cX9_isOver 10 = .ok (.iload_n 2, 1) := by decide +kernel
theorem dX9_isOver_11 : decode cX9_isOver 11 = .ok (.if_icmp .le 5, 3) := by decide +kernel
theorem dX9_isOver_14 : decode cX9_isOver 14 = .ok (.iconst 1, 1) := by decide +kernel
theorem dX9_isOver_15 : decode cX9_isOver 15 = .ok (.ireturn, 1) := by decide +kernel
theorem dX9_isOver_16 : decode cX9_isOver 16 = .ok (.iconst 0, 1) := by decide +kernel
theorem dX9_isOver_17 : decode cX9_isOver 17 = .ok (.istore 4, 2) := by decide +kernel
theorem dX9_isOver_19 : decode cX9_isOver 19 = .ok (.iload 4, 2) := by decide +kernel
theorem dX9_isOver_21 : decode cX9_isOver 21 = .ok (.aload_n 0, 1) := by decide +kernel
theorem dX9_isOver_22 : decode cX9_isOver 22 = .ok (.getfield 78, 3) := by decide +kernel
theorem dX9_isOver_25 : decode cX9_isOver 25 = .ok (.if_icmp .ge 86, 3) := by decide +kernel
theorem dX9_isOver_28 : decode cX9_isOver 28 = .ok (.aload_n 0, 1) := by decide +kernel
theorem dX9_isOver_29 : decode cX9_isOver 29 = .ok (.getfield 17, 3) := by decide +kernel
theorem dX9_isOver_32 : decode cX9_isOver 32 = .ok (.iload 4, 2) := by decide +kernel
theorem dX9_isOver_34 : decode cX9_isOver 34 = .ok (.aaload, 1) := by decide +kernel
theorem dX9_isOver_35 : decode cX9_isOver 35 = .ok (.getfield 229, 3) := by decide +kernel
theorem dX9_isOver_38 : decode cX9_isOver 38 = .ok (.astore 5, 2) := by decide +kernel
theorem dX9_isOver_40 : decode cX9_isOver 40 = .ok (.aload 5, 2) := by decide +kernel
theorem dX9_isOver_42 : decode cX9_isOver 42 = .ok (.ifnull 63, 3) := by decide +kernel
theorem dX9_isOver_45 : decode cX9_isOver 45 = .ok (.aload 5, 2) := by decide +kernel
theorem dX9_isOver_47 : decode cX9_isOver 47 = .ok (.getfield 232, 3) := by decide +kernel
theorem dX9_isOver_50 : decode cX9_isOver 50 = .ok (.iload_n 1, 1) := by decide +kernel
theorem dX9_isOver_51 : decode cX9_isOver 51 = .ok (.if_icmp .ne 16, 3) := by decide +kernel
theorem dX9_isOver_54 : decode cX9_isOver 54 = .ok (.aload 5, 2) := by decide +kernel
theorem dX9_isOver_56 : decode cX9_isOver 56 = .ok (.getfield 235, 3) := by decide +kernel
theorem dX9_isOver_59 : decode cX9_isOver 59 = .ok (.iload_n 3, 1) := by decide +kernel
theorem dX9_isOver_60 : decode cX9_isOver 60 = .ok (.if_icmp .le 7, 3) := by decide +kernel
theorem dX9_isOver_63 : decode cX9_isOver 63 = .ok (.iconst 1, 1) := by decide +kernel
theorem dX9_isOver_64 : decode cX9_isOver 64 = .ok (.goto 4, 3) := by decide +kernel
theorem dX9_isOver_67 : decode cX9_isOver 67 = .ok (.iconst 0, 1) := by decide +kernel
theorem dX9_isOver_68 : decode cX9_isOver 68 = .ok (.istore 6, 2) := by decide +kernel
theorem dX9_isOver_70 : decode cX9_isOver 70 = .ok (.iload 6, 2) := by decide +kernel
theorem dX9_isOver_72 : decode cX9_isOver 72 = .ok (.ifCond .eq 23, 3) := by decide +kernel
theorem dX9_isOver_75 : decode cX9_isOver 75 = .ok (.aload_n 0, 1) := by decide +kernel
theorem dX9_isOver_76 : decode cX9_isOver 76 = .ok (.iload_n 1, 1) := by decide +kernel
theorem dX9_isOver_77 : decode cX9_isOver 77 = .ok (.aload 5, 2) := by decide +kernel
theorem dX9_isOver_79 : decode cX9_isOver 79 = .ok (.getfield 235, 3) := by decide +kernel
theorem dX9_isOver_82 : decode cX9_isOver 82 = .ok (.aload_n 0, 1) := by decide +kernel
theorem dX9_isOver_83 : decode cX9_isOver 83 = .ok (.getfield 51, 3) := by decide +kernel
theorem dX9_isOver_86 : decode cX9_isOver 86 = .ok (.invokevirtual 152, 3) := by decide +kernel
theorem dX9_isOver_89 : decode cX9_isOver 89 = .ok (.iload_n 2, 1) := by decide +kernel
theorem dX9_isOver_90 : decode cX9_isOver 90 = .ok (.if_icmp .le 5, 3) := by decide +kernel
theorem dX9_isOver_93 : decode cX9_isOver 93 = .ok (.iconst 1, 1) := by decide +kernel
theorem dX9_isOver_94 : decode cX9_isOver 94 = .ok (.ireturn, 1) := by decide +kernel
theorem dX9_isOver_95 : decode cX9_isOver 95 = .ok (.aload 5, 2) := by decide +kernel
theorem dX9_isOver_97 : decode cX9_isOver 97 = .ok (.getfield 127, 3) := by decide +kernel
theorem dX9_isOver_100 : decode cX9_isOver 100 = .ok (.astore 5, 2) := by decide +kernel
theorem dX9_isOver_102 : decode cX9_isOver 102 = .ok (.goto (-62), 3) := by decide +kernel
theorem dX9_isOver_105 : decode cX9_isOver 105 = .ok (.iinc 4 1, 3) := by decide +kernel
theorem dX9_isOver_108 : decode cX9_isOver 108 = .ok (.goto (-89), 3) := by decide +kernel
theorem dX9_isOver_111 : decode cX9_isOver 111 = .ok (.iconst 0, 1) := by decide +kernel
theorem dX9_isOver_112 : decode cX9_isOver 112 = .ok (.ireturn, 1) := by decide +kernel
theorem dX9_daysWith_0 : decode cX9_daysWith 0 = .ok (.bipush 7, 2) := by decide +kernel
theorem dX9_daysWith_2 : decode cX9_daysWith 2 = .ok (.iload_n 2, 1) := by decide +kernel
theorem dX9_daysWith_3 : decode cX9_daysWith 3 = .ok (.imul, 1) := by decide +kernel
theorem dX9_daysWith_4 : decode cX9_daysWith 4 = .ok (.istore 5, 2) := by decide +kernel
theorem dX9_daysWith_6 : decode cX9_daysWith 6 = .ok (.bipush 7, 2) := by decide +kernel
theorem dX9_daysWith_8 : decode cX9_daysWith 8 = .ok (.iload_n 3, 1) := by decide +kernel
theorem dX9_daysWith_9 : decode cX9_daysWith 9 = .ok (.imul, 1) := by decide +kernel
theorem dX9_daysWith_10 : decode cX9_daysWith 10 = .ok (.bipush 7, 2) := by decide +kernel
theorem dX9_daysWith_12 : decode cX9_daysWith 12 = .ok (.iadd, 1) := by decide +kernel
theorem dX9_daysWith_13 : decode cX9_daysWith 13 = .ok (.iconst 1, 1) := by decide +kernel
theorem dX9_daysWith_14 : decode cX9_daysWith 14 = .ok (.isub, 1) := by decide +kernel
theorem dX9_daysWith_15 : decode cX9_daysWith 15 = .ok (.iload 4, 2) := by decide +kernel
theorem dX9_daysWith_17 : decode cX9_daysWith 17 = .ok (.invokestatic 238, 3) := by decide +kernel
theorem dX9_daysWith_20 : decode cX9_daysWith 20 = .ok (.istore 6, 2) := by decide +kernel
theorem dX9_daysWith_22 : decode cX9_daysWith 22 = .ok (.iconst 0, 1) := by decide +kernel
theorem dX9_daysWith_23 : decode cX9_daysWith 23 = .ok (.istore 7, 2) := by decide +kernel
theorem dX9_daysWith_25 : decode cX9_daysWith 25 = .ok (.iconst 0, 1) := by decide +kernel
theorem dX9_daysWith_26 : decode cX9_daysWith 26 = .ok (.istore 8, 2) := by decide +kernel
theorem dX9_daysWith_28 : decode cX9_daysWith 28 = .ok (.iload 8, 2) := by decide +kernel
theorem dX9_daysWith_30 : decode cX9_daysWith 30 = .ok (.aload_n 0, 1) := by decide +kernel
theorem dX9_daysWith_31 : decode cX9_daysWith 31 = .ok (.getfield 78, 3) := by decide +kernel
theorem dX9_daysWith_34 : decode cX9_daysWith 34 = .ok (.if_icmp .ge 31, 3) := by decide +kernel
theorem dX9_daysWith_37 : decode cX9_daysWith 37 = .ok (.iload 7, 2) := by decide +kernel
theorem dX9_daysWith_39 : decode cX9_daysWith 39 = .ok (.aload_n 0, 1) := by decide +kernel
theorem dX9_daysWith_40 : decode cX9_daysWith 40 = .ok (.getfield 17, 3) := by decide +kernel
theorem dX9_daysWith_43 : decode cX9_daysWith 43 = .ok (.iload 8, 2) := by decide +kernel
theorem dX9_daysWith_45 : decode cX9_daysWith 45 = .ok (.aaload, 1) := by decide +kernel
theorem dX9_daysWith_46 : decode cX9_daysWith 46 = .ok (.iload_n 1, 1) := by decide +kernel
theorem dX9_daysWith_47 : decode cX9_daysWith 47 = .ok (.iload 5, 2) := by decide +kernel
theorem dX9_daysWith_49 : decode cX9_daysWith 49 = .ok (.iload 6, 2) := by decide +kernel
theorem dX9_daysWith_51 : decode cX9_daysWith 51 = .ok (.iload 4, 2) := by decide +kernel
theorem dX9_daysWith_53 : decode cX9_daysWith 53 = .ok (.invokevirtual 243, 3) := by decide +kernel
theorem dX9_daysWith_56 : decode cX9_daysWith 56 = .ok (.iadd, 1) := by decide +kernel
theorem dX9_daysWith_57 : decode cX9_daysWith 57 = .ok (.istore 7, 2) := by decide +kernel
theorem dX9_daysWith_59 : decode cX9_daysWith 59 = .ok (.iinc 8 1, 3) := by decide +kernel
theorem dX9_daysWith_62 : decode cX9_daysWith 62 = .ok (.goto (-34), 3) := by decide +kernel
theorem dX9_daysWith_65 : decode cX9_daysWith 65 = .ok (.iload 7, 2) := by decide +kernel
theorem dX9_daysWith_67 : decode cX9_daysWith 67 = .ok (.ireturn, 1) := by decide +kernel
theorem dX9_seenDays_0 : decode cX9_seenDays 0 = .ok (.iconst 0, 1) := by decide +kernel
theorem dX9_seenDays_1 : decode cX9_seenDays 1 = .ok (.istore 6, 2) := by decide +kernel
theorem dX9_seenDays_3 : decode cX9_seenDays 3 = .ok (.iconst (-1), 1) := by decide +kernel
theorem dX9_seenDays_4 : decode cX9_seenDays 4 = .ok (.istore 7, 2) := by decide +kernel
theorem dX9_seenDays_6 : decode cX9_seenDays 6 = .ok (.aload_n 2, 1) := by decide +kernel
theorem dX9_seenDays_7 : decode cX9_seenDays 7 = .ok (.astore 8, 2) := by decide +kernel
theorem dX9_seenDays_9 : decode cX9_seenDays 9 = .ok (.aload 8, 2) := by decide +kernel
theorem dX9_seenDays_11 : decode cX9_seenDays 11 = .ok (.ifnull 83, 3) := by decide +kernel
theorem dX9_seenDays_14 : decode cX9_seenDays 14 = .ok (.aload 8, 2) := by decide +kernel
theorem dX9_seenDays_16 : decode cX9_seenDays 16 = .ok (.getfield 143, 3) := by decide +kernel
theorem dX9_seenDays_19 : decode cX9_seenDays 19 = .ok (.bipush 7, 2) := by decide +kernel
theorem dX9_seenDays_21 : decode cX9_seenDays 21 = .ok (.idiv, 1) := by decide +kernel
theorem dX9_seenDays_22 : decode cX9_seenDays 22 = .ok (.istore 9, 2) := by decide +kernel
theorem dX9_seenDays_24 : decode cX9_seenDays 24 = .ok (.aload 8, 2) := by decide +kernel
theorem dX9_seenDays_26 : decode cX9_seenDays 26 = .ok (.getfield 143, 3) := by decide +kernel
theorem dX9_seenDays_29 : decode cX9_seenDays 29 = .ok (.iload 5, 2) := by decide +kernel
theorem dX9_seenDays_31 : decode cX9_seenDays 31 = .ok (.if_icmp .gt 18, 3) := by decide +kernel
theorem dX9_seenDays_34 : decode cX9_seenDays 34 = .ok (.iload 9, 2) := by decide +kernel
theorem dX9_seenDays_36 : decode cX9_seenDays 36 = .ok (.iload_n 3, 1) := by decide +kernel
theorem dX9_seenDays_37 : decode cX9_seenDays 37 = .ok (.iload 4, 2) := by decide +kernel
theorem dX9_seenDays_39 : decode cX9_seenDays 39 = .ok (.invokestatic 47, 3) := by decide +kernel
theorem dX9_seenDays_42 : decode cX9_seenDays 42 = .ok (.ifCond .eq 7, 3) := by decide +kernel
theorem dX9_seenDays_45 : decode cX9_seenDays 45 = .ok (.iconst 1, 1) := by decide +kernel
theorem dX9_seenDays_46 : decode cX9_seenDays 46 = .ok (.goto 4, 3) := by decide +kernel
theorem dX9_seenDays_49 : decode cX9_seenDays 49 = .ok (.iconst 0, 1) := by decide +kernel
theorem dX9_seenDays_50 : decode cX9_seenDays 50 = .ok (.istore 10, 2) := by decide +kernel
theorem dX9_seenDays_52 : decode cX9_seenDays 52 = .ok (.iload 10, 2) := by decide +kernel
theorem dX9_seenDays_54 : decode cX9_seenDays 54 = .ok (.ifCond .eq 30, 3) := by decide +kernel
theorem dX9_seenDays_57 : decode cX9_seenDays 57 = .ok (.iload 9, 2) := by decide +kernel
theorem dX9_seenDays_59 : decode cX9_seenDays 59 = .ok (.iload 7, 2) := by decide +kernel
theorem dX9_seenDays_61 : decode cX9_seenDays 61 = .ok (.if_icmp .eq 23, 3) := by decide +kernel
theorem dX9_seenDays_64 : decode cX9_seenDays 64 = .ok (.iload 6, 2) := by decide +kernel
theorem dX9_seenDays_66 : decode cX9_seenDays 66 = .ok (.aload_n 0, 1) := by decide +kernel
theorem dX9_seenDays_67 : decode cX9_seenDays 67 = .ok (.iload_n 1, 1) := by decide +kernel
theorem dX9_seenDays_68 : decode cX9_seenDays 68 = .ok (.iload 9, 2) := by decide +kernel
theorem dX9_seenDays_70 : decode cX9_seenDays 70 = .ok (.iload 9, 2) := by decide +kernel
theorem dX9_seenDays_72 : decode cX9_seenDays 72 = .ok (.iload 5, 2) := by decide +kernel
theorem dX9_seenDays_74 : decode cX9_seenDays 74 = .ok (.invokevirtual 163, 3) := by decide +kernel
theorem dX9_seenDays_77 : decode cX9_seenDays 77 = .ok (.iadd, 1) := by decide +kernel
theorem dX9_seenDays_78 : decode cX9_seenDays 78 = .ok (.istore 6, 2) := by decide +kernel
theorem dX9_seenDays_80 : decode cX9_seenDays 80 = .ok (.iload 9, 2) := by decide +kernel
theorem dX9_seenDays_82 : decode cX9_seenDays 82 = .ok (.istore 7, 2) := by decide +kernel
theorem dX9_seenDays_84 : decode cX9_seenDays 84 = .ok (.aload 8, 2) := by decide +kernel
theorem dX9_seenDays_86 : decode cX9_seenDays 86 = .ok (.getfield 246, 3) := by decide +kernel
theorem dX9_seenDays_89 : decode cX9_seenDays 89 = .ok (.astore 8, 2) := by decide +kernel
theorem dX9_seenDays_91 : decode cX9_seenDays 91 = .ok (.goto (-82), 3) := by decide +kernel
theorem dX9_seenDays_94 : decode cX9_seenDays 94 = .ok (.iload 6, 2) := by decide +kernel
theorem dX9_seenDays_96 : decode cX9_seenDays 96 = .ok (.ireturn, 1) := by decide +kernel
theorem dX9_answerTo_0 : decode cX9_answerTo 0 = .ok (.iconst 0, 1) := by decide +kernel
theorem dX9_answerTo_1 : decode cX9_answerTo 1 = .ok (.istore_n 2, 1) := by decide +kernel
theorem dX9_answerTo_2 : decode cX9_answerTo 2 = .ok (.iconst 0, 1) := by decide +kernel
theorem dX9_answerTo_3 : decode cX9_answerTo 3 = .ok (.istore_n 3, 1) := by decide +kernel
theorem dX9_answerTo_4 : decode cX9_answerTo 4 = .ok (.iload_n 3, 1) := by decide +kernel
theorem dX9_answerTo_5 : decode cX9_answerTo 5 = .ok (.aload_n 0, 1) := by decide +kernel
theorem dX9_answerTo_6 : decode cX9_answerTo 6 = .ok (.getfield 78, 3) := by decide +kernel
theorem dX9_answerTo_9 : decode cX9_answerTo 9 = .ok (.if_icmp .ge 42, 3) := by decide +kernel
theorem dX9_answerTo_12 : decode cX9_answerTo 12 = .ok (.aload_n 0, 1) := by decide +kernel
theorem dX9_answerTo_13 : decode cX9_answerTo 13 = .ok (.getfield 17, 3) := by decide +kernel
theorem dX9_answerTo_16 : decode cX9_answerTo 16 = .ok (.iload_n 3, 1) := by decide +kernel
theorem dX9_answerTo_17 : decode cX9_answerTo 17 = .ok (.aaload, 1) := by decide +kernel
theorem dX9_answerTo_18 : decode cX9_answerTo 18 = .ok (.astore 4, 2) := by decide +kernel
theorem dX9_answerTo_20 : decode cX9_answerTo 20 = .ok (.aload_n 0, 1) := by decide +kernel
theorem dX9_answerTo_21 : decode cX9_answerTo 21 = .ok (.aload 4, 2) := by decide +kernel
theorem dX9_answerTo_23 : decode cX9_answerTo 23 = .ok (.aload_n 0, 1) := by decide +kernel
theorem dX9_answerTo_24 : decode cX9_answerTo 24 = .ok (.getfield 51, 3) := by decide +kernel
theorem dX9_answerTo_27 : decode cX9_answerTo 27 = .ok (.invokevirtual 114, 3) := by decide +kernel
theorem dX9_answerTo_30 : decode cX9_answerTo 30 = .ok (.ifCond .ne 15, 3) := by decide +kernel
theorem dX9_answerTo_33 : decode cX9_answerTo 33 = .ok (.aload_n 1, 1) := by decide +kernel
theorem dX9_answerTo_34 : decode cX9_answerTo 34 = .ok (.aload 4, 2) := by decide +kernel
theorem dX9_answerTo_36 : decode cX9_answerTo 36 = .ok (.invokevirtual 249, 3) := by decide +kernel
theorem dX9_answerTo_39 : decode cX9_answerTo 39 = .ok (.ifCond .ne 6, 3) := by decide +kernel
theorem dX9_answerTo_42 : decode cX9_answerTo 42 = .ok (.iinc 2 1, 3) := by decide +kernel
theorem dX9_answerTo_45 : decode cX9_answerTo 45 = .ok (.iinc 3 1, 3) := by decide +kernel
theorem dX9_answerTo_48 : decode cX9_answerTo 48 = .ok (.goto (-44), 3) := by decide +kernel
theorem dX9_answerTo_51 : decode cX9_answerTo 51 = .ok (.iconst (-1), 1) := by decide +kernel
theorem dX9_answerTo_52 : decode cX9_answerTo 52 = .ok (.istore_n 3, 1) := by decide +kernel
theorem dX9_answerTo_53 : decode cX9_answerTo 53 = .ok (.iconst 0, 1) := by decide +kernel
theorem dX9_answerTo_54 : decode cX9_answerTo 54 = .ok (.istore 4, 2) := by decide +kernel
theorem dX9_answerTo_56 : decode cX9_answerTo 56 = .ok (.iload 4, 2) := by decide +kernel
theorem dX9_answerTo_58 : decode cX9_answerTo 58 = .ok (.aload_n 0, 1) := by decide +kernel
theorem dX9_answerTo_59 : decode cX9_answerTo 59 = .ok (.getfield 78, 3) := by decide +kernel
theorem dX9_answerTo_62 : decode cX9_answerTo 62 = .ok (.if_icmp .ge 55, 3) := by decide +kernel
theorem dX9_answerTo_65 : decode cX9_answerTo 65 = .ok (.aload_n 0, 1) := by decide +kernel
theorem dX9_answerTo_66 : decode cX9_answerTo 66 = .ok (.getfield 17, 3) := by decide +kernel
theorem dX9_answerTo_69 : decode cX9_answerTo 69 = .ok (.iload 4, 2) := by decide +kernel
theorem dX9_answerTo_71 : decode cX9_answerTo 71 = .ok (.aaload, 1) := by decide +kernel
theorem dX9_answerTo_72 : decode cX9_answerTo 72 = .ok (.astore 5, 2) := by decide +kernel
theorem dX9_answerTo_74 : decode cX9_answerTo 74 = .ok (.aload_n 0, 1) := by decide +kernel
theorem dX9_answerTo_75 : decode cX9_answerTo 75 = .ok (.aload 5, 2) := by decide +kernel
theorem dX9_answerTo_77 : decode cX9_answerTo 77 = .ok (.aload_n 0, 1) := by decide +kernel
theorem dX9_answerTo_78 : decode cX9_answerTo 78 = .ok (.getfield 51, 3) := by decide +kernel
theorem dX9_answerTo_81 : decode cX9_answerTo 81 = .ok (.invokevirtual 114, 3) := by decide +kernel
theorem dX9_answerTo_84 : decode cX9_answerTo 84 = .ok (.ifCond .ne 27, 3) := by decide +kernel
theorem dX9_answerTo_87 : decode cX9_answerTo 87 = .ok (.aload_n 0, 1) := by decide +kernel
theorem dX9_answerTo_88 : decode cX9_answerTo 88 = .ok (.aload 5, 2) := by decide +kernel
theorem dX9_answerTo_90 : decode cX9_answerTo 90 = .ok (.aload_n 1, 1) := by decide +kernel
theorem dX9_answerTo_91 : decode cX9_answerTo 91 = .ok (.iload_n 2, 1) := by decide +kernel
theorem dX9_answerTo_92 : decode cX9_answerTo 92 = .ok (.invokevirtual 253, 3) := by decide +kernel
theorem dX9_answerTo_95 : decode cX9_answerTo 95 = .ok (.ifCond .eq 16, 3) := by decide +kernel
theorem dX9_answerTo_98 : decode cX9_answerTo 98 = .ok (.iload_n 3, 1) := by decide +kernel
theorem dX9_answerTo_99 : decode cX9_answerTo 99 = .ok (.iconst (-1), 1) := by decide +kernel
theorem dX9_answerTo_100 : decode cX9_answerTo 100 = .ok (.if_icmp .ne 8, 3) := by decide +kernel
theorem dX9_answerTo_103 : decode cX9_answerTo 103 = .ok (.iload 4, 2) := by decide +kernel
theorem dX9_answerTo_105 : decode cX9_answerTo 105 = .ok (.goto 5, 3) := by decide +kernel
theorem dX9_answerTo_108 : decode cX9_answerTo 108 = .ok (.bipush (-2), 2) := by decide +kernel
theorem dX9_answerTo_110 : decode cX9_answerTo 110 = .ok (.istore_n 3, 1) := by decide +kernel
theorem dX9_answerTo_111 : decode cX9_answerTo 111 = .ok (.iinc 4 1, 3) := by decide +kernel
theorem dX9_answerTo_114 : decode cX9_answerTo 114 = .ok (.goto (-58), 3) := by decide +kernel
theorem dX9_answerTo_117 : decode cX9_answerTo 117 = .ok (.iload_n 3, 1) := by decide +kernel
theorem dX9_answerTo_118 : decode cX9_answerTo 118 = .ok (.ireturn, 1) := by decide +kernel
theorem dX9_holdsOf_0 : decode cX9_holdsOf 0 = .ok (.aload_n 0, 1) := by decide +kernel
theorem dX9_holdsOf_1 : decode cX9_holdsOf 1 = .ok (.getfield 42, 3) := by decide +kernel
theorem dX9_holdsOf_4 : decode cX9_holdsOf 4 = .ok (.getfield 257, 3) := by decide +kernel
theorem dX9_holdsOf_7 : decode cX9_holdsOf 7 = .ok (.iconst 0, 1) := by decide +kernel
theorem dX9_holdsOf_8 : decode cX9_holdsOf 8 = .ok (.aload_n 1, 1) := by decide +kernel
theorem dX9_holdsOf_9 : decode cX9_holdsOf 9 = .ok (.getfield 167, 3) := by decide +kernel
theorem dX9_holdsOf_12 : decode cX9_holdsOf 12 = .ok (.aload_n 2, 1) := by decide +kernel
theorem dX9_holdsOf_13 : decode cX9_holdsOf 13 = .ok (.getfield 261, 3) := by decide +kernel
theorem dX9_holdsOf_16 : decode cX9_holdsOf 16 = .ok (.invokevirtual 171, 3) := by decide +kernel
theorem dX9_holdsOf_19 : decode cX9_holdsOf 19 = .ok (.iastore, 1) := by decide +kernel
theorem dX9_holdsOf_20 : decode cX9_holdsOf 20 = .ok (.aload_n 0, 1) := by decide +kernel
theorem dX9_holdsOf_21 : decode cX9_holdsOf 21 = .ok (.getfield 42, 3) := by decide +kernel
theorem dX9_holdsOf_24 : decode cX9_holdsOf 24 = .ok (.getfield 257, 3) := by decide +kernel
theorem dX9_holdsOf_27 : decode cX9_holdsOf 27 = .ok (.iconst 1, 1) := by decide +kernel
theorem dX9_holdsOf_28 : decode cX9_holdsOf 28 = .ok (.aload_n 2, 1) := by decide +kernel
theorem dX9_holdsOf_29 : decode cX9_holdsOf 29 = .ok (.aload_n 1, 1) := by decide +kernel
theorem dX9_holdsOf_30 : decode cX9_holdsOf 30 = .ok (.invokevirtual 262, 3) := by decide +kernel
theorem dX9_holdsOf_33 : decode cX9_holdsOf 33 = .ok (.iastore, 1) := by decide +kernel
theorem dX9_holdsOf_34 : decode cX9_holdsOf 34 = .ok (.aload_n 0, 1) := by decide +kernel
theorem dX9_holdsOf_35 : decode cX9_holdsOf 35 = .ok (.getfield 42, 3) := by decide +kernel
theorem dX9_holdsOf_38 : decode cX9_holdsOf 38 = .ok (.getfield 257, 3) := by decide +kernel
theorem dX9_holdsOf_41 : decode cX9_holdsOf 41 = .ok (.iconst 2, 1) := by decide +kernel
theorem dX9_holdsOf_42 : decode cX9_holdsOf 42 = .ok (.aload_n 2, 1) := by decide +kernel
theorem dX9_holdsOf_43 : decode cX9_holdsOf 43 = .ok (.aload_n 1, 1) := by decide +kernel
theorem dX9_holdsOf_44 : decode cX9_holdsOf 44 = .ok (.invokevirtual 249, 3) := by decide +kernel
theorem dX9_holdsOf_47 : decode cX9_holdsOf 47 = .ok (.iastore, 1) := by decide +kernel
theorem dX9_holdsOf_48 : decode cX9_holdsOf 48 = .ok (.aload_n 0, 1) := by decide +kernel
theorem dX9_holdsOf_49 : decode cX9_holdsOf 49 = .ok (.getfield 42, 3) := by decide +kernel
theorem dX9_holdsOf_52 : decode cX9_holdsOf 52 = .ok (.getfield 257, 3) := by decide +kernel
theorem dX9_holdsOf_55 : decode cX9_holdsOf 55 = .ok (.iconst 3, 1) := by decide +kernel
theorem dX9_holdsOf_56 : decode cX9_holdsOf 56 = .ok (.iload_n 3, 1) := by decide +kernel
theorem dX9_holdsOf_57 : decode cX9_holdsOf 57 = .ok (.iastore, 1) := by decide +kernel
theorem dX9_holdsOf_58 : decode cX9_holdsOf 58 = .ok (.aload_n 0, 1) := by decide +kernel
theorem dX9_holdsOf_59 : decode cX9_holdsOf 59 = .ok (.getfield 42, 3) := by decide +kernel
theorem dX9_holdsOf_62 : decode cX9_holdsOf 62 = .ok (.getfield 257, 3) := by decide +kernel
theorem dX9_holdsOf_65 : decode cX9_holdsOf 65 = .ok (.iconst 4, 1) := by decide +kernel
theorem dX9_holdsOf_66 : decode cX9_holdsOf 66 = .ok (.aload_n 0, 1) := by decide +kernel
theorem dX9_holdsOf_67 : decode cX9_holdsOf 67 = .ok (.getfield 51, 3) := by decide +kernel
theorem dX9_holdsOf_70 : decode cX9_holdsOf 70 = .ok (.aload_n 1, 1) := by decide +kernel
theorem dX9_holdsOf_71 : decode cX9_holdsOf 71 = .ok (.getfield 108, 3) := by decide +kernel
theorem dX9_holdsOf_74 : decode cX9_holdsOf 74 = .ok (.isub, 1) := by decide +kernel
theorem dX9_holdsOf_75 : decode cX9_holdsOf 75 = .ok (.iastore, 1) := by decide +kernel
theorem dX9_holdsOf_76 : decode cX9_holdsOf 76 = .ok (.aload_n 0, 1) := by decide +kernel
theorem dX9_holdsOf_77 : decode cX9_holdsOf 77 = .ok (.getfield 42, 3) := by decide +kernel
theorem dX9_holdsOf_80 : decode cX9_holdsOf 80 = .ok (.aload_n 0, 1) := by decide +kernel
theorem dX9_holdsOf_81 : decode cX9_holdsOf 81 = .ok (.getfield 34, 3) := by decide +kernel
theorem dX9_holdsOf_84 : decode cX9_holdsOf 84 = .ok (.invokevirtual 265, 3) := by decide +kernel
theorem dX9_holdsOf_87 : decode cX9_holdsOf 87 = .ok (.ireturn, 1) := by decide +kernel
end
section
theorem dL_law_0 : decode cL_law 0 = .ok (.new 7, 3) := by decide +kernel
theorem dL_law_3 : decode cL_law 3 = .ok (.dup, 1) := by decide +kernel
theorem dL_law_4 : decode cL_law 4 = .ok (.invokespecial 9, 3) := by decide +kernel
theorem dL_law_7 : decode cL_law 7 = .ok (.astore_n 1, 1) := by decide +kernel
theorem dL_law_8 : decode cL_law 8 = .ok (.new 10, 3) := by decide +kernel
theorem dL_law_11 : decode cL_law 11 = .ok (.dup, 1) := by decide +kernel
theorem dL_law_12 : decode cL_law 12 = .ok (.invokespecial 12, 3) := by decide +kernel
theorem dL_law_15 : decode cL_law 15 = .ok (.astore_n 2, 1) := by decide +kernel
theorem dL_law_16 : decode cL_law 16 = .ok (.iconst 0, 1) := by decide +kernel
theorem dL_law_17 : decode cL_law 17 = .ok (.istore_n 3, 1) := by decide +kernel
theorem dL_law_18 : decode cL_law 18 = .ok (.iload_n 3, 1) := by decide +kernel
theorem dL_law_19 : decode cL_law 19 = .ok (.aload_n 0, 1) := by decide +kernel
theorem dL_law_20 : decode cL_law 20 = .ok (.arraylength, 1) := by decide +kernel
theorem dL_law_21 : decode cL_law 21 = .ok (.bipush 7, 2) := by decide +kernel
theorem dL_law_23 : decode cL_law 23 = .ok (.isub, 1) := by decide +kernel
theorem dL_law_24 : decode cL_law 24 = .ok (.if_icmp .gt 1078, 3) := by decide +kernel
theorem dL_law_27 : decode cL_law 27 = .ok (.aload_n 0, 1) := by decide +kernel
theorem dL_law_28 : decode cL_law 28 = .ok (.iload_n 3, 1) := by decide +kernel
theorem dL_law_29 : decode cL_law 29 = .ok (.iaload, 1) := by decide +kernel
theorem dL_law_30 : decode cL_law 30 = .ok (.bipush 31, 2) := by decide +kernel
theorem dL_law_32 : decode cL_law 32 = .ok (.iand, 1) := by decide +kernel
theorem dL_law_33 : decode cL_law 33 = .ok (.tableswitch 1063 0 23 #[111, 134, 217, 250, 283, 358, 391, 434, 477, 500, 543, 596, 649, 692, 715, 738, 751, 764, 839, 872, 931, 964, 1007, 1040], 111) := by decide +kernel
theorem dL_law_144 : decode cL_law 144 = .ok (.aload_n 1, 1) := by decide +kernel
theorem dL_law_145 : decode cL_law 145 = .ok (.aload_n 0, 1) := by decide +kernel
theorem dL_law_146 : decode cL_law 146 = .ok (.iload_n 3, 1) := by decide +kernel
theorem dL_law_147 : decode cL_law 147 = .ok (.iconst 1, 1) := by decide +kernel
theorem dL_law_148 : decode cL_law 148 = .ok (.iadd, 1) := by decide +kernel
theorem dL_law_149 : decode cL_law 149 = .ok (.iaload, 1) := by decide +kernel
theorem dL_law_150 : decode cL_law 150 = .ok (.invokevirtual 13, 3) := by decide +kernel
theorem dL_law_153 : decode cL_law 153 = .ok (.aload_n 2, 1) := by decide +kernel
theorem dL_law_154 : decode cL_law 154 = .ok (.aload_n 0, 1) := by decide +kernel
theorem dL_law_155 : decode cL_law 155 = .ok (.iload_n 3, 1) := by decide +kernel
theorem dL_law_156 : decode cL_law 156 = .ok (.iconst 1, 1) := by decide +kernel
theorem dL_law_157 : decode cL_law 157 = .ok (.iadd, 1) := by decide +kernel
theorem dL_law_158 : decode cL_law 158 = .ok (.iaload, 1) := by decide +kernel
theorem dL_law_159 : decode cL_law 159 = .ok (.invokevirtual 17, 3) := by decide +kernel
theorem dL_law_162 : decode cL_law 162 = .ok (.if_icmp .eq 934, 3) := by decide +kernel
theorem dL_law_165 : decode cL_law 165 = .ok (.iconst 0, 1) := by decide +kernel
theorem dL_law_166 : decode cL_law 166 = .ok (.ireturn, 1) := by decide +kernel
theorem dL_law_167 : decode cL_law 167 = .ok (.aload_n 1, 1) := by decide +kernel
theorem dL_law_168 : decode cL_law 168 = .ok (.aload_n 0, 1) := by decide +kernel
theorem dL_law_169 : decode cL_law 169 = .ok (.iload_n 3, 1) := by decide +kernel
theorem dL_law_170 : decode cL_law 170 = .ok (.iconst 1, 1) := by decide +kernel
theorem dL_law_171 : decode cL_law 171 = .ok (.iadd, 1) := by decide +kernel
theorem dL_law_172 : decode cL_law 172 = .ok (.iaload, 1) := by decide +kernel
theorem dL_law_173 : decode cL_law 173 = .ok (.aload_n 0, 1) := by decide +kernel
theorem dL_law_174 : decode cL_law 174 = .ok (.iload_n 3, 1) := by decide +kernel
theorem dL_law_175 : decode cL_law 175 = .ok (.iconst 2, 1) := by decide +kernel
theorem dL_law_176 : decode cL_law 176 = .ok (.iadd, 1) := by decide +kernel
theorem dL_law_177 : decode cL_law 177 = .ok (.iaload, 1) := by decide +kernel
theorem dL_law_178 : decode cL_law 178 = .ok (.aload_n 0, 1) := by decide +kernel
theorem dL_law_179 : decode cL_law 179 = .ok (.iload_n 3, 1) := by decide +kernel
theorem dL_law_180 : decode cL_law 180 = .ok (.iconst 3, 1) := by decide +kernel
theorem dL_law_181 : decode cL_law 181 = .ok (.iadd, 1) := by decide +kernel
theorem dL_law_182 : decode cL_law 182 = .ok (.iaload, 1) := by decide +kernel
theorem dL_law_183 : decode cL_law 183 = .ok (.aload_n 0, 1) := by decide +kernel
theorem dL_law_184 : decode cL_law 184 = .ok (.iload_n 3, 1) := by decide +kernel
theorem dL_law_185 : decode cL_law 185 = .ok (.iconst 4, 1) := by decide +kernel
theorem dL_law_186 : decode cL_law 186 = .ok (.iadd, 1) := by decide +kernel
theorem dL_law_187 : decode cL_law 187 = .ok (.iaload, 1) := by decide +kernel
theorem dL_law_188 : decode cL_law 188 = .ok (.i2l, 1) := by decide +kernel
theorem dL_law_189 : decode cL_law 189 = .ok (.bipush 32, 2) := by decide +kernel
theorem dL_law_191 : decode cL_law 191 = .ok (.lshl, 1) := by decide +kernel
theorem dL_law_192 : decode cL_law 192 = .ok (.aload_n 0, 1) := by decide +kernel
theorem dL_law_193 : decode cL_law 193 = .ok (.iload_n 3, 1) := by decide +kernel
theorem dL_law_194 : decode cL_law 194 = .ok (.iconst 5, 1) := by decide +kernel
theorem dL_law_195 : decode cL_law 195 = .ok (.iadd, 1) := by decide +kernel
theorem dL_law_196 : decode cL_law 196 = .ok (.iaload, 1) := by decide +kernel
theorem dL_law_197 : decode cL_law 197 = .ok (.i2l, 1) := by decide +kernel
theorem dL_law_198 : decode cL_law 198 = .ok (.ldc2_w 18, 3) := by decide +kernel
theorem dL_law_201 : decode cL_law 201 = .ok (.land, 1) := by decide +kernel
theorem dL_law_202 : decode cL_law 202 = .ok (.lor, 1) := by decide +kernel
theorem dL_law_203 : decode cL_law 203 = .ok (.invokevirtual 20, 3) := by decide +kernel
theorem dL_law_206 : decode cL_law 206 = .ok (.aload_n 2, 1) := by decide +kernel
theorem dL_law_207 : decode cL_law 207 = .ok (.aload_n 0, 1) := by decide +kernel
theorem dL_law_208 : decode cL_law 208 = .ok (.iload_n 3, 1) := by decide +kernel
theorem dL_law_209 : decode cL_law 209 = .ok (.iconst 1, 1) := by decide +kernel
theorem dL_law_210 : decode cL_law 210 = .ok (.iadd, 1) := by decide +kernel
theorem dL_law_211 : decode cL_law 211 = .ok (.iaload, 1) := by decide +kernel
theorem dL_law_212 : decode cL_law 212 = .ok (.aload_n 0, 1) := by decide +kernel
theorem dL_law_213 : decode cL_law 213 = .ok (.iload_n 3, 1) := by decide +kernel
theorem dL_law_214 : decode cL_law 214 = .ok (.iconst 2, 1) := by decide +kernel
theorem dL_law_215 : decode cL_law 215 = .ok (.iadd, 1) := by decide +kernel
theorem dL_law_216 : decode cL_law 216 = .ok (.iaload, 1) := by decide +kernel
theorem dL_law_217 : decode cL_law 217 = .ok (.aload_n 0, 1) := by decide +kernel
theorem dL_law_218 : decode cL_law 218 = .ok (.iload_n 3, 1) := by decide +kernel
theorem dL_law_219 : decode cL_law 219 = .ok (.iconst 3, 1) := by decide +kernel
theorem dL_law_220 : decode cL_law 220 = .ok (.iadd, 1) := by decide +kernel
theorem dL_law_221 : decode cL_law 221 = .ok (.iaload, 1) := by decide +kernel
theorem dL_law_222 : decode cL_law 222 = .ok (.aload_n 0, 1) := by decide +kernel
theorem dL_law_223 : decode cL_law 223 = .ok (.iload_n 3, 1) := by decide +kernel
theorem dL_law_224 : decode cL_law 224 = .ok (.iconst 4, 1) := by decide +kernel
theorem dL_law_225 : decode cL_law 225 = .ok (.iadd, 1) := by decide +kernel
theorem dL_law_226 : decode cL_law 226 = .ok (.iaload, 1) := by decide +kernel
theorem dL_law_227 : decode cL_law 227 = .ok (.i2l, 1) := by decide +kernel
theorem dL_law_228 : decode cL_law 228 = .ok (.bipush 32, 2) := by decide +kernel
theorem dL_law_230 : decode cL_law 230 = .ok (.lshl, 1) := by decide +kernel
theorem dL_law_231 : decode cL_law 231 = .ok (.aload_n 0, 1) := by decide +kernel
theorem dL_law_232 : decode cL_law 232 = .ok (.iload_n 3, 1) := by decide +kernel
theorem dL_law_233 : decode cL_law 233 = .ok (.iconst 5, 1) := by decide +kernel
theorem dL_law_234 : decode cL_law 234 = .ok (.iadd, 1) := by decide +kernel
theorem dL_law_235 : decode cL_law 235 = .ok (.iaload, 1) := by decide +kernel
theorem dL_law_236 : decode cL_law 236 = .ok (.i2l, 1) := by decide +kernel
theorem dL_law_237 : decode cL_law 237 = .ok (.ldc2_w 18, 3) := by decide +kernel
theorem dL_law_240 : decode cL_law 240 = .ok (.land, 1) := by decide +kernel
theorem dL_law_241 : decode cL_law 241 = .ok (.lor, 1) := by decide +kernel
theorem dL_law_242 : decode cL_law 242 = .ok (.invokevirtual 24, 3) := by decide +kernel
theorem dL_law_245 : decode cL_law 245 = .ok (.if_icmp .eq 851, 3) := by decide +kernel
theorem dL_law_248 : decode cL_law 248 = .ok (.iconst 0, 1) := by decide +kernel
theorem dL_law_249 : decode cL_law 249 = .ok (.ireturn, 1) := by decide +kernel
theorem dL_law_250 : decode cL_law 250 = .ok (.aload_n 1, 1) := by decide +kernel
theorem dL_law_251 : decode cL_law 251 = .ok (.aload_n 0, 1) := by decide +kernel
theorem dL_law_252 : decode cL_law 252 = .ok (.iload_n 3, 1) := by decide +kernel
theorem dL_law_253 : decode cL_law 253 = .ok (.iconst 1, 1) := by decide +kernel
theorem dL_law_254 : decode cL_law 254 = .ok (.iadd, 1) := by decide +kernel
theorem dL_law_255 : decode cL_law 255 = .ok (.iaload, 1) := by decide +kernel
theorem dL_law_256 : decode cL_law 256 = .ok (.aload_n 0, 1) := by decide +kernel
theorem dL_law_257 : decode cL_law 257 = .ok (.iload_n 3, 1) := by decide +kernel
theorem dL_law_258 : decode cL_law 258 = .ok (.iconst 2, 1) := by decide +kernel
theorem dL_law_259 : decode cL_law 259 = .ok (.iadd, 1) := by decide +kernel
theorem dL_law_260 : decode cL_law 260 = .ok (.iaload, 1) := by decide +kernel
theorem dL_law_261 : decode cL_law 261 = .ok (.invokevirtual 25, 3) := by decide +kernel
theorem dL_law_264 : decode cL_law 264 = .ok (.aload_n 2, 1) := by decide +kernel
theorem dL_law_265 : decode cL_law 265 = .ok (.aload_n 0, 1) := by decide +kernel
theorem dL_law_266 : decode cL_law 266 = .ok (.iload_n 3, 1) := by decide +kernel
theorem dL_law_267 : decode cL_law 267 = .ok (.iconst 1, 1) := by decide +kernel
theorem dL_law_268 : decode cL_law 268 = .ok (.iadd, 1) := by decide +kernel
theorem dL_law_269 : decode cL_law 269 = .ok (.iaload, 1) := by decide +kernel
theorem dL_law_270 : decode cL_law 270 = .ok (.aload_n 0, 1) := by decide +kernel
theorem dL_law_271 : decode cL_law 271 = .ok (.iload_n 3, 1) := by decide +kernel
theorem dL_law_272 : decode cL_law 272 = .ok (.iconst 2, 1) := by decide +kernel
theorem dL_law_273 : decode cL_law 273 = .ok (.iadd, 1) := by decide +kernel
theorem dL_law_274 : decode cL_law 274 = .ok (.iaload, 1) := by decide +kernel
theorem dL_law_275 : decode cL_law 275 = .ok (.invokevirtual 29, 3) := by decide +kernel
theorem dL_law_278 : decode cL_law 278 = .ok (.if_icmp .eq 818, 3) := by decide +kernel
theorem dL_law_281 : decode cL_law 281 = .ok (.iconst 0, 1) := by decide +kernel
theorem dL_law_282 : decode cL_law 282 = .ok (.ireturn, 1) := by decide +kernel
theorem dL_law_283 : decode cL_law 283 = .ok (.aload_n 1, 1) := by decide +kernel
theorem dL_law_284 : decode cL_law 284 = .ok (.aload_n 0, 1) := by decide +kernel
theorem dL_law_285 : decode cL_law 285 = .ok (.iload_n 3, 1) := by decide +kernel
theorem dL_law_286 : decode cL_law 286 = .ok (.iconst 1, 1) := by decide +kernel
theorem dL_law_287 : decode cL_law 287 = .ok (.iadd, 1) := by decide +kernel
theorem dL_law_288 : decode cL_law 288 = .ok (.iaload, 1) := by decide +kernel
theorem dL_law_289 : decode cL_law 289 = .ok (.aload_n 0, 1) := by decide +kernel
theorem dL_law_290 : decode cL_law 290 = .ok (.iload_n 3, 1) := by decide +kernel
theorem dL_law_291 : decode cL_law 291 = .ok (.iconst 2, 1) := by decide +kernel
theorem dL_law_292 : decode cL_law 292 = .ok (.iadd, 1) := by decide +kernel
theorem dL_law_293 : decode cL_law 293 = .ok (.iaload, 1) := by decide +kernel
theorem dL_law_294 : decode cL_law 294 = .ok (.invokevirtual 30, 3) := by decide +kernel
theorem dL_law_297 : decode cL_law 297 = .ok (.aload_n 2, 1) := by decide +kernel
theorem dL_law_298 : decode cL_law 298 = .ok (.aload_n 0, 1) := by decide +kernel
theorem dL_law_299 : decode cL_law 299 = .ok (.iload_n 3, 1) := by decide +kernel
theorem dL_law_300 : decode cL_law 300 = .ok (.iconst 1, 1) := by decide +kernel
theorem dL_law_301 : decode cL_law 301 = .ok (.iadd, 1) := by decide +kernel
theorem dL_law_302 : decode cL_law 302 = .ok (.iaload, 1) := by decide +kernel
theorem dL_law_303 : decode cL_law 303 = .ok (.aload_n 0, 1) := by decide +kernel
theorem dL_law_304 : decode cL_law 304 = .ok (.iload_n 3, 1) := by decide +kernel
theorem dL_law_305 : decode cL_law 305 = .ok (.iconst 2, 1) := by decide +kernel
theorem dL_law_306 : decode cL_law 306 = .ok (.iadd, 1) := by decide +kernel
theorem dL_law_307 : decode cL_law 307 = .ok (.iaload, 1) := by decide +kernel
theorem dL_law_308 : decode cL_law 308 = .ok (.invokevirtual 33, 3) := by decide +kernel
theorem dL_law_311 : decode cL_law 311 = .ok (.if_icmp .eq 785, 3) := by decide +kernel
theorem dL_law_314 : decode cL_law 314 = .ok (.iconst 0, 1) := by decide +kernel
theorem dL_law_315 : decode cL_law 315 = .ok (.ireturn, 1) := by decide +kernel
theorem dL_law_316 : decode cL_law 316 = .ok (.aload_n 1, 1) := by decide +kernel
theorem dL_law_317 : decode cL_law 317 = .ok (.aload_n 0, 1) := by decide +kernel
theorem dL_law_318 : decode cL_law 318 = .ok (.iload_n 3, 1) := by decide +kernel
theorem dL_law_319 : decode cL_law 319 = .ok (.iconst 1, 1) := by decide +kernel
theorem dL_law_320 : decode cL_law 320 = .ok (.iadd, 1) := by decide +kernel
theorem dL_law_321 : decode cL_law 321 = .ok (.iaload, 1) := by decide +kernel
theorem dL_law_322 : decode cL_law 322 = .ok (.aload_n 0, 1) := by decide +kernel
theorem dL_law_323 : decode cL_law 323 = .ok (.iload_n 3, 1) := by decide +kernel
theorem dL_law_324 : decode cL_law 324 = .ok (.iconst 2, 1) := by decide +kernel
theorem dL_law_325 : decode cL_law 325 = .ok (.iadd, 1) := by decide +kernel
theorem dL_law_326 : decode cL_law 326 = .ok (.iaload, 1) := by decide +kernel
theorem dL_law_327 : decode cL_law 327 = .ok (.aload_n 0, 1) := by decide +kernel
theorem dL_law_328 : decode cL_law 328 = .ok (.iload_n 3, 1) := by decide +kernel
theorem dL_law_329 : decode cL_law 329 = .ok (.iconst 3, 1) := by decide +kernel
theorem dL_law_330 : decode cL_law 330 = .ok (.iadd, 1) := by decide +kernel
theorem dL_law_331 : decode cL_law 331 = .ok (.iaload, 1) := by decide +kernel
theorem dL_law_332 : decode cL_law 332 = .ok (.aload_n 0, 1) := by decide +kernel
theorem dL_law_333 : decode cL_law 333 = .ok (.iload_n 3, 1) := by decide +kernel
theorem dL_law_334 : decode cL_law 334 = .ok (.iconst 4, 1) := by decide +kernel
theorem dL_law_335 : decode cL_law 335 = .ok (.iadd, 1) := by decide +kernel
theorem dL_law_336 : decode cL_law 336 = .ok (.iaload, 1) := by decide +kernel
theorem dL_law_337 : decode cL_law 337 = .ok (.aload_n 0, 1) := by decide +kernel
theorem dL_law_338 : decode cL_law 338 = .ok (.iload_n 3, 1) := by decide +kernel
theorem dL_law_339 : decode cL_law 339 = .ok (.iconst 5, 1) := by decide +kernel
theorem dL_law_340 : decode cL_law 340 = .ok (.iadd, 1) := by decide +kernel
theorem dL_law_341 : decode cL_law 341 = .ok (.iaload, 1) := by decide +kernel
theorem dL_law_342 : decode cL_law 342 = .ok (.aload_n 0, 1) := by decide +kernel
theorem dL_law_343 : decode cL_law 343 = .ok (.iload_n 3, 1) := by decide +kernel
theorem dL_law_344 : decode cL_law 344 = .ok (.bipush 6, 2) := by decide +kernel
theorem dL_law_346 : decode cL_law 346 = .ok (.iadd, 1) := by decide +kernel
theorem dL_law_347 : decode cL_law 347 = .ok (.iaload, 1) := by decide +kernel
theorem dL_law_348 : decode cL_law 348 = .ok (.invokevirtual 34, 3) := by decide +kernel
theorem dL_law_351 : decode cL_law 351 = .ok (.aload_n 2, 1) := by decide +kernel
theorem dL_law_352 : decode cL_law 352 = .ok (.aload_n 0, 1) := by decide +kernel
theorem dL_law_353 : decode cL_law 353 = .ok (.iload_n 3, 1) := by decide +kernel
theorem dL_law_354 : decode cL_law 354 = .ok (.iconst 1, 1) := by decide +kernel
theorem dL_law_355 : decode cL_law 355 = .ok (.iadd, 1) := by decide +kernel
theorem dL_law_356 : decode cL_law 356 = .ok (.iaload, 1) := by decide +kernel
theorem dL_law_357 : decode cL_law 357 = .ok (.aload_n 0, 1) := by decide +kernel
theorem dL_law_358 : decode cL_law 358 = .ok (.iload_n 3, 1) := by decide +kernel
theorem dL_law_359 : decode cL_law 359 = .ok (.iconst 2, 1) := by decide +kernel
theorem dL_law_360 : decode cL_law 360 = .ok (.iadd, 1) := by decide +kernel
theorem dL_law_361 : decode cL_law 361 = .ok (.iaload, 1) := by decide +kernel
theorem dL_law_362 : decode cL_law 362 = .ok (.aload_n 0, 1) := by decide +kernel
theorem dL_law_363 : decode cL_law 363 = .ok (.iload_n 3, 1) := by decide +kernel
theorem dL_law_364 : decode cL_law 364 = .ok (.iconst 3, 1) := by decide +kernel
theorem dL_law_365 : decode cL_law 365 = .ok (.iadd, 1) := by decide +kernel
theorem dL_law_366 : decode cL_law 366 = .ok (.iaload, 1) := by decide +kernel
theorem dL_law_367 : decode cL_law 367 = .ok (.aload_n 0, 1) := by decide +kernel
theorem dL_law_368 : decode cL_law 368 = .ok (.iload_n 3, 1) := by decide +kernel
theorem dL_law_369 : decode cL_law 369 = .ok (.iconst 4, 1) := by decide +kernel
theorem dL_law_370 : decode cL_law 370 = .ok (.iadd, 1) := by decide +kernel
theorem dL_law_371 : decode cL_law 371 = .ok (.iaload, 1) := by decide +kernel
theorem dL_law_372 : decode cL_law 372 = .ok (.aload_n 0, 1) := by decide +kernel
theorem dL_law_373 : decode cL_law 373 = .ok (.iload_n 3, 1) := by decide +kernel
theorem dL_law_374 : decode cL_law 374 = .ok (.iconst 5, 1) := by decide +kernel
theorem dL_law_375 : decode cL_law 375 = .ok (.iadd, 1) := by decide +kernel
theorem dL_law_376 : decode cL_law 376 = .ok (.iaload, 1) := by decide +kernel
theorem dL_law_377 : decode cL_law 377 = .ok (.aload_n 0, 1) := by decide +kernel
theorem dL_law_378 : decode cL_law 378 = .ok (.iload_n 3, 1) := by decide +kernel
theorem dL_law_379 : decode cL_law 379 = .ok (.bipush 6, 2) := by decide +kernel
theorem dL_law_381 : decode cL_law 381 = .ok (.iadd, 1) := by decide +kernel
theorem dL_law_382 : decode cL_law 382 = .ok (.iaload, 1) := by decide +kernel
theorem dL_law_383 : decode cL_law 383 = .ok (.invokevirtual 38, 3) := by decide +kernel
theorem dL_law_386 : decode cL_law 386 = .ok (.if_icmp .eq 710, 3) := by decide +kernel
theorem dL_law_389 : decode cL_law 389 = .ok (.iconst 0, 1) := by decide +kernel
theorem dL_law_390 : decode cL_law 390 = .ok (.ireturn, 1) := by decide +kernel
theorem dL_law_391 : decode cL_law 391 = .ok (.aload_n 1, 1) := by decide +kernel
theorem dL_law_392 : decode cL_law 392 = .ok (.aload_n 0, 1) := by decide +kernel
theorem dL_law_393 : decode cL_law 393 = .ok (.iload_n 3, 1) := by decide +kernel
theorem dL_law_394 : decode cL_law 394 = .ok (.iconst 1, 1) := by decide +kernel
theorem dL_law_395 : decode cL_law 395 = .ok (.iadd, 1) := by decide +kernel
theorem dL_law_396 : decode cL_law 396 = .ok (.iaload, 1) := by decide +kernel
theorem dL_law_397 : decode cL_law 397 = .ok (.aload_n 0, 1) := by decide +kernel
theorem dL_law_398 : decode cL_law 398 = .ok (.iload_n 3, 1) := by decide +kernel
theorem dL_law_399 : decode cL_law 399 = .ok (.iconst 2, 1) := by decide +kernel
theorem dL_law_400 : decode cL_law 400 = .ok (.iadd, 1) := by decide +kernel
theorem dL_law_401 : decode cL_law 401 = .ok (.iaload, 1) := by decide +kernel
theorem dL_law_402 : decode cL_law 402 = .ok (.invokevirtual 39, 3) := by decide +kernel
theorem dL_law_405 : decode cL_law 405 = .ok (.aload_n 2, 1) := by decide +kernel
theorem dL_law_406 : decode cL_law 406 = .ok (.aload_n 0, 1) := by decide +kernel
theorem dL_law_407 : decode cL_law 407 = .ok (.iload_n 3, 1) := by decide +kernel
theorem dL_law_408 : decode cL_law 408 = .ok (.iconst 1, 1) := by decide +kernel
theorem dL_law_409 : decode cL_law 409 = .ok (.iadd, 1) := by decide +kernel
theorem dL_law_410 : decode cL_law 410 = .ok (.iaload, 1) := by decide +kernel
theorem dL_law_411 : decode cL_law 411 = .ok (.aload_n 0, 1) := by decide +kernel
theorem dL_law_412 : decode cL_law 412 = .ok (.iload_n 3, 1) := by decide +kernel
theorem dL_law_413 : decode cL_law 413 = .ok (.iconst 2, 1) := by decide +kernel
theorem dL_law_414 : decode cL_law 414 = .ok (.iadd, 1) := by decide +kernel
theorem dL_law_415 : decode cL_law 415 = .ok (.iaload, 1) := by decide +kernel
theorem dL_law_416 : decode cL_law 416 = .ok (.invokevirtual 43, 3) := by decide +kernel
theorem dL_law_419 : decode cL_law 419 = .ok (.if_icmp .eq 677, 3) := by decide +kernel
theorem dL_law_422 : decode cL_law 422 = .ok (.iconst 0, 1) := by decide +kernel
theorem dL_law_423 : decode cL_law 423 = .ok (.ireturn, 1) := by decide +kernel
theorem dL_law_424 : decode cL_law 424 = .ok (.aload_n 1, 1) := by decide +kernel
theorem dL_law_425 : decode cL_law 425 = .ok (.aload_n 0, 1) := by decide +kernel
theorem dL_law_426 : decode cL_law 426 = .ok (.iload_n 3, 1) := by decide +kernel
theorem dL_law_427 : decode cL_law 427 = .ok (.iconst 1, 1) := by decide +kernel
theorem dL_law_428 : decode cL_law 428 = .ok (.iadd, 1) := by decide +kernel
theorem dL_law_429 : decode cL_law 429 = .ok (.iaload, 1) := by decide +kernel
theorem dL_law_430 : decode cL_law 430 = .ok (.aload_n 0, 1) := by decide +kernel
theorem dL_law_431 : decode cL_law 431 = .ok (.iload_n 3, 1) := by decide +kernel
theorem dL_law_432 : decode cL_law 432 = .ok (.iconst 2, 1) := by decide +kernel
theorem dL_law_433 : decode cL_law 433 = .ok (.iadd, 1) := by decide +kernel
theorem dL_law_434 : decode cL_law 434 = .ok (.iaload, 1) := by decide +kernel
theorem dL_law_435 : decode cL_law 435 = .ok (.aload_n 0, 1) := by decide +kernel
theorem dL_law_436 : decode cL_law 436 = .ok (.iload_n 3, 1) := by decide +kernel
theorem dL_law_437 : decode cL_law 437 = .ok (.iconst 3, 1) := by decide +kernel
theorem dL_law_438 : decode cL_law 438 = .ok (.iadd, 1) := by decide +kernel
theorem dL_law_439 : decode cL_law 439 = .ok (.iaload, 1) := by decide +kernel
theorem dL_law_440 : decode cL_law 440 = .ok (.invokevirtual 44, 3) := by decide +kernel
theorem dL_law_443 : decode cL_law 443 = .ok (.aload_n 2, 1) := by decide +kernel
theorem dL_law_444 : decode cL_law 444 = .ok (.aload_n 0, 1) := by decide +kernel
theorem dL_law_445 : decode cL_law 445 = .ok (.iload_n 3, 1) := by decide +kernel
theorem dL_law_446 : decode cL_law 446 = .ok (.iconst 1, 1) := by decide +kernel
theorem dL_law_447 : decode cL_law 447 = .ok (.iadd, 1) := by decide +kernel
theorem dL_law_448 : decode cL_law 448 = .ok (.iaload, 1) := by decide +kernel
theorem dL_law_449 : decode cL_law 449 = .ok (.aload_n 0, 1) := by decide +kernel
theorem dL_law_450 : decode cL_law 450 = .ok (.iload_n 3, 1) := by decide +kernel
theorem dL_law_451 : decode cL_law 451 = .ok (.iconst 2, 1) := by decide +kernel
theorem dL_law_452 : decode cL_law 452 = .ok (.iadd, 1) := by decide +kernel
theorem dL_law_453 : decode cL_law 453 = .ok (.iaload, 1) := by decide +kernel
theorem dL_law_454 : decode cL_law 454 = .ok (.aload_n 0, 1) := by decide +kernel
theorem dL_law_455 : decode cL_law 455 = .ok (.iload_n 3, 1) := by decide +kernel
theorem dL_law_456 : decode cL_law 456 = .ok (.iconst 3, 1) := by decide +kernel
theorem dL_law_457 : decode cL_law 457 = .ok (.iadd, 1) := by decide +kernel
theorem dL_law_458 : decode cL_law 458 = .ok (.iaload, 1) := by decide +kernel
theorem dL_law_459 : decode cL_law 459 = .ok (.invokevirtual 48, 3) := by decide +kernel
theorem dL_law_462 : decode cL_law 462 = .ok (.if_icmp .eq 634, 3) := by decide +kernel
theorem dL_law_465 : decode cL_law 465 = .ok (.iconst 0, 1) := by decide +kernel
theorem dL_law_466 : decode cL_law 466 = .ok (.ireturn, 1) := by decide +kernel
theorem dL_law_467 : decode cL_law 467 = .ok (.aload_n 1, 1) := by decide +kernel
theorem dL_law_468 : decode cL_law 468 = .ok (.aload_n 0, 1) := by decide +kernel
theorem dL_law_469 : decode cL_law 469 = .ok (.iload_n 3, 1) := by decide +kernel
theorem dL_law_470 : decode cL_law 470 = .ok (.iconst 1, 1) := by decide +kernel
theorem dL_law_471 : decode cL_law 471 = .ok (.iadd, 1) := by decide +kernel
theorem dL_law_472 : decode cL_law 472 = .ok (.iaload, 1) := by decide +kernel
theorem dL_law_473 : decode cL_law 473 = .ok (.aload_n 0, 1) := by decide +kernel
theorem dL_law_474 : decode cL_law 474 = .ok (.iload_n 3, 1) := by decide +kernel
theorem dL_law_475 : decode cL_law 475 = .ok (.iconst 2, 1) := by decide +kernel
theorem dL_law_476 : decode cL_law 476 = .ok (.iadd, 1) := by decide +kernel
theorem dL_law_477 : decode cL_law 477 = .ok (.iaload, 1) := by decide +kernel
theorem dL_law_478 : decode cL_law 478 = .ok (.aload_n 0, 1) := by decide +kernel
theorem dL_law_479 : decode cL_law 479 = .ok (.iload_n 3, 1) := by decide +kernel
theorem dL_law_480 : decode cL_law 480 = .ok (.iconst 3, 1) := by decide +kernel
theorem dL_law_481 : decode cL_law 481 = .ok (.iadd, 1) := by decide +kernel
theorem dL_law_482 : decode cL_law 482 = .ok (.iaload, 1) := by decide +kernel
theorem dL_law_483 : decode cL_law 483 = .ok (.invokevirtual 49, 3) := by decide +kernel
theorem dL_law_486 : decode cL_law 486 = .ok (.aload_n 2, 1) := by decide +kernel
theorem dL_law_487 : decode cL_law 487 = .ok (.aload_n 0, 1) := by decide +kernel
theorem dL_law_488 : decode cL_law 488 = .ok (.iload_n 3, 1) := by decide +kernel
theorem dL_law_489 : decode cL_law 489 = .ok (.iconst 1, 1) := by decide +kernel
theorem dL_law_490 : decode cL_law 490 = .ok (.iadd, 1) := by decide +kernel
theorem dL_law_491 : decode cL_law 491 = .ok (.iaload, 1) := by decide +kernel
theorem dL_law_492 : decode cL_law 492 = .ok (.aload_n 0, 1) := by decide +kernel
theorem dL_law_493 : decode cL_law 493 = .ok (.iload_n 3, 1) := by decide +kernel
theorem dL_law_494 : decode cL_law 494 = .ok (.iconst 2, 1) := by decide +kernel
theorem dL_law_495 : decode cL_law 495 = .ok (.iadd, 1) := by decide +kernel
theorem dL_law_496 : decode cL_law 496 = .ok (.iaload, 1) := by decide +kernel
theorem dL_law_497 : decode cL_law 497 = .ok (.aload_n 0, 1) := by decide +kernel
theorem dL_law_498 : decode cL_law 498 = .ok (.iload_n 3, 1) := by decide +kernel
theorem dL_law_499 : decode cL_law 499 = .ok (.iconst 3, 1) := by decide +kernel
theorem dL_law_500 : decode cL_law 500 = .ok (.iadd, 1) := by decide +kernel
theorem dL_law_501 : decode cL_law 501 = .ok (.iaload, 1) := by decide +kernel
theorem dL_law_502 : decode cL_law 502 = .ok (.invokevirtual 53, 3) := by decide +kernel
theorem dL_law_505 : decode cL_law 505 = .ok (.if_icmp .eq 591, 3) := by decide +kernel
theorem dL_law_508 : decode cL_law 508 = .ok (.iconst 0, 1) := by decide +kernel
theorem dL_law_509 : decode cL_law 509 = .ok (.ireturn, 1) := by decide +kernel
theorem dL_law_510 : decode cL_law 510 = .ok (.aload_n 1, 1) := by decide +kernel
theorem dL_law_511 : decode cL_law 511 = .ok (.aload_n 0, 1) := by decide +kernel
theorem dL_law_512 : decode cL_law 512 = .ok (.iload_n 3, 1) := by decide +kernel
theorem dL_law_513 : decode cL_law 513 = .ok (.iconst 1, 1) := by decide +kernel
theorem dL_law_514 : decode cL_law 514 = .ok (.iadd, 1) := by decide +kernel
theorem dL_law_515 : decode cL_law 515 = .ok (.iaload, 1) := by decide +kernel
theorem dL_law_516 : decode cL_law 516 = .ok (.invokevirtual 54, 3) := by decide +kernel
theorem dL_law_519 : decode cL_law 519 = .ok (.aload_n 2, 1) := by decide +kernel
theorem dL_law_520 : decode cL_law 520 = .ok (.aload_n 0, 1) := by decide +kernel
theorem dL_law_521 : decode cL_law 521 = .ok (.iload_n 3, 1) := by decide +kernel
theorem dL_law_522 : decode cL_law 522 = .ok (.iconst 1, 1) := by decide +kernel
theorem dL_law_523 : decode cL_law 523 = .ok (.iadd, 1) := by decide +kernel
theorem dL_law_524 : decode cL_law 524 = .ok (.iaload, 1) := by decide +kernel
theorem dL_law_525 : decode cL_law 525 = .ok (.invokevirtual 58, 3) := by decide +kernel
theorem dL_law_528 : decode cL_law 528 = .ok (.if_icmp .eq 568, 3) := by decide +kernel
theorem dL_law_531 : decode cL_law 531 = .ok (.iconst 0, 1) := by decide +kernel
theorem dL_law_532 : decode cL_law 532 = .ok (.ireturn, 1) := by decide +kernel
theorem dL_law_533 : decode cL_law 533 = .ok (.aload_n 1, 1) := by decide +kernel
theorem dL_law_534 : decode cL_law 534 = .ok (.aload_n 0, 1) := by decide +kernel
theorem dL_law_535 : decode cL_law 535 = .ok (.iload_n 3, 1) := by decide +kernel
theorem dL_law_536 : decode cL_law 536 = .ok (.iconst 1, 1) := by decide +kernel
theorem dL_law_537 : decode cL_law 537 = .ok (.iadd, 1) := by decide +kernel
theorem dL_law_538 : decode cL_law 538 = .ok (.iaload, 1) := by decide +kernel
theorem dL_law_539 : decode cL_law 539 = .ok (.aload_n 0, 1) := by decide +kernel
theorem dL_law_540 : decode cL_law 540 = .ok (.iload_n 3, 1) := by decide +kernel
theorem dL_law_541 : decode cL_law 541 = .ok (.iconst 2, 1) := by decide +kernel
theorem dL_law_542 : decode cL_law 542 = .ok (.iadd, 1) := by decide +kernel
theorem dL_law_543 : decode cL_law 543 = .ok (.iaload, 1) := by decide +kernel
theorem dL_law_544 : decode cL_law 544 = .ok (.aload_n 0, 1) := by decide +kernel
theorem dL_law_545 : decode cL_law 545 = .ok (.iload_n 3, 1) := by decide +kernel
theorem dL_law_546 : decode cL_law 546 = .ok (.iconst 3, 1) := by decide +kernel
theorem dL_law_547 : decode cL_law 547 = .ok (.iadd, 1) := by decide +kernel
theorem dL_law_548 : decode cL_law 548 = .ok (.iaload, 1) := by decide +kernel
theorem dL_law_549 : decode cL_law 549 = .ok (.invokevirtual 59, 3) := by decide +kernel
theorem dL_law_552 : decode cL_law 552 = .ok (.aload_n 2, 1) := by decide +kernel
theorem dL_law_553 : decode cL_law 553 = .ok (.aload_n 0, 1) := by decide +kernel
theorem dL_law_554 : decode cL_law 554 = .ok (.iload_n 3, 1) := by decide +kernel
theorem dL_law_555 : decode cL_law 555 = .ok (.iconst 1, 1) := by decide +kernel
theorem dL_law_556 : decode cL_law 556 = .ok (.iadd, 1) := by decide +kernel
theorem dL_law_557 : decode cL_law 557 = .ok (.iaload, 1) := by decide +kernel
theorem dL_law_558 : decode cL_law 558 = .ok (.aload_n 0, 1) := by decide +kernel
theorem dL_law_559 : decode cL_law 559 = .ok (.iload_n 3, 1) := by decide +kernel
theorem dL_law_560 : decode cL_law 560 = .ok (.iconst 2, 1) := by decide +kernel
theorem dL_law_561 : decode cL_law 561 = .ok (.iadd, 1) := by decide +kernel
theorem dL_law_562 : decode cL_law 562 = .ok (.iaload, 1) := by decide +kernel
theorem dL_law_563 : decode cL_law 563 = .ok (.aload_n 0, 1) := by decide +kernel
theorem dL_law_564 : decode cL_law 564 = .ok (.iload_n 3, 1) := by decide +kernel
theorem dL_law_565 : decode cL_law 565 = .ok (.iconst 3, 1) := by decide +kernel
theorem dL_law_566 : decode cL_law 566 = .ok (.iadd, 1) := by decide +kernel
theorem dL_law_567 : decode cL_law 567 = .ok (.iaload, 1) := by decide +kernel
theorem dL_law_568 : decode cL_law 568 = .ok (.invokevirtual 62, 3) := by decide +kernel
theorem dL_law_571 : decode cL_law 571 = .ok (.if_icmp .eq 525, 3) := by decide +kernel
theorem dL_law_574 : decode cL_law 574 = .ok (.iconst 0, 1) := by decide +kernel
theorem dL_law_575 : decode cL_law 575 = .ok (.ireturn, 1) := by decide +kernel
theorem dL_law_576 : decode cL_law 576 = .ok (.aload_n 1, 1) := by decide +kernel
theorem dL_law_577 : decode cL_law 577 = .ok (.aload_n 0, 1) := by decide +kernel
theorem dL_law_578 : decode cL_law 578 = .ok (.iload_n 3, 1) := by decide +kernel
theorem dL_law_579 : decode cL_law 579 = .ok (.iconst 1, 1) := by decide +kernel
theorem dL_law_580 : decode cL_law 580 = .ok (.iadd, 1) := by decide +kernel
theorem dL_law_581 : decode cL_law 581 = .ok (.iaload, 1) := by decide +kernel
theorem dL_law_582 : decode cL_law 582 = .ok (.aload_n 0, 1) := by decide +kernel
theorem dL_law_583 : decode cL_law 583 = .ok (.iload_n 3, 1) := by decide +kernel
theorem dL_law_584 : decode cL_law 584 = .ok (.iconst 2, 1) := by decide +kernel
theorem dL_law_585 : decode cL_law 585 = .ok (.iadd, 1) := by decide +kernel
theorem dL_law_586 : decode cL_law 586 = .ok (.iaload, 1) := by decide +kernel
theorem dL_law_587 : decode cL_law 587 = .ok (.aload_n 0, 1) := by decide +kernel
theorem dL_law_588 : decode cL_law 588 = .ok (.iload_n 3, 1) := by decide +kernel
theorem dL_law_589 : decode cL_law 589 = .ok (.iconst 3, 1) := by decide +kernel
theorem dL_law_590 : decode cL_law 590 = .ok (.iadd, 1) := by decide +kernel
theorem dL_law_591 : decode cL_law 591 = .ok (.iaload, 1) := by decide +kernel
theorem dL_law_592 : decode cL_law 592 = .ok (.aload_n 0, 1) := by decide +kernel
theorem dL_law_593 : decode cL_law 593 = .ok (.iload_n 3, 1) := by decide +kernel
theorem dL_law_594 : decode cL_law 594 = .ok (.iconst 4, 1) := by decide +kernel
theorem dL_law_595 : decode cL_law 595 = .ok (.iadd, 1) := by decide +kernel
theorem dL_law_596 : decode cL_law 596 = .ok (.iaload, 1) := by decide +kernel
theorem dL_law_597 : decode cL_law 597 = .ok (.invokevirtual 63, 3) := by decide +kernel
theorem dL_law_600 : decode cL_law 600 = .ok (.aload_n 2, 1) := by decide +kernel
theorem dL_law_601 : decode cL_law 601 = .ok (.aload_n 0, 1) := by decide +kernel
theorem dL_law_602 : decode cL_law 602 = .ok (.iload_n 3, 1) := by decide +kernel
theorem dL_law_603 : decode cL_law 603 = .ok (.iconst 1, 1) := by decide +kernel
theorem dL_law_604 : decode cL_law 604 = .ok (.iadd, 1) := by decide +kernel
theorem dL_law_605 : decode cL_law 605 = .ok (.iaload, 1) := by decide +kernel
theorem dL_law_606 : decode cL_law 606 = .ok (.aload_n 0, 1) := by decide +kernel
theorem dL_law_607 : decode cL_law 607 = .ok (.iload_n 3, 1) := by decide +kernel
theorem dL_law_608 : decode cL_law 608 = .ok (.iconst 2, 1) := by decide +kernel
theorem dL_law_609 : decode cL_law 609 = .ok (.iadd, 1) := by decide +kernel
theorem dL_law_610 : decode cL_law 610 = .ok (.iaload, 1) := by decide +kernel
theorem dL_law_611 : decode cL_law 611 = .ok (.aload_n 0, 1) := by decide +kernel
theorem dL_law_612 : decode cL_law 612 = .ok (.iload_n 3, 1) := by decide +kernel
theorem dL_law_613 : decode cL_law 613 = .ok (.iconst 3, 1) := by decide +kernel
theorem dL_law_614 : decode cL_law 614 = .ok (.iadd, 1) := by decide +kernel
theorem dL_law_615 : decode cL_law 615 = .ok (.iaload, 1) := by decide +kernel
theorem dL_law_616 : decode cL_law 616 = .ok (.aload_n 0, 1) := by decide +kernel
theorem dL_law_617 : decode cL_law 617 = .ok (.iload_n 3, 1) := by decide +kernel
theorem dL_law_618 : decode cL_law 618 = .ok (.iconst 4, 1) := by decide +kernel
theorem dL_law_619 : decode cL_law 619 = .ok (.iadd, 1) := by decide +kernel
theorem dL_law_620 : decode cL_law 620 = .ok (.iaload, 1) := by decide +kernel
theorem dL_law_621 : decode cL_law 621 = .ok (.invokevirtual 67, 3) := by decide +kernel
theorem dL_law_624 : decode cL_law 624 = .ok (.if_icmp .eq 472, 3) := by decide +kernel
theorem dL_law_627 : decode cL_law 627 = .ok (.iconst 0, 1) := by decide +kernel
theorem dL_law_628 : decode cL_law 628 = .ok (.ireturn, 1) := by decide +kernel
theorem dL_law_629 : decode cL_law 629 = .ok (.aload_n 1, 1) := by decide +kernel
theorem dL_law_630 : decode cL_law 630 = .ok (.aload_n 0, 1) := by decide +kernel
theorem dL_law_631 : decode cL_law 631 = .ok (.iload_n 3, 1) := by decide +kernel
theorem dL_law_632 : decode cL_law 632 = .ok (.iconst 1, 1) := by decide +kernel
theorem dL_law_633 : decode cL_law 633 = .ok (.iadd, 1) := by decide +kernel
theorem dL_law_634 : decode cL_law 634 = .ok (.iaload, 1) := by decide +kernel
theorem dL_law_635 : decode cL_law 635 = .ok (.aload_n 0, 1) := by decide +kernel
theorem dL_law_636 : decode cL_law 636 = .ok (.iload_n 3, 1) := by decide +kernel
theorem dL_law_637 : decode cL_law 637 = .ok (.iconst 2, 1) := by decide +kernel
theorem dL_law_638 : decode cL_law 638 = .ok (.iadd, 1) := by decide +kernel
theorem dL_law_639 : decode cL_law 639 = .ok (.iaload, 1) := by decide +kernel
theorem dL_law_640 : decode cL_law 640 = .ok (.aload_n 0, 1) := by decide +kernel
theorem dL_law_641 : decode cL_law 641 = .ok (.iload_n 3, 1) := by decide +kernel
theorem dL_law_642 : decode cL_law 642 = .ok (.iconst 3, 1) := by decide +kernel
theorem dL_law_643 : decode cL_law 643 = .ok (.iadd, 1) := by decide +kernel
theorem dL_law_644 : decode cL_law 644 = .ok (.iaload, 1) := by decide +kernel
theorem dL_law_645 : decode cL_law 645 = .ok (.aload_n 0, 1) := by decide +kernel
theorem dL_law_646 : decode cL_law 646 = .ok (.iload_n 3, 1) := by decide +kernel
theorem dL_law_647 : decode cL_law 647 = .ok (.iconst 4, 1) := by decide +kernel
theorem dL_law_648 : decode cL_law 648 = .ok (.iadd, 1) := by decide +kernel
theorem dL_law_649 : decode cL_law 649 = .ok (.iaload, 1) := by decide +kernel
theorem dL_law_650 : decode cL_law 650 = .ok (.invokevirtual 68, 3) := by decide +kernel
theorem dL_law_653 : decode cL_law 653 = .ok (.aload_n 2, 1) := by decide +kernel
theorem dL_law_654 : decode cL_law 654 = .ok (.aload_n 0, 1) := by decide +kernel
theorem dL_law_655 : decode cL_law 655 = .ok (.iload_n 3, 1) := by decide +kernel
theorem dL_law_656 : decode cL_law 656 = .ok (.iconst 1, 1) := by decide +kernel
theorem dL_law_657 : decode cL_law 657 = .ok (.iadd, 1) := by decide +kernel
theorem dL_law_658 : decode cL_law 658 = .ok (.iaload, 1) := by decide +kernel
theorem dL_law_659 : decode cL_law 659 = .ok (.aload_n 0, 1) := by decide +kernel
theorem dL_law_660 : decode cL_law 660 = .ok (.iload_n 3, 1) := by decide +kernel
theorem dL_law_661 : decode cL_law 661 = .ok (.iconst 2, 1) := by decide +kernel
theorem dL_law_662 : decode cL_law 662 = .ok (.iadd, 1) := by decide +kernel
theorem dL_law_663 : decode cL_law 663 = .ok (.iaload, 1) := by decide +kernel
theorem dL_law_664 : decode cL_law 664 = .ok (.aload_n 0, 1) := by decide +kernel
theorem dL_law_665 : decode cL_law 665 = .ok (.iload_n 3, 1) := by decide +kernel
theorem dL_law_666 : decode cL_law 666 = .ok (.iconst 3, 1) := by decide +kernel
theorem dL_law_667 : decode cL_law 667 = .ok (.iadd, 1) := by decide +kernel
theorem dL_law_668 : decode cL_law 668 = .ok (.iaload, 1) := by decide +kernel
theorem dL_law_669 : decode cL_law 669 = .ok (.aload_n 0, 1) := by decide +kernel
theorem dL_law_670 : decode cL_law 670 = .ok (.iload_n 3, 1) := by decide +kernel
theorem dL_law_671 : decode cL_law 671 = .ok (.iconst 4, 1) := by decide +kernel
theorem dL_law_672 : decode cL_law 672 = .ok (.iadd, 1) := by decide +kernel
theorem dL_law_673 : decode cL_law 673 = .ok (.iaload, 1) := by decide +kernel
theorem dL_law_674 : decode cL_law 674 = .ok (.invokevirtual 71, 3) := by decide +kernel
theorem dL_law_677 : decode cL_law 677 = .ok (.if_icmp .eq 419, 3) := by decide +kernel
theorem dL_law_680 : decode cL_law 680 = .ok (.iconst 0, 1) := by decide +kernel
theorem dL_law_681 : decode cL_law 681 = .ok (.ireturn, 1) := by decide +kernel
theorem dL_law_682 : decode cL_law 682 = .ok (.aload_n 1, 1) := by decide +kernel
theorem dL_law_683 : decode cL_law 683 = .ok (.aload_n 0, 1) := by decide +kernel
theorem dL_law_684 : decode cL_law 684 = .ok (.iload_n 3, 1) := by decide +kernel
theorem dL_law_685 : decode cL_law 685 = .ok (.iconst 1, 1) := by decide +kernel
theorem dL_law_686 : decode cL_law 686 = .ok (.iadd, 1) := by decide +kernel
theorem dL_law_687 : decode cL_law 687 = .ok (.iaload, 1) := by decide +kernel
theorem dL_law_688 : decode cL_law 688 = .ok (.aload_n 0, 1) := by decide +kernel
theorem dL_law_689 : decode cL_law 689 = .ok (.iload_n 3, 1) := by decide +kernel
theorem dL_law_690 : decode cL_law 690 = .ok (.iconst 2, 1) := by decide +kernel
theorem dL_law_691 : decode cL_law 691 = .ok (.iadd, 1) := by decide +kernel
theorem dL_law_692 : decode cL_law 692 = .ok (.iaload, 1) := by decide +kernel
theorem dL_law_693 : decode cL_law 693 = .ok (.aload_n 0, 1) := by decide +kernel
theorem dL_law_694 : decode cL_law 694 = .ok (.iload_n 3, 1) := by decide +kernel
theorem dL_law_695 : decode cL_law 695 = .ok (.iconst 3, 1) := by decide +kernel
theorem dL_law_696 : decode cL_law 696 = .ok (.iadd, 1) := by decide +kernel
theorem dL_law_697 : decode cL_law 697 = .ok (.iaload, 1) := by decide +kernel
theorem dL_law_698 : decode cL_law 698 = .ok (.invokevirtual 72, 3) := by decide +kernel
theorem dL_law_701 : decode cL_law 701 = .ok (.aload_n 2, 1) := by decide +kernel
theorem dL_law_702 : decode cL_law 702 = .ok (.aload_n 0, 1) := by decide +kernel
theorem dL_law_703 : decode cL_law 703 = .ok (.iload_n 3, 1) := by decide +kernel
theorem dL_law_704 : decode cL_law 704 = .ok (.iconst 1, 1) := by decide +kernel
theorem dL_law_705 : decode cL_law 705 = .ok (.iadd, 1) := by decide +kernel
theorem dL_law_706 : decode cL_law 706 = .ok (.iaload, 1) := by decide +kernel
theorem dL_law_707 : decode cL_law 707 = .ok (.aload_n 0, 1) := by decide +kernel
theorem dL_law_708 : decode cL_law 708 = .ok (.iload_n 3, 1) := by decide +kernel
theorem dL_law_709 : decode cL_law 709 = .ok (.iconst 2, 1) := by decide +kernel
theorem dL_law_710 : decode cL_law 710 = .ok (.iadd, 1) := by decide +kernel
theorem dL_law_711 : decode cL_law 711 = .ok (.iaload, 1) := by decide +kernel
theorem dL_law_712 : decode cL_law 712 = .ok (.aload_n 0, 1) := by decide +kernel
theorem dL_law_713 : decode cL_law 713 = .ok (.iload_n 3, 1) := by decide +kernel
theorem dL_law_714 : decode cL_law 714 = .ok (.iconst 3, 1) := by decide +kernel
theorem dL_law_715 : decode cL_law 715 = .ok (.iadd, 1) := by decide +kernel
theorem dL_law_716 : decode cL_law 716 = .ok (.iaload, 1) := by decide +kernel
theorem dL_law_717 : decode cL_law 717 = .ok (.invokevirtual 75, 3) := by decide +kernel
theorem dL_law_720 : decode cL_law 720 = .ok (.if_icmp .eq 376, 3) := by decide +kernel
theorem dL_law_723 : decode cL_law 723 = .ok (.iconst 0, 1) := by decide +kernel
theorem dL_law_724 : decode cL_law 724 = .ok (.ireturn, 1) := by decide +kernel
theorem dL_law_725 : decode cL_law 725 = .ok (.aload_n 1, 1) := by decide +kernel
theorem dL_law_726 : decode cL_law 726 = .ok (.aload_n 0, 1) := by decide +kernel
theorem dL_law_727 : decode cL_law 727 = .ok (.iload_n 3, 1) := by decide +kernel
theorem dL_law_728 : decode cL_law 728 = .ok (.iconst 1, 1) := by decide +kernel
theorem dL_law_729 : decode cL_law 729 = .ok (.iadd, 1) := by decide +kernel
theorem dL_law_730 : decode cL_law 730 = .ok (.iaload, 1) := by decide +kernel
theorem dL_law_731 : decode cL_law 731 = .ok (.invokevirtual 76, 3) := by decide +kernel
theorem dL_law_734 : decode cL_law 734 = .ok (.aload_n 2, 1) := by decide +kernel
theorem dL_law_735 : decode cL_law 735 = .ok (.aload_n 0, 1) := by decide +kernel
theorem dL_law_736 : decode cL_law 736 = .ok (.iload_n 3, 1) := by decide +kernel
theorem dL_law_737 : decode cL_law 737 = .ok (.iconst 1, 1) := by decide +kernel
theorem dL_law_738 : decode cL_law 738 = .ok (.iadd, 1) := by decide +kernel
theorem dL_law_739 : decode cL_law 739 = .ok (.iaload, 1) := by decide +kernel
theorem dL_law_740 : decode cL_law 740 = .ok (.invokevirtual 79, 3) := by decide +kernel
theorem dL_law_743 : decode cL_law 743 = .ok (.if_icmp .eq 353, 3) := by decide +kernel
theorem dL_law_746 : decode cL_law 746 = .ok (.iconst 0, 1) := by decide +kernel
theorem dL_law_747 : decode cL_law 747 = .ok (.ireturn, 1) := by decide +kernel
theorem dL_law_748 : decode cL_law 748 = .ok (.aload_n 1, 1) := by decide +kernel
theorem dL_law_749 : decode cL_law 749 = .ok (.aload_n 0, 1) := by decide +kernel
theorem dL_law_750 : decode cL_law 750 = .ok (.iload_n 3, 1) := by decide +kernel
theorem dL_law_751 : decode cL_law 751 = .ok (.iconst 1, 1) := by decide +kernel
theorem dL_law_752 : decode cL_law 752 = .ok (.iadd, 1) := by decide +kernel
theorem dL_law_753 : decode cL_law 753 = .ok (.iaload, 1) := by decide +kernel
theorem dL_law_754 : decode cL_law 754 = .ok (.invokevirtual 80, 3) := by decide +kernel
theorem dL_law_757 : decode cL_law 757 = .ok (.aload_n 2, 1) := by decide +kernel
theorem dL_law_758 : decode cL_law 758 = .ok (.aload_n 0, 1) := by decide +kernel
theorem dL_law_759 : decode cL_law 759 = .ok (.iload_n 3, 1) := by decide +kernel
theorem dL_law_760 : decode cL_law 760 = .ok (.iconst 1, 1) := by decide +kernel
theorem dL_law_761 : decode cL_law 761 = .ok (.iadd, 1) := by decide +kernel
theorem dL_law_762 : decode cL_law 762 = .ok (.iaload, 1) := by decide +kernel
theorem dL_law_763 : decode cL_law 763 = .ok (.invokevirtual 83, 3) := by decide +kernel
theorem dL_law_766 : decode cL_law 766 = .ok (.if_icmp .eq 330, 3) := by decide +kernel
theorem dL_law_769 : decode cL_law 769 = .ok (.iconst 0, 1) := by decide +kernel
theorem dL_law_770 : decode cL_law 770 = .ok (.ireturn, 1) := by decide +kernel
theorem dL_law_771 : decode cL_law 771 = .ok (.aload_n 1, 1) := by decide +kernel
theorem dL_law_772 : decode cL_law 772 = .ok (.invokevirtual 84, 3) := by decide +kernel
theorem dL_law_775 : decode cL_law 775 = .ok (.aload_n 2, 1) := by decide +kernel
theorem dL_law_776 : decode cL_law 776 = .ok (.invokevirtual 88, 3) := by decide +kernel
theorem dL_law_779 : decode cL_law 779 = .ok (.if_icmp .eq 317, 3) := by decide +kernel
theorem dL_law_782 : decode cL_law 782 = .ok (.iconst 0, 1) := by decide +kernel
theorem dL_law_783 : decode cL_law 783 = .ok (.ireturn, 1) := by decide +kernel
theorem dL_law_784 : decode cL_law 784 = .ok (.aload_n 1, 1) := by decide +kernel
theorem dL_law_785 : decode cL_law 785 = .ok (.invokevirtual 89, 3) := by decide +kernel
theorem dL_law_788 : decode cL_law 788 = .ok (.aload_n 2, 1) := by decide +kernel
theorem dL_law_789 : decode cL_law 789 = .ok (.invokevirtual 93, 3) := by decide +kernel
theorem dL_law_792 : decode cL_law 792 = .ok (.if_icmp .eq 304, 3) := by decide +kernel
theorem dL_law_795 : decode cL_law 795 = .ok (.iconst 0, 1) := by decide +kernel
theorem dL_law_796 : decode cL_law 796 = .ok (.ireturn, 1) := by decide +kernel
theorem dL_law_797 : decode cL_law 797 = .ok (.aload_n 1, 1) := by decide +kernel
theorem dL_law_798 : decode cL_law 798 = .ok (.aload_n 0, 1) := by decide +kernel
theorem dL_law_799 : decode cL_law 799 = .ok (.iload_n 3, 1) := by decide +kernel
theorem dL_law_800 : decode cL_law 800 = .ok (.iconst 1, 1) := by decide +kernel
theorem dL_law_801 : decode cL_law 801 = .ok (.iadd, 1) := by decide +kernel
theorem dL_law_802 : decode cL_law 802 = .ok (.iaload, 1) := by decide +kernel
theorem dL_law_803 : decode cL_law 803 = .ok (.aload_n 0, 1) := by decide +kernel
theorem dL_law_804 : decode cL_law 804 = .ok (.iload_n 3, 1) := by decide +kernel
theorem dL_law_805 : decode cL_law 805 = .ok (.iconst 2, 1) := by decide +kernel
theorem dL_law_806 : decode cL_law 806 = .ok (.iadd, 1) := by decide +kernel
theorem dL_law_807 : decode cL_law 807 = .ok (.iaload, 1) := by decide +kernel
theorem dL_law_808 : decode cL_law 808 = .ok (.aload_n 0, 1) := by decide +kernel
theorem dL_law_809 : decode cL_law 809 = .ok (.iload_n 3, 1) := by decide +kernel
theorem dL_law_810 : decode cL_law 810 = .ok (.iconst 3, 1) := by decide +kernel
theorem dL_law_811 : decode cL_law 811 = .ok (.iadd, 1) := by decide +kernel
theorem dL_law_812 : decode cL_law 812 = .ok (.iaload, 1) := by decide +kernel
theorem dL_law_813 : decode cL_law 813 = .ok (.aload_n 0, 1) := by decide +kernel
theorem dL_law_814 : decode cL_law 814 = .ok (.iload_n 3, 1) := by decide +kernel
theorem dL_law_815 : decode cL_law 815 = .ok (.iconst 4, 1) := by decide +kernel
theorem dL_law_816 : decode cL_law 816 = .ok (.iadd, 1) := by decide +kernel
theorem dL_law_817 : decode cL_law 817 = .ok (.iaload, 1) := by decide +kernel
theorem dL_law_818 : decode cL_law 818 = .ok (.aload_n 0, 1) := by decide +kernel
theorem dL_law_819 : decode cL_law 819 = .ok (.iload_n 3, 1) := by decide +kernel
theorem dL_law_820 : decode cL_law 820 = .ok (.iconst 5, 1) := by decide +kernel
theorem dL_law_821 : decode cL_law 821 = .ok (.iadd, 1) := by decide +kernel
theorem dL_law_822 : decode cL_law 822 = .ok (.iaload, 1) := by decide +kernel
theorem dL_law_823 : decode cL_law 823 = .ok (.aload_n 0, 1) := by decide +kernel
theorem dL_law_824 : decode cL_law 824 = .ok (.iload_n 3, 1) := by decide +kernel
theorem dL_law_825 : decode cL_law 825 = .ok (.bipush 6, 2) := by decide +kernel
theorem dL_law_827 : decode cL_law 827 = .ok (.iadd, 1) := by decide +kernel
theorem dL_law_828 : decode cL_law 828 = .ok (.iaload, 1) := by decide +kernel
theorem dL_law_829 : decode cL_law 829 = .ok (.invokevirtual 94, 3) := by decide +kernel
theorem dL_law_832 : decode cL_law 832 = .ok (.aload_n 2, 1) := by decide +kernel
theorem dL_law_833 : decode cL_law 833 = .ok (.aload_n 0, 1) := by decide +kernel
theorem dL_law_834 : decode cL_law 834 = .ok (.iload_n 3, 1) := by decide +kernel
theorem dL_law_835 : decode cL_law 835 = .ok (.iconst 1, 1) := by decide +kernel
theorem dL_law_836 : decode cL_law 836 = .ok (.iadd, 1) := by decide +kernel
theorem dL_law_837 : decode cL_law 837 = .ok (.iaload, 1) := by decide +kernel
theorem dL_law_838 : decode cL_law 838 = .ok (.aload_n 0, 1) := by decide +kernel
theorem dL_law_839 : decode cL_law 839 = .ok (.iload_n 3, 1) := by decide +kernel
theorem dL_law_840 : decode cL_law 840 = .ok (.iconst 2, 1) := by decide +kernel
theorem dL_law_841 : decode cL_law 841 = .ok (.iadd, 1) := by decide +kernel
theorem dL_law_842 : decode cL_law 842 = .ok (.iaload, 1) := by decide +kernel
theorem dL_law_843 : decode cL_law 843 = .ok (.aload_n 0, 1) := by decide +kernel
theorem dL_law_844 : decode cL_law 844 = .ok (.iload_n 3, 1) := by decide +kernel
theorem dL_law_845 : decode cL_law 845 = .ok (.iconst 3, 1) := by decide +kernel
theorem dL_law_846 : decode cL_law 846 = .ok (.iadd, 1) := by decide +kernel
theorem dL_law_847 : decode cL_law 847 = .ok (.iaload, 1) := by decide +kernel
theorem dL_law_848 : decode cL_law 848 = .ok (.aload_n 0, 1) := by decide +kernel
theorem dL_law_849 : decode cL_law 849 = .ok (.iload_n 3, 1) := by decide +kernel
theorem dL_law_850 : decode cL_law 850 = .ok (.iconst 4, 1) := by decide +kernel
theorem dL_law_851 : decode cL_law 851 = .ok (.iadd, 1) := by decide +kernel
theorem dL_law_852 : decode cL_law 852 = .ok (.iaload, 1) := by decide +kernel
theorem dL_law_853 : decode cL_law 853 = .ok (.aload_n 0, 1) := by decide +kernel
theorem dL_law_854 : decode cL_law 854 = .ok (.iload_n 3, 1) := by decide +kernel
theorem dL_law_855 : decode cL_law 855 = .ok (.iconst 5, 1) := by decide +kernel
theorem dL_law_856 : decode cL_law 856 = .ok (.iadd, 1) := by decide +kernel
theorem dL_law_857 : decode cL_law 857 = .ok (.iaload, 1) := by decide +kernel
theorem dL_law_858 : decode cL_law 858 = .ok (.aload_n 0, 1) := by decide +kernel
theorem dL_law_859 : decode cL_law 859 = .ok (.iload_n 3, 1) := by decide +kernel
theorem dL_law_860 : decode cL_law 860 = .ok (.bipush 6, 2) := by decide +kernel
theorem dL_law_862 : decode cL_law 862 = .ok (.iadd, 1) := by decide +kernel
theorem dL_law_863 : decode cL_law 863 = .ok (.iaload, 1) := by decide +kernel
theorem dL_law_864 : decode cL_law 864 = .ok (.invokevirtual 97, 3) := by decide +kernel
theorem dL_law_867 : decode cL_law 867 = .ok (.if_icmp .eq 229, 3) := by decide +kernel
theorem dL_law_870 : decode cL_law 870 = .ok (.iconst 0, 1) := by decide +kernel
theorem dL_law_871 : decode cL_law 871 = .ok (.ireturn, 1) := by decide +kernel
theorem dL_law_872 : decode cL_law 872 = .ok (.aload_n 1, 1) := by decide +kernel
theorem dL_law_873 : decode cL_law 873 = .ok (.aload_n 0, 1) := by decide +kernel
theorem dL_law_874 : decode cL_law 874 = .ok (.iload_n 3, 1) := by decide +kernel
theorem dL_law_875 : decode cL_law 875 = .ok (.iconst 1, 1) := by decide +kernel
theorem dL_law_876 : decode cL_law 876 = .ok (.iadd, 1) := by decide +kernel
theorem dL_law_877 : decode cL_law 877 = .ok (.iaload, 1) := by decide +kernel
theorem dL_law_878 : decode cL_law 878 = .ok (.aload_n 0, 1) := by decide +kernel
theorem dL_law_879 : decode cL_law 879 = .ok (.iload_n 3, 1) := by decide +kernel
theorem dL_law_880 : decode cL_law 880 = .ok (.iconst 2, 1) := by decide +kernel
theorem dL_law_881 : decode cL_law 881 = .ok (.iadd, 1) := by decide +kernel
theorem dL_law_882 : decode cL_law 882 = .ok (.iaload, 1) := by decide +kernel
theorem dL_law_883 : decode cL_law 883 = .ok (.invokevirtual 98, 3) := by decide +kernel
theorem dL_law_886 : decode cL_law 886 = .ok (.aload_n 2, 1) := by decide +kernel
theorem dL_law_887 : decode cL_law 887 = .ok (.aload_n 0, 1) := by decide +kernel
theorem dL_law_888 : decode cL_law 888 = .ok (.iload_n 3, 1) := by decide +kernel
theorem dL_law_889 : decode cL_law 889 = .ok (.iconst 1, 1) := by decide +kernel
theorem dL_law_890 : decode cL_law 890 = .ok (.iadd, 1) := by decide +kernel
theorem dL_law_891 : decode cL_law 891 = .ok (.iaload, 1) := by decide +kernel
theorem dL_law_892 : decode cL_law 892 = .ok (.aload_n 0, 1) := by decide +kernel
theorem dL_law_893 : decode cL_law 893 = .ok (.iload_n 3, 1) := by decide +kernel
theorem dL_law_894 : decode cL_law 894 = .ok (.iconst 2, 1) := by decide +kernel
theorem dL_law_895 : decode cL_law 895 = .ok (.iadd, 1) := by decide +kernel
theorem dL_law_896 : decode cL_law 896 = .ok (.iaload, 1) := by decide +kernel
theorem dL_law_897 : decode cL_law 897 = .ok (.invokevirtual 101, 3) := by decide +kernel
theorem dL_law_900 : decode cL_law 900 = .ok (.if_icmp .eq 196, 3) := by decide +kernel
theorem dL_law_903 : decode cL_law 903 = .ok (.iconst 0, 1) := by decide +kernel
theorem dL_law_904 : decode cL_law 904 = .ok (.ireturn, 1) := by decide +kernel
theorem dL_law_905 : decode cL_law 905 = .ok (.aload_n 1, 1) := by decide +kernel
theorem dL_law_906 : decode cL_law 906 = .ok (.aload_n 0, 1) := by decide +kernel
theorem dL_law_907 : decode cL_law 907 = .ok (.iload_n 3, 1) := by decide +kernel
theorem dL_law_908 : decode cL_law 908 = .ok (.iconst 1, 1) := by decide +kernel
theorem dL_law_909 : decode cL_law 909 = .ok (.iadd, 1) := by decide +kernel
theorem dL_law_910 : decode cL_law 910 = .ok (.iaload, 1) := by decide +kernel
theorem dL_law_911 : decode cL_law 911 = .ok (.aload_n 0, 1) := by decide +kernel
theorem dL_law_912 : decode cL_law 912 = .ok (.iload_n 3, 1) := by decide +kernel
theorem dL_law_913 : decode cL_law 913 = .ok (.iconst 2, 1) := by decide +kernel
theorem dL_law_914 : decode cL_law 914 = .ok (.iadd, 1) := by decide +kernel
theorem dL_law_915 : decode cL_law 915 = .ok (.iaload, 1) := by decide +kernel
theorem dL_law_916 : decode cL_law 916 = .ok (.aload_n 0, 1) := by decide +kernel
theorem dL_law_917 : decode cL_law 917 = .ok (.iload_n 3, 1) := by decide +kernel
theorem dL_law_918 : decode cL_law 918 = .ok (.iconst 3, 1) := by decide +kernel
theorem dL_law_919 : decode cL_law 919 = .ok (.iadd, 1) := by decide +kernel
theorem dL_law_920 : decode cL_law 920 = .ok (.iaload, 1) := by decide +kernel
theorem dL_law_921 : decode cL_law 921 = .ok (.ifCond .eq 7, 3) := by decide +kernel
theorem dL_law_924 : decode cL_law 924 = .ok (.iconst 1, 1) := by decide +kernel
theorem dL_law_925 : decode cL_law 925 = .ok (.goto 4, 3) := by decide +kernel
theorem dL_law_928 : decode cL_law 928 = .ok (.iconst 0, 1) := by decide +kernel
theorem dL_law_929 : decode cL_law 929 = .ok (.invokevirtual 102, 3) := by decide +kernel
theorem dL_law_932 : decode cL_law 932 = .ok (.aload_n 2, 1) := by decide +kernel
theorem dL_law_933 : decode cL_law 933 = .ok (.aload_n 0, 1) := by decide +kernel
theorem dL_law_934 : decode cL_law 934 = .ok (.iload_n 3, 1) := by decide +kernel
theorem dL_law_935 : decode cL_law 935 = .ok (.iconst 1, 1) := by decide +kernel
theorem dL_law_936 : decode cL_law 936 = .ok (.iadd, 1) := by decide +kernel
theorem dL_law_937 : decode cL_law 937 = .ok (.iaload, 1) := by decide +kernel
theorem dL_law_938 : decode cL_law 938 = .ok (.aload_n 0, 1) := by decide +kernel
theorem dL_law_939 : decode cL_law 939 = .ok (.iload_n 3, 1) := by decide +kernel
theorem dL_law_940 : decode cL_law 940 = .ok (.iconst 2, 1) := by decide +kernel
theorem dL_law_941 : decode cL_law 941 = .ok (.iadd, 1) := by decide +kernel
theorem dL_law_942 : decode cL_law 942 = .ok (.iaload, 1) := by decide +kernel
theorem dL_law_943 : decode cL_law 943 = .ok (.aload_n 0, 1) := by decide +kernel
theorem dL_law_944 : decode cL_law 944 = .ok (.iload_n 3, 1) := by decide +kernel
theorem dL_law_945 : decode cL_law 945 = .ok (.iconst 3, 1) := by decide +kernel
theorem dL_law_946 : decode cL_law 946 = .ok (.iadd, 1) := by decide +kernel
theorem dL_law_947 : decode cL_law 947 = .ok (.iaload, 1) := by decide +kernel
theorem dL_law_948 : decode cL_law 948 = .ok (.ifCond .eq 7, 3) := by decide +kernel
theorem dL_law_951 : decode cL_law 951 = .ok (.iconst 1, 1) := by decide +kernel
theorem dL_law_952 : decode cL_law 952 = .ok (.goto 4, 3) := by decide +kernel
theorem dL_law_955 : decode cL_law 955 = .ok (.iconst 0, 1) := by decide +kernel
theorem dL_law_956 : decode cL_law 956 = .ok (.invokevirtual 106, 3) := by decide +kernel
theorem dL_law_959 : decode cL_law 959 = .ok (.if_icmp .eq 137, 3) := by decide +kernel
theorem dL_law_962 : decode cL_law 962 = .ok (.iconst 0, 1) := by decide +kernel
theorem dL_law_963 : decode cL_law 963 = .ok (.ireturn, 1) := by decide +kernel
theorem dL_law_964 : decode cL_law 964 = .ok (.aload_n 1, 1) := by decide +kernel
theorem dL_law_965 : decode cL_law 965 = .ok (.aload_n 0, 1) := by decide +kernel
theorem dL_law_966 : decode cL_law 966 = .ok (.iload_n 3, 1) := by decide +kernel
theorem dL_law_967 : decode cL_law 967 = .ok (.iconst 1, 1) := by decide +kernel
theorem dL_law_968 : decode cL_law 968 = .ok (.iadd, 1) := by decide +kernel
theorem dL_law_969 : decode cL_law 969 = .ok (.iaload, 1) := by decide +kernel
theorem dL_law_970 : decode cL_law 970 = .ok (.aload_n 0, 1) := by decide +kernel
theorem dL_law_971 : decode cL_law 971 = .ok (.iload_n 3, 1) := by decide +kernel
theorem dL_law_972 : decode cL_law 972 = .ok (.iconst 2, 1) := by decide +kernel
theorem dL_law_973 : decode cL_law 973 = .ok (.iadd, 1) := by decide +kernel
theorem dL_law_974 : decode cL_law 974 = .ok (.iaload, 1) := by decide +kernel
theorem dL_law_975 : decode cL_law 975 = .ok (.invokevirtual 107, 3) := by decide +kernel
theorem dL_law_978 : decode cL_law 978 = .ok (.aload_n 2, 1) := by decide +kernel
theorem dL_law_979 : decode cL_law 979 = .ok (.aload_n 0, 1) := by decide +kernel
theorem dL_law_980 : decode cL_law 980 = .ok (.iload_n 3, 1) := by decide +kernel
theorem dL_law_981 : decode cL_law 981 = .ok (.iconst 1, 1) := by decide +kernel
theorem dL_law_982 : decode cL_law 982 = .ok (.iadd, 1) := by decide +kernel
theorem dL_law_983 : decode cL_law 983 = .ok (.iaload, 1) := by decide +kernel
theorem dL_law_984 : decode cL_law 984 = .ok (.aload_n 0, 1) := by decide +kernel
theorem dL_law_985 : decode cL_law 985 = .ok (.iload_n 3, 1) := by decide +kernel
theorem dL_law_986 : decode cL_law 986 = .ok (.iconst 2, 1) := by decide +kernel
theorem dL_law_987 : decode cL_law 987 = .ok (.iadd, 1) := by decide +kernel
theorem dL_law_988 : decode cL_law 988 = .ok (.iaload, 1) := by decide +kernel
theorem dL_law_989 : decode cL_law 989 = .ok (.invokevirtual 110, 3) := by decide +kernel
theorem dL_law_992 : decode cL_law 992 = .ok (.if_icmp .eq 104, 3) := by decide +kernel
theorem dL_law_995 : decode cL_law 995 = .ok (.iconst 0, 1) := by decide +kernel
theorem dL_law_996 : decode cL_law 996 = .ok (.ireturn, 1) := by decide +kernel
theorem dL_law_997 : decode cL_law 997 = .ok (.aload_n 1, 1) := by decide +kernel
theorem dL_law_998 : decode cL_law 998 = .ok (.aload_n 0, 1) := by decide +kernel
theorem dL_law_999 : decode cL_law 999 = .ok (.iload_n 3, 1) := by decide +kernel
theorem dL_law_1000 : decode cL_law 1000 = .ok (.iconst 1, 1) := by decide +kernel
theorem dL_law_1001 : decode cL_law 1001 = .ok (.iadd, 1) := by decide +kernel
theorem dL_law_1002 : decode cL_law 1002 = .ok (.iaload, 1) := by decide +kernel
theorem dL_law_1003 : decode cL_law 1003 = .ok (.aload_n 0, 1) := by decide +kernel
theorem dL_law_1004 : decode cL_law 1004 = .ok (.iload_n 3, 1) := by decide +kernel
theorem dL_law_1005 : decode cL_law 1005 = .ok (.iconst 2, 1) := by decide +kernel
theorem dL_law_1006 : decode cL_law 1006 = .ok (.iadd, 1) := by decide +kernel
theorem dL_law_1007 : decode cL_law 1007 = .ok (.iaload, 1) := by decide +kernel
theorem dL_law_1008 : decode cL_law 1008 = .ok (.aload_n 0, 1) := by decide +kernel
theorem dL_law_1009 : decode cL_law 1009 = .ok (.iload_n 3, 1) := by decide +kernel
theorem dL_law_1010 : decode cL_law 1010 = .ok (.iconst 3, 1) := by decide +kernel
theorem dL_law_1011 : decode cL_law 1011 = .ok (.iadd, 1) := by decide +kernel
theorem dL_law_1012 : decode cL_law 1012 = .ok (.iaload, 1) := by decide +kernel
theorem dL_law_1013 : decode cL_law 1013 = .ok (.invokevirtual 111, 3) := by decide +kernel
theorem dL_law_1016 : decode cL_law 1016 = .ok (.aload_n 2, 1) := by decide +kernel
theorem dL_law_1017 : decode cL_law 1017 = .ok (.aload_n 0, 1) := by decide +kernel
theorem dL_law_1018 : decode cL_law 1018 = .ok (.iload_n 3, 1) := by decide +kernel
theorem dL_law_1019 : decode cL_law 1019 = .ok (.iconst 1, 1) := by decide +kernel
theorem dL_law_1020 : decode cL_law 1020 = .ok (.iadd, 1) := by decide +kernel
theorem dL_law_1021 : decode cL_law 1021 = .ok (.iaload, 1) := by decide +kernel
theorem dL_law_1022 : decode cL_law 1022 = .ok (.aload_n 0, 1) := by decide +kernel
theorem dL_law_1023 : decode cL_law 1023 = .ok (.iload_n 3, 1) := by decide +kernel
theorem dL_law_1024 : decode cL_law 1024 = .ok (.iconst 2, 1) := by decide +kernel
theorem dL_law_1025 : decode cL_law 1025 = .ok (.iadd, 1) := by decide +kernel
theorem dL_law_1026 : decode cL_law 1026 = .ok (.iaload, 1) := by decide +kernel
theorem dL_law_1027 : decode cL_law 1027 = .ok (.aload_n 0, 1) := by decide +kernel
theorem dL_law_1028 : decode cL_law 1028 = .ok (.iload_n 3, 1) := by decide +kernel
theorem dL_law_1029 : decode cL_law 1029 = .ok (.iconst 3, 1) := by decide +kernel
theorem dL_law_1030 : decode cL_law 1030 = .ok (.iadd, 1) := by decide +kernel
theorem dL_law_1031 : decode cL_law 1031 = .ok (.iaload, 1) := by decide +kernel
theorem dL_law_1032 : decode cL_law 1032 = .ok (.invokevirtual 114, 3) := by decide +kernel
theorem dL_law_1035 : decode cL_law 1035 = .ok (.if_icmp .eq 61, 3) := by decide +kernel
theorem dL_law_1038 : decode cL_law 1038 = .ok (.iconst 0, 1) := by decide +kernel
theorem dL_law_1039 : decode cL_law 1039 = .ok (.ireturn, 1) := by decide +kernel
theorem dL_law_1040 : decode cL_law 1040 = .ok (.aload_n 1, 1) := by decide +kernel
theorem dL_law_1041 : decode cL_law 1041 = .ok (.aload_n 0, 1) := by decide +kernel
theorem dL_law_1042 : decode cL_law 1042 = .ok (.iload_n 3, 1) := by decide +kernel
theorem dL_law_1043 : decode cL_law 1043 = .ok (.iconst 1, 1) := by decide +kernel
theorem dL_law_1044 : decode cL_law 1044 = .ok (.iadd, 1) := by decide +kernel
theorem dL_law_1045 : decode cL_law 1045 = .ok (.iaload, 1) := by decide +kernel
theorem dL_law_1046 : decode cL_law 1046 = .ok (.aload_n 0, 1) := by decide +kernel
theorem dL_law_1047 : decode cL_law 1047 = .ok (.iload_n 3, 1) := by decide +kernel
theorem dL_law_1048 : decode cL_law 1048 = .ok (.iconst 2, 1) := by decide +kernel
theorem dL_law_1049 : decode cL_law 1049 = .ok (.iadd, 1) := by decide +kernel
theorem dL_law_1050 : decode cL_law 1050 = .ok (.iaload, 1) := by decide +kernel
theorem dL_law_1051 : decode cL_law 1051 = .ok (.invokevirtual 115, 3) := by decide +kernel
theorem dL_law_1054 : decode cL_law 1054 = .ok (.aload_n 2, 1) := by decide +kernel
theorem dL_law_1055 : decode cL_law 1055 = .ok (.aload_n 0, 1) := by decide +kernel
theorem dL_law_1056 : decode cL_law 1056 = .ok (.iload_n 3, 1) := by decide +kernel
theorem dL_law_1057 : decode cL_law 1057 = .ok (.iconst 1, 1) := by decide +kernel
theorem dL_law_1058 : decode cL_law 1058 = .ok (.iadd, 1) := by decide +kernel
theorem dL_law_1059 : decode cL_law 1059 = .ok (.iaload, 1) := by decide +kernel
theorem dL_law_1060 : decode cL_law 1060 = .ok (.aload_n 0, 1) := by decide +kernel
theorem dL_law_1061 : decode cL_law 1061 = .ok (.iload_n 3, 1) := by decide +kernel
theorem dL_law_1062 : decode cL_law 1062 = .ok (.iconst 2, 1) := by decide +kernel
theorem dL_law_1063 : decode cL_law 1063 = .ok (.iadd, 1) := by decide +kernel
theorem dL_law_1064 : decode cL_law 1064 = .ok (.iaload, 1) := by decide +kernel
theorem dL_law_1065 : decode cL_law 1065 = .ok (.invokevirtual 118, 3) := by decide +kernel
theorem dL_law_1068 : decode cL_law 1068 = .ok (.if_icmp .eq 28, 3) := by decide +kernel
theorem dL_law_1071 : decode cL_law 1071 = .ok (.iconst 0, 1) := by decide +kernel
theorem dL_law_1072 : decode cL_law 1072 = .ok (.ireturn, 1) := by decide +kernel
theorem dL_law_1073 : decode cL_law 1073 = .ok (.aload_n 1, 1) := by decide +kernel
theorem dL_law_1074 : decode cL_law 1074 = .ok (.aload_n 0, 1) := by decide +kernel
theorem dL_law_1075 : decode cL_law 1075 = .ok (.iload_n 3, 1) := by decide +kernel
theorem dL_law_1076 : decode cL_law 1076 = .ok (.iconst 1, 1) := by decide +kernel
theorem dL_law_1077 : decode cL_law 1077 = .ok (.iadd, 1) := by decide +kernel
theorem dL_law_1078 : decode cL_law 1078 = .ok (.iaload, 1) := by decide +kernel
theorem dL_law_1079 : decode cL_law 1079 = .ok (.invokevirtual 119, 3) := by decide +kernel
theorem dL_law_1082 : decode cL_law 1082 = .ok (.aload_n 2, 1) := by decide +kernel
theorem dL_law_1083 : decode cL_law 1083 = .ok (.aload_n 0, 1) := by decide +kernel
theorem dL_law_1084 : decode cL_law 1084 = .ok (.iload_n 3, 1) := by decide +kernel
theorem dL_law_1085 : decode cL_law 1085 = .ok (.iconst 1, 1) := by decide +kernel
theorem dL_law_1086 : decode cL_law 1086 = .ok (.iadd, 1) := by decide +kernel
theorem dL_law_1087 : decode cL_law 1087 = .ok (.iaload, 1) := by decide +kernel
theorem dL_law_1088 : decode cL_law 1088 = .ok (.invokevirtual 122, 3) := by decide +kernel
theorem dL_law_1091 : decode cL_law 1091 = .ok (.if_icmp .eq 5, 3) := by decide +kernel
theorem dL_law_1094 : decode cL_law 1094 = .ok (.iconst 0, 1) := by decide +kernel
theorem dL_law_1095 : decode cL_law 1095 = .ok (.ireturn, 1) := by decide +kernel
theorem dL_law_1096 : decode cL_law 1096 = .ok (.iinc 3 7, 3) := by decide +kernel
theorem dL_law_1099 : decode cL_law 1099 = .ok (.goto (-1081), 3) := by decide +kernel
theorem dL_law_1102 : decode cL_law 1102 = .ok (.iconst 1, 1) := by decide +kernel
theorem dL_law_1103 : decode cL_law 1103 = .ok (.ireturn, 1) := by decide +kernel
end
section
/-! ===== the tables that every method knows, the world of a method, and a row for each instruction that touches it ===== -/
abbrev tysA (ca : Nat → ClassId) : List (ClassId × FieldType) := [(ca 0, .byte), (ca 1, .int), (ca 2, .boolean), (ca 3, .object "ScrapHouse$Ballot"), (ca 4, .object "ScrapHouse$Child"), (ca 5, .object "ScrapHouse$Nurse")]
abbrev nest (own : String) (i : Nat) (y : MethodName) : Cond := .methodLinkNest own i y "ScrapHouse"
def gN (U : State) : Prop := va_Nw (nest RX9 29 yX8_init) U ∧ va_Nw (nest RX9 46 yX6_init) U ∧ va_Nw (nest RX0 29 yX9_within) U ∧ va_Nw (nest RX3 17 yX9_within) U ∧ va_Nw (nest RX8 19 yX9_within) U ∧ va_Nw (nest RX7 74 yX9_within) U ∧ va_Nw (nest RX2 33 yX9_within) U ∧ va_AO "ScrapHouse$Ballot" U ∧ va_AO "ScrapHouse$Child" U ∧ va_AO "ScrapHouse$Nurse" U
def gK (D : va_G) (ca : Nat → ClassId) (U : State) : Prop := va_K D vwCl (tysA ca) U ∧ gN U
theorem gN.warm {s U : State} (hW : s.WarmedH U.vm) (h : gN s) : gN U := by
  obtain ⟨h1, h2, h3, h4, h5, h6, h7, h8, h9, h10⟩ := h
  exact ⟨va_Nw.warmM hW h1, va_Nw.warmM hW h2, va_Nw.warmM hW h3, va_Nw.warmM hW h4, va_Nw.warmM hW h5, va_Nw.warmM hW h6, va_Nw.warmM hW h7, va_AO.moved hW.alike h8, va_AO.moved hW.alike h9, va_AO.moved hW.alike h10⟩
theorem gN.same {u U : State} (e : u.vm = U.vm) (h : gN u) : gN U := by
  obtain ⟨h1, h2, h3, h4, h5, h6, h7, h8, h9, h10⟩ := h
  have ea : u.vm.Alike U.vm := by rw [e]; exact Vm.Alike.refl _
  exact ⟨va_Nw.same rfl e h1, va_Nw.same rfl e h2, va_Nw.same rfl e h3, va_Nw.same rfl e h4, va_Nw.same rfl e h5, va_Nw.same rfl e h6, va_Nw.same rfl e h7, va_AO.moved ea h8, va_AO.moved ea h9, va_AO.moved ea h10⟩
theorem gK.warm {D : va_G} {ca : Nat → ClassId} {s U : State} (hW : s.WarmedH U.vm) (h : gK D ca s) : gK D ca U := ⟨va_K.moved hW.alike h.1, h.2.warm hW⟩
theorem gK.blind {D : va_G} {ca : Nat → ClassId} {U : State} {g : JFrame} {mk : MethodId} {a : Array Value} (h : gK D ca U) : gK D ca (U.calling g mk a) := ⟨va_K.moved (u := U) (U := U.calling g mk a) (Vm.Alike.refl U.vm) h.1, h.2.same rfl⟩
/-- what stands fast in a method: the machine, its code, the words -/
def cx (p : Program) (s : State) (m : MethodId) (c : Code) (args : Array Value) (cc : ByteArray) (nL : Nat) (own : String) (D : va_G) (ca : Nat → ClassId) : Prop :=
  p.tables.exec = Jvm.exec ∧ c.code = cc ∧ c.maxLocals = nL ∧ s.vm.findClass own = some m.cls ∧ (∀ w ∈ gw, w.before args s = true) ∧ gK D ca s
abbrev wz (y : MethodName) (b : ByteArray) (n : Nat) (r : Option FieldType) : List Cond := .code y b n r :: gw
theorem wz_good {y y2 : MethodName} {b b2 : ByteArray} {n n2 : Nat} {r r2 : Option FieldType} (h : Cond.code y2 b2 n2 r2 ∈ gw) : ∀ w ∈ wz y2 b2 n2 r2, w ∈ gw ∧ ((w.onTables && w.keeps) = true ∨ ∃ ty, w = .arrayClass ty) := by
  have g : ∀ w ∈ gw, w ∈ gw ∧ ((w.onTables && w.keeps) = true ∨ ∃ ty, w = .arrayClass ty) := fun w hw => ⟨hw, good_of_word (List.mem_filter.mp hw).2⟩
  intro w hw
  rcases List.mem_cons.mp hw with e | e
  · rw [e]; exact g _ h
  · exact g w e
def upd2 {α : Type} (f : Nat → Nat → α) (k i : Nat) (x : α) : Nat → Nat → α := fun a b => if a = k ∧ b = i then x else f a b
theorem upd2_at {α : Type} (f : Nat → Nat → α) (k i : Nat) (x : α) : upd2 f k i x k i = x := by simp [upd2]
theorem upd2_k {α : Type} (f : Nat → Nat → α) {k k' : Nat} (i i' : Nat) (x : α) (h : k' ≠ k) : upd2 f k i x k' i' = f k' i' := by simp [upd2, h]
theorem upd2_i {α : Type} (f : Nat → Nat → α) (k : Nat) {i i' : Nat} (x : α) (h : i' ≠ i) : upd2 f k i x k i' = f k i' := by simp [upd2, h]
/-- the cells of the world, by kind and number: where each lies, what it holds -/
def wq (D : va_G) (cnt : Nat → Nat) (ad : Nat → Nat → Nat) (ct : Nat → Nat → va_E) (H : Heap) : Prop := (∀ k i, i < cnt k → va_at D vwCl (ad k i, ct k i) H) ∧ (∀ k i k' i', i < cnt k → i' < cnt k' → ad k i = ad k' i' → k = k' ∧ i = i')
def wA (cnt : Nat → Nat) (ad : Nat → Nat → Nat) (sz : Nat) : Nat → Prop := fun q => (∃ k i, i < cnt k ∧ ad k i = q) ∨ sz ≤ q
def wd (D : va_G) (A : Nat → Prop) (H0 : Heap) (cnt : Nat → Nat) (ad : Nat → Nat → Nat) (ct : Nat → Nat → va_E) (H : Heap) (locs : List Loc) : Prop := wq D cnt ad ct H ∧ (∀ k i, i < cnt k → A (ad k i)) ∧ va_S A H0 H locs ∧ (∀ q, H0.size ≤ q → A q)
theorem wd.start {D : va_G} {cnt : Nat → Nat} {ad : Nat → Nat → Nat} {ct : Nat → Nat → va_E} {H : Heap} (h : wq D cnt ad ct H) : wd D (wA cnt ad H.size) H cnt ad ct H [] := ⟨h, fun k i hi => Or.inl ⟨k, i, hi, rfl⟩, va_S.rf, fun _ h => Or.inr h⟩
theorem wd.put {D : va_G} {A : Nat → Prop} {H0 : Heap} {cnt : Nat → Nat} {ad : Nat → Nat → Nat} {ct : Nat → Nat → va_E} {H H1 : Heap} {locs : List Loc} (h : wd D A H0 cnt ad ct H locs) {k i : Nat} (hi : i < cnt k) {e : va_E} {z : Nat} (he : va_at D vwCl (ad k i, e) H1) (hz : H1.size = H.size) (oq : ∀ q : Nat, q ≠ ad k i → H1[q]? = H[q]?) : wd D A H0 cnt ad (upd2 ct k i e) H1 (locs ++ [⟨ad k i, z⟩]) := by
  obtain ⟨⟨h1, h2⟩, h3, h4, h5⟩ := h
  refine ⟨⟨fun k' i' hi' => ?_, h2⟩, h3, h4.put hz oq (h3 k i hi), h5⟩
  by_cases hk : k' = k ∧ i' = i
  · obtain ⟨rfl, rfl⟩ := hk
    rw [upd2_at]; exact he
  · have : upd2 ct k i e k' i' = ct k' i' := by simp [upd2, hk]
    rw [this]
    exact (h1 k' i' hi').kept (oq _ (fun q => hk (h2 k' i' k i hi' hi q)))
theorem wd.new {D : va_G} {A : Nat → Prop} {H0 : Heap} {cnt : Nat → Nat} {ad : Nat → Nat → Nat} {ct : Nat → Nat → va_E} {H H1 : Heap} {locs : List Loc} (h : wd D A H0 cnt ad ct H locs) (k : Nat) {e : va_E} (he : va_at D vwCl (H.size, e) H1) (hz : H1.size = H.size + 1) (oq : ∀ q : Nat, q < H.size → H1[q]? = H[q]?) : wd D A H0 (va_up cnt k (cnt k + 1)) (upd2 ad k (cnt k) H.size) (upd2 ct k (cnt k) e) H1 locs := by
  obtain ⟨⟨h1, h2⟩, h3, h4, h5⟩ := h
  have hl : ∀ k' i', i' < cnt k' → ad k' i' < H.size := fun k' i' hi' => (h1 k' i' hi').lt
  have hs : ∀ k' i', i' < va_up cnt k (cnt k + 1) k' → (k' = k ∧ i' = cnt k) ∨ (i' < cnt k' ∧ ¬ (k' = k ∧ i' = cnt k)) := by
    intro k' i' hi'
    by_cases hk : k' = k
    · subst hk
      rw [va_up_self] at hi'
      by_cases e : i' = cnt k'
      · exact Or.inl ⟨rfl, e⟩
      · exact Or.inr ⟨by omega, fun q => e q.2⟩
    · rw [va_up_ne _ _ hk] at hi'
      exact Or.inr ⟨hi', fun q => hk q.1⟩
  refine ⟨⟨fun k' i' hi' => ?_, fun k1 i1 k2 i2 g1 g2 => ?_⟩, fun k' i' hi' => ?_, ⟨by rw [hz]; exact Nat.le_trans h4.1 (Nat.le_succ _), fun q g1 g2 => (oq q (Nat.lt_of_lt_of_le g1 h4.1)).trans (h4.2.1 q g1 g2), h4.2.2⟩, h5⟩
  · rcases hs k' i' hi' with ⟨rfl, rfl⟩ | ⟨q1, q2⟩
    · rw [upd2_at, upd2_at]; exact he
    · have e1 : upd2 ct k (cnt k) e k' i' = ct k' i' := by simp [upd2, q2]
      have e2 : upd2 ad k (cnt k) H.size k' i' = ad k' i' := by simp [upd2, q2]
      rw [e1, e2]
      exact (h1 k' i' q1).kept (oq _ (hl k' i' q1))
  · rcases hs k1 i1 g1 with ⟨rfl, rfl⟩ | ⟨q1, q2⟩ <;> rcases hs k2 i2 g2 with ⟨r1, r2⟩ | ⟨r1, r2⟩
    · subst r1; subst r2; intro _; exact ⟨rfl, rfl⟩
    · have e2 : upd2 ad k1 (cnt k1) H.size k2 i2 = ad k2 i2 := by simp [upd2, r2]
      rw [upd2_at, e2]
      intro q
      have := hl k2 i2 r1
      omega
    · subst r1; subst r2
      have e2 : upd2 ad k2 (cnt k2) H.size k1 i1 = ad k1 i1 := by simp [upd2, q2]
      rw [upd2_at, e2]
      intro q
      have := hl k1 i1 q1
      omega
    · have e1 : upd2 ad k (cnt k) H.size k1 i1 = ad k1 i1 := by simp [upd2, q2]
      have e2 : upd2 ad k (cnt k) H.size k2 i2 = ad k2 i2 := by simp [upd2, r2]
      rw [e1, e2]
      exact h2 k1 i1 k2 i2 q1 r1
  · rcases hs k' i' hi' with ⟨rfl, rfl⟩ | ⟨q1, q2⟩
    · rw [upd2_at]; exact h5 _ h4.1
    · have e2 : upd2 ad k (cnt k) H.size k' i' = ad k' i' := by simp [upd2, q2]
      rw [e2]; exact h3 k' i' q1
section XR
variable {p : Program} {l : Launch} {e : Env} {R : Room} {s : State} {m : MethodId} {args : Array Value} {below : List Frame} {meth : Method} {c : Code} {H : Heap} {locs : List Loc} {cells slots : Nat} {Q : State → Prop}
variable {cc : ByteArray} {nL : Nat} {own : String} {D : va_G} {ca : Nat → ClassId} {A : Nat → Prop} {H0 : Heap} {cnt : Nat → Nat} {ad : Nat → Nat → Nat} {ct : Nat → Nat → va_E} {pc : Nat} {ls : Array Slot} {rest : List Value}
theorem wd.one (hw : wd D A H0 cnt ad ct H locs) {k i : Nat} (hi : i < cnt k) {e : va_E} (hc : ct k i = e) : va_P D vwCl [(ad k i, e)] H := by
  intro j q hq
  have hz : j < 1 := (List.getElem?_eq_some_iff.mp hq).1
  rw [show j = 0 by omega] at hq
  cases hq
  rw [← hc]
  exact hw.1.1 k i hi
theorem x_get (E : cx p s m c args cc nL own D ca) (hw : wd D A H0 cnt ad ct H locs) {ci index : Nat} {C : String} {T : u_T} {N : Nat} {fs : List Value} (k i : Nat) (hi : i < cnt k) (hc : ct k i = .inr (ci, fs)) (hcl : vwCl[ci]? = some (C, T, N)) (hly : ∀ w ∈ u_ws C T N, w ∈ gw) (j : Nat) (hj : j < N) (hlink : Cond.fieldLink own index (T j).1 (T j).2.1 (T j).2.2.1 ∈ gw) {v : Value} (hv : fs[j]? = some v) (hdg : decode cc pc = .ok (.getfield index, 3))
    (kk : W p l e R s m args below meth c H locs cells slots Q (F0 m (pc + 3) ls (v :: rest))) : W p l e R s m args below meth c H locs cells slots Q (F0 m pc ls (.ref (ad k i) :: rest)) :=
  va_get E.1 E.2.1 E.2.2.2.2.1 hly E.2.2.2.1 E.2.2.2.2.2.1 (hw.one hi hc) 0 rfl hcl j hj (E.2.2.2.2.1 _ hlink) (fun _ h => h) hv hdg kk
theorem x_put (E : cx p s m c args cc nL own D ca) (hw : wd D A H0 cnt ad ct H locs) {ci index : Nat} {C : String} {T : u_T} {N : Nat} {fs : List Value} (k i : Nat) (hi : i < cnt k) (hc : ct k i = .inr (ci, fs)) (hcl : vwCl[ci]? = some (C, T, N)) (hly : ∀ w ∈ u_ws C T N, w ∈ gw) (ty0 : Nat → FieldType) (hty : ∀ k, k < N → parseFieldDescriptor (T k).2.2.1 = some (ty0 k)) (hnm : ∀ a, a < N → ∀ b, b < N → a ≠ b → (T a).2.1 ≠ (T b).2.1) (j : Nat) (hj : j < N) (hlink : Cond.fieldLink own index (T j).1 (T j).2.1 (T j).2.2.1 ∈ gw) (hfin : (T j).2.2.2 = false ∨ ((T j).2.2.2 = true ∧ meth.name = "<init>" ∧ (T j).1 = own)) {v : Value} (hn : narrow (ty0 j) v = v) (hfit : fits (ty0 j) v = true) (hl : j < fs.length) (hdg : decode cc pc = .ok (.putfield index, 3))
    (kk : ∀ (H1 : Heap) (locs1 : List Loc), wd D A H0 cnt ad (upd2 ct k i (.inr (ci, fs.set j v))) H1 locs1 → W p l e R s m args below meth c H1 locs1 cells slots Q (F0 m (pc + 3) ls rest)) : W p l e R s m args below meth c H locs cells slots Q (F0 m pc ls (v :: .ref (ad k i) :: rest)) := by
  have hts := E.2.2.2.2.1
  have hK := E.2.2.2.2.2.1
  have hap := va_apart (own := own) hts hly ty0 hty hnm hK hcl
  obtain ⟨r, h1, cell, q1, q2, q3, q4⟩ := (hw.one hi hc) 0 _ rfl
  have hr : r = (C, T, N) := Option.some.inj (h1.symm.trans hcl)
  subst hr
  obtain ⟨hS, hfc, kC, hkC, hkind⟩ := hK.1 ci _ hcl
  obtain ⟨cf, kf, fi, f, hi0, hsl⟩ := hS j hj
  have hlay := hts _ (hly _ (u_in_lay hj))
  have hst := (u_facts hfc hkC (u_lays hts hly hj) hi0).1
  have fin : ∀ H' : Heap, H'[ad k i]? = some (cell.setSlot (D.2 ci j) v) → H'.size = H.size → (∀ q, q ≠ ad k i → H'[q]? = H[q]?) → W p l e R s m args below meth c H' (locs ++ [⟨ad k i, D.2 ci j⟩]) cells slots Q (F0 m (pc + 3) ls rest) := fun H' e1 e2 e3 =>
    kk H' _ (hw.put hi ⟨_, hcl, t_OB.to (V := updV (vp_V fs) j v) ⟨_, e1, q2, q3, t_set q4 hap hj v⟩ (fun j _ => vp_updV_set hl v j)⟩ e2 e3)
  rcases hfin with hfin | ⟨hfin, hin2, hdecl⟩
  · unfold u_lay at hlay
    rw [if_neg (by rw [hfin]; decide)] at hlay
    have h6 := u_store hfc hkC hkind hlay hi0 (hty j hj) hn hfit
    refine W.putK E.1 E.2.1 (f := f) ⟨E.2.2.2.1, hts _ hlink, ⟨_, _, _, hi0⟩, hst⟩ (by rw [q2]; exact h6) q1 q3 (by rw [hsl]; exact k2_hasslot (q4 j hj)) rfl rfl hdg fun H' e1 e2 e3 => ?_
    rw [hsl] at e1 ⊢
    exact fin H' e1 e2 e3
  · unfold u_lay at hlay
    rw [if_pos hfin] at hlay
    have hcf : m.cls = cf := by
      obtain ⟨_, _, c', _, _, _, -, -, hf', -, -, -, hown2, -⟩ := Cond.laysFinal_spec hlay
      have e1 : c' = cf := by have := hi0.symm.trans hf'; simp at this; exact this.1.symm
      rw [hdecl] at hown2
      rw [← e1]; exact Option.some.inj (E.2.2.2.1.symm.trans hown2)
    have h6 := u_fits hfc hkC hkind (Or.inr hlay) hi0 (hty j hj) hn hfit
    refine W.putFinK E.1 E.2.1 E.2.2.2.1 (hts _ hlink) hi0 hst hcf hin2 (by rw [q2]; exact h6) q1 q3 (by rw [hsl]; exact k2_hasslot (q4 j hj)) rfl rfl hdg fun H' e1 e2 e3 => ?_
    rw [hsl] at e1 ⊢
    exact fin H' e1 e2 e3
theorem x_new (E : cx p s m c args cc nL own D ca) (hw : wd D A H0 cnt ad ct H locs) {ci index : Nat} {C : String} {T : u_T} {N : Nat} {fs : List Value} (k : Nat) (hcl : vwCl[ci]? = some (C, T, N)) (hly : ∀ w ∈ u_ws C T N, w ∈ gw) (ty0 : Nat → FieldType) (hty : ∀ k, k < N → parseFieldDescriptor (T k).2.2.1 = some (ty0 k)) (hlink : Cond.classLink own index C ∈ gw) (hinst : Cond.instantiable C N ∈ gw) (hini : Cond.initialized C ∈ gw) (hfs : ∀ j, j < N → defaultValue (ty0 j) = vp_V fs j) (hcells : cells + 1 ≤ R.cells) (hslots : slots + N ≤ R.slots) (hdg : decode cc pc = .ok (.new index, 3))
    (kk : ∀ (q : Nat) (H1 : Heap), wd D A H0 (va_up cnt k (cnt k + 1)) (upd2 ad k (cnt k) q) (upd2 ct k (cnt k) (.inr (ci, fs))) H1 locs → W p l e R s m args below meth c H1 locs (cells + 1) (slots + N) Q (F0 m (pc + 3) ls (.ref q :: rest))) : W p l e R s m args below meth c H locs cells slots Q (F0 m pc ls rest) := by
  have hts := E.2.2.2.2.1
  have hKn := E.2.2.2.2.2.1.1 ci _ hcl
  refine W.newcK E.1 E.2.1 E.2.2.2.1 (hts _ hlink) (hts _ hinst) (hts _ hini) rfl hdg hcells hslots hKn.2.1 rfl fun H1 kC hkC e1 z1 o1 => ?_
  exact kk H.size H1 (hw.new k ⟨_, hcl, (u_born ty0 hts hly hKn hkC e1 hty).to hfs⟩ z1 o1)
theorem x_uniq {ty : FieldType} {c1 c2 : ClassId} (h1 : s.vm.findClass ("[" ++ ty.toString) = some c1) (h2 : va_RA s c2 ty) : c1 = c2 := by
  have h3 : s.vm.findClass ("[" ++ ty.toString) = some c2 := by
    cases ty with
    | object C => obtain ⟨kA, comp, g1, g2, g3, g4⟩ := h2; exact g4
    | _ => exact h2
  exact Option.some.inj (h1.symm.trans h3)
theorem x_newa (E : cx p s m c args cc nL own D ca) (hw : wd D A H0 cnt ad ct H locs) {atype : ArrayType} (harr : Cond.arrayClass (newarray.typeOf atype) ∈ gw) (k t0 : Nat) {cA : ClassId} (ht : (tysA ca)[t0]? = some (cA, newarray.typeOf atype)) {n : Int32} {N' : Nat} (hd : defaultValue (newarray.typeOf atype) = .int 0) (hn : n = nI N') (hN : N' < 1000000) (hbytes : N' * componentBytes (newarray.typeOf atype) ≤ 536870912) (hcells : cells + 1 ≤ R.cells) (hslots : slots + N' ≤ R.slots) (hdg : decode cc pc = .ok (.newarray atype, 2))
    (kk : ∀ (q : Nat) (H1 : Heap), wd D A H0 (va_up cnt k (cnt k + 1)) (upd2 ad k (cnt k) q) (upd2 ct k (cnt k) (.inl (cA, N', .inl (fun _ => 0)))) H1 locs → W p l e R s m args below meth c H1 locs (cells + 1) (slots + N') Q (F0 m (pc + 2) ls (.ref q :: rest))) : W p l e R s m args below meth c H locs cells slots Q (F0 m pc ls (.int n :: rest)) := by
  refine va_newaK E.1 E.2.1 (E.2.2.2.2.1 _ harr) rfl hdg rfl (by rw [hn]; exact nI_pos (by omega)) (by rw [hn]; exact nI_clamp (by omega)) hbytes hcells hslots rfl fun H1 cA' e1 z1 o1 hAr hNm => ?_
  have he : cA' = cA := x_uniq hNm (E.2.2.2.2.2.1.2 t0 _ ht).2
  subst he
  exact kk H.size H1 (hw.new k (show H1[H.size]? = some (vp_cell _ _) by rw [e1, vp_cell_i, hd]) z1 o1)
theorem x_newq (E : cx p s m c args cc nL own D ca) (hw : wd D A H0 cnt ad ct H locs) {index : Nat} {C : String} (hlink : Cond.classLink own index C ∈ gw) (hover : va_AO C s) (k t0 : Nat) {cA : ClassId} (ht : (tysA ca)[t0]? = some (cA, .object C)) {n : Int32} {N' : Nat} (hn : n = nI N') (hN : N' < 1000000) (hcells : cells + 1 ≤ R.cells) (hslots : slots + N' ≤ R.slots) (hdg : decode cc pc = .ok (.anewarray index, 3))
    (kk : ∀ (q : Nat) (H1 : Heap), wd D A H0 (va_up cnt k (cnt k + 1)) (upd2 ad k (cnt k) q) (upd2 ct k (cnt k) (.inl (cA, N', .inr (.inr (.inr (.inr (fun _ => none))))))) H1 locs → W p l e R s m args below meth c H1 locs (cells + 1) (slots + N') Q (F0 m (pc + 3) ls (.ref q :: rest))) : W p l e R s m args below meth c H locs cells slots Q (F0 m pc ls (.int n :: rest)) := by
  have hcl : n.toNatClampNeg = N' := by rw [hn]; exact nI_clamp (by omega)
  refine W.anew E.1 E.2.1 E.2.2.2.1 (E.2.2.2.2.1 _ hlink) (va_AO.use hover) rfl hdg rfl (by rw [hn]; exact nI_pos (by omega)) (by rw [hcl]; omega) hcells (by rw [hcl]; exact hslots) fun cA' kA comp f1 f2 f3 f4 => ?_
  rw [hcl]
  have he : cA' = cA := x_uniq f1 (E.2.2.2.2.2.1.2 t0 _ ht).2
  subst he
  refine kk H.size _ (hw.new k (show _ = some (vp_cell _ _) from ?_) ?_ ?_)
  · rw [Array.getElem?_push_size]; exact congrArg some (arrV_new _ _ _)
  · simp
  · intro q hq
    rw [Array.getElem?_push, if_neg (Nat.ne_of_lt hq)]
theorem x_ild (E : cx p s m c args cc nL own D ca) (hw : wd D A H0 cnt ad ct H locs) (k i : Nat) (hi : i < cnt k) {n : Nat} {f : Nat → Int32} (hc : ct k i = .inl (ca 1, n, .inl f)) {x : Int32} (j : Nat) (hx : x = nI j) (hj : j < n) (hn : n < 1000000) (hdg : decode cc pc = .ok (.iaload, 1))
    (kk : W p l e R s m args below meth c H locs cells slots Q (F0 m (pc + 1) ls (.int (f j) :: rest))) : W p l e R s m args below meth c H locs cells slots Q (F0 m pc ls (.int x :: .ref (ad k i) :: rest)) := by
  subst hx
  refine va_iald E.1 E.2.1 E.2.2.2.2.2.1 (hw.one hi hc) 0 1 rfl rfl (vp_in_nI hj (by omega)) hdg ?_
  rw [nI_clamp (by omega)]
  exact kk
theorem x_bld (E : cx p s m c args cc nL own D ca) (hw : wd D A H0 cnt ad ct H locs) (k i : Nat) (hi : i < cnt k) {n : Nat} {f : Nat → Int32} (hc : ct k i = .inl (ca 0, n, .inl f)) {x : Int32} (j : Nat) (hx : x = nI j) (hj : j < n) (hn : n < 1000000) (hdg : decode cc pc = .ok (.baload, 1))
    (kk : W p l e R s m args below meth c H locs cells slots Q (F0 m (pc + 1) ls (.int (f j) :: rest))) : W p l e R s m args below meth c H locs cells slots Q (F0 m pc ls (.int x :: .ref (ad k i) :: rest)) := by
  subst hx
  refine va_bald E.1 E.2.1 E.2.2.2.2.2.1 (hw.one hi hc) 0 0 rfl rfl (vp_in_nI hj (by omega)) hdg ?_
  rw [nI_clamp (by omega)]
  exact kk
theorem x_zld (E : cx p s m c args cc nL own D ca) (hw : wd D A H0 cnt ad ct H locs) (k i : Nat) (hi : i < cnt k) {n : Nat} {f : Nat → Int32} (hc : ct k i = .inl (ca 2, n, .inl f)) {x : Int32} (j : Nat) (hx : x = nI j) (hj : j < n) (hn : n < 1000000) (hdg : decode cc pc = .ok (.baload, 1))
    (kk : W p l e R s m args below meth c H locs cells slots Q (F0 m (pc + 1) ls (.int (f j) :: rest))) : W p l e R s m args below meth c H locs cells slots Q (F0 m pc ls (.int x :: .ref (ad k i) :: rest)) := by
  subst hx
  refine va_zald E.1 E.2.1 E.2.2.2.2.2.1 (hw.one hi hc) 0 2 rfl rfl (vp_in_nI hj (by omega)) hdg ?_
  rw [nI_clamp (by omega)]
  exact kk
theorem x_ald (E : cx p s m c args cc nL own D ca) (hw : wd D A H0 cnt ad ct H locs) (t0 : Nat) {cA : ClassId} {C : String} (ht : (tysA ca)[t0]? = some (cA, .object C)) (k i : Nat) (hi : i < cnt k) {n : Nat} {f : Nat → Option Nat} (hc : ct k i = .inl (cA, n, .inr (.inr (.inr (.inr f))))) {x : Int32} (j : Nat) (hx : x = nI j) (hj : j < n) (hn : n < 1000000) (hdg : decode cc pc = .ok (.aaload, 1)) {v : Value} (hv : va_rf (f j) = v)
    (kk : W p l e R s m args below meth c H locs cells slots Q (F0 m (pc + 1) ls (v :: rest))) : W p l e R s m args below meth c H locs cells slots Q (F0 m pc ls (.int x :: .ref (ad k i) :: rest)) := by
  subst hx
  refine va_aldq E.1 E.2.1 E.2.2.2.2.2.1 (hw.one hi hc) 0 t0 rfl ht (vp_in_nI hj (by omega)) hdg ?_
  rw [nI_clamp (by omega), hv]
  exact kk
theorem x_ist (E : cx p s m c args cc nL own D ca) (hw : wd D A H0 cnt ad ct H locs) (k i : Nat) (hi : i < cnt k) {n : Nat} {f : Nat → Int32} (hc : ct k i = .inl (ca 1, n, .inl f)) {x z : Int32} (j : Nat) (hx : x = nI j) (hj : j < n) (hn : n < 1000000) (hdg : decode cc pc = .ok (.iastore, 1))
    (kk : ∀ (H1 : Heap) (locs1 : List Loc), wd D A H0 cnt ad (upd2 ct k i (.inl (ca 1, n, .inl (upd f j z)))) H1 locs1 → W p l e R s m args below meth c H1 locs1 cells slots Q (F0 m (pc + 1) ls rest)) : W p l e R s m args below meth c H locs cells slots Q (F0 m pc ls (.int z :: .int x :: .ref (ad k i) :: rest)) := by
  subst hx
  have hin : vp_in (nI j) n := vp_in_nI hj (by omega)
  refine W.iast E.1 E.2.1 ((hw.one hi hc) 0 _ rfl) ((E.2.2.2.2.2.1.2 1 _ rfl).1 n (fun j => .int (f j))) (fun q => by cases q) (by show ¬ (nI j < 0 ∨ (arrV _ _ _).slots.size ≤ _); rw [arrV_size]; exact hin) rfl rfl hdg fun H1 e z1 oq => ?_
  rw [nI_clamp (by omega)] at e ⊢
  refine kk H1 _ (hw.put hi (show H1[ad k i]? = some (vp_cell _ _) from ?_) z1 oq)
  rw [e, vp_cell_i, vp_cell_i, arrV_store]
  congr 2
  funext q
  by_cases hq : q = j
  · subst hq
    simp [updV, upd]
  · simp [updV, upd, hq]
theorem x_bst (E : cx p s m c args cc nL own D ca) (hw : wd D A H0 cnt ad ct H locs) (k i : Nat) (hi : i < cnt k) {n : Nat} {f : Nat → Int32} (hc : ct k i = .inl (ca 0, n, .inl f)) {x z : Int32} (j : Nat) (hx : x = nI j) (hj : j < n) (hn : n < 1000000) (hdg : decode cc pc = .ok (.bastore, 1))
    (kk : ∀ (H1 : Heap) (locs1 : List Loc), wd D A H0 cnt ad (upd2 ct k i (.inl (ca 0, n, .inl (upd f j z.toInt8.toInt32)))) H1 locs1 → W p l e R s m args below meth c H1 locs1 cells slots Q (F0 m (pc + 1) ls rest)) : W p l e R s m args below meth c H locs cells slots Q (F0 m pc ls (.int z :: .int x :: .ref (ad k i) :: rest)) := by
  subst hx
  have hin : vp_in (nI j) n := vp_in_nI hj (by omega)
  refine W.bast E.1 E.2.1 ((hw.one hi hc) 0 _ rfl) ((E.2.2.2.2.2.1.2 0 _ rfl).1 n (fun j => .int (f j))) (fun q => by cases q) (by show ¬ (nI j < 0 ∨ (arrV _ _ _).slots.size ≤ _); rw [arrV_size]; exact hin) rfl rfl hdg fun H1 e z1 oq => ?_
  rw [nI_clamp (by omega)] at e ⊢
  refine kk H1 _ (hw.put hi (show H1[ad k i]? = some (vp_cell _ _) from ?_) z1 oq)
  rw [e, vp_cell_i, vp_cell_i, arrV_store, narrow_byte]
  congr 2
  funext q
  by_cases hq : q = j
  · subst hq
    simp [updV, upd]
  · simp [updV, upd, hq]
theorem x_zst (E : cx p s m c args cc nL own D ca) (hw : wd D A H0 cnt ad ct H locs) (k i : Nat) (hi : i < cnt k) {n : Nat} {f : Nat → Int32} (hc : ct k i = .inl (ca 2, n, .inl f)) {x z : Int32} (j : Nat) (hx : x = nI j) (hj : j < n) (hn : n < 1000000) (hz : narrow .boolean (.int z) = .int z) (hdg : decode cc pc = .ok (.bastore, 1))
    (kk : ∀ (H1 : Heap) (locs1 : List Loc), wd D A H0 cnt ad (upd2 ct k i (.inl (ca 2, n, .inl (upd f j z)))) H1 locs1 → W p l e R s m args below meth c H1 locs1 cells slots Q (F0 m (pc + 1) ls rest)) : W p l e R s m args below meth c H locs cells slots Q (F0 m pc ls (.int z :: .int x :: .ref (ad k i) :: rest)) := by
  subst hx
  have hin : vp_in (nI j) n := vp_in_nI hj (by omega)
  refine W.zast E.1 E.2.1 ((hw.one hi hc) 0 _ rfl) ((E.2.2.2.2.2.1.2 2 _ rfl).1 n (fun j => .int (f j))) (fun q => by cases q) (by show ¬ (nI j < 0 ∨ (arrV _ _ _).slots.size ≤ _); rw [arrV_size]; exact hin) rfl rfl hdg fun H1 e z1 oq => ?_
  rw [nI_clamp (by omega), hz] at e
  rw [nI_clamp (by omega)]
  refine kk H1 _ (hw.put hi (show H1[ad k i]? = some (vp_cell _ _) from ?_) z1 oq)
  rw [e, vp_cell_i, vp_cell_i, arrV_store]
  congr 2
  funext q
  by_cases hq : q = j
  · subst hq
    simp [updV, upd]
  · simp [updV, upd, hq]
theorem x_ast (E : cx p s m c args cc nL own D ca) (hw : wd D A H0 cnt ad ct H locs) (t0 : Nat) {cA : ClassId} {r : vw_C} {ci : Nat} (ht : (tysA ca)[t0]? = some (cA, .object r.1)) (hcl : vwCl[ci]? = some r) (k i : Nat) (hi : i < cnt k) {n : Nat} {f : Nat → Option Nat} (hc : ct k i = .inl (cA, n, .inr (.inr (.inr (.inr f))))) (k2 i2 : Nat) (hi2 : i2 < cnt k2) {fs : List Value} (hc2 : ct k2 i2 = .inr (ci, fs)) {x : Int32} (j : Nat) (hx : x = nI j) (hj : j < n) (hn : n < 1000000) (hdg : decode cc pc = .ok (.aastore, 1))
    (kk : ∀ (H1 : Heap) (locs1 : List Loc), wd D A H0 cnt ad (upd2 ct k i (.inl (cA, n, .inr (.inr (.inr (.inr (va_up f j (some (ad k2 i2))))))))) H1 locs1 → W p l e R s m args below meth c H1 locs1 cells slots Q (F0 m (pc + 1) ls rest)) : W p l e R s m args below meth c H locs cells slots Q (F0 m pc ls (.ref (ad k2 i2) :: .int x :: .ref (ad k i) :: rest)) := by
  subst hx
  have hK := E.2.2.2.2.2.1
  obtain ⟨r', hr', cellV, g1, g2, g3, -⟩ := (hw.one hi2 hc2) 0 _ rfl
  have hcls := (hK.1 ci r hcl).2
  obtain ⟨kA, comp, k1, k2', k3, -⟩ := (hK.2 t0 _ ht).2
  have hcomp : comp = D.1 ci := Option.some.inj (k3.symm.trans hcls.1)
  subst hcomp
  obtain ⟨kC, hkC, -⟩ := hcls.2
  refine W.aast E.1 E.2.1 ((hw.one hi hc) 0 _ rfl) (fun q h => by cases h) (fun h => by cases h) k1 k2' rfl hkC ⟨nI_pos (by omega), by show _ < (arrV _ _ _).slots.size; rw [arrV_size, nI_clamp (by omega)]; exact hj⟩ g1 (fun q h => by rw [g3] at h; cases h) (by rw [g2]; exact hkC) (by rw [g2]; exact va_assign hcls) rfl rfl hdg fun H1 e z1 oq => ?_
  rw [nI_clamp (by omega)] at e ⊢
  refine kk H1 _ (hw.put hi (show H1[ad k i]? = some (vp_cell _ _) from ?_) z1 oq)
  rw [e, vp_cell_q, vp_cell_q, arrV_store]
  congr 2
  funext q
  by_cases hq : q = j
  · subst hq
    simp [updV, va_up, va_rf]
  · simp [updV, va_up, hq]
theorem x_len (E : cx p s m c args cc nL own D ca) (hw : wd D A H0 cnt ad ct H locs) (t0 : Nat) {cA : ClassId} {ty : FieldType} (ht : (tysA ca)[t0]? = some (cA, ty)) (k i : Nat) (hi : i < cnt k) {x : vp_A} (hc : ct k i = .inl (cA, x)) (hdg : decode cc pc = .ok (.arraylength, 1))
    (kk : W p l e R s m args below meth c H locs cells slots Q (F0 m (pc + 1) ls (.int (nI x.1) :: rest))) : W p l e R s m args below meth c H locs cells slots Q (F0 m pc ls (.ref (ad k i) :: rest)) :=
  va_alen E.1 E.2.1 E.2.2.2.2.2.1 (hw.one hi hc) 0 t0 rfl ht rfl hdg kk
theorem x_recv (E : cx p s m c args cc nL own D ca) (hw : wd D A H0 cnt ad ct H locs) {ci : Nat} {r : vw_C} (hcl : vwCl[ci]? = some r) {k i : Nat} (hi : i < cnt k) {fs : List Value} (hc : ct k i = .inr (ci, fs)) : ∃ cell : Cell, H[ad k i]? = some cell ∧ cell.vm.isStatics = false ∧ s.vm.findClass r.1 = some cell.cls :=
  va_recv E.2.2.2.2.2.1 (hw.one hi hc) (q0 := 0) hcl rfl
end XR
end
section
/-! ===== contracts: from a body's walk to the contract, from a contract to a call ===== -/
abbrev WT : Type := (Nat → Nat) × (Nat → Nat → Nat) × (Nat → Nat → va_E)
/-- a method that changes the world: what it answers, and the world behind it -/
def QcW (D : va_G) (A : Nat → Prop) (post : Option Value → WT → Prop) : Array Value → State → Outcome → State → Prop := fun _ st o t => (∃ (v : Option Value) (u : WT), o = .returned v ∧ post v u ∧ wq D u.1 u.2.1 u.2.2 t.heap ∧ ∀ k i, i < u.1 k → A (u.2.1 k i)) ∧ va_F A st t
theorem x_met {l : Launch} {y : MethodName} {cc : ByteArray} {nL : Nat} {ret : Option FieldType} {rm : Room} {avs : List Value} {P : State → Prop} {D : va_G} {ca : Nat → ClassId} {Qc : Array Value → State → Outcome → State → Prop} {mc ms : Nat} {free : Addr → Prop} (hy : plainName y.cls = true) (hn : (lg_sl avs).length ≤ nL)
    (body : ∀ (p : Program) (e : Env) (s : State) (m : MethodId) (below : List Frame) (meth : Method) (c : Code), cx p s m c avs.toArray cc nL y.cls D ca → meth.sig.returnType = ret → meth.locks = false → meth.name = y.name → P s → ∀ ls : Array Slot, lv_has ls nL (lv_args 0 avs) → W p l e rm s m avs.toArray below meth c s.heap [] 0 0 (MQ below Qc avs.toArray s mc ms free) (F0 m 0 ls [])) :
    Met l y (wz y cc nL ret) rm (va_Pc avs (fun U => P U ∧ gK D ca U)) Qc mc ms free := by
  refine Met.ofW (cc := cc) (maxL := nL) (ret := ret) hy rfl ?_
  intro p e s m args below meth c s₁ B hml hv
  obtain ⟨rfl, hP, hK⟩ := hv
  have hts := atoms_spec (ws := wz y cc nL ret) B.pre
  rw [lg_entry_eq]
  exact body p e s m below meth c ⟨B.exec, B.bytes, hml, findClass_of_methodNamed B.named, fun w h => hts w (List.mem_cons_of_mem _ h), hK⟩ B.returns B.notSynchronized (name_of_methodNamed B.named B.method).1 hP _ (lv_entry avs hn)
abbrev cbD (y : MethodName) (n : Nat) : Prop := y.cls ≠ "java/lang/invoke/MethodHandle" ∧ y.cls ≠ "java/lang/invoke/VarHandle" ∧ (parseMethodDescriptor y.desc).map (fun d => d.parameters.length) = some n
def cbV (y : MethodName) (b : ByteArray) (maxL : Nat) (ret : Option FieldType) (n : Nat) : Prop := Cond.code y b maxL ret ∈ gw ∧ Cond.initialized y.cls ∈ gw ∧ cbD y n ∧ Cond.instanceMethod y ∈ gw ∧ Cond.selects y.cls y y ∈ gw
def cbS (y : MethodName) (b : ByteArray) (maxL : Nat) (ret : Option FieldType) (n : Nat) : Prop := Cond.code y b maxL ret ∈ gw ∧ Cond.initialized y.cls ∈ gw ∧ cbD y n ∧ Cond.static y ∈ gw
def cbI (y : MethodName) (b : ByteArray) (maxL : Nat) (n : Nat) : Prop := Cond.code y b maxL none ∈ gw ∧ Cond.initialized y.cls ∈ gw ∧ cbD y n ∧ Cond.instanceMethod y ∈ gw ∧ y.name = "<init>"
section XC
variable {p : Program} {l : Launch} {e : Env} {R : Room} {s : State} {m : MethodId} {args : Array Value} {below : List Frame} {meth : Method} {c : Code} {H : Heap} {locs : List Loc} {cells slots : Nat} {Q : State → Prop}
variable {cc : ByteArray} {nL : Nat} {own : String} {D : va_G} {ca : Nat → ClassId} {A : Nat → Prop} {H0 : Heap} {cnt : Nat → Nat} {ad : Nat → Nat → Nat} {ct : Nat → Nat → va_E} {pc : Nat} {ls : Array Slot} {rest st0 : List Value}
variable {y : MethodName} {b : ByteArray} {maxL n index mc ms : Nat} {ret : Option FieldType} {rm : Room} {As : List Value} {bb : Addr} {P : State → Prop} {Qc : Array Value → State → Outcome → State → Prop} {free : Addr → Prop}
abbrev xR (rm R : Room) (maxL mc ms : Nat) : Prop := rm.cells = mc ∧ rm.slots = ms ∧ rm.frames + 1 ≤ R.frames ∧ 8 + (maxL + 11) + rm.locals ≤ R.locals
theorem x_sig (hd : cbD y n) : ∀ sig, parseMethodDescriptor y.desc = some sig → n = sig.parameters.length := fun sig h => by
  have h2 := hd.2.2
  rw [h] at h2
  exact (Option.some.inj h2).symm
theorem x_B (E : cx p s m c args cc nL own D ca) (hcode : Cond.code y b maxL ret ∈ gw) (hini : Cond.initialized y.cls ∈ gw) (hd : cbD y n) (hl : Cond.methodLink own index y ∈ gw) (hR : xR rm R maxL mc ms) : CallB R s args own index y b maxL ret (wz y b maxL ret) rm mc ms n :=
  ⟨hR.1, hR.2.1, hR.2.2.1, hR.2.2.2, pay_in (big := gw) E.2.2.2.2.1 (wz_good (y := y) (b := b) (n := maxL) (r := ret) hcode), List.mem_cons_self, E.2.2.2.2.1 _ hcode, E.2.2.2.2.1 _ hini, ⟨hd.1, hd.2.1⟩, x_sig hd, E.2.2.2.2.1 _ hl⟩
theorem x_N {host : String} (E : cx p s m c args cc nL own D ca) (hcode : Cond.code y b maxL ret ∈ gw) (hini : Cond.initialized y.cls ∈ gw) (hd : cbD y n) (hl : va_Nw (.methodLinkNest own index y host) s) (hR : xR rm R maxL mc ms) : va_CN R s args own index y host b maxL ret (wz y b maxL ret) rm mc ms n :=
  ⟨⟨hR.1, hR.2.1, hR.2.2.1, hR.2.2.2, pay_in (big := gw) E.2.2.2.2.1 (wz_good (y := y) (b := b) (n := maxL) (r := ret) hcode), List.mem_cons_self⟩, E.2.2.2.2.1 _ hcode, E.2.2.2.2.1 _ hini, ⟨hd.1, hd.2.1⟩, x_sig hd, va_Nw.use rfl hl⟩
theorem x_blind {av : List Value} (hPb : ∀ (U : State) (g : JFrame) (mk : MethodId) (a : Array Value), P U → P (U.calling g mk a)) : FrameBlind (va_Pc av (fun U => P U ∧ gK D ca U)) := fun a U g mk q => ⟨q.1, hPb U g mk a q.2.1, q.2.2.blind⟩
theorem x_pre {av : List Value} (E : cx p s m c args cc nL own D ca) (hPb : ∀ (U : State) (g : JFrame) (mk : MethodId) (a : Array Value), P U → P (U.calling g mk a)) (hP : ∀ U : State, U.heap = H → s.WarmedH U.vm → P U) : PreS s H (va_Pc av (fun U => P U ∧ gK D ca U)) av := ⟨x_blind hPb, fun U hU hW => ⟨rfl, hP U hU hW, E.2.2.2.2.2.warm hW⟩⟩
/-- the five kinds of call -/
theorem x_runV (E : cx p s m c args cc nL own D ca) (cb : cbV y b maxL ret n) (hl : Cond.methodLink own index y ∈ gw) (hM : Met l y (wz y b maxL ret) rm (va_Pc (.ref bb :: As) (fun U => P U ∧ gK D ca U)) Qc mc ms free) (hR : xR rm R maxL mc ms) (hrec : ∃ cell : Cell, H[bb]? = some cell ∧ cell.vm.isStatics = false ∧ s.vm.findClass y.cls = some cell.cls) (hPb : ∀ (U : State) (g : JFrame) (mk : MethodId) (a : Array Value), P U → P (U.calling g mk a)) (hP : ∀ U : State, U.heap = H → s.WarmedH U.vm → P U) (hn : As.length = n) (hsz : ls.size = nL) (hst : st0 = As.reverse ++ .ref bb :: rest) (hW : (rest.map fun v => v.category).sum ≤ 8) (hdg : decode cc pc = .ok (.invokevirtual index, 3)) (hf : cells + mc ≤ R.cells ∧ slots + ms ≤ R.slots) : va_Run p l e R s m args below meth c H locs cells slots mc ms (F0 m pc ls st0) rest (Qc (Value.ref bb :: As).toArray) free :=
  va_runV (Ts := gw) ⟨E.1, E.2.1, E.2.2.1, E.2.2.2.1, E.2.2.2.2.1⟩ hM ⟨x_B E cb.1 cb.2.1 cb.2.2.1 hl hR, E.2.2.2.2.1 _ cb.2.2.2.1, E.2.2.2.2.1 _ cb.2.2.2.2⟩ ⟨x_blind hPb, hrec, (x_pre E hPb hP).2⟩ rfl hn hsz hst (lv_room hW) hdg hf
theorem x_runS (E : cx p s m c args cc nL own D ca) (cb : cbS y b maxL ret n) (hl : Cond.methodLink own index y ∈ gw) (hM : Met l y (wz y b maxL ret) rm (va_Pc As (fun U => P U ∧ gK D ca U)) Qc mc ms free) (hR : xR rm R maxL mc ms) (hPb : ∀ (U : State) (g : JFrame) (mk : MethodId) (a : Array Value), P U → P (U.calling g mk a)) (hP : ∀ U : State, U.heap = H → s.WarmedH U.vm → P U) (hn : As.length = n) (hsz : ls.size = nL) (hst : st0 = As.reverse ++ rest) (hW : (rest.map fun v => v.category).sum ≤ 8) (hdg : decode cc pc = .ok (.invokestatic index, 3)) (hf : cells + mc ≤ R.cells ∧ slots + ms ≤ R.slots) : va_Run p l e R s m args below meth c H locs cells slots mc ms (F0 m pc ls st0) rest (Qc As.toArray) free :=
  va_runS (Ts := gw) ⟨E.1, E.2.1, E.2.2.1, E.2.2.2.1, E.2.2.2.2.1⟩ hM ⟨x_B E cb.1 cb.2.1 cb.2.2.1 hl hR, E.2.2.2.2.1 _ cb.2.2.2⟩ (x_pre E hPb hP) rfl hn hsz hst (lv_room hW) hdg hf
theorem x_runI (E : cx p s m c args cc nL own D ca) (cb : cbI y b maxL n) (hl : Cond.methodLink own index y ∈ gw) (hM : Met l y (wz y b maxL none) rm (va_Pc (.ref bb :: As) (fun U => P U ∧ gK D ca U)) Qc mc ms free) (hR : xR rm R maxL mc ms) (hPb : ∀ (U : State) (g : JFrame) (mk : MethodId) (a : Array Value), P U → P (U.calling g mk a)) (hP : ∀ U : State, U.heap = H → s.WarmedH U.vm → P U) (hn : As.length = n) (hsz : ls.size = nL) (hst : st0 = As.reverse ++ .ref bb :: rest) (hW : (rest.map fun v => v.category).sum ≤ 8) (hdg : decode cc pc = .ok (.invokespecial index, 3)) (hf : cells + mc ≤ R.cells ∧ slots + ms ≤ R.slots) : va_Run p l e R s m args below meth c H locs cells slots mc ms (F0 m pc ls st0) rest (Qc (Value.ref bb :: As).toArray) free :=
  va_runI (Ts := gw) ⟨E.1, E.2.1, E.2.2.1, E.2.2.2.1, E.2.2.2.2.1⟩ hM ⟨x_B E cb.1 cb.2.1 cb.2.2.1 hl hR, cb.2.2.2.2, E.2.2.2.2.1 _ cb.2.2.2.1⟩ (x_pre E hPb hP) rfl hn hsz hst (lv_room hW) hdg hf
theorem x_runSN {host : String} (E : cx p s m c args cc nL own D ca) (cb : cbS y b maxL ret n) (hl : va_Nw (.methodLinkNest own index y host) s) (hM : Met l y (wz y b maxL ret) rm (va_Pc As (fun U => P U ∧ gK D ca U)) Qc mc ms free) (hR : xR rm R maxL mc ms) (hPb : ∀ (U : State) (g : JFrame) (mk : MethodId) (a : Array Value), P U → P (U.calling g mk a)) (hP : ∀ U : State, U.heap = H → s.WarmedH U.vm → P U) (hn : As.length = n) (hsz : ls.size = nL) (hst : st0 = As.reverse ++ rest) (hW : (rest.map fun v => v.category).sum ≤ 8) (hdg : decode cc pc = .ok (.invokestatic index, 3)) (hf : cells + mc ≤ R.cells ∧ slots + ms ≤ R.slots) : va_Run p l e R s m args below meth c H locs cells slots mc ms (F0 m pc ls st0) rest (Qc As.toArray) free :=
  va_runSN (Ts := gw) ⟨E.1, E.2.1, E.2.2.1, E.2.2.2.1, E.2.2.2.2.1⟩ hM ⟨x_N E cb.1 cb.2.1 cb.2.2.1 hl hR, E.2.2.2.2.1 _ cb.2.2.2, trivial⟩ (x_pre E hPb hP) rfl hn hsz hst (lv_room hW) hdg hf
theorem x_runIN {host : String} (E : cx p s m c args cc nL own D ca) (cb : cbI y b maxL n) (hl : va_Nw (.methodLinkNest own index y host) s) (hM : Met l y (wz y b maxL none) rm (va_Pc (.ref bb :: As) (fun U => P U ∧ gK D ca U)) Qc mc ms free) (hR : xR rm R maxL mc ms) (hPb : ∀ (U : State) (g : JFrame) (mk : MethodId) (a : Array Value), P U → P (U.calling g mk a)) (hP : ∀ U : State, U.heap = H → s.WarmedH U.vm → P U) (hn : As.length = n) (hsz : ls.size = nL) (hst : st0 = As.reverse ++ .ref bb :: rest) (hW : (rest.map fun v => v.category).sum ≤ 8) (hdg : decode cc pc = .ok (.invokespecial index, 3)) (hf : cells + mc ≤ R.cells ∧ slots + ms ≤ R.slots) : va_Run p l e R s m args below meth c H locs cells slots mc ms (F0 m pc ls st0) rest (Qc (Value.ref bb :: As).toArray) free :=
  va_runIN (Ts := gw) ⟨E.1, E.2.1, E.2.2.1, E.2.2.2.1, E.2.2.2.2.1⟩ hM ⟨x_N E cb.1 cb.2.1 cb.2.2.1 hl hR, cb.2.2.2.2, E.2.2.2.2.1 _ cb.2.2.2.1⟩ (x_pre E hPb hP) rfl hn hsz hst (lv_room hW) hdg hf
/-- behind a call that only reads -/
theorem x_read {r : Int32} {a : Array Value} (hr : va_Run p l e R s m args below meth c H locs cells slots 0 0 (F0 m pc ls st0) rest (QcRead r a) (fun _ => False)) (kk : W p l e R s m args below meth c H locs cells slots Q (F0 m (pc + 3) ls (.int r :: rest))) : W p l e R s m args below meth c H locs cells slots Q (F0 m pc ls st0) := by
  intro T hT X
  obtain ⟨v, st₀, t, T', L, h0, X', hL, e1, -, ⟨hv, hh⟩, st⟩ := hr T hT X
  cases hv
  obtain ⟨t2, a1, b1⟩ := kk T' (by rw [e1, hh, h0]) (Stand.forget X' (fun q h => (hL q h).elim))
  exact ⟨t2, st t2 a1, b1⟩
/-- the same, of a reference -/
def QcRef (r : Option Nat) : Array Value → State → Outcome → State → Prop := fun _ st o t => o = .returned (some (va_rf r)) ∧ t.heap = st.heap
theorem x_readq {r : Option Nat} {a : Array Value} (hr : va_Run p l e R s m args below meth c H locs cells slots 0 0 (F0 m pc ls st0) rest (QcRef r a) (fun _ => False)) (kk : W p l e R s m args below meth c H locs cells slots Q (F0 m (pc + 3) ls (va_rf r :: rest))) : W p l e R s m args below meth c H locs cells slots Q (F0 m pc ls st0) := by
  intro T hT X
  obtain ⟨v, st₀, t, T', L, h0, X', hL, e1, -, ⟨hv, hh⟩, st⟩ := hr T hT X
  cases hv
  obtain ⟨t2, a1, b1⟩ := kk T' (by rw [e1, hh, h0]) (Stand.forget X' (fun q h => (hL q h).elim))
  exact ⟨t2, st t2 a1, b1⟩
/-- behind a call that changes the world -/
theorem x_wrote {post : Option Value → WT → Prop} {a : Array Value} (hw : wd D A H0 cnt ad ct H locs) (hr : va_Run p l e R s m args below meth c H locs cells slots mc ms (F0 m pc ls st0) rest (QcW D (wA cnt ad H.size) post a) (wA cnt ad H.size)) (kk : ∀ (v : Option Value) (u : WT) (H1 : Heap) (locs1 : List Loc), post v u → wd D A H0 u.1 u.2.1 u.2.2 H1 locs1 → H.size ≤ H1.size → (∀ q : Nat, q < H.size → ¬ wA cnt ad H.size q → H1[q]? = H[q]?) → W p l e R s m args below meth c H1 locs1 (cells + mc) (slots + ms) Q (F0 m (pc + 3) ls (v.toList ++ rest))) : W p l e R s m args below meth c H locs cells slots Q (F0 m pc ls st0) := by
  intro T hT X
  obtain ⟨v, st₀, t, T', L, h0, X', hL, e1, e2, ⟨⟨v', u, hv, hp, hq, hA1⟩, hz, hk⟩, st⟩ := hr T hT X
  cases hv
  rw [h0] at hz hk
  obtain ⟨⟨g1, g2⟩, g3, g4, g5⟩ := hw
  have hA : ∀ q, wA cnt ad H.size q → A q := by
    intro q h
    rcases h with ⟨k, i, hi, rfl⟩ | h
    · exact g3 k i hi
    · exact g5 q (Nat.le_trans g4.1 h)
  obtain ⟨t2, a1, b1⟩ := kk v u T'.heap (locs ++ L) hp ⟨by rw [e1]; exact hq, fun k i hi => hA _ (hA1 k i hi), ⟨Nat.le_trans g4.1 (by rw [e1]; exact hz), fun q h1 h2 => by rw [e1, hk q (Nat.lt_of_lt_of_le h1 g4.1) (fun z => h2 (hA q z))]; exact g4.2.1 q h1 h2, fun q hq => by
      rcases List.mem_append.mp hq with h | h
      · exact g4.2.2 q h
      · exact hA _ (hL q h)⟩, g5⟩ (by rw [e1]; exact hz) (fun q h1 h2 => by rw [e1]; exact hk q h1 h2) T' rfl X'
  exact ⟨t2, st t2 a1, b1⟩
/-- ends of methods that only read -/
theorem x_iret (E : cx p s m c args cc nL own D ca) (hr : meth.sig.returnType = some .int) (hlk : meth.locks = false) {r v : Int32} (hv : v = r) (hdg : decode cc pc = .ok (.ireturn, 1)) : W p l e R s m args below meth c s.heap [] 0 0 (MQ below (QcRead r) args s 0 0 (fun _ => False)) (F0 m pc ls [.int v]) := by
  subst hv
  exact W.iret E.1 E.2.1 hr (fun t ht _ => ⟨rfl, ht⟩) (fun q h => by cases h) hdg
theorem x_nar {v : Int32} (h : v = 0 ∨ v = 1) : narrow .boolean (.int v) = .int v := by
  rcases h with rfl | rfl <;> rfl
theorem x_zret (E : cx p s m c args cc nL own D ca) (hr : meth.sig.returnType = some .boolean) (hlk : meth.locks = false) {r v : Int32} (hn : v = 0 ∨ v = 1) (hv : v = r) (hdg : decode cc pc = .ok (.ireturn, 1)) : W p l e R s m args below meth c s.heap [] 0 0 (MQ below (QcRead r) args s 0 0 (fun _ => False)) (F0 m pc ls [.int v]) := by
  subst hv
  exact W.zret E.1 E.2.1 hr (x_nar hn) (fun t ht _ => ⟨rfl, ht⟩) (fun q h => by cases h) hdg
theorem x_aret (E : cx p s m c args cc nL own D ca) {rt : FieldType} (hr : meth.sig.returnType = some rt) (hrt : (∃ n, rt = .object n) ∨ ∃ t, rt = .array t) (hlk : meth.locks = false) {r : Option Nat} {v : Value} (hv : v = va_rf r) (hdg : decode cc pc = .ok (.areturn, 1)) : W p l e R s m args below meth c s.heap [] 0 0 (MQ below (QcRef r) args s 0 0 (fun _ => False)) (F0 m pc ls [v]) := by
  subst hv
  exact W.aret E.1 E.2.1 hr hrt (va_rf_or r) (fun t ht _ => ⟨rfl, ht⟩) (fun q h => by cases h) hdg
/-- ends of methods that change the world -/
theorem x_wq {post : Option Value → WT → Prop} {v : Option Value} (hw : wd D A s.heap cnt ad ct H locs) (hp : post v (cnt, ad, ct)) : ∀ t : State, t.heap = H → s.WarmedH t.vm → QcW D A post args s (.returned v) t := fun t ht _ => ⟨⟨v, (cnt, ad, ct), rfl, hp, by rw [ht]; exact hw.1, hw.2.1⟩, hw.2.2.1.F ht⟩
theorem x_vretW (E : cx p s m c args cc nL own D ca) (hr : meth.sig.returnType = none) (hlk : meth.locks = false) {post : Option Value → WT → Prop} (hw : wd D A s.heap cnt ad ct H locs) (h1 : cells ≤ mc) (h2 : slots ≤ ms) (hp : post none (cnt, ad, ct)) (hdg : decode cc pc = .ok (.return_, 1)) : W p l e R s m args below meth c H locs cells slots (MQ below (QcW D A post) args s mc ms A) (F0 m pc ls []) :=
  W.widen h1 h2 (W.vret E.1 E.2.1 hr (x_wq hw hp) hw.2.2.1.2.2 hdg)
theorem x_iretW (E : cx p s m c args cc nL own D ca) (hr : meth.sig.returnType = some .int) (hlk : meth.locks = false) {post : Option Value → WT → Prop} {v : Int32} (hw : wd D A s.heap cnt ad ct H locs) (h1 : cells ≤ mc) (h2 : slots ≤ ms) (hp : post (some (.int v)) (cnt, ad, ct)) (hdg : decode cc pc = .ok (.ireturn, 1)) : W p l e R s m args below meth c H locs cells slots (MQ below (QcW D A post) args s mc ms A) (F0 m pc ls [.int v]) :=
  W.widen h1 h2 (W.iret E.1 E.2.1 hr (x_wq hw hp) hw.2.2.1.2.2 hdg)
theorem x_zretW (E : cx p s m c args cc nL own D ca) (hr : meth.sig.returnType = some .boolean) (hlk : meth.locks = false) {post : Option Value → WT → Prop} {v : Int32} (hn : v = 0 ∨ v = 1) (hw : wd D A s.heap cnt ad ct H locs) (h1 : cells ≤ mc) (h2 : slots ≤ ms) (hp : post (some (.int v)) (cnt, ad, ct)) (hdg : decode cc pc = .ok (.ireturn, 1)) : W p l e R s m args below meth c H locs cells slots (MQ below (QcW D A post) args s mc ms A) (F0 m pc ls [.int v]) :=
  W.widen h1 h2 (W.zret E.1 E.2.1 hr (x_nar hn) (x_wq hw hp) hw.2.2.1.2.2 hdg)
end XC
/-! ===== the reference's world: one object, its ints v by field, its arrays g by field ===== -/
def mInt (j : Nat) : Bool := j < 6 || (27 ≤ j && j ≤ 31)
def mZ (k : Nat) : Bool := k == 17 || k == 23 || k == 32
def mlen (k : Nat) : Nat := if k = 6 then 50 else if k = 7 then 1000 else if k = 8 then 20 else if k < 17 then 60 else if k = 17 then 1200 else if k < 22 then 300 else if k = 22 then 13 else if k = 23 then 26013 else if k = 24 then 100 else if k < 27 then 240 else 120
def mcnt (k : Nat) : Nat := if k = 33 then 1 else if k < 33 ∧ mInt k = false then 1 else 0
def mfl (ad : Nat → Nat → Nat) (v : Nat → Int32) : List Value := (List.range 33).map (fun j => if mInt j then .int (v j) else .ref (ad j 0))
def mct (ca : Nat → ClassId) (ad : Nat → Nat → Nat) (v : Nat → Int32) (g : Nat → Nat → Int32) : Nat → Nat → va_E := fun k _ => if k = 33 then .inr (10, mfl ad v) else .inl (ca (if mZ k then 2 else 1), mlen k, .inl (g k))
theorem mlen_lt (k : Nat) : mlen k < 1000000 := by
  unfold mlen
  repeat (first | omega | split)
theorem mfl_len (ad : Nat → Nat → Nat) (v : Nat → Int32) : (mfl ad v).length = 33 := by simp [mfl]
theorem mfl_i {ad : Nat → Nat → Nat} {v : Nat → Int32} {j : Nat} (hj : j < 33) (h : mInt j = true) : (mfl ad v)[j]? = some (.int (v j)) := by simp [mfl, hj, h]
theorem mfl_r {ad : Nat → Nat → Nat} {v : Nat → Int32} {j : Nat} (hj : j < 33) (h : mInt j = false) : (mfl ad v)[j]? = some (.ref (ad j 0)) := by simp [mfl, hj, h]
theorem mfl_set {ad : Nat → Nat → Nat} {v : Nat → Int32} {j : Nat} (hj : j < 33) (h : mInt j = true) (x : Int32) : (mfl ad v).set j (.int x) = mfl ad (upd v j x) := by
  apply List.ext_getElem?
  intro i
  by_cases hi : i = j
  · subst hi
    rw [List.getElem?_set_self (by rw [mfl_len]; exact hj), mfl_i hj h]
    simp [upd]
  · rw [List.getElem?_set_ne (Ne.symm hi)]
    simp only [mfl, List.getElem?_map]
    cases hr : (List.range 33)[i]? with
    | none => rfl
    | some q =>
      have : q = i := by
        have := List.getElem?_eq_some_iff.mp hr
        obtain ⟨h1, h2⟩ := this
        simpa using h2.symm
      subst this
      simp [upd, hi]
theorem cl_10 : vwCl[10]? = some (RX10, TX10, 33) := rfl
theorem wd.ct {D : va_G} {A : Nat → Prop} {H0 : Heap} {cnt : Nat → Nat} {ad : Nat → Nat → Nat} {ct ct' : Nat → Nat → va_E} {H : Heap} {locs : List Loc} (h : wd D A H0 cnt ad ct H locs) (he : ∀ k i, i < cnt k → ct k i = ct' k i) : wd D A H0 cnt ad ct' H locs := ⟨⟨fun k i hi => by rw [← he k i hi]; exact h.1.1 k i hi, h.1.2⟩, h.2⟩
abbrev mw (D : va_G) (A : Nat → Prop) (H0 : Heap) (ca : Nat → ClassId) (ad : Nat → Nat → Nat) (v : Nat → Int32) (g : Nat → Nat → Int32) (H : Heap) (locs : List Loc) : Prop := wd D A H0 mcnt ad (mct ca ad v g) H locs
abbrev mq (D : va_G) (ca : Nat → ClassId) (ad : Nat → Nat → Nat) (v : Nat → Int32) (g : Nat → Nat → Int32) (H : Heap) : Prop := wq D mcnt ad (mct ca ad v g) H
theorem mcnt_33 : 0 < mcnt 33 := by decide
theorem mcnt_0 {k i : Nat} (h : i < mcnt k) : i = 0 := by
  unfold mcnt at h
  split at h
  · omega
  · split at h <;> omega
theorem ly_10 : ∀ w ∈ u_ws RX10 TX10 33, w ∈ gw := by
  have h : ∀ w ∈ u_ws RX10 TX10 33, w ∈ tables_1 := by decide +kernel
  have h2 : ∀ w ∈ u_ws RX10 TX10 33, goodWord w = true := by decide +kernel
  exact fun w hw => gw_in (h w hw) (h2 w hw)
theorem tyX10_int : ∀ j, j < 33 → mInt j = true → tyX10 j = .int := by decide +kernel
theorem TX10_fin : ∀ j, j < 33 → mInt j = true → (TX10 j).2.2.2 = false := by decide +kernel
/-- a method of the reference that changes it: its answer, its ints and arrays behind it -/
def QcM (D : va_G) (ca : Nat → ClassId) (ad : Nat → Nat → Nat) (A : Nat → Prop) (r : Option Value) (v : Nat → Int32) (g : Nat → Nat → Int32) : Array Value → State → Outcome → State → Prop := fun _ st o t => (o = .returned r ∧ mq D ca ad v g t.heap) ∧ va_F A st t
section XM
variable {p : Program} {l : Launch} {e : Env} {R : Room} {s : State} {m : MethodId} {args : Array Value} {below : List Frame} {meth : Method} {c : Code} {H : Heap} {locs : List Loc} {cells slots : Nat} {Q : State → Prop}
variable {cc : ByteArray} {nL : Nat} {own : String} {D : va_G} {ca : Nat → ClassId} {A : Nat → Prop} {H0 : Heap} {ad : Nat → Nat → Nat} {v : Nat → Int32} {g : Nat → Nat → Int32} {pc : Nat} {ls : Array Slot} {rest st0 : List Value}
theorem m_geti (E : cx p s m c args cc nL own D ca) (hw : mw D A H0 ca ad v g H locs) {index : Nat} (j : Nat) (hj : j < 33) (h : mInt j = true) (hlink : Cond.fieldLink own index (TX10 j).1 (TX10 j).2.1 (TX10 j).2.2.1 ∈ gw) {x : Int32} (hx : v j = x) (hdg : decode cc pc = .ok (.getfield index, 3))
    (kk : W p l e R s m args below meth c H locs cells slots Q (F0 m (pc + 3) ls (.int x :: rest))) : W p l e R s m args below meth c H locs cells slots Q (F0 m pc ls (.ref (ad 33 0) :: rest)) := by
  subst hx
  exact x_get E hw 33 0 mcnt_33 rfl cl_10 ly_10 j hj hlink (mfl_i hj h) hdg kk
theorem m_getr (E : cx p s m c args cc nL own D ca) (hw : mw D A H0 ca ad v g H locs) {index : Nat} (j : Nat) (hj : j < 33) (h : mInt j = false) (hlink : Cond.fieldLink own index (TX10 j).1 (TX10 j).2.1 (TX10 j).2.2.1 ∈ gw) (hdg : decode cc pc = .ok (.getfield index, 3))
    (kk : W p l e R s m args below meth c H locs cells slots Q (F0 m (pc + 3) ls (.ref (ad j 0) :: rest))) : W p l e R s m args below meth c H locs cells slots Q (F0 m pc ls (.ref (ad 33 0) :: rest)) :=
  x_get E hw 33 0 mcnt_33 rfl cl_10 ly_10 j hj hlink (mfl_r hj h) hdg kk
theorem m_put (E : cx p s m c args cc nL own D ca) (hw : mw D A H0 ca ad v g H locs) {index : Nat} (j : Nat) (hj : j < 33) (h : mInt j = true) (hlink : Cond.fieldLink own index (TX10 j).1 (TX10 j).2.1 (TX10 j).2.2.1 ∈ gw) {x : Int32} (hdg : decode cc pc = .ok (.putfield index, 3))
    (kk : ∀ (H1 : Heap) (locs1 : List Loc), mw D A H0 ca ad (upd v j x) g H1 locs1 → W p l e R s m args below meth c H1 locs1 cells slots Q (F0 m (pc + 3) ls rest)) : W p l e R s m args below meth c H locs cells slots Q (F0 m pc ls (.int x :: .ref (ad 33 0) :: rest)) := by
  refine x_put E hw 33 0 mcnt_33 rfl cl_10 ly_10 tyX10 tyX10_ok nmX10 j hj hlink (Or.inl (TX10_fin j hj h)) (by rw [tyX10_int j hj h]; rfl) (by rw [tyX10_int j hj h]; rfl) (by rw [mfl_len]; exact hj) hdg fun H1 locs1 hw1 => ?_
  refine kk H1 locs1 (hw1.ct fun k i hi => ?_)
  rw [mcnt_0 hi]
  by_cases hk : k = 33
  · subst hk
    rw [upd2_at, mfl_set hj h]; rfl
  · rw [upd2_k _ _ _ _ hk]
    simp [mct, hk]
theorem m_ild (E : cx p s m c args cc nL own D ca) (hw : mw D A H0 ca ad v g H locs) (k : Nat) (hk : k < 33 ∧ mInt k = false ∧ mZ k = false) {x : Int32} (j : Nat) (hx : x = nI j) (hj : j < mlen k) (hdg : decode cc pc = .ok (.iaload, 1))
    (kk : W p l e R s m args below meth c H locs cells slots Q (F0 m (pc + 1) ls (.int (g k j) :: rest))) : W p l e R s m args below meth c H locs cells slots Q (F0 m pc ls (.int x :: .ref (ad k 0) :: rest)) := by
  refine x_ild E hw k 0 (by have : k ≠ 33 := by omega
                            simp [mcnt, hk, this]) (by have : k ≠ 33 := by omega
                                                       simp only [mct, this, hk.2.2, if_false]; rfl) j hx hj (mlen_lt k) hdg kk
theorem m_zld (E : cx p s m c args cc nL own D ca) (hw : mw D A H0 ca ad v g H locs) (k : Nat) (hk : k < 33 ∧ mInt k = false ∧ mZ k = true) {x : Int32} (j : Nat) (hx : x = nI j) (hj : j < mlen k) (hdg : decode cc pc = .ok (.baload, 1))
    (kk : W p l e R s m args below meth c H locs cells slots Q (F0 m (pc + 1) ls (.int (g k j) :: rest))) : W p l e R s m args below meth c H locs cells slots Q (F0 m pc ls (.int x :: .ref (ad k 0) :: rest)) := by
  refine x_zld E hw k 0 (by have : k ≠ 33 := by omega
                            simp [mcnt, hk, this]) (by have : k ≠ 33 := by omega
                                                       simp only [mct, this, hk.2.2, if_false]; rfl) j hx hj (mlen_lt k) hdg kk
theorem m_stct {k : Nat} (hk : k < 33) (j : Nat) (z : Int32) : ∀ k' i, i < mcnt k' → upd2 (mct ca ad v g) k 0 (.inl (ca (if mZ k then 2 else 1), mlen k, .inl (upd (g k) j z))) k' i = mct ca ad v (upd2 g k j z) k' i := by
  intro k' i hi
  rw [mcnt_0 hi]
  by_cases h : k' = k
  · subst h
    have h3 : k' ≠ 33 := by omega
    rw [upd2_at]
    have e : upd (g k') j z = upd2 g k' j z k' := by
      funext b
      simp [upd, upd2]
    simp only [mct, h3, if_false, e]
  · rw [upd2_k _ _ _ _ h]
    have e : upd2 g k j z k' = g k' := by
      funext b
      simp [upd2, h]
    simp only [mct, e]
theorem m_ist (E : cx p s m c args cc nL own D ca) (hw : mw D A H0 ca ad v g H locs) (k : Nat) (hk : k < 33 ∧ mInt k = false ∧ mZ k = false) {x z : Int32} (j : Nat) (hx : x = nI j) (hj : j < mlen k) (hdg : decode cc pc = .ok (.iastore, 1))
    (kk : ∀ (H1 : Heap) (locs1 : List Loc), mw D A H0 ca ad v (upd2 g k j z) H1 locs1 → W p l e R s m args below meth c H1 locs1 cells slots Q (F0 m (pc + 1) ls rest)) : W p l e R s m args below meth c H locs cells slots Q (F0 m pc ls (.int z :: .int x :: .ref (ad k 0) :: rest)) := by
  have h33 : k ≠ 33 := by omega
  refine x_ist E hw k 0 (by simp [mcnt, hk, h33]) (by simp only [mct, h33, hk.2.2, if_false]; rfl) j hx hj (mlen_lt k) hdg fun H1 locs1 hw1 => kk H1 locs1 (hw1.ct ?_)
  have := m_stct (ca := ca) (ad := ad) (v := v) (g := g) hk.1 j z
  rw [hk.2.2] at this
  exact this
theorem m_zst (E : cx p s m c args cc nL own D ca) (hw : mw D A H0 ca ad v g H locs) (k : Nat) (hk : k < 33 ∧ mInt k = false ∧ mZ k = true) {x z : Int32} (j : Nat) (hx : x = nI j) (hj : j < mlen k) (hz : z = 0 ∨ z = 1) (hdg : decode cc pc = .ok (.bastore, 1))
    (kk : ∀ (H1 : Heap) (locs1 : List Loc), mw D A H0 ca ad v (upd2 g k j z) H1 locs1 → W p l e R s m args below meth c H1 locs1 cells slots Q (F0 m (pc + 1) ls rest)) : W p l e R s m args below meth c H locs cells slots Q (F0 m pc ls (.int z :: .int x :: .ref (ad k 0) :: rest)) := by
  have h33 : k ≠ 33 := by omega
  refine x_zst E hw k 0 (by simp [mcnt, hk, h33]) (by simp only [mct, h33, hk.2.2, if_true, if_false]; rfl) j hx hj (mlen_lt k) (x_nar hz) hdg fun H1 locs1 hw1 => kk H1 locs1 (hw1.ct ?_)
  have := m_stct (ca := ca) (ad := ad) (v := v) (g := g) hk.1 j z
  rw [hk.2.2] at this
  exact this
theorem m_recv (E : cx p s m c args cc nL own D ca) (hw : mw D A H0 ca ad v g H locs) : ∃ cell : Cell, H[ad 33 0]? = some cell ∧ cell.vm.isStatics = false ∧ s.vm.findClass "ScrapHouseModel" = some cell.cls := x_recv E hw cl_10 (k := 33) (i := 0) mcnt_33 rfl
/-- behind a call of the reference's own that changes it -/
theorem m_wrote {a : Array Value} {r : Option Value} {v' : Nat → Int32} {g' : Nat → Nat → Int32} {mc ms : Nat} (hw : mw D A H0 ca ad v g H locs) (hr : va_Run p l e R s m args below meth c H locs cells slots mc ms (F0 m pc ls st0) rest (QcM D ca ad (wA mcnt ad H.size) r v' g' a) (wA mcnt ad H.size)) (kk : ∀ (H1 : Heap) (locs1 : List Loc), mw D A H0 ca ad v' g' H1 locs1 → H.size ≤ H1.size → (∀ q : Nat, q < H.size → ¬ wA mcnt ad H.size q → H1[q]? = H[q]?) → W p l e R s m args below meth c H1 locs1 (cells + mc) (slots + ms) Q (F0 m (pc + 3) ls (r.toList ++ rest))) : W p l e R s m args below meth c H locs cells slots Q (F0 m pc ls st0) := by
  refine x_wrote (post := fun w u => w = r ∧ u = (mcnt, ad, mct ca ad v' g')) (mc := mc) (ms := ms) (rest := rest) hw (a := a) (fun T hT X => ?_) (fun w u H1 locs1 hp hw1 hz hk => ?_)
  · obtain ⟨v1, st₀, t, T', L, h0, X', hL, e1, e2, ⟨⟨hv, hq⟩, hF⟩, st⟩ := hr T hT X
    cases hv
    exact ⟨r, st₀, t, T', L, h0, X', hL, e1, e2, ⟨⟨r, (mcnt, ad, mct ca ad v' g'), rfl, ⟨rfl, rfl⟩, hq, fun k i hi => Or.inl ⟨k, i, hi, rfl⟩⟩, hF⟩, st⟩
  · obtain ⟨rfl, rfl⟩ := hp
    exact kk H1 locs1 hw1 hz hk
theorem m_vret (E : cx p s m c args cc nL own D ca) (hr : meth.sig.returnType = none) (hlk : meth.locks = false) {v' : Nat → Int32} {g' : Nat → Nat → Int32} (hw : mw D A s.heap ca ad v g H locs) (hv : v = v') (hg : g = g') (hdg : decode cc pc = .ok (.return_, 1)) : W p l e R s m args below meth c H locs cells slots (MQ below (QcM D ca ad A none v' g') args s cells slots A) (F0 m pc ls []) := by
  subst hv; subst hg
  exact W.vret E.1 E.2.1 hr (fun t ht _ => ⟨⟨rfl, by rw [ht]; exact hw.1⟩, hw.2.2.1.F ht⟩) hw.2.2.1.2.2 hdg
theorem m_iret (E : cx p s m c args cc nL own D ca) (hr : meth.sig.returnType = some .int) (hlk : meth.locks = false) {v' : Nat → Int32} {g' : Nat → Nat → Int32} {x : Int32} {r : Option Value} (hw : mw D A s.heap ca ad v g H locs) (hx : some (.int x) = r) (hv : v = v') (hg : g = g') (hdg : decode cc pc = .ok (.ireturn, 1)) : W p l e R s m args below meth c H locs cells slots (MQ below (QcM D ca ad A r v' g') args s cells slots A) (F0 m pc ls [.int x]) := by
  subst hv; subst hg; subst hx
  exact W.iret E.1 E.2.1 hr (fun t ht _ => ⟨⟨rfl, by rw [ht]; exact hw.1⟩, hw.2.2.1.F ht⟩) hw.2.2.1.2.2 hdg
theorem m_zret (E : cx p s m c args cc nL own D ca) (hr : meth.sig.returnType = some .boolean) (hlk : meth.locks = false) {v' : Nat → Int32} {g' : Nat → Nat → Int32} {x : Int32} {r : Option Value} (hn : x = 0 ∨ x = 1) (hw : mw D A s.heap ca ad v g H locs) (hx : some (.int x) = r) (hv : v = v') (hg : g = g') (hdg : decode cc pc = .ok (.ireturn, 1)) : W p l e R s m args below meth c H locs cells slots (MQ below (QcM D ca ad A r v' g') args s cells slots A) (F0 m pc ls [.int x]) := by
  subst hv; subst hg; subst hx
  exact W.zret E.1 E.2.1 hr (x_nar hn) (fun t ht _ => ⟨⟨rfl, by rw [ht]; exact hw.1⟩, hw.2.2.1.F ht⟩) hw.2.2.1.2.2 hdg
end XM
/-- a truth as an int -/
def bB (b : Bool) : Int32 := if b = true then 1 else 0
theorem bB_or (b : Bool) : bB b = 0 ∨ bB b = 1 := by cases b <;> simp [bB]
theorem bB_0 {b : Bool} : bB b = 0 ↔ b = false := by cases b <;> simp [bB]
theorem bB_n0 {b : Bool} : ¬ bB b = 0 ↔ b = true := by cases b <;> simp [bB]
theorem bB_1 {b : Bool} : bB b = 1 ↔ b = true := by cases b <;> simp [bB]
section XT
variable {p : Program} {l : Launch} {e : Env} {R : Room} {s : State} {m : MethodId} {args : Array Value} {below : List Frame} {meth : Method} {c : Code} {H : Heap} {locs : List Loc} {cells slots : Nat} {Q : State → Prop} {pc : Nat} {ls : Array Slot} {rest : List Value}
theorem x_top {x y : Int32} (h : x = y) (k : W p l e R s m args below meth c H locs cells slots Q (F0 m pc ls (.int y :: rest))) : W p l e R s m args below meth c H locs cells slots Q (F0 m pc ls (.int x :: rest)) := h ▸ k
theorem x_topL {x y : Int64} (h : x = y) (k : W p l e R s m args below meth c H locs cells slots Q (F0 m pc ls (.long y :: rest))) : W p l e R s m args below meth c H locs cells slots Q (F0 m pc ls (.long x :: rest)) := h ▸ k
end XT
/-- an int within bounds -/
def isIn (a lo hi : Int32) : Bool := !(decide (a < lo)) && !(decide (hi < a))
theorem isIn_nat {a : Int32} {n : Nat} (hn : n < 1000000) (h : isIn a 0 (nI n - 1) = true) : ∃ j, j < n ∧ a = nI j := by
  simp only [isIn, Bool.and_eq_true, Bool.not_eq_true', decide_eq_false_iff_not] at h
  obtain ⟨j, hj, rfl⟩ := nI_of h.1
  refine ⟨j, ?_, rfl⟩
  have h2 := h.2
  cases n with
  | zero => exact absurd (show nI 0 - 1 < nI j by
      rw [Int32.lt_iff_toInt_lt, nI_toInt hj]
      have : (nI 0 - 1).toInt = -1 := by decide
      omega) h2
  | succ n =>
    rw [nI_pred] at h2
    have := mt (nI_ltI (a := n) (b := j) (by omega) hj).mpr h2
    omega
theorem isIn_le {a : Int32} {n : Nat} (hn : n < 1000000) (h : isIn a 0 (nI n) = true) : ∃ j, j ≤ n ∧ a = nI j := by
  simp only [isIn, Bool.and_eq_true, Bool.not_eq_true', decide_eq_false_iff_not] at h
  obtain ⟨j, hj, rfl⟩ := nI_of h.1
  refine ⟨j, ?_, rfl⟩
  have := mt (nI_ltI (a := n) (b := j) (by omega) hj).mpr h.2
  omega
theorem x_key {x : Int32} (k : Int32) {z : Int} (hz : k.toInt = z) (h : x.toInt = z) : x = k := Int32.toInt_inj.mp (h.trans hz.symm)
theorem x_ne {x : Int32} (k : Int32) {z : Int} (hz : k.toInt = z) (h : ¬ x.toInt = z) : ¬ x = k := fun e => h (by rw [e]; exact hz)
theorem x_sw8 (x : Int32) : x = 0 ∨ x = 1 ∨ x = 2 ∨ x = 3 ∨ x = 4 ∨ x = 5 ∨ x = 6 ∨ x = 7 ∨ ((x.toInt < 0 ∨ 7 < x.toInt) ∧ ¬ x = 0 ∧ ¬ x = 1 ∧ ¬ x = 2 ∧ ¬ x = 3 ∧ ¬ x = 4 ∧ ¬ x = 5 ∧ ¬ x = 6 ∧ ¬ x = 7) := by
  by_cases h : x.toInt < 0 ∨ 7 < x.toInt
  · exact Or.inr (Or.inr (Or.inr (Or.inr (Or.inr (Or.inr (Or.inr (Or.inr ⟨h, x_ne 0 (z := 0) rfl (by omega), x_ne 1 (z := 1) rfl (by omega), x_ne 2 (z := 2) rfl (by omega), x_ne 3 (z := 3) rfl (by omega), x_ne 4 (z := 4) rfl (by omega), x_ne 5 (z := 5) rfl (by omega), x_ne 6 (z := 6) rfl (by omega), x_ne 7 (z := 7) rfl (by omega)⟩)))))))
  · have h3 : x.toInt = 0 ∨ x.toInt = 1 ∨ x.toInt = 2 ∨ x.toInt = 3 ∨ x.toInt = 4 ∨ x.toInt = 5 ∨ x.toInt = 6 ∨ x.toInt = 7 := by omega
    rcases h3 with h | h | h | h | h | h | h | h
    · exact Or.inl (x_key 0 rfl h)
    · exact Or.inr (Or.inl (x_key 1 rfl h))
    · exact Or.inr (Or.inr (Or.inl (x_key 2 rfl h)))
    · exact Or.inr (Or.inr (Or.inr (Or.inl (x_key 3 rfl h))))
    · exact Or.inr (Or.inr (Or.inr (Or.inr (Or.inl (x_key 4 rfl h)))))
    · exact Or.inr (Or.inr (Or.inr (Or.inr (Or.inr (Or.inl (x_key 5 rfl h))))))
    · exact Or.inr (Or.inr (Or.inr (Or.inr (Or.inr (Or.inr (Or.inl (x_key 6 rfl h)))))))
    · exact Or.inr (Or.inr (Or.inr (Or.inr (Or.inr (Or.inr (Or.inr (Or.inl (x_key 7 rfl h))))))))
theorem isIn_rng {a : Int32} {lo hi : Nat} (h1 : lo < 2 ^ 31) (h2 : hi < 2 ^ 31) (h : isIn a (nI lo) (nI hi) = true) : ∃ j, lo ≤ j ∧ j ≤ hi ∧ a = nI j := by
  simp only [isIn, Bool.and_eq_true, Bool.not_eq_true', decide_eq_false_iff_not] at h
  have h0 : ¬ a < 0 := fun q => h.1 (by
    rw [Int32.lt_iff_toInt_lt] at q ⊢
    rw [nI_toInt h1]
    have : (0 : Int32).toInt = 0 := by decide
    omega)
  obtain ⟨j, hj, rfl⟩ := nI_of h0
  refine ⟨j, ?_, ?_, rfl⟩
  · have := mt (nI_ltI hj h1).mpr h.1
    omega
  · have := mt (nI_ltI h2 hj).mpr h.2
    omega
theorem x_min {a b : Nat} (ha : a < 2 ^ 31) (hb : b < 2 ^ 31) : (if nI b < nI a then nI b else nI a) = nI (min a b) := by
  by_cases h : b < a
  · rw [if_pos (nI_lt h ha), Nat.min_eq_right (by omega)]
  · rw [if_neg (nI_nlt (by omega) hb), Nat.min_eq_left (by omega)]
theorem bB_inj {a b : Bool} : bB a = bB b ↔ a = b := by cases a <;> cases b <;> simp [bB]
section XS
variable {p : Program} {l : Launch} {e : Env} {R : Room} {s : State} {m : MethodId} {args : Array Value} {below : List Frame} {meth : Method} {c : Code} {H : Heap} {locs : List Loc} {cells slots : Nat} {Q : State → Prop}
variable {cc : ByteArray} {nL : Nat} {own : String} {D : va_G} {ca : Nat → ClassId} {A : Nat → Prop} {H0 : Heap} {ad : Nat → Nat → Nat} {v : Nat → Int32} {g : Nat → Nat → Int32} {pc : Nat} {ls : Array Slot} {rest st0 : List Value}
abbrev MS : Type := Int32 × (Nat → Int32) × (Nat → Nat → Int32)
theorem m_iretS (E : cx p s m c args cc nL own D ca) (hr : meth.sig.returnType = some .int) (hlk : meth.locks = false) {x : Int32} {sp : MS} (hw : mw D A s.heap ca ad v g H locs) (hp : (x, v, g) = sp) (hdg : decode cc pc = .ok (.ireturn, 1)) : W p l e R s m args below meth c H locs cells slots (MQ below (QcM D ca ad A (some (.int sp.1)) sp.2.1 sp.2.2) args s cells slots A) (F0 m pc ls [.int x]) := by
  subst hp
  exact m_iret E hr hlk hw rfl rfl rfl hdg
theorem m_zretS (E : cx p s m c args cc nL own D ca) (hr : meth.sig.returnType = some .boolean) (hlk : meth.locks = false) {x : Int32} {sp : MS} (hn : x = 0 ∨ x = 1) (hw : mw D A s.heap ca ad v g H locs) (hp : (x, v, g) = sp) (hdg : decode cc pc = .ok (.ireturn, 1)) : W p l e R s m args below meth c H locs cells slots (MQ below (QcM D ca ad A (some (.int sp.1)) sp.2.1 sp.2.2) args s cells slots A) (F0 m pc ls [.int x]) := by
  subst hp
  exact m_zret E hr hlk hn hw rfl rfl rfl hdg
theorem m_vretS (E : cx p s m c args cc nL own D ca) (hr : meth.sig.returnType = none) (hlk : meth.locks = false) {sp : (Nat → Int32) × (Nat → Nat → Int32)} (hw : mw D A s.heap ca ad v g H locs) (hp : (v, g) = sp) (hdg : decode cc pc = .ok (.return_, 1)) : W p l e R s m args below meth c H locs cells slots (MQ below (QcM D ca ad A none sp.1 sp.2) args s cells slots A) (F0 m pc ls []) := by
  subst hp
  exact m_vret E hr hlk hw rfl rfl hdg
theorem m_aret (E : cx p s m c args cc nL own D ca) {rt : FieldType} (hr : meth.sig.returnType = some rt) (hrt : (∃ n, rt = .object n) ∨ ∃ t, rt = .array t) (hlk : meth.locks = false) {v' : Nat → Int32} {g' : Nat → Nat → Int32} {a : Nat} (hw : mw D A s.heap ca ad v g H locs) (hv : v = v') (hg : g = g') (hdg : decode cc pc = .ok (.areturn, 1)) : W p l e R s m args below meth c H locs cells slots (MQ below (QcM D ca ad A (some (.ref a)) v' g') args s cells slots A) (F0 m pc ls [.ref a]) := by
  subst hv; subst hg
  exact W.aret E.1 E.2.1 hr hrt (Or.inr ⟨a, rfl⟩) (fun t ht _ => ⟨⟨rfl, by rw [ht]; exact hw.1⟩, hw.2.2.1.F ht⟩) hw.2.2.1.2.2 hdg
end XS
theorem upd_upd (f : Nat → Int32) (k : Nat) (x y : Int32) : upd (upd f k x) k y = upd f k y := by
  funext j
  by_cases h : j = k <;> simp [upd, h]
theorem upd_same {f : Nat → Int32} {k : Nat} {x : Int32} (h : f k = x) : upd f k x = f := by
  funext j
  by_cases hj : j = k
  · subst hj; simp [upd, h]
  · simp [upd, hj]
theorem upd_at (f : Nat → Int32) (k : Nat) (x : Int32) : upd f k x k = x := by simp [upd]
theorem upd_ne (f : Nat → Int32) {k j : Nat} (x : Int32) (h : j ≠ k) : upd f k x j = f j := by simp [upd, h]
/-- the first of n that is so; n, if none -/
def firstB (q : Nat → Bool) : Nat → Nat
  | 0 => 0
  | n + 1 => if firstB q n < n then firstB q n else if q n = true then n else n + 1
theorem firstB_le (q : Nat → Bool) : ∀ n, firstB q n ≤ n
  | 0 => Nat.le_refl _
  | n + 1 => by
    have := firstB_le q n
    unfold firstB
    split
    · omega
    · split <;> omega
theorem firstB_none {q : Nat → Bool} : ∀ {n : Nat}, (∀ i, i < n → q i = false) → firstB q n = n
  | 0, _ => rfl
  | n + 1, h => by
    have ih := firstB_none (q := q) (n := n) (fun i hi => h i (by omega))
    unfold firstB
    rw [ih, if_neg (by omega), h n (by omega)]
    simp
theorem firstB_at {q : Nat → Bool} {k : Nat} (h1 : ∀ i, i < k → q i = false) (h2 : q k = true) : ∀ {n : Nat}, k < n → firstB q n = k
  | 0, h => absurd h (Nat.not_lt_zero _)
  | n + 1, h => by
    unfold firstB
    by_cases hk : k = n
    · subst hk
      rw [firstB_none h1, if_neg (by omega), if_pos h2]
    · have ih := firstB_at h1 h2 (n := n) (by omega)
      rw [ih, if_pos (by omega)]
end
section
theorem cbX0_init : cbI yX0_init cX0_init 12 4 := ⟨tw_131, tw_6, ⟨by decide, by decide, by decide +kernel⟩, tw_130, rfl⟩
theorem cbX0_kindOf : cbS yX0_kindOf cX0_kindOf 3 (some .int) 3 := ⟨tw_135, tw_6, ⟨by decide, by decide, by decide +kernel⟩, tw_134⟩
theorem cbX0_ballOf : cbV yX0_ballOf cX0_ballOf 2 (some .int) 1 := ⟨tw_156, tw_6, ⟨by decide, by decide, by decide +kernel⟩, tw_154, tw_155⟩
theorem cbX0_give : cbV yX0_give cX0_give 3 none 2 := ⟨tw_169, tw_6, ⟨by decide, by decide, by decide +kernel⟩, tw_167, tw_168⟩
theorem cbX0_sendAway : cbV yX0_sendAway cX0_sendAway 3 (some .int) 1 := ⟨tw_165, tw_6, ⟨by decide, by decide, by decide +kernel⟩, tw_163, tw_164⟩
theorem cbX1_init : cbI yX1_init cX1_init 7 6 := ⟨tw_198, tw_9, ⟨by decide, by decide, by decide +kernel⟩, tw_197, rfl⟩
theorem cbX1_mayAsk : cbV yX1_mayAsk cX1_mayAsk 2 (some .boolean) 1 := ⟨tw_521, tw_9, ⟨by decide, by decide, by decide +kernel⟩, tw_519, tw_520⟩
theorem cbX1_lastUpTo : cbV yX1_lastUpTo cX1_lastUpTo 3 (some (.object "ScrapHouse$Move")) 1 := ⟨tw_306, tw_9, ⟨by decide, by decide, by decide +kernel⟩, tw_304, tw_305⟩
theorem cbX1_placeOn : cbV yX1_placeOn cX1_placeOn 5 (some .int) 2 := ⟨tw_287, tw_9, ⟨by decide, by decide, by decide +kernel⟩, tw_285, tw_286⟩
theorem cbX1_daysAt : cbV yX1_daysAt cX1_daysAt 10 (some .int) 4 := ⟨tw_361, tw_9, ⟨by decide, by decide, by decide +kernel⟩, tw_359, tw_360⟩
theorem cbX2_init : cbI yX2_init cX2_init 6 5 := ⟨tw_469, tw_13, ⟨by decide, by decide, by decide +kernel⟩, tw_468, rfl⟩
theorem cbX2_agreeing : cbV yX2_agreeing cX2_agreeing 3 (some .int) 1 := ⟨tw_504, tw_13, ⟨by decide, by decide, by decide +kernel⟩, tw_502, tw_503⟩
theorem cbX2_disagreeing : cbV yX2_disagreeing cX2_disagreeing 3 (some .int) 1 := ⟨tw_495, tw_13, ⟨by decide, by decide, by decide +kernel⟩, tw_493, tw_494⟩
theorem cbX3_init : cbI yX3_init cX3_init 3 2 := ⟨tw_185, tw_8, ⟨by decide, by decide, by decide +kernel⟩, tw_184, rfl⟩
theorem cbX3_canBe : cbS yX3_canBe cX3_canBe 2 (some .boolean) 2 := ⟨tw_176, tw_8, ⟨by decide, by decide, by decide +kernel⟩, tw_175⟩
theorem cbX3_farOff : cbV yX3_farOff cX3_farOff 4 (some .int) 1 := ⟨tw_376, tw_8, ⟨by decide, by decide, by decide +kernel⟩, tw_374, tw_375⟩
theorem cbX3_unlike : cbV yX3_unlike cX3_unlike 6 (some .int) 2 := ⟨tw_380, tw_8, ⟨by decide, by decide, by decide +kernel⟩, tw_379, gw_sel (q := (⟨"ScrapHouse$Half", "unlike", "(II)I"⟩, 2)) (by decide +kernel)⟩
theorem cbX3_numberAt : cbS yX3_numberAt cX3_numberAt 2 (some .int) 2 := ⟨tw_383, tw_8, ⟨by decide, by decide, by decide +kernel⟩, tw_382⟩
theorem cbX3_turn : cbS yX3_turn cX3_turn 3 (some .int) 1 := ⟨tw_386, tw_8, ⟨by decide, by decide, by decide +kernel⟩, tw_385⟩
theorem cbX4_init : cbI yX4_init cX4_init 3 2 := ⟨tw_325, tw_11, ⟨by decide, by decide, by decide +kernel⟩, tw_324, rfl⟩
theorem cbX5_init : cbI yX5_init cX5_init 4 3 := ⟨tw_204, tw_10, ⟨by decide, by decide, by decide +kernel⟩, tw_203, rfl⟩
theorem cbX6_init : cbI yX6_init cX6_init 1 0 := ⟨tw_70, tw_4, ⟨by decide, by decide, by decide +kernel⟩, tw_69, rfl⟩
theorem cbX7_init : cbI yX7_init cX7_init 2 1 := ⟨tw_48, tw_3, ⟨by decide, by decide, by decide +kernel⟩, tw_47, rfl⟩
theorem cbX7_faultOf : cbV yX7_faultOf cX7_faultOf 2 (some .int) 1 := ⟨tw_407, tw_3, ⟨by decide, by decide, by decide +kernel⟩, tw_405, tw_406⟩
theorem cbX7_holds : cbV yX7_holds cX7_holds 3 (some .boolean) 1 := ⟨tw_411, tw_3, ⟨by decide, by decide, by decide +kernel⟩, tw_409, tw_410⟩
theorem cbX7_tests : cbV yX7_tests cX7_tests 5 (some .boolean) 1 := ⟨tw_415, tw_3, ⟨by decide, by decide, by decide +kernel⟩, tw_414, gw_sel (q := (⟨"ScrapHouse$Reader", "tests", "(I)Z"⟩, 4)) (by decide +kernel)⟩
theorem cbX7_part : cbV yX7_part cX7_part 5 (some .boolean) 1 := ⟨tw_419, tw_3, ⟨by decide, by decide, by decide +kernel⟩, tw_418, gw_sel (q := (⟨"ScrapHouse$Reader", "part", "(I)Z"⟩, 4)) (by decide +kernel)⟩
theorem cbX7_unit : cbV yX7_unit cX7_unit 3 (some .boolean) 1 := ⟨tw_423, tw_3, ⟨by decide, by decide, by decide +kernel⟩, tw_422, gw_sel (q := (⟨"ScrapHouse$Reader", "unit", "(I)Z"⟩, 4)) (by decide +kernel)⟩
theorem cbX7_test : cbV yX7_test cX7_test 2 (some .boolean) 0 := ⟨tw_436, tw_3, ⟨by decide, by decide, by decide +kernel⟩, tw_435, gw_sel (q := (⟨"ScrapHouse$Reader", "test", "()Z"⟩, 4)) (by decide +kernel)⟩
theorem cbX7_letterValue : cbV yX7_letterValue cX7_letterValue 3 (some .int) 0 := ⟨tw_440, tw_3, ⟨by decide, by decide, by decide +kernel⟩, tw_439, gw_sel (q := (⟨"ScrapHouse$Reader", "letterValue", "()I"⟩, 4)) (by decide +kernel)⟩
theorem cbX7_number : cbV yX7_number cX7_number 3 (some .int) 0 := ⟨tw_452, tw_3, ⟨by decide, by decide, by decide +kernel⟩, tw_451, gw_sel (q := (⟨"ScrapHouse$Reader", "number", "()I"⟩, 4)) (by decide +kernel)⟩
theorem cbX7_isDigit : cbS yX7_isDigit cX7_isDigit 1 (some .boolean) 1 := ⟨tw_455, tw_3, ⟨by decide, by decide, by decide +kernel⟩, tw_454⟩
theorem cbX7_take : cbV yX7_take cX7_take 3 (some .boolean) 1 := ⟨tw_448, tw_3, ⟨by decide, by decide, by decide +kernel⟩, tw_447, gw_sel (q := (⟨"ScrapHouse$Reader", "take", "(C)Z"⟩, 4)) (by decide +kernel)⟩
theorem cbX7_next : cbV yX7_next cX7_next 1 (some .int) 0 := ⟨tw_427, tw_3, ⟨by decide, by decide, by decide +kernel⟩, tw_426, gw_sel (q := (⟨"ScrapHouse$Reader", "next", "()I"⟩, 4)) (by decide +kernel)⟩
theorem cbX7_fail : cbV yX7_fail cX7_fail 1 none 0 := ⟨tw_444, tw_3, ⟨by decide, by decide, by decide +kernel⟩, tw_443, gw_sel (q := (⟨"ScrapHouse$Reader", "fail", "()V"⟩, 4)) (by decide +kernel)⟩
theorem cbX8_init : cbI yX8_init cX8_init 1 0 := ⟨tw_32, tw_2, ⟨by decide, by decide, by decide +kernel⟩, tw_31, rfl⟩
theorem cbX8_add : cbV yX8_add cX8_add 2 none 1 := ⟨tw_395, tw_2, ⟨by decide, by decide, by decide +kernel⟩, tw_393, tw_394⟩
theorem cbX8_byteAt : cbV yX8_byteAt cX8_byteAt 2 (some .int) 1 := ⟨tw_431, tw_2, ⟨by decide, by decide, by decide +kernel⟩, tw_429, tw_430⟩
theorem cbX9_init : cbI yX9_init cX9_init 2 0 := ⟨tw_18, tw_1, ⟨by decide, by decide, by decide +kernel⟩, tw_17, rfl⟩
theorem cbX9_days : cbV yX9_days cX9_days 2 (some .int) 1 := ⟨tw_120, tw_1, ⟨by decide, by decide, by decide +kernel⟩, tw_118, tw_119⟩
theorem cbX9_ballot : cbV yX9_ballot cX9_ballot 6 (some .int) 4 := ⟨tw_127, tw_1, ⟨by decide, by decide, by decide +kernel⟩, tw_125, tw_126⟩
theorem cbX9_ball : cbV yX9_ball cX9_ball 4 (some .int) 2 := ⟨tw_148, tw_1, ⟨by decide, by decide, by decide +kernel⟩, tw_146, tw_147⟩
theorem cbX9_away : cbV yX9_away cX9_away 4 (some .int) 2 := ⟨tw_161, tw_1, ⟨by decide, by decide, by decide +kernel⟩, tw_159, tw_160⟩
theorem cbX9_leave : cbV yX9_leave cX9_leave 8 (some .int) 6 := ⟨tw_173, tw_1, ⟨by decide, by decide, by decide +kernel⟩, tw_171, tw_172⟩
theorem cbX9_beds : cbV yX9_beds cX9_beds 4 (some .boolean) 2 := ⟨tw_271, tw_1, ⟨by decide, by decide, by decide +kernel⟩, tw_269, tw_270⟩
theorem cbX9_move : cbV yX9_move cX9_move 8 (some .boolean) 3 := ⟨tw_291, tw_1, ⟨by decide, by decide, by decide +kernel⟩, tw_289, tw_290⟩
theorem cbX9_place : cbV yX9_place cX9_place 5 (some .int) 3 := ⟨tw_312, tw_1, ⟨by decide, by decide, by decide +kernel⟩, tw_310, tw_311⟩
theorem cbX9_look : cbV yX9_look cX9_look 3 (some .boolean) 1 := ⟨tw_320, tw_1, ⟨by decide, by decide, by decide +kernel⟩, tw_318, tw_319⟩
theorem cbX9_many : cbV yX9_many cX9_many 4 (some .int) 3 := ⟨tw_339, tw_1, ⟨by decide, by decide, by decide +kernel⟩, tw_337, tw_338⟩
theorem cbX9_pay : cbV yX9_pay cX9_pay 6 (some .int) 4 := ⟨tw_343, tw_1, ⟨by decide, by decide, by decide +kernel⟩, tw_341, tw_342⟩
theorem cbX9_gap : cbV yX9_gap cX9_gap 7 (some .int) 4 := ⟨tw_368, tw_1, ⟨by decide, by decide, by decide +kernel⟩, tw_366, tw_367⟩
theorem cbX9_off : cbV yX9_off cX9_off 5 (some .int) 3 := ⟨tw_372, tw_1, ⟨by decide, by decide, by decide +kernel⟩, tw_370, tw_371⟩
theorem cbX9_feed : cbV yX9_feed cX9_feed 4 (some .int) 1 := ⟨tw_391, tw_1, ⟨by decide, by decide, by decide +kernel⟩, tw_389, tw_390⟩
theorem cbX9_end : cbV yX9_end cX9_end 2 (some .boolean) 1 := ⟨tw_399, tw_1, ⟨by decide, by decide, by decide +kernel⟩, tw_397, tw_398⟩
theorem cbX9_fault : cbV yX9_fault cX9_fault 1 (some .int) 0 := ⟨tw_403, tw_1, ⟨by decide, by decide, by decide +kernel⟩, tw_401, tw_402⟩
theorem cbX9_rule : cbV yX9_rule cX9_rule 2 (some .boolean) 0 := ⟨tw_460, tw_1, ⟨by decide, by decide, by decide +kernel⟩, tw_458, tw_459⟩
theorem cbX9_claim : cbV yX9_claim cX9_claim 7 (some .int) 6 := ⟨tw_464, tw_1, ⟨by decide, by decide, by decide +kernel⟩, tw_462, tw_463⟩
theorem cbX9_name : cbV yX9_name cX9_name 4 (some .boolean) 2 := ⟨tw_509, tw_1, ⟨by decide, by decide, by decide +kernel⟩, tw_507, tw_508⟩
theorem cbX9_allow : cbV yX9_allow cX9_allow 5 (some .boolean) 3 := ⟨tw_514, tw_1, ⟨by decide, by decide, by decide +kernel⟩, tw_512, tw_513⟩
theorem cbX9_ask : cbV yX9_ask cX9_ask 4 (some .int) 2 := ⟨tw_525, tw_1, ⟨by decide, by decide, by decide +kernel⟩, tw_523, tw_524⟩
theorem cbX9_guess : cbV yX9_guess cX9_guess 5 (some .int) 3 := ⟨tw_529, tw_1, ⟨by decide, by decide, by decide +kernel⟩, tw_527, tw_528⟩
theorem cbX9_told : cbV yX9_told cX9_told 4 (some .int) 2 := ⟨tw_533, tw_1, ⟨by decide, by decide, by decide +kernel⟩, tw_531, tw_532⟩
theorem cbX9_count : cbV yX9_count cX9_count 2 (some .int) 1 := ⟨tw_537, tw_1, ⟨by decide, by decide, by decide +kernel⟩, tw_535, tw_536⟩
theorem cbX9_within : cbS yX9_within cX9_within 3 (some .boolean) 3 := ⟨tw_123, tw_1, ⟨by decide, by decide, by decide +kernel⟩, tw_122⟩
theorem cbX9_isPlace : cbS yX9_isPlace cX9_isPlace 1 (some .boolean) 1 := ⟨tw_298, tw_1, ⟨by decide, by decide, by decide +kernel⟩, tw_297⟩
theorem cbX9_isWho : cbS yX9_isWho cX9_isWho 1 (some .boolean) 1 := ⟨tw_517, tw_1, ⟨by decide, by decide, by decide +kernel⟩, tw_516⟩
theorem cbX9_areWeeks : cbS yX9_areWeeks cX9_areWeeks 2 (some .boolean) 2 := ⟨tw_346, tw_1, ⟨by decide, by decide, by decide +kernel⟩, tw_345⟩
theorem cbX9_isPast : cbV yX9_isPast cX9_isPast 2 (some .boolean) 1 := ⟨tw_316, tw_1, ⟨by decide, by decide, by decide +kernel⟩, tw_315, gw_sel (q := (⟨"ScrapHouse", "isPast", "(I)Z"⟩, 12)) (by decide +kernel)⟩
theorem cbX9_findBallot : cbV yX9_findBallot cX9_findBallot 2 (some (.object "ScrapHouse$Ballot")) 1 := ⟨tw_152, tw_1, ⟨by decide, by decide, by decide +kernel⟩, tw_151, gw_sel (q := (⟨"ScrapHouse", "findBallot", "(I)LScrapHouse$Ballot;"⟩, 12)) (by decide +kernel)⟩
theorem cbX9_findChild : cbV yX9_findChild cX9_findChild 2 (some (.object "ScrapHouse$Child")) 1 := ⟨tw_295, tw_1, ⟨by decide, by decide, by decide +kernel⟩, tw_294, gw_sel (q := (⟨"ScrapHouse", "findChild", "(I)LScrapHouse$Child;"⟩, 12)) (by decide +kernel)⟩
theorem cbX9_findNurse : cbV yX9_findNurse cX9_findNurse 2 (some (.object "ScrapHouse$Nurse")) 1 := ⟨tw_275, tw_1, ⟨by decide, by decide, by decide +kernel⟩, tw_274, gw_sel (q := (⟨"ScrapHouse", "findNurse", "(I)LScrapHouse$Nurse;"⟩, 12)) (by decide +kernel)⟩
theorem cbX9_isGone : cbV yX9_isGone cX9_isGone 4 (some .boolean) 2 := ⟨tw_302, tw_1, ⟨by decide, by decide, by decide +kernel⟩, tw_301, gw_sel (q := (⟨"ScrapHouse", "isGone", "(LScrapHouse$Child;I)Z"⟩, 12)) (by decide +kernel)⟩
theorem cbX9_childrenAt : cbV yX9_childrenAt cX9_childrenAt 6 (some .int) 3 := ⟨tw_283, tw_1, ⟨by decide, by decide, by decide +kernel⟩, tw_282, gw_sel (q := (⟨"ScrapHouse", "childrenAt", "(III)I"⟩, 12)) (by decide +kernel)⟩
theorem cbX9_isOver : cbV yX9_isOver cX9_isOver 7 (some .boolean) 3 := ⟨tw_279, tw_1, ⟨by decide, by decide, by decide +kernel⟩, tw_278, gw_sel (q := (⟨"ScrapHouse", "isOver", "(III)Z"⟩, 12)) (by decide +kernel)⟩
theorem cbX9_daysWith : cbV yX9_daysWith cX9_daysWith 9 (some .int) 4 := ⟨tw_354, tw_1, ⟨by decide, by decide, by decide +kernel⟩, tw_353, gw_sel (q := (⟨"ScrapHouse", "daysWith", "(IIII)I"⟩, 12)) (by decide +kernel)⟩
theorem cbX9_seenDays : cbV yX9_seenDays cX9_seenDays 11 (some .int) 5 := ⟨tw_350, tw_1, ⟨by decide, by decide, by decide +kernel⟩, tw_349, gw_sel (q := (⟨"ScrapHouse", "seenDays", "(ILScrapHouse$Look;III)I"⟩, 12)) (by decide +kernel)⟩
theorem cbX9_answerTo : cbV yX9_answerTo cX9_answerTo 6 (some .int) 1 := ⟨tw_491, tw_1, ⟨by decide, by decide, by decide +kernel⟩, tw_490, gw_sel (q := (⟨"ScrapHouse", "answerTo", "(LScrapHouse$Claim;)I"⟩, 12)) (by decide +kernel)⟩
theorem cbX9_holdsOf : cbV yX9_holdsOf cX9_holdsOf 4 (some .boolean) 3 := ⟨tw_500, tw_1, ⟨by decide, by decide, by decide +kernel⟩, tw_499, gw_sel (q := (⟨"ScrapHouse", "holdsOf", "(LScrapHouse$Child;LScrapHouse$Claim;I)Z"⟩, 12)) (by decide +kernel)⟩
theorem cbX10_in : cbS yX10_in cX10_in 3 (some .boolean) 3 := ⟨tw_651, tw_5, ⟨by decide, by decide, by decide +kernel⟩, tw_650⟩
theorem cbX10_init : cbI yX10_init cX10_init 2 0 := ⟨tw_542, tw_5, ⟨by decide, by decide, by decide +kernel⟩, tw_541, rfl⟩
theorem cbX10_days : cbV yX10_days cX10_days 2 (some .int) 1 := ⟨tw_648, tw_5, ⟨by decide, by decide, by decide +kernel⟩, tw_646, tw_647⟩
theorem cbX10_ballot : cbV yX10_ballot cX10_ballot 13 (some .int) 4 := ⟨tw_655, tw_5, ⟨by decide, by decide, by decide +kernel⟩, tw_653, tw_654⟩
theorem cbX10_lineOf : cbV yX10_lineOf cX10_lineOf 3 (some (.array .int)) 1 := ⟨tw_659, tw_5, ⟨by decide, by decide, by decide +kernel⟩, tw_658, gw_sel (q := (⟨"ScrapHouseModel", "lineOf", "(I)[I"⟩, 33)) (by decide +kernel)⟩
theorem cbX10_isWoman : cbV yX10_isWoman cX10_isWoman 3 (some .boolean) 2 := ⟨tw_669, tw_5, ⟨by decide, by decide, by decide +kernel⟩, tw_668, gw_sel (q := (⟨"ScrapHouseModel", "isWoman", "(II)Z"⟩, 33)) (by decide +kernel)⟩
theorem cbX10_ball : cbV yX10_ball cX10_ball 3 (some .int) 2 := ⟨tw_665, tw_5, ⟨by decide, by decide, by decide +kernel⟩, tw_663, tw_664⟩
theorem cbX10_away : cbV yX10_away cX10_away 4 (some .int) 2 := ⟨tw_673, tw_5, ⟨by decide, by decide, by decide +kernel⟩, tw_671, tw_672⟩
theorem cbX10_leave : cbV yX10_leave cX10_leave 7 (some .int) 6 := ⟨tw_677, tw_5, ⟨by decide, by decide, by decide +kernel⟩, tw_675, tw_676⟩
theorem cbX10_isChild : cbV yX10_isChild cX10_isChild 2 (some .boolean) 1 := ⟨tw_710, tw_5, ⟨by decide, by decide, by decide +kernel⟩, tw_709, gw_sel (q := (⟨"ScrapHouseModel", "isChild", "(I)Z"⟩, 33)) (by decide +kernel)⟩
theorem cbX10_where : cbV yX10_where cX10_where 7 (some .int) 3 := ⟨tw_702, tw_5, ⟨by decide, by decide, by decide +kernel⟩, tw_701, gw_sel (q := (⟨"ScrapHouseModel", "where", "(III)I"⟩, 33)) (by decide +kernel)⟩
theorem cbX10_isThere : cbV yX10_isThere cX10_isThere 4 (some .boolean) 3 := ⟨tw_698, tw_5, ⟨by decide, by decide, by decide +kernel⟩, tw_697, gw_sel (q := (⟨"ScrapHouseModel", "isThere", "(III)Z"⟩, 33)) (by decide +kernel)⟩
theorem cbX10_manyAt : cbV yX10_manyAt cX10_manyAt 6 (some .int) 3 := ⟨tw_694, tw_5, ⟨by decide, by decide, by decide +kernel⟩, tw_693, gw_sel (q := (⟨"ScrapHouseModel", "manyAt", "(III)I"⟩, 33)) (by decide +kernel)⟩
theorem cbX10_hasRoom : cbV yX10_hasRoom cX10_hasRoom 5 (some .boolean) 3 := ⟨tw_686, tw_5, ⟨by decide, by decide, by decide +kernel⟩, tw_685, gw_sel (q := (⟨"ScrapHouseModel", "hasRoom", "(III)Z"⟩, 33)) (by decide +kernel)⟩
theorem cbX10_changesOn : cbV yX10_changesOn cX10_changesOn 3 (some .boolean) 1 := ⟨tw_690, tw_5, ⟨by decide, by decide, by decide +kernel⟩, tw_689, gw_sel (q := (⟨"ScrapHouseModel", "changesOn", "(I)Z"⟩, 33)) (by decide +kernel)⟩
theorem cbX10_beds : cbV yX10_beds cX10_beds 3 (some .boolean) 2 := ⟨tw_682, tw_5, ⟨by decide, by decide, by decide +kernel⟩, tw_680, tw_681⟩
theorem cbX10_move : cbV yX10_move cX10_move 5 (some .boolean) 3 := ⟨tw_706, tw_5, ⟨by decide, by decide, by decide +kernel⟩, tw_704, tw_705⟩
theorem cbX10_areDays : cbV yX10_areDays cX10_areDays 3 (some .boolean) 2 := ⟨tw_718, tw_5, ⟨by decide, by decide, by decide +kernel⟩, tw_717, gw_sel (q := (⟨"ScrapHouseModel", "areDays", "(II)Z"⟩, 33)) (by decide +kernel)⟩
theorem cbX10_place : cbV yX10_place cX10_place 4 (some .int) 3 := ⟨tw_714, tw_5, ⟨by decide, by decide, by decide +kernel⟩, tw_712, tw_713⟩
theorem cbX10_many : cbV yX10_many cX10_many 4 (some .int) 3 := ⟨tw_722, tw_5, ⟨by decide, by decide, by decide +kernel⟩, tw_720, tw_721⟩
theorem cbX10_look : cbV yX10_look cX10_look 2 (some .boolean) 1 := ⟨tw_726, tw_5, ⟨by decide, by decide, by decide +kernel⟩, tw_724, tw_725⟩
theorem cbX10_isSeen : cbV yX10_isSeen cX10_isSeen 5 (some .boolean) 3 := ⟨tw_742, tw_5, ⟨by decide, by decide, by decide +kernel⟩, tw_741, gw_sel (q := (⟨"ScrapHouseModel", "isSeen", "(III)Z"⟩, 33)) (by decide +kernel)⟩
theorem cbX10_daysWith : cbV yX10_daysWith cX10_daysWith 10 (some .int) 5 := ⟨tw_738, tw_5, ⟨by decide, by decide, by decide +kernel⟩, tw_737, gw_sel (q := (⟨"ScrapHouseModel", "daysWith", "(IIIIZ)I"⟩, 33)) (by decide +kernel)⟩
theorem cbX10_areWeeks : cbV yX10_areWeeks cX10_areWeeks 5 (some .boolean) 4 := ⟨tw_734, tw_5, ⟨by decide, by decide, by decide +kernel⟩, tw_733, gw_sel (q := (⟨"ScrapHouseModel", "areWeeks", "(IIII)Z"⟩, 33)) (by decide +kernel)⟩
theorem cbX10_pay : cbV yX10_pay cX10_pay 5 (some .int) 4 := ⟨tw_730, tw_5, ⟨by decide, by decide, by decide +kernel⟩, tw_728, tw_729⟩
theorem cbX10_gap : cbV yX10_gap cX10_gap 5 (some .int) 4 := ⟨tw_747, tw_5, ⟨by decide, by decide, by decide +kernel⟩, tw_745, tw_746⟩
theorem cbX10_third : cbS yX10_third cX10_third 2 (some .int) 2 := ⟨tw_762, tw_5, ⟨by decide, by decide, by decide +kernel⟩, tw_761⟩
theorem cbX10_offBy : cbV yX10_offBy cX10_offBy 9 (some .int) 4 := ⟨tw_759, tw_5, ⟨by decide, by decide, by decide +kernel⟩, tw_758, gw_sel (q := (⟨"ScrapHouseModel", "offBy", "(IIIZ)I"⟩, 33)) (by decide +kernel)⟩
theorem cbX10_offOf : cbV yX10_offOf cX10_offOf 4 (some .int) 3 := ⟨tw_755, tw_5, ⟨by decide, by decide, by decide +kernel⟩, tw_754, gw_sel (q := (⟨"ScrapHouseModel", "offOf", "(III)I"⟩, 33)) (by decide +kernel)⟩
theorem cbX10_off : cbV yX10_off cX10_off 4 (some .int) 3 := ⟨tw_751, tw_5, ⟨by decide, by decide, by decide +kernel⟩, tw_749, tw_750⟩
theorem cbX10_feed : cbV yX10_feed cX10_feed 5 (some .int) 1 := ⟨tw_766, tw_5, ⟨by decide, by decide, by decide +kernel⟩, tw_764, tw_765⟩
theorem cbX10_end : cbV yX10_end cX10_end 2 (some .boolean) 1 := ⟨tw_770, tw_5, ⟨by decide, by decide, by decide +kernel⟩, tw_768, tw_769⟩
theorem cbX10_peek : cbV yX10_peek cX10_peek 1 (some .int) 0 := ⟨tw_790, tw_5, ⟨by decide, by decide, by decide +kernel⟩, tw_789, gw_sel (q := (⟨"ScrapHouseModel", "peek", "()I"⟩, 33)) (by decide +kernel)⟩
theorem cbX10_fail : cbV yX10_fail cX10_fail 1 none 0 := ⟨tw_794, tw_5, ⟨by decide, by decide, by decide +kernel⟩, tw_793, gw_sel (q := (⟨"ScrapHouseModel", "fail", "()V"⟩, 33)) (by decide +kernel)⟩
theorem cbX10_say : cbV yX10_say cX10_say 2 none 1 := ⟨tw_798, tw_5, ⟨by decide, by decide, by decide +kernel⟩, tw_797, gw_sel (q := (⟨"ScrapHouseModel", "say", "(I)V"⟩, 33)) (by decide +kernel)⟩
theorem cbX10_unit : cbV yX10_unit cX10_unit 6 none 0 := ⟨tw_786, tw_5, ⟨by decide, by decide, by decide +kernel⟩, tw_785, gw_sel (q := (⟨"ScrapHouseModel", "unit", "()V"⟩, 33)) (by decide +kernel)⟩
theorem cbX10_part : cbV yX10_part cX10_part 1 none 0 := ⟨tw_782, tw_5, ⟨by decide, by decide, by decide +kernel⟩, tw_781, gw_sel (q := (⟨"ScrapHouseModel", "part", "()V"⟩, 33)) (by decide +kernel)⟩
theorem cbX10_tests : cbV yX10_tests cX10_tests 1 none 0 := ⟨tw_778, tw_5, ⟨by decide, by decide, by decide +kernel⟩, tw_777, gw_sel (q := (⟨"ScrapHouseModel", "tests", "()V"⟩, 33)) (by decide +kernel)⟩
theorem cbX10_fault : cbV yX10_fault cX10_fault 1 (some .int) 0 := ⟨tw_774, tw_5, ⟨by decide, by decide, by decide +kernel⟩, tw_772, tw_773⟩
theorem cbX10_rule : cbV yX10_rule cX10_rule 2 (some .boolean) 0 := ⟨tw_802, tw_5, ⟨by decide, by decide, by decide +kernel⟩, tw_800, tw_801⟩
theorem cbX10_holds : cbV yX10_holds cX10_holds 11 (some .boolean) 5 := ⟨tw_819, tw_5, ⟨by decide, by decide, by decide +kernel⟩, tw_818, gw_sel (q := (⟨"ScrapHouseModel", "holds", "(IIIII)Z"⟩, 33)) (by decide +kernel)⟩
theorem cbX10_isOpen : cbV yX10_isOpen cX10_isOpen 3 (some .boolean) 1 := ⟨tw_811, tw_5, ⟨by decide, by decide, by decide +kernel⟩, tw_810, gw_sel (q := (⟨"ScrapHouseModel", "isOpen", "(I)Z"⟩, 33)) (by decide +kernel)⟩
theorem cbX10_agreeing : cbV yX10_agreeing cX10_agreeing 6 (some .int) 5 := ⟨tw_815, tw_5, ⟨by decide, by decide, by decide +kernel⟩, tw_814, gw_sel (q := (⟨"ScrapHouseModel", "agreeing", "(IIIII)I"⟩, 33)) (by decide +kernel)⟩
theorem cbX10_claim : cbV yX10_claim cX10_claim 13 (some .int) 6 := ⟨tw_807, tw_5, ⟨by decide, by decide, by decide +kernel⟩, tw_805, tw_806⟩
theorem cbX10_name : cbV yX10_name cX10_name 3 (some .boolean) 2 := ⟨tw_823, tw_5, ⟨by decide, by decide, by decide +kernel⟩, tw_821, tw_822⟩
theorem cbX10_areBoth : cbV yX10_areBoth cX10_areBoth 3 (some .boolean) 2 := ⟨tw_832, tw_5, ⟨by decide, by decide, by decide +kernel⟩, tw_831, gw_sel (q := (⟨"ScrapHouseModel", "areBoth", "(II)Z"⟩, 33)) (by decide +kernel)⟩
theorem cbX10_allow : cbV yX10_allow cX10_allow 4 (some .boolean) 3 := ⟨tw_828, tw_5, ⟨by decide, by decide, by decide +kernel⟩, tw_826, tw_827⟩
theorem cbX10_ask : cbV yX10_ask cX10_ask 3 (some .int) 2 := ⟨tw_836, tw_5, ⟨by decide, by decide, by decide +kernel⟩, tw_834, tw_835⟩
theorem cbX10_guess : cbV yX10_guess cX10_guess 4 (some .int) 3 := ⟨tw_840, tw_5, ⟨by decide, by decide, by decide +kernel⟩, tw_838, tw_839⟩
theorem cbX10_told : cbV yX10_told cX10_told 5 (some .int) 2 := ⟨tw_844, tw_5, ⟨by decide, by decide, by decide +kernel⟩, tw_842, tw_843⟩
theorem cbX10_count : cbV yX10_count cX10_count 2 (some .int) 1 := ⟨tw_848, tw_5, ⟨by decide, by decide, by decide +kernel⟩, tw_846, tw_847⟩
theorem cbJ9_max_7cf53 : cbS yJ9_max_7cf53 cJ9_max_7cf53 2 (some .int) 2 := ⟨tw_364, tw_12, ⟨by decide, by decide, by decide +kernel⟩, tw_363⟩
theorem cbJ9_min_7cf53 : cbS yJ9_min_7cf53 cJ9_min_7cf53 2 (some .int) 2 := ⟨tw_357, tw_12, ⟨by decide, by decide, by decide +kernel⟩, tw_356⟩
theorem cl_0 : vwCl[0]? = some (RX0, TX0, 1) := rfl
theorem ly_0 : ∀ w ∈ u_ws RX0 TX0 1, w ∈ gw := by
  have h : ∀ w ∈ u_ws RX0 TX0 1, w ∈ tables_1 := by decide +kernel
  have h2 : ∀ w ∈ u_ws RX0 TX0 1, goodWord w = true := by decide +kernel
  exact fun w hw => gw_in (h w hw) (h2 w hw)
theorem cl_1 : vwCl[1]? = some (RX1, TX1, 10) := rfl
theorem ly_1 : ∀ w ∈ u_ws RX1 TX1 10, w ∈ gw := by
  have h : ∀ w ∈ u_ws RX1 TX1 10, w ∈ tables_1 := by decide +kernel
  have h2 : ∀ w ∈ u_ws RX1 TX1 10, goodWord w = true := by decide +kernel
  exact fun w hw => gw_in (h w hw) (h2 w hw)
theorem cl_2 : vwCl[2]? = some (RX2, TX2, 5) := rfl
theorem ly_2 : ∀ w ∈ u_ws RX2 TX2 5, w ∈ gw := by
  have h : ∀ w ∈ u_ws RX2 TX2 5, w ∈ tables_1 := by decide +kernel
  have h2 : ∀ w ∈ u_ws RX2 TX2 5, goodWord w = true := by decide +kernel
  exact fun w hw => gw_in (h w hw) (h2 w hw)
theorem cl_3 : vwCl[3]? = some (RX3, TX3, 2) := rfl
theorem ly_3 : ∀ w ∈ u_ws RX3 TX3 2, w ∈ gw := by
  have h : ∀ w ∈ u_ws RX3 TX3 2, w ∈ tables_1 := by decide +kernel
  have h2 : ∀ w ∈ u_ws RX3 TX3 2, goodWord w = true := by decide +kernel
  exact fun w hw => gw_in (h w hw) (h2 w hw)
theorem cl_4 : vwCl[4]? = some (RX4, TX4, 2) := rfl
theorem ly_4 : ∀ w ∈ u_ws RX4 TX4 2, w ∈ gw := by
  have h : ∀ w ∈ u_ws RX4 TX4 2, w ∈ tables_1 := by decide +kernel
  have h2 : ∀ w ∈ u_ws RX4 TX4 2, goodWord w = true := by decide +kernel
  exact fun w hw => gw_in (h w hw) (h2 w hw)
theorem cl_5 : vwCl[5]? = some (RX5, TX5, 4) := rfl
theorem ly_5 : ∀ w ∈ u_ws RX5 TX5 4, w ∈ gw := by
  have h : ∀ w ∈ u_ws RX5 TX5 4, w ∈ tables_1 := by decide +kernel
  have h2 : ∀ w ∈ u_ws RX5 TX5 4, goodWord w = true := by decide +kernel
  exact fun w hw => gw_in (h w hw) (h2 w hw)
theorem cl_6 : vwCl[6]? = some (RX6, TX6, 2) := rfl
theorem ly_6 : ∀ w ∈ u_ws RX6 TX6 2, w ∈ gw := by
  have h : ∀ w ∈ u_ws RX6 TX6 2, w ∈ tables_1 := by decide +kernel
  have h2 : ∀ w ∈ u_ws RX6 TX6 2, goodWord w = true := by decide +kernel
  exact fun w hw => gw_in (h w hw) (h2 w hw)
theorem cl_7 : vwCl[7]? = some (RX7, TX7, 4) := rfl
theorem ly_7 : ∀ w ∈ u_ws RX7 TX7 4, w ∈ gw := by
  have h : ∀ w ∈ u_ws RX7 TX7 4, w ∈ tables_1 := by decide +kernel
  have h2 : ∀ w ∈ u_ws RX7 TX7 4, goodWord w = true := by decide +kernel
  exact fun w hw => gw_in (h w hw) (h2 w hw)
theorem cl_8 : vwCl[8]? = some (RX8, TX8, 2) := rfl
theorem ly_8 : ∀ w ∈ u_ws RX8 TX8 2, w ∈ gw := by
  have h : ∀ w ∈ u_ws RX8 TX8 2, w ∈ tables_1 := by decide +kernel
  have h2 : ∀ w ∈ u_ws RX8 TX8 2, goodWord w = true := by decide +kernel
  exact fun w hw => gw_in (h w hw) (h2 w hw)
theorem cl_9 : vwCl[9]? = some (RX9, TX9, 12) := rfl
theorem ly_9 : ∀ w ∈ u_ws RX9 TX9 12, w ∈ gw := by
  have h : ∀ w ∈ u_ws RX9 TX9 12, w ∈ tables_1 := by decide +kernel
  have h2 : ∀ w ∈ u_ws RX9 TX9 12, goodWord w = true := by decide +kernel
  exact fun w hw => gw_in (h w hw) (h2 w hw)
abbrev rmL (k c s : Nat) : Room := { frames := k, cells := c, slots := s, locals := 40 * k }
end
section
/-- the first n of a row of truths: is one of them so -/
def anyB (q : Nat → Bool) : Nat → Bool
  | 0 => false
  | n + 1 => anyB q n || q n
theorem anyB_iff {q : Nat → Bool} : ∀ {n : Nat}, anyB q n = true ↔ ∃ i, i < n ∧ q i = true
  | 0 => by simp [anyB]
  | n + 1 => by
    rw [anyB, Bool.or_eq_true, anyB_iff (n := n)]
    constructor
    · rintro (⟨i, h1, h2⟩ | h)
      · exact ⟨i, by omega, h2⟩
      · exact ⟨n, by omega, h⟩
    · rintro ⟨i, h1, h2⟩
      by_cases h : i = n
      · subst h; exact Or.inr h2
      · exact Or.inl ⟨i, by omega, h2⟩
/-- the reference's numbers: the day, ballots, children, moves -/
def mOK (v : Nat → Int32) (nw nb nc nm : Nat) : Prop := v 0 = nI nw ∧ v 1 = nI nb ∧ v 2 = nI nc ∧ v 3 = nI nm ∧ nw ≤ 2000 ∧ nb ≤ 50 ∧ nc ≤ 60 ∧ nm ≤ 300
/-- where: place and day of the best of the first n moves -/
def mWh (g : Nat → Nat → Int32) (c d q : Int32) : Nat → Int32 × Int32
  | 0 => (0, -1)
  | n + 1 => if g 18 n = c ∧ ¬ q < g 21 n ∧ ¬ d < g 20 n ∧ ¬ g 20 n < (mWh g c d q n).2 then (g 19 n, g 20 n) else mWh g c d q n
def mThere (g : Nat → Nat → Int32) (c : Nat) (d q : Int32) : Bool := !(decide (d < g 9 c)) && !(decide (q < g 9 c))
/-- how many of the first n children are at a place -/
def mMany (g : Nat → Nat → Int32) (nm : Nat) (pl d q : Int32) : Nat → Nat
  | 0 => 0
  | n + 1 => mMany g nm pl d q n + (if mThere g n d q = true ∧ (mWh g (nI n) d q nm).1 = pl then 1 else 0)
theorem mMany_le (g : Nat → Nat → Int32) (nm : Nat) (pl d q : Int32) : ∀ n, mMany g nm pl d q n ≤ n
  | 0 => Nat.le_refl _
  | n + 1 => by
    have := mMany_le g nm pl d q n
    unfold mMany
    split <;> omega
def mChg (g : Nat → Nat → Int32) (nc nm : Nat) (d : Int32) : Bool := anyB (fun m => decide (g 20 m = d)) nm || anyB (fun c => decide (g 9 c = d)) nc

theorem anyB_at {q : Nat → Bool} {i n : Nat} (h : i < n) (hq : q i = true) : anyB q n = true := anyB_iff.mpr ⟨i, h, hq⟩
/-- on day f + k, a day of change or the first: are more there than so many -/
def mOvK (g : Nat → Nat → Int32) (nw nc nm : Nat) (pl : Int32) (f : Nat) (many : Int32) (k : Nat) : Bool := (decide (k = 0) || mChg g nc nm (nI (f + k))) && decide (many < nI (mMany g nm pl (nI (f + k)) (nI nw) nc))
theorem mOvK_f {g : Nat → Nat → Int32} {nw nc nm : Nat} {pl : Int32} {f : Nat} {many : Int32} {k : Nat} (h : nI (mMany g nm pl (nI (f + k)) (nI nw) nc) ≤ many) : mOvK g nw nc nm pl f many k = false := by
  have : ¬ many < nI (mMany g nm pl (nI (f + k)) (nI nw) nc) := Int32.not_lt.mpr h
  simp [mOvK, this]
theorem mOvK_n {g : Nat → Nat → Int32} {nw nc nm : Nat} {pl : Int32} {f : Nat} {many : Int32} {k : Nat} (h0 : ¬ k = 0) (h : mChg g nc nm (nI (f + k)) = false) : mOvK g nw nc nm pl f many k = false := by simp [mOvK, h0, h]
theorem mOvK_t {g : Nat → Nat → Int32} {nw nc nm : Nat} {pl : Int32} {f : Nat} {many : Int32} {k : Nat} (h0 : k = 0 ∨ mChg g nc nm (nI (f + k)) = true) (h : ¬ nI (mMany g nm pl (nI (f + k)) (nI nw) nc) ≤ many) : mOvK g nw nc nm pl f many k = true := by
  have : many < nI (mMany g nm pl (nI (f + k)) (nI nw) nc) := Int32.not_le.mp h
  simp only [mOvK, Bool.and_eq_true, Bool.or_eq_true, decide_eq_true_eq]
  exact ⟨h0, this⟩
def mOver (g : Nat → Nat → Int32) (nw nc nm : Nat) (pl : Int32) (f : Nat) (many : Int32) : Bool := anyB (mOvK g nw nc nm pl f many) (nw + 1 - f)
def mPlace (g : Nat → Nat → Int32) (nw nc nm : Nat) (a d q : Int32) : Int32 := if (isIn a 0 (nI nc - 1) && (isIn d 0 (nI nw) && isIn q 0 (nI nw)) && mThere g a.toNatClampNeg d q) = true then (mWh g a d q nm).1 else -1
end
section
set_option maxHeartbeats 4000000 in
set_option maxRecDepth 100000 in
theorem kX10_in (l : Launch) (D : va_G) (ca : Nat → ClassId) (a1 : Int32) (a2 : Int32) (a3 : Int32)  : Met l yX10_in (wz yX10_in cX10_in 3 (some .boolean)) (rmL 1 0 0) (va_Pc [.int a1, .int a2, .int a3] (fun U => True ∧ gK D ca U)) (QcRead (bB (isIn a1 a2 a3))) 0 0 (fun _ => False) := by
  refine x_met (by decide) (Nat.le_of_ble_eq_true rfl) ?_
  intro p e s m below meth c E hr hlk hnm hq ls hl
  generalize hav : ([.int a1, .int a2, .int a3] : List Value).toArray = args at E ⊢
  have hx := E.1
  have hb := E.2.1
  have hown := E.2.2.2.1
  have hts := E.2.2.2.2.1
  generalize hQ : MQ below (QcRead (bB (isIn a1 a2 a3))) args s 0 0 (fun _ => False) = Q
  have hl : lv_has ls 3 [(0, .int a1), (1, .int a2), (2, .int a3)] := hl
  refine lv_iload_n hx hb dX10_in_0 rfl (lv_at hl 0 rfl) ?_
  refine lv_iload_n hx hb dX10_in_1 rfl (lv_at hl 1 rfl) ?_
  refine lv_icmp_lt (tgt := 14) hx hb dX10_in_2 (by decide) (fun c_2 => ?_) (fun c_2 => ?_)
  · skip
    refine lv_iconst (v := 0) hx hb dX10_in_14 (by decide) ?_
    subst hQ
    exact x_zret E hr hlk (by decide) (by simp [bB, isIn, c_2]) dX10_in_15
  · skip
    refine lv_iload_n hx hb dX10_in_5 rfl (lv_at hl 0 rfl) ?_
    refine lv_iload_n hx hb dX10_in_6 rfl (lv_at hl 2 rfl) ?_
    refine lv_icmp_gt (tgt := 14) hx hb dX10_in_7 (by decide) (fun c_7 => ?_) (fun c_7 => ?_)
    · skip
      refine lv_iconst (v := 0) hx hb dX10_in_14 (by decide) ?_
      subst hQ
      exact x_zret E hr hlk (by decide) (by simp [bB, isIn, c_2, c_7]) dX10_in_15
    · skip
      refine lv_iconst (v := 1) hx hb dX10_in_10 (by decide) ?_
      refine lv_goto (tgt := 15) hx hb dX10_in_11 (by decide) ?_
      subst hQ
      exact x_zret E hr hlk (by decide) (by simp [bB, isIn, c_2, c_7]) dX10_in_15
set_option maxHeartbeats 4000000 in
set_option maxRecDepth 100000 in
theorem kX10_isChild (l : Launch) (D : va_G) (ca : Nat → ClassId) (ad : Nat → Nat → Nat) (v : Nat → Int32) (g : Nat → Nat → Int32) (nw : Nat) (nb : Nat) (nc : Nat) (nm : Nat) (a1 : Int32) (hO : mOK v nw nb nc nm) : Met l yX10_isChild (wz yX10_isChild cX10_isChild 2 (some .boolean)) (rmL 2 0 0) (va_Pc [.ref (ad 33 0), .int a1] (fun U => mq D ca ad v g U.heap ∧ gK D ca U)) (QcRead (bB (isIn a1 0 (nI nc - 1)))) 0 0 (fun _ => False) := by
  refine x_met (by decide) (Nat.le_of_ble_eq_true rfl) ?_
  intro p e s m below meth c E hr hlk hnm hq ls hl
  generalize hav : ([.ref (ad 33 0), .int a1] : List Value).toArray = args at E ⊢
  have hx := E.1
  have hb := E.2.1
  have hown := E.2.2.2.1
  have hts := E.2.2.2.2.1
  have hw : mw D (wA mcnt ad s.heap.size) s.heap ca ad v g s.heap [] := wd.start hq
  generalize hQ : MQ below (QcRead (bB (isIn a1 0 (nI nc - 1)))) args s 0 0 (fun _ => False) = Q
  have hl : lv_has ls 2 [(0, .ref (ad 33 0)), (1, .int a1)] := hl
  refine lv_iload_n hx hb dX10_isChild_0 rfl (lv_at hl 1 rfl) ?_
  refine lv_iconst (v := 0) hx hb dX10_isChild_1 (by decide) ?_
  refine lv_aload_n hx hb dX10_isChild_2 rfl (lv_at hl 0 rfl) ?_
  refine m_geti (x := (nI nc)) E hw 2 (by decide) rfl tw_546 (hO.2.2.1) dX10_isChild_3 ?_
  refine lv_iconst (v := 1) hx hb dX10_isChild_6 (by decide) ?_
  refine lv_isub hx hb dX10_isChild_7 ?_
  refine x_read (x_runS (rest := []) E cbX10_in tw_649 (kX10_in l D ca a1 0 (nI nc - 1) ) ⟨rfl, rfl, by decide, by decide⟩ (fun _ _ _ _ h => h) (fun _ _ _ => trivial) rfl hl.1 rfl (Nat.le_of_ble_eq_true rfl) dX10_isChild_8 ⟨by decide, by decide⟩) ?_
  subst hQ
  exact x_zret E hr hlk (bB_or _) (rfl) dX10_isChild_11
set_option maxHeartbeats 4000000 in
set_option maxRecDepth 100000 in
theorem kX10_isThere (l : Launch) (D : va_G) (ca : Nat → ClassId) (ad : Nat → Nat → Nat) (v : Nat → Int32) (g : Nat → Nat → Int32) (c1 : Nat) (a2 : Int32) (a3 : Int32) (hc1 : c1 < 60) : Met l yX10_isThere (wz yX10_isThere cX10_isThere 4 (some .boolean)) (rmL 1 0 0) (va_Pc [.ref (ad 33 0), .int (nI c1), .int a2, .int a3] (fun U => mq D ca ad v g U.heap ∧ gK D ca U)) (QcRead (bB (mThere g c1 a2 a3))) 0 0 (fun _ => False) := by
  refine x_met (by decide) (Nat.le_of_ble_eq_true rfl) ?_
  intro p e s m below meth c E hr hlk hnm hq ls hl
  generalize hav : ([.ref (ad 33 0), .int (nI c1), .int a2, .int a3] : List Value).toArray = args at E ⊢
  have hx := E.1
  have hb := E.2.1
  have hown := E.2.2.2.1
  have hts := E.2.2.2.2.1
  have hw : mw D (wA mcnt ad s.heap.size) s.heap ca ad v g s.heap [] := wd.start hq
  generalize hQ : MQ below (QcRead (bB (mThere g c1 a2 a3))) args s 0 0 (fun _ => False) = Q
  have hl : lv_has ls 4 [(0, .ref (ad 33 0)), (1, .int (nI c1)), (2, .int a2), (3, .int a3)] := hl
  refine lv_aload_n hx hb dX10_isThere_0 rfl (lv_at hl 0 rfl) ?_
  refine m_getr E hw 9 (by decide) rfl tw_553 dX10_isThere_1 ?_
  refine lv_iload_n hx hb dX10_isThere_4 rfl (lv_at hl 1 rfl) ?_
  refine m_ild E hw 9 ⟨by decide, rfl, rfl⟩ c1 (rfl) (hc1) dX10_isThere_5 ?_
  refine lv_iload_n hx hb dX10_isThere_6 rfl (lv_at hl 2 rfl) ?_
  refine lv_icmp_gt (tgt := 24) hx hb dX10_isThere_7 (by decide) (fun c_7 => ?_) (fun c_7 => ?_)
  · skip
    refine lv_iconst (v := 0) hx hb dX10_isThere_24 (by decide) ?_
    subst hQ
    exact x_zret E hr hlk (by decide) (by simp [bB, mThere, c_7]) dX10_isThere_25
  · skip
    refine lv_aload_n hx hb dX10_isThere_10 rfl (lv_at hl 0 rfl) ?_
    refine m_getr E hw 9 (by decide) rfl tw_553 dX10_isThere_11 ?_
    refine lv_iload_n hx hb dX10_isThere_14 rfl (lv_at hl 1 rfl) ?_
    refine m_ild E hw 9 ⟨by decide, rfl, rfl⟩ c1 (rfl) (hc1) dX10_isThere_15 ?_
    refine lv_iload_n hx hb dX10_isThere_16 rfl (lv_at hl 3 rfl) ?_
    refine lv_icmp_gt (tgt := 24) hx hb dX10_isThere_17 (by decide) (fun c_17 => ?_) (fun c_17 => ?_)
    · skip
      refine lv_iconst (v := 0) hx hb dX10_isThere_24 (by decide) ?_
      subst hQ
      exact x_zret E hr hlk (by decide) (by simp [bB, mThere, c_7, c_17]) dX10_isThere_25
    · skip
      refine lv_iconst (v := 1) hx hb dX10_isThere_20 (by decide) ?_
      refine lv_goto (tgt := 25) hx hb dX10_isThere_21 (by decide) ?_
      subst hQ
      exact x_zret E hr hlk (by decide) (by simp [bB, mThere, c_7, c_17]) dX10_isThere_25
set_option maxHeartbeats 4000000 in
set_option maxRecDepth 100000 in
theorem kX10_where (l : Launch) (D : va_G) (ca : Nat → ClassId) (ad : Nat → Nat → Nat) (v : Nat → Int32) (g : Nat → Nat → Int32) (nw : Nat) (nb : Nat) (nc : Nat) (nm : Nat) (a1 : Int32) (a2 : Int32) (a3 : Int32) (hO : mOK v nw nb nc nm) : Met l yX10_where (wz yX10_where cX10_where 7 (some .int)) (rmL 1 0 0) (va_Pc [.ref (ad 33 0), .int a1, .int a2, .int a3] (fun U => mq D ca ad v g U.heap ∧ gK D ca U)) (QcRead ((mWh g a1 a2 a3 nm).1)) 0 0 (fun _ => False) := by
  refine x_met (by decide) (Nat.le_of_ble_eq_true rfl) ?_
  intro p e s m below meth c E hr hlk hnm hq ls hl
  generalize hav : ([.ref (ad 33 0), .int a1, .int a2, .int a3] : List Value).toArray = args at E ⊢
  have hx := E.1
  have hb := E.2.1
  have hown := E.2.2.2.1
  have hts := E.2.2.2.2.1
  have hw : mw D (wA mcnt ad s.heap.size) s.heap ca ad v g s.heap [] := wd.start hq
  generalize hQ : MQ below (QcRead ((mWh g a1 a2 a3 nm).1)) args s 0 0 (fun _ => False) = Q
  have hl : lv_has ls 7 [(0, .ref (ad 33 0)), (1, .int a1), (2, .int a2), (3, .int a3)] := hl
  have hO5 := hO.2.2.2.2
  refine lv_iconst (v := 0) hx hb dX10_where_0 (by decide) ?_
  refine lv_istore (lv' := [(4, .int 0), (0, .ref (ad 33 0)), (1, .int a1), (2, .int a2), (3, .int a3)]) hx hb dX10_where_1 hl (by decide) rfl (fun ls hl => ?_)
  refine lv_iconst (v := (-1)) hx hb dX10_where_3 (by decide) ?_
  refine lv_istore (lv' := [(5, .int (-1)), (4, .int 0), (0, .ref (ad 33 0)), (1, .int a1), (2, .int a2), (3, .int a3)]) hx hb dX10_where_4 hl (by decide) rfl (fun ls hl => ?_)
  refine lv_iconst (v := 0) hx hb dX10_where_6 (by decide) ?_
  refine lv_istore (lv' := [(6, .int 0), (5, .int (-1)), (4, .int 0), (0, .ref (ad 33 0)), (1, .int a1), (2, .int a2), (3, .int a3)]) hx hb dX10_where_7 hl (by decide) rfl (fun ls hl => ?_)
  have lp9 : ∀ (n : Nat) (i : Nat) (x4 : Int32) (x5 : Int32), (i ≤ nm) → (x4 = (mWh g a1 a2 a3 i).1) → (x5 = (mWh g a1 a2 a3 i).2) → (nm - i < n) → ∀ ls : Array Slot, lv_has ls 7 [(0, .ref (ad 33 0)), (1, .int a1), (2, .int a2), (3, .int a3), (4, .int x4), (5, .int x5), (6, .int (nI i))] → W p l e (rmL 1 0 0) s m args below meth c s.heap [] 0 0 Q (F0 m 9 ls []) := by
    intro n
    induction n with
    | zero =>
      intro i x4 x5 hi h4 h5 hfu ls hl
      exact absurd hfu (by omega)
    | succ n ih9 =>
      intro i x4 x5 hi h4 h5 hfu ls hl
      refine lv_iload hx hb dX10_where_9 (lv_at hl 6 rfl) ?_
      refine lv_aload_n hx hb dX10_where_11 rfl (lv_at hl 0 rfl) ?_
      refine m_geti (x := (nI nm)) E hw 3 (by decide) rfl tw_547 (hO.2.2.2.1) dX10_where_12 ?_
      refine lv_icmp_ge (tgt := 87) hx hb dX10_where_15 (by decide) (fun c_15 => ?_) (fun c_15 => ?_)
      · skip
        have hge : i = nm := by have q9 := (nI_leI (a := nm) (b := i) (by omega) (by omega)).mp c_15; omega
        subst hge
        refine lv_iload hx hb dX10_where_87 (lv_at hl 4 rfl) ?_
        subst hQ
        exact x_iret E hr hlk (h4) dX10_where_89
      · skip
        have hlt : i < nm := by have q9 := mt (nI_leI (a := nm) (b := i) (by omega) (by omega)).mpr c_15; omega
        refine lv_aload_n hx hb dX10_where_18 rfl (lv_at hl 0 rfl) ?_
        refine m_getr E hw 18 (by decide) rfl tw_562 dX10_where_19 ?_
        refine lv_iload hx hb dX10_where_22 (lv_at hl 6 rfl) ?_
        refine m_ild E hw 18 ⟨by decide, rfl, rfl⟩ i (rfl) (by show i < 300; omega) dX10_where_24 ?_
        refine lv_iload_n hx hb dX10_where_25 rfl (lv_at hl 1 rfl) ?_
        refine lv_icmp_ne (tgt := 81) hx hb dX10_where_26 (by decide) (fun c_26 => ?_) (fun c_26 => ?_)
        · skip
          refine lv_iinc (v := (nI (i + 1))) (lv' := [(6, .int (nI (i + 1))), (0, .ref (ad 33 0)), (1, .int a1), (2, .int a2), (3, .int a3), (4, .int x4), (5, .int x5)]) hx hb dX10_where_81 hl (k := 6) rfl (nI_1 _) (by decide) rfl (fun ls hl => ?_)
          refine lv_goto (tgt := 9) hx hb dX10_where_84 (by decide) ?_
          exact ih9 (i + 1) x4 x5 (hlt) (by simp [mWh, ← h4, ← h5, c_15, c_26]) (by simp [mWh, ← h4, ← h5, c_15, c_26]) (by omega) ls (lv_sub hl [1, 2, 3, 4, 5, 6, 0] rfl)
        · skip
          refine lv_aload_n hx hb dX10_where_29 rfl (lv_at hl 0 rfl) ?_
          refine m_getr E hw 21 (by decide) rfl tw_565 dX10_where_30 ?_
          refine lv_iload hx hb dX10_where_33 (lv_at hl 6 rfl) ?_
          refine m_ild E hw 21 ⟨by decide, rfl, rfl⟩ i (rfl) (by show i < 300; omega) dX10_where_35 ?_
          refine lv_iload_n hx hb dX10_where_36 rfl (lv_at hl 3 rfl) ?_
          refine lv_icmp_gt (tgt := 81) hx hb dX10_where_37 (by decide) (fun c_37 => ?_) (fun c_37 => ?_)
          · skip
            refine lv_iinc (v := (nI (i + 1))) (lv' := [(6, .int (nI (i + 1))), (0, .ref (ad 33 0)), (1, .int a1), (2, .int a2), (3, .int a3), (4, .int x4), (5, .int x5)]) hx hb dX10_where_81 hl (k := 6) rfl (nI_1 _) (by decide) rfl (fun ls hl => ?_)
            refine lv_goto (tgt := 9) hx hb dX10_where_84 (by decide) ?_
            exact ih9 (i + 1) x4 x5 (hlt) (by simp [mWh, ← h4, ← h5, c_15, c_26, c_37]) (by simp [mWh, ← h4, ← h5, c_15, c_26, c_37]) (by omega) ls (lv_sub hl [1, 2, 3, 4, 5, 6, 0] rfl)
          · skip
            refine lv_aload_n hx hb dX10_where_40 rfl (lv_at hl 0 rfl) ?_
            refine m_getr E hw 20 (by decide) rfl tw_564 dX10_where_41 ?_
            refine lv_iload hx hb dX10_where_44 (lv_at hl 6 rfl) ?_
            refine m_ild E hw 20 ⟨by decide, rfl, rfl⟩ i (rfl) (by show i < 300; omega) dX10_where_46 ?_
            refine lv_iload_n hx hb dX10_where_47 rfl (lv_at hl 2 rfl) ?_
            refine lv_icmp_gt (tgt := 81) hx hb dX10_where_48 (by decide) (fun c_48 => ?_) (fun c_48 => ?_)
            · skip
              refine lv_iinc (v := (nI (i + 1))) (lv' := [(6, .int (nI (i + 1))), (0, .ref (ad 33 0)), (1, .int a1), (2, .int a2), (3, .int a3), (4, .int x4), (5, .int x5)]) hx hb dX10_where_81 hl (k := 6) rfl (nI_1 _) (by decide) rfl (fun ls hl => ?_)
              refine lv_goto (tgt := 9) hx hb dX10_where_84 (by decide) ?_
              exact ih9 (i + 1) x4 x5 (hlt) (by simp [mWh, ← h4, ← h5, c_15, c_26, c_37, c_48]) (by simp [mWh, ← h4, ← h5, c_15, c_26, c_37, c_48]) (by omega) ls (lv_sub hl [1, 2, 3, 4, 5, 6, 0] rfl)
            · skip
              refine lv_aload_n hx hb dX10_where_51 rfl (lv_at hl 0 rfl) ?_
              refine m_getr E hw 20 (by decide) rfl tw_564 dX10_where_52 ?_
              refine lv_iload hx hb dX10_where_55 (lv_at hl 6 rfl) ?_
              refine m_ild E hw 20 ⟨by decide, rfl, rfl⟩ i (rfl) (by show i < 300; omega) dX10_where_57 ?_
              refine lv_iload hx hb dX10_where_58 (lv_at hl 5 rfl) ?_
              refine lv_icmp_lt (tgt := 81) hx hb dX10_where_60 (by decide) (fun c_60 => ?_) (fun c_60 => ?_)
              · skip
                refine lv_iinc (v := (nI (i + 1))) (lv' := [(6, .int (nI (i + 1))), (0, .ref (ad 33 0)), (1, .int a1), (2, .int a2), (3, .int a3), (4, .int x4), (5, .int x5)]) hx hb dX10_where_81 hl (k := 6) rfl (nI_1 _) (by decide) rfl (fun ls hl => ?_)
                refine lv_goto (tgt := 9) hx hb dX10_where_84 (by decide) ?_
                exact ih9 (i + 1) x4 x5 (hlt) (by simp [mWh, ← h4, ← h5, c_15, c_26, c_37, c_48, c_60]) (by simp [mWh, ← h4, ← h5, c_15, c_26, c_37, c_48, c_60]) (by omega) ls (lv_sub hl [1, 2, 3, 4, 5, 6, 0] rfl)
              · skip
                refine lv_aload_n hx hb dX10_where_63 rfl (lv_at hl 0 rfl) ?_
                refine m_getr E hw 19 (by decide) rfl tw_563 dX10_where_64 ?_
                refine lv_iload hx hb dX10_where_67 (lv_at hl 6 rfl) ?_
                refine m_ild E hw 19 ⟨by decide, rfl, rfl⟩ i (rfl) (by show i < 300; omega) dX10_where_69 ?_
                refine lv_istore (lv' := [(4, .int (g 19 i)), (0, .ref (ad 33 0)), (1, .int a1), (2, .int a2), (3, .int a3), (5, .int x5), (6, .int (nI i))]) hx hb dX10_where_70 hl (by decide) rfl (fun ls hl => ?_)
                refine lv_aload_n hx hb dX10_where_72 rfl (lv_at hl 1 rfl) ?_
                refine m_getr E hw 20 (by decide) rfl tw_564 dX10_where_73 ?_
                refine lv_iload hx hb dX10_where_76 (lv_at hl 6 rfl) ?_
                refine m_ild E hw 20 ⟨by decide, rfl, rfl⟩ i (rfl) (by show i < 300; omega) dX10_where_78 ?_
                refine lv_istore (lv' := [(5, .int (g 20 i)), (4, .int (g 19 i)), (0, .ref (ad 33 0)), (1, .int a1), (2, .int a2), (3, .int a3), (6, .int (nI i))]) hx hb dX10_where_79 hl (by decide) rfl (fun ls hl => ?_)
                refine lv_iinc (v := (nI (i + 1))) (lv' := [(6, .int (nI (i + 1))), (5, .int (g 20 i)), (4, .int (g 19 i)), (0, .ref (ad 33 0)), (1, .int a1), (2, .int a2), (3, .int a3)]) hx hb dX10_where_81 hl (k := 6) rfl (nI_1 _) (by decide) rfl (fun ls hl => ?_)
                refine lv_goto (tgt := 9) hx hb dX10_where_84 (by decide) ?_
                exact ih9 (i + 1) (g 19 i) (g 20 i) (hlt) (by simp [mWh, ← h4, ← h5, c_15, c_26, c_37, c_48, c_60]) (by simp [mWh, ← h4, ← h5, c_15, c_26, c_37, c_48, c_60]) (by omega) ls (lv_sub hl [3, 4, 5, 6, 2, 1, 0] rfl)
  exact lp9 (nm + 1) 0 0 (-1) (Nat.zero_le _) (rfl) (rfl) (by omega) ls (lv_sub hl [3, 4, 5, 6, 2, 1, 0] rfl)
set_option maxHeartbeats 4000000 in
set_option maxRecDepth 100000 in
theorem kX10_manyAt (l : Launch) (D : va_G) (ca : Nat → ClassId) (ad : Nat → Nat → Nat) (v : Nat → Int32) (g : Nat → Nat → Int32) (nw : Nat) (nb : Nat) (nc : Nat) (nm : Nat) (a1 : Int32) (a2 : Int32) (a3 : Int32) (hO : mOK v nw nb nc nm) : Met l yX10_manyAt (wz yX10_manyAt cX10_manyAt 6 (some .int)) (rmL 2 0 0) (va_Pc [.ref (ad 33 0), .int a1, .int a2, .int a3] (fun U => mq D ca ad v g U.heap ∧ gK D ca U)) (QcRead (nI (mMany g nm a1 a2 a3 nc))) 0 0 (fun _ => False) := by
  refine x_met (by decide) (Nat.le_of_ble_eq_true rfl) ?_
  intro p e s m below meth c E hr hlk hnm hq ls hl
  generalize hav : ([.ref (ad 33 0), .int a1, .int a2, .int a3] : List Value).toArray = args at E ⊢
  have hx := E.1
  have hb := E.2.1
  have hown := E.2.2.2.1
  have hts := E.2.2.2.2.1
  have hw : mw D (wA mcnt ad s.heap.size) s.heap ca ad v g s.heap [] := wd.start hq
  generalize hQ : MQ below (QcRead (nI (mMany g nm a1 a2 a3 nc))) args s 0 0 (fun _ => False) = Q
  have hl : lv_has ls 6 [(0, .ref (ad 33 0)), (1, .int a1), (2, .int a2), (3, .int a3)] := hl
  have hO5 := hO.2.2.2.2
  refine lv_iconst (v := 0) hx hb dX10_manyAt_0 (by decide) ?_
  refine lv_istore (lv' := [(4, .int 0), (0, .ref (ad 33 0)), (1, .int a1), (2, .int a2), (3, .int a3)]) hx hb dX10_manyAt_1 hl (by decide) rfl (fun ls hl => ?_)
  refine lv_iconst (v := 0) hx hb dX10_manyAt_3 (by decide) ?_
  refine lv_istore (lv' := [(5, .int 0), (4, .int 0), (0, .ref (ad 33 0)), (1, .int a1), (2, .int a2), (3, .int a3)]) hx hb dX10_manyAt_4 hl (by decide) rfl (fun ls hl => ?_)
  have lp6 : ∀ (n : Nat) (i : Nat) (x4 : Int32), (i ≤ nc) → (x4 = nI (mMany g nm a1 a2 a3 i)) → (nc - i < n) → ∀ ls : Array Slot, lv_has ls 6 [(0, .ref (ad 33 0)), (1, .int a1), (2, .int a2), (3, .int a3), (4, .int x4), (5, .int (nI i))] → W p l e (rmL 2 0 0) s m args below meth c s.heap [] 0 0 Q (F0 m 6 ls []) := by
    intro n
    induction n with
    | zero =>
      intro i x4 hi h4 hfu ls hl
      exact absurd hfu (by omega)
    | succ n ih6 =>
      intro i x4 hi h4 hfu ls hl
      refine lv_iload hx hb dX10_manyAt_6 (lv_at hl 5 rfl) ?_
      refine lv_aload_n hx hb dX10_manyAt_8 rfl (lv_at hl 0 rfl) ?_
      refine m_geti (x := (nI nc)) E hw 2 (by decide) rfl tw_546 (hO.2.2.1) dX10_manyAt_9 ?_
      refine lv_icmp_ge (tgt := 54) hx hb dX10_manyAt_12 (by decide) (fun c_12 => ?_) (fun c_12 => ?_)
      · skip
        have hge : i = nc := by have q9 := (nI_leI (a := nc) (b := i) (by omega) (by omega)).mp c_12; omega
        subst hge
        refine lv_iload hx hb dX10_manyAt_54 (lv_at hl 4 rfl) ?_
        subst hQ
        exact x_iret E hr hlk (h4) dX10_manyAt_56
      · skip
        have hlt : i < nc := by have q9 := mt (nI_leI (a := nc) (b := i) (by omega) (by omega)).mpr c_12; omega
        refine lv_iload hx hb dX10_manyAt_15 (lv_at hl 4 rfl) ?_
        refine lv_aload_n hx hb dX10_manyAt_17 rfl (lv_at hl 0 rfl) ?_
        refine lv_iload hx hb dX10_manyAt_18 (lv_at hl 5 rfl) ?_
        refine lv_iload_n hx hb dX10_manyAt_20 rfl (lv_at hl 2 rfl) ?_
        refine lv_iload_n hx hb dX10_manyAt_21 rfl (lv_at hl 3 rfl) ?_
        refine x_read (x_runV (rest := [.int x4]) E cbX10_isThere tw_695 (kX10_isThere l D ca ad v g  i a2 a3 (by omega)) ⟨rfl, rfl, by decide, by decide⟩ (m_recv E hw) (fun _ _ _ _ h => h) (fun U hU _ => by rw [hU]; exact hw.1) rfl hl.1 rfl (Nat.le_of_ble_eq_true rfl) dX10_manyAt_22 ⟨by decide, by decide⟩) ?_
        refine lv_if_eq (tgt := 44) hx hb dX10_manyAt_25 (by decide) (fun c_25 => ?_) (fun c_25 => ?_)
        · skip
          have c_25 := bB_0.mp c_25
          refine lv_iconst (v := 0) hx hb dX10_manyAt_44 (by decide) ?_
          refine lv_iadd hx hb dX10_manyAt_45 ?_
          refine lv_istore (lv' := [(4, .int (x4 + 0)), (0, .ref (ad 33 0)), (1, .int a1), (2, .int a2), (3, .int a3), (5, .int (nI i))]) hx hb dX10_manyAt_46 hl (by decide) rfl (fun ls hl => ?_)
          refine lv_iinc (v := (nI (i + 1))) (lv' := [(5, .int (nI (i + 1))), (4, .int (x4 + 0)), (0, .ref (ad 33 0)), (1, .int a1), (2, .int a2), (3, .int a3)]) hx hb dX10_manyAt_48 hl (k := 5) rfl (nI_1 _) (by decide) rfl (fun ls hl => ?_)
          refine lv_goto (tgt := 6) hx hb dX10_manyAt_51 (by decide) ?_
          exact ih6 (i + 1) (x4 + 0) (hlt) (by rw [h4]; simp [mMany, nI_1, c_12, c_25]) (by omega) ls (lv_sub hl [2, 3, 4, 5, 1, 0] rfl)
        · skip
          have c_25 := bB_n0.mp c_25
          refine lv_aload_n hx hb dX10_manyAt_28 rfl (lv_at hl 0 rfl) ?_
          refine lv_iload hx hb dX10_manyAt_29 (lv_at hl 5 rfl) ?_
          refine lv_iload_n hx hb dX10_manyAt_31 rfl (lv_at hl 2 rfl) ?_
          refine lv_iload_n hx hb dX10_manyAt_32 rfl (lv_at hl 3 rfl) ?_
          refine x_read (x_runV (rest := [.int x4]) E cbX10_where tw_699 (kX10_where l D ca ad v g nw nb nc nm (nI i) a2 a3 (hO)) ⟨rfl, rfl, by decide, by decide⟩ (m_recv E hw) (fun _ _ _ _ h => h) (fun U hU _ => by rw [hU]; exact hw.1) rfl hl.1 rfl (Nat.le_of_ble_eq_true rfl) dX10_manyAt_33 ⟨by decide, by decide⟩) ?_
          refine lv_iload_n hx hb dX10_manyAt_36 rfl (lv_at hl 1 rfl) ?_
          refine lv_icmp_ne (tgt := 44) hx hb dX10_manyAt_37 (by decide) (fun c_37 => ?_) (fun c_37 => ?_)
          · skip
            refine lv_iconst (v := 0) hx hb dX10_manyAt_44 (by decide) ?_
            refine lv_iadd hx hb dX10_manyAt_45 ?_
            refine lv_istore (lv' := [(4, .int (x4 + 0)), (0, .ref (ad 33 0)), (1, .int a1), (2, .int a2), (3, .int a3), (5, .int (nI i))]) hx hb dX10_manyAt_46 hl (by decide) rfl (fun ls hl => ?_)
            refine lv_iinc (v := (nI (i + 1))) (lv' := [(5, .int (nI (i + 1))), (4, .int (x4 + 0)), (0, .ref (ad 33 0)), (1, .int a1), (2, .int a2), (3, .int a3)]) hx hb dX10_manyAt_48 hl (k := 5) rfl (nI_1 _) (by decide) rfl (fun ls hl => ?_)
            refine lv_goto (tgt := 6) hx hb dX10_manyAt_51 (by decide) ?_
            exact ih6 (i + 1) (x4 + 0) (hlt) (by rw [h4]; simp [mMany, nI_1, c_12, c_25, c_37]) (by omega) ls (lv_sub hl [2, 3, 4, 5, 1, 0] rfl)
          · skip
            refine lv_iconst (v := 1) hx hb dX10_manyAt_40 (by decide) ?_
            refine lv_goto (tgt := 45) hx hb dX10_manyAt_41 (by decide) ?_
            refine lv_iadd hx hb dX10_manyAt_45 ?_
            refine lv_istore (lv' := [(4, .int (x4 + 1)), (0, .ref (ad 33 0)), (1, .int a1), (2, .int a2), (3, .int a3), (5, .int (nI i))]) hx hb dX10_manyAt_46 hl (by decide) rfl (fun ls hl => ?_)
            refine lv_iinc (v := (nI (i + 1))) (lv' := [(5, .int (nI (i + 1))), (4, .int (x4 + 1)), (0, .ref (ad 33 0)), (1, .int a1), (2, .int a2), (3, .int a3)]) hx hb dX10_manyAt_48 hl (k := 5) rfl (nI_1 _) (by decide) rfl (fun ls hl => ?_)
            refine lv_goto (tgt := 6) hx hb dX10_manyAt_51 (by decide) ?_
            exact ih6 (i + 1) (x4 + 1) (hlt) (by rw [h4]; simp [mMany, nI_1, c_12, c_25, c_37]) (by omega) ls (lv_sub hl [2, 3, 4, 5, 1, 0] rfl)
  exact lp6 (nc + 1) 0 0 (Nat.zero_le _) (rfl) (by omega) ls (lv_sub hl [2, 3, 4, 5, 1, 0] rfl)
set_option maxHeartbeats 4000000 in
set_option maxRecDepth 100000 in
theorem kX10_changesOn (l : Launch) (D : va_G) (ca : Nat → ClassId) (ad : Nat → Nat → Nat) (v : Nat → Int32) (g : Nat → Nat → Int32) (nw : Nat) (nb : Nat) (nc : Nat) (nm : Nat) (a1 : Int32) (hO : mOK v nw nb nc nm) : Met l yX10_changesOn (wz yX10_changesOn cX10_changesOn 3 (some .boolean)) (rmL 1 0 0) (va_Pc [.ref (ad 33 0), .int a1] (fun U => mq D ca ad v g U.heap ∧ gK D ca U)) (QcRead (bB (mChg g nc nm a1))) 0 0 (fun _ => False) := by
  refine x_met (by decide) (Nat.le_of_ble_eq_true rfl) ?_
  intro p e s m below meth c E hr hlk hnm hq ls hl
  generalize hav : ([.ref (ad 33 0), .int a1] : List Value).toArray = args at E ⊢
  have hx := E.1
  have hb := E.2.1
  have hown := E.2.2.2.1
  have hts := E.2.2.2.2.1
  have hw : mw D (wA mcnt ad s.heap.size) s.heap ca ad v g s.heap [] := wd.start hq
  generalize hQ : MQ below (QcRead (bB (mChg g nc nm a1))) args s 0 0 (fun _ => False) = Q
  have hl : lv_has ls 3 [(0, .ref (ad 33 0)), (1, .int a1)] := hl
  have hO5 := hO.2.2.2.2
  refine lv_iconst (v := 0) hx hb dX10_changesOn_0 (by decide) ?_
  refine lv_istore_n (lv' := [(2, .int 0), (0, .ref (ad 33 0)), (1, .int a1)]) hx hb dX10_changesOn_1 rfl hl (by decide) rfl (fun ls hl => ?_)
  have lp2 : ∀ (n : Nat) (i : Nat), (i ≤ nm) → (anyB (fun m => decide (g 20 m = a1)) i = false) → (nm - i < n) → ∀ ls : Array Slot, lv_has ls 3 [(0, .ref (ad 33 0)), (1, .int a1), (2, .int (nI i))] → W p l e (rmL 1 0 0) s m args below meth c s.heap [] 0 0 Q (F0 m 2 ls []) := by
    intro n
    induction n with
    | zero =>
      intro i hi hn hfu ls hl
      exact absurd hfu (by omega)
    | succ n ih2 =>
      intro i hi hn hfu ls hl
      refine lv_iload_n hx hb dX10_changesOn_2 rfl (lv_at hl 2 rfl) ?_
      refine lv_aload_n hx hb dX10_changesOn_3 rfl (lv_at hl 0 rfl) ?_
      refine m_geti (x := (nI nm)) E hw 3 (by decide) rfl tw_547 (hO.2.2.2.1) dX10_changesOn_4 ?_
      refine lv_icmp_ge (tgt := 28) hx hb dX10_changesOn_7 (by decide) (fun c_7 => ?_) (fun c_7 => ?_)
      · skip
        have hge : i = nm := by have q9 := (nI_leI (a := nm) (b := i) (by omega) (by omega)).mp c_7; omega
        rw [hge] at hn
        refine lv_iconst (v := 0) hx hb dX10_changesOn_28 (by decide) ?_
        refine lv_istore_n (lv' := [(2, .int 0), (0, .ref (ad 33 0)), (1, .int a1)]) hx hb dX10_changesOn_29 rfl hl (by decide) rfl (fun ls hl => ?_)
        have lp30 : ∀ (n : Nat) (i : Nat), (i ≤ nc) → (anyB (fun c => decide (g 9 c = a1)) i = false) → (nc - i < n) → ∀ ls : Array Slot, lv_has ls 3 [(0, .ref (ad 33 0)), (1, .int a1), (2, .int (nI i))] → W p l e (rmL 1 0 0) s m args below meth c s.heap [] 0 0 Q (F0 m 30 ls []) := by
          intro n
          induction n with
          | zero =>
            intro i hi hn2 hfu ls hl
            exact absurd hfu (by omega)
          | succ n ih30 =>
            intro i hi hn2 hfu ls hl
            refine lv_iload_n hx hb dX10_changesOn_30 rfl (lv_at hl 2 rfl) ?_
            refine lv_aload_n hx hb dX10_changesOn_31 rfl (lv_at hl 0 rfl) ?_
            refine m_geti (x := (nI nc)) E hw 2 (by decide) rfl tw_546 (hO.2.2.1) dX10_changesOn_32 ?_
            refine lv_icmp_ge (tgt := 56) hx hb dX10_changesOn_35 (by decide) (fun c_35 => ?_) (fun c_35 => ?_)
            · skip
              have hge : i = nc := by have q9 := (nI_leI (a := nc) (b := i) (by omega) (by omega)).mp c_35; omega
              rw [hge] at hn2
              refine lv_iconst (v := 0) hx hb dX10_changesOn_56 (by decide) ?_
              subst hQ
              exact x_zret E hr hlk (by decide) (by rw [mChg, hn, hn2]; rfl) dX10_changesOn_57
            · skip
              have hlt : i < nc := by have q9 := mt (nI_leI (a := nc) (b := i) (by omega) (by omega)).mpr c_35; omega
              refine lv_aload_n hx hb dX10_changesOn_38 rfl (lv_at hl 0 rfl) ?_
              refine m_getr E hw 9 (by decide) rfl tw_553 dX10_changesOn_39 ?_
              refine lv_iload_n hx hb dX10_changesOn_42 rfl (lv_at hl 2 rfl) ?_
              refine m_ild E hw 9 ⟨by decide, rfl, rfl⟩ i (rfl) (by show i < 60; omega) dX10_changesOn_43 ?_
              refine lv_iload_n hx hb dX10_changesOn_44 rfl (lv_at hl 1 rfl) ?_
              refine lv_icmp_ne (tgt := 50) hx hb dX10_changesOn_45 (by decide) (fun c_45 => ?_) (fun c_45 => ?_)
              · skip
                refine lv_iinc (v := (nI (i + 1))) (lv' := [(2, .int (nI (i + 1))), (0, .ref (ad 33 0)), (1, .int a1)]) hx hb dX10_changesOn_50 hl (k := 2) rfl (nI_1 _) (by decide) rfl (fun ls hl => ?_)
                refine lv_goto (tgt := 30) hx hb dX10_changesOn_53 (by decide) ?_
                exact ih30 (i + 1) (hlt) (by simp [anyB, hn2, c_35, c_45]) (by omega) ls (lv_sub hl [1, 2, 0] rfl)
              · skip
                refine lv_iconst (v := 1) hx hb dX10_changesOn_48 (by decide) ?_
                subst hQ
                exact x_zret E hr hlk (by decide) (by rw [mChg, Bool.or_comm, anyB_at hlt (by simp [c_35, c_45])]; rfl) dX10_changesOn_49
        exact lp30 (nc + 1) 0 (Nat.zero_le _) (rfl) (by omega) ls (lv_sub hl [1, 2, 0] rfl)
      · skip
        have hlt : i < nm := by have q9 := mt (nI_leI (a := nm) (b := i) (by omega) (by omega)).mpr c_7; omega
        refine lv_aload_n hx hb dX10_changesOn_10 rfl (lv_at hl 0 rfl) ?_
        refine m_getr E hw 20 (by decide) rfl tw_564 dX10_changesOn_11 ?_
        refine lv_iload_n hx hb dX10_changesOn_14 rfl (lv_at hl 2 rfl) ?_
        refine m_ild E hw 20 ⟨by decide, rfl, rfl⟩ i (rfl) (by show i < 300; omega) dX10_changesOn_15 ?_
        refine lv_iload_n hx hb dX10_changesOn_16 rfl (lv_at hl 1 rfl) ?_
        refine lv_icmp_ne (tgt := 22) hx hb dX10_changesOn_17 (by decide) (fun c_17 => ?_) (fun c_17 => ?_)
        · skip
          refine lv_iinc (v := (nI (i + 1))) (lv' := [(2, .int (nI (i + 1))), (0, .ref (ad 33 0)), (1, .int a1)]) hx hb dX10_changesOn_22 hl (k := 2) rfl (nI_1 _) (by decide) rfl (fun ls hl => ?_)
          refine lv_goto (tgt := 2) hx hb dX10_changesOn_25 (by decide) ?_
          exact ih2 (i + 1) (hlt) (by simp [anyB, hn, c_7, c_17]) (by omega) ls (lv_sub hl [1, 2, 0] rfl)
        · skip
          refine lv_iconst (v := 1) hx hb dX10_changesOn_20 (by decide) ?_
          subst hQ
          exact x_zret E hr hlk (by decide) (by rw [mChg, anyB_at hlt (by simp [c_7, c_17])]; rfl) dX10_changesOn_21
  exact lp2 (nm + 1) 0 (Nat.zero_le _) (rfl) (by omega) ls (lv_sub hl [1, 2, 0] rfl)
set_option maxHeartbeats 4000000 in
set_option maxRecDepth 100000 in
theorem kX10_hasRoom (l : Launch) (D : va_G) (ca : Nat → ClassId) (ad : Nat → Nat → Nat) (v : Nat → Int32) (g : Nat → Nat → Int32) (nw : Nat) (nb : Nat) (nc : Nat) (nm : Nat) (a1 : Int32) (f2 : Nat) (a3 : Int32) (hO : mOK v nw nb nc nm) (hf2 : f2 ≤ nw) : Met l yX10_hasRoom (wz yX10_hasRoom cX10_hasRoom 5 (some .boolean)) (rmL 3 0 0) (va_Pc [.ref (ad 33 0), .int a1, .int (nI f2), .int a3] (fun U => mq D ca ad v g U.heap ∧ gK D ca U)) (QcRead (bB (!(mOver g nw nc nm a1 f2 a3)))) 0 0 (fun _ => False) := by
  refine x_met (by decide) (Nat.le_of_ble_eq_true rfl) ?_
  intro p e s m below meth c E hr hlk hnm hq ls hl
  generalize hav : ([.ref (ad 33 0), .int a1, .int (nI f2), .int a3] : List Value).toArray = args at E ⊢
  have hx := E.1
  have hb := E.2.1
  have hown := E.2.2.2.1
  have hts := E.2.2.2.2.1
  have hw : mw D (wA mcnt ad s.heap.size) s.heap ca ad v g s.heap [] := wd.start hq
  generalize hQ : MQ below (QcRead (bB (!(mOver g nw nc nm a1 f2 a3)))) args s 0 0 (fun _ => False) = Q
  have hl : lv_has ls 5 [(0, .ref (ad 33 0)), (1, .int a1), (2, .int (nI f2)), (3, .int a3)] := hl
  have hO5 := hO.2.2.2.2
  refine lv_iload_n hx hb dX10_hasRoom_0 rfl (lv_at hl 2 rfl) ?_
  refine lv_istore (lv' := [(4, .int (nI f2)), (0, .ref (ad 33 0)), (1, .int a1), (2, .int (nI f2)), (3, .int a3)]) hx hb dX10_hasRoom_1 hl (by decide) rfl (fun ls hl => ?_)
  have lp3 : ∀ (n : Nat) (k : Nat), (k ≤ nw + 1 - f2) → (anyB (mOvK g nw nc nm a1 f2 a3) k = false) → (nw + 1 - f2 - k < n) → ∀ ls : Array Slot, lv_has ls 5 [(0, .ref (ad 33 0)), (1, .int a1), (2, .int (nI f2)), (3, .int a3), (4, .int (nI (f2 + k)))] → W p l e (rmL 3 0 0) s m args below meth c s.heap [] 0 0 Q (F0 m 3 ls []) := by
    intro n
    induction n with
    | zero =>
      intro k hi hn hfu ls hl
      exact absurd hfu (by omega)
    | succ n ih3 =>
      intro k hi hn hfu ls hl
      refine lv_iload hx hb dX10_hasRoom_3 (lv_at hl 4 rfl) ?_
      refine lv_aload_n hx hb dX10_hasRoom_5 rfl (lv_at hl 0 rfl) ?_
      refine m_geti (x := (nI nw)) E hw 0 (by decide) rfl tw_544 (hO.1) dX10_hasRoom_6 ?_
      refine lv_icmp_gt (tgt := 53) hx hb dX10_hasRoom_9 (by decide) (fun c_9 => ?_) (fun c_9 => ?_)
      · skip
        have hge : k = nw + 1 - f2 := by have q9 := (nI_ltI (a := nw) (b := f2 + k) (by omega) (by omega)).mp c_9; omega
        refine lv_iconst (v := 1) hx hb dX10_hasRoom_53 (by decide) ?_
        subst hQ
        exact x_zret E hr hlk (by decide) (by rw [mOver, ← hge, hn]; rfl) dX10_hasRoom_54
      · skip
        have hlt : f2 + k ≤ nw := by have q9 := mt (nI_ltI (a := nw) (b := f2 + k) (by omega) (by omega)).mpr c_9; omega
        refine lv_iload hx hb dX10_hasRoom_12 (lv_at hl 4 rfl) ?_
        refine lv_iload_n hx hb dX10_hasRoom_14 rfl (lv_at hl 2 rfl) ?_
        refine lv_icmp_le (tgt := 30) hx hb dX10_hasRoom_15 (by decide) (fun c_15 => ?_) (fun c_15 => ?_)
        · skip
          have hc_k : k = 0 := by have q9 := (nI_leI (a := f2 + k) (b := f2) (by omega) (by omega)).mp c_15; omega
          refine lv_aload_n hx hb dX10_hasRoom_30 rfl (lv_at hl 0 rfl) ?_
          refine lv_iload_n hx hb dX10_hasRoom_31 rfl (lv_at hl 1 rfl) ?_
          refine lv_iload hx hb dX10_hasRoom_32 (lv_at hl 4 rfl) ?_
          refine lv_aload_n hx hb dX10_hasRoom_34 rfl (lv_at hl 0 rfl) ?_
          refine m_geti (x := (nI nw)) E hw 0 (by decide) rfl tw_544 (hO.1) dX10_hasRoom_35 ?_
          refine x_read (x_runV (rest := []) E cbX10_manyAt tw_691 (kX10_manyAt l D ca ad v g nw nb nc nm a1 (nI (f2 + k)) (nI nw) (hO)) ⟨rfl, rfl, by decide, by decide⟩ (m_recv E hw) (fun _ _ _ _ h => h) (fun U hU _ => by rw [hU]; exact hw.1) rfl hl.1 rfl (Nat.le_of_ble_eq_true rfl) dX10_hasRoom_38 ⟨by decide, by decide⟩) ?_
          refine lv_iload_n hx hb dX10_hasRoom_41 rfl (lv_at hl 3 rfl) ?_
          refine lv_icmp_le (tgt := 47) hx hb dX10_hasRoom_42 (by decide) (fun c_42 => ?_) (fun c_42 => ?_)
          · skip
            refine lv_iinc (v := (nI ((f2 + k) + 1))) (lv' := [(4, .int (nI ((f2 + k) + 1))), (0, .ref (ad 33 0)), (1, .int a1), (2, .int (nI f2)), (3, .int a3)]) hx hb dX10_hasRoom_47 hl (k := 4) rfl (nI_1 _) (by decide) rfl (fun ls hl => ?_)
            refine lv_goto (tgt := 3) hx hb dX10_hasRoom_50 (by decide) ?_
            exact ih3 (k + 1) (by omega) (by simp only [anyB, hn, Bool.false_or]; first | exact mOvK_f c_42 | exact mOvK_n hc_k c_24) (by omega) ls (lv_sub hl [1, 2, 3, 4, 0] rfl)
          · skip
            refine lv_iconst (v := 0) hx hb dX10_hasRoom_45 (by decide) ?_
            subst hQ
            exact x_zret E hr hlk (by decide) (by rw [mOver, anyB_at (i := k) (by omega) (by first | exact mOvK_t (Or.inl hc_k) c_42 | exact mOvK_t (Or.inr c_24) c_42)]; rfl) dX10_hasRoom_46
        · skip
          have hc_k : ¬ k = 0 := by have q9 := mt (nI_leI (a := f2 + k) (b := f2) (by omega) (by omega)).mpr c_15; omega
          refine lv_aload_n hx hb dX10_hasRoom_18 rfl (lv_at hl 0 rfl) ?_
          refine lv_iload hx hb dX10_hasRoom_19 (lv_at hl 4 rfl) ?_
          refine x_read (x_runV (rest := []) E cbX10_changesOn tw_687 (kX10_changesOn l D ca ad v g nw nb nc nm (nI (f2 + k)) (hO)) ⟨rfl, rfl, by decide, by decide⟩ (m_recv E hw) (fun _ _ _ _ h => h) (fun U hU _ => by rw [hU]; exact hw.1) rfl hl.1 rfl (Nat.le_of_ble_eq_true rfl) dX10_hasRoom_21 ⟨by decide, by decide⟩) ?_
          refine lv_if_ne (tgt := 30) hx hb dX10_hasRoom_24 (by decide) (fun c_24 => ?_) (fun c_24 => ?_)
          · skip
            have c_24 := bB_n0.mp c_24
            refine lv_aload_n hx hb dX10_hasRoom_30 rfl (lv_at hl 0 rfl) ?_
            refine lv_iload_n hx hb dX10_hasRoom_31 rfl (lv_at hl 1 rfl) ?_
            refine lv_iload hx hb dX10_hasRoom_32 (lv_at hl 4 rfl) ?_
            refine lv_aload_n hx hb dX10_hasRoom_34 rfl (lv_at hl 0 rfl) ?_
            refine m_geti (x := (nI nw)) E hw 0 (by decide) rfl tw_544 (hO.1) dX10_hasRoom_35 ?_
            refine x_read (x_runV (rest := []) E cbX10_manyAt tw_691 (kX10_manyAt l D ca ad v g nw nb nc nm a1 (nI (f2 + k)) (nI nw) (hO)) ⟨rfl, rfl, by decide, by decide⟩ (m_recv E hw) (fun _ _ _ _ h => h) (fun U hU _ => by rw [hU]; exact hw.1) rfl hl.1 rfl (Nat.le_of_ble_eq_true rfl) dX10_hasRoom_38 ⟨by decide, by decide⟩) ?_
            refine lv_iload_n hx hb dX10_hasRoom_41 rfl (lv_at hl 3 rfl) ?_
            refine lv_icmp_le (tgt := 47) hx hb dX10_hasRoom_42 (by decide) (fun c_42 => ?_) (fun c_42 => ?_)
            · skip
              refine lv_iinc (v := (nI ((f2 + k) + 1))) (lv' := [(4, .int (nI ((f2 + k) + 1))), (0, .ref (ad 33 0)), (1, .int a1), (2, .int (nI f2)), (3, .int a3)]) hx hb dX10_hasRoom_47 hl (k := 4) rfl (nI_1 _) (by decide) rfl (fun ls hl => ?_)
              refine lv_goto (tgt := 3) hx hb dX10_hasRoom_50 (by decide) ?_
              exact ih3 (k + 1) (by omega) (by simp only [anyB, hn, Bool.false_or]; first | exact mOvK_f c_42 | exact mOvK_n hc_k c_24) (by omega) ls (lv_sub hl [1, 2, 3, 4, 0] rfl)
            · skip
              refine lv_iconst (v := 0) hx hb dX10_hasRoom_45 (by decide) ?_
              subst hQ
              exact x_zret E hr hlk (by decide) (by rw [mOver, anyB_at (i := k) (by omega) (by first | exact mOvK_t (Or.inl hc_k) c_42 | exact mOvK_t (Or.inr c_24) c_42)]; rfl) dX10_hasRoom_46
          · skip
            have c_24 := bB_0.mp c_24
            refine lv_goto (tgt := 47) hx hb dX10_hasRoom_27 (by decide) ?_
            refine lv_iinc (v := (nI ((f2 + k) + 1))) (lv' := [(4, .int (nI ((f2 + k) + 1))), (0, .ref (ad 33 0)), (1, .int a1), (2, .int (nI f2)), (3, .int a3)]) hx hb dX10_hasRoom_47 hl (k := 4) rfl (nI_1 _) (by decide) rfl (fun ls hl => ?_)
            refine lv_goto (tgt := 3) hx hb dX10_hasRoom_50 (by decide) ?_
            exact ih3 (k + 1) (by omega) (by simp only [anyB, hn, Bool.false_or]; first | exact mOvK_f c_42 | exact mOvK_n hc_k c_24) (by omega) ls (lv_sub hl [1, 2, 3, 4, 0] rfl)
  exact lp3 (nw + 2) 0 (Nat.zero_le _) (rfl) (by omega) ls (lv_sub hl [1, 2, 3, 4, 0] rfl)
set_option maxHeartbeats 4000000 in
set_option maxRecDepth 100000 in
theorem kX10_areDays (l : Launch) (D : va_G) (ca : Nat → ClassId) (ad : Nat → Nat → Nat) (v : Nat → Int32) (g : Nat → Nat → Int32) (nw : Nat) (nb : Nat) (nc : Nat) (nm : Nat) (a1 : Int32) (a2 : Int32) (hO : mOK v nw nb nc nm) : Met l yX10_areDays (wz yX10_areDays cX10_areDays 3 (some .boolean)) (rmL 2 0 0) (va_Pc [.ref (ad 33 0), .int a1, .int a2] (fun U => mq D ca ad v g U.heap ∧ gK D ca U)) (QcRead (bB (isIn a1 0 (nI nw) && isIn a2 0 (nI nw)))) 0 0 (fun _ => False) := by
  refine x_met (by decide) (Nat.le_of_ble_eq_true rfl) ?_
  intro p e s m below meth c E hr hlk hnm hq ls hl
  generalize hav : ([.ref (ad 33 0), .int a1, .int a2] : List Value).toArray = args at E ⊢
  have hx := E.1
  have hb := E.2.1
  have hown := E.2.2.2.1
  have hts := E.2.2.2.2.1
  have hw : mw D (wA mcnt ad s.heap.size) s.heap ca ad v g s.heap [] := wd.start hq
  generalize hQ : MQ below (QcRead (bB (isIn a1 0 (nI nw) && isIn a2 0 (nI nw)))) args s 0 0 (fun _ => False) = Q
  have hl : lv_has ls 3 [(0, .ref (ad 33 0)), (1, .int a1), (2, .int a2)] := hl
  refine lv_iload_n hx hb dX10_areDays_0 rfl (lv_at hl 1 rfl) ?_
  refine lv_iconst (v := 0) hx hb dX10_areDays_1 (by decide) ?_
  refine lv_aload_n hx hb dX10_areDays_2 rfl (lv_at hl 0 rfl) ?_
  refine m_geti (x := (nI nw)) E hw 0 (by decide) rfl tw_544 (hO.1) dX10_areDays_3 ?_
  refine x_read (x_runS (rest := []) E cbX10_in tw_649 (kX10_in l D ca a1 0 (nI nw) ) ⟨rfl, rfl, by decide, by decide⟩ (fun _ _ _ _ h => h) (fun _ _ _ => trivial) rfl hl.1 rfl (Nat.le_of_ble_eq_true rfl) dX10_areDays_6 ⟨by decide, by decide⟩) ?_
  refine lv_if_eq (tgt := 28) hx hb dX10_areDays_9 (by decide) (fun c_9 => ?_) (fun c_9 => ?_)
  · skip
    have c_9 := bB_0.mp c_9
    refine lv_iconst (v := 0) hx hb dX10_areDays_28 (by decide) ?_
    subst hQ
    exact x_zret E hr hlk (by decide) (by simp [bB, c_9]) dX10_areDays_29
  · skip
    have c_9 := bB_n0.mp c_9
    refine lv_iload_n hx hb dX10_areDays_12 rfl (lv_at hl 2 rfl) ?_
    refine lv_iconst (v := 0) hx hb dX10_areDays_13 (by decide) ?_
    refine lv_aload_n hx hb dX10_areDays_14 rfl (lv_at hl 0 rfl) ?_
    refine m_geti (x := (nI nw)) E hw 0 (by decide) rfl tw_544 (hO.1) dX10_areDays_15 ?_
    refine x_read (x_runS (rest := []) E cbX10_in tw_649 (kX10_in l D ca a2 0 (nI nw) ) ⟨rfl, rfl, by decide, by decide⟩ (fun _ _ _ _ h => h) (fun _ _ _ => trivial) rfl hl.1 rfl (Nat.le_of_ble_eq_true rfl) dX10_areDays_18 ⟨by decide, by decide⟩) ?_
    refine lv_if_eq (tgt := 28) hx hb dX10_areDays_21 (by decide) (fun c_21 => ?_) (fun c_21 => ?_)
    · skip
      have c_21 := bB_0.mp c_21
      refine lv_iconst (v := 0) hx hb dX10_areDays_28 (by decide) ?_
      subst hQ
      exact x_zret E hr hlk (by decide) (by simp [bB, c_9, c_21]) dX10_areDays_29
    · skip
      have c_21 := bB_n0.mp c_21
      refine lv_iconst (v := 1) hx hb dX10_areDays_24 (by decide) ?_
      refine lv_goto (tgt := 29) hx hb dX10_areDays_25 (by decide) ?_
      subst hQ
      exact x_zret E hr hlk (by decide) (by simp [bB, c_9, c_21]) dX10_areDays_29
set_option maxHeartbeats 4000000 in
set_option maxRecDepth 100000 in
theorem kX10_place (l : Launch) (D : va_G) (ca : Nat → ClassId) (ad : Nat → Nat → Nat) (v : Nat → Int32) (g : Nat → Nat → Int32) (nw : Nat) (nb : Nat) (nc : Nat) (nm : Nat) (a1 : Int32) (a2 : Int32) (a3 : Int32) (hO : mOK v nw nb nc nm) : Met l yX10_place (wz yX10_place cX10_place 4 (some .int)) (rmL 3 0 0) (va_Pc [.ref (ad 33 0), .int a1, .int a2, .int a3] (fun U => mq D ca ad v g U.heap ∧ gK D ca U)) (QcRead (mPlace g nw nc nm a1 a2 a3)) 0 0 (fun _ => False) := by
  refine x_met (by decide) (Nat.le_of_ble_eq_true rfl) ?_
  intro p e s m below meth c E hr hlk hnm hq ls hl
  generalize hav : ([.ref (ad 33 0), .int a1, .int a2, .int a3] : List Value).toArray = args at E ⊢
  have hx := E.1
  have hb := E.2.1
  have hown := E.2.2.2.1
  have hts := E.2.2.2.2.1
  have hw : mw D (wA mcnt ad s.heap.size) s.heap ca ad v g s.heap [] := wd.start hq
  generalize hQ : MQ below (QcRead (mPlace g nw nc nm a1 a2 a3)) args s 0 0 (fun _ => False) = Q
  have hl : lv_has ls 4 [(0, .ref (ad 33 0)), (1, .int a1), (2, .int a2), (3, .int a3)] := hl
  have hO5 := hO.2.2.2.2
  refine lv_aload_n hx hb dX10_place_0 rfl (lv_at hl 0 rfl) ?_
  refine lv_iload_n hx hb dX10_place_1 rfl (lv_at hl 1 rfl) ?_
  refine x_read (x_runV (rest := []) E cbX10_isChild tw_707 (kX10_isChild l D ca ad v g nw nb nc nm a1 (hO)) ⟨rfl, rfl, by decide, by decide⟩ (m_recv E hw) (fun _ _ _ _ h => h) (fun U hU _ => by rw [hU]; exact hw.1) rfl hl.1 rfl (Nat.le_of_ble_eq_true rfl) dX10_place_2 ⟨by decide, by decide⟩) ?_
  refine lv_if_eq (tgt := 37) hx hb dX10_place_5 (by decide) (fun c_5 => ?_) (fun c_5 => ?_)
  · skip
    have c_5 := bB_0.mp c_5
    refine lv_iconst (v := (-1)) hx hb dX10_place_37 (by decide) ?_
    subst hQ
    exact x_iret E hr hlk (by simp [mPlace, c_5]) dX10_place_38
  · skip
    have c_5 := bB_n0.mp c_5
    obtain ⟨j, hj, rfl⟩ := isIn_nat (by omega) c_5
    refine lv_aload_n hx hb dX10_place_8 rfl (lv_at hl 0 rfl) ?_
    refine lv_iload_n hx hb dX10_place_9 rfl (lv_at hl 2 rfl) ?_
    refine lv_iload_n hx hb dX10_place_10 rfl (lv_at hl 3 rfl) ?_
    refine x_read (x_runV (rest := []) E cbX10_areDays tw_715 (kX10_areDays l D ca ad v g nw nb nc nm a2 a3 (hO)) ⟨rfl, rfl, by decide, by decide⟩ (m_recv E hw) (fun _ _ _ _ h => h) (fun U hU _ => by rw [hU]; exact hw.1) rfl hl.1 rfl (Nat.le_of_ble_eq_true rfl) dX10_place_11 ⟨by decide, by decide⟩) ?_
    refine lv_if_eq (tgt := 37) hx hb dX10_place_14 (by decide) (fun c_14 => ?_) (fun c_14 => ?_)
    · skip
      have c_14 := bB_0.mp c_14
      refine lv_iconst (v := (-1)) hx hb dX10_place_37 (by decide) ?_
      subst hQ
      exact x_iret E hr hlk (by simp [mPlace, nI_clamp (n := j) (show j < 2 ^ 31 by omega), c_5, c_14]) dX10_place_38
    · skip
      have c_14 := bB_n0.mp c_14
      refine lv_aload_n hx hb dX10_place_17 rfl (lv_at hl 0 rfl) ?_
      refine lv_iload_n hx hb dX10_place_18 rfl (lv_at hl 1 rfl) ?_
      refine lv_iload_n hx hb dX10_place_19 rfl (lv_at hl 2 rfl) ?_
      refine lv_iload_n hx hb dX10_place_20 rfl (lv_at hl 3 rfl) ?_
      refine x_read (x_runV (rest := []) E cbX10_isThere tw_695 (kX10_isThere l D ca ad v g  j a2 a3 (by omega)) ⟨rfl, rfl, by decide, by decide⟩ (m_recv E hw) (fun _ _ _ _ h => h) (fun U hU _ => by rw [hU]; exact hw.1) rfl hl.1 rfl (Nat.le_of_ble_eq_true rfl) dX10_place_21 ⟨by decide, by decide⟩) ?_
      refine lv_if_eq (tgt := 37) hx hb dX10_place_24 (by decide) (fun c_24 => ?_) (fun c_24 => ?_)
      · skip
        have c_24 := bB_0.mp c_24
        refine lv_iconst (v := (-1)) hx hb dX10_place_37 (by decide) ?_
        subst hQ
        exact x_iret E hr hlk (by simp [mPlace, nI_clamp (n := j) (show j < 2 ^ 31 by omega), c_5, c_14, c_24]) dX10_place_38
      · skip
        have c_24 := bB_n0.mp c_24
        refine lv_aload_n hx hb dX10_place_27 rfl (lv_at hl 0 rfl) ?_
        refine lv_iload_n hx hb dX10_place_28 rfl (lv_at hl 1 rfl) ?_
        refine lv_iload_n hx hb dX10_place_29 rfl (lv_at hl 2 rfl) ?_
        refine lv_iload_n hx hb dX10_place_30 rfl (lv_at hl 3 rfl) ?_
        refine x_read (x_runV (rest := []) E cbX10_where tw_699 (kX10_where l D ca ad v g nw nb nc nm (nI j) a2 a3 (hO)) ⟨rfl, rfl, by decide, by decide⟩ (m_recv E hw) (fun _ _ _ _ h => h) (fun U hU _ => by rw [hU]; exact hw.1) rfl hl.1 rfl (Nat.le_of_ble_eq_true rfl) dX10_place_31 ⟨by decide, by decide⟩) ?_
        refine lv_goto (tgt := 38) hx hb dX10_place_34 (by decide) ?_
        subst hQ
        exact x_iret E hr hlk (by simp [mPlace, nI_clamp (n := j) (show j < 2 ^ 31 by omega), c_5, c_14, c_24]) dX10_place_38
set_option maxHeartbeats 4000000 in
set_option maxRecDepth 100000 in
theorem kX10_many (l : Launch) (D : va_G) (ca : Nat → ClassId) (ad : Nat → Nat → Nat) (v : Nat → Int32) (g : Nat → Nat → Int32) (nw : Nat) (nb : Nat) (nc : Nat) (nm : Nat) (a1 : Int32) (a2 : Int32) (a3 : Int32) (hO : mOK v nw nb nc nm) : Met l yX10_many (wz yX10_many cX10_many 4 (some .int)) (rmL 3 0 0) (va_Pc [.ref (ad 33 0), .int a1, .int a2, .int a3] (fun U => mq D ca ad v g U.heap ∧ gK D ca U)) (QcRead (if (isIn a1 0 15 && (isIn a2 0 (nI nw) && isIn a3 0 (nI nw))) = true then nI (mMany g nm a1 a2 a3 nc) else -1)) 0 0 (fun _ => False) := by
  refine x_met (by decide) (Nat.le_of_ble_eq_true rfl) ?_
  intro p e s m below meth c E hr hlk hnm hq ls hl
  generalize hav : ([.ref (ad 33 0), .int a1, .int a2, .int a3] : List Value).toArray = args at E ⊢
  have hx := E.1
  have hb := E.2.1
  have hown := E.2.2.2.1
  have hts := E.2.2.2.2.1
  have hw : mw D (wA mcnt ad s.heap.size) s.heap ca ad v g s.heap [] := wd.start hq
  generalize hQ : MQ below (QcRead (if (isIn a1 0 15 && (isIn a2 0 (nI nw) && isIn a3 0 (nI nw))) = true then nI (mMany g nm a1 a2 a3 nc) else -1)) args s 0 0 (fun _ => False) = Q
  have hl : lv_has ls 4 [(0, .ref (ad 33 0)), (1, .int a1), (2, .int a2), (3, .int a3)] := hl
  refine lv_iload_n hx hb dX10_many_0 rfl (lv_at hl 1 rfl) ?_
  refine lv_iconst (v := 0) hx hb dX10_many_1 (by decide) ?_
  refine lv_bipush (v := 15) hx hb dX10_many_2 (by decide) ?_
  refine x_read (x_runS (rest := []) E cbX10_in tw_649 (kX10_in l D ca a1 0 15 ) ⟨rfl, rfl, by decide, by decide⟩ (fun _ _ _ _ h => h) (fun _ _ _ => trivial) rfl hl.1 rfl (Nat.le_of_ble_eq_true rfl) dX10_many_4 ⟨by decide, by decide⟩) ?_
  refine lv_if_eq (tgt := 29) hx hb dX10_many_7 (by decide) (fun c_7 => ?_) (fun c_7 => ?_)
  · skip
    have c_7 := bB_0.mp c_7
    refine lv_iconst (v := (-1)) hx hb dX10_many_29 (by decide) ?_
    subst hQ
    exact x_iret E hr hlk (by simp [c_7]) dX10_many_30
  · skip
    have c_7 := bB_n0.mp c_7
    refine lv_aload_n hx hb dX10_many_10 rfl (lv_at hl 0 rfl) ?_
    refine lv_iload_n hx hb dX10_many_11 rfl (lv_at hl 2 rfl) ?_
    refine lv_iload_n hx hb dX10_many_12 rfl (lv_at hl 3 rfl) ?_
    refine x_read (x_runV (rest := []) E cbX10_areDays tw_715 (kX10_areDays l D ca ad v g nw nb nc nm a2 a3 (hO)) ⟨rfl, rfl, by decide, by decide⟩ (m_recv E hw) (fun _ _ _ _ h => h) (fun U hU _ => by rw [hU]; exact hw.1) rfl hl.1 rfl (Nat.le_of_ble_eq_true rfl) dX10_many_13 ⟨by decide, by decide⟩) ?_
    refine lv_if_eq (tgt := 29) hx hb dX10_many_16 (by decide) (fun c_16 => ?_) (fun c_16 => ?_)
    · skip
      have c_16 := bB_0.mp c_16
      refine lv_iconst (v := (-1)) hx hb dX10_many_29 (by decide) ?_
      subst hQ
      exact x_iret E hr hlk (by simp [c_7, c_16]) dX10_many_30
    · skip
      have c_16 := bB_n0.mp c_16
      refine lv_aload_n hx hb dX10_many_19 rfl (lv_at hl 0 rfl) ?_
      refine lv_iload_n hx hb dX10_many_20 rfl (lv_at hl 1 rfl) ?_
      refine lv_iload_n hx hb dX10_many_21 rfl (lv_at hl 2 rfl) ?_
      refine lv_iload_n hx hb dX10_many_22 rfl (lv_at hl 3 rfl) ?_
      refine x_read (x_runV (rest := []) E cbX10_manyAt tw_691 (kX10_manyAt l D ca ad v g nw nb nc nm a1 a2 a3 (hO)) ⟨rfl, rfl, by decide, by decide⟩ (m_recv E hw) (fun _ _ _ _ h => h) (fun U hU _ => by rw [hU]; exact hw.1) rfl hl.1 rfl (Nat.le_of_ble_eq_true rfl) dX10_many_23 ⟨by decide, by decide⟩) ?_
      refine lv_goto (tgt := 30) hx hb dX10_many_26 (by decide) ?_
      subst hQ
      exact x_iret E hr hlk (by simp [c_7, c_16]) dX10_many_30
end
section
def mTop (w q : Nat) : Nat := min q (7 * w + 6) + 1 - 7 * w
def mSeen (g : Nat → Nat → Int32) (n w q : Nat) : Bool := anyB (fun k => !(decide (g 23 (2001 * n + (7 * w + k)) = 0))) (mTop w q)
def mSame (g : Nat → Nat → Int32) (nc nm n w q : Nat) : Nat → Nat
  | 0 => 0
  | j + 1 => if j = 0 ∨ mChg g nc nm (nI (7 * w + j)) = true then mMany g nm (nI n) (nI (7 * w + j)) (nI q) nc else mSame g nc nm n w q j
def mWk (g : Nat → Nat → Int32) (nc nm n w q : Nat) : Nat → Nat
  | 0 => 0
  | j + 1 => mWk g nc nm n w q j + mSame g nc nm n w q (j + 1)
def mDw (g : Nat → Nat → Int32) (nc nm n f q : Nat) (seen : Bool) : Nat → Nat
  | 0 => 0
  | k + 1 => mDw g nc nm n f q seen k + (if mSeen g n (f + k) q = seen then mWk g nc nm n (f + k) q (mTop (f + k) q) else 0)
def mDays (g : Nat → Nat → Int32) (nc nm n f l q : Nat) (seen : Bool) : Nat := mDw g nc nm n f q seen (min l (q / 7) + 1 - f)
def mPayOK (nw : Nat) (a1 a2 a3 a4 : Int32) : Bool := isIn a1 1 12 && isIn a2 0 300 && isIn a3 a2 300 && isIn a4 0 (nI nw)
def mPay (g : Nat → Nat → Int32) (nw nc nm : Nat) (a1 a2 a3 a4 : Int32) : Int32 := if mPayOK nw a1 a2 a3 a4 = true then 2 * nI (mDays g nc nm a1.toNatClampNeg a2.toNatClampNeg a3.toNatClampNeg a4.toNatClampNeg true) else -1
def mGap (g : Nat → Nat → Int32) (nw nc nm : Nat) (a1 a2 a3 a4 : Int32) : Int32 := if mPayOK nw a1 a2 a3 a4 = true then nI (mDays g nc nm a1.toNatClampNeg a2.toNatClampNeg a3.toNatClampNeg a4.toNatClampNeg false) else -1
theorem mPayOK_nat {nw : Nat} {a1 a2 a3 a4 : Int32} (hw : nw ≤ 2000) (h : mPayOK nw a1 a2 a3 a4 = true) : ∃ n f l q : Nat, 1 ≤ n ∧ n ≤ 12 ∧ f ≤ l ∧ l ≤ 300 ∧ q ≤ nw ∧ a1 = nI n ∧ a2 = nI f ∧ a3 = nI l ∧ a4 = nI q := by
  simp only [mPayOK, Bool.and_eq_true] at h
  obtain ⟨⟨⟨h1, h2⟩, h3⟩, h4⟩ := h
  obtain ⟨n, g1, g2, rfl⟩ := isIn_rng (lo := 1) (hi := 12) (by decide) (by decide) h1
  obtain ⟨f, g3, g4, rfl⟩ := isIn_rng (lo := 0) (hi := 300) (by decide) (by decide) h2
  obtain ⟨l, g5, g6, rfl⟩ := isIn_rng (lo := f) (hi := 300) (by omega) (by decide) h3
  obtain ⟨q, g7, rfl⟩ := isIn_le (by omega) h4
  exact ⟨n, f, l, q, g1, g2, g5, g6, g7, rfl, rfl, rfl, rfl⟩
def mTh (x k : Int32) : Int32 := (x >>> (3 * k &&& 31)) &&& 7
def mGood (g : Nat → Nat → Int32) (c : Nat) (e t : Int32) (tb : Bool) (k : Nat) : Bool := decide (mTh (g 12 c) (nI k) + mTh e (nI (if tb = true then 7 - k else k)) = 7) && decide (mTh (g 13 c) (nI k) = mTh t (nI (if tb = true then 7 - k else k)))
def mOffB (g : Nat → Nat → Int32) (c : Nat) (e t : Int32) (tb : Bool) : Nat → Nat
  | 0 => 0
  | k + 1 => mOffB g c e t tb k + (if mGood g c e t tb k = true then 0 else 1)
theorem mOffB_le (g : Nat → Nat → Int32) (c : Nat) (e t : Int32) (tb : Bool) : ∀ n, mOffB g c e t tb n ≤ n
  | 0 => Nat.le_refl _
  | n + 1 => by
    have := mOffB_le g c e t tb n
    unfold mOffB
    split <;> omega
def mOff (g : Nat → Nat → Int32) (c : Nat) (e t : Int32) : Nat := min (mOffB g c e t false 8) (mOffB g c e t true 8)
def mOffP (g : Nat → Nat → Int32) (nc : Nat) (a e t : Int32) : Int32 := if (isIn a 0 (nI nc - 1) && isIn e 0 16777215 && isIn t 0 16777215) = true then nI (mOff g a.toNatClampNeg e t) else -1
def mWom (g : Nat → Nat → Int32) (nb : Nat) (a i : Int32) : Bool := isIn a 0 (nI nb - 1) && isIn i 0 (g 6 a.toNatClampNeg - 1)
def mWO (g : Nat → Nat → Int32) (nb : Nat) : Prop := ∀ b, b < nb → ∃ n, n ≤ 20 ∧ g 6 b = nI n
theorem mWom_nat {g : Nat → Nat → Int32} {nb : Nat} {a i : Int32} (hb : nb ≤ 50) (hW : mWO g nb) (h : mWom g nb a i = true) : ∃ b j n : Nat, b < nb ∧ j < n ∧ n ≤ 20 ∧ g 6 b = nI n ∧ a = nI b ∧ i = nI j := by
  simp only [mWom, Bool.and_eq_true] at h
  obtain ⟨b, hb1, rfl⟩ := isIn_nat (by omega) h.1
  obtain ⟨n, hn, e⟩ := hW b hb1
  have h2 := h.2
  rw [nI_clamp (by omega), e] at h2
  obtain ⟨j, hj, rfl⟩ := isIn_nat (by omega) h2
  exact ⟨b, j, n, hb1, hj, hn, e, rfl, rfl⟩
def mBall (g : Nat → Nat → Int32) (nb : Nat) (a i : Int32) : Int32 := if mWom g nb a i = true then g 7 (20 * a.toNatClampNeg + i.toNatClampNeg) else -1
def mOpen (g : Nat → Nat → Int32) (nw nm : Nat) (c : Int32) : Bool := !(decide ((mWh g c (nI nw) (nI nw) nm).1 = 14)) && !(decide ((mWh g c (nI nw) (nI nw) nm).1 = 15))
def mAgr (g : Nat → Nat → Int32) (c : Nat) (a2 a3 a4 a5 : Int32) : Int32 := bB (isIn (g 9 c) a2 a3) + bB (decide (a4 = g 10 c)) + bB (decide (a5 = g 11 c))
def mBoth (nc : Nat) (a1 a2 : Int32) : Bool := isIn a1 0 19 && isIn a2 0 (nI nc - 1)
theorem mBoth_nat {nc : Nat} {a1 a2 : Int32} (hc : nc ≤ 60) (h : mBoth nc a1 a2 = true) : ∃ w j : Nat, w ≤ 19 ∧ j < nc ∧ a1 = nI w ∧ a2 = nI j := by
  simp only [mBoth, Bool.and_eq_true] at h
  obtain ⟨w, g3, g4, rfl⟩ := isIn_rng (lo := 0) (hi := 19) (by decide) (by decide) h.1
  obtain ⟨j, hj, rfl⟩ := isIn_nat (by omega) h.2
  exact ⟨w, j, g4, hj, rfl, rfl⟩
def mAsk (g : Nat → Nat → Int32) (nc : Nat) (a1 a2 : Int32) : Int32 := if mBoth nc a1 a2 = true then (if g 17 (20 * a2.toNatClampNeg + a1.toNatClampNeg) = 0 then 0 else g 16 a2.toNatClampNeg) else -1
def mGuess (g : Nat → Nat → Int32) (nc : Nat) (a1 a2 a3 : Int32) : Int32 := if (mBoth nc a1 a2 && isIn a3 1 1000000) = true then bB (!(decide (g 17 (20 * a2.toNatClampNeg + a1.toNatClampNeg) = 0)) && decide (g 16 a2.toNatClampNeg = a3)) else -1
def mCnt (g : Nat → Nat → Int32) (c : Int32) : Nat → Nat
  | 0 => 0
  | k + 1 => mCnt g c k + (if g 18 k = c then 1 else 0)
def mTold (g : Nat → Nat → Int32) (nc nm : Nat) (a w : Int32) : Int32 := if isIn a 0 (nI nc - 1) = true then (if w = 0 then g 9 a.toNatClampNeg else if w = 1 then g 10 a.toNatClampNeg else if w = 2 then g 11 a.toNatClampNeg else if w = 3 then g 12 a.toNatClampNeg else if w = 4 then g 13 a.toNatClampNeg else if w = 5 then g 14 a.toNatClampNeg else if w = 6 then g 15 a.toNatClampNeg else if w = 7 then nI (mCnt g a nm) else -1) else -1
def mCount (v : Nat → Int32) (g : Nat → Nat → Int32) (nw nb nc nm : Nat) (w : Int32) : Int32 := if w = 0 then nI nw else if w = 1 then nI nc else if w = 2 then nI nb else if w = 3 then nI nm else if w = 4 then v 4 else if w = 5 then v 27 else if w = 6 then v 5 else if w = 7 then nI (mMany g nm 0 (nI nw) (nI nw) nc) else -1
theorem x_sub7 {k : Nat} (h : k < 8) : (7 : Int32) - nI k = nI (7 - k) := pk_sub (a := 7) (b := k) (by omega)
theorem x_le7 {k : Nat} (h : k ≤ 8) (c : (8 : Int32) ≤ nI k) : k = 8 := by
  have := (nI_leI (a := 8) (b := k) (by decide) (by omega)).mp c
  omega
theorem x_lt8 {k : Nat} (h : k ≤ 8) (c : ¬ (8 : Int32) ≤ nI k) : k < 8 := by
  have := mt (nI_leI (a := 8) (b := k) (by decide) (by omega)).mpr c
  omega
end
section
set_option maxHeartbeats 4000000 in
set_option maxRecDepth 100000 in
theorem kX10_isSeen (l : Launch) (D : va_G) (ca : Nat → ClassId) (ad : Nat → Nat → Nat) (v : Nat → Int32) (g : Nat → Nat → Int32) (nw : Nat) (n1 : Nat) (w2 : Nat) (q3 : Nat) (hn1 : n1 ≤ 12) (hw2 : w2 ≤ 300) (hq3 : q3 ≤ 2000) : Met l yX10_isSeen (wz yX10_isSeen cX10_isSeen 5 (some .boolean)) (rmL 1 0 0) (va_Pc [.ref (ad 33 0), .int (nI n1), .int (nI w2), .int (nI q3)] (fun U => mq D ca ad v g U.heap ∧ gK D ca U)) (QcRead (bB (mSeen g n1 w2 q3))) 0 0 (fun _ => False) := by
  refine x_met (by decide) (Nat.le_of_ble_eq_true rfl) ?_
  intro p e s m below meth c E hr hlk hnm hq ls hl
  generalize hav : ([.ref (ad 33 0), .int (nI n1), .int (nI w2), .int (nI q3)] : List Value).toArray = args at E ⊢
  have hx := E.1
  have hb := E.2.1
  have hown := E.2.2.2.1
  have hts := E.2.2.2.2.1
  have hw : mw D (wA mcnt ad s.heap.size) s.heap ca ad v g s.heap [] := wd.start hq
  generalize hQ : MQ below (QcRead (bB (mSeen g n1 w2 q3))) args s 0 0 (fun _ => False) = Q
  have hl : lv_has ls 5 [(0, .ref (ad 33 0)), (1, .int (nI n1)), (2, .int (nI w2)), (3, .int (nI q3))] := hl
  have hmt : mTop w2 q3 ≤ 7 := by unfold mTop; omega
  refine lv_bipush (v := 7) hx hb dX10_isSeen_0 (by decide) ?_
  refine lv_iload_n hx hb dX10_isSeen_2 rfl (lv_at hl 2 rfl) ?_
  refine lv_imul hx hb dX10_isSeen_3 ?_
  refine x_top (x := (7 * nI w2)) (y := (nI (7 * w2))) (pk_mul 7 _) ?_
  refine lv_istore (lv' := [(4, .int (nI (7 * w2))), (0, .ref (ad 33 0)), (1, .int (nI n1)), (2, .int (nI w2)), (3, .int (nI q3))]) hx hb dX10_isSeen_4 hl (by decide) rfl (fun ls hl => ?_)
  have lp6 : ∀ (n : Nat) (k : Nat), (k ≤ mTop w2 q3) → (anyB (fun k => !(decide (g 23 (2001 * n1 + (7 * w2 + k)) = 0))) k = false) → (mTop w2 q3 - k < n) → ∀ ls : Array Slot, lv_has ls 5 [(0, .ref (ad 33 0)), (1, .int (nI n1)), (2, .int (nI w2)), (3, .int (nI q3)), (4, .int (nI (7 * w2 + k)))] → W p l e (rmL 1 0 0) s m args below meth c s.heap [] 0 0 Q (F0 m 6 ls []) := by
    intro n
    induction n with
    | zero =>
      intro k hi hn hfu ls hl
      exact absurd hfu (by omega)
    | succ n ih6 =>
      intro k hi hn hfu ls hl
      refine lv_iload hx hb dX10_isSeen_6 (lv_at hl 4 rfl) ?_
      refine lv_iload_n hx hb dX10_isSeen_8 rfl (lv_at hl 3 rfl) ?_
      refine lv_bipush (v := 7) hx hb dX10_isSeen_9 (by decide) ?_
      refine lv_iload_n hx hb dX10_isSeen_11 rfl (lv_at hl 2 rfl) ?_
      refine lv_imul hx hb dX10_isSeen_12 ?_
      refine x_top (x := (7 * nI w2)) (y := (nI (7 * w2))) (pk_mul 7 _) ?_
      refine lv_bipush (v := 6) hx hb dX10_isSeen_13 (by decide) ?_
      refine lv_iadd hx hb dX10_isSeen_15 ?_
      refine x_top (x := (nI (7 * w2) + 6)) (y := (nI (7 * w2 + 6))) (nI_add _ 6) ?_
      refine va_mmin hx hb (E.2.2.1.trans hl.1.symm) hown (hts _ tw_743) (hts _ tw_356) (hts _ tw_12) (hts _ tw_357) (by decide) (Nat.le_of_ble_eq_true rfl) (Nat.zero_le _) (Nat.zero_le _) dX10_isSeen_16 ?_
      refine x_top (x := (if nI (7 * w2 + 6) < nI q3 then nI (7 * w2 + 6) else nI q3)) (y := (nI (min q3 (7 * w2 + 6)))) (x_min (by omega) (by omega)) ?_
      refine lv_icmp_gt (tgt := 46) hx hb dX10_isSeen_19 (by decide) (fun c_19 => ?_) (fun c_19 => ?_)
      · skip
        have hge : k = mTop w2 q3 := by have q9 := (nI_ltI (a := min q3 (7 * w2 + 6)) (b := 7 * w2 + k) (by unfold mTop at hi; omega) (by unfold mTop at hi; omega)).mp c_19; unfold mTop at *; omega
        refine lv_iconst (v := 0) hx hb dX10_isSeen_46 (by decide) ?_
        subst hQ
        exact x_zret E hr hlk (by decide) (by rw [mSeen, ← hge, hn]; rfl) dX10_isSeen_47
      · skip
        have hlt : 7 * w2 + k ≤ min q3 (7 * w2 + 6) := by have q9 := mt (nI_ltI (a := min q3 (7 * w2 + 6)) (b := 7 * w2 + k) (by omega) (by omega)).mpr c_19; omega
        refine lv_aload_n hx hb dX10_isSeen_22 rfl (lv_at hl 0 rfl) ?_
        refine m_getr E hw 23 (by decide) rfl tw_567 dX10_isSeen_23 ?_
        refine lv_sipush (v := 2001) hx hb dX10_isSeen_26 (by decide) ?_
        refine lv_iload_n hx hb dX10_isSeen_29 rfl (lv_at hl 1 rfl) ?_
        refine lv_imul hx hb dX10_isSeen_30 ?_
        refine x_top (x := (2001 * nI n1)) (y := (nI (2001 * n1))) (pk_mul 2001 _) ?_
        refine lv_iload hx hb dX10_isSeen_31 (lv_at hl 4 rfl) ?_
        refine lv_iadd hx hb dX10_isSeen_33 ?_
        refine x_top (x := (nI (2001 * n1) + nI (7 * w2 + k))) (y := (nI (2001 * n1 + (7 * w2 + k)))) (nI_add _ _) ?_
        refine m_zld E hw 23 ⟨by decide, rfl, rfl⟩ (2001 * n1 + (7 * w2 + k)) (rfl) (by show _ < 26013; omega) dX10_isSeen_34 ?_
        refine lv_if_eq (tgt := 40) hx hb dX10_isSeen_35 (by decide) (fun c_35 => ?_) (fun c_35 => ?_)
        · skip
          refine lv_iinc (v := (nI ((7 * w2 + k) + 1))) (lv' := [(4, .int (nI ((7 * w2 + k) + 1))), (0, .ref (ad 33 0)), (1, .int (nI n1)), (2, .int (nI w2)), (3, .int (nI q3))]) hx hb dX10_isSeen_40 hl (k := 4) rfl (nI_1 _) (by decide) rfl (fun ls hl => ?_)
          refine lv_goto (tgt := 6) hx hb dX10_isSeen_43 (by decide) ?_
          exact ih6 (k + 1) (by unfold mTop at *; omega) (by simp [anyB, hn, c_19, c_35]) (by unfold mTop at *; omega) ls (lv_sub hl [1, 2, 3, 4, 0] rfl)
        · skip
          refine lv_iconst (v := 1) hx hb dX10_isSeen_38 (by decide) ?_
          subst hQ
          exact x_zret E hr hlk (by decide) (by rw [mSeen, anyB_at (i := k) (by unfold mTop; omega) (by simp [c_19, c_35])]; rfl) dX10_isSeen_39
  exact lp6 (mTop w2 q3 + 1) 0 (Nat.zero_le _) (rfl) (by omega) ls (lv_sub hl [1, 2, 3, 4, 0] rfl)
set_option maxHeartbeats 4000000 in
set_option maxRecDepth 100000 in
theorem kX10_daysWith (l : Launch) (D : va_G) (ca : Nat → ClassId) (ad : Nat → Nat → Nat) (v : Nat → Int32) (g : Nat → Nat → Int32) (nw : Nat) (nb : Nat) (nc : Nat) (nm : Nat) (n1 : Nat) (f2 : Nat) (l3 : Nat) (q4 : Nat) (sb : Bool) (hO : mOK v nw nb nc nm) (hn1 : n1 ≤ 12) (hfl : f2 ≤ l3) (hl3 : l3 ≤ 300) (hq4 : q4 ≤ nw) : Met l yX10_daysWith (wz yX10_daysWith cX10_daysWith 10 (some .int)) (rmL 3 0 0) (va_Pc [.ref (ad 33 0), .int (nI n1), .int (nI f2), .int (nI l3), .int (nI q4), .int (bB (sb))] (fun U => mq D ca ad v g U.heap ∧ gK D ca U)) (QcRead (nI (mDays g nc nm n1 f2 l3 q4 sb))) 0 0 (fun _ => False) := by
  refine x_met (by decide) (Nat.le_of_ble_eq_true rfl) ?_
  intro p e s m below meth c E hr hlk hnm hq ls hl
  generalize hav : ([.ref (ad 33 0), .int (nI n1), .int (nI f2), .int (nI l3), .int (nI q4), .int (bB (sb))] : List Value).toArray = args at E ⊢
  have hx := E.1
  have hb := E.2.1
  have hown := E.2.2.2.1
  have hts := E.2.2.2.2.1
  have hw : mw D (wA mcnt ad s.heap.size) s.heap ca ad v g s.heap [] := wd.start hq
  generalize hQ : MQ below (QcRead (nI (mDays g nc nm n1 f2 l3 q4 sb))) args s 0 0 (fun _ => False) = Q
  have hl : lv_has ls 10 [(0, .ref (ad 33 0)), (1, .int (nI n1)), (2, .int (nI f2)), (3, .int (nI l3)), (4, .int (nI q4)), (5, .int (bB (sb)))] := hl
  have hO5 := hO.2.2.2.2
  refine lv_iconst (v := 0) hx hb dX10_daysWith_0 (by decide) ?_
  refine lv_istore (lv' := [(6, .int 0), (0, .ref (ad 33 0)), (1, .int (nI n1)), (2, .int (nI f2)), (3, .int (nI l3)), (4, .int (nI q4)), (5, .int (bB (sb)))]) hx hb dX10_daysWith_1 hl (by decide) rfl (fun ls hl => ?_)
  refine lv_iload_n hx hb dX10_daysWith_3 rfl (lv_at hl 3 rfl) ?_
  refine lv_istore (lv' := [(7, .int (nI f2)), (6, .int 0), (0, .ref (ad 33 0)), (1, .int (nI n1)), (2, .int (nI f2)), (3, .int (nI l3)), (4, .int (nI q4)), (5, .int (bB (sb)))]) hx hb dX10_daysWith_4 hl (by decide) rfl (fun ls hl => ?_)
  have lp6 : ∀ (n : Nat) (k : Nat) (x6 : Int32), (k ≤ min l3 (q4 / 7) + 1 - f2) → (x6 = nI (mDw g nc nm n1 f2 q4 sb k)) → (min l3 (q4 / 7) + 1 - f2 - k < n) → ∀ ls : Array Slot, lv_has ls 10 [(0, .ref (ad 33 0)), (1, .int (nI n1)), (2, .int (nI f2)), (3, .int (nI l3)), (4, .int (nI q4)), (5, .int (bB (sb))), (6, .int x6), (7, .int (nI (f2 + k)))] → W p l e (rmL 3 0 0) s m args below meth c s.heap [] 0 0 Q (F0 m 6 ls []) := by
    intro n
    induction n with
    | zero =>
      intro k x6 hi h6 hfu ls hl
      exact absurd hfu (by omega)
    | succ n ih6 =>
      intro k x6 hi h6 hfu ls hl
      refine lv_iload hx hb dX10_daysWith_6 (lv_at hl 7 rfl) ?_
      refine lv_iload_n hx hb dX10_daysWith_8 rfl (lv_at hl 3 rfl) ?_
      refine lv_icmp_gt (tgt := 121) hx hb dX10_daysWith_9 (by decide) (fun c_9 => ?_) (fun c_9 => ?_)
      · skip
        have hge : k = min l3 (q4 / 7) + 1 - f2 := by have q9 := (nI_ltI (a := l3) (b := f2 + k) (by omega) (by omega)).mp c_9; omega
        refine lv_iload hx hb dX10_daysWith_121 (lv_at hl 6 rfl) ?_
        subst hQ
        exact x_iret E hr hlk (by rw [h6, hge]; rfl) dX10_daysWith_123
      · skip
        have hlt1 : f2 + k ≤ l3 := by have q9 := mt (nI_ltI (a := l3) (b := f2 + k) (by omega) (by omega)).mpr c_9; omega
        refine lv_bipush (v := 7) hx hb dX10_daysWith_12 (by decide) ?_
        refine lv_iload hx hb dX10_daysWith_14 (lv_at hl 7 rfl) ?_
        refine lv_imul hx hb dX10_daysWith_16 ?_
        refine x_top (x := (7 * nI (f2 + k))) (y := (nI (7 * (f2 + k)))) (pk_mul 7 _) ?_
        refine lv_iload hx hb dX10_daysWith_17 (lv_at hl 4 rfl) ?_
        refine lv_icmp_gt (tgt := 121) hx hb dX10_daysWith_19 (by decide) (fun c_19 => ?_) (fun c_19 => ?_)
        · skip
          have hge : k = min l3 (q4 / 7) + 1 - f2 := by have q9 := (nI_ltI (a := q4) (b := 7 * (f2 + k)) (by omega) (by omega)).mp c_19; omega
          refine lv_iload hx hb dX10_daysWith_121 (lv_at hl 6 rfl) ?_
          subst hQ
          exact x_iret E hr hlk (by rw [h6, hge]; rfl) dX10_daysWith_123
        · skip
          have hlt2 : 7 * (f2 + k) ≤ q4 := by have q9 := mt (nI_ltI (a := q4) (b := 7 * (f2 + k)) (by omega) (by omega)).mpr c_19; omega
          refine lv_aload_n hx hb dX10_daysWith_22 rfl (lv_at hl 0 rfl) ?_
          refine lv_iload_n hx hb dX10_daysWith_23 rfl (lv_at hl 1 rfl) ?_
          refine lv_iload hx hb dX10_daysWith_24 (lv_at hl 7 rfl) ?_
          refine lv_iload hx hb dX10_daysWith_26 (lv_at hl 4 rfl) ?_
          refine x_read (x_runV (rest := []) E cbX10_isSeen tw_739 (kX10_isSeen l D ca ad v g nw n1 (f2 + k) q4 (hn1) (by omega) (by omega)) ⟨rfl, rfl, by decide, by decide⟩ (m_recv E hw) (fun _ _ _ _ h => h) (fun U hU _ => by rw [hU]; exact hw.1) rfl hl.1 rfl (Nat.le_of_ble_eq_true rfl) dX10_daysWith_28 ⟨by decide, by decide⟩) ?_
          refine lv_iload hx hb dX10_daysWith_31 (lv_at hl 5 rfl) ?_
          refine lv_icmp_eq (tgt := 39) hx hb dX10_daysWith_33 (by decide) (fun c_33 => ?_) (fun c_33 => ?_)
          · skip
            have hc_s := bB_inj.mp c_33
            refine lv_iconst (v := 0) hx hb dX10_daysWith_39 (by decide) ?_
            refine lv_istore (lv' := [(8, .int 0), (0, .ref (ad 33 0)), (1, .int (nI n1)), (2, .int (nI f2)), (3, .int (nI l3)), (4, .int (nI q4)), (5, .int (bB (sb))), (6, .int x6), (7, .int (nI (f2 + k)))]) hx hb dX10_daysWith_40 hl (by decide) rfl (fun ls hl => ?_)
            refine lv_bipush (v := 7) hx hb dX10_daysWith_42 (by decide) ?_
            refine lv_iload hx hb dX10_daysWith_44 (lv_at hl 8 rfl) ?_
            refine lv_imul hx hb dX10_daysWith_46 ?_
            refine x_top (x := (7 * nI (f2 + k))) (y := (nI (7 * (f2 + k)))) (pk_mul 7 _) ?_
            refine lv_istore (lv' := [(9, .int (nI (7 * (f2 + k)))), (8, .int 0), (0, .ref (ad 33 0)), (1, .int (nI n1)), (2, .int (nI f2)), (3, .int (nI l3)), (4, .int (nI q4)), (5, .int (bB (sb))), (6, .int x6), (7, .int (nI (f2 + k)))]) hx hb dX10_daysWith_47 hl (by decide) rfl (fun ls hl => ?_)
            have lp49 : ∀ (n : Nat) (j : Nat) (x6j : Int32) (x8 : Int32), (j ≤ mTop (f2 + k) q4) → (x6j = nI (mDw g nc nm n1 f2 q4 sb k + mWk g nc nm n1 (f2 + k) q4 j)) → (x8 = nI (mSame g nc nm n1 (f2 + k) q4 j)) → (mTop (f2 + k) q4 - j < n) → ∀ ls : Array Slot, lv_has ls 10 [(0, .ref (ad 33 0)), (1, .int (nI n1)), (2, .int (nI f2)), (3, .int (nI l3)), (4, .int (nI q4)), (5, .int (bB (sb))), (6, .int x6j), (7, .int (nI (f2 + k))), (8, .int x8), (9, .int (nI (7 * (f2 + k) + j)))] → W p l e (rmL 3 0 0) s m args below meth c s.heap [] 0 0 Q (F0 m 49 ls []) := by
              intro n
              induction n with
              | zero =>
                intro j x6j x8 hj h6j h8 hfu ls hl
                exact absurd hfu (by omega)
              | succ n ih49 =>
                intro j x6j x8 hj h6j h8 hfu ls hl
                refine lv_iload hx hb dX10_daysWith_49 (lv_at hl 9 rfl) ?_
                refine lv_iload hx hb dX10_daysWith_51 (lv_at hl 4 rfl) ?_
                refine lv_bipush (v := 7) hx hb dX10_daysWith_53 (by decide) ?_
                refine lv_iload hx hb dX10_daysWith_55 (lv_at hl 7 rfl) ?_
                refine lv_imul hx hb dX10_daysWith_57 ?_
                refine x_top (x := (7 * nI (f2 + k))) (y := (nI (7 * (f2 + k)))) (pk_mul 7 _) ?_
                refine lv_bipush (v := 6) hx hb dX10_daysWith_58 (by decide) ?_
                refine lv_iadd hx hb dX10_daysWith_60 ?_
                refine x_top (x := (nI (7 * (f2 + k)) + 6)) (y := (nI (7 * (f2 + k) + 6))) (nI_add _ 6) ?_
                refine va_mmin hx hb (E.2.2.1.trans hl.1.symm) hown (hts _ tw_743) (hts _ tw_356) (hts _ tw_12) (hts _ tw_357) (by decide) (Nat.le_of_ble_eq_true rfl) (Nat.zero_le _) (Nat.zero_le _) dX10_daysWith_61 ?_
                refine x_top (x := (if nI (7 * (f2 + k) + 6) < nI q4 then nI (7 * (f2 + k) + 6) else nI q4)) (y := (nI (min q4 (7 * (f2 + k) + 6)))) (x_min (by omega) (by omega)) ?_
                refine lv_icmp_gt (tgt := 115) hx hb dX10_daysWith_64 (by decide) (fun c_64 => ?_) (fun c_64 => ?_)
                · skip
                  have hgej : j = mTop (f2 + k) q4 := by have q9 := (nI_ltI (a := min q4 (7 * (f2 + k) + 6)) (b := 7 * (f2 + k) + j) (by unfold mTop at hj; omega) (by unfold mTop at hj; omega)).mp c_64; unfold mTop at *; omega
                  refine lv_iinc (v := (nI ((f2 + k) + 1))) (lv' := [(7, .int (nI ((f2 + k) + 1))), (0, .ref (ad 33 0)), (1, .int (nI n1)), (2, .int (nI f2)), (3, .int (nI l3)), (4, .int (nI q4)), (5, .int (bB (sb))), (6, .int x6j), (8, .int x8), (9, .int (nI (7 * (f2 + k) + j)))]) hx hb dX10_daysWith_115 hl (k := 7) rfl (nI_1 _) (by decide) rfl (fun ls hl => ?_)
                  refine lv_goto (tgt := 6) hx hb dX10_daysWith_118 (by decide) ?_
                  exact ih6 (k + 1) x6j (by omega) (by first | (rw [h6]; simp [mDw, hc_s]; done) | (rw [h6j, hgej]; simp [mDw, hc_s]; done)) (by omega) ls (lv_sub hl [1, 2, 3, 4, 5, 6, 7, 0] rfl)
                · skip
                  have hltj : 7 * (f2 + k) + j ≤ min q4 (7 * (f2 + k) + 6) := by have q9 := mt (nI_ltI (a := min q4 (7 * (f2 + k) + 6)) (b := 7 * (f2 + k) + j) (by omega) (by unfold mTop at hj; omega)).mpr c_64; omega
                  refine lv_iload hx hb dX10_daysWith_67 (lv_at hl 9 rfl) ?_
                  refine lv_bipush (v := 7) hx hb dX10_daysWith_69 (by decide) ?_
                  refine lv_iload hx hb dX10_daysWith_71 (lv_at hl 7 rfl) ?_
                  refine lv_imul hx hb dX10_daysWith_73 ?_
                  refine x_top (x := (7 * nI (f2 + k))) (y := (nI (7 * (f2 + k)))) (pk_mul 7 _) ?_
                  refine lv_icmp_eq (tgt := 86) hx hb dX10_daysWith_74 (by decide) (fun c_74 => ?_) (fun c_74 => ?_)
                  · skip
                    have hc_j : j = 0 := by have q9 := (nI_eq (a := 7 * (f2 + k) + j) (b := 7 * (f2 + k)) (by omega) (by omega)).mp c_74; omega
                    refine lv_aload_n hx hb dX10_daysWith_86 rfl (lv_at hl 0 rfl) ?_
                    refine lv_iload_n hx hb dX10_daysWith_87 rfl (lv_at hl 1 rfl) ?_
                    refine lv_iload hx hb dX10_daysWith_88 (lv_at hl 9 rfl) ?_
                    refine lv_iload hx hb dX10_daysWith_90 (lv_at hl 4 rfl) ?_
                    refine x_read (x_runV (rest := []) E cbX10_manyAt tw_691 (kX10_manyAt l D ca ad v g nw nb nc nm (nI n1) (nI (7 * (f2 + k) + j)) (nI q4) (hO)) ⟨rfl, rfl, by decide, by decide⟩ (m_recv E hw) (fun _ _ _ _ h => h) (fun U hU _ => by rw [hU]; exact hw.1) rfl hl.1 rfl (Nat.le_of_ble_eq_true rfl) dX10_daysWith_92 ⟨by decide, by decide⟩) ?_
                    refine lv_goto (tgt := 100) hx hb dX10_daysWith_95 (by decide) ?_
                    refine lv_istore (lv' := [(8, .int (nI (mMany g nm (nI n1) (nI (7 * (f2 + k) + j)) (nI q4) nc))), (0, .ref (ad 33 0)), (1, .int (nI n1)), (2, .int (nI f2)), (3, .int (nI l3)), (4, .int (nI q4)), (5, .int (bB (sb))), (6, .int x6j), (7, .int (nI (f2 + k))), (9, .int (nI (7 * (f2 + k) + j)))]) hx hb dX10_daysWith_100 hl (by decide) rfl (fun ls hl => ?_)
                    refine lv_iload hx hb dX10_daysWith_102 (lv_at hl 7 rfl) ?_
                    refine lv_iload hx hb dX10_daysWith_104 (lv_at hl 0 rfl) ?_
                    refine lv_iadd hx hb dX10_daysWith_106 ?_
                    refine lv_istore (lv' := [(6, .int (x6j + nI (mMany g nm (nI n1) (nI (7 * (f2 + k) + j)) (nI q4) nc))), (8, .int (nI (mMany g nm (nI n1) (nI (7 * (f2 + k) + j)) (nI q4) nc))), (0, .ref (ad 33 0)), (1, .int (nI n1)), (2, .int (nI f2)), (3, .int (nI l3)), (4, .int (nI q4)), (5, .int (bB (sb))), (7, .int (nI (f2 + k))), (9, .int (nI (7 * (f2 + k) + j)))]) hx hb dX10_daysWith_107 hl (by decide) rfl (fun ls hl => ?_)
                    refine lv_iinc (v := (nI ((7 * (f2 + k) + j) + 1))) (lv' := [(9, .int (nI ((7 * (f2 + k) + j) + 1))), (6, .int (x6j + nI (mMany g nm (nI n1) (nI (7 * (f2 + k) + j)) (nI q4) nc))), (8, .int (nI (mMany g nm (nI n1) (nI (7 * (f2 + k) + j)) (nI q4) nc))), (0, .ref (ad 33 0)), (1, .int (nI n1)), (2, .int (nI f2)), (3, .int (nI l3)), (4, .int (nI q4)), (5, .int (bB (sb))), (7, .int (nI (f2 + k)))]) hx hb dX10_daysWith_109 hl (k := 9) rfl (nI_1 _) (by decide) rfl (fun ls hl => ?_)
                    refine lv_goto (tgt := 49) hx hb dX10_daysWith_112 (by decide) ?_
                    exact ih49 (j + 1) (x6j + nI (mMany g nm (nI n1) (nI (7 * (f2 + k) + j)) (nI q4) nc)) (nI (mMany g nm (nI n1) (nI (7 * (f2 + k) + j)) (nI q4) nc)) (by unfold mTop at *; omega) (by rw [h6j]; simp [mWk, mSame, hc_j, h8, nI_add, Nat.add_assoc, c_64, c_74, hc_j]) (by simp [mSame, hc_j, h8, c_64, c_74, hc_j]) (by unfold mTop at *; omega) ls (lv_sub hl [3, 4, 5, 6, 7, 8, 1, 9, 2, 0] rfl)
                  · skip
                    have hc_j : ¬ j = 0 := by have q9 := mt (nI_eq (a := 7 * (f2 + k) + j) (b := 7 * (f2 + k)) (by omega) (by omega)).mpr c_74; omega
                    refine lv_aload_n hx hb dX10_daysWith_77 rfl (lv_at hl 0 rfl) ?_
                    refine lv_iload hx hb dX10_daysWith_78 (lv_at hl 9 rfl) ?_
                    refine x_read (x_runV (rest := []) E cbX10_changesOn tw_687 (kX10_changesOn l D ca ad v g nw nb nc nm (nI (7 * (f2 + k) + j)) (hO)) ⟨rfl, rfl, by decide, by decide⟩ (m_recv E hw) (fun _ _ _ _ h => h) (fun U hU _ => by rw [hU]; exact hw.1) rfl hl.1 rfl (Nat.le_of_ble_eq_true rfl) dX10_daysWith_80 ⟨by decide, by decide⟩) ?_
                    refine lv_if_eq (tgt := 98) hx hb dX10_daysWith_83 (by decide) (fun c_83 => ?_) (fun c_83 => ?_)
                    · skip
                      have c_83 := bB_0.mp c_83
                      refine lv_iload hx hb dX10_daysWith_98 (lv_at hl 8 rfl) ?_
                      refine lv_istore (lv' := [(8, .int x8), (0, .ref (ad 33 0)), (1, .int (nI n1)), (2, .int (nI f2)), (3, .int (nI l3)), (4, .int (nI q4)), (5, .int (bB (sb))), (6, .int x6j), (7, .int (nI (f2 + k))), (9, .int (nI (7 * (f2 + k) + j)))]) hx hb dX10_daysWith_100 hl (by decide) rfl (fun ls hl => ?_)
                      refine lv_iload hx hb dX10_daysWith_102 (lv_at hl 7 rfl) ?_
                      refine lv_iload hx hb dX10_daysWith_104 (lv_at hl 0 rfl) ?_
                      refine lv_iadd hx hb dX10_daysWith_106 ?_
                      refine lv_istore (lv' := [(6, .int (x6j + x8)), (8, .int x8), (0, .ref (ad 33 0)), (1, .int (nI n1)), (2, .int (nI f2)), (3, .int (nI l3)), (4, .int (nI q4)), (5, .int (bB (sb))), (7, .int (nI (f2 + k))), (9, .int (nI (7 * (f2 + k) + j)))]) hx hb dX10_daysWith_107 hl (by decide) rfl (fun ls hl => ?_)
                      refine lv_iinc (v := (nI ((7 * (f2 + k) + j) + 1))) (lv' := [(9, .int (nI ((7 * (f2 + k) + j) + 1))), (6, .int (x6j + x8)), (8, .int x8), (0, .ref (ad 33 0)), (1, .int (nI n1)), (2, .int (nI f2)), (3, .int (nI l3)), (4, .int (nI q4)), (5, .int (bB (sb))), (7, .int (nI (f2 + k)))]) hx hb dX10_daysWith_109 hl (k := 9) rfl (nI_1 _) (by decide) rfl (fun ls hl => ?_)
                      refine lv_goto (tgt := 49) hx hb dX10_daysWith_112 (by decide) ?_
                      exact ih49 (j + 1) (x6j + x8) x8 (by unfold mTop at *; omega) (by rw [h6j]; simp [mWk, mSame, hc_j, h8, nI_add, Nat.add_assoc, c_64, c_74, hc_j, c_83]) (by simp [mSame, hc_j, h8, c_64, c_74, hc_j, c_83]) (by unfold mTop at *; omega) ls (lv_sub hl [3, 4, 5, 6, 7, 8, 1, 9, 2, 0] rfl)
                    · skip
                      have c_83 := bB_n0.mp c_83
                      refine lv_aload_n hx hb dX10_daysWith_86 rfl (lv_at hl 0 rfl) ?_
                      refine lv_iload_n hx hb dX10_daysWith_87 rfl (lv_at hl 1 rfl) ?_
                      refine lv_iload hx hb dX10_daysWith_88 (lv_at hl 9 rfl) ?_
                      refine lv_iload hx hb dX10_daysWith_90 (lv_at hl 4 rfl) ?_
                      refine x_read (x_runV (rest := []) E cbX10_manyAt tw_691 (kX10_manyAt l D ca ad v g nw nb nc nm (nI n1) (nI (7 * (f2 + k) + j)) (nI q4) (hO)) ⟨rfl, rfl, by decide, by decide⟩ (m_recv E hw) (fun _ _ _ _ h => h) (fun U hU _ => by rw [hU]; exact hw.1) rfl hl.1 rfl (Nat.le_of_ble_eq_true rfl) dX10_daysWith_92 ⟨by decide, by decide⟩) ?_
                      refine lv_goto (tgt := 100) hx hb dX10_daysWith_95 (by decide) ?_
                      refine lv_istore (lv' := [(8, .int (nI (mMany g nm (nI n1) (nI (7 * (f2 + k) + j)) (nI q4) nc))), (0, .ref (ad 33 0)), (1, .int (nI n1)), (2, .int (nI f2)), (3, .int (nI l3)), (4, .int (nI q4)), (5, .int (bB (sb))), (6, .int x6j), (7, .int (nI (f2 + k))), (9, .int (nI (7 * (f2 + k) + j)))]) hx hb dX10_daysWith_100 hl (by decide) rfl (fun ls hl => ?_)
                      refine lv_iload hx hb dX10_daysWith_102 (lv_at hl 7 rfl) ?_
                      refine lv_iload hx hb dX10_daysWith_104 (lv_at hl 0 rfl) ?_
                      refine lv_iadd hx hb dX10_daysWith_106 ?_
                      refine lv_istore (lv' := [(6, .int (x6j + nI (mMany g nm (nI n1) (nI (7 * (f2 + k) + j)) (nI q4) nc))), (8, .int (nI (mMany g nm (nI n1) (nI (7 * (f2 + k) + j)) (nI q4) nc))), (0, .ref (ad 33 0)), (1, .int (nI n1)), (2, .int (nI f2)), (3, .int (nI l3)), (4, .int (nI q4)), (5, .int (bB (sb))), (7, .int (nI (f2 + k))), (9, .int (nI (7 * (f2 + k) + j)))]) hx hb dX10_daysWith_107 hl (by decide) rfl (fun ls hl => ?_)
                      refine lv_iinc (v := (nI ((7 * (f2 + k) + j) + 1))) (lv' := [(9, .int (nI ((7 * (f2 + k) + j) + 1))), (6, .int (x6j + nI (mMany g nm (nI n1) (nI (7 * (f2 + k) + j)) (nI q4) nc))), (8, .int (nI (mMany g nm (nI n1) (nI (7 * (f2 + k) + j)) (nI q4) nc))), (0, .ref (ad 33 0)), (1, .int (nI n1)), (2, .int (nI f2)), (3, .int (nI l3)), (4, .int (nI q4)), (5, .int (bB (sb))), (7, .int (nI (f2 + k)))]) hx hb dX10_daysWith_109 hl (k := 9) rfl (nI_1 _) (by decide) rfl (fun ls hl => ?_)
                      refine lv_goto (tgt := 49) hx hb dX10_daysWith_112 (by decide) ?_
                      exact ih49 (j + 1) (x6j + nI (mMany g nm (nI n1) (nI (7 * (f2 + k) + j)) (nI q4) nc)) (nI (mMany g nm (nI n1) (nI (7 * (f2 + k) + j)) (nI q4) nc)) (by unfold mTop at *; omega) (by rw [h6j]; simp [mWk, mSame, hc_j, h8, nI_add, Nat.add_assoc, c_64, c_74, hc_j, c_83]) (by simp [mSame, hc_j, h8, c_64, c_74, hc_j, c_83]) (by unfold mTop at *; omega) ls (lv_sub hl [3, 4, 5, 6, 7, 8, 1, 9, 2, 0] rfl)
            exact lp49 (mTop (f2 + k) q4 + 1) 0 x6 0 (Nat.zero_le _) (by rw [h6]; rfl) (rfl) (by omega) ls (lv_sub hl [2, 3, 4, 5, 6, 7, 8, 9, 1, 0] rfl)
          · skip
            have hc_s := mt bB_inj.mpr c_33
            refine lv_goto (tgt := 115) hx hb dX10_daysWith_36 (by decide) ?_
            refine lv_iinc (v := (nI ((f2 + k) + 1))) (lv' := [(7, .int (nI ((f2 + k) + 1))), (0, .ref (ad 33 0)), (1, .int (nI n1)), (2, .int (nI f2)), (3, .int (nI l3)), (4, .int (nI q4)), (5, .int (bB (sb))), (6, .int x6)]) hx hb dX10_daysWith_115 hl (k := 7) rfl (nI_1 _) (by decide) rfl (fun ls hl => ?_)
            refine lv_goto (tgt := 6) hx hb dX10_daysWith_118 (by decide) ?_
            exact ih6 (k + 1) x6 (by omega) (by first | (rw [h6]; simp [mDw, hc_s]; done) | (rw [h6j, hgej]; simp [mDw, hc_s]; done)) (by omega) ls (lv_sub hl [1, 2, 3, 4, 5, 6, 7, 0] rfl)
  exact lp6 (min l3 (q4 / 7) + 2) 0 0 (Nat.zero_le _) (rfl) (by omega) ls (lv_sub hl [2, 3, 4, 5, 6, 7, 1, 0] rfl)
set_option maxHeartbeats 4000000 in
set_option maxRecDepth 100000 in
theorem kX10_areWeeks (l : Launch) (D : va_G) (ca : Nat → ClassId) (ad : Nat → Nat → Nat) (v : Nat → Int32) (g : Nat → Nat → Int32) (nw : Nat) (nb : Nat) (nc : Nat) (nm : Nat) (a1 : Int32) (a2 : Int32) (a3 : Int32) (a4 : Int32) (hO : mOK v nw nb nc nm) : Met l yX10_areWeeks (wz yX10_areWeeks cX10_areWeeks 5 (some .boolean)) (rmL 2 0 0) (va_Pc [.ref (ad 33 0), .int a1, .int a2, .int a3, .int a4] (fun U => mq D ca ad v g U.heap ∧ gK D ca U)) (QcRead (bB (mPayOK nw a1 a2 a3 a4))) 0 0 (fun _ => False) := by
  refine x_met (by decide) (Nat.le_of_ble_eq_true rfl) ?_
  intro p e s m below meth c E hr hlk hnm hq ls hl
  generalize hav : ([.ref (ad 33 0), .int a1, .int a2, .int a3, .int a4] : List Value).toArray = args at E ⊢
  have hx := E.1
  have hb := E.2.1
  have hown := E.2.2.2.1
  have hts := E.2.2.2.2.1
  have hw : mw D (wA mcnt ad s.heap.size) s.heap ca ad v g s.heap [] := wd.start hq
  generalize hQ : MQ below (QcRead (bB (mPayOK nw a1 a2 a3 a4))) args s 0 0 (fun _ => False) = Q
  have hl : lv_has ls 5 [(0, .ref (ad 33 0)), (1, .int a1), (2, .int a2), (3, .int a3), (4, .int a4)] := hl
  refine lv_iload_n hx hb dX10_areWeeks_0 rfl (lv_at hl 1 rfl) ?_
  refine lv_iconst (v := 1) hx hb dX10_areWeeks_1 (by decide) ?_
  refine lv_bipush (v := 12) hx hb dX10_areWeeks_2 (by decide) ?_
  refine x_read (x_runS (rest := []) E cbX10_in tw_649 (kX10_in l D ca a1 1 12 ) ⟨rfl, rfl, by decide, by decide⟩ (fun _ _ _ _ h => h) (fun _ _ _ => trivial) rfl hl.1 rfl (Nat.le_of_ble_eq_true rfl) dX10_areWeeks_4 ⟨by decide, by decide⟩) ?_
  refine lv_if_eq (tgt := 49) hx hb dX10_areWeeks_7 (by decide) (fun c_7 => ?_) (fun c_7 => ?_)
  · skip
    have c_7 := bB_0.mp c_7
    refine lv_iconst (v := 0) hx hb dX10_areWeeks_49 (by decide) ?_
    subst hQ
    exact x_zret E hr hlk (by decide) (by simp [bB, mPayOK, c_7]) dX10_areWeeks_50
  · skip
    have c_7 := bB_n0.mp c_7
    refine lv_iload_n hx hb dX10_areWeeks_10 rfl (lv_at hl 2 rfl) ?_
    refine lv_iconst (v := 0) hx hb dX10_areWeeks_11 (by decide) ?_
    refine lv_sipush (v := 300) hx hb dX10_areWeeks_12 (by decide) ?_
    refine x_read (x_runS (rest := []) E cbX10_in tw_649 (kX10_in l D ca a2 0 300 ) ⟨rfl, rfl, by decide, by decide⟩ (fun _ _ _ _ h => h) (fun _ _ _ => trivial) rfl hl.1 rfl (Nat.le_of_ble_eq_true rfl) dX10_areWeeks_15 ⟨by decide, by decide⟩) ?_
    refine lv_if_eq (tgt := 49) hx hb dX10_areWeeks_18 (by decide) (fun c_18 => ?_) (fun c_18 => ?_)
    · skip
      have c_18 := bB_0.mp c_18
      refine lv_iconst (v := 0) hx hb dX10_areWeeks_49 (by decide) ?_
      subst hQ
      exact x_zret E hr hlk (by decide) (by simp [bB, mPayOK, c_7, c_18]) dX10_areWeeks_50
    · skip
      have c_18 := bB_n0.mp c_18
      refine lv_iload_n hx hb dX10_areWeeks_21 rfl (lv_at hl 3 rfl) ?_
      refine lv_iload_n hx hb dX10_areWeeks_22 rfl (lv_at hl 2 rfl) ?_
      refine lv_sipush (v := 300) hx hb dX10_areWeeks_23 (by decide) ?_
      refine x_read (x_runS (rest := []) E cbX10_in tw_649 (kX10_in l D ca a3 a2 300 ) ⟨rfl, rfl, by decide, by decide⟩ (fun _ _ _ _ h => h) (fun _ _ _ => trivial) rfl hl.1 rfl (Nat.le_of_ble_eq_true rfl) dX10_areWeeks_26 ⟨by decide, by decide⟩) ?_
      refine lv_if_eq (tgt := 49) hx hb dX10_areWeeks_29 (by decide) (fun c_29 => ?_) (fun c_29 => ?_)
      · skip
        have c_29 := bB_0.mp c_29
        refine lv_iconst (v := 0) hx hb dX10_areWeeks_49 (by decide) ?_
        subst hQ
        exact x_zret E hr hlk (by decide) (by simp [bB, mPayOK, c_7, c_18, c_29]) dX10_areWeeks_50
      · skip
        have c_29 := bB_n0.mp c_29
        refine lv_iload hx hb dX10_areWeeks_32 (lv_at hl 4 rfl) ?_
        refine lv_iconst (v := 0) hx hb dX10_areWeeks_34 (by decide) ?_
        refine lv_aload_n hx hb dX10_areWeeks_35 rfl (lv_at hl 0 rfl) ?_
        refine m_geti (x := (nI nw)) E hw 0 (by decide) rfl tw_544 (hO.1) dX10_areWeeks_36 ?_
        refine x_read (x_runS (rest := []) E cbX10_in tw_649 (kX10_in l D ca a4 0 (nI nw) ) ⟨rfl, rfl, by decide, by decide⟩ (fun _ _ _ _ h => h) (fun _ _ _ => trivial) rfl hl.1 rfl (Nat.le_of_ble_eq_true rfl) dX10_areWeeks_39 ⟨by decide, by decide⟩) ?_
        refine lv_if_eq (tgt := 49) hx hb dX10_areWeeks_42 (by decide) (fun c_42 => ?_) (fun c_42 => ?_)
        · skip
          have c_42 := bB_0.mp c_42
          refine lv_iconst (v := 0) hx hb dX10_areWeeks_49 (by decide) ?_
          subst hQ
          exact x_zret E hr hlk (by decide) (by simp [bB, mPayOK, c_7, c_18, c_29, c_42]) dX10_areWeeks_50
        · skip
          have c_42 := bB_n0.mp c_42
          refine lv_iconst (v := 1) hx hb dX10_areWeeks_45 (by decide) ?_
          refine lv_goto (tgt := 50) hx hb dX10_areWeeks_46 (by decide) ?_
          subst hQ
          exact x_zret E hr hlk (by decide) (by simp [bB, mPayOK, c_7, c_18, c_29, c_42]) dX10_areWeeks_50
set_option maxHeartbeats 4000000 in
set_option maxRecDepth 100000 in
theorem kX10_pay (l : Launch) (D : va_G) (ca : Nat → ClassId) (ad : Nat → Nat → Nat) (v : Nat → Int32) (g : Nat → Nat → Int32) (nw : Nat) (nb : Nat) (nc : Nat) (nm : Nat) (a1 : Int32) (a2 : Int32) (a3 : Int32) (a4 : Int32) (hO : mOK v nw nb nc nm) : Met l yX10_pay (wz yX10_pay cX10_pay 5 (some .int)) (rmL 4 0 0) (va_Pc [.ref (ad 33 0), .int a1, .int a2, .int a3, .int a4] (fun U => mq D ca ad v g U.heap ∧ gK D ca U)) (QcRead (mPay g nw nc nm a1 a2 a3 a4)) 0 0 (fun _ => False) := by
  refine x_met (by decide) (Nat.le_of_ble_eq_true rfl) ?_
  intro p e s m below meth c E hr hlk hnm hq ls hl
  generalize hav : ([.ref (ad 33 0), .int a1, .int a2, .int a3, .int a4] : List Value).toArray = args at E ⊢
  have hx := E.1
  have hb := E.2.1
  have hown := E.2.2.2.1
  have hts := E.2.2.2.2.1
  have hw : mw D (wA mcnt ad s.heap.size) s.heap ca ad v g s.heap [] := wd.start hq
  generalize hQ : MQ below (QcRead (mPay g nw nc nm a1 a2 a3 a4)) args s 0 0 (fun _ => False) = Q
  have hl : lv_has ls 5 [(0, .ref (ad 33 0)), (1, .int a1), (2, .int a2), (3, .int a3), (4, .int a4)] := hl
  have hO5 := hO.2.2.2.2
  refine lv_aload_n hx hb dX10_pay_0 rfl (lv_at hl 0 rfl) ?_
  refine lv_iload_n hx hb dX10_pay_1 rfl (lv_at hl 1 rfl) ?_
  refine lv_iload_n hx hb dX10_pay_2 rfl (lv_at hl 2 rfl) ?_
  refine lv_iload_n hx hb dX10_pay_3 rfl (lv_at hl 3 rfl) ?_
  refine lv_iload hx hb dX10_pay_4 (lv_at hl 4 rfl) ?_
  refine x_read (x_runV (rest := []) E cbX10_areWeeks tw_731 (kX10_areWeeks l D ca ad v g nw nb nc nm a1 a2 a3 a4 (hO)) ⟨rfl, rfl, by decide, by decide⟩ (m_recv E hw) (fun _ _ _ _ h => h) (fun U hU _ => by rw [hU]; exact hw.1) rfl hl.1 rfl (Nat.le_of_ble_eq_true rfl) dX10_pay_6 ⟨by decide, by decide⟩) ?_
  refine lv_if_eq (tgt := 27) hx hb dX10_pay_9 (by decide) (fun c_9 => ?_) (fun c_9 => ?_)
  · skip
    have c_9 := bB_0.mp c_9
    refine lv_iconst (v := (-1)) hx hb dX10_pay_27 (by decide) ?_
    subst hQ
    exact x_iret E hr hlk (by first | (simp [mPay, c_9]; done) | simp [mPay, nI_clamp (n := n1) (by omega), nI_clamp (n := f2) (by omega), nI_clamp (n := l3) (by omega), nI_clamp (n := q4) (by omega), c_9]) dX10_pay_28
  · skip
    have c_9 := bB_n0.mp c_9
    obtain ⟨n1, f2, l3, q4, g1, g2, g3, g4, g5, rfl, rfl, rfl, rfl⟩ := mPayOK_nat hO5.1 c_9
    refine lv_iconst (v := 2) hx hb dX10_pay_12 (by decide) ?_
    refine lv_aload_n hx hb dX10_pay_13 rfl (lv_at hl 0 rfl) ?_
    refine lv_iload_n hx hb dX10_pay_14 rfl (lv_at hl 1 rfl) ?_
    refine lv_iload_n hx hb dX10_pay_15 rfl (lv_at hl 2 rfl) ?_
    refine lv_iload_n hx hb dX10_pay_16 rfl (lv_at hl 3 rfl) ?_
    refine lv_iload hx hb dX10_pay_17 (lv_at hl 4 rfl) ?_
    refine lv_iconst (v := 1) hx hb dX10_pay_19 (by decide) ?_
    refine x_read (x_runV (rest := [.int 2]) E cbX10_daysWith tw_735 (kX10_daysWith l D ca ad v g nw nb nc nm n1 f2 l3 q4 true (hO) (by omega) (by omega) (by omega) (by omega)) ⟨rfl, rfl, by decide, by decide⟩ (m_recv E hw) (fun _ _ _ _ h => h) (fun U hU _ => by rw [hU]; exact hw.1) rfl hl.1 rfl (Nat.le_of_ble_eq_true rfl) dX10_pay_20 ⟨by decide, by decide⟩) ?_
    refine lv_imul hx hb dX10_pay_23 ?_
    refine lv_goto (tgt := 28) hx hb dX10_pay_24 (by decide) ?_
    subst hQ
    exact x_iret E hr hlk (by first | (simp [mPay, c_9]; done) | simp [mPay, nI_clamp (n := n1) (by omega), nI_clamp (n := f2) (by omega), nI_clamp (n := l3) (by omega), nI_clamp (n := q4) (by omega), c_9]) dX10_pay_28
set_option maxHeartbeats 4000000 in
set_option maxRecDepth 100000 in
theorem kX10_gap (l : Launch) (D : va_G) (ca : Nat → ClassId) (ad : Nat → Nat → Nat) (v : Nat → Int32) (g : Nat → Nat → Int32) (nw : Nat) (nb : Nat) (nc : Nat) (nm : Nat) (a1 : Int32) (a2 : Int32) (a3 : Int32) (a4 : Int32) (hO : mOK v nw nb nc nm) : Met l yX10_gap (wz yX10_gap cX10_gap 5 (some .int)) (rmL 4 0 0) (va_Pc [.ref (ad 33 0), .int a1, .int a2, .int a3, .int a4] (fun U => mq D ca ad v g U.heap ∧ gK D ca U)) (QcRead (mGap g nw nc nm a1 a2 a3 a4)) 0 0 (fun _ => False) := by
  refine x_met (by decide) (Nat.le_of_ble_eq_true rfl) ?_
  intro p e s m below meth c E hr hlk hnm hq ls hl
  generalize hav : ([.ref (ad 33 0), .int a1, .int a2, .int a3, .int a4] : List Value).toArray = args at E ⊢
  have hx := E.1
  have hb := E.2.1
  have hown := E.2.2.2.1
  have hts := E.2.2.2.2.1
  have hw : mw D (wA mcnt ad s.heap.size) s.heap ca ad v g s.heap [] := wd.start hq
  generalize hQ : MQ below (QcRead (mGap g nw nc nm a1 a2 a3 a4)) args s 0 0 (fun _ => False) = Q
  have hl : lv_has ls 5 [(0, .ref (ad 33 0)), (1, .int a1), (2, .int a2), (3, .int a3), (4, .int a4)] := hl
  have hO5 := hO.2.2.2.2
  refine lv_aload_n hx hb dX10_gap_0 rfl (lv_at hl 0 rfl) ?_
  refine lv_iload_n hx hb dX10_gap_1 rfl (lv_at hl 1 rfl) ?_
  refine lv_iload_n hx hb dX10_gap_2 rfl (lv_at hl 2 rfl) ?_
  refine lv_iload_n hx hb dX10_gap_3 rfl (lv_at hl 3 rfl) ?_
  refine lv_iload hx hb dX10_gap_4 (lv_at hl 4 rfl) ?_
  refine x_read (x_runV (rest := []) E cbX10_areWeeks tw_731 (kX10_areWeeks l D ca ad v g nw nb nc nm a1 a2 a3 a4 (hO)) ⟨rfl, rfl, by decide, by decide⟩ (m_recv E hw) (fun _ _ _ _ h => h) (fun U hU _ => by rw [hU]; exact hw.1) rfl hl.1 rfl (Nat.le_of_ble_eq_true rfl) dX10_gap_6 ⟨by decide, by decide⟩) ?_
  refine lv_if_eq (tgt := 25) hx hb dX10_gap_9 (by decide) (fun c_9 => ?_) (fun c_9 => ?_)
  · skip
    have c_9 := bB_0.mp c_9
    refine lv_iconst (v := (-1)) hx hb dX10_gap_25 (by decide) ?_
    subst hQ
    exact x_iret E hr hlk (by first | (simp [mGap, c_9]; done) | simp [mGap, nI_clamp (n := n1) (by omega), nI_clamp (n := f2) (by omega), nI_clamp (n := l3) (by omega), nI_clamp (n := q4) (by omega), c_9]) dX10_gap_26
  · skip
    have c_9 := bB_n0.mp c_9
    obtain ⟨n1, f2, l3, q4, g1, g2, g3, g4, g5, rfl, rfl, rfl, rfl⟩ := mPayOK_nat hO5.1 c_9
    refine lv_aload_n hx hb dX10_gap_12 rfl (lv_at hl 0 rfl) ?_
    refine lv_iload_n hx hb dX10_gap_13 rfl (lv_at hl 1 rfl) ?_
    refine lv_iload_n hx hb dX10_gap_14 rfl (lv_at hl 2 rfl) ?_
    refine lv_iload_n hx hb dX10_gap_15 rfl (lv_at hl 3 rfl) ?_
    refine lv_iload hx hb dX10_gap_16 (lv_at hl 4 rfl) ?_
    refine lv_iconst (v := 0) hx hb dX10_gap_18 (by decide) ?_
    refine x_read (x_runV (rest := []) E cbX10_daysWith tw_735 (kX10_daysWith l D ca ad v g nw nb nc nm n1 f2 l3 q4 false (hO) (by omega) (by omega) (by omega) (by omega)) ⟨rfl, rfl, by decide, by decide⟩ (m_recv E hw) (fun _ _ _ _ h => h) (fun U hU _ => by rw [hU]; exact hw.1) rfl hl.1 rfl (Nat.le_of_ble_eq_true rfl) dX10_gap_19 ⟨by decide, by decide⟩) ?_
    refine lv_goto (tgt := 26) hx hb dX10_gap_22 (by decide) ?_
    subst hQ
    exact x_iret E hr hlk (by first | (simp [mGap, c_9]; done) | simp [mGap, nI_clamp (n := n1) (by omega), nI_clamp (n := f2) (by omega), nI_clamp (n := l3) (by omega), nI_clamp (n := q4) (by omega), c_9]) dX10_gap_26
set_option maxHeartbeats 4000000 in
set_option maxRecDepth 100000 in
theorem kX10_third (l : Launch) (D : va_G) (ca : Nat → ClassId) (a1 : Int32) (a2 : Int32)  : Met l yX10_third (wz yX10_third cX10_third 2 (some .int)) (rmL 1 0 0) (va_Pc [.int a1, .int a2] (fun U => True ∧ gK D ca U)) (QcRead (mTh a1 a2)) 0 0 (fun _ => False) := by
  refine x_met (by decide) (Nat.le_of_ble_eq_true rfl) ?_
  intro p e s m below meth c E hr hlk hnm hq ls hl
  generalize hav : ([.int a1, .int a2] : List Value).toArray = args at E ⊢
  have hx := E.1
  have hb := E.2.1
  have hown := E.2.2.2.1
  have hts := E.2.2.2.2.1
  generalize hQ : MQ below (QcRead (mTh a1 a2)) args s 0 0 (fun _ => False) = Q
  have hl : lv_has ls 2 [(0, .int a1), (1, .int a2)] := hl
  refine lv_iload_n hx hb dX10_third_0 rfl (lv_at hl 0 rfl) ?_
  refine lv_iconst (v := 3) hx hb dX10_third_1 (by decide) ?_
  refine lv_iload_n hx hb dX10_third_2 rfl (lv_at hl 1 rfl) ?_
  refine lv_imul hx hb dX10_third_3 ?_
  refine lv_ishr hx hb dX10_third_4 ?_
  refine lv_bipush (v := 7) hx hb dX10_third_5 (by decide) ?_
  refine lv_iand hx hb dX10_third_7 ?_
  subst hQ
  exact x_iret E hr hlk (rfl) dX10_third_8
set_option maxHeartbeats 4000000 in
set_option maxRecDepth 100000 in
theorem kX10_offBy (l : Launch) (D : va_G) (ca : Nat → ClassId) (ad : Nat → Nat → Nat) (v : Nat → Int32) (g : Nat → Nat → Int32) (c1 : Nat) (a2 : Int32) (a3 : Int32) (tb : Bool) (hc1 : c1 < 60) : Met l yX10_offBy (wz yX10_offBy cX10_offBy 9 (some .int)) (rmL 2 0 0) (va_Pc [.ref (ad 33 0), .int (nI c1), .int a2, .int a3, .int (bB (tb))] (fun U => mq D ca ad v g U.heap ∧ gK D ca U)) (QcRead (nI (mOffB g c1 a2 a3 tb 8))) 0 0 (fun _ => False) := by
  refine x_met (by decide) (Nat.le_of_ble_eq_true rfl) ?_
  intro p e s m below meth c E hr hlk hnm hq ls hl
  generalize hav : ([.ref (ad 33 0), .int (nI c1), .int a2, .int a3, .int (bB (tb))] : List Value).toArray = args at E ⊢
  have hx := E.1
  have hb := E.2.1
  have hown := E.2.2.2.1
  have hts := E.2.2.2.2.1
  have hw : mw D (wA mcnt ad s.heap.size) s.heap ca ad v g s.heap [] := wd.start hq
  generalize hQ : MQ below (QcRead (nI (mOffB g c1 a2 a3 tb 8))) args s 0 0 (fun _ => False) = Q
  have hl : lv_has ls 9 [(0, .ref (ad 33 0)), (1, .int (nI c1)), (2, .int a2), (3, .int a3), (4, .int (bB (tb)))] := hl
  refine lv_iconst (v := 0) hx hb dX10_offBy_0 (by decide) ?_
  refine lv_istore (lv' := [(5, .int 0), (0, .ref (ad 33 0)), (1, .int (nI c1)), (2, .int a2), (3, .int a3), (4, .int (bB (tb)))]) hx hb dX10_offBy_1 hl (by decide) rfl (fun ls hl => ?_)
  refine lv_iconst (v := 0) hx hb dX10_offBy_3 (by decide) ?_
  refine lv_istore (lv' := [(6, .int 0), (5, .int 0), (0, .ref (ad 33 0)), (1, .int (nI c1)), (2, .int a2), (3, .int a3), (4, .int (bB (tb)))]) hx hb dX10_offBy_4 hl (by decide) rfl (fun ls hl => ?_)
  have lp6 : ∀ (n : Nat) (k : Nat) (x5 : Int32), (k ≤ 8) → (x5 = nI (mOffB g c1 a2 a3 tb k)) → (8 - k < n) → ∀ ls : Array Slot, lv_has ls 9 [(0, .ref (ad 33 0)), (1, .int (nI c1)), (2, .int a2), (3, .int a3), (4, .int (bB (tb))), (5, .int x5), (6, .int (nI k))] → W p l e (rmL 2 0 0) s m args below meth c s.heap [] 0 0 Q (F0 m 6 ls []) := by
    intro n
    induction n with
    | zero =>
      intro k x5 hi h5 hfu ls hl
      exact absurd hfu (by omega)
    | succ n ih6 =>
      intro k x5 hi h5 hfu ls hl
      refine lv_iload hx hb dX10_offBy_6 (lv_at hl 6 rfl) ?_
      refine lv_bipush (v := 8) hx hb dX10_offBy_8 (by decide) ?_
      refine lv_icmp_ge (tgt := 101) hx hb dX10_offBy_10 (by decide) (fun c_10 => ?_) (fun c_10 => ?_)
      · skip
        obtain rfl := x_le7 hi c_10
        refine lv_iload hx hb dX10_offBy_101 (lv_at hl 5 rfl) ?_
        subst hQ
        exact x_iret E hr hlk (h5) dX10_offBy_103
      · skip
        have hlt := x_lt8 hi c_10
        refine lv_iload hx hb dX10_offBy_13 (lv_at hl 4 rfl) ?_
        refine lv_if_eq (tgt := 26) hx hb dX10_offBy_15 (by decide) (fun c_15 => ?_) (fun c_15 => ?_)
        · skip
          have c_15 := bB_0.mp c_15
          refine lv_iload hx hb dX10_offBy_26 (lv_at hl 6 rfl) ?_
          refine lv_istore (lv' := [(7, .int (nI k)), (0, .ref (ad 33 0)), (1, .int (nI c1)), (2, .int a2), (3, .int a3), (4, .int (bB (tb))), (5, .int x5), (6, .int (nI k))]) hx hb dX10_offBy_28 hl (by decide) rfl (fun ls hl => ?_)
          refine lv_aload_n hx hb dX10_offBy_30 rfl (lv_at hl 1 rfl) ?_
          refine m_getr E hw 12 (by decide) rfl tw_556 dX10_offBy_31 ?_
          refine lv_iload_n hx hb dX10_offBy_34 rfl (lv_at hl 2 rfl) ?_
          refine m_ild E hw 12 ⟨by decide, rfl, rfl⟩ c1 (rfl) (hc1) dX10_offBy_35 ?_
          refine lv_iload hx hb dX10_offBy_36 (lv_at hl 7 rfl) ?_
          refine x_read (x_runS (rest := []) E cbX10_third tw_760 (kX10_third l D ca (g 12 c1) (nI k) ) ⟨rfl, rfl, by decide, by decide⟩ (fun _ _ _ _ h => h) (fun _ _ _ => trivial) rfl hl.1 rfl (Nat.le_of_ble_eq_true rfl) dX10_offBy_38 ⟨by decide, by decide⟩) ?_
          refine lv_iload_n hx hb dX10_offBy_41 rfl (lv_at hl 3 rfl) ?_
          refine lv_iload hx hb dX10_offBy_42 (lv_at hl 0 rfl) ?_
          refine x_read (x_runS (rest := [.int (mTh (g 12 c1) (nI k))]) E cbX10_third tw_760 (kX10_third l D ca a2 (nI k) ) ⟨rfl, rfl, by decide, by decide⟩ (fun _ _ _ _ h => h) (fun _ _ _ => trivial) rfl hl.1 rfl (Nat.le_of_ble_eq_true rfl) dX10_offBy_44 ⟨by decide, by decide⟩) ?_
          refine lv_iadd hx hb dX10_offBy_47 ?_
          refine lv_bipush (v := 7) hx hb dX10_offBy_48 (by decide) ?_
          refine lv_icmp_ne (tgt := 77) hx hb dX10_offBy_50 (by decide) (fun c_50 => ?_) (fun c_50 => ?_)
          · skip
            refine lv_iconst (v := 0) hx hb dX10_offBy_77 (by decide) ?_
            refine lv_istore (lv' := [(8, .int 0), (7, .int (nI k)), (0, .ref (ad 33 0)), (1, .int (nI c1)), (2, .int a2), (3, .int a3), (4, .int (bB (tb))), (5, .int x5), (6, .int (nI k))]) hx hb dX10_offBy_78 hl (by decide) rfl (fun ls hl => ?_)
            refine lv_iload hx hb dX10_offBy_80 (lv_at hl 7 rfl) ?_
            refine lv_iload hx hb dX10_offBy_82 (lv_at hl 0 rfl) ?_
            refine lv_if_eq (tgt := 91) hx hb dX10_offBy_84 (by decide) (fun c_84 => ?_) (fun c_84 => ?_)
            · skip
              refine lv_iconst (v := 1) hx hb dX10_offBy_91 (by decide) ?_
              refine lv_iadd hx hb dX10_offBy_92 ?_
              refine lv_istore (lv' := [(5, .int (x5 + 1)), (8, .int 0), (7, .int (nI k)), (0, .ref (ad 33 0)), (1, .int (nI c1)), (2, .int a2), (3, .int a3), (4, .int (bB (tb))), (6, .int (nI k))]) hx hb dX10_offBy_93 hl (by decide) rfl (fun ls hl => ?_)
              refine lv_iinc (v := (nI (k + 1))) (lv' := [(6, .int (nI (k + 1))), (5, .int (x5 + 1)), (8, .int 0), (7, .int (nI k)), (0, .ref (ad 33 0)), (1, .int (nI c1)), (2, .int a2), (3, .int a3), (4, .int (bB (tb)))]) hx hb dX10_offBy_95 hl (k := 8) rfl (nI_1 _) (by decide) rfl (fun ls hl => ?_)
              refine lv_goto (tgt := 6) hx hb dX10_offBy_98 (by decide) ?_
              exact ih6 (k + 1) (x5 + 1) (hlt) (by rw [h5]; simp [mOffB, mGood, nI_1, c_10, c_15, c_50]) (by omega) ls (lv_sub hl [4, 5, 6, 7, 8, 1, 0] rfl)
            · skip
              exact absurd c_84 (by decide)
          · skip
            refine lv_aload_n hx hb dX10_offBy_53 rfl (lv_at hl 1 rfl) ?_
            refine m_getr E hw 13 (by decide) rfl tw_557 dX10_offBy_54 ?_
            refine lv_iload_n hx hb dX10_offBy_57 rfl (lv_at hl 2 rfl) ?_
            refine m_ild E hw 13 ⟨by decide, rfl, rfl⟩ c1 (rfl) (hc1) dX10_offBy_58 ?_
            refine lv_iload hx hb dX10_offBy_59 (lv_at hl 7 rfl) ?_
            refine x_read (x_runS (rest := []) E cbX10_third tw_760 (kX10_third l D ca (g 13 c1) (nI k) ) ⟨rfl, rfl, by decide, by decide⟩ (fun _ _ _ _ h => h) (fun _ _ _ => trivial) rfl hl.1 rfl (Nat.le_of_ble_eq_true rfl) dX10_offBy_61 ⟨by decide, by decide⟩) ?_
            refine lv_iload_n hx hb dX10_offBy_64 rfl (lv_at hl 4 rfl) ?_
            refine lv_iload hx hb dX10_offBy_65 (lv_at hl 0 rfl) ?_
            refine x_read (x_runS (rest := [.int (mTh (g 13 c1) (nI k))]) E cbX10_third tw_760 (kX10_third l D ca a3 (nI k) ) ⟨rfl, rfl, by decide, by decide⟩ (fun _ _ _ _ h => h) (fun _ _ _ => trivial) rfl hl.1 rfl (Nat.le_of_ble_eq_true rfl) dX10_offBy_67 ⟨by decide, by decide⟩) ?_
            refine lv_icmp_ne (tgt := 77) hx hb dX10_offBy_70 (by decide) (fun c_70 => ?_) (fun c_70 => ?_)
            · skip
              refine lv_iconst (v := 0) hx hb dX10_offBy_77 (by decide) ?_
              refine lv_istore (lv' := [(8, .int 0), (7, .int (nI k)), (0, .ref (ad 33 0)), (1, .int (nI c1)), (2, .int a2), (3, .int a3), (4, .int (bB (tb))), (5, .int x5), (6, .int (nI k))]) hx hb dX10_offBy_78 hl (by decide) rfl (fun ls hl => ?_)
              refine lv_iload hx hb dX10_offBy_80 (lv_at hl 7 rfl) ?_
              refine lv_iload hx hb dX10_offBy_82 (lv_at hl 0 rfl) ?_
              refine lv_if_eq (tgt := 91) hx hb dX10_offBy_84 (by decide) (fun c_84 => ?_) (fun c_84 => ?_)
              · skip
                refine lv_iconst (v := 1) hx hb dX10_offBy_91 (by decide) ?_
                refine lv_iadd hx hb dX10_offBy_92 ?_
                refine lv_istore (lv' := [(5, .int (x5 + 1)), (8, .int 0), (7, .int (nI k)), (0, .ref (ad 33 0)), (1, .int (nI c1)), (2, .int a2), (3, .int a3), (4, .int (bB (tb))), (6, .int (nI k))]) hx hb dX10_offBy_93 hl (by decide) rfl (fun ls hl => ?_)
                refine lv_iinc (v := (nI (k + 1))) (lv' := [(6, .int (nI (k + 1))), (5, .int (x5 + 1)), (8, .int 0), (7, .int (nI k)), (0, .ref (ad 33 0)), (1, .int (nI c1)), (2, .int a2), (3, .int a3), (4, .int (bB (tb)))]) hx hb dX10_offBy_95 hl (k := 8) rfl (nI_1 _) (by decide) rfl (fun ls hl => ?_)
                refine lv_goto (tgt := 6) hx hb dX10_offBy_98 (by decide) ?_
                exact ih6 (k + 1) (x5 + 1) (hlt) (by rw [h5]; simp [mOffB, mGood, nI_1, c_10, c_15, c_50, c_70]) (by omega) ls (lv_sub hl [4, 5, 6, 7, 8, 1, 0] rfl)
              · skip
                exact absurd c_84 (by decide)
            · skip
              refine lv_iconst (v := 1) hx hb dX10_offBy_73 (by decide) ?_
              refine lv_goto (tgt := 78) hx hb dX10_offBy_74 (by decide) ?_
              refine lv_istore (lv' := [(8, .int 1), (7, .int (nI k)), (0, .ref (ad 33 0)), (1, .int (nI c1)), (2, .int a2), (3, .int a3), (4, .int (bB (tb))), (5, .int x5), (6, .int (nI k))]) hx hb dX10_offBy_78 hl (by decide) rfl (fun ls hl => ?_)
              refine lv_iload hx hb dX10_offBy_80 (lv_at hl 7 rfl) ?_
              refine lv_iload hx hb dX10_offBy_82 (lv_at hl 0 rfl) ?_
              refine lv_if_eq (tgt := 91) hx hb dX10_offBy_84 (by decide) (fun c_84 => ?_) (fun c_84 => ?_)
              · skip
                exact absurd c_84 (by decide)
              · skip
                refine lv_iconst (v := 0) hx hb dX10_offBy_87 (by decide) ?_
                refine lv_goto (tgt := 92) hx hb dX10_offBy_88 (by decide) ?_
                refine lv_iadd hx hb dX10_offBy_92 ?_
                refine lv_istore (lv' := [(5, .int (x5 + 0)), (8, .int 1), (7, .int (nI k)), (0, .ref (ad 33 0)), (1, .int (nI c1)), (2, .int a2), (3, .int a3), (4, .int (bB (tb))), (6, .int (nI k))]) hx hb dX10_offBy_93 hl (by decide) rfl (fun ls hl => ?_)
                refine lv_iinc (v := (nI (k + 1))) (lv' := [(6, .int (nI (k + 1))), (5, .int (x5 + 0)), (8, .int 1), (7, .int (nI k)), (0, .ref (ad 33 0)), (1, .int (nI c1)), (2, .int a2), (3, .int a3), (4, .int (bB (tb)))]) hx hb dX10_offBy_95 hl (k := 8) rfl (nI_1 _) (by decide) rfl (fun ls hl => ?_)
                refine lv_goto (tgt := 6) hx hb dX10_offBy_98 (by decide) ?_
                exact ih6 (k + 1) (x5 + 0) (hlt) (by rw [h5]; simp [mOffB, mGood, nI_1, c_10, c_15, c_50, c_70]) (by omega) ls (lv_sub hl [4, 5, 6, 7, 8, 1, 0] rfl)
        · skip
          have c_15 := bB_n0.mp c_15
          refine lv_bipush (v := 7) hx hb dX10_offBy_18 (by decide) ?_
          refine lv_iload hx hb dX10_offBy_20 (lv_at hl 6 rfl) ?_
          refine lv_isub hx hb dX10_offBy_22 ?_
          refine x_top (x := (7 - nI k)) (y := (nI (7 - k))) (x_sub7 hlt) ?_
          refine lv_goto (tgt := 28) hx hb dX10_offBy_23 (by decide) ?_
          refine lv_istore (lv' := [(7, .int (nI (7 - k))), (0, .ref (ad 33 0)), (1, .int (nI c1)), (2, .int a2), (3, .int a3), (4, .int (bB (tb))), (5, .int x5), (6, .int (nI k))]) hx hb dX10_offBy_28 hl (by decide) rfl (fun ls hl => ?_)
          refine lv_aload_n hx hb dX10_offBy_30 rfl (lv_at hl 1 rfl) ?_
          refine m_getr E hw 12 (by decide) rfl tw_556 dX10_offBy_31 ?_
          refine lv_iload_n hx hb dX10_offBy_34 rfl (lv_at hl 2 rfl) ?_
          refine m_ild E hw 12 ⟨by decide, rfl, rfl⟩ c1 (rfl) (hc1) dX10_offBy_35 ?_
          refine lv_iload hx hb dX10_offBy_36 (lv_at hl 7 rfl) ?_
          refine x_read (x_runS (rest := []) E cbX10_third tw_760 (kX10_third l D ca (g 12 c1) (nI k) ) ⟨rfl, rfl, by decide, by decide⟩ (fun _ _ _ _ h => h) (fun _ _ _ => trivial) rfl hl.1 rfl (Nat.le_of_ble_eq_true rfl) dX10_offBy_38 ⟨by decide, by decide⟩) ?_
          refine lv_iload_n hx hb dX10_offBy_41 rfl (lv_at hl 3 rfl) ?_
          refine lv_iload hx hb dX10_offBy_42 (lv_at hl 0 rfl) ?_
          refine x_read (x_runS (rest := [.int (mTh (g 12 c1) (nI k))]) E cbX10_third tw_760 (kX10_third l D ca a2 (nI (7 - k)) ) ⟨rfl, rfl, by decide, by decide⟩ (fun _ _ _ _ h => h) (fun _ _ _ => trivial) rfl hl.1 rfl (Nat.le_of_ble_eq_true rfl) dX10_offBy_44 ⟨by decide, by decide⟩) ?_
          refine lv_iadd hx hb dX10_offBy_47 ?_
          refine lv_bipush (v := 7) hx hb dX10_offBy_48 (by decide) ?_
          refine lv_icmp_ne (tgt := 77) hx hb dX10_offBy_50 (by decide) (fun c_50 => ?_) (fun c_50 => ?_)
          · skip
            refine lv_iconst (v := 0) hx hb dX10_offBy_77 (by decide) ?_
            refine lv_istore (lv' := [(8, .int 0), (7, .int (nI (7 - k))), (0, .ref (ad 33 0)), (1, .int (nI c1)), (2, .int a2), (3, .int a3), (4, .int (bB (tb))), (5, .int x5), (6, .int (nI k))]) hx hb dX10_offBy_78 hl (by decide) rfl (fun ls hl => ?_)
            refine lv_iload hx hb dX10_offBy_80 (lv_at hl 7 rfl) ?_
            refine lv_iload hx hb dX10_offBy_82 (lv_at hl 0 rfl) ?_
            refine lv_if_eq (tgt := 91) hx hb dX10_offBy_84 (by decide) (fun c_84 => ?_) (fun c_84 => ?_)
            · skip
              refine lv_iconst (v := 1) hx hb dX10_offBy_91 (by decide) ?_
              refine lv_iadd hx hb dX10_offBy_92 ?_
              refine lv_istore (lv' := [(5, .int (x5 + 1)), (8, .int 0), (7, .int (nI (7 - k))), (0, .ref (ad 33 0)), (1, .int (nI c1)), (2, .int a2), (3, .int a3), (4, .int (bB (tb))), (6, .int (nI k))]) hx hb dX10_offBy_93 hl (by decide) rfl (fun ls hl => ?_)
              refine lv_iinc (v := (nI (k + 1))) (lv' := [(6, .int (nI (k + 1))), (5, .int (x5 + 1)), (8, .int 0), (7, .int (nI (7 - k))), (0, .ref (ad 33 0)), (1, .int (nI c1)), (2, .int a2), (3, .int a3), (4, .int (bB (tb)))]) hx hb dX10_offBy_95 hl (k := 8) rfl (nI_1 _) (by decide) rfl (fun ls hl => ?_)
              refine lv_goto (tgt := 6) hx hb dX10_offBy_98 (by decide) ?_
              exact ih6 (k + 1) (x5 + 1) (hlt) (by rw [h5]; simp [mOffB, mGood, nI_1, c_10, c_15, c_50]) (by omega) ls (lv_sub hl [4, 5, 6, 7, 8, 1, 0] rfl)
            · skip
              exact absurd c_84 (by decide)
          · skip
            refine lv_aload_n hx hb dX10_offBy_53 rfl (lv_at hl 1 rfl) ?_
            refine m_getr E hw 13 (by decide) rfl tw_557 dX10_offBy_54 ?_
            refine lv_iload_n hx hb dX10_offBy_57 rfl (lv_at hl 2 rfl) ?_
            refine m_ild E hw 13 ⟨by decide, rfl, rfl⟩ c1 (rfl) (hc1) dX10_offBy_58 ?_
            refine lv_iload hx hb dX10_offBy_59 (lv_at hl 7 rfl) ?_
            refine x_read (x_runS (rest := []) E cbX10_third tw_760 (kX10_third l D ca (g 13 c1) (nI k) ) ⟨rfl, rfl, by decide, by decide⟩ (fun _ _ _ _ h => h) (fun _ _ _ => trivial) rfl hl.1 rfl (Nat.le_of_ble_eq_true rfl) dX10_offBy_61 ⟨by decide, by decide⟩) ?_
            refine lv_iload_n hx hb dX10_offBy_64 rfl (lv_at hl 4 rfl) ?_
            refine lv_iload hx hb dX10_offBy_65 (lv_at hl 0 rfl) ?_
            refine x_read (x_runS (rest := [.int (mTh (g 13 c1) (nI k))]) E cbX10_third tw_760 (kX10_third l D ca a3 (nI (7 - k)) ) ⟨rfl, rfl, by decide, by decide⟩ (fun _ _ _ _ h => h) (fun _ _ _ => trivial) rfl hl.1 rfl (Nat.le_of_ble_eq_true rfl) dX10_offBy_67 ⟨by decide, by decide⟩) ?_
            refine lv_icmp_ne (tgt := 77) hx hb dX10_offBy_70 (by decide) (fun c_70 => ?_) (fun c_70 => ?_)
            · skip
              refine lv_iconst (v := 0) hx hb dX10_offBy_77 (by decide) ?_
              refine lv_istore (lv' := [(8, .int 0), (7, .int (nI (7 - k))), (0, .ref (ad 33 0)), (1, .int (nI c1)), (2, .int a2), (3, .int a3), (4, .int (bB (tb))), (5, .int x5), (6, .int (nI k))]) hx hb dX10_offBy_78 hl (by decide) rfl (fun ls hl => ?_)
              refine lv_iload hx hb dX10_offBy_80 (lv_at hl 7 rfl) ?_
              refine lv_iload hx hb dX10_offBy_82 (lv_at hl 0 rfl) ?_
              refine lv_if_eq (tgt := 91) hx hb dX10_offBy_84 (by decide) (fun c_84 => ?_) (fun c_84 => ?_)
              · skip
                refine lv_iconst (v := 1) hx hb dX10_offBy_91 (by decide) ?_
                refine lv_iadd hx hb dX10_offBy_92 ?_
                refine lv_istore (lv' := [(5, .int (x5 + 1)), (8, .int 0), (7, .int (nI (7 - k))), (0, .ref (ad 33 0)), (1, .int (nI c1)), (2, .int a2), (3, .int a3), (4, .int (bB (tb))), (6, .int (nI k))]) hx hb dX10_offBy_93 hl (by decide) rfl (fun ls hl => ?_)
                refine lv_iinc (v := (nI (k + 1))) (lv' := [(6, .int (nI (k + 1))), (5, .int (x5 + 1)), (8, .int 0), (7, .int (nI (7 - k))), (0, .ref (ad 33 0)), (1, .int (nI c1)), (2, .int a2), (3, .int a3), (4, .int (bB (tb)))]) hx hb dX10_offBy_95 hl (k := 8) rfl (nI_1 _) (by decide) rfl (fun ls hl => ?_)
                refine lv_goto (tgt := 6) hx hb dX10_offBy_98 (by decide) ?_
                exact ih6 (k + 1) (x5 + 1) (hlt) (by rw [h5]; simp [mOffB, mGood, nI_1, c_10, c_15, c_50, c_70]) (by omega) ls (lv_sub hl [4, 5, 6, 7, 8, 1, 0] rfl)
              · skip
                exact absurd c_84 (by decide)
            · skip
              refine lv_iconst (v := 1) hx hb dX10_offBy_73 (by decide) ?_
              refine lv_goto (tgt := 78) hx hb dX10_offBy_74 (by decide) ?_
              refine lv_istore (lv' := [(8, .int 1), (7, .int (nI (7 - k))), (0, .ref (ad 33 0)), (1, .int (nI c1)), (2, .int a2), (3, .int a3), (4, .int (bB (tb))), (5, .int x5), (6, .int (nI k))]) hx hb dX10_offBy_78 hl (by decide) rfl (fun ls hl => ?_)
              refine lv_iload hx hb dX10_offBy_80 (lv_at hl 7 rfl) ?_
              refine lv_iload hx hb dX10_offBy_82 (lv_at hl 0 rfl) ?_
              refine lv_if_eq (tgt := 91) hx hb dX10_offBy_84 (by decide) (fun c_84 => ?_) (fun c_84 => ?_)
              · skip
                exact absurd c_84 (by decide)
              · skip
                refine lv_iconst (v := 0) hx hb dX10_offBy_87 (by decide) ?_
                refine lv_goto (tgt := 92) hx hb dX10_offBy_88 (by decide) ?_
                refine lv_iadd hx hb dX10_offBy_92 ?_
                refine lv_istore (lv' := [(5, .int (x5 + 0)), (8, .int 1), (7, .int (nI (7 - k))), (0, .ref (ad 33 0)), (1, .int (nI c1)), (2, .int a2), (3, .int a3), (4, .int (bB (tb))), (6, .int (nI k))]) hx hb dX10_offBy_93 hl (by decide) rfl (fun ls hl => ?_)
                refine lv_iinc (v := (nI (k + 1))) (lv' := [(6, .int (nI (k + 1))), (5, .int (x5 + 0)), (8, .int 1), (7, .int (nI (7 - k))), (0, .ref (ad 33 0)), (1, .int (nI c1)), (2, .int a2), (3, .int a3), (4, .int (bB (tb)))]) hx hb dX10_offBy_95 hl (k := 8) rfl (nI_1 _) (by decide) rfl (fun ls hl => ?_)
                refine lv_goto (tgt := 6) hx hb dX10_offBy_98 (by decide) ?_
                exact ih6 (k + 1) (x5 + 0) (hlt) (by rw [h5]; simp [mOffB, mGood, nI_1, c_10, c_15, c_50, c_70]) (by omega) ls (lv_sub hl [4, 5, 6, 7, 8, 1, 0] rfl)
  exact lp6 9 0 0 (by omega) (rfl) (by omega) ls (lv_sub hl [2, 3, 4, 5, 6, 1, 0] rfl)
set_option maxHeartbeats 4000000 in
set_option maxRecDepth 100000 in
theorem kX10_offOf (l : Launch) (D : va_G) (ca : Nat → ClassId) (ad : Nat → Nat → Nat) (v : Nat → Int32) (g : Nat → Nat → Int32) (c1 : Nat) (a2 : Int32) (a3 : Int32) (hc1 : c1 < 60) : Met l yX10_offOf (wz yX10_offOf cX10_offOf 4 (some .int)) (rmL 3 0 0) (va_Pc [.ref (ad 33 0), .int (nI c1), .int a2, .int a3] (fun U => mq D ca ad v g U.heap ∧ gK D ca U)) (QcRead (nI (mOff g c1 a2 a3))) 0 0 (fun _ => False) := by
  refine x_met (by decide) (Nat.le_of_ble_eq_true rfl) ?_
  intro p e s m below meth c E hr hlk hnm hq ls hl
  generalize hav : ([.ref (ad 33 0), .int (nI c1), .int a2, .int a3] : List Value).toArray = args at E ⊢
  have hx := E.1
  have hb := E.2.1
  have hown := E.2.2.2.1
  have hts := E.2.2.2.2.1
  have hw : mw D (wA mcnt ad s.heap.size) s.heap ca ad v g s.heap [] := wd.start hq
  generalize hQ : MQ below (QcRead (nI (mOff g c1 a2 a3))) args s 0 0 (fun _ => False) = Q
  have hl : lv_has ls 4 [(0, .ref (ad 33 0)), (1, .int (nI c1)), (2, .int a2), (3, .int a3)] := hl
  refine lv_aload_n hx hb dX10_offOf_0 rfl (lv_at hl 0 rfl) ?_
  refine lv_iload_n hx hb dX10_offOf_1 rfl (lv_at hl 1 rfl) ?_
  refine lv_iload_n hx hb dX10_offOf_2 rfl (lv_at hl 2 rfl) ?_
  refine lv_iload_n hx hb dX10_offOf_3 rfl (lv_at hl 3 rfl) ?_
  refine lv_iconst (v := 0) hx hb dX10_offOf_4 (by decide) ?_
  refine x_read (x_runV (rest := []) E cbX10_offBy tw_756 (kX10_offBy l D ca ad v g  c1 a2 a3 false (hc1)) ⟨rfl, rfl, by decide, by decide⟩ (m_recv E hw) (fun _ _ _ _ h => h) (fun U hU _ => by rw [hU]; exact hw.1) rfl hl.1 rfl (Nat.le_of_ble_eq_true rfl) dX10_offOf_5 ⟨by decide, by decide⟩) ?_
  refine lv_aload_n hx hb dX10_offOf_8 rfl (lv_at hl 0 rfl) ?_
  refine lv_iload_n hx hb dX10_offOf_9 rfl (lv_at hl 1 rfl) ?_
  refine lv_iload_n hx hb dX10_offOf_10 rfl (lv_at hl 2 rfl) ?_
  refine lv_iload_n hx hb dX10_offOf_11 rfl (lv_at hl 3 rfl) ?_
  refine lv_iconst (v := 1) hx hb dX10_offOf_12 (by decide) ?_
  refine x_read (x_runV (rest := [.int (nI (mOffB g c1 a2 a3 false 8))]) E cbX10_offBy tw_756 (kX10_offBy l D ca ad v g  c1 a2 a3 true (hc1)) ⟨rfl, rfl, by decide, by decide⟩ (m_recv E hw) (fun _ _ _ _ h => h) (fun U hU _ => by rw [hU]; exact hw.1) rfl hl.1 rfl (Nat.le_of_ble_eq_true rfl) dX10_offOf_13 ⟨by decide, by decide⟩) ?_
  refine va_mmin hx hb (E.2.2.1.trans hl.1.symm) hown (hts _ tw_743) (hts _ tw_356) (hts _ tw_12) (hts _ tw_357) (by decide) (Nat.le_of_ble_eq_true rfl) (Nat.zero_le _) (Nat.zero_le _) dX10_offOf_16 ?_
  subst hQ
  exact x_iret E hr hlk (x_min (by have := mOffB_le g c1 a2 a3 false 8; omega) (by have := mOffB_le g c1 a2 a3 true 8; omega)) dX10_offOf_19
set_option maxHeartbeats 4000000 in
set_option maxRecDepth 100000 in
theorem kX10_off (l : Launch) (D : va_G) (ca : Nat → ClassId) (ad : Nat → Nat → Nat) (v : Nat → Int32) (g : Nat → Nat → Int32) (nw : Nat) (nb : Nat) (nc : Nat) (nm : Nat) (a1 : Int32) (a2 : Int32) (a3 : Int32) (hO : mOK v nw nb nc nm) : Met l yX10_off (wz yX10_off cX10_off 4 (some .int)) (rmL 4 0 0) (va_Pc [.ref (ad 33 0), .int a1, .int a2, .int a3] (fun U => mq D ca ad v g U.heap ∧ gK D ca U)) (QcRead (mOffP g nc a1 a2 a3)) 0 0 (fun _ => False) := by
  refine x_met (by decide) (Nat.le_of_ble_eq_true rfl) ?_
  intro p e s m below meth c E hr hlk hnm hq ls hl
  generalize hav : ([.ref (ad 33 0), .int a1, .int a2, .int a3] : List Value).toArray = args at E ⊢
  have hx := E.1
  have hb := E.2.1
  have hown := E.2.2.2.1
  have hts := E.2.2.2.2.1
  have hw : mw D (wA mcnt ad s.heap.size) s.heap ca ad v g s.heap [] := wd.start hq
  generalize hQ : MQ below (QcRead (mOffP g nc a1 a2 a3)) args s 0 0 (fun _ => False) = Q
  have hl : lv_has ls 4 [(0, .ref (ad 33 0)), (1, .int a1), (2, .int a2), (3, .int a3)] := hl
  have hO5 := hO.2.2.2.2
  refine lv_aload_n hx hb dX10_off_0 rfl (lv_at hl 0 rfl) ?_
  refine lv_iload_n hx hb dX10_off_1 rfl (lv_at hl 1 rfl) ?_
  refine x_read (x_runV (rest := []) E cbX10_isChild tw_707 (kX10_isChild l D ca ad v g nw nb nc nm a1 (hO)) ⟨rfl, rfl, by decide, by decide⟩ (m_recv E hw) (fun _ _ _ _ h => h) (fun U hU _ => by rw [hU]; exact hw.1) rfl hl.1 rfl (Nat.le_of_ble_eq_true rfl) dX10_off_2 ⟨by decide, by decide⟩) ?_
  refine lv_if_eq (tgt := 38) hx hb dX10_off_5 (by decide) (fun c_5 => ?_) (fun c_5 => ?_)
  · skip
    have c_5 := bB_0.mp c_5
    refine lv_iconst (v := (-1)) hx hb dX10_off_38 (by decide) ?_
    subst hQ
    exact x_iret E hr hlk (by first | (simp [mOffP, c_5]; done) | simp [mOffP, nI_clamp (n := j) (by omega), c_5]) dX10_off_39
  · skip
    have c_5 := bB_n0.mp c_5
    obtain ⟨j, hj, rfl⟩ := isIn_nat (by omega) c_5
    refine lv_iload_n hx hb dX10_off_8 rfl (lv_at hl 2 rfl) ?_
    refine lv_iconst (v := 0) hx hb dX10_off_9 (by decide) ?_
    refine lv_ldc hx hb hown (hts _ tw_678) dX10_off_10 ?_
    refine x_read (x_runS (rest := []) E cbX10_in tw_649 (kX10_in l D ca a2 0 16777215 ) ⟨rfl, rfl, by decide, by decide⟩ (fun _ _ _ _ h => h) (fun _ _ _ => trivial) rfl hl.1 rfl (Nat.le_of_ble_eq_true rfl) dX10_off_12 ⟨by decide, by decide⟩) ?_
    refine lv_if_eq (tgt := 38) hx hb dX10_off_15 (by decide) (fun c_15 => ?_) (fun c_15 => ?_)
    · skip
      have c_15 := bB_0.mp c_15
      refine lv_iconst (v := (-1)) hx hb dX10_off_38 (by decide) ?_
      subst hQ
      exact x_iret E hr hlk (by first | (simp [mOffP, c_5, c_15]; done) | simp [mOffP, nI_clamp (n := j) (by omega), c_5, c_15]) dX10_off_39
    · skip
      have c_15 := bB_n0.mp c_15
      refine lv_iload_n hx hb dX10_off_18 rfl (lv_at hl 3 rfl) ?_
      refine lv_iconst (v := 0) hx hb dX10_off_19 (by decide) ?_
      refine lv_ldc hx hb hown (hts _ tw_678) dX10_off_20 ?_
      refine x_read (x_runS (rest := []) E cbX10_in tw_649 (kX10_in l D ca a3 0 16777215 ) ⟨rfl, rfl, by decide, by decide⟩ (fun _ _ _ _ h => h) (fun _ _ _ => trivial) rfl hl.1 rfl (Nat.le_of_ble_eq_true rfl) dX10_off_22 ⟨by decide, by decide⟩) ?_
      refine lv_if_eq (tgt := 38) hx hb dX10_off_25 (by decide) (fun c_25 => ?_) (fun c_25 => ?_)
      · skip
        have c_25 := bB_0.mp c_25
        refine lv_iconst (v := (-1)) hx hb dX10_off_38 (by decide) ?_
        subst hQ
        exact x_iret E hr hlk (by first | (simp [mOffP, c_5, c_15, c_25]; done) | simp [mOffP, nI_clamp (n := j) (by omega), c_5, c_15, c_25]) dX10_off_39
      · skip
        have c_25 := bB_n0.mp c_25
        refine lv_aload_n hx hb dX10_off_28 rfl (lv_at hl 0 rfl) ?_
        refine lv_iload_n hx hb dX10_off_29 rfl (lv_at hl 1 rfl) ?_
        refine lv_iload_n hx hb dX10_off_30 rfl (lv_at hl 2 rfl) ?_
        refine lv_iload_n hx hb dX10_off_31 rfl (lv_at hl 3 rfl) ?_
        refine x_read (x_runV (rest := []) E cbX10_offOf tw_752 (kX10_offOf l D ca ad v g  j a2 a3 (by omega)) ⟨rfl, rfl, by decide, by decide⟩ (m_recv E hw) (fun _ _ _ _ h => h) (fun U hU _ => by rw [hU]; exact hw.1) rfl hl.1 rfl (Nat.le_of_ble_eq_true rfl) dX10_off_32 ⟨by decide, by decide⟩) ?_
        refine lv_goto (tgt := 39) hx hb dX10_off_35 (by decide) ?_
        subst hQ
        exact x_iret E hr hlk (by first | (simp [mOffP, c_5, c_15, c_25]; done) | simp [mOffP, nI_clamp (n := j) (by omega), c_5, c_15, c_25]) dX10_off_39
set_option maxHeartbeats 4000000 in
set_option maxRecDepth 100000 in
theorem kX10_isWoman (l : Launch) (D : va_G) (ca : Nat → ClassId) (ad : Nat → Nat → Nat) (v : Nat → Int32) (g : Nat → Nat → Int32) (nw : Nat) (nb : Nat) (nc : Nat) (nm : Nat) (a1 : Int32) (a2 : Int32) (hO : mOK v nw nb nc nm) : Met l yX10_isWoman (wz yX10_isWoman cX10_isWoman 3 (some .boolean)) (rmL 2 0 0) (va_Pc [.ref (ad 33 0), .int a1, .int a2] (fun U => mq D ca ad v g U.heap ∧ gK D ca U)) (QcRead (bB (mWom g nb a1 a2))) 0 0 (fun _ => False) := by
  refine x_met (by decide) (Nat.le_of_ble_eq_true rfl) ?_
  intro p e s m below meth c E hr hlk hnm hq ls hl
  generalize hav : ([.ref (ad 33 0), .int a1, .int a2] : List Value).toArray = args at E ⊢
  have hx := E.1
  have hb := E.2.1
  have hown := E.2.2.2.1
  have hts := E.2.2.2.2.1
  have hw : mw D (wA mcnt ad s.heap.size) s.heap ca ad v g s.heap [] := wd.start hq
  generalize hQ : MQ below (QcRead (bB (mWom g nb a1 a2))) args s 0 0 (fun _ => False) = Q
  have hl : lv_has ls 3 [(0, .ref (ad 33 0)), (1, .int a1), (2, .int a2)] := hl
  have hO5 := hO.2.2.2.2
  refine lv_iload_n hx hb dX10_isWoman_0 rfl (lv_at hl 1 rfl) ?_
  refine lv_iconst (v := 0) hx hb dX10_isWoman_1 (by decide) ?_
  refine lv_aload_n hx hb dX10_isWoman_2 rfl (lv_at hl 0 rfl) ?_
  refine m_geti (x := (nI nb)) E hw 1 (by decide) rfl tw_545 (hO.2.1) dX10_isWoman_3 ?_
  refine lv_iconst (v := 1) hx hb dX10_isWoman_6 (by decide) ?_
  refine lv_isub hx hb dX10_isWoman_7 ?_
  refine x_read (x_runS (rest := []) E cbX10_in tw_649 (kX10_in l D ca a1 0 (nI nb - 1) ) ⟨rfl, rfl, by decide, by decide⟩ (fun _ _ _ _ h => h) (fun _ _ _ => trivial) rfl hl.1 rfl (Nat.le_of_ble_eq_true rfl) dX10_isWoman_8 ⟨by decide, by decide⟩) ?_
  refine lv_if_eq (tgt := 34) hx hb dX10_isWoman_11 (by decide) (fun c_11 => ?_) (fun c_11 => ?_)
  · skip
    have c_11 := bB_0.mp c_11
    refine lv_iconst (v := 0) hx hb dX10_isWoman_34 (by decide) ?_
    subst hQ
    exact x_zret E hr hlk (by decide) (by first | (simp [bB, mWom, c_11]; done) | simp [bB, mWom, nI_clamp (n := j) (by omega), c_11]) dX10_isWoman_35
  · skip
    have c_11 := bB_n0.mp c_11
    obtain ⟨j, hj, rfl⟩ := isIn_nat (by omega) c_11
    refine lv_iload_n hx hb dX10_isWoman_14 rfl (lv_at hl 2 rfl) ?_
    refine lv_iconst (v := 0) hx hb dX10_isWoman_15 (by decide) ?_
    refine lv_aload_n hx hb dX10_isWoman_16 rfl (lv_at hl 0 rfl) ?_
    refine m_getr E hw 6 (by decide) rfl tw_550 dX10_isWoman_17 ?_
    refine lv_iload_n hx hb dX10_isWoman_20 rfl (lv_at hl 1 rfl) ?_
    refine m_ild E hw 6 ⟨by decide, rfl, rfl⟩ j (rfl) (by show j < 50; omega) dX10_isWoman_21 ?_
    refine lv_iconst (v := 1) hx hb dX10_isWoman_22 (by decide) ?_
    refine lv_isub hx hb dX10_isWoman_23 ?_
    refine x_read (x_runS (rest := []) E cbX10_in tw_649 (kX10_in l D ca a2 0 (g 6 j - 1) ) ⟨rfl, rfl, by decide, by decide⟩ (fun _ _ _ _ h => h) (fun _ _ _ => trivial) rfl hl.1 rfl (Nat.le_of_ble_eq_true rfl) dX10_isWoman_24 ⟨by decide, by decide⟩) ?_
    refine lv_if_eq (tgt := 34) hx hb dX10_isWoman_27 (by decide) (fun c_27 => ?_) (fun c_27 => ?_)
    · skip
      have c_27 := bB_0.mp c_27
      refine lv_iconst (v := 0) hx hb dX10_isWoman_34 (by decide) ?_
      subst hQ
      exact x_zret E hr hlk (by decide) (by first | (simp [bB, mWom, c_11, c_27]; done) | simp [bB, mWom, nI_clamp (n := j) (by omega), c_11, c_27]) dX10_isWoman_35
    · skip
      have c_27 := bB_n0.mp c_27
      refine lv_iconst (v := 1) hx hb dX10_isWoman_30 (by decide) ?_
      refine lv_goto (tgt := 35) hx hb dX10_isWoman_31 (by decide) ?_
      subst hQ
      exact x_zret E hr hlk (by decide) (by first | (simp [bB, mWom, c_11, c_27]; done) | simp [bB, mWom, nI_clamp (n := j) (by omega), c_11, c_27]) dX10_isWoman_35
set_option maxHeartbeats 4000000 in
set_option maxRecDepth 100000 in
theorem kX10_ball (l : Launch) (D : va_G) (ca : Nat → ClassId) (ad : Nat → Nat → Nat) (v : Nat → Int32) (g : Nat → Nat → Int32) (nw : Nat) (nb : Nat) (nc : Nat) (nm : Nat) (a1 : Int32) (a2 : Int32) (hO : mOK v nw nb nc nm) (hWo : mWO g nb) : Met l yX10_ball (wz yX10_ball cX10_ball 3 (some .int)) (rmL 3 0 0) (va_Pc [.ref (ad 33 0), .int a1, .int a2] (fun U => mq D ca ad v g U.heap ∧ gK D ca U)) (QcRead (mBall g nb a1 a2)) 0 0 (fun _ => False) := by
  refine x_met (by decide) (Nat.le_of_ble_eq_true rfl) ?_
  intro p e s m below meth c E hr hlk hnm hq ls hl
  generalize hav : ([.ref (ad 33 0), .int a1, .int a2] : List Value).toArray = args at E ⊢
  have hx := E.1
  have hb := E.2.1
  have hown := E.2.2.2.1
  have hts := E.2.2.2.2.1
  have hw : mw D (wA mcnt ad s.heap.size) s.heap ca ad v g s.heap [] := wd.start hq
  generalize hQ : MQ below (QcRead (mBall g nb a1 a2)) args s 0 0 (fun _ => False) = Q
  have hl : lv_has ls 3 [(0, .ref (ad 33 0)), (1, .int a1), (2, .int a2)] := hl
  have hO5 := hO.2.2.2.2
  refine lv_aload_n hx hb dX10_ball_0 rfl (lv_at hl 0 rfl) ?_
  refine lv_iload_n hx hb dX10_ball_1 rfl (lv_at hl 1 rfl) ?_
  refine lv_iload_n hx hb dX10_ball_2 rfl (lv_at hl 2 rfl) ?_
  refine x_read (x_runV (rest := []) E cbX10_isWoman tw_666 (kX10_isWoman l D ca ad v g nw nb nc nm a1 a2 (hO)) ⟨rfl, rfl, by decide, by decide⟩ (m_recv E hw) (fun _ _ _ _ h => h) (fun U hU _ => by rw [hU]; exact hw.1) rfl hl.1 rfl (Nat.le_of_ble_eq_true rfl) dX10_ball_3 ⟨by decide, by decide⟩) ?_
  refine lv_if_eq (tgt := 23) hx hb dX10_ball_6 (by decide) (fun c_6 => ?_) (fun c_6 => ?_)
  · skip
    have c_6 := bB_0.mp c_6
    refine lv_iconst (v := (-1)) hx hb dX10_ball_23 (by decide) ?_
    subst hQ
    exact x_iret E hr hlk (by first | (simp [mBall, c_6]; done) | simp [mBall, nI_clamp (n := b1) (by omega), nI_clamp (n := j1) (by omega), c_6]) dX10_ball_24
  · skip
    have c_6 := bB_n0.mp c_6
    obtain ⟨b1, j1, n1, g1, g2, g3, g4, rfl, rfl⟩ := mWom_nat hO5.2.1 hWo c_6
    refine lv_aload_n hx hb dX10_ball_9 rfl (lv_at hl 0 rfl) ?_
    refine m_getr E hw 7 (by decide) rfl tw_551 dX10_ball_10 ?_
    refine lv_bipush (v := 20) hx hb dX10_ball_13 (by decide) ?_
    refine lv_iload_n hx hb dX10_ball_15 rfl (lv_at hl 1 rfl) ?_
    refine lv_imul hx hb dX10_ball_16 ?_
    refine x_top (x := (20 * nI b1)) (y := (nI (20 * b1))) (pk_mul 20 _) ?_
    refine lv_iload_n hx hb dX10_ball_17 rfl (lv_at hl 2 rfl) ?_
    refine lv_iadd hx hb dX10_ball_18 ?_
    refine x_top (x := (nI (20 * b1) + nI j1)) (y := (nI (20 * b1 + j1))) (nI_add _ _) ?_
    refine m_ild E hw 7 ⟨by decide, rfl, rfl⟩ (20 * b1 + j1) (rfl) (by show _ < 1000; omega) dX10_ball_19 ?_
    refine lv_goto (tgt := 24) hx hb dX10_ball_20 (by decide) ?_
    subst hQ
    exact x_iret E hr hlk (by first | (simp [mBall, c_6]; done) | simp [mBall, nI_clamp (n := b1) (by omega), nI_clamp (n := j1) (by omega), c_6]) dX10_ball_24
set_option maxHeartbeats 4000000 in
set_option maxRecDepth 100000 in
theorem kX10_isOpen (l : Launch) (D : va_G) (ca : Nat → ClassId) (ad : Nat → Nat → Nat) (v : Nat → Int32) (g : Nat → Nat → Int32) (nw : Nat) (nb : Nat) (nc : Nat) (nm : Nat) (a1 : Int32) (hO : mOK v nw nb nc nm) : Met l yX10_isOpen (wz yX10_isOpen cX10_isOpen 3 (some .boolean)) (rmL 2 0 0) (va_Pc [.ref (ad 33 0), .int a1] (fun U => mq D ca ad v g U.heap ∧ gK D ca U)) (QcRead (bB (mOpen g nw nm a1))) 0 0 (fun _ => False) := by
  refine x_met (by decide) (Nat.le_of_ble_eq_true rfl) ?_
  intro p e s m below meth c E hr hlk hnm hq ls hl
  generalize hav : ([.ref (ad 33 0), .int a1] : List Value).toArray = args at E ⊢
  have hx := E.1
  have hb := E.2.1
  have hown := E.2.2.2.1
  have hts := E.2.2.2.2.1
  have hw : mw D (wA mcnt ad s.heap.size) s.heap ca ad v g s.heap [] := wd.start hq
  generalize hQ : MQ below (QcRead (bB (mOpen g nw nm a1))) args s 0 0 (fun _ => False) = Q
  have hl : lv_has ls 3 [(0, .ref (ad 33 0)), (1, .int a1)] := hl
  refine lv_aload_n hx hb dX10_isOpen_0 rfl (lv_at hl 0 rfl) ?_
  refine lv_iload_n hx hb dX10_isOpen_1 rfl (lv_at hl 1 rfl) ?_
  refine lv_aload_n hx hb dX10_isOpen_2 rfl (lv_at hl 0 rfl) ?_
  refine m_geti (x := (nI nw)) E hw 0 (by decide) rfl tw_544 (hO.1) dX10_isOpen_3 ?_
  refine lv_aload_n hx hb dX10_isOpen_6 rfl (lv_at hl 0 rfl) ?_
  refine m_geti (x := (nI nw)) E hw 0 (by decide) rfl tw_544 (hO.1) dX10_isOpen_7 ?_
  refine x_read (x_runV (rest := []) E cbX10_where tw_699 (kX10_where l D ca ad v g nw nb nc nm a1 (nI nw) (nI nw) (hO)) ⟨rfl, rfl, by decide, by decide⟩ (m_recv E hw) (fun _ _ _ _ h => h) (fun U hU _ => by rw [hU]; exact hw.1) rfl hl.1 rfl (Nat.le_of_ble_eq_true rfl) dX10_isOpen_10 ⟨by decide, by decide⟩) ?_
  refine lv_istore_n (lv' := [(2, .int ((mWh g a1 (nI nw) (nI nw) nm).1)), (0, .ref (ad 33 0)), (1, .int a1)]) hx hb dX10_isOpen_13 rfl hl (by decide) rfl (fun ls hl => ?_)
  refine lv_iload_n hx hb dX10_isOpen_14 rfl (lv_at hl 0 rfl) ?_
  refine lv_bipush (v := 14) hx hb dX10_isOpen_15 (by decide) ?_
  refine lv_icmp_eq (tgt := 30) hx hb dX10_isOpen_17 (by decide) (fun c_17 => ?_) (fun c_17 => ?_)
  · skip
    refine lv_iconst (v := 0) hx hb dX10_isOpen_30 (by decide) ?_
    subst hQ
    exact x_zret E hr hlk (by decide) (by simp [bB, mOpen, c_17]) dX10_isOpen_31
  · skip
    refine lv_iload_n hx hb dX10_isOpen_20 rfl (lv_at hl 0 rfl) ?_
    refine lv_bipush (v := 15) hx hb dX10_isOpen_21 (by decide) ?_
    refine lv_icmp_eq (tgt := 30) hx hb dX10_isOpen_23 (by decide) (fun c_23 => ?_) (fun c_23 => ?_)
    · skip
      refine lv_iconst (v := 0) hx hb dX10_isOpen_30 (by decide) ?_
      subst hQ
      exact x_zret E hr hlk (by decide) (by simp [bB, mOpen, c_17, c_23]) dX10_isOpen_31
    · skip
      refine lv_iconst (v := 1) hx hb dX10_isOpen_26 (by decide) ?_
      refine lv_goto (tgt := 31) hx hb dX10_isOpen_27 (by decide) ?_
      subst hQ
      exact x_zret E hr hlk (by decide) (by simp [bB, mOpen, c_17, c_23]) dX10_isOpen_31
set_option maxHeartbeats 4000000 in
set_option maxRecDepth 100000 in
theorem kX10_agreeing (l : Launch) (D : va_G) (ca : Nat → ClassId) (ad : Nat → Nat → Nat) (v : Nat → Int32) (g : Nat → Nat → Int32) (c1 : Nat) (a2 : Int32) (a3 : Int32) (a4 : Int32) (a5 : Int32) (hc1 : c1 < 60) : Met l yX10_agreeing (wz yX10_agreeing cX10_agreeing 6 (some .int)) (rmL 2 0 0) (va_Pc [.ref (ad 33 0), .int (nI c1), .int a2, .int a3, .int a4, .int a5] (fun U => mq D ca ad v g U.heap ∧ gK D ca U)) (QcRead (mAgr g c1 a2 a3 a4 a5)) 0 0 (fun _ => False) := by
  refine x_met (by decide) (Nat.le_of_ble_eq_true rfl) ?_
  intro p e s m below meth c E hr hlk hnm hq ls hl
  generalize hav : ([.ref (ad 33 0), .int (nI c1), .int a2, .int a3, .int a4, .int a5] : List Value).toArray = args at E ⊢
  have hx := E.1
  have hb := E.2.1
  have hown := E.2.2.2.1
  have hts := E.2.2.2.2.1
  have hw : mw D (wA mcnt ad s.heap.size) s.heap ca ad v g s.heap [] := wd.start hq
  generalize hQ : MQ below (QcRead (mAgr g c1 a2 a3 a4 a5)) args s 0 0 (fun _ => False) = Q
  have hl : lv_has ls 6 [(0, .ref (ad 33 0)), (1, .int (nI c1)), (2, .int a2), (3, .int a3), (4, .int a4), (5, .int a5)] := hl
  refine lv_aload_n hx hb dX10_agreeing_0 rfl (lv_at hl 0 rfl) ?_
  refine m_getr E hw 9 (by decide) rfl tw_553 dX10_agreeing_1 ?_
  refine lv_iload_n hx hb dX10_agreeing_4 rfl (lv_at hl 1 rfl) ?_
  refine m_ild E hw 9 ⟨by decide, rfl, rfl⟩ c1 (rfl) (hc1) dX10_agreeing_5 ?_
  refine lv_iload_n hx hb dX10_agreeing_6 rfl (lv_at hl 2 rfl) ?_
  refine lv_iload_n hx hb dX10_agreeing_7 rfl (lv_at hl 3 rfl) ?_
  refine x_read (x_runS (rest := []) E cbX10_in tw_649 (kX10_in l D ca (g 9 c1) a2 a3 ) ⟨rfl, rfl, by decide, by decide⟩ (fun _ _ _ _ h => h) (fun _ _ _ => trivial) rfl hl.1 rfl (Nat.le_of_ble_eq_true rfl) dX10_agreeing_8 ⟨by decide, by decide⟩) ?_
  refine lv_if_eq (tgt := 18) hx hb dX10_agreeing_11 (by decide) (fun c_11 => ?_) (fun c_11 => ?_)
  · skip
    have c_11 := bB_0.mp c_11
    refine lv_iconst (v := 0) hx hb dX10_agreeing_18 (by decide) ?_
    refine lv_iload hx hb dX10_agreeing_19 (lv_at hl 4 rfl) ?_
    refine lv_aload_n hx hb dX10_agreeing_21 rfl (lv_at hl 0 rfl) ?_
    refine m_getr E hw 10 (by decide) rfl tw_554 dX10_agreeing_22 ?_
    refine lv_iload_n hx hb dX10_agreeing_25 rfl (lv_at hl 1 rfl) ?_
    refine m_ild E hw 10 ⟨by decide, rfl, rfl⟩ c1 (rfl) (hc1) dX10_agreeing_26 ?_
    refine lv_icmp_ne (tgt := 34) hx hb dX10_agreeing_27 (by decide) (fun c_27 => ?_) (fun c_27 => ?_)
    · skip
      refine lv_iconst (v := 0) hx hb dX10_agreeing_34 (by decide) ?_
      refine lv_iadd hx hb dX10_agreeing_35 ?_
      refine lv_iload hx hb dX10_agreeing_36 (lv_at hl 5 rfl) ?_
      refine lv_aload_n hx hb dX10_agreeing_38 rfl (lv_at hl 0 rfl) ?_
      refine m_getr E hw 11 (by decide) rfl tw_555 dX10_agreeing_39 ?_
      refine lv_iload_n hx hb dX10_agreeing_42 rfl (lv_at hl 1 rfl) ?_
      refine m_ild E hw 11 ⟨by decide, rfl, rfl⟩ c1 (rfl) (hc1) dX10_agreeing_43 ?_
      refine lv_icmp_ne (tgt := 51) hx hb dX10_agreeing_44 (by decide) (fun c_44 => ?_) (fun c_44 => ?_)
      · skip
        refine lv_iconst (v := 0) hx hb dX10_agreeing_51 (by decide) ?_
        refine lv_iadd hx hb dX10_agreeing_52 ?_
        subst hQ
        exact x_iret E hr hlk (by simp [mAgr, bB, c_11, c_27, c_44]) dX10_agreeing_53
      · skip
        refine lv_iconst (v := 1) hx hb dX10_agreeing_47 (by decide) ?_
        refine lv_goto (tgt := 52) hx hb dX10_agreeing_48 (by decide) ?_
        refine lv_iadd hx hb dX10_agreeing_52 ?_
        subst hQ
        exact x_iret E hr hlk (by simp [mAgr, bB, c_11, c_27, c_44]) dX10_agreeing_53
    · skip
      refine lv_iconst (v := 1) hx hb dX10_agreeing_30 (by decide) ?_
      refine lv_goto (tgt := 35) hx hb dX10_agreeing_31 (by decide) ?_
      refine lv_iadd hx hb dX10_agreeing_35 ?_
      refine lv_iload hx hb dX10_agreeing_36 (lv_at hl 5 rfl) ?_
      refine lv_aload_n hx hb dX10_agreeing_38 rfl (lv_at hl 0 rfl) ?_
      refine m_getr E hw 11 (by decide) rfl tw_555 dX10_agreeing_39 ?_
      refine lv_iload_n hx hb dX10_agreeing_42 rfl (lv_at hl 1 rfl) ?_
      refine m_ild E hw 11 ⟨by decide, rfl, rfl⟩ c1 (rfl) (hc1) dX10_agreeing_43 ?_
      refine lv_icmp_ne (tgt := 51) hx hb dX10_agreeing_44 (by decide) (fun c_44 => ?_) (fun c_44 => ?_)
      · skip
        refine lv_iconst (v := 0) hx hb dX10_agreeing_51 (by decide) ?_
        refine lv_iadd hx hb dX10_agreeing_52 ?_
        subst hQ
        exact x_iret E hr hlk (by simp [mAgr, bB, c_11, c_27, c_44]) dX10_agreeing_53
      · skip
        refine lv_iconst (v := 1) hx hb dX10_agreeing_47 (by decide) ?_
        refine lv_goto (tgt := 52) hx hb dX10_agreeing_48 (by decide) ?_
        refine lv_iadd hx hb dX10_agreeing_52 ?_
        subst hQ
        exact x_iret E hr hlk (by simp [mAgr, bB, c_11, c_27, c_44]) dX10_agreeing_53
  · skip
    have c_11 := bB_n0.mp c_11
    refine lv_iconst (v := 1) hx hb dX10_agreeing_14 (by decide) ?_
    refine lv_goto (tgt := 19) hx hb dX10_agreeing_15 (by decide) ?_
    refine lv_iload hx hb dX10_agreeing_19 (lv_at hl 4 rfl) ?_
    refine lv_aload_n hx hb dX10_agreeing_21 rfl (lv_at hl 0 rfl) ?_
    refine m_getr E hw 10 (by decide) rfl tw_554 dX10_agreeing_22 ?_
    refine lv_iload_n hx hb dX10_agreeing_25 rfl (lv_at hl 1 rfl) ?_
    refine m_ild E hw 10 ⟨by decide, rfl, rfl⟩ c1 (rfl) (hc1) dX10_agreeing_26 ?_
    refine lv_icmp_ne (tgt := 34) hx hb dX10_agreeing_27 (by decide) (fun c_27 => ?_) (fun c_27 => ?_)
    · skip
      refine lv_iconst (v := 0) hx hb dX10_agreeing_34 (by decide) ?_
      refine lv_iadd hx hb dX10_agreeing_35 ?_
      refine lv_iload hx hb dX10_agreeing_36 (lv_at hl 5 rfl) ?_
      refine lv_aload_n hx hb dX10_agreeing_38 rfl (lv_at hl 0 rfl) ?_
      refine m_getr E hw 11 (by decide) rfl tw_555 dX10_agreeing_39 ?_
      refine lv_iload_n hx hb dX10_agreeing_42 rfl (lv_at hl 1 rfl) ?_
      refine m_ild E hw 11 ⟨by decide, rfl, rfl⟩ c1 (rfl) (hc1) dX10_agreeing_43 ?_
      refine lv_icmp_ne (tgt := 51) hx hb dX10_agreeing_44 (by decide) (fun c_44 => ?_) (fun c_44 => ?_)
      · skip
        refine lv_iconst (v := 0) hx hb dX10_agreeing_51 (by decide) ?_
        refine lv_iadd hx hb dX10_agreeing_52 ?_
        subst hQ
        exact x_iret E hr hlk (by simp [mAgr, bB, c_11, c_27, c_44]) dX10_agreeing_53
      · skip
        refine lv_iconst (v := 1) hx hb dX10_agreeing_47 (by decide) ?_
        refine lv_goto (tgt := 52) hx hb dX10_agreeing_48 (by decide) ?_
        refine lv_iadd hx hb dX10_agreeing_52 ?_
        subst hQ
        exact x_iret E hr hlk (by simp [mAgr, bB, c_11, c_27, c_44]) dX10_agreeing_53
    · skip
      refine lv_iconst (v := 1) hx hb dX10_agreeing_30 (by decide) ?_
      refine lv_goto (tgt := 35) hx hb dX10_agreeing_31 (by decide) ?_
      refine lv_iadd hx hb dX10_agreeing_35 ?_
      refine lv_iload hx hb dX10_agreeing_36 (lv_at hl 5 rfl) ?_
      refine lv_aload_n hx hb dX10_agreeing_38 rfl (lv_at hl 0 rfl) ?_
      refine m_getr E hw 11 (by decide) rfl tw_555 dX10_agreeing_39 ?_
      refine lv_iload_n hx hb dX10_agreeing_42 rfl (lv_at hl 1 rfl) ?_
      refine m_ild E hw 11 ⟨by decide, rfl, rfl⟩ c1 (rfl) (hc1) dX10_agreeing_43 ?_
      refine lv_icmp_ne (tgt := 51) hx hb dX10_agreeing_44 (by decide) (fun c_44 => ?_) (fun c_44 => ?_)
      · skip
        refine lv_iconst (v := 0) hx hb dX10_agreeing_51 (by decide) ?_
        refine lv_iadd hx hb dX10_agreeing_52 ?_
        subst hQ
        exact x_iret E hr hlk (by simp [mAgr, bB, c_11, c_27, c_44]) dX10_agreeing_53
      · skip
        refine lv_iconst (v := 1) hx hb dX10_agreeing_47 (by decide) ?_
        refine lv_goto (tgt := 52) hx hb dX10_agreeing_48 (by decide) ?_
        refine lv_iadd hx hb dX10_agreeing_52 ?_
        subst hQ
        exact x_iret E hr hlk (by simp [mAgr, bB, c_11, c_27, c_44]) dX10_agreeing_53
set_option maxHeartbeats 4000000 in
set_option maxRecDepth 100000 in
theorem kX10_areBoth (l : Launch) (D : va_G) (ca : Nat → ClassId) (ad : Nat → Nat → Nat) (v : Nat → Int32) (g : Nat → Nat → Int32) (nw : Nat) (nb : Nat) (nc : Nat) (nm : Nat) (a1 : Int32) (a2 : Int32) (hO : mOK v nw nb nc nm) : Met l yX10_areBoth (wz yX10_areBoth cX10_areBoth 3 (some .boolean)) (rmL 3 0 0) (va_Pc [.ref (ad 33 0), .int a1, .int a2] (fun U => mq D ca ad v g U.heap ∧ gK D ca U)) (QcRead (bB (mBoth nc a1 a2))) 0 0 (fun _ => False) := by
  refine x_met (by decide) (Nat.le_of_ble_eq_true rfl) ?_
  intro p e s m below meth c E hr hlk hnm hq ls hl
  generalize hav : ([.ref (ad 33 0), .int a1, .int a2] : List Value).toArray = args at E ⊢
  have hx := E.1
  have hb := E.2.1
  have hown := E.2.2.2.1
  have hts := E.2.2.2.2.1
  have hw : mw D (wA mcnt ad s.heap.size) s.heap ca ad v g s.heap [] := wd.start hq
  generalize hQ : MQ below (QcRead (bB (mBoth nc a1 a2))) args s 0 0 (fun _ => False) = Q
  have hl : lv_has ls 3 [(0, .ref (ad 33 0)), (1, .int a1), (2, .int a2)] := hl
  refine lv_iload_n hx hb dX10_areBoth_0 rfl (lv_at hl 1 rfl) ?_
  refine lv_iconst (v := 0) hx hb dX10_areBoth_1 (by decide) ?_
  refine lv_bipush (v := 19) hx hb dX10_areBoth_2 (by decide) ?_
  refine x_read (x_runS (rest := []) E cbX10_in tw_649 (kX10_in l D ca a1 0 19 ) ⟨rfl, rfl, by decide, by decide⟩ (fun _ _ _ _ h => h) (fun _ _ _ => trivial) rfl hl.1 rfl (Nat.le_of_ble_eq_true rfl) dX10_areBoth_4 ⟨by decide, by decide⟩) ?_
  refine lv_if_eq (tgt := 22) hx hb dX10_areBoth_7 (by decide) (fun c_7 => ?_) (fun c_7 => ?_)
  · skip
    have c_7 := bB_0.mp c_7
    refine lv_iconst (v := 0) hx hb dX10_areBoth_22 (by decide) ?_
    subst hQ
    exact x_zret E hr hlk (by decide) (by simp [bB, mBoth, c_7]) dX10_areBoth_23
  · skip
    have c_7 := bB_n0.mp c_7
    refine lv_aload_n hx hb dX10_areBoth_10 rfl (lv_at hl 0 rfl) ?_
    refine lv_iload_n hx hb dX10_areBoth_11 rfl (lv_at hl 2 rfl) ?_
    refine x_read (x_runV (rest := []) E cbX10_isChild tw_707 (kX10_isChild l D ca ad v g nw nb nc nm a2 (hO)) ⟨rfl, rfl, by decide, by decide⟩ (m_recv E hw) (fun _ _ _ _ h => h) (fun U hU _ => by rw [hU]; exact hw.1) rfl hl.1 rfl (Nat.le_of_ble_eq_true rfl) dX10_areBoth_12 ⟨by decide, by decide⟩) ?_
    refine lv_if_eq (tgt := 22) hx hb dX10_areBoth_15 (by decide) (fun c_15 => ?_) (fun c_15 => ?_)
    · skip
      have c_15 := bB_0.mp c_15
      refine lv_iconst (v := 0) hx hb dX10_areBoth_22 (by decide) ?_
      subst hQ
      exact x_zret E hr hlk (by decide) (by simp [bB, mBoth, c_7, c_15]) dX10_areBoth_23
    · skip
      have c_15 := bB_n0.mp c_15
      refine lv_iconst (v := 1) hx hb dX10_areBoth_18 (by decide) ?_
      refine lv_goto (tgt := 23) hx hb dX10_areBoth_19 (by decide) ?_
      subst hQ
      exact x_zret E hr hlk (by decide) (by simp [bB, mBoth, c_7, c_15]) dX10_areBoth_23
set_option maxHeartbeats 4000000 in
set_option maxRecDepth 100000 in
theorem kX10_ask (l : Launch) (D : va_G) (ca : Nat → ClassId) (ad : Nat → Nat → Nat) (v : Nat → Int32) (g : Nat → Nat → Int32) (nw : Nat) (nb : Nat) (nc : Nat) (nm : Nat) (a1 : Int32) (a2 : Int32) (hO : mOK v nw nb nc nm) : Met l yX10_ask (wz yX10_ask cX10_ask 3 (some .int)) (rmL 4 0 0) (va_Pc [.ref (ad 33 0), .int a1, .int a2] (fun U => mq D ca ad v g U.heap ∧ gK D ca U)) (QcRead (mAsk g nc a1 a2)) 0 0 (fun _ => False) := by
  refine x_met (by decide) (Nat.le_of_ble_eq_true rfl) ?_
  intro p e s m below meth c E hr hlk hnm hq ls hl
  generalize hav : ([.ref (ad 33 0), .int a1, .int a2] : List Value).toArray = args at E ⊢
  have hx := E.1
  have hb := E.2.1
  have hown := E.2.2.2.1
  have hts := E.2.2.2.2.1
  have hw : mw D (wA mcnt ad s.heap.size) s.heap ca ad v g s.heap [] := wd.start hq
  generalize hQ : MQ below (QcRead (mAsk g nc a1 a2)) args s 0 0 (fun _ => False) = Q
  have hl : lv_has ls 3 [(0, .ref (ad 33 0)), (1, .int a1), (2, .int a2)] := hl
  have hO5 := hO.2.2.2.2
  refine lv_aload_n hx hb dX10_ask_0 rfl (lv_at hl 0 rfl) ?_
  refine lv_iload_n hx hb dX10_ask_1 rfl (lv_at hl 1 rfl) ?_
  refine lv_iload_n hx hb dX10_ask_2 rfl (lv_at hl 2 rfl) ?_
  refine x_read (x_runV (rest := []) E cbX10_areBoth tw_829 (kX10_areBoth l D ca ad v g nw nb nc nm a1 a2 (hO)) ⟨rfl, rfl, by decide, by decide⟩ (m_recv E hw) (fun _ _ _ _ h => h) (fun U hU _ => by rw [hU]; exact hw.1) rfl hl.1 rfl (Nat.le_of_ble_eq_true rfl) dX10_ask_3 ⟨by decide, by decide⟩) ?_
  refine lv_if_eq (tgt := 36) hx hb dX10_ask_6 (by decide) (fun c_6 => ?_) (fun c_6 => ?_)
  · skip
    have c_6 := bB_0.mp c_6
    refine lv_iconst (v := (-1)) hx hb dX10_ask_36 (by decide) ?_
    subst hQ
    exact x_iret E hr hlk (by first | (simp [mAsk, c_6]; done) | simp [mAsk, nI_clamp (n := w1) (by omega), nI_clamp (n := j1) (by omega), c_6]) dX10_ask_37
  · skip
    have c_6 := bB_n0.mp c_6
    obtain ⟨w1, j1, g1, g2, rfl, rfl⟩ := mBoth_nat hO5.2.2.1 c_6
    refine lv_aload_n hx hb dX10_ask_9 rfl (lv_at hl 0 rfl) ?_
    refine m_getr E hw 17 (by decide) rfl tw_561 dX10_ask_10 ?_
    refine lv_bipush (v := 20) hx hb dX10_ask_13 (by decide) ?_
    refine lv_iload_n hx hb dX10_ask_15 rfl (lv_at hl 2 rfl) ?_
    refine lv_imul hx hb dX10_ask_16 ?_
    refine x_top (x := (20 * nI j1)) (y := (nI (20 * j1))) (pk_mul 20 _) ?_
    refine lv_iload_n hx hb dX10_ask_17 rfl (lv_at hl 1 rfl) ?_
    refine lv_iadd hx hb dX10_ask_18 ?_
    refine x_top (x := (nI (20 * j1) + nI w1)) (y := (nI (20 * j1 + w1))) (nI_add _ _) ?_
    refine m_zld E hw 17 ⟨by decide, rfl, rfl⟩ (20 * j1 + w1) (rfl) (by show _ < 1200; omega) dX10_ask_19 ?_
    refine lv_if_eq (tgt := 32) hx hb dX10_ask_20 (by decide) (fun c_20 => ?_) (fun c_20 => ?_)
    · skip
      refine lv_iconst (v := 0) hx hb dX10_ask_32 (by decide) ?_
      refine lv_goto (tgt := 37) hx hb dX10_ask_33 (by decide) ?_
      subst hQ
      exact x_iret E hr hlk (by first | (simp [mAsk, c_6, c_20]; done) | simp [mAsk, nI_clamp (n := w1) (by omega), nI_clamp (n := j1) (by omega), c_6, c_20]) dX10_ask_37
    · skip
      refine lv_aload_n hx hb dX10_ask_23 rfl (lv_at hl 0 rfl) ?_
      refine m_getr E hw 16 (by decide) rfl tw_560 dX10_ask_24 ?_
      refine lv_iload_n hx hb dX10_ask_27 rfl (lv_at hl 2 rfl) ?_
      refine m_ild E hw 16 ⟨by decide, rfl, rfl⟩ j1 (rfl) (by show j1 < 60; omega) dX10_ask_28 ?_
      refine lv_goto (tgt := 37) hx hb dX10_ask_29 (by decide) ?_
      subst hQ
      exact x_iret E hr hlk (by first | (simp [mAsk, c_6, c_20]; done) | simp [mAsk, nI_clamp (n := w1) (by omega), nI_clamp (n := j1) (by omega), c_6, c_20]) dX10_ask_37
set_option maxHeartbeats 4000000 in
set_option maxRecDepth 100000 in
theorem kX10_guess (l : Launch) (D : va_G) (ca : Nat → ClassId) (ad : Nat → Nat → Nat) (v : Nat → Int32) (g : Nat → Nat → Int32) (nw : Nat) (nb : Nat) (nc : Nat) (nm : Nat) (a1 : Int32) (a2 : Int32) (a3 : Int32) (hO : mOK v nw nb nc nm) : Met l yX10_guess (wz yX10_guess cX10_guess 4 (some .int)) (rmL 4 0 0) (va_Pc [.ref (ad 33 0), .int a1, .int a2, .int a3] (fun U => mq D ca ad v g U.heap ∧ gK D ca U)) (QcRead (mGuess g nc a1 a2 a3)) 0 0 (fun _ => False) := by
  refine x_met (by decide) (Nat.le_of_ble_eq_true rfl) ?_
  intro p e s m below meth c E hr hlk hnm hq ls hl
  generalize hav : ([.ref (ad 33 0), .int a1, .int a2, .int a3] : List Value).toArray = args at E ⊢
  have hx := E.1
  have hb := E.2.1
  have hown := E.2.2.2.1
  have hts := E.2.2.2.2.1
  have hw : mw D (wA mcnt ad s.heap.size) s.heap ca ad v g s.heap [] := wd.start hq
  generalize hQ : MQ below (QcRead (mGuess g nc a1 a2 a3)) args s 0 0 (fun _ => False) = Q
  have hl : lv_has ls 4 [(0, .ref (ad 33 0)), (1, .int a1), (2, .int a2), (3, .int a3)] := hl
  have hO5 := hO.2.2.2.2
  refine lv_aload_n hx hb dX10_guess_0 rfl (lv_at hl 0 rfl) ?_
  refine lv_iload_n hx hb dX10_guess_1 rfl (lv_at hl 1 rfl) ?_
  refine lv_iload_n hx hb dX10_guess_2 rfl (lv_at hl 2 rfl) ?_
  refine x_read (x_runV (rest := []) E cbX10_areBoth tw_829 (kX10_areBoth l D ca ad v g nw nb nc nm a1 a2 (hO)) ⟨rfl, rfl, by decide, by decide⟩ (m_recv E hw) (fun _ _ _ _ h => h) (fun U hU _ => by rw [hU]; exact hw.1) rfl hl.1 rfl (Nat.le_of_ble_eq_true rfl) dX10_guess_3 ⟨by decide, by decide⟩) ?_
  refine lv_if_eq (tgt := 19) hx hb dX10_guess_6 (by decide) (fun c_6 => ?_) (fun c_6 => ?_)
  · skip
    have c_6 := bB_0.mp c_6
    refine lv_iconst (v := (-1)) hx hb dX10_guess_19 (by decide) ?_
    subst hQ
    exact x_iret E hr hlk (by first | (simp [mGuess, c_6]; done) | simp [mGuess, bB, nI_clamp (n := w1) (by omega), nI_clamp (n := j1) (by omega), c_6]) dX10_guess_20
  · skip
    have c_6 := bB_n0.mp c_6
    obtain ⟨w1, j1, g1, g2, rfl, rfl⟩ := mBoth_nat hO5.2.2.1 c_6
    refine lv_iload_n hx hb dX10_guess_9 rfl (lv_at hl 3 rfl) ?_
    refine lv_iconst (v := 1) hx hb dX10_guess_10 (by decide) ?_
    refine lv_ldc hx hb hown (hts _ tw_824) dX10_guess_11 ?_
    refine x_read (x_runS (rest := []) E cbX10_in tw_649 (kX10_in l D ca a3 1 1000000 ) ⟨rfl, rfl, by decide, by decide⟩ (fun _ _ _ _ h => h) (fun _ _ _ => trivial) rfl hl.1 rfl (Nat.le_of_ble_eq_true rfl) dX10_guess_13 ⟨by decide, by decide⟩) ?_
    refine lv_if_ne (tgt := 21) hx hb dX10_guess_16 (by decide) (fun c_16 => ?_) (fun c_16 => ?_)
    · skip
      have c_16 := bB_n0.mp c_16
      refine lv_aload_n hx hb dX10_guess_21 rfl (lv_at hl 0 rfl) ?_
      refine m_getr E hw 17 (by decide) rfl tw_561 dX10_guess_22 ?_
      refine lv_bipush (v := 20) hx hb dX10_guess_25 (by decide) ?_
      refine lv_iload_n hx hb dX10_guess_27 rfl (lv_at hl 2 rfl) ?_
      refine lv_imul hx hb dX10_guess_28 ?_
      refine x_top (x := (20 * nI j1)) (y := (nI (20 * j1))) (pk_mul 20 _) ?_
      refine lv_iload_n hx hb dX10_guess_29 rfl (lv_at hl 1 rfl) ?_
      refine lv_iadd hx hb dX10_guess_30 ?_
      refine x_top (x := (nI (20 * j1) + nI w1)) (y := (nI (20 * j1 + w1))) (nI_add _ _) ?_
      refine m_zld E hw 17 ⟨by decide, rfl, rfl⟩ (20 * j1 + w1) (rfl) (by show _ < 1200; omega) dX10_guess_31 ?_
      refine lv_if_eq (tgt := 49) hx hb dX10_guess_32 (by decide) (fun c_32 => ?_) (fun c_32 => ?_)
      · skip
        refine lv_iconst (v := 0) hx hb dX10_guess_49 (by decide) ?_
        subst hQ
        exact x_iret E hr hlk (by first | (simp [mGuess, c_6, c_16, c_32]; done) | simp [mGuess, bB, nI_clamp (n := w1) (by omega), nI_clamp (n := j1) (by omega), c_6, c_16, c_32]) dX10_guess_50
      · skip
        refine lv_aload_n hx hb dX10_guess_35 rfl (lv_at hl 0 rfl) ?_
        refine m_getr E hw 16 (by decide) rfl tw_560 dX10_guess_36 ?_
        refine lv_iload_n hx hb dX10_guess_39 rfl (lv_at hl 2 rfl) ?_
        refine m_ild E hw 16 ⟨by decide, rfl, rfl⟩ j1 (rfl) (by show j1 < 60; omega) dX10_guess_40 ?_
        refine lv_iload_n hx hb dX10_guess_41 rfl (lv_at hl 3 rfl) ?_
        refine lv_icmp_ne (tgt := 49) hx hb dX10_guess_42 (by decide) (fun c_42 => ?_) (fun c_42 => ?_)
        · skip
          refine lv_iconst (v := 0) hx hb dX10_guess_49 (by decide) ?_
          subst hQ
          exact x_iret E hr hlk (by first | (simp [mGuess, c_6, c_16, c_32, c_42]; done) | simp [mGuess, bB, nI_clamp (n := w1) (by omega), nI_clamp (n := j1) (by omega), c_6, c_16, c_32, c_42]) dX10_guess_50
        · skip
          refine lv_iconst (v := 1) hx hb dX10_guess_45 (by decide) ?_
          refine lv_goto (tgt := 50) hx hb dX10_guess_46 (by decide) ?_
          subst hQ
          exact x_iret E hr hlk (by first | (simp [mGuess, c_6, c_16, c_32, c_42]; done) | simp [mGuess, bB, nI_clamp (n := w1) (by omega), nI_clamp (n := j1) (by omega), c_6, c_16, c_32, c_42]) dX10_guess_50
    · skip
      have c_16 := bB_0.mp c_16
      refine lv_iconst (v := (-1)) hx hb dX10_guess_19 (by decide) ?_
      subst hQ
      exact x_iret E hr hlk (by first | (simp [mGuess, c_6, c_16]; done) | simp [mGuess, bB, nI_clamp (n := w1) (by omega), nI_clamp (n := j1) (by omega), c_6, c_16]) dX10_guess_20
set_option maxHeartbeats 4000000 in
set_option maxRecDepth 100000 in
theorem kX10_told (l : Launch) (D : va_G) (ca : Nat → ClassId) (ad : Nat → Nat → Nat) (v : Nat → Int32) (g : Nat → Nat → Int32) (nw : Nat) (nb : Nat) (nc : Nat) (nm : Nat) (a1 : Int32) (a2 : Int32) (hO : mOK v nw nb nc nm) : Met l yX10_told (wz yX10_told cX10_told 5 (some .int)) (rmL 3 0 0) (va_Pc [.ref (ad 33 0), .int a1, .int a2] (fun U => mq D ca ad v g U.heap ∧ gK D ca U)) (QcRead (mTold g nc nm a1 a2)) 0 0 (fun _ => False) := by
  refine x_met (by decide) (Nat.le_of_ble_eq_true rfl) ?_
  intro p e s m below meth c E hr hlk hnm hq ls hl
  generalize hav : ([.ref (ad 33 0), .int a1, .int a2] : List Value).toArray = args at E ⊢
  have hx := E.1
  have hb := E.2.1
  have hown := E.2.2.2.1
  have hts := E.2.2.2.2.1
  have hw : mw D (wA mcnt ad s.heap.size) s.heap ca ad v g s.heap [] := wd.start hq
  generalize hQ : MQ below (QcRead (mTold g nc nm a1 a2)) args s 0 0 (fun _ => False) = Q
  have hl : lv_has ls 5 [(0, .ref (ad 33 0)), (1, .int a1), (2, .int a2)] := hl
  have hO5 := hO.2.2.2.2
  refine lv_aload_n hx hb dX10_told_0 rfl (lv_at hl 0 rfl) ?_
  refine lv_iload_n hx hb dX10_told_1 rfl (lv_at hl 1 rfl) ?_
  refine x_read (x_runV (rest := []) E cbX10_isChild tw_707 (kX10_isChild l D ca ad v g nw nb nc nm a1 (hO)) ⟨rfl, rfl, by decide, by decide⟩ (m_recv E hw) (fun _ _ _ _ h => h) (fun U hU _ => by rw [hU]; exact hw.1) rfl hl.1 rfl (Nat.le_of_ble_eq_true rfl) dX10_told_2 ⟨by decide, by decide⟩) ?_
  refine lv_if_ne (tgt := 10) hx hb dX10_told_5 (by decide) (fun c_5 => ?_) (fun c_5 => ?_)
  · skip
    have c_5 := bB_n0.mp c_5
    obtain ⟨j, hj, rfl⟩ := isIn_nat (by omega) c_5
    refine lv_iconst (v := 0) hx hb dX10_told_10 (by decide) ?_
    refine lv_istore_n (lv' := [(3, .int 0), (0, .ref (ad 33 0)), (1, .int (nI j)), (2, .int a2)]) hx hb dX10_told_11 rfl hl (by decide) rfl (fun ls hl => ?_)
    refine lv_iconst (v := 0) hx hb dX10_told_12 (by decide) ?_
    refine lv_istore (lv' := [(4, .int 0), (3, .int 0), (0, .ref (ad 33 0)), (1, .int (nI j)), (2, .int a2)]) hx hb dX10_told_13 hl (by decide) rfl (fun ls hl => ?_)
    have lp15 : ∀ (n : Nat) (i : Nat) (x3 : Int32), (i ≤ nm) → (x3 = nI (mCnt g (nI j) i)) → (nm - i < n) → ∀ ls : Array Slot, lv_has ls 5 [(0, .ref (ad 33 0)), (1, .int (nI j)), (2, .int a2), (3, .int x3), (4, .int (nI i))] → W p l e (rmL 3 0 0) s m args below meth c s.heap [] 0 0 Q (F0 m 15 ls []) := by
      intro n
      induction n with
      | zero =>
        intro i x3 hi h3 hfu ls hl
        exact absurd hfu (by omega)
      | succ n ih15 =>
        intro i x3 hi h3 hfu ls hl
        refine lv_iload hx hb dX10_told_15 (lv_at hl 4 rfl) ?_
        refine lv_aload_n hx hb dX10_told_17 rfl (lv_at hl 0 rfl) ?_
        refine m_geti (x := (nI nm)) E hw 3 (by decide) rfl tw_547 (hO.2.2.2.1) dX10_told_18 ?_
        refine lv_icmp_ge (tgt := 49) hx hb dX10_told_21 (by decide) (fun c_21 => ?_) (fun c_21 => ?_)
        · skip
          have hge : i = nm := by have q9 := (nI_leI (a := nm) (b := i) (by omega) (by omega)).mp c_21; omega
          rw [hge] at h3
          refine lv_iload_n hx hb dX10_told_49 rfl (lv_at hl 2 rfl) ?_
          rcases x_sw8 a2 with sw50 | sw50 | sw50 | sw50 | sw50 | sw50 | sw50 | sw50 | sw50
          · skip
            refine lv_tableIn (off := 46) (tgt := 96) hx hb dX10_told_50 (by rw [sw50]; decide) (by rw [sw50]; decide) (by rw [sw50]; decide) (by decide) ?_
            refine lv_aload_n hx hb dX10_told_96 rfl (lv_at hl 0 rfl) ?_
            refine m_getr E hw 9 (by decide) rfl tw_553 dX10_told_97 ?_
            refine lv_iload_n hx hb dX10_told_100 rfl (lv_at hl 1 rfl) ?_
            refine m_ild E hw 9 ⟨by decide, rfl, rfl⟩ j (rfl) (by show j < 60; omega) dX10_told_101 ?_
            subst hQ
            exact x_iret E hr hlk (by first | (simp [mTold, c_21, sw50]; done) | simp [mTold, nI_clamp (n := j) (by omega), c_5, c_21, sw50]) dX10_told_102
          · skip
            refine lv_tableIn (off := 53) (tgt := 103) hx hb dX10_told_50 (by rw [sw50]; decide) (by rw [sw50]; decide) (by rw [sw50]; decide) (by decide) ?_
            refine lv_aload_n hx hb dX10_told_103 rfl (lv_at hl 0 rfl) ?_
            refine m_getr E hw 10 (by decide) rfl tw_554 dX10_told_104 ?_
            refine lv_iload_n hx hb dX10_told_107 rfl (lv_at hl 1 rfl) ?_
            refine m_ild E hw 10 ⟨by decide, rfl, rfl⟩ j (rfl) (by show j < 60; omega) dX10_told_108 ?_
            subst hQ
            exact x_iret E hr hlk (by first | (simp [mTold, c_21, sw50]; done) | simp [mTold, nI_clamp (n := j) (by omega), c_5, c_21, sw50]) dX10_told_109
          · skip
            refine lv_tableIn (off := 60) (tgt := 110) hx hb dX10_told_50 (by rw [sw50]; decide) (by rw [sw50]; decide) (by rw [sw50]; decide) (by decide) ?_
            refine lv_aload_n hx hb dX10_told_110 rfl (lv_at hl 0 rfl) ?_
            refine m_getr E hw 11 (by decide) rfl tw_555 dX10_told_111 ?_
            refine lv_iload_n hx hb dX10_told_114 rfl (lv_at hl 1 rfl) ?_
            refine m_ild E hw 11 ⟨by decide, rfl, rfl⟩ j (rfl) (by show j < 60; omega) dX10_told_115 ?_
            subst hQ
            exact x_iret E hr hlk (by first | (simp [mTold, c_21, sw50]; done) | simp [mTold, nI_clamp (n := j) (by omega), c_5, c_21, sw50]) dX10_told_116
          · skip
            refine lv_tableIn (off := 67) (tgt := 117) hx hb dX10_told_50 (by rw [sw50]; decide) (by rw [sw50]; decide) (by rw [sw50]; decide) (by decide) ?_
            refine lv_aload_n hx hb dX10_told_117 rfl (lv_at hl 0 rfl) ?_
            refine m_getr E hw 12 (by decide) rfl tw_556 dX10_told_118 ?_
            refine lv_iload_n hx hb dX10_told_121 rfl (lv_at hl 1 rfl) ?_
            refine m_ild E hw 12 ⟨by decide, rfl, rfl⟩ j (rfl) (by show j < 60; omega) dX10_told_122 ?_
            subst hQ
            exact x_iret E hr hlk (by first | (simp [mTold, c_21, sw50]; done) | simp [mTold, nI_clamp (n := j) (by omega), c_5, c_21, sw50]) dX10_told_123
          · skip
            refine lv_tableIn (off := 74) (tgt := 124) hx hb dX10_told_50 (by rw [sw50]; decide) (by rw [sw50]; decide) (by rw [sw50]; decide) (by decide) ?_
            refine lv_aload_n hx hb dX10_told_124 rfl (lv_at hl 0 rfl) ?_
            refine m_getr E hw 13 (by decide) rfl tw_557 dX10_told_125 ?_
            refine lv_iload_n hx hb dX10_told_128 rfl (lv_at hl 1 rfl) ?_
            refine m_ild E hw 13 ⟨by decide, rfl, rfl⟩ j (rfl) (by show j < 60; omega) dX10_told_129 ?_
            subst hQ
            exact x_iret E hr hlk (by first | (simp [mTold, c_21, sw50]; done) | simp [mTold, nI_clamp (n := j) (by omega), c_5, c_21, sw50]) dX10_told_130
          · skip
            refine lv_tableIn (off := 81) (tgt := 131) hx hb dX10_told_50 (by rw [sw50]; decide) (by rw [sw50]; decide) (by rw [sw50]; decide) (by decide) ?_
            refine lv_aload_n hx hb dX10_told_131 rfl (lv_at hl 0 rfl) ?_
            refine m_getr E hw 14 (by decide) rfl tw_558 dX10_told_132 ?_
            refine lv_iload_n hx hb dX10_told_135 rfl (lv_at hl 1 rfl) ?_
            refine m_ild E hw 14 ⟨by decide, rfl, rfl⟩ j (rfl) (by show j < 60; omega) dX10_told_136 ?_
            subst hQ
            exact x_iret E hr hlk (by first | (simp [mTold, c_21, sw50]; done) | simp [mTold, nI_clamp (n := j) (by omega), c_5, c_21, sw50]) dX10_told_137
          · skip
            refine lv_tableIn (off := 88) (tgt := 138) hx hb dX10_told_50 (by rw [sw50]; decide) (by rw [sw50]; decide) (by rw [sw50]; decide) (by decide) ?_
            refine lv_aload_n hx hb dX10_told_138 rfl (lv_at hl 0 rfl) ?_
            refine m_getr E hw 15 (by decide) rfl tw_559 dX10_told_139 ?_
            refine lv_iload_n hx hb dX10_told_142 rfl (lv_at hl 1 rfl) ?_
            refine m_ild E hw 15 ⟨by decide, rfl, rfl⟩ j (rfl) (by show j < 60; omega) dX10_told_143 ?_
            subst hQ
            exact x_iret E hr hlk (by first | (simp [mTold, c_21, sw50]; done) | simp [mTold, nI_clamp (n := j) (by omega), c_5, c_21, sw50]) dX10_told_144
          · skip
            refine lv_tableIn (off := 95) (tgt := 145) hx hb dX10_told_50 (by rw [sw50]; decide) (by rw [sw50]; decide) (by rw [sw50]; decide) (by decide) ?_
            refine lv_iload_n hx hb dX10_told_145 rfl (lv_at hl 3 rfl) ?_
            subst hQ
            exact x_iret E hr hlk (by rw [h3]; simp [mTold, c_5, c_21, sw50]) dX10_told_146
          · skip
            refine lv_tableOut (tgt := 147) hx hb dX10_told_50 sw50.1 (by decide) ?_
            replace sw50 := sw50.2
            refine lv_iconst (v := (-1)) hx hb dX10_told_147 (by decide) ?_
            subst hQ
            exact x_iret E hr hlk (by simp [mTold, sw50]) dX10_told_148
        · skip
          have hlt : i < nm := by have q9 := mt (nI_leI (a := nm) (b := i) (by omega) (by omega)).mpr c_21; omega
          refine lv_iload_n hx hb dX10_told_24 rfl (lv_at hl 3 rfl) ?_
          refine lv_aload_n hx hb dX10_told_25 rfl (lv_at hl 0 rfl) ?_
          refine m_getr E hw 18 (by decide) rfl tw_562 dX10_told_26 ?_
          refine lv_iload hx hb dX10_told_29 (lv_at hl 4 rfl) ?_
          refine m_ild E hw 18 ⟨by decide, rfl, rfl⟩ i (rfl) (by show i < 300; omega) dX10_told_31 ?_
          refine lv_iload_n hx hb dX10_told_32 rfl (lv_at hl 1 rfl) ?_
          refine lv_icmp_ne (tgt := 40) hx hb dX10_told_33 (by decide) (fun c_33 => ?_) (fun c_33 => ?_)
          · skip
            refine lv_iconst (v := 0) hx hb dX10_told_40 (by decide) ?_
            refine lv_iadd hx hb dX10_told_41 ?_
            refine lv_istore_n (lv' := [(3, .int (x3 + 0)), (0, .ref (ad 33 0)), (1, .int (nI j)), (2, .int a2), (4, .int (nI i))]) hx hb dX10_told_42 rfl hl (by decide) rfl (fun ls hl => ?_)
            refine lv_iinc (v := (nI (i + 1))) (lv' := [(4, .int (nI (i + 1))), (3, .int (x3 + 0)), (0, .ref (ad 33 0)), (1, .int (nI j)), (2, .int a2)]) hx hb dX10_told_43 hl (k := 4) rfl (nI_1 _) (by decide) rfl (fun ls hl => ?_)
            refine lv_goto (tgt := 15) hx hb dX10_told_46 (by decide) ?_
            exact ih15 (i + 1) (x3 + 0) (hlt) (by rw [h3]; simp [mCnt, nI_1, c_21, c_33]) (by omega) ls (lv_sub hl [2, 3, 4, 1, 0] rfl)
          · skip
            refine lv_iconst (v := 1) hx hb dX10_told_36 (by decide) ?_
            refine lv_goto (tgt := 41) hx hb dX10_told_37 (by decide) ?_
            refine lv_iadd hx hb dX10_told_41 ?_
            refine lv_istore_n (lv' := [(3, .int (x3 + 1)), (0, .ref (ad 33 0)), (1, .int (nI j)), (2, .int a2), (4, .int (nI i))]) hx hb dX10_told_42 rfl hl (by decide) rfl (fun ls hl => ?_)
            refine lv_iinc (v := (nI (i + 1))) (lv' := [(4, .int (nI (i + 1))), (3, .int (x3 + 1)), (0, .ref (ad 33 0)), (1, .int (nI j)), (2, .int a2)]) hx hb dX10_told_43 hl (k := 4) rfl (nI_1 _) (by decide) rfl (fun ls hl => ?_)
            refine lv_goto (tgt := 15) hx hb dX10_told_46 (by decide) ?_
            exact ih15 (i + 1) (x3 + 1) (hlt) (by rw [h3]; simp [mCnt, nI_1, c_21, c_33]) (by omega) ls (lv_sub hl [2, 3, 4, 1, 0] rfl)
    exact lp15 (nm + 1) 0 0 (Nat.zero_le _) (rfl) (by omega) ls (lv_sub hl [2, 3, 4, 1, 0] rfl)
  · skip
    have c_5 := bB_0.mp c_5
    refine lv_iconst (v := (-1)) hx hb dX10_told_8 (by decide) ?_
    subst hQ
    exact x_iret E hr hlk (by first | (simp [mTold, c_5]; done) | simp [mTold, nI_clamp (n := j) (by omega), c_5, c_5]) dX10_told_9
set_option maxHeartbeats 4000000 in
set_option maxRecDepth 100000 in
theorem kX10_count (l : Launch) (D : va_G) (ca : Nat → ClassId) (ad : Nat → Nat → Nat) (v : Nat → Int32) (g : Nat → Nat → Int32) (nw : Nat) (nb : Nat) (nc : Nat) (nm : Nat) (a1 : Int32) (hO : mOK v nw nb nc nm) : Met l yX10_count (wz yX10_count cX10_count 2 (some .int)) (rmL 3 0 0) (va_Pc [.ref (ad 33 0), .int a1] (fun U => mq D ca ad v g U.heap ∧ gK D ca U)) (QcRead (mCount v g nw nb nc nm a1)) 0 0 (fun _ => False) := by
  refine x_met (by decide) (Nat.le_of_ble_eq_true rfl) ?_
  intro p e s m below meth c E hr hlk hnm hq ls hl
  generalize hav : ([.ref (ad 33 0), .int a1] : List Value).toArray = args at E ⊢
  have hx := E.1
  have hb := E.2.1
  have hown := E.2.2.2.1
  have hts := E.2.2.2.2.1
  have hw : mw D (wA mcnt ad s.heap.size) s.heap ca ad v g s.heap [] := wd.start hq
  generalize hQ : MQ below (QcRead (mCount v g nw nb nc nm a1)) args s 0 0 (fun _ => False) = Q
  have hl : lv_has ls 2 [(0, .ref (ad 33 0)), (1, .int a1)] := hl
  refine lv_iload_n hx hb dX10_count_0 rfl (lv_at hl 1 rfl) ?_
  rcases x_sw8 a1 with sw1 | sw1 | sw1 | sw1 | sw1 | sw1 | sw1 | sw1 | sw1
  · skip
    refine lv_tableIn (off := 47) (tgt := 48) hx hb dX10_count_1 (by rw [sw1]; decide) (by rw [sw1]; decide) (by rw [sw1]; decide) (by decide) ?_
    refine lv_aload_n hx hb dX10_count_48 rfl (lv_at hl 0 rfl) ?_
    refine m_geti (x := (nI nw)) E hw 0 (by decide) rfl tw_544 (hO.1) dX10_count_49 ?_
    subst hQ
    exact x_iret E hr hlk (by simp [mCount, sw1]) dX10_count_52
  · skip
    refine lv_tableIn (off := 52) (tgt := 53) hx hb dX10_count_1 (by rw [sw1]; decide) (by rw [sw1]; decide) (by rw [sw1]; decide) (by decide) ?_
    refine lv_aload_n hx hb dX10_count_53 rfl (lv_at hl 0 rfl) ?_
    refine m_geti (x := (nI nc)) E hw 2 (by decide) rfl tw_546 (hO.2.2.1) dX10_count_54 ?_
    subst hQ
    exact x_iret E hr hlk (by simp [mCount, sw1]) dX10_count_57
  · skip
    refine lv_tableIn (off := 57) (tgt := 58) hx hb dX10_count_1 (by rw [sw1]; decide) (by rw [sw1]; decide) (by rw [sw1]; decide) (by decide) ?_
    refine lv_aload_n hx hb dX10_count_58 rfl (lv_at hl 0 rfl) ?_
    refine m_geti (x := (nI nb)) E hw 1 (by decide) rfl tw_545 (hO.2.1) dX10_count_59 ?_
    subst hQ
    exact x_iret E hr hlk (by simp [mCount, sw1]) dX10_count_62
  · skip
    refine lv_tableIn (off := 62) (tgt := 63) hx hb dX10_count_1 (by rw [sw1]; decide) (by rw [sw1]; decide) (by rw [sw1]; decide) (by decide) ?_
    refine lv_aload_n hx hb dX10_count_63 rfl (lv_at hl 0 rfl) ?_
    refine m_geti (x := (nI nm)) E hw 3 (by decide) rfl tw_547 (hO.2.2.2.1) dX10_count_64 ?_
    subst hQ
    exact x_iret E hr hlk (by simp [mCount, sw1]) dX10_count_67
  · skip
    refine lv_tableIn (off := 67) (tgt := 68) hx hb dX10_count_1 (by rw [sw1]; decide) (by rw [sw1]; decide) (by rw [sw1]; decide) (by decide) ?_
    refine lv_aload_n hx hb dX10_count_68 rfl (lv_at hl 0 rfl) ?_
    refine m_geti (x := (v 4)) E hw 4 (by decide) rfl tw_548 (rfl) dX10_count_69 ?_
    subst hQ
    exact x_iret E hr hlk (by simp [mCount, sw1]) dX10_count_72
  · skip
    refine lv_tableIn (off := 72) (tgt := 73) hx hb dX10_count_1 (by rw [sw1]; decide) (by rw [sw1]; decide) (by rw [sw1]; decide) (by decide) ?_
    refine lv_aload_n hx hb dX10_count_73 rfl (lv_at hl 0 rfl) ?_
    refine m_geti (x := (v 27)) E hw 27 (by decide) rfl tw_571 (rfl) dX10_count_74 ?_
    subst hQ
    exact x_iret E hr hlk (by simp [mCount, sw1]) dX10_count_77
  · skip
    refine lv_tableIn (off := 77) (tgt := 78) hx hb dX10_count_1 (by rw [sw1]; decide) (by rw [sw1]; decide) (by rw [sw1]; decide) (by decide) ?_
    refine lv_aload_n hx hb dX10_count_78 rfl (lv_at hl 0 rfl) ?_
    refine m_geti (x := (v 5)) E hw 5 (by decide) rfl tw_549 (rfl) dX10_count_79 ?_
    subst hQ
    exact x_iret E hr hlk (by simp [mCount, sw1]) dX10_count_82
  · skip
    refine lv_tableIn (off := 82) (tgt := 83) hx hb dX10_count_1 (by rw [sw1]; decide) (by rw [sw1]; decide) (by rw [sw1]; decide) (by decide) ?_
    refine lv_aload_n hx hb dX10_count_83 rfl (lv_at hl 0 rfl) ?_
    refine lv_iconst (v := 0) hx hb dX10_count_84 (by decide) ?_
    refine lv_aload_n hx hb dX10_count_85 rfl (lv_at hl 0 rfl) ?_
    refine m_geti (x := (nI nw)) E hw 0 (by decide) rfl tw_544 (hO.1) dX10_count_86 ?_
    refine lv_aload_n hx hb dX10_count_89 rfl (lv_at hl 0 rfl) ?_
    refine m_geti (x := (nI nw)) E hw 0 (by decide) rfl tw_544 (hO.1) dX10_count_90 ?_
    refine x_read (x_runV (rest := []) E cbX10_manyAt tw_691 (kX10_manyAt l D ca ad v g nw nb nc nm 0 (nI nw) (nI nw) (hO)) ⟨rfl, rfl, by decide, by decide⟩ (m_recv E hw) (fun _ _ _ _ h => h) (fun U hU _ => by rw [hU]; exact hw.1) rfl hl.1 rfl (Nat.le_of_ble_eq_true rfl) dX10_count_93 ⟨by decide, by decide⟩) ?_
    subst hQ
    exact x_iret E hr hlk (by simp [mCount, sw1]) dX10_count_96
  · skip
    refine lv_tableOut (tgt := 97) hx hb dX10_count_1 sw1.1 (by decide) ?_
    replace sw1 := sw1.2
    refine lv_iconst (v := (-1)) hx hb dX10_count_97 (by decide) ?_
    subst hQ
    exact x_iret E hr hlk (by simp [mCount, sw1]) dX10_count_98
end
section
def mDaysW (v : Nat → Int32) (g : Nat → Nat → Int32) (nw : Nat) (a : Int32) : MS := if (isIn a 0 1000 && decide (nI nw + a ≤ 2000)) = true then (nI nw + a, upd v 0 (nI nw + a), g) else (-1, v, g)
def mAwayW (v : Nat → Int32) (g : Nat → Nat → Int32) (nb : Nat) (a i : Int32) : MS := if (mWom g nb a i && decide (g 7 (20 * a.toNatClampNeg + i.toNatClampNeg) = 0)) = true then
  (let g1 := upd2 g 7 (20 * a.toNatClampNeg + i.toNatClampNeg) 3
   let n := (g 6 a.toNatClampNeg).toNatClampNeg
   let f := firstB (fun k => decide (g1 7 (20 * a.toNatClampNeg + k) = 1)) n
   if f < n then (nI f, v, upd2 g1 7 (20 * a.toNatClampNeg + f) 0) else (-1, v, g1)) else (-2, v, g)
def mLeaveOK (g : Nat → Nat → Int32) (nb nc : Nat) (a i s m e t : Int32) : Bool := mWom g nb a i && decide (g 7 (20 * a.toNatClampNeg + i.toNatClampNeg) = 0) && isIn s 0 1 && isIn m 0 9 && isIn e 0 16777215 && isIn t 0 16777215 && !(decide (nc = 60))
def mLeaveW (v : Nat → Int32) (g : Nat → Nat → Int32) (nw nb nc : Nat) (a i s m e t : Int32) : MS := if mLeaveOK g nb nc a i s m e t = true then
  (nI nc, upd v 2 (nI (nc + 1)), upd2 (upd2 (upd2 (upd2 (upd2 (upd2 (upd2 (upd2 g 7 (20 * a.toNatClampNeg + i.toNatClampNeg) 4) 9 nc (nI nw)) 10 nc s) 11 nc m) 12 nc e) 13 nc t) 14 nc a) 15 nc i) else (-1, v, g)
def mBedsW (v : Nat → Int32) (g : Nat → Nat → Int32) (nw nc nm : Nat) (a b : Int32) : MS := if (isIn a 1 12 && isIn b 1 3 && !(mOver g nw nc nm a 0 b)) = true then (1, v, upd2 g 22 a.toNatClampNeg b) else (0, v, g)
def mMoveOK (g : Nat → Nat → Int32) (nw nc nm : Nat) (a pl fr : Int32) : Bool := isIn a 0 (nI nc - 1) && isIn pl 0 15 && isIn fr (g 9 a.toNatClampNeg) (nI nw) && !(decide (nm = 300)) && !(decide ((mWh g a fr (nI nw) nm).1 = 14)) && !(decide ((mWh g a fr (nI nw) nm).1 = 15))
def mMoveG (g : Nat → Nat → Int32) (nw nm : Nat) (a pl fr : Int32) : Nat → Nat → Int32 := upd2 (upd2 (upd2 (upd2 g 18 nm a) 19 nm pl) 20 nm fr) 21 nm (nI nw)
def mMoveW (v : Nat → Int32) (g : Nat → Nat → Int32) (nw nc nm : Nat) (a pl fr : Int32) : MS := if mMoveOK g nw nc nm a pl fr = true then
  (if (isIn pl 1 12 && mOver (mMoveG g nw nm a pl fr) nw nc (nm + 1) pl fr.toNatClampNeg (g 22 pl.toNatClampNeg)) = true then (0, v, mMoveG g nw nm a pl fr) else (1, upd v 3 (nI (nm + 1)), mMoveG g nw nm a pl fr)) else (0, v, g)
def mLookW (v : Nat → Int32) (g : Nat → Nat → Int32) (nw : Nat) (a : Int32) : MS := if (isIn a 1 12 && decide (g 23 (2001 * a.toNatClampNeg + nw) = 0)) = true then (1, upd v 4 (v 4 + 1), upd2 g 23 (2001 * a.toNatClampNeg + nw) 1) else (0, v, g)
def mByte (a : Int32) (k : Nat) : Int32 := (a >>> (8 * nI k &&& 31)) &&& 255
def mFc (a : Int32) : Nat → Nat
  | 0 => 0
  | k + 1 => mFc a k + (if mByte a k = 0 then 0 else 1)
def mFs (a : Int32) : Nat → Nat
  | 0 => 0
  | t + 1 => mFs a t + (if mByte a (3 - t) = 0 then 0 else 1)
theorem mFs_le (a : Int32) : ∀ t, mFs a t ≤ t
  | 0 => Nat.le_refl _
  | t + 1 => by
    have := mFs_le a t
    unfold mFs
    split <;> omega
theorem mFs_mono (a : Int32) {t : Nat} (h : t ≤ 4) : mFs a t ≤ mFs a 4 := by
  have h1 : mFs a 1 ≤ mFs a 2 := by rw [show mFs a 2 = mFs a 1 + (if mByte a (3 - 1) = 0 then 0 else 1) from rfl]; omega
  have h2 : mFs a 2 ≤ mFs a 3 := by rw [show mFs a 3 = mFs a 2 + (if mByte a (3 - 2) = 0 then 0 else 1) from rfl]; omega
  have h3 : mFs a 3 ≤ mFs a 4 := by rw [show mFs a 4 = mFs a 3 + (if mByte a (3 - 3) = 0 then 0 else 1) from rfl]; omega
  have h0 : mFs a 0 ≤ mFs a 1 := Nat.zero_le _
  rcases (show t = 0 ∨ t = 1 ∨ t = 2 ∨ t = 3 ∨ t = 4 by omega) with rfl | rfl | rfl | rfl | rfl <;> omega
theorem mFs_Fc (a : Int32) : mFs a 4 = mFc a 4 := by
  simp only [mFs, mFc, Nat.zero_add]
  simp only [show 3 - 0 = 3 from rfl, show 3 - 1 = 2 from rfl, show 3 - 2 = 1 from rfl, show 3 - 3 = 0 from rfl]
  omega
def mFg (g : Nat → Nat → Int32) (sz : Nat) (a : Int32) : Nat → Nat → Nat → Int32
  | 0 => g
  | t + 1 => if mByte a (3 - t) = 0 then mFg g sz a t else upd2 (mFg g sz a t) 24 (sz + mFs a t) (mByte a (3 - t))
def mFeedW (v : Nat → Int32) (g : Nat → Nat → Int32) (sz : Nat) (a : Int32) : MS := if sz + mFc a 4 ≤ 100 then (nI (sz + mFs a 4), upd v 27 (nI (sz + mFs a 4)), mFg g sz a 4) else (-1, v, g)
def fdn (t : Nat) : Int32 := if t < 4 then nI (3 - t) else -1
theorem fdn_lt {t : Nat} (h : t ≤ 4) (c : fdn t < 0) : t = 4 := by
  rcases (show t = 0 ∨ t = 1 ∨ t = 2 ∨ t = 3 ∨ t = 4 by omega) with rfl | rfl | rfl | rfl | rfl
  · exact absurd c (by decide)
  · exact absurd c (by decide)
  · exact absurd c (by decide)
  · exact absurd c (by decide)
  · rfl
theorem fdn_ge {t : Nat} (h : t ≤ 4) (c : ¬ fdn t < 0) : t < 4 ∧ fdn t = nI (3 - t) := by
  have : t ≠ 4 := fun e => c (by rw [e]; decide)
  have ht : t < 4 := by omega
  exact ⟨ht, by simp [fdn, ht]⟩
theorem fdn_next {t : Nat} (h : t < 4) : nI (3 - t) + (-1) = fdn (t + 1) := by
  rcases (show t = 0 ∨ t = 1 ∨ t = 2 ∨ t = 3 by omega) with rfl | rfl | rfl | rfl <;> decide
def mEndW (v : Nat → Int32) (g : Nat → Nat → Int32) (a : Int32) : MS := if isIn a 0 (v 27) = true then (1, upd v 27 a, g) else (0, v, g)
def mNameW (v : Nat → Int32) (g : Nat → Nat → Int32) (nc : Nat) (a b : Int32) : MS := if (isIn a 0 (nI nc - 1) && isIn b 1 1000000 && decide (g 16 a.toNatClampNeg = 0)) = true then (1, v, upd2 g 16 a.toNatClampNeg b) else (0, v, g)
def mAllowW (v : Nat → Int32) (g : Nat → Nat → Int32) (nc : Nat) (a1 a2 : Int32) (tb : Bool) : MS := if (mBoth nc a1 a2 && !(decide (g 17 (20 * a2.toNatClampNeg + a1.toNatClampNeg) = bB tb))) = true then (1, v, upd2 g 17 (20 * a2.toNatClampNeg + a1.toNatClampNeg) (bB tb)) else (0, v, g)
end
section
set_option maxHeartbeats 4000000 in
set_option maxRecDepth 100000 in
theorem kX10_days (l : Launch) (D : va_G) (ca : Nat → ClassId) (ad : Nat → Nat → Nat) (z9 : Nat) (v : Nat → Int32) (g : Nat → Nat → Int32) (nw : Nat) (nb : Nat) (nc : Nat) (nm : Nat) (a1 : Int32) (hO : mOK v nw nb nc nm) : Met l yX10_days (wz yX10_days cX10_days 2 (some .int)) (rmL 2 0 0) (va_Pc [.ref (ad 33 0), .int a1] (fun U => (U.heap.size = z9 ∧ mq D ca ad v g U.heap) ∧ gK D ca U)) (QcM D ca ad (wA mcnt ad z9) (some (.int (mDaysW v g nw a1).1)) ((mDaysW v g nw a1).2.1) ((mDaysW v g nw a1).2.2)) 0 0 (wA mcnt ad z9) := by
  refine x_met (by decide) (Nat.le_of_ble_eq_true rfl) ?_
  intro p e s m below meth c E hr hlk hnm hq ls hl
  obtain ⟨hsz, hq⟩ := hq
  subst hsz
  generalize hav : ([.ref (ad 33 0), .int a1] : List Value).toArray = args at E ⊢
  have hx := E.1
  have hb := E.2.1
  have hown := E.2.2.2.1
  have hts := E.2.2.2.2.1
  have hw : mw D (wA mcnt ad s.heap.size) s.heap ca ad v g s.heap [] := wd.start hq
  generalize hQ : MQ below (QcM D ca ad (wA mcnt ad s.heap.size) (some (.int (mDaysW v g nw a1).1)) ((mDaysW v g nw a1).2.1) ((mDaysW v g nw a1).2.2)) args s 0 0 (wA mcnt ad s.heap.size) = Q
  generalize hA9 : wA mcnt ad s.heap.size = A at hw hQ
  have hl : lv_has ls 2 [(0, .ref (ad 33 0)), (1, .int a1)] := hl
  suffices hgo : ∀ (H : Heap) (locs : List Loc), mw D A s.heap ca ad v g H locs → W p l e (rmL 2 0 0) s m args below meth c H locs 0 0 Q (F0 m 0 ls []) from hgo _ _ hw
  clear hw
  intro H locs hw
  refine lv_iload_n hx hb dX10_days_0 rfl (lv_at hl 1 rfl) ?_
  refine lv_iconst (v := 0) hx hb dX10_days_1 (by decide) ?_
  refine lv_sipush (v := 1000) hx hb dX10_days_2 (by decide) ?_
  refine x_read (x_runS (rest := []) E cbX10_in tw_649 (kX10_in l D ca a1 0 1000 ) ⟨rfl, rfl, by decide, by decide⟩ (fun _ _ _ _ h => h) (fun _ _ _ => trivial) rfl hl.1 rfl (Nat.le_of_ble_eq_true rfl) dX10_days_5 ⟨by decide, by decide⟩) ?_
  refine lv_if_eq (tgt := 23) hx hb dX10_days_8 (by decide) (fun c_8 => ?_) (fun c_8 => ?_)
  · skip
    have c_8 := bB_0.mp c_8
    refine lv_iconst (v := (-1)) hx hb dX10_days_23 (by decide) ?_
    subst hQ
    exact m_iretS E hr hlk hw (by simp [mDaysW, c_8]) dX10_days_24
  · skip
    have c_8 := bB_n0.mp c_8
    refine lv_aload_n hx hb dX10_days_11 rfl (lv_at hl 0 rfl) ?_
    refine m_geti (x := (nI nw)) E hw 0 (by decide) rfl tw_544 (hO.1) dX10_days_12 ?_
    refine lv_iload_n hx hb dX10_days_15 rfl (lv_at hl 1 rfl) ?_
    refine lv_iadd hx hb dX10_days_16 ?_
    refine lv_sipush (v := 2000) hx hb dX10_days_17 (by decide) ?_
    refine lv_icmp_le (tgt := 25) hx hb dX10_days_20 (by decide) (fun c_20 => ?_) (fun c_20 => ?_)
    · skip
      refine lv_aload_n hx hb dX10_days_25 rfl (lv_at hl 0 rfl) ?_
      refine lv_dup hx hb dX10_days_26 rfl ?_
      refine m_geti (x := (nI nw)) E hw 0 (by decide) rfl tw_544 (hO.1) dX10_days_27 ?_
      refine lv_iload_n hx hb dX10_days_30 rfl (lv_at hl 1 rfl) ?_
      refine lv_iadd hx hb dX10_days_31 ?_
      refine m_put E hw 0 (by decide) rfl tw_544 dX10_days_32 (fun H locs hw => ?_)
      refine lv_aload_n hx hb dX10_days_35 rfl (lv_at hl 0 rfl) ?_
      refine m_geti (x := (nI nw + a1)) E hw 0 (by decide) rfl tw_544 (by simp [upd]) dX10_days_36 ?_
      subst hQ
      exact m_iretS E hr hlk hw (by simp [mDaysW, c_8, c_20]) dX10_days_39
    · skip
      refine lv_iconst (v := (-1)) hx hb dX10_days_23 (by decide) ?_
      subst hQ
      exact m_iretS E hr hlk hw (by simp [mDaysW, c_8, c_20]) dX10_days_24
set_option maxHeartbeats 4000000 in
set_option maxRecDepth 100000 in
theorem kX10_away (l : Launch) (D : va_G) (ca : Nat → ClassId) (ad : Nat → Nat → Nat) (z9 : Nat) (v : Nat → Int32) (g : Nat → Nat → Int32) (nw : Nat) (nb : Nat) (nc : Nat) (nm : Nat) (a1 : Int32) (a2 : Int32) (hO : mOK v nw nb nc nm) (hWo : mWO g nb) : Met l yX10_away (wz yX10_away cX10_away 4 (some .int)) (rmL 3 0 0) (va_Pc [.ref (ad 33 0), .int a1, .int a2] (fun U => (U.heap.size = z9 ∧ mq D ca ad v g U.heap) ∧ gK D ca U)) (QcM D ca ad (wA mcnt ad z9) (some (.int (mAwayW v g nb a1 a2).1)) ((mAwayW v g nb a1 a2).2.1) ((mAwayW v g nb a1 a2).2.2)) 0 0 (wA mcnt ad z9) := by
  refine x_met (by decide) (Nat.le_of_ble_eq_true rfl) ?_
  intro p e s m below meth c E hr hlk hnm hq ls hl
  obtain ⟨hsz, hq⟩ := hq
  subst hsz
  generalize hav : ([.ref (ad 33 0), .int a1, .int a2] : List Value).toArray = args at E ⊢
  have hx := E.1
  have hb := E.2.1
  have hown := E.2.2.2.1
  have hts := E.2.2.2.2.1
  have hw : mw D (wA mcnt ad s.heap.size) s.heap ca ad v g s.heap [] := wd.start hq
  generalize hQ : MQ below (QcM D ca ad (wA mcnt ad s.heap.size) (some (.int (mAwayW v g nb a1 a2).1)) ((mAwayW v g nb a1 a2).2.1) ((mAwayW v g nb a1 a2).2.2)) args s 0 0 (wA mcnt ad s.heap.size) = Q
  generalize hA9 : wA mcnt ad s.heap.size = A at hw hQ
  have hl : lv_has ls 4 [(0, .ref (ad 33 0)), (1, .int a1), (2, .int a2)] := hl
  have hO5 := hO.2.2.2.2
  suffices hgo : ∀ (H : Heap) (locs : List Loc), mw D A s.heap ca ad v g H locs → W p l e (rmL 3 0 0) s m args below meth c H locs 0 0 Q (F0 m 0 ls []) from hgo _ _ hw
  clear hw
  intro H locs hw
  refine lv_aload_n hx hb dX10_away_0 rfl (lv_at hl 0 rfl) ?_
  refine lv_iload_n hx hb dX10_away_1 rfl (lv_at hl 1 rfl) ?_
  refine lv_iload_n hx hb dX10_away_2 rfl (lv_at hl 2 rfl) ?_
  refine x_read (x_runV (rest := []) E cbX10_isWoman tw_666 (kX10_isWoman l D ca ad v g nw nb nc nm a1 a2 (hO)) ⟨rfl, rfl, by decide, by decide⟩ (m_recv E hw) (fun _ _ _ _ h => h) (fun U hU _ => by rw [hU]; exact hw.1) rfl hl.1 rfl (Nat.le_of_ble_eq_true rfl) dX10_away_3 ⟨by decide, by decide⟩) ?_
  refine lv_if_eq (tgt := 23) hx hb dX10_away_6 (by decide) (fun c_6 => ?_) (fun c_6 => ?_)
  · skip
    have c_6 := bB_0.mp c_6
    refine lv_bipush (v := (-2)) hx hb dX10_away_23 (by decide) ?_
    subst hQ
    exact m_iretS E hr hlk hw (by first | (simp [mAwayW, c_6]; done) | simp [mAwayW, nI_clamp (n := b1) (by omega), nI_clamp (n := j1) (by omega), c_6]) dX10_away_25
  · skip
    have c_6 := bB_n0.mp c_6
    obtain ⟨b1, j1, n1, g1, g2, g3, g4, rfl, rfl⟩ := mWom_nat hO5.2.1 hWo c_6
    refine lv_aload_n hx hb dX10_away_9 rfl (lv_at hl 0 rfl) ?_
    refine m_getr E hw 7 (by decide) rfl tw_551 dX10_away_10 ?_
    refine lv_bipush (v := 20) hx hb dX10_away_13 (by decide) ?_
    refine lv_iload_n hx hb dX10_away_15 rfl (lv_at hl 1 rfl) ?_
    refine lv_imul hx hb dX10_away_16 ?_
    refine x_top (x := (20 * nI b1)) (y := (nI (20 * b1))) (pk_mul 20 _) ?_
    refine lv_iload_n hx hb dX10_away_17 rfl (lv_at hl 2 rfl) ?_
    refine lv_iadd hx hb dX10_away_18 ?_
    refine x_top (x := (nI (20 * b1) + nI j1)) (y := (nI (20 * b1 + j1))) (nI_add _ _) ?_
    refine m_ild E hw 7 ⟨by decide, rfl, rfl⟩ (20 * b1 + j1) (rfl) (by show _ < 1000; omega) dX10_away_19 ?_
    refine lv_if_eq (tgt := 26) hx hb dX10_away_20 (by decide) (fun c_20 => ?_) (fun c_20 => ?_)
    · skip
      refine lv_aload_n hx hb dX10_away_26 rfl (lv_at hl 0 rfl) ?_
      refine m_getr E hw 7 (by decide) rfl tw_551 dX10_away_27 ?_
      refine lv_bipush (v := 20) hx hb dX10_away_30 (by decide) ?_
      refine lv_iload_n hx hb dX10_away_32 rfl (lv_at hl 1 rfl) ?_
      refine lv_imul hx hb dX10_away_33 ?_
      refine x_top (x := (20 * nI b1)) (y := (nI (20 * b1))) (pk_mul 20 _) ?_
      refine lv_iload_n hx hb dX10_away_34 rfl (lv_at hl 2 rfl) ?_
      refine lv_iadd hx hb dX10_away_35 ?_
      refine x_top (x := (nI (20 * b1) + nI j1)) (y := (nI (20 * b1 + j1))) (nI_add _ _) ?_
      refine lv_iconst (v := 3) hx hb dX10_away_36 (by decide) ?_
      refine m_ist E hw 7 ⟨by decide, rfl, rfl⟩ (20 * b1 + j1) (rfl) (by show _ < 1000; omega) dX10_away_37 (fun H locs hw => ?_)
      refine lv_iconst (v := 0) hx hb dX10_away_38 (by decide) ?_
      refine lv_istore_n (lv' := [(3, .int 0), (0, .ref (ad 33 0)), (1, .int (nI b1)), (2, .int (nI j1))]) hx hb dX10_away_39 rfl hl (by decide) rfl (fun ls hl => ?_)
      have lp40 : ∀ (n : Nat) (k : Nat), (k ≤ n1) → (∀ i, i < k → decide ((upd2 g 7 (20 * b1 + j1) 3) 7 (20 * b1 + i) = 1) = false) → (n1 - k < n) → ∀ (H : Heap) (locs : List Loc), mw D A s.heap ca ad v (upd2 g 7 (20 * b1 + j1) 3) H locs → ∀ ls : Array Slot, lv_has ls 4 [(0, .ref (ad 33 0)), (1, .int (nI b1)), (2, .int (nI j1)), (3, .int (nI k))] → W p l e (rmL 3 0 0) s m args below meth c H locs 0 0 Q (F0 m 40 ls []) := by
        intro n
        induction n with
        | zero =>
          intro k hi hn hfu H locs hw ls hl
          exact absurd hfu (by omega)
        | succ n ih40 =>
          intro k hi hn hfu H locs hw ls hl
          refine lv_iload_n hx hb dX10_away_40 rfl (lv_at hl 3 rfl) ?_
          refine lv_aload_n hx hb dX10_away_41 rfl (lv_at hl 0 rfl) ?_
          refine m_getr E hw 6 (by decide) rfl tw_550 dX10_away_42 ?_
          refine lv_iload_n hx hb dX10_away_45 rfl (lv_at hl 1 rfl) ?_
          refine m_ild E hw 6 ⟨by decide, rfl, rfl⟩ b1 (rfl) (by show b1 < 50; omega) dX10_away_46 ?_
          refine x_top (x := ((upd2 g 7 (20 * b1 + j1) 3) 6 b1)) (y := (nI n1)) (by simp [upd2, g4]) ?_
          refine lv_icmp_ge (tgt := 85) hx hb dX10_away_47 (by decide) (fun c_47 => ?_) (fun c_47 => ?_)
          · skip
            have hge : k = n1 := by have q9 := (nI_leI (a := n1) (b := k) (by omega) (by omega)).mp c_47; omega
            refine lv_iconst (v := (-1)) hx hb dX10_away_85 (by decide) ?_
            subst hQ
            exact m_iretS E hr hlk hw (by have hf := firstB_none (n := n1) (hge ▸ hn); simp [mAwayW, nI_clamp (n := b1) (by omega), nI_clamp (n := j1) (by omega), c_6, c_20, g4, nI_clamp (n := n1) (by omega), hf]) dX10_away_86
          · skip
            have hlt : k < n1 := by have q9 := mt (nI_leI (a := n1) (b := k) (by omega) (by omega)).mpr c_47; omega
            refine lv_aload_n hx hb dX10_away_50 rfl (lv_at hl 0 rfl) ?_
            refine m_getr E hw 7 (by decide) rfl tw_551 dX10_away_51 ?_
            refine lv_bipush (v := 20) hx hb dX10_away_54 (by decide) ?_
            refine lv_iload_n hx hb dX10_away_56 rfl (lv_at hl 1 rfl) ?_
            refine lv_imul hx hb dX10_away_57 ?_
            refine x_top (x := (20 * nI b1)) (y := (nI (20 * b1))) (pk_mul 20 _) ?_
            refine lv_iload_n hx hb dX10_away_58 rfl (lv_at hl 3 rfl) ?_
            refine lv_iadd hx hb dX10_away_59 ?_
            refine x_top (x := (nI (20 * b1) + nI k)) (y := (nI (20 * b1 + k))) (nI_add _ _) ?_
            refine m_ild E hw 7 ⟨by decide, rfl, rfl⟩ (20 * b1 + k) (rfl) (by show _ < 1000; omega) dX10_away_60 ?_
            refine lv_iconst (v := 1) hx hb dX10_away_61 (by decide) ?_
            refine lv_icmp_ne (tgt := 79) hx hb dX10_away_62 (by decide) (fun c_62 => ?_) (fun c_62 => ?_)
            · skip
              refine lv_iinc (v := (nI (k + 1))) (lv' := [(3, .int (nI (k + 1))), (0, .ref (ad 33 0)), (1, .int (nI b1)), (2, .int (nI j1))]) hx hb dX10_away_79 hl (k := 3) rfl (nI_1 _) (by decide) rfl (fun ls hl => ?_)
              refine lv_goto (tgt := 40) hx hb dX10_away_82 (by decide) ?_
              exact ih40 (k + 1) (hlt) (fun i h => by rcases Nat.lt_or_ge i k with q | q; exact hn i q; rw [show i = k by omega]; simp [c_47, c_62]) (by omega) _ _ (hw) ls (lv_sub hl [1, 2, 3, 0] rfl)
            · skip
              refine lv_aload_n hx hb dX10_away_65 rfl (lv_at hl 0 rfl) ?_
              refine m_getr E hw 7 (by decide) rfl tw_551 dX10_away_66 ?_
              refine lv_bipush (v := 20) hx hb dX10_away_69 (by decide) ?_
              refine lv_iload_n hx hb dX10_away_71 rfl (lv_at hl 1 rfl) ?_
              refine lv_imul hx hb dX10_away_72 ?_
              refine x_top (x := (20 * nI b1)) (y := (nI (20 * b1))) (pk_mul 20 _) ?_
              refine lv_iload_n hx hb dX10_away_73 rfl (lv_at hl 3 rfl) ?_
              refine lv_iadd hx hb dX10_away_74 ?_
              refine x_top (x := (nI (20 * b1) + nI k)) (y := (nI (20 * b1 + k))) (nI_add _ _) ?_
              refine lv_iconst (v := 0) hx hb dX10_away_75 (by decide) ?_
              refine m_ist E hw 7 ⟨by decide, rfl, rfl⟩ (20 * b1 + k) (rfl) (by show _ < 1000; omega) dX10_away_76 (fun H locs hw => ?_)
              refine lv_iload_n hx hb dX10_away_77 rfl (lv_at hl 3 rfl) ?_
              subst hQ
              exact m_iretS E hr hlk hw (by have hf := firstB_at (n := n1) hn (by simp [c_47, c_62]) hlt; simp [mAwayW, nI_clamp (n := b1) (by omega), nI_clamp (n := j1) (by omega), c_6, c_20, g4, nI_clamp (n := n1) (by omega), hf, hlt]) dX10_away_78
      exact lp40 (n1 + 1) 0 (Nat.zero_le _) (fun i h => absurd h (Nat.not_lt_zero _)) (by omega) _ _ (hw) ls (lv_sub hl [1, 2, 3, 0] rfl)
    · skip
      refine lv_bipush (v := (-2)) hx hb dX10_away_23 (by decide) ?_
      subst hQ
      exact m_iretS E hr hlk hw (by first | (simp [mAwayW, c_6, c_20]; done) | simp [mAwayW, nI_clamp (n := b1) (by omega), nI_clamp (n := j1) (by omega), c_6, c_20]) dX10_away_25
set_option maxHeartbeats 4000000 in
set_option maxRecDepth 100000 in
theorem kX10_leave (l : Launch) (D : va_G) (ca : Nat → ClassId) (ad : Nat → Nat → Nat) (z9 : Nat) (v : Nat → Int32) (g : Nat → Nat → Int32) (nw : Nat) (nb : Nat) (nc : Nat) (nm : Nat) (a1 : Int32) (a2 : Int32) (a3 : Int32) (a4 : Int32) (a5 : Int32) (a6 : Int32) (hO : mOK v nw nb nc nm) (hWo : mWO g nb) : Met l yX10_leave (wz yX10_leave cX10_leave 7 (some .int)) (rmL 3 0 0) (va_Pc [.ref (ad 33 0), .int a1, .int a2, .int a3, .int a4, .int a5, .int a6] (fun U => (U.heap.size = z9 ∧ mq D ca ad v g U.heap) ∧ gK D ca U)) (QcM D ca ad (wA mcnt ad z9) (some (.int (mLeaveW v g nw nb nc a1 a2 a3 a4 a5 a6).1)) ((mLeaveW v g nw nb nc a1 a2 a3 a4 a5 a6).2.1) ((mLeaveW v g nw nb nc a1 a2 a3 a4 a5 a6).2.2)) 0 0 (wA mcnt ad z9) := by
  refine x_met (by decide) (Nat.le_of_ble_eq_true rfl) ?_
  intro p e s m below meth c E hr hlk hnm hq ls hl
  obtain ⟨hsz, hq⟩ := hq
  subst hsz
  generalize hav : ([.ref (ad 33 0), .int a1, .int a2, .int a3, .int a4, .int a5, .int a6] : List Value).toArray = args at E ⊢
  have hx := E.1
  have hb := E.2.1
  have hown := E.2.2.2.1
  have hts := E.2.2.2.2.1
  have hw : mw D (wA mcnt ad s.heap.size) s.heap ca ad v g s.heap [] := wd.start hq
  generalize hQ : MQ below (QcM D ca ad (wA mcnt ad s.heap.size) (some (.int (mLeaveW v g nw nb nc a1 a2 a3 a4 a5 a6).1)) ((mLeaveW v g nw nb nc a1 a2 a3 a4 a5 a6).2.1) ((mLeaveW v g nw nb nc a1 a2 a3 a4 a5 a6).2.2)) args s 0 0 (wA mcnt ad s.heap.size) = Q
  generalize hA9 : wA mcnt ad s.heap.size = A at hw hQ
  have hl : lv_has ls 7 [(0, .ref (ad 33 0)), (1, .int a1), (2, .int a2), (3, .int a3), (4, .int a4), (5, .int a5), (6, .int a6)] := hl
  have hO5 := hO.2.2.2.2
  suffices hgo : ∀ (H : Heap) (locs : List Loc), mw D A s.heap ca ad v g H locs → W p l e (rmL 3 0 0) s m args below meth c H locs 0 0 Q (F0 m 0 ls []) from hgo _ _ hw
  clear hw
  intro H locs hw
  refine lv_aload_n hx hb dX10_leave_0 rfl (lv_at hl 0 rfl) ?_
  refine lv_iload_n hx hb dX10_leave_1 rfl (lv_at hl 1 rfl) ?_
  refine lv_iload_n hx hb dX10_leave_2 rfl (lv_at hl 2 rfl) ?_
  refine x_read (x_runV (rest := []) E cbX10_isWoman tw_666 (kX10_isWoman l D ca ad v g nw nb nc nm a1 a2 (hO)) ⟨rfl, rfl, by decide, by decide⟩ (m_recv E hw) (fun _ _ _ _ h => h) (fun U hU _ => by rw [hU]; exact hw.1) rfl hl.1 rfl (Nat.le_of_ble_eq_true rfl) dX10_leave_3 ⟨by decide, by decide⟩) ?_
  refine lv_if_eq (tgt := 74) hx hb dX10_leave_6 (by decide) (fun c_6 => ?_) (fun c_6 => ?_)
  · skip
    have c_6 := bB_0.mp c_6
    refine lv_iconst (v := (-1)) hx hb dX10_leave_74 (by decide) ?_
    subst hQ
    exact m_iretS E hr hlk hw (by first | (simp [mLeaveW, mLeaveOK, c_6]; done) | simp [mLeaveW, mLeaveOK, nI_clamp (n := b1) (by omega), nI_clamp (n := j1) (by omega), c_6]) dX10_leave_75
  · skip
    have c_6 := bB_n0.mp c_6
    obtain ⟨b1, j1, n1, g1, g2, g3, g4, rfl, rfl⟩ := mWom_nat hO5.2.1 hWo c_6
    refine lv_aload_n hx hb dX10_leave_9 rfl (lv_at hl 0 rfl) ?_
    refine m_getr E hw 7 (by decide) rfl tw_551 dX10_leave_10 ?_
    refine lv_bipush (v := 20) hx hb dX10_leave_13 (by decide) ?_
    refine lv_iload_n hx hb dX10_leave_15 rfl (lv_at hl 1 rfl) ?_
    refine lv_imul hx hb dX10_leave_16 ?_
    refine x_top (x := (20 * nI b1)) (y := (nI (20 * b1))) (pk_mul 20 _) ?_
    refine lv_iload_n hx hb dX10_leave_17 rfl (lv_at hl 2 rfl) ?_
    refine lv_iadd hx hb dX10_leave_18 ?_
    refine x_top (x := (nI (20 * b1) + nI j1)) (y := (nI (20 * b1 + j1))) (nI_add _ _) ?_
    refine m_ild E hw 7 ⟨by decide, rfl, rfl⟩ (20 * b1 + j1) (rfl) (by show _ < 1000; omega) dX10_leave_19 ?_
    refine lv_if_ne (tgt := 74) hx hb dX10_leave_20 (by decide) (fun c_20 => ?_) (fun c_20 => ?_)
    · skip
      refine lv_iconst (v := (-1)) hx hb dX10_leave_74 (by decide) ?_
      subst hQ
      exact m_iretS E hr hlk hw (by first | (simp [mLeaveW, mLeaveOK, c_6, c_20]; done) | simp [mLeaveW, mLeaveOK, nI_clamp (n := b1) (by omega), nI_clamp (n := j1) (by omega), c_6, c_20]) dX10_leave_75
    · skip
      refine lv_iload_n hx hb dX10_leave_23 rfl (lv_at hl 3 rfl) ?_
      refine lv_iconst (v := 0) hx hb dX10_leave_24 (by decide) ?_
      refine lv_iconst (v := 1) hx hb dX10_leave_25 (by decide) ?_
      refine x_read (x_runS (rest := []) E cbX10_in tw_649 (kX10_in l D ca a3 0 1 ) ⟨rfl, rfl, by decide, by decide⟩ (fun _ _ _ _ h => h) (fun _ _ _ => trivial) rfl hl.1 rfl (Nat.le_of_ble_eq_true rfl) dX10_leave_26 ⟨by decide, by decide⟩) ?_
      refine lv_if_eq (tgt := 74) hx hb dX10_leave_29 (by decide) (fun c_29 => ?_) (fun c_29 => ?_)
      · skip
        have c_29 := bB_0.mp c_29
        refine lv_iconst (v := (-1)) hx hb dX10_leave_74 (by decide) ?_
        subst hQ
        exact m_iretS E hr hlk hw (by first | (simp [mLeaveW, mLeaveOK, c_6, c_20, c_29]; done) | simp [mLeaveW, mLeaveOK, nI_clamp (n := b1) (by omega), nI_clamp (n := j1) (by omega), c_6, c_20, c_29]) dX10_leave_75
      · skip
        have c_29 := bB_n0.mp c_29
        refine lv_iload hx hb dX10_leave_32 (lv_at hl 4 rfl) ?_
        refine lv_iconst (v := 0) hx hb dX10_leave_34 (by decide) ?_
        refine lv_bipush (v := 9) hx hb dX10_leave_35 (by decide) ?_
        refine x_read (x_runS (rest := []) E cbX10_in tw_649 (kX10_in l D ca a4 0 9 ) ⟨rfl, rfl, by decide, by decide⟩ (fun _ _ _ _ h => h) (fun _ _ _ => trivial) rfl hl.1 rfl (Nat.le_of_ble_eq_true rfl) dX10_leave_37 ⟨by decide, by decide⟩) ?_
        refine lv_if_eq (tgt := 74) hx hb dX10_leave_40 (by decide) (fun c_40 => ?_) (fun c_40 => ?_)
        · skip
          have c_40 := bB_0.mp c_40
          refine lv_iconst (v := (-1)) hx hb dX10_leave_74 (by decide) ?_
          subst hQ
          exact m_iretS E hr hlk hw (by first | (simp [mLeaveW, mLeaveOK, c_6, c_20, c_29, c_40]; done) | simp [mLeaveW, mLeaveOK, nI_clamp (n := b1) (by omega), nI_clamp (n := j1) (by omega), c_6, c_20, c_29, c_40]) dX10_leave_75
        · skip
          have c_40 := bB_n0.mp c_40
          refine lv_iload hx hb dX10_leave_43 (lv_at hl 5 rfl) ?_
          refine lv_iconst (v := 0) hx hb dX10_leave_45 (by decide) ?_
          refine lv_ldc hx hb hown (hts _ tw_678) dX10_leave_46 ?_
          refine x_read (x_runS (rest := []) E cbX10_in tw_649 (kX10_in l D ca a5 0 16777215 ) ⟨rfl, rfl, by decide, by decide⟩ (fun _ _ _ _ h => h) (fun _ _ _ => trivial) rfl hl.1 rfl (Nat.le_of_ble_eq_true rfl) dX10_leave_48 ⟨by decide, by decide⟩) ?_
          refine lv_if_eq (tgt := 74) hx hb dX10_leave_51 (by decide) (fun c_51 => ?_) (fun c_51 => ?_)
          · skip
            have c_51 := bB_0.mp c_51
            refine lv_iconst (v := (-1)) hx hb dX10_leave_74 (by decide) ?_
            subst hQ
            exact m_iretS E hr hlk hw (by first | (simp [mLeaveW, mLeaveOK, c_6, c_20, c_29, c_40, c_51]; done) | simp [mLeaveW, mLeaveOK, nI_clamp (n := b1) (by omega), nI_clamp (n := j1) (by omega), c_6, c_20, c_29, c_40, c_51]) dX10_leave_75
          · skip
            have c_51 := bB_n0.mp c_51
            refine lv_iload hx hb dX10_leave_54 (lv_at hl 6 rfl) ?_
            refine lv_iconst (v := 0) hx hb dX10_leave_56 (by decide) ?_
            refine lv_ldc hx hb hown (hts _ tw_678) dX10_leave_57 ?_
            refine x_read (x_runS (rest := []) E cbX10_in tw_649 (kX10_in l D ca a6 0 16777215 ) ⟨rfl, rfl, by decide, by decide⟩ (fun _ _ _ _ h => h) (fun _ _ _ => trivial) rfl hl.1 rfl (Nat.le_of_ble_eq_true rfl) dX10_leave_59 ⟨by decide, by decide⟩) ?_
            refine lv_if_eq (tgt := 74) hx hb dX10_leave_62 (by decide) (fun c_62 => ?_) (fun c_62 => ?_)
            · skip
              have c_62 := bB_0.mp c_62
              refine lv_iconst (v := (-1)) hx hb dX10_leave_74 (by decide) ?_
              subst hQ
              exact m_iretS E hr hlk hw (by first | (simp [mLeaveW, mLeaveOK, c_6, c_20, c_29, c_40, c_51, c_62]; done) | simp [mLeaveW, mLeaveOK, nI_clamp (n := b1) (by omega), nI_clamp (n := j1) (by omega), c_6, c_20, c_29, c_40, c_51, c_62]) dX10_leave_75
            · skip
              have c_62 := bB_n0.mp c_62
              refine lv_aload_n hx hb dX10_leave_65 rfl (lv_at hl 0 rfl) ?_
              refine m_geti (x := (nI nc)) E hw 2 (by decide) rfl tw_546 (hO.2.2.1) dX10_leave_66 ?_
              refine lv_bipush (v := 60) hx hb dX10_leave_69 (by decide) ?_
              refine lv_icmp_ne (tgt := 76) hx hb dX10_leave_71 (by decide) (fun c_71 => ?_) (fun c_71 => ?_)
              · skip
                have hc_60 : ¬ nc = 60 := fun q => c_71 (by rw [q]; rfl)
                refine lv_aload_n hx hb dX10_leave_76 rfl (lv_at hl 0 rfl) ?_
                refine m_getr E hw 7 (by decide) rfl tw_551 dX10_leave_77 ?_
                refine lv_bipush (v := 20) hx hb dX10_leave_80 (by decide) ?_
                refine lv_iload_n hx hb dX10_leave_82 rfl (lv_at hl 1 rfl) ?_
                refine lv_imul hx hb dX10_leave_83 ?_
                refine x_top (x := (20 * nI b1)) (y := (nI (20 * b1))) (pk_mul 20 _) ?_
                refine lv_iload_n hx hb dX10_leave_84 rfl (lv_at hl 2 rfl) ?_
                refine lv_iadd hx hb dX10_leave_85 ?_
                refine x_top (x := (nI (20 * b1) + nI j1)) (y := (nI (20 * b1 + j1))) (nI_add _ _) ?_
                refine lv_iconst (v := 4) hx hb dX10_leave_86 (by decide) ?_
                refine m_ist E hw 7 ⟨by decide, rfl, rfl⟩ (20 * b1 + j1) (rfl) (by show _ < 1000; omega) dX10_leave_87 (fun H locs hw => ?_)
                refine lv_aload_n hx hb dX10_leave_88 rfl (lv_at hl 0 rfl) ?_
                refine m_getr E hw 9 (by decide) rfl tw_553 dX10_leave_89 ?_
                refine lv_aload_n hx hb dX10_leave_92 rfl (lv_at hl 0 rfl) ?_
                refine m_geti (x := (nI nc)) E hw 2 (by decide) rfl tw_546 (hO.2.2.1) dX10_leave_93 ?_
                refine lv_aload_n hx hb dX10_leave_96 rfl (lv_at hl 0 rfl) ?_
                refine m_geti (x := (nI nw)) E hw 0 (by decide) rfl tw_544 (hO.1) dX10_leave_97 ?_
                refine m_ist E hw 9 ⟨by decide, rfl, rfl⟩ nc (rfl) (by show nc < 60; omega) dX10_leave_100 (fun H locs hw => ?_)
                refine lv_aload_n hx hb dX10_leave_101 rfl (lv_at hl 0 rfl) ?_
                refine m_getr E hw 10 (by decide) rfl tw_554 dX10_leave_102 ?_
                refine lv_aload_n hx hb dX10_leave_105 rfl (lv_at hl 0 rfl) ?_
                refine m_geti (x := (nI nc)) E hw 2 (by decide) rfl tw_546 (hO.2.2.1) dX10_leave_106 ?_
                refine lv_iload_n hx hb dX10_leave_109 rfl (lv_at hl 3 rfl) ?_
                refine m_ist E hw 10 ⟨by decide, rfl, rfl⟩ nc (rfl) (by show nc < 60; omega) dX10_leave_110 (fun H locs hw => ?_)
                refine lv_aload_n hx hb dX10_leave_111 rfl (lv_at hl 0 rfl) ?_
                refine m_getr E hw 11 (by decide) rfl tw_555 dX10_leave_112 ?_
                refine lv_aload_n hx hb dX10_leave_115 rfl (lv_at hl 0 rfl) ?_
                refine m_geti (x := (nI nc)) E hw 2 (by decide) rfl tw_546 (hO.2.2.1) dX10_leave_116 ?_
                refine lv_iload hx hb dX10_leave_119 (lv_at hl 4 rfl) ?_
                refine m_ist E hw 11 ⟨by decide, rfl, rfl⟩ nc (rfl) (by show nc < 60; omega) dX10_leave_121 (fun H locs hw => ?_)
                refine lv_aload_n hx hb dX10_leave_122 rfl (lv_at hl 0 rfl) ?_
                refine m_getr E hw 12 (by decide) rfl tw_556 dX10_leave_123 ?_
                refine lv_aload_n hx hb dX10_leave_126 rfl (lv_at hl 0 rfl) ?_
                refine m_geti (x := (nI nc)) E hw 2 (by decide) rfl tw_546 (hO.2.2.1) dX10_leave_127 ?_
                refine lv_iload hx hb dX10_leave_130 (lv_at hl 5 rfl) ?_
                refine m_ist E hw 12 ⟨by decide, rfl, rfl⟩ nc (rfl) (by show nc < 60; omega) dX10_leave_132 (fun H locs hw => ?_)
                refine lv_aload_n hx hb dX10_leave_133 rfl (lv_at hl 0 rfl) ?_
                refine m_getr E hw 13 (by decide) rfl tw_557 dX10_leave_134 ?_
                refine lv_aload_n hx hb dX10_leave_137 rfl (lv_at hl 0 rfl) ?_
                refine m_geti (x := (nI nc)) E hw 2 (by decide) rfl tw_546 (hO.2.2.1) dX10_leave_138 ?_
                refine lv_iload hx hb dX10_leave_141 (lv_at hl 6 rfl) ?_
                refine m_ist E hw 13 ⟨by decide, rfl, rfl⟩ nc (rfl) (by show nc < 60; omega) dX10_leave_143 (fun H locs hw => ?_)
                refine lv_aload_n hx hb dX10_leave_144 rfl (lv_at hl 0 rfl) ?_
                refine m_getr E hw 14 (by decide) rfl tw_558 dX10_leave_145 ?_
                refine lv_aload_n hx hb dX10_leave_148 rfl (lv_at hl 0 rfl) ?_
                refine m_geti (x := (nI nc)) E hw 2 (by decide) rfl tw_546 (hO.2.2.1) dX10_leave_149 ?_
                refine lv_iload_n hx hb dX10_leave_152 rfl (lv_at hl 1 rfl) ?_
                refine m_ist E hw 14 ⟨by decide, rfl, rfl⟩ nc (rfl) (by show nc < 60; omega) dX10_leave_153 (fun H locs hw => ?_)
                refine lv_aload_n hx hb dX10_leave_154 rfl (lv_at hl 0 rfl) ?_
                refine m_getr E hw 15 (by decide) rfl tw_559 dX10_leave_155 ?_
                refine lv_aload_n hx hb dX10_leave_158 rfl (lv_at hl 0 rfl) ?_
                refine m_geti (x := (nI nc)) E hw 2 (by decide) rfl tw_546 (hO.2.2.1) dX10_leave_159 ?_
                refine lv_iload_n hx hb dX10_leave_162 rfl (lv_at hl 2 rfl) ?_
                refine m_ist E hw 15 ⟨by decide, rfl, rfl⟩ nc (rfl) (by show nc < 60; omega) dX10_leave_163 (fun H locs hw => ?_)
                refine lv_aload_n hx hb dX10_leave_164 rfl (lv_at hl 0 rfl) ?_
                refine lv_dup hx hb dX10_leave_165 rfl ?_
                refine m_geti (x := (nI nc)) E hw 2 (by decide) rfl tw_546 (hO.2.2.1) dX10_leave_166 ?_
                refine lv_iconst (v := 1) hx hb dX10_leave_169 (by decide) ?_
                refine lv_iadd hx hb dX10_leave_170 ?_
                refine x_top (x := (nI nc + 1)) (y := (nI (nc + 1))) (nI_1 _) ?_
                refine m_put E hw 2 (by decide) rfl tw_546 dX10_leave_171 (fun H locs hw => ?_)
                refine lv_aload_n hx hb dX10_leave_174 rfl (lv_at hl 0 rfl) ?_
                refine m_geti (x := (nI (nc + 1))) E hw 2 (by decide) rfl tw_546 (by simp [upd]) dX10_leave_175 ?_
                refine lv_iconst (v := 1) hx hb dX10_leave_178 (by decide) ?_
                refine lv_isub hx hb dX10_leave_179 ?_
                refine x_top (x := ((nI (nc + 1)) - 1)) (y := (nI nc)) (nI_pred _) ?_
                subst hQ
                exact m_iretS E hr hlk hw (by first | (simp [mLeaveW, mLeaveOK, c_6, c_20, c_29, c_40, c_51, c_62, c_71, hc_60]; done) | simp [mLeaveW, mLeaveOK, nI_clamp (n := b1) (by omega), nI_clamp (n := j1) (by omega), c_6, c_20, c_29, c_40, c_51, c_62, c_71, hc_60]) dX10_leave_180
              · skip
                have hc_60 : nc = 60 := (nI_eq (a := nc) (b := 60) (by omega) (by decide)).mp c_71
                refine lv_iconst (v := (-1)) hx hb dX10_leave_74 (by decide) ?_
                subst hQ
                exact m_iretS E hr hlk hw (by first | (simp [mLeaveW, mLeaveOK, c_6, c_20, c_29, c_40, c_51, c_62, c_71, hc_60]; done) | simp [mLeaveW, mLeaveOK, nI_clamp (n := b1) (by omega), nI_clamp (n := j1) (by omega), c_6, c_20, c_29, c_40, c_51, c_62, c_71, hc_60]) dX10_leave_75
set_option maxHeartbeats 4000000 in
set_option maxRecDepth 100000 in
theorem kX10_beds (l : Launch) (D : va_G) (ca : Nat → ClassId) (ad : Nat → Nat → Nat) (z9 : Nat) (v : Nat → Int32) (g : Nat → Nat → Int32) (nw : Nat) (nb : Nat) (nc : Nat) (nm : Nat) (a1 : Int32) (a2 : Int32) (hO : mOK v nw nb nc nm) : Met l yX10_beds (wz yX10_beds cX10_beds 3 (some .boolean)) (rmL 4 0 0) (va_Pc [.ref (ad 33 0), .int a1, .int a2] (fun U => (U.heap.size = z9 ∧ mq D ca ad v g U.heap) ∧ gK D ca U)) (QcM D ca ad (wA mcnt ad z9) (some (.int (mBedsW v g nw nc nm a1 a2).1)) ((mBedsW v g nw nc nm a1 a2).2.1) ((mBedsW v g nw nc nm a1 a2).2.2)) 0 0 (wA mcnt ad z9) := by
  refine x_met (by decide) (Nat.le_of_ble_eq_true rfl) ?_
  intro p e s m below meth c E hr hlk hnm hq ls hl
  obtain ⟨hsz, hq⟩ := hq
  subst hsz
  generalize hav : ([.ref (ad 33 0), .int a1, .int a2] : List Value).toArray = args at E ⊢
  have hx := E.1
  have hb := E.2.1
  have hown := E.2.2.2.1
  have hts := E.2.2.2.2.1
  have hw : mw D (wA mcnt ad s.heap.size) s.heap ca ad v g s.heap [] := wd.start hq
  generalize hQ : MQ below (QcM D ca ad (wA mcnt ad s.heap.size) (some (.int (mBedsW v g nw nc nm a1 a2).1)) ((mBedsW v g nw nc nm a1 a2).2.1) ((mBedsW v g nw nc nm a1 a2).2.2)) args s 0 0 (wA mcnt ad s.heap.size) = Q
  generalize hA9 : wA mcnt ad s.heap.size = A at hw hQ
  have hl : lv_has ls 3 [(0, .ref (ad 33 0)), (1, .int a1), (2, .int a2)] := hl
  have hO5 := hO.2.2.2.2
  suffices hgo : ∀ (H : Heap) (locs : List Loc), mw D A s.heap ca ad v g H locs → W p l e (rmL 4 0 0) s m args below meth c H locs 0 0 Q (F0 m 0 ls []) from hgo _ _ hw
  clear hw
  intro H locs hw
  refine lv_iload_n hx hb dX10_beds_0 rfl (lv_at hl 1 rfl) ?_
  refine lv_iconst (v := 1) hx hb dX10_beds_1 (by decide) ?_
  refine lv_bipush (v := 12) hx hb dX10_beds_2 (by decide) ?_
  refine x_read (x_runS (rest := []) E cbX10_in tw_649 (kX10_in l D ca a1 1 12 ) ⟨rfl, rfl, by decide, by decide⟩ (fun _ _ _ _ h => h) (fun _ _ _ => trivial) rfl hl.1 rfl (Nat.le_of_ble_eq_true rfl) dX10_beds_4 ⟨by decide, by decide⟩) ?_
  refine lv_if_eq (tgt := 29) hx hb dX10_beds_7 (by decide) (fun c_7 => ?_) (fun c_7 => ?_)
  · skip
    have c_7 := bB_0.mp c_7
    refine lv_iconst (v := 0) hx hb dX10_beds_29 (by decide) ?_
    subst hQ
    exact m_zretS E hr hlk (by decide) hw (by first | (simp [mBedsW, c_7]; done) | simp [mBedsW, nI_clamp (n := n1) (by omega), c_7]) dX10_beds_30
  · skip
    have c_7 := bB_n0.mp c_7
    obtain ⟨n1, g1, g2, rfl⟩ := isIn_rng (lo := 1) (hi := 12) (by decide) (by decide) c_7
    refine lv_iload_n hx hb dX10_beds_10 rfl (lv_at hl 2 rfl) ?_
    refine lv_iconst (v := 1) hx hb dX10_beds_11 (by decide) ?_
    refine lv_iconst (v := 3) hx hb dX10_beds_12 (by decide) ?_
    refine x_read (x_runS (rest := []) E cbX10_in tw_649 (kX10_in l D ca a2 1 3 ) ⟨rfl, rfl, by decide, by decide⟩ (fun _ _ _ _ h => h) (fun _ _ _ => trivial) rfl hl.1 rfl (Nat.le_of_ble_eq_true rfl) dX10_beds_13 ⟨by decide, by decide⟩) ?_
    refine lv_if_eq (tgt := 29) hx hb dX10_beds_16 (by decide) (fun c_16 => ?_) (fun c_16 => ?_)
    · skip
      have c_16 := bB_0.mp c_16
      refine lv_iconst (v := 0) hx hb dX10_beds_29 (by decide) ?_
      subst hQ
      exact m_zretS E hr hlk (by decide) hw (by first | (simp [mBedsW, c_7, c_16]; done) | simp [mBedsW, nI_clamp (n := n1) (by omega), c_7, c_16]) dX10_beds_30
    · skip
      have c_16 := bB_n0.mp c_16
      refine lv_aload_n hx hb dX10_beds_19 rfl (lv_at hl 0 rfl) ?_
      refine lv_iload_n hx hb dX10_beds_20 rfl (lv_at hl 1 rfl) ?_
      refine lv_iconst (v := 0) hx hb dX10_beds_21 (by decide) ?_
      refine lv_iload_n hx hb dX10_beds_22 rfl (lv_at hl 2 rfl) ?_
      refine x_read (x_runV (rest := []) E cbX10_hasRoom tw_683 (kX10_hasRoom l D ca ad v g nw nb nc nm (nI n1) 0 a2 (hO) (Nat.zero_le _)) ⟨rfl, rfl, by decide, by decide⟩ (m_recv E hw) (fun _ _ _ _ h => h) (fun U hU _ => by rw [hU]; exact hw.1) rfl hl.1 rfl (Nat.le_of_ble_eq_true rfl) dX10_beds_23 ⟨by decide, by decide⟩) ?_
      refine lv_if_ne (tgt := 31) hx hb dX10_beds_26 (by decide) (fun c_26 => ?_) (fun c_26 => ?_)
      · skip
        have c_26 := bB_n0.mp c_26
        refine lv_aload_n hx hb dX10_beds_31 rfl (lv_at hl 0 rfl) ?_
        refine m_getr E hw 22 (by decide) rfl tw_566 dX10_beds_32 ?_
        refine lv_iload_n hx hb dX10_beds_35 rfl (lv_at hl 1 rfl) ?_
        refine lv_iload_n hx hb dX10_beds_36 rfl (lv_at hl 2 rfl) ?_
        refine m_ist E hw 22 ⟨by decide, rfl, rfl⟩ n1 (rfl) (by show n1 < 13; omega) dX10_beds_37 (fun H locs hw => ?_)
        refine lv_iconst (v := 1) hx hb dX10_beds_38 (by decide) ?_
        subst hQ
        exact m_zretS E hr hlk (by decide) hw (by first | (simp [mBedsW, c_7, c_16, c_26]; done) | simp [mBedsW, nI_clamp (n := n1) (by omega), c_7, c_16, c_26]) dX10_beds_39
      · skip
        have c_26 := bB_0.mp c_26
        refine lv_iconst (v := 0) hx hb dX10_beds_29 (by decide) ?_
        subst hQ
        exact m_zretS E hr hlk (by decide) hw (by first | (simp [mBedsW, c_7, c_16, c_26]; done) | simp [mBedsW, nI_clamp (n := n1) (by omega), c_7, c_16, c_26]) dX10_beds_30
set_option maxHeartbeats 4000000 in
set_option maxRecDepth 100000 in
theorem kX10_look (l : Launch) (D : va_G) (ca : Nat → ClassId) (ad : Nat → Nat → Nat) (z9 : Nat) (v : Nat → Int32) (g : Nat → Nat → Int32) (nw : Nat) (nb : Nat) (nc : Nat) (nm : Nat) (a1 : Int32) (hO : mOK v nw nb nc nm) : Met l yX10_look (wz yX10_look cX10_look 2 (some .boolean)) (rmL 2 0 0) (va_Pc [.ref (ad 33 0), .int a1] (fun U => (U.heap.size = z9 ∧ mq D ca ad v g U.heap) ∧ gK D ca U)) (QcM D ca ad (wA mcnt ad z9) (some (.int (mLookW v g nw a1).1)) ((mLookW v g nw a1).2.1) ((mLookW v g nw a1).2.2)) 0 0 (wA mcnt ad z9) := by
  refine x_met (by decide) (Nat.le_of_ble_eq_true rfl) ?_
  intro p e s m below meth c E hr hlk hnm hq ls hl
  obtain ⟨hsz, hq⟩ := hq
  subst hsz
  generalize hav : ([.ref (ad 33 0), .int a1] : List Value).toArray = args at E ⊢
  have hx := E.1
  have hb := E.2.1
  have hown := E.2.2.2.1
  have hts := E.2.2.2.2.1
  have hw : mw D (wA mcnt ad s.heap.size) s.heap ca ad v g s.heap [] := wd.start hq
  generalize hQ : MQ below (QcM D ca ad (wA mcnt ad s.heap.size) (some (.int (mLookW v g nw a1).1)) ((mLookW v g nw a1).2.1) ((mLookW v g nw a1).2.2)) args s 0 0 (wA mcnt ad s.heap.size) = Q
  generalize hA9 : wA mcnt ad s.heap.size = A at hw hQ
  have hl : lv_has ls 2 [(0, .ref (ad 33 0)), (1, .int a1)] := hl
  have hO5 := hO.2.2.2.2
  suffices hgo : ∀ (H : Heap) (locs : List Loc), mw D A s.heap ca ad v g H locs → W p l e (rmL 2 0 0) s m args below meth c H locs 0 0 Q (F0 m 0 ls []) from hgo _ _ hw
  clear hw
  intro H locs hw
  refine lv_iload_n hx hb dX10_look_0 rfl (lv_at hl 1 rfl) ?_
  refine lv_iconst (v := 1) hx hb dX10_look_1 (by decide) ?_
  refine lv_bipush (v := 12) hx hb dX10_look_2 (by decide) ?_
  refine x_read (x_runS (rest := []) E cbX10_in tw_649 (kX10_in l D ca a1 1 12 ) ⟨rfl, rfl, by decide, by decide⟩ (fun _ _ _ _ h => h) (fun _ _ _ => trivial) rfl hl.1 rfl (Nat.le_of_ble_eq_true rfl) dX10_look_4 ⟨by decide, by decide⟩) ?_
  refine lv_if_eq (tgt := 28) hx hb dX10_look_7 (by decide) (fun c_7 => ?_) (fun c_7 => ?_)
  · skip
    have c_7 := bB_0.mp c_7
    refine lv_iconst (v := 0) hx hb dX10_look_28 (by decide) ?_
    subst hQ
    exact m_zretS E hr hlk (by decide) hw (by first | (simp [mLookW, c_7]; done) | simp [mLookW, nI_clamp (n := n1) (by omega), c_7]) dX10_look_29
  · skip
    have c_7 := bB_n0.mp c_7
    obtain ⟨n1, g1, g2, rfl⟩ := isIn_rng (lo := 1) (hi := 12) (by decide) (by decide) c_7
    refine lv_aload_n hx hb dX10_look_10 rfl (lv_at hl 0 rfl) ?_
    refine m_getr E hw 23 (by decide) rfl tw_567 dX10_look_11 ?_
    refine lv_sipush (v := 2001) hx hb dX10_look_14 (by decide) ?_
    refine lv_iload_n hx hb dX10_look_17 rfl (lv_at hl 1 rfl) ?_
    refine lv_imul hx hb dX10_look_18 ?_
    refine x_top (x := (2001 * nI n1)) (y := (nI (2001 * n1))) (pk_mul 2001 _) ?_
    refine lv_aload_n hx hb dX10_look_19 rfl (lv_at hl 0 rfl) ?_
    refine m_geti (x := (nI nw)) E hw 0 (by decide) rfl tw_544 (hO.1) dX10_look_20 ?_
    refine lv_iadd hx hb dX10_look_23 ?_
    refine x_top (x := (nI (2001 * n1) + nI nw)) (y := (nI (2001 * n1 + nw))) (nI_add _ _) ?_
    refine m_zld E hw 23 ⟨by decide, rfl, rfl⟩ (2001 * n1 + nw) (rfl) (by show _ < 26013; omega) dX10_look_24 ?_
    refine lv_if_eq (tgt := 30) hx hb dX10_look_25 (by decide) (fun c_25 => ?_) (fun c_25 => ?_)
    · skip
      refine lv_aload_n hx hb dX10_look_30 rfl (lv_at hl 0 rfl) ?_
      refine m_getr E hw 23 (by decide) rfl tw_567 dX10_look_31 ?_
      refine lv_sipush (v := 2001) hx hb dX10_look_34 (by decide) ?_
      refine lv_iload_n hx hb dX10_look_37 rfl (lv_at hl 1 rfl) ?_
      refine lv_imul hx hb dX10_look_38 ?_
      refine x_top (x := (2001 * nI n1)) (y := (nI (2001 * n1))) (pk_mul 2001 _) ?_
      refine lv_aload_n hx hb dX10_look_39 rfl (lv_at hl 0 rfl) ?_
      refine m_geti (x := (nI nw)) E hw 0 (by decide) rfl tw_544 (hO.1) dX10_look_40 ?_
      refine lv_iadd hx hb dX10_look_43 ?_
      refine x_top (x := (nI (2001 * n1) + nI nw)) (y := (nI (2001 * n1 + nw))) (nI_add _ _) ?_
      refine lv_iconst (v := 1) hx hb dX10_look_44 (by decide) ?_
      refine m_zst E hw 23 ⟨by decide, rfl, rfl⟩ (2001 * n1 + nw) (rfl) (by show _ < 26013; omega) (by decide) dX10_look_45 (fun H locs hw => ?_)
      refine lv_aload_n hx hb dX10_look_46 rfl (lv_at hl 0 rfl) ?_
      refine lv_dup hx hb dX10_look_47 rfl ?_
      refine m_geti (x := (v 4)) E hw 4 (by decide) rfl tw_548 (rfl) dX10_look_48 ?_
      refine lv_iconst (v := 1) hx hb dX10_look_51 (by decide) ?_
      refine lv_iadd hx hb dX10_look_52 ?_
      refine m_put E hw 4 (by decide) rfl tw_548 dX10_look_53 (fun H locs hw => ?_)
      refine lv_iconst (v := 1) hx hb dX10_look_56 (by decide) ?_
      subst hQ
      exact m_zretS E hr hlk (by decide) hw (by first | (simp [mLookW, c_7, c_25]; done) | simp [mLookW, nI_clamp (n := n1) (by omega), c_7, c_25]) dX10_look_57
    · skip
      refine lv_iconst (v := 0) hx hb dX10_look_28 (by decide) ?_
      subst hQ
      exact m_zretS E hr hlk (by decide) hw (by first | (simp [mLookW, c_7, c_25]; done) | simp [mLookW, nI_clamp (n := n1) (by omega), c_7, c_25]) dX10_look_29
set_option maxHeartbeats 4000000 in
set_option maxRecDepth 100000 in
theorem kX10_end (l : Launch) (D : va_G) (ca : Nat → ClassId) (ad : Nat → Nat → Nat) (z9 : Nat) (v : Nat → Int32) (g : Nat → Nat → Int32) (a1 : Int32)  : Met l yX10_end (wz yX10_end cX10_end 2 (some .boolean)) (rmL 1 0 0) (va_Pc [.ref (ad 33 0), .int a1] (fun U => (U.heap.size = z9 ∧ mq D ca ad v g U.heap) ∧ gK D ca U)) (QcM D ca ad (wA mcnt ad z9) (some (.int (mEndW v g a1).1)) ((mEndW v g a1).2.1) ((mEndW v g a1).2.2)) 0 0 (wA mcnt ad z9) := by
  refine x_met (by decide) (Nat.le_of_ble_eq_true rfl) ?_
  intro p e s m below meth c E hr hlk hnm hq ls hl
  obtain ⟨hsz, hq⟩ := hq
  subst hsz
  generalize hav : ([.ref (ad 33 0), .int a1] : List Value).toArray = args at E ⊢
  have hx := E.1
  have hb := E.2.1
  have hown := E.2.2.2.1
  have hts := E.2.2.2.2.1
  have hw : mw D (wA mcnt ad s.heap.size) s.heap ca ad v g s.heap [] := wd.start hq
  generalize hQ : MQ below (QcM D ca ad (wA mcnt ad s.heap.size) (some (.int (mEndW v g a1).1)) ((mEndW v g a1).2.1) ((mEndW v g a1).2.2)) args s 0 0 (wA mcnt ad s.heap.size) = Q
  generalize hA9 : wA mcnt ad s.heap.size = A at hw hQ
  have hl : lv_has ls 2 [(0, .ref (ad 33 0)), (1, .int a1)] := hl
  suffices hgo : ∀ (H : Heap) (locs : List Loc), mw D A s.heap ca ad v g H locs → W p l e (rmL 1 0 0) s m args below meth c H locs 0 0 Q (F0 m 0 ls []) from hgo _ _ hw
  clear hw
  intro H locs hw
  refine lv_iload_n hx hb dX10_end_0 rfl (lv_at hl 1 rfl) ?_
  refine lv_if_lt (tgt := 12) hx hb dX10_end_1 (by decide) (fun c_1 => ?_) (fun c_1 => ?_)
  · skip
    refine lv_iconst (v := 0) hx hb dX10_end_12 (by decide) ?_
    subst hQ
    exact m_zretS E hr hlk (by decide) hw (by simp [mEndW, isIn, c_1]) dX10_end_13
  · skip
    refine lv_iload_n hx hb dX10_end_4 rfl (lv_at hl 1 rfl) ?_
    refine lv_aload_n hx hb dX10_end_5 rfl (lv_at hl 0 rfl) ?_
    refine m_geti (x := (v 27)) E hw 27 (by decide) rfl tw_571 (rfl) dX10_end_6 ?_
    refine lv_icmp_le (tgt := 14) hx hb dX10_end_9 (by decide) (fun c_9 => ?_) (fun c_9 => ?_)
    · skip
      refine lv_aload_n hx hb dX10_end_14 rfl (lv_at hl 0 rfl) ?_
      refine lv_iload_n hx hb dX10_end_15 rfl (lv_at hl 1 rfl) ?_
      refine m_put E hw 27 (by decide) rfl tw_571 dX10_end_16 (fun H locs hw => ?_)
      refine lv_iconst (v := 1) hx hb dX10_end_19 (by decide) ?_
      subst hQ
      exact m_zretS E hr hlk (by decide) hw (by simp [mEndW, isIn, c_1, c_9]) dX10_end_20
    · skip
      refine lv_iconst (v := 0) hx hb dX10_end_12 (by decide) ?_
      subst hQ
      exact m_zretS E hr hlk (by decide) hw (by simp [mEndW, isIn, c_1, c_9]) dX10_end_13
set_option maxHeartbeats 4000000 in
set_option maxRecDepth 100000 in
theorem kX10_name (l : Launch) (D : va_G) (ca : Nat → ClassId) (ad : Nat → Nat → Nat) (z9 : Nat) (v : Nat → Int32) (g : Nat → Nat → Int32) (nw : Nat) (nb : Nat) (nc : Nat) (nm : Nat) (a1 : Int32) (a2 : Int32) (hO : mOK v nw nb nc nm) : Met l yX10_name (wz yX10_name cX10_name 3 (some .boolean)) (rmL 3 0 0) (va_Pc [.ref (ad 33 0), .int a1, .int a2] (fun U => (U.heap.size = z9 ∧ mq D ca ad v g U.heap) ∧ gK D ca U)) (QcM D ca ad (wA mcnt ad z9) (some (.int (mNameW v g nc a1 a2).1)) ((mNameW v g nc a1 a2).2.1) ((mNameW v g nc a1 a2).2.2)) 0 0 (wA mcnt ad z9) := by
  refine x_met (by decide) (Nat.le_of_ble_eq_true rfl) ?_
  intro p e s m below meth c E hr hlk hnm hq ls hl
  obtain ⟨hsz, hq⟩ := hq
  subst hsz
  generalize hav : ([.ref (ad 33 0), .int a1, .int a2] : List Value).toArray = args at E ⊢
  have hx := E.1
  have hb := E.2.1
  have hown := E.2.2.2.1
  have hts := E.2.2.2.2.1
  have hw : mw D (wA mcnt ad s.heap.size) s.heap ca ad v g s.heap [] := wd.start hq
  generalize hQ : MQ below (QcM D ca ad (wA mcnt ad s.heap.size) (some (.int (mNameW v g nc a1 a2).1)) ((mNameW v g nc a1 a2).2.1) ((mNameW v g nc a1 a2).2.2)) args s 0 0 (wA mcnt ad s.heap.size) = Q
  generalize hA9 : wA mcnt ad s.heap.size = A at hw hQ
  have hl : lv_has ls 3 [(0, .ref (ad 33 0)), (1, .int a1), (2, .int a2)] := hl
  have hO5 := hO.2.2.2.2
  suffices hgo : ∀ (H : Heap) (locs : List Loc), mw D A s.heap ca ad v g H locs → W p l e (rmL 3 0 0) s m args below meth c H locs 0 0 Q (F0 m 0 ls []) from hgo _ _ hw
  clear hw
  intro H locs hw
  refine lv_aload_n hx hb dX10_name_0 rfl (lv_at hl 0 rfl) ?_
  refine lv_iload_n hx hb dX10_name_1 rfl (lv_at hl 1 rfl) ?_
  refine x_read (x_runV (rest := []) E cbX10_isChild tw_707 (kX10_isChild l D ca ad v g nw nb nc nm a1 (hO)) ⟨rfl, rfl, by decide, by decide⟩ (m_recv E hw) (fun _ _ _ _ h => h) (fun U hU _ => by rw [hU]; exact hw.1) rfl hl.1 rfl (Nat.le_of_ble_eq_true rfl) dX10_name_2 ⟨by decide, by decide⟩) ?_
  refine lv_if_eq (tgt := 27) hx hb dX10_name_5 (by decide) (fun c_5 => ?_) (fun c_5 => ?_)
  · skip
    have c_5 := bB_0.mp c_5
    refine lv_iconst (v := 0) hx hb dX10_name_27 (by decide) ?_
    subst hQ
    exact m_zretS E hr hlk (by decide) hw (by first | (simp [mNameW, c_5]; done) | simp [mNameW, nI_clamp (n := j) (by omega), c_5]) dX10_name_28
  · skip
    have c_5 := bB_n0.mp c_5
    obtain ⟨j, hj, rfl⟩ := isIn_nat (by omega) c_5
    refine lv_iload_n hx hb dX10_name_8 rfl (lv_at hl 2 rfl) ?_
    refine lv_iconst (v := 1) hx hb dX10_name_9 (by decide) ?_
    refine lv_ldc hx hb hown (hts _ tw_824) dX10_name_10 ?_
    refine x_read (x_runS (rest := []) E cbX10_in tw_649 (kX10_in l D ca a2 1 1000000 ) ⟨rfl, rfl, by decide, by decide⟩ (fun _ _ _ _ h => h) (fun _ _ _ => trivial) rfl hl.1 rfl (Nat.le_of_ble_eq_true rfl) dX10_name_12 ⟨by decide, by decide⟩) ?_
    refine lv_if_eq (tgt := 27) hx hb dX10_name_15 (by decide) (fun c_15 => ?_) (fun c_15 => ?_)
    · skip
      have c_15 := bB_0.mp c_15
      refine lv_iconst (v := 0) hx hb dX10_name_27 (by decide) ?_
      subst hQ
      exact m_zretS E hr hlk (by decide) hw (by first | (simp [mNameW, c_5, c_15]; done) | simp [mNameW, nI_clamp (n := j) (by omega), c_5, c_15]) dX10_name_28
    · skip
      have c_15 := bB_n0.mp c_15
      refine lv_aload_n hx hb dX10_name_18 rfl (lv_at hl 0 rfl) ?_
      refine m_getr E hw 16 (by decide) rfl tw_560 dX10_name_19 ?_
      refine lv_iload_n hx hb dX10_name_22 rfl (lv_at hl 1 rfl) ?_
      refine m_ild E hw 16 ⟨by decide, rfl, rfl⟩ j (rfl) (by show j < 60; omega) dX10_name_23 ?_
      refine lv_if_eq (tgt := 29) hx hb dX10_name_24 (by decide) (fun c_24 => ?_) (fun c_24 => ?_)
      · skip
        refine lv_aload_n hx hb dX10_name_29 rfl (lv_at hl 0 rfl) ?_
        refine m_getr E hw 16 (by decide) rfl tw_560 dX10_name_30 ?_
        refine lv_iload_n hx hb dX10_name_33 rfl (lv_at hl 1 rfl) ?_
        refine lv_iload_n hx hb dX10_name_34 rfl (lv_at hl 2 rfl) ?_
        refine m_ist E hw 16 ⟨by decide, rfl, rfl⟩ j (rfl) (by show j < 60; omega) dX10_name_35 (fun H locs hw => ?_)
        refine lv_iconst (v := 1) hx hb dX10_name_36 (by decide) ?_
        subst hQ
        exact m_zretS E hr hlk (by decide) hw (by first | (simp [mNameW, c_5, c_15, c_24]; done) | simp [mNameW, nI_clamp (n := j) (by omega), c_5, c_15, c_24]) dX10_name_37
      · skip
        refine lv_iconst (v := 0) hx hb dX10_name_27 (by decide) ?_
        subst hQ
        exact m_zretS E hr hlk (by decide) hw (by first | (simp [mNameW, c_5, c_15, c_24]; done) | simp [mNameW, nI_clamp (n := j) (by omega), c_5, c_15, c_24]) dX10_name_28
set_option maxHeartbeats 4000000 in
set_option maxRecDepth 100000 in
theorem kX10_allow (l : Launch) (D : va_G) (ca : Nat → ClassId) (ad : Nat → Nat → Nat) (z9 : Nat) (v : Nat → Int32) (g : Nat → Nat → Int32) (nw : Nat) (nb : Nat) (nc : Nat) (nm : Nat) (a1 : Int32) (a2 : Int32) (tb : Bool) (hO : mOK v nw nb nc nm) : Met l yX10_allow (wz yX10_allow cX10_allow 4 (some .boolean)) (rmL 4 0 0) (va_Pc [.ref (ad 33 0), .int a1, .int a2, .int (bB (tb))] (fun U => (U.heap.size = z9 ∧ mq D ca ad v g U.heap) ∧ gK D ca U)) (QcM D ca ad (wA mcnt ad z9) (some (.int (mAllowW v g nc a1 a2 tb).1)) ((mAllowW v g nc a1 a2 tb).2.1) ((mAllowW v g nc a1 a2 tb).2.2)) 0 0 (wA mcnt ad z9) := by
  refine x_met (by decide) (Nat.le_of_ble_eq_true rfl) ?_
  intro p e s m below meth c E hr hlk hnm hq ls hl
  obtain ⟨hsz, hq⟩ := hq
  subst hsz
  generalize hav : ([.ref (ad 33 0), .int a1, .int a2, .int (bB (tb))] : List Value).toArray = args at E ⊢
  have hx := E.1
  have hb := E.2.1
  have hown := E.2.2.2.1
  have hts := E.2.2.2.2.1
  have hw : mw D (wA mcnt ad s.heap.size) s.heap ca ad v g s.heap [] := wd.start hq
  generalize hQ : MQ below (QcM D ca ad (wA mcnt ad s.heap.size) (some (.int (mAllowW v g nc a1 a2 tb).1)) ((mAllowW v g nc a1 a2 tb).2.1) ((mAllowW v g nc a1 a2 tb).2.2)) args s 0 0 (wA mcnt ad s.heap.size) = Q
  generalize hA9 : wA mcnt ad s.heap.size = A at hw hQ
  have hl : lv_has ls 4 [(0, .ref (ad 33 0)), (1, .int a1), (2, .int a2), (3, .int (bB (tb)))] := hl
  have hO5 := hO.2.2.2.2
  suffices hgo : ∀ (H : Heap) (locs : List Loc), mw D A s.heap ca ad v g H locs → W p l e (rmL 4 0 0) s m args below meth c H locs 0 0 Q (F0 m 0 ls []) from hgo _ _ hw
  clear hw
  intro H locs hw
  refine lv_aload_n hx hb dX10_allow_0 rfl (lv_at hl 0 rfl) ?_
  refine lv_iload_n hx hb dX10_allow_1 rfl (lv_at hl 1 rfl) ?_
  refine lv_iload_n hx hb dX10_allow_2 rfl (lv_at hl 2 rfl) ?_
  refine x_read (x_runV (rest := []) E cbX10_areBoth tw_829 (kX10_areBoth l D ca ad v g nw nb nc nm a1 a2 (hO)) ⟨rfl, rfl, by decide, by decide⟩ (m_recv E hw) (fun _ _ _ _ h => h) (fun U hU _ => by rw [hU]; exact hw.1) rfl hl.1 rfl (Nat.le_of_ble_eq_true rfl) dX10_allow_3 ⟨by decide, by decide⟩) ?_
  refine lv_if_eq (tgt := 24) hx hb dX10_allow_6 (by decide) (fun c_6 => ?_) (fun c_6 => ?_)
  · skip
    have c_6 := bB_0.mp c_6
    refine lv_iconst (v := 0) hx hb dX10_allow_24 (by decide) ?_
    subst hQ
    exact m_zretS E hr hlk (by decide) hw (by first | (simp [mAllowW, c_6]; done) | simp [mAllowW, nI_clamp (n := w1) (by omega), nI_clamp (n := j1) (by omega), c_6]) dX10_allow_25
  · skip
    have c_6 := bB_n0.mp c_6
    obtain ⟨w1, j1, g1, g2, rfl, rfl⟩ := mBoth_nat hO5.2.2.1 c_6
    refine lv_aload_n hx hb dX10_allow_9 rfl (lv_at hl 0 rfl) ?_
    refine m_getr E hw 17 (by decide) rfl tw_561 dX10_allow_10 ?_
    refine lv_bipush (v := 20) hx hb dX10_allow_13 (by decide) ?_
    refine lv_iload_n hx hb dX10_allow_15 rfl (lv_at hl 2 rfl) ?_
    refine lv_imul hx hb dX10_allow_16 ?_
    refine x_top (x := (20 * nI j1)) (y := (nI (20 * j1))) (pk_mul 20 _) ?_
    refine lv_iload_n hx hb dX10_allow_17 rfl (lv_at hl 1 rfl) ?_
    refine lv_iadd hx hb dX10_allow_18 ?_
    refine x_top (x := (nI (20 * j1) + nI w1)) (y := (nI (20 * j1 + w1))) (nI_add _ _) ?_
    refine m_zld E hw 17 ⟨by decide, rfl, rfl⟩ (20 * j1 + w1) (rfl) (by show _ < 1200; omega) dX10_allow_19 ?_
    refine lv_iload_n hx hb dX10_allow_20 rfl (lv_at hl 3 rfl) ?_
    refine lv_icmp_ne (tgt := 26) hx hb dX10_allow_21 (by decide) (fun c_21 => ?_) (fun c_21 => ?_)
    · skip
      refine lv_aload_n hx hb dX10_allow_26 rfl (lv_at hl 0 rfl) ?_
      refine m_getr E hw 17 (by decide) rfl tw_561 dX10_allow_27 ?_
      refine lv_bipush (v := 20) hx hb dX10_allow_30 (by decide) ?_
      refine lv_iload_n hx hb dX10_allow_32 rfl (lv_at hl 2 rfl) ?_
      refine lv_imul hx hb dX10_allow_33 ?_
      refine x_top (x := (20 * nI j1)) (y := (nI (20 * j1))) (pk_mul 20 _) ?_
      refine lv_iload_n hx hb dX10_allow_34 rfl (lv_at hl 1 rfl) ?_
      refine lv_iadd hx hb dX10_allow_35 ?_
      refine x_top (x := (nI (20 * j1) + nI w1)) (y := (nI (20 * j1 + w1))) (nI_add _ _) ?_
      refine lv_iload_n hx hb dX10_allow_36 rfl (lv_at hl 3 rfl) ?_
      refine m_zst E hw 17 ⟨by decide, rfl, rfl⟩ (20 * j1 + w1) (rfl) (by show _ < 1200; omega) (bB_or _) dX10_allow_37 (fun H locs hw => ?_)
      refine lv_iconst (v := 1) hx hb dX10_allow_38 (by decide) ?_
      subst hQ
      exact m_zretS E hr hlk (by decide) hw (by first | (simp [mAllowW, c_6, c_21]; done) | simp [mAllowW, nI_clamp (n := w1) (by omega), nI_clamp (n := j1) (by omega), c_6, c_21]) dX10_allow_39
    · skip
      refine lv_iconst (v := 0) hx hb dX10_allow_24 (by decide) ?_
      subst hQ
      exact m_zretS E hr hlk (by decide) hw (by first | (simp [mAllowW, c_6, c_21]; done) | simp [mAllowW, nI_clamp (n := w1) (by omega), nI_clamp (n := j1) (by omega), c_6, c_21]) dX10_allow_25
set_option maxHeartbeats 4000000 in
set_option maxRecDepth 100000 in
theorem kX10_move (l : Launch) (D : va_G) (ca : Nat → ClassId) (ad : Nat → Nat → Nat) (z9 : Nat) (v : Nat → Int32) (g : Nat → Nat → Int32) (nw : Nat) (nb : Nat) (nc : Nat) (nm : Nat) (a1 : Int32) (a2 : Int32) (a3 : Int32) (hO : mOK v nw nb nc nm) (hBo : ∀ c, c < nc → ∃ d, d ≤ nw ∧ g 9 c = nI d) : Met l yX10_move (wz yX10_move cX10_move 5 (some .boolean)) (rmL 4 0 0) (va_Pc [.ref (ad 33 0), .int a1, .int a2, .int a3] (fun U => (U.heap.size = z9 ∧ mq D ca ad v g U.heap) ∧ gK D ca U)) (QcM D ca ad (wA mcnt ad z9) (some (.int (mMoveW v g nw nc nm a1 a2 a3).1)) ((mMoveW v g nw nc nm a1 a2 a3).2.1) ((mMoveW v g nw nc nm a1 a2 a3).2.2)) 0 0 (wA mcnt ad z9) := by
  refine x_met (by decide) (Nat.le_of_ble_eq_true rfl) ?_
  intro p e s m below meth c E hr hlk hnm hq ls hl
  obtain ⟨hsz, hq⟩ := hq
  subst hsz
  generalize hav : ([.ref (ad 33 0), .int a1, .int a2, .int a3] : List Value).toArray = args at E ⊢
  have hx := E.1
  have hb := E.2.1
  have hown := E.2.2.2.1
  have hts := E.2.2.2.2.1
  have hw : mw D (wA mcnt ad s.heap.size) s.heap ca ad v g s.heap [] := wd.start hq
  generalize hQ : MQ below (QcM D ca ad (wA mcnt ad s.heap.size) (some (.int (mMoveW v g nw nc nm a1 a2 a3).1)) ((mMoveW v g nw nc nm a1 a2 a3).2.1) ((mMoveW v g nw nc nm a1 a2 a3).2.2)) args s 0 0 (wA mcnt ad s.heap.size) = Q
  generalize hA9 : wA mcnt ad s.heap.size = A at hw hQ
  have hl : lv_has ls 5 [(0, .ref (ad 33 0)), (1, .int a1), (2, .int a2), (3, .int a3)] := hl
  have hO5 := hO.2.2.2.2
  suffices hgo : ∀ (H : Heap) (locs : List Loc), mw D A s.heap ca ad v g H locs → W p l e (rmL 4 0 0) s m args below meth c H locs 0 0 Q (F0 m 0 ls []) from hgo _ _ hw
  clear hw
  intro H locs hw
  refine lv_aload_n hx hb dX10_move_0 rfl (lv_at hl 0 rfl) ?_
  refine lv_iload_n hx hb dX10_move_1 rfl (lv_at hl 1 rfl) ?_
  refine x_read (x_runV (rest := []) E cbX10_isChild tw_707 (kX10_isChild l D ca ad v g nw nb nc nm a1 (hO)) ⟨rfl, rfl, by decide, by decide⟩ (m_recv E hw) (fun _ _ _ _ h => h) (fun U hU _ => by rw [hU]; exact hw.1) rfl hl.1 rfl (Nat.le_of_ble_eq_true rfl) dX10_move_2 ⟨by decide, by decide⟩) ?_
  refine lv_if_eq (tgt := 45) hx hb dX10_move_5 (by decide) (fun c_5 => ?_) (fun c_5 => ?_)
  · skip
    have c_5 := bB_0.mp c_5
    refine lv_iconst (v := 0) hx hb dX10_move_45 (by decide) ?_
    subst hQ
    exact m_zretS E hr hlk (by decide) hw (by first | (simp [mMoveW, mMoveOK, c_5]; done) | (simp [mMoveW, mMoveOK, mMoveG, nI_clamp (n := j) (by omega), c_5]; done) | (simp [mMoveW, mMoveOK, mMoveG, nI_clamp (n := j) (by omega), nI_clamp (n := f3) (by omega), c_5]; done)) dX10_move_46
  · skip
    have c_5 := bB_n0.mp c_5
    obtain ⟨j, hj, rfl⟩ := isIn_nat (by omega) c_5
    refine lv_iload_n hx hb dX10_move_8 rfl (lv_at hl 2 rfl) ?_
    refine lv_iconst (v := 0) hx hb dX10_move_9 (by decide) ?_
    refine lv_bipush (v := 15) hx hb dX10_move_10 (by decide) ?_
    refine x_read (x_runS (rest := []) E cbX10_in tw_649 (kX10_in l D ca a2 0 15 ) ⟨rfl, rfl, by decide, by decide⟩ (fun _ _ _ _ h => h) (fun _ _ _ => trivial) rfl hl.1 rfl (Nat.le_of_ble_eq_true rfl) dX10_move_12 ⟨by decide, by decide⟩) ?_
    refine lv_if_eq (tgt := 45) hx hb dX10_move_15 (by decide) (fun c_15 => ?_) (fun c_15 => ?_)
    · skip
      have c_15 := bB_0.mp c_15
      refine lv_iconst (v := 0) hx hb dX10_move_45 (by decide) ?_
      subst hQ
      exact m_zretS E hr hlk (by decide) hw (by first | (simp [mMoveW, mMoveOK, c_5, c_15]; done) | (simp [mMoveW, mMoveOK, mMoveG, nI_clamp (n := j) (by omega), c_5, c_15]; done) | (simp [mMoveW, mMoveOK, mMoveG, nI_clamp (n := j) (by omega), nI_clamp (n := f3) (by omega), c_5, c_15]; done)) dX10_move_46
    · skip
      have c_15 := bB_n0.mp c_15
      refine lv_iload_n hx hb dX10_move_18 rfl (lv_at hl 3 rfl) ?_
      refine lv_aload_n hx hb dX10_move_19 rfl (lv_at hl 0 rfl) ?_
      refine m_getr E hw 9 (by decide) rfl tw_553 dX10_move_20 ?_
      refine lv_iload_n hx hb dX10_move_23 rfl (lv_at hl 1 rfl) ?_
      refine m_ild E hw 9 ⟨by decide, rfl, rfl⟩ j (rfl) (by show j < 60; omega) dX10_move_24 ?_
      refine lv_aload_n hx hb dX10_move_25 rfl (lv_at hl 0 rfl) ?_
      refine m_geti (x := (nI nw)) E hw 0 (by decide) rfl tw_544 (hO.1) dX10_move_26 ?_
      refine x_read (x_runS (rest := []) E cbX10_in tw_649 (kX10_in l D ca a3 (g 9 j) (nI nw) ) ⟨rfl, rfl, by decide, by decide⟩ (fun _ _ _ _ h => h) (fun _ _ _ => trivial) rfl hl.1 rfl (Nat.le_of_ble_eq_true rfl) dX10_move_29 ⟨by decide, by decide⟩) ?_
      refine lv_if_eq (tgt := 45) hx hb dX10_move_32 (by decide) (fun c_32 => ?_) (fun c_32 => ?_)
      · skip
        have c_32 := bB_0.mp c_32
        refine lv_iconst (v := 0) hx hb dX10_move_45 (by decide) ?_
        subst hQ
        exact m_zretS E hr hlk (by decide) hw (by first | (simp [mMoveW, mMoveOK, c_5, c_15, c_32]; done) | (simp [mMoveW, mMoveOK, mMoveG, nI_clamp (n := j) (by omega), c_5, c_15, c_32]; done) | (simp [mMoveW, mMoveOK, mMoveG, nI_clamp (n := j) (by omega), nI_clamp (n := f3) (by omega), c_5, c_15, c_32]; done)) dX10_move_46
      · skip
        have c_32 := bB_n0.mp c_32
        obtain ⟨d9, hd9, e9⟩ := hBo j hj
        rw [e9] at c_32
        obtain ⟨f3, hf3, hf4, rfl⟩ := isIn_rng (lo := d9) (hi := nw) (by omega) (by omega) c_32
        rw [← e9] at c_32
        refine lv_aload_n hx hb dX10_move_35 rfl (lv_at hl 0 rfl) ?_
        refine m_geti (x := (nI nm)) E hw 3 (by decide) rfl tw_547 (hO.2.2.2.1) dX10_move_36 ?_
        refine lv_sipush (v := 300) hx hb dX10_move_39 (by decide) ?_
        refine lv_icmp_ne (tgt := 47) hx hb dX10_move_42 (by decide) (fun c_42 => ?_) (fun c_42 => ?_)
        · skip
          have hc_300 : ¬ nm = 300 := fun q => c_42 (by rw [q]; rfl)
          refine lv_aload_n hx hb dX10_move_47 rfl (lv_at hl 0 rfl) ?_
          refine lv_iload_n hx hb dX10_move_48 rfl (lv_at hl 1 rfl) ?_
          refine lv_iload_n hx hb dX10_move_49 rfl (lv_at hl 3 rfl) ?_
          refine lv_aload_n hx hb dX10_move_50 rfl (lv_at hl 0 rfl) ?_
          refine m_geti (x := (nI nw)) E hw 0 (by decide) rfl tw_544 (hO.1) dX10_move_51 ?_
          refine x_read (x_runV (rest := []) E cbX10_where tw_699 (kX10_where l D ca ad v g nw nb nc nm (nI j) (nI f3) (nI nw) (hO)) ⟨rfl, rfl, by decide, by decide⟩ (m_recv E hw) (fun _ _ _ _ h => h) (fun U hU _ => by rw [hU]; exact hw.1) rfl hl.1 rfl (Nat.le_of_ble_eq_true rfl) dX10_move_54 ⟨by decide, by decide⟩) ?_
          refine lv_istore (lv' := [(4, .int ((mWh g (nI j) (nI f3) (nI nw) nm).1)), (0, .ref (ad 33 0)), (1, .int (nI j)), (2, .int a2), (3, .int (nI f3))]) hx hb dX10_move_57 hl (by decide) rfl (fun ls hl => ?_)
          refine lv_iload hx hb dX10_move_59 (lv_at hl 0 rfl) ?_
          refine lv_bipush (v := 14) hx hb dX10_move_61 (by decide) ?_
          refine lv_icmp_eq (tgt := 73) hx hb dX10_move_63 (by decide) (fun c_63 => ?_) (fun c_63 => ?_)
          · skip
            refine lv_iconst (v := 0) hx hb dX10_move_73 (by decide) ?_
            subst hQ
            exact m_zretS E hr hlk (by decide) hw (by first | (simp [mMoveW, mMoveOK, c_5, c_15, c_32, c_42, hc_300, c_63]; done) | (simp [mMoveW, mMoveOK, mMoveG, nI_clamp (n := j) (by omega), c_5, c_15, c_32, c_42, hc_300, c_63]; done) | (simp [mMoveW, mMoveOK, mMoveG, nI_clamp (n := j) (by omega), nI_clamp (n := f3) (by omega), c_5, c_15, c_32, c_42, hc_300, c_63]; done)) dX10_move_74
          · skip
            refine lv_iload hx hb dX10_move_66 (lv_at hl 0 rfl) ?_
            refine lv_bipush (v := 15) hx hb dX10_move_68 (by decide) ?_
            refine lv_icmp_ne (tgt := 75) hx hb dX10_move_70 (by decide) (fun c_70 => ?_) (fun c_70 => ?_)
            · skip
              refine lv_aload_n hx hb dX10_move_75 rfl (lv_at hl 1 rfl) ?_
              refine m_getr E hw 18 (by decide) rfl tw_562 dX10_move_76 ?_
              refine lv_aload_n hx hb dX10_move_79 rfl (lv_at hl 1 rfl) ?_
              refine m_geti (x := (nI nm)) E hw 3 (by decide) rfl tw_547 (hO.2.2.2.1) dX10_move_80 ?_
              refine lv_iload_n hx hb dX10_move_83 rfl (lv_at hl 2 rfl) ?_
              refine m_ist E hw 18 ⟨by decide, rfl, rfl⟩ nm (rfl) (by show nm < 300; omega) dX10_move_84 (fun H locs hw => ?_)
              refine lv_aload_n hx hb dX10_move_85 rfl (lv_at hl 1 rfl) ?_
              refine m_getr E hw 19 (by decide) rfl tw_563 dX10_move_86 ?_
              refine lv_aload_n hx hb dX10_move_89 rfl (lv_at hl 1 rfl) ?_
              refine m_geti (x := (nI nm)) E hw 3 (by decide) rfl tw_547 (hO.2.2.2.1) dX10_move_90 ?_
              refine lv_iload_n hx hb dX10_move_93 rfl (lv_at hl 3 rfl) ?_
              refine m_ist E hw 19 ⟨by decide, rfl, rfl⟩ nm (rfl) (by show nm < 300; omega) dX10_move_94 (fun H locs hw => ?_)
              refine lv_aload_n hx hb dX10_move_95 rfl (lv_at hl 1 rfl) ?_
              refine m_getr E hw 20 (by decide) rfl tw_564 dX10_move_96 ?_
              refine lv_aload_n hx hb dX10_move_99 rfl (lv_at hl 1 rfl) ?_
              refine m_geti (x := (nI nm)) E hw 3 (by decide) rfl tw_547 (hO.2.2.2.1) dX10_move_100 ?_
              refine lv_iload_n hx hb dX10_move_103 rfl (lv_at hl 4 rfl) ?_
              refine m_ist E hw 20 ⟨by decide, rfl, rfl⟩ nm (rfl) (by show nm < 300; omega) dX10_move_104 (fun H locs hw => ?_)
              refine lv_aload_n hx hb dX10_move_105 rfl (lv_at hl 1 rfl) ?_
              refine m_getr E hw 21 (by decide) rfl tw_565 dX10_move_106 ?_
              refine lv_aload_n hx hb dX10_move_109 rfl (lv_at hl 1 rfl) ?_
              refine m_geti (x := (nI nm)) E hw 3 (by decide) rfl tw_547 (hO.2.2.2.1) dX10_move_110 ?_
              refine lv_aload_n hx hb dX10_move_113 rfl (lv_at hl 1 rfl) ?_
              refine m_geti (x := (nI nw)) E hw 0 (by decide) rfl tw_544 (hO.1) dX10_move_114 ?_
              refine m_ist E hw 21 ⟨by decide, rfl, rfl⟩ nm (rfl) (by show nm < 300; omega) dX10_move_117 (fun H locs hw => ?_)
              refine lv_aload_n hx hb dX10_move_118 rfl (lv_at hl 1 rfl) ?_
              refine lv_dup hx hb dX10_move_119 rfl ?_
              refine m_geti (x := (nI nm)) E hw 3 (by decide) rfl tw_547 (hO.2.2.2.1) dX10_move_120 ?_
              refine lv_iconst (v := 1) hx hb dX10_move_123 (by decide) ?_
              refine lv_iadd hx hb dX10_move_124 ?_
              refine x_top (x := (nI nm + 1)) (y := (nI (nm + 1))) (nI_1 _) ?_
              refine m_put E hw 3 (by decide) rfl tw_547 dX10_move_125 (fun H locs hw => ?_)
              refine lv_iload_n hx hb dX10_move_128 rfl (lv_at hl 3 rfl) ?_
              refine lv_iconst (v := 1) hx hb dX10_move_129 (by decide) ?_
              refine lv_bipush (v := 12) hx hb dX10_move_130 (by decide) ?_
              refine x_read (x_runS (rest := []) E cbX10_in tw_649 (kX10_in l D ca a2 1 12 ) ⟨rfl, rfl, by decide, by decide⟩ (fun _ _ _ _ h => h) (fun _ _ _ => trivial) rfl hl.1 rfl (Nat.le_of_ble_eq_true rfl) dX10_move_132 ⟨by decide, by decide⟩) ?_
              refine lv_if_eq (tgt := 165) hx hb dX10_move_135 (by decide) (fun c_135 => ?_) (fun c_135 => ?_)
              · skip
                have c_135 := bB_0.mp c_135
                refine lv_iconst (v := 1) hx hb dX10_move_165 (by decide) ?_
                subst hQ
                exact m_zretS E hr hlk (by decide) hw (by first | (simp [mMoveW, mMoveOK, mMoveG, nI_clamp (n := j) (by omega), nI_clamp (n := f3) (by omega), c_5, c_15, c_32, c_42, hc_300, c_63, c_70, c_135]; done) | (simp only [Bool.not_eq_true, Bool.not_eq_eq_eq_not, Bool.not_true, Bool.not_false] at c_150; simp [mMoveW, mMoveOK, mMoveG, nI_clamp (n := j) (by omega), nI_clamp (n := f3) (by omega), nI_clamp (n := p2) (by omega), c_5, c_15, c_32, c_42, hc_300, c_63, c_70, c_135])) dX10_move_166
              · skip
                have c_135 := bB_n0.mp c_135
                obtain ⟨p2, hp1, hp2, rfl⟩ := isIn_rng (lo := 1) (hi := 12) (by decide) (by decide) c_135
                refine lv_aload_n hx hb dX10_move_138 rfl (lv_at hl 1 rfl) ?_
                refine lv_iload_n hx hb dX10_move_139 rfl (lv_at hl 3 rfl) ?_
                refine lv_iload_n hx hb dX10_move_140 rfl (lv_at hl 4 rfl) ?_
                refine lv_aload_n hx hb dX10_move_141 rfl (lv_at hl 1 rfl) ?_
                refine m_getr E hw 22 (by decide) rfl tw_566 dX10_move_142 ?_
                refine lv_iload_n hx hb dX10_move_145 rfl (lv_at hl 3 rfl) ?_
                refine m_ild E hw 22 ⟨by decide, rfl, rfl⟩ p2 (rfl) (by show p2 < 13; omega) dX10_move_146 ?_
                refine x_top (x := ((upd2 (upd2 (upd2 (upd2 g 18 nm (nI j)) 19 nm (nI p2)) 20 nm (nI f3)) 21 nm (nI nw)) 22 p2)) (y := (g 22 p2)) (by simp [upd2]) ?_
                refine x_read (x_runV (rest := []) E cbX10_hasRoom tw_683 (kX10_hasRoom l D ca ad (upd v 3 (nI (nm + 1))) (upd2 (upd2 (upd2 (upd2 g 18 nm (nI j)) 19 nm (nI p2)) 20 nm (nI f3)) 21 nm (nI nw)) nw nb nc (nm + 1) (nI p2) f3 (g 22 p2) (⟨by rw [upd_ne _ _ (by decide)]; exact hO.1, by rw [upd_ne _ _ (by decide)]; exact hO.2.1, by rw [upd_ne _ _ (by decide)]; exact hO.2.2.1, upd_at _ _ _, by omega, by omega, by omega, by omega⟩) (hf4)) ⟨rfl, rfl, by decide, by decide⟩ (m_recv E hw) (fun _ _ _ _ h => h) (fun U hU _ => by rw [hU]; exact hw.1) rfl hl.1 rfl (Nat.le_of_ble_eq_true rfl) dX10_move_147 ⟨by decide, by decide⟩) ?_
                refine lv_if_ne (tgt := 165) hx hb dX10_move_150 (by decide) (fun c_150 => ?_) (fun c_150 => ?_)
                · skip
                  have c_150 := bB_n0.mp c_150
                  refine lv_iconst (v := 1) hx hb dX10_move_165 (by decide) ?_
                  subst hQ
                  exact m_zretS E hr hlk (by decide) hw (by first | (simp [mMoveW, mMoveOK, mMoveG, nI_clamp (n := j) (by omega), nI_clamp (n := f3) (by omega), c_5, c_15, c_32, c_42, hc_300, c_63, c_70, c_135, c_150]; done) | (simp only [Bool.not_eq_true, Bool.not_eq_eq_eq_not, Bool.not_true, Bool.not_false] at c_150; simp [mMoveW, mMoveOK, mMoveG, nI_clamp (n := j) (by omega), nI_clamp (n := f3) (by omega), nI_clamp (n := p2) (by omega), c_5, c_15, c_32, c_42, hc_300, c_63, c_70, c_135, c_150])) dX10_move_166
                · skip
                  have c_150 := bB_0.mp c_150
                  refine lv_aload_n hx hb dX10_move_153 rfl (lv_at hl 1 rfl) ?_
                  refine lv_dup hx hb dX10_move_154 rfl ?_
                  refine m_geti (x := (nI (nm + 1))) E hw 3 (by decide) rfl tw_547 (by simp [upd]) dX10_move_155 ?_
                  refine lv_iconst (v := 1) hx hb dX10_move_158 (by decide) ?_
                  refine lv_isub hx hb dX10_move_159 ?_
                  refine x_top (x := ((nI (nm + 1)) - 1)) (y := (nI nm)) (nI_pred _) ?_
                  refine m_put E hw 3 (by decide) rfl tw_547 dX10_move_160 (fun H locs hw => ?_)
                  refine lv_iconst (v := 0) hx hb dX10_move_163 (by decide) ?_
                  subst hQ
                  exact m_zretS E hr hlk (by decide) hw (by rw [upd_upd, upd_same hO.2.2.2.1]; simp only [Bool.not_eq_true, Bool.not_eq_eq_eq_not, Bool.not_true, Bool.not_false] at c_150; simp [mMoveW, mMoveOK, mMoveG, nI_clamp (n := j) (by omega), nI_clamp (n := f3) (by omega), nI_clamp (n := p2) (by omega), c_5, c_15, c_32, c_42, hc_300, c_63, c_70, c_135, c_150]) dX10_move_164
            · skip
              refine lv_iconst (v := 0) hx hb dX10_move_73 (by decide) ?_
              subst hQ
              exact m_zretS E hr hlk (by decide) hw (by first | (simp [mMoveW, mMoveOK, c_5, c_15, c_32, c_42, hc_300, c_63, c_70]; done) | (simp [mMoveW, mMoveOK, mMoveG, nI_clamp (n := j) (by omega), c_5, c_15, c_32, c_42, hc_300, c_63, c_70]; done) | (simp [mMoveW, mMoveOK, mMoveG, nI_clamp (n := j) (by omega), nI_clamp (n := f3) (by omega), c_5, c_15, c_32, c_42, hc_300, c_63, c_70]; done)) dX10_move_74
        · skip
          have hc_300 : nm = 300 := (nI_eq (a := nm) (b := 300) (by omega) (by decide)).mp c_42
          refine lv_iconst (v := 0) hx hb dX10_move_45 (by decide) ?_
          subst hQ
          exact m_zretS E hr hlk (by decide) hw (by first | (simp [mMoveW, mMoveOK, c_5, c_15, c_32, c_42, hc_300]; done) | (simp [mMoveW, mMoveOK, mMoveG, nI_clamp (n := j) (by omega), c_5, c_15, c_32, c_42, hc_300]; done) | (simp [mMoveW, mMoveOK, mMoveG, nI_clamp (n := j) (by omega), nI_clamp (n := f3) (by omega), c_5, c_15, c_32, c_42, hc_300]; done)) dX10_move_46
set_option maxHeartbeats 4000000 in
set_option maxRecDepth 100000 in
theorem kX10_feed (l : Launch) (D : va_G) (ca : Nat → ClassId) (ad : Nat → Nat → Nat) (z9 : Nat) (v : Nat → Int32) (g : Nat → Nat → Int32) (sz : Nat) (a1 : Int32) (hs : v 27 = nI sz) (hs2 : sz ≤ 100) : Met l yX10_feed (wz yX10_feed cX10_feed 5 (some .int)) (rmL 1 0 0) (va_Pc [.ref (ad 33 0), .int a1] (fun U => (U.heap.size = z9 ∧ mq D ca ad v g U.heap) ∧ gK D ca U)) (QcM D ca ad (wA mcnt ad z9) (some (.int (mFeedW v g sz a1).1)) ((mFeedW v g sz a1).2.1) ((mFeedW v g sz a1).2.2)) 0 0 (wA mcnt ad z9) := by
  refine x_met (by decide) (Nat.le_of_ble_eq_true rfl) ?_
  intro p e s m below meth c E hr hlk hnm hq ls hl
  obtain ⟨hsz, hq⟩ := hq
  subst hsz
  generalize hav : ([.ref (ad 33 0), .int a1] : List Value).toArray = args at E ⊢
  have hx := E.1
  have hb := E.2.1
  have hown := E.2.2.2.1
  have hts := E.2.2.2.2.1
  have hw : mw D (wA mcnt ad s.heap.size) s.heap ca ad v g s.heap [] := wd.start hq
  generalize hQ : MQ below (QcM D ca ad (wA mcnt ad s.heap.size) (some (.int (mFeedW v g sz a1).1)) ((mFeedW v g sz a1).2.1) ((mFeedW v g sz a1).2.2)) args s 0 0 (wA mcnt ad s.heap.size) = Q
  generalize hA9 : wA mcnt ad s.heap.size = A at hw hQ
  have hl : lv_has ls 5 [(0, .ref (ad 33 0)), (1, .int a1)] := hl
  suffices hgo : ∀ (H : Heap) (locs : List Loc), mw D A s.heap ca ad v g H locs → W p l e (rmL 1 0 0) s m args below meth c H locs 0 0 Q (F0 m 0 ls []) from hgo _ _ hw
  clear hw
  intro H locs hw
  refine lv_iconst (v := 0) hx hb dX10_feed_0 (by decide) ?_
  refine lv_istore_n (lv' := [(2, .int 0), (0, .ref (ad 33 0)), (1, .int a1)]) hx hb dX10_feed_1 rfl hl (by decide) rfl (fun ls hl => ?_)
  refine lv_iconst (v := 0) hx hb dX10_feed_2 (by decide) ?_
  refine lv_istore_n (lv' := [(3, .int 0), (2, .int 0), (0, .ref (ad 33 0)), (1, .int a1)]) hx hb dX10_feed_3 rfl hl (by decide) rfl (fun ls hl => ?_)
  have lp4 : ∀ (n : Nat) (k : Nat) (x2 : Int32), (k ≤ 4) → (x2 = nI (mFc a1 k)) → (4 - k < n) → ∀ (H : Heap) (locs : List Loc), mw D A s.heap ca ad v g H locs → ∀ ls : Array Slot, lv_has ls 5 [(0, .ref (ad 33 0)), (1, .int a1), (2, .int x2), (3, .int (nI k))] → W p l e (rmL 1 0 0) s m args below meth c H locs 0 0 Q (F0 m 4 ls []) := by
    intro n
    induction n with
    | zero =>
      intro k x2 hi h2 hfu H locs hw ls hl
      exact absurd hfu (by omega)
    | succ n ih4 =>
      intro k x2 hi h2 hfu H locs hw ls hl
      refine lv_iload_n hx hb dX10_feed_4 rfl (lv_at hl 3 rfl) ?_
      refine lv_iconst (v := 4) hx hb dX10_feed_5 (by decide) ?_
      refine lv_icmp_ge (tgt := 36) hx hb dX10_feed_6 (by decide) (fun c_6 => ?_) (fun c_6 => ?_)
      · skip
        obtain rfl : k = 4 := by have q9 := (nI_leI (a := 4) (b := k) (by decide) (by omega)).mp c_6; omega
        refine lv_aload_n hx hb dX10_feed_36 rfl (lv_at hl 0 rfl) ?_
        refine m_geti (x := (nI sz)) E hw 27 (by decide) rfl tw_571 (hs) dX10_feed_37 ?_
        refine lv_iload_n hx hb dX10_feed_40 rfl (lv_at hl 2 rfl) ?_
        refine lv_iadd hx hb dX10_feed_41 ?_
        refine x_top (x := (nI sz + x2)) (y := (nI (sz + mFc a1 4))) (by rw [h2, nI_add]) ?_
        refine lv_bipush (v := 100) hx hb dX10_feed_42 (by decide) ?_
        refine lv_icmp_le (tgt := 49) hx hb dX10_feed_44 (by decide) (fun c_44 => ?_) (fun c_44 => ?_)
        · skip
          have hc_s : sz + mFc a1 4 ≤ 100 := (nI_leI (a := sz + mFc a1 4) (b := 100) (by have := mFs_le a1 4; rw [mFs_Fc] at this; omega) (by decide)).mp c_44
          refine lv_iconst (v := 3) hx hb dX10_feed_49 (by decide) ?_
          refine lv_istore_n (lv' := [(3, .int 3), (0, .ref (ad 33 0)), (1, .int a1), (2, .int x2)]) hx hb dX10_feed_50 rfl hl (by decide) rfl (fun ls hl => ?_)
          have lp51 : ∀ (n : Nat) (t : Nat) (x3 : Int32), (t ≤ 4) → (x3 = fdn t) → (4 - t < n) → ∀ (H : Heap) (locs : List Loc), mw D A s.heap ca ad (upd v 27 (nI (sz + mFs a1 t))) (mFg g sz a1 t) H locs → ∀ ls : Array Slot, lv_has ls 5 [(0, .ref (ad 33 0)), (1, .int a1), (3, .int x3)] → W p l e (rmL 1 0 0) s m args below meth c H locs 0 0 Q (F0 m 51 ls []) := by
            intro n
            induction n with
            | zero =>
              intro t x3 hi h3 hfu H locs hw ls hl
              exact absurd hfu (by omega)
            | succ n ih51 =>
              intro t x3 hi h3 hfu H locs hw ls hl
              refine lv_iload_n hx hb dX10_feed_51 rfl (lv_at hl 2 rfl) ?_
              refine lv_if_lt (tgt := 99) hx hb dX10_feed_52 (by decide) (fun c_52 => ?_) (fun c_52 => ?_)
              · skip
                rw [h3] at c_52
                have hte := fdn_lt hi c_52
                refine lv_aload_n hx hb dX10_feed_99 rfl (lv_at hl 0 rfl) ?_
                refine m_geti (x := (nI (sz + mFs a1 t))) E hw 27 (by decide) rfl tw_571 (by simp [upd]) dX10_feed_100 ?_
                subst hQ
                exact m_iretS E hr hlk hw (by rw [hte]; simp [mFeedW, hc_s]) dX10_feed_103
              · skip
                rw [h3] at c_52
                obtain ⟨hlt, hxe⟩ := fdn_ge hi c_52
                rw [hxe] at h3
                subst h3
                refine lv_iload_n hx hb dX10_feed_55 rfl (lv_at hl 1 rfl) ?_
                refine lv_bipush (v := 8) hx hb dX10_feed_56 (by decide) ?_
                refine lv_iload_n hx hb dX10_feed_58 rfl (lv_at hl 2 rfl) ?_
                refine lv_imul hx hb dX10_feed_59 ?_
                refine lv_ishr hx hb dX10_feed_60 ?_
                refine lv_sipush (v := 255) hx hb dX10_feed_61 (by decide) ?_
                refine lv_iand hx hb dX10_feed_64 ?_
                refine x_top (x := ((a1 >>> ((8 * nI (3 - t)) &&& 31)) &&& 255)) (y := (mByte a1 (3 - t))) (rfl) ?_
                refine lv_istore (lv' := [(4, .int (mByte a1 (3 - t))), (0, .ref (ad 33 0)), (1, .int a1), (3, .int (nI (3 - t)))]) hx hb dX10_feed_65 hl (by decide) rfl (fun ls hl => ?_)
                refine lv_iload hx hb dX10_feed_67 (lv_at hl 0 rfl) ?_
                refine lv_if_eq (tgt := 93) hx hb dX10_feed_69 (by decide) (fun c_69 => ?_) (fun c_69 => ?_)
                · skip
                  refine lv_iinc (v := (nI (3 - t) + (-1))) (lv' := [(3, .int (nI (3 - t) + (-1))), (4, .int (mByte a1 (3 - t))), (0, .ref (ad 33 0)), (1, .int a1)]) hx hb dX10_feed_93 hl (k := 3) rfl (rfl) (by decide) rfl (fun ls hl => ?_)
                  refine lv_goto (tgt := 51) hx hb dX10_feed_96 (by decide) ?_
                  exact ih51 (t + 1) (nI (3 - t) + (-1)) (hlt) (fdn_next hlt) (by omega) _ _ (by simpa [mFs, mFg, upd_upd, Nat.add_assoc, c_52, c_69] using hw) ls (lv_sub hl [2, 3, 0] rfl)
                · skip
                  refine lv_aload_n hx hb dX10_feed_72 rfl (lv_at hl 1 rfl) ?_
                  refine m_getr E hw 24 (by decide) rfl tw_568 dX10_feed_73 ?_
                  refine lv_aload_n hx hb dX10_feed_76 rfl (lv_at hl 1 rfl) ?_
                  refine m_geti (x := (nI (sz + mFs a1 t))) E hw 27 (by decide) rfl tw_571 (by simp [upd]) dX10_feed_77 ?_
                  refine lv_iload hx hb dX10_feed_80 (lv_at hl 0 rfl) ?_
                  refine m_ist E hw 24 ⟨by decide, rfl, rfl⟩ (sz + mFs a1 t) (rfl) (by show _ < 100; have h8 := mFs_mono a1 (t := t + 1) hlt; rw [mFs_Fc] at h8; have h7 : mFs a1 (t + 1) = mFs a1 t + 1 := (by simp [mFs, c_52, c_69]); omega) dX10_feed_82 (fun H locs hw => ?_)
                  refine lv_aload_n hx hb dX10_feed_83 rfl (lv_at hl 1 rfl) ?_
                  refine lv_dup hx hb dX10_feed_84 rfl ?_
                  refine m_geti (x := (nI (sz + mFs a1 t))) E hw 27 (by decide) rfl tw_571 (by simp [upd]) dX10_feed_85 ?_
                  refine lv_iconst (v := 1) hx hb dX10_feed_88 (by decide) ?_
                  refine lv_iadd hx hb dX10_feed_89 ?_
                  refine x_top (x := ((nI (sz + mFs a1 t)) + 1)) (y := (nI (sz + mFs a1 t + 1))) (nI_1 _) ?_
                  refine m_put E hw 27 (by decide) rfl tw_571 dX10_feed_90 (fun H locs hw => ?_)
                  refine lv_iinc (v := (nI (3 - t) + (-1))) (lv' := [(3, .int (nI (3 - t) + (-1))), (4, .int (mByte a1 (3 - t))), (0, .ref (ad 33 0)), (1, .int a1)]) hx hb dX10_feed_93 hl (k := 3) rfl (rfl) (by decide) rfl (fun ls hl => ?_)
                  refine lv_goto (tgt := 51) hx hb dX10_feed_96 (by decide) ?_
                  exact ih51 (t + 1) (nI (3 - t) + (-1)) (hlt) (fdn_next hlt) (by omega) _ _ (by simpa [mFs, mFg, upd_upd, Nat.add_assoc, c_52, c_69] using hw) ls (lv_sub hl [2, 3, 0] rfl)
          exact lp51 5 0 3 (by omega) (rfl) (by omega) _ _ (by rw [show mFs a1 0 = 0 from rfl, Nat.add_zero, upd_same hs]; exact hw) ls (lv_sub hl [1, 2, 0] rfl)
        · skip
          have hc_s : ¬ sz + mFc a1 4 ≤ 100 := mt (nI_leI (a := sz + mFc a1 4) (b := 100) (by have := mFs_le a1 4; rw [mFs_Fc] at this; omega) (by decide)).mpr c_44
          refine lv_iconst (v := (-1)) hx hb dX10_feed_47 (by decide) ?_
          subst hQ
          exact m_iretS E hr hlk hw (by simp [mFeedW, c_6, c_44, hc_s]) dX10_feed_48
      · skip
        have hlt : k < 4 := by have q9 := mt (nI_leI (a := 4) (b := k) (by decide) (by omega)).mpr c_6; omega
        refine lv_iload_n hx hb dX10_feed_9 rfl (lv_at hl 2 rfl) ?_
        refine lv_iload_n hx hb dX10_feed_10 rfl (lv_at hl 1 rfl) ?_
        refine lv_bipush (v := 8) hx hb dX10_feed_11 (by decide) ?_
        refine lv_iload_n hx hb dX10_feed_13 rfl (lv_at hl 3 rfl) ?_
        refine lv_imul hx hb dX10_feed_14 ?_
        refine lv_ishr hx hb dX10_feed_15 ?_
        refine lv_sipush (v := 255) hx hb dX10_feed_16 (by decide) ?_
        refine lv_iand hx hb dX10_feed_19 ?_
        refine x_top (x := ((a1 >>> ((8 * nI k) &&& 31)) &&& 255)) (y := (mByte a1 k)) (rfl) ?_
        refine lv_if_eq (tgt := 27) hx hb dX10_feed_20 (by decide) (fun c_20 => ?_) (fun c_20 => ?_)
        · skip
          refine lv_iconst (v := 0) hx hb dX10_feed_27 (by decide) ?_
          refine lv_iadd hx hb dX10_feed_28 ?_
          refine lv_istore_n (lv' := [(2, .int (x2 + 0)), (0, .ref (ad 33 0)), (1, .int a1), (3, .int (nI k))]) hx hb dX10_feed_29 rfl hl (by decide) rfl (fun ls hl => ?_)
          refine lv_iinc (v := (nI (k + 1))) (lv' := [(3, .int (nI (k + 1))), (2, .int (x2 + 0)), (0, .ref (ad 33 0)), (1, .int a1)]) hx hb dX10_feed_30 hl (k := 3) rfl (nI_1 _) (by decide) rfl (fun ls hl => ?_)
          refine lv_goto (tgt := 4) hx hb dX10_feed_33 (by decide) ?_
          exact ih4 (k + 1) (x2 + 0) (hlt) (by rw [h2]; simp [mFc, nI_1, c_6, c_20]) (by omega) _ _ (hw) ls (lv_sub hl [2, 3, 1, 0] rfl)
        · skip
          refine lv_iconst (v := 1) hx hb dX10_feed_23 (by decide) ?_
          refine lv_goto (tgt := 28) hx hb dX10_feed_24 (by decide) ?_
          refine lv_iadd hx hb dX10_feed_28 ?_
          refine lv_istore_n (lv' := [(2, .int (x2 + 1)), (0, .ref (ad 33 0)), (1, .int a1), (3, .int (nI k))]) hx hb dX10_feed_29 rfl hl (by decide) rfl (fun ls hl => ?_)
          refine lv_iinc (v := (nI (k + 1))) (lv' := [(3, .int (nI (k + 1))), (2, .int (x2 + 1)), (0, .ref (ad 33 0)), (1, .int a1)]) hx hb dX10_feed_30 hl (k := 3) rfl (nI_1 _) (by decide) rfl (fun ls hl => ?_)
          refine lv_goto (tgt := 4) hx hb dX10_feed_33 (by decide) ?_
          exact ih4 (k + 1) (x2 + 1) (hlt) (by rw [h2]; simp [mFc, nI_1, c_6, c_20]) (by omega) _ _ (hw) ls (lv_sub hl [2, 3, 1, 0] rfl)
  exact lp4 5 0 0 (by omega) (rfl) (by omega) _ _ (hw) ls (lv_sub hl [2, 3, 1, 0] rfl)
end
section
def mLn (g : Nat → Nat → Int32) : Nat → Nat → Nat → Int32
  | 0 => g
  | i + 1 => upd2 (mLn g i) 8 i (nI i)
/-- the high bits of a draw -/
def mHi (x : Int64) : Nat := x.toBitVec.toNat / 2 ^ 33
theorem mHi_lt (x : Int64) : mHi x < 2 ^ 31 := by
  have := x.toBitVec.isLt
  unfold mHi
  omega
theorem mHi_val (x : Int64) : (x.toUInt64 >>> ((33 : Int32).toInt64.toUInt64 &&& Int64.toUInt64 63)).toInt64 = lN (mHi x) := by
  have e : ((33 : Int32).toInt64.toUInt64 &&& Int64.toUInt64 63) = 33 := by decide
  rw [e]
  apply Int64.toBitVec_inj.mp
  have h1 : (x.toUInt64 >>> 33).toInt64.toBitVec = x.toBitVec >>> 33 := rfl
  have h2 : (lN (mHi x)).toBitVec = BitVec.ofNat 64 (mHi x) := rfl
  rw [h1, h2]
  apply BitVec.eq_of_toNat_eq
  have h3 := mHi_lt x
  rw [BitVec.toNat_ushiftRight, BitVec.toNat_ofNat, Nat.shiftRight_eq_div_pow, Nat.mod_eq_of_lt (by omega)]
  rfl
def mK (x : Int64) (m : Nat) : Nat := mHi x % m
def mNx (x : Int64) : Int64 := x * 6364136223846793005 + 1442695040888963407
theorem mNx_eq (x : Int64) : ((x * 6364136223846793005) + 1442695040888963407) = mNx x := rfl
def mShf (g : Nat → Nat → Int32) (k : Nat) : Nat → Nat → Nat → Int32
  | 0 => g
  | i + 1 => upd2 (mShf g k i) 8 (k + i) (mShf g k i 8 (k + i + 1))
def mColr (w r : Nat) (b : Int32) : Int32 := if nI w ≤ b then (if nI w + nI r ≤ b then 2 else 1) else 0
def mBl (g : Nat → Nat → Int32) (nb n w2 r3 : Nat) (x0 : Int64) : Nat → Int64 × (Nat → Nat → Int32)
  | 0 => (x0, mLn g n)
  | w + 1 => (mNx (mBl g nb n w2 r3 x0 w).1, upd2 (mShf (mBl g nb n w2 r3 x0 w).2 (mK (mNx (mBl g nb n w2 r3 x0 w).1) (n - w)) (n - w - 1 - mK (mNx (mBl g nb n w2 r3 x0 w).1) (n - w))) 7 (20 * nb + w) (mColr w2 r3 ((mBl g nb n w2 r3 x0 w).2 8 (mK (mNx (mBl g nb n w2 r3 x0 w).1) (n - w)))))
def mBalOK (nb : Nat) (a1 a2 a3 : Int32) : Bool := isIn a1 1 20 && isIn a2 0 a1 && isIn a3 0 (a1 - a2) && !(decide (nb = 50))
def mBallotW (v : Nat → Int32) (g : Nat → Nat → Int32) (nb : Nat) (a1 a2 a3 : Int32) (x0 : Int64) : MS := if mBalOK nb a1 a2 a3 = true then (nI nb, upd v 1 (nI (nb + 1)), upd2 (mBl g nb a1.toNatClampNeg a2.toNatClampNeg a3.toNatClampNeg x0 a1.toNatClampNeg).2 6 nb a1) else (-1, v, g)
theorem lN_ne0 {n : Nat} (h0 : 0 < n) (h : n < 2 ^ 31) : ¬ lN n = 0 := fun q => by
  have := (lN_eq (a := n) (b := 0) h (by decide)).mp q
  omega
end
section
set_option maxHeartbeats 4000000 in
set_option maxRecDepth 100000 in
theorem kX10_lineOf (l : Launch) (D : va_G) (ca : Nat → ClassId) (ad : Nat → Nat → Nat) (z9 : Nat) (v : Nat → Int32) (g : Nat → Nat → Int32) (n1 : Nat) (hn1 : n1 ≤ 20) : Met l yX10_lineOf (wz yX10_lineOf cX10_lineOf 3 (some (.array .int))) (rmL 1 0 0) (va_Pc [.ref (ad 33 0), .int (nI n1)] (fun U => (U.heap.size = z9 ∧ mq D ca ad v g U.heap) ∧ gK D ca U)) (QcM D ca ad (wA mcnt ad z9) (some (.ref (ad 8 0))) (v) (mLn g n1)) 0 0 (wA mcnt ad z9) := by
  refine x_met (by decide) (Nat.le_of_ble_eq_true rfl) ?_
  intro p e s m below meth c E hr hlk hnm hq ls hl
  obtain ⟨hsz, hq⟩ := hq
  subst hsz
  generalize hav : ([.ref (ad 33 0), .int (nI n1)] : List Value).toArray = args at E ⊢
  have hx := E.1
  have hb := E.2.1
  have hown := E.2.2.2.1
  have hts := E.2.2.2.2.1
  have hw : mw D (wA mcnt ad s.heap.size) s.heap ca ad v g s.heap [] := wd.start hq
  generalize hQ : MQ below (QcM D ca ad (wA mcnt ad s.heap.size) (some (.ref (ad 8 0))) (v) (mLn g n1)) args s 0 0 (wA mcnt ad s.heap.size) = Q
  generalize hA9 : wA mcnt ad s.heap.size = A at hw hQ
  have hl : lv_has ls 3 [(0, .ref (ad 33 0)), (1, .int (nI n1))] := hl
  suffices hgo : ∀ (H : Heap) (locs : List Loc), mw D A s.heap ca ad v g H locs → W p l e (rmL 1 0 0) s m args below meth c H locs 0 0 Q (F0 m 0 ls []) from hgo _ _ hw
  clear hw
  intro H locs hw
  refine lv_iconst (v := 0) hx hb dX10_lineOf_0 (by decide) ?_
  refine lv_istore_n (lv' := [(2, .int 0), (0, .ref (ad 33 0)), (1, .int (nI n1))]) hx hb dX10_lineOf_1 rfl hl (by decide) rfl (fun ls hl => ?_)
  have lp2 : ∀ (n : Nat) (i : Nat), (i ≤ n1) → (n1 - i < n) → ∀ (H : Heap) (locs : List Loc), mw D A s.heap ca ad v (mLn g i) H locs → ∀ ls : Array Slot, lv_has ls 3 [(0, .ref (ad 33 0)), (1, .int (nI n1)), (2, .int (nI i))] → W p l e (rmL 1 0 0) s m args below meth c H locs 0 0 Q (F0 m 2 ls []) := by
    intro n
    induction n with
    | zero =>
      intro i hi hfu H locs hw ls hl
      exact absurd hfu (by omega)
    | succ n ih2 =>
      intro i hi hfu H locs hw ls hl
      refine lv_iload_n hx hb dX10_lineOf_2 rfl (lv_at hl 2 rfl) ?_
      refine lv_iload_n hx hb dX10_lineOf_3 rfl (lv_at hl 1 rfl) ?_
      refine lv_icmp_ge (tgt := 20) hx hb dX10_lineOf_4 (by decide) (fun c_4 => ?_) (fun c_4 => ?_)
      · skip
        have hge : i = n1 := by have q9 := (nI_leI (a := n1) (b := i) (by omega) (by omega)).mp c_4; omega
        refine lv_aload_n hx hb dX10_lineOf_20 rfl (lv_at hl 0 rfl) ?_
        refine m_getr E hw 8 (by decide) rfl tw_552 dX10_lineOf_21 ?_
        subst hQ
        exact m_aret E hr (Or.inr ⟨_, rfl⟩) hlk hw (rfl) (by rw [hge]) dX10_lineOf_24
      · skip
        have hlt : i < n1 := by have q9 := mt (nI_leI (a := n1) (b := i) (by omega) (by omega)).mpr c_4; omega
        refine lv_aload_n hx hb dX10_lineOf_7 rfl (lv_at hl 0 rfl) ?_
        refine m_getr E hw 8 (by decide) rfl tw_552 dX10_lineOf_8 ?_
        refine lv_iload_n hx hb dX10_lineOf_11 rfl (lv_at hl 2 rfl) ?_
        refine lv_iload_n hx hb dX10_lineOf_12 rfl (lv_at hl 2 rfl) ?_
        refine m_ist E hw 8 ⟨by decide, rfl, rfl⟩ i (rfl) (by show i < 20; omega) dX10_lineOf_13 (fun H locs hw => ?_)
        refine lv_iinc (v := (nI (i + 1))) (lv' := [(2, .int (nI (i + 1))), (0, .ref (ad 33 0)), (1, .int (nI n1))]) hx hb dX10_lineOf_14 hl (k := 2) rfl (nI_1 _) (by decide) rfl (fun ls hl => ?_)
        refine lv_goto (tgt := 2) hx hb dX10_lineOf_17 (by decide) ?_
        exact ih2 (i + 1) (hlt) (by omega) _ _ (hw) ls (lv_sub hl [1, 2, 0] (rfl))
  exact lp2 (n1 + 1) 0 (Nat.zero_le _) (by omega) _ _ (hw) ls (lv_sub hl [1, 2, 0] (rfl))
set_option maxHeartbeats 4000000 in
set_option maxRecDepth 100000 in
theorem kX10_ballot (l : Launch) (D : va_G) (ca : Nat → ClassId) (ad : Nat → Nat → Nat) (z9 : Nat) (v : Nat → Int32) (g : Nat → Nat → Int32) (nw : Nat) (nb : Nat) (nc : Nat) (nm : Nat) (a1 : Int32) (a2 : Int32) (a3 : Int32) (x0 : Int64) (hO : mOK v nw nb nc nm) : Met l yX10_ballot (wz yX10_ballot cX10_ballot 13 (some .int)) (rmL 3 0 0) (va_Pc [.ref (ad 33 0), .int a1, .int a2, .int a3, .long x0] (fun U => (U.heap.size = z9 ∧ mq D ca ad v g U.heap) ∧ gK D ca U)) (QcM D ca ad (wA mcnt ad z9) (some (.int (mBallotW v g nb a1 a2 a3 x0).1)) ((mBallotW v g nb a1 a2 a3 x0).2.1) ((mBallotW v g nb a1 a2 a3 x0).2.2)) 0 0 (wA mcnt ad z9) := by
  refine x_met (by decide) (Nat.le_of_ble_eq_true rfl) ?_
  intro p e s m below meth c E hr hlk hnm hq ls hl
  obtain ⟨hsz, hq⟩ := hq
  subst hsz
  generalize hav : ([.ref (ad 33 0), .int a1, .int a2, .int a3, .long x0] : List Value).toArray = args at E ⊢
  have hx := E.1
  have hb := E.2.1
  have hown := E.2.2.2.1
  have hts := E.2.2.2.2.1
  have hw : mw D (wA mcnt ad s.heap.size) s.heap ca ad v g s.heap [] := wd.start hq
  generalize hQ : MQ below (QcM D ca ad (wA mcnt ad s.heap.size) (some (.int (mBallotW v g nb a1 a2 a3 x0).1)) ((mBallotW v g nb a1 a2 a3 x0).2.1) ((mBallotW v g nb a1 a2 a3 x0).2.2)) args s 0 0 (wA mcnt ad s.heap.size) = Q
  generalize hA9 : wA mcnt ad s.heap.size = A at hw hQ
  have hl : lv_has ls 13 [(0, .ref (ad 33 0)), (1, .int a1), (2, .int a2), (3, .int a3), (4, .long x0)] := hl
  have hO5 := hO.2.2.2.2
  suffices hgo : ∀ (H : Heap) (locs : List Loc), mw D A s.heap ca ad v g H locs → W p l e (rmL 3 0 0) s m args below meth c H locs 0 0 Q (F0 m 0 ls []) from hgo _ _ hw
  clear hw
  intro H locs hw
  refine lv_iload_n hx hb dX10_ballot_0 rfl (lv_at hl 1 rfl) ?_
  refine lv_iconst (v := 1) hx hb dX10_ballot_1 (by decide) ?_
  refine lv_bipush (v := 20) hx hb dX10_ballot_2 (by decide) ?_
  refine x_read (x_runS (rest := []) E cbX10_in tw_649 (kX10_in l D ca a1 1 20 ) ⟨rfl, rfl, by decide, by decide⟩ (fun _ _ _ _ h => h) (fun _ _ _ => trivial) rfl hl.1 rfl (Nat.le_of_ble_eq_true rfl) dX10_ballot_4 ⟨by decide, by decide⟩) ?_
  refine lv_if_eq (tgt := 39) hx hb dX10_ballot_7 (by decide) (fun c_7 => ?_) (fun c_7 => ?_)
  · skip
    have c_7 := bB_0.mp c_7
    refine lv_iconst (v := (-1)) hx hb dX10_ballot_39 (by decide) ?_
    subst hQ
    exact m_iretS E hr hlk hw (by simp [mBallotW, mBalOK, c_7]) dX10_ballot_40
  · skip
    have c_7 := bB_n0.mp c_7
    obtain ⟨n1, g1, g2, rfl⟩ := isIn_rng (lo := 1) (hi := 20) (by decide) (by decide) c_7
    refine lv_iload_n hx hb dX10_ballot_10 rfl (lv_at hl 2 rfl) ?_
    refine lv_iconst (v := 0) hx hb dX10_ballot_11 (by decide) ?_
    refine lv_iload_n hx hb dX10_ballot_12 rfl (lv_at hl 1 rfl) ?_
    refine x_read (x_runS (rest := []) E cbX10_in tw_649 (kX10_in l D ca a2 0 (nI n1) ) ⟨rfl, rfl, by decide, by decide⟩ (fun _ _ _ _ h => h) (fun _ _ _ => trivial) rfl hl.1 rfl (Nat.le_of_ble_eq_true rfl) dX10_ballot_13 ⟨by decide, by decide⟩) ?_
    refine lv_if_eq (tgt := 39) hx hb dX10_ballot_16 (by decide) (fun c_16 => ?_) (fun c_16 => ?_)
    · skip
      have c_16 := bB_0.mp c_16
      refine lv_iconst (v := (-1)) hx hb dX10_ballot_39 (by decide) ?_
      subst hQ
      exact m_iretS E hr hlk hw (by simp [mBallotW, mBalOK, c_7, c_16]) dX10_ballot_40
    · skip
      have c_16 := bB_n0.mp c_16
      obtain ⟨w2, g3, rfl⟩ := isIn_le (n := n1) (by omega) c_16
      refine lv_iload_n hx hb dX10_ballot_19 rfl (lv_at hl 3 rfl) ?_
      refine lv_iconst (v := 0) hx hb dX10_ballot_20 (by decide) ?_
      refine lv_iload_n hx hb dX10_ballot_21 rfl (lv_at hl 1 rfl) ?_
      refine lv_iload_n hx hb dX10_ballot_22 rfl (lv_at hl 2 rfl) ?_
      refine lv_isub hx hb dX10_ballot_23 ?_
      refine x_read (x_runS (rest := []) E cbX10_in tw_649 (kX10_in l D ca a3 0 (nI n1 - nI w2) ) ⟨rfl, rfl, by decide, by decide⟩ (fun _ _ _ _ h => h) (fun _ _ _ => trivial) rfl hl.1 rfl (Nat.le_of_ble_eq_true rfl) dX10_ballot_24 ⟨by decide, by decide⟩) ?_
      refine lv_if_eq (tgt := 39) hx hb dX10_ballot_27 (by decide) (fun c_27 => ?_) (fun c_27 => ?_)
      · skip
        have c_27 := bB_0.mp c_27
        refine lv_iconst (v := (-1)) hx hb dX10_ballot_39 (by decide) ?_
        subst hQ
        exact m_iretS E hr hlk hw (by simp [mBallotW, mBalOK, c_7, c_16, c_27]) dX10_ballot_40
      · skip
        have c_27 := bB_n0.mp c_27
        have q27 := c_27
        rw [pk_sub g3] at q27
        obtain ⟨r3, g4, rfl⟩ := isIn_le (n := n1 - w2) (by omega) q27
        refine lv_aload_n hx hb dX10_ballot_30 rfl (lv_at hl 0 rfl) ?_
        refine m_geti (x := (nI nb)) E hw 1 (by decide) rfl tw_545 (hO.2.1) dX10_ballot_31 ?_
        refine lv_bipush (v := 50) hx hb dX10_ballot_34 (by decide) ?_
        refine lv_icmp_ne (tgt := 41) hx hb dX10_ballot_36 (by decide) (fun c_36 => ?_) (fun c_36 => ?_)
        · skip
          have hc_50 : ¬ nb = 50 := fun q => c_36 (by rw [q]; rfl)
          refine lv_aload_n hx hb dX10_ballot_41 rfl (lv_at hl 0 rfl) ?_
          refine lv_iload_n hx hb dX10_ballot_42 rfl (lv_at hl 1 rfl) ?_
          refine m_wrote hw (x_runV (rest := []) E cbX10_lineOf tw_656 (kX10_lineOf l D ca ad H.size v g  n1 (by omega)) ⟨rfl, rfl, by decide, by decide⟩ (m_recv E hw) (fun _ _ _ _ h => h) (fun U hU _ => by rw [hU]; exact ⟨rfl, hw.1⟩) rfl hl.1 rfl (Nat.le_of_ble_eq_true rfl) dX10_ballot_43 ⟨by decide, by decide⟩) (fun H locs hw hz9 hk9 => ?_)
          refine lv_astore (lv' := [(6, .ref (ad 8 0)), (0, .ref (ad 33 0)), (1, .int (nI n1)), (2, .int (nI w2)), (3, .int (nI r3)), (4, .long x0)]) hx hb dX10_ballot_46 hl (by decide) rfl (fun ls hl => ?_)
          refine lv_lload hx hb dX10_ballot_48 (lv_at hl 5 rfl) ?_
          refine lv_lstore (lv' := [(7, .long x0), (6, .ref (ad 8 0)), (0, .ref (ad 33 0)), (1, .int (nI n1)), (2, .int (nI w2)), (3, .int (nI r3)), (4, .long x0)]) hx hb dX10_ballot_50 hl (by decide) rfl (fun ls hl => ?_)
          refine lv_iconst (v := 0) hx hb dX10_ballot_52 (by decide) ?_
          refine lv_istore (lv' := [(9, .int 0), (7, .long x0), (6, .ref (ad 8 0)), (0, .ref (ad 33 0)), (1, .int (nI n1)), (2, .int (nI w2)), (3, .int (nI r3)), (4, .long x0)]) hx hb dX10_ballot_53 hl (by decide) rfl (fun ls hl => ?_)
          have lp55 : ∀ (n : Nat) (w : Nat) (x7 : Int64), (w ≤ n1) → (x7 = (mBl g nb n1 w2 r3 x0 w).1) → (n1 - w < n) → ∀ (H : Heap) (locs : List Loc), mw D A s.heap ca ad v ((mBl g nb n1 w2 r3 x0 w).2) H locs → ∀ ls : Array Slot, lv_has ls 13 [(0, .ref (ad 33 0)), (1, .int (nI n1)), (2, .int (nI w2)), (3, .int (nI r3)), (6, .ref (ad 8 0)), (7, .long x7), (9, .int (nI w))] → W p l e (rmL 3 0 0) s m args below meth c H locs 0 0 Q (F0 m 55 ls []) := by
            intro n
            induction n with
            | zero =>
              intro w x7 hi h7 hfu H locs hw ls hl
              exact absurd hfu (by omega)
            | succ n ih55 =>
              intro w x7 hi h7 hfu H locs hw ls hl
              refine lv_iload hx hb dX10_ballot_55 (lv_at hl 6 rfl) ?_
              refine lv_iload_n hx hb dX10_ballot_57 rfl (lv_at hl 1 rfl) ?_
              refine lv_icmp_ge (tgt := 171) hx hb dX10_ballot_58 (by decide) (fun c_58 => ?_) (fun c_58 => ?_)
              · skip
                have hge : w = n1 := by have q9 := (nI_leI (a := n1) (b := w) (by omega) (by omega)).mp c_58; omega
                refine lv_aload_n hx hb dX10_ballot_171 rfl (lv_at hl 0 rfl) ?_
                refine m_getr E hw 6 (by decide) rfl tw_550 dX10_ballot_172 ?_
                refine lv_aload_n hx hb dX10_ballot_175 rfl (lv_at hl 0 rfl) ?_
                refine m_geti (x := (nI nb)) E hw 1 (by decide) rfl tw_545 (hO.2.1) dX10_ballot_176 ?_
                refine lv_iload_n hx hb dX10_ballot_179 rfl (lv_at hl 1 rfl) ?_
                refine m_ist E hw 6 ⟨by decide, rfl, rfl⟩ nb (rfl) (by show nb < 50; omega) dX10_ballot_180 (fun H locs hw => ?_)
                refine lv_aload_n hx hb dX10_ballot_181 rfl (lv_at hl 0 rfl) ?_
                refine lv_dup hx hb dX10_ballot_182 rfl ?_
                refine m_geti (x := (nI nb)) E hw 1 (by decide) rfl tw_545 (hO.2.1) dX10_ballot_183 ?_
                refine lv_iconst (v := 1) hx hb dX10_ballot_186 (by decide) ?_
                refine lv_iadd hx hb dX10_ballot_187 ?_
                refine x_top (x := (nI nb + 1)) (y := (nI (nb + 1))) (nI_1 _) ?_
                refine m_put E hw 1 (by decide) rfl tw_545 dX10_ballot_188 (fun H locs hw => ?_)
                refine lv_aload_n hx hb dX10_ballot_191 rfl (lv_at hl 0 rfl) ?_
                refine m_geti (x := (nI (nb + 1))) E hw 1 (by decide) rfl tw_545 (by simp [upd]) dX10_ballot_192 ?_
                refine lv_iconst (v := 1) hx hb dX10_ballot_195 (by decide) ?_
                refine lv_isub hx hb dX10_ballot_196 ?_
                refine x_top (x := ((nI (nb + 1)) - 1)) (y := (nI nb)) (nI_pred _) ?_
                subst hQ
                exact m_iretS E hr hlk hw (by rw [hge]; simp [mBallotW, mBalOK, nI_clamp (n := n1) (by omega), nI_clamp (n := w2) (by omega), nI_clamp (n := r3) (by omega), c_7, c_16, c_27, hc_50]) dX10_ballot_197
              · skip
                have hlt : w < n1 := by have q9 := mt (nI_leI (a := n1) (b := w) (by omega) (by omega)).mpr c_58; omega
                have h7n : mNx x7 = mNx (mBl g nb n1 w2 r3 x0 w).1 := by rw [h7]
                obtain ⟨G, hG⟩ : ∃ z, z = (mBl g nb n1 w2 r3 x0 w).2 := ⟨_, rfl⟩
                rw [← hG] at hw
                refine lv_lload hx hb dX10_ballot_61 (lv_at hl 5 rfl) ?_
                refine lv_ldc2 hx hb hown (hts _ tw_660) dX10_ballot_63 ?_
                refine lv_lmul hx hb dX10_ballot_66 ?_
                refine lv_ldc2 hx hb hown (hts _ tw_661) dX10_ballot_67 ?_
                refine lv_ladd hx hb dX10_ballot_70 ?_
                refine x_topL (x := ((x7 * 6364136223846793005) + 1442695040888963407)) (y := (mNx x7)) (mNx_eq x7) ?_
                refine lv_lstore (lv' := [(7, .long (mNx x7)), (0, .ref (ad 33 0)), (1, .int (nI n1)), (2, .int (nI w2)), (3, .int (nI r3)), (6, .ref (ad 8 0)), (9, .int (nI w))]) hx hb dX10_ballot_71 hl (by decide) rfl (fun ls hl => ?_)
                refine lv_lload hx hb dX10_ballot_73 (lv_at hl 0 rfl) ?_
                refine lv_bipush (v := 33) hx hb dX10_ballot_75 (by decide) ?_
                refine lv_lushr (v := (lN (mHi (mNx x7)))) hx hb dX10_ballot_77 (mHi_val _) ?_
                refine lv_iload_n hx hb dX10_ballot_78 rfl (lv_at hl 2 rfl) ?_
                refine lv_iload hx hb dX10_ballot_79 (lv_at hl 6 rfl) ?_
                refine lv_isub hx hb dX10_ballot_81 ?_
                refine x_top (x := (nI n1 - nI w)) (y := (nI (n1 - w))) (pk_sub (by omega)) ?_
                refine lv_i2l (v := (lN (n1 - w))) hx hb dX10_ballot_82 (nI_l (by omega)) ?_
                refine lv_lrem hx hb dX10_ballot_83 (lN_ne0 (by omega) (by omega)) ?_
                refine x_topL (x := (lN (mHi (mNx x7)) - lN (mHi (mNx x7)) / lN (n1 - w) * lN (n1 - w))) (y := (lN (mK (mNx x7) (n1 - w)))) (pk_lRem (Nat.lt_trans (mHi_lt _) (by decide)) (by omega) (by omega)) ?_
                refine lv_l2i (v := (nI (mK (mNx x7) (n1 - w)))) hx hb dX10_ballot_84 (lN_i _) ?_
                have hKl : mK (mNx x7) (n1 - w) < n1 - w := Nat.mod_lt _ (by omega)
                generalize hK : mK (mNx x7) (n1 - w) = K at hKl ⊢
                refine lv_istore (lv' := [(10, .int (nI K)), (7, .long (mNx x7)), (0, .ref (ad 33 0)), (1, .int (nI n1)), (2, .int (nI w2)), (3, .int (nI r3)), (6, .ref (ad 8 0)), (9, .int (nI w))]) hx hb dX10_ballot_85 hl (by decide) rfl (fun ls hl => ?_)
                refine lv_aload hx hb dX10_ballot_87 (lv_at hl 6 rfl) ?_
                refine lv_iload hx hb dX10_ballot_89 (lv_at hl 0 rfl) ?_
                refine m_ild E hw 8 ⟨by decide, rfl, rfl⟩ K (rfl) (by show K < 20; omega) dX10_ballot_91 ?_
                refine lv_istore (lv' := [(11, .int (G 8 K)), (10, .int (nI K)), (7, .long (mNx x7)), (0, .ref (ad 33 0)), (1, .int (nI n1)), (2, .int (nI w2)), (3, .int (nI r3)), (6, .ref (ad 8 0)), (9, .int (nI w))]) hx hb dX10_ballot_92 hl (by decide) rfl (fun ls hl => ?_)
                refine lv_iload hx hb dX10_ballot_94 (lv_at hl 1 rfl) ?_
                refine lv_istore (lv' := [(12, .int (nI K)), (11, .int (G 8 K)), (10, .int (nI K)), (7, .long (mNx x7)), (0, .ref (ad 33 0)), (1, .int (nI n1)), (2, .int (nI w2)), (3, .int (nI r3)), (6, .ref (ad 8 0)), (9, .int (nI w))]) hx hb dX10_ballot_96 hl (by decide) rfl (fun ls hl => ?_)
                have lp98 : ∀ (n : Nat) (i : Nat), (i ≤ n1 - w - 1 - K) → (n1 - w - 1 - K - i < n) → ∀ (H : Heap) (locs : List Loc), mw D A s.heap ca ad v (mShf G K i) H locs → ∀ ls : Array Slot, lv_has ls 13 [(0, .ref (ad 33 0)), (1, .int (nI n1)), (2, .int (nI w2)), (3, .int (nI r3)), (6, .ref (ad 8 0)), (7, .long (mNx x7)), (9, .int (nI w)), (11, .int (G 8 K)), (12, .int (nI (K + i)))] → W p l e (rmL 3 0 0) s m args below meth c H locs 0 0 Q (F0 m 98 ls []) := by
                  intro n
                  induction n with
                  | zero =>
                    intro i hj hfu H locs hw ls hl
                    exact absurd hfu (by omega)
                  | succ n ih98 =>
                    intro i hj hfu H locs hw ls hl
                    refine lv_iload hx hb dX10_ballot_98 (lv_at hl 8 rfl) ?_
                    refine lv_iload_n hx hb dX10_ballot_100 rfl (lv_at hl 1 rfl) ?_
                    refine lv_iload hx hb dX10_ballot_101 (lv_at hl 6 rfl) ?_
                    refine lv_isub hx hb dX10_ballot_103 ?_
                    refine x_top (x := (nI n1 - nI w)) (y := (nI (n1 - w))) (pk_sub (by omega)) ?_
                    refine lv_iconst (v := 1) hx hb dX10_ballot_104 (by decide) ?_
                    refine lv_isub hx hb dX10_ballot_105 ?_
                    refine x_top (x := (nI (n1 - w) - 1)) (y := (nI (n1 - w - 1))) (pk_sub (b := 1) (by omega)) ?_
                    refine lv_icmp_ge (tgt := 127) hx hb dX10_ballot_106 (by decide) (fun c_106 => ?_) (fun c_106 => ?_)
                    · skip
                      have hgej : i = n1 - w - 1 - K := by have q9 := (nI_leI (a := n1 - w - 1) (b := K + i) (by omega) (by omega)).mp c_106; omega
                      refine lv_aload_n hx hb dX10_ballot_127 rfl (lv_at hl 0 rfl) ?_
                      refine m_getr E hw 7 (by decide) rfl tw_551 dX10_ballot_128 ?_
                      refine lv_bipush (v := 20) hx hb dX10_ballot_131 (by decide) ?_
                      refine lv_aload_n hx hb dX10_ballot_133 rfl (lv_at hl 0 rfl) ?_
                      refine m_geti (x := (nI nb)) E hw 1 (by decide) rfl tw_545 (hO.2.1) dX10_ballot_134 ?_
                      refine lv_imul hx hb dX10_ballot_137 ?_
                      refine x_top (x := (20 * nI nb)) (y := (nI (20 * nb))) (pk_mul 20 _) ?_
                      refine lv_iload hx hb dX10_ballot_138 (lv_at hl 6 rfl) ?_
                      refine lv_iadd hx hb dX10_ballot_140 ?_
                      refine x_top (x := (nI (20 * nb) + nI w)) (y := (nI (20 * nb + w))) (nI_add _ _) ?_
                      refine lv_iload hx hb dX10_ballot_141 (lv_at hl 7 rfl) ?_
                      refine lv_iload_n hx hb dX10_ballot_143 rfl (lv_at hl 2 rfl) ?_
                      refine lv_icmp_ge (tgt := 151) hx hb dX10_ballot_144 (by decide) (fun c_144 => ?_) (fun c_144 => ?_)
                      · skip
                        refine lv_iload hx hb dX10_ballot_151 (lv_at hl 7 rfl) ?_
                        refine lv_iload_n hx hb dX10_ballot_153 rfl (lv_at hl 2 rfl) ?_
                        refine lv_iload_n hx hb dX10_ballot_154 rfl (lv_at hl 3 rfl) ?_
                        refine lv_iadd hx hb dX10_ballot_155 ?_
                        refine lv_icmp_ge (tgt := 163) hx hb dX10_ballot_156 (by decide) (fun c_156 => ?_) (fun c_156 => ?_)
                        · skip
                          refine lv_iconst (v := 2) hx hb dX10_ballot_163 (by decide) ?_
                          refine m_ist E hw 7 ⟨by decide, rfl, rfl⟩ (20 * nb + w) (rfl) (by show _ < 1000; omega) dX10_ballot_164 (fun H locs hw => ?_)
                          refine lv_iinc (v := (nI (w + 1))) (lv' := [(9, .int (nI (w + 1))), (0, .ref (ad 33 0)), (1, .int (nI n1)), (2, .int (nI w2)), (3, .int (nI r3)), (6, .ref (ad 8 0)), (7, .long (mNx x7)), (11, .int (G 8 K)), (12, .int (nI (K + i)))]) hx hb dX10_ballot_165 hl (k := 6) rfl (nI_1 _) (by decide) rfl (fun ls hl => ?_)
                          refine lv_goto (tgt := 55) hx hb dX10_ballot_168 (by decide) ?_
                          exact ih55 (w + 1) (mNx x7) (hlt) (by rw [h7n, mBl]) (by omega) _ _ (by simpa [mBl, ← hG, ← h7n, hK, hgej, mColr, c_106, c_144, c_156] using hw) ls (lv_sub hl [1, 2, 3, 4, 5, 6, 0] (rfl))
                        · skip
                          refine lv_iconst (v := 1) hx hb dX10_ballot_159 (by decide) ?_
                          refine lv_goto (tgt := 164) hx hb dX10_ballot_160 (by decide) ?_
                          refine m_ist E hw 7 ⟨by decide, rfl, rfl⟩ (20 * nb + w) (rfl) (by show _ < 1000; omega) dX10_ballot_164 (fun H locs hw => ?_)
                          refine lv_iinc (v := (nI (w + 1))) (lv' := [(9, .int (nI (w + 1))), (0, .ref (ad 33 0)), (1, .int (nI n1)), (2, .int (nI w2)), (3, .int (nI r3)), (6, .ref (ad 8 0)), (7, .long (mNx x7)), (11, .int (G 8 K)), (12, .int (nI (K + i)))]) hx hb dX10_ballot_165 hl (k := 6) rfl (nI_1 _) (by decide) rfl (fun ls hl => ?_)
                          refine lv_goto (tgt := 55) hx hb dX10_ballot_168 (by decide) ?_
                          exact ih55 (w + 1) (mNx x7) (hlt) (by rw [h7n, mBl]) (by omega) _ _ (by simpa [mBl, ← hG, ← h7n, hK, hgej, mColr, c_106, c_144, c_156] using hw) ls (lv_sub hl [1, 2, 3, 4, 5, 6, 0] (rfl))
                      · skip
                        refine lv_iconst (v := 0) hx hb dX10_ballot_147 (by decide) ?_
                        refine lv_goto (tgt := 164) hx hb dX10_ballot_148 (by decide) ?_
                        refine m_ist E hw 7 ⟨by decide, rfl, rfl⟩ (20 * nb + w) (rfl) (by show _ < 1000; omega) dX10_ballot_164 (fun H locs hw => ?_)
                        refine lv_iinc (v := (nI (w + 1))) (lv' := [(9, .int (nI (w + 1))), (0, .ref (ad 33 0)), (1, .int (nI n1)), (2, .int (nI w2)), (3, .int (nI r3)), (6, .ref (ad 8 0)), (7, .long (mNx x7)), (11, .int (G 8 K)), (12, .int (nI (K + i)))]) hx hb dX10_ballot_165 hl (k := 6) rfl (nI_1 _) (by decide) rfl (fun ls hl => ?_)
                        refine lv_goto (tgt := 55) hx hb dX10_ballot_168 (by decide) ?_
                        exact ih55 (w + 1) (mNx x7) (hlt) (by rw [h7n, mBl]) (by omega) _ _ (by simpa [mBl, ← hG, ← h7n, hK, hgej, mColr, c_106, c_144] using hw) ls (lv_sub hl [1, 2, 3, 4, 5, 6, 0] (rfl))
                    · skip
                      have hltj : K + i < n1 - w - 1 := by have q9 := mt (nI_leI (a := n1 - w - 1) (b := K + i) (by omega) (by omega)).mpr c_106; omega
                      refine lv_aload hx hb dX10_ballot_109 (lv_at hl 4 rfl) ?_
                      refine lv_iload hx hb dX10_ballot_111 (lv_at hl 8 rfl) ?_
                      refine lv_aload hx hb dX10_ballot_113 (lv_at hl 4 rfl) ?_
                      refine lv_iload hx hb dX10_ballot_115 (lv_at hl 8 rfl) ?_
                      refine lv_iconst (v := 1) hx hb dX10_ballot_117 (by decide) ?_
                      refine lv_iadd hx hb dX10_ballot_118 ?_
                      refine x_top (x := (nI (K + i) + 1)) (y := (nI (K + i + 1))) (nI_1 _) ?_
                      refine m_ild E hw 8 ⟨by decide, rfl, rfl⟩ (K + i + 1) (rfl) (by show _ < 20; omega) dX10_ballot_119 ?_
                      refine m_ist E hw 8 ⟨by decide, rfl, rfl⟩ (K + i) (rfl) (by show _ < 20; omega) dX10_ballot_120 (fun H locs hw => ?_)
                      refine lv_iinc (v := (nI ((K + i) + 1))) (lv' := [(12, .int (nI ((K + i) + 1))), (0, .ref (ad 33 0)), (1, .int (nI n1)), (2, .int (nI w2)), (3, .int (nI r3)), (6, .ref (ad 8 0)), (7, .long (mNx x7)), (9, .int (nI w)), (11, .int (G 8 K))]) hx hb dX10_ballot_121 hl (k := 8) rfl (nI_1 _) (by decide) rfl (fun ls hl => ?_)
                      refine lv_goto (tgt := 98) hx hb dX10_ballot_124 (by decide) ?_
                      exact ih98 (i + 1) (by omega) (by omega) _ _ (hw) ls (lv_sub hl [1, 2, 3, 4, 5, 6, 7, 8, 0] (rfl))
                exact lp98 (n1 + 1) 0 (Nat.zero_le _) (by omega) _ _ (by rw [mShf]; exact hw) ls (lv_sub hl [4, 5, 6, 7, 8, 3, 9, 1, 0] (by rw [Nat.add_zero]; rfl))
          exact lp55 (n1 + 1) 0 x0 (Nat.zero_le _) (rfl) (by omega) _ _ (hw) ls (lv_sub hl [3, 4, 5, 6, 2, 1, 0] (rfl))
        · skip
          have hc_50 : nb = 50 := (nI_eq (a := nb) (b := 50) (by omega) (by decide)).mp c_36
          refine lv_iconst (v := (-1)) hx hb dX10_ballot_39 (by decide) ?_
          subst hQ
          exact m_iretS E hr hlk hw (by simp [mBallotW, mBalOK, c_7, c_16, c_27, c_36, hc_50]) dX10_ballot_40
end
