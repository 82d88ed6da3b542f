section
-- ===== PART A: goes FIRST, ahead of the names: the tables' words, and 'selects' of the private methods out of them =====
/-- a private method of a class that the tables say can be made, by its rows of tables_1 -/
def lw_okq (q : MethodName × Nat) : Prop := (q.1.cls ≠ "java/lang/invoke/MethodHandle" ∧ q.1.cls ≠ "java/lang/invoke/VarHandle") ∧ Cond.instantiable q.1.cls q.2 ∈ tables_1 ∧ Cond.privateMethod q.1 ∈ tables_1 ∧ Cond.instanceMethod q.1 ∈ tables_1
theorem lw_p0 : lw_okq (⟨"SureMendings$History", "slotAt", "(I)LSureMendings$Table;"⟩, 3) := ⟨⟨by decide +kernel, by decide +kernel⟩, List.mem_of_getElem? (i := 72) (by decide +kernel), List.mem_of_getElem? (i := 163) (by decide +kernel), List.mem_of_getElem? (i := 164) (by decide +kernel)⟩
theorem lw_p1 : lw_okq (⟨"SureMendings$Reader", "readOne", "()Z"⟩, 3) := ⟨⟨by decide +kernel, by decide +kernel⟩, List.mem_of_getElem? (i := 105) (by decide +kernel), List.mem_of_getElem? (i := 205) (by decide +kernel), List.mem_of_getElem? (i := 206) (by decide +kernel)⟩
theorem lw_p2 : lw_okq (⟨"SureMendings$Reader", "takeBetween", "(CC)I"⟩, 3) := ⟨⟨by decide +kernel, by decide +kernel⟩, List.mem_of_getElem? (i := 105) (by decide +kernel), List.mem_of_getElem? (i := 209) (by decide +kernel), List.mem_of_getElem? (i := 210) (by decide +kernel)⟩
theorem lw_p3 : lw_okq (⟨"SureMendings$Reader", "take", "(C)Z"⟩, 3) := ⟨⟨by decide +kernel, by decide +kernel⟩, List.mem_of_getElem? (i := 105) (by decide +kernel), List.mem_of_getElem? (i := 217) (by decide +kernel), List.mem_of_getElem? (i := 218) (by decide +kernel)⟩
theorem lw_p4 : lw_okq (⟨"SureMendings$Reader", "takeWeight", "()I"⟩, 3) := ⟨⟨by decide +kernel, by decide +kernel⟩, List.mem_of_getElem? (i := 105) (by decide +kernel), List.mem_of_getElem? (i := 221) (by decide +kernel), List.mem_of_getElem? (i := 222) (by decide +kernel)⟩
theorem lw_p5 : lw_okq (⟨"SureMendings$Table", "move", "(II)V"⟩, 6) := ⟨⟨by decide +kernel, by decide +kernel⟩, List.mem_of_getElem? (i := 21) (by decide +kernel), List.mem_of_getElem? (i := 275) (by decide +kernel), List.mem_of_getElem? (i := 276) (by decide +kernel)⟩
theorem lw_p6 : lw_okq (⟨"SureMendings$Table", "keysWithAtLeast", "(I)I"⟩, 6) := ⟨⟨by decide +kernel, by decide +kernel⟩, List.mem_of_getElem? (i := 21) (by decide +kernel), List.mem_of_getElem? (i := 300) (by decide +kernel), List.mem_of_getElem? (i := 301) (by decide +kernel)⟩
theorem lw_p7 : lw_okq (⟨"SureMendings", "chosenBy", "(II)I"⟩, 7) := ⟨⟨by decide +kernel, by decide +kernel⟩, List.mem_of_getElem? (i := 13) (by decide +kernel), List.mem_of_getElem? (i := 305) (by decide +kernel), List.mem_of_getElem? (i := 306) (by decide +kernel)⟩
theorem lw_p8 : lw_okq (⟨"SureMendings", "choicesNow", "()LSureMendings$Choices;"⟩, 7) := ⟨⟨by decide +kernel, by decide +kernel⟩, List.mem_of_getElem? (i := 13) (by decide +kernel), List.mem_of_getElem? (i := 333) (by decide +kernel), List.mem_of_getElem? (i := 334) (by decide +kernel)⟩
theorem lw_p9 : lw_okq (⟨"SureMendings$Choices", "addOption", "(II)V"⟩, 6) := ⟨⟨by decide +kernel, by decide +kernel⟩, List.mem_of_getElem? (i := 47) (by decide +kernel), List.mem_of_getElem? (i := 351) (by decide +kernel), List.mem_of_getElem? (i := 352) (by decide +kernel)⟩
theorem lw_p10 : lw_okq (⟨"SureMendings$Choices", "targetBit", "(I)I"⟩, 6) := ⟨⟨by decide +kernel, by decide +kernel⟩, List.mem_of_getElem? (i := 47) (by decide +kernel), List.mem_of_getElem? (i := 361) (by decide +kernel), List.mem_of_getElem? (i := 362) (by decide +kernel)⟩
theorem lw_p11 : lw_okq (⟨"SureMendings$Choices", "isThere", "(I)Z"⟩, 6) := ⟨⟨by decide +kernel, by decide +kernel⟩, List.mem_of_getElem? (i := 47) (by decide +kernel), List.mem_of_getElem? (i := 367) (by decide +kernel), List.mem_of_getElem? (i := 368) (by decide +kernel)⟩
theorem lw_p12 : lw_okq (⟨"SureMendings$Choices", "optionsWith", "(II)I"⟩, 6) := ⟨⟨by decide +kernel, by decide +kernel⟩, List.mem_of_getElem? (i := 47) (by decide +kernel), List.mem_of_getElem? (i := 449) (by decide +kernel), List.mem_of_getElem? (i := 450) (by decide +kernel)⟩
theorem lw_p13 : lw_okq (⟨"SureMendings$Choices", "option", "(II)I"⟩, 6) := ⟨⟨by decide +kernel, by decide +kernel⟩, List.mem_of_getElem? (i := 47) (by decide +kernel), List.mem_of_getElem? (i := 453) (by decide +kernel), List.mem_of_getElem? (i := 454) (by decide +kernel)⟩
theorem lw_p14 : lw_okq (⟨"SureMendings$Choices", "keysSureToReach", "(I)I"⟩, 6) := ⟨⟨by decide +kernel, by decide +kernel⟩, List.mem_of_getElem? (i := 47) (by decide +kernel), List.mem_of_getElem? (i := 474) (by decide +kernel), List.mem_of_getElem? (i := 475) (by decide +kernel)⟩
theorem lw_p15 : lw_okq (⟨"SureMendings$Choices", "setOf", "(I)I"⟩, 6) := ⟨⟨by decide +kernel, by decide +kernel⟩, List.mem_of_getElem? (i := 47) (by decide +kernel), List.mem_of_getElem? (i := 478) (by decide +kernel), List.mem_of_getElem? (i := 479) (by decide +kernel)⟩
def lw_privs_1 : List (MethodName × Nat) := [(⟨"SureMendings$History", "slotAt", "(I)LSureMendings$Table;"⟩, 3), (⟨"SureMendings$Reader", "readOne", "()Z"⟩, 3), (⟨"SureMendings$Reader", "takeBetween", "(CC)I"⟩, 3), (⟨"SureMendings$Reader", "take", "(C)Z"⟩, 3), (⟨"SureMendings$Reader", "takeWeight", "()I"⟩, 3), (⟨"SureMendings$Table", "move", "(II)V"⟩, 6), (⟨"SureMendings$Table", "keysWithAtLeast", "(I)I"⟩, 6), (⟨"SureMendings", "chosenBy", "(II)I"⟩, 7), (⟨"SureMendings", "choicesNow", "()LSureMendings$Choices;"⟩, 7), (⟨"SureMendings$Choices", "addOption", "(II)V"⟩, 6), (⟨"SureMendings$Choices", "targetBit", "(I)I"⟩, 6), (⟨"SureMendings$Choices", "isThere", "(I)Z"⟩, 6), (⟨"SureMendings$Choices", "optionsWith", "(II)I"⟩, 6), (⟨"SureMendings$Choices", "option", "(II)I"⟩, 6), (⟨"SureMendings$Choices", "keysSureToReach", "(I)I"⟩, 6), (⟨"SureMendings$Choices", "setOf", "(I)I"⟩, 6)]
theorem lw_r1 : ∀ q ∈ lw_privs_1, lw_okq q := List.forall_mem_cons.mpr ⟨lw_p0, List.forall_mem_cons.mpr ⟨lw_p1, List.forall_mem_cons.mpr ⟨lw_p2, List.forall_mem_cons.mpr ⟨lw_p3, List.forall_mem_cons.mpr ⟨lw_p4, List.forall_mem_cons.mpr ⟨lw_p5, List.forall_mem_cons.mpr ⟨lw_p6, List.forall_mem_cons.mpr ⟨lw_p7, List.forall_mem_cons.mpr ⟨lw_p8, List.forall_mem_cons.mpr ⟨lw_p9, List.forall_mem_cons.mpr ⟨lw_p10, List.forall_mem_cons.mpr ⟨lw_p11, List.forall_mem_cons.mpr ⟨lw_p12, List.forall_mem_cons.mpr ⟨lw_p13, List.forall_mem_cons.mpr ⟨lw_p14, List.forall_mem_cons.mpr ⟨lw_p15, fun _ h => absurd h List.not_mem_nil⟩⟩⟩⟩⟩⟩⟩⟩⟩⟩⟩⟩⟩⟩⟩⟩
theorem lw_p16 : lw_okq (⟨"SureMendings$Choices", "keysThatMustPointInto", "(I)I"⟩, 6) := ⟨⟨by decide +kernel, by decide +kernel⟩, List.mem_of_getElem? (i := 47) (by decide +kernel), List.mem_of_getElem? (i := 482) (by decide +kernel), List.mem_of_getElem? (i := 483) (by decide +kernel)⟩
theorem lw_p17 : lw_okq (⟨"SureMendings$Choices", "keysThatCanPointInto", "(I)I"⟩, 6) := ⟨⟨by decide +kernel, by decide +kernel⟩, List.mem_of_getElem? (i := 47) (by decide +kernel), List.mem_of_getElem? (i := 493) (by decide +kernel), List.mem_of_getElem? (i := 494) (by decide +kernel)⟩
theorem lw_p18 : lw_okq (⟨"SureMendings$Choices", "holdsIn", "(III)Z"⟩, 6) := ⟨⟨by decide +kernel, by decide +kernel⟩, List.mem_of_getElem? (i := 47) (by decide +kernel), List.mem_of_getElem? (i := 501) (by decide +kernel), List.mem_of_getElem? (i := 502) (by decide +kernel)⟩
theorem lw_p19 : lw_okq (⟨"SureMendings$Choices", "firstMendingByWeight", "(I)I"⟩, 6) := ⟨⟨by decide +kernel, by decide +kernel⟩, List.mem_of_getElem? (i := 47) (by decide +kernel), List.mem_of_getElem? (i := 526) (by decide +kernel), List.mem_of_getElem? (i := 527) (by decide +kernel)⟩
theorem lw_p20 : lw_okq (⟨"SureMendings$Choices", "optionWeight", "(II)I"⟩, 6) := ⟨⟨by decide +kernel, by decide +kernel⟩, List.mem_of_getElem? (i := 47) (by decide +kernel), List.mem_of_getElem? (i := 530) (by decide +kernel), List.mem_of_getElem? (i := 531) (by decide +kernel)⟩
theorem lw_p21 : lw_okq (⟨"SureMendings$Choices", "isSureWayOnceMended", "(IIII)Z"⟩, 6) := ⟨⟨by decide +kernel, by decide +kernel⟩, List.mem_of_getElem? (i := 47) (by decide +kernel), List.mem_of_getElem? (i := 552) (by decide +kernel), List.mem_of_getElem? (i := 553) (by decide +kernel)⟩
theorem lw_p22 : lw_okq (⟨"SureMendings$Choices", "keysThatCanReach", "(I)I"⟩, 6) := ⟨⟨by decide +kernel, by decide +kernel⟩, List.mem_of_getElem? (i := 47) (by decide +kernel), List.mem_of_getElem? (i := 593) (by decide +kernel), List.mem_of_getElem? (i := 594) (by decide +kernel)⟩
theorem lw_p23 : lw_okq (⟨"SureMendingsModel", "remember", "()V"⟩, 20) := ⟨⟨by decide +kernel, by decide +kernel⟩, List.mem_of_getElem? (i := 597) (by decide +kernel), List.mem_of_getElem? (i := 681) (by decide +kernel), List.mem_of_getElem? (i := 682) (by decide +kernel)⟩
theorem lw_p24 : lw_okq (⟨"SureMendingsModel", "puts", "(IIII)V"⟩, 20) := ⟨⟨by decide +kernel, by decide +kernel⟩, List.mem_of_getElem? (i := 597) (by decide +kernel), List.mem_of_getElem? (i := 685) (by decide +kernel), List.mem_of_getElem? (i := 686) (by decide +kernel)⟩
theorem lw_p25 : lw_okq (⟨"SureMendingsModel", "acted", "(I)I"⟩, 20) := ⟨⟨by decide +kernel, by decide +kernel⟩, List.mem_of_getElem? (i := 597) (by decide +kernel), List.mem_of_getElem? (i := 689) (by decide +kernel), List.mem_of_getElem? (i := 690) (by decide +kernel)⟩
theorem lw_p26 : lw_okq (⟨"SureMendingsModel", "isRow", "(I)Z"⟩, 20) := ⟨⟨by decide +kernel, by decide +kernel⟩, List.mem_of_getElem? (i := 597) (by decide +kernel), List.mem_of_getElem? (i := 697) (by decide +kernel), List.mem_of_getElem? (i := 698) (by decide +kernel)⟩
theorem lw_p27 : lw_okq (⟨"SureMendingsModel", "takesOut", "(I)V"⟩, 20) := ⟨⟨by decide +kernel, by decide +kernel⟩, List.mem_of_getElem? (i := 597) (by decide +kernel), List.mem_of_getElem? (i := 701) (by decide +kernel), List.mem_of_getElem? (i := 702) (by decide +kernel)⟩
theorem lw_p28 : lw_okq (⟨"SureMendingsModel", "mends", "(I)I"⟩, 20) := ⟨⟨by decide +kernel, by decide +kernel⟩, List.mem_of_getElem? (i := 597) (by decide +kernel), List.mem_of_getElem? (i := 709) (by decide +kernel), List.mem_of_getElem? (i := 710) (by decide +kernel)⟩
theorem lw_p29 : lw_okq (⟨"SureMendingsModel", "of", "(II)I"⟩, 20) := ⟨⟨by decide +kernel, by decide +kernel⟩, List.mem_of_getElem? (i := 597) (by decide +kernel), List.mem_of_getElem? (i := 713) (by decide +kernel), List.mem_of_getElem? (i := 714) (by decide +kernel)⟩
theorem lw_p30 : lw_okq (⟨"SureMendingsModel", "rowsOf", "(I)I"⟩, 20) := ⟨⟨by decide +kernel, by decide +kernel⟩, List.mem_of_getElem? (i := 597) (by decide +kernel), List.mem_of_getElem? (i := 722) (by decide +kernel), List.mem_of_getElem? (i := 723) (by decide +kernel)⟩
theorem lw_p31 : lw_okq (⟨"SureMendingsModel", "firstOf", "(I)I"⟩, 20) := ⟨⟨by decide +kernel, by decide +kernel⟩, List.mem_of_getElem? (i := 597) (by decide +kernel), List.mem_of_getElem? (i := 726) (by decide +kernel), List.mem_of_getElem? (i := 727) (by decide +kernel)⟩
def lw_privs_2 : List (MethodName × Nat) := [(⟨"SureMendings$Choices", "keysThatMustPointInto", "(I)I"⟩, 6), (⟨"SureMendings$Choices", "keysThatCanPointInto", "(I)I"⟩, 6), (⟨"SureMendings$Choices", "holdsIn", "(III)Z"⟩, 6), (⟨"SureMendings$Choices", "firstMendingByWeight", "(I)I"⟩, 6), (⟨"SureMendings$Choices", "optionWeight", "(II)I"⟩, 6), (⟨"SureMendings$Choices", "isSureWayOnceMended", "(IIII)Z"⟩, 6), (⟨"SureMendings$Choices", "keysThatCanReach", "(I)I"⟩, 6), (⟨"SureMendingsModel", "remember", "()V"⟩, 20), (⟨"SureMendingsModel", "puts", "(IIII)V"⟩, 20), (⟨"SureMendingsModel", "acted", "(I)I"⟩, 20), (⟨"SureMendingsModel", "isRow", "(I)Z"⟩, 20), (⟨"SureMendingsModel", "takesOut", "(I)V"⟩, 20), (⟨"SureMendingsModel", "mends", "(I)I"⟩, 20), (⟨"SureMendingsModel", "of", "(II)I"⟩, 20), (⟨"SureMendingsModel", "rowsOf", "(I)I"⟩, 20), (⟨"SureMendingsModel", "firstOf", "(I)I"⟩, 20)]
theorem lw_r2 : ∀ q ∈ lw_privs_2, lw_okq q := List.forall_mem_cons.mpr ⟨lw_p16, List.forall_mem_cons.mpr ⟨lw_p17, List.forall_mem_cons.mpr ⟨lw_p18, List.forall_mem_cons.mpr ⟨lw_p19, List.forall_mem_cons.mpr ⟨lw_p20, List.forall_mem_cons.mpr ⟨lw_p21, List.forall_mem_cons.mpr ⟨lw_p22, List.forall_mem_cons.mpr ⟨lw_p23, List.forall_mem_cons.mpr ⟨lw_p24, List.forall_mem_cons.mpr ⟨lw_p25, List.forall_mem_cons.mpr ⟨lw_p26, List.forall_mem_cons.mpr ⟨lw_p27, List.forall_mem_cons.mpr ⟨lw_p28, List.forall_mem_cons.mpr ⟨lw_p29, List.forall_mem_cons.mpr ⟨lw_p30, List.forall_mem_cons.mpr ⟨lw_p31, fun _ h => absurd h List.not_mem_nil⟩⟩⟩⟩⟩⟩⟩⟩⟩⟩⟩⟩⟩⟩⟩⟩
theorem lw_p32 : lw_okq (⟨"SureMendingsModel", "lastOf", "(I)I"⟩, 20) := ⟨⟨by decide +kernel, by decide +kernel⟩, List.mem_of_getElem? (i := 597) (by decide +kernel), List.mem_of_getElem? (i := 730) (by decide +kernel), List.mem_of_getElem? (i := 731) (by decide +kernel)⟩
theorem lw_p33 : lw_okq (⟨"SureMendingsModel", "outermost", "(IZ)I"⟩, 20) := ⟨⟨by decide +kernel, by decide +kernel⟩, List.mem_of_getElem? (i := 597) (by decide +kernel), List.mem_of_getElem? (i := 734) (by decide +kernel), List.mem_of_getElem? (i := 735) (by decide +kernel)⟩
theorem lw_p34 : lw_okq (⟨"SureMendingsModel", "findsChoices", "()V"⟩, 20) := ⟨⟨by decide +kernel, by decide +kernel⟩, List.mem_of_getElem? (i := 597) (by decide +kernel), List.mem_of_getElem? (i := 742) (by decide +kernel), List.mem_of_getElem? (i := 743) (by decide +kernel)⟩
theorem lw_p35 : lw_okq (⟨"SureMendingsModel", "canBeKept", "(I)Z"⟩, 20) := ⟨⟨by decide +kernel, by decide +kernel⟩, List.mem_of_getElem? (i := 597) (by decide +kernel), List.mem_of_getElem? (i := 746) (by decide +kernel), List.mem_of_getElem? (i := 747) (by decide +kernel)⟩
theorem lw_p36 : lw_okq (⟨"SureMendingsModel", "mendings", "()I"⟩, 20) := ⟨⟨by decide +kernel, by decide +kernel⟩, List.mem_of_getElem? (i := 597) (by decide +kernel), List.mem_of_getElem? (i := 750) (by decide +kernel), List.mem_of_getElem? (i := 751) (by decide +kernel)⟩
theorem lw_p37 : lw_okq (⟨"SureMendingsModel", "fault", "()I"⟩, 20) := ⟨⟨by decide +kernel, by decide +kernel⟩, List.mem_of_getElem? (i := 597) (by decide +kernel), List.mem_of_getElem? (i := 766) (by decide +kernel), List.mem_of_getElem? (i := 767) (by decide +kernel)⟩
theorem lw_p38 : lw_okq (⟨"SureMendingsModel", "readsRow", "()Z"⟩, 20) := ⟨⟨by decide +kernel, by decide +kernel⟩, List.mem_of_getElem? (i := 597) (by decide +kernel), List.mem_of_getElem? (i := 770) (by decide +kernel), List.mem_of_getElem? (i := 771) (by decide +kernel)⟩
theorem lw_p39 : lw_okq (⟨"SureMendingsModel", "reads", "(III)Z"⟩, 20) := ⟨⟨by decide +kernel, by decide +kernel⟩, List.mem_of_getElem? (i := 597) (by decide +kernel), List.mem_of_getElem? (i := 774) (by decide +kernel), List.mem_of_getElem? (i := 775) (by decide +kernel)⟩
theorem lw_p40 : lw_okq (⟨"SureMendingsModel", "isHere", "(II)Z"⟩, 20) := ⟨⟨by decide +kernel, by decide +kernel⟩, List.mem_of_getElem? (i := 597) (by decide +kernel), List.mem_of_getElem? (i := 778) (by decide +kernel), List.mem_of_getElem? (i := 779) (by decide +kernel)⟩
theorem lw_p41 : lw_okq (⟨"SureMendingsModel", "takesSign", "(I)Z"⟩, 20) := ⟨⟨by decide +kernel, by decide +kernel⟩, List.mem_of_getElem? (i := 597) (by decide +kernel), List.mem_of_getElem? (i := 782) (by decide +kernel), List.mem_of_getElem? (i := 783) (by decide +kernel)⟩
theorem lw_p42 : lw_okq (⟨"SureMendingsModel", "isSure", "(I)Z"⟩, 20) := ⟨⟨by decide +kernel, by decide +kernel⟩, List.mem_of_getElem? (i := 597) (by decide +kernel), List.mem_of_getElem? (i := 802) (by decide +kernel), List.mem_of_getElem? (i := 803) (by decide +kernel)⟩
theorem lw_p43 : lw_okq (⟨"SureMendingsModel", "pointing", "(I)I"⟩, 20) := ⟨⟨by decide +kernel, by decide +kernel⟩, List.mem_of_getElem? (i := 597) (by decide +kernel), List.mem_of_getElem? (i := 810) (by decide +kernel), List.mem_of_getElem? (i := 811) (by decide +kernel)⟩
theorem lw_p44 : lw_okq (⟨"SureMendingsModel", "asksValue", "(I)V"⟩, 20) := ⟨⟨by decide +kernel, by decide +kernel⟩, List.mem_of_getElem? (i := 597) (by decide +kernel), List.mem_of_getElem? (i := 819) (by decide +kernel), List.mem_of_getElem? (i := 820) (by decide +kernel)⟩
theorem lw_p45 : lw_okq (⟨"SureMendingsModel", "begins", "()V"⟩, 20) := ⟨⟨by decide +kernel, by decide +kernel⟩, List.mem_of_getElem? (i := 597) (by decide +kernel), List.mem_of_getElem? (i := 823) (by decide +kernel), List.mem_of_getElem? (i := 824) (by decide +kernel)⟩
theorem lw_p46 : lw_okq (⟨"SureMendingsModel", "takes", "(I)V"⟩, 20) := ⟨⟨by decide +kernel, by decide +kernel⟩, List.mem_of_getElem? (i := 597) (by decide +kernel), List.mem_of_getElem? (i := 827) (by decide +kernel), List.mem_of_getElem? (i := 828) (by decide +kernel)⟩
theorem lw_p47 : lw_okq (⟨"SureMendingsModel", "kept", "(I)I"⟩, 20) := ⟨⟨by decide +kernel, by decide +kernel⟩, List.mem_of_getElem? (i := 597) (by decide +kernel), List.mem_of_getElem? (i := 831) (by decide +kernel), List.mem_of_getElem? (i := 832) (by decide +kernel)⟩
def lw_privs_3 : List (MethodName × Nat) := [(⟨"SureMendingsModel", "lastOf", "(I)I"⟩, 20), (⟨"SureMendingsModel", "outermost", "(IZ)I"⟩, 20), (⟨"SureMendingsModel", "findsChoices", "()V"⟩, 20), (⟨"SureMendingsModel", "canBeKept", "(I)Z"⟩, 20), (⟨"SureMendingsModel", "mendings", "()I"⟩, 20), (⟨"SureMendingsModel", "fault", "()I"⟩, 20), (⟨"SureMendingsModel", "readsRow", "()Z"⟩, 20), (⟨"SureMendingsModel", "reads", "(III)Z"⟩, 20), (⟨"SureMendingsModel", "isHere", "(II)Z"⟩, 20), (⟨"SureMendingsModel", "takesSign", "(I)Z"⟩, 20), (⟨"SureMendingsModel", "isSure", "(I)Z"⟩, 20), (⟨"SureMendingsModel", "pointing", "(I)I"⟩, 20), (⟨"SureMendingsModel", "asksValue", "(I)V"⟩, 20), (⟨"SureMendingsModel", "begins", "()V"⟩, 20), (⟨"SureMendingsModel", "takes", "(I)V"⟩, 20), (⟨"SureMendingsModel", "kept", "(I)I"⟩, 20)]
theorem lw_r3 : ∀ q ∈ lw_privs_3, lw_okq q := List.forall_mem_cons.mpr ⟨lw_p32, List.forall_mem_cons.mpr ⟨lw_p33, List.forall_mem_cons.mpr ⟨lw_p34, List.forall_mem_cons.mpr ⟨lw_p35, List.forall_mem_cons.mpr ⟨lw_p36, List.forall_mem_cons.mpr ⟨lw_p37, List.forall_mem_cons.mpr ⟨lw_p38, List.forall_mem_cons.mpr ⟨lw_p39, List.forall_mem_cons.mpr ⟨lw_p40, List.forall_mem_cons.mpr ⟨lw_p41, List.forall_mem_cons.mpr ⟨lw_p42, List.forall_mem_cons.mpr ⟨lw_p43, List.forall_mem_cons.mpr ⟨lw_p44, List.forall_mem_cons.mpr ⟨lw_p45, List.forall_mem_cons.mpr ⟨lw_p46, List.forall_mem_cons.mpr ⟨lw_p47, fun _ h => absurd h List.not_mem_nil⟩⟩⟩⟩⟩⟩⟩⟩⟩⟩⟩⟩⟩⟩⟩⟩
theorem lw_p48 : lw_okq (⟨"SureMendingsModel", "counts", "(IZI)V"⟩, 20) := ⟨⟨by decide +kernel, by decide +kernel⟩, List.mem_of_getElem? (i := 597) (by decide +kernel), List.mem_of_getElem? (i := 835) (by decide +kernel), List.mem_of_getElem? (i := 836) (by decide +kernel)⟩
theorem lw_p49 : lw_okq (⟨"SureMendingsModel", "asksWay", "(II)V"⟩, 20) := ⟨⟨by decide +kernel, by decide +kernel⟩, List.mem_of_getElem? (i := 597) (by decide +kernel), List.mem_of_getElem? (i := 843) (by decide +kernel), List.mem_of_getElem? (i := 844) (by decide +kernel)⟩
theorem lw_p50 : lw_okq (⟨"SureMendingsModel", "wayLong", "(II)I"⟩, 20) := ⟨⟨by decide +kernel, by decide +kernel⟩, List.mem_of_getElem? (i := 597) (by decide +kernel), List.mem_of_getElem? (i := 847) (by decide +kernel), List.mem_of_getElem? (i := 848) (by decide +kernel)⟩
theorem lw_p51 : lw_okq (⟨"SureMendingsModel", "weightOf", "()I"⟩, 20) := ⟨⟨by decide +kernel, by decide +kernel⟩, List.mem_of_getElem? (i := 597) (by decide +kernel), List.mem_of_getElem? (i := 860) (by decide +kernel), List.mem_of_getElem? (i := 861) (by decide +kernel)⟩
theorem lw_p52 : lw_okq (⟨"SureMendingsModel", "bestRow", "(II)I"⟩, 20) := ⟨⟨by decide +kernel, by decide +kernel⟩, List.mem_of_getElem? (i := 597) (by decide +kernel), List.mem_of_getElem? (i := 868) (by decide +kernel), List.mem_of_getElem? (i := 869) (by decide +kernel)⟩
theorem lw_p53 : lw_okq (⟨"SureMendingsModel", "isSureWay", "(II)Z"⟩, 20) := ⟨⟨by decide +kernel, by decide +kernel⟩, List.mem_of_getElem? (i := 597) (by decide +kernel), List.mem_of_getElem? (i := 872) (by decide +kernel), List.mem_of_getElem? (i := 873) (by decide +kernel)⟩
theorem lw_p54 : lw_okq (⟨"SureMendingsModel", "keysWith", "(I)I"⟩, 20) := ⟨⟨by decide +kernel, by decide +kernel⟩, List.mem_of_getElem? (i := 597) (by decide +kernel), List.mem_of_getElem? (i := 880) (by decide +kernel), List.mem_of_getElem? (i := 881) (by decide +kernel)⟩
theorem lw_p55 : lw_okq (⟨"SureMendingsModel", "sureRows", "()I"⟩, 20) := ⟨⟨by decide +kernel, by decide +kernel⟩, List.mem_of_getElem? (i := 597) (by decide +kernel), List.mem_of_getElem? (i := 884) (by decide +kernel), List.mem_of_getElem? (i := 885) (by decide +kernel)⟩
theorem lw_p56 : lw_okq (⟨"SureMendingsModel", "values", "(Z)I"⟩, 20) := ⟨⟨by decide +kernel, by decide +kernel⟩, List.mem_of_getElem? (i := 597) (by decide +kernel), List.mem_of_getElem? (i := 888) (by decide +kernel), List.mem_of_getElem? (i := 889) (by decide +kernel)⟩
theorem lw_p57 : lw_okq (⟨"SureMendingsModel", "waysThat", "(Z)I"⟩, 20) := ⟨⟨by decide +kernel, by decide +kernel⟩, List.mem_of_getElem? (i := 597) (by decide +kernel), List.mem_of_getElem? (i := 892) (by decide +kernel), List.mem_of_getElem? (i := 893) (by decide +kernel)⟩
def lw_privs_4 : List (MethodName × Nat) := [(⟨"SureMendingsModel", "counts", "(IZI)V"⟩, 20), (⟨"SureMendingsModel", "asksWay", "(II)V"⟩, 20), (⟨"SureMendingsModel", "wayLong", "(II)I"⟩, 20), (⟨"SureMendingsModel", "weightOf", "()I"⟩, 20), (⟨"SureMendingsModel", "bestRow", "(II)I"⟩, 20), (⟨"SureMendingsModel", "isSureWay", "(II)Z"⟩, 20), (⟨"SureMendingsModel", "keysWith", "(I)I"⟩, 20), (⟨"SureMendingsModel", "sureRows", "()I"⟩, 20), (⟨"SureMendingsModel", "values", "(Z)I"⟩, 20), (⟨"SureMendingsModel", "waysThat", "(Z)I"⟩, 20)]
theorem lw_r4 : ∀ q ∈ lw_privs_4, lw_okq q := List.forall_mem_cons.mpr ⟨lw_p48, List.forall_mem_cons.mpr ⟨lw_p49, List.forall_mem_cons.mpr ⟨lw_p50, List.forall_mem_cons.mpr ⟨lw_p51, List.forall_mem_cons.mpr ⟨lw_p52, List.forall_mem_cons.mpr ⟨lw_p53, List.forall_mem_cons.mpr ⟨lw_p54, List.forall_mem_cons.mpr ⟨lw_p55, List.forall_mem_cons.mpr ⟨lw_p56, List.forall_mem_cons.mpr ⟨lw_p57, fun _ h => absurd h List.not_mem_nil⟩⟩⟩⟩⟩⟩⟩⟩⟩⟩
def lw_privs : List (MethodName × Nat) := lw_privs_1 ++ (lw_privs_2 ++ (lw_privs_3 ++ (lw_privs_4)))
def lw_tbl : List Cond := k2_sels lw_privs ++ tables_1
theorem lw_privs_ok : ∀ q ∈ lw_privs, lw_okq q := by
  show ∀ q ∈ lw_privs_1 ++ (lw_privs_2 ++ (lw_privs_3 ++ (lw_privs_4))), lw_okq q
  exact List.forall_mem_append.mpr ⟨lw_r1, List.forall_mem_append.mpr ⟨lw_r2, List.forall_mem_append.mpr ⟨lw_r3, lw_r4⟩⟩⟩
-- ===== end of PART A; then your names; then what follows =====
/-! ===== BEGIN words of one list among another's, by their places ===== -/
theorem goodIn_r {big : List Cond} (ws : List Cond) (ps : List Nat) (hp : ws = ps.filterMap (fun i => big[i]?)) (h : ws.all goodWord = true) : GoodIn big ws := by
  intro w hw
  have h1 := List.all_eq_true.mp h w hw
  rw [hp] at hw
  obtain ⟨i, -, hi⟩ := List.mem_filterMap.mp hw
  have hm : w ∈ big := by first | exact List.mem_of_getElem? hi | exact List.getElem?_mem hi
  exact ⟨hm, good_of_word h1⟩
theorem goodIn_app {big a b : List Cond} (ha : GoodIn big a) (hb : GoodIn big b) : GoodIn big (a ++ b) := fun w h => (List.mem_append.mp h).elim (ha w) (hb w)
theorem goodIn_ca {big a b : List Cond} {c : Cond} (ha : GoodIn big (c :: a)) (hb : GoodIn big b) : GoodIn big (c :: (a ++ b)) := fun w h => (List.mem_cons.mp h).elim (fun e => ha w (List.mem_cons.mpr (Or.inl e))) (fun h => (List.mem_append.mp h).elim (fun h => ha w (List.mem_cons.mpr (Or.inr h))) (hb w))
theorem goodIn_sub {big ws : List Cond} (hm : ∀ w ∈ ws, w ∈ big) (h : ws.all goodWord = true) : GoodIn big ws := fun w hw => ⟨hm w hw, good_of_word (List.all_eq_true.mp h w hw)⟩
/-! ===== END ===== -/

/-! ===== BEGIN printed: names, fields, word lists, decode rows ===== -/
def RX0 : String := "SureMendings$Choices"
def TX0 : u_T := fun k => match k with
  | 0 => ("SureMendings$Choices", "table", "LSureMendings$Table;", true)
  | 1 => ("SureMendings$Choices", "optionCounts", "[I", true)
  | 2 => ("SureMendings$Choices", "optionRows", "[I", true)
  | 3 => ("SureMendings$Choices", "strides", "[I", true)
  | 4 => ("SureMendings$Choices", "targetSets", "[I", true)
  | _ => ("SureMendings$Choices", "mendings", "I", false)
def tyX0 : Nat → FieldType := fun k => match k with
  | 0 => .object "SureMendings$Table"
  | 1 => .array .int
  | 2 => .array .int
  | 3 => .array .int
  | 4 => .array .int
  | _ => .int
abbrev wsX00 : List Cond := u_ws RX0 TX0 6
theorem nmX0 : ∀ a, a < 6 → ∀ b, b < 6 → a ≠ b → (TX0 a).2.1 ≠ (TX0 b).2.1 := by decide +kernel
theorem tyX0_ok : ∀ k, k < 6 → parseFieldDescriptor (TX0 k).2.2.1 = some (tyX0 k) := by decide +kernel
abbrev cX0_init : ByteArray := prog_2_method_1_code
def yX0_init : MethodName := ⟨RX0, "<init>", "(LSureMendings$Table;)V"⟩
abbrev cX0_update : ByteArray := prog_2_method_2_code
def yX0_update : MethodName := ⟨RX0, "update", "()V"⟩
abbrev cX0_addOption : ByteArray := prog_2_method_3_code
def yX0_addOption : MethodName := ⟨RX0, "addOption", "(II)V"⟩
abbrev cX0_targetBit : ByteArray := prog_2_method_4_code
def yX0_targetBit : MethodName := ⟨RX0, "targetBit", "(I)I"⟩
abbrev cX0_mendings : ByteArray := prog_2_method_5_code
def yX0_mendings : MethodName := ⟨RX0, "mendings", "()I"⟩
abbrev cX0_optionsOf : ByteArray := prog_2_method_6_code
def yX0_optionsOf : MethodName := ⟨RX0, "optionsOf", "(I)I"⟩
abbrev cX0_isThere : ByteArray := prog_2_method_7_code
def yX0_isThere : MethodName := ⟨RX0, "isThere", "(I)Z"⟩
abbrev cX0_option : ByteArray := prog_2_method_8_code
def yX0_option : MethodName := ⟨RX0, "option", "(II)I"⟩
abbrev cX0_rowKeptBy : ByteArray := prog_2_method_9_code
def yX0_rowKeptBy : MethodName := ⟨RX0, "rowKeptBy", "(II)I"⟩
abbrev cX0_isSureRow : ByteArray := prog_2_method_10_code
def yX0_isSureRow : MethodName := ⟨RX0, "isSureRow", "(I)Z"⟩
abbrev cX0_sureRows : ByteArray := prog_2_method_11_code
def yX0_sureRows : MethodName := ⟨RX0, "sureRows", "()I"⟩
abbrev cX0_optionsWith : ByteArray := prog_2_method_12_code
def yX0_optionsWith : MethodName := ⟨RX0, "optionsWith", "(II)I"⟩
abbrev cX0_fewestKeptWith : ByteArray := prog_2_method_13_code
def yX0_fewestKeptWith : MethodName := ⟨RX0, "fewestKeptWith", "(I)I"⟩
abbrev cX0_mostKeptWith : ByteArray := prog_2_method_14_code
def yX0_mostKeptWith : MethodName := ⟨RX0, "mostKeptWith", "(I)I"⟩
abbrev cX0_mendingsWithout : ByteArray := prog_2_method_15_code
def yX0_mendingsWithout : MethodName := ⟨RX0, "mendingsWithout", "(I)I"⟩
abbrev cX0_sureValues : ByteArray := prog_2_method_16_code
def yX0_sureValues : MethodName := ⟨RX0, "sureValues", "()I"⟩
abbrev cX0_possibleValues : ByteArray := prog_2_method_17_code
def yX0_possibleValues : MethodName := ⟨RX0, "possibleValues", "()I"⟩
abbrev cX0_sumKeptBy : ByteArray := prog_2_method_18_code
def yX0_sumKeptBy : MethodName := ⟨RX0, "sumKeptBy", "(I)I"⟩
abbrev cX0_firstLightestMending : ByteArray := prog_2_method_19_code
def yX0_firstLightestMending : MethodName := ⟨RX0, "firstLightestMending", "()I"⟩
abbrev cX0_firstHeaviestMending : ByteArray := prog_2_method_20_code
def yX0_firstHeaviestMending : MethodName := ⟨RX0, "firstHeaviestMending", "()I"⟩
abbrev cX0_firstMendingByWeight : ByteArray := prog_2_method_21_code
def yX0_firstMendingByWeight : MethodName := ⟨RX0, "firstMendingByWeight", "(I)I"⟩
abbrev cX0_optionWeight : ByteArray := prog_2_method_22_code
def yX0_optionWeight : MethodName := ⟨RX0, "optionWeight", "(II)I"⟩
abbrev cX0_holdsIn : ByteArray := prog_2_method_23_code
def yX0_holdsIn : MethodName := ⟨RX0, "holdsIn", "(III)Z"⟩
abbrev cX0_mendingsWithWay : ByteArray := prog_2_method_24_code
def yX0_mendingsWithWay : MethodName := ⟨RX0, "mendingsWithWay", "(II)I"⟩
abbrev cX0_firstMendingWithoutWay : ByteArray := prog_2_method_25_code
def yX0_firstMendingWithoutWay : MethodName := ⟨RX0, "firstMendingWithoutWay", "(II)I"⟩
abbrev cX0_fewestPointers : ByteArray := prog_2_method_26_code
def yX0_fewestPointers : MethodName := ⟨RX0, "fewestPointers", "(II)I"⟩
abbrev cX0_isSureWay : ByteArray := prog_2_method_27_code
def yX0_isSureWay : MethodName := ⟨RX0, "isSureWay", "(II)Z"⟩
abbrev cX0_keysSureToReach : ByteArray := prog_2_method_28_code
def yX0_keysSureToReach : MethodName := ⟨RX0, "keysSureToReach", "(I)I"⟩
abbrev cX0_keysThatCanReach : ByteArray := prog_2_method_29_code
def yX0_keysThatCanReach : MethodName := ⟨RX0, "keysThatCanReach", "(I)I"⟩
abbrev cX0_keysThatCanPointInto : ByteArray := prog_2_method_30_code
def yX0_keysThatCanPointInto : MethodName := ⟨RX0, "keysThatCanPointInto", "(I)I"⟩
abbrev cX0_keysThatMustPointInto : ByteArray := prog_2_method_31_code
def yX0_keysThatMustPointInto : MethodName := ⟨RX0, "keysThatMustPointInto", "(I)I"⟩
abbrev cX0_setOf : ByteArray := prog_2_method_32_code
def yX0_setOf : MethodName := ⟨RX0, "setOf", "(I)I"⟩
abbrev cX0_contains : ByteArray := prog_2_method_33_code
def yX0_contains : MethodName := ⟨RX0, "contains", "(II)Z"⟩
abbrev cX0_sureWays : ByteArray := prog_2_method_34_code
def yX0_sureWays : MethodName := ⟨RX0, "sureWays", "()I"⟩
abbrev cX0_possibleWays : ByteArray := prog_2_method_35_code
def yX0_possibleWays : MethodName := ⟨RX0, "possibleWays", "()I"⟩
abbrev cX0_rowThatMakesSure : ByteArray := prog_2_method_36_code
def yX0_rowThatMakesSure : MethodName := ⟨RX0, "rowThatMakesSure", "(II)I"⟩
abbrev cX0_isSureWayOnceMended : ByteArray := prog_2_method_37_code
def yX0_isSureWayOnceMended : MethodName := ⟨RX0, "isSureWayOnceMended", "(IIII)Z"⟩
def RX1 : String := "SureMendings$History"
def TX1 : u_T := fun k => match k with
  | 0 => ("SureMendings$History", "states", "[LSureMendings$Table;", true)
  | 1 => ("SureMendings$History", "next", "I", false)
  | _ => ("SureMendings$History", "size", "I", false)
def tyX1 : Nat → FieldType := fun k => match k with
  | 0 => .array (.object "SureMendings$Table")
  | 1 => .int
  | _ => .int
abbrev wsX10 : List Cond := u_ws RX1 TX1 3
theorem nmX1 : ∀ a, a < 3 → ∀ b, b < 3 → a ≠ b → (TX1 a).2.1 ≠ (TX1 b).2.1 := by decide +kernel
theorem tyX1_ok : ∀ k, k < 3 → parseFieldDescriptor (TX1 k).2.2.1 = some (tyX1 k) := by decide +kernel
abbrev cX1_init : ByteArray := prog_3_method_1_code
def yX1_init : MethodName := ⟨RX1, "<init>", "()V"⟩
abbrev cX1_size : ByteArray := prog_3_method_2_code
def yX1_size : MethodName := ⟨RX1, "size", "()I"⟩
abbrev cX1_remember : ByteArray := prog_3_method_3_code
def yX1_remember : MethodName := ⟨RX1, "remember", "(LSureMendings$Table;)V"⟩
abbrev cX1_takeBack : ByteArray := prog_3_method_4_code
def yX1_takeBack : MethodName := ⟨RX1, "takeBack", "(LSureMendings$Table;)Z"⟩
abbrev cX1_slotAt : ByteArray := prog_3_method_5_code
def yX1_slotAt : MethodName := ⟨RX1, "slotAt", "(I)LSureMendings$Table;"⟩
def RX2 : String := "SureMendings$Reader"
def TX2 : u_T := fun k => match k with
  | 0 => ("SureMendings$Reader", "text", "LSureMendings$Text;", true)
  | 1 => ("SureMendings$Reader", "rowsRead", "LSureMendings$Table;", true)
  | _ => ("SureMendings$Reader", "position", "I", false)
def tyX2 : Nat → FieldType := fun k => match k with
  | 0 => .object "SureMendings$Text"
  | 1 => .object "SureMendings$Table"
  | _ => .int
abbrev wsX20 : List Cond := u_ws RX2 TX2 3
theorem nmX2 : ∀ a, a < 3 → ∀ b, b < 3 → a ≠ b → (TX2 a).2.1 ≠ (TX2 b).2.1 := by decide +kernel
theorem tyX2_ok : ∀ k, k < 3 → parseFieldDescriptor (TX2 k).2.2.1 = some (tyX2 k) := by decide +kernel
abbrev cX2_init : ByteArray := prog_4_method_1_code
def yX2_init : MethodName := ⟨RX2, "<init>", "(LSureMendings$Text;)V"⟩
abbrev cX2_position : ByteArray := prog_4_method_2_code
def yX2_position : MethodName := ⟨RX2, "position", "()I"⟩
abbrev cX2_rowsRead : ByteArray := prog_4_method_3_code
def yX2_rowsRead : MethodName := ⟨RX2, "rowsRead", "()LSureMendings$Table;"⟩
abbrev cX2_readAll : ByteArray := prog_4_method_4_code
def yX2_readAll : MethodName := ⟨RX2, "readAll", "()Z"⟩
abbrev cX2_readOne : ByteArray := prog_4_method_5_code
def yX2_readOne : MethodName := ⟨RX2, "readOne", "()Z"⟩
abbrev cX2_takeWeight : ByteArray := prog_4_method_6_code
def yX2_takeWeight : MethodName := ⟨RX2, "takeWeight", "()I"⟩
abbrev cX2_take : ByteArray := prog_4_method_7_code
def yX2_take : MethodName := ⟨RX2, "take", "(C)Z"⟩
abbrev cX2_takeBetween : ByteArray := prog_4_method_8_code
def yX2_takeBetween : MethodName := ⟨RX2, "takeBetween", "(CC)I"⟩
def RX3 : String := "SureMendings$Table"
def TX3 : u_T := fun k => match k with
  | 0 => ("SureMendings$Table", "keys", "[I", true)
  | 1 => ("SureMendings$Table", "values", "[I", true)
  | 2 => ("SureMendings$Table", "weights", "[I", true)
  | 3 => ("SureMendings$Table", "targets", "[I", true)
  | 4 => ("SureMendings$Table", "size", "I", false)
  | _ => ("SureMendings$Table", "preferring", "Z", false)
def tyX3 : Nat → FieldType := fun k => match k with
  | 0 => .array .int
  | 1 => .array .int
  | 2 => .array .int
  | 3 => .array .int
  | 4 => .int
  | _ => .boolean
abbrev wsX30 : List Cond := u_ws RX3 TX3 6
theorem nmX3 : ∀ a, a < 6 → ∀ b, b < 6 → a ≠ b → (TX3 a).2.1 ≠ (TX3 b).2.1 := by decide +kernel
theorem tyX3_ok : ∀ k, k < 6 → parseFieldDescriptor (TX3 k).2.2.1 = some (tyX3 k) := by decide +kernel
abbrev cX3_init : ByteArray := prog_5_method_1_code
def yX3_init : MethodName := ⟨RX3, "<init>", "()V"⟩
abbrev cX3_size : ByteArray := prog_5_method_2_code
def yX3_size : MethodName := ⟨RX3, "size", "()I"⟩
abbrev cX3_room : ByteArray := prog_5_method_3_code
def yX3_room : MethodName := ⟨RX3, "room", "()I"⟩
abbrev cX3_has : ByteArray := prog_5_method_4_code
def yX3_has : MethodName := ⟨RX3, "has", "(I)Z"⟩
abbrev cX3_keyAt : ByteArray := prog_5_method_5_code
def yX3_keyAt : MethodName := ⟨RX3, "keyAt", "(I)I"⟩
abbrev cX3_valueAt : ByteArray := prog_5_method_6_code
def yX3_valueAt : MethodName := ⟨RX3, "valueAt", "(I)I"⟩
abbrev cX3_weightAt : ByteArray := prog_5_method_7_code
def yX3_weightAt : MethodName := ⟨RX3, "weightAt", "(I)I"⟩
abbrev cX3_targetAt : ByteArray := prog_5_method_8_code
def yX3_targetAt : MethodName := ⟨RX3, "targetAt", "(I)I"⟩
abbrev cX3_prefersHeaviest : ByteArray := prog_5_method_9_code
def yX3_prefersHeaviest : MethodName := ⟨RX3, "prefersHeaviest", "()Z"⟩
abbrev cX3_setPreference : ByteArray := prog_5_method_10_code
def yX3_setPreference : MethodName := ⟨RX3, "setPreference", "(Z)V"⟩
abbrev cX3_copyFrom : ByteArray := prog_5_method_11_code
def yX3_copyFrom : MethodName := ⟨RX3, "copyFrom", "(LSureMendings$Table;)V"⟩
abbrev cX3_empty : ByteArray := prog_5_method_12_code
def yX3_empty : MethodName := ⟨RX3, "empty", "()V"⟩
abbrev cX3_append : ByteArray := prog_5_method_13_code
def yX3_append : MethodName := ⟨RX3, "append", "(IIII)V"⟩
abbrev cX3_appendAll : ByteArray := prog_5_method_14_code
def yX3_appendAll : MethodName := ⟨RX3, "appendAll", "(LSureMendings$Table;)V"⟩
abbrev cX3_drop : ByteArray := prog_5_method_15_code
def yX3_drop : MethodName := ⟨RX3, "drop", "(I)V"⟩
abbrev cX3_dropOthersLike : ByteArray := prog_5_method_16_code
def yX3_dropOthersLike : MethodName := ⟨RX3, "dropOthersLike", "(I)V"⟩
abbrev cX3_move : ByteArray := prog_5_method_17_code
def yX3_move : MethodName := ⟨RX3, "move", "(II)V"⟩
abbrev cX3_rowsWith : ByteArray := prog_5_method_18_code
def yX3_rowsWith : MethodName := ⟨RX3, "rowsWith", "(I)I"⟩
abbrev cX3_rowsPointingTo : ByteArray := prog_5_method_19_code
def yX3_rowsPointingTo : MethodName := ⟨RX3, "rowsPointingTo", "(I)I"⟩
abbrev cX3_keysThere : ByteArray := prog_5_method_20_code
def yX3_keysThere : MethodName := ⟨RX3, "keysThere", "()I"⟩
abbrev cX3_doubledKeys : ByteArray := prog_5_method_21_code
def yX3_doubledKeys : MethodName := ⟨RX3, "doubledKeys", "()I"⟩
abbrev cX3_keysWithAtLeast : ByteArray := prog_5_method_22_code
def yX3_keysWithAtLeast : MethodName := ⟨RX3, "keysWithAtLeast", "(I)I"⟩
abbrev cX3_firstWith : ByteArray := prog_5_method_23_code
def yX3_firstWith : MethodName := ⟨RX3, "firstWith", "(I)I"⟩
abbrev cX3_lastWith : ByteArray := prog_5_method_24_code
def yX3_lastWith : MethodName := ⟨RX3, "lastWith", "(I)I"⟩
abbrev cX3_lightestWith : ByteArray := prog_5_method_25_code
def yX3_lightestWith : MethodName := ⟨RX3, "lightestWith", "(I)I"⟩
abbrev cX3_heaviestWith : ByteArray := prog_5_method_26_code
def yX3_heaviestWith : MethodName := ⟨RX3, "heaviestWith", "(I)I"⟩
abbrev cX3_canBeKept : ByteArray := prog_5_method_27_code
def yX3_canBeKept : MethodName := ⟨RX3, "canBeKept", "(I)Z"⟩
def RX4 : String := "SureMendings$Text"
def TX4 : u_T := fun k => match k with
  | 0 => ("SureMendings$Text", "characters", "[C", true)
  | _ => ("SureMendings$Text", "length", "I", false)
def tyX4 : Nat → FieldType := fun k => match k with
  | 0 => .array .char
  | _ => .int
abbrev wsX40 : List Cond := u_ws RX4 TX4 2
theorem nmX4 : ∀ a, a < 2 → ∀ b, b < 2 → a ≠ b → (TX4 a).2.1 ≠ (TX4 b).2.1 := by decide +kernel
theorem tyX4_ok : ∀ k, k < 2 → parseFieldDescriptor (TX4 k).2.2.1 = some (tyX4 k) := by decide +kernel
abbrev cX4_init : ByteArray := prog_6_method_1_code
def yX4_init : MethodName := ⟨RX4, "<init>", "()V"⟩
abbrev cX4_length : ByteArray := prog_6_method_2_code
def yX4_length : MethodName := ⟨RX4, "length", "()I"⟩
abbrev cX4_append : ByteArray := prog_6_method_3_code
def yX4_append : MethodName := ⟨RX4, "append", "(C)Z"⟩
abbrev cX4_empty : ByteArray := prog_6_method_4_code
def yX4_empty : MethodName := ⟨RX4, "empty", "()V"⟩
abbrev cX4_characterAt : ByteArray := prog_6_method_5_code
def yX4_characterAt : MethodName := ⟨RX4, "characterAt", "(I)I"⟩
def RX5 : String := "SureMendings"
def TX5 : u_T := fun k => match k with
  | 0 => ("SureMendings", "table", "LSureMendings$Table;", true)
  | 1 => ("SureMendings", "choices", "LSureMendings$Choices;", true)
  | 2 => ("SureMendings", "history", "LSureMendings$History;", true)
  | 3 => ("SureMendings", "snapshot", "LSureMendings$Table;", true)
  | 4 => ("SureMendings", "snapshotTaken", "Z", false)
  | 5 => ("SureMendings", "text", "LSureMendings$Text;", true)
  | _ => ("SureMendings", "reader", "LSureMendings$Reader;", true)
def tyX5 : Nat → FieldType := fun k => match k with
  | 0 => .object "SureMendings$Table"
  | 1 => .object "SureMendings$Choices"
  | 2 => .object "SureMendings$History"
  | 3 => .object "SureMendings$Table"
  | 4 => .boolean
  | 5 => .object "SureMendings$Text"
  | _ => .object "SureMendings$Reader"
abbrev wsX50 : List Cond := u_ws RX5 TX5 7
theorem nmX5 : ∀ a, a < 7 → ∀ b, b < 7 → a ≠ b → (TX5 a).2.1 ≠ (TX5 b).2.1 := by decide +kernel
theorem tyX5_ok : ∀ k, k < 7 → parseFieldDescriptor (TX5 k).2.2.1 = some (tyX5 k) := by decide +kernel
abbrev cX5_init : ByteArray := prog_1_method_1_code
def yX5_init : MethodName := ⟨RX5, "<init>", "()V"⟩
abbrev cX5_add : ByteArray := prog_1_method_2_code
def yX5_add : MethodName := ⟨RX5, "add", "(ICII)I"⟩
abbrev cX5_readRows : ByteArray := prog_1_method_3_code
def yX5_readRows : MethodName := ⟨RX5, "readRows", "()I"⟩
abbrev cX5_remove : ByteArray := prog_1_method_4_code
def yX5_remove : MethodName := ⟨RX5, "remove", "(I)I"⟩
abbrev cX5_mend : ByteArray := prog_1_method_5_code
def yX5_mend : MethodName := ⟨RX5, "mend", "(I)I"⟩
abbrev cX5_mendAll : ByteArray := prog_1_method_6_code
def yX5_mendAll : MethodName := ⟨RX5, "mendAll", "(I)I"⟩
abbrev cX5_prefer : ByteArray := prog_1_method_7_code
def yX5_prefer : MethodName := ⟨RX5, "prefer", "(Z)I"⟩
abbrev cX5_type : ByteArray := prog_1_method_8_code
def yX5_type : MethodName := ⟨RX5, "type", "(C)I"⟩
abbrev cX5_clearText : ByteArray := prog_1_method_9_code
def yX5_clearText : MethodName := ⟨RX5, "clearText", "()I"⟩
abbrev cX5_undo : ByteArray := prog_1_method_10_code
def yX5_undo : MethodName := ⟨RX5, "undo", "()I"⟩
abbrev cX5_keep : ByteArray := prog_1_method_11_code
def yX5_keep : MethodName := ⟨RX5, "keep", "()I"⟩
abbrev cX5_restore : ByteArray := prog_1_method_12_code
def yX5_restore : MethodName := ⟨RX5, "restore", "()I"⟩
abbrev cX5_row : ByteArray := prog_1_method_13_code
def yX5_row : MethodName := ⟨RX5, "row", "(II)I"⟩
abbrev cX5_key : ByteArray := prog_1_method_14_code
def yX5_key : MethodName := ⟨RX5, "key", "(II)I"⟩
abbrev cX5_value : ByteArray := prog_1_method_15_code
def yX5_value : MethodName := ⟨RX5, "value", "(CI)I"⟩
abbrev cX5_way : ByteArray := prog_1_method_16_code
def yX5_way : MethodName := ⟨RX5, "way", "(III)I"⟩
abbrev cX5_kept : ByteArray := prog_1_method_17_code
def yX5_kept : MethodName := ⟨RX5, "kept", "(II)I"⟩
abbrev cX5_sum : ByteArray := prog_1_method_18_code
def yX5_sum : MethodName := ⟨RX5, "sum", "(I)I"⟩
abbrev cX5_bestMended : ByteArray := prog_1_method_19_code
def yX5_bestMended : MethodName := ⟨RX5, "bestMended", "(III)I"⟩
abbrev cX5_count : ByteArray := prog_1_method_20_code
def yX5_count : MethodName := ⟨RX5, "count", "(I)I"⟩
abbrev cX5_choicesNow : ByteArray := prog_1_method_21_code
def yX5_choicesNow : MethodName := ⟨RX5, "choicesNow", "()LSureMendings$Choices;"⟩
abbrev cX5_chosenBy : ByteArray := prog_1_method_22_code
def yX5_chosenBy : MethodName := ⟨RX5, "chosenBy", "(II)I"⟩
abbrev cX5_isKey : ByteArray := prog_1_method_23_code
def yX5_isKey : MethodName := ⟨RX5, "isKey", "(I)Z"⟩
abbrev cX5_isValue : ByteArray := prog_1_method_24_code
def yX5_isValue : MethodName := ⟨RX5, "isValue", "(C)Z"⟩
abbrev cX5_oneIf : ByteArray := prog_1_method_25_code
def yX5_oneIf : MethodName := ⟨RX5, "oneIf", "(Z)I"⟩
abbrev cX5_at : ByteArray := prog_1_method_26_code
def yX5_at : MethodName := ⟨RX5, "at", "([II)I"⟩
abbrev cX5_put : ByteArray := prog_1_method_27_code
def yX5_put : MethodName := ⟨RX5, "put", "([III)V"⟩
abbrev cX5_copy : ByteArray := prog_1_method_28_code
def yX5_copy : MethodName := ⟨RX5, "copy", "([I[I)V"⟩
def RX6 : String := "SureMendingsModel"
def TX6 : u_T := fun k => match k with
  | 0 => ("SureMendingsModel", "all", "[I", true)
  | 1 => ("SureMendingsModel", "saved", "[I", true)
  | 2 => ("SureMendingsModel", "history", "[I", true)
  | 3 => ("SureMendingsModel", "historyLong", "I", false)
  | 4 => ("SureMendingsModel", "snapshot", "[I", true)
  | 5 => ("SureMendingsModel", "isTaken", "I", false)
  | 6 => ("SureMendingsModel", "choices", "[I", true)
  | 7 => ("SureMendingsModel", "many", "[I", true)
  | 8 => ("SureMendingsModel", "kept", "[I", true)
  | 9 => ("SureMendingsModel", "fixed", "I", false)
  | 10 => ("SureMendingsModel", "text", "[I", true)
  | 11 => ("SureMendingsModel", "textLong", "I", false)
  | 12 => ("SureMendingsModel", "spot", "I", false)
  | 13 => ("SureMendingsModel", "read", "[I", true)
  | 14 => ("SureMendingsModel", "readMany", "I", false)
  | 15 => ("SureMendingsModel", "holding", "I", false)
  | 16 => ("SureMendingsModel", "fewest", "I", false)
  | 17 => ("SureMendingsModel", "most", "I", false)
  | 18 => ("SureMendingsModel", "failing", "I", false)
  | _ => ("SureMendingsModel", "ways", "[I", true)
def tyX6 : Nat → FieldType := fun k => match k with
  | 0 => .array .int
  | 1 => .array .int
  | 2 => .array .int
  | 3 => .int
  | 4 => .array .int
  | 5 => .int
  | 6 => .array .int
  | 7 => .array .int
  | 8 => .array .int
  | 9 => .int
  | 10 => .array .int
  | 11 => .int
  | 12 => .int
  | 13 => .array .int
  | 14 => .int
  | 15 => .int
  | 16 => .int
  | 17 => .int
  | 18 => .int
  | _ => .array .int
abbrev wsX60 : List Cond := u_ws RX6 TX6 20
theorem nmX6 : ∀ a, a < 20 → ∀ b, b < 20 → a ≠ b → (TX6 a).2.1 ≠ (TX6 b).2.1 := by decide +kernel
theorem tyX6_ok : ∀ k, k < 20 → parseFieldDescriptor (TX6 k).2.2.1 = some (tyX6 k) := by decide +kernel
abbrev cX6_init : ByteArray := prog_8_method_1_code
def yX6_init : MethodName := ⟨RX6, "<init>", "()V"⟩
abbrev cX6_in : ByteArray := prog_8_method_3_code
def yX6_in : MethodName := ⟨RX6, "in", "(JJJ)Z"⟩
abbrev cX6_remember : ByteArray := prog_8_method_4_code
def yX6_remember : MethodName := ⟨RX6, "remember", "()V"⟩
abbrev cX6_acted : ByteArray := prog_8_method_5_code
def yX6_acted : MethodName := ⟨RX6, "acted", "(I)I"⟩
abbrev cX6_of : ByteArray := prog_8_method_6_code
def yX6_of : MethodName := ⟨RX6, "of", "(II)I"⟩
abbrev cX6_isRow : ByteArray := prog_8_method_7_code
def yX6_isRow : MethodName := ⟨RX6, "isRow", "(I)Z"⟩
abbrev cX6_isKey : ByteArray := prog_8_method_8_code
def yX6_isKey : MethodName := ⟨RX6, "isKey", "(I)Z"⟩
abbrev cX6_rowsOf : ByteArray := prog_8_method_9_code
def yX6_rowsOf : MethodName := ⟨RX6, "rowsOf", "(I)I"⟩
abbrev cX6_outermost : ByteArray := prog_8_method_10_code
def yX6_outermost : MethodName := ⟨RX6, "outermost", "(IZ)I"⟩
abbrev cX6_canBeKept : ByteArray := prog_8_method_11_code
def yX6_canBeKept : MethodName := ⟨RX6, "canBeKept", "(I)Z"⟩
abbrev cX6_puts : ByteArray := prog_8_method_12_code
def yX6_puts : MethodName := ⟨RX6, "puts", "(IIII)V"⟩
abbrev cX6_takesOut : ByteArray := prog_8_method_13_code
def yX6_takesOut : MethodName := ⟨RX6, "takesOut", "(I)V"⟩
abbrev cX6_mends : ByteArray := prog_8_method_14_code
def yX6_mends : MethodName := ⟨RX6, "mends", "(I)I"⟩
abbrev cX6_findsChoices : ByteArray := prog_8_method_15_code
def yX6_findsChoices : MethodName := ⟨RX6, "findsChoices", "()V"⟩
abbrev cX6_mendings : ByteArray := prog_8_method_16_code
def yX6_mendings : MethodName := ⟨RX6, "mendings", "()I"⟩
abbrev cX6_takes : ByteArray := prog_8_method_17_code
def yX6_takes : MethodName := ⟨RX6, "takes", "(I)V"⟩
abbrev cX6_wayLong : ByteArray := prog_8_method_18_code
def yX6_wayLong : MethodName := ⟨RX6, "wayLong", "(II)I"⟩
abbrev cX6_kept : ByteArray := prog_8_method_19_code
def yX6_kept : MethodName := ⟨RX6, "kept", "(I)I"⟩
abbrev cX6_isValue : ByteArray := prog_8_method_20_code
def yX6_isValue : MethodName := ⟨RX6, "isValue", "(I)Z"⟩
abbrev cX6_add : ByteArray := prog_8_method_21_code
def yX6_add : MethodName := ⟨RX6, "add", "(ICII)I"⟩
abbrev cX6_remove : ByteArray := prog_8_method_22_code
def yX6_remove : MethodName := ⟨RX6, "remove", "(I)I"⟩
abbrev cX6_mend : ByteArray := prog_8_method_23_code
def yX6_mend : MethodName := ⟨RX6, "mend", "(I)I"⟩
abbrev cX6_lastOf : ByteArray := prog_8_method_24_code
def yX6_lastOf : MethodName := ⟨RX6, "lastOf", "(I)I"⟩
abbrev cX6_firstOf : ByteArray := prog_8_method_25_code
def yX6_firstOf : MethodName := ⟨RX6, "firstOf", "(I)I"⟩
abbrev cX6_mendAll : ByteArray := prog_8_method_26_code
def yX6_mendAll : MethodName := ⟨RX6, "mendAll", "(I)I"⟩
abbrev cX6_prefer : ByteArray := prog_8_method_27_code
def yX6_prefer : MethodName := ⟨RX6, "prefer", "(Z)I"⟩
abbrev cX6_type : ByteArray := prog_8_method_28_code
def yX6_type : MethodName := ⟨RX6, "type", "(C)I"⟩
abbrev cX6_clearText : ByteArray := prog_8_method_29_code
def yX6_clearText : MethodName := ⟨RX6, "clearText", "()I"⟩
abbrev cX6_isHere : ByteArray := prog_8_method_30_code
def yX6_isHere : MethodName := ⟨RX6, "isHere", "(II)Z"⟩
abbrev cX6_takesSign : ByteArray := prog_8_method_31_code
def yX6_takesSign : MethodName := ⟨RX6, "takesSign", "(I)Z"⟩
abbrev cX6_reads : ByteArray := prog_8_method_32_code
def yX6_reads : MethodName := ⟨RX6, "reads", "(III)Z"⟩
abbrev cX6_readsRow : ByteArray := prog_8_method_33_code
def yX6_readsRow : MethodName := ⟨RX6, "readsRow", "()Z"⟩
abbrev cX6_fault : ByteArray := prog_8_method_34_code
def yX6_fault : MethodName := ⟨RX6, "fault", "()I"⟩
abbrev cX6_readRows : ByteArray := prog_8_method_35_code
def yX6_readRows : MethodName := ⟨RX6, "readRows", "()I"⟩
abbrev cX6_undo : ByteArray := prog_8_method_36_code
def yX6_undo : MethodName := ⟨RX6, "undo", "()I"⟩
abbrev cX6_keep : ByteArray := prog_8_method_37_code
def yX6_keep : MethodName := ⟨RX6, "keep", "()I"⟩
abbrev cX6_restore : ByteArray := prog_8_method_38_code
def yX6_restore : MethodName := ⟨RX6, "restore", "()I"⟩
abbrev cX6_isSure : ByteArray := prog_8_method_39_code
def yX6_isSure : MethodName := ⟨RX6, "isSure", "(I)Z"⟩
abbrev cX6_row : ByteArray := prog_8_method_40_code
def yX6_row : MethodName := ⟨RX6, "row", "(II)I"⟩
abbrev cX6_pointing : ByteArray := prog_8_method_41_code
def yX6_pointing : MethodName := ⟨RX6, "pointing", "(I)I"⟩
abbrev cX6_key : ByteArray := prog_8_method_42_code
def yX6_key : MethodName := ⟨RX6, "key", "(II)I"⟩
abbrev cX6_begins : ByteArray := prog_8_method_43_code
def yX6_begins : MethodName := ⟨RX6, "begins", "()V"⟩
abbrev cX6_counts : ByteArray := prog_8_method_44_code
def yX6_counts : MethodName := ⟨RX6, "counts", "(IZI)V"⟩
abbrev cX6_asksValue : ByteArray := prog_8_method_45_code
def yX6_asksValue : MethodName := ⟨RX6, "asksValue", "(I)V"⟩
abbrev cX6_asksWay : ByteArray := prog_8_method_46_code
def yX6_asksWay : MethodName := ⟨RX6, "asksWay", "(II)V"⟩
abbrev cX6_value : ByteArray := prog_8_method_47_code
def yX6_value : MethodName := ⟨RX6, "value", "(CI)I"⟩
abbrev cX6_way : ByteArray := prog_8_method_48_code
def yX6_way : MethodName := ⟨RX6, "way", "(III)I"⟩
abbrev cX6_kept_ : ByteArray := prog_8_method_49_code
def yX6_kept_ : MethodName := ⟨RX6, "kept", "(II)I"⟩
abbrev cX6_weightOf : ByteArray := prog_8_method_50_code
def yX6_weightOf : MethodName := ⟨RX6, "weightOf", "()I"⟩
abbrev cX6_sum : ByteArray := prog_8_method_51_code
def yX6_sum : MethodName := ⟨RX6, "sum", "(I)I"⟩
abbrev cX6_isSureWay : ByteArray := prog_8_method_52_code
def yX6_isSureWay : MethodName := ⟨RX6, "isSureWay", "(II)Z"⟩
abbrev cX6_bestRow : ByteArray := prog_8_method_53_code
def yX6_bestRow : MethodName := ⟨RX6, "bestRow", "(II)I"⟩
abbrev cX6_bestMended : ByteArray := prog_8_method_54_code
def yX6_bestMended : MethodName := ⟨RX6, "bestMended", "(III)I"⟩
abbrev cX6_keysWith : ByteArray := prog_8_method_55_code
def yX6_keysWith : MethodName := ⟨RX6, "keysWith", "(I)I"⟩
abbrev cX6_sureRows : ByteArray := prog_8_method_56_code
def yX6_sureRows : MethodName := ⟨RX6, "sureRows", "()I"⟩
abbrev cX6_values : ByteArray := prog_8_method_57_code
def yX6_values : MethodName := ⟨RX6, "values", "(Z)I"⟩
abbrev cX6_waysThat : ByteArray := prog_8_method_58_code
def yX6_waysThat : MethodName := ⟨RX6, "waysThat", "(Z)I"⟩
abbrev cX6_count : ByteArray := prog_8_method_59_code
def yX6_count : MethodName := ⟨RX6, "count", "(I)I"⟩
def RJ6 : String := "java/lang/Integer"
def TJ6 : u_T := fun k => match k with
  | _ => ("", "", "", false)
def tyJ6 : Nat → FieldType := fun k => match k with
  | _ => .int
abbrev wsJ60 : List Cond := u_ws RJ6 TJ6 0
theorem nmJ6 : ∀ a, a < 0 → ∀ b, b < 0 → a ≠ b → (TJ6 a).2.1 ≠ (TJ6 b).2.1 := by decide +kernel
theorem tyJ6_ok : ∀ k, k < 0 → parseFieldDescriptor (TJ6 k).2.2.1 = some (tyJ6 k) := by decide +kernel
abbrev cJ6_bitCount_0f7a4 : ByteArray := prog_9_method_49_code
def yJ6_bitCount_0f7a4 : MethodName := ⟨RJ6, "bitCount", "(I)I"⟩
def RJ9 : String := "java/lang/Math"
def TJ9 : u_T := fun k => match k with
  | _ => ("", "", "", false)
def tyJ9 : Nat → FieldType := fun k => match k with
  | _ => .int
abbrev wsJ90 : List Cond := u_ws RJ9 TJ9 0
theorem nmJ9 : ∀ a, a < 0 → ∀ b, b < 0 → a ≠ b → (TJ9 a).2.1 ≠ (TJ9 b).2.1 := by decide +kernel
theorem tyJ9_ok : ∀ k, k < 0 → parseFieldDescriptor (TJ9 k).2.2.1 = some (tyJ9 k) := by decide +kernel
abbrev cJ9_min_7cf53 : ByteArray := prog_10_method_69_code
def yJ9_min_7cf53 : MethodName := ⟨RJ9, "min", "(II)I"⟩
def RJ10 : String := "java/lang/System"
def TJ10 : u_T := fun k => match k with
  | _ => ("", "", "", false)
def tyJ10 : Nat → FieldType := fun k => match k with
  | _ => .int
abbrev wsJ100 : List Cond := u_ws RJ10 TJ10 0
theorem nmJ10 : ∀ a, a < 0 → ∀ b, b < 0 → a ≠ b → (TJ10 a).2.1 ≠ (TJ10 b).2.1 := by decide +kernel
theorem tyJ10_ok : ∀ k, k < 0 → parseFieldDescriptor (TJ10 k).2.2.1 = some (tyJ10 k) := by decide +kernel
def RJ7 : String := "java/util/Arrays"
def TJ7 : u_T := fun k => match k with
  | _ => ("", "", "", false)
def tyJ7 : Nat → FieldType := fun k => match k with
  | _ => .int
abbrev wsJ70 : List Cond := u_ws RJ7 TJ7 0
theorem nmJ7 : ∀ a, a < 0 → ∀ b, b < 0 → a ≠ b → (TJ7 a).2.1 ≠ (TJ7 b).2.1 := by decide +kernel
theorem tyJ7_ok : ∀ k, k < 0 → parseFieldDescriptor (TJ7 k).2.2.1 = some (tyJ7 k) := by decide +kernel
abbrev cJ7_fill_53178 : ByteArray := prog_12_method_103_code
def yJ7_fill_53178 : MethodName := ⟨RJ7, "fill", "([II)V"⟩
def RL : String := "SureMendingsLaw"
abbrev cL_law : ByteArray := code
def yL_law : MethodName := ⟨RL, "law", "([I)Z"⟩
def wsX0_init : List Cond := .code yX0_init cX0_init 2 none :: ([.methodLink RX0 3 objectInit, .instanceMethod objectInit, .code objectInit ⟨#[0xb1]⟩ 1 none, .arrayClass .int, .fieldLink RX0 9 "SureMendings$Choices" "optionCounts" "[I", .fieldLink RX0 15 "SureMendings$Choices" "optionRows" "[I", .fieldLink RX0 18 "SureMendings$Choices" "strides" "[I", .fieldLink RX0 21 "SureMendings$Choices" "targetSets" "[I", .fieldLink RX0 24 "SureMendings$Choices" "table" "LSureMendings$Table;"] ++ wsX00)
def wsJ7_fill_53178 : List Cond := .code yJ7_fill_53178 cJ7_fill_53178 4 none :: ([])
def wsX3_size : List Cond := .code yX3_size cX3_size 1 (some .int) :: ([.fieldLink RX3 24 "SureMendings$Table" "size" "I"] ++ wsX30)
def wsX5_at : List Cond := .code yX5_at cX5_at 2 (some .int) :: ([])
def wsX3_weightAt : List Cond := .code yX3_weightAt cX3_weightAt 2 (some .int) :: ([.fieldLink RX3 18 "SureMendings$Table" "weights" "[I", .static yX5_at, .initialized RX5, .code yX5_at cX5_at 2 (some .int)] ++ wsX30)
def wsX3_keyAt : List Cond := .code yX3_keyAt cX3_keyAt 2 (some .int) :: ([.fieldLink RX3 9 "SureMendings$Table" "keys" "[I", .static yX5_at, .initialized RX5, .code yX5_at cX5_at 2 (some .int)] ++ wsX30)
def wsX3_heaviestWith : List Cond := .code yX3_heaviestWith cX3_heaviestWith 4 (some .int) :: ([.fieldLink RX3 24 "SureMendings$Table" "size" "I", .methodLink RX3 48 yX3_keyAt, .instanceMethod yX3_keyAt, .selects RX3 yX3_keyAt yX3_keyAt, .initialized RX3, .code yX3_keyAt cX3_keyAt 2 (some .int), .fieldLink RX3 9 "SureMendings$Table" "keys" "[I", .static yX5_at, .initialized RX5, .code yX5_at cX5_at 2 (some .int), .methodLink RX3 55 yX3_weightAt, .instanceMethod yX3_weightAt, .selects RX3 yX3_weightAt yX3_weightAt, .code yX3_weightAt cX3_weightAt 2 (some .int), .fieldLink RX3 18 "SureMendings$Table" "weights" "[I"] ++ wsX30)
def wsX3_canBeKept : List Cond := .code yX3_canBeKept cX3_canBeKept 2 (some .boolean) :: ([.fieldLink RX3 32 "SureMendings$Table" "preferring" "Z", .methodLink RX3 55 yX3_weightAt, .instanceMethod yX3_weightAt, .selects RX3 yX3_weightAt yX3_weightAt, .initialized RX3, .code yX3_weightAt cX3_weightAt 2 (some .int), .fieldLink RX3 18 "SureMendings$Table" "weights" "[I", .static yX5_at, .initialized RX5, .code yX5_at cX5_at 2 (some .int), .methodLink RX3 48 yX3_keyAt, .instanceMethod yX3_keyAt, .selects RX3 yX3_keyAt yX3_keyAt, .code yX3_keyAt cX3_keyAt 2 (some .int), .fieldLink RX3 9 "SureMendings$Table" "keys" "[I", .methodLink RX3 79 yX3_heaviestWith, .instanceMethod yX3_heaviestWith, .selects RX3 yX3_heaviestWith yX3_heaviestWith, .code yX3_heaviestWith cX3_heaviestWith 4 (some .int), .fieldLink RX3 24 "SureMendings$Table" "size" "I"] ++ wsX30)
def wsX0_optionsOf : List Cond := .code yX0_optionsOf cX0_optionsOf 2 (some .int) :: ([.fieldLink RX0 9 "SureMendings$Choices" "optionCounts" "[I", .static yX5_at, .initialized RX5, .code yX5_at cX5_at 2 (some .int)] ++ wsX00)
def wsX5_put : List Cond := .code yX5_put cX5_put 3 none :: ([])
def wsX3_targetAt : List Cond := .code yX3_targetAt cX3_targetAt 2 (some .int) :: ([.fieldLink RX3 21 "SureMendings$Table" "targets" "[I", .static yX5_at, .initialized RX5, .code yX5_at cX5_at 2 (some .int)] ++ wsX30)
def wsX5_isKey : List Cond := .code yX5_isKey cX5_isKey 1 (some .boolean) :: ([])
def wsX0_targetBit : List Cond := .code yX0_targetBit cX0_targetBit 3 (some .int) :: ([.fieldLink RX0 24 "SureMendings$Choices" "table" "LSureMendings$Table;", .methodLink RX0 73 yX3_targetAt, .instanceMethod yX3_targetAt, .selects RX3 yX3_targetAt yX3_targetAt, .initialized RX3, .code yX3_targetAt cX3_targetAt 2 (some .int), .fieldLink RX3 21 "SureMendings$Table" "targets" "[I", .static yX5_at, .initialized RX5, .code yX5_at cX5_at 2 (some .int), .static yX5_isKey, .code yX5_isKey cX5_isKey 1 (some .boolean)] ++ wsX00 ++ wsX30)
def wsX0_addOption_r1 : List Cond := [Cond.fieldLink RX0 15 "SureMendings$Choices" "optionRows" "[I", Cond.fieldLink RX0 9 "SureMendings$Choices" "optionCounts" "[I", Cond.fieldLink RX0 21 "SureMendings$Choices" "targetSets" "[I", Cond.methodLink RX0 63 yX0_optionsOf, Cond.instanceMethod yX0_optionsOf, Cond.selects RX0 yX0_optionsOf yX0_optionsOf, Cond.initialized RX0, Cond.code yX0_optionsOf cX0_optionsOf 2 (some .int), Cond.static yX5_at, Cond.initialized RX5, Cond.code yX5_at cX5_at 2 (some .int), Cond.static yX5_put, Cond.code yX5_put cX5_put 3 none, Cond.methodLink RX0 70 yX0_targetBit, Cond.instanceMethod yX0_targetBit, Cond.selects RX0 yX0_targetBit yX0_targetBit, Cond.code yX0_targetBit cX0_targetBit 3 (some .int), Cond.fieldLink RX0 24 "SureMendings$Choices" "table" "LSureMendings$Table;", Cond.methodLink RX0 73 yX3_targetAt, Cond.instanceMethod yX3_targetAt, Cond.selects RX3 yX3_targetAt yX3_targetAt, Cond.initialized RX3, Cond.code yX3_targetAt cX3_targetAt 2 (some .int), Cond.fieldLink RX3 21 "SureMendings$Table" "targets" "[I"]
def wsX0_addOption_r2 : List Cond := [Cond.static yX5_isKey, Cond.code yX5_isKey cX5_isKey 1 (some .boolean)]
def wsX0_addOption : List Cond := .code yX0_addOption cX0_addOption 4 none :: ((wsX0_addOption_r1 ++ wsX0_addOption_r2) ++ wsX00 ++ wsX30)
def wsX0_isThere : List Cond := .code yX0_isThere cX0_isThere 2 (some .boolean) :: ([.methodLink RX0 63 yX0_optionsOf, .instanceMethod yX0_optionsOf, .selects RX0 yX0_optionsOf yX0_optionsOf, .initialized RX0, .code yX0_optionsOf cX0_optionsOf 2 (some .int), .fieldLink RX0 9 "SureMendings$Choices" "optionCounts" "[I", .static yX5_at, .initialized RX5, .code yX5_at cX5_at 2 (some .int)] ++ wsX00)
def wsX0_update_r1 : List Cond := [Cond.fieldLink RX0 9 "SureMendings$Choices" "optionCounts" "[I", Cond.fieldLink RX0 21 "SureMendings$Choices" "targetSets" "[I", Cond.fieldLink RX0 24 "SureMendings$Choices" "table" "LSureMendings$Table;", Cond.fieldLink RX0 52 "SureMendings$Choices" "mendings" "I", Cond.fieldLink RX0 18 "SureMendings$Choices" "strides" "[I", Cond.methodLink RX0 28 yJ7_fill_53178, Cond.static yJ7_fill_53178, Cond.initialized RJ7, Cond.code yJ7_fill_53178 cJ7_fill_53178 4 none, Cond.methodLink RX0 34 yX3_size, Cond.instanceMethod yX3_size, Cond.selects RX3 yX3_size yX3_size, Cond.initialized RX3, Cond.code yX3_size cX3_size 1 (some .int), Cond.fieldLink RX3 24 "SureMendings$Table" "size" "I", Cond.methodLink RX0 40 yX3_canBeKept, Cond.instanceMethod yX3_canBeKept, Cond.selects RX3 yX3_canBeKept yX3_canBeKept, Cond.code yX3_canBeKept cX3_canBeKept 2 (some .boolean), Cond.fieldLink RX3 32 "SureMendings$Table" "preferring" "Z", Cond.methodLink RX3 55 yX3_weightAt, Cond.instanceMethod yX3_weightAt, Cond.selects RX3 yX3_weightAt yX3_weightAt, Cond.code yX3_weightAt cX3_weightAt 2 (some .int)]
def wsX0_update_r2 : List Cond := [Cond.fieldLink RX3 18 "SureMendings$Table" "weights" "[I", Cond.static yX5_at, Cond.initialized RX5, Cond.code yX5_at cX5_at 2 (some .int), Cond.methodLink RX3 48 yX3_keyAt, Cond.instanceMethod yX3_keyAt, Cond.selects RX3 yX3_keyAt yX3_keyAt, Cond.code yX3_keyAt cX3_keyAt 2 (some .int), Cond.fieldLink RX3 9 "SureMendings$Table" "keys" "[I", Cond.methodLink RX3 79 yX3_heaviestWith, Cond.instanceMethod yX3_heaviestWith, Cond.selects RX3 yX3_heaviestWith yX3_heaviestWith, Cond.code yX3_heaviestWith cX3_heaviestWith 4 (some .int), Cond.methodLink RX0 44 yX3_keyAt, Cond.methodLink RX0 48 yX0_addOption, Cond.instanceMethod yX0_addOption, Cond.selects RX0 yX0_addOption yX0_addOption, Cond.initialized RX0, Cond.code yX0_addOption cX0_addOption 4 none, Cond.fieldLink RX0 15 "SureMendings$Choices" "optionRows" "[I", Cond.methodLink RX0 63 yX0_optionsOf, Cond.instanceMethod yX0_optionsOf, Cond.selects RX0 yX0_optionsOf yX0_optionsOf, Cond.code yX0_optionsOf cX0_optionsOf 2 (some .int)]
def wsX0_update_r3 : List Cond := [Cond.static yX5_put, Cond.code yX5_put cX5_put 3 none, Cond.methodLink RX0 70 yX0_targetBit, Cond.instanceMethod yX0_targetBit, Cond.selects RX0 yX0_targetBit yX0_targetBit, Cond.code yX0_targetBit cX0_targetBit 3 (some .int), Cond.methodLink RX0 73 yX3_targetAt, Cond.instanceMethod yX3_targetAt, Cond.selects RX3 yX3_targetAt yX3_targetAt, Cond.code yX3_targetAt cX3_targetAt 2 (some .int), Cond.fieldLink RX3 21 "SureMendings$Table" "targets" "[I", Cond.static yX5_isKey, Cond.code yX5_isKey cX5_isKey 1 (some .boolean), Cond.methodLink RX0 60 yX0_isThere, Cond.instanceMethod yX0_isThere, Cond.selects RX0 yX0_isThere yX0_isThere, Cond.code yX0_isThere cX0_isThere 2 (some .boolean)]
def wsX0_update : List Cond := .code yX0_update cX0_update 2 none :: ((wsX0_update_r1 ++ (wsX0_update_r2 ++ wsX0_update_r3)) ++ wsX00 ++ wsX30)
def wsX0_mendings : List Cond := .code yX0_mendings cX0_mendings 1 (some .int) :: ([.fieldLink RX0 52 "SureMendings$Choices" "mendings" "I"] ++ wsX00)
def wsX0_option : List Cond := .code yX0_option cX0_option 3 (some .int) :: ([.fieldLink RX0 15 "SureMendings$Choices" "optionRows" "[I", .static yX5_at, .initialized RX5, .code yX5_at cX5_at 2 (some .int)] ++ wsX00)
def wsX0_rowKeptBy : List Cond := .code yX0_rowKeptBy cX0_rowKeptBy 5 (some .int) :: ([.fieldLink RX0 18 "SureMendings$Choices" "strides" "[I", .methodLink RX0 63 yX0_optionsOf, .instanceMethod yX0_optionsOf, .selects RX0 yX0_optionsOf yX0_optionsOf, .initialized RX0, .code yX0_optionsOf cX0_optionsOf 2 (some .int), .fieldLink RX0 9 "SureMendings$Choices" "optionCounts" "[I", .static yX5_at, .initialized RX5, .code yX5_at cX5_at 2 (some .int), .methodLink RX0 79 yX0_option, .instanceMethod yX0_option, .selects RX0 yX0_option yX0_option, .code yX0_option cX0_option 3 (some .int), .fieldLink RX0 15 "SureMendings$Choices" "optionRows" "[I"] ++ wsX00)
def wsX0_isSureRow_r1 : List Cond := [Cond.fieldLink RX0 24 "SureMendings$Choices" "table" "LSureMendings$Table;", Cond.methodLink RX0 40 yX3_canBeKept, Cond.instanceMethod yX3_canBeKept, Cond.selects RX3 yX3_canBeKept yX3_canBeKept, Cond.initialized RX3, Cond.code yX3_canBeKept cX3_canBeKept 2 (some .boolean), Cond.fieldLink RX3 32 "SureMendings$Table" "preferring" "Z", Cond.methodLink RX3 55 yX3_weightAt, Cond.instanceMethod yX3_weightAt, Cond.selects RX3 yX3_weightAt yX3_weightAt, Cond.code yX3_weightAt cX3_weightAt 2 (some .int), Cond.fieldLink RX3 18 "SureMendings$Table" "weights" "[I", Cond.static yX5_at, Cond.initialized RX5, Cond.code yX5_at cX5_at 2 (some .int), Cond.methodLink RX3 48 yX3_keyAt, Cond.instanceMethod yX3_keyAt, Cond.selects RX3 yX3_keyAt yX3_keyAt, Cond.code yX3_keyAt cX3_keyAt 2 (some .int), Cond.fieldLink RX3 9 "SureMendings$Table" "keys" "[I", Cond.methodLink RX3 79 yX3_heaviestWith, Cond.instanceMethod yX3_heaviestWith, Cond.selects RX3 yX3_heaviestWith yX3_heaviestWith, Cond.code yX3_heaviestWith cX3_heaviestWith 4 (some .int)]
def wsX0_isSureRow_r2 : List Cond := [Cond.fieldLink RX3 24 "SureMendings$Table" "size" "I", Cond.methodLink RX0 44 yX3_keyAt, Cond.methodLink RX0 63 yX0_optionsOf, Cond.instanceMethod yX0_optionsOf, Cond.selects RX0 yX0_optionsOf yX0_optionsOf, Cond.initialized RX0, Cond.code yX0_optionsOf cX0_optionsOf 2 (some .int), Cond.fieldLink RX0 9 "SureMendings$Choices" "optionCounts" "[I"]
def wsX0_isSureRow : List Cond := .code yX0_isSureRow cX0_isSureRow 2 (some .boolean) :: ((wsX0_isSureRow_r1 ++ wsX0_isSureRow_r2) ++ wsX00 ++ wsX30)
def wsX0_sureRows_r1 : List Cond := [Cond.fieldLink RX0 24 "SureMendings$Choices" "table" "LSureMendings$Table;", Cond.methodLink RX0 34 yX3_size, Cond.instanceMethod yX3_size, Cond.selects RX3 yX3_size yX3_size, Cond.initialized RX3, Cond.code yX3_size cX3_size 1 (some .int), Cond.fieldLink RX3 24 "SureMendings$Table" "size" "I", Cond.methodLink RX0 83 yX0_isSureRow, Cond.instanceMethod yX0_isSureRow, Cond.selects RX0 yX0_isSureRow yX0_isSureRow, Cond.initialized RX0, Cond.code yX0_isSureRow cX0_isSureRow 2 (some .boolean), Cond.methodLink RX0 40 yX3_canBeKept, Cond.instanceMethod yX3_canBeKept, Cond.selects RX3 yX3_canBeKept yX3_canBeKept, Cond.code yX3_canBeKept cX3_canBeKept 2 (some .boolean), Cond.fieldLink RX3 32 "SureMendings$Table" "preferring" "Z", Cond.methodLink RX3 55 yX3_weightAt, Cond.instanceMethod yX3_weightAt, Cond.selects RX3 yX3_weightAt yX3_weightAt, Cond.code yX3_weightAt cX3_weightAt 2 (some .int), Cond.fieldLink RX3 18 "SureMendings$Table" "weights" "[I", Cond.static yX5_at, Cond.initialized RX5]
def wsX0_sureRows_r2 : List Cond := [Cond.code yX5_at cX5_at 2 (some .int), Cond.methodLink RX3 48 yX3_keyAt, Cond.instanceMethod yX3_keyAt, Cond.selects RX3 yX3_keyAt yX3_keyAt, Cond.code yX3_keyAt cX3_keyAt 2 (some .int), Cond.fieldLink RX3 9 "SureMendings$Table" "keys" "[I", Cond.methodLink RX3 79 yX3_heaviestWith, Cond.instanceMethod yX3_heaviestWith, Cond.selects RX3 yX3_heaviestWith yX3_heaviestWith, Cond.code yX3_heaviestWith cX3_heaviestWith 4 (some .int), Cond.methodLink RX0 44 yX3_keyAt, Cond.methodLink RX0 63 yX0_optionsOf, Cond.instanceMethod yX0_optionsOf, Cond.selects RX0 yX0_optionsOf yX0_optionsOf, Cond.code yX0_optionsOf cX0_optionsOf 2 (some .int), Cond.fieldLink RX0 9 "SureMendings$Choices" "optionCounts" "[I"]
def wsX0_sureRows : List Cond := .code yX0_sureRows cX0_sureRows 3 (some .int) :: ((wsX0_sureRows_r1 ++ wsX0_sureRows_r2) ++ wsX00 ++ wsX30)
def wsX3_valueAt : List Cond := .code yX3_valueAt cX3_valueAt 2 (some .int) :: ([.fieldLink RX3 15 "SureMendings$Table" "values" "[I", .static yX5_at, .initialized RX5, .code yX5_at cX5_at 2 (some .int)] ++ wsX30)
def wsX0_optionsWith : List Cond := .code yX0_optionsWith cX0_optionsWith 5 (some .int) :: ([.fieldLink RX0 24 "SureMendings$Choices" "table" "LSureMendings$Table;", .methodLink RX0 63 yX0_optionsOf, .instanceMethod yX0_optionsOf, .selects RX0 yX0_optionsOf yX0_optionsOf, .initialized RX0, .code yX0_optionsOf cX0_optionsOf 2 (some .int), .fieldLink RX0 9 "SureMendings$Choices" "optionCounts" "[I", .static yX5_at, .initialized RX5, .code yX5_at cX5_at 2 (some .int), .methodLink RX0 79 yX0_option, .instanceMethod yX0_option, .selects RX0 yX0_option yX0_option, .code yX0_option cX0_option 3 (some .int), .fieldLink RX0 15 "SureMendings$Choices" "optionRows" "[I", .methodLink RX0 86 yX3_valueAt, .instanceMethod yX3_valueAt, .selects RX3 yX3_valueAt yX3_valueAt, .initialized RX3, .code yX3_valueAt cX3_valueAt 2 (some .int), .fieldLink RX3 15 "SureMendings$Table" "values" "[I"] ++ wsX00 ++ wsX30)
def wsX0_fewestKeptWith_r1 : List Cond := [Cond.methodLink RX0 60 yX0_isThere, Cond.instanceMethod yX0_isThere, Cond.selects RX0 yX0_isThere yX0_isThere, Cond.initialized RX0, Cond.code yX0_isThere cX0_isThere 2 (some .boolean), Cond.methodLink RX0 63 yX0_optionsOf, Cond.instanceMethod yX0_optionsOf, Cond.selects RX0 yX0_optionsOf yX0_optionsOf, Cond.code yX0_optionsOf cX0_optionsOf 2 (some .int), Cond.fieldLink RX0 9 "SureMendings$Choices" "optionCounts" "[I", Cond.static yX5_at, Cond.initialized RX5, Cond.code yX5_at cX5_at 2 (some .int), Cond.methodLink RX0 89 yX0_optionsWith, Cond.instanceMethod yX0_optionsWith, Cond.selects RX0 yX0_optionsWith yX0_optionsWith, Cond.code yX0_optionsWith cX0_optionsWith 5 (some .int), Cond.fieldLink RX0 24 "SureMendings$Choices" "table" "LSureMendings$Table;", Cond.methodLink RX0 79 yX0_option, Cond.instanceMethod yX0_option, Cond.selects RX0 yX0_option yX0_option, Cond.code yX0_option cX0_option 3 (some .int), Cond.fieldLink RX0 15 "SureMendings$Choices" "optionRows" "[I", Cond.methodLink RX0 86 yX3_valueAt]
def wsX0_fewestKeptWith_r2 : List Cond := [Cond.instanceMethod yX3_valueAt, Cond.selects RX3 yX3_valueAt yX3_valueAt, Cond.initialized RX3, Cond.code yX3_valueAt cX3_valueAt 2 (some .int), Cond.fieldLink RX3 15 "SureMendings$Table" "values" "[I"]
def wsX0_fewestKeptWith : List Cond := .code yX0_fewestKeptWith cX0_fewestKeptWith 4 (some .int) :: ((wsX0_fewestKeptWith_r1 ++ wsX0_fewestKeptWith_r2) ++ wsX00 ++ wsX30)
def wsX0_mostKeptWith_r1 : List Cond := [Cond.methodLink RX0 89 yX0_optionsWith, Cond.instanceMethod yX0_optionsWith, Cond.selects RX0 yX0_optionsWith yX0_optionsWith, Cond.initialized RX0, Cond.code yX0_optionsWith cX0_optionsWith 5 (some .int), Cond.fieldLink RX0 24 "SureMendings$Choices" "table" "LSureMendings$Table;", Cond.methodLink RX0 63 yX0_optionsOf, Cond.instanceMethod yX0_optionsOf, Cond.selects RX0 yX0_optionsOf yX0_optionsOf, Cond.code yX0_optionsOf cX0_optionsOf 2 (some .int), Cond.fieldLink RX0 9 "SureMendings$Choices" "optionCounts" "[I", Cond.static yX5_at, Cond.initialized RX5, Cond.code yX5_at cX5_at 2 (some .int), Cond.methodLink RX0 79 yX0_option, Cond.instanceMethod yX0_option, Cond.selects RX0 yX0_option yX0_option, Cond.code yX0_option cX0_option 3 (some .int), Cond.fieldLink RX0 15 "SureMendings$Choices" "optionRows" "[I", Cond.methodLink RX0 86 yX3_valueAt, Cond.instanceMethod yX3_valueAt, Cond.selects RX3 yX3_valueAt yX3_valueAt, Cond.initialized RX3, Cond.code yX3_valueAt cX3_valueAt 2 (some .int)]
def wsX0_mostKeptWith_r2 : List Cond := [Cond.fieldLink RX3 15 "SureMendings$Table" "values" "[I"]
def wsX0_mostKeptWith : List Cond := .code yX0_mostKeptWith cX0_mostKeptWith 4 (some .int) :: ((wsX0_mostKeptWith_r1 ++ wsX0_mostKeptWith_r2) ++ wsX00 ++ wsX30)
def wsX0_mendingsWithout_r1 : List Cond := [Cond.methodLink RX0 60 yX0_isThere, Cond.instanceMethod yX0_isThere, Cond.selects RX0 yX0_isThere yX0_isThere, Cond.initialized RX0, Cond.code yX0_isThere cX0_isThere 2 (some .boolean), Cond.methodLink RX0 63 yX0_optionsOf, Cond.instanceMethod yX0_optionsOf, Cond.selects RX0 yX0_optionsOf yX0_optionsOf, Cond.code yX0_optionsOf cX0_optionsOf 2 (some .int), Cond.fieldLink RX0 9 "SureMendings$Choices" "optionCounts" "[I", Cond.static yX5_at, Cond.initialized RX5, Cond.code yX5_at cX5_at 2 (some .int), Cond.methodLink RX0 89 yX0_optionsWith, Cond.instanceMethod yX0_optionsWith, Cond.selects RX0 yX0_optionsWith yX0_optionsWith, Cond.code yX0_optionsWith cX0_optionsWith 5 (some .int), Cond.fieldLink RX0 24 "SureMendings$Choices" "table" "LSureMendings$Table;", Cond.methodLink RX0 79 yX0_option, Cond.instanceMethod yX0_option, Cond.selects RX0 yX0_option yX0_option, Cond.code yX0_option cX0_option 3 (some .int), Cond.fieldLink RX0 15 "SureMendings$Choices" "optionRows" "[I", Cond.methodLink RX0 86 yX3_valueAt]
def wsX0_mendingsWithout_r2 : List Cond := [Cond.instanceMethod yX3_valueAt, Cond.selects RX3 yX3_valueAt yX3_valueAt, Cond.initialized RX3, Cond.code yX3_valueAt cX3_valueAt 2 (some .int), Cond.fieldLink RX3 15 "SureMendings$Table" "values" "[I"]
def wsX0_mendingsWithout : List Cond := .code yX0_mendingsWithout cX0_mendingsWithout 4 (some .int) :: ((wsX0_mendingsWithout_r1 ++ wsX0_mendingsWithout_r2) ++ wsX00 ++ wsX30)
def wsX0_sureValues_r1 : List Cond := [Cond.methodLink RX0 92 yX0_fewestKeptWith, Cond.instanceMethod yX0_fewestKeptWith, Cond.selects RX0 yX0_fewestKeptWith yX0_fewestKeptWith, Cond.initialized RX0, Cond.code yX0_fewestKeptWith cX0_fewestKeptWith 4 (some .int), Cond.methodLink RX0 60 yX0_isThere, Cond.instanceMethod yX0_isThere, Cond.selects RX0 yX0_isThere yX0_isThere, Cond.code yX0_isThere cX0_isThere 2 (some .boolean), Cond.methodLink RX0 63 yX0_optionsOf, Cond.instanceMethod yX0_optionsOf, Cond.selects RX0 yX0_optionsOf yX0_optionsOf, Cond.code yX0_optionsOf cX0_optionsOf 2 (some .int), Cond.fieldLink RX0 9 "SureMendings$Choices" "optionCounts" "[I", Cond.static yX5_at, Cond.initialized RX5, Cond.code yX5_at cX5_at 2 (some .int), Cond.methodLink RX0 89 yX0_optionsWith, Cond.instanceMethod yX0_optionsWith, Cond.selects RX0 yX0_optionsWith yX0_optionsWith, Cond.code yX0_optionsWith cX0_optionsWith 5 (some .int), Cond.fieldLink RX0 24 "SureMendings$Choices" "table" "LSureMendings$Table;", Cond.methodLink RX0 79 yX0_option, Cond.instanceMethod yX0_option]
def wsX0_sureValues_r2 : List Cond := [Cond.selects RX0 yX0_option yX0_option, Cond.code yX0_option cX0_option 3 (some .int), Cond.fieldLink RX0 15 "SureMendings$Choices" "optionRows" "[I", Cond.methodLink RX0 86 yX3_valueAt, Cond.instanceMethod yX3_valueAt, Cond.selects RX3 yX3_valueAt yX3_valueAt, Cond.initialized RX3, Cond.code yX3_valueAt cX3_valueAt 2 (some .int), Cond.fieldLink RX3 15 "SureMendings$Table" "values" "[I"]
def wsX0_sureValues : List Cond := .code yX0_sureValues cX0_sureValues 3 (some .int) :: ((wsX0_sureValues_r1 ++ wsX0_sureValues_r2) ++ wsX00 ++ wsX30)
def wsX0_possibleValues_r1 : List Cond := [Cond.methodLink RX0 95 yX0_mostKeptWith, Cond.instanceMethod yX0_mostKeptWith, Cond.selects RX0 yX0_mostKeptWith yX0_mostKeptWith, Cond.initialized RX0, Cond.code yX0_mostKeptWith cX0_mostKeptWith 4 (some .int), Cond.methodLink RX0 89 yX0_optionsWith, Cond.instanceMethod yX0_optionsWith, Cond.selects RX0 yX0_optionsWith yX0_optionsWith, Cond.code yX0_optionsWith cX0_optionsWith 5 (some .int), Cond.fieldLink RX0 24 "SureMendings$Choices" "table" "LSureMendings$Table;", Cond.methodLink RX0 63 yX0_optionsOf, Cond.instanceMethod yX0_optionsOf, Cond.selects RX0 yX0_optionsOf yX0_optionsOf, Cond.code yX0_optionsOf cX0_optionsOf 2 (some .int), Cond.fieldLink RX0 9 "SureMendings$Choices" "optionCounts" "[I", Cond.static yX5_at, Cond.initialized RX5, Cond.code yX5_at cX5_at 2 (some .int), Cond.methodLink RX0 79 yX0_option, Cond.instanceMethod yX0_option, Cond.selects RX0 yX0_option yX0_option, Cond.code yX0_option cX0_option 3 (some .int), Cond.fieldLink RX0 15 "SureMendings$Choices" "optionRows" "[I", Cond.methodLink RX0 86 yX3_valueAt]
def wsX0_possibleValues_r2 : List Cond := [Cond.instanceMethod yX3_valueAt, Cond.selects RX3 yX3_valueAt yX3_valueAt, Cond.initialized RX3, Cond.code yX3_valueAt cX3_valueAt 2 (some .int), Cond.fieldLink RX3 15 "SureMendings$Table" "values" "[I"]
def wsX0_possibleValues : List Cond := .code yX0_possibleValues cX0_possibleValues 3 (some .int) :: ((wsX0_possibleValues_r1 ++ wsX0_possibleValues_r2) ++ wsX00 ++ wsX30)
def wsX0_sumKeptBy_r1 : List Cond := [Cond.fieldLink RX0 24 "SureMendings$Choices" "table" "LSureMendings$Table;", Cond.methodLink RX0 60 yX0_isThere, Cond.instanceMethod yX0_isThere, Cond.selects RX0 yX0_isThere yX0_isThere, Cond.initialized RX0, Cond.code yX0_isThere cX0_isThere 2 (some .boolean), Cond.methodLink RX0 63 yX0_optionsOf, Cond.instanceMethod yX0_optionsOf, Cond.selects RX0 yX0_optionsOf yX0_optionsOf, Cond.code yX0_optionsOf cX0_optionsOf 2 (some .int), Cond.fieldLink RX0 9 "SureMendings$Choices" "optionCounts" "[I", Cond.static yX5_at, Cond.initialized RX5, Cond.code yX5_at cX5_at 2 (some .int), Cond.methodLink RX0 98 yX0_rowKeptBy, Cond.instanceMethod yX0_rowKeptBy, Cond.selects RX0 yX0_rowKeptBy yX0_rowKeptBy, Cond.code yX0_rowKeptBy cX0_rowKeptBy 5 (some .int), Cond.fieldLink RX0 18 "SureMendings$Choices" "strides" "[I", Cond.methodLink RX0 79 yX0_option, Cond.instanceMethod yX0_option, Cond.selects RX0 yX0_option yX0_option, Cond.code yX0_option cX0_option 3 (some .int), Cond.fieldLink RX0 15 "SureMendings$Choices" "optionRows" "[I"]
def wsX0_sumKeptBy_r2 : List Cond := [Cond.methodLink RX0 101 yX3_weightAt, Cond.instanceMethod yX3_weightAt, Cond.selects RX3 yX3_weightAt yX3_weightAt, Cond.initialized RX3, Cond.code yX3_weightAt cX3_weightAt 2 (some .int), Cond.fieldLink RX3 18 "SureMendings$Table" "weights" "[I"]
def wsX0_sumKeptBy : List Cond := .code yX0_sumKeptBy cX0_sumKeptBy 4 (some .int) :: ((wsX0_sumKeptBy_r1 ++ wsX0_sumKeptBy_r2) ++ wsX00 ++ wsX30)
def wsX0_optionWeight : List Cond := .code yX0_optionWeight cX0_optionWeight 3 (some .int) :: ([.fieldLink RX0 24 "SureMendings$Choices" "table" "LSureMendings$Table;", .methodLink RX0 79 yX0_option, .instanceMethod yX0_option, .selects RX0 yX0_option yX0_option, .initialized RX0, .code yX0_option cX0_option 3 (some .int), .fieldLink RX0 15 "SureMendings$Choices" "optionRows" "[I", .static yX5_at, .initialized RX5, .code yX5_at cX5_at 2 (some .int), .methodLink RX0 101 yX3_weightAt, .instanceMethod yX3_weightAt, .selects RX3 yX3_weightAt yX3_weightAt, .initialized RX3, .code yX3_weightAt cX3_weightAt 2 (some .int), .fieldLink RX3 18 "SureMendings$Table" "weights" "[I"] ++ wsX00 ++ wsX30)
def wsX0_firstMendingByWeight_r1 : List Cond := [Cond.fieldLink RX0 18 "SureMendings$Choices" "strides" "[I", Cond.methodLink RX0 63 yX0_optionsOf, Cond.instanceMethod yX0_optionsOf, Cond.selects RX0 yX0_optionsOf yX0_optionsOf, Cond.initialized RX0, Cond.code yX0_optionsOf cX0_optionsOf 2 (some .int), Cond.fieldLink RX0 9 "SureMendings$Choices" "optionCounts" "[I", Cond.static yX5_at, Cond.initialized RX5, Cond.code yX5_at cX5_at 2 (some .int), Cond.methodLink RX0 107 yX0_optionWeight, Cond.instanceMethod yX0_optionWeight, Cond.selects RX0 yX0_optionWeight yX0_optionWeight, Cond.code yX0_optionWeight cX0_optionWeight 3 (some .int), Cond.fieldLink RX0 24 "SureMendings$Choices" "table" "LSureMendings$Table;", Cond.methodLink RX0 79 yX0_option, Cond.instanceMethod yX0_option, Cond.selects RX0 yX0_option yX0_option, Cond.code yX0_option cX0_option 3 (some .int), Cond.fieldLink RX0 15 "SureMendings$Choices" "optionRows" "[I", Cond.methodLink RX0 101 yX3_weightAt, Cond.instanceMethod yX3_weightAt, Cond.selects RX3 yX3_weightAt yX3_weightAt, Cond.initialized RX3]
def wsX0_firstMendingByWeight_r2 : List Cond := [Cond.code yX3_weightAt cX3_weightAt 2 (some .int), Cond.fieldLink RX3 18 "SureMendings$Table" "weights" "[I"]
def wsX0_firstMendingByWeight : List Cond := .code yX0_firstMendingByWeight cX0_firstMendingByWeight 6 (some .int) :: ((wsX0_firstMendingByWeight_r1 ++ wsX0_firstMendingByWeight_r2) ++ wsX00 ++ wsX30)
def wsX0_firstLightestMending_r1 : List Cond := [Cond.methodLink RX0 104 yX0_firstMendingByWeight, Cond.instanceMethod yX0_firstMendingByWeight, Cond.selects RX0 yX0_firstMendingByWeight yX0_firstMendingByWeight, Cond.initialized RX0, Cond.code yX0_firstMendingByWeight cX0_firstMendingByWeight 6 (some .int), Cond.fieldLink RX0 18 "SureMendings$Choices" "strides" "[I", Cond.methodLink RX0 63 yX0_optionsOf, Cond.instanceMethod yX0_optionsOf, Cond.selects RX0 yX0_optionsOf yX0_optionsOf, Cond.code yX0_optionsOf cX0_optionsOf 2 (some .int), Cond.fieldLink RX0 9 "SureMendings$Choices" "optionCounts" "[I", Cond.static yX5_at, Cond.initialized RX5, Cond.code yX5_at cX5_at 2 (some .int), Cond.methodLink RX0 107 yX0_optionWeight, Cond.instanceMethod yX0_optionWeight, Cond.selects RX0 yX0_optionWeight yX0_optionWeight, Cond.code yX0_optionWeight cX0_optionWeight 3 (some .int), Cond.fieldLink RX0 24 "SureMendings$Choices" "table" "LSureMendings$Table;", Cond.methodLink RX0 79 yX0_option, Cond.instanceMethod yX0_option, Cond.selects RX0 yX0_option yX0_option, Cond.code yX0_option cX0_option 3 (some .int), Cond.fieldLink RX0 15 "SureMendings$Choices" "optionRows" "[I"]
def wsX0_firstLightestMending_r2 : List Cond := [Cond.methodLink RX0 101 yX3_weightAt, Cond.instanceMethod yX3_weightAt, Cond.selects RX3 yX3_weightAt yX3_weightAt, Cond.initialized RX3, Cond.code yX3_weightAt cX3_weightAt 2 (some .int), Cond.fieldLink RX3 18 "SureMendings$Table" "weights" "[I"]
def wsX0_firstLightestMending : List Cond := .code yX0_firstLightestMending cX0_firstLightestMending 1 (some .int) :: ((wsX0_firstLightestMending_r1 ++ wsX0_firstLightestMending_r2) ++ wsX00 ++ wsX30)
def wsX0_firstHeaviestMending_r1 : List Cond := [Cond.methodLink RX0 104 yX0_firstMendingByWeight, Cond.instanceMethod yX0_firstMendingByWeight, Cond.selects RX0 yX0_firstMendingByWeight yX0_firstMendingByWeight, Cond.initialized RX0, Cond.code yX0_firstMendingByWeight cX0_firstMendingByWeight 6 (some .int), Cond.fieldLink RX0 18 "SureMendings$Choices" "strides" "[I", Cond.methodLink RX0 63 yX0_optionsOf, Cond.instanceMethod yX0_optionsOf, Cond.selects RX0 yX0_optionsOf yX0_optionsOf, Cond.code yX0_optionsOf cX0_optionsOf 2 (some .int), Cond.fieldLink RX0 9 "SureMendings$Choices" "optionCounts" "[I", Cond.static yX5_at, Cond.initialized RX5, Cond.code yX5_at cX5_at 2 (some .int), Cond.methodLink RX0 107 yX0_optionWeight, Cond.instanceMethod yX0_optionWeight, Cond.selects RX0 yX0_optionWeight yX0_optionWeight, Cond.code yX0_optionWeight cX0_optionWeight 3 (some .int), Cond.fieldLink RX0 24 "SureMendings$Choices" "table" "LSureMendings$Table;", Cond.methodLink RX0 79 yX0_option, Cond.instanceMethod yX0_option, Cond.selects RX0 yX0_option yX0_option, Cond.code yX0_option cX0_option 3 (some .int), Cond.fieldLink RX0 15 "SureMendings$Choices" "optionRows" "[I"]
def wsX0_firstHeaviestMending_r2 : List Cond := [Cond.methodLink RX0 101 yX3_weightAt, Cond.instanceMethod yX3_weightAt, Cond.selects RX3 yX3_weightAt yX3_weightAt, Cond.initialized RX3, Cond.code yX3_weightAt cX3_weightAt 2 (some .int), Cond.fieldLink RX3 18 "SureMendings$Table" "weights" "[I"]
def wsX0_firstHeaviestMending : List Cond := .code yX0_firstHeaviestMending cX0_firstHeaviestMending 1 (some .int) :: ((wsX0_firstHeaviestMending_r1 ++ wsX0_firstHeaviestMending_r2) ++ wsX00 ++ wsX30)
def wsX0_holdsIn_r1 : List Cond := [Cond.fieldLink RX0 24 "SureMendings$Choices" "table" "LSureMendings$Table;", Cond.methodLink RX0 60 yX0_isThere, Cond.instanceMethod yX0_isThere, Cond.selects RX0 yX0_isThere yX0_isThere, Cond.initialized RX0, Cond.code yX0_isThere cX0_isThere 2 (some .boolean), Cond.methodLink RX0 63 yX0_optionsOf, Cond.instanceMethod yX0_optionsOf, Cond.selects RX0 yX0_optionsOf yX0_optionsOf, Cond.code yX0_optionsOf cX0_optionsOf 2 (some .int), Cond.fieldLink RX0 9 "SureMendings$Choices" "optionCounts" "[I", Cond.static yX5_at, Cond.initialized RX5, Cond.code yX5_at cX5_at 2 (some .int), Cond.methodLink RX0 98 yX0_rowKeptBy, Cond.instanceMethod yX0_rowKeptBy, Cond.selects RX0 yX0_rowKeptBy yX0_rowKeptBy, Cond.code yX0_rowKeptBy cX0_rowKeptBy 5 (some .int), Cond.fieldLink RX0 18 "SureMendings$Choices" "strides" "[I", Cond.methodLink RX0 79 yX0_option, Cond.instanceMethod yX0_option, Cond.selects RX0 yX0_option yX0_option, Cond.code yX0_option cX0_option 3 (some .int), Cond.fieldLink RX0 15 "SureMendings$Choices" "optionRows" "[I"]
def wsX0_holdsIn_r2 : List Cond := [Cond.methodLink RX0 73 yX3_targetAt, Cond.instanceMethod yX3_targetAt, Cond.selects RX3 yX3_targetAt yX3_targetAt, Cond.initialized RX3, Cond.code yX3_targetAt cX3_targetAt 2 (some .int), Cond.fieldLink RX3 21 "SureMendings$Table" "targets" "[I"]
def wsX0_holdsIn : List Cond := .code yX0_holdsIn cX0_holdsIn 6 (some .boolean) :: ((wsX0_holdsIn_r1 ++ wsX0_holdsIn_r2) ++ wsX00 ++ wsX30)
def wsX0_mendingsWithWay_r1 : List Cond := [Cond.fieldLink RX0 52 "SureMendings$Choices" "mendings" "I", Cond.methodLink RX0 110 yX0_holdsIn, Cond.instanceMethod yX0_holdsIn, Cond.selects RX0 yX0_holdsIn yX0_holdsIn, Cond.initialized RX0, Cond.code yX0_holdsIn cX0_holdsIn 6 (some .boolean), Cond.fieldLink RX0 24 "SureMendings$Choices" "table" "LSureMendings$Table;", Cond.methodLink RX0 60 yX0_isThere, Cond.instanceMethod yX0_isThere, Cond.selects RX0 yX0_isThere yX0_isThere, Cond.code yX0_isThere cX0_isThere 2 (some .boolean), Cond.methodLink RX0 63 yX0_optionsOf, Cond.instanceMethod yX0_optionsOf, Cond.selects RX0 yX0_optionsOf yX0_optionsOf, Cond.code yX0_optionsOf cX0_optionsOf 2 (some .int), Cond.fieldLink RX0 9 "SureMendings$Choices" "optionCounts" "[I", Cond.static yX5_at, Cond.initialized RX5, Cond.code yX5_at cX5_at 2 (some .int), Cond.methodLink RX0 98 yX0_rowKeptBy, Cond.instanceMethod yX0_rowKeptBy, Cond.selects RX0 yX0_rowKeptBy yX0_rowKeptBy, Cond.code yX0_rowKeptBy cX0_rowKeptBy 5 (some .int), Cond.fieldLink RX0 18 "SureMendings$Choices" "strides" "[I"]
def wsX0_mendingsWithWay_r2 : List Cond := [Cond.methodLink RX0 79 yX0_option, Cond.instanceMethod yX0_option, Cond.selects RX0 yX0_option yX0_option, Cond.code yX0_option cX0_option 3 (some .int), Cond.fieldLink RX0 15 "SureMendings$Choices" "optionRows" "[I", Cond.methodLink RX0 73 yX3_targetAt, Cond.instanceMethod yX3_targetAt, Cond.selects RX3 yX3_targetAt yX3_targetAt, Cond.initialized RX3, Cond.code yX3_targetAt cX3_targetAt 2 (some .int), Cond.fieldLink RX3 21 "SureMendings$Table" "targets" "[I"]
def wsX0_mendingsWithWay : List Cond := .code yX0_mendingsWithWay cX0_mendingsWithWay 5 (some .int) :: ((wsX0_mendingsWithWay_r1 ++ wsX0_mendingsWithWay_r2) ++ wsX00 ++ wsX30)
def wsX0_firstMendingWithoutWay_r1 : List Cond := [Cond.fieldLink RX0 52 "SureMendings$Choices" "mendings" "I", Cond.methodLink RX0 110 yX0_holdsIn, Cond.instanceMethod yX0_holdsIn, Cond.selects RX0 yX0_holdsIn yX0_holdsIn, Cond.initialized RX0, Cond.code yX0_holdsIn cX0_holdsIn 6 (some .boolean), Cond.fieldLink RX0 24 "SureMendings$Choices" "table" "LSureMendings$Table;", Cond.methodLink RX0 60 yX0_isThere, Cond.instanceMethod yX0_isThere, Cond.selects RX0 yX0_isThere yX0_isThere, Cond.code yX0_isThere cX0_isThere 2 (some .boolean), Cond.methodLink RX0 63 yX0_optionsOf, Cond.instanceMethod yX0_optionsOf, Cond.selects RX0 yX0_optionsOf yX0_optionsOf, Cond.code yX0_optionsOf cX0_optionsOf 2 (some .int), Cond.fieldLink RX0 9 "SureMendings$Choices" "optionCounts" "[I", Cond.static yX5_at, Cond.initialized RX5, Cond.code yX5_at cX5_at 2 (some .int), Cond.methodLink RX0 98 yX0_rowKeptBy, Cond.instanceMethod yX0_rowKeptBy, Cond.selects RX0 yX0_rowKeptBy yX0_rowKeptBy, Cond.code yX0_rowKeptBy cX0_rowKeptBy 5 (some .int), Cond.fieldLink RX0 18 "SureMendings$Choices" "strides" "[I"]
def wsX0_firstMendingWithoutWay_r2 : List Cond := [Cond.methodLink RX0 79 yX0_option, Cond.instanceMethod yX0_option, Cond.selects RX0 yX0_option yX0_option, Cond.code yX0_option cX0_option 3 (some .int), Cond.fieldLink RX0 15 "SureMendings$Choices" "optionRows" "[I", Cond.methodLink RX0 73 yX3_targetAt, Cond.instanceMethod yX3_targetAt, Cond.selects RX3 yX3_targetAt yX3_targetAt, Cond.initialized RX3, Cond.code yX3_targetAt cX3_targetAt 2 (some .int), Cond.fieldLink RX3 21 "SureMendings$Table" "targets" "[I"]
def wsX0_firstMendingWithoutWay : List Cond := .code yX0_firstMendingWithoutWay cX0_firstMendingWithoutWay 4 (some .int) :: ((wsX0_firstMendingWithoutWay_r1 ++ wsX0_firstMendingWithoutWay_r2) ++ wsX00 ++ wsX30)
def wsX0_setOf : List Cond := .code yX0_setOf cX0_setOf 2 (some .int) :: ([.methodLink RX0 60 yX0_isThere, .instanceMethod yX0_isThere, .selects RX0 yX0_isThere yX0_isThere, .initialized RX0, .code yX0_isThere cX0_isThere 2 (some .boolean), .methodLink RX0 63 yX0_optionsOf, .instanceMethod yX0_optionsOf, .selects RX0 yX0_optionsOf yX0_optionsOf, .code yX0_optionsOf cX0_optionsOf 2 (some .int), .fieldLink RX0 9 "SureMendings$Choices" "optionCounts" "[I", .static yX5_at, .initialized RX5, .code yX5_at cX5_at 2 (some .int)] ++ wsX00)
def wsX0_contains : List Cond := .code yX0_contains cX0_contains 2 (some .boolean) :: ([])
def wsX0_keysThatCanPointInto : List Cond := .code yX0_keysThatCanPointInto cX0_keysThatCanPointInto 4 (some .int) :: ([.fieldLink RX0 21 "SureMendings$Choices" "targetSets" "[I", .static yX5_at, .initialized RX5, .code yX5_at cX5_at 2 (some .int)] ++ wsX00)
def wsX0_fewestPointers_r1 : List Cond := [Cond.methodLink RX0 114 yX0_setOf, Cond.instanceMethod yX0_setOf, Cond.selects RX0 yX0_setOf yX0_setOf, Cond.initialized RX0, Cond.code yX0_setOf cX0_setOf 2 (some .int), Cond.methodLink RX0 60 yX0_isThere, Cond.instanceMethod yX0_isThere, Cond.selects RX0 yX0_isThere yX0_isThere, Cond.code yX0_isThere cX0_isThere 2 (some .boolean), Cond.methodLink RX0 63 yX0_optionsOf, Cond.instanceMethod yX0_optionsOf, Cond.selects RX0 yX0_optionsOf yX0_optionsOf, Cond.code yX0_optionsOf cX0_optionsOf 2 (some .int), Cond.fieldLink RX0 9 "SureMendings$Choices" "optionCounts" "[I", Cond.static yX5_at, Cond.initialized RX5, Cond.code yX5_at cX5_at 2 (some .int), Cond.methodLink RX0 117 yX0_contains, Cond.static yX0_contains, Cond.code yX0_contains cX0_contains 2 (some .boolean), Cond.methodLink RX0 121 yX0_keysThatCanPointInto, Cond.instanceMethod yX0_keysThatCanPointInto, Cond.selects RX0 yX0_keysThatCanPointInto yX0_keysThatCanPointInto, Cond.code yX0_keysThatCanPointInto cX0_keysThatCanPointInto 4 (some .int)]
def wsX0_fewestPointers_r2 : List Cond := [Cond.fieldLink RX0 21 "SureMendings$Choices" "targetSets" "[I"]
def wsX0_fewestPointers : List Cond := .code yX0_fewestPointers cX0_fewestPointers 5 (some .int) :: ((wsX0_fewestPointers_r1 ++ wsX0_fewestPointers_r2) ++ wsX00)
def wsX0_keysThatMustPointInto : List Cond := .code yX0_keysThatMustPointInto cX0_keysThatMustPointInto 5 (some .int) :: ([.fieldLink RX0 21 "SureMendings$Choices" "targetSets" "[I", .static yX5_at, .initialized RX5, .code yX5_at cX5_at 2 (some .int)] ++ wsX00)
def wsX0_keysSureToReach : List Cond := .code yX0_keysSureToReach cX0_keysSureToReach 4 (some .int) :: ([.methodLink RX0 114 yX0_setOf, .instanceMethod yX0_setOf, .selects RX0 yX0_setOf yX0_setOf, .initialized RX0, .code yX0_setOf cX0_setOf 2 (some .int), .methodLink RX0 60 yX0_isThere, .instanceMethod yX0_isThere, .selects RX0 yX0_isThere yX0_isThere, .code yX0_isThere cX0_isThere 2 (some .boolean), .methodLink RX0 63 yX0_optionsOf, .instanceMethod yX0_optionsOf, .selects RX0 yX0_optionsOf yX0_optionsOf, .code yX0_optionsOf cX0_optionsOf 2 (some .int), .fieldLink RX0 9 "SureMendings$Choices" "optionCounts" "[I", .static yX5_at, .initialized RX5, .code yX5_at cX5_at 2 (some .int), .methodLink RX0 127 yX0_keysThatMustPointInto, .instanceMethod yX0_keysThatMustPointInto, .selects RX0 yX0_keysThatMustPointInto yX0_keysThatMustPointInto, .code yX0_keysThatMustPointInto cX0_keysThatMustPointInto 5 (some .int), .fieldLink RX0 21 "SureMendings$Choices" "targetSets" "[I"] ++ wsX00)
def wsX0_isSureWay_r1 : List Cond := [Cond.methodLink RX0 124 yX0_keysSureToReach, Cond.instanceMethod yX0_keysSureToReach, Cond.selects RX0 yX0_keysSureToReach yX0_keysSureToReach, Cond.initialized RX0, Cond.code yX0_keysSureToReach cX0_keysSureToReach 4 (some .int), Cond.methodLink RX0 114 yX0_setOf, Cond.instanceMethod yX0_setOf, Cond.selects RX0 yX0_setOf yX0_setOf, Cond.code yX0_setOf cX0_setOf 2 (some .int), Cond.methodLink RX0 60 yX0_isThere, Cond.instanceMethod yX0_isThere, Cond.selects RX0 yX0_isThere yX0_isThere, Cond.code yX0_isThere cX0_isThere 2 (some .boolean), Cond.methodLink RX0 63 yX0_optionsOf, Cond.instanceMethod yX0_optionsOf, Cond.selects RX0 yX0_optionsOf yX0_optionsOf, Cond.code yX0_optionsOf cX0_optionsOf 2 (some .int), Cond.fieldLink RX0 9 "SureMendings$Choices" "optionCounts" "[I", Cond.static yX5_at, Cond.initialized RX5, Cond.code yX5_at cX5_at 2 (some .int), Cond.methodLink RX0 127 yX0_keysThatMustPointInto, Cond.instanceMethod yX0_keysThatMustPointInto, Cond.selects RX0 yX0_keysThatMustPointInto yX0_keysThatMustPointInto]
def wsX0_isSureWay_r2 : List Cond := [Cond.code yX0_keysThatMustPointInto cX0_keysThatMustPointInto 5 (some .int), Cond.fieldLink RX0 21 "SureMendings$Choices" "targetSets" "[I", Cond.methodLink RX0 117 yX0_contains, Cond.static yX0_contains, Cond.code yX0_contains cX0_contains 2 (some .boolean)]
def wsX0_isSureWay : List Cond := .code yX0_isSureWay cX0_isSureWay 3 (some .boolean) :: ((wsX0_isSureWay_r1 ++ wsX0_isSureWay_r2) ++ wsX00)
def wsX0_keysThatCanReach : List Cond := .code yX0_keysThatCanReach cX0_keysThatCanReach 4 (some .int) :: ([.methodLink RX0 114 yX0_setOf, .instanceMethod yX0_setOf, .selects RX0 yX0_setOf yX0_setOf, .initialized RX0, .code yX0_setOf cX0_setOf 2 (some .int), .methodLink RX0 60 yX0_isThere, .instanceMethod yX0_isThere, .selects RX0 yX0_isThere yX0_isThere, .code yX0_isThere cX0_isThere 2 (some .boolean), .methodLink RX0 63 yX0_optionsOf, .instanceMethod yX0_optionsOf, .selects RX0 yX0_optionsOf yX0_optionsOf, .code yX0_optionsOf cX0_optionsOf 2 (some .int), .fieldLink RX0 9 "SureMendings$Choices" "optionCounts" "[I", .static yX5_at, .initialized RX5, .code yX5_at cX5_at 2 (some .int), .methodLink RX0 121 yX0_keysThatCanPointInto, .instanceMethod yX0_keysThatCanPointInto, .selects RX0 yX0_keysThatCanPointInto yX0_keysThatCanPointInto, .code yX0_keysThatCanPointInto cX0_keysThatCanPointInto 4 (some .int), .fieldLink RX0 21 "SureMendings$Choices" "targetSets" "[I"] ++ wsX00)
def wsJ6_bitCount_0f7a4 : List Cond := .code yJ6_bitCount_0f7a4 cJ6_bitCount_0f7a4 1 (some .int) :: ([.constant RJ6 265 (1431655765), .constant RJ6 266 (858993459), .constant RJ6 267 (252645135)])
def wsX0_sureWays_r1 : List Cond := [Cond.methodLink RX0 124 yX0_keysSureToReach, Cond.instanceMethod yX0_keysSureToReach, Cond.selects RX0 yX0_keysSureToReach yX0_keysSureToReach, Cond.initialized RX0, Cond.code yX0_keysSureToReach cX0_keysSureToReach 4 (some .int), Cond.methodLink RX0 114 yX0_setOf, Cond.instanceMethod yX0_setOf, Cond.selects RX0 yX0_setOf yX0_setOf, Cond.code yX0_setOf cX0_setOf 2 (some .int), Cond.methodLink RX0 60 yX0_isThere, Cond.instanceMethod yX0_isThere, Cond.selects RX0 yX0_isThere yX0_isThere, Cond.code yX0_isThere cX0_isThere 2 (some .boolean), Cond.methodLink RX0 63 yX0_optionsOf, Cond.instanceMethod yX0_optionsOf, Cond.selects RX0 yX0_optionsOf yX0_optionsOf, Cond.code yX0_optionsOf cX0_optionsOf 2 (some .int), Cond.fieldLink RX0 9 "SureMendings$Choices" "optionCounts" "[I", Cond.static yX5_at, Cond.initialized RX5, Cond.code yX5_at cX5_at 2 (some .int), Cond.methodLink RX0 127 yX0_keysThatMustPointInto, Cond.instanceMethod yX0_keysThatMustPointInto, Cond.selects RX0 yX0_keysThatMustPointInto yX0_keysThatMustPointInto]
def wsX0_sureWays_r2 : List Cond := [Cond.code yX0_keysThatMustPointInto cX0_keysThatMustPointInto 5 (some .int), Cond.fieldLink RX0 21 "SureMendings$Choices" "targetSets" "[I", Cond.methodLink RX0 130 yJ6_bitCount_0f7a4, Cond.static yJ6_bitCount_0f7a4, Cond.initialized RJ6, Cond.code yJ6_bitCount_0f7a4 cJ6_bitCount_0f7a4 1 (some .int), Cond.constant RJ6 265 (1431655765), Cond.constant RJ6 266 (858993459), Cond.constant RJ6 267 (252645135)]
def wsX0_sureWays : List Cond := .code yX0_sureWays cX0_sureWays 3 (some .int) :: ((wsX0_sureWays_r1 ++ wsX0_sureWays_r2) ++ wsX00)
def wsX0_possibleWays_r1 : List Cond := [Cond.methodLink RX0 135 yX0_keysThatCanReach, Cond.instanceMethod yX0_keysThatCanReach, Cond.selects RX0 yX0_keysThatCanReach yX0_keysThatCanReach, Cond.initialized RX0, Cond.code yX0_keysThatCanReach cX0_keysThatCanReach 4 (some .int), Cond.methodLink RX0 114 yX0_setOf, Cond.instanceMethod yX0_setOf, Cond.selects RX0 yX0_setOf yX0_setOf, Cond.code yX0_setOf cX0_setOf 2 (some .int), Cond.methodLink RX0 60 yX0_isThere, Cond.instanceMethod yX0_isThere, Cond.selects RX0 yX0_isThere yX0_isThere, Cond.code yX0_isThere cX0_isThere 2 (some .boolean), Cond.methodLink RX0 63 yX0_optionsOf, Cond.instanceMethod yX0_optionsOf, Cond.selects RX0 yX0_optionsOf yX0_optionsOf, Cond.code yX0_optionsOf cX0_optionsOf 2 (some .int), Cond.fieldLink RX0 9 "SureMendings$Choices" "optionCounts" "[I", Cond.static yX5_at, Cond.initialized RX5, Cond.code yX5_at cX5_at 2 (some .int), Cond.methodLink RX0 121 yX0_keysThatCanPointInto, Cond.instanceMethod yX0_keysThatCanPointInto, Cond.selects RX0 yX0_keysThatCanPointInto yX0_keysThatCanPointInto]
def wsX0_possibleWays_r2 : List Cond := [Cond.code yX0_keysThatCanPointInto cX0_keysThatCanPointInto 4 (some .int), Cond.fieldLink RX0 21 "SureMendings$Choices" "targetSets" "[I", Cond.methodLink RX0 130 yJ6_bitCount_0f7a4, Cond.static yJ6_bitCount_0f7a4, Cond.initialized RJ6, Cond.code yJ6_bitCount_0f7a4 cJ6_bitCount_0f7a4 1 (some .int), Cond.constant RJ6 265 (1431655765), Cond.constant RJ6 266 (858993459), Cond.constant RJ6 267 (252645135)]
def wsX0_possibleWays : List Cond := .code yX0_possibleWays cX0_possibleWays 3 (some .int) :: ((wsX0_possibleWays_r1 ++ wsX0_possibleWays_r2) ++ wsX00)
def wsX0_isSureWayOnceMended_r1 : List Cond := [Cond.fieldLink RX0 21 "SureMendings$Choices" "targetSets" "[I", Cond.static yX5_at, Cond.initialized RX5, Cond.code yX5_at cX5_at 2 (some .int), Cond.methodLink RX0 70 yX0_targetBit, Cond.instanceMethod yX0_targetBit, Cond.selects RX0 yX0_targetBit yX0_targetBit, Cond.initialized RX0, Cond.code yX0_targetBit cX0_targetBit 3 (some .int), Cond.fieldLink RX0 24 "SureMendings$Choices" "table" "LSureMendings$Table;", Cond.methodLink RX0 73 yX3_targetAt, Cond.instanceMethod yX3_targetAt, Cond.selects RX3 yX3_targetAt yX3_targetAt, Cond.initialized RX3, Cond.code yX3_targetAt cX3_targetAt 2 (some .int), Cond.fieldLink RX3 21 "SureMendings$Table" "targets" "[I", Cond.static yX5_isKey, Cond.code yX5_isKey cX5_isKey 1 (some .boolean), Cond.static yX5_put, Cond.code yX5_put cX5_put 3 none, Cond.methodLink RX0 124 yX0_keysSureToReach, Cond.instanceMethod yX0_keysSureToReach, Cond.selects RX0 yX0_keysSureToReach yX0_keysSureToReach, Cond.code yX0_keysSureToReach cX0_keysSureToReach 4 (some .int)]
def wsX0_isSureWayOnceMended_r2 : List Cond := [Cond.methodLink RX0 114 yX0_setOf, Cond.instanceMethod yX0_setOf, Cond.selects RX0 yX0_setOf yX0_setOf, Cond.code yX0_setOf cX0_setOf 2 (some .int), Cond.methodLink RX0 60 yX0_isThere, Cond.instanceMethod yX0_isThere, Cond.selects RX0 yX0_isThere yX0_isThere, Cond.code yX0_isThere cX0_isThere 2 (some .boolean), Cond.methodLink RX0 63 yX0_optionsOf, Cond.instanceMethod yX0_optionsOf, Cond.selects RX0 yX0_optionsOf yX0_optionsOf, Cond.code yX0_optionsOf cX0_optionsOf 2 (some .int), Cond.fieldLink RX0 9 "SureMendings$Choices" "optionCounts" "[I", Cond.methodLink RX0 127 yX0_keysThatMustPointInto, Cond.instanceMethod yX0_keysThatMustPointInto, Cond.selects RX0 yX0_keysThatMustPointInto yX0_keysThatMustPointInto, Cond.code yX0_keysThatMustPointInto cX0_keysThatMustPointInto 5 (some .int), Cond.methodLink RX0 117 yX0_contains, Cond.static yX0_contains, Cond.code yX0_contains cX0_contains 2 (some .boolean)]
def wsX0_isSureWayOnceMended : List Cond := .code yX0_isSureWayOnceMended cX0_isSureWayOnceMended 7 (some .boolean) :: ((wsX0_isSureWayOnceMended_r1 ++ wsX0_isSureWayOnceMended_r2) ++ wsX00 ++ wsX30)
def wsX0_rowThatMakesSure_r1 : List Cond := [Cond.methodLink RX0 138 yX0_isSureWay, Cond.instanceMethod yX0_isSureWay, Cond.selects RX0 yX0_isSureWay yX0_isSureWay, Cond.initialized RX0, Cond.code yX0_isSureWay cX0_isSureWay 3 (some .boolean), Cond.methodLink RX0 124 yX0_keysSureToReach, Cond.instanceMethod yX0_keysSureToReach, Cond.selects RX0 yX0_keysSureToReach yX0_keysSureToReach, Cond.code yX0_keysSureToReach cX0_keysSureToReach 4 (some .int), Cond.methodLink RX0 114 yX0_setOf, Cond.instanceMethod yX0_setOf, Cond.selects RX0 yX0_setOf yX0_setOf, Cond.code yX0_setOf cX0_setOf 2 (some .int), Cond.methodLink RX0 60 yX0_isThere, Cond.instanceMethod yX0_isThere, Cond.selects RX0 yX0_isThere yX0_isThere, Cond.code yX0_isThere cX0_isThere 2 (some .boolean), Cond.methodLink RX0 63 yX0_optionsOf, Cond.instanceMethod yX0_optionsOf, Cond.selects RX0 yX0_optionsOf yX0_optionsOf, Cond.code yX0_optionsOf cX0_optionsOf 2 (some .int), Cond.fieldLink RX0 9 "SureMendings$Choices" "optionCounts" "[I", Cond.static yX5_at, Cond.initialized RX5]
def wsX0_rowThatMakesSure_r2 : List Cond := [Cond.code yX5_at cX5_at 2 (some .int), Cond.methodLink RX0 127 yX0_keysThatMustPointInto, Cond.instanceMethod yX0_keysThatMustPointInto, Cond.selects RX0 yX0_keysThatMustPointInto yX0_keysThatMustPointInto, Cond.code yX0_keysThatMustPointInto cX0_keysThatMustPointInto 5 (some .int), Cond.fieldLink RX0 21 "SureMendings$Choices" "targetSets" "[I", Cond.methodLink RX0 117 yX0_contains, Cond.static yX0_contains, Cond.code yX0_contains cX0_contains 2 (some .boolean), Cond.methodLink RX0 79 yX0_option, Cond.instanceMethod yX0_option, Cond.selects RX0 yX0_option yX0_option, Cond.code yX0_option cX0_option 3 (some .int), Cond.fieldLink RX0 15 "SureMendings$Choices" "optionRows" "[I", Cond.methodLink RX0 141 yX0_isSureWayOnceMended, Cond.instanceMethod yX0_isSureWayOnceMended, Cond.selects RX0 yX0_isSureWayOnceMended yX0_isSureWayOnceMended, Cond.code yX0_isSureWayOnceMended cX0_isSureWayOnceMended 7 (some .boolean), Cond.methodLink RX0 70 yX0_targetBit, Cond.instanceMethod yX0_targetBit, Cond.selects RX0 yX0_targetBit yX0_targetBit, Cond.code yX0_targetBit cX0_targetBit 3 (some .int), Cond.fieldLink RX0 24 "SureMendings$Choices" "table" "LSureMendings$Table;", Cond.methodLink RX0 73 yX3_targetAt]
def wsX0_rowThatMakesSure_r3 : List Cond := [Cond.instanceMethod yX3_targetAt, Cond.selects RX3 yX3_targetAt yX3_targetAt, Cond.initialized RX3, Cond.code yX3_targetAt cX3_targetAt 2 (some .int), Cond.fieldLink RX3 21 "SureMendings$Table" "targets" "[I", Cond.static yX5_isKey, Cond.code yX5_isKey cX5_isKey 1 (some .boolean), Cond.static yX5_put, Cond.code yX5_put cX5_put 3 none]
def wsX0_rowThatMakesSure : List Cond := .code yX0_rowThatMakesSure cX0_rowThatMakesSure 6 (some .int) :: ((wsX0_rowThatMakesSure_r1 ++ (wsX0_rowThatMakesSure_r2 ++ wsX0_rowThatMakesSure_r3)) ++ wsX00 ++ wsX30)
def wsX3_init : List Cond := .code yX3_init cX3_init 1 none :: ([.methodLink RX3 3 objectInit, .instanceMethod objectInit, .code objectInit ⟨#[0xb1]⟩ 1 none, .arrayClass .int, .fieldLink RX3 9 "SureMendings$Table" "keys" "[I", .fieldLink RX3 15 "SureMendings$Table" "values" "[I", .fieldLink RX3 18 "SureMendings$Table" "weights" "[I", .fieldLink RX3 21 "SureMendings$Table" "targets" "[I"] ++ wsX30)
def wsX1_init : List Cond := .code yX1_init cX1_init 2 none :: ([.methodLink RX1 3 objectInit, .instanceMethod objectInit, .code objectInit ⟨#[0xb1]⟩ 1 none, .classLink RX1 9 RX3, .fieldLink RX1 11 "SureMendings$History" "states" "[LSureMendings$Table;", .instantiable RX3 6, .initialized RX3, .instanceMethod yX3_init, .code yX3_init cX3_init 1 none, .methodLink RX3 3 objectInit, .arrayClass .int, .fieldLink RX3 9 "SureMendings$Table" "keys" "[I", .fieldLink RX3 15 "SureMendings$Table" "values" "[I", .fieldLink RX3 18 "SureMendings$Table" "weights" "[I", .fieldLink RX3 21 "SureMendings$Table" "targets" "[I"] ++ wsX10 ++ wsX30)
def wsX1_size : List Cond := .code yX1_size cX1_size 1 (some .int) :: ([.fieldLink RX1 18 "SureMendings$History" "size" "I"] ++ wsX10)
def wsX1_slotAt : List Cond := .code yX1_slotAt cX1_slotAt 2 (some (.object "SureMendings$Table")) :: ([.fieldLink RX1 11 "SureMendings$History" "states" "[LSureMendings$Table;"] ++ wsX10)
def wsX5_copy : List Cond := .code yX5_copy cX5_copy 2 none :: ([.methodLink RX5 240 Lib.Math.min.name, .static Lib.Math.min.name, .initialized "java/lang/Math", .code Lib.Math.min.name Lib.Math.min.code 2 (some .int), .methodLink RX5 245 arraycopyName, .native arraycopyName, .static arraycopyName, .initialized "java/lang/System"])
def wsX3_copyFrom : List Cond := .code yX3_copyFrom cX3_copyFrom 2 none :: ([.fieldLink RX3 9 "SureMendings$Table" "keys" "[I", .fieldLink RX3 15 "SureMendings$Table" "values" "[I", .fieldLink RX3 18 "SureMendings$Table" "weights" "[I", .fieldLink RX3 21 "SureMendings$Table" "targets" "[I", .fieldLink RX3 24 "SureMendings$Table" "size" "I", .fieldLink RX3 32 "SureMendings$Table" "preferring" "Z", .static yX5_copy, .initialized RX5, .code yX5_copy cX5_copy 2 none, .methodLink RX5 240 Lib.Math.min.name, .static Lib.Math.min.name, .initialized "java/lang/Math", .code Lib.Math.min.name Lib.Math.min.code 2 (some .int), .methodLink RX5 245 arraycopyName, .native arraycopyName, .static arraycopyName, .initialized "java/lang/System"] ++ wsX30)
def wsX1_remember_r1 : List Cond := [Cond.fieldLink RX1 22 "SureMendings$History" "next" "I", Cond.fieldLink RX1 18 "SureMendings$History" "size" "I", Cond.methodLink RX1 33 Lib.Math.min.name, Cond.static Lib.Math.min.name, Cond.initialized "java/lang/Math", Cond.code Lib.Math.min.name Lib.Math.min.code 2 (some .int), Cond.methodLink RX1 25 yX1_slotAt, Cond.instanceMethod yX1_slotAt, Cond.selects RX1 yX1_slotAt yX1_slotAt, Cond.initialized RX1, Cond.code yX1_slotAt cX1_slotAt 2 (some (.object "SureMendings$Table")), Cond.fieldLink RX1 11 "SureMendings$History" "states" "[LSureMendings$Table;", Cond.methodLink RX1 29 yX3_copyFrom, Cond.instanceMethod yX3_copyFrom, Cond.selects RX3 yX3_copyFrom yX3_copyFrom, Cond.initialized RX3, Cond.code yX3_copyFrom cX3_copyFrom 2 none, Cond.fieldLink RX3 9 "SureMendings$Table" "keys" "[I", Cond.fieldLink RX3 15 "SureMendings$Table" "values" "[I", Cond.fieldLink RX3 18 "SureMendings$Table" "weights" "[I", Cond.fieldLink RX3 21 "SureMendings$Table" "targets" "[I", Cond.fieldLink RX3 24 "SureMendings$Table" "size" "I", Cond.fieldLink RX3 32 "SureMendings$Table" "preferring" "Z", Cond.static yX5_copy]
def wsX1_remember_r2 : List Cond := [Cond.initialized RX5, Cond.code yX5_copy cX5_copy 2 none, Cond.methodLink RX5 240 Lib.Math.min.name, Cond.methodLink RX5 245 arraycopyName, Cond.native arraycopyName, Cond.static arraycopyName, Cond.initialized "java/lang/System"]
def wsX1_remember : List Cond := .code yX1_remember cX1_remember 3 none :: ((wsX1_remember_r1 ++ wsX1_remember_r2) ++ wsX10 ++ wsX30)
def wsX1_takeBack_r1 : List Cond := [Cond.fieldLink RX1 22 "SureMendings$History" "next" "I", Cond.fieldLink RX1 18 "SureMendings$History" "size" "I", Cond.methodLink RX1 25 yX1_slotAt, Cond.instanceMethod yX1_slotAt, Cond.selects RX1 yX1_slotAt yX1_slotAt, Cond.initialized RX1, Cond.code yX1_slotAt cX1_slotAt 2 (some (.object "SureMendings$Table")), Cond.fieldLink RX1 11 "SureMendings$History" "states" "[LSureMendings$Table;", Cond.methodLink RX1 29 yX3_copyFrom, Cond.instanceMethod yX3_copyFrom, Cond.selects RX3 yX3_copyFrom yX3_copyFrom, Cond.initialized RX3, Cond.code yX3_copyFrom cX3_copyFrom 2 none, Cond.fieldLink RX3 9 "SureMendings$Table" "keys" "[I", Cond.fieldLink RX3 15 "SureMendings$Table" "values" "[I", Cond.fieldLink RX3 18 "SureMendings$Table" "weights" "[I", Cond.fieldLink RX3 21 "SureMendings$Table" "targets" "[I", Cond.fieldLink RX3 24 "SureMendings$Table" "size" "I", Cond.fieldLink RX3 32 "SureMendings$Table" "preferring" "Z", Cond.static yX5_copy, Cond.initialized RX5, Cond.code yX5_copy cX5_copy 2 none, Cond.methodLink RX5 240 Lib.Math.min.name, Cond.static Lib.Math.min.name]
def wsX1_takeBack_r2 : List Cond := [Cond.initialized "java/lang/Math", Cond.code Lib.Math.min.name Lib.Math.min.code 2 (some .int), Cond.methodLink RX5 245 arraycopyName, Cond.native arraycopyName, Cond.static arraycopyName, Cond.initialized "java/lang/System"]
def wsX1_takeBack : List Cond := .code yX1_takeBack cX1_takeBack 4 (some .boolean) :: ((wsX1_takeBack_r1 ++ wsX1_takeBack_r2) ++ wsX10 ++ wsX30)
def wsX2_init : List Cond := .code yX2_init cX2_init 2 none :: ([.methodLink RX2 3 objectInit, .instanceMethod objectInit, .code objectInit ⟨#[0xb1]⟩ 1 none, .classLink RX2 9 RX3, .instantiable RX3 6, .initialized RX3, .fieldLink RX2 12 "SureMendings$Reader" "rowsRead" "LSureMendings$Table;", .fieldLink RX2 18 "SureMendings$Reader" "text" "LSureMendings$Text;", .instanceMethod yX3_init, .code yX3_init cX3_init 1 none, .methodLink RX3 3 objectInit, .arrayClass .int, .fieldLink RX3 9 "SureMendings$Table" "keys" "[I", .fieldLink RX3 15 "SureMendings$Table" "values" "[I", .fieldLink RX3 18 "SureMendings$Table" "weights" "[I", .fieldLink RX3 21 "SureMendings$Table" "targets" "[I"] ++ wsX30 ++ wsX20)
def wsX2_position : List Cond := .code yX2_position cX2_position 1 (some .int) :: ([.fieldLink RX2 22 "SureMendings$Reader" "position" "I"] ++ wsX20)
def wsX2_rowsRead : List Cond := .code yX2_rowsRead cX2_rowsRead 1 (some (.object "SureMendings$Table")) :: ([.fieldLink RX2 12 "SureMendings$Reader" "rowsRead" "LSureMendings$Table;"] ++ wsX20)
def wsX3_empty : List Cond := .code yX3_empty cX3_empty 1 none :: ([.fieldLink RX3 24 "SureMendings$Table" "size" "I"] ++ wsX30)
def wsX4_characterAt : List Cond := .code yX4_characterAt cX4_characterAt 2 (some .int) :: ([.fieldLink RX4 15 "SureMendings$Text" "length" "I", .fieldLink RX4 9 "SureMendings$Text" "characters" "[C"] ++ wsX40)
def wsX2_takeBetween : List Cond := .code yX2_takeBetween cX2_takeBetween 4 (some .int) :: ([.fieldLink RX2 18 "SureMendings$Reader" "text" "LSureMendings$Text;", .fieldLink RX2 22 "SureMendings$Reader" "position" "I", .methodLink RX2 54 yX4_characterAt, .instanceMethod yX4_characterAt, .selects RX4 yX4_characterAt yX4_characterAt, .initialized RX4, .code yX4_characterAt cX4_characterAt 2 (some .int), .fieldLink RX4 15 "SureMendings$Text" "length" "I", .fieldLink RX4 9 "SureMendings$Text" "characters" "[C"] ++ wsX20 ++ wsX40)
def wsX2_take : List Cond := .code yX2_take cX2_take 2 (some .boolean) :: ([.methodLink RX2 43 yX2_takeBetween, .instanceMethod yX2_takeBetween, .selects RX2 yX2_takeBetween yX2_takeBetween, .initialized RX2, .code yX2_takeBetween cX2_takeBetween 4 (some .int), .fieldLink RX2 18 "SureMendings$Reader" "text" "LSureMendings$Text;", .fieldLink RX2 22 "SureMendings$Reader" "position" "I", .methodLink RX2 54 yX4_characterAt, .instanceMethod yX4_characterAt, .selects RX4 yX4_characterAt yX4_characterAt, .initialized RX4, .code yX4_characterAt cX4_characterAt 2 (some .int), .fieldLink RX4 15 "SureMendings$Text" "length" "I", .fieldLink RX4 9 "SureMendings$Text" "characters" "[C"] ++ wsX20 ++ wsX40)
def wsX2_takeWeight : List Cond := .code yX2_takeWeight cX2_takeWeight 3 (some .int) :: ([.methodLink RX2 43 yX2_takeBetween, .instanceMethod yX2_takeBetween, .selects RX2 yX2_takeBetween yX2_takeBetween, .initialized RX2, .code yX2_takeBetween cX2_takeBetween 4 (some .int), .fieldLink RX2 18 "SureMendings$Reader" "text" "LSureMendings$Text;", .fieldLink RX2 22 "SureMendings$Reader" "position" "I", .methodLink RX2 54 yX4_characterAt, .instanceMethod yX4_characterAt, .selects RX4 yX4_characterAt yX4_characterAt, .initialized RX4, .code yX4_characterAt cX4_characterAt 2 (some .int), .fieldLink RX4 15 "SureMendings$Text" "length" "I", .fieldLink RX4 9 "SureMendings$Text" "characters" "[C"] ++ wsX20 ++ wsX40)
def wsX3_room : List Cond := .code yX3_room cX3_room 1 (some .int) :: ([.fieldLink RX3 24 "SureMendings$Table" "size" "I"] ++ wsX30)
def wsX3_append : List Cond := .code yX3_append cX3_append 5 none :: ([.fieldLink RX3 9 "SureMendings$Table" "keys" "[I", .fieldLink RX3 24 "SureMendings$Table" "size" "I", .fieldLink RX3 15 "SureMendings$Table" "values" "[I", .fieldLink RX3 18 "SureMendings$Table" "weights" "[I", .fieldLink RX3 21 "SureMendings$Table" "targets" "[I", .methodLink RX3 40 yX3_room, .instanceMethod yX3_room, .selects RX3 yX3_room yX3_room, .initialized RX3, .code yX3_room cX3_room 1 (some .int), .static yX5_put, .initialized RX5, .code yX5_put cX5_put 3 none] ++ wsX30)
def wsX2_readOne_r1 : List Cond := [Cond.fieldLink RX2 12 "SureMendings$Reader" "rowsRead" "LSureMendings$Table;", Cond.methodLink RX2 43 yX2_takeBetween, Cond.instanceMethod yX2_takeBetween, Cond.selects RX2 yX2_takeBetween yX2_takeBetween, Cond.initialized RX2, Cond.code yX2_takeBetween cX2_takeBetween 4 (some .int), Cond.fieldLink RX2 18 "SureMendings$Reader" "text" "LSureMendings$Text;", Cond.fieldLink RX2 22 "SureMendings$Reader" "position" "I", Cond.methodLink RX2 54 yX4_characterAt, Cond.instanceMethod yX4_characterAt, Cond.selects RX4 yX4_characterAt yX4_characterAt, Cond.initialized RX4, Cond.code yX4_characterAt cX4_characterAt 2 (some .int), Cond.fieldLink RX4 15 "SureMendings$Text" "length" "I", Cond.fieldLink RX4 9 "SureMendings$Text" "characters" "[C", Cond.methodLink RX2 33 yX2_take, Cond.instanceMethod yX2_take, Cond.selects RX2 yX2_take yX2_take, Cond.code yX2_take cX2_take 2 (some .boolean), Cond.methodLink RX2 47 yX2_takeWeight, Cond.instanceMethod yX2_takeWeight, Cond.selects RX2 yX2_takeWeight yX2_takeWeight, Cond.code yX2_takeWeight cX2_takeWeight 3 (some .int), Cond.methodLink RX2 50 yX3_append]
def wsX2_readOne_r2 : List Cond := [Cond.instanceMethod yX3_append, Cond.selects RX3 yX3_append yX3_append, Cond.initialized RX3, Cond.code yX3_append cX3_append 5 none, Cond.fieldLink RX3 9 "SureMendings$Table" "keys" "[I", Cond.fieldLink RX3 24 "SureMendings$Table" "size" "I", Cond.fieldLink RX3 15 "SureMendings$Table" "values" "[I", Cond.fieldLink RX3 18 "SureMendings$Table" "weights" "[I", Cond.fieldLink RX3 21 "SureMendings$Table" "targets" "[I", Cond.methodLink RX3 40 yX3_room, Cond.instanceMethod yX3_room, Cond.selects RX3 yX3_room yX3_room, Cond.code yX3_room cX3_room 1 (some .int), Cond.static yX5_put, Cond.initialized RX5, Cond.code yX5_put cX5_put 3 none]
def wsX2_readOne : List Cond := .code yX2_readOne cX2_readOne 6 (some .boolean) :: ((wsX2_readOne_r1 ++ wsX2_readOne_r2) ++ wsX20 ++ wsX40 ++ wsX30)
def wsX4_length : List Cond := .code yX4_length cX4_length 1 (some .int) :: ([.fieldLink RX4 15 "SureMendings$Text" "length" "I"] ++ wsX40)
def wsX2_readAll_r1 : List Cond := [Cond.fieldLink RX2 22 "SureMendings$Reader" "position" "I", Cond.fieldLink RX2 12 "SureMendings$Reader" "rowsRead" "LSureMendings$Table;", Cond.fieldLink RX2 18 "SureMendings$Reader" "text" "LSureMendings$Text;", Cond.methodLink RX2 26 yX3_empty, Cond.instanceMethod yX3_empty, Cond.selects RX3 yX3_empty yX3_empty, Cond.initialized RX3, Cond.code yX3_empty cX3_empty 1 none, Cond.fieldLink RX3 24 "SureMendings$Table" "size" "I", Cond.methodLink RX2 29 yX2_readOne, Cond.instanceMethod yX2_readOne, Cond.selects RX2 yX2_readOne yX2_readOne, Cond.initialized RX2, Cond.code yX2_readOne cX2_readOne 6 (some .boolean), Cond.methodLink RX2 43 yX2_takeBetween, Cond.instanceMethod yX2_takeBetween, Cond.selects RX2 yX2_takeBetween yX2_takeBetween, Cond.code yX2_takeBetween cX2_takeBetween 4 (some .int), Cond.methodLink RX2 54 yX4_characterAt, Cond.instanceMethod yX4_characterAt, Cond.selects RX4 yX4_characterAt yX4_characterAt, Cond.initialized RX4, Cond.code yX4_characterAt cX4_characterAt 2 (some .int), Cond.fieldLink RX4 15 "SureMendings$Text" "length" "I"]
def wsX2_readAll_r2 : List Cond := [Cond.fieldLink RX4 9 "SureMendings$Text" "characters" "[C", Cond.methodLink RX2 33 yX2_take, Cond.instanceMethod yX2_take, Cond.selects RX2 yX2_take yX2_take, Cond.code yX2_take cX2_take 2 (some .boolean), Cond.methodLink RX2 47 yX2_takeWeight, Cond.instanceMethod yX2_takeWeight, Cond.selects RX2 yX2_takeWeight yX2_takeWeight, Cond.code yX2_takeWeight cX2_takeWeight 3 (some .int), Cond.methodLink RX2 50 yX3_append, Cond.instanceMethod yX3_append, Cond.selects RX3 yX3_append yX3_append, Cond.code yX3_append cX3_append 5 none, Cond.fieldLink RX3 9 "SureMendings$Table" "keys" "[I", Cond.fieldLink RX3 15 "SureMendings$Table" "values" "[I", Cond.fieldLink RX3 18 "SureMendings$Table" "weights" "[I", Cond.fieldLink RX3 21 "SureMendings$Table" "targets" "[I", Cond.methodLink RX3 40 yX3_room, Cond.instanceMethod yX3_room, Cond.selects RX3 yX3_room yX3_room, Cond.code yX3_room cX3_room 1 (some .int), Cond.static yX5_put, Cond.initialized RX5, Cond.code yX5_put cX5_put 3 none]
def wsX2_readAll_r3 : List Cond := [Cond.methodLink RX2 37 yX4_length, Cond.instanceMethod yX4_length, Cond.selects RX4 yX4_length yX4_length, Cond.code yX4_length cX4_length 1 (some .int)]
def wsX2_readAll : List Cond := .code yX2_readAll cX2_readAll 2 (some .boolean) :: ((wsX2_readAll_r1 ++ (wsX2_readAll_r2 ++ wsX2_readAll_r3)) ++ wsX20 ++ wsX30 ++ wsX40)
def wsX3_has : List Cond := .code yX3_has cX3_has 2 (some .boolean) :: ([.fieldLink RX3 24 "SureMendings$Table" "size" "I"] ++ wsX30)
def wsX3_prefersHeaviest : List Cond := .code yX3_prefersHeaviest cX3_prefersHeaviest 1 (some .boolean) :: ([.fieldLink RX3 32 "SureMendings$Table" "preferring" "Z"] ++ wsX30)
def wsX3_setPreference : List Cond := .code yX3_setPreference cX3_setPreference 2 none :: ([.fieldLink RX3 32 "SureMendings$Table" "preferring" "Z"] ++ wsX30)
def wsX3_appendAll_r1 : List Cond := [Cond.fieldLink RX3 24 "SureMendings$Table" "size" "I", Cond.methodLink RX3 48 yX3_keyAt, Cond.instanceMethod yX3_keyAt, Cond.selects RX3 yX3_keyAt yX3_keyAt, Cond.initialized RX3, Cond.code yX3_keyAt cX3_keyAt 2 (some .int), Cond.fieldLink RX3 9 "SureMendings$Table" "keys" "[I", Cond.static yX5_at, Cond.initialized RX5, Cond.code yX5_at cX5_at 2 (some .int), Cond.methodLink RX3 52 yX3_valueAt, Cond.instanceMethod yX3_valueAt, Cond.selects RX3 yX3_valueAt yX3_valueAt, Cond.code yX3_valueAt cX3_valueAt 2 (some .int), Cond.fieldLink RX3 15 "SureMendings$Table" "values" "[I", Cond.methodLink RX3 55 yX3_weightAt, Cond.instanceMethod yX3_weightAt, Cond.selects RX3 yX3_weightAt yX3_weightAt, Cond.code yX3_weightAt cX3_weightAt 2 (some .int), Cond.fieldLink RX3 18 "SureMendings$Table" "weights" "[I", Cond.methodLink RX3 58 yX3_targetAt, Cond.instanceMethod yX3_targetAt, Cond.selects RX3 yX3_targetAt yX3_targetAt, Cond.code yX3_targetAt cX3_targetAt 2 (some .int)]
def wsX3_appendAll_r2 : List Cond := [Cond.fieldLink RX3 21 "SureMendings$Table" "targets" "[I", Cond.methodLink RX3 61 yX3_append, Cond.instanceMethod yX3_append, Cond.selects RX3 yX3_append yX3_append, Cond.code yX3_append cX3_append 5 none, Cond.methodLink RX3 40 yX3_room, Cond.instanceMethod yX3_room, Cond.selects RX3 yX3_room yX3_room, Cond.code yX3_room cX3_room 1 (some .int), Cond.static yX5_put, Cond.code yX5_put cX5_put 3 none]
def wsX3_appendAll : List Cond := .code yX3_appendAll cX3_appendAll 3 none :: ((wsX3_appendAll_r1 ++ wsX3_appendAll_r2) ++ wsX30)
def wsX3_move_r1 : List Cond := [Cond.fieldLink RX3 9 "SureMendings$Table" "keys" "[I", Cond.fieldLink RX3 15 "SureMendings$Table" "values" "[I", Cond.fieldLink RX3 18 "SureMendings$Table" "weights" "[I", Cond.fieldLink RX3 21 "SureMendings$Table" "targets" "[I", Cond.methodLink RX3 48 yX3_keyAt, Cond.instanceMethod yX3_keyAt, Cond.selects RX3 yX3_keyAt yX3_keyAt, Cond.initialized RX3, Cond.code yX3_keyAt cX3_keyAt 2 (some .int), Cond.static yX5_at, Cond.initialized RX5, Cond.code yX5_at cX5_at 2 (some .int), Cond.static yX5_put, Cond.code yX5_put cX5_put 3 none, Cond.methodLink RX3 52 yX3_valueAt, Cond.instanceMethod yX3_valueAt, Cond.selects RX3 yX3_valueAt yX3_valueAt, Cond.code yX3_valueAt cX3_valueAt 2 (some .int), Cond.methodLink RX3 55 yX3_weightAt, Cond.instanceMethod yX3_weightAt, Cond.selects RX3 yX3_weightAt yX3_weightAt, Cond.code yX3_weightAt cX3_weightAt 2 (some .int), Cond.methodLink RX3 58 yX3_targetAt, Cond.instanceMethod yX3_targetAt]
def wsX3_move_r2 : List Cond := [Cond.selects RX3 yX3_targetAt yX3_targetAt, Cond.code yX3_targetAt cX3_targetAt 2 (some .int)]
def wsX3_move : List Cond := .code yX3_move cX3_move 3 none :: ((wsX3_move_r1 ++ wsX3_move_r2) ++ wsX30)
def wsX3_drop_r1 : List Cond := [Cond.fieldLink RX3 24 "SureMendings$Table" "size" "I", Cond.methodLink RX3 65 yX3_has, Cond.instanceMethod yX3_has, Cond.selects RX3 yX3_has yX3_has, Cond.initialized RX3, Cond.code yX3_has cX3_has 2 (some .boolean), Cond.methodLink RX3 69 yX3_move, Cond.instanceMethod yX3_move, Cond.selects RX3 yX3_move yX3_move, Cond.code yX3_move cX3_move 3 none, Cond.fieldLink RX3 9 "SureMendings$Table" "keys" "[I", Cond.fieldLink RX3 15 "SureMendings$Table" "values" "[I", Cond.fieldLink RX3 18 "SureMendings$Table" "weights" "[I", Cond.fieldLink RX3 21 "SureMendings$Table" "targets" "[I", Cond.methodLink RX3 48 yX3_keyAt, Cond.instanceMethod yX3_keyAt, Cond.selects RX3 yX3_keyAt yX3_keyAt, Cond.code yX3_keyAt cX3_keyAt 2 (some .int), Cond.static yX5_at, Cond.initialized RX5, Cond.code yX5_at cX5_at 2 (some .int), Cond.static yX5_put, Cond.code yX5_put cX5_put 3 none, Cond.methodLink RX3 52 yX3_valueAt]
def wsX3_drop_r2 : List Cond := [Cond.instanceMethod yX3_valueAt, Cond.selects RX3 yX3_valueAt yX3_valueAt, Cond.code yX3_valueAt cX3_valueAt 2 (some .int), Cond.methodLink RX3 55 yX3_weightAt, Cond.instanceMethod yX3_weightAt, Cond.selects RX3 yX3_weightAt yX3_weightAt, Cond.code yX3_weightAt cX3_weightAt 2 (some .int), Cond.methodLink RX3 58 yX3_targetAt, Cond.instanceMethod yX3_targetAt, Cond.selects RX3 yX3_targetAt yX3_targetAt, Cond.code yX3_targetAt cX3_targetAt 2 (some .int)]
def wsX3_drop : List Cond := .code yX3_drop cX3_drop 3 none :: ((wsX3_drop_r1 ++ wsX3_drop_r2) ++ wsX30)
def wsX3_dropOthersLike_r1 : List Cond := [Cond.fieldLink RX3 24 "SureMendings$Table" "size" "I", Cond.methodLink RX3 65 yX3_has, Cond.instanceMethod yX3_has, Cond.selects RX3 yX3_has yX3_has, Cond.initialized RX3, Cond.code yX3_has cX3_has 2 (some .boolean), Cond.methodLink RX3 48 yX3_keyAt, Cond.instanceMethod yX3_keyAt, Cond.selects RX3 yX3_keyAt yX3_keyAt, Cond.code yX3_keyAt cX3_keyAt 2 (some .int), Cond.fieldLink RX3 9 "SureMendings$Table" "keys" "[I", Cond.static yX5_at, Cond.initialized RX5, Cond.code yX5_at cX5_at 2 (some .int), Cond.methodLink RX3 69 yX3_move, Cond.instanceMethod yX3_move, Cond.selects RX3 yX3_move yX3_move, Cond.code yX3_move cX3_move 3 none, Cond.fieldLink RX3 15 "SureMendings$Table" "values" "[I", Cond.fieldLink RX3 18 "SureMendings$Table" "weights" "[I", Cond.fieldLink RX3 21 "SureMendings$Table" "targets" "[I", Cond.static yX5_put, Cond.code yX5_put cX5_put 3 none, Cond.methodLink RX3 52 yX3_valueAt]
def wsX3_dropOthersLike_r2 : List Cond := [Cond.instanceMethod yX3_valueAt, Cond.selects RX3 yX3_valueAt yX3_valueAt, Cond.code yX3_valueAt cX3_valueAt 2 (some .int), Cond.methodLink RX3 55 yX3_weightAt, Cond.instanceMethod yX3_weightAt, Cond.selects RX3 yX3_weightAt yX3_weightAt, Cond.code yX3_weightAt cX3_weightAt 2 (some .int), Cond.methodLink RX3 58 yX3_targetAt, Cond.instanceMethod yX3_targetAt, Cond.selects RX3 yX3_targetAt yX3_targetAt, Cond.code yX3_targetAt cX3_targetAt 2 (some .int)]
def wsX3_dropOthersLike : List Cond := .code yX3_dropOthersLike cX3_dropOthersLike 5 none :: ((wsX3_dropOthersLike_r1 ++ wsX3_dropOthersLike_r2) ++ wsX30)
def wsX3_rowsWith : List Cond := .code yX3_rowsWith cX3_rowsWith 4 (some .int) :: ([.fieldLink RX3 24 "SureMendings$Table" "size" "I", .methodLink RX3 48 yX3_keyAt, .instanceMethod yX3_keyAt, .selects RX3 yX3_keyAt yX3_keyAt, .initialized RX3, .code yX3_keyAt cX3_keyAt 2 (some .int), .fieldLink RX3 9 "SureMendings$Table" "keys" "[I", .static yX5_at, .initialized RX5, .code yX5_at cX5_at 2 (some .int)] ++ wsX30)
def wsX3_rowsPointingTo : List Cond := .code yX3_rowsPointingTo cX3_rowsPointingTo 4 (some .int) :: ([.fieldLink RX3 24 "SureMendings$Table" "size" "I", .methodLink RX3 58 yX3_targetAt, .instanceMethod yX3_targetAt, .selects RX3 yX3_targetAt yX3_targetAt, .initialized RX3, .code yX3_targetAt cX3_targetAt 2 (some .int), .fieldLink RX3 21 "SureMendings$Table" "targets" "[I", .static yX5_at, .initialized RX5, .code yX5_at cX5_at 2 (some .int)] ++ wsX30)
def wsX3_keysWithAtLeast : List Cond := .code yX3_keysWithAtLeast cX3_keysWithAtLeast 4 (some .int) :: ([.methodLink RX3 76 yX3_rowsWith, .instanceMethod yX3_rowsWith, .selects RX3 yX3_rowsWith yX3_rowsWith, .initialized RX3, .code yX3_rowsWith cX3_rowsWith 4 (some .int), .fieldLink RX3 24 "SureMendings$Table" "size" "I", .methodLink RX3 48 yX3_keyAt, .instanceMethod yX3_keyAt, .selects RX3 yX3_keyAt yX3_keyAt, .code yX3_keyAt cX3_keyAt 2 (some .int), .fieldLink RX3 9 "SureMendings$Table" "keys" "[I", .static yX5_at, .initialized RX5, .code yX5_at cX5_at 2 (some .int)] ++ wsX30)
def wsX3_keysThere : List Cond := .code yX3_keysThere cX3_keysThere 1 (some .int) :: ([.methodLink RX3 73 yX3_keysWithAtLeast, .instanceMethod yX3_keysWithAtLeast, .selects RX3 yX3_keysWithAtLeast yX3_keysWithAtLeast, .initialized RX3, .code yX3_keysWithAtLeast cX3_keysWithAtLeast 4 (some .int), .methodLink RX3 76 yX3_rowsWith, .instanceMethod yX3_rowsWith, .selects RX3 yX3_rowsWith yX3_rowsWith, .code yX3_rowsWith cX3_rowsWith 4 (some .int), .fieldLink RX3 24 "SureMendings$Table" "size" "I", .methodLink RX3 48 yX3_keyAt, .instanceMethod yX3_keyAt, .selects RX3 yX3_keyAt yX3_keyAt, .code yX3_keyAt cX3_keyAt 2 (some .int), .fieldLink RX3 9 "SureMendings$Table" "keys" "[I", .static yX5_at, .initialized RX5, .code yX5_at cX5_at 2 (some .int)] ++ wsX30)
def wsX3_doubledKeys : List Cond := .code yX3_doubledKeys cX3_doubledKeys 1 (some .int) :: ([.methodLink RX3 73 yX3_keysWithAtLeast, .instanceMethod yX3_keysWithAtLeast, .selects RX3 yX3_keysWithAtLeast yX3_keysWithAtLeast, .initialized RX3, .code yX3_keysWithAtLeast cX3_keysWithAtLeast 4 (some .int), .methodLink RX3 76 yX3_rowsWith, .instanceMethod yX3_rowsWith, .selects RX3 yX3_rowsWith yX3_rowsWith, .code yX3_rowsWith cX3_rowsWith 4 (some .int), .fieldLink RX3 24 "SureMendings$Table" "size" "I", .methodLink RX3 48 yX3_keyAt, .instanceMethod yX3_keyAt, .selects RX3 yX3_keyAt yX3_keyAt, .code yX3_keyAt cX3_keyAt 2 (some .int), .fieldLink RX3 9 "SureMendings$Table" "keys" "[I", .static yX5_at, .initialized RX5, .code yX5_at cX5_at 2 (some .int)] ++ wsX30)
def wsX3_firstWith : List Cond := .code yX3_firstWith cX3_firstWith 3 (some .int) :: ([.fieldLink RX3 24 "SureMendings$Table" "size" "I", .methodLink RX3 48 yX3_keyAt, .instanceMethod yX3_keyAt, .selects RX3 yX3_keyAt yX3_keyAt, .initialized RX3, .code yX3_keyAt cX3_keyAt 2 (some .int), .fieldLink RX3 9 "SureMendings$Table" "keys" "[I", .static yX5_at, .initialized RX5, .code yX5_at cX5_at 2 (some .int)] ++ wsX30)
def wsX3_lastWith : List Cond := .code yX3_lastWith cX3_lastWith 3 (some .int) :: ([.fieldLink RX3 24 "SureMendings$Table" "size" "I", .methodLink RX3 48 yX3_keyAt, .instanceMethod yX3_keyAt, .selects RX3 yX3_keyAt yX3_keyAt, .initialized RX3, .code yX3_keyAt cX3_keyAt 2 (some .int), .fieldLink RX3 9 "SureMendings$Table" "keys" "[I", .static yX5_at, .initialized RX5, .code yX5_at cX5_at 2 (some .int)] ++ wsX30)
def wsX3_lightestWith : List Cond := .code yX3_lightestWith cX3_lightestWith 4 (some .int) :: ([.fieldLink RX3 24 "SureMendings$Table" "size" "I", .methodLink RX3 48 yX3_keyAt, .instanceMethod yX3_keyAt, .selects RX3 yX3_keyAt yX3_keyAt, .initialized RX3, .code yX3_keyAt cX3_keyAt 2 (some .int), .fieldLink RX3 9 "SureMendings$Table" "keys" "[I", .static yX5_at, .initialized RX5, .code yX5_at cX5_at 2 (some .int), .methodLink RX3 55 yX3_weightAt, .instanceMethod yX3_weightAt, .selects RX3 yX3_weightAt yX3_weightAt, .code yX3_weightAt cX3_weightAt 2 (some .int), .fieldLink RX3 18 "SureMendings$Table" "weights" "[I"] ++ wsX30)
def wsX4_init : List Cond := .code yX4_init cX4_init 1 none :: ([.methodLink RX4 3 objectInit, .instanceMethod objectInit, .code objectInit ⟨#[0xb1]⟩ 1 none, .arrayClass .char, .fieldLink RX4 9 "SureMendings$Text" "characters" "[C"] ++ wsX40)
def wsX4_append : List Cond := .code yX4_append cX4_append 2 (some .boolean) :: ([.fieldLink RX4 15 "SureMendings$Text" "length" "I", .fieldLink RX4 9 "SureMendings$Text" "characters" "[C"] ++ wsX40)
def wsX4_empty : List Cond := .code yX4_empty cX4_empty 1 none :: ([.fieldLink RX4 15 "SureMendings$Text" "length" "I"] ++ wsX40)
def wsX5_init_r1 : List Cond := [Cond.methodLink RX5 1 objectInit, Cond.instanceMethod objectInit, Cond.code objectInit ⟨#[0xb1]⟩ 1 none, Cond.classLink RX5 7 RX3, Cond.instantiable RX3 6, Cond.initialized RX3, Cond.fieldLink RX5 10 "SureMendings" "table" "LSureMendings$Table;", Cond.classLink RX5 16 RX0, Cond.instantiable RX0 6, Cond.initialized RX0, Cond.fieldLink RX5 21 "SureMendings" "choices" "LSureMendings$Choices;", Cond.classLink RX5 25 RX1, Cond.instantiable RX1 3, Cond.initialized RX1, Cond.fieldLink RX5 28 "SureMendings" "history" "LSureMendings$History;", Cond.fieldLink RX5 32 "SureMendings" "snapshot" "LSureMendings$Table;", Cond.fieldLink RX5 35 "SureMendings" "snapshotTaken" "Z", Cond.classLink RX5 39 RX4, Cond.instantiable RX4 2, Cond.initialized RX4, Cond.fieldLink RX5 42 "SureMendings" "text" "LSureMendings$Text;", Cond.classLink RX5 46 RX2, Cond.instantiable RX2 3, Cond.initialized RX2]
def wsX5_init_r2 : List Cond := [Cond.fieldLink RX5 51 "SureMendings" "reader" "LSureMendings$Reader;", Cond.instanceMethod yX3_init, Cond.code yX3_init cX3_init 1 none, Cond.methodLink RX3 3 objectInit, Cond.arrayClass .int, Cond.fieldLink RX3 9 "SureMendings$Table" "keys" "[I", Cond.fieldLink RX3 15 "SureMendings$Table" "values" "[I", Cond.fieldLink RX3 18 "SureMendings$Table" "weights" "[I", Cond.fieldLink RX3 21 "SureMendings$Table" "targets" "[I", Cond.methodLink RX5 18 yX0_init, Cond.instanceMethod yX0_init, Cond.code yX0_init cX0_init 2 none, Cond.methodLink RX0 3 objectInit, Cond.fieldLink RX0 9 "SureMendings$Choices" "optionCounts" "[I", Cond.fieldLink RX0 15 "SureMendings$Choices" "optionRows" "[I", Cond.fieldLink RX0 18 "SureMendings$Choices" "strides" "[I", Cond.fieldLink RX0 21 "SureMendings$Choices" "targetSets" "[I", Cond.fieldLink RX0 24 "SureMendings$Choices" "table" "LSureMendings$Table;", Cond.methodLink RX5 27 yX1_init, Cond.instanceMethod yX1_init, Cond.code yX1_init cX1_init 2 none, Cond.methodLink RX1 3 objectInit, Cond.classLink RX1 9 RX3, Cond.fieldLink RX1 11 "SureMendings$History" "states" "[LSureMendings$Table;"]
def wsX5_init_r3 : List Cond := [Cond.instanceMethod yX4_init, Cond.code yX4_init cX4_init 1 none, Cond.methodLink RX4 3 objectInit, Cond.arrayClass .char, Cond.fieldLink RX4 9 "SureMendings$Text" "characters" "[C", Cond.methodLink RX5 48 yX2_init, Cond.instanceMethod yX2_init, Cond.code yX2_init cX2_init 2 none, Cond.methodLink RX2 3 objectInit, Cond.classLink RX2 9 RX3, Cond.fieldLink RX2 12 "SureMendings$Reader" "rowsRead" "LSureMendings$Table;", Cond.fieldLink RX2 18 "SureMendings$Reader" "text" "LSureMendings$Text;"]
def wsX5_init : List Cond := .code yX5_init cX5_init 1 none :: ((wsX5_init_r1 ++ (wsX5_init_r2 ++ wsX5_init_r3)) ++ wsX30 ++ wsX50 ++ wsX00 ++ wsX10 ++ wsX40 ++ wsX20)
def wsX5_isValue : List Cond := .code yX5_isValue cX5_isValue 1 (some .boolean) :: ([])
def wsX5_add_r1 : List Cond := [Cond.fieldLink RX5 10 "SureMendings" "table" "LSureMendings$Table;", Cond.fieldLink RX5 28 "SureMendings" "history" "LSureMendings$History;", Cond.methodLink RX5 55 yX5_isKey, Cond.static yX5_isKey, Cond.initialized RX5, Cond.code yX5_isKey cX5_isKey 1 (some .boolean), Cond.methodLink RX5 59 yX5_isValue, Cond.static yX5_isValue, Cond.code yX5_isValue cX5_isValue 1 (some .boolean), Cond.methodLink RX5 63 yX3_room, Cond.instanceMethod yX3_room, Cond.selects RX3 yX3_room yX3_room, Cond.initialized RX3, Cond.code yX3_room cX3_room 1 (some .int), Cond.fieldLink RX3 24 "SureMendings$Table" "size" "I", Cond.methodLink RX5 67 yX1_remember, Cond.instanceMethod yX1_remember, Cond.selects RX1 yX1_remember yX1_remember, Cond.initialized RX1, Cond.code yX1_remember cX1_remember 3 none, Cond.fieldLink RX1 22 "SureMendings$History" "next" "I", Cond.fieldLink RX1 18 "SureMendings$History" "size" "I", Cond.methodLink RX1 33 Lib.Math.min.name, Cond.static Lib.Math.min.name]
def wsX5_add_r2 : List Cond := [Cond.initialized "java/lang/Math", Cond.code Lib.Math.min.name Lib.Math.min.code 2 (some .int), Cond.methodLink RX1 25 yX1_slotAt, Cond.instanceMethod yX1_slotAt, Cond.selects RX1 yX1_slotAt yX1_slotAt, Cond.code yX1_slotAt cX1_slotAt 2 (some (.object "SureMendings$Table")), Cond.fieldLink RX1 11 "SureMendings$History" "states" "[LSureMendings$Table;", Cond.methodLink RX1 29 yX3_copyFrom, Cond.instanceMethod yX3_copyFrom, Cond.selects RX3 yX3_copyFrom yX3_copyFrom, Cond.code yX3_copyFrom cX3_copyFrom 2 none, Cond.fieldLink RX3 9 "SureMendings$Table" "keys" "[I", Cond.fieldLink RX3 15 "SureMendings$Table" "values" "[I", Cond.fieldLink RX3 18 "SureMendings$Table" "weights" "[I", Cond.fieldLink RX3 21 "SureMendings$Table" "targets" "[I", Cond.fieldLink RX3 32 "SureMendings$Table" "preferring" "Z", Cond.static yX5_copy, Cond.code yX5_copy cX5_copy 2 none, Cond.methodLink RX5 240 Lib.Math.min.name, Cond.methodLink RX5 245 arraycopyName, Cond.native arraycopyName, Cond.static arraycopyName, Cond.initialized "java/lang/System", Cond.methodLink RX5 70 yX3_append]
def wsX5_add_r3 : List Cond := [Cond.instanceMethod yX3_append, Cond.selects RX3 yX3_append yX3_append, Cond.code yX3_append cX3_append 5 none, Cond.methodLink RX3 40 yX3_room, Cond.static yX5_put, Cond.code yX5_put cX5_put 3 none, Cond.methodLink RX5 74 yX3_size, Cond.instanceMethod yX3_size, Cond.selects RX3 yX3_size yX3_size, Cond.code yX3_size cX3_size 1 (some .int)]
def wsX5_add : List Cond := .code yX5_add cX5_add 5 (some .int) :: ((wsX5_add_r1 ++ (wsX5_add_r2 ++ wsX5_add_r3)) ++ wsX50 ++ wsX30 ++ wsX10)
def wsX5_readRows_r1 : List Cond := [Cond.fieldLink RX5 51 "SureMendings" "reader" "LSureMendings$Reader;", Cond.fieldLink RX5 10 "SureMendings" "table" "LSureMendings$Table;", Cond.fieldLink RX5 28 "SureMendings" "history" "LSureMendings$History;", Cond.methodLink RX5 77 yX2_readAll, Cond.instanceMethod yX2_readAll, Cond.selects RX2 yX2_readAll yX2_readAll, Cond.initialized RX2, Cond.code yX2_readAll cX2_readAll 2 (some .boolean), Cond.fieldLink RX2 22 "SureMendings$Reader" "position" "I", Cond.fieldLink RX2 12 "SureMendings$Reader" "rowsRead" "LSureMendings$Table;", Cond.fieldLink RX2 18 "SureMendings$Reader" "text" "LSureMendings$Text;", Cond.methodLink RX2 26 yX3_empty, Cond.instanceMethod yX3_empty, Cond.selects RX3 yX3_empty yX3_empty, Cond.initialized RX3, Cond.code yX3_empty cX3_empty 1 none, Cond.fieldLink RX3 24 "SureMendings$Table" "size" "I", Cond.methodLink RX2 29 yX2_readOne, Cond.instanceMethod yX2_readOne, Cond.selects RX2 yX2_readOne yX2_readOne, Cond.code yX2_readOne cX2_readOne 6 (some .boolean), Cond.methodLink RX2 43 yX2_takeBetween, Cond.instanceMethod yX2_takeBetween, Cond.selects RX2 yX2_takeBetween yX2_takeBetween]
def wsX5_readRows_r2 : List Cond := [Cond.code yX2_takeBetween cX2_takeBetween 4 (some .int), Cond.methodLink RX2 54 yX4_characterAt, Cond.instanceMethod yX4_characterAt, Cond.selects RX4 yX4_characterAt yX4_characterAt, Cond.initialized RX4, Cond.code yX4_characterAt cX4_characterAt 2 (some .int), Cond.fieldLink RX4 15 "SureMendings$Text" "length" "I", Cond.fieldLink RX4 9 "SureMendings$Text" "characters" "[C", Cond.methodLink RX2 33 yX2_take, Cond.instanceMethod yX2_take, Cond.selects RX2 yX2_take yX2_take, Cond.code yX2_take cX2_take 2 (some .boolean), Cond.methodLink RX2 47 yX2_takeWeight, Cond.instanceMethod yX2_takeWeight, Cond.selects RX2 yX2_takeWeight yX2_takeWeight, Cond.code yX2_takeWeight cX2_takeWeight 3 (some .int), Cond.methodLink RX2 50 yX3_append, Cond.instanceMethod yX3_append, Cond.selects RX3 yX3_append yX3_append, Cond.code yX3_append cX3_append 5 none, Cond.fieldLink RX3 9 "SureMendings$Table" "keys" "[I", Cond.fieldLink RX3 15 "SureMendings$Table" "values" "[I", Cond.fieldLink RX3 18 "SureMendings$Table" "weights" "[I", Cond.fieldLink RX3 21 "SureMendings$Table" "targets" "[I"]
def wsX5_readRows_r3 : List Cond := [Cond.methodLink RX3 40 yX3_room, Cond.instanceMethod yX3_room, Cond.selects RX3 yX3_room yX3_room, Cond.code yX3_room cX3_room 1 (some .int), Cond.static yX5_put, Cond.initialized RX5, Cond.code yX5_put cX5_put 3 none, Cond.methodLink RX2 37 yX4_length, Cond.instanceMethod yX4_length, Cond.selects RX4 yX4_length yX4_length, Cond.code yX4_length cX4_length 1 (some .int), Cond.methodLink RX5 81 yX2_position, Cond.instanceMethod yX2_position, Cond.selects RX2 yX2_position yX2_position, Cond.code yX2_position cX2_position 1 (some .int), Cond.methodLink RX5 63 yX3_room, Cond.methodLink RX5 84 yX2_rowsRead, Cond.instanceMethod yX2_rowsRead, Cond.selects RX2 yX2_rowsRead yX2_rowsRead, Cond.code yX2_rowsRead cX2_rowsRead 1 (some (.object "SureMendings$Table")), Cond.methodLink RX5 74 yX3_size, Cond.instanceMethod yX3_size, Cond.selects RX3 yX3_size yX3_size, Cond.code yX3_size cX3_size 1 (some .int)]
def wsX5_readRows_r4 : List Cond := [Cond.methodLink RX5 67 yX1_remember, Cond.instanceMethod yX1_remember, Cond.selects RX1 yX1_remember yX1_remember, Cond.initialized RX1, Cond.code yX1_remember cX1_remember 3 none, Cond.fieldLink RX1 22 "SureMendings$History" "next" "I", Cond.fieldLink RX1 18 "SureMendings$History" "size" "I", Cond.methodLink RX1 33 Lib.Math.min.name, Cond.static Lib.Math.min.name, Cond.initialized "java/lang/Math", Cond.code Lib.Math.min.name Lib.Math.min.code 2 (some .int), Cond.methodLink RX1 25 yX1_slotAt, Cond.instanceMethod yX1_slotAt, Cond.selects RX1 yX1_slotAt yX1_slotAt, Cond.code yX1_slotAt cX1_slotAt 2 (some (.object "SureMendings$Table")), Cond.fieldLink RX1 11 "SureMendings$History" "states" "[LSureMendings$Table;", Cond.methodLink RX1 29 yX3_copyFrom, Cond.instanceMethod yX3_copyFrom, Cond.selects RX3 yX3_copyFrom yX3_copyFrom, Cond.code yX3_copyFrom cX3_copyFrom 2 none, Cond.fieldLink RX3 32 "SureMendings$Table" "preferring" "Z", Cond.static yX5_copy, Cond.code yX5_copy cX5_copy 2 none, Cond.methodLink RX5 240 Lib.Math.min.name]
def wsX5_readRows_r5 : List Cond := [Cond.methodLink RX5 245 arraycopyName, Cond.native arraycopyName, Cond.static arraycopyName, Cond.initialized "java/lang/System", Cond.methodLink RX5 88 yX3_appendAll, Cond.instanceMethod yX3_appendAll, Cond.selects RX3 yX3_appendAll yX3_appendAll, Cond.code yX3_appendAll cX3_appendAll 3 none, Cond.methodLink RX3 48 yX3_keyAt, Cond.instanceMethod yX3_keyAt, Cond.selects RX3 yX3_keyAt yX3_keyAt, Cond.code yX3_keyAt cX3_keyAt 2 (some .int), Cond.static yX5_at, Cond.code yX5_at cX5_at 2 (some .int), Cond.methodLink RX3 52 yX3_valueAt, Cond.instanceMethod yX3_valueAt, Cond.selects RX3 yX3_valueAt yX3_valueAt, Cond.code yX3_valueAt cX3_valueAt 2 (some .int), Cond.methodLink RX3 55 yX3_weightAt, Cond.instanceMethod yX3_weightAt, Cond.selects RX3 yX3_weightAt yX3_weightAt, Cond.code yX3_weightAt cX3_weightAt 2 (some .int), Cond.methodLink RX3 58 yX3_targetAt, Cond.instanceMethod yX3_targetAt]
def wsX5_readRows_r6 : List Cond := [Cond.selects RX3 yX3_targetAt yX3_targetAt, Cond.code yX3_targetAt cX3_targetAt 2 (some .int), Cond.methodLink RX3 61 yX3_append]
def wsX5_readRows : List Cond := .code yX5_readRows cX5_readRows 1 (some .int) :: ((wsX5_readRows_r1 ++ (wsX5_readRows_r2 ++ (wsX5_readRows_r3 ++ (wsX5_readRows_r4 ++ (wsX5_readRows_r5 ++ wsX5_readRows_r6))))) ++ wsX50 ++ wsX20 ++ wsX30 ++ wsX40 ++ wsX10)
def wsX5_remove_r1 : List Cond := [Cond.fieldLink RX5 10 "SureMendings" "table" "LSureMendings$Table;", Cond.fieldLink RX5 28 "SureMendings" "history" "LSureMendings$History;", Cond.methodLink RX5 91 yX3_has, Cond.instanceMethod yX3_has, Cond.selects RX3 yX3_has yX3_has, Cond.initialized RX3, Cond.code yX3_has cX3_has 2 (some .boolean), Cond.fieldLink RX3 24 "SureMendings$Table" "size" "I", Cond.methodLink RX5 67 yX1_remember, Cond.instanceMethod yX1_remember, Cond.selects RX1 yX1_remember yX1_remember, Cond.initialized RX1, Cond.code yX1_remember cX1_remember 3 none, Cond.fieldLink RX1 22 "SureMendings$History" "next" "I", Cond.fieldLink RX1 18 "SureMendings$History" "size" "I", Cond.methodLink RX1 33 Lib.Math.min.name, Cond.static Lib.Math.min.name, Cond.initialized "java/lang/Math", Cond.code Lib.Math.min.name Lib.Math.min.code 2 (some .int), Cond.methodLink RX1 25 yX1_slotAt, Cond.instanceMethod yX1_slotAt, Cond.selects RX1 yX1_slotAt yX1_slotAt, Cond.code yX1_slotAt cX1_slotAt 2 (some (.object "SureMendings$Table")), Cond.fieldLink RX1 11 "SureMendings$History" "states" "[LSureMendings$Table;"]
def wsX5_remove_r2 : List Cond := [Cond.methodLink RX1 29 yX3_copyFrom, Cond.instanceMethod yX3_copyFrom, Cond.selects RX3 yX3_copyFrom yX3_copyFrom, Cond.code yX3_copyFrom cX3_copyFrom 2 none, Cond.fieldLink RX3 9 "SureMendings$Table" "keys" "[I", Cond.fieldLink RX3 15 "SureMendings$Table" "values" "[I", Cond.fieldLink RX3 18 "SureMendings$Table" "weights" "[I", Cond.fieldLink RX3 21 "SureMendings$Table" "targets" "[I", Cond.fieldLink RX3 32 "SureMendings$Table" "preferring" "Z", Cond.static yX5_copy, Cond.initialized RX5, Cond.code yX5_copy cX5_copy 2 none, Cond.methodLink RX5 240 Lib.Math.min.name, Cond.methodLink RX5 245 arraycopyName, Cond.native arraycopyName, Cond.static arraycopyName, Cond.initialized "java/lang/System", Cond.methodLink RX5 94 yX3_drop, Cond.instanceMethod yX3_drop, Cond.selects RX3 yX3_drop yX3_drop, Cond.code yX3_drop cX3_drop 3 none, Cond.methodLink RX3 65 yX3_has, Cond.methodLink RX3 69 yX3_move, Cond.instanceMethod yX3_move]
def wsX5_remove_r3 : List Cond := [Cond.selects RX3 yX3_move yX3_move, Cond.code yX3_move cX3_move 3 none, Cond.methodLink RX3 48 yX3_keyAt, Cond.instanceMethod yX3_keyAt, Cond.selects RX3 yX3_keyAt yX3_keyAt, Cond.code yX3_keyAt cX3_keyAt 2 (some .int), Cond.static yX5_at, Cond.code yX5_at cX5_at 2 (some .int), Cond.static yX5_put, Cond.code yX5_put cX5_put 3 none, Cond.methodLink RX3 52 yX3_valueAt, Cond.instanceMethod yX3_valueAt, Cond.selects RX3 yX3_valueAt yX3_valueAt, Cond.code yX3_valueAt cX3_valueAt 2 (some .int), Cond.methodLink RX3 55 yX3_weightAt, Cond.instanceMethod yX3_weightAt, Cond.selects RX3 yX3_weightAt yX3_weightAt, Cond.code yX3_weightAt cX3_weightAt 2 (some .int), Cond.methodLink RX3 58 yX3_targetAt, Cond.instanceMethod yX3_targetAt, Cond.selects RX3 yX3_targetAt yX3_targetAt, Cond.code yX3_targetAt cX3_targetAt 2 (some .int), Cond.methodLink RX5 74 yX3_size, Cond.instanceMethod yX3_size]
def wsX5_remove_r4 : List Cond := [Cond.selects RX3 yX3_size yX3_size, Cond.code yX3_size cX3_size 1 (some .int)]
def wsX5_remove : List Cond := .code yX5_remove cX5_remove 2 (some .int) :: ((wsX5_remove_r1 ++ (wsX5_remove_r2 ++ (wsX5_remove_r3 ++ wsX5_remove_r4))) ++ wsX50 ++ wsX30 ++ wsX10)
def wsX5_mend_r1 : List Cond := [Cond.fieldLink RX5 10 "SureMendings" "table" "LSureMendings$Table;", Cond.fieldLink RX5 28 "SureMendings" "history" "LSureMendings$History;", Cond.methodLink RX5 91 yX3_has, Cond.instanceMethod yX3_has, Cond.selects RX3 yX3_has yX3_has, Cond.initialized RX3, Cond.code yX3_has cX3_has 2 (some .boolean), Cond.fieldLink RX3 24 "SureMendings$Table" "size" "I", Cond.methodLink RX5 98 yX3_keyAt, Cond.instanceMethod yX3_keyAt, Cond.selects RX3 yX3_keyAt yX3_keyAt, Cond.code yX3_keyAt cX3_keyAt 2 (some .int), Cond.fieldLink RX3 9 "SureMendings$Table" "keys" "[I", Cond.static yX5_at, Cond.initialized RX5, Cond.code yX5_at cX5_at 2 (some .int), Cond.methodLink RX5 102 yX3_rowsWith, Cond.instanceMethod yX3_rowsWith, Cond.selects RX3 yX3_rowsWith yX3_rowsWith, Cond.code yX3_rowsWith cX3_rowsWith 4 (some .int), Cond.methodLink RX3 48 yX3_keyAt, Cond.methodLink RX5 67 yX1_remember, Cond.instanceMethod yX1_remember, Cond.selects RX1 yX1_remember yX1_remember]
def wsX5_mend_r2 : List Cond := [Cond.initialized RX1, Cond.code yX1_remember cX1_remember 3 none, Cond.fieldLink RX1 22 "SureMendings$History" "next" "I", Cond.fieldLink RX1 18 "SureMendings$History" "size" "I", Cond.methodLink RX1 33 Lib.Math.min.name, Cond.static Lib.Math.min.name, Cond.initialized "java/lang/Math", Cond.code Lib.Math.min.name Lib.Math.min.code 2 (some .int), Cond.methodLink RX1 25 yX1_slotAt, Cond.instanceMethod yX1_slotAt, Cond.selects RX1 yX1_slotAt yX1_slotAt, Cond.code yX1_slotAt cX1_slotAt 2 (some (.object "SureMendings$Table")), Cond.fieldLink RX1 11 "SureMendings$History" "states" "[LSureMendings$Table;", Cond.methodLink RX1 29 yX3_copyFrom, Cond.instanceMethod yX3_copyFrom, Cond.selects RX3 yX3_copyFrom yX3_copyFrom, Cond.code yX3_copyFrom cX3_copyFrom 2 none, Cond.fieldLink RX3 15 "SureMendings$Table" "values" "[I", Cond.fieldLink RX3 18 "SureMendings$Table" "weights" "[I", Cond.fieldLink RX3 21 "SureMendings$Table" "targets" "[I", Cond.fieldLink RX3 32 "SureMendings$Table" "preferring" "Z", Cond.static yX5_copy, Cond.code yX5_copy cX5_copy 2 none, Cond.methodLink RX5 240 Lib.Math.min.name]
def wsX5_mend_r3 : List Cond := [Cond.methodLink RX5 245 arraycopyName, Cond.native arraycopyName, Cond.static arraycopyName, Cond.initialized "java/lang/System", Cond.methodLink RX5 105 yX3_dropOthersLike, Cond.instanceMethod yX3_dropOthersLike, Cond.selects RX3 yX3_dropOthersLike yX3_dropOthersLike, Cond.code yX3_dropOthersLike cX3_dropOthersLike 5 none, Cond.methodLink RX3 65 yX3_has, Cond.methodLink RX3 69 yX3_move, Cond.instanceMethod yX3_move, Cond.selects RX3 yX3_move yX3_move, Cond.code yX3_move cX3_move 3 none, Cond.static yX5_put, Cond.code yX5_put cX5_put 3 none, Cond.methodLink RX3 52 yX3_valueAt, Cond.instanceMethod yX3_valueAt, Cond.selects RX3 yX3_valueAt yX3_valueAt, Cond.code yX3_valueAt cX3_valueAt 2 (some .int), Cond.methodLink RX3 55 yX3_weightAt, Cond.instanceMethod yX3_weightAt, Cond.selects RX3 yX3_weightAt yX3_weightAt, Cond.code yX3_weightAt cX3_weightAt 2 (some .int), Cond.methodLink RX3 58 yX3_targetAt]
def wsX5_mend_r4 : List Cond := [Cond.instanceMethod yX3_targetAt, Cond.selects RX3 yX3_targetAt yX3_targetAt, Cond.code yX3_targetAt cX3_targetAt 2 (some .int)]
def wsX5_mend : List Cond := .code yX5_mend cX5_mend 3 (some .int) :: ((wsX5_mend_r1 ++ (wsX5_mend_r2 ++ (wsX5_mend_r3 ++ wsX5_mend_r4))) ++ wsX50 ++ wsX30 ++ wsX10)
def wsX5_chosenBy_r1 : List Cond := [Cond.fieldLink RX5 10 "SureMendings" "table" "LSureMendings$Table;", Cond.methodLink RX5 234 yX3_firstWith, Cond.instanceMethod yX3_firstWith, Cond.selects RX3 yX3_firstWith yX3_firstWith, Cond.initialized RX3, Cond.code yX3_firstWith cX3_firstWith 3 (some .int), Cond.fieldLink RX3 24 "SureMendings$Table" "size" "I", Cond.methodLink RX3 48 yX3_keyAt, Cond.instanceMethod yX3_keyAt, Cond.selects RX3 yX3_keyAt yX3_keyAt, Cond.code yX3_keyAt cX3_keyAt 2 (some .int), Cond.fieldLink RX3 9 "SureMendings$Table" "keys" "[I", Cond.static yX5_at, Cond.initialized RX5, Cond.code yX5_at cX5_at 2 (some .int), Cond.methodLink RX5 237 yX3_lastWith, Cond.instanceMethod yX3_lastWith, Cond.selects RX3 yX3_lastWith yX3_lastWith, Cond.code yX3_lastWith cX3_lastWith 3 (some .int), Cond.methodLink RX5 170 yX3_heaviestWith, Cond.instanceMethod yX3_heaviestWith, Cond.selects RX3 yX3_heaviestWith yX3_heaviestWith, Cond.code yX3_heaviestWith cX3_heaviestWith 4 (some .int), Cond.methodLink RX3 55 yX3_weightAt]
def wsX5_chosenBy_r2 : List Cond := [Cond.instanceMethod yX3_weightAt, Cond.selects RX3 yX3_weightAt yX3_weightAt, Cond.code yX3_weightAt cX3_weightAt 2 (some .int), Cond.fieldLink RX3 18 "SureMendings$Table" "weights" "[I"]
def wsX5_chosenBy : List Cond := .code yX5_chosenBy cX5_chosenBy 3 (some .int) :: ((wsX5_chosenBy_r1 ++ wsX5_chosenBy_r2) ++ wsX50 ++ wsX30)
def wsX5_mendAll_r1 : List Cond := [Cond.fieldLink RX5 10 "SureMendings" "table" "LSureMendings$Table;", Cond.fieldLink RX5 28 "SureMendings" "history" "LSureMendings$History;", Cond.methodLink RX5 108 yX3_doubledKeys, Cond.instanceMethod yX3_doubledKeys, Cond.selects RX3 yX3_doubledKeys yX3_doubledKeys, Cond.initialized RX3, Cond.code yX3_doubledKeys cX3_doubledKeys 1 (some .int), Cond.methodLink RX3 73 yX3_keysWithAtLeast, Cond.instanceMethod yX3_keysWithAtLeast, Cond.selects RX3 yX3_keysWithAtLeast yX3_keysWithAtLeast, Cond.code yX3_keysWithAtLeast cX3_keysWithAtLeast 4 (some .int), Cond.methodLink RX3 76 yX3_rowsWith, Cond.instanceMethod yX3_rowsWith, Cond.selects RX3 yX3_rowsWith yX3_rowsWith, Cond.code yX3_rowsWith cX3_rowsWith 4 (some .int), Cond.fieldLink RX3 24 "SureMendings$Table" "size" "I", Cond.methodLink RX3 48 yX3_keyAt, Cond.instanceMethod yX3_keyAt, Cond.selects RX3 yX3_keyAt yX3_keyAt, Cond.code yX3_keyAt cX3_keyAt 2 (some .int), Cond.fieldLink RX3 9 "SureMendings$Table" "keys" "[I", Cond.static yX5_at, Cond.initialized RX5, Cond.code yX5_at cX5_at 2 (some .int)]
def wsX5_mendAll_r2 : List Cond := [Cond.methodLink RX5 67 yX1_remember, Cond.instanceMethod yX1_remember, Cond.selects RX1 yX1_remember yX1_remember, Cond.initialized RX1, Cond.code yX1_remember cX1_remember 3 none, Cond.fieldLink RX1 22 "SureMendings$History" "next" "I", Cond.fieldLink RX1 18 "SureMendings$History" "size" "I", Cond.methodLink RX1 33 Lib.Math.min.name, Cond.static Lib.Math.min.name, Cond.initialized "java/lang/Math", Cond.code Lib.Math.min.name Lib.Math.min.code 2 (some .int), Cond.methodLink RX1 25 yX1_slotAt, Cond.instanceMethod yX1_slotAt, Cond.selects RX1 yX1_slotAt yX1_slotAt, Cond.code yX1_slotAt cX1_slotAt 2 (some (.object "SureMendings$Table")), Cond.fieldLink RX1 11 "SureMendings$History" "states" "[LSureMendings$Table;", Cond.methodLink RX1 29 yX3_copyFrom, Cond.instanceMethod yX3_copyFrom, Cond.selects RX3 yX3_copyFrom yX3_copyFrom, Cond.code yX3_copyFrom cX3_copyFrom 2 none, Cond.fieldLink RX3 15 "SureMendings$Table" "values" "[I", Cond.fieldLink RX3 18 "SureMendings$Table" "weights" "[I", Cond.fieldLink RX3 21 "SureMendings$Table" "targets" "[I", Cond.fieldLink RX3 32 "SureMendings$Table" "preferring" "Z"]
def wsX5_mendAll_r3 : List Cond := [Cond.static yX5_copy, Cond.code yX5_copy cX5_copy 2 none, Cond.methodLink RX5 240 Lib.Math.min.name, Cond.methodLink RX5 245 arraycopyName, Cond.native arraycopyName, Cond.static arraycopyName, Cond.initialized "java/lang/System", Cond.methodLink RX5 74 yX3_size, Cond.instanceMethod yX3_size, Cond.selects RX3 yX3_size yX3_size, Cond.code yX3_size cX3_size 1 (some .int), Cond.methodLink RX5 111 yX5_chosenBy, Cond.instanceMethod yX5_chosenBy, Cond.selects RX5 yX5_chosenBy yX5_chosenBy, Cond.code yX5_chosenBy cX5_chosenBy 3 (some .int), Cond.methodLink RX5 234 yX3_firstWith, Cond.instanceMethod yX3_firstWith, Cond.selects RX3 yX3_firstWith yX3_firstWith, Cond.code yX3_firstWith cX3_firstWith 3 (some .int), Cond.methodLink RX5 237 yX3_lastWith, Cond.instanceMethod yX3_lastWith, Cond.selects RX3 yX3_lastWith yX3_lastWith, Cond.code yX3_lastWith cX3_lastWith 3 (some .int), Cond.methodLink RX5 170 yX3_heaviestWith]
def wsX5_mendAll_r4 : List Cond := [Cond.instanceMethod yX3_heaviestWith, Cond.selects RX3 yX3_heaviestWith yX3_heaviestWith, Cond.code yX3_heaviestWith cX3_heaviestWith 4 (some .int), Cond.methodLink RX3 55 yX3_weightAt, Cond.instanceMethod yX3_weightAt, Cond.selects RX3 yX3_weightAt yX3_weightAt, Cond.code yX3_weightAt cX3_weightAt 2 (some .int), Cond.methodLink RX5 105 yX3_dropOthersLike, Cond.instanceMethod yX3_dropOthersLike, Cond.selects RX3 yX3_dropOthersLike yX3_dropOthersLike, Cond.code yX3_dropOthersLike cX3_dropOthersLike 5 none, Cond.methodLink RX3 65 yX3_has, Cond.instanceMethod yX3_has, Cond.selects RX3 yX3_has yX3_has, Cond.code yX3_has cX3_has 2 (some .boolean), Cond.methodLink RX3 69 yX3_move, Cond.instanceMethod yX3_move, Cond.selects RX3 yX3_move yX3_move, Cond.code yX3_move cX3_move 3 none, Cond.static yX5_put, Cond.code yX5_put cX5_put 3 none, Cond.methodLink RX3 52 yX3_valueAt, Cond.instanceMethod yX3_valueAt, Cond.selects RX3 yX3_valueAt yX3_valueAt]
def wsX5_mendAll_r5 : List Cond := [Cond.code yX3_valueAt cX3_valueAt 2 (some .int), Cond.methodLink RX3 58 yX3_targetAt, Cond.instanceMethod yX3_targetAt, Cond.selects RX3 yX3_targetAt yX3_targetAt, Cond.code yX3_targetAt cX3_targetAt 2 (some .int)]
def wsX5_mendAll : List Cond := .code yX5_mendAll cX5_mendAll 4 (some .int) :: ((wsX5_mendAll_r1 ++ (wsX5_mendAll_r2 ++ (wsX5_mendAll_r3 ++ (wsX5_mendAll_r4 ++ wsX5_mendAll_r5)))) ++ wsX50 ++ wsX30 ++ wsX10)
def wsX5_choicesNow_r1 : List Cond := [Cond.fieldLink RX5 21 "SureMendings" "choices" "LSureMendings$Choices;", Cond.methodLink RX5 231 yX0_update, Cond.instanceMethod yX0_update, Cond.selects RX0 yX0_update yX0_update, Cond.initialized RX0, Cond.code yX0_update cX0_update 2 none, Cond.fieldLink RX0 9 "SureMendings$Choices" "optionCounts" "[I", Cond.fieldLink RX0 21 "SureMendings$Choices" "targetSets" "[I", Cond.fieldLink RX0 24 "SureMendings$Choices" "table" "LSureMendings$Table;", Cond.fieldLink RX0 52 "SureMendings$Choices" "mendings" "I", Cond.fieldLink RX0 18 "SureMendings$Choices" "strides" "[I", Cond.methodLink RX0 28 yJ7_fill_53178, Cond.static yJ7_fill_53178, Cond.initialized RJ7, Cond.code yJ7_fill_53178 cJ7_fill_53178 4 none, Cond.methodLink RX0 34 yX3_size, Cond.instanceMethod yX3_size, Cond.selects RX3 yX3_size yX3_size, Cond.initialized RX3, Cond.code yX3_size cX3_size 1 (some .int), Cond.fieldLink RX3 24 "SureMendings$Table" "size" "I", Cond.methodLink RX0 40 yX3_canBeKept, Cond.instanceMethod yX3_canBeKept, Cond.selects RX3 yX3_canBeKept yX3_canBeKept]
def wsX5_choicesNow_r2 : List Cond := [Cond.code yX3_canBeKept cX3_canBeKept 2 (some .boolean), Cond.fieldLink RX3 32 "SureMendings$Table" "preferring" "Z", Cond.methodLink RX3 55 yX3_weightAt, Cond.instanceMethod yX3_weightAt, Cond.selects RX3 yX3_weightAt yX3_weightAt, Cond.code yX3_weightAt cX3_weightAt 2 (some .int), Cond.fieldLink RX3 18 "SureMendings$Table" "weights" "[I", Cond.static yX5_at, Cond.initialized RX5, Cond.code yX5_at cX5_at 2 (some .int), Cond.methodLink RX3 48 yX3_keyAt, Cond.instanceMethod yX3_keyAt, Cond.selects RX3 yX3_keyAt yX3_keyAt, Cond.code yX3_keyAt cX3_keyAt 2 (some .int), Cond.fieldLink RX3 9 "SureMendings$Table" "keys" "[I", Cond.methodLink RX3 79 yX3_heaviestWith, Cond.instanceMethod yX3_heaviestWith, Cond.selects RX3 yX3_heaviestWith yX3_heaviestWith, Cond.code yX3_heaviestWith cX3_heaviestWith 4 (some .int), Cond.methodLink RX0 44 yX3_keyAt, Cond.methodLink RX0 48 yX0_addOption, Cond.instanceMethod yX0_addOption, Cond.selects RX0 yX0_addOption yX0_addOption, Cond.code yX0_addOption cX0_addOption 4 none]
def wsX5_choicesNow_r3 : List Cond := [Cond.fieldLink RX0 15 "SureMendings$Choices" "optionRows" "[I", Cond.methodLink RX0 63 yX0_optionsOf, Cond.instanceMethod yX0_optionsOf, Cond.selects RX0 yX0_optionsOf yX0_optionsOf, Cond.code yX0_optionsOf cX0_optionsOf 2 (some .int), Cond.static yX5_put, Cond.code yX5_put cX5_put 3 none, Cond.methodLink RX0 70 yX0_targetBit, Cond.instanceMethod yX0_targetBit, Cond.selects RX0 yX0_targetBit yX0_targetBit, Cond.code yX0_targetBit cX0_targetBit 3 (some .int), Cond.methodLink RX0 73 yX3_targetAt, Cond.instanceMethod yX3_targetAt, Cond.selects RX3 yX3_targetAt yX3_targetAt, Cond.code yX3_targetAt cX3_targetAt 2 (some .int), Cond.fieldLink RX3 21 "SureMendings$Table" "targets" "[I", Cond.static yX5_isKey, Cond.code yX5_isKey cX5_isKey 1 (some .boolean), Cond.methodLink RX0 60 yX0_isThere, Cond.instanceMethod yX0_isThere, Cond.selects RX0 yX0_isThere yX0_isThere, Cond.code yX0_isThere cX0_isThere 2 (some .boolean)]
def wsX5_choicesNow : List Cond := .code yX5_choicesNow cX5_choicesNow 1 (some (.object "SureMendings$Choices")) :: ((wsX5_choicesNow_r1 ++ (wsX5_choicesNow_r2 ++ wsX5_choicesNow_r3)) ++ wsX50 ++ wsX00 ++ wsX30)
def wsX5_prefer_r1 : List Cond := [Cond.fieldLink RX5 10 "SureMendings" "table" "LSureMendings$Table;", Cond.fieldLink RX5 28 "SureMendings" "history" "LSureMendings$History;", Cond.methodLink RX5 115 yX3_prefersHeaviest, Cond.instanceMethod yX3_prefersHeaviest, Cond.selects RX3 yX3_prefersHeaviest yX3_prefersHeaviest, Cond.initialized RX3, Cond.code yX3_prefersHeaviest cX3_prefersHeaviest 1 (some .boolean), Cond.fieldLink RX3 32 "SureMendings$Table" "preferring" "Z", Cond.methodLink RX5 67 yX1_remember, Cond.instanceMethod yX1_remember, Cond.selects RX1 yX1_remember yX1_remember, Cond.initialized RX1, Cond.code yX1_remember cX1_remember 3 none, Cond.fieldLink RX1 22 "SureMendings$History" "next" "I", Cond.fieldLink RX1 18 "SureMendings$History" "size" "I", Cond.methodLink RX1 33 Lib.Math.min.name, Cond.static Lib.Math.min.name, Cond.initialized "java/lang/Math", Cond.code Lib.Math.min.name Lib.Math.min.code 2 (some .int), Cond.methodLink RX1 25 yX1_slotAt, Cond.instanceMethod yX1_slotAt, Cond.selects RX1 yX1_slotAt yX1_slotAt, Cond.code yX1_slotAt cX1_slotAt 2 (some (.object "SureMendings$Table")), Cond.fieldLink RX1 11 "SureMendings$History" "states" "[LSureMendings$Table;"]
def wsX5_prefer_r2 : List Cond := [Cond.methodLink RX1 29 yX3_copyFrom, Cond.instanceMethod yX3_copyFrom, Cond.selects RX3 yX3_copyFrom yX3_copyFrom, Cond.code yX3_copyFrom cX3_copyFrom 2 none, Cond.fieldLink RX3 9 "SureMendings$Table" "keys" "[I", Cond.fieldLink RX3 15 "SureMendings$Table" "values" "[I", Cond.fieldLink RX3 18 "SureMendings$Table" "weights" "[I", Cond.fieldLink RX3 21 "SureMendings$Table" "targets" "[I", Cond.fieldLink RX3 24 "SureMendings$Table" "size" "I", Cond.static yX5_copy, Cond.initialized RX5, Cond.code yX5_copy cX5_copy 2 none, Cond.methodLink RX5 240 Lib.Math.min.name, Cond.methodLink RX5 245 arraycopyName, Cond.native arraycopyName, Cond.static arraycopyName, Cond.initialized "java/lang/System", Cond.methodLink RX5 118 yX3_setPreference, Cond.instanceMethod yX3_setPreference, Cond.selects RX3 yX3_setPreference yX3_setPreference, Cond.code yX3_setPreference cX3_setPreference 2 none, Cond.methodLink RX5 122 yX5_choicesNow, Cond.instanceMethod yX5_choicesNow, Cond.selects RX5 yX5_choicesNow yX5_choicesNow]
def wsX5_prefer_r3 : List Cond := [Cond.code yX5_choicesNow cX5_choicesNow 1 (some (.object "SureMendings$Choices")), Cond.fieldLink RX5 21 "SureMendings" "choices" "LSureMendings$Choices;", Cond.methodLink RX5 231 yX0_update, Cond.instanceMethod yX0_update, Cond.selects RX0 yX0_update yX0_update, Cond.initialized RX0, Cond.code yX0_update cX0_update 2 none, Cond.fieldLink RX0 9 "SureMendings$Choices" "optionCounts" "[I", Cond.fieldLink RX0 21 "SureMendings$Choices" "targetSets" "[I", Cond.fieldLink RX0 24 "SureMendings$Choices" "table" "LSureMendings$Table;", Cond.fieldLink RX0 52 "SureMendings$Choices" "mendings" "I", Cond.fieldLink RX0 18 "SureMendings$Choices" "strides" "[I", Cond.methodLink RX0 28 yJ7_fill_53178, Cond.static yJ7_fill_53178, Cond.initialized RJ7, Cond.code yJ7_fill_53178 cJ7_fill_53178 4 none, Cond.methodLink RX0 34 yX3_size, Cond.instanceMethod yX3_size, Cond.selects RX3 yX3_size yX3_size, Cond.code yX3_size cX3_size 1 (some .int), Cond.methodLink RX0 40 yX3_canBeKept, Cond.instanceMethod yX3_canBeKept, Cond.selects RX3 yX3_canBeKept yX3_canBeKept, Cond.code yX3_canBeKept cX3_canBeKept 2 (some .boolean)]
def wsX5_prefer_r4 : List Cond := [Cond.methodLink RX3 55 yX3_weightAt, Cond.instanceMethod yX3_weightAt, Cond.selects RX3 yX3_weightAt yX3_weightAt, Cond.code yX3_weightAt cX3_weightAt 2 (some .int), Cond.static yX5_at, Cond.code yX5_at cX5_at 2 (some .int), Cond.methodLink RX3 48 yX3_keyAt, Cond.instanceMethod yX3_keyAt, Cond.selects RX3 yX3_keyAt yX3_keyAt, Cond.code yX3_keyAt cX3_keyAt 2 (some .int), Cond.methodLink RX3 79 yX3_heaviestWith, Cond.instanceMethod yX3_heaviestWith, Cond.selects RX3 yX3_heaviestWith yX3_heaviestWith, Cond.code yX3_heaviestWith cX3_heaviestWith 4 (some .int), Cond.methodLink RX0 44 yX3_keyAt, Cond.methodLink RX0 48 yX0_addOption, Cond.instanceMethod yX0_addOption, Cond.selects RX0 yX0_addOption yX0_addOption, Cond.code yX0_addOption cX0_addOption 4 none, Cond.fieldLink RX0 15 "SureMendings$Choices" "optionRows" "[I", Cond.methodLink RX0 63 yX0_optionsOf, Cond.instanceMethod yX0_optionsOf, Cond.selects RX0 yX0_optionsOf yX0_optionsOf, Cond.code yX0_optionsOf cX0_optionsOf 2 (some .int)]
def wsX5_prefer_r5 : List Cond := [Cond.static yX5_put, Cond.code yX5_put cX5_put 3 none, Cond.methodLink RX0 70 yX0_targetBit, Cond.instanceMethod yX0_targetBit, Cond.selects RX0 yX0_targetBit yX0_targetBit, Cond.code yX0_targetBit cX0_targetBit 3 (some .int), Cond.methodLink RX0 73 yX3_targetAt, Cond.instanceMethod yX3_targetAt, Cond.selects RX3 yX3_targetAt yX3_targetAt, Cond.code yX3_targetAt cX3_targetAt 2 (some .int), Cond.static yX5_isKey, Cond.code yX5_isKey cX5_isKey 1 (some .boolean), Cond.methodLink RX0 60 yX0_isThere, Cond.instanceMethod yX0_isThere, Cond.selects RX0 yX0_isThere yX0_isThere, Cond.code yX0_isThere cX0_isThere 2 (some .boolean), Cond.methodLink RX5 126 yX0_mendings, Cond.instanceMethod yX0_mendings, Cond.selects RX0 yX0_mendings yX0_mendings, Cond.code yX0_mendings cX0_mendings 1 (some .int)]
def wsX5_prefer : List Cond := .code yX5_prefer cX5_prefer 2 (some .int) :: ((wsX5_prefer_r1 ++ (wsX5_prefer_r2 ++ (wsX5_prefer_r3 ++ (wsX5_prefer_r4 ++ wsX5_prefer_r5)))) ++ wsX50 ++ wsX30 ++ wsX10 ++ wsX00)
def wsX5_type : List Cond := .code yX5_type cX5_type 2 (some .int) :: ([.fieldLink RX5 42 "SureMendings" "text" "LSureMendings$Text;", .methodLink RX5 129 yX4_append, .instanceMethod yX4_append, .selects RX4 yX4_append yX4_append, .initialized RX4, .code yX4_append cX4_append 2 (some .boolean), .fieldLink RX4 15 "SureMendings$Text" "length" "I", .fieldLink RX4 9 "SureMendings$Text" "characters" "[C", .methodLink RX5 131 yX4_length, .instanceMethod yX4_length, .selects RX4 yX4_length yX4_length, .code yX4_length cX4_length 1 (some .int)] ++ wsX50 ++ wsX40)
def wsX5_clearText : List Cond := .code yX5_clearText cX5_clearText 2 (some .int) :: ([.fieldLink RX5 42 "SureMendings" "text" "LSureMendings$Text;", .methodLink RX5 131 yX4_length, .instanceMethod yX4_length, .selects RX4 yX4_length yX4_length, .initialized RX4, .code yX4_length cX4_length 1 (some .int), .fieldLink RX4 15 "SureMendings$Text" "length" "I", .methodLink RX5 134 yX4_empty, .instanceMethod yX4_empty, .selects RX4 yX4_empty yX4_empty, .code yX4_empty cX4_empty 1 none] ++ wsX50 ++ wsX40)
def wsX5_undo_r1 : List Cond := [Cond.fieldLink RX5 28 "SureMendings" "history" "LSureMendings$History;", Cond.fieldLink RX5 10 "SureMendings" "table" "LSureMendings$Table;", Cond.methodLink RX5 137 yX1_takeBack, Cond.instanceMethod yX1_takeBack, Cond.selects RX1 yX1_takeBack yX1_takeBack, Cond.initialized RX1, Cond.code yX1_takeBack cX1_takeBack 4 (some .boolean), Cond.fieldLink RX1 22 "SureMendings$History" "next" "I", Cond.fieldLink RX1 18 "SureMendings$History" "size" "I", Cond.methodLink RX1 25 yX1_slotAt, Cond.instanceMethod yX1_slotAt, Cond.selects RX1 yX1_slotAt yX1_slotAt, Cond.code yX1_slotAt cX1_slotAt 2 (some (.object "SureMendings$Table")), Cond.fieldLink RX1 11 "SureMendings$History" "states" "[LSureMendings$Table;", Cond.methodLink RX1 29 yX3_copyFrom, Cond.instanceMethod yX3_copyFrom, Cond.selects RX3 yX3_copyFrom yX3_copyFrom, Cond.initialized RX3, Cond.code yX3_copyFrom cX3_copyFrom 2 none, Cond.fieldLink RX3 9 "SureMendings$Table" "keys" "[I", Cond.fieldLink RX3 15 "SureMendings$Table" "values" "[I", Cond.fieldLink RX3 18 "SureMendings$Table" "weights" "[I", Cond.fieldLink RX3 21 "SureMendings$Table" "targets" "[I", Cond.fieldLink RX3 24 "SureMendings$Table" "size" "I"]
def wsX5_undo_r2 : List Cond := [Cond.fieldLink RX3 32 "SureMendings$Table" "preferring" "Z", Cond.static yX5_copy, Cond.initialized RX5, Cond.code yX5_copy cX5_copy 2 none, Cond.methodLink RX5 240 Lib.Math.min.name, Cond.static Lib.Math.min.name, Cond.initialized "java/lang/Math", Cond.code Lib.Math.min.name Lib.Math.min.code 2 (some .int), Cond.methodLink RX5 245 arraycopyName, Cond.native arraycopyName, Cond.static arraycopyName, Cond.initialized "java/lang/System", Cond.methodLink RX5 141 yX1_size, Cond.instanceMethod yX1_size, Cond.selects RX1 yX1_size yX1_size, Cond.code yX1_size cX1_size 1 (some .int)]
def wsX5_undo : List Cond := .code yX5_undo cX5_undo 1 (some .int) :: ((wsX5_undo_r1 ++ wsX5_undo_r2) ++ wsX50 ++ wsX10 ++ wsX30)
def wsX5_keep_r1 : List Cond := [Cond.fieldLink RX5 32 "SureMendings" "snapshot" "LSureMendings$Table;", Cond.fieldLink RX5 10 "SureMendings" "table" "LSureMendings$Table;", Cond.fieldLink RX5 35 "SureMendings" "snapshotTaken" "Z", Cond.methodLink RX5 142 yX3_copyFrom, Cond.instanceMethod yX3_copyFrom, Cond.selects RX3 yX3_copyFrom yX3_copyFrom, Cond.initialized RX3, Cond.code yX3_copyFrom cX3_copyFrom 2 none, Cond.fieldLink RX3 9 "SureMendings$Table" "keys" "[I", Cond.fieldLink RX3 15 "SureMendings$Table" "values" "[I", Cond.fieldLink RX3 18 "SureMendings$Table" "weights" "[I", Cond.fieldLink RX3 21 "SureMendings$Table" "targets" "[I", Cond.fieldLink RX3 24 "SureMendings$Table" "size" "I", Cond.fieldLink RX3 32 "SureMendings$Table" "preferring" "Z", Cond.static yX5_copy, Cond.initialized RX5, Cond.code yX5_copy cX5_copy 2 none, Cond.methodLink RX5 240 Lib.Math.min.name, Cond.static Lib.Math.min.name, Cond.initialized "java/lang/Math", Cond.code Lib.Math.min.name Lib.Math.min.code 2 (some .int), Cond.methodLink RX5 245 arraycopyName, Cond.native arraycopyName, Cond.static arraycopyName]
def wsX5_keep_r2 : List Cond := [Cond.initialized "java/lang/System", Cond.methodLink RX5 74 yX3_size, Cond.instanceMethod yX3_size, Cond.selects RX3 yX3_size yX3_size, Cond.code yX3_size cX3_size 1 (some .int)]
def wsX5_keep : List Cond := .code yX5_keep cX5_keep 1 (some .int) :: ((wsX5_keep_r1 ++ wsX5_keep_r2) ++ wsX50 ++ wsX30)
def wsX5_restore_r1 : List Cond := [Cond.fieldLink RX5 35 "SureMendings" "snapshotTaken" "Z", Cond.fieldLink RX5 28 "SureMendings" "history" "LSureMendings$History;", Cond.fieldLink RX5 10 "SureMendings" "table" "LSureMendings$Table;", Cond.fieldLink RX5 32 "SureMendings" "snapshot" "LSureMendings$Table;", Cond.methodLink RX5 67 yX1_remember, Cond.instanceMethod yX1_remember, Cond.selects RX1 yX1_remember yX1_remember, Cond.initialized RX1, Cond.code yX1_remember cX1_remember 3 none, Cond.fieldLink RX1 22 "SureMendings$History" "next" "I", Cond.fieldLink RX1 18 "SureMendings$History" "size" "I", Cond.methodLink RX1 33 Lib.Math.min.name, Cond.static Lib.Math.min.name, Cond.initialized "java/lang/Math", Cond.code Lib.Math.min.name Lib.Math.min.code 2 (some .int), Cond.methodLink RX1 25 yX1_slotAt, Cond.instanceMethod yX1_slotAt, Cond.selects RX1 yX1_slotAt yX1_slotAt, Cond.code yX1_slotAt cX1_slotAt 2 (some (.object "SureMendings$Table")), Cond.fieldLink RX1 11 "SureMendings$History" "states" "[LSureMendings$Table;", Cond.methodLink RX1 29 yX3_copyFrom, Cond.instanceMethod yX3_copyFrom, Cond.selects RX3 yX3_copyFrom yX3_copyFrom, Cond.initialized RX3]
def wsX5_restore_r2 : List Cond := [Cond.code yX3_copyFrom cX3_copyFrom 2 none, Cond.fieldLink RX3 9 "SureMendings$Table" "keys" "[I", Cond.fieldLink RX3 15 "SureMendings$Table" "values" "[I", Cond.fieldLink RX3 18 "SureMendings$Table" "weights" "[I", Cond.fieldLink RX3 21 "SureMendings$Table" "targets" "[I", Cond.fieldLink RX3 24 "SureMendings$Table" "size" "I", Cond.fieldLink RX3 32 "SureMendings$Table" "preferring" "Z", Cond.static yX5_copy, Cond.initialized RX5, Cond.code yX5_copy cX5_copy 2 none, Cond.methodLink RX5 240 Lib.Math.min.name, Cond.methodLink RX5 245 arraycopyName, Cond.native arraycopyName, Cond.static arraycopyName, Cond.initialized "java/lang/System", Cond.methodLink RX5 142 yX3_copyFrom, Cond.methodLink RX5 74 yX3_size, Cond.instanceMethod yX3_size, Cond.selects RX3 yX3_size yX3_size, Cond.code yX3_size cX3_size 1 (some .int)]
def wsX5_restore : List Cond := .code yX5_restore cX5_restore 1 (some .int) :: ((wsX5_restore_r1 ++ wsX5_restore_r2) ++ wsX50 ++ wsX10 ++ wsX30)
def wsX5_oneIf : List Cond := .code yX5_oneIf cX5_oneIf 1 (some .int) :: ([])
def wsX5_row_r1 : List Cond := [Cond.fieldLink RX5 10 "SureMendings" "table" "LSureMendings$Table;", Cond.methodLink RX5 91 yX3_has, Cond.instanceMethod yX3_has, Cond.selects RX3 yX3_has yX3_has, Cond.initialized RX3, Cond.code yX3_has cX3_has 2 (some .boolean), Cond.fieldLink RX3 24 "SureMendings$Table" "size" "I", Cond.methodLink RX5 98 yX3_keyAt, Cond.instanceMethod yX3_keyAt, Cond.selects RX3 yX3_keyAt yX3_keyAt, Cond.code yX3_keyAt cX3_keyAt 2 (some .int), Cond.fieldLink RX3 9 "SureMendings$Table" "keys" "[I", Cond.static yX5_at, Cond.initialized RX5, Cond.code yX5_at cX5_at 2 (some .int), Cond.methodLink RX5 145 yX3_valueAt, Cond.instanceMethod yX3_valueAt, Cond.selects RX3 yX3_valueAt yX3_valueAt, Cond.code yX3_valueAt cX3_valueAt 2 (some .int), Cond.fieldLink RX3 15 "SureMendings$Table" "values" "[I", Cond.methodLink RX5 148 yX3_weightAt, Cond.instanceMethod yX3_weightAt, Cond.selects RX3 yX3_weightAt yX3_weightAt, Cond.code yX3_weightAt cX3_weightAt 2 (some .int)]
def wsX5_row_r2 : List Cond := [Cond.fieldLink RX3 18 "SureMendings$Table" "weights" "[I", Cond.methodLink RX5 151 yX3_targetAt, Cond.instanceMethod yX3_targetAt, Cond.selects RX3 yX3_targetAt yX3_targetAt, Cond.code yX3_targetAt cX3_targetAt 2 (some .int), Cond.fieldLink RX3 21 "SureMendings$Table" "targets" "[I", Cond.methodLink RX5 154 yX3_canBeKept, Cond.instanceMethod yX3_canBeKept, Cond.selects RX3 yX3_canBeKept yX3_canBeKept, Cond.code yX3_canBeKept cX3_canBeKept 2 (some .boolean), Cond.fieldLink RX3 32 "SureMendings$Table" "preferring" "Z", Cond.methodLink RX3 55 yX3_weightAt, Cond.methodLink RX3 48 yX3_keyAt, Cond.methodLink RX3 79 yX3_heaviestWith, Cond.instanceMethod yX3_heaviestWith, Cond.selects RX3 yX3_heaviestWith yX3_heaviestWith, Cond.code yX3_heaviestWith cX3_heaviestWith 4 (some .int), Cond.methodLink RX5 157 yX5_oneIf, Cond.static yX5_oneIf, Cond.code yX5_oneIf cX5_oneIf 1 (some .int), Cond.methodLink RX5 122 yX5_choicesNow, Cond.instanceMethod yX5_choicesNow, Cond.selects RX5 yX5_choicesNow yX5_choicesNow, Cond.code yX5_choicesNow cX5_choicesNow 1 (some (.object "SureMendings$Choices"))]
def wsX5_row_r3 : List Cond := [Cond.fieldLink RX5 21 "SureMendings" "choices" "LSureMendings$Choices;", Cond.methodLink RX5 231 yX0_update, Cond.instanceMethod yX0_update, Cond.selects RX0 yX0_update yX0_update, Cond.initialized RX0, Cond.code yX0_update cX0_update 2 none, Cond.fieldLink RX0 9 "SureMendings$Choices" "optionCounts" "[I", Cond.fieldLink RX0 21 "SureMendings$Choices" "targetSets" "[I", Cond.fieldLink RX0 24 "SureMendings$Choices" "table" "LSureMendings$Table;", Cond.fieldLink RX0 52 "SureMendings$Choices" "mendings" "I", Cond.fieldLink RX0 18 "SureMendings$Choices" "strides" "[I", Cond.methodLink RX0 28 yJ7_fill_53178, Cond.static yJ7_fill_53178, Cond.initialized RJ7, Cond.code yJ7_fill_53178 cJ7_fill_53178 4 none, Cond.methodLink RX0 34 yX3_size, Cond.instanceMethod yX3_size, Cond.selects RX3 yX3_size yX3_size, Cond.code yX3_size cX3_size 1 (some .int), Cond.methodLink RX0 40 yX3_canBeKept, Cond.methodLink RX0 44 yX3_keyAt, Cond.methodLink RX0 48 yX0_addOption, Cond.instanceMethod yX0_addOption, Cond.selects RX0 yX0_addOption yX0_addOption]
def wsX5_row_r4 : List Cond := [Cond.code yX0_addOption cX0_addOption 4 none, Cond.fieldLink RX0 15 "SureMendings$Choices" "optionRows" "[I", Cond.methodLink RX0 63 yX0_optionsOf, Cond.instanceMethod yX0_optionsOf, Cond.selects RX0 yX0_optionsOf yX0_optionsOf, Cond.code yX0_optionsOf cX0_optionsOf 2 (some .int), Cond.static yX5_put, Cond.code yX5_put cX5_put 3 none, Cond.methodLink RX0 70 yX0_targetBit, Cond.instanceMethod yX0_targetBit, Cond.selects RX0 yX0_targetBit yX0_targetBit, Cond.code yX0_targetBit cX0_targetBit 3 (some .int), Cond.methodLink RX0 73 yX3_targetAt, Cond.static yX5_isKey, Cond.code yX5_isKey cX5_isKey 1 (some .boolean), Cond.methodLink RX0 60 yX0_isThere, Cond.instanceMethod yX0_isThere, Cond.selects RX0 yX0_isThere yX0_isThere, Cond.code yX0_isThere cX0_isThere 2 (some .boolean), Cond.methodLink RX5 161 yX0_isSureRow, Cond.instanceMethod yX0_isSureRow, Cond.selects RX0 yX0_isSureRow yX0_isSureRow, Cond.code yX0_isSureRow cX0_isSureRow 2 (some .boolean)]
def wsX5_row : List Cond := .code yX5_row cX5_row 3 (some .int) :: ((wsX5_row_r1 ++ (wsX5_row_r2 ++ (wsX5_row_r3 ++ wsX5_row_r4))) ++ wsX50 ++ wsX30 ++ wsX00)
def wsX5_key_r1 : List Cond := [Cond.fieldLink RX5 10 "SureMendings" "table" "LSureMendings$Table;", Cond.methodLink RX5 55 yX5_isKey, Cond.static yX5_isKey, Cond.initialized RX5, Cond.code yX5_isKey cX5_isKey 1 (some .boolean), Cond.methodLink RX5 102 yX3_rowsWith, Cond.instanceMethod yX3_rowsWith, Cond.selects RX3 yX3_rowsWith yX3_rowsWith, Cond.initialized RX3, Cond.code yX3_rowsWith cX3_rowsWith 4 (some .int), Cond.fieldLink RX3 24 "SureMendings$Table" "size" "I", Cond.methodLink RX3 48 yX3_keyAt, Cond.instanceMethod yX3_keyAt, Cond.selects RX3 yX3_keyAt yX3_keyAt, Cond.code yX3_keyAt cX3_keyAt 2 (some .int), Cond.fieldLink RX3 9 "SureMendings$Table" "keys" "[I", Cond.static yX5_at, Cond.code yX5_at cX5_at 2 (some .int), Cond.methodLink RX5 122 yX5_choicesNow, Cond.instanceMethod yX5_choicesNow, Cond.selects RX5 yX5_choicesNow yX5_choicesNow, Cond.code yX5_choicesNow cX5_choicesNow 1 (some (.object "SureMendings$Choices")), Cond.fieldLink RX5 21 "SureMendings" "choices" "LSureMendings$Choices;", Cond.methodLink RX5 231 yX0_update]
def wsX5_key_r2 : List Cond := [Cond.instanceMethod yX0_update, Cond.selects RX0 yX0_update yX0_update, Cond.initialized RX0, Cond.code yX0_update cX0_update 2 none, Cond.fieldLink RX0 9 "SureMendings$Choices" "optionCounts" "[I", Cond.fieldLink RX0 21 "SureMendings$Choices" "targetSets" "[I", Cond.fieldLink RX0 24 "SureMendings$Choices" "table" "LSureMendings$Table;", Cond.fieldLink RX0 52 "SureMendings$Choices" "mendings" "I", Cond.fieldLink RX0 18 "SureMendings$Choices" "strides" "[I", Cond.methodLink RX0 28 yJ7_fill_53178, Cond.static yJ7_fill_53178, Cond.initialized RJ7, Cond.code yJ7_fill_53178 cJ7_fill_53178 4 none, Cond.methodLink RX0 34 yX3_size, Cond.instanceMethod yX3_size, Cond.selects RX3 yX3_size yX3_size, Cond.code yX3_size cX3_size 1 (some .int), Cond.methodLink RX0 40 yX3_canBeKept, Cond.instanceMethod yX3_canBeKept, Cond.selects RX3 yX3_canBeKept yX3_canBeKept, Cond.code yX3_canBeKept cX3_canBeKept 2 (some .boolean), Cond.fieldLink RX3 32 "SureMendings$Table" "preferring" "Z", Cond.methodLink RX3 55 yX3_weightAt, Cond.instanceMethod yX3_weightAt]
def wsX5_key_r3 : List Cond := [Cond.selects RX3 yX3_weightAt yX3_weightAt, Cond.code yX3_weightAt cX3_weightAt 2 (some .int), Cond.fieldLink RX3 18 "SureMendings$Table" "weights" "[I", Cond.methodLink RX3 79 yX3_heaviestWith, Cond.instanceMethod yX3_heaviestWith, Cond.selects RX3 yX3_heaviestWith yX3_heaviestWith, Cond.code yX3_heaviestWith cX3_heaviestWith 4 (some .int), Cond.methodLink RX0 44 yX3_keyAt, Cond.methodLink RX0 48 yX0_addOption, Cond.instanceMethod yX0_addOption, Cond.selects RX0 yX0_addOption yX0_addOption, Cond.code yX0_addOption cX0_addOption 4 none, Cond.fieldLink RX0 15 "SureMendings$Choices" "optionRows" "[I", Cond.methodLink RX0 63 yX0_optionsOf, Cond.instanceMethod yX0_optionsOf, Cond.selects RX0 yX0_optionsOf yX0_optionsOf, Cond.code yX0_optionsOf cX0_optionsOf 2 (some .int), Cond.static yX5_put, Cond.code yX5_put cX5_put 3 none, Cond.methodLink RX0 70 yX0_targetBit, Cond.instanceMethod yX0_targetBit, Cond.selects RX0 yX0_targetBit yX0_targetBit, Cond.code yX0_targetBit cX0_targetBit 3 (some .int), Cond.methodLink RX0 73 yX3_targetAt]
def wsX5_key_r4 : List Cond := [Cond.instanceMethod yX3_targetAt, Cond.selects RX3 yX3_targetAt yX3_targetAt, Cond.code yX3_targetAt cX3_targetAt 2 (some .int), Cond.fieldLink RX3 21 "SureMendings$Table" "targets" "[I", Cond.methodLink RX0 60 yX0_isThere, Cond.instanceMethod yX0_isThere, Cond.selects RX0 yX0_isThere yX0_isThere, Cond.code yX0_isThere cX0_isThere 2 (some .boolean), Cond.methodLink RX5 164 yX0_optionsOf, Cond.methodLink RX5 167 yX3_lightestWith, Cond.instanceMethod yX3_lightestWith, Cond.selects RX3 yX3_lightestWith yX3_lightestWith, Cond.code yX3_lightestWith cX3_lightestWith 4 (some .int), Cond.methodLink RX5 170 yX3_heaviestWith, Cond.methodLink RX5 173 yX3_rowsPointingTo, Cond.instanceMethod yX3_rowsPointingTo, Cond.selects RX3 yX3_rowsPointingTo yX3_rowsPointingTo, Cond.code yX3_rowsPointingTo cX3_rowsPointingTo 4 (some .int), Cond.methodLink RX3 58 yX3_targetAt]
def wsX5_key : List Cond := .code yX5_key cX5_key 3 (some .int) :: ((wsX5_key_r1 ++ (wsX5_key_r2 ++ (wsX5_key_r3 ++ wsX5_key_r4))) ++ wsX50 ++ wsX30 ++ wsX00)
def wsX5_value_r1 : List Cond := [Cond.methodLink RX5 59 yX5_isValue, Cond.static yX5_isValue, Cond.initialized RX5, Cond.code yX5_isValue cX5_isValue 1 (some .boolean), Cond.methodLink RX5 122 yX5_choicesNow, Cond.instanceMethod yX5_choicesNow, Cond.selects RX5 yX5_choicesNow yX5_choicesNow, Cond.code yX5_choicesNow cX5_choicesNow 1 (some (.object "SureMendings$Choices")), Cond.fieldLink RX5 21 "SureMendings" "choices" "LSureMendings$Choices;", Cond.methodLink RX5 231 yX0_update, Cond.instanceMethod yX0_update, Cond.selects RX0 yX0_update yX0_update, Cond.initialized RX0, Cond.code yX0_update cX0_update 2 none, Cond.fieldLink RX0 9 "SureMendings$Choices" "optionCounts" "[I", Cond.fieldLink RX0 21 "SureMendings$Choices" "targetSets" "[I", Cond.fieldLink RX0 24 "SureMendings$Choices" "table" "LSureMendings$Table;", Cond.fieldLink RX0 52 "SureMendings$Choices" "mendings" "I", Cond.fieldLink RX0 18 "SureMendings$Choices" "strides" "[I", Cond.methodLink RX0 28 yJ7_fill_53178, Cond.static yJ7_fill_53178, Cond.initialized RJ7, Cond.code yJ7_fill_53178 cJ7_fill_53178 4 none, Cond.methodLink RX0 34 yX3_size]
def wsX5_value_r2 : List Cond := [Cond.instanceMethod yX3_size, Cond.selects RX3 yX3_size yX3_size, Cond.initialized RX3, Cond.code yX3_size cX3_size 1 (some .int), Cond.fieldLink RX3 24 "SureMendings$Table" "size" "I", Cond.methodLink RX0 40 yX3_canBeKept, Cond.instanceMethod yX3_canBeKept, Cond.selects RX3 yX3_canBeKept yX3_canBeKept, Cond.code yX3_canBeKept cX3_canBeKept 2 (some .boolean), Cond.fieldLink RX3 32 "SureMendings$Table" "preferring" "Z", Cond.methodLink RX3 55 yX3_weightAt, Cond.instanceMethod yX3_weightAt, Cond.selects RX3 yX3_weightAt yX3_weightAt, Cond.code yX3_weightAt cX3_weightAt 2 (some .int), Cond.fieldLink RX3 18 "SureMendings$Table" "weights" "[I", Cond.static yX5_at, Cond.code yX5_at cX5_at 2 (some .int), Cond.methodLink RX3 48 yX3_keyAt, Cond.instanceMethod yX3_keyAt, Cond.selects RX3 yX3_keyAt yX3_keyAt, Cond.code yX3_keyAt cX3_keyAt 2 (some .int), Cond.fieldLink RX3 9 "SureMendings$Table" "keys" "[I", Cond.methodLink RX3 79 yX3_heaviestWith, Cond.instanceMethod yX3_heaviestWith]
def wsX5_value_r3 : List Cond := [Cond.selects RX3 yX3_heaviestWith yX3_heaviestWith, Cond.code yX3_heaviestWith cX3_heaviestWith 4 (some .int), Cond.methodLink RX0 44 yX3_keyAt, Cond.methodLink RX0 48 yX0_addOption, Cond.instanceMethod yX0_addOption, Cond.selects RX0 yX0_addOption yX0_addOption, Cond.code yX0_addOption cX0_addOption 4 none, Cond.fieldLink RX0 15 "SureMendings$Choices" "optionRows" "[I", Cond.methodLink RX0 63 yX0_optionsOf, Cond.instanceMethod yX0_optionsOf, Cond.selects RX0 yX0_optionsOf yX0_optionsOf, Cond.code yX0_optionsOf cX0_optionsOf 2 (some .int), Cond.static yX5_put, Cond.code yX5_put cX5_put 3 none, Cond.methodLink RX0 70 yX0_targetBit, Cond.instanceMethod yX0_targetBit, Cond.selects RX0 yX0_targetBit yX0_targetBit, Cond.code yX0_targetBit cX0_targetBit 3 (some .int), Cond.methodLink RX0 73 yX3_targetAt, Cond.instanceMethod yX3_targetAt, Cond.selects RX3 yX3_targetAt yX3_targetAt, Cond.code yX3_targetAt cX3_targetAt 2 (some .int), Cond.fieldLink RX3 21 "SureMendings$Table" "targets" "[I", Cond.static yX5_isKey]
def wsX5_value_r4 : List Cond := [Cond.code yX5_isKey cX5_isKey 1 (some .boolean), Cond.methodLink RX0 60 yX0_isThere, Cond.instanceMethod yX0_isThere, Cond.selects RX0 yX0_isThere yX0_isThere, Cond.code yX0_isThere cX0_isThere 2 (some .boolean), Cond.methodLink RX5 176 yX0_fewestKeptWith, Cond.instanceMethod yX0_fewestKeptWith, Cond.selects RX0 yX0_fewestKeptWith yX0_fewestKeptWith, Cond.code yX0_fewestKeptWith cX0_fewestKeptWith 4 (some .int), Cond.methodLink RX0 89 yX0_optionsWith, Cond.instanceMethod yX0_optionsWith, Cond.selects RX0 yX0_optionsWith yX0_optionsWith, Cond.code yX0_optionsWith cX0_optionsWith 5 (some .int), Cond.methodLink RX0 79 yX0_option, Cond.instanceMethod yX0_option, Cond.selects RX0 yX0_option yX0_option, Cond.code yX0_option cX0_option 3 (some .int), Cond.methodLink RX0 86 yX3_valueAt, Cond.instanceMethod yX3_valueAt, Cond.selects RX3 yX3_valueAt yX3_valueAt, Cond.code yX3_valueAt cX3_valueAt 2 (some .int), Cond.fieldLink RX3 15 "SureMendings$Table" "values" "[I", Cond.methodLink RX5 157 yX5_oneIf, Cond.static yX5_oneIf]
def wsX5_value_r5 : List Cond := [Cond.code yX5_oneIf cX5_oneIf 1 (some .int), Cond.methodLink RX5 179 yX0_mostKeptWith, Cond.instanceMethod yX0_mostKeptWith, Cond.selects RX0 yX0_mostKeptWith yX0_mostKeptWith, Cond.code yX0_mostKeptWith cX0_mostKeptWith 4 (some .int), Cond.methodLink RX5 126 yX0_mendings, Cond.instanceMethod yX0_mendings, Cond.selects RX0 yX0_mendings yX0_mendings, Cond.code yX0_mendings cX0_mendings 1 (some .int), Cond.methodLink RX5 182 yX0_mendingsWithout, Cond.instanceMethod yX0_mendingsWithout, Cond.selects RX0 yX0_mendingsWithout yX0_mendingsWithout, Cond.code yX0_mendingsWithout cX0_mendingsWithout 4 (some .int)]
def wsX5_value : List Cond := .code yX5_value cX5_value 4 (some .int) :: ((wsX5_value_r1 ++ (wsX5_value_r2 ++ (wsX5_value_r3 ++ (wsX5_value_r4 ++ wsX5_value_r5)))) ++ wsX50 ++ wsX00 ++ wsX30)
def wsX5_way_r1 : List Cond := [Cond.methodLink RX5 55 yX5_isKey, Cond.static yX5_isKey, Cond.initialized RX5, Cond.code yX5_isKey cX5_isKey 1 (some .boolean), Cond.methodLink RX5 122 yX5_choicesNow, Cond.instanceMethod yX5_choicesNow, Cond.selects RX5 yX5_choicesNow yX5_choicesNow, Cond.code yX5_choicesNow cX5_choicesNow 1 (some (.object "SureMendings$Choices")), Cond.fieldLink RX5 21 "SureMendings" "choices" "LSureMendings$Choices;", Cond.methodLink RX5 231 yX0_update, Cond.instanceMethod yX0_update, Cond.selects RX0 yX0_update yX0_update, Cond.initialized RX0, Cond.code yX0_update cX0_update 2 none, Cond.fieldLink RX0 9 "SureMendings$Choices" "optionCounts" "[I", Cond.fieldLink RX0 21 "SureMendings$Choices" "targetSets" "[I", Cond.fieldLink RX0 24 "SureMendings$Choices" "table" "LSureMendings$Table;", Cond.fieldLink RX0 52 "SureMendings$Choices" "mendings" "I", Cond.fieldLink RX0 18 "SureMendings$Choices" "strides" "[I", Cond.methodLink RX0 28 yJ7_fill_53178, Cond.static yJ7_fill_53178, Cond.initialized RJ7, Cond.code yJ7_fill_53178 cJ7_fill_53178 4 none, Cond.methodLink RX0 34 yX3_size]
def wsX5_way_r2 : List Cond := [Cond.instanceMethod yX3_size, Cond.selects RX3 yX3_size yX3_size, Cond.initialized RX3, Cond.code yX3_size cX3_size 1 (some .int), Cond.fieldLink RX3 24 "SureMendings$Table" "size" "I", Cond.methodLink RX0 40 yX3_canBeKept, Cond.instanceMethod yX3_canBeKept, Cond.selects RX3 yX3_canBeKept yX3_canBeKept, Cond.code yX3_canBeKept cX3_canBeKept 2 (some .boolean), Cond.fieldLink RX3 32 "SureMendings$Table" "preferring" "Z", Cond.methodLink RX3 55 yX3_weightAt, Cond.instanceMethod yX3_weightAt, Cond.selects RX3 yX3_weightAt yX3_weightAt, Cond.code yX3_weightAt cX3_weightAt 2 (some .int), Cond.fieldLink RX3 18 "SureMendings$Table" "weights" "[I", Cond.static yX5_at, Cond.code yX5_at cX5_at 2 (some .int), Cond.methodLink RX3 48 yX3_keyAt, Cond.instanceMethod yX3_keyAt, Cond.selects RX3 yX3_keyAt yX3_keyAt, Cond.code yX3_keyAt cX3_keyAt 2 (some .int), Cond.fieldLink RX3 9 "SureMendings$Table" "keys" "[I", Cond.methodLink RX3 79 yX3_heaviestWith, Cond.instanceMethod yX3_heaviestWith]
def wsX5_way_r3 : List Cond := [Cond.selects RX3 yX3_heaviestWith yX3_heaviestWith, Cond.code yX3_heaviestWith cX3_heaviestWith 4 (some .int), Cond.methodLink RX0 44 yX3_keyAt, Cond.methodLink RX0 48 yX0_addOption, Cond.instanceMethod yX0_addOption, Cond.selects RX0 yX0_addOption yX0_addOption, Cond.code yX0_addOption cX0_addOption 4 none, Cond.fieldLink RX0 15 "SureMendings$Choices" "optionRows" "[I", Cond.methodLink RX0 63 yX0_optionsOf, Cond.instanceMethod yX0_optionsOf, Cond.selects RX0 yX0_optionsOf yX0_optionsOf, Cond.code yX0_optionsOf cX0_optionsOf 2 (some .int), Cond.static yX5_put, Cond.code yX5_put cX5_put 3 none, Cond.methodLink RX0 70 yX0_targetBit, Cond.instanceMethod yX0_targetBit, Cond.selects RX0 yX0_targetBit yX0_targetBit, Cond.code yX0_targetBit cX0_targetBit 3 (some .int), Cond.methodLink RX0 73 yX3_targetAt, Cond.instanceMethod yX3_targetAt, Cond.selects RX3 yX3_targetAt yX3_targetAt, Cond.code yX3_targetAt cX3_targetAt 2 (some .int), Cond.fieldLink RX3 21 "SureMendings$Table" "targets" "[I", Cond.methodLink RX0 60 yX0_isThere]
def wsX5_way_r4 : List Cond := [Cond.instanceMethod yX0_isThere, Cond.selects RX0 yX0_isThere yX0_isThere, Cond.code yX0_isThere cX0_isThere 2 (some .boolean), Cond.methodLink RX5 185 yX0_isSureWay, Cond.instanceMethod yX0_isSureWay, Cond.selects RX0 yX0_isSureWay yX0_isSureWay, Cond.code yX0_isSureWay cX0_isSureWay 3 (some .boolean), Cond.methodLink RX0 124 yX0_keysSureToReach, Cond.instanceMethod yX0_keysSureToReach, Cond.selects RX0 yX0_keysSureToReach yX0_keysSureToReach, Cond.code yX0_keysSureToReach cX0_keysSureToReach 4 (some .int), Cond.methodLink RX0 114 yX0_setOf, Cond.instanceMethod yX0_setOf, Cond.selects RX0 yX0_setOf yX0_setOf, Cond.code yX0_setOf cX0_setOf 2 (some .int), Cond.methodLink RX0 127 yX0_keysThatMustPointInto, Cond.instanceMethod yX0_keysThatMustPointInto, Cond.selects RX0 yX0_keysThatMustPointInto yX0_keysThatMustPointInto, Cond.code yX0_keysThatMustPointInto cX0_keysThatMustPointInto 5 (some .int), Cond.methodLink RX0 117 yX0_contains, Cond.static yX0_contains, Cond.code yX0_contains cX0_contains 2 (some .boolean), Cond.methodLink RX5 157 yX5_oneIf, Cond.static yX5_oneIf]
def wsX5_way_r5 : List Cond := [Cond.code yX5_oneIf cX5_oneIf 1 (some .int), Cond.methodLink RX5 189 yX0_fewestPointers, Cond.instanceMethod yX0_fewestPointers, Cond.selects RX0 yX0_fewestPointers yX0_fewestPointers, Cond.code yX0_fewestPointers cX0_fewestPointers 5 (some .int), Cond.methodLink RX0 121 yX0_keysThatCanPointInto, Cond.instanceMethod yX0_keysThatCanPointInto, Cond.selects RX0 yX0_keysThatCanPointInto yX0_keysThatCanPointInto, Cond.code yX0_keysThatCanPointInto cX0_keysThatCanPointInto 4 (some .int), Cond.methodLink RX5 192 yX0_mendingsWithWay, Cond.instanceMethod yX0_mendingsWithWay, Cond.selects RX0 yX0_mendingsWithWay yX0_mendingsWithWay, Cond.code yX0_mendingsWithWay cX0_mendingsWithWay 5 (some .int), Cond.methodLink RX0 110 yX0_holdsIn, Cond.instanceMethod yX0_holdsIn, Cond.selects RX0 yX0_holdsIn yX0_holdsIn, Cond.code yX0_holdsIn cX0_holdsIn 6 (some .boolean), Cond.methodLink RX0 98 yX0_rowKeptBy, Cond.instanceMethod yX0_rowKeptBy, Cond.selects RX0 yX0_rowKeptBy yX0_rowKeptBy, Cond.code yX0_rowKeptBy cX0_rowKeptBy 5 (some .int), Cond.methodLink RX0 79 yX0_option, Cond.instanceMethod yX0_option, Cond.selects RX0 yX0_option yX0_option]
def wsX5_way_r6 : List Cond := [Cond.code yX0_option cX0_option 3 (some .int), Cond.methodLink RX5 195 yX0_firstMendingWithoutWay, Cond.instanceMethod yX0_firstMendingWithoutWay, Cond.selects RX0 yX0_firstMendingWithoutWay yX0_firstMendingWithoutWay, Cond.code yX0_firstMendingWithoutWay cX0_firstMendingWithoutWay 4 (some .int)]
def wsX5_way : List Cond := .code yX5_way cX5_way 5 (some .int) :: ((wsX5_way_r1 ++ (wsX5_way_r2 ++ (wsX5_way_r3 ++ (wsX5_way_r4 ++ (wsX5_way_r5 ++ wsX5_way_r6))))) ++ wsX50 ++ wsX00 ++ wsX30)
def wsX5_kept_r1 : List Cond := [Cond.methodLink RX5 55 yX5_isKey, Cond.static yX5_isKey, Cond.initialized RX5, Cond.code yX5_isKey cX5_isKey 1 (some .boolean), Cond.methodLink RX5 122 yX5_choicesNow, Cond.instanceMethod yX5_choicesNow, Cond.selects RX5 yX5_choicesNow yX5_choicesNow, Cond.code yX5_choicesNow cX5_choicesNow 1 (some (.object "SureMendings$Choices")), Cond.fieldLink RX5 21 "SureMendings" "choices" "LSureMendings$Choices;", Cond.methodLink RX5 231 yX0_update, Cond.instanceMethod yX0_update, Cond.selects RX0 yX0_update yX0_update, Cond.initialized RX0, Cond.code yX0_update cX0_update 2 none, Cond.fieldLink RX0 9 "SureMendings$Choices" "optionCounts" "[I", Cond.fieldLink RX0 21 "SureMendings$Choices" "targetSets" "[I", Cond.fieldLink RX0 24 "SureMendings$Choices" "table" "LSureMendings$Table;", Cond.fieldLink RX0 52 "SureMendings$Choices" "mendings" "I", Cond.fieldLink RX0 18 "SureMendings$Choices" "strides" "[I", Cond.methodLink RX0 28 yJ7_fill_53178, Cond.static yJ7_fill_53178, Cond.initialized RJ7, Cond.code yJ7_fill_53178 cJ7_fill_53178 4 none, Cond.methodLink RX0 34 yX3_size]
def wsX5_kept_r2 : List Cond := [Cond.instanceMethod yX3_size, Cond.selects RX3 yX3_size yX3_size, Cond.initialized RX3, Cond.code yX3_size cX3_size 1 (some .int), Cond.fieldLink RX3 24 "SureMendings$Table" "size" "I", Cond.methodLink RX0 40 yX3_canBeKept, Cond.instanceMethod yX3_canBeKept, Cond.selects RX3 yX3_canBeKept yX3_canBeKept, Cond.code yX3_canBeKept cX3_canBeKept 2 (some .boolean), Cond.fieldLink RX3 32 "SureMendings$Table" "preferring" "Z", Cond.methodLink RX3 55 yX3_weightAt, Cond.instanceMethod yX3_weightAt, Cond.selects RX3 yX3_weightAt yX3_weightAt, Cond.code yX3_weightAt cX3_weightAt 2 (some .int), Cond.fieldLink RX3 18 "SureMendings$Table" "weights" "[I", Cond.static yX5_at, Cond.code yX5_at cX5_at 2 (some .int), Cond.methodLink RX3 48 yX3_keyAt, Cond.instanceMethod yX3_keyAt, Cond.selects RX3 yX3_keyAt yX3_keyAt, Cond.code yX3_keyAt cX3_keyAt 2 (some .int), Cond.fieldLink RX3 9 "SureMendings$Table" "keys" "[I", Cond.methodLink RX3 79 yX3_heaviestWith, Cond.instanceMethod yX3_heaviestWith]
def wsX5_kept_r3 : List Cond := [Cond.selects RX3 yX3_heaviestWith yX3_heaviestWith, Cond.code yX3_heaviestWith cX3_heaviestWith 4 (some .int), Cond.methodLink RX0 44 yX3_keyAt, Cond.methodLink RX0 48 yX0_addOption, Cond.instanceMethod yX0_addOption, Cond.selects RX0 yX0_addOption yX0_addOption, Cond.code yX0_addOption cX0_addOption 4 none, Cond.fieldLink RX0 15 "SureMendings$Choices" "optionRows" "[I", Cond.methodLink RX0 63 yX0_optionsOf, Cond.instanceMethod yX0_optionsOf, Cond.selects RX0 yX0_optionsOf yX0_optionsOf, Cond.code yX0_optionsOf cX0_optionsOf 2 (some .int), Cond.static yX5_put, Cond.code yX5_put cX5_put 3 none, Cond.methodLink RX0 70 yX0_targetBit, Cond.instanceMethod yX0_targetBit, Cond.selects RX0 yX0_targetBit yX0_targetBit, Cond.code yX0_targetBit cX0_targetBit 3 (some .int), Cond.methodLink RX0 73 yX3_targetAt, Cond.instanceMethod yX3_targetAt, Cond.selects RX3 yX3_targetAt yX3_targetAt, Cond.code yX3_targetAt cX3_targetAt 2 (some .int), Cond.fieldLink RX3 21 "SureMendings$Table" "targets" "[I", Cond.methodLink RX0 60 yX0_isThere]
def wsX5_kept_r4 : List Cond := [Cond.instanceMethod yX0_isThere, Cond.selects RX0 yX0_isThere yX0_isThere, Cond.code yX0_isThere cX0_isThere 2 (some .boolean), Cond.methodLink RX5 126 yX0_mendings, Cond.instanceMethod yX0_mendings, Cond.selects RX0 yX0_mendings yX0_mendings, Cond.code yX0_mendings cX0_mendings 1 (some .int), Cond.methodLink RX5 198 yX0_rowKeptBy, Cond.instanceMethod yX0_rowKeptBy, Cond.selects RX0 yX0_rowKeptBy yX0_rowKeptBy, Cond.code yX0_rowKeptBy cX0_rowKeptBy 5 (some .int), Cond.methodLink RX0 79 yX0_option, Cond.instanceMethod yX0_option, Cond.selects RX0 yX0_option yX0_option, Cond.code yX0_option cX0_option 3 (some .int)]
def wsX5_kept : List Cond := .code yX5_kept cX5_kept 4 (some .int) :: ((wsX5_kept_r1 ++ (wsX5_kept_r2 ++ (wsX5_kept_r3 ++ wsX5_kept_r4))) ++ wsX50 ++ wsX00 ++ wsX30)
def wsX5_sum_r1 : List Cond := [Cond.methodLink RX5 122 yX5_choicesNow, Cond.instanceMethod yX5_choicesNow, Cond.selects RX5 yX5_choicesNow yX5_choicesNow, Cond.initialized RX5, Cond.code yX5_choicesNow cX5_choicesNow 1 (some (.object "SureMendings$Choices")), Cond.fieldLink RX5 21 "SureMendings" "choices" "LSureMendings$Choices;", Cond.methodLink RX5 231 yX0_update, Cond.instanceMethod yX0_update, Cond.selects RX0 yX0_update yX0_update, Cond.initialized RX0, Cond.code yX0_update cX0_update 2 none, Cond.fieldLink RX0 9 "SureMendings$Choices" "optionCounts" "[I", Cond.fieldLink RX0 21 "SureMendings$Choices" "targetSets" "[I", Cond.fieldLink RX0 24 "SureMendings$Choices" "table" "LSureMendings$Table;", Cond.fieldLink RX0 52 "SureMendings$Choices" "mendings" "I", Cond.fieldLink RX0 18 "SureMendings$Choices" "strides" "[I", Cond.methodLink RX0 28 yJ7_fill_53178, Cond.static yJ7_fill_53178, Cond.initialized RJ7, Cond.code yJ7_fill_53178 cJ7_fill_53178 4 none, Cond.methodLink RX0 34 yX3_size, Cond.instanceMethod yX3_size, Cond.selects RX3 yX3_size yX3_size, Cond.initialized RX3]
def wsX5_sum_r2 : List Cond := [Cond.code yX3_size cX3_size 1 (some .int), Cond.fieldLink RX3 24 "SureMendings$Table" "size" "I", Cond.methodLink RX0 40 yX3_canBeKept, Cond.instanceMethod yX3_canBeKept, Cond.selects RX3 yX3_canBeKept yX3_canBeKept, Cond.code yX3_canBeKept cX3_canBeKept 2 (some .boolean), Cond.fieldLink RX3 32 "SureMendings$Table" "preferring" "Z", Cond.methodLink RX3 55 yX3_weightAt, Cond.instanceMethod yX3_weightAt, Cond.selects RX3 yX3_weightAt yX3_weightAt, Cond.code yX3_weightAt cX3_weightAt 2 (some .int), Cond.fieldLink RX3 18 "SureMendings$Table" "weights" "[I", Cond.static yX5_at, Cond.code yX5_at cX5_at 2 (some .int), Cond.methodLink RX3 48 yX3_keyAt, Cond.instanceMethod yX3_keyAt, Cond.selects RX3 yX3_keyAt yX3_keyAt, Cond.code yX3_keyAt cX3_keyAt 2 (some .int), Cond.fieldLink RX3 9 "SureMendings$Table" "keys" "[I", Cond.methodLink RX3 79 yX3_heaviestWith, Cond.instanceMethod yX3_heaviestWith, Cond.selects RX3 yX3_heaviestWith yX3_heaviestWith, Cond.code yX3_heaviestWith cX3_heaviestWith 4 (some .int), Cond.methodLink RX0 44 yX3_keyAt]
def wsX5_sum_r3 : List Cond := [Cond.methodLink RX0 48 yX0_addOption, Cond.instanceMethod yX0_addOption, Cond.selects RX0 yX0_addOption yX0_addOption, Cond.code yX0_addOption cX0_addOption 4 none, Cond.fieldLink RX0 15 "SureMendings$Choices" "optionRows" "[I", Cond.methodLink RX0 63 yX0_optionsOf, Cond.instanceMethod yX0_optionsOf, Cond.selects RX0 yX0_optionsOf yX0_optionsOf, Cond.code yX0_optionsOf cX0_optionsOf 2 (some .int), Cond.static yX5_put, Cond.code yX5_put cX5_put 3 none, Cond.methodLink RX0 70 yX0_targetBit, Cond.instanceMethod yX0_targetBit, Cond.selects RX0 yX0_targetBit yX0_targetBit, Cond.code yX0_targetBit cX0_targetBit 3 (some .int), Cond.methodLink RX0 73 yX3_targetAt, Cond.instanceMethod yX3_targetAt, Cond.selects RX3 yX3_targetAt yX3_targetAt, Cond.code yX3_targetAt cX3_targetAt 2 (some .int), Cond.fieldLink RX3 21 "SureMendings$Table" "targets" "[I", Cond.static yX5_isKey, Cond.code yX5_isKey cX5_isKey 1 (some .boolean), Cond.methodLink RX0 60 yX0_isThere, Cond.instanceMethod yX0_isThere]
def wsX5_sum_r4 : List Cond := [Cond.selects RX0 yX0_isThere yX0_isThere, Cond.code yX0_isThere cX0_isThere 2 (some .boolean), Cond.methodLink RX5 201 yX0_firstLightestMending, Cond.instanceMethod yX0_firstLightestMending, Cond.selects RX0 yX0_firstLightestMending yX0_firstLightestMending, Cond.code yX0_firstLightestMending cX0_firstLightestMending 1 (some .int), Cond.methodLink RX0 104 yX0_firstMendingByWeight, Cond.instanceMethod yX0_firstMendingByWeight, Cond.selects RX0 yX0_firstMendingByWeight yX0_firstMendingByWeight, Cond.code yX0_firstMendingByWeight cX0_firstMendingByWeight 6 (some .int), Cond.methodLink RX0 107 yX0_optionWeight, Cond.instanceMethod yX0_optionWeight, Cond.selects RX0 yX0_optionWeight yX0_optionWeight, Cond.code yX0_optionWeight cX0_optionWeight 3 (some .int), Cond.methodLink RX0 79 yX0_option, Cond.instanceMethod yX0_option, Cond.selects RX0 yX0_option yX0_option, Cond.code yX0_option cX0_option 3 (some .int), Cond.methodLink RX0 101 yX3_weightAt, Cond.methodLink RX5 204 yX0_sumKeptBy, Cond.instanceMethod yX0_sumKeptBy, Cond.selects RX0 yX0_sumKeptBy yX0_sumKeptBy, Cond.code yX0_sumKeptBy cX0_sumKeptBy 4 (some .int), Cond.methodLink RX0 98 yX0_rowKeptBy]
def wsX5_sum_r5 : List Cond := [Cond.instanceMethod yX0_rowKeptBy, Cond.selects RX0 yX0_rowKeptBy yX0_rowKeptBy, Cond.code yX0_rowKeptBy cX0_rowKeptBy 5 (some .int), Cond.methodLink RX5 207 yX0_firstHeaviestMending, Cond.instanceMethod yX0_firstHeaviestMending, Cond.selects RX0 yX0_firstHeaviestMending yX0_firstHeaviestMending, Cond.code yX0_firstHeaviestMending cX0_firstHeaviestMending 1 (some .int)]
def wsX5_sum : List Cond := .code yX5_sum cX5_sum 3 (some .int) :: ((wsX5_sum_r1 ++ (wsX5_sum_r2 ++ (wsX5_sum_r3 ++ (wsX5_sum_r4 ++ wsX5_sum_r5)))) ++ wsX50 ++ wsX00 ++ wsX30)
def wsX5_bestMended_r1 : List Cond := [Cond.fieldLink RX5 10 "SureMendings" "table" "LSureMendings$Table;", Cond.methodLink RX5 55 yX5_isKey, Cond.static yX5_isKey, Cond.initialized RX5, Cond.code yX5_isKey cX5_isKey 1 (some .boolean), Cond.methodLink RX5 122 yX5_choicesNow, Cond.instanceMethod yX5_choicesNow, Cond.selects RX5 yX5_choicesNow yX5_choicesNow, Cond.code yX5_choicesNow cX5_choicesNow 1 (some (.object "SureMendings$Choices")), Cond.fieldLink RX5 21 "SureMendings" "choices" "LSureMendings$Choices;", Cond.methodLink RX5 231 yX0_update, Cond.instanceMethod yX0_update, Cond.selects RX0 yX0_update yX0_update, Cond.initialized RX0, Cond.code yX0_update cX0_update 2 none, Cond.fieldLink RX0 9 "SureMendings$Choices" "optionCounts" "[I", Cond.fieldLink RX0 21 "SureMendings$Choices" "targetSets" "[I", Cond.fieldLink RX0 24 "SureMendings$Choices" "table" "LSureMendings$Table;", Cond.fieldLink RX0 52 "SureMendings$Choices" "mendings" "I", Cond.fieldLink RX0 18 "SureMendings$Choices" "strides" "[I", Cond.methodLink RX0 28 yJ7_fill_53178, Cond.static yJ7_fill_53178, Cond.initialized RJ7, Cond.code yJ7_fill_53178 cJ7_fill_53178 4 none]
def wsX5_bestMended_r2 : List Cond := [Cond.methodLink RX0 34 yX3_size, Cond.instanceMethod yX3_size, Cond.selects RX3 yX3_size yX3_size, Cond.initialized RX3, Cond.code yX3_size cX3_size 1 (some .int), Cond.fieldLink RX3 24 "SureMendings$Table" "size" "I", Cond.methodLink RX0 40 yX3_canBeKept, Cond.instanceMethod yX3_canBeKept, Cond.selects RX3 yX3_canBeKept yX3_canBeKept, Cond.code yX3_canBeKept cX3_canBeKept 2 (some .boolean), Cond.fieldLink RX3 32 "SureMendings$Table" "preferring" "Z", Cond.methodLink RX3 55 yX3_weightAt, Cond.instanceMethod yX3_weightAt, Cond.selects RX3 yX3_weightAt yX3_weightAt, Cond.code yX3_weightAt cX3_weightAt 2 (some .int), Cond.fieldLink RX3 18 "SureMendings$Table" "weights" "[I", Cond.static yX5_at, Cond.code yX5_at cX5_at 2 (some .int), Cond.methodLink RX3 48 yX3_keyAt, Cond.instanceMethod yX3_keyAt, Cond.selects RX3 yX3_keyAt yX3_keyAt, Cond.code yX3_keyAt cX3_keyAt 2 (some .int), Cond.fieldLink RX3 9 "SureMendings$Table" "keys" "[I", Cond.methodLink RX3 79 yX3_heaviestWith]
def wsX5_bestMended_r3 : List Cond := [Cond.instanceMethod yX3_heaviestWith, Cond.selects RX3 yX3_heaviestWith yX3_heaviestWith, Cond.code yX3_heaviestWith cX3_heaviestWith 4 (some .int), Cond.methodLink RX0 44 yX3_keyAt, Cond.methodLink RX0 48 yX0_addOption, Cond.instanceMethod yX0_addOption, Cond.selects RX0 yX0_addOption yX0_addOption, Cond.code yX0_addOption cX0_addOption 4 none, Cond.fieldLink RX0 15 "SureMendings$Choices" "optionRows" "[I", Cond.methodLink RX0 63 yX0_optionsOf, Cond.instanceMethod yX0_optionsOf, Cond.selects RX0 yX0_optionsOf yX0_optionsOf, Cond.code yX0_optionsOf cX0_optionsOf 2 (some .int), Cond.static yX5_put, Cond.code yX5_put cX5_put 3 none, Cond.methodLink RX0 70 yX0_targetBit, Cond.instanceMethod yX0_targetBit, Cond.selects RX0 yX0_targetBit yX0_targetBit, Cond.code yX0_targetBit cX0_targetBit 3 (some .int), Cond.methodLink RX0 73 yX3_targetAt, Cond.instanceMethod yX3_targetAt, Cond.selects RX3 yX3_targetAt yX3_targetAt, Cond.code yX3_targetAt cX3_targetAt 2 (some .int), Cond.fieldLink RX3 21 "SureMendings$Table" "targets" "[I"]
def wsX5_bestMended_r4 : List Cond := [Cond.methodLink RX0 60 yX0_isThere, Cond.instanceMethod yX0_isThere, Cond.selects RX0 yX0_isThere yX0_isThere, Cond.code yX0_isThere cX0_isThere 2 (some .boolean), Cond.methodLink RX5 210 yX0_rowThatMakesSure, Cond.instanceMethod yX0_rowThatMakesSure, Cond.selects RX0 yX0_rowThatMakesSure yX0_rowThatMakesSure, Cond.code yX0_rowThatMakesSure cX0_rowThatMakesSure 6 (some .int), Cond.methodLink RX0 138 yX0_isSureWay, Cond.instanceMethod yX0_isSureWay, Cond.selects RX0 yX0_isSureWay yX0_isSureWay, Cond.code yX0_isSureWay cX0_isSureWay 3 (some .boolean), Cond.methodLink RX0 124 yX0_keysSureToReach, Cond.instanceMethod yX0_keysSureToReach, Cond.selects RX0 yX0_keysSureToReach yX0_keysSureToReach, Cond.code yX0_keysSureToReach cX0_keysSureToReach 4 (some .int), Cond.methodLink RX0 114 yX0_setOf, Cond.instanceMethod yX0_setOf, Cond.selects RX0 yX0_setOf yX0_setOf, Cond.code yX0_setOf cX0_setOf 2 (some .int), Cond.methodLink RX0 127 yX0_keysThatMustPointInto, Cond.instanceMethod yX0_keysThatMustPointInto, Cond.selects RX0 yX0_keysThatMustPointInto yX0_keysThatMustPointInto, Cond.code yX0_keysThatMustPointInto cX0_keysThatMustPointInto 5 (some .int)]
def wsX5_bestMended_r5 : List Cond := [Cond.methodLink RX0 117 yX0_contains, Cond.static yX0_contains, Cond.code yX0_contains cX0_contains 2 (some .boolean), Cond.methodLink RX0 79 yX0_option, Cond.instanceMethod yX0_option, Cond.selects RX0 yX0_option yX0_option, Cond.code yX0_option cX0_option 3 (some .int), Cond.methodLink RX0 141 yX0_isSureWayOnceMended, Cond.instanceMethod yX0_isSureWayOnceMended, Cond.selects RX0 yX0_isSureWayOnceMended yX0_isSureWayOnceMended, Cond.code yX0_isSureWayOnceMended cX0_isSureWayOnceMended 7 (some .boolean), Cond.methodLink RX5 98 yX3_keyAt]
def wsX5_bestMended : List Cond := .code yX5_bestMended cX5_bestMended 5 (some .int) :: ((wsX5_bestMended_r1 ++ (wsX5_bestMended_r2 ++ (wsX5_bestMended_r3 ++ (wsX5_bestMended_r4 ++ wsX5_bestMended_r5)))) ++ wsX50 ++ wsX00 ++ wsX30)
def wsX5_count_r1 : List Cond := [Cond.fieldLink RX5 10 "SureMendings" "table" "LSureMendings$Table;", Cond.fieldLink RX5 28 "SureMendings" "history" "LSureMendings$History;", Cond.fieldLink RX5 42 "SureMendings" "text" "LSureMendings$Text;", Cond.methodLink RX5 74 yX3_size, Cond.instanceMethod yX3_size, Cond.selects RX3 yX3_size yX3_size, Cond.initialized RX3, Cond.code yX3_size cX3_size 1 (some .int), Cond.fieldLink RX3 24 "SureMendings$Table" "size" "I", Cond.methodLink RX5 213 yX3_keysThere, Cond.instanceMethod yX3_keysThere, Cond.selects RX3 yX3_keysThere yX3_keysThere, Cond.code yX3_keysThere cX3_keysThere 1 (some .int), Cond.methodLink RX3 73 yX3_keysWithAtLeast, Cond.instanceMethod yX3_keysWithAtLeast, Cond.selects RX3 yX3_keysWithAtLeast yX3_keysWithAtLeast, Cond.code yX3_keysWithAtLeast cX3_keysWithAtLeast 4 (some .int), Cond.methodLink RX3 76 yX3_rowsWith, Cond.instanceMethod yX3_rowsWith, Cond.selects RX3 yX3_rowsWith yX3_rowsWith, Cond.code yX3_rowsWith cX3_rowsWith 4 (some .int), Cond.methodLink RX3 48 yX3_keyAt, Cond.instanceMethod yX3_keyAt, Cond.selects RX3 yX3_keyAt yX3_keyAt]
def wsX5_count_r2 : List Cond := [Cond.code yX3_keyAt cX3_keyAt 2 (some .int), Cond.fieldLink RX3 9 "SureMendings$Table" "keys" "[I", Cond.static yX5_at, Cond.initialized RX5, Cond.code yX5_at cX5_at 2 (some .int), Cond.methodLink RX5 108 yX3_doubledKeys, Cond.instanceMethod yX3_doubledKeys, Cond.selects RX3 yX3_doubledKeys yX3_doubledKeys, Cond.code yX3_doubledKeys cX3_doubledKeys 1 (some .int), Cond.methodLink RX5 122 yX5_choicesNow, Cond.instanceMethod yX5_choicesNow, Cond.selects RX5 yX5_choicesNow yX5_choicesNow, Cond.code yX5_choicesNow cX5_choicesNow 1 (some (.object "SureMendings$Choices")), Cond.fieldLink RX5 21 "SureMendings" "choices" "LSureMendings$Choices;", Cond.methodLink RX5 231 yX0_update, Cond.instanceMethod yX0_update, Cond.selects RX0 yX0_update yX0_update, Cond.initialized RX0, Cond.code yX0_update cX0_update 2 none, Cond.fieldLink RX0 9 "SureMendings$Choices" "optionCounts" "[I", Cond.fieldLink RX0 21 "SureMendings$Choices" "targetSets" "[I", Cond.fieldLink RX0 24 "SureMendings$Choices" "table" "LSureMendings$Table;", Cond.fieldLink RX0 52 "SureMendings$Choices" "mendings" "I", Cond.fieldLink RX0 18 "SureMendings$Choices" "strides" "[I"]
def wsX5_count_r3 : List Cond := [Cond.methodLink RX0 28 yJ7_fill_53178, Cond.static yJ7_fill_53178, Cond.initialized RJ7, Cond.code yJ7_fill_53178 cJ7_fill_53178 4 none, Cond.methodLink RX0 34 yX3_size, Cond.methodLink RX0 40 yX3_canBeKept, Cond.instanceMethod yX3_canBeKept, Cond.selects RX3 yX3_canBeKept yX3_canBeKept, Cond.code yX3_canBeKept cX3_canBeKept 2 (some .boolean), Cond.fieldLink RX3 32 "SureMendings$Table" "preferring" "Z", Cond.methodLink RX3 55 yX3_weightAt, Cond.instanceMethod yX3_weightAt, Cond.selects RX3 yX3_weightAt yX3_weightAt, Cond.code yX3_weightAt cX3_weightAt 2 (some .int), Cond.fieldLink RX3 18 "SureMendings$Table" "weights" "[I", Cond.methodLink RX3 79 yX3_heaviestWith, Cond.instanceMethod yX3_heaviestWith, Cond.selects RX3 yX3_heaviestWith yX3_heaviestWith, Cond.code yX3_heaviestWith cX3_heaviestWith 4 (some .int), Cond.methodLink RX0 44 yX3_keyAt, Cond.methodLink RX0 48 yX0_addOption, Cond.instanceMethod yX0_addOption, Cond.selects RX0 yX0_addOption yX0_addOption, Cond.code yX0_addOption cX0_addOption 4 none]
def wsX5_count_r4 : List Cond := [Cond.fieldLink RX0 15 "SureMendings$Choices" "optionRows" "[I", Cond.methodLink RX0 63 yX0_optionsOf, Cond.instanceMethod yX0_optionsOf, Cond.selects RX0 yX0_optionsOf yX0_optionsOf, Cond.code yX0_optionsOf cX0_optionsOf 2 (some .int), Cond.static yX5_put, Cond.code yX5_put cX5_put 3 none, Cond.methodLink RX0 70 yX0_targetBit, Cond.instanceMethod yX0_targetBit, Cond.selects RX0 yX0_targetBit yX0_targetBit, Cond.code yX0_targetBit cX0_targetBit 3 (some .int), Cond.methodLink RX0 73 yX3_targetAt, Cond.instanceMethod yX3_targetAt, Cond.selects RX3 yX3_targetAt yX3_targetAt, Cond.code yX3_targetAt cX3_targetAt 2 (some .int), Cond.fieldLink RX3 21 "SureMendings$Table" "targets" "[I", Cond.static yX5_isKey, Cond.code yX5_isKey cX5_isKey 1 (some .boolean), Cond.methodLink RX0 60 yX0_isThere, Cond.instanceMethod yX0_isThere, Cond.selects RX0 yX0_isThere yX0_isThere, Cond.code yX0_isThere cX0_isThere 2 (some .boolean), Cond.methodLink RX5 126 yX0_mendings, Cond.instanceMethod yX0_mendings]
def wsX5_count_r5 : List Cond := [Cond.selects RX0 yX0_mendings yX0_mendings, Cond.code yX0_mendings cX0_mendings 1 (some .int), Cond.methodLink RX5 216 yX0_sureRows, Cond.instanceMethod yX0_sureRows, Cond.selects RX0 yX0_sureRows yX0_sureRows, Cond.code yX0_sureRows cX0_sureRows 3 (some .int), Cond.methodLink RX0 83 yX0_isSureRow, Cond.instanceMethod yX0_isSureRow, Cond.selects RX0 yX0_isSureRow yX0_isSureRow, Cond.code yX0_isSureRow cX0_isSureRow 2 (some .boolean), Cond.methodLink RX5 219 yX0_sureValues, Cond.instanceMethod yX0_sureValues, Cond.selects RX0 yX0_sureValues yX0_sureValues, Cond.code yX0_sureValues cX0_sureValues 3 (some .int), Cond.methodLink RX0 92 yX0_fewestKeptWith, Cond.instanceMethod yX0_fewestKeptWith, Cond.selects RX0 yX0_fewestKeptWith yX0_fewestKeptWith, Cond.code yX0_fewestKeptWith cX0_fewestKeptWith 4 (some .int), Cond.methodLink RX0 89 yX0_optionsWith, Cond.instanceMethod yX0_optionsWith, Cond.selects RX0 yX0_optionsWith yX0_optionsWith, Cond.code yX0_optionsWith cX0_optionsWith 5 (some .int), Cond.methodLink RX0 79 yX0_option, Cond.instanceMethod yX0_option]
def wsX5_count_r6 : List Cond := [Cond.selects RX0 yX0_option yX0_option, Cond.code yX0_option cX0_option 3 (some .int), Cond.methodLink RX0 86 yX3_valueAt, Cond.instanceMethod yX3_valueAt, Cond.selects RX3 yX3_valueAt yX3_valueAt, Cond.code yX3_valueAt cX3_valueAt 2 (some .int), Cond.fieldLink RX3 15 "SureMendings$Table" "values" "[I", Cond.methodLink RX5 222 yX0_possibleValues, Cond.instanceMethod yX0_possibleValues, Cond.selects RX0 yX0_possibleValues yX0_possibleValues, Cond.code yX0_possibleValues cX0_possibleValues 3 (some .int), Cond.methodLink RX0 95 yX0_mostKeptWith, Cond.instanceMethod yX0_mostKeptWith, Cond.selects RX0 yX0_mostKeptWith yX0_mostKeptWith, Cond.code yX0_mostKeptWith cX0_mostKeptWith 4 (some .int), Cond.methodLink RX5 225 yX0_sureWays, Cond.instanceMethod yX0_sureWays, Cond.selects RX0 yX0_sureWays yX0_sureWays, Cond.code yX0_sureWays cX0_sureWays 3 (some .int), Cond.methodLink RX0 124 yX0_keysSureToReach, Cond.instanceMethod yX0_keysSureToReach, Cond.selects RX0 yX0_keysSureToReach yX0_keysSureToReach, Cond.code yX0_keysSureToReach cX0_keysSureToReach 4 (some .int), Cond.methodLink RX0 114 yX0_setOf]
def wsX5_count_r7 : List Cond := [Cond.instanceMethod yX0_setOf, Cond.selects RX0 yX0_setOf yX0_setOf, Cond.code yX0_setOf cX0_setOf 2 (some .int), Cond.methodLink RX0 127 yX0_keysThatMustPointInto, Cond.instanceMethod yX0_keysThatMustPointInto, Cond.selects RX0 yX0_keysThatMustPointInto yX0_keysThatMustPointInto, Cond.code yX0_keysThatMustPointInto cX0_keysThatMustPointInto 5 (some .int), Cond.methodLink RX0 130 yJ6_bitCount_0f7a4, Cond.static yJ6_bitCount_0f7a4, Cond.initialized RJ6, Cond.code yJ6_bitCount_0f7a4 cJ6_bitCount_0f7a4 1 (some .int), Cond.constant RJ6 265 (1431655765), Cond.constant RJ6 266 (858993459), Cond.constant RJ6 267 (252645135), Cond.methodLink RX5 228 yX0_possibleWays, Cond.instanceMethod yX0_possibleWays, Cond.selects RX0 yX0_possibleWays yX0_possibleWays, Cond.code yX0_possibleWays cX0_possibleWays 3 (some .int), Cond.methodLink RX0 135 yX0_keysThatCanReach, Cond.instanceMethod yX0_keysThatCanReach, Cond.selects RX0 yX0_keysThatCanReach yX0_keysThatCanReach, Cond.code yX0_keysThatCanReach cX0_keysThatCanReach 4 (some .int), Cond.methodLink RX0 121 yX0_keysThatCanPointInto, Cond.instanceMethod yX0_keysThatCanPointInto]
def wsX5_count_r8 : List Cond := [Cond.selects RX0 yX0_keysThatCanPointInto yX0_keysThatCanPointInto, Cond.code yX0_keysThatCanPointInto cX0_keysThatCanPointInto 4 (some .int), Cond.methodLink RX5 115 yX3_prefersHeaviest, Cond.instanceMethod yX3_prefersHeaviest, Cond.selects RX3 yX3_prefersHeaviest yX3_prefersHeaviest, Cond.code yX3_prefersHeaviest cX3_prefersHeaviest 1 (some .boolean), Cond.methodLink RX5 157 yX5_oneIf, Cond.static yX5_oneIf, Cond.code yX5_oneIf cX5_oneIf 1 (some .int), Cond.methodLink RX5 141 yX1_size, Cond.instanceMethod yX1_size, Cond.selects RX1 yX1_size yX1_size, Cond.initialized RX1, Cond.code yX1_size cX1_size 1 (some .int), Cond.fieldLink RX1 18 "SureMendings$History" "size" "I", Cond.methodLink RX5 131 yX4_length, Cond.instanceMethod yX4_length, Cond.selects RX4 yX4_length yX4_length, Cond.initialized RX4, Cond.code yX4_length cX4_length 1 (some .int), Cond.fieldLink RX4 15 "SureMendings$Text" "length" "I"]
def wsX5_count : List Cond := .code yX5_count cX5_count 2 (some .int) :: ((wsX5_count_r1 ++ (wsX5_count_r2 ++ (wsX5_count_r3 ++ (wsX5_count_r4 ++ (wsX5_count_r5 ++ (wsX5_count_r6 ++ (wsX5_count_r7 ++ wsX5_count_r8))))))) ++ wsX50 ++ wsX30 ++ wsX00 ++ wsX10 ++ wsX40)
def wsX6_init : List Cond := .code yX6_init cX6_init 1 none :: ([.methodLink RX6 1 objectInit, .instanceMethod objectInit, .code objectInit ⟨#[0xb1]⟩ 1 none, .arrayClass .int, .fieldLink RX6 7 "SureMendingsModel" "all" "[I", .fieldLink RX6 13 "SureMendingsModel" "saved" "[I", .fieldLink RX6 16 "SureMendingsModel" "history" "[I", .fieldLink RX6 19 "SureMendingsModel" "snapshot" "[I", .fieldLink RX6 22 "SureMendingsModel" "choices" "[I", .fieldLink RX6 25 "SureMendingsModel" "many" "[I", .fieldLink RX6 28 "SureMendingsModel" "kept" "[I", .fieldLink RX6 31 "SureMendingsModel" "fixed" "I", .fieldLink RX6 35 "SureMendingsModel" "text" "[I", .fieldLink RX6 38 "SureMendingsModel" "read" "[I", .fieldLink RX6 41 "SureMendingsModel" "ways" "[I"] ++ wsX60)
def wsX6_in : List Cond := .code yX6_in cX6_in 6 (some .boolean) :: ([])
def wsX6_remember : List Cond := .code yX6_remember cX6_remember 2 none :: ([.fieldLink RX6 13 "SureMendingsModel" "saved" "[I", .fieldLink RX6 7 "SureMendingsModel" "all" "[I"] ++ wsX60)
def wsX6_acted : List Cond := .code yX6_acted cX6_acted 3 (some .int) :: ([.fieldLink RX6 44 "SureMendingsModel" "historyLong" "I", .fieldLink RX6 16 "SureMendingsModel" "history" "[I", .fieldLink RX6 13 "SureMendingsModel" "saved" "[I"] ++ wsX60)
def wsX6_of : List Cond := .code yX6_of cX6_of 3 (some .int) :: ([.fieldLink RX6 7 "SureMendingsModel" "all" "[I"] ++ wsX60)
def wsX6_isRow : List Cond := .code yX6_isRow cX6_isRow 2 (some .boolean) :: ([.fieldLink RX6 7 "SureMendingsModel" "all" "[I", .methodLink RX6 47 yX6_in, .static yX6_in, .initialized RX6, .code yX6_in cX6_in 6 (some .boolean)] ++ wsX60)
def wsX6_isKey : List Cond := .code yX6_isKey cX6_isKey 1 (some .boolean) :: ([.constantLong RX6 51 (9), .methodLink RX6 47 yX6_in, .static yX6_in, .initialized RX6, .code yX6_in cX6_in 6 (some .boolean)])
def wsX6_rowsOf : List Cond := .code yX6_rowsOf cX6_rowsOf 4 (some .int) :: ([.fieldLink RX6 7 "SureMendingsModel" "all" "[I", .methodLink RX6 53 yX6_of, .instanceMethod yX6_of, .selects RX6 yX6_of yX6_of, .initialized RX6, .code yX6_of cX6_of 3 (some .int)] ++ wsX60)
def wsX6_outermost : List Cond := .code yX6_outermost cX6_outermost 6 (some .int) :: ([.fieldLink RX6 7 "SureMendingsModel" "all" "[I", .methodLink RX6 53 yX6_of, .instanceMethod yX6_of, .selects RX6 yX6_of yX6_of, .initialized RX6, .code yX6_of cX6_of 3 (some .int)] ++ wsX60)
def wsX6_canBeKept : List Cond := .code yX6_canBeKept cX6_canBeKept 2 (some .boolean) :: ([.fieldLink RX6 7 "SureMendingsModel" "all" "[I", .methodLink RX6 53 yX6_of, .instanceMethod yX6_of, .selects RX6 yX6_of yX6_of, .initialized RX6, .code yX6_of cX6_of 3 (some .int), .methodLink RX6 57 yX6_outermost, .instanceMethod yX6_outermost, .selects RX6 yX6_outermost yX6_outermost, .code yX6_outermost cX6_outermost 6 (some .int)] ++ wsX60)
def wsX6_puts : List Cond := .code yX6_puts cX6_puts 6 none :: ([.fieldLink RX6 7 "SureMendingsModel" "all" "[I"] ++ wsX60)
def wsX6_takesOut : List Cond := .code yX6_takesOut cX6_takesOut 3 none :: ([.fieldLink RX6 7 "SureMendingsModel" "all" "[I"] ++ wsX60)
def wsX6_mends : List Cond := .code yX6_mends cX6_mends 5 (some .int) :: ([.fieldLink RX6 7 "SureMendingsModel" "all" "[I", .methodLink RX6 53 yX6_of, .instanceMethod yX6_of, .selects RX6 yX6_of yX6_of, .initialized RX6, .code yX6_of cX6_of 3 (some .int), .methodLink RX6 61 yX6_takesOut, .instanceMethod yX6_takesOut, .selects RX6 yX6_takesOut yX6_takesOut, .code yX6_takesOut cX6_takesOut 3 none] ++ wsX60)
def wsX6_findsChoices : List Cond := .code yX6_findsChoices cX6_findsChoices 4 none :: ([.fieldLink RX6 25 "SureMendingsModel" "many" "[I", .fieldLink RX6 7 "SureMendingsModel" "all" "[I", .fieldLink RX6 31 "SureMendingsModel" "fixed" "I", .fieldLink RX6 22 "SureMendingsModel" "choices" "[I", .methodLink RX6 53 yX6_of, .instanceMethod yX6_of, .selects RX6 yX6_of yX6_of, .initialized RX6, .code yX6_of cX6_of 3 (some .int), .methodLink RX6 65 yX6_canBeKept, .instanceMethod yX6_canBeKept, .selects RX6 yX6_canBeKept yX6_canBeKept, .code yX6_canBeKept cX6_canBeKept 2 (some .boolean), .methodLink RX6 57 yX6_outermost, .instanceMethod yX6_outermost, .selects RX6 yX6_outermost yX6_outermost, .code yX6_outermost cX6_outermost 6 (some .int)] ++ wsX60)
def wsX6_mendings : List Cond := .code yX6_mendings cX6_mendings 3 (some .int) :: ([.fieldLink RX6 25 "SureMendingsModel" "many" "[I"] ++ wsX60)
def wsX6_takes : List Cond := .code yX6_takes cX6_takes 5 none :: ([.fieldLink RX6 25 "SureMendingsModel" "many" "[I", .fieldLink RX6 28 "SureMendingsModel" "kept" "[I", .fieldLink RX6 22 "SureMendingsModel" "choices" "[I"] ++ wsX60)
def wsX6_wayLong : List Cond := .code yX6_wayLong cX6_wayLong 5 (some .int) :: ([.fieldLink RX6 28 "SureMendingsModel" "kept" "[I", .methodLink RX6 53 yX6_of, .instanceMethod yX6_of, .selects RX6 yX6_of yX6_of, .initialized RX6, .code yX6_of cX6_of 3 (some .int), .fieldLink RX6 7 "SureMendingsModel" "all" "[I"] ++ wsX60)
def wsX6_kept : List Cond := .code yX6_kept cX6_kept 4 (some .int) :: ([.fieldLink RX6 28 "SureMendingsModel" "kept" "[I", .methodLink RX6 53 yX6_of, .instanceMethod yX6_of, .selects RX6 yX6_of yX6_of, .initialized RX6, .code yX6_of cX6_of 3 (some .int), .fieldLink RX6 7 "SureMendingsModel" "all" "[I"] ++ wsX60)
def wsX6_isValue : List Cond := .code yX6_isValue cX6_isValue 1 (some .boolean) :: ([.constantLong RX6 69 (97), .constantLong RX6 71 (104), .methodLink RX6 47 yX6_in, .static yX6_in, .initialized RX6, .code yX6_in cX6_in 6 (some .boolean)])
def wsX6_add_r1 : List Cond := [Cond.constantLong RX6 79 (99), Cond.fieldLink RX6 7 "SureMendingsModel" "all" "[I", Cond.methodLink RX6 73 yX6_isKey, Cond.static yX6_isKey, Cond.initialized RX6, Cond.code yX6_isKey cX6_isKey 1 (some .boolean), Cond.constantLong RX6 51 (9), Cond.methodLink RX6 47 yX6_in, Cond.static yX6_in, Cond.code yX6_in cX6_in 6 (some .boolean), Cond.methodLink RX6 76 yX6_isValue, Cond.static yX6_isValue, Cond.code yX6_isValue cX6_isValue 1 (some .boolean), Cond.constantLong RX6 69 (97), Cond.constantLong RX6 71 (104), Cond.methodLink RX6 81 yX6_remember, Cond.instanceMethod yX6_remember, Cond.selects RX6 yX6_remember yX6_remember, Cond.code yX6_remember cX6_remember 2 none, Cond.fieldLink RX6 13 "SureMendingsModel" "saved" "[I", Cond.methodLink RX6 84 yX6_puts, Cond.instanceMethod yX6_puts, Cond.selects RX6 yX6_puts yX6_puts, Cond.code yX6_puts cX6_puts 6 none]
def wsX6_add_r2 : List Cond := [Cond.methodLink RX6 88 yX6_acted, Cond.instanceMethod yX6_acted, Cond.selects RX6 yX6_acted yX6_acted, Cond.code yX6_acted cX6_acted 3 (some .int), Cond.fieldLink RX6 44 "SureMendingsModel" "historyLong" "I", Cond.fieldLink RX6 16 "SureMendingsModel" "history" "[I"]
def wsX6_add : List Cond := .code yX6_add cX6_add 5 (some .int) :: ((wsX6_add_r1 ++ wsX6_add_r2) ++ wsX60)
def wsX6_remove : List Cond := .code yX6_remove cX6_remove 2 (some .int) :: ([.fieldLink RX6 7 "SureMendingsModel" "all" "[I", .methodLink RX6 92 yX6_isRow, .instanceMethod yX6_isRow, .selects RX6 yX6_isRow yX6_isRow, .initialized RX6, .code yX6_isRow cX6_isRow 2 (some .boolean), .methodLink RX6 47 yX6_in, .static yX6_in, .code yX6_in cX6_in 6 (some .boolean), .methodLink RX6 81 yX6_remember, .instanceMethod yX6_remember, .selects RX6 yX6_remember yX6_remember, .code yX6_remember cX6_remember 2 none, .fieldLink RX6 13 "SureMendingsModel" "saved" "[I", .methodLink RX6 61 yX6_takesOut, .instanceMethod yX6_takesOut, .selects RX6 yX6_takesOut yX6_takesOut, .code yX6_takesOut cX6_takesOut 3 none, .methodLink RX6 88 yX6_acted, .instanceMethod yX6_acted, .selects RX6 yX6_acted yX6_acted, .code yX6_acted cX6_acted 3 (some .int), .fieldLink RX6 44 "SureMendingsModel" "historyLong" "I", .fieldLink RX6 16 "SureMendingsModel" "history" "[I"] ++ wsX60)
def wsX6_mend_r1 : List Cond := [Cond.methodLink RX6 92 yX6_isRow, Cond.instanceMethod yX6_isRow, Cond.selects RX6 yX6_isRow yX6_isRow, Cond.initialized RX6, Cond.code yX6_isRow cX6_isRow 2 (some .boolean), Cond.fieldLink RX6 7 "SureMendingsModel" "all" "[I", Cond.methodLink RX6 47 yX6_in, Cond.static yX6_in, Cond.code yX6_in cX6_in 6 (some .boolean), Cond.methodLink RX6 81 yX6_remember, Cond.instanceMethod yX6_remember, Cond.selects RX6 yX6_remember yX6_remember, Cond.code yX6_remember cX6_remember 2 none, Cond.fieldLink RX6 13 "SureMendingsModel" "saved" "[I", Cond.methodLink RX6 95 yX6_mends, Cond.instanceMethod yX6_mends, Cond.selects RX6 yX6_mends yX6_mends, Cond.code yX6_mends cX6_mends 5 (some .int), Cond.methodLink RX6 53 yX6_of, Cond.instanceMethod yX6_of, Cond.selects RX6 yX6_of yX6_of, Cond.code yX6_of cX6_of 3 (some .int), Cond.methodLink RX6 61 yX6_takesOut, Cond.instanceMethod yX6_takesOut]
def wsX6_mend_r2 : List Cond := [Cond.selects RX6 yX6_takesOut yX6_takesOut, Cond.code yX6_takesOut cX6_takesOut 3 none, Cond.methodLink RX6 88 yX6_acted, Cond.instanceMethod yX6_acted, Cond.selects RX6 yX6_acted yX6_acted, Cond.code yX6_acted cX6_acted 3 (some .int), Cond.fieldLink RX6 44 "SureMendingsModel" "historyLong" "I", Cond.fieldLink RX6 16 "SureMendingsModel" "history" "[I"]
def wsX6_mend : List Cond := .code yX6_mend cX6_mend 3 (some .int) :: ((wsX6_mend_r1 ++ wsX6_mend_r2) ++ wsX60)
def wsX6_lastOf : List Cond := .code yX6_lastOf cX6_lastOf 4 (some .int) :: ([.fieldLink RX6 7 "SureMendingsModel" "all" "[I", .methodLink RX6 53 yX6_of, .instanceMethod yX6_of, .selects RX6 yX6_of yX6_of, .initialized RX6, .code yX6_of cX6_of 3 (some .int)] ++ wsX60)
def wsX6_firstOf : List Cond := .code yX6_firstOf cX6_firstOf 3 (some .int) :: ([.methodLink RX6 53 yX6_of, .instanceMethod yX6_of, .selects RX6 yX6_of yX6_of, .initialized RX6, .code yX6_of cX6_of 3 (some .int), .fieldLink RX6 7 "SureMendingsModel" "all" "[I"] ++ wsX60)
def wsX6_mendAll_r1 : List Cond := [Cond.constantLong RX6 98 (2), Cond.methodLink RX6 47 yX6_in, Cond.static yX6_in, Cond.initialized RX6, Cond.code yX6_in cX6_in 6 (some .boolean), Cond.methodLink RX6 81 yX6_remember, Cond.instanceMethod yX6_remember, Cond.selects RX6 yX6_remember yX6_remember, Cond.code yX6_remember cX6_remember 2 none, Cond.fieldLink RX6 13 "SureMendingsModel" "saved" "[I", Cond.fieldLink RX6 7 "SureMendingsModel" "all" "[I", Cond.methodLink RX6 100 yX6_rowsOf, Cond.instanceMethod yX6_rowsOf, Cond.selects RX6 yX6_rowsOf yX6_rowsOf, Cond.code yX6_rowsOf cX6_rowsOf 4 (some .int), Cond.methodLink RX6 53 yX6_of, Cond.instanceMethod yX6_of, Cond.selects RX6 yX6_of yX6_of, Cond.code yX6_of cX6_of 3 (some .int), Cond.methodLink RX6 103 yX6_firstOf, Cond.instanceMethod yX6_firstOf, Cond.selects RX6 yX6_firstOf yX6_firstOf, Cond.code yX6_firstOf cX6_firstOf 3 (some .int), Cond.methodLink RX6 106 yX6_lastOf]
def wsX6_mendAll_r2 : List Cond := [Cond.instanceMethod yX6_lastOf, Cond.selects RX6 yX6_lastOf yX6_lastOf, Cond.code yX6_lastOf cX6_lastOf 4 (some .int), Cond.methodLink RX6 57 yX6_outermost, Cond.instanceMethod yX6_outermost, Cond.selects RX6 yX6_outermost yX6_outermost, Cond.code yX6_outermost cX6_outermost 6 (some .int), Cond.methodLink RX6 95 yX6_mends, Cond.instanceMethod yX6_mends, Cond.selects RX6 yX6_mends yX6_mends, Cond.code yX6_mends cX6_mends 5 (some .int), Cond.methodLink RX6 61 yX6_takesOut, Cond.instanceMethod yX6_takesOut, Cond.selects RX6 yX6_takesOut yX6_takesOut, Cond.code yX6_takesOut cX6_takesOut 3 none, Cond.methodLink RX6 88 yX6_acted, Cond.instanceMethod yX6_acted, Cond.selects RX6 yX6_acted yX6_acted, Cond.code yX6_acted cX6_acted 3 (some .int), Cond.fieldLink RX6 44 "SureMendingsModel" "historyLong" "I", Cond.fieldLink RX6 16 "SureMendingsModel" "history" "[I"]
def wsX6_mendAll : List Cond := .code yX6_mendAll cX6_mendAll 4 (some .int) :: ((wsX6_mendAll_r1 ++ wsX6_mendAll_r2) ++ wsX60)
def wsX6_prefer_r1 : List Cond := [Cond.fieldLink RX6 7 "SureMendingsModel" "all" "[I", Cond.methodLink RX6 81 yX6_remember, Cond.instanceMethod yX6_remember, Cond.selects RX6 yX6_remember yX6_remember, Cond.initialized RX6, Cond.code yX6_remember cX6_remember 2 none, Cond.fieldLink RX6 13 "SureMendingsModel" "saved" "[I", Cond.methodLink RX6 109 yX6_findsChoices, Cond.instanceMethod yX6_findsChoices, Cond.selects RX6 yX6_findsChoices yX6_findsChoices, Cond.code yX6_findsChoices cX6_findsChoices 4 none, Cond.fieldLink RX6 25 "SureMendingsModel" "many" "[I", Cond.fieldLink RX6 31 "SureMendingsModel" "fixed" "I", Cond.fieldLink RX6 22 "SureMendingsModel" "choices" "[I", Cond.methodLink RX6 53 yX6_of, Cond.instanceMethod yX6_of, Cond.selects RX6 yX6_of yX6_of, Cond.code yX6_of cX6_of 3 (some .int), Cond.methodLink RX6 65 yX6_canBeKept, Cond.instanceMethod yX6_canBeKept, Cond.selects RX6 yX6_canBeKept yX6_canBeKept, Cond.code yX6_canBeKept cX6_canBeKept 2 (some .boolean), Cond.methodLink RX6 57 yX6_outermost, Cond.instanceMethod yX6_outermost]
def wsX6_prefer_r2 : List Cond := [Cond.selects RX6 yX6_outermost yX6_outermost, Cond.code yX6_outermost cX6_outermost 6 (some .int), Cond.methodLink RX6 112 yX6_mendings, Cond.instanceMethod yX6_mendings, Cond.selects RX6 yX6_mendings yX6_mendings, Cond.code yX6_mendings cX6_mendings 3 (some .int), Cond.methodLink RX6 88 yX6_acted, Cond.instanceMethod yX6_acted, Cond.selects RX6 yX6_acted yX6_acted, Cond.code yX6_acted cX6_acted 3 (some .int), Cond.fieldLink RX6 44 "SureMendingsModel" "historyLong" "I", Cond.fieldLink RX6 16 "SureMendingsModel" "history" "[I"]
def wsX6_prefer : List Cond := .code yX6_prefer cX6_prefer 3 (some .int) :: ((wsX6_prefer_r1 ++ wsX6_prefer_r2) ++ wsX60)
def wsX6_type : List Cond := .code yX6_type cX6_type 2 (some .int) :: ([.fieldLink RX6 116 "SureMendingsModel" "textLong" "I", .fieldLink RX6 35 "SureMendingsModel" "text" "[I"] ++ wsX60)
def wsX6_clearText : List Cond := .code yX6_clearText cX6_clearText 2 (some .int) :: ([.fieldLink RX6 116 "SureMendingsModel" "textLong" "I"] ++ wsX60)
def wsX6_isHere : List Cond := .code yX6_isHere cX6_isHere 3 (some .boolean) :: ([.fieldLink RX6 119 "SureMendingsModel" "spot" "I", .fieldLink RX6 116 "SureMendingsModel" "textLong" "I", .fieldLink RX6 35 "SureMendingsModel" "text" "[I", .methodLink RX6 47 yX6_in, .static yX6_in, .initialized RX6, .code yX6_in cX6_in 6 (some .boolean)] ++ wsX60)
def wsX6_takesSign : List Cond := .code yX6_takesSign cX6_takesSign 3 (some .boolean) :: ([.fieldLink RX6 119 "SureMendingsModel" "spot" "I", .methodLink RX6 122 yX6_isHere, .instanceMethod yX6_isHere, .selects RX6 yX6_isHere yX6_isHere, .initialized RX6, .code yX6_isHere cX6_isHere 3 (some .boolean), .fieldLink RX6 116 "SureMendingsModel" "textLong" "I", .fieldLink RX6 35 "SureMendingsModel" "text" "[I", .methodLink RX6 47 yX6_in, .static yX6_in, .code yX6_in cX6_in 6 (some .boolean)] ++ wsX60)
def wsX6_reads : List Cond := .code yX6_reads cX6_reads 4 (some .boolean) :: ([.fieldLink RX6 38 "SureMendingsModel" "read" "[I", .fieldLink RX6 126 "SureMendingsModel" "readMany" "I", .fieldLink RX6 35 "SureMendingsModel" "text" "[I", .fieldLink RX6 119 "SureMendingsModel" "spot" "I", .methodLink RX6 122 yX6_isHere, .instanceMethod yX6_isHere, .selects RX6 yX6_isHere yX6_isHere, .initialized RX6, .code yX6_isHere cX6_isHere 3 (some .boolean), .fieldLink RX6 116 "SureMendingsModel" "textLong" "I", .methodLink RX6 47 yX6_in, .static yX6_in, .code yX6_in cX6_in 6 (some .boolean)] ++ wsX60)
def wsX6_readsRow : List Cond := .code yX6_readsRow cX6_readsRow 2 (some .boolean) :: ([.fieldLink RX6 35 "SureMendingsModel" "text" "[I", .fieldLink RX6 119 "SureMendingsModel" "spot" "I", .fieldLink RX6 38 "SureMendingsModel" "read" "[I", .fieldLink RX6 126 "SureMendingsModel" "readMany" "I", .methodLink RX6 129 yX6_reads, .instanceMethod yX6_reads, .selects RX6 yX6_reads yX6_reads, .initialized RX6, .code yX6_reads cX6_reads 4 (some .boolean), .methodLink RX6 122 yX6_isHere, .instanceMethod yX6_isHere, .selects RX6 yX6_isHere yX6_isHere, .code yX6_isHere cX6_isHere 3 (some .boolean), .fieldLink RX6 116 "SureMendingsModel" "textLong" "I", .methodLink RX6 47 yX6_in, .static yX6_in, .code yX6_in cX6_in 6 (some .boolean), .methodLink RX6 133 yX6_takesSign, .instanceMethod yX6_takesSign, .selects RX6 yX6_takesSign yX6_takesSign, .code yX6_takesSign cX6_takesSign 3 (some .boolean)] ++ wsX60)
def wsX6_fault_r1 : List Cond := [Cond.fieldLink RX6 119 "SureMendingsModel" "spot" "I", Cond.fieldLink RX6 126 "SureMendingsModel" "readMany" "I", Cond.fieldLink RX6 116 "SureMendingsModel" "textLong" "I", Cond.methodLink RX6 136 yX6_readsRow, Cond.instanceMethod yX6_readsRow, Cond.selects RX6 yX6_readsRow yX6_readsRow, Cond.initialized RX6, Cond.code yX6_readsRow cX6_readsRow 2 (some .boolean), Cond.fieldLink RX6 35 "SureMendingsModel" "text" "[I", Cond.fieldLink RX6 38 "SureMendingsModel" "read" "[I", Cond.methodLink RX6 129 yX6_reads, Cond.instanceMethod yX6_reads, Cond.selects RX6 yX6_reads yX6_reads, Cond.code yX6_reads cX6_reads 4 (some .boolean), Cond.methodLink RX6 122 yX6_isHere, Cond.instanceMethod yX6_isHere, Cond.selects RX6 yX6_isHere yX6_isHere, Cond.code yX6_isHere cX6_isHere 3 (some .boolean), Cond.methodLink RX6 47 yX6_in, Cond.static yX6_in, Cond.code yX6_in cX6_in 6 (some .boolean), Cond.methodLink RX6 133 yX6_takesSign, Cond.instanceMethod yX6_takesSign, Cond.selects RX6 yX6_takesSign yX6_takesSign]
def wsX6_fault_r2 : List Cond := [Cond.code yX6_takesSign cX6_takesSign 3 (some .boolean)]
def wsX6_fault : List Cond := .code yX6_fault cX6_fault 2 (some .int) :: ((wsX6_fault_r1 ++ wsX6_fault_r2) ++ wsX60)
def wsX6_readRows_r1 : List Cond := [Cond.fieldLink RX6 7 "SureMendingsModel" "all" "[I", Cond.fieldLink RX6 126 "SureMendingsModel" "readMany" "I", Cond.fieldLink RX6 38 "SureMendingsModel" "read" "[I", Cond.methodLink RX6 140 yX6_fault, Cond.instanceMethod yX6_fault, Cond.selects RX6 yX6_fault yX6_fault, Cond.initialized RX6, Cond.code yX6_fault cX6_fault 2 (some .int), Cond.fieldLink RX6 119 "SureMendingsModel" "spot" "I", Cond.fieldLink RX6 116 "SureMendingsModel" "textLong" "I", Cond.methodLink RX6 136 yX6_readsRow, Cond.instanceMethod yX6_readsRow, Cond.selects RX6 yX6_readsRow yX6_readsRow, Cond.code yX6_readsRow cX6_readsRow 2 (some .boolean), Cond.fieldLink RX6 35 "SureMendingsModel" "text" "[I", Cond.methodLink RX6 129 yX6_reads, Cond.instanceMethod yX6_reads, Cond.selects RX6 yX6_reads yX6_reads, Cond.code yX6_reads cX6_reads 4 (some .boolean), Cond.methodLink RX6 122 yX6_isHere, Cond.instanceMethod yX6_isHere, Cond.selects RX6 yX6_isHere yX6_isHere, Cond.code yX6_isHere cX6_isHere 3 (some .boolean), Cond.methodLink RX6 47 yX6_in]
def wsX6_readRows_r2 : List Cond := [Cond.static yX6_in, Cond.code yX6_in cX6_in 6 (some .boolean), Cond.methodLink RX6 133 yX6_takesSign, Cond.instanceMethod yX6_takesSign, Cond.selects RX6 yX6_takesSign yX6_takesSign, Cond.code yX6_takesSign cX6_takesSign 3 (some .boolean), Cond.methodLink RX6 81 yX6_remember, Cond.instanceMethod yX6_remember, Cond.selects RX6 yX6_remember yX6_remember, Cond.code yX6_remember cX6_remember 2 none, Cond.fieldLink RX6 13 "SureMendingsModel" "saved" "[I", Cond.methodLink RX6 84 yX6_puts, Cond.instanceMethod yX6_puts, Cond.selects RX6 yX6_puts yX6_puts, Cond.code yX6_puts cX6_puts 6 none, Cond.methodLink RX6 88 yX6_acted, Cond.instanceMethod yX6_acted, Cond.selects RX6 yX6_acted yX6_acted, Cond.code yX6_acted cX6_acted 3 (some .int), Cond.fieldLink RX6 44 "SureMendingsModel" "historyLong" "I", Cond.fieldLink RX6 16 "SureMendingsModel" "history" "[I"]
def wsX6_readRows : List Cond := .code yX6_readRows cX6_readRows 3 (some .int) :: ((wsX6_readRows_r1 ++ wsX6_readRows_r2) ++ wsX60)
def wsX6_undo : List Cond := .code yX6_undo cX6_undo 2 (some .int) :: ([.fieldLink RX6 44 "SureMendingsModel" "historyLong" "I", .fieldLink RX6 7 "SureMendingsModel" "all" "[I", .fieldLink RX6 16 "SureMendingsModel" "history" "[I"] ++ wsX60)
def wsX6_keep : List Cond := .code yX6_keep cX6_keep 2 (some .int) :: ([.fieldLink RX6 19 "SureMendingsModel" "snapshot" "[I", .fieldLink RX6 7 "SureMendingsModel" "all" "[I", .fieldLink RX6 143 "SureMendingsModel" "isTaken" "I"] ++ wsX60)
def wsX6_restore : List Cond := .code yX6_restore cX6_restore 2 (some .int) :: ([.fieldLink RX6 143 "SureMendingsModel" "isTaken" "I", .fieldLink RX6 7 "SureMendingsModel" "all" "[I", .fieldLink RX6 19 "SureMendingsModel" "snapshot" "[I", .methodLink RX6 81 yX6_remember, .instanceMethod yX6_remember, .selects RX6 yX6_remember yX6_remember, .initialized RX6, .code yX6_remember cX6_remember 2 none, .fieldLink RX6 13 "SureMendingsModel" "saved" "[I", .methodLink RX6 88 yX6_acted, .instanceMethod yX6_acted, .selects RX6 yX6_acted yX6_acted, .code yX6_acted cX6_acted 3 (some .int), .fieldLink RX6 44 "SureMendingsModel" "historyLong" "I", .fieldLink RX6 16 "SureMendingsModel" "history" "[I"] ++ wsX60)
def wsX6_isSure : List Cond := .code yX6_isSure cX6_isSure 2 (some .boolean) :: ([.fieldLink RX6 25 "SureMendingsModel" "many" "[I", .methodLink RX6 109 yX6_findsChoices, .instanceMethod yX6_findsChoices, .selects RX6 yX6_findsChoices yX6_findsChoices, .initialized RX6, .code yX6_findsChoices cX6_findsChoices 4 none, .fieldLink RX6 7 "SureMendingsModel" "all" "[I", .fieldLink RX6 31 "SureMendingsModel" "fixed" "I", .fieldLink RX6 22 "SureMendingsModel" "choices" "[I", .methodLink RX6 53 yX6_of, .instanceMethod yX6_of, .selects RX6 yX6_of yX6_of, .code yX6_of cX6_of 3 (some .int), .methodLink RX6 65 yX6_canBeKept, .instanceMethod yX6_canBeKept, .selects RX6 yX6_canBeKept yX6_canBeKept, .code yX6_canBeKept cX6_canBeKept 2 (some .boolean), .methodLink RX6 57 yX6_outermost, .instanceMethod yX6_outermost, .selects RX6 yX6_outermost yX6_outermost, .code yX6_outermost cX6_outermost 6 (some .int)] ++ wsX60)
def wsX6_row_r1 : List Cond := [Cond.methodLink RX6 92 yX6_isRow, Cond.instanceMethod yX6_isRow, Cond.selects RX6 yX6_isRow yX6_isRow, Cond.initialized RX6, Cond.code yX6_isRow cX6_isRow 2 (some .boolean), Cond.fieldLink RX6 7 "SureMendingsModel" "all" "[I", Cond.methodLink RX6 47 yX6_in, Cond.static yX6_in, Cond.code yX6_in cX6_in 6 (some .boolean), Cond.methodLink RX6 53 yX6_of, Cond.instanceMethod yX6_of, Cond.selects RX6 yX6_of yX6_of, Cond.code yX6_of cX6_of 3 (some .int), Cond.methodLink RX6 65 yX6_canBeKept, Cond.instanceMethod yX6_canBeKept, Cond.selects RX6 yX6_canBeKept yX6_canBeKept, Cond.code yX6_canBeKept cX6_canBeKept 2 (some .boolean), Cond.methodLink RX6 57 yX6_outermost, Cond.instanceMethod yX6_outermost, Cond.selects RX6 yX6_outermost yX6_outermost, Cond.code yX6_outermost cX6_outermost 6 (some .int), Cond.methodLink RX6 146 yX6_isSure, Cond.instanceMethod yX6_isSure, Cond.selects RX6 yX6_isSure yX6_isSure]
def wsX6_row_r2 : List Cond := [Cond.code yX6_isSure cX6_isSure 2 (some .boolean), Cond.fieldLink RX6 25 "SureMendingsModel" "many" "[I", Cond.methodLink RX6 109 yX6_findsChoices, Cond.instanceMethod yX6_findsChoices, Cond.selects RX6 yX6_findsChoices yX6_findsChoices, Cond.code yX6_findsChoices cX6_findsChoices 4 none, Cond.fieldLink RX6 31 "SureMendingsModel" "fixed" "I", Cond.fieldLink RX6 22 "SureMendingsModel" "choices" "[I"]
def wsX6_row : List Cond := .code yX6_row cX6_row 3 (some .int) :: ((wsX6_row_r1 ++ wsX6_row_r2) ++ wsX60)
def wsX6_pointing : List Cond := .code yX6_pointing cX6_pointing 4 (some .int) :: ([.fieldLink RX6 7 "SureMendingsModel" "all" "[I", .methodLink RX6 53 yX6_of, .instanceMethod yX6_of, .selects RX6 yX6_of yX6_of, .initialized RX6, .code yX6_of cX6_of 3 (some .int)] ++ wsX60)
def wsX6_key_r1 : List Cond := [Cond.fieldLink RX6 25 "SureMendingsModel" "many" "[I", Cond.methodLink RX6 73 yX6_isKey, Cond.static yX6_isKey, Cond.initialized RX6, Cond.code yX6_isKey cX6_isKey 1 (some .boolean), Cond.constantLong RX6 51 (9), Cond.methodLink RX6 47 yX6_in, Cond.static yX6_in, Cond.code yX6_in cX6_in 6 (some .boolean), Cond.methodLink RX6 109 yX6_findsChoices, Cond.instanceMethod yX6_findsChoices, Cond.selects RX6 yX6_findsChoices yX6_findsChoices, Cond.code yX6_findsChoices cX6_findsChoices 4 none, Cond.fieldLink RX6 7 "SureMendingsModel" "all" "[I", Cond.fieldLink RX6 31 "SureMendingsModel" "fixed" "I", Cond.fieldLink RX6 22 "SureMendingsModel" "choices" "[I", Cond.methodLink RX6 53 yX6_of, Cond.instanceMethod yX6_of, Cond.selects RX6 yX6_of yX6_of, Cond.code yX6_of cX6_of 3 (some .int), Cond.methodLink RX6 65 yX6_canBeKept, Cond.instanceMethod yX6_canBeKept, Cond.selects RX6 yX6_canBeKept yX6_canBeKept, Cond.code yX6_canBeKept cX6_canBeKept 2 (some .boolean)]
def wsX6_key_r2 : List Cond := [Cond.methodLink RX6 57 yX6_outermost, Cond.instanceMethod yX6_outermost, Cond.selects RX6 yX6_outermost yX6_outermost, Cond.code yX6_outermost cX6_outermost 6 (some .int), Cond.methodLink RX6 100 yX6_rowsOf, Cond.instanceMethod yX6_rowsOf, Cond.selects RX6 yX6_rowsOf yX6_rowsOf, Cond.code yX6_rowsOf cX6_rowsOf 4 (some .int), Cond.methodLink RX6 149 yX6_pointing, Cond.instanceMethod yX6_pointing, Cond.selects RX6 yX6_pointing yX6_pointing, Cond.code yX6_pointing cX6_pointing 4 (some .int)]
def wsX6_key : List Cond := .code yX6_key cX6_key 3 (some .int) :: ((wsX6_key_r1 ++ wsX6_key_r2) ++ wsX60)
def wsX6_begins_r1 : List Cond := [Cond.fieldLink RX6 152 "SureMendingsModel" "holding" "I", Cond.fieldLink RX6 155 "SureMendingsModel" "fewest" "I", Cond.fieldLink RX6 158 "SureMendingsModel" "most" "I", Cond.fieldLink RX6 161 "SureMendingsModel" "failing" "I", Cond.methodLink RX6 109 yX6_findsChoices, Cond.instanceMethod yX6_findsChoices, Cond.selects RX6 yX6_findsChoices yX6_findsChoices, Cond.initialized RX6, Cond.code yX6_findsChoices cX6_findsChoices 4 none, Cond.fieldLink RX6 25 "SureMendingsModel" "many" "[I", Cond.fieldLink RX6 7 "SureMendingsModel" "all" "[I", Cond.fieldLink RX6 31 "SureMendingsModel" "fixed" "I", Cond.fieldLink RX6 22 "SureMendingsModel" "choices" "[I", Cond.methodLink RX6 53 yX6_of, Cond.instanceMethod yX6_of, Cond.selects RX6 yX6_of yX6_of, Cond.code yX6_of cX6_of 3 (some .int), Cond.methodLink RX6 65 yX6_canBeKept, Cond.instanceMethod yX6_canBeKept, Cond.selects RX6 yX6_canBeKept yX6_canBeKept, Cond.code yX6_canBeKept cX6_canBeKept 2 (some .boolean), Cond.methodLink RX6 57 yX6_outermost, Cond.instanceMethod yX6_outermost, Cond.selects RX6 yX6_outermost yX6_outermost]
def wsX6_begins_r2 : List Cond := [Cond.code yX6_outermost cX6_outermost 6 (some .int)]
def wsX6_begins : List Cond := .code yX6_begins cX6_begins 1 none :: ((wsX6_begins_r1 ++ wsX6_begins_r2) ++ wsX60)
def wsX6_counts : List Cond := .code yX6_counts cX6_counts 4 none :: ([.fieldLink RX6 152 "SureMendingsModel" "holding" "I", .fieldLink RX6 161 "SureMendingsModel" "failing" "I", .fieldLink RX6 155 "SureMendingsModel" "fewest" "I", .fieldLink RX6 158 "SureMendingsModel" "most" "I"] ++ wsX60)
def wsX6_asksValue_r1 : List Cond := [Cond.fieldLink RX6 155 "SureMendingsModel" "fewest" "I", Cond.methodLink RX6 164 yX6_begins, Cond.instanceMethod yX6_begins, Cond.selects RX6 yX6_begins yX6_begins, Cond.initialized RX6, Cond.code yX6_begins cX6_begins 1 none, Cond.fieldLink RX6 152 "SureMendingsModel" "holding" "I", Cond.fieldLink RX6 158 "SureMendingsModel" "most" "I", Cond.fieldLink RX6 161 "SureMendingsModel" "failing" "I", Cond.methodLink RX6 109 yX6_findsChoices, Cond.instanceMethod yX6_findsChoices, Cond.selects RX6 yX6_findsChoices yX6_findsChoices, Cond.code yX6_findsChoices cX6_findsChoices 4 none, Cond.fieldLink RX6 25 "SureMendingsModel" "many" "[I", Cond.fieldLink RX6 7 "SureMendingsModel" "all" "[I", Cond.fieldLink RX6 31 "SureMendingsModel" "fixed" "I", Cond.fieldLink RX6 22 "SureMendingsModel" "choices" "[I", Cond.methodLink RX6 53 yX6_of, Cond.instanceMethod yX6_of, Cond.selects RX6 yX6_of yX6_of, Cond.code yX6_of cX6_of 3 (some .int), Cond.methodLink RX6 65 yX6_canBeKept, Cond.instanceMethod yX6_canBeKept, Cond.selects RX6 yX6_canBeKept yX6_canBeKept]
def wsX6_asksValue_r2 : List Cond := [Cond.code yX6_canBeKept cX6_canBeKept 2 (some .boolean), Cond.methodLink RX6 57 yX6_outermost, Cond.instanceMethod yX6_outermost, Cond.selects RX6 yX6_outermost yX6_outermost, Cond.code yX6_outermost cX6_outermost 6 (some .int), Cond.methodLink RX6 112 yX6_mendings, Cond.instanceMethod yX6_mendings, Cond.selects RX6 yX6_mendings yX6_mendings, Cond.code yX6_mendings cX6_mendings 3 (some .int), Cond.methodLink RX6 167 yX6_takes, Cond.instanceMethod yX6_takes, Cond.selects RX6 yX6_takes yX6_takes, Cond.code yX6_takes cX6_takes 5 none, Cond.fieldLink RX6 28 "SureMendingsModel" "kept" "[I", Cond.methodLink RX6 170 yX6_kept, Cond.instanceMethod yX6_kept, Cond.selects RX6 yX6_kept yX6_kept, Cond.code yX6_kept cX6_kept 4 (some .int), Cond.methodLink RX6 172 yX6_counts, Cond.instanceMethod yX6_counts, Cond.selects RX6 yX6_counts yX6_counts, Cond.code yX6_counts cX6_counts 4 none]
def wsX6_asksValue : List Cond := .code yX6_asksValue cX6_asksValue 5 none :: ((wsX6_asksValue_r1 ++ wsX6_asksValue_r2) ++ wsX60)
def wsX6_asksWay_r1 : List Cond := [Cond.methodLink RX6 164 yX6_begins, Cond.instanceMethod yX6_begins, Cond.selects RX6 yX6_begins yX6_begins, Cond.initialized RX6, Cond.code yX6_begins cX6_begins 1 none, Cond.fieldLink RX6 152 "SureMendingsModel" "holding" "I", Cond.fieldLink RX6 155 "SureMendingsModel" "fewest" "I", Cond.fieldLink RX6 158 "SureMendingsModel" "most" "I", Cond.fieldLink RX6 161 "SureMendingsModel" "failing" "I", Cond.methodLink RX6 109 yX6_findsChoices, Cond.instanceMethod yX6_findsChoices, Cond.selects RX6 yX6_findsChoices yX6_findsChoices, Cond.code yX6_findsChoices cX6_findsChoices 4 none, Cond.fieldLink RX6 25 "SureMendingsModel" "many" "[I", Cond.fieldLink RX6 7 "SureMendingsModel" "all" "[I", Cond.fieldLink RX6 31 "SureMendingsModel" "fixed" "I", Cond.fieldLink RX6 22 "SureMendingsModel" "choices" "[I", Cond.methodLink RX6 53 yX6_of, Cond.instanceMethod yX6_of, Cond.selects RX6 yX6_of yX6_of, Cond.code yX6_of cX6_of 3 (some .int), Cond.methodLink RX6 65 yX6_canBeKept, Cond.instanceMethod yX6_canBeKept, Cond.selects RX6 yX6_canBeKept yX6_canBeKept]
def wsX6_asksWay_r2 : List Cond := [Cond.code yX6_canBeKept cX6_canBeKept 2 (some .boolean), Cond.methodLink RX6 57 yX6_outermost, Cond.instanceMethod yX6_outermost, Cond.selects RX6 yX6_outermost yX6_outermost, Cond.code yX6_outermost cX6_outermost 6 (some .int), Cond.methodLink RX6 112 yX6_mendings, Cond.instanceMethod yX6_mendings, Cond.selects RX6 yX6_mendings yX6_mendings, Cond.code yX6_mendings cX6_mendings 3 (some .int), Cond.methodLink RX6 167 yX6_takes, Cond.instanceMethod yX6_takes, Cond.selects RX6 yX6_takes yX6_takes, Cond.code yX6_takes cX6_takes 5 none, Cond.fieldLink RX6 28 "SureMendingsModel" "kept" "[I", Cond.methodLink RX6 176 yX6_wayLong, Cond.instanceMethod yX6_wayLong, Cond.selects RX6 yX6_wayLong yX6_wayLong, Cond.code yX6_wayLong cX6_wayLong 5 (some .int), Cond.methodLink RX6 172 yX6_counts, Cond.instanceMethod yX6_counts, Cond.selects RX6 yX6_counts yX6_counts, Cond.code yX6_counts cX6_counts 4 none]
def wsX6_asksWay : List Cond := .code yX6_asksWay cX6_asksWay 5 none :: ((wsX6_asksWay_r1 ++ wsX6_asksWay_r2) ++ wsX60)
def wsX6_value_r1 : List Cond := [Cond.constantLong RX6 179 (4), Cond.fieldLink RX6 161 "SureMendingsModel" "failing" "I", Cond.fieldLink RX6 152 "SureMendingsModel" "holding" "I", Cond.fieldLink RX6 155 "SureMendingsModel" "fewest" "I", Cond.fieldLink RX6 158 "SureMendingsModel" "most" "I", Cond.methodLink RX6 76 yX6_isValue, Cond.static yX6_isValue, Cond.initialized RX6, Cond.code yX6_isValue cX6_isValue 1 (some .boolean), Cond.constantLong RX6 69 (97), Cond.constantLong RX6 71 (104), Cond.methodLink RX6 47 yX6_in, Cond.static yX6_in, Cond.code yX6_in cX6_in 6 (some .boolean), Cond.methodLink RX6 181 yX6_asksValue, Cond.instanceMethod yX6_asksValue, Cond.selects RX6 yX6_asksValue yX6_asksValue, Cond.code yX6_asksValue cX6_asksValue 5 none, Cond.methodLink RX6 164 yX6_begins, Cond.instanceMethod yX6_begins, Cond.selects RX6 yX6_begins yX6_begins, Cond.code yX6_begins cX6_begins 1 none, Cond.methodLink RX6 109 yX6_findsChoices, Cond.instanceMethod yX6_findsChoices]
def wsX6_value_r2 : List Cond := [Cond.selects RX6 yX6_findsChoices yX6_findsChoices, Cond.code yX6_findsChoices cX6_findsChoices 4 none, Cond.fieldLink RX6 25 "SureMendingsModel" "many" "[I", Cond.fieldLink RX6 7 "SureMendingsModel" "all" "[I", Cond.fieldLink RX6 31 "SureMendingsModel" "fixed" "I", Cond.fieldLink RX6 22 "SureMendingsModel" "choices" "[I", Cond.methodLink RX6 53 yX6_of, Cond.instanceMethod yX6_of, Cond.selects RX6 yX6_of yX6_of, Cond.code yX6_of cX6_of 3 (some .int), Cond.methodLink RX6 65 yX6_canBeKept, Cond.instanceMethod yX6_canBeKept, Cond.selects RX6 yX6_canBeKept yX6_canBeKept, Cond.code yX6_canBeKept cX6_canBeKept 2 (some .boolean), Cond.methodLink RX6 57 yX6_outermost, Cond.instanceMethod yX6_outermost, Cond.selects RX6 yX6_outermost yX6_outermost, Cond.code yX6_outermost cX6_outermost 6 (some .int), Cond.methodLink RX6 112 yX6_mendings, Cond.instanceMethod yX6_mendings, Cond.selects RX6 yX6_mendings yX6_mendings, Cond.code yX6_mendings cX6_mendings 3 (some .int), Cond.methodLink RX6 167 yX6_takes, Cond.instanceMethod yX6_takes]
def wsX6_value_r3 : List Cond := [Cond.selects RX6 yX6_takes yX6_takes, Cond.code yX6_takes cX6_takes 5 none, Cond.fieldLink RX6 28 "SureMendingsModel" "kept" "[I", Cond.methodLink RX6 170 yX6_kept, Cond.instanceMethod yX6_kept, Cond.selects RX6 yX6_kept yX6_kept, Cond.code yX6_kept cX6_kept 4 (some .int), Cond.methodLink RX6 172 yX6_counts, Cond.instanceMethod yX6_counts, Cond.selects RX6 yX6_counts yX6_counts, Cond.code yX6_counts cX6_counts 4 none]
def wsX6_value : List Cond := .code yX6_value cX6_value 3 (some .int) :: ((wsX6_value_r1 ++ (wsX6_value_r2 ++ wsX6_value_r3)) ++ wsX60)
def wsX6_way_r1 : List Cond := [Cond.constantLong RX6 179 (4), Cond.fieldLink RX6 161 "SureMendingsModel" "failing" "I", Cond.fieldLink RX6 152 "SureMendingsModel" "holding" "I", Cond.fieldLink RX6 155 "SureMendingsModel" "fewest" "I", Cond.methodLink RX6 73 yX6_isKey, Cond.static yX6_isKey, Cond.initialized RX6, Cond.code yX6_isKey cX6_isKey 1 (some .boolean), Cond.constantLong RX6 51 (9), Cond.methodLink RX6 47 yX6_in, Cond.static yX6_in, Cond.code yX6_in cX6_in 6 (some .boolean), Cond.methodLink RX6 184 yX6_asksWay, Cond.instanceMethod yX6_asksWay, Cond.selects RX6 yX6_asksWay yX6_asksWay, Cond.code yX6_asksWay cX6_asksWay 5 none, Cond.methodLink RX6 164 yX6_begins, Cond.instanceMethod yX6_begins, Cond.selects RX6 yX6_begins yX6_begins, Cond.code yX6_begins cX6_begins 1 none, Cond.fieldLink RX6 158 "SureMendingsModel" "most" "I", Cond.methodLink RX6 109 yX6_findsChoices, Cond.instanceMethod yX6_findsChoices, Cond.selects RX6 yX6_findsChoices yX6_findsChoices]
def wsX6_way_r2 : List Cond := [Cond.code yX6_findsChoices cX6_findsChoices 4 none, Cond.fieldLink RX6 25 "SureMendingsModel" "many" "[I", Cond.fieldLink RX6 7 "SureMendingsModel" "all" "[I", Cond.fieldLink RX6 31 "SureMendingsModel" "fixed" "I", Cond.fieldLink RX6 22 "SureMendingsModel" "choices" "[I", Cond.methodLink RX6 53 yX6_of, Cond.instanceMethod yX6_of, Cond.selects RX6 yX6_of yX6_of, Cond.code yX6_of cX6_of 3 (some .int), Cond.methodLink RX6 65 yX6_canBeKept, Cond.instanceMethod yX6_canBeKept, Cond.selects RX6 yX6_canBeKept yX6_canBeKept, Cond.code yX6_canBeKept cX6_canBeKept 2 (some .boolean), Cond.methodLink RX6 57 yX6_outermost, Cond.instanceMethod yX6_outermost, Cond.selects RX6 yX6_outermost yX6_outermost, Cond.code yX6_outermost cX6_outermost 6 (some .int), Cond.methodLink RX6 112 yX6_mendings, Cond.instanceMethod yX6_mendings, Cond.selects RX6 yX6_mendings yX6_mendings, Cond.code yX6_mendings cX6_mendings 3 (some .int), Cond.methodLink RX6 167 yX6_takes, Cond.instanceMethod yX6_takes, Cond.selects RX6 yX6_takes yX6_takes]
def wsX6_way_r3 : List Cond := [Cond.code yX6_takes cX6_takes 5 none, Cond.fieldLink RX6 28 "SureMendingsModel" "kept" "[I", Cond.methodLink RX6 176 yX6_wayLong, Cond.instanceMethod yX6_wayLong, Cond.selects RX6 yX6_wayLong yX6_wayLong, Cond.code yX6_wayLong cX6_wayLong 5 (some .int), Cond.methodLink RX6 172 yX6_counts, Cond.instanceMethod yX6_counts, Cond.selects RX6 yX6_counts yX6_counts, Cond.code yX6_counts cX6_counts 4 none]
def wsX6_way : List Cond := .code yX6_way cX6_way 4 (some .int) :: ((wsX6_way_r1 ++ (wsX6_way_r2 ++ wsX6_way_r3)) ++ wsX60)
def wsX6_kept__r1 : List Cond := [Cond.fieldLink RX6 28 "SureMendingsModel" "kept" "[I", Cond.methodLink RX6 73 yX6_isKey, Cond.static yX6_isKey, Cond.initialized RX6, Cond.code yX6_isKey cX6_isKey 1 (some .boolean), Cond.constantLong RX6 51 (9), Cond.methodLink RX6 47 yX6_in, Cond.static yX6_in, Cond.code yX6_in cX6_in 6 (some .boolean), Cond.methodLink RX6 109 yX6_findsChoices, Cond.instanceMethod yX6_findsChoices, Cond.selects RX6 yX6_findsChoices yX6_findsChoices, Cond.code yX6_findsChoices cX6_findsChoices 4 none, Cond.fieldLink RX6 25 "SureMendingsModel" "many" "[I", Cond.fieldLink RX6 7 "SureMendingsModel" "all" "[I", Cond.fieldLink RX6 31 "SureMendingsModel" "fixed" "I", Cond.fieldLink RX6 22 "SureMendingsModel" "choices" "[I", Cond.methodLink RX6 53 yX6_of, Cond.instanceMethod yX6_of, Cond.selects RX6 yX6_of yX6_of, Cond.code yX6_of cX6_of 3 (some .int), Cond.methodLink RX6 65 yX6_canBeKept, Cond.instanceMethod yX6_canBeKept, Cond.selects RX6 yX6_canBeKept yX6_canBeKept]
def wsX6_kept__r2 : List Cond := [Cond.code yX6_canBeKept cX6_canBeKept 2 (some .boolean), Cond.methodLink RX6 57 yX6_outermost, Cond.instanceMethod yX6_outermost, Cond.selects RX6 yX6_outermost yX6_outermost, Cond.code yX6_outermost cX6_outermost 6 (some .int), Cond.methodLink RX6 112 yX6_mendings, Cond.instanceMethod yX6_mendings, Cond.selects RX6 yX6_mendings yX6_mendings, Cond.code yX6_mendings cX6_mendings 3 (some .int), Cond.methodLink RX6 167 yX6_takes, Cond.instanceMethod yX6_takes, Cond.selects RX6 yX6_takes yX6_takes, Cond.code yX6_takes cX6_takes 5 none]
def wsX6_kept_ : List Cond := .code yX6_kept_ cX6_kept_ 3 (some .int) :: ((wsX6_kept__r1 ++ wsX6_kept__r2) ++ wsX60)
def wsX6_weightOf : List Cond := .code yX6_weightOf cX6_weightOf 3 (some .int) :: ([.fieldLink RX6 28 "SureMendingsModel" "kept" "[I", .methodLink RX6 53 yX6_of, .instanceMethod yX6_of, .selects RX6 yX6_of yX6_of, .initialized RX6, .code yX6_of cX6_of 3 (some .int), .fieldLink RX6 7 "SureMendingsModel" "all" "[I"] ++ wsX60)
def wsX6_sum_r1 : List Cond := [Cond.constantLong RX6 188 (3), Cond.methodLink RX6 47 yX6_in, Cond.static yX6_in, Cond.initialized RX6, Cond.code yX6_in cX6_in 6 (some .boolean), Cond.methodLink RX6 109 yX6_findsChoices, Cond.instanceMethod yX6_findsChoices, Cond.selects RX6 yX6_findsChoices yX6_findsChoices, Cond.code yX6_findsChoices cX6_findsChoices 4 none, Cond.fieldLink RX6 25 "SureMendingsModel" "many" "[I", Cond.fieldLink RX6 7 "SureMendingsModel" "all" "[I", Cond.fieldLink RX6 31 "SureMendingsModel" "fixed" "I", Cond.fieldLink RX6 22 "SureMendingsModel" "choices" "[I", Cond.methodLink RX6 53 yX6_of, Cond.instanceMethod yX6_of, Cond.selects RX6 yX6_of yX6_of, Cond.code yX6_of cX6_of 3 (some .int), Cond.methodLink RX6 65 yX6_canBeKept, Cond.instanceMethod yX6_canBeKept, Cond.selects RX6 yX6_canBeKept yX6_canBeKept, Cond.code yX6_canBeKept cX6_canBeKept 2 (some .boolean), Cond.methodLink RX6 57 yX6_outermost, Cond.instanceMethod yX6_outermost, Cond.selects RX6 yX6_outermost yX6_outermost]
def wsX6_sum_r2 : List Cond := [Cond.code yX6_outermost cX6_outermost 6 (some .int), Cond.methodLink RX6 167 yX6_takes, Cond.instanceMethod yX6_takes, Cond.selects RX6 yX6_takes yX6_takes, Cond.code yX6_takes cX6_takes 5 none, Cond.fieldLink RX6 28 "SureMendingsModel" "kept" "[I", Cond.methodLink RX6 190 yX6_weightOf, Cond.instanceMethod yX6_weightOf, Cond.selects RX6 yX6_weightOf yX6_weightOf, Cond.code yX6_weightOf cX6_weightOf 3 (some .int), Cond.methodLink RX6 112 yX6_mendings, Cond.instanceMethod yX6_mendings, Cond.selects RX6 yX6_mendings yX6_mendings, Cond.code yX6_mendings cX6_mendings 3 (some .int)]
def wsX6_sum : List Cond := .code yX6_sum cX6_sum 8 (some .int) :: ((wsX6_sum_r1 ++ wsX6_sum_r2) ++ wsX60)
def wsX6_isSureWay_r1 : List Cond := [Cond.fieldLink RX6 161 "SureMendingsModel" "failing" "I", Cond.methodLink RX6 184 yX6_asksWay, Cond.instanceMethod yX6_asksWay, Cond.selects RX6 yX6_asksWay yX6_asksWay, Cond.initialized RX6, Cond.code yX6_asksWay cX6_asksWay 5 none, Cond.methodLink RX6 164 yX6_begins, Cond.instanceMethod yX6_begins, Cond.selects RX6 yX6_begins yX6_begins, Cond.code yX6_begins cX6_begins 1 none, Cond.fieldLink RX6 152 "SureMendingsModel" "holding" "I", Cond.fieldLink RX6 155 "SureMendingsModel" "fewest" "I", Cond.fieldLink RX6 158 "SureMendingsModel" "most" "I", Cond.methodLink RX6 109 yX6_findsChoices, Cond.instanceMethod yX6_findsChoices, Cond.selects RX6 yX6_findsChoices yX6_findsChoices, Cond.code yX6_findsChoices cX6_findsChoices 4 none, Cond.fieldLink RX6 25 "SureMendingsModel" "many" "[I", Cond.fieldLink RX6 7 "SureMendingsModel" "all" "[I", Cond.fieldLink RX6 31 "SureMendingsModel" "fixed" "I", Cond.fieldLink RX6 22 "SureMendingsModel" "choices" "[I", Cond.methodLink RX6 53 yX6_of, Cond.instanceMethod yX6_of, Cond.selects RX6 yX6_of yX6_of]
def wsX6_isSureWay_r2 : List Cond := [Cond.code yX6_of cX6_of 3 (some .int), Cond.methodLink RX6 65 yX6_canBeKept, Cond.instanceMethod yX6_canBeKept, Cond.selects RX6 yX6_canBeKept yX6_canBeKept, Cond.code yX6_canBeKept cX6_canBeKept 2 (some .boolean), Cond.methodLink RX6 57 yX6_outermost, Cond.instanceMethod yX6_outermost, Cond.selects RX6 yX6_outermost yX6_outermost, Cond.code yX6_outermost cX6_outermost 6 (some .int), Cond.methodLink RX6 112 yX6_mendings, Cond.instanceMethod yX6_mendings, Cond.selects RX6 yX6_mendings yX6_mendings, Cond.code yX6_mendings cX6_mendings 3 (some .int), Cond.methodLink RX6 167 yX6_takes, Cond.instanceMethod yX6_takes, Cond.selects RX6 yX6_takes yX6_takes, Cond.code yX6_takes cX6_takes 5 none, Cond.fieldLink RX6 28 "SureMendingsModel" "kept" "[I", Cond.methodLink RX6 176 yX6_wayLong, Cond.instanceMethod yX6_wayLong, Cond.selects RX6 yX6_wayLong yX6_wayLong, Cond.code yX6_wayLong cX6_wayLong 5 (some .int), Cond.methodLink RX6 172 yX6_counts, Cond.instanceMethod yX6_counts]
def wsX6_isSureWay_r3 : List Cond := [Cond.selects RX6 yX6_counts yX6_counts, Cond.code yX6_counts cX6_counts 4 none]
def wsX6_isSureWay : List Cond := .code yX6_isSureWay cX6_isSureWay 3 (some .boolean) :: ((wsX6_isSureWay_r1 ++ (wsX6_isSureWay_r2 ++ wsX6_isSureWay_r3)) ++ wsX60)
def wsX6_bestRow_r1 : List Cond := [Cond.fieldLink RX6 7 "SureMendingsModel" "all" "[I", Cond.fieldLink RX6 31 "SureMendingsModel" "fixed" "I", Cond.methodLink RX6 193 yX6_isSureWay, Cond.instanceMethod yX6_isSureWay, Cond.selects RX6 yX6_isSureWay yX6_isSureWay, Cond.initialized RX6, Cond.code yX6_isSureWay cX6_isSureWay 3 (some .boolean), Cond.fieldLink RX6 161 "SureMendingsModel" "failing" "I", Cond.methodLink RX6 184 yX6_asksWay, Cond.instanceMethod yX6_asksWay, Cond.selects RX6 yX6_asksWay yX6_asksWay, Cond.code yX6_asksWay cX6_asksWay 5 none, Cond.methodLink RX6 164 yX6_begins, Cond.instanceMethod yX6_begins, Cond.selects RX6 yX6_begins yX6_begins, Cond.code yX6_begins cX6_begins 1 none, Cond.fieldLink RX6 152 "SureMendingsModel" "holding" "I", Cond.fieldLink RX6 155 "SureMendingsModel" "fewest" "I", Cond.fieldLink RX6 158 "SureMendingsModel" "most" "I", Cond.methodLink RX6 109 yX6_findsChoices, Cond.instanceMethod yX6_findsChoices, Cond.selects RX6 yX6_findsChoices yX6_findsChoices, Cond.code yX6_findsChoices cX6_findsChoices 4 none, Cond.fieldLink RX6 25 "SureMendingsModel" "many" "[I"]
def wsX6_bestRow_r2 : List Cond := [Cond.fieldLink RX6 22 "SureMendingsModel" "choices" "[I", Cond.methodLink RX6 53 yX6_of, Cond.instanceMethod yX6_of, Cond.selects RX6 yX6_of yX6_of, Cond.code yX6_of cX6_of 3 (some .int), Cond.methodLink RX6 65 yX6_canBeKept, Cond.instanceMethod yX6_canBeKept, Cond.selects RX6 yX6_canBeKept yX6_canBeKept, Cond.code yX6_canBeKept cX6_canBeKept 2 (some .boolean), Cond.methodLink RX6 57 yX6_outermost, Cond.instanceMethod yX6_outermost, Cond.selects RX6 yX6_outermost yX6_outermost, Cond.code yX6_outermost cX6_outermost 6 (some .int), Cond.methodLink RX6 112 yX6_mendings, Cond.instanceMethod yX6_mendings, Cond.selects RX6 yX6_mendings yX6_mendings, Cond.code yX6_mendings cX6_mendings 3 (some .int), Cond.methodLink RX6 167 yX6_takes, Cond.instanceMethod yX6_takes, Cond.selects RX6 yX6_takes yX6_takes, Cond.code yX6_takes cX6_takes 5 none, Cond.fieldLink RX6 28 "SureMendingsModel" "kept" "[I", Cond.methodLink RX6 176 yX6_wayLong, Cond.instanceMethod yX6_wayLong]
def wsX6_bestRow_r3 : List Cond := [Cond.selects RX6 yX6_wayLong yX6_wayLong, Cond.code yX6_wayLong cX6_wayLong 5 (some .int), Cond.methodLink RX6 172 yX6_counts, Cond.instanceMethod yX6_counts, Cond.selects RX6 yX6_counts yX6_counts, Cond.code yX6_counts cX6_counts 4 none, Cond.methodLink RX6 100 yX6_rowsOf, Cond.instanceMethod yX6_rowsOf, Cond.selects RX6 yX6_rowsOf yX6_rowsOf, Cond.code yX6_rowsOf cX6_rowsOf 4 (some .int)]
def wsX6_bestRow : List Cond := .code yX6_bestRow cX6_bestRow 6 (some .int) :: ((wsX6_bestRow_r1 ++ (wsX6_bestRow_r2 ++ wsX6_bestRow_r3)) ++ wsX60)
def wsX6_bestMended_r1 : List Cond := [Cond.methodLink RX6 73 yX6_isKey, Cond.static yX6_isKey, Cond.initialized RX6, Cond.code yX6_isKey cX6_isKey 1 (some .boolean), Cond.constantLong RX6 51 (9), Cond.methodLink RX6 47 yX6_in, Cond.static yX6_in, Cond.code yX6_in cX6_in 6 (some .boolean), Cond.methodLink RX6 196 yX6_bestRow, Cond.instanceMethod yX6_bestRow, Cond.selects RX6 yX6_bestRow yX6_bestRow, Cond.code yX6_bestRow cX6_bestRow 6 (some .int), Cond.fieldLink RX6 7 "SureMendingsModel" "all" "[I", Cond.fieldLink RX6 31 "SureMendingsModel" "fixed" "I", Cond.methodLink RX6 193 yX6_isSureWay, Cond.instanceMethod yX6_isSureWay, Cond.selects RX6 yX6_isSureWay yX6_isSureWay, Cond.code yX6_isSureWay cX6_isSureWay 3 (some .boolean), Cond.fieldLink RX6 161 "SureMendingsModel" "failing" "I", Cond.methodLink RX6 184 yX6_asksWay, Cond.instanceMethod yX6_asksWay, Cond.selects RX6 yX6_asksWay yX6_asksWay, Cond.code yX6_asksWay cX6_asksWay 5 none, Cond.methodLink RX6 164 yX6_begins]
def wsX6_bestMended_r2 : List Cond := [Cond.instanceMethod yX6_begins, Cond.selects RX6 yX6_begins yX6_begins, Cond.code yX6_begins cX6_begins 1 none, Cond.fieldLink RX6 152 "SureMendingsModel" "holding" "I", Cond.fieldLink RX6 155 "SureMendingsModel" "fewest" "I", Cond.fieldLink RX6 158 "SureMendingsModel" "most" "I", Cond.methodLink RX6 109 yX6_findsChoices, Cond.instanceMethod yX6_findsChoices, Cond.selects RX6 yX6_findsChoices yX6_findsChoices, Cond.code yX6_findsChoices cX6_findsChoices 4 none, Cond.fieldLink RX6 25 "SureMendingsModel" "many" "[I", Cond.fieldLink RX6 22 "SureMendingsModel" "choices" "[I", Cond.methodLink RX6 53 yX6_of, Cond.instanceMethod yX6_of, Cond.selects RX6 yX6_of yX6_of, Cond.code yX6_of cX6_of 3 (some .int), Cond.methodLink RX6 65 yX6_canBeKept, Cond.instanceMethod yX6_canBeKept, Cond.selects RX6 yX6_canBeKept yX6_canBeKept, Cond.code yX6_canBeKept cX6_canBeKept 2 (some .boolean), Cond.methodLink RX6 57 yX6_outermost, Cond.instanceMethod yX6_outermost, Cond.selects RX6 yX6_outermost yX6_outermost, Cond.code yX6_outermost cX6_outermost 6 (some .int)]
def wsX6_bestMended_r3 : List Cond := [Cond.methodLink RX6 112 yX6_mendings, Cond.instanceMethod yX6_mendings, Cond.selects RX6 yX6_mendings yX6_mendings, Cond.code yX6_mendings cX6_mendings 3 (some .int), Cond.methodLink RX6 167 yX6_takes, Cond.instanceMethod yX6_takes, Cond.selects RX6 yX6_takes yX6_takes, Cond.code yX6_takes cX6_takes 5 none, Cond.fieldLink RX6 28 "SureMendingsModel" "kept" "[I", Cond.methodLink RX6 176 yX6_wayLong, Cond.instanceMethod yX6_wayLong, Cond.selects RX6 yX6_wayLong yX6_wayLong, Cond.code yX6_wayLong cX6_wayLong 5 (some .int), Cond.methodLink RX6 172 yX6_counts, Cond.instanceMethod yX6_counts, Cond.selects RX6 yX6_counts yX6_counts, Cond.code yX6_counts cX6_counts 4 none, Cond.methodLink RX6 100 yX6_rowsOf, Cond.instanceMethod yX6_rowsOf, Cond.selects RX6 yX6_rowsOf yX6_rowsOf, Cond.code yX6_rowsOf cX6_rowsOf 4 (some .int)]
def wsX6_bestMended : List Cond := .code yX6_bestMended cX6_bestMended 5 (some .int) :: ((wsX6_bestMended_r1 ++ (wsX6_bestMended_r2 ++ wsX6_bestMended_r3)) ++ wsX60)
def wsX6_keysWith : List Cond := .code yX6_keysWith cX6_keysWith 4 (some .int) :: ([.methodLink RX6 100 yX6_rowsOf, .instanceMethod yX6_rowsOf, .selects RX6 yX6_rowsOf yX6_rowsOf, .initialized RX6, .code yX6_rowsOf cX6_rowsOf 4 (some .int), .fieldLink RX6 7 "SureMendingsModel" "all" "[I", .methodLink RX6 53 yX6_of, .instanceMethod yX6_of, .selects RX6 yX6_of yX6_of, .code yX6_of cX6_of 3 (some .int)] ++ wsX60)
def wsX6_sureRows_r1 : List Cond := [Cond.fieldLink RX6 7 "SureMendingsModel" "all" "[I", Cond.methodLink RX6 146 yX6_isSure, Cond.instanceMethod yX6_isSure, Cond.selects RX6 yX6_isSure yX6_isSure, Cond.initialized RX6, Cond.code yX6_isSure cX6_isSure 2 (some .boolean), Cond.fieldLink RX6 25 "SureMendingsModel" "many" "[I", Cond.methodLink RX6 109 yX6_findsChoices, Cond.instanceMethod yX6_findsChoices, Cond.selects RX6 yX6_findsChoices yX6_findsChoices, Cond.code yX6_findsChoices cX6_findsChoices 4 none, Cond.fieldLink RX6 31 "SureMendingsModel" "fixed" "I", Cond.fieldLink RX6 22 "SureMendingsModel" "choices" "[I", Cond.methodLink RX6 53 yX6_of, Cond.instanceMethod yX6_of, Cond.selects RX6 yX6_of yX6_of, Cond.code yX6_of cX6_of 3 (some .int), Cond.methodLink RX6 65 yX6_canBeKept, Cond.instanceMethod yX6_canBeKept, Cond.selects RX6 yX6_canBeKept yX6_canBeKept, Cond.code yX6_canBeKept cX6_canBeKept 2 (some .boolean), Cond.methodLink RX6 57 yX6_outermost, Cond.instanceMethod yX6_outermost, Cond.selects RX6 yX6_outermost yX6_outermost]
def wsX6_sureRows_r2 : List Cond := [Cond.code yX6_outermost cX6_outermost 6 (some .int)]
def wsX6_sureRows : List Cond := .code yX6_sureRows cX6_sureRows 3 (some .int) :: ((wsX6_sureRows_r1 ++ wsX6_sureRows_r2) ++ wsX60)
def wsX6_values_r1 : List Cond := [Cond.fieldLink RX6 161 "SureMendingsModel" "failing" "I", Cond.fieldLink RX6 152 "SureMendingsModel" "holding" "I", Cond.methodLink RX6 181 yX6_asksValue, Cond.instanceMethod yX6_asksValue, Cond.selects RX6 yX6_asksValue yX6_asksValue, Cond.initialized RX6, Cond.code yX6_asksValue cX6_asksValue 5 none, Cond.fieldLink RX6 155 "SureMendingsModel" "fewest" "I", Cond.methodLink RX6 164 yX6_begins, Cond.instanceMethod yX6_begins, Cond.selects RX6 yX6_begins yX6_begins, Cond.code yX6_begins cX6_begins 1 none, Cond.fieldLink RX6 158 "SureMendingsModel" "most" "I", Cond.methodLink RX6 109 yX6_findsChoices, Cond.instanceMethod yX6_findsChoices, Cond.selects RX6 yX6_findsChoices yX6_findsChoices, Cond.code yX6_findsChoices cX6_findsChoices 4 none, Cond.fieldLink RX6 25 "SureMendingsModel" "many" "[I", Cond.fieldLink RX6 7 "SureMendingsModel" "all" "[I", Cond.fieldLink RX6 31 "SureMendingsModel" "fixed" "I", Cond.fieldLink RX6 22 "SureMendingsModel" "choices" "[I", Cond.methodLink RX6 53 yX6_of, Cond.instanceMethod yX6_of, Cond.selects RX6 yX6_of yX6_of]
def wsX6_values_r2 : List Cond := [Cond.code yX6_of cX6_of 3 (some .int), Cond.methodLink RX6 65 yX6_canBeKept, Cond.instanceMethod yX6_canBeKept, Cond.selects RX6 yX6_canBeKept yX6_canBeKept, Cond.code yX6_canBeKept cX6_canBeKept 2 (some .boolean), Cond.methodLink RX6 57 yX6_outermost, Cond.instanceMethod yX6_outermost, Cond.selects RX6 yX6_outermost yX6_outermost, Cond.code yX6_outermost cX6_outermost 6 (some .int), Cond.methodLink RX6 112 yX6_mendings, Cond.instanceMethod yX6_mendings, Cond.selects RX6 yX6_mendings yX6_mendings, Cond.code yX6_mendings cX6_mendings 3 (some .int), Cond.methodLink RX6 167 yX6_takes, Cond.instanceMethod yX6_takes, Cond.selects RX6 yX6_takes yX6_takes, Cond.code yX6_takes cX6_takes 5 none, Cond.fieldLink RX6 28 "SureMendingsModel" "kept" "[I", Cond.methodLink RX6 170 yX6_kept, Cond.instanceMethod yX6_kept, Cond.selects RX6 yX6_kept yX6_kept, Cond.code yX6_kept cX6_kept 4 (some .int), Cond.methodLink RX6 172 yX6_counts, Cond.instanceMethod yX6_counts]
def wsX6_values_r3 : List Cond := [Cond.selects RX6 yX6_counts yX6_counts, Cond.code yX6_counts cX6_counts 4 none]
def wsX6_values : List Cond := .code yX6_values cX6_values 4 (some .int) :: ((wsX6_values_r1 ++ (wsX6_values_r2 ++ wsX6_values_r3)) ++ wsX60)
def wsX6_waysThat_r1 : List Cond := [Cond.fieldLink RX6 41 "SureMendingsModel" "ways" "[I", Cond.methodLink RX6 109 yX6_findsChoices, Cond.instanceMethod yX6_findsChoices, Cond.selects RX6 yX6_findsChoices yX6_findsChoices, Cond.initialized RX6, Cond.code yX6_findsChoices cX6_findsChoices 4 none, Cond.fieldLink RX6 25 "SureMendingsModel" "many" "[I", Cond.fieldLink RX6 7 "SureMendingsModel" "all" "[I", Cond.fieldLink RX6 31 "SureMendingsModel" "fixed" "I", Cond.fieldLink RX6 22 "SureMendingsModel" "choices" "[I", Cond.methodLink RX6 53 yX6_of, Cond.instanceMethod yX6_of, Cond.selects RX6 yX6_of yX6_of, Cond.code yX6_of cX6_of 3 (some .int), Cond.methodLink RX6 65 yX6_canBeKept, Cond.instanceMethod yX6_canBeKept, Cond.selects RX6 yX6_canBeKept yX6_canBeKept, Cond.code yX6_canBeKept cX6_canBeKept 2 (some .boolean), Cond.methodLink RX6 57 yX6_outermost, Cond.instanceMethod yX6_outermost, Cond.selects RX6 yX6_outermost yX6_outermost, Cond.code yX6_outermost cX6_outermost 6 (some .int), Cond.methodLink RX6 112 yX6_mendings, Cond.instanceMethod yX6_mendings]
def wsX6_waysThat_r2 : List Cond := [Cond.selects RX6 yX6_mendings yX6_mendings, Cond.code yX6_mendings cX6_mendings 3 (some .int), Cond.methodLink RX6 167 yX6_takes, Cond.instanceMethod yX6_takes, Cond.selects RX6 yX6_takes yX6_takes, Cond.code yX6_takes cX6_takes 5 none, Cond.fieldLink RX6 28 "SureMendingsModel" "kept" "[I", Cond.methodLink RX6 176 yX6_wayLong, Cond.instanceMethod yX6_wayLong, Cond.selects RX6 yX6_wayLong yX6_wayLong, Cond.code yX6_wayLong cX6_wayLong 5 (some .int)]
def wsX6_waysThat : List Cond := .code yX6_waysThat cX6_waysThat 5 (some .int) :: ((wsX6_waysThat_r1 ++ wsX6_waysThat_r2) ++ wsX60)
def wsX6_count_r1 : List Cond := [Cond.fieldLink RX6 7 "SureMendingsModel" "all" "[I", Cond.fieldLink RX6 44 "SureMendingsModel" "historyLong" "I", Cond.fieldLink RX6 116 "SureMendingsModel" "textLong" "I", Cond.methodLink RX6 199 yX6_keysWith, Cond.instanceMethod yX6_keysWith, Cond.selects RX6 yX6_keysWith yX6_keysWith, Cond.initialized RX6, Cond.code yX6_keysWith cX6_keysWith 4 (some .int), Cond.methodLink RX6 100 yX6_rowsOf, Cond.instanceMethod yX6_rowsOf, Cond.selects RX6 yX6_rowsOf yX6_rowsOf, Cond.code yX6_rowsOf cX6_rowsOf 4 (some .int), Cond.methodLink RX6 53 yX6_of, Cond.instanceMethod yX6_of, Cond.selects RX6 yX6_of yX6_of, Cond.code yX6_of cX6_of 3 (some .int), Cond.methodLink RX6 109 yX6_findsChoices, Cond.instanceMethod yX6_findsChoices, Cond.selects RX6 yX6_findsChoices yX6_findsChoices, Cond.code yX6_findsChoices cX6_findsChoices 4 none, Cond.fieldLink RX6 25 "SureMendingsModel" "many" "[I", Cond.fieldLink RX6 31 "SureMendingsModel" "fixed" "I", Cond.fieldLink RX6 22 "SureMendingsModel" "choices" "[I", Cond.methodLink RX6 65 yX6_canBeKept]
def wsX6_count_r2 : List Cond := [Cond.instanceMethod yX6_canBeKept, Cond.selects RX6 yX6_canBeKept yX6_canBeKept, Cond.code yX6_canBeKept cX6_canBeKept 2 (some .boolean), Cond.methodLink RX6 57 yX6_outermost, Cond.instanceMethod yX6_outermost, Cond.selects RX6 yX6_outermost yX6_outermost, Cond.code yX6_outermost cX6_outermost 6 (some .int), Cond.methodLink RX6 112 yX6_mendings, Cond.instanceMethod yX6_mendings, Cond.selects RX6 yX6_mendings yX6_mendings, Cond.code yX6_mendings cX6_mendings 3 (some .int), Cond.methodLink RX6 202 yX6_sureRows, Cond.instanceMethod yX6_sureRows, Cond.selects RX6 yX6_sureRows yX6_sureRows, Cond.code yX6_sureRows cX6_sureRows 3 (some .int), Cond.methodLink RX6 146 yX6_isSure, Cond.instanceMethod yX6_isSure, Cond.selects RX6 yX6_isSure yX6_isSure, Cond.code yX6_isSure cX6_isSure 2 (some .boolean), Cond.methodLink RX6 205 yX6_values, Cond.instanceMethod yX6_values, Cond.selects RX6 yX6_values yX6_values, Cond.code yX6_values cX6_values 4 (some .int), Cond.fieldLink RX6 161 "SureMendingsModel" "failing" "I"]
def wsX6_count_r3 : List Cond := [Cond.fieldLink RX6 152 "SureMendingsModel" "holding" "I", Cond.methodLink RX6 181 yX6_asksValue, Cond.instanceMethod yX6_asksValue, Cond.selects RX6 yX6_asksValue yX6_asksValue, Cond.code yX6_asksValue cX6_asksValue 5 none, Cond.fieldLink RX6 155 "SureMendingsModel" "fewest" "I", Cond.methodLink RX6 164 yX6_begins, Cond.instanceMethod yX6_begins, Cond.selects RX6 yX6_begins yX6_begins, Cond.code yX6_begins cX6_begins 1 none, Cond.fieldLink RX6 158 "SureMendingsModel" "most" "I", Cond.methodLink RX6 167 yX6_takes, Cond.instanceMethod yX6_takes, Cond.selects RX6 yX6_takes yX6_takes, Cond.code yX6_takes cX6_takes 5 none, Cond.fieldLink RX6 28 "SureMendingsModel" "kept" "[I", Cond.methodLink RX6 170 yX6_kept, Cond.instanceMethod yX6_kept, Cond.selects RX6 yX6_kept yX6_kept, Cond.code yX6_kept cX6_kept 4 (some .int), Cond.methodLink RX6 172 yX6_counts, Cond.instanceMethod yX6_counts, Cond.selects RX6 yX6_counts yX6_counts, Cond.code yX6_counts cX6_counts 4 none]
def wsX6_count_r4 : List Cond := [Cond.methodLink RX6 209 yX6_waysThat, Cond.instanceMethod yX6_waysThat, Cond.selects RX6 yX6_waysThat yX6_waysThat, Cond.code yX6_waysThat cX6_waysThat 5 (some .int), Cond.fieldLink RX6 41 "SureMendingsModel" "ways" "[I", Cond.methodLink RX6 176 yX6_wayLong, Cond.instanceMethod yX6_wayLong, Cond.selects RX6 yX6_wayLong yX6_wayLong, Cond.code yX6_wayLong cX6_wayLong 5 (some .int)]
def wsX6_count : List Cond := .code yX6_count cX6_count 2 (some .int) :: ((wsX6_count_r1 ++ (wsX6_count_r2 ++ (wsX6_count_r3 ++ wsX6_count_r4))) ++ wsX60)
def wsJ9_min_7cf53 : List Cond := .code yJ9_min_7cf53 cJ9_min_7cf53 2 (some .int) :: ([])
def wsL_law_r1 : List Cond := [Cond.classLink RL 7 RX5, Cond.instantiable RX5 7, Cond.initialized RX5, Cond.classLink RL 10 RX6, Cond.instantiable RX6 20, Cond.initialized RX6, Cond.methodLink RL 9 yX5_init, Cond.instanceMethod yX5_init, Cond.code yX5_init cX5_init 1 none, Cond.methodLink RX5 1 objectInit, Cond.instanceMethod objectInit, Cond.code objectInit ⟨#[0xb1]⟩ 1 none, Cond.classLink RX5 7 RX3, Cond.instantiable RX3 6, Cond.initialized RX3, Cond.fieldLink RX5 10 "SureMendings" "table" "LSureMendings$Table;", Cond.classLink RX5 16 RX0, Cond.instantiable RX0 6, Cond.initialized RX0, Cond.fieldLink RX5 21 "SureMendings" "choices" "LSureMendings$Choices;", Cond.classLink RX5 25 RX1, Cond.instantiable RX1 3, Cond.initialized RX1, Cond.fieldLink RX5 28 "SureMendings" "history" "LSureMendings$History;"]
def wsL_law_r2 : List Cond := [Cond.fieldLink RX5 32 "SureMendings" "snapshot" "LSureMendings$Table;", Cond.fieldLink RX5 35 "SureMendings" "snapshotTaken" "Z", Cond.classLink RX5 39 RX4, Cond.instantiable RX4 2, Cond.initialized RX4, Cond.fieldLink RX5 42 "SureMendings" "text" "LSureMendings$Text;", Cond.classLink RX5 46 RX2, Cond.instantiable RX2 3, Cond.initialized RX2, Cond.fieldLink RX5 51 "SureMendings" "reader" "LSureMendings$Reader;", Cond.instanceMethod yX3_init, Cond.code yX3_init cX3_init 1 none, Cond.methodLink RX3 3 objectInit, Cond.arrayClass .int, Cond.fieldLink RX3 9 "SureMendings$Table" "keys" "[I", Cond.fieldLink RX3 15 "SureMendings$Table" "values" "[I", Cond.fieldLink RX3 18 "SureMendings$Table" "weights" "[I", Cond.fieldLink RX3 21 "SureMendings$Table" "targets" "[I", Cond.methodLink RX5 18 yX0_init, Cond.instanceMethod yX0_init, Cond.code yX0_init cX0_init 2 none, Cond.methodLink RX0 3 objectInit, Cond.fieldLink RX0 9 "SureMendings$Choices" "optionCounts" "[I", Cond.fieldLink RX0 15 "SureMendings$Choices" "optionRows" "[I"]
def wsL_law_r3 : List Cond := [Cond.fieldLink RX0 18 "SureMendings$Choices" "strides" "[I", Cond.fieldLink RX0 21 "SureMendings$Choices" "targetSets" "[I", Cond.fieldLink RX0 24 "SureMendings$Choices" "table" "LSureMendings$Table;", Cond.methodLink RX5 27 yX1_init, Cond.instanceMethod yX1_init, Cond.code yX1_init cX1_init 2 none, Cond.methodLink RX1 3 objectInit, Cond.classLink RX1 9 RX3, Cond.fieldLink RX1 11 "SureMendings$History" "states" "[LSureMendings$Table;", Cond.instanceMethod yX4_init, Cond.code yX4_init cX4_init 1 none, Cond.methodLink RX4 3 objectInit, Cond.arrayClass .char, Cond.fieldLink RX4 9 "SureMendings$Text" "characters" "[C", Cond.methodLink RX5 48 yX2_init, Cond.instanceMethod yX2_init, Cond.code yX2_init cX2_init 2 none, Cond.methodLink RX2 3 objectInit, Cond.classLink RX2 9 RX3, Cond.fieldLink RX2 12 "SureMendings$Reader" "rowsRead" "LSureMendings$Table;", Cond.fieldLink RX2 18 "SureMendings$Reader" "text" "LSureMendings$Text;", Cond.methodLink RL 12 yX6_init, Cond.instanceMethod yX6_init, Cond.code yX6_init cX6_init 1 none]
def wsL_law_r4 : List Cond := [Cond.methodLink RX6 1 objectInit, Cond.fieldLink RX6 7 "SureMendingsModel" "all" "[I", Cond.fieldLink RX6 13 "SureMendingsModel" "saved" "[I", Cond.fieldLink RX6 16 "SureMendingsModel" "history" "[I", Cond.fieldLink RX6 19 "SureMendingsModel" "snapshot" "[I", Cond.fieldLink RX6 22 "SureMendingsModel" "choices" "[I", Cond.fieldLink RX6 25 "SureMendingsModel" "many" "[I", Cond.fieldLink RX6 28 "SureMendingsModel" "kept" "[I", Cond.fieldLink RX6 31 "SureMendingsModel" "fixed" "I", Cond.fieldLink RX6 35 "SureMendingsModel" "text" "[I", Cond.fieldLink RX6 38 "SureMendingsModel" "read" "[I", Cond.fieldLink RX6 41 "SureMendingsModel" "ways" "[I", Cond.methodLink RL 13 yX5_add, Cond.instanceMethod yX5_add, Cond.selects RX5 yX5_add yX5_add, Cond.code yX5_add cX5_add 5 (some .int), Cond.methodLink RX5 55 yX5_isKey, Cond.static yX5_isKey, Cond.code yX5_isKey cX5_isKey 1 (some .boolean), Cond.methodLink RX5 59 yX5_isValue, Cond.static yX5_isValue, Cond.code yX5_isValue cX5_isValue 1 (some .boolean), Cond.methodLink RX5 63 yX3_room, Cond.instanceMethod yX3_room]
def wsL_law_r5 : List Cond := [Cond.selects RX3 yX3_room yX3_room, Cond.code yX3_room cX3_room 1 (some .int), Cond.fieldLink RX3 24 "SureMendings$Table" "size" "I", Cond.methodLink RX5 67 yX1_remember, Cond.instanceMethod yX1_remember, Cond.selects RX1 yX1_remember yX1_remember, Cond.code yX1_remember cX1_remember 3 none, Cond.fieldLink RX1 22 "SureMendings$History" "next" "I", Cond.fieldLink RX1 18 "SureMendings$History" "size" "I", Cond.methodLink RX1 33 Lib.Math.min.name, Cond.static Lib.Math.min.name, Cond.initialized "java/lang/Math", Cond.code Lib.Math.min.name Lib.Math.min.code 2 (some .int), Cond.methodLink RX1 25 yX1_slotAt, Cond.instanceMethod yX1_slotAt, Cond.selects RX1 yX1_slotAt yX1_slotAt, Cond.code yX1_slotAt cX1_slotAt 2 (some (.object "SureMendings$Table")), Cond.methodLink RX1 29 yX3_copyFrom, Cond.instanceMethod yX3_copyFrom, Cond.selects RX3 yX3_copyFrom yX3_copyFrom, Cond.code yX3_copyFrom cX3_copyFrom 2 none, Cond.fieldLink RX3 32 "SureMendings$Table" "preferring" "Z", Cond.static yX5_copy, Cond.code yX5_copy cX5_copy 2 none]
def wsL_law_r6 : List Cond := [Cond.methodLink RX5 240 Lib.Math.min.name, Cond.methodLink RX5 245 arraycopyName, Cond.native arraycopyName, Cond.static arraycopyName, Cond.initialized "java/lang/System", Cond.methodLink RX5 70 yX3_append, Cond.instanceMethod yX3_append, Cond.selects RX3 yX3_append yX3_append, Cond.code yX3_append cX3_append 5 none, Cond.methodLink RX3 40 yX3_room, Cond.static yX5_put, Cond.code yX5_put cX5_put 3 none, Cond.methodLink RX5 74 yX3_size, Cond.instanceMethod yX3_size, Cond.selects RX3 yX3_size yX3_size, Cond.code yX3_size cX3_size 1 (some .int), Cond.methodLink RL 17 yX6_add, Cond.instanceMethod yX6_add, Cond.selects RX6 yX6_add yX6_add, Cond.code yX6_add cX6_add 5 (some .int), Cond.constantLong RX6 79 (99), Cond.methodLink RX6 73 yX6_isKey, Cond.static yX6_isKey, Cond.code yX6_isKey cX6_isKey 1 (some .boolean)]
def wsL_law_r7 : List Cond := [Cond.constantLong RX6 51 (9), Cond.methodLink RX6 47 yX6_in, Cond.static yX6_in, Cond.code yX6_in cX6_in 6 (some .boolean), Cond.methodLink RX6 76 yX6_isValue, Cond.static yX6_isValue, Cond.code yX6_isValue cX6_isValue 1 (some .boolean), Cond.constantLong RX6 69 (97), Cond.constantLong RX6 71 (104), Cond.methodLink RX6 81 yX6_remember, Cond.instanceMethod yX6_remember, Cond.selects RX6 yX6_remember yX6_remember, Cond.code yX6_remember cX6_remember 2 none, Cond.methodLink RX6 84 yX6_puts, Cond.instanceMethod yX6_puts, Cond.selects RX6 yX6_puts yX6_puts, Cond.code yX6_puts cX6_puts 6 none, Cond.methodLink RX6 88 yX6_acted, Cond.instanceMethod yX6_acted, Cond.selects RX6 yX6_acted yX6_acted, Cond.code yX6_acted cX6_acted 3 (some .int), Cond.fieldLink RX6 44 "SureMendingsModel" "historyLong" "I", Cond.methodLink RL 18 yX5_readRows, Cond.instanceMethod yX5_readRows]
def wsL_law_r8 : List Cond := [Cond.selects RX5 yX5_readRows yX5_readRows, Cond.code yX5_readRows cX5_readRows 1 (some .int), Cond.methodLink RX5 77 yX2_readAll, Cond.instanceMethod yX2_readAll, Cond.selects RX2 yX2_readAll yX2_readAll, Cond.code yX2_readAll cX2_readAll 2 (some .boolean), Cond.fieldLink RX2 22 "SureMendings$Reader" "position" "I", Cond.methodLink RX2 26 yX3_empty, Cond.instanceMethod yX3_empty, Cond.selects RX3 yX3_empty yX3_empty, Cond.code yX3_empty cX3_empty 1 none, Cond.methodLink RX2 29 yX2_readOne, Cond.instanceMethod yX2_readOne, Cond.selects RX2 yX2_readOne yX2_readOne, Cond.code yX2_readOne cX2_readOne 6 (some .boolean), Cond.methodLink RX2 43 yX2_takeBetween, Cond.instanceMethod yX2_takeBetween, Cond.selects RX2 yX2_takeBetween yX2_takeBetween, Cond.code yX2_takeBetween cX2_takeBetween 4 (some .int), Cond.methodLink RX2 54 yX4_characterAt, Cond.instanceMethod yX4_characterAt, Cond.selects RX4 yX4_characterAt yX4_characterAt, Cond.code yX4_characterAt cX4_characterAt 2 (some .int), Cond.fieldLink RX4 15 "SureMendings$Text" "length" "I"]
def wsL_law_r9 : List Cond := [Cond.methodLink RX2 33 yX2_take, Cond.instanceMethod yX2_take, Cond.selects RX2 yX2_take yX2_take, Cond.code yX2_take cX2_take 2 (some .boolean), Cond.methodLink RX2 47 yX2_takeWeight, Cond.instanceMethod yX2_takeWeight, Cond.selects RX2 yX2_takeWeight yX2_takeWeight, Cond.code yX2_takeWeight cX2_takeWeight 3 (some .int), Cond.methodLink RX2 50 yX3_append, Cond.methodLink RX2 37 yX4_length, Cond.instanceMethod yX4_length, Cond.selects RX4 yX4_length yX4_length, Cond.code yX4_length cX4_length 1 (some .int), Cond.methodLink RX5 81 yX2_position, Cond.instanceMethod yX2_position, Cond.selects RX2 yX2_position yX2_position, Cond.code yX2_position cX2_position 1 (some .int), Cond.methodLink RX5 84 yX2_rowsRead, Cond.instanceMethod yX2_rowsRead, Cond.selects RX2 yX2_rowsRead yX2_rowsRead, Cond.code yX2_rowsRead cX2_rowsRead 1 (some (.object "SureMendings$Table")), Cond.methodLink RX5 88 yX3_appendAll, Cond.instanceMethod yX3_appendAll, Cond.selects RX3 yX3_appendAll yX3_appendAll]
def wsL_law_r10 : List Cond := [Cond.code yX3_appendAll cX3_appendAll 3 none, Cond.methodLink RX3 48 yX3_keyAt, Cond.instanceMethod yX3_keyAt, Cond.selects RX3 yX3_keyAt yX3_keyAt, Cond.code yX3_keyAt cX3_keyAt 2 (some .int), Cond.static yX5_at, Cond.code yX5_at cX5_at 2 (some .int), Cond.methodLink RX3 52 yX3_valueAt, Cond.instanceMethod yX3_valueAt, Cond.selects RX3 yX3_valueAt yX3_valueAt, Cond.code yX3_valueAt cX3_valueAt 2 (some .int), Cond.methodLink RX3 55 yX3_weightAt, Cond.instanceMethod yX3_weightAt, Cond.selects RX3 yX3_weightAt yX3_weightAt, Cond.code yX3_weightAt cX3_weightAt 2 (some .int), Cond.methodLink RX3 58 yX3_targetAt, Cond.instanceMethod yX3_targetAt, Cond.selects RX3 yX3_targetAt yX3_targetAt, Cond.code yX3_targetAt cX3_targetAt 2 (some .int), Cond.methodLink RX3 61 yX3_append, Cond.methodLink RL 22 yX6_readRows, Cond.instanceMethod yX6_readRows, Cond.selects RX6 yX6_readRows yX6_readRows, Cond.code yX6_readRows cX6_readRows 3 (some .int)]
def wsL_law_r11 : List Cond := [Cond.fieldLink RX6 126 "SureMendingsModel" "readMany" "I", Cond.methodLink RX6 140 yX6_fault, Cond.instanceMethod yX6_fault, Cond.selects RX6 yX6_fault yX6_fault, Cond.code yX6_fault cX6_fault 2 (some .int), Cond.fieldLink RX6 119 "SureMendingsModel" "spot" "I", Cond.fieldLink RX6 116 "SureMendingsModel" "textLong" "I", Cond.methodLink RX6 136 yX6_readsRow, Cond.instanceMethod yX6_readsRow, Cond.selects RX6 yX6_readsRow yX6_readsRow, Cond.code yX6_readsRow cX6_readsRow 2 (some .boolean), Cond.methodLink RX6 129 yX6_reads, Cond.instanceMethod yX6_reads, Cond.selects RX6 yX6_reads yX6_reads, Cond.code yX6_reads cX6_reads 4 (some .boolean), Cond.methodLink RX6 122 yX6_isHere, Cond.instanceMethod yX6_isHere, Cond.selects RX6 yX6_isHere yX6_isHere, Cond.code yX6_isHere cX6_isHere 3 (some .boolean), Cond.methodLink RX6 133 yX6_takesSign, Cond.instanceMethod yX6_takesSign, Cond.selects RX6 yX6_takesSign yX6_takesSign, Cond.code yX6_takesSign cX6_takesSign 3 (some .boolean), Cond.methodLink RL 23 yX5_remove]
def wsL_law_r12 : List Cond := [Cond.instanceMethod yX5_remove, Cond.selects RX5 yX5_remove yX5_remove, Cond.code yX5_remove cX5_remove 2 (some .int), Cond.methodLink RX5 91 yX3_has, Cond.instanceMethod yX3_has, Cond.selects RX3 yX3_has yX3_has, Cond.code yX3_has cX3_has 2 (some .boolean), Cond.methodLink RX5 94 yX3_drop, Cond.instanceMethod yX3_drop, Cond.selects RX3 yX3_drop yX3_drop, Cond.code yX3_drop cX3_drop 3 none, Cond.methodLink RX3 65 yX3_has, Cond.methodLink RX3 69 yX3_move, Cond.instanceMethod yX3_move, Cond.selects RX3 yX3_move yX3_move, Cond.code yX3_move cX3_move 3 none, Cond.methodLink RL 27 yX6_remove, Cond.instanceMethod yX6_remove, Cond.selects RX6 yX6_remove yX6_remove, Cond.code yX6_remove cX6_remove 2 (some .int), Cond.methodLink RX6 92 yX6_isRow, Cond.instanceMethod yX6_isRow, Cond.selects RX6 yX6_isRow yX6_isRow, Cond.code yX6_isRow cX6_isRow 2 (some .boolean)]
def wsL_law_r13 : List Cond := [Cond.methodLink RX6 61 yX6_takesOut, Cond.instanceMethod yX6_takesOut, Cond.selects RX6 yX6_takesOut yX6_takesOut, Cond.code yX6_takesOut cX6_takesOut 3 none, Cond.methodLink RL 28 yX5_mend, Cond.instanceMethod yX5_mend, Cond.selects RX5 yX5_mend yX5_mend, Cond.code yX5_mend cX5_mend 3 (some .int), Cond.methodLink RX5 98 yX3_keyAt, Cond.methodLink RX5 102 yX3_rowsWith, Cond.instanceMethod yX3_rowsWith, Cond.selects RX3 yX3_rowsWith yX3_rowsWith, Cond.code yX3_rowsWith cX3_rowsWith 4 (some .int), Cond.methodLink RX5 105 yX3_dropOthersLike, Cond.instanceMethod yX3_dropOthersLike, Cond.selects RX3 yX3_dropOthersLike yX3_dropOthersLike, Cond.code yX3_dropOthersLike cX3_dropOthersLike 5 none, Cond.methodLink RL 31 yX6_mend, Cond.instanceMethod yX6_mend, Cond.selects RX6 yX6_mend yX6_mend, Cond.code yX6_mend cX6_mend 3 (some .int), Cond.methodLink RX6 95 yX6_mends, Cond.instanceMethod yX6_mends, Cond.selects RX6 yX6_mends yX6_mends]
def wsL_law_r14 : List Cond := [Cond.code yX6_mends cX6_mends 5 (some .int), Cond.methodLink RX6 53 yX6_of, Cond.instanceMethod yX6_of, Cond.selects RX6 yX6_of yX6_of, Cond.code yX6_of cX6_of 3 (some .int), Cond.methodLink RL 32 yX5_mendAll, Cond.instanceMethod yX5_mendAll, Cond.selects RX5 yX5_mendAll yX5_mendAll, Cond.code yX5_mendAll cX5_mendAll 4 (some .int), Cond.methodLink RX5 108 yX3_doubledKeys, Cond.instanceMethod yX3_doubledKeys, Cond.selects RX3 yX3_doubledKeys yX3_doubledKeys, Cond.code yX3_doubledKeys cX3_doubledKeys 1 (some .int), Cond.methodLink RX3 73 yX3_keysWithAtLeast, Cond.instanceMethod yX3_keysWithAtLeast, Cond.selects RX3 yX3_keysWithAtLeast yX3_keysWithAtLeast, Cond.code yX3_keysWithAtLeast cX3_keysWithAtLeast 4 (some .int), Cond.methodLink RX3 76 yX3_rowsWith, Cond.methodLink RX5 111 yX5_chosenBy, Cond.instanceMethod yX5_chosenBy, Cond.selects RX5 yX5_chosenBy yX5_chosenBy, Cond.code yX5_chosenBy cX5_chosenBy 3 (some .int), Cond.methodLink RX5 234 yX3_firstWith, Cond.instanceMethod yX3_firstWith]
def wsL_law_r15 : List Cond := [Cond.selects RX3 yX3_firstWith yX3_firstWith, Cond.code yX3_firstWith cX3_firstWith 3 (some .int), Cond.methodLink RX5 237 yX3_lastWith, Cond.instanceMethod yX3_lastWith, Cond.selects RX3 yX3_lastWith yX3_lastWith, Cond.code yX3_lastWith cX3_lastWith 3 (some .int), Cond.methodLink RX5 170 yX3_heaviestWith, Cond.instanceMethod yX3_heaviestWith, Cond.selects RX3 yX3_heaviestWith yX3_heaviestWith, Cond.code yX3_heaviestWith cX3_heaviestWith 4 (some .int), Cond.methodLink RL 35 yX6_mendAll, Cond.instanceMethod yX6_mendAll, Cond.selects RX6 yX6_mendAll yX6_mendAll, Cond.code yX6_mendAll cX6_mendAll 4 (some .int), Cond.constantLong RX6 98 (2), Cond.methodLink RX6 100 yX6_rowsOf, Cond.instanceMethod yX6_rowsOf, Cond.selects RX6 yX6_rowsOf yX6_rowsOf, Cond.code yX6_rowsOf cX6_rowsOf 4 (some .int), Cond.methodLink RX6 103 yX6_firstOf, Cond.instanceMethod yX6_firstOf, Cond.selects RX6 yX6_firstOf yX6_firstOf, Cond.code yX6_firstOf cX6_firstOf 3 (some .int), Cond.methodLink RX6 106 yX6_lastOf]
def wsL_law_r16 : List Cond := [Cond.instanceMethod yX6_lastOf, Cond.selects RX6 yX6_lastOf yX6_lastOf, Cond.code yX6_lastOf cX6_lastOf 4 (some .int), Cond.methodLink RX6 57 yX6_outermost, Cond.instanceMethod yX6_outermost, Cond.selects RX6 yX6_outermost yX6_outermost, Cond.code yX6_outermost cX6_outermost 6 (some .int), Cond.methodLink RL 36 yX5_prefer, Cond.instanceMethod yX5_prefer, Cond.selects RX5 yX5_prefer yX5_prefer, Cond.code yX5_prefer cX5_prefer 2 (some .int), Cond.methodLink RX5 115 yX3_prefersHeaviest, Cond.instanceMethod yX3_prefersHeaviest, Cond.selects RX3 yX3_prefersHeaviest yX3_prefersHeaviest, Cond.code yX3_prefersHeaviest cX3_prefersHeaviest 1 (some .boolean), Cond.methodLink RX5 118 yX3_setPreference, Cond.instanceMethod yX3_setPreference, Cond.selects RX3 yX3_setPreference yX3_setPreference, Cond.code yX3_setPreference cX3_setPreference 2 none, Cond.methodLink RX5 122 yX5_choicesNow, Cond.instanceMethod yX5_choicesNow, Cond.selects RX5 yX5_choicesNow yX5_choicesNow, Cond.code yX5_choicesNow cX5_choicesNow 1 (some (.object "SureMendings$Choices")), Cond.methodLink RX5 231 yX0_update]
def wsL_law_r17 : List Cond := [Cond.instanceMethod yX0_update, Cond.selects RX0 yX0_update yX0_update, Cond.code yX0_update cX0_update 2 none, Cond.fieldLink RX0 52 "SureMendings$Choices" "mendings" "I", Cond.methodLink RX0 28 yJ7_fill_53178, Cond.static yJ7_fill_53178, Cond.initialized RJ7, Cond.code yJ7_fill_53178 cJ7_fill_53178 4 none, Cond.methodLink RX0 34 yX3_size, Cond.methodLink RX0 40 yX3_canBeKept, Cond.instanceMethod yX3_canBeKept, Cond.selects RX3 yX3_canBeKept yX3_canBeKept, Cond.code yX3_canBeKept cX3_canBeKept 2 (some .boolean), Cond.methodLink RX3 79 yX3_heaviestWith, Cond.methodLink RX0 44 yX3_keyAt, Cond.methodLink RX0 48 yX0_addOption, Cond.instanceMethod yX0_addOption, Cond.selects RX0 yX0_addOption yX0_addOption, Cond.code yX0_addOption cX0_addOption 4 none, Cond.methodLink RX0 63 yX0_optionsOf, Cond.instanceMethod yX0_optionsOf, Cond.selects RX0 yX0_optionsOf yX0_optionsOf, Cond.code yX0_optionsOf cX0_optionsOf 2 (some .int), Cond.methodLink RX0 70 yX0_targetBit]
def wsL_law_r18 : List Cond := [Cond.instanceMethod yX0_targetBit, Cond.selects RX0 yX0_targetBit yX0_targetBit, Cond.code yX0_targetBit cX0_targetBit 3 (some .int), Cond.methodLink RX0 73 yX3_targetAt, Cond.methodLink RX0 60 yX0_isThere, Cond.instanceMethod yX0_isThere, Cond.selects RX0 yX0_isThere yX0_isThere, Cond.code yX0_isThere cX0_isThere 2 (some .boolean), Cond.methodLink RX5 126 yX0_mendings, Cond.instanceMethod yX0_mendings, Cond.selects RX0 yX0_mendings yX0_mendings, Cond.code yX0_mendings cX0_mendings 1 (some .int), Cond.methodLink RL 40 yX6_prefer, Cond.instanceMethod yX6_prefer, Cond.selects RX6 yX6_prefer yX6_prefer, Cond.code yX6_prefer cX6_prefer 3 (some .int), Cond.methodLink RX6 109 yX6_findsChoices, Cond.instanceMethod yX6_findsChoices, Cond.selects RX6 yX6_findsChoices yX6_findsChoices, Cond.code yX6_findsChoices cX6_findsChoices 4 none, Cond.methodLink RX6 65 yX6_canBeKept, Cond.instanceMethod yX6_canBeKept, Cond.selects RX6 yX6_canBeKept yX6_canBeKept, Cond.code yX6_canBeKept cX6_canBeKept 2 (some .boolean)]
def wsL_law_r19 : List Cond := [Cond.methodLink RX6 112 yX6_mendings, Cond.instanceMethod yX6_mendings, Cond.selects RX6 yX6_mendings yX6_mendings, Cond.code yX6_mendings cX6_mendings 3 (some .int), Cond.methodLink RL 41 yX5_type, Cond.instanceMethod yX5_type, Cond.selects RX5 yX5_type yX5_type, Cond.code yX5_type cX5_type 2 (some .int), Cond.methodLink RX5 129 yX4_append, Cond.instanceMethod yX4_append, Cond.selects RX4 yX4_append yX4_append, Cond.code yX4_append cX4_append 2 (some .boolean), Cond.methodLink RX5 131 yX4_length, Cond.methodLink RL 45 yX6_type, Cond.instanceMethod yX6_type, Cond.selects RX6 yX6_type yX6_type, Cond.code yX6_type cX6_type 2 (some .int), Cond.methodLink RL 46 yX5_clearText, Cond.instanceMethod yX5_clearText, Cond.selects RX5 yX5_clearText yX5_clearText, Cond.code yX5_clearText cX5_clearText 2 (some .int), Cond.methodLink RX5 134 yX4_empty, Cond.instanceMethod yX4_empty, Cond.selects RX4 yX4_empty yX4_empty]
def wsL_law_r20 : List Cond := [Cond.code yX4_empty cX4_empty 1 none, Cond.methodLink RL 49 yX6_clearText, Cond.instanceMethod yX6_clearText, Cond.selects RX6 yX6_clearText yX6_clearText, Cond.code yX6_clearText cX6_clearText 2 (some .int), Cond.methodLink RL 50 yX5_undo, Cond.instanceMethod yX5_undo, Cond.selects RX5 yX5_undo yX5_undo, Cond.code yX5_undo cX5_undo 1 (some .int), Cond.methodLink RX5 137 yX1_takeBack, Cond.instanceMethod yX1_takeBack, Cond.selects RX1 yX1_takeBack yX1_takeBack, Cond.code yX1_takeBack cX1_takeBack 4 (some .boolean), Cond.methodLink RX5 141 yX1_size, Cond.instanceMethod yX1_size, Cond.selects RX1 yX1_size yX1_size, Cond.code yX1_size cX1_size 1 (some .int), Cond.methodLink RL 53 yX6_undo, Cond.instanceMethod yX6_undo, Cond.selects RX6 yX6_undo yX6_undo, Cond.code yX6_undo cX6_undo 2 (some .int), Cond.methodLink RL 54 yX5_keep, Cond.instanceMethod yX5_keep, Cond.selects RX5 yX5_keep yX5_keep]
def wsL_law_r21 : List Cond := [Cond.code yX5_keep cX5_keep 1 (some .int), Cond.methodLink RX5 142 yX3_copyFrom, Cond.methodLink RL 57 yX6_keep, Cond.instanceMethod yX6_keep, Cond.selects RX6 yX6_keep yX6_keep, Cond.code yX6_keep cX6_keep 2 (some .int), Cond.fieldLink RX6 143 "SureMendingsModel" "isTaken" "I", Cond.methodLink RL 58 yX5_restore, Cond.instanceMethod yX5_restore, Cond.selects RX5 yX5_restore yX5_restore, Cond.code yX5_restore cX5_restore 1 (some .int), Cond.methodLink RL 61 yX6_restore, Cond.instanceMethod yX6_restore, Cond.selects RX6 yX6_restore yX6_restore, Cond.code yX6_restore cX6_restore 2 (some .int), Cond.methodLink RL 62 yX5_row, Cond.instanceMethod yX5_row, Cond.selects RX5 yX5_row yX5_row, Cond.code yX5_row cX5_row 3 (some .int), Cond.methodLink RX5 145 yX3_valueAt, Cond.methodLink RX5 148 yX3_weightAt, Cond.methodLink RX5 151 yX3_targetAt, Cond.methodLink RX5 154 yX3_canBeKept, Cond.methodLink RX5 157 yX5_oneIf]
def wsL_law_r22 : List Cond := [Cond.static yX5_oneIf, Cond.code yX5_oneIf cX5_oneIf 1 (some .int), Cond.methodLink RX5 161 yX0_isSureRow, Cond.instanceMethod yX0_isSureRow, Cond.selects RX0 yX0_isSureRow yX0_isSureRow, Cond.code yX0_isSureRow cX0_isSureRow 2 (some .boolean), Cond.methodLink RL 66 yX6_row, Cond.instanceMethod yX6_row, Cond.selects RX6 yX6_row yX6_row, Cond.code yX6_row cX6_row 3 (some .int), Cond.methodLink RX6 146 yX6_isSure, Cond.instanceMethod yX6_isSure, Cond.selects RX6 yX6_isSure yX6_isSure, Cond.code yX6_isSure cX6_isSure 2 (some .boolean), Cond.methodLink RL 67 yX5_key, Cond.instanceMethod yX5_key, Cond.selects RX5 yX5_key yX5_key, Cond.code yX5_key cX5_key 3 (some .int), Cond.methodLink RX5 164 yX0_optionsOf, Cond.methodLink RX5 167 yX3_lightestWith, Cond.instanceMethod yX3_lightestWith, Cond.selects RX3 yX3_lightestWith yX3_lightestWith, Cond.code yX3_lightestWith cX3_lightestWith 4 (some .int), Cond.methodLink RX5 173 yX3_rowsPointingTo]
def wsL_law_r23 : List Cond := [Cond.instanceMethod yX3_rowsPointingTo, Cond.selects RX3 yX3_rowsPointingTo yX3_rowsPointingTo, Cond.code yX3_rowsPointingTo cX3_rowsPointingTo 4 (some .int), Cond.methodLink RL 70 yX6_key, Cond.instanceMethod yX6_key, Cond.selects RX6 yX6_key yX6_key, Cond.code yX6_key cX6_key 3 (some .int), Cond.methodLink RX6 149 yX6_pointing, Cond.instanceMethod yX6_pointing, Cond.selects RX6 yX6_pointing yX6_pointing, Cond.code yX6_pointing cX6_pointing 4 (some .int), Cond.methodLink RL 71 yX5_value, Cond.instanceMethod yX5_value, Cond.selects RX5 yX5_value yX5_value, Cond.code yX5_value cX5_value 4 (some .int), Cond.methodLink RX5 176 yX0_fewestKeptWith, Cond.instanceMethod yX0_fewestKeptWith, Cond.selects RX0 yX0_fewestKeptWith yX0_fewestKeptWith, Cond.code yX0_fewestKeptWith cX0_fewestKeptWith 4 (some .int), Cond.methodLink RX0 89 yX0_optionsWith, Cond.instanceMethod yX0_optionsWith, Cond.selects RX0 yX0_optionsWith yX0_optionsWith, Cond.code yX0_optionsWith cX0_optionsWith 5 (some .int), Cond.methodLink RX0 79 yX0_option]
def wsL_law_r24 : List Cond := [Cond.instanceMethod yX0_option, Cond.selects RX0 yX0_option yX0_option, Cond.code yX0_option cX0_option 3 (some .int), Cond.methodLink RX0 86 yX3_valueAt, Cond.methodLink RX5 179 yX0_mostKeptWith, Cond.instanceMethod yX0_mostKeptWith, Cond.selects RX0 yX0_mostKeptWith yX0_mostKeptWith, Cond.code yX0_mostKeptWith cX0_mostKeptWith 4 (some .int), Cond.methodLink RX5 182 yX0_mendingsWithout, Cond.instanceMethod yX0_mendingsWithout, Cond.selects RX0 yX0_mendingsWithout yX0_mendingsWithout, Cond.code yX0_mendingsWithout cX0_mendingsWithout 4 (some .int), Cond.methodLink RL 75 yX6_value, Cond.instanceMethod yX6_value, Cond.selects RX6 yX6_value yX6_value, Cond.code yX6_value cX6_value 3 (some .int), Cond.constantLong RX6 179 (4), Cond.fieldLink RX6 161 "SureMendingsModel" "failing" "I", Cond.fieldLink RX6 152 "SureMendingsModel" "holding" "I", Cond.fieldLink RX6 155 "SureMendingsModel" "fewest" "I", Cond.fieldLink RX6 158 "SureMendingsModel" "most" "I", Cond.methodLink RX6 181 yX6_asksValue, Cond.instanceMethod yX6_asksValue, Cond.selects RX6 yX6_asksValue yX6_asksValue]
def wsL_law_r25 : List Cond := [Cond.code yX6_asksValue cX6_asksValue 5 none, Cond.methodLink RX6 164 yX6_begins, Cond.instanceMethod yX6_begins, Cond.selects RX6 yX6_begins yX6_begins, Cond.code yX6_begins cX6_begins 1 none, Cond.methodLink RX6 167 yX6_takes, Cond.instanceMethod yX6_takes, Cond.selects RX6 yX6_takes yX6_takes, Cond.code yX6_takes cX6_takes 5 none, Cond.methodLink RX6 170 yX6_kept, Cond.instanceMethod yX6_kept, Cond.selects RX6 yX6_kept yX6_kept, Cond.code yX6_kept cX6_kept 4 (some .int), Cond.methodLink RX6 172 yX6_counts, Cond.instanceMethod yX6_counts, Cond.selects RX6 yX6_counts yX6_counts, Cond.code yX6_counts cX6_counts 4 none, Cond.methodLink RL 76 yX5_way, Cond.instanceMethod yX5_way, Cond.selects RX5 yX5_way yX5_way, Cond.code yX5_way cX5_way 5 (some .int), Cond.methodLink RX5 185 yX0_isSureWay, Cond.instanceMethod yX0_isSureWay, Cond.selects RX0 yX0_isSureWay yX0_isSureWay]
def wsL_law_r26 : List Cond := [Cond.code yX0_isSureWay cX0_isSureWay 3 (some .boolean), Cond.methodLink RX0 124 yX0_keysSureToReach, Cond.instanceMethod yX0_keysSureToReach, Cond.selects RX0 yX0_keysSureToReach yX0_keysSureToReach, Cond.code yX0_keysSureToReach cX0_keysSureToReach 4 (some .int), Cond.methodLink RX0 114 yX0_setOf, Cond.instanceMethod yX0_setOf, Cond.selects RX0 yX0_setOf yX0_setOf, Cond.code yX0_setOf cX0_setOf 2 (some .int), Cond.methodLink RX0 127 yX0_keysThatMustPointInto, Cond.instanceMethod yX0_keysThatMustPointInto, Cond.selects RX0 yX0_keysThatMustPointInto yX0_keysThatMustPointInto, Cond.code yX0_keysThatMustPointInto cX0_keysThatMustPointInto 5 (some .int), Cond.methodLink RX0 117 yX0_contains, Cond.static yX0_contains, Cond.code yX0_contains cX0_contains 2 (some .boolean), Cond.methodLink RX5 189 yX0_fewestPointers, Cond.instanceMethod yX0_fewestPointers, Cond.selects RX0 yX0_fewestPointers yX0_fewestPointers, Cond.code yX0_fewestPointers cX0_fewestPointers 5 (some .int), Cond.methodLink RX0 121 yX0_keysThatCanPointInto, Cond.instanceMethod yX0_keysThatCanPointInto, Cond.selects RX0 yX0_keysThatCanPointInto yX0_keysThatCanPointInto, Cond.code yX0_keysThatCanPointInto cX0_keysThatCanPointInto 4 (some .int)]
def wsL_law_r27 : List Cond := [Cond.methodLink RX5 192 yX0_mendingsWithWay, Cond.instanceMethod yX0_mendingsWithWay, Cond.selects RX0 yX0_mendingsWithWay yX0_mendingsWithWay, Cond.code yX0_mendingsWithWay cX0_mendingsWithWay 5 (some .int), Cond.methodLink RX0 110 yX0_holdsIn, Cond.instanceMethod yX0_holdsIn, Cond.selects RX0 yX0_holdsIn yX0_holdsIn, Cond.code yX0_holdsIn cX0_holdsIn 6 (some .boolean), Cond.methodLink RX0 98 yX0_rowKeptBy, Cond.instanceMethod yX0_rowKeptBy, Cond.selects RX0 yX0_rowKeptBy yX0_rowKeptBy, Cond.code yX0_rowKeptBy cX0_rowKeptBy 5 (some .int), Cond.methodLink RX5 195 yX0_firstMendingWithoutWay, Cond.instanceMethod yX0_firstMendingWithoutWay, Cond.selects RX0 yX0_firstMendingWithoutWay yX0_firstMendingWithoutWay, Cond.code yX0_firstMendingWithoutWay cX0_firstMendingWithoutWay 4 (some .int), Cond.methodLink RL 80 yX6_way, Cond.instanceMethod yX6_way, Cond.selects RX6 yX6_way yX6_way, Cond.code yX6_way cX6_way 4 (some .int), Cond.methodLink RX6 184 yX6_asksWay, Cond.instanceMethod yX6_asksWay, Cond.selects RX6 yX6_asksWay yX6_asksWay, Cond.code yX6_asksWay cX6_asksWay 5 none]
def wsL_law_r28 : List Cond := [Cond.methodLink RX6 176 yX6_wayLong, Cond.instanceMethod yX6_wayLong, Cond.selects RX6 yX6_wayLong yX6_wayLong, Cond.code yX6_wayLong cX6_wayLong 5 (some .int), Cond.methodLink RL 81 yX5_kept, Cond.instanceMethod yX5_kept, Cond.selects RX5 yX5_kept yX5_kept, Cond.code yX5_kept cX5_kept 4 (some .int), Cond.methodLink RX5 198 yX0_rowKeptBy, Cond.methodLink RL 84 yX6_kept_, Cond.instanceMethod yX6_kept_, Cond.selects RX6 yX6_kept_ yX6_kept_, Cond.code yX6_kept_ cX6_kept_ 3 (some .int), Cond.methodLink RL 85 yX5_sum, Cond.instanceMethod yX5_sum, Cond.selects RX5 yX5_sum yX5_sum, Cond.code yX5_sum cX5_sum 3 (some .int), Cond.methodLink RX5 201 yX0_firstLightestMending, Cond.instanceMethod yX0_firstLightestMending, Cond.selects RX0 yX0_firstLightestMending yX0_firstLightestMending, Cond.code yX0_firstLightestMending cX0_firstLightestMending 1 (some .int), Cond.methodLink RX0 104 yX0_firstMendingByWeight, Cond.instanceMethod yX0_firstMendingByWeight, Cond.selects RX0 yX0_firstMendingByWeight yX0_firstMendingByWeight]
def wsL_law_r29 : List Cond := [Cond.code yX0_firstMendingByWeight cX0_firstMendingByWeight 6 (some .int), Cond.methodLink RX0 107 yX0_optionWeight, Cond.instanceMethod yX0_optionWeight, Cond.selects RX0 yX0_optionWeight yX0_optionWeight, Cond.code yX0_optionWeight cX0_optionWeight 3 (some .int), Cond.methodLink RX0 101 yX3_weightAt, Cond.methodLink RX5 204 yX0_sumKeptBy, Cond.instanceMethod yX0_sumKeptBy, Cond.selects RX0 yX0_sumKeptBy yX0_sumKeptBy, Cond.code yX0_sumKeptBy cX0_sumKeptBy 4 (some .int), Cond.methodLink RX5 207 yX0_firstHeaviestMending, Cond.instanceMethod yX0_firstHeaviestMending, Cond.selects RX0 yX0_firstHeaviestMending yX0_firstHeaviestMending, Cond.code yX0_firstHeaviestMending cX0_firstHeaviestMending 1 (some .int), Cond.methodLink RL 88 yX6_sum, Cond.instanceMethod yX6_sum, Cond.selects RX6 yX6_sum yX6_sum, Cond.code yX6_sum cX6_sum 8 (some .int), Cond.constantLong RX6 188 (3), Cond.methodLink RX6 190 yX6_weightOf, Cond.instanceMethod yX6_weightOf, Cond.selects RX6 yX6_weightOf yX6_weightOf, Cond.code yX6_weightOf cX6_weightOf 3 (some .int), Cond.methodLink RL 89 yX5_bestMended]
def wsL_law_r30 : List Cond := [Cond.instanceMethod yX5_bestMended, Cond.selects RX5 yX5_bestMended yX5_bestMended, Cond.code yX5_bestMended cX5_bestMended 5 (some .int), Cond.methodLink RX5 210 yX0_rowThatMakesSure, Cond.instanceMethod yX0_rowThatMakesSure, Cond.selects RX0 yX0_rowThatMakesSure yX0_rowThatMakesSure, Cond.code yX0_rowThatMakesSure cX0_rowThatMakesSure 6 (some .int), Cond.methodLink RX0 138 yX0_isSureWay, Cond.methodLink RX0 141 yX0_isSureWayOnceMended, Cond.instanceMethod yX0_isSureWayOnceMended, Cond.selects RX0 yX0_isSureWayOnceMended yX0_isSureWayOnceMended, Cond.code yX0_isSureWayOnceMended cX0_isSureWayOnceMended 7 (some .boolean), Cond.methodLink RL 92 yX6_bestMended, Cond.instanceMethod yX6_bestMended, Cond.selects RX6 yX6_bestMended yX6_bestMended, Cond.code yX6_bestMended cX6_bestMended 5 (some .int), Cond.methodLink RX6 196 yX6_bestRow, Cond.instanceMethod yX6_bestRow, Cond.selects RX6 yX6_bestRow yX6_bestRow, Cond.code yX6_bestRow cX6_bestRow 6 (some .int), Cond.methodLink RX6 193 yX6_isSureWay, Cond.instanceMethod yX6_isSureWay, Cond.selects RX6 yX6_isSureWay yX6_isSureWay, Cond.code yX6_isSureWay cX6_isSureWay 3 (some .boolean)]
def wsL_law_r31 : List Cond := [Cond.methodLink RL 93 yX5_count, Cond.instanceMethod yX5_count, Cond.selects RX5 yX5_count yX5_count, Cond.code yX5_count cX5_count 2 (some .int), Cond.methodLink RX5 213 yX3_keysThere, Cond.instanceMethod yX3_keysThere, Cond.selects RX3 yX3_keysThere yX3_keysThere, Cond.code yX3_keysThere cX3_keysThere 1 (some .int), Cond.methodLink RX5 216 yX0_sureRows, Cond.instanceMethod yX0_sureRows, Cond.selects RX0 yX0_sureRows yX0_sureRows, Cond.code yX0_sureRows cX0_sureRows 3 (some .int), Cond.methodLink RX0 83 yX0_isSureRow, Cond.methodLink RX5 219 yX0_sureValues, Cond.instanceMethod yX0_sureValues, Cond.selects RX0 yX0_sureValues yX0_sureValues, Cond.code yX0_sureValues cX0_sureValues 3 (some .int), Cond.methodLink RX0 92 yX0_fewestKeptWith, Cond.methodLink RX5 222 yX0_possibleValues, Cond.instanceMethod yX0_possibleValues, Cond.selects RX0 yX0_possibleValues yX0_possibleValues, Cond.code yX0_possibleValues cX0_possibleValues 3 (some .int), Cond.methodLink RX0 95 yX0_mostKeptWith, Cond.methodLink RX5 225 yX0_sureWays]
def wsL_law_r32 : List Cond := [Cond.instanceMethod yX0_sureWays, Cond.selects RX0 yX0_sureWays yX0_sureWays, Cond.code yX0_sureWays cX0_sureWays 3 (some .int), Cond.methodLink RX0 130 yJ6_bitCount_0f7a4, Cond.static yJ6_bitCount_0f7a4, Cond.initialized RJ6, Cond.code yJ6_bitCount_0f7a4 cJ6_bitCount_0f7a4 1 (some .int), Cond.constant RJ6 265 (1431655765), Cond.constant RJ6 266 (858993459), Cond.constant RJ6 267 (252645135), Cond.methodLink RX5 228 yX0_possibleWays, Cond.instanceMethod yX0_possibleWays, Cond.selects RX0 yX0_possibleWays yX0_possibleWays, Cond.code yX0_possibleWays cX0_possibleWays 3 (some .int), Cond.methodLink RX0 135 yX0_keysThatCanReach, Cond.instanceMethod yX0_keysThatCanReach, Cond.selects RX0 yX0_keysThatCanReach yX0_keysThatCanReach, Cond.code yX0_keysThatCanReach cX0_keysThatCanReach 4 (some .int), Cond.methodLink RL 96 yX6_count, Cond.instanceMethod yX6_count, Cond.selects RX6 yX6_count yX6_count, Cond.code yX6_count cX6_count 2 (some .int), Cond.methodLink RX6 199 yX6_keysWith, Cond.instanceMethod yX6_keysWith]
def wsL_law_r33 : List Cond := [Cond.selects RX6 yX6_keysWith yX6_keysWith, Cond.code yX6_keysWith cX6_keysWith 4 (some .int), Cond.methodLink RX6 202 yX6_sureRows, Cond.instanceMethod yX6_sureRows, Cond.selects RX6 yX6_sureRows yX6_sureRows, Cond.code yX6_sureRows cX6_sureRows 3 (some .int), Cond.methodLink RX6 205 yX6_values, Cond.instanceMethod yX6_values, Cond.selects RX6 yX6_values yX6_values, Cond.code yX6_values cX6_values 4 (some .int), Cond.methodLink RX6 209 yX6_waysThat, Cond.instanceMethod yX6_waysThat, Cond.selects RX6 yX6_waysThat yX6_waysThat, Cond.code yX6_waysThat cX6_waysThat 5 (some .int)]
def wsL_law : List Cond := (wsL_law_r1 ++ (wsL_law_r2 ++ (wsL_law_r3 ++ (wsL_law_r4 ++ (wsL_law_r5 ++ (wsL_law_r6 ++ (wsL_law_r7 ++ (wsL_law_r8 ++ (wsL_law_r9 ++ (wsL_law_r10 ++ (wsL_law_r11 ++ (wsL_law_r12 ++ (wsL_law_r13 ++ (wsL_law_r14 ++ (wsL_law_r15 ++ (wsL_law_r16 ++ (wsL_law_r17 ++ (wsL_law_r18 ++ (wsL_law_r19 ++ (wsL_law_r20 ++ (wsL_law_r21 ++ (wsL_law_r22 ++ (wsL_law_r23 ++ (wsL_law_r24 ++ (wsL_law_r25 ++ (wsL_law_r26 ++ (wsL_law_r27 ++ (wsL_law_r28 ++ (wsL_law_r29 ++ (wsL_law_r30 ++ (wsL_law_r31 ++ (wsL_law_r32 ++ wsL_law_r33)))))))))))))))))))))))))))))))) ++ wsX50 ++ wsX60 ++ wsX30 ++ wsX00 ++ wsX10 ++ wsX40 ++ wsX20 ++ ([] : List Cond)
theorem inJ6 : ∀ w ∈ wsJ60, w ∈ lw_tbl := by decide +kernel
theorem inJ9 : ∀ w ∈ wsJ90, w ∈ lw_tbl := by decide +kernel
theorem inJ10 : ∀ w ∈ wsJ100, w ∈ lw_tbl := by decide +kernel
theorem inJ7 : ∀ w ∈ wsJ70, w ∈ lw_tbl := by decide +kernel
abbrev vwCl : List vw_C := [(RX0, TX0, 6), (RX1, TX1, 3), (RX2, TX2, 3), (RX3, TX3, 6), (RX4, TX4, 2), (RX5, TX5, 7), (RX6, TX6, 20)]
/-! ===== END printed: names ===== -/
end
section
theorem dX0_init_0 : decode cX0_init 0 = .ok (.aload_n 0, 1) := by decide +kernel
theorem dX0_init_1 : decode cX0_init 1 = .ok (.invokespecial 3, 3) := by decide +kernel
theorem dX0_init_4 : decode cX0_init 4 = .ok (.aload_n 0, 1) := by decide +kernel
theorem dX0_init_5 : decode cX0_init 5 = .ok (.bipush 10, 2) := by decide +kernel
theorem dX0_init_7 : decode cX0_init 7 = .ok (.newarray .int, 2) := by decide +kernel
theorem dX0_init_9 : decode cX0_init 9 = .ok (.putfield 9, 3) := by decide +kernel
theorem dX0_init_12 : decode cX0_init 12 = .ok (.aload_n 0, 1) := by decide +kernel
theorem dX0_init_13 : decode cX0_init 13 = .ok (.sipush 200, 3) := by decide +kernel
theorem dX0_init_16 : decode cX0_init 16 = .ok (.newarray .int, 2) := by decide +kernel
theorem dX0_init_18 : decode cX0_init 18 = .ok (.putfield 15, 3) := by decide +kernel
theorem dX0_init_21 : decode cX0_init 21 = .ok (.aload_n 0, 1) := by decide +kernel
theorem dX0_init_22 : decode cX0_init 22 = .ok (.bipush 10, 2) := by decide +kernel
theorem dX0_init_24 : decode cX0_init 24 = .ok (.newarray .int, 2) := by decide +kernel
theorem dX0_init_26 : decode cX0_init 26 = .ok (.putfield 18, 3) := by decide +kernel
theorem dX0_init_29 : decode cX0_init 29 = .ok (.aload_n 0, 1) := by decide +kernel
theorem dX0_init_30 : decode cX0_init 30 = .ok (.bipush 10, 2) := by decide +kernel
theorem dX0_init_32 : decode cX0_init 32 = .ok (.newarray .int, 2) := by decide +kernel
theorem dX0_init_34 : decode cX0_init 34 = .ok (.putfield 21, 3) := by decide +kernel
theorem dX0_init_37 : decode cX0_init 37 = .ok (.aload_n 0, 1) := by decide +kernel
theorem dX0_init_38 : decode cX0_init 38 = .ok (.aload_n 1, 1) := by decide +kernel
theorem dX0_init_39 : decode cX0_init 39 = .ok (.putfield 24, 3) := by decide +kernel
theorem dX0_init_42 : decode cX0_init 42 = .ok (.return_, 1) := by decide +kernel
set_option maxRecDepth 20000 in
theorem ggX0_update_J7_fill_53178 : GoodIn wsX0_update wsJ7_fill_53178 := goodIn_r _ [9] (by decide +kernel) (by decide +kernel)
set_option maxRecDepth 20000 in
theorem gX0_update_J7_fill_53178 : GoodIn wsX0_update (va_wsS RX0 28 yJ7_fill_53178 wsJ7_fill_53178) := goodIn_app (goodIn_of _ (by decide +kernel)) ggX0_update_J7_fill_53178
set_option maxRecDepth 20000 in
theorem ggX0_update_X3_size : GoodIn wsX0_update wsX3_size := goodIn_r _ [14, 15, 72, 73, 74, 75, 76, 77] (by decide +kernel) (by decide +kernel)
set_option maxRecDepth 20000 in
theorem gX0_update_X3_size : GoodIn wsX0_update (wsV RX0 34 RX3 yX3_size wsX3_size) := goodIn_app (goodIn_of _ (by decide +kernel)) ggX0_update_X3_size
set_option maxRecDepth 20000 in
theorem ggX0_update_X3_canBeKept : GoodIn wsX0_update wsX3_canBeKept := goodIn_r _ [19, 20, 21, 22, 23, 13, 24, 25, 26, 27, 28, 29, 30, 31, 32, 33, 34, 35, 36, 37, 15, 72, 73, 74, 75, 76, 77] (by decide +kernel) (by decide +kernel)
set_option maxRecDepth 20000 in
theorem gX0_update_X3_canBeKept : GoodIn wsX0_update (wsV RX0 40 RX3 yX3_canBeKept wsX3_canBeKept) := goodIn_app (goodIn_of _ (by decide +kernel)) ggX0_update_X3_canBeKept
set_option maxRecDepth 20000 in
theorem ggX0_update_X3_keyAt : GoodIn wsX0_update wsX3_keyAt := goodIn_r _ [32, 33, 26, 27, 28, 72, 73, 74, 75, 76, 77] (by decide +kernel) (by decide +kernel)
set_option maxRecDepth 20000 in
theorem gX0_update_X3_keyAt : GoodIn wsX0_update (wsV RX0 44 RX3 yX3_keyAt wsX3_keyAt) := goodIn_app (goodIn_of _ (by decide +kernel)) ggX0_update_X3_keyAt
set_option maxRecDepth 20000 in
theorem ggX0_update_X0_addOption : GoodIn wsX0_update wsX0_addOption := goodIn_r _ [43, 44, 1, 2, 45, 46, 47, 42, 48, 26, 27, 28, 49, 50, 51, 52, 53, 54, 3, 55, 56, 57, 13, 58, 59, 60, 61, 66, 67, 68, 69, 70, 71, 72, 73, 74, 75, 76, 77] (by decide +kernel) (by decide +kernel)
set_option maxRecDepth 20000 in
theorem gX0_update_X0_addOption : GoodIn wsX0_update (wsV RX0 48 RX0 yX0_addOption wsX0_addOption) := goodIn_app (goodIn_of _ (by decide +kernel)) ggX0_update_X0_addOption
set_option maxRecDepth 20000 in
theorem ggX0_update_X5_put : GoodIn wsX0_update wsX5_put := goodIn_r _ [50] (by decide +kernel) (by decide +kernel)
set_option maxRecDepth 20000 in
theorem gX0_update_X5_put_n56 : GoodIn wsX0_update (wsX5_put) := ggX0_update_X5_put
set_option maxRecDepth 20000 in
theorem ggX0_update_X0_isThere : GoodIn wsX0_update wsX0_isThere := goodIn_r _ [65, 45, 46, 47, 42, 48, 1, 26, 27, 28, 66, 67, 68, 69, 70, 71] (by decide +kernel) (by decide +kernel)
set_option maxRecDepth 20000 in
theorem gX0_update_X0_isThere : GoodIn wsX0_update (wsV RX0 60 RX0 yX0_isThere wsX0_isThere) := goodIn_app (goodIn_of _ (by decide +kernel)) ggX0_update_X0_isThere
set_option maxRecDepth 20000 in
theorem ggX0_update_X0_optionsOf : GoodIn wsX0_update wsX0_optionsOf := goodIn_r _ [48, 1, 26, 27, 28, 66, 67, 68, 69, 70, 71] (by decide +kernel) (by decide +kernel)
set_option maxRecDepth 20000 in
theorem gX0_update_X0_optionsOf : GoodIn wsX0_update (wsV RX0 63 RX0 yX0_optionsOf wsX0_optionsOf) := goodIn_app (goodIn_of _ (by decide +kernel)) ggX0_update_X0_optionsOf
theorem dX0_update_0 : decode cX0_update 0 = .ok (.aload_n 0, 1) := by decide +kernel
theorem dX0_update_1 : decode cX0_update 1 = .ok (.getfield 9, 3) := by decide +kernel
theorem dX0_update_4 : decode cX0_update 4 = .ok (.iconst 0, 1) := by decide +kernel
theorem dX0_update_5 : decode cX0_update 5 = .ok (.invokestatic 28, 3) := by decide +kernel
theorem dX0_update_8 : decode cX0_update 8 = .ok (.aload_n 0, 1) := by decide +kernel
theorem dX0_update_9 : decode cX0_update 9 = .ok (.getfield 21, 3) := by decide +kernel
theorem dX0_update_12 : decode cX0_update 12 = .ok (.iconst 0, 1) := by decide +kernel
theorem dX0_update_13 : decode cX0_update 13 = .ok (.invokestatic 28, 3) := by decide +kernel
theorem dX0_update_16 : decode cX0_update 16 = .ok (.iconst 0, 1) := by decide +kernel
theorem dX0_update_17 : decode cX0_update 17 = .ok (.istore_n 1, 1) := by decide +kernel
theorem dX0_update_18 : decode cX0_update 18 = .ok (.iload_n 1, 1) := by decide +kernel
theorem dX0_update_19 : decode cX0_update 19 = .ok (.aload_n 0, 1) := by decide +kernel
theorem dX0_update_20 : decode cX0_update 20 = .ok (.getfield 24, 3) := by decide +kernel
theorem dX0_update_23 : decode cX0_update 23 = .ok (.invokevirtual 34, 3) := by decide +kernel
theorem dX0_update_26 : decode cX0_update 26 = .ok (.if_icmp .ge 33, 3) := by decide +kernel
theorem dX0_update_29 : decode cX0_update 29 = .ok (.aload_n 0, 1) := by decide +kernel
theorem dX0_update_30 : decode cX0_update 30 = .ok (.getfield 24, 3) := by decide +kernel
theorem dX0_update_33 : decode cX0_update 33 = .ok (.iload_n 1, 1) := by decide +kernel
theorem dX0_update_34 : decode cX0_update 34 = .ok (.invokevirtual 40, 3) := by decide +kernel
theorem dX0_update_37 : decode cX0_update 37 = .ok (.ifCond .eq 16, 3) := by decide +kernel
theorem dX0_update_40 : decode cX0_update 40 = .ok (.aload_n 0, 1) := by decide +kernel
theorem dX0_update_41 : decode cX0_update 41 = .ok (.aload_n 0, 1) := by decide +kernel
theorem dX0_update_42 : decode cX0_update 42 = .ok (.getfield 24, 3) := by decide +kernel
theorem dX0_update_45 : decode cX0_update 45 = .ok (.iload_n 1, 1) := by decide +kernel
theorem dX0_update_46 : decode cX0_update 46 = .ok (.invokevirtual 44, 3) := by decide +kernel
theorem dX0_update_49 : decode cX0_update 49 = .ok (.iload_n 1, 1) := by decide +kernel
theorem dX0_update_50 : decode cX0_update 50 = .ok (.invokevirtual 48, 3) := by decide +kernel
theorem dX0_update_53 : decode cX0_update 53 = .ok (.iinc 1 1, 3) := by decide +kernel
theorem dX0_update_56 : decode cX0_update 56 = .ok (.goto (-38), 3) := by decide +kernel
theorem dX0_update_59 : decode cX0_update 59 = .ok (.aload_n 0, 1) := by decide +kernel
theorem dX0_update_60 : decode cX0_update 60 = .ok (.iconst 1, 1) := by decide +kernel
theorem dX0_update_61 : decode cX0_update 61 = .ok (.putfield 52, 3) := by decide +kernel
theorem dX0_update_64 : decode cX0_update 64 = .ok (.iconst 0, 1) := by decide +kernel
theorem dX0_update_65 : decode cX0_update 65 = .ok (.istore_n 1, 1) := by decide +kernel
theorem dX0_update_66 : decode cX0_update 66 = .ok (.iload_n 1, 1) := by decide +kernel
theorem dX0_update_67 : decode cX0_update 67 = .ok (.bipush 10, 2) := by decide +kernel
theorem dX0_update_69 : decode cX0_update 69 = .ok (.if_icmp .ge 43, 3) := by decide +kernel
theorem dX0_update_72 : decode cX0_update 72 = .ok (.aload_n 0, 1) := by decide +kernel
theorem dX0_update_73 : decode cX0_update 73 = .ok (.getfield 18, 3) := by decide +kernel
theorem dX0_update_76 : decode cX0_update 76 = .ok (.iload_n 1, 1) := by decide +kernel
theorem dX0_update_77 : decode cX0_update 77 = .ok (.aload_n 0, 1) := by decide +kernel
theorem dX0_update_78 : decode cX0_update 78 = .ok (.getfield 52, 3) := by decide +kernel
theorem dX0_update_81 : decode cX0_update 81 = .ok (.invokestatic 56, 3) := by decide +kernel
theorem dX0_update_84 : decode cX0_update 84 = .ok (.aload_n 0, 1) := by decide +kernel
theorem dX0_update_85 : decode cX0_update 85 = .ok (.iload_n 1, 1) := by decide +kernel
theorem dX0_update_86 : decode cX0_update 86 = .ok (.invokevirtual 60, 3) := by decide +kernel
theorem dX0_update_89 : decode cX0_update 89 = .ok (.ifCond .eq 17, 3) := by decide +kernel
theorem dX0_update_92 : decode cX0_update 92 = .ok (.aload_n 0, 1) := by decide +kernel
theorem dX0_update_93 : decode cX0_update 93 = .ok (.dup, 1) := by decide +kernel
theorem dX0_update_94 : decode cX0_update 94 = .ok (.getfield 52, 3) := by decide +kernel
theorem dX0_update_97 : decode cX0_update 97 = .ok (.aload_n 0, 1) := by decide +kernel
theorem dX0_update_98 : decode cX0_update 98 = .ok (.iload_n 1, 1) := by decide +kernel
theorem dX0_update_99 : decode cX0_update 99 = .ok (.invokevirtual 63, 3) := by decide +kernel
theorem dX0_update_102 : decode cX0_update 102 = .ok (.imul, 1) := by decide +kernel
theorem dX0_update_103 : decode cX0_update 103 = .ok (.putfield 52, 3) := by decide +kernel
theorem dX0_update_106 : decode cX0_update 106 = .ok (.iinc 1 1, 3) := by decide +kernel
theorem dX0_update_109 : decode cX0_update 109 = .ok (.goto (-43), 3) := by decide +kernel
theorem dX0_update_112 : decode cX0_update 112 = .ok (.return_, 1) := by decide +kernel
set_option maxRecDepth 20000 in
theorem ggX0_addOption_X0_optionsOf : GoodIn wsX0_addOption wsX0_optionsOf := goodIn_r _ [8, 2, 9, 10, 11, 27, 28, 29, 30, 31, 32] (by decide +kernel) (by decide +kernel)
set_option maxRecDepth 20000 in
theorem gX0_addOption_X0_optionsOf : GoodIn wsX0_addOption (wsV RX0 63 RX0 yX0_optionsOf wsX0_optionsOf) := goodIn_app (goodIn_of _ (by decide +kernel)) ggX0_addOption_X0_optionsOf
set_option maxRecDepth 20000 in
theorem ggX0_addOption_X5_put : GoodIn wsX0_addOption wsX5_put := goodIn_r _ [13] (by decide +kernel) (by decide +kernel)
set_option maxRecDepth 20000 in
theorem gX0_addOption_X5_put_n56 : GoodIn wsX0_addOption (wsX5_put) := ggX0_addOption_X5_put
set_option maxRecDepth 20000 in
theorem ggX0_addOption_X5_at : GoodIn wsX0_addOption wsX5_at := goodIn_r _ [11] (by decide +kernel) (by decide +kernel)
set_option maxRecDepth 20000 in
theorem gX0_addOption_X5_at_n66 : GoodIn wsX0_addOption (wsX5_at) := ggX0_addOption_X5_at
set_option maxRecDepth 20000 in
theorem ggX0_addOption_X0_targetBit : GoodIn wsX0_addOption wsX0_targetBit := goodIn_r _ [17, 18, 19, 20, 21, 22, 23, 24, 9, 10, 11, 25, 26, 27, 28, 29, 30, 31, 32, 33, 34, 35, 36, 37, 38] (by decide +kernel) (by decide +kernel)
set_option maxRecDepth 20000 in
theorem gX0_addOption_X0_targetBit : GoodIn wsX0_addOption (wsV RX0 70 RX0 yX0_targetBit wsX0_targetBit) := goodIn_app (goodIn_of _ (by decide +kernel)) ggX0_addOption_X0_targetBit
theorem dX0_addOption_0 : decode cX0_addOption 0 = .ok (.aload_n 0, 1) := by decide +kernel
theorem dX0_addOption_1 : decode cX0_addOption 1 = .ok (.iload_n 1, 1) := by decide +kernel
theorem dX0_addOption_2 : decode cX0_addOption 2 = .ok (.invokevirtual 63, 3) := by decide +kernel
theorem dX0_addOption_5 : decode cX0_addOption 5 = .ok (.istore_n 3, 1) := by decide +kernel
theorem dX0_addOption_6 : decode cX0_addOption 6 = .ok (.aload_n 0, 1) := by decide +kernel
theorem dX0_addOption_7 : decode cX0_addOption 7 = .ok (.getfield 15, 3) := by decide +kernel
theorem dX0_addOption_10 : decode cX0_addOption 10 = .ok (.iload_n 1, 1) := by decide +kernel
theorem dX0_addOption_11 : decode cX0_addOption 11 = .ok (.bipush 20, 2) := by decide +kernel
theorem dX0_addOption_13 : decode cX0_addOption 13 = .ok (.imul, 1) := by decide +kernel
theorem dX0_addOption_14 : decode cX0_addOption 14 = .ok (.iload_n 3, 1) := by decide +kernel
theorem dX0_addOption_15 : decode cX0_addOption 15 = .ok (.iadd, 1) := by decide +kernel
theorem dX0_addOption_16 : decode cX0_addOption 16 = .ok (.iload_n 2, 1) := by decide +kernel
theorem dX0_addOption_17 : decode cX0_addOption 17 = .ok (.invokestatic 56, 3) := by decide +kernel
theorem dX0_addOption_20 : decode cX0_addOption 20 = .ok (.aload_n 0, 1) := by decide +kernel
theorem dX0_addOption_21 : decode cX0_addOption 21 = .ok (.getfield 9, 3) := by decide +kernel
theorem dX0_addOption_24 : decode cX0_addOption 24 = .ok (.iload_n 1, 1) := by decide +kernel
theorem dX0_addOption_25 : decode cX0_addOption 25 = .ok (.iload_n 3, 1) := by decide +kernel
theorem dX0_addOption_26 : decode cX0_addOption 26 = .ok (.iconst 1, 1) := by decide +kernel
theorem dX0_addOption_27 : decode cX0_addOption 27 = .ok (.iadd, 1) := by decide +kernel
theorem dX0_addOption_28 : decode cX0_addOption 28 = .ok (.invokestatic 56, 3) := by decide +kernel
theorem dX0_addOption_31 : decode cX0_addOption 31 = .ok (.aload_n 0, 1) := by decide +kernel
theorem dX0_addOption_32 : decode cX0_addOption 32 = .ok (.getfield 21, 3) := by decide +kernel
theorem dX0_addOption_35 : decode cX0_addOption 35 = .ok (.iload_n 1, 1) := by decide +kernel
theorem dX0_addOption_36 : decode cX0_addOption 36 = .ok (.aload_n 0, 1) := by decide +kernel
theorem dX0_addOption_37 : decode cX0_addOption 37 = .ok (.getfield 21, 3) := by decide +kernel
theorem dX0_addOption_40 : decode cX0_addOption 40 = .ok (.iload_n 1, 1) := by decide +kernel
theorem dX0_addOption_41 : decode cX0_addOption 41 = .ok (.invokestatic 66, 3) := by decide +kernel
theorem dX0_addOption_44 : decode cX0_addOption 44 = .ok (.aload_n 0, 1) := by decide +kernel
theorem dX0_addOption_45 : decode cX0_addOption 45 = .ok (.iload_n 2, 1) := by decide +kernel
theorem dX0_addOption_46 : decode cX0_addOption 46 = .ok (.invokevirtual 70, 3) := by decide +kernel
theorem dX0_addOption_49 : decode cX0_addOption 49 = .ok (.ior, 1) := by decide +kernel
theorem dX0_addOption_50 : decode cX0_addOption 50 = .ok (.invokestatic 56, 3) := by decide +kernel
theorem dX0_addOption_53 : decode cX0_addOption 53 = .ok (.return_, 1) := by decide +kernel
set_option maxRecDepth 20000 in
theorem ggX0_targetBit_X3_targetAt : GoodIn wsX0_targetBit wsX3_targetAt := goodIn_r _ [6, 7, 8, 9, 10, 19, 20, 21, 22, 23, 24] (by decide +kernel) (by decide +kernel)
set_option maxRecDepth 20000 in
theorem gX0_targetBit_X3_targetAt : GoodIn wsX0_targetBit (wsV RX0 73 RX3 yX3_targetAt wsX3_targetAt) := goodIn_app (goodIn_of _ (by decide +kernel)) ggX0_targetBit_X3_targetAt
set_option maxRecDepth 20000 in
theorem ggX0_targetBit_X5_isKey : GoodIn wsX0_targetBit wsX5_isKey := goodIn_r _ [12] (by decide +kernel) (by decide +kernel)
set_option maxRecDepth 20000 in
theorem gX0_targetBit_X5_isKey_n76 : GoodIn wsX0_targetBit (wsX5_isKey) := ggX0_targetBit_X5_isKey
theorem dX0_targetBit_0 : decode cX0_targetBit 0 = .ok (.aload_n 0, 1) := by decide +kernel
theorem dX0_targetBit_1 : decode cX0_targetBit 1 = .ok (.getfield 24, 3) := by decide +kernel
theorem dX0_targetBit_4 : decode cX0_targetBit 4 = .ok (.iload_n 1, 1) := by decide +kernel
theorem dX0_targetBit_5 : decode cX0_targetBit 5 = .ok (.invokevirtual 73, 3) := by decide +kernel
theorem dX0_targetBit_8 : decode cX0_targetBit 8 = .ok (.istore_n 2, 1) := by decide +kernel
theorem dX0_targetBit_9 : decode cX0_targetBit 9 = .ok (.iload_n 2, 1) := by decide +kernel
theorem dX0_targetBit_10 : decode cX0_targetBit 10 = .ok (.invokestatic 76, 3) := by decide +kernel
theorem dX0_targetBit_13 : decode cX0_targetBit 13 = .ok (.ifCond .eq 9, 3) := by decide +kernel
theorem dX0_targetBit_16 : decode cX0_targetBit 16 = .ok (.iconst 1, 1) := by decide +kernel
theorem dX0_targetBit_17 : decode cX0_targetBit 17 = .ok (.iload_n 2, 1) := by decide +kernel
theorem dX0_targetBit_18 : decode cX0_targetBit 18 = .ok (.ishl, 1) := by decide +kernel
theorem dX0_targetBit_19 : decode cX0_targetBit 19 = .ok (.goto 6, 3) := by decide +kernel
theorem dX0_targetBit_22 : decode cX0_targetBit 22 = .ok (.sipush 1024, 3) := by decide +kernel
theorem dX0_targetBit_25 : decode cX0_targetBit 25 = .ok (.ireturn, 1) := by decide +kernel
theorem dX0_mendings_0 : decode cX0_mendings 0 = .ok (.aload_n 0, 1) := by decide +kernel
theorem dX0_mendings_1 : decode cX0_mendings 1 = .ok (.getfield 52, 3) := by decide +kernel
theorem dX0_mendings_4 : decode cX0_mendings 4 = .ok (.ireturn, 1) := by decide +kernel
set_option maxRecDepth 20000 in
theorem ggX0_optionsOf_X5_at : GoodIn wsX0_optionsOf wsX5_at := goodIn_r _ [4] (by decide +kernel) (by decide +kernel)
set_option maxRecDepth 20000 in
theorem gX0_optionsOf_X5_at_n66 : GoodIn wsX0_optionsOf (wsX5_at) := ggX0_optionsOf_X5_at
theorem dX0_optionsOf_0 : decode cX0_optionsOf 0 = .ok (.aload_n 0, 1) := by decide +kernel
theorem dX0_optionsOf_1 : decode cX0_optionsOf 1 = .ok (.getfield 9, 3) := by decide +kernel
theorem dX0_optionsOf_4 : decode cX0_optionsOf 4 = .ok (.iload_n 1, 1) := by decide +kernel
theorem dX0_optionsOf_5 : decode cX0_optionsOf 5 = .ok (.invokestatic 66, 3) := by decide +kernel
theorem dX0_optionsOf_8 : decode cX0_optionsOf 8 = .ok (.ireturn, 1) := by decide +kernel
set_option maxRecDepth 20000 in
theorem ggX0_isThere_X0_optionsOf : GoodIn wsX0_isThere wsX0_optionsOf := goodIn_r _ [5, 6, 7, 8, 9, 10, 11, 12, 13, 14, 15] (by decide +kernel) (by decide +kernel)
set_option maxRecDepth 20000 in
theorem gX0_isThere_X0_optionsOf : GoodIn wsX0_isThere (wsV RX0 63 RX0 yX0_optionsOf wsX0_optionsOf) := goodIn_app (goodIn_of _ (by decide +kernel)) ggX0_isThere_X0_optionsOf
theorem dX0_isThere_0 : decode cX0_isThere 0 = .ok (.aload_n 0, 1) := by decide +kernel
theorem dX0_isThere_1 : decode cX0_isThere 1 = .ok (.iload_n 1, 1) := by decide +kernel
theorem dX0_isThere_2 : decode cX0_isThere 2 = .ok (.invokevirtual 63, 3) := by decide +kernel
theorem dX0_isThere_5 : decode cX0_isThere 5 = .ok (.ifCond .le 7, 3) := by decide +kernel
theorem dX0_isThere_8 : decode cX0_isThere 8 = .ok (.iconst 1, 1) := by decide +kernel
theorem dX0_isThere_9 : decode cX0_isThere 9 = .ok (.goto 4, 3) := by decide +kernel
theorem dX0_isThere_12 : decode cX0_isThere 12 = .ok (.iconst 0, 1) := by decide +kernel
theorem dX0_isThere_13 : decode cX0_isThere 13 = .ok (.ireturn, 1) := by decide +kernel
set_option maxRecDepth 20000 in
theorem ggX0_option_X5_at : GoodIn wsX0_option wsX5_at := goodIn_r _ [4] (by decide +kernel) (by decide +kernel)
set_option maxRecDepth 20000 in
theorem gX0_option_X5_at_n66 : GoodIn wsX0_option (wsX5_at) := ggX0_option_X5_at
theorem dX0_option_0 : decode cX0_option 0 = .ok (.aload_n 0, 1) := by decide +kernel
theorem dX0_option_1 : decode cX0_option 1 = .ok (.getfield 15, 3) := by decide +kernel
theorem dX0_option_4 : decode cX0_option 4 = .ok (.iload_n 1, 1) := by decide +kernel
theorem dX0_option_5 : decode cX0_option 5 = .ok (.bipush 20, 2) := by decide +kernel
theorem dX0_option_7 : decode cX0_option 7 = .ok (.imul, 1) := by decide +kernel
theorem dX0_option_8 : decode cX0_option 8 = .ok (.iload_n 2, 1) := by decide +kernel
theorem dX0_option_9 : decode cX0_option 9 = .ok (.iadd, 1) := by decide +kernel
theorem dX0_option_10 : decode cX0_option 10 = .ok (.invokestatic 66, 3) := by decide +kernel
theorem dX0_option_13 : decode cX0_option 13 = .ok (.ireturn, 1) := by decide +kernel
set_option maxRecDepth 20000 in
theorem ggX0_rowKeptBy_X0_optionsOf : GoodIn wsX0_rowKeptBy wsX0_optionsOf := goodIn_r _ [6, 7, 8, 9, 10, 16, 17, 18, 19, 20, 21] (by decide +kernel) (by decide +kernel)
set_option maxRecDepth 20000 in
theorem gX0_rowKeptBy_X0_optionsOf : GoodIn wsX0_rowKeptBy (wsV RX0 63 RX0 yX0_optionsOf wsX0_optionsOf) := goodIn_app (goodIn_of _ (by decide +kernel)) ggX0_rowKeptBy_X0_optionsOf
set_option maxRecDepth 20000 in
theorem ggX0_rowKeptBy_X5_at : GoodIn wsX0_rowKeptBy wsX5_at := goodIn_r _ [10] (by decide +kernel) (by decide +kernel)
set_option maxRecDepth 20000 in
theorem gX0_rowKeptBy_X5_at_n66 : GoodIn wsX0_rowKeptBy (wsX5_at) := ggX0_rowKeptBy_X5_at
set_option maxRecDepth 20000 in
theorem ggX0_rowKeptBy_X0_option : GoodIn wsX0_rowKeptBy wsX0_option := goodIn_r _ [14, 15, 8, 9, 10, 16, 17, 18, 19, 20, 21] (by decide +kernel) (by decide +kernel)
set_option maxRecDepth 20000 in
theorem gX0_rowKeptBy_X0_option : GoodIn wsX0_rowKeptBy (wsV RX0 79 RX0 yX0_option wsX0_option) := goodIn_app (goodIn_of _ (by decide +kernel)) ggX0_rowKeptBy_X0_option
theorem dX0_rowKeptBy_0 : decode cX0_rowKeptBy 0 = .ok (.aload_n 0, 1) := by decide +kernel
theorem dX0_rowKeptBy_1 : decode cX0_rowKeptBy 1 = .ok (.iload_n 2, 1) := by decide +kernel
theorem dX0_rowKeptBy_2 : decode cX0_rowKeptBy 2 = .ok (.invokevirtual 63, 3) := by decide +kernel
theorem dX0_rowKeptBy_5 : decode cX0_rowKeptBy 5 = .ok (.istore_n 3, 1) := by decide +kernel
theorem dX0_rowKeptBy_6 : decode cX0_rowKeptBy 6 = .ok (.aload_n 0, 1) := by decide +kernel
theorem dX0_rowKeptBy_7 : decode cX0_rowKeptBy 7 = .ok (.getfield 18, 3) := by decide +kernel
theorem dX0_rowKeptBy_10 : decode cX0_rowKeptBy 10 = .ok (.iload_n 2, 1) := by decide +kernel
theorem dX0_rowKeptBy_11 : decode cX0_rowKeptBy 11 = .ok (.invokestatic 66, 3) := by decide +kernel
theorem dX0_rowKeptBy_14 : decode cX0_rowKeptBy 14 = .ok (.istore 4, 2) := by decide +kernel
theorem dX0_rowKeptBy_16 : decode cX0_rowKeptBy 16 = .ok (.iload_n 3, 1) := by decide +kernel
theorem dX0_rowKeptBy_17 : decode cX0_rowKeptBy 17 = .ok (.iconst 1, 1) := by decide +kernel
theorem dX0_rowKeptBy_18 : decode cX0_rowKeptBy 18 = .ok (.if_icmp .lt 9, 3) := by decide +kernel
theorem dX0_rowKeptBy_21 : decode cX0_rowKeptBy 21 = .ok (.iload 4, 2) := by decide +kernel
theorem dX0_rowKeptBy_23 : decode cX0_rowKeptBy 23 = .ok (.iconst 1, 1) := by decide +kernel
theorem dX0_rowKeptBy_24 : decode cX0_rowKeptBy 24 = .ok (.if_icmp .ge 6, 3) := by decide +kernel
theorem dX0_rowKeptBy_27 : decode cX0_rowKeptBy 27 = .ok (.bipush (-5), 2) := by decide +kernel
theorem dX0_rowKeptBy_29 : decode cX0_rowKeptBy 29 = .ok (.ireturn, 1) := by decide +kernel
theorem dX0_rowKeptBy_30 : decode cX0_rowKeptBy 30 = .ok (.aload_n 0, 1) := by decide +kernel
theorem dX0_rowKeptBy_31 : decode cX0_rowKeptBy 31 = .ok (.iload_n 2, 1) := by decide +kernel
theorem dX0_rowKeptBy_32 : decode cX0_rowKeptBy 32 = .ok (.iload_n 1, 1) := by decide +kernel
theorem dX0_rowKeptBy_33 : decode cX0_rowKeptBy 33 = .ok (.iload 4, 2) := by decide +kernel
theorem dX0_rowKeptBy_35 : decode cX0_rowKeptBy 35 = .ok (.idiv, 1) := by decide +kernel
theorem dX0_rowKeptBy_36 : decode cX0_rowKeptBy 36 = .ok (.iload_n 3, 1) := by decide +kernel
theorem dX0_rowKeptBy_37 : decode cX0_rowKeptBy 37 = .ok (.irem, 1) := by decide +kernel
theorem dX0_rowKeptBy_38 : decode cX0_rowKeptBy 38 = .ok (.invokevirtual 79, 3) := by decide +kernel
theorem dX0_rowKeptBy_41 : decode cX0_rowKeptBy 41 = .ok (.ireturn, 1) := by decide +kernel
set_option maxRecDepth 20000 in
theorem ggX0_isSureRow_X3_canBeKept : GoodIn wsX0_isSureRow wsX3_canBeKept := goodIn_r _ [6, 7, 8, 9, 10, 5, 11, 12, 13, 14, 15, 16, 17, 18, 19, 20, 21, 22, 23, 24, 25, 39, 40, 41, 42, 43, 44] (by decide +kernel) (by decide +kernel)
set_option maxRecDepth 20000 in
theorem gX0_isSureRow_X3_canBeKept : GoodIn wsX0_isSureRow (wsV RX0 40 RX3 yX3_canBeKept wsX3_canBeKept) := goodIn_app (goodIn_of _ (by decide +kernel)) ggX0_isSureRow_X3_canBeKept
set_option maxRecDepth 20000 in
theorem ggX0_isSureRow_X3_keyAt : GoodIn wsX0_isSureRow wsX3_keyAt := goodIn_r _ [19, 20, 13, 14, 15, 39, 40, 41, 42, 43, 44] (by decide +kernel) (by decide +kernel)
set_option maxRecDepth 20000 in
theorem gX0_isSureRow_X3_keyAt : GoodIn wsX0_isSureRow (wsV RX0 44 RX3 yX3_keyAt wsX3_keyAt) := goodIn_app (goodIn_of _ (by decide +kernel)) ggX0_isSureRow_X3_keyAt
set_option maxRecDepth 20000 in
theorem ggX0_isSureRow_X0_optionsOf : GoodIn wsX0_isSureRow wsX0_optionsOf := goodIn_r _ [31, 32, 13, 14, 15, 33, 34, 35, 36, 37, 38] (by decide +kernel) (by decide +kernel)
set_option maxRecDepth 20000 in
theorem gX0_isSureRow_X0_optionsOf : GoodIn wsX0_isSureRow (wsV RX0 63 RX0 yX0_optionsOf wsX0_optionsOf) := goodIn_app (goodIn_of _ (by decide +kernel)) ggX0_isSureRow_X0_optionsOf
theorem dX0_isSureRow_0 : decode cX0_isSureRow 0 = .ok (.aload_n 0, 1) := by decide +kernel
theorem dX0_isSureRow_1 : decode cX0_isSureRow 1 = .ok (.getfield 24, 3) := by decide +kernel
theorem dX0_isSureRow_4 : decode cX0_isSureRow 4 = .ok (.iload_n 1, 1) := by decide +kernel
theorem dX0_isSureRow_5 : decode cX0_isSureRow 5 = .ok (.invokevirtual 40, 3) := by decide +kernel
theorem dX0_isSureRow_8 : decode cX0_isSureRow 8 = .ok (.ifCond .eq 23, 3) := by decide +kernel
theorem dX0_isSureRow_11 : decode cX0_isSureRow 11 = .ok (.aload_n 0, 1) := by decide +kernel
theorem dX0_isSureRow_12 : decode cX0_isSureRow 12 = .ok (.aload_n 0, 1) := by decide +kernel
theorem dX0_isSureRow_13 : decode cX0_isSureRow 13 = .ok (.getfield 24, 3) := by decide +kernel
theorem dX0_isSureRow_16 : decode cX0_isSureRow 16 = .ok (.iload_n 1, 1) := by decide +kernel
theorem dX0_isSureRow_17 : decode cX0_isSureRow 17 = .ok (.invokevirtual 44, 3) := by decide +kernel
theorem dX0_isSureRow_20 : decode cX0_isSureRow 20 = .ok (.invokevirtual 63, 3) := by decide +kernel
theorem dX0_isSureRow_23 : decode cX0_isSureRow 23 = .ok (.iconst 1, 1) := by decide +kernel
theorem dX0_isSureRow_24 : decode cX0_isSureRow 24 = .ok (.if_icmp .ne 7, 3) := by decide +kernel
theorem dX0_isSureRow_27 : decode cX0_isSureRow 27 = .ok (.iconst 1, 1) := by decide +kernel
theorem dX0_isSureRow_28 : decode cX0_isSureRow 28 = .ok (.goto 4, 3) := by decide +kernel
theorem dX0_isSureRow_31 : decode cX0_isSureRow 31 = .ok (.iconst 0, 1) := by decide +kernel
theorem dX0_isSureRow_32 : decode cX0_isSureRow 32 = .ok (.ireturn, 1) := by decide +kernel
set_option maxRecDepth 20000 in
theorem ggX0_sureRows_X3_size : GoodIn wsX0_sureRows wsX3_size := goodIn_r _ [6, 7, 47, 48, 49, 50, 51, 52] (by decide +kernel) (by decide +kernel)
set_option maxRecDepth 20000 in
theorem gX0_sureRows_X3_size : GoodIn wsX0_sureRows (wsV RX0 34 RX3 yX3_size wsX3_size) := goodIn_app (goodIn_of _ (by decide +kernel)) ggX0_sureRows_X3_size
set_option maxRecDepth 20000 in
theorem ggX0_sureRows_X0_isSureRow : GoodIn wsX0_sureRows wsX0_isSureRow := goodIn_r _ [12, 1, 13, 14, 15, 5, 16, 17, 18, 19, 20, 21, 22, 23, 24, 25, 26, 27, 28, 29, 30, 31, 32, 33, 34, 7, 35, 36, 37, 38, 11, 39, 40, 41, 42, 43, 44, 45, 46, 47, 48, 49, 50, 51, 52] (by decide +kernel) (by decide +kernel)
set_option maxRecDepth 20000 in
theorem gX0_sureRows_X0_isSureRow : GoodIn wsX0_sureRows (wsV RX0 83 RX0 yX0_isSureRow wsX0_isSureRow) := goodIn_app (goodIn_of _ (by decide +kernel)) ggX0_sureRows_X0_isSureRow
theorem dX0_sureRows_0 : decode cX0_sureRows 0 = .ok (.iconst 0, 1) := by decide +kernel
theorem dX0_sureRows_1 : decode cX0_sureRows 1 = .ok (.istore_n 1, 1) := by decide +kernel
theorem dX0_sureRows_2 : decode cX0_sureRows 2 = .ok (.iconst 0, 1) := by decide +kernel
theorem dX0_sureRows_3 : decode cX0_sureRows 3 = .ok (.istore_n 2, 1) := by decide +kernel
theorem dX0_sureRows_4 : decode cX0_sureRows 4 = .ok (.iload_n 2, 1) := by decide +kernel
theorem dX0_sureRows_5 : decode cX0_sureRows 5 = .ok (.aload_n 0, 1) := by decide +kernel
theorem dX0_sureRows_6 : decode cX0_sureRows 6 = .ok (.getfield 24, 3) := by decide +kernel
theorem dX0_sureRows_9 : decode cX0_sureRows 9 = .ok (.invokevirtual 34, 3) := by decide +kernel
theorem dX0_sureRows_12 : decode cX0_sureRows 12 = .ok (.if_icmp .ge 20, 3) := by decide +kernel
theorem dX0_sureRows_15 : decode cX0_sureRows 15 = .ok (.aload_n 0, 1) := by decide +kernel
theorem dX0_sureRows_16 : decode cX0_sureRows 16 = .ok (.iload_n 2, 1) := by decide +kernel
theorem dX0_sureRows_17 : decode cX0_sureRows 17 = .ok (.invokevirtual 83, 3) := by decide +kernel
theorem dX0_sureRows_20 : decode cX0_sureRows 20 = .ok (.ifCond .eq 6, 3) := by decide +kernel
theorem dX0_sureRows_23 : decode cX0_sureRows 23 = .ok (.iinc 1 1, 3) := by decide +kernel
theorem dX0_sureRows_26 : decode cX0_sureRows 26 = .ok (.iinc 2 1, 3) := by decide +kernel
theorem dX0_sureRows_29 : decode cX0_sureRows 29 = .ok (.goto (-25), 3) := by decide +kernel
theorem dX0_sureRows_32 : decode cX0_sureRows 32 = .ok (.iload_n 1, 1) := by decide +kernel
theorem dX0_sureRows_33 : decode cX0_sureRows 33 = .ok (.ireturn, 1) := by decide +kernel
set_option maxRecDepth 20000 in
theorem ggX0_optionsWith_X0_optionsOf : GoodIn wsX0_optionsWith wsX0_optionsOf := goodIn_r _ [6, 7, 8, 9, 10, 22, 23, 24, 25, 26, 27] (by decide +kernel) (by decide +kernel)
set_option maxRecDepth 20000 in
theorem gX0_optionsWith_X0_optionsOf : GoodIn wsX0_optionsWith (wsV RX0 63 RX0 yX0_optionsOf wsX0_optionsOf) := goodIn_app (goodIn_of _ (by decide +kernel)) ggX0_optionsWith_X0_optionsOf
set_option maxRecDepth 20000 in
theorem ggX0_optionsWith_X0_option : GoodIn wsX0_optionsWith wsX0_option := goodIn_r _ [14, 15, 8, 9, 10, 22, 23, 24, 25, 26, 27] (by decide +kernel) (by decide +kernel)
set_option maxRecDepth 20000 in
theorem gX0_optionsWith_X0_option : GoodIn wsX0_optionsWith (wsV RX0 79 RX0 yX0_option wsX0_option) := goodIn_app (goodIn_of _ (by decide +kernel)) ggX0_optionsWith_X0_option
set_option maxRecDepth 20000 in
theorem ggX0_optionsWith_X3_valueAt : GoodIn wsX0_optionsWith wsX3_valueAt := goodIn_r _ [20, 21, 8, 9, 10, 28, 29, 30, 31, 32, 33] (by decide +kernel) (by decide +kernel)
set_option maxRecDepth 20000 in
theorem gX0_optionsWith_X3_valueAt : GoodIn wsX0_optionsWith (wsV RX0 86 RX3 yX3_valueAt wsX3_valueAt) := goodIn_app (goodIn_of _ (by decide +kernel)) ggX0_optionsWith_X3_valueAt
theorem dX0_optionsWith_0 : decode cX0_optionsWith 0 = .ok (.iconst 0, 1) := by decide +kernel
theorem dX0_optionsWith_1 : decode cX0_optionsWith 1 = .ok (.istore_n 3, 1) := by decide +kernel
theorem dX0_optionsWith_2 : decode cX0_optionsWith 2 = .ok (.iconst 0, 1) := by decide +kernel
theorem dX0_optionsWith_3 : decode cX0_optionsWith 3 = .ok (.istore 4, 2) := by decide +kernel
theorem dX0_optionsWith_5 : decode cX0_optionsWith 5 = .ok (.iload 4, 2) := by decide +kernel
theorem dX0_optionsWith_7 : decode cX0_optionsWith 7 = .ok (.aload_n 0, 1) := by decide +kernel
theorem dX0_optionsWith_8 : decode cX0_optionsWith 8 = .ok (.iload_n 1, 1) := by decide +kernel
theorem dX0_optionsWith_9 : decode cX0_optionsWith 9 = .ok (.invokevirtual 63, 3) := by decide +kernel
theorem dX0_optionsWith_12 : decode cX0_optionsWith 12 = .ok (.if_icmp .ge 30, 3) := by decide +kernel
theorem dX0_optionsWith_15 : decode cX0_optionsWith 15 = .ok (.aload_n 0, 1) := by decide +kernel
theorem dX0_optionsWith_16 : decode cX0_optionsWith 16 = .ok (.getfield 24, 3) := by decide +kernel
theorem dX0_optionsWith_19 : decode cX0_optionsWith 19 = .ok (.aload_n 0, 1) := by decide +kernel
theorem dX0_optionsWith_20 : decode cX0_optionsWith 20 = .ok (.iload_n 1, 1) := by decide +kernel
theorem dX0_optionsWith_21 : decode cX0_optionsWith 21 = .ok (.iload 4, 2) := by decide +kernel
theorem dX0_optionsWith_23 : decode cX0_optionsWith 23 = .ok (.invokevirtual 79, 3) := by decide +kernel
theorem dX0_optionsWith_26 : decode cX0_optionsWith 26 = .ok (.invokevirtual 86, 3) := by decide +kernel
theorem dX0_optionsWith_29 : decode cX0_optionsWith 29 = .ok (.iload_n 2, 1) := by decide +kernel
theorem dX0_optionsWith_30 : decode cX0_optionsWith 30 = .ok (.if_icmp .ne 6, 3) := by decide +kernel
theorem dX0_optionsWith_33 : decode cX0_optionsWith 33 = .ok (.iinc 3 1, 3) := by decide +kernel
theorem dX0_optionsWith_36 : decode cX0_optionsWith 36 = .ok (.iinc 4 1, 3) := by decide +kernel
theorem dX0_optionsWith_39 : decode cX0_optionsWith 39 = .ok (.goto (-34), 3) := by decide +kernel
theorem dX0_optionsWith_42 : decode cX0_optionsWith 42 = .ok (.iload_n 3, 1) := by decide +kernel
theorem dX0_optionsWith_43 : decode cX0_optionsWith 43 = .ok (.ireturn, 1) := by decide +kernel
set_option maxRecDepth 20000 in
theorem ggX0_fewestKeptWith_X0_isThere : GoodIn wsX0_fewestKeptWith wsX0_isThere := goodIn_r _ [5, 6, 7, 8, 4, 9, 10, 11, 12, 13, 30, 31, 32, 33, 34, 35] (by decide +kernel) (by decide +kernel)
set_option maxRecDepth 20000 in
theorem gX0_fewestKeptWith_X0_isThere : GoodIn wsX0_fewestKeptWith (wsV RX0 60 RX0 yX0_isThere wsX0_isThere) := goodIn_app (goodIn_of _ (by decide +kernel)) ggX0_fewestKeptWith_X0_isThere
set_option maxRecDepth 20000 in
theorem ggX0_fewestKeptWith_X0_optionsWith : GoodIn wsX0_fewestKeptWith wsX0_optionsWith := goodIn_r _ [17, 18, 6, 7, 8, 4, 9, 10, 11, 12, 13, 19, 20, 21, 22, 23, 24, 25, 26, 27, 28, 29, 30, 31, 32, 33, 34, 35, 36, 37, 38, 39, 40, 41] (by decide +kernel) (by decide +kernel)
set_option maxRecDepth 20000 in
theorem gX0_fewestKeptWith_X0_optionsWith : GoodIn wsX0_fewestKeptWith (wsV RX0 89 RX0 yX0_optionsWith wsX0_optionsWith) := goodIn_app (goodIn_of _ (by decide +kernel)) ggX0_fewestKeptWith_X0_optionsWith
set_option maxRecDepth 20000 in
theorem ggX0_fewestKeptWith_X0_optionsOf : GoodIn wsX0_fewestKeptWith wsX0_optionsOf := goodIn_r _ [9, 10, 11, 12, 13, 30, 31, 32, 33, 34, 35] (by decide +kernel) (by decide +kernel)
set_option maxRecDepth 20000 in
theorem gX0_fewestKeptWith_X0_optionsOf : GoodIn wsX0_fewestKeptWith (wsV RX0 63 RX0 yX0_optionsOf wsX0_optionsOf) := goodIn_app (goodIn_of _ (by decide +kernel)) ggX0_fewestKeptWith_X0_optionsOf
theorem dX0_fewestKeptWith_0 : decode cX0_fewestKeptWith 0 = .ok (.iconst 0, 1) := by decide +kernel
theorem dX0_fewestKeptWith_1 : decode cX0_fewestKeptWith 1 = .ok (.istore_n 2, 1) := by decide +kernel
theorem dX0_fewestKeptWith_2 : decode cX0_fewestKeptWith 2 = .ok (.iconst 0, 1) := by decide +kernel
theorem dX0_fewestKeptWith_3 : decode cX0_fewestKeptWith 3 = .ok (.istore_n 3, 1) := by decide +kernel
theorem dX0_fewestKeptWith_4 : decode cX0_fewestKeptWith 4 = .ok (.iload_n 3, 1) := by decide +kernel
theorem dX0_fewestKeptWith_5 : decode cX0_fewestKeptWith 5 = .ok (.bipush 10, 2) := by decide +kernel
theorem dX0_fewestKeptWith_7 : decode cX0_fewestKeptWith 7 = .ok (.if_icmp .ge 34, 3) := by decide +kernel
theorem dX0_fewestKeptWith_10 : decode cX0_fewestKeptWith 10 = .ok (.aload_n 0, 1) := by decide +kernel
theorem dX0_fewestKeptWith_11 : decode cX0_fewestKeptWith 11 = .ok (.iload_n 3, 1) := by decide +kernel
theorem dX0_fewestKeptWith_12 : decode cX0_fewestKeptWith 12 = .ok (.invokevirtual 60, 3) := by decide +kernel
theorem dX0_fewestKeptWith_15 : decode cX0_fewestKeptWith 15 = .ok (.ifCond .eq 20, 3) := by decide +kernel
theorem dX0_fewestKeptWith_18 : decode cX0_fewestKeptWith 18 = .ok (.aload_n 0, 1) := by decide +kernel
theorem dX0_fewestKeptWith_19 : decode cX0_fewestKeptWith 19 = .ok (.iload_n 3, 1) := by decide +kernel
theorem dX0_fewestKeptWith_20 : decode cX0_fewestKeptWith 20 = .ok (.iload_n 1, 1) := by decide +kernel
theorem dX0_fewestKeptWith_21 : decode cX0_fewestKeptWith 21 = .ok (.invokevirtual 89, 3) := by decide +kernel
theorem dX0_fewestKeptWith_24 : decode cX0_fewestKeptWith 24 = .ok (.aload_n 0, 1) := by decide +kernel
theorem dX0_fewestKeptWith_25 : decode cX0_fewestKeptWith 25 = .ok (.iload_n 3, 1) := by decide +kernel
theorem dX0_fewestKeptWith_26 : decode cX0_fewestKeptWith 26 = .ok (.invokevirtual 63, 3) := by decide +kernel
theorem dX0_fewestKeptWith_29 : decode cX0_fewestKeptWith 29 = .ok (.if_icmp .ne 6, 3) := by decide +kernel
theorem dX0_fewestKeptWith_32 : decode cX0_fewestKeptWith 32 = .ok (.iinc 2 1, 3) := by decide +kernel
theorem dX0_fewestKeptWith_35 : decode cX0_fewestKeptWith 35 = .ok (.iinc 3 1, 3) := by decide +kernel
theorem dX0_fewestKeptWith_38 : decode cX0_fewestKeptWith 38 = .ok (.goto (-34), 3) := by decide +kernel
theorem dX0_fewestKeptWith_41 : decode cX0_fewestKeptWith 41 = .ok (.iload_n 2, 1) := by decide +kernel
theorem dX0_fewestKeptWith_42 : decode cX0_fewestKeptWith 42 = .ok (.ireturn, 1) := by decide +kernel
set_option maxRecDepth 20000 in
theorem ggX0_mostKeptWith_X0_optionsWith : GoodIn wsX0_mostKeptWith wsX0_optionsWith := goodIn_r _ [5, 6, 7, 8, 9, 4, 10, 11, 12, 13, 14, 15, 16, 17, 18, 19, 20, 21, 22, 23, 24, 25, 26, 27, 28, 29, 30, 31, 32, 33, 34, 35, 36, 37] (by decide +kernel) (by decide +kernel)
set_option maxRecDepth 20000 in
theorem gX0_mostKeptWith_X0_optionsWith : GoodIn wsX0_mostKeptWith (wsV RX0 89 RX0 yX0_optionsWith wsX0_optionsWith) := goodIn_app (goodIn_of _ (by decide +kernel)) ggX0_mostKeptWith_X0_optionsWith
theorem dX0_mostKeptWith_0 : decode cX0_mostKeptWith 0 = .ok (.iconst 0, 1) := by decide +kernel
theorem dX0_mostKeptWith_1 : decode cX0_mostKeptWith 1 = .ok (.istore_n 2, 1) := by decide +kernel
theorem dX0_mostKeptWith_2 : decode cX0_mostKeptWith 2 = .ok (.iconst 0, 1) := by decide +kernel
theorem dX0_mostKeptWith_3 : decode cX0_mostKeptWith 3 = .ok (.istore_n 3, 1) := by decide +kernel
theorem dX0_mostKeptWith_4 : decode cX0_mostKeptWith 4 = .ok (.iload_n 3, 1) := by decide +kernel
theorem dX0_mostKeptWith_5 : decode cX0_mostKeptWith 5 = .ok (.bipush 10, 2) := by decide +kernel
theorem dX0_mostKeptWith_7 : decode cX0_mostKeptWith 7 = .ok (.if_icmp .ge 21, 3) := by decide +kernel
theorem dX0_mostKeptWith_10 : decode cX0_mostKeptWith 10 = .ok (.aload_n 0, 1) := by decide +kernel
theorem dX0_mostKeptWith_11 : decode cX0_mostKeptWith 11 = .ok (.iload_n 3, 1) := by decide +kernel
theorem dX0_mostKeptWith_12 : decode cX0_mostKeptWith 12 = .ok (.iload_n 1, 1) := by decide +kernel
theorem dX0_mostKeptWith_13 : decode cX0_mostKeptWith 13 = .ok (.invokevirtual 89, 3) := by decide +kernel
theorem dX0_mostKeptWith_16 : decode cX0_mostKeptWith 16 = .ok (.ifCond .le 6, 3) := by decide +kernel
theorem dX0_mostKeptWith_19 : decode cX0_mostKeptWith 19 = .ok (.iinc 2 1, 3) := by decide +kernel
theorem dX0_mostKeptWith_22 : decode cX0_mostKeptWith 22 = .ok (.iinc 3 1, 3) := by decide +kernel
theorem dX0_mostKeptWith_25 : decode cX0_mostKeptWith 25 = .ok (.goto (-21), 3) := by decide +kernel
theorem dX0_mostKeptWith_28 : decode cX0_mostKeptWith 28 = .ok (.iload_n 2, 1) := by decide +kernel
theorem dX0_mostKeptWith_29 : decode cX0_mostKeptWith 29 = .ok (.ireturn, 1) := by decide +kernel
set_option maxRecDepth 20000 in
theorem ggX0_mendingsWithout_X0_isThere : GoodIn wsX0_mendingsWithout wsX0_isThere := goodIn_r _ [5, 6, 7, 8, 4, 9, 10, 11, 12, 13, 30, 31, 32, 33, 34, 35] (by decide +kernel) (by decide +kernel)
set_option maxRecDepth 20000 in
theorem gX0_mendingsWithout_X0_isThere : GoodIn wsX0_mendingsWithout (wsV RX0 60 RX0 yX0_isThere wsX0_isThere) := goodIn_app (goodIn_of _ (by decide +kernel)) ggX0_mendingsWithout_X0_isThere
set_option maxRecDepth 20000 in
theorem ggX0_mendingsWithout_X0_optionsOf : GoodIn wsX0_mendingsWithout wsX0_optionsOf := goodIn_r _ [9, 10, 11, 12, 13, 30, 31, 32, 33, 34, 35] (by decide +kernel) (by decide +kernel)
set_option maxRecDepth 20000 in
theorem gX0_mendingsWithout_X0_optionsOf : GoodIn wsX0_mendingsWithout (wsV RX0 63 RX0 yX0_optionsOf wsX0_optionsOf) := goodIn_app (goodIn_of _ (by decide +kernel)) ggX0_mendingsWithout_X0_optionsOf
set_option maxRecDepth 20000 in
theorem ggX0_mendingsWithout_X0_optionsWith : GoodIn wsX0_mendingsWithout wsX0_optionsWith := goodIn_r _ [17, 18, 6, 7, 8, 4, 9, 10, 11, 12, 13, 19, 20, 21, 22, 23, 24, 25, 26, 27, 28, 29, 30, 31, 32, 33, 34, 35, 36, 37, 38, 39, 40, 41] (by decide +kernel) (by decide +kernel)
set_option maxRecDepth 20000 in
theorem gX0_mendingsWithout_X0_optionsWith : GoodIn wsX0_mendingsWithout (wsV RX0 89 RX0 yX0_optionsWith wsX0_optionsWith) := goodIn_app (goodIn_of _ (by decide +kernel)) ggX0_mendingsWithout_X0_optionsWith
theorem dX0_mendingsWithout_0 : decode cX0_mendingsWithout 0 = .ok (.iconst 1, 1) := by decide +kernel
theorem dX0_mendingsWithout_1 : decode cX0_mendingsWithout 1 = .ok (.istore_n 2, 1) := by decide +kernel
theorem dX0_mendingsWithout_2 : decode cX0_mendingsWithout 2 = .ok (.iconst 0, 1) := by decide +kernel
theorem dX0_mendingsWithout_3 : decode cX0_mendingsWithout 3 = .ok (.istore_n 3, 1) := by decide +kernel
theorem dX0_mendingsWithout_4 : decode cX0_mendingsWithout 4 = .ok (.iload_n 3, 1) := by decide +kernel
theorem dX0_mendingsWithout_5 : decode cX0_mendingsWithout 5 = .ok (.bipush 10, 2) := by decide +kernel
theorem dX0_mendingsWithout_7 : decode cX0_mendingsWithout 7 = .ok (.if_icmp .ge 32, 3) := by decide +kernel
theorem dX0_mendingsWithout_10 : decode cX0_mendingsWithout 10 = .ok (.aload_n 0, 1) := by decide +kernel
theorem dX0_mendingsWithout_11 : decode cX0_mendingsWithout 11 = .ok (.iload_n 3, 1) := by decide +kernel
theorem dX0_mendingsWithout_12 : decode cX0_mendingsWithout 12 = .ok (.invokevirtual 60, 3) := by decide +kernel
theorem dX0_mendingsWithout_15 : decode cX0_mendingsWithout 15 = .ok (.ifCond .eq 18, 3) := by decide +kernel
theorem dX0_mendingsWithout_18 : decode cX0_mendingsWithout 18 = .ok (.iload_n 2, 1) := by decide +kernel
theorem dX0_mendingsWithout_19 : decode cX0_mendingsWithout 19 = .ok (.aload_n 0, 1) := by decide +kernel
theorem dX0_mendingsWithout_20 : decode cX0_mendingsWithout 20 = .ok (.iload_n 3, 1) := by decide +kernel
theorem dX0_mendingsWithout_21 : decode cX0_mendingsWithout 21 = .ok (.invokevirtual 63, 3) := by decide +kernel
theorem dX0_mendingsWithout_24 : decode cX0_mendingsWithout 24 = .ok (.aload_n 0, 1) := by decide +kernel
theorem dX0_mendingsWithout_25 : decode cX0_mendingsWithout 25 = .ok (.iload_n 3, 1) := by decide +kernel
theorem dX0_mendingsWithout_26 : decode cX0_mendingsWithout 26 = .ok (.iload_n 1, 1) := by decide +kernel
theorem dX0_mendingsWithout_27 : decode cX0_mendingsWithout 27 = .ok (.invokevirtual 89, 3) := by decide +kernel
theorem dX0_mendingsWithout_30 : decode cX0_mendingsWithout 30 = .ok (.isub, 1) := by decide +kernel
theorem dX0_mendingsWithout_31 : decode cX0_mendingsWithout 31 = .ok (.imul, 1) := by decide +kernel
theorem dX0_mendingsWithout_32 : decode cX0_mendingsWithout 32 = .ok (.istore_n 2, 1) := by decide +kernel
theorem dX0_mendingsWithout_33 : decode cX0_mendingsWithout 33 = .ok (.iinc 3 1, 3) := by decide +kernel
theorem dX0_mendingsWithout_36 : decode cX0_mendingsWithout 36 = .ok (.goto (-32), 3) := by decide +kernel
theorem dX0_mendingsWithout_39 : decode cX0_mendingsWithout 39 = .ok (.iload_n 2, 1) := by decide +kernel
theorem dX0_mendingsWithout_40 : decode cX0_mendingsWithout 40 = .ok (.ireturn, 1) := by decide +kernel
set_option maxRecDepth 20000 in
theorem ggX0_sureValues_X0_fewestKeptWith : GoodIn wsX0_sureValues wsX0_fewestKeptWith := goodIn_r _ [5, 6, 7, 8, 4, 9, 10, 11, 12, 13, 14, 15, 16, 17, 18, 19, 20, 21, 22, 23, 24, 25, 26, 27, 28, 29, 30, 31, 32, 33, 34, 35, 36, 37, 38, 39, 40, 41, 42, 43, 44, 45] (by decide +kernel) (by decide +kernel)
set_option maxRecDepth 20000 in
theorem gX0_sureValues_X0_fewestKeptWith : GoodIn wsX0_sureValues (wsV RX0 92 RX0 yX0_fewestKeptWith wsX0_fewestKeptWith) := goodIn_app (goodIn_of _ (by decide +kernel)) ggX0_sureValues_X0_fewestKeptWith
theorem dX0_sureValues_0 : decode cX0_sureValues 0 = .ok (.iconst 0, 1) := by decide +kernel
theorem dX0_sureValues_1 : decode cX0_sureValues 1 = .ok (.istore_n 1, 1) := by decide +kernel
theorem dX0_sureValues_2 : decode cX0_sureValues 2 = .ok (.bipush 97, 2) := by decide +kernel
theorem dX0_sureValues_4 : decode cX0_sureValues 4 = .ok (.istore_n 2, 1) := by decide +kernel
theorem dX0_sureValues_5 : decode cX0_sureValues 5 = .ok (.iload_n 2, 1) := by decide +kernel
theorem dX0_sureValues_6 : decode cX0_sureValues 6 = .ok (.bipush 104, 2) := by decide +kernel
theorem dX0_sureValues_8 : decode cX0_sureValues 8 = .ok (.if_icmp .gt 20, 3) := by decide +kernel
theorem dX0_sureValues_11 : decode cX0_sureValues 11 = .ok (.aload_n 0, 1) := by decide +kernel
theorem dX0_sureValues_12 : decode cX0_sureValues 12 = .ok (.iload_n 2, 1) := by decide +kernel
theorem dX0_sureValues_13 : decode cX0_sureValues 13 = .ok (.invokevirtual 92, 3) := by decide +kernel
theorem dX0_sureValues_16 : decode cX0_sureValues 16 = .ok (.ifCond .le 6, 3) := by decide +kernel
theorem dX0_sureValues_19 : decode cX0_sureValues 19 = .ok (.iinc 1 1, 3) := by decide +kernel
theorem dX0_sureValues_22 : decode cX0_sureValues 22 = .ok (.iinc 2 1, 3) := by decide +kernel
theorem dX0_sureValues_25 : decode cX0_sureValues 25 = .ok (.goto (-20), 3) := by decide +kernel
theorem dX0_sureValues_28 : decode cX0_sureValues 28 = .ok (.iload_n 1, 1) := by decide +kernel
theorem dX0_sureValues_29 : decode cX0_sureValues 29 = .ok (.ireturn, 1) := by decide +kernel
set_option maxRecDepth 20000 in
theorem ggX0_possibleValues_X0_mostKeptWith : GoodIn wsX0_possibleValues wsX0_mostKeptWith := goodIn_r _ [5, 6, 7, 8, 4, 9, 10, 11, 12, 13, 14, 15, 16, 17, 18, 19, 20, 21, 22, 23, 24, 25, 26, 27, 28, 29, 30, 31, 32, 33, 34, 35, 36, 37, 38, 39, 40, 41] (by decide +kernel) (by decide +kernel)
set_option maxRecDepth 20000 in
theorem gX0_possibleValues_X0_mostKeptWith : GoodIn wsX0_possibleValues (wsV RX0 95 RX0 yX0_mostKeptWith wsX0_mostKeptWith) := goodIn_app (goodIn_of _ (by decide +kernel)) ggX0_possibleValues_X0_mostKeptWith
theorem dX0_possibleValues_0 : decode cX0_possibleValues 0 = .ok (.iconst 0, 1) := by decide +kernel
theorem dX0_possibleValues_1 : decode cX0_possibleValues 1 = .ok (.istore_n 1, 1) := by decide +kernel
theorem dX0_possibleValues_2 : decode cX0_possibleValues 2 = .ok (.bipush 97, 2) := by decide +kernel
theorem dX0_possibleValues_4 : decode cX0_possibleValues 4 = .ok (.istore_n 2, 1) := by decide +kernel
theorem dX0_possibleValues_5 : decode cX0_possibleValues 5 = .ok (.iload_n 2, 1) := by decide +kernel
theorem dX0_possibleValues_6 : decode cX0_possibleValues 6 = .ok (.bipush 104, 2) := by decide +kernel
theorem dX0_possibleValues_8 : decode cX0_possibleValues 8 = .ok (.if_icmp .gt 20, 3) := by decide +kernel
theorem dX0_possibleValues_11 : decode cX0_possibleValues 11 = .ok (.aload_n 0, 1) := by decide +kernel
theorem dX0_possibleValues_12 : decode cX0_possibleValues 12 = .ok (.iload_n 2, 1) := by decide +kernel
theorem dX0_possibleValues_13 : decode cX0_possibleValues 13 = .ok (.invokevirtual 95, 3) := by decide +kernel
theorem dX0_possibleValues_16 : decode cX0_possibleValues 16 = .ok (.ifCond .le 6, 3) := by decide +kernel
theorem dX0_possibleValues_19 : decode cX0_possibleValues 19 = .ok (.iinc 1 1, 3) := by decide +kernel
theorem dX0_possibleValues_22 : decode cX0_possibleValues 22 = .ok (.iinc 2 1, 3) := by decide +kernel
theorem dX0_possibleValues_25 : decode cX0_possibleValues 25 = .ok (.goto (-20), 3) := by decide +kernel
theorem dX0_possibleValues_28 : decode cX0_possibleValues 28 = .ok (.iload_n 1, 1) := by decide +kernel
theorem dX0_possibleValues_29 : decode cX0_possibleValues 29 = .ok (.ireturn, 1) := by decide +kernel
set_option maxRecDepth 20000 in
theorem ggX0_sumKeptBy_X0_isThere : GoodIn wsX0_sumKeptBy wsX0_isThere := goodIn_r _ [6, 7, 8, 9, 5, 10, 11, 12, 13, 14, 31, 32, 33, 34, 35, 36] (by decide +kernel) (by decide +kernel)
set_option maxRecDepth 20000 in
theorem gX0_sumKeptBy_X0_isThere : GoodIn wsX0_sumKeptBy (wsV RX0 60 RX0 yX0_isThere wsX0_isThere) := goodIn_app (goodIn_of _ (by decide +kernel)) ggX0_sumKeptBy_X0_isThere
set_option maxRecDepth 20000 in
theorem ggX0_sumKeptBy_X0_rowKeptBy : GoodIn wsX0_sumKeptBy wsX0_rowKeptBy := goodIn_r _ [18, 19, 7, 8, 9, 5, 10, 11, 12, 13, 14, 20, 21, 22, 23, 24, 31, 32, 33, 34, 35, 36] (by decide +kernel) (by decide +kernel)
set_option maxRecDepth 20000 in
theorem gX0_sumKeptBy_X0_rowKeptBy : GoodIn wsX0_sumKeptBy (wsV RX0 98 RX0 yX0_rowKeptBy wsX0_rowKeptBy) := goodIn_app (goodIn_of _ (by decide +kernel)) ggX0_sumKeptBy_X0_rowKeptBy
set_option maxRecDepth 20000 in
theorem ggX0_sumKeptBy_X3_weightAt : GoodIn wsX0_sumKeptBy wsX3_weightAt := goodIn_r _ [29, 30, 12, 13, 14, 37, 38, 39, 40, 41, 42] (by decide +kernel) (by decide +kernel)
set_option maxRecDepth 20000 in
theorem gX0_sumKeptBy_X3_weightAt : GoodIn wsX0_sumKeptBy (wsV RX0 101 RX3 yX3_weightAt wsX3_weightAt) := goodIn_app (goodIn_of _ (by decide +kernel)) ggX0_sumKeptBy_X3_weightAt
theorem dX0_sumKeptBy_0 : decode cX0_sumKeptBy 0 = .ok (.iconst 0, 1) := by decide +kernel
theorem dX0_sumKeptBy_1 : decode cX0_sumKeptBy 1 = .ok (.istore_n 2, 1) := by decide +kernel
theorem dX0_sumKeptBy_2 : decode cX0_sumKeptBy 2 = .ok (.iconst 0, 1) := by decide +kernel
theorem dX0_sumKeptBy_3 : decode cX0_sumKeptBy 3 = .ok (.istore_n 3, 1) := by decide +kernel
theorem dX0_sumKeptBy_4 : decode cX0_sumKeptBy 4 = .ok (.iload_n 3, 1) := by decide +kernel
theorem dX0_sumKeptBy_5 : decode cX0_sumKeptBy 5 = .ok (.bipush 10, 2) := by decide +kernel
theorem dX0_sumKeptBy_7 : decode cX0_sumKeptBy 7 = .ok (.if_icmp .ge 33, 3) := by decide +kernel
theorem dX0_sumKeptBy_10 : decode cX0_sumKeptBy 10 = .ok (.aload_n 0, 1) := by decide +kernel
theorem dX0_sumKeptBy_11 : decode cX0_sumKeptBy 11 = .ok (.iload_n 3, 1) := by decide +kernel
theorem dX0_sumKeptBy_12 : decode cX0_sumKeptBy 12 = .ok (.invokevirtual 60, 3) := by decide +kernel
theorem dX0_sumKeptBy_15 : decode cX0_sumKeptBy 15 = .ok (.ifCond .eq 19, 3) := by decide +kernel
theorem dX0_sumKeptBy_18 : decode cX0_sumKeptBy 18 = .ok (.iload_n 2, 1) := by decide +kernel
theorem dX0_sumKeptBy_19 : decode cX0_sumKeptBy 19 = .ok (.aload_n 0, 1) := by decide +kernel
theorem dX0_sumKeptBy_20 : decode cX0_sumKeptBy 20 = .ok (.getfield 24, 3) := by decide +kernel
theorem dX0_sumKeptBy_23 : decode cX0_sumKeptBy 23 = .ok (.aload_n 0, 1) := by decide +kernel
theorem dX0_sumKeptBy_24 : decode cX0_sumKeptBy 24 = .ok (.iload_n 1, 1) := by decide +kernel
theorem dX0_sumKeptBy_25 : decode cX0_sumKeptBy 25 = .ok (.iload_n 3, 1) := by decide +kernel
theorem dX0_sumKeptBy_26 : decode cX0_sumKeptBy 26 = .ok (.invokevirtual 98, 3) := by decide +kernel
theorem dX0_sumKeptBy_29 : decode cX0_sumKeptBy 29 = .ok (.invokevirtual 101, 3) := by decide +kernel
theorem dX0_sumKeptBy_32 : decode cX0_sumKeptBy 32 = .ok (.iadd, 1) := by decide +kernel
theorem dX0_sumKeptBy_33 : decode cX0_sumKeptBy 33 = .ok (.istore_n 2, 1) := by decide +kernel
theorem dX0_sumKeptBy_34 : decode cX0_sumKeptBy 34 = .ok (.iinc 3 1, 3) := by decide +kernel
theorem dX0_sumKeptBy_37 : decode cX0_sumKeptBy 37 = .ok (.goto (-33), 3) := by decide +kernel
theorem dX0_sumKeptBy_40 : decode cX0_sumKeptBy 40 = .ok (.iload_n 2, 1) := by decide +kernel
theorem dX0_sumKeptBy_41 : decode cX0_sumKeptBy 41 = .ok (.ireturn, 1) := by decide +kernel
set_option maxRecDepth 20000 in
theorem ggX0_firstLightestMending_X0_firstMendingByWeight : GoodIn wsX0_firstLightestMending wsX0_firstMendingByWeight := goodIn_r _ [5, 6, 7, 8, 9, 4, 10, 11, 12, 13, 14, 15, 16, 17, 18, 19, 20, 21, 22, 23, 24, 25, 26, 27, 28, 29, 30, 31, 32, 33, 34, 35, 36, 37, 38, 39, 40, 41, 42] (by decide +kernel) (by decide +kernel)
set_option maxRecDepth 20000 in
theorem gX0_firstLightestMending_X0_firstMendingByWeight : GoodIn wsX0_firstLightestMending (wsV RX0 104 RX0 yX0_firstMendingByWeight wsX0_firstMendingByWeight) := goodIn_app (goodIn_of _ (by decide +kernel)) ggX0_firstLightestMending_X0_firstMendingByWeight
theorem dX0_firstLightestMending_0 : decode cX0_firstLightestMending 0 = .ok (.aload_n 0, 1) := by decide +kernel
theorem dX0_firstLightestMending_1 : decode cX0_firstLightestMending 1 = .ok (.iconst (-1), 1) := by decide +kernel
theorem dX0_firstLightestMending_2 : decode cX0_firstLightestMending 2 = .ok (.invokevirtual 104, 3) := by decide +kernel
theorem dX0_firstLightestMending_5 : decode cX0_firstLightestMending 5 = .ok (.ireturn, 1) := by decide +kernel
set_option maxRecDepth 20000 in
theorem ggX0_firstHeaviestMending_X0_firstMendingByWeight : GoodIn wsX0_firstHeaviestMending wsX0_firstMendingByWeight := goodIn_r _ [5, 6, 7, 8, 9, 4, 10, 11, 12, 13, 14, 15, 16, 17, 18, 19, 20, 21, 22, 23, 24, 25, 26, 27, 28, 29, 30, 31, 32, 33, 34, 35, 36, 37, 38, 39, 40, 41, 42] (by decide +kernel) (by decide +kernel)
set_option maxRecDepth 20000 in
theorem gX0_firstHeaviestMending_X0_firstMendingByWeight : GoodIn wsX0_firstHeaviestMending (wsV RX0 104 RX0 yX0_firstMendingByWeight wsX0_firstMendingByWeight) := goodIn_app (goodIn_of _ (by decide +kernel)) ggX0_firstHeaviestMending_X0_firstMendingByWeight
theorem dX0_firstHeaviestMending_0 : decode cX0_firstHeaviestMending 0 = .ok (.aload_n 0, 1) := by decide +kernel
theorem dX0_firstHeaviestMending_1 : decode cX0_firstHeaviestMending 1 = .ok (.iconst 1, 1) := by decide +kernel
theorem dX0_firstHeaviestMending_2 : decode cX0_firstHeaviestMending 2 = .ok (.invokevirtual 104, 3) := by decide +kernel
theorem dX0_firstHeaviestMending_5 : decode cX0_firstHeaviestMending 5 = .ok (.ireturn, 1) := by decide +kernel
set_option maxRecDepth 20000 in
theorem ggX0_firstMendingByWeight_X0_optionsOf : GoodIn wsX0_firstMendingByWeight wsX0_optionsOf := goodIn_r _ [6, 7, 8, 9, 10, 27, 28, 29, 30, 31, 32] (by decide +kernel) (by decide +kernel)
set_option maxRecDepth 20000 in
theorem gX0_firstMendingByWeight_X0_optionsOf : GoodIn wsX0_firstMendingByWeight (wsV RX0 63 RX0 yX0_optionsOf wsX0_optionsOf) := goodIn_app (goodIn_of _ (by decide +kernel)) ggX0_firstMendingByWeight_X0_optionsOf
set_option maxRecDepth 20000 in
theorem ggX0_firstMendingByWeight_X0_optionWeight : GoodIn wsX0_firstMendingByWeight wsX0_optionWeight := goodIn_r _ [14, 15, 16, 17, 18, 5, 19, 20, 8, 9, 10, 21, 22, 23, 24, 25, 26, 27, 28, 29, 30, 31, 32, 33, 34, 35, 36, 37, 38] (by decide +kernel) (by decide +kernel)
set_option maxRecDepth 20000 in
theorem gX0_firstMendingByWeight_X0_optionWeight : GoodIn wsX0_firstMendingByWeight (wsV RX0 107 RX0 yX0_optionWeight wsX0_optionWeight) := goodIn_app (goodIn_of _ (by decide +kernel)) ggX0_firstMendingByWeight_X0_optionWeight
set_option maxRecDepth 20000 in
theorem ggX0_firstMendingByWeight_X5_at : GoodIn wsX0_firstMendingByWeight wsX5_at := goodIn_r _ [10] (by decide +kernel) (by decide +kernel)
set_option maxRecDepth 20000 in
theorem gX0_firstMendingByWeight_X5_at_n66 : GoodIn wsX0_firstMendingByWeight (wsX5_at) := ggX0_firstMendingByWeight_X5_at
theorem dX0_firstMendingByWeight_0 : decode cX0_firstMendingByWeight 0 = .ok (.iconst 0, 1) := by decide +kernel
theorem dX0_firstMendingByWeight_1 : decode cX0_firstMendingByWeight 1 = .ok (.istore_n 2, 1) := by decide +kernel
theorem dX0_firstMendingByWeight_2 : decode cX0_firstMendingByWeight 2 = .ok (.iconst 0, 1) := by decide +kernel
theorem dX0_firstMendingByWeight_3 : decode cX0_firstMendingByWeight 3 = .ok (.istore_n 3, 1) := by decide +kernel
theorem dX0_firstMendingByWeight_4 : decode cX0_firstMendingByWeight 4 = .ok (.iload_n 3, 1) := by decide +kernel
theorem dX0_firstMendingByWeight_5 : decode cX0_firstMendingByWeight 5 = .ok (.bipush 10, 2) := by decide +kernel
theorem dX0_firstMendingByWeight_7 : decode cX0_firstMendingByWeight 7 = .ok (.if_icmp .ge 70, 3) := by decide +kernel
theorem dX0_firstMendingByWeight_10 : decode cX0_firstMendingByWeight 10 = .ok (.iconst 0, 1) := by decide +kernel
theorem dX0_firstMendingByWeight_11 : decode cX0_firstMendingByWeight 11 = .ok (.istore 4, 2) := by decide +kernel
theorem dX0_firstMendingByWeight_13 : decode cX0_firstMendingByWeight 13 = .ok (.iconst 1, 1) := by decide +kernel
theorem dX0_firstMendingByWeight_14 : decode cX0_firstMendingByWeight 14 = .ok (.istore 5, 2) := by decide +kernel
theorem dX0_firstMendingByWeight_16 : decode cX0_firstMendingByWeight 16 = .ok (.iload 5, 2) := by decide +kernel
theorem dX0_firstMendingByWeight_18 : decode cX0_firstMendingByWeight 18 = .ok (.aload_n 0, 1) := by decide +kernel
theorem dX0_firstMendingByWeight_19 : decode cX0_firstMendingByWeight 19 = .ok (.iload_n 3, 1) := by decide +kernel
theorem dX0_firstMendingByWeight_20 : decode cX0_firstMendingByWeight 20 = .ok (.invokevirtual 63, 3) := by decide +kernel
theorem dX0_firstMendingByWeight_23 : decode cX0_firstMendingByWeight 23 = .ok (.if_icmp .ge 34, 3) := by decide +kernel
theorem dX0_firstMendingByWeight_26 : decode cX0_firstMendingByWeight 26 = .ok (.iload_n 1, 1) := by decide +kernel
theorem dX0_firstMendingByWeight_27 : decode cX0_firstMendingByWeight 27 = .ok (.aload_n 0, 1) := by decide +kernel
theorem dX0_firstMendingByWeight_28 : decode cX0_firstMendingByWeight 28 = .ok (.iload_n 3, 1) := by decide +kernel
theorem dX0_firstMendingByWeight_29 : decode cX0_firstMendingByWeight 29 = .ok (.iload 5, 2) := by decide +kernel
theorem dX0_firstMendingByWeight_31 : decode cX0_firstMendingByWeight 31 = .ok (.invokevirtual 107, 3) := by decide +kernel
theorem dX0_firstMendingByWeight_34 : decode cX0_firstMendingByWeight 34 = .ok (.imul, 1) := by decide +kernel
theorem dX0_firstMendingByWeight_35 : decode cX0_firstMendingByWeight 35 = .ok (.iload_n 1, 1) := by decide +kernel
theorem dX0_firstMendingByWeight_36 : decode cX0_firstMendingByWeight 36 = .ok (.aload_n 0, 1) := by decide +kernel
theorem dX0_firstMendingByWeight_37 : decode cX0_firstMendingByWeight 37 = .ok (.iload_n 3, 1) := by decide +kernel
theorem dX0_firstMendingByWeight_38 : decode cX0_firstMendingByWeight 38 = .ok (.iload 4, 2) := by decide +kernel
theorem dX0_firstMendingByWeight_40 : decode cX0_firstMendingByWeight 40 = .ok (.invokevirtual 107, 3) := by decide +kernel
theorem dX0_firstMendingByWeight_43 : decode cX0_firstMendingByWeight 43 = .ok (.imul, 1) := by decide +kernel
theorem dX0_firstMendingByWeight_44 : decode cX0_firstMendingByWeight 44 = .ok (.if_icmp .le 7, 3) := by decide +kernel
theorem dX0_firstMendingByWeight_47 : decode cX0_firstMendingByWeight 47 = .ok (.iload 5, 2) := by decide +kernel
theorem dX0_firstMendingByWeight_49 : decode cX0_firstMendingByWeight 49 = .ok (.istore 4, 2) := by decide +kernel
theorem dX0_firstMendingByWeight_51 : decode cX0_firstMendingByWeight 51 = .ok (.iinc 5 1, 3) := by decide +kernel
theorem dX0_firstMendingByWeight_54 : decode cX0_firstMendingByWeight 54 = .ok (.goto (-38), 3) := by decide +kernel
theorem dX0_firstMendingByWeight_57 : decode cX0_firstMendingByWeight 57 = .ok (.iload_n 2, 1) := by decide +kernel
theorem dX0_firstMendingByWeight_58 : decode cX0_firstMendingByWeight 58 = .ok (.iload 4, 2) := by decide +kernel
theorem dX0_firstMendingByWeight_60 : decode cX0_firstMendingByWeight 60 = .ok (.aload_n 0, 1) := by decide +kernel
theorem dX0_firstMendingByWeight_61 : decode cX0_firstMendingByWeight 61 = .ok (.getfield 18, 3) := by decide +kernel
theorem dX0_firstMendingByWeight_64 : decode cX0_firstMendingByWeight 64 = .ok (.iload_n 3, 1) := by decide +kernel
theorem dX0_firstMendingByWeight_65 : decode cX0_firstMendingByWeight 65 = .ok (.invokestatic 66, 3) := by decide +kernel
theorem dX0_firstMendingByWeight_68 : decode cX0_firstMendingByWeight 68 = .ok (.imul, 1) := by decide +kernel
theorem dX0_firstMendingByWeight_69 : decode cX0_firstMendingByWeight 69 = .ok (.iadd, 1) := by decide +kernel
theorem dX0_firstMendingByWeight_70 : decode cX0_firstMendingByWeight 70 = .ok (.istore_n 2, 1) := by decide +kernel
theorem dX0_firstMendingByWeight_71 : decode cX0_firstMendingByWeight 71 = .ok (.iinc 3 1, 3) := by decide +kernel
theorem dX0_firstMendingByWeight_74 : decode cX0_firstMendingByWeight 74 = .ok (.goto (-70), 3) := by decide +kernel
theorem dX0_firstMendingByWeight_77 : decode cX0_firstMendingByWeight 77 = .ok (.iload_n 2, 1) := by decide +kernel
theorem dX0_firstMendingByWeight_78 : decode cX0_firstMendingByWeight 78 = .ok (.ireturn, 1) := by decide +kernel
set_option maxRecDepth 20000 in
theorem ggX0_optionWeight_X0_option : GoodIn wsX0_optionWeight wsX0_option := goodIn_r _ [6, 7, 8, 9, 10, 17, 18, 19, 20, 21, 22] (by decide +kernel) (by decide +kernel)
set_option maxRecDepth 20000 in
theorem gX0_optionWeight_X0_option : GoodIn wsX0_optionWeight (wsV RX0 79 RX0 yX0_option wsX0_option) := goodIn_app (goodIn_of _ (by decide +kernel)) ggX0_optionWeight_X0_option
set_option maxRecDepth 20000 in
theorem ggX0_optionWeight_X3_weightAt : GoodIn wsX0_optionWeight wsX3_weightAt := goodIn_r _ [15, 16, 8, 9, 10, 23, 24, 25, 26, 27, 28] (by decide +kernel) (by decide +kernel)
set_option maxRecDepth 20000 in
theorem gX0_optionWeight_X3_weightAt : GoodIn wsX0_optionWeight (wsV RX0 101 RX3 yX3_weightAt wsX3_weightAt) := goodIn_app (goodIn_of _ (by decide +kernel)) ggX0_optionWeight_X3_weightAt
theorem dX0_optionWeight_0 : decode cX0_optionWeight 0 = .ok (.aload_n 0, 1) := by decide +kernel
theorem dX0_optionWeight_1 : decode cX0_optionWeight 1 = .ok (.getfield 24, 3) := by decide +kernel
theorem dX0_optionWeight_4 : decode cX0_optionWeight 4 = .ok (.aload_n 0, 1) := by decide +kernel
theorem dX0_optionWeight_5 : decode cX0_optionWeight 5 = .ok (.iload_n 1, 1) := by decide +kernel
theorem dX0_optionWeight_6 : decode cX0_optionWeight 6 = .ok (.iload_n 2, 1) := by decide +kernel
theorem dX0_optionWeight_7 : decode cX0_optionWeight 7 = .ok (.invokevirtual 79, 3) := by decide +kernel
theorem dX0_optionWeight_10 : decode cX0_optionWeight 10 = .ok (.invokevirtual 101, 3) := by decide +kernel
theorem dX0_optionWeight_13 : decode cX0_optionWeight 13 = .ok (.ireturn, 1) := by decide +kernel
set_option maxRecDepth 20000 in
theorem ggX0_holdsIn_X0_isThere : GoodIn wsX0_holdsIn wsX0_isThere := goodIn_r _ [6, 7, 8, 9, 5, 10, 11, 12, 13, 14, 31, 32, 33, 34, 35, 36] (by decide +kernel) (by decide +kernel)
set_option maxRecDepth 20000 in
theorem gX0_holdsIn_X0_isThere : GoodIn wsX0_holdsIn (wsV RX0 60 RX0 yX0_isThere wsX0_isThere) := goodIn_app (goodIn_of _ (by decide +kernel)) ggX0_holdsIn_X0_isThere
set_option maxRecDepth 20000 in
theorem ggX0_holdsIn_X0_rowKeptBy : GoodIn wsX0_holdsIn wsX0_rowKeptBy := goodIn_r _ [18, 19, 7, 8, 9, 5, 10, 11, 12, 13, 14, 20, 21, 22, 23, 24, 31, 32, 33, 34, 35, 36] (by decide +kernel) (by decide +kernel)
set_option maxRecDepth 20000 in
theorem gX0_holdsIn_X0_rowKeptBy : GoodIn wsX0_holdsIn (wsV RX0 98 RX0 yX0_rowKeptBy wsX0_rowKeptBy) := goodIn_app (goodIn_of _ (by decide +kernel)) ggX0_holdsIn_X0_rowKeptBy
set_option maxRecDepth 20000 in
theorem ggX0_holdsIn_X3_targetAt : GoodIn wsX0_holdsIn wsX3_targetAt := goodIn_r _ [29, 30, 12, 13, 14, 37, 38, 39, 40, 41, 42] (by decide +kernel) (by decide +kernel)
set_option maxRecDepth 20000 in
theorem gX0_holdsIn_X3_targetAt : GoodIn wsX0_holdsIn (wsV RX0 73 RX3 yX3_targetAt wsX3_targetAt) := goodIn_app (goodIn_of _ (by decide +kernel)) ggX0_holdsIn_X3_targetAt
theorem dX0_holdsIn_0 : decode cX0_holdsIn 0 = .ok (.iload_n 2, 1) := by decide +kernel
theorem dX0_holdsIn_1 : decode cX0_holdsIn 1 = .ok (.istore 4, 2) := by decide +kernel
theorem dX0_holdsIn_3 : decode cX0_holdsIn 3 = .ok (.iconst 0, 1) := by decide +kernel
theorem dX0_holdsIn_4 : decode cX0_holdsIn 4 = .ok (.istore 5, 2) := by decide +kernel
theorem dX0_holdsIn_6 : decode cX0_holdsIn 6 = .ok (.iload 5, 2) := by decide +kernel
theorem dX0_holdsIn_8 : decode cX0_holdsIn 8 = .ok (.bipush 10, 2) := by decide +kernel
theorem dX0_holdsIn_10 : decode cX0_holdsIn 10 = .ok (.if_icmp .ge 44, 3) := by decide +kernel
theorem dX0_holdsIn_13 : decode cX0_holdsIn 13 = .ok (.aload_n 0, 1) := by decide +kernel
theorem dX0_holdsIn_14 : decode cX0_holdsIn 14 = .ok (.iload 4, 2) := by decide +kernel
theorem dX0_holdsIn_16 : decode cX0_holdsIn 16 = .ok (.invokevirtual 60, 3) := by decide +kernel
theorem dX0_holdsIn_19 : decode cX0_holdsIn 19 = .ok (.ifCond .ne 5, 3) := by decide +kernel
theorem dX0_holdsIn_22 : decode cX0_holdsIn 22 = .ok (.iconst 0, 1) := by decide +kernel
theorem dX0_holdsIn_23 : decode cX0_holdsIn 23 = .ok (.ireturn, 1) := by decide +kernel
theorem dX0_holdsIn_24 : decode cX0_holdsIn 24 = .ok (.iload 4, 2) := by decide +kernel
theorem dX0_holdsIn_26 : decode cX0_holdsIn 26 = .ok (.iload_n 3, 1) := by decide +kernel
theorem dX0_holdsIn_27 : decode cX0_holdsIn 27 = .ok (.if_icmp .ne 5, 3) := by decide +kernel
theorem dX0_holdsIn_30 : decode cX0_holdsIn 30 = .ok (.iconst 1, 1) := by decide +kernel
theorem dX0_holdsIn_31 : decode cX0_holdsIn 31 = .ok (.ireturn, 1) := by decide +kernel
theorem dX0_holdsIn_32 : decode cX0_holdsIn 32 = .ok (.aload_n 0, 1) := by decide +kernel
theorem dX0_holdsIn_33 : decode cX0_holdsIn 33 = .ok (.getfield 24, 3) := by decide +kernel
theorem dX0_holdsIn_36 : decode cX0_holdsIn 36 = .ok (.aload_n 0, 1) := by decide +kernel
theorem dX0_holdsIn_37 : decode cX0_holdsIn 37 = .ok (.iload_n 1, 1) := by decide +kernel
theorem dX0_holdsIn_38 : decode cX0_holdsIn 38 = .ok (.iload 4, 2) := by decide +kernel
theorem dX0_holdsIn_40 : decode cX0_holdsIn 40 = .ok (.invokevirtual 98, 3) := by decide +kernel
theorem dX0_holdsIn_43 : decode cX0_holdsIn 43 = .ok (.invokevirtual 73, 3) := by decide +kernel
theorem dX0_holdsIn_46 : decode cX0_holdsIn 46 = .ok (.istore 4, 2) := by decide +kernel
theorem dX0_holdsIn_48 : decode cX0_holdsIn 48 = .ok (.iinc 5 1, 3) := by decide +kernel
theorem dX0_holdsIn_51 : decode cX0_holdsIn 51 = .ok (.goto (-45), 3) := by decide +kernel
theorem dX0_holdsIn_54 : decode cX0_holdsIn 54 = .ok (.iconst 0, 1) := by decide +kernel
theorem dX0_holdsIn_55 : decode cX0_holdsIn 55 = .ok (.ireturn, 1) := by decide +kernel
set_option maxRecDepth 20000 in
theorem ggX0_mendingsWithWay_X0_holdsIn : GoodIn wsX0_mendingsWithWay wsX0_holdsIn := goodIn_r _ [6, 7, 8, 9, 10, 5, 11, 12, 13, 14, 15, 16, 17, 18, 19, 20, 21, 22, 23, 24, 25, 26, 27, 28, 29, 30, 31, 32, 33, 34, 35, 36, 37, 38, 39, 40, 41, 42, 43, 44, 45, 46, 47] (by decide +kernel) (by decide +kernel)
set_option maxRecDepth 20000 in
theorem gX0_mendingsWithWay_X0_holdsIn : GoodIn wsX0_mendingsWithWay (wsV RX0 110 RX0 yX0_holdsIn wsX0_holdsIn) := goodIn_app (goodIn_of _ (by decide +kernel)) ggX0_mendingsWithWay_X0_holdsIn
theorem dX0_mendingsWithWay_0 : decode cX0_mendingsWithWay 0 = .ok (.iconst 0, 1) := by decide +kernel
theorem dX0_mendingsWithWay_1 : decode cX0_mendingsWithWay 1 = .ok (.istore_n 3, 1) := by decide +kernel
theorem dX0_mendingsWithWay_2 : decode cX0_mendingsWithWay 2 = .ok (.iconst 0, 1) := by decide +kernel
theorem dX0_mendingsWithWay_3 : decode cX0_mendingsWithWay 3 = .ok (.istore 4, 2) := by decide +kernel
theorem dX0_mendingsWithWay_5 : decode cX0_mendingsWithWay 5 = .ok (.iload 4, 2) := by decide +kernel
theorem dX0_mendingsWithWay_7 : decode cX0_mendingsWithWay 7 = .ok (.aload_n 0, 1) := by decide +kernel
theorem dX0_mendingsWithWay_8 : decode cX0_mendingsWithWay 8 = .ok (.getfield 52, 3) := by decide +kernel
theorem dX0_mendingsWithWay_11 : decode cX0_mendingsWithWay 11 = .ok (.if_icmp .ge 23, 3) := by decide +kernel
theorem dX0_mendingsWithWay_14 : decode cX0_mendingsWithWay 14 = .ok (.aload_n 0, 1) := by decide +kernel
theorem dX0_mendingsWithWay_15 : decode cX0_mendingsWithWay 15 = .ok (.iload 4, 2) := by decide +kernel
theorem dX0_mendingsWithWay_17 : decode cX0_mendingsWithWay 17 = .ok (.iload_n 1, 1) := by decide +kernel
theorem dX0_mendingsWithWay_18 : decode cX0_mendingsWithWay 18 = .ok (.iload_n 2, 1) := by decide +kernel
theorem dX0_mendingsWithWay_19 : decode cX0_mendingsWithWay 19 = .ok (.invokevirtual 110, 3) := by decide +kernel
theorem dX0_mendingsWithWay_22 : decode cX0_mendingsWithWay 22 = .ok (.ifCond .eq 6, 3) := by decide +kernel
theorem dX0_mendingsWithWay_25 : decode cX0_mendingsWithWay 25 = .ok (.iinc 3 1, 3) := by decide +kernel
theorem dX0_mendingsWithWay_28 : decode cX0_mendingsWithWay 28 = .ok (.iinc 4 1, 3) := by decide +kernel
theorem dX0_mendingsWithWay_31 : decode cX0_mendingsWithWay 31 = .ok (.goto (-26), 3) := by decide +kernel
theorem dX0_mendingsWithWay_34 : decode cX0_mendingsWithWay 34 = .ok (.iload_n 3, 1) := by decide +kernel
theorem dX0_mendingsWithWay_35 : decode cX0_mendingsWithWay 35 = .ok (.ireturn, 1) := by decide +kernel
set_option maxRecDepth 20000 in
theorem ggX0_firstMendingWithoutWay_X0_holdsIn : GoodIn wsX0_firstMendingWithoutWay wsX0_holdsIn := goodIn_r _ [6, 7, 8, 9, 10, 5, 11, 12, 13, 14, 15, 16, 17, 18, 19, 20, 21, 22, 23, 24, 25, 26, 27, 28, 29, 30, 31, 32, 33, 34, 35, 36, 37, 38, 39, 40, 41, 42, 43, 44, 45, 46, 47] (by decide +kernel) (by decide +kernel)
set_option maxRecDepth 20000 in
theorem gX0_firstMendingWithoutWay_X0_holdsIn : GoodIn wsX0_firstMendingWithoutWay (wsV RX0 110 RX0 yX0_holdsIn wsX0_holdsIn) := goodIn_app (goodIn_of _ (by decide +kernel)) ggX0_firstMendingWithoutWay_X0_holdsIn
theorem dX0_firstMendingWithoutWay_0 : decode cX0_firstMendingWithoutWay 0 = .ok (.iconst 0, 1) := by decide +kernel
theorem dX0_firstMendingWithoutWay_1 : decode cX0_firstMendingWithoutWay 1 = .ok (.istore_n 3, 1) := by decide +kernel
theorem dX0_firstMendingWithoutWay_2 : decode cX0_firstMendingWithoutWay 2 = .ok (.iload_n 3, 1) := by decide +kernel
theorem dX0_firstMendingWithoutWay_3 : decode cX0_firstMendingWithoutWay 3 = .ok (.aload_n 0, 1) := by decide +kernel
theorem dX0_firstMendingWithoutWay_4 : decode cX0_firstMendingWithoutWay 4 = .ok (.getfield 52, 3) := by decide +kernel
theorem dX0_firstMendingWithoutWay_7 : decode cX0_firstMendingWithoutWay 7 = .ok (.if_icmp .ge 21, 3) := by decide +kernel
theorem dX0_firstMendingWithoutWay_10 : decode cX0_firstMendingWithoutWay 10 = .ok (.aload_n 0, 1) := by decide +kernel
theorem dX0_firstMendingWithoutWay_11 : decode cX0_firstMendingWithoutWay 11 = .ok (.iload_n 3, 1) := by decide +kernel
theorem dX0_firstMendingWithoutWay_12 : decode cX0_firstMendingWithoutWay 12 = .ok (.iload_n 1, 1) := by decide +kernel
theorem dX0_firstMendingWithoutWay_13 : decode cX0_firstMendingWithoutWay 13 = .ok (.iload_n 2, 1) := by decide +kernel
theorem dX0_firstMendingWithoutWay_14 : decode cX0_firstMendingWithoutWay 14 = .ok (.invokevirtual 110, 3) := by decide +kernel
theorem dX0_firstMendingWithoutWay_17 : decode cX0_firstMendingWithoutWay 17 = .ok (.ifCond .ne 5, 3) := by decide +kernel
theorem dX0_firstMendingWithoutWay_20 : decode cX0_firstMendingWithoutWay 20 = .ok (.iload_n 3, 1) := by decide +kernel
theorem dX0_firstMendingWithoutWay_21 : decode cX0_firstMendingWithoutWay 21 = .ok (.ireturn, 1) := by decide +kernel
theorem dX0_firstMendingWithoutWay_22 : decode cX0_firstMendingWithoutWay 22 = .ok (.iinc 3 1, 3) := by decide +kernel
theorem dX0_firstMendingWithoutWay_25 : decode cX0_firstMendingWithoutWay 25 = .ok (.goto (-23), 3) := by decide +kernel
theorem dX0_firstMendingWithoutWay_28 : decode cX0_firstMendingWithoutWay 28 = .ok (.bipush (-5), 2) := by decide +kernel
theorem dX0_firstMendingWithoutWay_30 : decode cX0_firstMendingWithoutWay 30 = .ok (.ireturn, 1) := by decide +kernel
set_option maxRecDepth 20000 in
theorem ggX0_fewestPointers_X0_setOf : GoodIn wsX0_fewestPointers wsX0_setOf := goodIn_r _ [5, 6, 7, 8, 4, 9, 10, 11, 12, 13, 14, 15, 16, 17, 26, 27, 28, 29, 30, 31] (by decide +kernel) (by decide +kernel)
set_option maxRecDepth 20000 in
theorem gX0_fewestPointers_X0_setOf : GoodIn wsX0_fewestPointers (wsV RX0 114 RX0 yX0_setOf wsX0_setOf) := goodIn_app (goodIn_of _ (by decide +kernel)) ggX0_fewestPointers_X0_setOf
set_option maxRecDepth 20000 in
theorem ggX0_fewestPointers_X0_contains : GoodIn wsX0_fewestPointers wsX0_contains := goodIn_r _ [20] (by decide +kernel) (by decide +kernel)
set_option maxRecDepth 20000 in
theorem gX0_fewestPointers_X0_contains : GoodIn wsX0_fewestPointers (va_wsS RX0 117 yX0_contains wsX0_contains) := goodIn_app (goodIn_of _ (by decide +kernel)) ggX0_fewestPointers_X0_contains
set_option maxRecDepth 20000 in
theorem ggX0_fewestPointers_X0_keysThatCanPointInto : GoodIn wsX0_fewestPointers wsX0_keysThatCanPointInto := goodIn_r _ [24, 25, 15, 16, 17, 26, 27, 28, 29, 30, 31] (by decide +kernel) (by decide +kernel)
set_option maxRecDepth 20000 in
theorem gX0_fewestPointers_X0_keysThatCanPointInto : GoodIn wsX0_fewestPointers (wsV RX0 121 RX0 yX0_keysThatCanPointInto wsX0_keysThatCanPointInto) := goodIn_app (goodIn_of _ (by decide +kernel)) ggX0_fewestPointers_X0_keysThatCanPointInto
theorem dX0_fewestPointers_0 : decode cX0_fewestPointers 0 = .ok (.aload_n 0, 1) := by decide +kernel
theorem dX0_fewestPointers_1 : decode cX0_fewestPointers 1 = .ok (.iload_n 2, 1) := by decide +kernel
theorem dX0_fewestPointers_2 : decode cX0_fewestPointers 2 = .ok (.invokevirtual 114, 3) := by decide +kernel
theorem dX0_fewestPointers_5 : decode cX0_fewestPointers 5 = .ok (.istore_n 3, 1) := by decide +kernel
theorem dX0_fewestPointers_6 : decode cX0_fewestPointers 6 = .ok (.iconst 0, 1) := by decide +kernel
theorem dX0_fewestPointers_7 : decode cX0_fewestPointers 7 = .ok (.istore 4, 2) := by decide +kernel
theorem dX0_fewestPointers_9 : decode cX0_fewestPointers 9 = .ok (.iload 4, 2) := by decide +kernel
theorem dX0_fewestPointers_11 : decode cX0_fewestPointers 11 = .ok (.bipush 10, 2) := by decide +kernel
theorem dX0_fewestPointers_13 : decode cX0_fewestPointers 13 = .ok (.if_icmp .ge 28, 3) := by decide +kernel
theorem dX0_fewestPointers_16 : decode cX0_fewestPointers 16 = .ok (.iload_n 3, 1) := by decide +kernel
theorem dX0_fewestPointers_17 : decode cX0_fewestPointers 17 = .ok (.iload_n 1, 1) := by decide +kernel
theorem dX0_fewestPointers_18 : decode cX0_fewestPointers 18 = .ok (.invokestatic 117, 3) := by decide +kernel
theorem dX0_fewestPointers_21 : decode cX0_fewestPointers 21 = .ok (.ifCond .eq 6, 3) := by decide +kernel
theorem dX0_fewestPointers_24 : decode cX0_fewestPointers 24 = .ok (.iload 4, 2) := by decide +kernel
theorem dX0_fewestPointers_26 : decode cX0_fewestPointers 26 = .ok (.ireturn, 1) := by decide +kernel
theorem dX0_fewestPointers_27 : decode cX0_fewestPointers 27 = .ok (.iload_n 3, 1) := by decide +kernel
theorem dX0_fewestPointers_28 : decode cX0_fewestPointers 28 = .ok (.aload_n 0, 1) := by decide +kernel
theorem dX0_fewestPointers_29 : decode cX0_fewestPointers 29 = .ok (.iload_n 3, 1) := by decide +kernel
theorem dX0_fewestPointers_30 : decode cX0_fewestPointers 30 = .ok (.invokevirtual 121, 3) := by decide +kernel
theorem dX0_fewestPointers_33 : decode cX0_fewestPointers 33 = .ok (.ior, 1) := by decide +kernel
theorem dX0_fewestPointers_34 : decode cX0_fewestPointers 34 = .ok (.istore_n 3, 1) := by decide +kernel
theorem dX0_fewestPointers_35 : decode cX0_fewestPointers 35 = .ok (.iinc 4 1, 3) := by decide +kernel
theorem dX0_fewestPointers_38 : decode cX0_fewestPointers 38 = .ok (.goto (-29), 3) := by decide +kernel
theorem dX0_fewestPointers_41 : decode cX0_fewestPointers 41 = .ok (.bipush (-5), 2) := by decide +kernel
theorem dX0_fewestPointers_43 : decode cX0_fewestPointers 43 = .ok (.ireturn, 1) := by decide +kernel
set_option maxRecDepth 20000 in
theorem ggX0_isSureWay_X0_keysSureToReach : GoodIn wsX0_isSureWay wsX0_keysSureToReach := goodIn_r _ [5, 6, 7, 8, 4, 9, 10, 11, 12, 13, 14, 15, 16, 17, 18, 19, 20, 21, 22, 23, 24, 25, 26, 30, 31, 32, 33, 34, 35] (by decide +kernel) (by decide +kernel)
set_option maxRecDepth 20000 in
theorem gX0_isSureWay_X0_keysSureToReach : GoodIn wsX0_isSureWay (wsV RX0 124 RX0 yX0_keysSureToReach wsX0_keysSureToReach) := goodIn_app (goodIn_of _ (by decide +kernel)) ggX0_isSureWay_X0_keysSureToReach
set_option maxRecDepth 20000 in
theorem ggX0_isSureWay_X0_contains : GoodIn wsX0_isSureWay wsX0_contains := goodIn_r _ [29] (by decide +kernel) (by decide +kernel)
set_option maxRecDepth 20000 in
theorem gX0_isSureWay_X0_contains : GoodIn wsX0_isSureWay (va_wsS RX0 117 yX0_contains wsX0_contains) := goodIn_app (goodIn_of _ (by decide +kernel)) ggX0_isSureWay_X0_contains
theorem dX0_isSureWay_0 : decode cX0_isSureWay 0 = .ok (.aload_n 0, 1) := by decide +kernel
theorem dX0_isSureWay_1 : decode cX0_isSureWay 1 = .ok (.iload_n 2, 1) := by decide +kernel
theorem dX0_isSureWay_2 : decode cX0_isSureWay 2 = .ok (.invokevirtual 124, 3) := by decide +kernel
theorem dX0_isSureWay_5 : decode cX0_isSureWay 5 = .ok (.iload_n 1, 1) := by decide +kernel
theorem dX0_isSureWay_6 : decode cX0_isSureWay 6 = .ok (.invokestatic 117, 3) := by decide +kernel
theorem dX0_isSureWay_9 : decode cX0_isSureWay 9 = .ok (.ireturn, 1) := by decide +kernel
set_option maxRecDepth 20000 in
theorem ggX0_keysSureToReach_X0_setOf : GoodIn wsX0_keysSureToReach wsX0_setOf := goodIn_r _ [5, 6, 7, 8, 4, 9, 10, 11, 12, 13, 14, 15, 16, 17, 23, 24, 25, 26, 27, 28] (by decide +kernel) (by decide +kernel)
set_option maxRecDepth 20000 in
theorem gX0_keysSureToReach_X0_setOf : GoodIn wsX0_keysSureToReach (wsV RX0 114 RX0 yX0_setOf wsX0_setOf) := goodIn_app (goodIn_of _ (by decide +kernel)) ggX0_keysSureToReach_X0_setOf
set_option maxRecDepth 20000 in
theorem ggX0_keysSureToReach_X0_keysThatMustPointInto : GoodIn wsX0_keysSureToReach wsX0_keysThatMustPointInto := goodIn_r _ [21, 22, 15, 16, 17, 23, 24, 25, 26, 27, 28] (by decide +kernel) (by decide +kernel)
set_option maxRecDepth 20000 in
theorem gX0_keysSureToReach_X0_keysThatMustPointInto : GoodIn wsX0_keysSureToReach (wsV RX0 127 RX0 yX0_keysThatMustPointInto wsX0_keysThatMustPointInto) := goodIn_app (goodIn_of _ (by decide +kernel)) ggX0_keysSureToReach_X0_keysThatMustPointInto
theorem dX0_keysSureToReach_0 : decode cX0_keysSureToReach 0 = .ok (.aload_n 0, 1) := by decide +kernel
theorem dX0_keysSureToReach_1 : decode cX0_keysSureToReach 1 = .ok (.iload_n 1, 1) := by decide +kernel
theorem dX0_keysSureToReach_2 : decode cX0_keysSureToReach 2 = .ok (.invokevirtual 114, 3) := by decide +kernel
theorem dX0_keysSureToReach_5 : decode cX0_keysSureToReach 5 = .ok (.istore_n 2, 1) := by decide +kernel
theorem dX0_keysSureToReach_6 : decode cX0_keysSureToReach 6 = .ok (.iconst 1, 1) := by decide +kernel
theorem dX0_keysSureToReach_7 : decode cX0_keysSureToReach 7 = .ok (.istore_n 3, 1) := by decide +kernel
theorem dX0_keysSureToReach_8 : decode cX0_keysSureToReach 8 = .ok (.iload_n 3, 1) := by decide +kernel
theorem dX0_keysSureToReach_9 : decode cX0_keysSureToReach 9 = .ok (.bipush 10, 2) := by decide +kernel
theorem dX0_keysSureToReach_11 : decode cX0_keysSureToReach 11 = .ok (.if_icmp .ge 17, 3) := by decide +kernel
theorem dX0_keysSureToReach_14 : decode cX0_keysSureToReach 14 = .ok (.iload_n 2, 1) := by decide +kernel
theorem dX0_keysSureToReach_15 : decode cX0_keysSureToReach 15 = .ok (.aload_n 0, 1) := by decide +kernel
theorem dX0_keysSureToReach_16 : decode cX0_keysSureToReach 16 = .ok (.iload_n 2, 1) := by decide +kernel
theorem dX0_keysSureToReach_17 : decode cX0_keysSureToReach 17 = .ok (.invokevirtual 127, 3) := by decide +kernel
theorem dX0_keysSureToReach_20 : decode cX0_keysSureToReach 20 = .ok (.ior, 1) := by decide +kernel
theorem dX0_keysSureToReach_21 : decode cX0_keysSureToReach 21 = .ok (.istore_n 2, 1) := by decide +kernel
theorem dX0_keysSureToReach_22 : decode cX0_keysSureToReach 22 = .ok (.iinc 3 1, 3) := by decide +kernel
theorem dX0_keysSureToReach_25 : decode cX0_keysSureToReach 25 = .ok (.goto (-17), 3) := by decide +kernel
theorem dX0_keysSureToReach_28 : decode cX0_keysSureToReach 28 = .ok (.iload_n 2, 1) := by decide +kernel
theorem dX0_keysSureToReach_29 : decode cX0_keysSureToReach 29 = .ok (.ireturn, 1) := by decide +kernel
set_option maxRecDepth 20000 in
theorem ggX0_keysThatCanReach_X0_setOf : GoodIn wsX0_keysThatCanReach wsX0_setOf := goodIn_r _ [5, 6, 7, 8, 4, 9, 10, 11, 12, 13, 14, 15, 16, 17, 23, 24, 25, 26, 27, 28] (by decide +kernel) (by decide +kernel)
set_option maxRecDepth 20000 in
theorem gX0_keysThatCanReach_X0_setOf : GoodIn wsX0_keysThatCanReach (wsV RX0 114 RX0 yX0_setOf wsX0_setOf) := goodIn_app (goodIn_of _ (by decide +kernel)) ggX0_keysThatCanReach_X0_setOf
set_option maxRecDepth 20000 in
theorem ggX0_keysThatCanReach_X0_keysThatCanPointInto : GoodIn wsX0_keysThatCanReach wsX0_keysThatCanPointInto := goodIn_r _ [21, 22, 15, 16, 17, 23, 24, 25, 26, 27, 28] (by decide +kernel) (by decide +kernel)
set_option maxRecDepth 20000 in
theorem gX0_keysThatCanReach_X0_keysThatCanPointInto : GoodIn wsX0_keysThatCanReach (wsV RX0 121 RX0 yX0_keysThatCanPointInto wsX0_keysThatCanPointInto) := goodIn_app (goodIn_of _ (by decide +kernel)) ggX0_keysThatCanReach_X0_keysThatCanPointInto
theorem dX0_keysThatCanReach_0 : decode cX0_keysThatCanReach 0 = .ok (.aload_n 0, 1) := by decide +kernel
theorem dX0_keysThatCanReach_1 : decode cX0_keysThatCanReach 1 = .ok (.iload_n 1, 1) := by decide +kernel
theorem dX0_keysThatCanReach_2 : decode cX0_keysThatCanReach 2 = .ok (.invokevirtual 114, 3) := by decide +kernel
theorem dX0_keysThatCanReach_5 : decode cX0_keysThatCanReach 5 = .ok (.istore_n 2, 1) := by decide +kernel
theorem dX0_keysThatCanReach_6 : decode cX0_keysThatCanReach 6 = .ok (.iconst 1, 1) := by decide +kernel
theorem dX0_keysThatCanReach_7 : decode cX0_keysThatCanReach 7 = .ok (.istore_n 3, 1) := by decide +kernel
theorem dX0_keysThatCanReach_8 : decode cX0_keysThatCanReach 8 = .ok (.iload_n 3, 1) := by decide +kernel
theorem dX0_keysThatCanReach_9 : decode cX0_keysThatCanReach 9 = .ok (.bipush 10, 2) := by decide +kernel
theorem dX0_keysThatCanReach_11 : decode cX0_keysThatCanReach 11 = .ok (.if_icmp .ge 17, 3) := by decide +kernel
theorem dX0_keysThatCanReach_14 : decode cX0_keysThatCanReach 14 = .ok (.iload_n 2, 1) := by decide +kernel
theorem dX0_keysThatCanReach_15 : decode cX0_keysThatCanReach 15 = .ok (.aload_n 0, 1) := by decide +kernel
theorem dX0_keysThatCanReach_16 : decode cX0_keysThatCanReach 16 = .ok (.iload_n 2, 1) := by decide +kernel
theorem dX0_keysThatCanReach_17 : decode cX0_keysThatCanReach 17 = .ok (.invokevirtual 121, 3) := by decide +kernel
theorem dX0_keysThatCanReach_20 : decode cX0_keysThatCanReach 20 = .ok (.ior, 1) := by decide +kernel
theorem dX0_keysThatCanReach_21 : decode cX0_keysThatCanReach 21 = .ok (.istore_n 2, 1) := by decide +kernel
theorem dX0_keysThatCanReach_22 : decode cX0_keysThatCanReach 22 = .ok (.iinc 3 1, 3) := by decide +kernel
theorem dX0_keysThatCanReach_25 : decode cX0_keysThatCanReach 25 = .ok (.goto (-17), 3) := by decide +kernel
theorem dX0_keysThatCanReach_28 : decode cX0_keysThatCanReach 28 = .ok (.iload_n 2, 1) := by decide +kernel
theorem dX0_keysThatCanReach_29 : decode cX0_keysThatCanReach 29 = .ok (.ireturn, 1) := by decide +kernel
set_option maxRecDepth 20000 in
theorem ggX0_keysThatCanPointInto_X5_at : GoodIn wsX0_keysThatCanPointInto wsX5_at := goodIn_r _ [4] (by decide +kernel) (by decide +kernel)
set_option maxRecDepth 20000 in
theorem gX0_keysThatCanPointInto_X5_at_n66 : GoodIn wsX0_keysThatCanPointInto (wsX5_at) := ggX0_keysThatCanPointInto_X5_at
theorem dX0_keysThatCanPointInto_0 : decode cX0_keysThatCanPointInto 0 = .ok (.iconst 0, 1) := by decide +kernel
theorem dX0_keysThatCanPointInto_1 : decode cX0_keysThatCanPointInto 1 = .ok (.istore_n 2, 1) := by decide +kernel
theorem dX0_keysThatCanPointInto_2 : decode cX0_keysThatCanPointInto 2 = .ok (.iconst 0, 1) := by decide +kernel
theorem dX0_keysThatCanPointInto_3 : decode cX0_keysThatCanPointInto 3 = .ok (.istore_n 3, 1) := by decide +kernel
theorem dX0_keysThatCanPointInto_4 : decode cX0_keysThatCanPointInto 4 = .ok (.iload_n 3, 1) := by decide +kernel
theorem dX0_keysThatCanPointInto_5 : decode cX0_keysThatCanPointInto 5 = .ok (.bipush 10, 2) := by decide +kernel
theorem dX0_keysThatCanPointInto_7 : decode cX0_keysThatCanPointInto 7 = .ok (.if_icmp .ge 28, 3) := by decide +kernel
theorem dX0_keysThatCanPointInto_10 : decode cX0_keysThatCanPointInto 10 = .ok (.aload_n 0, 1) := by decide +kernel
theorem dX0_keysThatCanPointInto_11 : decode cX0_keysThatCanPointInto 11 = .ok (.getfield 21, 3) := by decide +kernel
theorem dX0_keysThatCanPointInto_14 : decode cX0_keysThatCanPointInto 14 = .ok (.iload_n 3, 1) := by decide +kernel
theorem dX0_keysThatCanPointInto_15 : decode cX0_keysThatCanPointInto 15 = .ok (.invokestatic 66, 3) := by decide +kernel
theorem dX0_keysThatCanPointInto_18 : decode cX0_keysThatCanPointInto 18 = .ok (.iload_n 1, 1) := by decide +kernel
theorem dX0_keysThatCanPointInto_19 : decode cX0_keysThatCanPointInto 19 = .ok (.iand, 1) := by decide +kernel
theorem dX0_keysThatCanPointInto_20 : decode cX0_keysThatCanPointInto 20 = .ok (.ifCond .eq 9, 3) := by decide +kernel
theorem dX0_keysThatCanPointInto_23 : decode cX0_keysThatCanPointInto 23 = .ok (.iload_n 2, 1) := by decide +kernel
theorem dX0_keysThatCanPointInto_24 : decode cX0_keysThatCanPointInto 24 = .ok (.iconst 1, 1) := by decide +kernel
theorem dX0_keysThatCanPointInto_25 : decode cX0_keysThatCanPointInto 25 = .ok (.iload_n 3, 1) := by decide +kernel
theorem dX0_keysThatCanPointInto_26 : decode cX0_keysThatCanPointInto 26 = .ok (.ishl, 1) := by decide +kernel
theorem dX0_keysThatCanPointInto_27 : decode cX0_keysThatCanPointInto 27 = .ok (.ior, 1) := by decide +kernel
theorem dX0_keysThatCanPointInto_28 : decode cX0_keysThatCanPointInto 28 = .ok (.istore_n 2, 1) := by decide +kernel
theorem dX0_keysThatCanPointInto_29 : decode cX0_keysThatCanPointInto 29 = .ok (.iinc 3 1, 3) := by decide +kernel
theorem dX0_keysThatCanPointInto_32 : decode cX0_keysThatCanPointInto 32 = .ok (.goto (-28), 3) := by decide +kernel
theorem dX0_keysThatCanPointInto_35 : decode cX0_keysThatCanPointInto 35 = .ok (.iload_n 2, 1) := by decide +kernel
theorem dX0_keysThatCanPointInto_36 : decode cX0_keysThatCanPointInto 36 = .ok (.ireturn, 1) := by decide +kernel
set_option maxRecDepth 20000 in
theorem ggX0_keysThatMustPointInto_X5_at : GoodIn wsX0_keysThatMustPointInto wsX5_at := goodIn_r _ [4] (by decide +kernel) (by decide +kernel)
set_option maxRecDepth 20000 in
theorem gX0_keysThatMustPointInto_X5_at_n66 : GoodIn wsX0_keysThatMustPointInto (wsX5_at) := ggX0_keysThatMustPointInto_X5_at
theorem dX0_keysThatMustPointInto_0 : decode cX0_keysThatMustPointInto 0 = .ok (.iconst 0, 1) := by decide +kernel
theorem dX0_keysThatMustPointInto_1 : decode cX0_keysThatMustPointInto 1 = .ok (.istore_n 2, 1) := by decide +kernel
theorem dX0_keysThatMustPointInto_2 : decode cX0_keysThatMustPointInto 2 = .ok (.iconst 0, 1) := by decide +kernel
theorem dX0_keysThatMustPointInto_3 : decode cX0_keysThatMustPointInto 3 = .ok (.istore_n 3, 1) := by decide +kernel
theorem dX0_keysThatMustPointInto_4 : decode cX0_keysThatMustPointInto 4 = .ok (.iload_n 3, 1) := by decide +kernel
theorem dX0_keysThatMustPointInto_5 : decode cX0_keysThatMustPointInto 5 = .ok (.bipush 10, 2) := by decide +kernel
theorem dX0_keysThatMustPointInto_7 : decode cX0_keysThatMustPointInto 7 = .ok (.if_icmp .ge 39, 3) := by decide +kernel
theorem dX0_keysThatMustPointInto_10 : decode cX0_keysThatMustPointInto 10 = .ok (.aload_n 0, 1) := by decide +kernel
theorem dX0_keysThatMustPointInto_11 : decode cX0_keysThatMustPointInto 11 = .ok (.getfield 21, 3) := by decide +kernel
theorem dX0_keysThatMustPointInto_14 : decode cX0_keysThatMustPointInto 14 = .ok (.iload_n 3, 1) := by decide +kernel
theorem dX0_keysThatMustPointInto_15 : decode cX0_keysThatMustPointInto 15 = .ok (.invokestatic 66, 3) := by decide +kernel
theorem dX0_keysThatMustPointInto_18 : decode cX0_keysThatMustPointInto 18 = .ok (.istore 4, 2) := by decide +kernel
theorem dX0_keysThatMustPointInto_20 : decode cX0_keysThatMustPointInto 20 = .ok (.iload 4, 2) := by decide +kernel
theorem dX0_keysThatMustPointInto_22 : decode cX0_keysThatMustPointInto 22 = .ok (.ifCond .eq 18, 3) := by decide +kernel
theorem dX0_keysThatMustPointInto_25 : decode cX0_keysThatMustPointInto 25 = .ok (.iload 4, 2) := by decide +kernel
theorem dX0_keysThatMustPointInto_27 : decode cX0_keysThatMustPointInto 27 = .ok (.iload_n 1, 1) := by decide +kernel
theorem dX0_keysThatMustPointInto_28 : decode cX0_keysThatMustPointInto 28 = .ok (.iconst (-1), 1) := by decide +kernel
theorem dX0_keysThatMustPointInto_29 : decode cX0_keysThatMustPointInto 29 = .ok (.ixor, 1) := by decide +kernel
theorem dX0_keysThatMustPointInto_30 : decode cX0_keysThatMustPointInto 30 = .ok (.iand, 1) := by decide +kernel
theorem dX0_keysThatMustPointInto_31 : decode cX0_keysThatMustPointInto 31 = .ok (.ifCond .ne 9, 3) := by decide +kernel
theorem dX0_keysThatMustPointInto_34 : decode cX0_keysThatMustPointInto 34 = .ok (.iload_n 2, 1) := by decide +kernel
theorem dX0_keysThatMustPointInto_35 : decode cX0_keysThatMustPointInto 35 = .ok (.iconst 1, 1) := by decide +kernel
theorem dX0_keysThatMustPointInto_36 : decode cX0_keysThatMustPointInto 36 = .ok (.iload_n 3, 1) := by decide +kernel
theorem dX0_keysThatMustPointInto_37 : decode cX0_keysThatMustPointInto 37 = .ok (.ishl, 1) := by decide +kernel
theorem dX0_keysThatMustPointInto_38 : decode cX0_keysThatMustPointInto 38 = .ok (.ior, 1) := by decide +kernel
theorem dX0_keysThatMustPointInto_39 : decode cX0_keysThatMustPointInto 39 = .ok (.istore_n 2, 1) := by decide +kernel
theorem dX0_keysThatMustPointInto_40 : decode cX0_keysThatMustPointInto 40 = .ok (.iinc 3 1, 3) := by decide +kernel
theorem dX0_keysThatMustPointInto_43 : decode cX0_keysThatMustPointInto 43 = .ok (.goto (-39), 3) := by decide +kernel
theorem dX0_keysThatMustPointInto_46 : decode cX0_keysThatMustPointInto 46 = .ok (.iload_n 2, 1) := by decide +kernel
theorem dX0_keysThatMustPointInto_47 : decode cX0_keysThatMustPointInto 47 = .ok (.ireturn, 1) := by decide +kernel
set_option maxRecDepth 20000 in
theorem ggX0_setOf_X0_isThere : GoodIn wsX0_setOf wsX0_isThere := goodIn_r _ [5, 6, 7, 8, 4, 9, 10, 11, 12, 13, 14, 15, 16, 17, 18, 19] (by decide +kernel) (by decide +kernel)
set_option maxRecDepth 20000 in
theorem gX0_setOf_X0_isThere : GoodIn wsX0_setOf (wsV RX0 60 RX0 yX0_isThere wsX0_isThere) := goodIn_app (goodIn_of _ (by decide +kernel)) ggX0_setOf_X0_isThere
theorem dX0_setOf_0 : decode cX0_setOf 0 = .ok (.aload_n 0, 1) := by decide +kernel
theorem dX0_setOf_1 : decode cX0_setOf 1 = .ok (.iload_n 1, 1) := by decide +kernel
theorem dX0_setOf_2 : decode cX0_setOf 2 = .ok (.invokevirtual 60, 3) := by decide +kernel
theorem dX0_setOf_5 : decode cX0_setOf 5 = .ok (.ifCond .eq 9, 3) := by decide +kernel
theorem dX0_setOf_8 : decode cX0_setOf 8 = .ok (.iconst 1, 1) := by decide +kernel
theorem dX0_setOf_9 : decode cX0_setOf 9 = .ok (.iload_n 1, 1) := by decide +kernel
theorem dX0_setOf_10 : decode cX0_setOf 10 = .ok (.ishl, 1) := by decide +kernel
theorem dX0_setOf_11 : decode cX0_setOf 11 = .ok (.goto 4, 3) := by decide +kernel
theorem dX0_setOf_14 : decode cX0_setOf 14 = .ok (.iconst 0, 1) := by decide +kernel
theorem dX0_setOf_15 : decode cX0_setOf 15 = .ok (.ireturn, 1) := by decide +kernel
theorem dX0_contains_0 : decode cX0_contains 0 = .ok (.iload_n 0, 1) := by decide +kernel
theorem dX0_contains_1 : decode cX0_contains 1 = .ok (.iconst 1, 1) := by decide +kernel
theorem dX0_contains_2 : decode cX0_contains 2 = .ok (.iload_n 1, 1) := by decide +kernel
theorem dX0_contains_3 : decode cX0_contains 3 = .ok (.ishl, 1) := by decide +kernel
theorem dX0_contains_4 : decode cX0_contains 4 = .ok (.iand, 1) := by decide +kernel
theorem dX0_contains_5 : decode cX0_contains 5 = .ok (.ifCond .eq 7, 3) := by decide +kernel
theorem dX0_contains_8 : decode cX0_contains 8 = .ok (.iconst 1, 1) := by decide +kernel
theorem dX0_contains_9 : decode cX0_contains 9 = .ok (.goto 4, 3) := by decide +kernel
theorem dX0_contains_12 : decode cX0_contains 12 = .ok (.iconst 0, 1) := by decide +kernel
theorem dX0_contains_13 : decode cX0_contains 13 = .ok (.ireturn, 1) := by decide +kernel
set_option maxRecDepth 20000 in
theorem ggX0_sureWays_X0_keysSureToReach : GoodIn wsX0_sureWays wsX0_keysSureToReach := goodIn_r _ [5, 6, 7, 8, 4, 9, 10, 11, 12, 13, 14, 15, 16, 17, 18, 19, 20, 21, 22, 23, 24, 25, 26, 34, 35, 36, 37, 38, 39] (by decide +kernel) (by decide +kernel)
set_option maxRecDepth 20000 in
theorem gX0_sureWays_X0_keysSureToReach : GoodIn wsX0_sureWays (wsV RX0 124 RX0 yX0_keysSureToReach wsX0_keysSureToReach) := goodIn_app (goodIn_of _ (by decide +kernel)) ggX0_sureWays_X0_keysSureToReach
set_option maxRecDepth 20000 in
theorem ggX0_sureWays_J6_bitCount_0f7a4 : GoodIn wsX0_sureWays wsJ6_bitCount_0f7a4 := goodIn_r _ [30, 31, 32, 33] (by decide +kernel) (by decide +kernel)
set_option maxRecDepth 20000 in
theorem gX0_sureWays_J6_bitCount_0f7a4 : GoodIn wsX0_sureWays (va_wsS RX0 130 yJ6_bitCount_0f7a4 wsJ6_bitCount_0f7a4) := goodIn_app (goodIn_of _ (by decide +kernel)) ggX0_sureWays_J6_bitCount_0f7a4
theorem dX0_sureWays_0 : decode cX0_sureWays 0 = .ok (.iconst 0, 1) := by decide +kernel
theorem dX0_sureWays_1 : decode cX0_sureWays 1 = .ok (.istore_n 1, 1) := by decide +kernel
theorem dX0_sureWays_2 : decode cX0_sureWays 2 = .ok (.iconst 0, 1) := by decide +kernel
theorem dX0_sureWays_3 : decode cX0_sureWays 3 = .ok (.istore_n 2, 1) := by decide +kernel
theorem dX0_sureWays_4 : decode cX0_sureWays 4 = .ok (.iload_n 2, 1) := by decide +kernel
theorem dX0_sureWays_5 : decode cX0_sureWays 5 = .ok (.bipush 10, 2) := by decide +kernel
theorem dX0_sureWays_7 : decode cX0_sureWays 7 = .ok (.if_icmp .ge 20, 3) := by decide +kernel
theorem dX0_sureWays_10 : decode cX0_sureWays 10 = .ok (.iload_n 1, 1) := by decide +kernel
theorem dX0_sureWays_11 : decode cX0_sureWays 11 = .ok (.aload_n 0, 1) := by decide +kernel
theorem dX0_sureWays_12 : decode cX0_sureWays 12 = .ok (.iload_n 2, 1) := by decide +kernel
theorem dX0_sureWays_13 : decode cX0_sureWays 13 = .ok (.invokevirtual 124, 3) := by decide +kernel
theorem dX0_sureWays_16 : decode cX0_sureWays 16 = .ok (.invokestatic 130, 3) := by decide +kernel
theorem dX0_sureWays_19 : decode cX0_sureWays 19 = .ok (.iadd, 1) := by decide +kernel
theorem dX0_sureWays_20 : decode cX0_sureWays 20 = .ok (.istore_n 1, 1) := by decide +kernel
theorem dX0_sureWays_21 : decode cX0_sureWays 21 = .ok (.iinc 2 1, 3) := by decide +kernel
theorem dX0_sureWays_24 : decode cX0_sureWays 24 = .ok (.goto (-20), 3) := by decide +kernel
theorem dX0_sureWays_27 : decode cX0_sureWays 27 = .ok (.iload_n 1, 1) := by decide +kernel
theorem dX0_sureWays_28 : decode cX0_sureWays 28 = .ok (.ireturn, 1) := by decide +kernel
set_option maxRecDepth 20000 in
theorem ggX0_possibleWays_X0_keysThatCanReach : GoodIn wsX0_possibleWays wsX0_keysThatCanReach := goodIn_r _ [5, 6, 7, 8, 4, 9, 10, 11, 12, 13, 14, 15, 16, 17, 18, 19, 20, 21, 22, 23, 24, 25, 26, 34, 35, 36, 37, 38, 39] (by decide +kernel) (by decide +kernel)
set_option maxRecDepth 20000 in
theorem gX0_possibleWays_X0_keysThatCanReach : GoodIn wsX0_possibleWays (wsV RX0 135 RX0 yX0_keysThatCanReach wsX0_keysThatCanReach) := goodIn_app (goodIn_of _ (by decide +kernel)) ggX0_possibleWays_X0_keysThatCanReach
set_option maxRecDepth 20000 in
theorem ggX0_possibleWays_J6_bitCount_0f7a4 : GoodIn wsX0_possibleWays wsJ6_bitCount_0f7a4 := goodIn_r _ [30, 31, 32, 33] (by decide +kernel) (by decide +kernel)
set_option maxRecDepth 20000 in
theorem gX0_possibleWays_J6_bitCount_0f7a4 : GoodIn wsX0_possibleWays (va_wsS RX0 130 yJ6_bitCount_0f7a4 wsJ6_bitCount_0f7a4) := goodIn_app (goodIn_of _ (by decide +kernel)) ggX0_possibleWays_J6_bitCount_0f7a4
theorem dX0_possibleWays_0 : decode cX0_possibleWays 0 = .ok (.iconst 0, 1) := by decide +kernel
theorem dX0_possibleWays_1 : decode cX0_possibleWays 1 = .ok (.istore_n 1, 1) := by decide +kernel
theorem dX0_possibleWays_2 : decode cX0_possibleWays 2 = .ok (.iconst 0, 1) := by decide +kernel
theorem dX0_possibleWays_3 : decode cX0_possibleWays 3 = .ok (.istore_n 2, 1) := by decide +kernel
theorem dX0_possibleWays_4 : decode cX0_possibleWays 4 = .ok (.iload_n 2, 1) := by decide +kernel
theorem dX0_possibleWays_5 : decode cX0_possibleWays 5 = .ok (.bipush 10, 2) := by decide +kernel
theorem dX0_possibleWays_7 : decode cX0_possibleWays 7 = .ok (.if_icmp .ge 20, 3) := by decide +kernel
theorem dX0_possibleWays_10 : decode cX0_possibleWays 10 = .ok (.iload_n 1, 1) := by decide +kernel
theorem dX0_possibleWays_11 : decode cX0_possibleWays 11 = .ok (.aload_n 0, 1) := by decide +kernel
theorem dX0_possibleWays_12 : decode cX0_possibleWays 12 = .ok (.iload_n 2, 1) := by decide +kernel
theorem dX0_possibleWays_13 : decode cX0_possibleWays 13 = .ok (.invokevirtual 135, 3) := by decide +kernel
theorem dX0_possibleWays_16 : decode cX0_possibleWays 16 = .ok (.invokestatic 130, 3) := by decide +kernel
theorem dX0_possibleWays_19 : decode cX0_possibleWays 19 = .ok (.iadd, 1) := by decide +kernel
theorem dX0_possibleWays_20 : decode cX0_possibleWays 20 = .ok (.istore_n 1, 1) := by decide +kernel
theorem dX0_possibleWays_21 : decode cX0_possibleWays 21 = .ok (.iinc 2 1, 3) := by decide +kernel
theorem dX0_possibleWays_24 : decode cX0_possibleWays 24 = .ok (.goto (-20), 3) := by decide +kernel
theorem dX0_possibleWays_27 : decode cX0_possibleWays 27 = .ok (.iload_n 1, 1) := by decide +kernel
theorem dX0_possibleWays_28 : decode cX0_possibleWays 28 = .ok (.ireturn, 1) := by decide +kernel
set_option maxRecDepth 20000 in
theorem ggX0_rowThatMakesSure_X0_isSureWay : GoodIn wsX0_rowThatMakesSure wsX0_isSureWay := goodIn_r _ [5, 6, 7, 8, 4, 9, 10, 11, 12, 13, 14, 15, 16, 17, 18, 19, 20, 21, 22, 23, 24, 25, 26, 27, 28, 29, 30, 31, 32, 33, 58, 59, 60, 61, 62, 63] (by decide +kernel) (by decide +kernel)
set_option maxRecDepth 20000 in
theorem gX0_rowThatMakesSure_X0_isSureWay : GoodIn wsX0_rowThatMakesSure (wsV RX0 138 RX0 yX0_isSureWay wsX0_isSureWay) := goodIn_app (goodIn_of _ (by decide +kernel)) ggX0_rowThatMakesSure_X0_isSureWay
set_option maxRecDepth 20000 in
theorem ggX0_rowThatMakesSure_X0_optionsOf : GoodIn wsX0_rowThatMakesSure wsX0_optionsOf := goodIn_r _ [21, 22, 23, 24, 25, 58, 59, 60, 61, 62, 63] (by decide +kernel) (by decide +kernel)
set_option maxRecDepth 20000 in
theorem gX0_rowThatMakesSure_X0_optionsOf : GoodIn wsX0_rowThatMakesSure (wsV RX0 63 RX0 yX0_optionsOf wsX0_optionsOf) := goodIn_app (goodIn_of _ (by decide +kernel)) ggX0_rowThatMakesSure_X0_optionsOf
set_option maxRecDepth 20000 in
theorem ggX0_rowThatMakesSure_X0_option : GoodIn wsX0_rowThatMakesSure wsX0_option := goodIn_r _ [37, 38, 23, 24, 25, 58, 59, 60, 61, 62, 63] (by decide +kernel) (by decide +kernel)
set_option maxRecDepth 20000 in
theorem gX0_rowThatMakesSure_X0_option : GoodIn wsX0_rowThatMakesSure (wsV RX0 79 RX0 yX0_option wsX0_option) := goodIn_app (goodIn_of _ (by decide +kernel)) ggX0_rowThatMakesSure_X0_option
set_option maxRecDepth 20000 in
theorem ggX0_rowThatMakesSure_X0_isSureWayOnceMended : GoodIn wsX0_rowThatMakesSure wsX0_isSureWayOnceMended := goodIn_r _ [42, 30, 23, 24, 25, 43, 44, 45, 4, 46, 47, 48, 49, 50, 51, 52, 53, 54, 55, 56, 57, 6, 7, 8, 9, 10, 11, 12, 13, 14, 15, 16, 17, 18, 19, 20, 21, 22, 26, 27, 28, 29, 31, 32, 33, 58, 59, 60, 61, 62, 63, 64, 65, 66, 67, 68, 69] (by decide +kernel) (by decide +kernel)
set_option maxRecDepth 20000 in
theorem gX0_rowThatMakesSure_X0_isSureWayOnceMended : GoodIn wsX0_rowThatMakesSure (wsV RX0 141 RX0 yX0_isSureWayOnceMended wsX0_isSureWayOnceMended) := goodIn_app (goodIn_of _ (by decide +kernel)) ggX0_rowThatMakesSure_X0_isSureWayOnceMended
theorem dX0_rowThatMakesSure_0 : decode cX0_rowThatMakesSure 0 = .ok (.aload_n 0, 1) := by decide +kernel
theorem dX0_rowThatMakesSure_1 : decode cX0_rowThatMakesSure 1 = .ok (.iload_n 1, 1) := by decide +kernel
theorem dX0_rowThatMakesSure_2 : decode cX0_rowThatMakesSure 2 = .ok (.iload_n 2, 1) := by decide +kernel
theorem dX0_rowThatMakesSure_3 : decode cX0_rowThatMakesSure 3 = .ok (.invokevirtual 138, 3) := by decide +kernel
theorem dX0_rowThatMakesSure_6 : decode cX0_rowThatMakesSure 6 = .ok (.ifCond .eq 6, 3) := by decide +kernel
theorem dX0_rowThatMakesSure_9 : decode cX0_rowThatMakesSure 9 = .ok (.bipush (-5), 2) := by decide +kernel
theorem dX0_rowThatMakesSure_11 : decode cX0_rowThatMakesSure 11 = .ok (.ireturn, 1) := by decide +kernel
theorem dX0_rowThatMakesSure_12 : decode cX0_rowThatMakesSure 12 = .ok (.iconst 0, 1) := by decide +kernel
theorem dX0_rowThatMakesSure_13 : decode cX0_rowThatMakesSure 13 = .ok (.istore_n 3, 1) := by decide +kernel
theorem dX0_rowThatMakesSure_14 : decode cX0_rowThatMakesSure 14 = .ok (.iload_n 3, 1) := by decide +kernel
theorem dX0_rowThatMakesSure_15 : decode cX0_rowThatMakesSure 15 = .ok (.bipush 10, 2) := by decide +kernel
theorem dX0_rowThatMakesSure_17 : decode cX0_rowThatMakesSure 17 = .ok (.if_icmp .ge 52, 3) := by decide +kernel
theorem dX0_rowThatMakesSure_20 : decode cX0_rowThatMakesSure 20 = .ok (.iconst 0, 1) := by decide +kernel
theorem dX0_rowThatMakesSure_21 : decode cX0_rowThatMakesSure 21 = .ok (.istore 4, 2) := by decide +kernel
theorem dX0_rowThatMakesSure_23 : decode cX0_rowThatMakesSure 23 = .ok (.iload 4, 2) := by decide +kernel
theorem dX0_rowThatMakesSure_25 : decode cX0_rowThatMakesSure 25 = .ok (.aload_n 0, 1) := by decide +kernel
theorem dX0_rowThatMakesSure_26 : decode cX0_rowThatMakesSure 26 = .ok (.iload_n 3, 1) := by decide +kernel
theorem dX0_rowThatMakesSure_27 : decode cX0_rowThatMakesSure 27 = .ok (.invokevirtual 63, 3) := by decide +kernel
theorem dX0_rowThatMakesSure_30 : decode cX0_rowThatMakesSure 30 = .ok (.if_icmp .ge 33, 3) := by decide +kernel
theorem dX0_rowThatMakesSure_33 : decode cX0_rowThatMakesSure 33 = .ok (.aload_n 0, 1) := by decide +kernel
theorem dX0_rowThatMakesSure_34 : decode cX0_rowThatMakesSure 34 = .ok (.iload_n 3, 1) := by decide +kernel
theorem dX0_rowThatMakesSure_35 : decode cX0_rowThatMakesSure 35 = .ok (.iload 4, 2) := by decide +kernel
theorem dX0_rowThatMakesSure_37 : decode cX0_rowThatMakesSure 37 = .ok (.invokevirtual 79, 3) := by decide +kernel
theorem dX0_rowThatMakesSure_40 : decode cX0_rowThatMakesSure 40 = .ok (.istore 5, 2) := by decide +kernel
theorem dX0_rowThatMakesSure_42 : decode cX0_rowThatMakesSure 42 = .ok (.aload_n 0, 1) := by decide +kernel
theorem dX0_rowThatMakesSure_43 : decode cX0_rowThatMakesSure 43 = .ok (.iload_n 3, 1) := by decide +kernel
theorem dX0_rowThatMakesSure_44 : decode cX0_rowThatMakesSure 44 = .ok (.iload 5, 2) := by decide +kernel
theorem dX0_rowThatMakesSure_46 : decode cX0_rowThatMakesSure 46 = .ok (.iload_n 1, 1) := by decide +kernel
theorem dX0_rowThatMakesSure_47 : decode cX0_rowThatMakesSure 47 = .ok (.iload_n 2, 1) := by decide +kernel
theorem dX0_rowThatMakesSure_48 : decode cX0_rowThatMakesSure 48 = .ok (.invokevirtual 141, 3) := by decide +kernel
theorem dX0_rowThatMakesSure_51 : decode cX0_rowThatMakesSure 51 = .ok (.ifCond .eq 6, 3) := by decide +kernel
theorem dX0_rowThatMakesSure_54 : decode cX0_rowThatMakesSure 54 = .ok (.iload 5, 2) := by decide +kernel
theorem dX0_rowThatMakesSure_56 : decode cX0_rowThatMakesSure 56 = .ok (.ireturn, 1) := by decide +kernel
theorem dX0_rowThatMakesSure_57 : decode cX0_rowThatMakesSure 57 = .ok (.iinc 4 1, 3) := by decide +kernel
theorem dX0_rowThatMakesSure_60 : decode cX0_rowThatMakesSure 60 = .ok (.goto (-37), 3) := by decide +kernel
theorem dX0_rowThatMakesSure_63 : decode cX0_rowThatMakesSure 63 = .ok (.iinc 3 1, 3) := by decide +kernel
theorem dX0_rowThatMakesSure_66 : decode cX0_rowThatMakesSure 66 = .ok (.goto (-52), 3) := by decide +kernel
theorem dX0_rowThatMakesSure_69 : decode cX0_rowThatMakesSure 69 = .ok (.bipush (-5), 2) := by decide +kernel
theorem dX0_rowThatMakesSure_71 : decode cX0_rowThatMakesSure 71 = .ok (.ireturn, 1) := by decide +kernel
set_option maxRecDepth 20000 in
theorem ggX0_isSureWayOnceMended_X5_at : GoodIn wsX0_isSureWayOnceMended wsX5_at := goodIn_r _ [4] (by decide +kernel) (by decide +kernel)
set_option maxRecDepth 20000 in
theorem gX0_isSureWayOnceMended_X5_at_n66 : GoodIn wsX0_isSureWayOnceMended (wsX5_at) := ggX0_isSureWayOnceMended_X5_at
set_option maxRecDepth 20000 in
theorem ggX0_isSureWayOnceMended_X0_targetBit : GoodIn wsX0_isSureWayOnceMended wsX0_targetBit := goodIn_r _ [9, 10, 11, 12, 13, 14, 15, 16, 2, 3, 4, 17, 18, 45, 46, 47, 48, 49, 50, 51, 52, 53, 54, 55, 56] (by decide +kernel) (by decide +kernel)
set_option maxRecDepth 20000 in
theorem gX0_isSureWayOnceMended_X0_targetBit : GoodIn wsX0_isSureWayOnceMended (wsV RX0 70 RX0 yX0_targetBit wsX0_targetBit) := goodIn_app (goodIn_of _ (by decide +kernel)) ggX0_isSureWayOnceMended_X0_targetBit
set_option maxRecDepth 20000 in
theorem ggX0_isSureWayOnceMended_X5_put : GoodIn wsX0_isSureWayOnceMended wsX5_put := goodIn_r _ [20] (by decide +kernel) (by decide +kernel)
set_option maxRecDepth 20000 in
theorem gX0_isSureWayOnceMended_X5_put_n56 : GoodIn wsX0_isSureWayOnceMended (wsX5_put) := ggX0_isSureWayOnceMended_X5_put
set_option maxRecDepth 20000 in
theorem ggX0_isSureWayOnceMended_X0_keysSureToReach : GoodIn wsX0_isSureWayOnceMended wsX0_keysSureToReach := goodIn_r _ [24, 25, 26, 27, 8, 28, 29, 30, 31, 32, 33, 34, 35, 36, 37, 2, 3, 4, 38, 39, 40, 41, 1, 45, 46, 47, 48, 49, 50] (by decide +kernel) (by decide +kernel)
set_option maxRecDepth 20000 in
theorem gX0_isSureWayOnceMended_X0_keysSureToReach : GoodIn wsX0_isSureWayOnceMended (wsV RX0 124 RX0 yX0_keysSureToReach wsX0_keysSureToReach) := goodIn_app (goodIn_of _ (by decide +kernel)) ggX0_isSureWayOnceMended_X0_keysSureToReach
set_option maxRecDepth 20000 in
theorem ggX0_isSureWayOnceMended_X0_contains : GoodIn wsX0_isSureWayOnceMended wsX0_contains := goodIn_r _ [44] (by decide +kernel) (by decide +kernel)
set_option maxRecDepth 20000 in
theorem gX0_isSureWayOnceMended_X0_contains : GoodIn wsX0_isSureWayOnceMended (va_wsS RX0 117 yX0_contains wsX0_contains) := goodIn_app (goodIn_of _ (by decide +kernel)) ggX0_isSureWayOnceMended_X0_contains
theorem dX0_isSureWayOnceMended_0 : decode cX0_isSureWayOnceMended 0 = .ok (.aload_n 0, 1) := by decide +kernel
theorem dX0_isSureWayOnceMended_1 : decode cX0_isSureWayOnceMended 1 = .ok (.getfield 21, 3) := by decide +kernel
theorem dX0_isSureWayOnceMended_4 : decode cX0_isSureWayOnceMended 4 = .ok (.iload_n 1, 1) := by decide +kernel
theorem dX0_isSureWayOnceMended_5 : decode cX0_isSureWayOnceMended 5 = .ok (.invokestatic 66, 3) := by decide +kernel
theorem dX0_isSureWayOnceMended_8 : decode cX0_isSureWayOnceMended 8 = .ok (.istore 5, 2) := by decide +kernel
theorem dX0_isSureWayOnceMended_10 : decode cX0_isSureWayOnceMended 10 = .ok (.aload_n 0, 1) := by decide +kernel
theorem dX0_isSureWayOnceMended_11 : decode cX0_isSureWayOnceMended 11 = .ok (.getfield 21, 3) := by decide +kernel
theorem dX0_isSureWayOnceMended_14 : decode cX0_isSureWayOnceMended 14 = .ok (.iload_n 1, 1) := by decide +kernel
theorem dX0_isSureWayOnceMended_15 : decode cX0_isSureWayOnceMended 15 = .ok (.aload_n 0, 1) := by decide +kernel
theorem dX0_isSureWayOnceMended_16 : decode cX0_isSureWayOnceMended 16 = .ok (.iload_n 2, 1) := by decide +kernel
theorem dX0_isSureWayOnceMended_17 : decode cX0_isSureWayOnceMended 17 = .ok (.invokevirtual 70, 3) := by decide +kernel
theorem dX0_isSureWayOnceMended_20 : decode cX0_isSureWayOnceMended 20 = .ok (.invokestatic 56, 3) := by decide +kernel
theorem dX0_isSureWayOnceMended_23 : decode cX0_isSureWayOnceMended 23 = .ok (.aload_n 0, 1) := by decide +kernel
theorem dX0_isSureWayOnceMended_24 : decode cX0_isSureWayOnceMended 24 = .ok (.iload 4, 2) := by decide +kernel
theorem dX0_isSureWayOnceMended_26 : decode cX0_isSureWayOnceMended 26 = .ok (.invokevirtual 124, 3) := by decide +kernel
theorem dX0_isSureWayOnceMended_29 : decode cX0_isSureWayOnceMended 29 = .ok (.iload_n 3, 1) := by decide +kernel
theorem dX0_isSureWayOnceMended_30 : decode cX0_isSureWayOnceMended 30 = .ok (.invokestatic 117, 3) := by decide +kernel
theorem dX0_isSureWayOnceMended_33 : decode cX0_isSureWayOnceMended 33 = .ok (.istore 6, 2) := by decide +kernel
theorem dX0_isSureWayOnceMended_35 : decode cX0_isSureWayOnceMended 35 = .ok (.aload_n 0, 1) := by decide +kernel
theorem dX0_isSureWayOnceMended_36 : decode cX0_isSureWayOnceMended 36 = .ok (.getfield 21, 3) := by decide +kernel
theorem dX0_isSureWayOnceMended_39 : decode cX0_isSureWayOnceMended 39 = .ok (.iload_n 1, 1) := by decide +kernel
theorem dX0_isSureWayOnceMended_40 : decode cX0_isSureWayOnceMended 40 = .ok (.iload 5, 2) := by decide +kernel
theorem dX0_isSureWayOnceMended_42 : decode cX0_isSureWayOnceMended 42 = .ok (.invokestatic 56, 3) := by decide +kernel
theorem dX0_isSureWayOnceMended_45 : decode cX0_isSureWayOnceMended 45 = .ok (.iload 6, 2) := by decide +kernel
theorem dX0_isSureWayOnceMended_47 : decode cX0_isSureWayOnceMended 47 = .ok (.ireturn, 1) := by decide +kernel
set_option maxRecDepth 20000 in
theorem ggX1_init_X3_init : GoodIn wsX1_init wsX3_init := goodIn_r _ [9, 10, 2, 3, 11, 12, 13, 14, 15, 19, 20, 21, 22, 23, 24] (by decide +kernel) (by decide +kernel)
set_option maxRecDepth 20000 in
theorem gX1_init_X3_init_n17 : GoodIn wsX1_init (wsX3_init) := ggX1_init_X3_init
theorem dX1_init_0 : decode cX1_init 0 = .ok (.aload_n 0, 1) := by decide +kernel
theorem dX1_init_1 : decode cX1_init 1 = .ok (.invokespecial 3, 3) := by decide +kernel
theorem dX1_init_4 : decode cX1_init 4 = .ok (.aload_n 0, 1) := by decide +kernel
theorem dX1_init_5 : decode cX1_init 5 = .ok (.iconst 4, 1) := by decide +kernel
theorem dX1_init_6 : decode cX1_init 6 = .ok (.anewarray 9, 3) := by decide +kernel
theorem dX1_init_9 : decode cX1_init 9 = .ok (.putfield 11, 3) := by decide +kernel
theorem dX1_init_12 : decode cX1_init 12 = .ok (.iconst 0, 1) := by decide +kernel
theorem dX1_init_13 : decode cX1_init 13 = .ok (.istore_n 1, 1) := by decide +kernel
theorem dX1_init_14 : decode cX1_init 14 = .ok (.iload_n 1, 1) := by decide +kernel
theorem dX1_init_15 : decode cX1_init 15 = .ok (.aload_n 0, 1) := by decide +kernel
theorem dX1_init_16 : decode cX1_init 16 = .ok (.getfield 11, 3) := by decide +kernel
theorem dX1_init_19 : decode cX1_init 19 = .ok (.arraylength, 1) := by decide +kernel
theorem dX1_init_20 : decode cX1_init 20 = .ok (.if_icmp .ge 22, 3) := by decide +kernel
theorem dX1_init_23 : decode cX1_init 23 = .ok (.aload_n 0, 1) := by decide +kernel
theorem dX1_init_24 : decode cX1_init 24 = .ok (.getfield 11, 3) := by decide +kernel
theorem dX1_init_27 : decode cX1_init 27 = .ok (.iload_n 1, 1) := by decide +kernel
theorem dX1_init_28 : decode cX1_init 28 = .ok (.new 9, 3) := by decide +kernel
theorem dX1_init_31 : decode cX1_init 31 = .ok (.dup, 1) := by decide +kernel
theorem dX1_init_32 : decode cX1_init 32 = .ok (.invokespecial 17, 3) := by decide +kernel
theorem dX1_init_35 : decode cX1_init 35 = .ok (.aastore, 1) := by decide +kernel
theorem dX1_init_36 : decode cX1_init 36 = .ok (.iinc 1 1, 3) := by decide +kernel
theorem dX1_init_39 : decode cX1_init 39 = .ok (.goto (-25), 3) := by decide +kernel
theorem dX1_init_42 : decode cX1_init 42 = .ok (.return_, 1) := by decide +kernel
theorem dX1_size_0 : decode cX1_size 0 = .ok (.aload_n 0, 1) := by decide +kernel
theorem dX1_size_1 : decode cX1_size 1 = .ok (.getfield 18, 3) := by decide +kernel
theorem dX1_size_4 : decode cX1_size 4 = .ok (.ireturn, 1) := by decide +kernel
set_option maxRecDepth 20000 in
theorem ggX1_remember_X1_slotAt : GoodIn wsX1_remember wsX1_slotAt := goodIn_r _ [11, 12, 32, 33, 34] (by decide +kernel) (by decide +kernel)
set_option maxRecDepth 20000 in
theorem gX1_remember_X1_slotAt : GoodIn wsX1_remember (wsV RX1 25 RX1 yX1_slotAt wsX1_slotAt) := goodIn_app (goodIn_of _ (by decide +kernel)) ggX1_remember_X1_slotAt
set_option maxRecDepth 20000 in
theorem ggX1_remember_X3_copyFrom : GoodIn wsX1_remember wsX3_copyFrom := goodIn_r _ [17, 18, 19, 20, 21, 22, 23, 24, 25, 26, 27, 4, 5, 6, 28, 29, 30, 31, 35, 36, 37, 38, 39, 40] (by decide +kernel) (by decide +kernel)
set_option maxRecDepth 20000 in
theorem gX1_remember_X3_copyFrom : GoodIn wsX1_remember (wsV RX1 29 RX3 yX3_copyFrom wsX3_copyFrom) := goodIn_app (goodIn_of _ (by decide +kernel)) ggX1_remember_X3_copyFrom
theorem dX1_remember_0 : decode cX1_remember 0 = .ok (.aload_n 0, 1) := by decide +kernel
theorem dX1_remember_1 : decode cX1_remember 1 = .ok (.aload_n 0, 1) := by decide +kernel
theorem dX1_remember_2 : decode cX1_remember 2 = .ok (.getfield 22, 3) := by decide +kernel
theorem dX1_remember_5 : decode cX1_remember 5 = .ok (.invokevirtual 25, 3) := by decide +kernel
theorem dX1_remember_8 : decode cX1_remember 8 = .ok (.astore_n 2, 1) := by decide +kernel
theorem dX1_remember_9 : decode cX1_remember 9 = .ok (.aload_n 2, 1) := by decide +kernel
theorem dX1_remember_10 : decode cX1_remember 10 = .ok (.ifnull 34, 3) := by decide +kernel
theorem dX1_remember_13 : decode cX1_remember 13 = .ok (.aload_n 2, 1) := by decide +kernel
theorem dX1_remember_14 : decode cX1_remember 14 = .ok (.aload_n 1, 1) := by decide +kernel
theorem dX1_remember_15 : decode cX1_remember 15 = .ok (.invokevirtual 29, 3) := by decide +kernel
theorem dX1_remember_18 : decode cX1_remember 18 = .ok (.aload_n 0, 1) := by decide +kernel
theorem dX1_remember_19 : decode cX1_remember 19 = .ok (.aload_n 0, 1) := by decide +kernel
theorem dX1_remember_20 : decode cX1_remember 20 = .ok (.getfield 22, 3) := by decide +kernel
theorem dX1_remember_23 : decode cX1_remember 23 = .ok (.iconst 1, 1) := by decide +kernel
theorem dX1_remember_24 : decode cX1_remember 24 = .ok (.iadd, 1) := by decide +kernel
theorem dX1_remember_25 : decode cX1_remember 25 = .ok (.iconst 4, 1) := by decide +kernel
theorem dX1_remember_26 : decode cX1_remember 26 = .ok (.irem, 1) := by decide +kernel
theorem dX1_remember_27 : decode cX1_remember 27 = .ok (.putfield 22, 3) := by decide +kernel
theorem dX1_remember_30 : decode cX1_remember 30 = .ok (.aload_n 0, 1) := by decide +kernel
theorem dX1_remember_31 : decode cX1_remember 31 = .ok (.aload_n 0, 1) := by decide +kernel
theorem dX1_remember_32 : decode cX1_remember 32 = .ok (.getfield 18, 3) := by decide +kernel
theorem dX1_remember_35 : decode cX1_remember 35 = .ok (.iconst 1, 1) := by decide +kernel
theorem dX1_remember_36 : decode cX1_remember 36 = .ok (.iadd, 1) := by decide +kernel
theorem dX1_remember_37 : decode cX1_remember 37 = .ok (.iconst 4, 1) := by decide +kernel
theorem dX1_remember_38 : decode cX1_remember 38 = .ok (.invokestatic 33, 3) := by decide +kernel
theorem dX1_remember_41 : decode cX1_remember 41 = .ok (.putfield 18, 3) := by decide +kernel
theorem dX1_remember_44 : decode cX1_remember 44 = .ok (.return_, 1) := by decide +kernel
set_option maxRecDepth 20000 in
theorem ggX1_takeBack_X1_slotAt : GoodIn wsX1_takeBack wsX1_slotAt := goodIn_r _ [7, 8, 31, 32, 33] (by decide +kernel) (by decide +kernel)
set_option maxRecDepth 20000 in
theorem gX1_takeBack_X1_slotAt : GoodIn wsX1_takeBack (wsV RX1 25 RX1 yX1_slotAt wsX1_slotAt) := goodIn_app (goodIn_of _ (by decide +kernel)) ggX1_takeBack_X1_slotAt
set_option maxRecDepth 20000 in
theorem ggX1_takeBack_X3_copyFrom : GoodIn wsX1_takeBack wsX3_copyFrom := goodIn_r _ [13, 14, 15, 16, 17, 18, 19, 20, 21, 22, 23, 24, 25, 26, 27, 28, 29, 30, 34, 35, 36, 37, 38, 39] (by decide +kernel) (by decide +kernel)
set_option maxRecDepth 20000 in
theorem gX1_takeBack_X3_copyFrom : GoodIn wsX1_takeBack (wsV RX1 29 RX3 yX3_copyFrom wsX3_copyFrom) := goodIn_app (goodIn_of _ (by decide +kernel)) ggX1_takeBack_X3_copyFrom
theorem dX1_takeBack_0 : decode cX1_takeBack 0 = .ok (.aload_n 0, 1) := by decide +kernel
theorem dX1_takeBack_1 : decode cX1_takeBack 1 = .ok (.getfield 22, 3) := by decide +kernel
theorem dX1_takeBack_4 : decode cX1_takeBack 4 = .ok (.iconst 4, 1) := by decide +kernel
theorem dX1_takeBack_5 : decode cX1_takeBack 5 = .ok (.iadd, 1) := by decide +kernel
theorem dX1_takeBack_6 : decode cX1_takeBack 6 = .ok (.iconst 1, 1) := by decide +kernel
theorem dX1_takeBack_7 : decode cX1_takeBack 7 = .ok (.isub, 1) := by decide +kernel
theorem dX1_takeBack_8 : decode cX1_takeBack 8 = .ok (.iconst 4, 1) := by decide +kernel
theorem dX1_takeBack_9 : decode cX1_takeBack 9 = .ok (.irem, 1) := by decide +kernel
theorem dX1_takeBack_10 : decode cX1_takeBack 10 = .ok (.istore_n 2, 1) := by decide +kernel
theorem dX1_takeBack_11 : decode cX1_takeBack 11 = .ok (.aload_n 0, 1) := by decide +kernel
theorem dX1_takeBack_12 : decode cX1_takeBack 12 = .ok (.iload_n 2, 1) := by decide +kernel
theorem dX1_takeBack_13 : decode cX1_takeBack 13 = .ok (.invokevirtual 25, 3) := by decide +kernel
theorem dX1_takeBack_16 : decode cX1_takeBack 16 = .ok (.astore_n 3, 1) := by decide +kernel
theorem dX1_takeBack_17 : decode cX1_takeBack 17 = .ok (.aload_n 0, 1) := by decide +kernel
theorem dX1_takeBack_18 : decode cX1_takeBack 18 = .ok (.getfield 18, 3) := by decide +kernel
theorem dX1_takeBack_21 : decode cX1_takeBack 21 = .ok (.iconst 1, 1) := by decide +kernel
theorem dX1_takeBack_22 : decode cX1_takeBack 22 = .ok (.if_icmp .lt 7, 3) := by decide +kernel
theorem dX1_takeBack_25 : decode cX1_takeBack 25 = .ok (.aload_n 3, 1) := by decide +kernel
theorem dX1_takeBack_26 : decode cX1_takeBack 26 = .ok (.ifnonnull 5, 3) := by decide +kernel
theorem dX1_takeBack_29 : decode cX1_takeBack 29 = .ok (.iconst 0, 1) := by decide +kernel
theorem dX1_takeBack_30 : decode cX1_takeBack 30 = .ok (.ireturn, 1) := by decide +kernel
theorem dX1_takeBack_31 : decode cX1_takeBack 31 = .ok (.aload_n 1, 1) := by decide +kernel
theorem dX1_takeBack_32 : decode cX1_takeBack 32 = .ok (.aload_n 3, 1) := by decide +kernel
theorem dX1_takeBack_33 : decode cX1_takeBack 33 = .ok (.invokevirtual 29, 3) := by decide +kernel
theorem dX1_takeBack_36 : decode cX1_takeBack 36 = .ok (.aload_n 0, 1) := by decide +kernel
theorem dX1_takeBack_37 : decode cX1_takeBack 37 = .ok (.iload_n 2, 1) := by decide +kernel
theorem dX1_takeBack_38 : decode cX1_takeBack 38 = .ok (.putfield 22, 3) := by decide +kernel
theorem dX1_takeBack_41 : decode cX1_takeBack 41 = .ok (.aload_n 0, 1) := by decide +kernel
theorem dX1_takeBack_42 : decode cX1_takeBack 42 = .ok (.dup, 1) := by decide +kernel
theorem dX1_takeBack_43 : decode cX1_takeBack 43 = .ok (.getfield 18, 3) := by decide +kernel
theorem dX1_takeBack_46 : decode cX1_takeBack 46 = .ok (.iconst 1, 1) := by decide +kernel
theorem dX1_takeBack_47 : decode cX1_takeBack 47 = .ok (.isub, 1) := by decide +kernel
theorem dX1_takeBack_48 : decode cX1_takeBack 48 = .ok (.putfield 18, 3) := by decide +kernel
theorem dX1_takeBack_51 : decode cX1_takeBack 51 = .ok (.iconst 1, 1) := by decide +kernel
theorem dX1_takeBack_52 : decode cX1_takeBack 52 = .ok (.ireturn, 1) := by decide +kernel
theorem dX1_slotAt_0 : decode cX1_slotAt 0 = .ok (.iload_n 1, 1) := by decide +kernel
theorem dX1_slotAt_1 : decode cX1_slotAt 1 = .ok (.ifCond .lt 21, 3) := by decide +kernel
theorem dX1_slotAt_4 : decode cX1_slotAt 4 = .ok (.iload_n 1, 1) := by decide +kernel
theorem dX1_slotAt_5 : decode cX1_slotAt 5 = .ok (.aload_n 0, 1) := by decide +kernel
theorem dX1_slotAt_6 : decode cX1_slotAt 6 = .ok (.getfield 11, 3) := by decide +kernel
theorem dX1_slotAt_9 : decode cX1_slotAt 9 = .ok (.arraylength, 1) := by decide +kernel
theorem dX1_slotAt_10 : decode cX1_slotAt 10 = .ok (.if_icmp .ge 12, 3) := by decide +kernel
theorem dX1_slotAt_13 : decode cX1_slotAt 13 = .ok (.aload_n 0, 1) := by decide +kernel
theorem dX1_slotAt_14 : decode cX1_slotAt 14 = .ok (.getfield 11, 3) := by decide +kernel
theorem dX1_slotAt_17 : decode cX1_slotAt 17 = .ok (.iload_n 1, 1) := by decide +kernel
theorem dX1_slotAt_18 : decode cX1_slotAt 18 = .ok (.aaload, 1) := by decide +kernel
theorem dX1_slotAt_19 : decode cX1_slotAt 19 = .ok (.goto 4, 3) := by decide +kernel
theorem dX1_slotAt_22 : decode cX1_slotAt 22 = .ok (.aconst_null, 1) := by decide +kernel
theorem dX1_slotAt_23 : decode cX1_slotAt 23 = .ok (.areturn, 1) := by decide +kernel
set_option maxRecDepth 20000 in
theorem ggX2_init_X3_init : GoodIn wsX2_init wsX3_init := goodIn_r _ [10, 11, 2, 3, 12, 13, 14, 15, 16, 17, 18, 19, 20, 21, 22] (by decide +kernel) (by decide +kernel)
set_option maxRecDepth 20000 in
theorem gX2_init_X3_init_n11 : GoodIn wsX2_init (wsX3_init) := ggX2_init_X3_init
theorem dX2_init_0 : decode cX2_init 0 = .ok (.aload_n 0, 1) := by decide +kernel
theorem dX2_init_1 : decode cX2_init 1 = .ok (.invokespecial 3, 3) := by decide +kernel
theorem dX2_init_4 : decode cX2_init 4 = .ok (.aload_n 0, 1) := by decide +kernel
theorem dX2_init_5 : decode cX2_init 5 = .ok (.new 9, 3) := by decide +kernel
theorem dX2_init_8 : decode cX2_init 8 = .ok (.dup, 1) := by decide +kernel
theorem dX2_init_9 : decode cX2_init 9 = .ok (.invokespecial 11, 3) := by decide +kernel
theorem dX2_init_12 : decode cX2_init 12 = .ok (.putfield 12, 3) := by decide +kernel
theorem dX2_init_15 : decode cX2_init 15 = .ok (.aload_n 0, 1) := by decide +kernel
theorem dX2_init_16 : decode cX2_init 16 = .ok (.aload_n 1, 1) := by decide +kernel
theorem dX2_init_17 : decode cX2_init 17 = .ok (.putfield 18, 3) := by decide +kernel
theorem dX2_init_20 : decode cX2_init 20 = .ok (.return_, 1) := by decide +kernel
theorem dX2_position_0 : decode cX2_position 0 = .ok (.aload_n 0, 1) := by decide +kernel
theorem dX2_position_1 : decode cX2_position 1 = .ok (.getfield 22, 3) := by decide +kernel
theorem dX2_position_4 : decode cX2_position 4 = .ok (.ireturn, 1) := by decide +kernel
theorem dX2_rowsRead_0 : decode cX2_rowsRead 0 = .ok (.aload_n 0, 1) := by decide +kernel
theorem dX2_rowsRead_1 : decode cX2_rowsRead 1 = .ok (.getfield 12, 3) := by decide +kernel
theorem dX2_rowsRead_4 : decode cX2_rowsRead 4 = .ok (.areturn, 1) := by decide +kernel
set_option maxRecDepth 20000 in
theorem ggX2_readAll_X3_empty : GoodIn wsX2_readAll wsX3_empty := goodIn_r _ [8, 9, 56, 57, 58, 59, 60, 61] (by decide +kernel) (by decide +kernel)
set_option maxRecDepth 20000 in
theorem gX2_readAll_X3_empty : GoodIn wsX2_readAll (wsV RX2 26 RX3 yX3_empty wsX3_empty) := goodIn_app (goodIn_of _ (by decide +kernel)) ggX2_readAll_X3_empty
set_option maxRecDepth 20000 in
theorem ggX2_readAll_X2_readOne : GoodIn wsX2_readAll wsX2_readOne := goodIn_r _ [14, 2, 15, 16, 17, 13, 18, 3, 1, 19, 20, 21, 22, 23, 24, 25, 26, 27, 28, 29, 30, 31, 32, 33, 34, 35, 36, 7, 37, 38, 9, 39, 40, 41, 42, 43, 44, 45, 46, 47, 48, 53, 54, 55, 62, 63, 56, 57, 58, 59, 60, 61] (by decide +kernel) (by decide +kernel)
set_option maxRecDepth 20000 in
theorem gX2_readAll_X2_readOne : GoodIn wsX2_readAll (wsV RX2 29 RX2 yX2_readOne wsX2_readOne) := goodIn_app (goodIn_of _ (by decide +kernel)) ggX2_readAll_X2_readOne
set_option maxRecDepth 20000 in
theorem ggX2_readAll_X2_take : GoodIn wsX2_readAll wsX2_take := goodIn_r _ [29, 15, 16, 17, 13, 18, 3, 1, 19, 20, 21, 22, 23, 24, 25, 53, 54, 55, 62, 63] (by decide +kernel) (by decide +kernel)
set_option maxRecDepth 20000 in
theorem gX2_readAll_X2_take : GoodIn wsX2_readAll (wsV RX2 33 RX2 yX2_take wsX2_take) := goodIn_app (goodIn_of _ (by decide +kernel)) ggX2_readAll_X2_take
set_option maxRecDepth 20000 in
theorem ggX2_readAll_X4_length : GoodIn wsX2_readAll wsX4_length := goodIn_r _ [52, 24, 62, 63] (by decide +kernel) (by decide +kernel)
set_option maxRecDepth 20000 in
theorem gX2_readAll_X4_length : GoodIn wsX2_readAll (wsV RX2 37 RX4 yX4_length wsX4_length) := goodIn_app (goodIn_of _ (by decide +kernel)) ggX2_readAll_X4_length
theorem dX2_readAll_0 : decode cX2_readAll 0 = .ok (.aload_n 0, 1) := by decide +kernel
theorem dX2_readAll_1 : decode cX2_readAll 1 = .ok (.iconst 0, 1) := by decide +kernel
theorem dX2_readAll_2 : decode cX2_readAll 2 = .ok (.putfield 22, 3) := by decide +kernel
theorem dX2_readAll_5 : decode cX2_readAll 5 = .ok (.aload_n 0, 1) := by decide +kernel
theorem dX2_readAll_6 : decode cX2_readAll 6 = .ok (.getfield 12, 3) := by decide +kernel
theorem dX2_readAll_9 : decode cX2_readAll 9 = .ok (.invokevirtual 26, 3) := by decide +kernel
theorem dX2_readAll_12 : decode cX2_readAll 12 = .ok (.iconst 0, 1) := by decide +kernel
theorem dX2_readAll_13 : decode cX2_readAll 13 = .ok (.istore_n 1, 1) := by decide +kernel
theorem dX2_readAll_14 : decode cX2_readAll 14 = .ok (.iload_n 1, 1) := by decide +kernel
theorem dX2_readAll_15 : decode cX2_readAll 15 = .ok (.bipush 20, 2) := by decide +kernel
theorem dX2_readAll_17 : decode cX2_readAll 17 = .ok (.if_icmp .ge 47, 3) := by decide +kernel
theorem dX2_readAll_20 : decode cX2_readAll 20 = .ok (.aload_n 0, 1) := by decide +kernel
theorem dX2_readAll_21 : decode cX2_readAll 21 = .ok (.invokevirtual 29, 3) := by decide +kernel
theorem dX2_readAll_24 : decode cX2_readAll 24 = .ok (.ifCond .ne 5, 3) := by decide +kernel
theorem dX2_readAll_27 : decode cX2_readAll 27 = .ok (.iconst 0, 1) := by decide +kernel
theorem dX2_readAll_28 : decode cX2_readAll 28 = .ok (.ireturn, 1) := by decide +kernel
theorem dX2_readAll_29 : decode cX2_readAll 29 = .ok (.aload_n 0, 1) := by decide +kernel
theorem dX2_readAll_30 : decode cX2_readAll 30 = .ok (.bipush 44, 2) := by decide +kernel
theorem dX2_readAll_32 : decode cX2_readAll 32 = .ok (.invokevirtual 33, 3) := by decide +kernel
theorem dX2_readAll_35 : decode cX2_readAll 35 = .ok (.ifCond .ne 23, 3) := by decide +kernel
theorem dX2_readAll_38 : decode cX2_readAll 38 = .ok (.aload_n 0, 1) := by decide +kernel
theorem dX2_readAll_39 : decode cX2_readAll 39 = .ok (.getfield 22, 3) := by decide +kernel
theorem dX2_readAll_42 : decode cX2_readAll 42 = .ok (.aload_n 0, 1) := by decide +kernel
theorem dX2_readAll_43 : decode cX2_readAll 43 = .ok (.getfield 18, 3) := by decide +kernel
theorem dX2_readAll_46 : decode cX2_readAll 46 = .ok (.invokevirtual 37, 3) := by decide +kernel
theorem dX2_readAll_49 : decode cX2_readAll 49 = .ok (.if_icmp .ne 7, 3) := by decide +kernel
theorem dX2_readAll_52 : decode cX2_readAll 52 = .ok (.iconst 1, 1) := by decide +kernel
theorem dX2_readAll_53 : decode cX2_readAll 53 = .ok (.goto 4, 3) := by decide +kernel
theorem dX2_readAll_56 : decode cX2_readAll 56 = .ok (.iconst 0, 1) := by decide +kernel
theorem dX2_readAll_57 : decode cX2_readAll 57 = .ok (.ireturn, 1) := by decide +kernel
theorem dX2_readAll_58 : decode cX2_readAll 58 = .ok (.iinc 1 1, 3) := by decide +kernel
theorem dX2_readAll_61 : decode cX2_readAll 61 = .ok (.goto (-47), 3) := by decide +kernel
theorem dX2_readAll_64 : decode cX2_readAll 64 = .ok (.iconst 0, 1) := by decide +kernel
theorem dX2_readAll_65 : decode cX2_readAll 65 = .ok (.ireturn, 1) := by decide +kernel
set_option maxRecDepth 20000 in
theorem ggX2_readOne_X2_takeBetween : GoodIn wsX2_readOne wsX2_takeBetween := goodIn_r _ [6, 7, 8, 9, 10, 11, 12, 13, 14, 15, 41, 42, 43, 44, 45] (by decide +kernel) (by decide +kernel)
set_option maxRecDepth 20000 in
theorem gX2_readOne_X2_takeBetween : GoodIn wsX2_readOne (wsV RX2 43 RX2 yX2_takeBetween wsX2_takeBetween) := goodIn_app (goodIn_of _ (by decide +kernel)) ggX2_readOne_X2_takeBetween
set_option maxRecDepth 20000 in
theorem ggX2_readOne_X2_take : GoodIn wsX2_readOne wsX2_take := goodIn_r _ [19, 2, 3, 4, 5, 6, 7, 8, 9, 10, 11, 12, 13, 14, 15, 41, 42, 43, 44, 45] (by decide +kernel) (by decide +kernel)
set_option maxRecDepth 20000 in
theorem gX2_readOne_X2_take : GoodIn wsX2_readOne (wsV RX2 33 RX2 yX2_take wsX2_take) := goodIn_app (goodIn_of _ (by decide +kernel)) ggX2_readOne_X2_take
set_option maxRecDepth 20000 in
theorem ggX2_readOne_X2_takeWeight : GoodIn wsX2_readOne wsX2_takeWeight := goodIn_r _ [23, 2, 3, 4, 5, 6, 7, 8, 9, 10, 11, 12, 13, 14, 15, 41, 42, 43, 44, 45] (by decide +kernel) (by decide +kernel)
set_option maxRecDepth 20000 in
theorem gX2_readOne_X2_takeWeight : GoodIn wsX2_readOne (wsV RX2 47 RX2 yX2_takeWeight wsX2_takeWeight) := goodIn_app (goodIn_of _ (by decide +kernel)) ggX2_readOne_X2_takeWeight
set_option maxRecDepth 20000 in
theorem ggX2_readOne_X3_append : GoodIn wsX2_readOne wsX3_append := goodIn_r _ [28, 29, 30, 31, 32, 33, 34, 35, 36, 27, 37, 38, 39, 40, 46, 47, 48, 49, 50, 51] (by decide +kernel) (by decide +kernel)
set_option maxRecDepth 20000 in
theorem gX2_readOne_X3_append : GoodIn wsX2_readOne (wsV RX2 50 RX3 yX3_append wsX3_append) := goodIn_app (goodIn_of _ (by decide +kernel)) ggX2_readOne_X3_append
theorem dX2_readOne_0 : decode cX2_readOne 0 = .ok (.aload_n 0, 1) := by decide +kernel
theorem dX2_readOne_1 : decode cX2_readOne 1 = .ok (.bipush 48, 2) := by decide +kernel
theorem dX2_readOne_3 : decode cX2_readOne 3 = .ok (.bipush 57, 2) := by decide +kernel
theorem dX2_readOne_5 : decode cX2_readOne 5 = .ok (.invokevirtual 43, 3) := by decide +kernel
theorem dX2_readOne_8 : decode cX2_readOne 8 = .ok (.istore_n 1, 1) := by decide +kernel
theorem dX2_readOne_9 : decode cX2_readOne 9 = .ok (.iload_n 1, 1) := by decide +kernel
theorem dX2_readOne_10 : decode cX2_readOne 10 = .ok (.bipush (-5), 2) := by decide +kernel
theorem dX2_readOne_12 : decode cX2_readOne 12 = .ok (.if_icmp .eq 12, 3) := by decide +kernel
theorem dX2_readOne_15 : decode cX2_readOne 15 = .ok (.aload_n 0, 1) := by decide +kernel
theorem dX2_readOne_16 : decode cX2_readOne 16 = .ok (.bipush 61, 2) := by decide +kernel
theorem dX2_readOne_18 : decode cX2_readOne 18 = .ok (.invokevirtual 33, 3) := by decide +kernel
theorem dX2_readOne_21 : decode cX2_readOne 21 = .ok (.ifCond .ne 5, 3) := by decide +kernel
theorem dX2_readOne_24 : decode cX2_readOne 24 = .ok (.iconst 0, 1) := by decide +kernel
theorem dX2_readOne_25 : decode cX2_readOne 25 = .ok (.ireturn, 1) := by decide +kernel
theorem dX2_readOne_26 : decode cX2_readOne 26 = .ok (.aload_n 0, 1) := by decide +kernel
theorem dX2_readOne_27 : decode cX2_readOne 27 = .ok (.bipush 97, 2) := by decide +kernel
theorem dX2_readOne_29 : decode cX2_readOne 29 = .ok (.bipush 104, 2) := by decide +kernel
theorem dX2_readOne_31 : decode cX2_readOne 31 = .ok (.invokevirtual 43, 3) := by decide +kernel
theorem dX2_readOne_34 : decode cX2_readOne 34 = .ok (.istore_n 2, 1) := by decide +kernel
theorem dX2_readOne_35 : decode cX2_readOne 35 = .ok (.iload_n 2, 1) := by decide +kernel
theorem dX2_readOne_36 : decode cX2_readOne 36 = .ok (.bipush (-5), 2) := by decide +kernel
theorem dX2_readOne_38 : decode cX2_readOne 38 = .ok (.if_icmp .ne 5, 3) := by decide +kernel
theorem dX2_readOne_41 : decode cX2_readOne 41 = .ok (.iconst 0, 1) := by decide +kernel
theorem dX2_readOne_42 : decode cX2_readOne 42 = .ok (.ireturn, 1) := by decide +kernel
theorem dX2_readOne_43 : decode cX2_readOne 43 = .ok (.aload_n 0, 1) := by decide +kernel
theorem dX2_readOne_44 : decode cX2_readOne 44 = .ok (.invokevirtual 47, 3) := by decide +kernel
theorem dX2_readOne_47 : decode cX2_readOne 47 = .ok (.istore_n 3, 1) := by decide +kernel
theorem dX2_readOne_48 : decode cX2_readOne 48 = .ok (.bipush (-5), 2) := by decide +kernel
theorem dX2_readOne_50 : decode cX2_readOne 50 = .ok (.istore 4, 2) := by decide +kernel
theorem dX2_readOne_52 : decode cX2_readOne 52 = .ok (.aload_n 0, 1) := by decide +kernel
theorem dX2_readOne_53 : decode cX2_readOne 53 = .ok (.bipush 62, 2) := by decide +kernel
theorem dX2_readOne_55 : decode cX2_readOne 55 = .ok (.invokevirtual 33, 3) := by decide +kernel
theorem dX2_readOne_58 : decode cX2_readOne 58 = .ok (.ifCond .eq 29, 3) := by decide +kernel
theorem dX2_readOne_61 : decode cX2_readOne 61 = .ok (.aload_n 0, 1) := by decide +kernel
theorem dX2_readOne_62 : decode cX2_readOne 62 = .ok (.bipush 48, 2) := by decide +kernel
theorem dX2_readOne_64 : decode cX2_readOne 64 = .ok (.bipush 57, 2) := by decide +kernel
theorem dX2_readOne_66 : decode cX2_readOne 66 = .ok (.invokevirtual 43, 3) := by decide +kernel
theorem dX2_readOne_69 : decode cX2_readOne 69 = .ok (.istore 5, 2) := by decide +kernel
theorem dX2_readOne_71 : decode cX2_readOne 71 = .ok (.iload 5, 2) := by decide +kernel
theorem dX2_readOne_73 : decode cX2_readOne 73 = .ok (.bipush (-5), 2) := by decide +kernel
theorem dX2_readOne_75 : decode cX2_readOne 75 = .ok (.if_icmp .ne 5, 3) := by decide +kernel
theorem dX2_readOne_78 : decode cX2_readOne 78 = .ok (.iconst 0, 1) := by decide +kernel
theorem dX2_readOne_79 : decode cX2_readOne 79 = .ok (.ireturn, 1) := by decide +kernel
theorem dX2_readOne_80 : decode cX2_readOne 80 = .ok (.iload 5, 2) := by decide +kernel
theorem dX2_readOne_82 : decode cX2_readOne 82 = .ok (.bipush 48, 2) := by decide +kernel
theorem dX2_readOne_84 : decode cX2_readOne 84 = .ok (.isub, 1) := by decide +kernel
theorem dX2_readOne_85 : decode cX2_readOne 85 = .ok (.istore 4, 2) := by decide +kernel
theorem dX2_readOne_87 : decode cX2_readOne 87 = .ok (.aload_n 0, 1) := by decide +kernel
theorem dX2_readOne_88 : decode cX2_readOne 88 = .ok (.getfield 12, 3) := by decide +kernel
theorem dX2_readOne_91 : decode cX2_readOne 91 = .ok (.iload_n 1, 1) := by decide +kernel
theorem dX2_readOne_92 : decode cX2_readOne 92 = .ok (.bipush 48, 2) := by decide +kernel
theorem dX2_readOne_94 : decode cX2_readOne 94 = .ok (.isub, 1) := by decide +kernel
theorem dX2_readOne_95 : decode cX2_readOne 95 = .ok (.iload_n 2, 1) := by decide +kernel
theorem dX2_readOne_96 : decode cX2_readOne 96 = .ok (.iload_n 3, 1) := by decide +kernel
theorem dX2_readOne_97 : decode cX2_readOne 97 = .ok (.iload 4, 2) := by decide +kernel
theorem dX2_readOne_99 : decode cX2_readOne 99 = .ok (.invokevirtual 50, 3) := by decide +kernel
theorem dX2_readOne_102 : decode cX2_readOne 102 = .ok (.iconst 1, 1) := by decide +kernel
theorem dX2_readOne_103 : decode cX2_readOne 103 = .ok (.ireturn, 1) := by decide +kernel
set_option maxRecDepth 20000 in
theorem ggX2_takeWeight_X2_takeBetween : GoodIn wsX2_takeWeight wsX2_takeBetween := goodIn_r _ [5, 6, 7, 8, 9, 10, 11, 12, 13, 14, 15, 16, 17, 18, 19] (by decide +kernel) (by decide +kernel)
set_option maxRecDepth 20000 in
theorem gX2_takeWeight_X2_takeBetween : GoodIn wsX2_takeWeight (wsV RX2 43 RX2 yX2_takeBetween wsX2_takeBetween) := goodIn_app (goodIn_of _ (by decide +kernel)) ggX2_takeWeight_X2_takeBetween
theorem dX2_takeWeight_0 : decode cX2_takeWeight 0 = .ok (.aload_n 0, 1) := by decide +kernel
theorem dX2_takeWeight_1 : decode cX2_takeWeight 1 = .ok (.bipush 49, 2) := by decide +kernel
theorem dX2_takeWeight_3 : decode cX2_takeWeight 3 = .ok (.bipush 57, 2) := by decide +kernel
theorem dX2_takeWeight_5 : decode cX2_takeWeight 5 = .ok (.invokevirtual 43, 3) := by decide +kernel
theorem dX2_takeWeight_8 : decode cX2_takeWeight 8 = .ok (.istore_n 1, 1) := by decide +kernel
theorem dX2_takeWeight_9 : decode cX2_takeWeight 9 = .ok (.iload_n 1, 1) := by decide +kernel
theorem dX2_takeWeight_10 : decode cX2_takeWeight 10 = .ok (.bipush (-5), 2) := by decide +kernel
theorem dX2_takeWeight_12 : decode cX2_takeWeight 12 = .ok (.if_icmp .ne 5, 3) := by decide +kernel
theorem dX2_takeWeight_15 : decode cX2_takeWeight 15 = .ok (.iconst 0, 1) := by decide +kernel
theorem dX2_takeWeight_16 : decode cX2_takeWeight 16 = .ok (.ireturn, 1) := by decide +kernel
theorem dX2_takeWeight_17 : decode cX2_takeWeight 17 = .ok (.aload_n 0, 1) := by decide +kernel
theorem dX2_takeWeight_18 : decode cX2_takeWeight 18 = .ok (.bipush 48, 2) := by decide +kernel
theorem dX2_takeWeight_20 : decode cX2_takeWeight 20 = .ok (.bipush 57, 2) := by decide +kernel
theorem dX2_takeWeight_22 : decode cX2_takeWeight 22 = .ok (.invokevirtual 43, 3) := by decide +kernel
theorem dX2_takeWeight_25 : decode cX2_takeWeight 25 = .ok (.istore_n 2, 1) := by decide +kernel
theorem dX2_takeWeight_26 : decode cX2_takeWeight 26 = .ok (.iload_n 2, 1) := by decide +kernel
end
section
theorem dX2_takeWeight_27 : decode cX2_takeWeight 27 = .ok (.bipush (-5), 2) := by decide +kernel
theorem dX2_takeWeight_29 : decode cX2_takeWeight 29 = .ok (.if_icmp .ne 10, 3) := by decide +kernel
theorem dX2_takeWeight_32 : decode cX2_takeWeight 32 = .ok (.iload_n 1, 1) := by decide +kernel
theorem dX2_takeWeight_33 : decode cX2_takeWeight 33 = .ok (.bipush 48, 2) := by decide +kernel
theorem dX2_takeWeight_35 : decode cX2_takeWeight 35 = .ok (.isub, 1) := by decide +kernel
theorem dX2_takeWeight_36 : decode cX2_takeWeight 36 = .ok (.goto 15, 3) := by decide +kernel
theorem dX2_takeWeight_39 : decode cX2_takeWeight 39 = .ok (.iload_n 1, 1) := by decide +kernel
theorem dX2_takeWeight_40 : decode cX2_takeWeight 40 = .ok (.bipush 48, 2) := by decide +kernel
theorem dX2_takeWeight_42 : decode cX2_takeWeight 42 = .ok (.isub, 1) := by decide +kernel
theorem dX2_takeWeight_43 : decode cX2_takeWeight 43 = .ok (.bipush 10, 2) := by decide +kernel
theorem dX2_takeWeight_45 : decode cX2_takeWeight 45 = .ok (.imul, 1) := by decide +kernel
theorem dX2_takeWeight_46 : decode cX2_takeWeight 46 = .ok (.iload_n 2, 1) := by decide +kernel
theorem dX2_takeWeight_47 : decode cX2_takeWeight 47 = .ok (.bipush 48, 2) := by decide +kernel
theorem dX2_takeWeight_49 : decode cX2_takeWeight 49 = .ok (.isub, 1) := by decide +kernel
theorem dX2_takeWeight_50 : decode cX2_takeWeight 50 = .ok (.iadd, 1) := by decide +kernel
theorem dX2_takeWeight_51 : decode cX2_takeWeight 51 = .ok (.ireturn, 1) := by decide +kernel
set_option maxRecDepth 20000 in
theorem ggX2_take_X2_takeBetween : GoodIn wsX2_take wsX2_takeBetween := goodIn_r _ [5, 6, 7, 8, 9, 10, 11, 12, 13, 14, 15, 16, 17, 18, 19] (by decide +kernel) (by decide +kernel)
set_option maxRecDepth 20000 in
theorem gX2_take_X2_takeBetween : GoodIn wsX2_take (wsV RX2 43 RX2 yX2_takeBetween wsX2_takeBetween) := goodIn_app (goodIn_of _ (by decide +kernel)) ggX2_take_X2_takeBetween
theorem dX2_take_0 : decode cX2_take 0 = .ok (.aload_n 0, 1) := by decide +kernel
theorem dX2_take_1 : decode cX2_take 1 = .ok (.iload_n 1, 1) := by decide +kernel
theorem dX2_take_2 : decode cX2_take 2 = .ok (.iload_n 1, 1) := by decide +kernel
theorem dX2_take_3 : decode cX2_take 3 = .ok (.invokevirtual 43, 3) := by decide +kernel
theorem dX2_take_6 : decode cX2_take 6 = .ok (.bipush (-5), 2) := by decide +kernel
theorem dX2_take_8 : decode cX2_take 8 = .ok (.if_icmp .eq 7, 3) := by decide +kernel
theorem dX2_take_11 : decode cX2_take 11 = .ok (.iconst 1, 1) := by decide +kernel
theorem dX2_take_12 : decode cX2_take 12 = .ok (.goto 4, 3) := by decide +kernel
theorem dX2_take_15 : decode cX2_take 15 = .ok (.iconst 0, 1) := by decide +kernel
theorem dX2_take_16 : decode cX2_take 16 = .ok (.ireturn, 1) := by decide +kernel
set_option maxRecDepth 20000 in
theorem ggX2_takeBetween_X4_characterAt : GoodIn wsX2_takeBetween wsX4_characterAt := goodIn_r _ [7, 8, 9, 13, 14] (by decide +kernel) (by decide +kernel)
set_option maxRecDepth 20000 in
theorem gX2_takeBetween_X4_characterAt : GoodIn wsX2_takeBetween (wsV RX2 54 RX4 yX4_characterAt wsX4_characterAt) := goodIn_app (goodIn_of _ (by decide +kernel)) ggX2_takeBetween_X4_characterAt
theorem dX2_takeBetween_0 : decode cX2_takeBetween 0 = .ok (.aload_n 0, 1) := by decide +kernel
theorem dX2_takeBetween_1 : decode cX2_takeBetween 1 = .ok (.getfield 18, 3) := by decide +kernel
theorem dX2_takeBetween_4 : decode cX2_takeBetween 4 = .ok (.aload_n 0, 1) := by decide +kernel
theorem dX2_takeBetween_5 : decode cX2_takeBetween 5 = .ok (.getfield 22, 3) := by decide +kernel
theorem dX2_takeBetween_8 : decode cX2_takeBetween 8 = .ok (.invokevirtual 54, 3) := by decide +kernel
theorem dX2_takeBetween_11 : decode cX2_takeBetween 11 = .ok (.istore_n 3, 1) := by decide +kernel
theorem dX2_takeBetween_12 : decode cX2_takeBetween 12 = .ok (.iload_n 3, 1) := by decide +kernel
theorem dX2_takeBetween_13 : decode cX2_takeBetween 13 = .ok (.iload_n 1, 1) := by decide +kernel
theorem dX2_takeBetween_14 : decode cX2_takeBetween 14 = .ok (.if_icmp .lt 8, 3) := by decide +kernel
theorem dX2_takeBetween_17 : decode cX2_takeBetween 17 = .ok (.iload_n 3, 1) := by decide +kernel
theorem dX2_takeBetween_18 : decode cX2_takeBetween 18 = .ok (.iload_n 2, 1) := by decide +kernel
theorem dX2_takeBetween_19 : decode cX2_takeBetween 19 = .ok (.if_icmp .le 6, 3) := by decide +kernel
theorem dX2_takeBetween_22 : decode cX2_takeBetween 22 = .ok (.bipush (-5), 2) := by decide +kernel
theorem dX2_takeBetween_24 : decode cX2_takeBetween 24 = .ok (.ireturn, 1) := by decide +kernel
theorem dX2_takeBetween_25 : decode cX2_takeBetween 25 = .ok (.aload_n 0, 1) := by decide +kernel
theorem dX2_takeBetween_26 : decode cX2_takeBetween 26 = .ok (.dup, 1) := by decide +kernel
theorem dX2_takeBetween_27 : decode cX2_takeBetween 27 = .ok (.getfield 22, 3) := by decide +kernel
theorem dX2_takeBetween_30 : decode cX2_takeBetween 30 = .ok (.iconst 1, 1) := by decide +kernel
theorem dX2_takeBetween_31 : decode cX2_takeBetween 31 = .ok (.iadd, 1) := by decide +kernel
theorem dX2_takeBetween_32 : decode cX2_takeBetween 32 = .ok (.putfield 22, 3) := by decide +kernel
theorem dX2_takeBetween_35 : decode cX2_takeBetween 35 = .ok (.iload_n 3, 1) := by decide +kernel
theorem dX2_takeBetween_36 : decode cX2_takeBetween 36 = .ok (.ireturn, 1) := by decide +kernel
theorem dX3_init_0 : decode cX3_init 0 = .ok (.aload_n 0, 1) := by decide +kernel
theorem dX3_init_1 : decode cX3_init 1 = .ok (.invokespecial 3, 3) := by decide +kernel
theorem dX3_init_4 : decode cX3_init 4 = .ok (.aload_n 0, 1) := by decide +kernel
theorem dX3_init_5 : decode cX3_init 5 = .ok (.bipush 20, 2) := by decide +kernel
theorem dX3_init_7 : decode cX3_init 7 = .ok (.newarray .int, 2) := by decide +kernel
theorem dX3_init_9 : decode cX3_init 9 = .ok (.putfield 9, 3) := by decide +kernel
theorem dX3_init_12 : decode cX3_init 12 = .ok (.aload_n 0, 1) := by decide +kernel
theorem dX3_init_13 : decode cX3_init 13 = .ok (.bipush 20, 2) := by decide +kernel
theorem dX3_init_15 : decode cX3_init 15 = .ok (.newarray .int, 2) := by decide +kernel
theorem dX3_init_17 : decode cX3_init 17 = .ok (.putfield 15, 3) := by decide +kernel
theorem dX3_init_20 : decode cX3_init 20 = .ok (.aload_n 0, 1) := by decide +kernel
theorem dX3_init_21 : decode cX3_init 21 = .ok (.bipush 20, 2) := by decide +kernel
theorem dX3_init_23 : decode cX3_init 23 = .ok (.newarray .int, 2) := by decide +kernel
theorem dX3_init_25 : decode cX3_init 25 = .ok (.putfield 18, 3) := by decide +kernel
theorem dX3_init_28 : decode cX3_init 28 = .ok (.aload_n 0, 1) := by decide +kernel
theorem dX3_init_29 : decode cX3_init 29 = .ok (.bipush 20, 2) := by decide +kernel
theorem dX3_init_31 : decode cX3_init 31 = .ok (.newarray .int, 2) := by decide +kernel
theorem dX3_init_33 : decode cX3_init 33 = .ok (.putfield 21, 3) := by decide +kernel
theorem dX3_init_36 : decode cX3_init 36 = .ok (.return_, 1) := by decide +kernel
theorem dX3_size_0 : decode cX3_size 0 = .ok (.aload_n 0, 1) := by decide +kernel
theorem dX3_size_1 : decode cX3_size 1 = .ok (.getfield 24, 3) := by decide +kernel
theorem dX3_size_4 : decode cX3_size 4 = .ok (.ireturn, 1) := by decide +kernel
theorem dX3_room_0 : decode cX3_room 0 = .ok (.bipush 20, 2) := by decide +kernel
theorem dX3_room_2 : decode cX3_room 2 = .ok (.aload_n 0, 1) := by decide +kernel
theorem dX3_room_3 : decode cX3_room 3 = .ok (.getfield 24, 3) := by decide +kernel
theorem dX3_room_6 : decode cX3_room 6 = .ok (.isub, 1) := by decide +kernel
theorem dX3_room_7 : decode cX3_room 7 = .ok (.ireturn, 1) := by decide +kernel
theorem dX3_has_0 : decode cX3_has 0 = .ok (.iload_n 1, 1) := by decide +kernel
theorem dX3_has_1 : decode cX3_has 1 = .ok (.ifCond .lt 15, 3) := by decide +kernel
theorem dX3_has_4 : decode cX3_has 4 = .ok (.iload_n 1, 1) := by decide +kernel
theorem dX3_has_5 : decode cX3_has 5 = .ok (.aload_n 0, 1) := by decide +kernel
theorem dX3_has_6 : decode cX3_has 6 = .ok (.getfield 24, 3) := by decide +kernel
theorem dX3_has_9 : decode cX3_has 9 = .ok (.if_icmp .ge 7, 3) := by decide +kernel
theorem dX3_has_12 : decode cX3_has 12 = .ok (.iconst 1, 1) := by decide +kernel
theorem dX3_has_13 : decode cX3_has 13 = .ok (.goto 4, 3) := by decide +kernel
theorem dX3_has_16 : decode cX3_has 16 = .ok (.iconst 0, 1) := by decide +kernel
theorem dX3_has_17 : decode cX3_has 17 = .ok (.ireturn, 1) := by decide +kernel
set_option maxRecDepth 20000 in
theorem ggX3_keyAt_X5_at : GoodIn wsX3_keyAt wsX5_at := goodIn_r _ [4] (by decide +kernel) (by decide +kernel)
set_option maxRecDepth 20000 in
theorem gX3_keyAt_X5_at_n28 : GoodIn wsX3_keyAt (wsX5_at) := ggX3_keyAt_X5_at
theorem dX3_keyAt_0 : decode cX3_keyAt 0 = .ok (.aload_n 0, 1) := by decide +kernel
theorem dX3_keyAt_1 : decode cX3_keyAt 1 = .ok (.getfield 9, 3) := by decide +kernel
theorem dX3_keyAt_4 : decode cX3_keyAt 4 = .ok (.iload_n 1, 1) := by decide +kernel
theorem dX3_keyAt_5 : decode cX3_keyAt 5 = .ok (.invokestatic 28, 3) := by decide +kernel
theorem dX3_keyAt_8 : decode cX3_keyAt 8 = .ok (.ireturn, 1) := by decide +kernel
set_option maxRecDepth 20000 in
theorem ggX3_valueAt_X5_at : GoodIn wsX3_valueAt wsX5_at := goodIn_r _ [4] (by decide +kernel) (by decide +kernel)
set_option maxRecDepth 20000 in
theorem gX3_valueAt_X5_at_n28 : GoodIn wsX3_valueAt (wsX5_at) := ggX3_valueAt_X5_at
theorem dX3_valueAt_0 : decode cX3_valueAt 0 = .ok (.aload_n 0, 1) := by decide +kernel
theorem dX3_valueAt_1 : decode cX3_valueAt 1 = .ok (.getfield 15, 3) := by decide +kernel
theorem dX3_valueAt_4 : decode cX3_valueAt 4 = .ok (.iload_n 1, 1) := by decide +kernel
theorem dX3_valueAt_5 : decode cX3_valueAt 5 = .ok (.invokestatic 28, 3) := by decide +kernel
theorem dX3_valueAt_8 : decode cX3_valueAt 8 = .ok (.ireturn, 1) := by decide +kernel
set_option maxRecDepth 20000 in
theorem ggX3_weightAt_X5_at : GoodIn wsX3_weightAt wsX5_at := goodIn_r _ [4] (by decide +kernel) (by decide +kernel)
set_option maxRecDepth 20000 in
theorem gX3_weightAt_X5_at_n28 : GoodIn wsX3_weightAt (wsX5_at) := ggX3_weightAt_X5_at
theorem dX3_weightAt_0 : decode cX3_weightAt 0 = .ok (.aload_n 0, 1) := by decide +kernel
theorem dX3_weightAt_1 : decode cX3_weightAt 1 = .ok (.getfield 18, 3) := by decide +kernel
theorem dX3_weightAt_4 : decode cX3_weightAt 4 = .ok (.iload_n 1, 1) := by decide +kernel
theorem dX3_weightAt_5 : decode cX3_weightAt 5 = .ok (.invokestatic 28, 3) := by decide +kernel
theorem dX3_weightAt_8 : decode cX3_weightAt 8 = .ok (.ireturn, 1) := by decide +kernel
set_option maxRecDepth 20000 in
theorem ggX3_targetAt_X5_at : GoodIn wsX3_targetAt wsX5_at := goodIn_r _ [4] (by decide +kernel) (by decide +kernel)
set_option maxRecDepth 20000 in
theorem gX3_targetAt_X5_at_n28 : GoodIn wsX3_targetAt (wsX5_at) := ggX3_targetAt_X5_at
theorem dX3_targetAt_0 : decode cX3_targetAt 0 = .ok (.aload_n 0, 1) := by decide +kernel
theorem dX3_targetAt_1 : decode cX3_targetAt 1 = .ok (.getfield 21, 3) := by decide +kernel
theorem dX3_targetAt_4 : decode cX3_targetAt 4 = .ok (.iload_n 1, 1) := by decide +kernel
theorem dX3_targetAt_5 : decode cX3_targetAt 5 = .ok (.invokestatic 28, 3) := by decide +kernel
theorem dX3_targetAt_8 : decode cX3_targetAt 8 = .ok (.ireturn, 1) := by decide +kernel
theorem dX3_prefersHeaviest_0 : decode cX3_prefersHeaviest 0 = .ok (.aload_n 0, 1) := by decide +kernel
theorem dX3_prefersHeaviest_1 : decode cX3_prefersHeaviest 1 = .ok (.getfield 32, 3) := by decide +kernel
theorem dX3_prefersHeaviest_4 : decode cX3_prefersHeaviest 4 = .ok (.ireturn, 1) := by decide +kernel
theorem dX3_setPreference_0 : decode cX3_setPreference 0 = .ok (.aload_n 0, 1) := by decide +kernel
theorem dX3_setPreference_1 : decode cX3_setPreference 1 = .ok (.iload_n 1, 1) := by decide +kernel
theorem dX3_setPreference_2 : decode cX3_setPreference 2 = .ok (.putfield 32, 3) := by decide +kernel
theorem dX3_setPreference_5 : decode cX3_setPreference 5 = .ok (.return_, 1) := by decide +kernel
set_option maxRecDepth 20000 in
theorem ggX3_copyFrom_X5_copy : GoodIn wsX3_copyFrom wsX5_copy := goodIn_r _ [9, 10, 11, 12, 13, 14, 15, 16, 17] (by decide +kernel) (by decide +kernel)
set_option maxRecDepth 20000 in
theorem gX3_copyFrom_X5_copy_n36 : GoodIn wsX3_copyFrom (wsX5_copy) := ggX3_copyFrom_X5_copy
theorem dX3_copyFrom_0 : decode cX3_copyFrom 0 = .ok (.aload_n 1, 1) := by decide +kernel
theorem dX3_copyFrom_1 : decode cX3_copyFrom 1 = .ok (.getfield 9, 3) := by decide +kernel
theorem dX3_copyFrom_4 : decode cX3_copyFrom 4 = .ok (.aload_n 0, 1) := by decide +kernel
theorem dX3_copyFrom_5 : decode cX3_copyFrom 5 = .ok (.getfield 9, 3) := by decide +kernel
theorem dX3_copyFrom_8 : decode cX3_copyFrom 8 = .ok (.invokestatic 36, 3) := by decide +kernel
theorem dX3_copyFrom_11 : decode cX3_copyFrom 11 = .ok (.aload_n 1, 1) := by decide +kernel
theorem dX3_copyFrom_12 : decode cX3_copyFrom 12 = .ok (.getfield 15, 3) := by decide +kernel
theorem dX3_copyFrom_15 : decode cX3_copyFrom 15 = .ok (.aload_n 0, 1) := by decide +kernel
theorem dX3_copyFrom_16 : decode cX3_copyFrom 16 = .ok (.getfield 15, 3) := by decide +kernel
theorem dX3_copyFrom_19 : decode cX3_copyFrom 19 = .ok (.invokestatic 36, 3) := by decide +kernel
theorem dX3_copyFrom_22 : decode cX3_copyFrom 22 = .ok (.aload_n 1, 1) := by decide +kernel
theorem dX3_copyFrom_23 : decode cX3_copyFrom 23 = .ok (.getfield 18, 3) := by decide +kernel
theorem dX3_copyFrom_26 : decode cX3_copyFrom 26 = .ok (.aload_n 0, 1) := by decide +kernel
theorem dX3_copyFrom_27 : decode cX3_copyFrom 27 = .ok (.getfield 18, 3) := by decide +kernel
theorem dX3_copyFrom_30 : decode cX3_copyFrom 30 = .ok (.invokestatic 36, 3) := by decide +kernel
theorem dX3_copyFrom_33 : decode cX3_copyFrom 33 = .ok (.aload_n 1, 1) := by decide +kernel
theorem dX3_copyFrom_34 : decode cX3_copyFrom 34 = .ok (.getfield 21, 3) := by decide +kernel
theorem dX3_copyFrom_37 : decode cX3_copyFrom 37 = .ok (.aload_n 0, 1) := by decide +kernel
theorem dX3_copyFrom_38 : decode cX3_copyFrom 38 = .ok (.getfield 21, 3) := by decide +kernel
theorem dX3_copyFrom_41 : decode cX3_copyFrom 41 = .ok (.invokestatic 36, 3) := by decide +kernel
theorem dX3_copyFrom_44 : decode cX3_copyFrom 44 = .ok (.aload_n 0, 1) := by decide +kernel
theorem dX3_copyFrom_45 : decode cX3_copyFrom 45 = .ok (.aload_n 1, 1) := by decide +kernel
theorem dX3_copyFrom_46 : decode cX3_copyFrom 46 = .ok (.getfield 24, 3) := by decide +kernel
theorem dX3_copyFrom_49 : decode cX3_copyFrom 49 = .ok (.putfield 24, 3) := by decide +kernel
theorem dX3_copyFrom_52 : decode cX3_copyFrom 52 = .ok (.aload_n 0, 1) := by decide +kernel
theorem dX3_copyFrom_53 : decode cX3_copyFrom 53 = .ok (.aload_n 1, 1) := by decide +kernel
theorem dX3_copyFrom_54 : decode cX3_copyFrom 54 = .ok (.getfield 32, 3) := by decide +kernel
theorem dX3_copyFrom_57 : decode cX3_copyFrom 57 = .ok (.putfield 32, 3) := by decide +kernel
theorem dX3_copyFrom_60 : decode cX3_copyFrom 60 = .ok (.return_, 1) := by decide +kernel
theorem dX3_empty_0 : decode cX3_empty 0 = .ok (.aload_n 0, 1) := by decide +kernel
theorem dX3_empty_1 : decode cX3_empty 1 = .ok (.iconst 0, 1) := by decide +kernel
theorem dX3_empty_2 : decode cX3_empty 2 = .ok (.putfield 24, 3) := by decide +kernel
theorem dX3_empty_5 : decode cX3_empty 5 = .ok (.return_, 1) := by decide +kernel
set_option maxRecDepth 20000 in
theorem ggX3_append_X3_room : GoodIn wsX3_append wsX3_room := goodIn_r _ [10, 2, 14, 15, 16, 17, 18, 19] (by decide +kernel) (by decide +kernel)
set_option maxRecDepth 20000 in
theorem gX3_append_X3_room : GoodIn wsX3_append (wsV RX3 40 RX3 yX3_room wsX3_room) := goodIn_app (goodIn_of _ (by decide +kernel)) ggX3_append_X3_room
set_option maxRecDepth 20000 in
theorem ggX3_append_X5_put : GoodIn wsX3_append wsX5_put := goodIn_r _ [13] (by decide +kernel) (by decide +kernel)
set_option maxRecDepth 20000 in
theorem gX3_append_X5_put_n44 : GoodIn wsX3_append (wsX5_put) := ggX3_append_X5_put
theorem dX3_append_0 : decode cX3_append 0 = .ok (.aload_n 0, 1) := by decide +kernel
theorem dX3_append_1 : decode cX3_append 1 = .ok (.invokevirtual 40, 3) := by decide +kernel
theorem dX3_append_4 : decode cX3_append 4 = .ok (.ifCond .le 62, 3) := by decide +kernel
theorem dX3_append_7 : decode cX3_append 7 = .ok (.aload_n 0, 1) := by decide +kernel
theorem dX3_append_8 : decode cX3_append 8 = .ok (.getfield 9, 3) := by decide +kernel
theorem dX3_append_11 : decode cX3_append 11 = .ok (.aload_n 0, 1) := by decide +kernel
theorem dX3_append_12 : decode cX3_append 12 = .ok (.getfield 24, 3) := by decide +kernel
theorem dX3_append_15 : decode cX3_append 15 = .ok (.iload_n 1, 1) := by decide +kernel
theorem dX3_append_16 : decode cX3_append 16 = .ok (.invokestatic 44, 3) := by decide +kernel
theorem dX3_append_19 : decode cX3_append 19 = .ok (.aload_n 0, 1) := by decide +kernel
theorem dX3_append_20 : decode cX3_append 20 = .ok (.getfield 15, 3) := by decide +kernel
theorem dX3_append_23 : decode cX3_append 23 = .ok (.aload_n 0, 1) := by decide +kernel
theorem dX3_append_24 : decode cX3_append 24 = .ok (.getfield 24, 3) := by decide +kernel
theorem dX3_append_27 : decode cX3_append 27 = .ok (.iload_n 2, 1) := by decide +kernel
theorem dX3_append_28 : decode cX3_append 28 = .ok (.invokestatic 44, 3) := by decide +kernel
theorem dX3_append_31 : decode cX3_append 31 = .ok (.aload_n 0, 1) := by decide +kernel
theorem dX3_append_32 : decode cX3_append 32 = .ok (.getfield 18, 3) := by decide +kernel
theorem dX3_append_35 : decode cX3_append 35 = .ok (.aload_n 0, 1) := by decide +kernel
theorem dX3_append_36 : decode cX3_append 36 = .ok (.getfield 24, 3) := by decide +kernel
theorem dX3_append_39 : decode cX3_append 39 = .ok (.iload_n 3, 1) := by decide +kernel
theorem dX3_append_40 : decode cX3_append 40 = .ok (.invokestatic 44, 3) := by decide +kernel
theorem dX3_append_43 : decode cX3_append 43 = .ok (.aload_n 0, 1) := by decide +kernel
theorem dX3_append_44 : decode cX3_append 44 = .ok (.getfield 21, 3) := by decide +kernel
theorem dX3_append_47 : decode cX3_append 47 = .ok (.aload_n 0, 1) := by decide +kernel
theorem dX3_append_48 : decode cX3_append 48 = .ok (.getfield 24, 3) := by decide +kernel
theorem dX3_append_51 : decode cX3_append 51 = .ok (.iload 4, 2) := by decide +kernel
theorem dX3_append_53 : decode cX3_append 53 = .ok (.invokestatic 44, 3) := by decide +kernel
theorem dX3_append_56 : decode cX3_append 56 = .ok (.aload_n 0, 1) := by decide +kernel
theorem dX3_append_57 : decode cX3_append 57 = .ok (.dup, 1) := by decide +kernel
theorem dX3_append_58 : decode cX3_append 58 = .ok (.getfield 24, 3) := by decide +kernel
theorem dX3_append_61 : decode cX3_append 61 = .ok (.iconst 1, 1) := by decide +kernel
theorem dX3_append_62 : decode cX3_append 62 = .ok (.iadd, 1) := by decide +kernel
theorem dX3_append_63 : decode cX3_append 63 = .ok (.putfield 24, 3) := by decide +kernel
theorem dX3_append_66 : decode cX3_append 66 = .ok (.return_, 1) := by decide +kernel
set_option maxRecDepth 20000 in
theorem ggX3_appendAll_X3_keyAt : GoodIn wsX3_appendAll wsX3_keyAt := goodIn_r _ [6, 7, 8, 9, 10, 36, 37, 38, 39, 40, 41] (by decide +kernel) (by decide +kernel)
set_option maxRecDepth 20000 in
theorem gX3_appendAll_X3_keyAt : GoodIn wsX3_appendAll (wsV RX3 48 RX3 yX3_keyAt wsX3_keyAt) := goodIn_app (goodIn_of _ (by decide +kernel)) ggX3_appendAll_X3_keyAt
set_option maxRecDepth 20000 in
theorem ggX3_appendAll_X3_valueAt : GoodIn wsX3_appendAll wsX3_valueAt := goodIn_r _ [14, 15, 8, 9, 10, 36, 37, 38, 39, 40, 41] (by decide +kernel) (by decide +kernel)
set_option maxRecDepth 20000 in
theorem gX3_appendAll_X3_valueAt : GoodIn wsX3_appendAll (wsV RX3 52 RX3 yX3_valueAt wsX3_valueAt) := goodIn_app (goodIn_of _ (by decide +kernel)) ggX3_appendAll_X3_valueAt
set_option maxRecDepth 20000 in
theorem ggX3_appendAll_X3_weightAt : GoodIn wsX3_appendAll wsX3_weightAt := goodIn_r _ [19, 20, 8, 9, 10, 36, 37, 38, 39, 40, 41] (by decide +kernel) (by decide +kernel)
set_option maxRecDepth 20000 in
theorem gX3_appendAll_X3_weightAt : GoodIn wsX3_appendAll (wsV RX3 55 RX3 yX3_weightAt wsX3_weightAt) := goodIn_app (goodIn_of _ (by decide +kernel)) ggX3_appendAll_X3_weightAt
set_option maxRecDepth 20000 in
theorem ggX3_appendAll_X3_targetAt : GoodIn wsX3_appendAll wsX3_targetAt := goodIn_r _ [24, 25, 8, 9, 10, 36, 37, 38, 39, 40, 41] (by decide +kernel) (by decide +kernel)
set_option maxRecDepth 20000 in
theorem gX3_appendAll_X3_targetAt : GoodIn wsX3_appendAll (wsV RX3 58 RX3 yX3_targetAt wsX3_targetAt) := goodIn_app (goodIn_of _ (by decide +kernel)) ggX3_appendAll_X3_targetAt
set_option maxRecDepth 20000 in
theorem ggX3_appendAll_X3_append : GoodIn wsX3_appendAll wsX3_append := goodIn_r _ [29, 7, 1, 15, 20, 25, 30, 31, 32, 5, 33, 34, 9, 35, 36, 37, 38, 39, 40, 41] (by decide +kernel) (by decide +kernel)
set_option maxRecDepth 20000 in
theorem gX3_appendAll_X3_append : GoodIn wsX3_appendAll (wsV RX3 61 RX3 yX3_append wsX3_append) := goodIn_app (goodIn_of _ (by decide +kernel)) ggX3_appendAll_X3_append
theorem dX3_appendAll_0 : decode cX3_appendAll 0 = .ok (.iconst 0, 1) := by decide +kernel
theorem dX3_appendAll_1 : decode cX3_appendAll 1 = .ok (.istore_n 2, 1) := by decide +kernel
theorem dX3_appendAll_2 : decode cX3_appendAll 2 = .ok (.iload_n 2, 1) := by decide +kernel
theorem dX3_appendAll_3 : decode cX3_appendAll 3 = .ok (.aload_n 1, 1) := by decide +kernel
theorem dX3_appendAll_4 : decode cX3_appendAll 4 = .ok (.getfield 24, 3) := by decide +kernel
theorem dX3_appendAll_7 : decode cX3_appendAll 7 = .ok (.if_icmp .ge 33, 3) := by decide +kernel
theorem dX3_appendAll_10 : decode cX3_appendAll 10 = .ok (.aload_n 0, 1) := by decide +kernel
theorem dX3_appendAll_11 : decode cX3_appendAll 11 = .ok (.aload_n 1, 1) := by decide +kernel
theorem dX3_appendAll_12 : decode cX3_appendAll 12 = .ok (.iload_n 2, 1) := by decide +kernel
theorem dX3_appendAll_13 : decode cX3_appendAll 13 = .ok (.invokevirtual 48, 3) := by decide +kernel
theorem dX3_appendAll_16 : decode cX3_appendAll 16 = .ok (.aload_n 1, 1) := by decide +kernel
theorem dX3_appendAll_17 : decode cX3_appendAll 17 = .ok (.iload_n 2, 1) := by decide +kernel
theorem dX3_appendAll_18 : decode cX3_appendAll 18 = .ok (.invokevirtual 52, 3) := by decide +kernel
theorem dX3_appendAll_21 : decode cX3_appendAll 21 = .ok (.aload_n 1, 1) := by decide +kernel
theorem dX3_appendAll_22 : decode cX3_appendAll 22 = .ok (.iload_n 2, 1) := by decide +kernel
theorem dX3_appendAll_23 : decode cX3_appendAll 23 = .ok (.invokevirtual 55, 3) := by decide +kernel
theorem dX3_appendAll_26 : decode cX3_appendAll 26 = .ok (.aload_n 1, 1) := by decide +kernel
theorem dX3_appendAll_27 : decode cX3_appendAll 27 = .ok (.iload_n 2, 1) := by decide +kernel
theorem dX3_appendAll_28 : decode cX3_appendAll 28 = .ok (.invokevirtual 58, 3) := by decide +kernel
theorem dX3_appendAll_31 : decode cX3_appendAll 31 = .ok (.invokevirtual 61, 3) := by decide +kernel
theorem dX3_appendAll_34 : decode cX3_appendAll 34 = .ok (.iinc 2 1, 3) := by decide +kernel
theorem dX3_appendAll_37 : decode cX3_appendAll 37 = .ok (.goto (-35), 3) := by decide +kernel
theorem dX3_appendAll_40 : decode cX3_appendAll 40 = .ok (.return_, 1) := by decide +kernel
set_option maxRecDepth 20000 in
theorem ggX3_drop_X3_has : GoodIn wsX3_drop wsX3_has := goodIn_r _ [6, 1, 36, 37, 38, 39, 40, 41] (by decide +kernel) (by decide +kernel)
set_option maxRecDepth 20000 in
theorem gX3_drop_X3_has : GoodIn wsX3_drop (wsV RX3 65 RX3 yX3_has wsX3_has) := goodIn_app (goodIn_of _ (by decide +kernel)) ggX3_drop_X3_has
set_option maxRecDepth 20000 in
theorem ggX3_drop_X3_move : GoodIn wsX3_drop wsX3_move := goodIn_r _ [10, 11, 12, 13, 14, 15, 16, 17, 5, 18, 19, 20, 21, 22, 23, 24, 25, 26, 27, 28, 29, 30, 31, 32, 33, 34, 35, 36, 37, 38, 39, 40, 41] (by decide +kernel) (by decide +kernel)
set_option maxRecDepth 20000 in
theorem gX3_drop_X3_move : GoodIn wsX3_drop (wsV RX3 69 RX3 yX3_move wsX3_move) := goodIn_app (goodIn_of _ (by decide +kernel)) ggX3_drop_X3_move
theorem dX3_drop_0 : decode cX3_drop 0 = .ok (.aload_n 0, 1) := by decide +kernel
theorem dX3_drop_1 : decode cX3_drop 1 = .ok (.iload_n 1, 1) := by decide +kernel
theorem dX3_drop_2 : decode cX3_drop 2 = .ok (.invokevirtual 65, 3) := by decide +kernel
theorem dX3_drop_5 : decode cX3_drop 5 = .ok (.ifCond .eq 39, 3) := by decide +kernel
theorem dX3_drop_8 : decode cX3_drop 8 = .ok (.iload_n 1, 1) := by decide +kernel
theorem dX3_drop_9 : decode cX3_drop 9 = .ok (.iconst 1, 1) := by decide +kernel
theorem dX3_drop_10 : decode cX3_drop 10 = .ok (.iadd, 1) := by decide +kernel
theorem dX3_drop_11 : decode cX3_drop 11 = .ok (.istore_n 2, 1) := by decide +kernel
theorem dX3_drop_12 : decode cX3_drop 12 = .ok (.iload_n 2, 1) := by decide +kernel
theorem dX3_drop_13 : decode cX3_drop 13 = .ok (.aload_n 0, 1) := by decide +kernel
theorem dX3_drop_14 : decode cX3_drop 14 = .ok (.getfield 24, 3) := by decide +kernel
theorem dX3_drop_17 : decode cX3_drop 17 = .ok (.if_icmp .ge 17, 3) := by decide +kernel
theorem dX3_drop_20 : decode cX3_drop 20 = .ok (.aload_n 0, 1) := by decide +kernel
theorem dX3_drop_21 : decode cX3_drop 21 = .ok (.iload_n 2, 1) := by decide +kernel
theorem dX3_drop_22 : decode cX3_drop 22 = .ok (.iload_n 2, 1) := by decide +kernel
theorem dX3_drop_23 : decode cX3_drop 23 = .ok (.iconst 1, 1) := by decide +kernel
theorem dX3_drop_24 : decode cX3_drop 24 = .ok (.isub, 1) := by decide +kernel
theorem dX3_drop_25 : decode cX3_drop 25 = .ok (.invokevirtual 69, 3) := by decide +kernel
theorem dX3_drop_28 : decode cX3_drop 28 = .ok (.iinc 2 1, 3) := by decide +kernel
theorem dX3_drop_31 : decode cX3_drop 31 = .ok (.goto (-19), 3) := by decide +kernel
theorem dX3_drop_34 : decode cX3_drop 34 = .ok (.aload_n 0, 1) := by decide +kernel
theorem dX3_drop_35 : decode cX3_drop 35 = .ok (.dup, 1) := by decide +kernel
theorem dX3_drop_36 : decode cX3_drop 36 = .ok (.getfield 24, 3) := by decide +kernel
theorem dX3_drop_39 : decode cX3_drop 39 = .ok (.iconst 1, 1) := by decide +kernel
theorem dX3_drop_40 : decode cX3_drop 40 = .ok (.isub, 1) := by decide +kernel
theorem dX3_drop_41 : decode cX3_drop 41 = .ok (.putfield 24, 3) := by decide +kernel
theorem dX3_drop_44 : decode cX3_drop 44 = .ok (.return_, 1) := by decide +kernel
set_option maxRecDepth 20000 in
theorem ggX3_dropOthersLike_X3_has : GoodIn wsX3_dropOthersLike wsX3_has := goodIn_r _ [6, 1, 36, 37, 38, 39, 40, 41] (by decide +kernel) (by decide +kernel)
set_option maxRecDepth 20000 in
theorem gX3_dropOthersLike_X3_has : GoodIn wsX3_dropOthersLike (wsV RX3 65 RX3 yX3_has wsX3_has) := goodIn_app (goodIn_of _ (by decide +kernel)) ggX3_dropOthersLike_X3_has
set_option maxRecDepth 20000 in
theorem ggX3_dropOthersLike_X3_keyAt : GoodIn wsX3_dropOthersLike wsX3_keyAt := goodIn_r _ [10, 11, 12, 13, 14, 36, 37, 38, 39, 40, 41] (by decide +kernel) (by decide +kernel)
set_option maxRecDepth 20000 in
theorem gX3_dropOthersLike_X3_keyAt : GoodIn wsX3_dropOthersLike (wsV RX3 48 RX3 yX3_keyAt wsX3_keyAt) := goodIn_app (goodIn_of _ (by decide +kernel)) ggX3_dropOthersLike_X3_keyAt
set_option maxRecDepth 20000 in
theorem ggX3_dropOthersLike_X3_move : GoodIn wsX3_dropOthersLike wsX3_move := goodIn_r _ [18, 11, 19, 20, 21, 7, 8, 9, 5, 10, 12, 13, 14, 22, 23, 24, 25, 26, 27, 28, 29, 30, 31, 32, 33, 34, 35, 36, 37, 38, 39, 40, 41] (by decide +kernel) (by decide +kernel)
set_option maxRecDepth 20000 in
theorem gX3_dropOthersLike_X3_move : GoodIn wsX3_dropOthersLike (wsV RX3 69 RX3 yX3_move wsX3_move) := goodIn_app (goodIn_of _ (by decide +kernel)) ggX3_dropOthersLike_X3_move
theorem dX3_dropOthersLike_0 : decode cX3_dropOthersLike 0 = .ok (.aload_n 0, 1) := by decide +kernel
theorem dX3_dropOthersLike_1 : decode cX3_dropOthersLike 1 = .ok (.iload_n 1, 1) := by decide +kernel
theorem dX3_dropOthersLike_2 : decode cX3_dropOthersLike 2 = .ok (.invokevirtual 65, 3) := by decide +kernel
theorem dX3_dropOthersLike_5 : decode cX3_dropOthersLike 5 = .ok (.ifCond .eq 60, 3) := by decide +kernel
theorem dX3_dropOthersLike_8 : decode cX3_dropOthersLike 8 = .ok (.aload_n 0, 1) := by decide +kernel
theorem dX3_dropOthersLike_9 : decode cX3_dropOthersLike 9 = .ok (.iload_n 1, 1) := by decide +kernel
theorem dX3_dropOthersLike_10 : decode cX3_dropOthersLike 10 = .ok (.invokevirtual 48, 3) := by decide +kernel
theorem dX3_dropOthersLike_13 : decode cX3_dropOthersLike 13 = .ok (.istore_n 2, 1) := by decide +kernel
theorem dX3_dropOthersLike_14 : decode cX3_dropOthersLike 14 = .ok (.iconst 0, 1) := by decide +kernel
theorem dX3_dropOthersLike_15 : decode cX3_dropOthersLike 15 = .ok (.istore_n 3, 1) := by decide +kernel
theorem dX3_dropOthersLike_16 : decode cX3_dropOthersLike 16 = .ok (.iconst 0, 1) := by decide +kernel
theorem dX3_dropOthersLike_17 : decode cX3_dropOthersLike 17 = .ok (.istore 4, 2) := by decide +kernel
theorem dX3_dropOthersLike_19 : decode cX3_dropOthersLike 19 = .ok (.iload 4, 2) := by decide +kernel
theorem dX3_dropOthersLike_21 : decode cX3_dropOthersLike 21 = .ok (.aload_n 0, 1) := by decide +kernel
theorem dX3_dropOthersLike_22 : decode cX3_dropOthersLike 22 = .ok (.getfield 24, 3) := by decide +kernel
theorem dX3_dropOthersLike_25 : decode cX3_dropOthersLike 25 = .ok (.if_icmp .ge 35, 3) := by decide +kernel
theorem dX3_dropOthersLike_28 : decode cX3_dropOthersLike 28 = .ok (.iload 4, 2) := by decide +kernel
theorem dX3_dropOthersLike_30 : decode cX3_dropOthersLike 30 = .ok (.iload_n 1, 1) := by decide +kernel
theorem dX3_dropOthersLike_31 : decode cX3_dropOthersLike 31 = .ok (.if_icmp .eq 13, 3) := by decide +kernel
theorem dX3_dropOthersLike_34 : decode cX3_dropOthersLike 34 = .ok (.aload_n 0, 1) := by decide +kernel
theorem dX3_dropOthersLike_35 : decode cX3_dropOthersLike 35 = .ok (.iload 4, 2) := by decide +kernel
theorem dX3_dropOthersLike_37 : decode cX3_dropOthersLike 37 = .ok (.invokevirtual 48, 3) := by decide +kernel
theorem dX3_dropOthersLike_40 : decode cX3_dropOthersLike 40 = .ok (.iload_n 2, 1) := by decide +kernel
theorem dX3_dropOthersLike_41 : decode cX3_dropOthersLike 41 = .ok (.if_icmp .eq 13, 3) := by decide +kernel
theorem dX3_dropOthersLike_44 : decode cX3_dropOthersLike 44 = .ok (.aload_n 0, 1) := by decide +kernel
theorem dX3_dropOthersLike_45 : decode cX3_dropOthersLike 45 = .ok (.iload 4, 2) := by decide +kernel
theorem dX3_dropOthersLike_47 : decode cX3_dropOthersLike 47 = .ok (.iload_n 3, 1) := by decide +kernel
theorem dX3_dropOthersLike_48 : decode cX3_dropOthersLike 48 = .ok (.invokevirtual 69, 3) := by decide +kernel
theorem dX3_dropOthersLike_51 : decode cX3_dropOthersLike 51 = .ok (.iinc 3 1, 3) := by decide +kernel
theorem dX3_dropOthersLike_54 : decode cX3_dropOthersLike 54 = .ok (.iinc 4 1, 3) := by decide +kernel
theorem dX3_dropOthersLike_57 : decode cX3_dropOthersLike 57 = .ok (.goto (-38), 3) := by decide +kernel
theorem dX3_dropOthersLike_60 : decode cX3_dropOthersLike 60 = .ok (.aload_n 0, 1) := by decide +kernel
theorem dX3_dropOthersLike_61 : decode cX3_dropOthersLike 61 = .ok (.iload_n 3, 1) := by decide +kernel
theorem dX3_dropOthersLike_62 : decode cX3_dropOthersLike 62 = .ok (.putfield 24, 3) := by decide +kernel
theorem dX3_dropOthersLike_65 : decode cX3_dropOthersLike 65 = .ok (.return_, 1) := by decide +kernel
set_option maxRecDepth 20000 in
theorem ggX3_move_X3_keyAt : GoodIn wsX3_move wsX3_keyAt := goodIn_r _ [9, 1, 10, 11, 12, 27, 28, 29, 30, 31, 32] (by decide +kernel) (by decide +kernel)
set_option maxRecDepth 20000 in
theorem gX3_move_X3_keyAt : GoodIn wsX3_move (wsV RX3 48 RX3 yX3_keyAt wsX3_keyAt) := goodIn_app (goodIn_of _ (by decide +kernel)) ggX3_move_X3_keyAt
set_option maxRecDepth 20000 in
theorem ggX3_move_X5_put : GoodIn wsX3_move wsX5_put := goodIn_r _ [14] (by decide +kernel) (by decide +kernel)
set_option maxRecDepth 20000 in
theorem gX3_move_X5_put_n44 : GoodIn wsX3_move (wsX5_put) := ggX3_move_X5_put
set_option maxRecDepth 20000 in
theorem ggX3_move_X3_valueAt : GoodIn wsX3_move wsX3_valueAt := goodIn_r _ [18, 2, 10, 11, 12, 27, 28, 29, 30, 31, 32] (by decide +kernel) (by decide +kernel)
set_option maxRecDepth 20000 in
theorem gX3_move_X3_valueAt : GoodIn wsX3_move (wsV RX3 52 RX3 yX3_valueAt wsX3_valueAt) := goodIn_app (goodIn_of _ (by decide +kernel)) ggX3_move_X3_valueAt
set_option maxRecDepth 20000 in
theorem ggX3_move_X3_weightAt : GoodIn wsX3_move wsX3_weightAt := goodIn_r _ [22, 3, 10, 11, 12, 27, 28, 29, 30, 31, 32] (by decide +kernel) (by decide +kernel)
set_option maxRecDepth 20000 in
theorem gX3_move_X3_weightAt : GoodIn wsX3_move (wsV RX3 55 RX3 yX3_weightAt wsX3_weightAt) := goodIn_app (goodIn_of _ (by decide +kernel)) ggX3_move_X3_weightAt
set_option maxRecDepth 20000 in
theorem ggX3_move_X3_targetAt : GoodIn wsX3_move wsX3_targetAt := goodIn_r _ [26, 4, 10, 11, 12, 27, 28, 29, 30, 31, 32] (by decide +kernel) (by decide +kernel)
set_option maxRecDepth 20000 in
theorem gX3_move_X3_targetAt : GoodIn wsX3_move (wsV RX3 58 RX3 yX3_targetAt wsX3_targetAt) := goodIn_app (goodIn_of _ (by decide +kernel)) ggX3_move_X3_targetAt
theorem dX3_move_0 : decode cX3_move 0 = .ok (.aload_n 0, 1) := by decide +kernel
theorem dX3_move_1 : decode cX3_move 1 = .ok (.getfield 9, 3) := by decide +kernel
theorem dX3_move_4 : decode cX3_move 4 = .ok (.iload_n 2, 1) := by decide +kernel
theorem dX3_move_5 : decode cX3_move 5 = .ok (.aload_n 0, 1) := by decide +kernel
theorem dX3_move_6 : decode cX3_move 6 = .ok (.iload_n 1, 1) := by decide +kernel
theorem dX3_move_7 : decode cX3_move 7 = .ok (.invokevirtual 48, 3) := by decide +kernel
theorem dX3_move_10 : decode cX3_move 10 = .ok (.invokestatic 44, 3) := by decide +kernel
theorem dX3_move_13 : decode cX3_move 13 = .ok (.aload_n 0, 1) := by decide +kernel
theorem dX3_move_14 : decode cX3_move 14 = .ok (.getfield 15, 3) := by decide +kernel
theorem dX3_move_17 : decode cX3_move 17 = .ok (.iload_n 2, 1) := by decide +kernel
theorem dX3_move_18 : decode cX3_move 18 = .ok (.aload_n 0, 1) := by decide +kernel
theorem dX3_move_19 : decode cX3_move 19 = .ok (.iload_n 1, 1) := by decide +kernel
theorem dX3_move_20 : decode cX3_move 20 = .ok (.invokevirtual 52, 3) := by decide +kernel
theorem dX3_move_23 : decode cX3_move 23 = .ok (.invokestatic 44, 3) := by decide +kernel
theorem dX3_move_26 : decode cX3_move 26 = .ok (.aload_n 0, 1) := by decide +kernel
theorem dX3_move_27 : decode cX3_move 27 = .ok (.getfield 18, 3) := by decide +kernel
theorem dX3_move_30 : decode cX3_move 30 = .ok (.iload_n 2, 1) := by decide +kernel
theorem dX3_move_31 : decode cX3_move 31 = .ok (.aload_n 0, 1) := by decide +kernel
theorem dX3_move_32 : decode cX3_move 32 = .ok (.iload_n 1, 1) := by decide +kernel
theorem dX3_move_33 : decode cX3_move 33 = .ok (.invokevirtual 55, 3) := by decide +kernel
theorem dX3_move_36 : decode cX3_move 36 = .ok (.invokestatic 44, 3) := by decide +kernel
theorem dX3_move_39 : decode cX3_move 39 = .ok (.aload_n 0, 1) := by decide +kernel
theorem dX3_move_40 : decode cX3_move 40 = .ok (.getfield 21, 3) := by decide +kernel
theorem dX3_move_43 : decode cX3_move 43 = .ok (.iload_n 2, 1) := by decide +kernel
theorem dX3_move_44 : decode cX3_move 44 = .ok (.aload_n 0, 1) := by decide +kernel
theorem dX3_move_45 : decode cX3_move 45 = .ok (.iload_n 1, 1) := by decide +kernel
theorem dX3_move_46 : decode cX3_move 46 = .ok (.invokevirtual 58, 3) := by decide +kernel
theorem dX3_move_49 : decode cX3_move 49 = .ok (.invokestatic 44, 3) := by decide +kernel
theorem dX3_move_52 : decode cX3_move 52 = .ok (.return_, 1) := by decide +kernel
set_option maxRecDepth 20000 in
theorem ggX3_rowsWith_X3_keyAt : GoodIn wsX3_rowsWith wsX3_keyAt := goodIn_r _ [6, 7, 8, 9, 10, 11, 12, 13, 14, 15, 16] (by decide +kernel) (by decide +kernel)
set_option maxRecDepth 20000 in
theorem gX3_rowsWith_X3_keyAt : GoodIn wsX3_rowsWith (wsV RX3 48 RX3 yX3_keyAt wsX3_keyAt) := goodIn_app (goodIn_of _ (by decide +kernel)) ggX3_rowsWith_X3_keyAt
theorem dX3_rowsWith_0 : decode cX3_rowsWith 0 = .ok (.iconst 0, 1) := by decide +kernel
theorem dX3_rowsWith_1 : decode cX3_rowsWith 1 = .ok (.istore_n 2, 1) := by decide +kernel
theorem dX3_rowsWith_2 : decode cX3_rowsWith 2 = .ok (.iconst 0, 1) := by decide +kernel
theorem dX3_rowsWith_3 : decode cX3_rowsWith 3 = .ok (.istore_n 3, 1) := by decide +kernel
theorem dX3_rowsWith_4 : decode cX3_rowsWith 4 = .ok (.iload_n 3, 1) := by decide +kernel
theorem dX3_rowsWith_5 : decode cX3_rowsWith 5 = .ok (.aload_n 0, 1) := by decide +kernel
theorem dX3_rowsWith_6 : decode cX3_rowsWith 6 = .ok (.getfield 24, 3) := by decide +kernel
theorem dX3_rowsWith_9 : decode cX3_rowsWith 9 = .ok (.if_icmp .ge 21, 3) := by decide +kernel
theorem dX3_rowsWith_12 : decode cX3_rowsWith 12 = .ok (.aload_n 0, 1) := by decide +kernel
theorem dX3_rowsWith_13 : decode cX3_rowsWith 13 = .ok (.iload_n 3, 1) := by decide +kernel
theorem dX3_rowsWith_14 : decode cX3_rowsWith 14 = .ok (.invokevirtual 48, 3) := by decide +kernel
theorem dX3_rowsWith_17 : decode cX3_rowsWith 17 = .ok (.iload_n 1, 1) := by decide +kernel
theorem dX3_rowsWith_18 : decode cX3_rowsWith 18 = .ok (.if_icmp .ne 6, 3) := by decide +kernel
theorem dX3_rowsWith_21 : decode cX3_rowsWith 21 = .ok (.iinc 2 1, 3) := by decide +kernel
theorem dX3_rowsWith_24 : decode cX3_rowsWith 24 = .ok (.iinc 3 1, 3) := by decide +kernel
theorem dX3_rowsWith_27 : decode cX3_rowsWith 27 = .ok (.goto (-23), 3) := by decide +kernel
theorem dX3_rowsWith_30 : decode cX3_rowsWith 30 = .ok (.iload_n 2, 1) := by decide +kernel
theorem dX3_rowsWith_31 : decode cX3_rowsWith 31 = .ok (.ireturn, 1) := by decide +kernel
set_option maxRecDepth 20000 in
theorem ggX3_rowsPointingTo_X3_targetAt : GoodIn wsX3_rowsPointingTo wsX3_targetAt := goodIn_r _ [6, 7, 8, 9, 10, 11, 12, 13, 14, 15, 16] (by decide +kernel) (by decide +kernel)
set_option maxRecDepth 20000 in
theorem gX3_rowsPointingTo_X3_targetAt : GoodIn wsX3_rowsPointingTo (wsV RX3 58 RX3 yX3_targetAt wsX3_targetAt) := goodIn_app (goodIn_of _ (by decide +kernel)) ggX3_rowsPointingTo_X3_targetAt
theorem dX3_rowsPointingTo_0 : decode cX3_rowsPointingTo 0 = .ok (.iconst 0, 1) := by decide +kernel
theorem dX3_rowsPointingTo_1 : decode cX3_rowsPointingTo 1 = .ok (.istore_n 2, 1) := by decide +kernel
theorem dX3_rowsPointingTo_2 : decode cX3_rowsPointingTo 2 = .ok (.iconst 0, 1) := by decide +kernel
theorem dX3_rowsPointingTo_3 : decode cX3_rowsPointingTo 3 = .ok (.istore_n 3, 1) := by decide +kernel
theorem dX3_rowsPointingTo_4 : decode cX3_rowsPointingTo 4 = .ok (.iload_n 3, 1) := by decide +kernel
theorem dX3_rowsPointingTo_5 : decode cX3_rowsPointingTo 5 = .ok (.aload_n 0, 1) := by decide +kernel
theorem dX3_rowsPointingTo_6 : decode cX3_rowsPointingTo 6 = .ok (.getfield 24, 3) := by decide +kernel
theorem dX3_rowsPointingTo_9 : decode cX3_rowsPointingTo 9 = .ok (.if_icmp .ge 21, 3) := by decide +kernel
theorem dX3_rowsPointingTo_12 : decode cX3_rowsPointingTo 12 = .ok (.aload_n 0, 1) := by decide +kernel
theorem dX3_rowsPointingTo_13 : decode cX3_rowsPointingTo 13 = .ok (.iload_n 3, 1) := by decide +kernel
theorem dX3_rowsPointingTo_14 : decode cX3_rowsPointingTo 14 = .ok (.invokevirtual 58, 3) := by decide +kernel
theorem dX3_rowsPointingTo_17 : decode cX3_rowsPointingTo 17 = .ok (.iload_n 1, 1) := by decide +kernel
theorem dX3_rowsPointingTo_18 : decode cX3_rowsPointingTo 18 = .ok (.if_icmp .ne 6, 3) := by decide +kernel
theorem dX3_rowsPointingTo_21 : decode cX3_rowsPointingTo 21 = .ok (.iinc 2 1, 3) := by decide +kernel
theorem dX3_rowsPointingTo_24 : decode cX3_rowsPointingTo 24 = .ok (.iinc 3 1, 3) := by decide +kernel
theorem dX3_rowsPointingTo_27 : decode cX3_rowsPointingTo 27 = .ok (.goto (-23), 3) := by decide +kernel
theorem dX3_rowsPointingTo_30 : decode cX3_rowsPointingTo 30 = .ok (.iload_n 2, 1) := by decide +kernel
theorem dX3_rowsPointingTo_31 : decode cX3_rowsPointingTo 31 = .ok (.ireturn, 1) := by decide +kernel
set_option maxRecDepth 20000 in
theorem ggX3_keysThere_X3_keysWithAtLeast : GoodIn wsX3_keysThere wsX3_keysWithAtLeast := goodIn_r _ [5, 6, 7, 8, 4, 9, 10, 11, 12, 13, 14, 15, 16, 17, 18, 19, 20, 21, 22, 23, 24] (by decide +kernel) (by decide +kernel)
set_option maxRecDepth 20000 in
theorem gX3_keysThere_X3_keysWithAtLeast : GoodIn wsX3_keysThere (wsV RX3 73 RX3 yX3_keysWithAtLeast wsX3_keysWithAtLeast) := goodIn_app (goodIn_of _ (by decide +kernel)) ggX3_keysThere_X3_keysWithAtLeast
theorem dX3_keysThere_0 : decode cX3_keysThere 0 = .ok (.aload_n 0, 1) := by decide +kernel
theorem dX3_keysThere_1 : decode cX3_keysThere 1 = .ok (.iconst 1, 1) := by decide +kernel
theorem dX3_keysThere_2 : decode cX3_keysThere 2 = .ok (.invokevirtual 73, 3) := by decide +kernel
theorem dX3_keysThere_5 : decode cX3_keysThere 5 = .ok (.ireturn, 1) := by decide +kernel
set_option maxRecDepth 20000 in
theorem ggX3_doubledKeys_X3_keysWithAtLeast : GoodIn wsX3_doubledKeys wsX3_keysWithAtLeast := goodIn_r _ [5, 6, 7, 8, 4, 9, 10, 11, 12, 13, 14, 15, 16, 17, 18, 19, 20, 21, 22, 23, 24] (by decide +kernel) (by decide +kernel)
set_option maxRecDepth 20000 in
theorem gX3_doubledKeys_X3_keysWithAtLeast : GoodIn wsX3_doubledKeys (wsV RX3 73 RX3 yX3_keysWithAtLeast wsX3_keysWithAtLeast) := goodIn_app (goodIn_of _ (by decide +kernel)) ggX3_doubledKeys_X3_keysWithAtLeast
theorem dX3_doubledKeys_0 : decode cX3_doubledKeys 0 = .ok (.aload_n 0, 1) := by decide +kernel
theorem dX3_doubledKeys_1 : decode cX3_doubledKeys 1 = .ok (.iconst 2, 1) := by decide +kernel
theorem dX3_doubledKeys_2 : decode cX3_doubledKeys 2 = .ok (.invokevirtual 73, 3) := by decide +kernel
theorem dX3_doubledKeys_5 : decode cX3_doubledKeys 5 = .ok (.ireturn, 1) := by decide +kernel
set_option maxRecDepth 20000 in
theorem ggX3_keysWithAtLeast_X3_rowsWith : GoodIn wsX3_keysWithAtLeast wsX3_rowsWith := goodIn_r _ [5, 6, 7, 8, 9, 4, 10, 11, 12, 13, 14, 15, 16, 17, 18, 19, 20] (by decide +kernel) (by decide +kernel)
set_option maxRecDepth 20000 in
theorem gX3_keysWithAtLeast_X3_rowsWith : GoodIn wsX3_keysWithAtLeast (wsV RX3 76 RX3 yX3_rowsWith wsX3_rowsWith) := goodIn_app (goodIn_of _ (by decide +kernel)) ggX3_keysWithAtLeast_X3_rowsWith
theorem dX3_keysWithAtLeast_0 : decode cX3_keysWithAtLeast 0 = .ok (.iconst 0, 1) := by decide +kernel
theorem dX3_keysWithAtLeast_1 : decode cX3_keysWithAtLeast 1 = .ok (.istore_n 2, 1) := by decide +kernel
theorem dX3_keysWithAtLeast_2 : decode cX3_keysWithAtLeast 2 = .ok (.iconst 0, 1) := by decide +kernel
theorem dX3_keysWithAtLeast_3 : decode cX3_keysWithAtLeast 3 = .ok (.istore_n 3, 1) := by decide +kernel
theorem dX3_keysWithAtLeast_4 : decode cX3_keysWithAtLeast 4 = .ok (.iload_n 3, 1) := by decide +kernel
theorem dX3_keysWithAtLeast_5 : decode cX3_keysWithAtLeast 5 = .ok (.bipush 10, 2) := by decide +kernel
theorem dX3_keysWithAtLeast_7 : decode cX3_keysWithAtLeast 7 = .ok (.if_icmp .ge 21, 3) := by decide +kernel
theorem dX3_keysWithAtLeast_10 : decode cX3_keysWithAtLeast 10 = .ok (.aload_n 0, 1) := by decide +kernel
theorem dX3_keysWithAtLeast_11 : decode cX3_keysWithAtLeast 11 = .ok (.iload_n 3, 1) := by decide +kernel
theorem dX3_keysWithAtLeast_12 : decode cX3_keysWithAtLeast 12 = .ok (.invokevirtual 76, 3) := by decide +kernel
theorem dX3_keysWithAtLeast_15 : decode cX3_keysWithAtLeast 15 = .ok (.iload_n 1, 1) := by decide +kernel
theorem dX3_keysWithAtLeast_16 : decode cX3_keysWithAtLeast 16 = .ok (.if_icmp .lt 6, 3) := by decide +kernel
theorem dX3_keysWithAtLeast_19 : decode cX3_keysWithAtLeast 19 = .ok (.iinc 2 1, 3) := by decide +kernel
theorem dX3_keysWithAtLeast_22 : decode cX3_keysWithAtLeast 22 = .ok (.iinc 3 1, 3) := by decide +kernel
theorem dX3_keysWithAtLeast_25 : decode cX3_keysWithAtLeast 25 = .ok (.goto (-21), 3) := by decide +kernel
theorem dX3_keysWithAtLeast_28 : decode cX3_keysWithAtLeast 28 = .ok (.iload_n 2, 1) := by decide +kernel
theorem dX3_keysWithAtLeast_29 : decode cX3_keysWithAtLeast 29 = .ok (.ireturn, 1) := by decide +kernel
set_option maxRecDepth 20000 in
theorem ggX3_firstWith_X3_keyAt : GoodIn wsX3_firstWith wsX3_keyAt := goodIn_r _ [6, 7, 8, 9, 10, 11, 12, 13, 14, 15, 16] (by decide +kernel) (by decide +kernel)
set_option maxRecDepth 20000 in
theorem gX3_firstWith_X3_keyAt : GoodIn wsX3_firstWith (wsV RX3 48 RX3 yX3_keyAt wsX3_keyAt) := goodIn_app (goodIn_of _ (by decide +kernel)) ggX3_firstWith_X3_keyAt
theorem dX3_firstWith_0 : decode cX3_firstWith 0 = .ok (.iconst 0, 1) := by decide +kernel
theorem dX3_firstWith_1 : decode cX3_firstWith 1 = .ok (.istore_n 2, 1) := by decide +kernel
theorem dX3_firstWith_2 : decode cX3_firstWith 2 = .ok (.iload_n 2, 1) := by decide +kernel
theorem dX3_firstWith_3 : decode cX3_firstWith 3 = .ok (.aload_n 0, 1) := by decide +kernel
theorem dX3_firstWith_4 : decode cX3_firstWith 4 = .ok (.getfield 24, 3) := by decide +kernel
theorem dX3_firstWith_7 : decode cX3_firstWith 7 = .ok (.if_icmp .ge 20, 3) := by decide +kernel
theorem dX3_firstWith_10 : decode cX3_firstWith 10 = .ok (.aload_n 0, 1) := by decide +kernel
theorem dX3_firstWith_11 : decode cX3_firstWith 11 = .ok (.iload_n 2, 1) := by decide +kernel
theorem dX3_firstWith_12 : decode cX3_firstWith 12 = .ok (.invokevirtual 48, 3) := by decide +kernel
theorem dX3_firstWith_15 : decode cX3_firstWith 15 = .ok (.iload_n 1, 1) := by decide +kernel
theorem dX3_firstWith_16 : decode cX3_firstWith 16 = .ok (.if_icmp .ne 5, 3) := by decide +kernel
theorem dX3_firstWith_19 : decode cX3_firstWith 19 = .ok (.iload_n 2, 1) := by decide +kernel
theorem dX3_firstWith_20 : decode cX3_firstWith 20 = .ok (.ireturn, 1) := by decide +kernel
theorem dX3_firstWith_21 : decode cX3_firstWith 21 = .ok (.iinc 2 1, 3) := by decide +kernel
theorem dX3_firstWith_24 : decode cX3_firstWith 24 = .ok (.goto (-22), 3) := by decide +kernel
theorem dX3_firstWith_27 : decode cX3_firstWith 27 = .ok (.bipush (-5), 2) := by decide +kernel
theorem dX3_firstWith_29 : decode cX3_firstWith 29 = .ok (.ireturn, 1) := by decide +kernel
set_option maxRecDepth 20000 in
theorem ggX3_lastWith_X3_keyAt : GoodIn wsX3_lastWith wsX3_keyAt := goodIn_r _ [6, 7, 8, 9, 10, 11, 12, 13, 14, 15, 16] (by decide +kernel) (by decide +kernel)
set_option maxRecDepth 20000 in
theorem gX3_lastWith_X3_keyAt : GoodIn wsX3_lastWith (wsV RX3 48 RX3 yX3_keyAt wsX3_keyAt) := goodIn_app (goodIn_of _ (by decide +kernel)) ggX3_lastWith_X3_keyAt
theorem dX3_lastWith_0 : decode cX3_lastWith 0 = .ok (.aload_n 0, 1) := by decide +kernel
theorem dX3_lastWith_1 : decode cX3_lastWith 1 = .ok (.getfield 24, 3) := by decide +kernel
theorem dX3_lastWith_4 : decode cX3_lastWith 4 = .ok (.iconst 1, 1) := by decide +kernel
theorem dX3_lastWith_5 : decode cX3_lastWith 5 = .ok (.isub, 1) := by decide +kernel
theorem dX3_lastWith_6 : decode cX3_lastWith 6 = .ok (.istore_n 2, 1) := by decide +kernel
theorem dX3_lastWith_7 : decode cX3_lastWith 7 = .ok (.iload_n 2, 1) := by decide +kernel
theorem dX3_lastWith_8 : decode cX3_lastWith 8 = .ok (.ifCond .lt 20, 3) := by decide +kernel
theorem dX3_lastWith_11 : decode cX3_lastWith 11 = .ok (.aload_n 0, 1) := by decide +kernel
theorem dX3_lastWith_12 : decode cX3_lastWith 12 = .ok (.iload_n 2, 1) := by decide +kernel
theorem dX3_lastWith_13 : decode cX3_lastWith 13 = .ok (.invokevirtual 48, 3) := by decide +kernel
theorem dX3_lastWith_16 : decode cX3_lastWith 16 = .ok (.iload_n 1, 1) := by decide +kernel
theorem dX3_lastWith_17 : decode cX3_lastWith 17 = .ok (.if_icmp .ne 5, 3) := by decide +kernel
theorem dX3_lastWith_20 : decode cX3_lastWith 20 = .ok (.iload_n 2, 1) := by decide +kernel
theorem dX3_lastWith_21 : decode cX3_lastWith 21 = .ok (.ireturn, 1) := by decide +kernel
theorem dX3_lastWith_22 : decode cX3_lastWith 22 = .ok (.iinc 2 (-1), 3) := by decide +kernel
theorem dX3_lastWith_25 : decode cX3_lastWith 25 = .ok (.goto (-18), 3) := by decide +kernel
theorem dX3_lastWith_28 : decode cX3_lastWith 28 = .ok (.bipush (-5), 2) := by decide +kernel
theorem dX3_lastWith_30 : decode cX3_lastWith 30 = .ok (.ireturn, 1) := by decide +kernel
set_option maxRecDepth 20000 in
theorem ggX3_lightestWith_X3_keyAt : GoodIn wsX3_lightestWith wsX3_keyAt := goodIn_r _ [6, 7, 8, 9, 10, 16, 17, 18, 19, 20, 21] (by decide +kernel) (by decide +kernel)
set_option maxRecDepth 20000 in
theorem gX3_lightestWith_X3_keyAt : GoodIn wsX3_lightestWith (wsV RX3 48 RX3 yX3_keyAt wsX3_keyAt) := goodIn_app (goodIn_of _ (by decide +kernel)) ggX3_lightestWith_X3_keyAt
set_option maxRecDepth 20000 in
theorem ggX3_lightestWith_X3_weightAt : GoodIn wsX3_lightestWith wsX3_weightAt := goodIn_r _ [14, 15, 8, 9, 10, 16, 17, 18, 19, 20, 21] (by decide +kernel) (by decide +kernel)
set_option maxRecDepth 20000 in
theorem gX3_lightestWith_X3_weightAt : GoodIn wsX3_lightestWith (wsV RX3 55 RX3 yX3_weightAt wsX3_weightAt) := goodIn_app (goodIn_of _ (by decide +kernel)) ggX3_lightestWith_X3_weightAt
theorem dX3_lightestWith_0 : decode cX3_lightestWith 0 = .ok (.bipush (-5), 2) := by decide +kernel
theorem dX3_lightestWith_2 : decode cX3_lightestWith 2 = .ok (.istore_n 2, 1) := by decide +kernel
theorem dX3_lightestWith_3 : decode cX3_lightestWith 3 = .ok (.iconst 0, 1) := by decide +kernel
theorem dX3_lightestWith_4 : decode cX3_lightestWith 4 = .ok (.istore_n 3, 1) := by decide +kernel
theorem dX3_lightestWith_5 : decode cX3_lightestWith 5 = .ok (.iload_n 3, 1) := by decide +kernel
theorem dX3_lightestWith_6 : decode cX3_lightestWith 6 = .ok (.aload_n 0, 1) := by decide +kernel
theorem dX3_lightestWith_7 : decode cX3_lightestWith 7 = .ok (.getfield 24, 3) := by decide +kernel
theorem dX3_lightestWith_10 : decode cX3_lightestWith 10 = .ok (.if_icmp .ge 39, 3) := by decide +kernel
theorem dX3_lightestWith_13 : decode cX3_lightestWith 13 = .ok (.aload_n 0, 1) := by decide +kernel
theorem dX3_lightestWith_14 : decode cX3_lightestWith 14 = .ok (.iload_n 3, 1) := by decide +kernel
theorem dX3_lightestWith_15 : decode cX3_lightestWith 15 = .ok (.invokevirtual 48, 3) := by decide +kernel
theorem dX3_lightestWith_18 : decode cX3_lightestWith 18 = .ok (.iload_n 1, 1) := by decide +kernel
theorem dX3_lightestWith_19 : decode cX3_lightestWith 19 = .ok (.if_icmp .ne 24, 3) := by decide +kernel
theorem dX3_lightestWith_22 : decode cX3_lightestWith 22 = .ok (.iload_n 2, 1) := by decide +kernel
theorem dX3_lightestWith_23 : decode cX3_lightestWith 23 = .ok (.bipush (-5), 2) := by decide +kernel
theorem dX3_lightestWith_25 : decode cX3_lightestWith 25 = .ok (.if_icmp .eq 16, 3) := by decide +kernel
theorem dX3_lightestWith_28 : decode cX3_lightestWith 28 = .ok (.aload_n 0, 1) := by decide +kernel
theorem dX3_lightestWith_29 : decode cX3_lightestWith 29 = .ok (.iload_n 3, 1) := by decide +kernel
theorem dX3_lightestWith_30 : decode cX3_lightestWith 30 = .ok (.invokevirtual 55, 3) := by decide +kernel
theorem dX3_lightestWith_33 : decode cX3_lightestWith 33 = .ok (.aload_n 0, 1) := by decide +kernel
theorem dX3_lightestWith_34 : decode cX3_lightestWith 34 = .ok (.iload_n 2, 1) := by decide +kernel
theorem dX3_lightestWith_35 : decode cX3_lightestWith 35 = .ok (.invokevirtual 55, 3) := by decide +kernel
theorem dX3_lightestWith_38 : decode cX3_lightestWith 38 = .ok (.if_icmp .ge 5, 3) := by decide +kernel
theorem dX3_lightestWith_41 : decode cX3_lightestWith 41 = .ok (.iload_n 3, 1) := by decide +kernel
theorem dX3_lightestWith_42 : decode cX3_lightestWith 42 = .ok (.istore_n 2, 1) := by decide +kernel
theorem dX3_lightestWith_43 : decode cX3_lightestWith 43 = .ok (.iinc 3 1, 3) := by decide +kernel
theorem dX3_lightestWith_46 : decode cX3_lightestWith 46 = .ok (.goto (-41), 3) := by decide +kernel
theorem dX3_lightestWith_49 : decode cX3_lightestWith 49 = .ok (.iload_n 2, 1) := by decide +kernel
theorem dX3_lightestWith_50 : decode cX3_lightestWith 50 = .ok (.ireturn, 1) := by decide +kernel
set_option maxRecDepth 20000 in
theorem ggX3_heaviestWith_X3_keyAt : GoodIn wsX3_heaviestWith wsX3_keyAt := goodIn_r _ [6, 7, 8, 9, 10, 16, 17, 18, 19, 20, 21] (by decide +kernel) (by decide +kernel)
set_option maxRecDepth 20000 in
theorem gX3_heaviestWith_X3_keyAt : GoodIn wsX3_heaviestWith (wsV RX3 48 RX3 yX3_keyAt wsX3_keyAt) := goodIn_app (goodIn_of _ (by decide +kernel)) ggX3_heaviestWith_X3_keyAt
set_option maxRecDepth 20000 in
theorem ggX3_heaviestWith_X3_weightAt : GoodIn wsX3_heaviestWith wsX3_weightAt := goodIn_r _ [14, 15, 8, 9, 10, 16, 17, 18, 19, 20, 21] (by decide +kernel) (by decide +kernel)
set_option maxRecDepth 20000 in
theorem gX3_heaviestWith_X3_weightAt : GoodIn wsX3_heaviestWith (wsV RX3 55 RX3 yX3_weightAt wsX3_weightAt) := goodIn_app (goodIn_of _ (by decide +kernel)) ggX3_heaviestWith_X3_weightAt
theorem dX3_heaviestWith_0 : decode cX3_heaviestWith 0 = .ok (.bipush (-5), 2) := by decide +kernel
theorem dX3_heaviestWith_2 : decode cX3_heaviestWith 2 = .ok (.istore_n 2, 1) := by decide +kernel
theorem dX3_heaviestWith_3 : decode cX3_heaviestWith 3 = .ok (.iconst 0, 1) := by decide +kernel
theorem dX3_heaviestWith_4 : decode cX3_heaviestWith 4 = .ok (.istore_n 3, 1) := by decide +kernel
theorem dX3_heaviestWith_5 : decode cX3_heaviestWith 5 = .ok (.iload_n 3, 1) := by decide +kernel
theorem dX3_heaviestWith_6 : decode cX3_heaviestWith 6 = .ok (.aload_n 0, 1) := by decide +kernel
theorem dX3_heaviestWith_7 : decode cX3_heaviestWith 7 = .ok (.getfield 24, 3) := by decide +kernel
theorem dX3_heaviestWith_10 : decode cX3_heaviestWith 10 = .ok (.if_icmp .ge 39, 3) := by decide +kernel
theorem dX3_heaviestWith_13 : decode cX3_heaviestWith 13 = .ok (.aload_n 0, 1) := by decide +kernel
theorem dX3_heaviestWith_14 : decode cX3_heaviestWith 14 = .ok (.iload_n 3, 1) := by decide +kernel
theorem dX3_heaviestWith_15 : decode cX3_heaviestWith 15 = .ok (.invokevirtual 48, 3) := by decide +kernel
theorem dX3_heaviestWith_18 : decode cX3_heaviestWith 18 = .ok (.iload_n 1, 1) := by decide +kernel
theorem dX3_heaviestWith_19 : decode cX3_heaviestWith 19 = .ok (.if_icmp .ne 24, 3) := by decide +kernel
theorem dX3_heaviestWith_22 : decode cX3_heaviestWith 22 = .ok (.iload_n 2, 1) := by decide +kernel
theorem dX3_heaviestWith_23 : decode cX3_heaviestWith 23 = .ok (.bipush (-5), 2) := by decide +kernel
theorem dX3_heaviestWith_25 : decode cX3_heaviestWith 25 = .ok (.if_icmp .eq 16, 3) := by decide +kernel
theorem dX3_heaviestWith_28 : decode cX3_heaviestWith 28 = .ok (.aload_n 0, 1) := by decide +kernel
theorem dX3_heaviestWith_29 : decode cX3_heaviestWith 29 = .ok (.iload_n 3, 1) := by decide +kernel
theorem dX3_heaviestWith_30 : decode cX3_heaviestWith 30 = .ok (.invokevirtual 55, 3) := by decide +kernel
theorem dX3_heaviestWith_33 : decode cX3_heaviestWith 33 = .ok (.aload_n 0, 1) := by decide +kernel
theorem dX3_heaviestWith_34 : decode cX3_heaviestWith 34 = .ok (.iload_n 2, 1) := by decide +kernel
theorem dX3_heaviestWith_35 : decode cX3_heaviestWith 35 = .ok (.invokevirtual 55, 3) := by decide +kernel
theorem dX3_heaviestWith_38 : decode cX3_heaviestWith 38 = .ok (.if_icmp .le 5, 3) := by decide +kernel
theorem dX3_heaviestWith_41 : decode cX3_heaviestWith 41 = .ok (.iload_n 3, 1) := by decide +kernel
theorem dX3_heaviestWith_42 : decode cX3_heaviestWith 42 = .ok (.istore_n 2, 1) := by decide +kernel
theorem dX3_heaviestWith_43 : decode cX3_heaviestWith 43 = .ok (.iinc 3 1, 3) := by decide +kernel
theorem dX3_heaviestWith_46 : decode cX3_heaviestWith 46 = .ok (.goto (-41), 3) := by decide +kernel
theorem dX3_heaviestWith_49 : decode cX3_heaviestWith 49 = .ok (.iload_n 2, 1) := by decide +kernel
theorem dX3_heaviestWith_50 : decode cX3_heaviestWith 50 = .ok (.ireturn, 1) := by decide +kernel
set_option maxRecDepth 20000 in
theorem ggX3_canBeKept_X3_weightAt : GoodIn wsX3_canBeKept wsX3_weightAt := goodIn_r _ [6, 7, 8, 9, 10, 21, 22, 23, 24, 25, 26] (by decide +kernel) (by decide +kernel)
set_option maxRecDepth 20000 in
theorem gX3_canBeKept_X3_weightAt : GoodIn wsX3_canBeKept (wsV RX3 55 RX3 yX3_weightAt wsX3_weightAt) := goodIn_app (goodIn_of _ (by decide +kernel)) ggX3_canBeKept_X3_weightAt
set_option maxRecDepth 20000 in
theorem ggX3_canBeKept_X3_keyAt : GoodIn wsX3_canBeKept wsX3_keyAt := goodIn_r _ [14, 15, 8, 9, 10, 21, 22, 23, 24, 25, 26] (by decide +kernel) (by decide +kernel)
set_option maxRecDepth 20000 in
theorem gX3_canBeKept_X3_keyAt : GoodIn wsX3_canBeKept (wsV RX3 48 RX3 yX3_keyAt wsX3_keyAt) := goodIn_app (goodIn_of _ (by decide +kernel)) ggX3_canBeKept_X3_keyAt
set_option maxRecDepth 20000 in
theorem ggX3_canBeKept_X3_heaviestWith : GoodIn wsX3_canBeKept wsX3_heaviestWith := goodIn_r _ [19, 20, 11, 12, 13, 5, 14, 15, 8, 9, 10, 2, 3, 4, 6, 7, 21, 22, 23, 24, 25, 26] (by decide +kernel) (by decide +kernel)
set_option maxRecDepth 20000 in
theorem gX3_canBeKept_X3_heaviestWith : GoodIn wsX3_canBeKept (wsV RX3 79 RX3 yX3_heaviestWith wsX3_heaviestWith) := goodIn_app (goodIn_of _ (by decide +kernel)) ggX3_canBeKept_X3_heaviestWith
theorem dX3_canBeKept_0 : decode cX3_canBeKept 0 = .ok (.aload_n 0, 1) := by decide +kernel
theorem dX3_canBeKept_1 : decode cX3_canBeKept 1 = .ok (.getfield 32, 3) := by decide +kernel
theorem dX3_canBeKept_4 : decode cX3_canBeKept 4 = .ok (.ifCond .eq 24, 3) := by decide +kernel
theorem dX3_canBeKept_7 : decode cX3_canBeKept 7 = .ok (.aload_n 0, 1) := by decide +kernel
theorem dX3_canBeKept_8 : decode cX3_canBeKept 8 = .ok (.iload_n 1, 1) := by decide +kernel
theorem dX3_canBeKept_9 : decode cX3_canBeKept 9 = .ok (.invokevirtual 55, 3) := by decide +kernel
theorem dX3_canBeKept_12 : decode cX3_canBeKept 12 = .ok (.aload_n 0, 1) := by decide +kernel
theorem dX3_canBeKept_13 : decode cX3_canBeKept 13 = .ok (.aload_n 0, 1) := by decide +kernel
theorem dX3_canBeKept_14 : decode cX3_canBeKept 14 = .ok (.aload_n 0, 1) := by decide +kernel
theorem dX3_canBeKept_15 : decode cX3_canBeKept 15 = .ok (.iload_n 1, 1) := by decide +kernel
theorem dX3_canBeKept_16 : decode cX3_canBeKept 16 = .ok (.invokevirtual 48, 3) := by decide +kernel
theorem dX3_canBeKept_19 : decode cX3_canBeKept 19 = .ok (.invokevirtual 79, 3) := by decide +kernel
theorem dX3_canBeKept_22 : decode cX3_canBeKept 22 = .ok (.invokevirtual 55, 3) := by decide +kernel
theorem dX3_canBeKept_25 : decode cX3_canBeKept 25 = .ok (.if_icmp .ne 7, 3) := by decide +kernel
theorem dX3_canBeKept_28 : decode cX3_canBeKept 28 = .ok (.iconst 1, 1) := by decide +kernel
theorem dX3_canBeKept_29 : decode cX3_canBeKept 29 = .ok (.goto 4, 3) := by decide +kernel
theorem dX3_canBeKept_32 : decode cX3_canBeKept 32 = .ok (.iconst 0, 1) := by decide +kernel
theorem dX3_canBeKept_33 : decode cX3_canBeKept 33 = .ok (.ireturn, 1) := by decide +kernel
theorem dX4_init_0 : decode cX4_init 0 = .ok (.aload_n 0, 1) := by decide +kernel
theorem dX4_init_1 : decode cX4_init 1 = .ok (.invokespecial 3, 3) := by decide +kernel
theorem dX4_init_4 : decode cX4_init 4 = .ok (.aload_n 0, 1) := by decide +kernel
theorem dX4_init_5 : decode cX4_init 5 = .ok (.bipush 80, 2) := by decide +kernel
theorem dX4_init_7 : decode cX4_init 7 = .ok (.newarray .char, 2) := by decide +kernel
theorem dX4_init_9 : decode cX4_init 9 = .ok (.putfield 9, 3) := by decide +kernel
theorem dX4_init_12 : decode cX4_init 12 = .ok (.return_, 1) := by decide +kernel
theorem dX4_length_0 : decode cX4_length 0 = .ok (.aload_n 0, 1) := by decide +kernel
theorem dX4_length_1 : decode cX4_length 1 = .ok (.getfield 15, 3) := by decide +kernel
theorem dX4_length_4 : decode cX4_length 4 = .ok (.ireturn, 1) := by decide +kernel
theorem dX4_append_0 : decode cX4_append 0 = .ok (.aload_n 0, 1) := by decide +kernel
theorem dX4_append_1 : decode cX4_append 1 = .ok (.getfield 15, 3) := by decide +kernel
theorem dX4_append_4 : decode cX4_append 4 = .ok (.ifCond .lt 15, 3) := by decide +kernel
theorem dX4_append_7 : decode cX4_append 7 = .ok (.aload_n 0, 1) := by decide +kernel
theorem dX4_append_8 : decode cX4_append 8 = .ok (.getfield 15, 3) := by decide +kernel
theorem dX4_append_11 : decode cX4_append 11 = .ok (.aload_n 0, 1) := by decide +kernel
theorem dX4_append_12 : decode cX4_append 12 = .ok (.getfield 9, 3) := by decide +kernel
theorem dX4_append_15 : decode cX4_append 15 = .ok (.arraylength, 1) := by decide +kernel
theorem dX4_append_16 : decode cX4_append 16 = .ok (.if_icmp .lt 5, 3) := by decide +kernel
theorem dX4_append_19 : decode cX4_append 19 = .ok (.iconst 0, 1) := by decide +kernel
theorem dX4_append_20 : decode cX4_append 20 = .ok (.ireturn, 1) := by decide +kernel
theorem dX4_append_21 : decode cX4_append 21 = .ok (.aload_n 0, 1) := by decide +kernel
theorem dX4_append_22 : decode cX4_append 22 = .ok (.getfield 9, 3) := by decide +kernel
theorem dX4_append_25 : decode cX4_append 25 = .ok (.aload_n 0, 1) := by decide +kernel
theorem dX4_append_26 : decode cX4_append 26 = .ok (.getfield 15, 3) := by decide +kernel
theorem dX4_append_29 : decode cX4_append 29 = .ok (.iload_n 1, 1) := by decide +kernel
theorem dX4_append_30 : decode cX4_append 30 = .ok (.castore, 1) := by decide +kernel
theorem dX4_append_31 : decode cX4_append 31 = .ok (.aload_n 0, 1) := by decide +kernel
theorem dX4_append_32 : decode cX4_append 32 = .ok (.dup, 1) := by decide +kernel
theorem dX4_append_33 : decode cX4_append 33 = .ok (.getfield 15, 3) := by decide +kernel
theorem dX4_append_36 : decode cX4_append 36 = .ok (.iconst 1, 1) := by decide +kernel
theorem dX4_append_37 : decode cX4_append 37 = .ok (.iadd, 1) := by decide +kernel
theorem dX4_append_38 : decode cX4_append 38 = .ok (.putfield 15, 3) := by decide +kernel
theorem dX4_append_41 : decode cX4_append 41 = .ok (.iconst 1, 1) := by decide +kernel
theorem dX4_append_42 : decode cX4_append 42 = .ok (.ireturn, 1) := by decide +kernel
theorem dX4_empty_0 : decode cX4_empty 0 = .ok (.aload_n 0, 1) := by decide +kernel
theorem dX4_empty_1 : decode cX4_empty 1 = .ok (.iconst 0, 1) := by decide +kernel
theorem dX4_empty_2 : decode cX4_empty 2 = .ok (.putfield 15, 3) := by decide +kernel
theorem dX4_empty_5 : decode cX4_empty 5 = .ok (.return_, 1) := by decide +kernel
theorem dX4_characterAt_0 : decode cX4_characterAt 0 = .ok (.iload_n 1, 1) := by decide +kernel
theorem dX4_characterAt_1 : decode cX4_characterAt 1 = .ok (.ifCond .lt 29, 3) := by decide +kernel
theorem dX4_characterAt_4 : decode cX4_characterAt 4 = .ok (.iload_n 1, 1) := by decide +kernel
theorem dX4_characterAt_5 : decode cX4_characterAt 5 = .ok (.aload_n 0, 1) := by decide +kernel
theorem dX4_characterAt_6 : decode cX4_characterAt 6 = .ok (.getfield 15, 3) := by decide +kernel
theorem dX4_characterAt_9 : decode cX4_characterAt 9 = .ok (.if_icmp .ge 21, 3) := by decide +kernel
theorem dX4_characterAt_12 : decode cX4_characterAt 12 = .ok (.iload_n 1, 1) := by decide +kernel
theorem dX4_characterAt_13 : decode cX4_characterAt 13 = .ok (.aload_n 0, 1) := by decide +kernel
theorem dX4_characterAt_14 : decode cX4_characterAt 14 = .ok (.getfield 9, 3) := by decide +kernel
theorem dX4_characterAt_17 : decode cX4_characterAt 17 = .ok (.arraylength, 1) := by decide +kernel
theorem dX4_characterAt_18 : decode cX4_characterAt 18 = .ok (.if_icmp .ge 12, 3) := by decide +kernel
theorem dX4_characterAt_21 : decode cX4_characterAt 21 = .ok (.aload_n 0, 1) := by decide +kernel
theorem dX4_characterAt_22 : decode cX4_characterAt 22 = .ok (.getfield 9, 3) := by decide +kernel
theorem dX4_characterAt_25 : decode cX4_characterAt 25 = .ok (.iload_n 1, 1) := by decide +kernel
theorem dX4_characterAt_26 : decode cX4_characterAt 26 = .ok (.caload, 1) := by decide +kernel
theorem dX4_characterAt_27 : decode cX4_characterAt 27 = .ok (.goto 5, 3) := by decide +kernel
theorem dX4_characterAt_30 : decode cX4_characterAt 30 = .ok (.bipush (-5), 2) := by decide +kernel
theorem dX4_characterAt_32 : decode cX4_characterAt 32 = .ok (.ireturn, 1) := by decide +kernel
set_option maxRecDepth 20000 in
theorem ggX5_init_X3_init : GoodIn wsX5_init wsX3_init := goodIn_r _ [27, 28, 2, 3, 29, 30, 31, 32, 33, 61, 62, 63, 64, 65, 66] (by decide +kernel) (by decide +kernel)
set_option maxRecDepth 20000 in
theorem gX5_init_X3_init_n9 : GoodIn wsX5_init (wsX3_init) := ggX5_init_X3_init
set_option maxRecDepth 20000 in
theorem ggX5_init_X0_init : GoodIn wsX5_init wsX0_init := goodIn_r _ [36, 37, 2, 3, 29, 38, 39, 40, 41, 42, 74, 75, 76, 77, 78, 79] (by decide +kernel) (by decide +kernel)
set_option maxRecDepth 20000 in
theorem gX5_init_X0_init : GoodIn wsX5_init (wsX0_init) := ggX5_init_X0_init
set_option maxRecDepth 20000 in
theorem ggX5_init_X1_init : GoodIn wsX5_init wsX1_init := goodIn_r _ [45, 46, 2, 3, 47, 48, 5, 6, 26, 27, 28, 29, 30, 31, 32, 33, 80, 81, 82, 61, 62, 63, 64, 65, 66] (by decide +kernel) (by decide +kernel)
set_option maxRecDepth 20000 in
theorem gX5_init_X1_init : GoodIn wsX5_init (wsX1_init) := ggX5_init_X1_init
set_option maxRecDepth 20000 in
theorem ggX5_init_X4_init : GoodIn wsX5_init wsX4_init := goodIn_r _ [50, 51, 2, 3, 52, 53, 83, 84] (by decide +kernel) (by decide +kernel)
set_option maxRecDepth 20000 in
theorem gX5_init_X4_init_n41 : GoodIn wsX5_init (wsX4_init) := ggX5_init_X4_init
set_option maxRecDepth 20000 in
theorem ggX5_init_X2_init : GoodIn wsX5_init wsX2_init := goodIn_r _ [56, 57, 2, 3, 58, 5, 6, 59, 60, 26, 27, 28, 29, 30, 31, 32, 33, 61, 62, 63, 64, 65, 66, 85, 86, 87] (by decide +kernel) (by decide +kernel)
set_option maxRecDepth 20000 in
theorem gX5_init_X2_init : GoodIn wsX5_init (wsX2_init) := ggX5_init_X2_init
theorem dX5_init_0 : decode cX5_init 0 = .ok (.aload_n 0, 1) := by decide +kernel
theorem dX5_init_1 : decode cX5_init 1 = .ok (.invokespecial 1, 3) := by decide +kernel
theorem dX5_init_4 : decode cX5_init 4 = .ok (.aload_n 0, 1) := by decide +kernel
theorem dX5_init_5 : decode cX5_init 5 = .ok (.new 7, 3) := by decide +kernel
theorem dX5_init_8 : decode cX5_init 8 = .ok (.dup, 1) := by decide +kernel
theorem dX5_init_9 : decode cX5_init 9 = .ok (.invokespecial 9, 3) := by decide +kernel
theorem dX5_init_12 : decode cX5_init 12 = .ok (.putfield 10, 3) := by decide +kernel
theorem dX5_init_15 : decode cX5_init 15 = .ok (.aload_n 0, 1) := by decide +kernel
theorem dX5_init_16 : decode cX5_init 16 = .ok (.new 16, 3) := by decide +kernel
theorem dX5_init_19 : decode cX5_init 19 = .ok (.dup, 1) := by decide +kernel
theorem dX5_init_20 : decode cX5_init 20 = .ok (.aload_n 0, 1) := by decide +kernel
theorem dX5_init_21 : decode cX5_init 21 = .ok (.getfield 10, 3) := by decide +kernel
theorem dX5_init_24 : decode cX5_init 24 = .ok (.invokespecial 18, 3) := by decide +kernel
theorem dX5_init_27 : decode cX5_init 27 = .ok (.putfield 21, 3) := by decide +kernel
theorem dX5_init_30 : decode cX5_init 30 = .ok (.aload_n 0, 1) := by decide +kernel
theorem dX5_init_31 : decode cX5_init 31 = .ok (.new 25, 3) := by decide +kernel
theorem dX5_init_34 : decode cX5_init 34 = .ok (.dup, 1) := by decide +kernel
theorem dX5_init_35 : decode cX5_init 35 = .ok (.invokespecial 27, 3) := by decide +kernel
theorem dX5_init_38 : decode cX5_init 38 = .ok (.putfield 28, 3) := by decide +kernel
theorem dX5_init_41 : decode cX5_init 41 = .ok (.aload_n 0, 1) := by decide +kernel
theorem dX5_init_42 : decode cX5_init 42 = .ok (.new 7, 3) := by decide +kernel
theorem dX5_init_45 : decode cX5_init 45 = .ok (.dup, 1) := by decide +kernel
theorem dX5_init_46 : decode cX5_init 46 = .ok (.invokespecial 9, 3) := by decide +kernel
theorem dX5_init_49 : decode cX5_init 49 = .ok (.putfield 32, 3) := by decide +kernel
theorem dX5_init_52 : decode cX5_init 52 = .ok (.aload_n 0, 1) := by decide +kernel
theorem dX5_init_53 : decode cX5_init 53 = .ok (.iconst 0, 1) := by decide +kernel
theorem dX5_init_54 : decode cX5_init 54 = .ok (.putfield 35, 3) := by decide +kernel
theorem dX5_init_57 : decode cX5_init 57 = .ok (.aload_n 0, 1) := by decide +kernel
theorem dX5_init_58 : decode cX5_init 58 = .ok (.new 39, 3) := by decide +kernel
theorem dX5_init_61 : decode cX5_init 61 = .ok (.dup, 1) := by decide +kernel
theorem dX5_init_62 : decode cX5_init 62 = .ok (.invokespecial 41, 3) := by decide +kernel
theorem dX5_init_65 : decode cX5_init 65 = .ok (.putfield 42, 3) := by decide +kernel
theorem dX5_init_68 : decode cX5_init 68 = .ok (.aload_n 0, 1) := by decide +kernel
theorem dX5_init_69 : decode cX5_init 69 = .ok (.new 46, 3) := by decide +kernel
theorem dX5_init_72 : decode cX5_init 72 = .ok (.dup, 1) := by decide +kernel
theorem dX5_init_73 : decode cX5_init 73 = .ok (.aload_n 0, 1) := by decide +kernel
theorem dX5_init_74 : decode cX5_init 74 = .ok (.getfield 42, 3) := by decide +kernel
theorem dX5_init_77 : decode cX5_init 77 = .ok (.invokespecial 48, 3) := by decide +kernel
theorem dX5_init_80 : decode cX5_init 80 = .ok (.putfield 51, 3) := by decide +kernel
theorem dX5_init_83 : decode cX5_init 83 = .ok (.return_, 1) := by decide +kernel
set_option maxRecDepth 20000 in
theorem ggX5_add_X5_isKey : GoodIn wsX5_add wsX5_isKey := goodIn_r _ [6] (by decide +kernel) (by decide +kernel)
set_option maxRecDepth 20000 in
theorem gX5_add_X5_isKey : GoodIn wsX5_add (va_wsS RX5 55 yX5_isKey wsX5_isKey) := goodIn_app (goodIn_of _ (by decide +kernel)) ggX5_add_X5_isKey
set_option maxRecDepth 20000 in
theorem ggX5_add_X5_isValue : GoodIn wsX5_add wsX5_isValue := goodIn_r _ [9] (by decide +kernel) (by decide +kernel)
set_option maxRecDepth 20000 in
theorem gX5_add_X5_isValue : GoodIn wsX5_add (va_wsS RX5 59 yX5_isValue wsX5_isValue) := goodIn_app (goodIn_of _ (by decide +kernel)) ggX5_add_X5_isValue
set_option maxRecDepth 20000 in
theorem ggX5_add_X3_room : GoodIn wsX5_add wsX3_room := goodIn_r _ [14, 15, 66, 67, 68, 69, 70, 71] (by decide +kernel) (by decide +kernel)
set_option maxRecDepth 20000 in
theorem gX5_add_X3_room : GoodIn wsX5_add (wsV RX5 63 RX3 yX3_room wsX3_room) := goodIn_app (goodIn_of _ (by decide +kernel)) ggX5_add_X3_room
set_option maxRecDepth 20000 in
theorem ggX5_add_X1_remember : GoodIn wsX5_add wsX1_remember := goodIn_r _ [20, 21, 22, 23, 24, 25, 26, 27, 28, 29, 19, 30, 31, 32, 33, 34, 13, 35, 36, 37, 38, 39, 15, 40, 41, 5, 42, 43, 44, 45, 46, 47, 72, 73, 74, 66, 67, 68, 69, 70, 71] (by decide +kernel) (by decide +kernel)
set_option maxRecDepth 20000 in
theorem gX5_add_X1_remember : GoodIn wsX5_add (wsV RX5 67 RX1 yX1_remember wsX1_remember) := goodIn_app (goodIn_of _ (by decide +kernel)) ggX5_add_X1_remember
set_option maxRecDepth 20000 in
theorem ggX5_add_X3_append : GoodIn wsX5_add wsX3_append := goodIn_r _ [51, 36, 15, 37, 38, 39, 52, 11, 12, 13, 14, 53, 5, 54, 66, 67, 68, 69, 70, 71] (by decide +kernel) (by decide +kernel)
set_option maxRecDepth 20000 in
theorem gX5_add_X3_append : GoodIn wsX5_add (wsV RX5 70 RX3 yX3_append wsX3_append) := goodIn_app (goodIn_of _ (by decide +kernel)) ggX5_add_X3_append
set_option maxRecDepth 20000 in
theorem ggX5_add_X3_size : GoodIn wsX5_add wsX3_size := goodIn_r _ [58, 15, 66, 67, 68, 69, 70, 71] (by decide +kernel) (by decide +kernel)
set_option maxRecDepth 20000 in
theorem gX5_add_X3_size : GoodIn wsX5_add (wsV RX5 74 RX3 yX3_size wsX3_size) := goodIn_app (goodIn_of _ (by decide +kernel)) ggX5_add_X3_size
theorem dX5_add_0 : decode cX5_add 0 = .ok (.iload_n 1, 1) := by decide +kernel
theorem dX5_add_1 : decode cX5_add 1 = .ok (.invokestatic 55, 3) := by decide +kernel
theorem dX5_add_4 : decode cX5_add 4 = .ok (.ifCond .eq 18, 3) := by decide +kernel
theorem dX5_add_7 : decode cX5_add 7 = .ok (.iload 4, 2) := by decide +kernel
theorem dX5_add_9 : decode cX5_add 9 = .ok (.invokestatic 55, 3) := by decide +kernel
theorem dX5_add_12 : decode cX5_add 12 = .ok (.ifCond .ne 12, 3) := by decide +kernel
theorem dX5_add_15 : decode cX5_add 15 = .ok (.iload 4, 2) := by decide +kernel
theorem dX5_add_17 : decode cX5_add 17 = .ok (.bipush (-5), 2) := by decide +kernel
theorem dX5_add_19 : decode cX5_add 19 = .ok (.if_icmp .eq 5, 3) := by decide +kernel
theorem dX5_add_22 : decode cX5_add 22 = .ok (.iconst (-1), 1) := by decide +kernel
theorem dX5_add_23 : decode cX5_add 23 = .ok (.ireturn, 1) := by decide +kernel
theorem dX5_add_24 : decode cX5_add 24 = .ok (.iload_n 2, 1) := by decide +kernel
theorem dX5_add_25 : decode cX5_add 25 = .ok (.invokestatic 59, 3) := by decide +kernel
theorem dX5_add_28 : decode cX5_add 28 = .ok (.ifCond .eq 13, 3) := by decide +kernel
theorem dX5_add_31 : decode cX5_add 31 = .ok (.iload_n 3, 1) := by decide +kernel
theorem dX5_add_32 : decode cX5_add 32 = .ok (.ifCond .lt 9, 3) := by decide +kernel
theorem dX5_add_35 : decode cX5_add 35 = .ok (.iload_n 3, 1) := by decide +kernel
theorem dX5_add_36 : decode cX5_add 36 = .ok (.bipush 99, 2) := by decide +kernel
theorem dX5_add_38 : decode cX5_add 38 = .ok (.if_icmp .le 6, 3) := by decide +kernel
theorem dX5_add_41 : decode cX5_add 41 = .ok (.bipush (-2), 2) := by decide +kernel
theorem dX5_add_43 : decode cX5_add 43 = .ok (.ireturn, 1) := by decide +kernel
theorem dX5_add_44 : decode cX5_add 44 = .ok (.aload_n 0, 1) := by decide +kernel
theorem dX5_add_45 : decode cX5_add 45 = .ok (.getfield 10, 3) := by decide +kernel
theorem dX5_add_48 : decode cX5_add 48 = .ok (.invokevirtual 63, 3) := by decide +kernel
theorem dX5_add_51 : decode cX5_add 51 = .ok (.iconst 1, 1) := by decide +kernel
theorem dX5_add_52 : decode cX5_add 52 = .ok (.if_icmp .ge 6, 3) := by decide +kernel
theorem dX5_add_55 : decode cX5_add 55 = .ok (.bipush (-3), 2) := by decide +kernel
theorem dX5_add_57 : decode cX5_add 57 = .ok (.ireturn, 1) := by decide +kernel
theorem dX5_add_58 : decode cX5_add 58 = .ok (.aload_n 0, 1) := by decide +kernel
theorem dX5_add_59 : decode cX5_add 59 = .ok (.getfield 28, 3) := by decide +kernel
theorem dX5_add_62 : decode cX5_add 62 = .ok (.aload_n 0, 1) := by decide +kernel
theorem dX5_add_63 : decode cX5_add 63 = .ok (.getfield 10, 3) := by decide +kernel
theorem dX5_add_66 : decode cX5_add 66 = .ok (.invokevirtual 67, 3) := by decide +kernel
theorem dX5_add_69 : decode cX5_add 69 = .ok (.aload_n 0, 1) := by decide +kernel
theorem dX5_add_70 : decode cX5_add 70 = .ok (.getfield 10, 3) := by decide +kernel
theorem dX5_add_73 : decode cX5_add 73 = .ok (.iload_n 1, 1) := by decide +kernel
theorem dX5_add_74 : decode cX5_add 74 = .ok (.iload_n 2, 1) := by decide +kernel
theorem dX5_add_75 : decode cX5_add 75 = .ok (.iload_n 3, 1) := by decide +kernel
theorem dX5_add_76 : decode cX5_add 76 = .ok (.iload 4, 2) := by decide +kernel
theorem dX5_add_78 : decode cX5_add 78 = .ok (.invokevirtual 70, 3) := by decide +kernel
theorem dX5_add_81 : decode cX5_add 81 = .ok (.aload_n 0, 1) := by decide +kernel
theorem dX5_add_82 : decode cX5_add 82 = .ok (.getfield 10, 3) := by decide +kernel
theorem dX5_add_85 : decode cX5_add 85 = .ok (.invokevirtual 74, 3) := by decide +kernel
theorem dX5_add_88 : decode cX5_add 88 = .ok (.iconst 1, 1) := by decide +kernel
theorem dX5_add_89 : decode cX5_add 89 = .ok (.isub, 1) := by decide +kernel
theorem dX5_add_90 : decode cX5_add 90 = .ok (.ireturn, 1) := by decide +kernel
set_option maxRecDepth 20000 in
theorem ggX5_readRows_X2_readAll : GoodIn wsX5_readRows wsX2_readAll := goodIn_r _ [8, 9, 10, 11, 12, 13, 14, 15, 16, 17, 18, 19, 20, 7, 21, 22, 23, 24, 25, 26, 27, 28, 29, 30, 31, 32, 33, 34, 35, 36, 37, 38, 39, 40, 41, 42, 43, 44, 45, 46, 47, 48, 49, 50, 51, 52, 53, 54, 55, 56, 57, 58, 59, 131, 132, 133, 134, 135, 136, 137, 138, 139, 140, 141] (by decide +kernel) (by decide +kernel)
set_option maxRecDepth 20000 in
theorem gX5_readRows_X2_readAll : GoodIn wsX5_readRows (wsV RX5 77 RX2 yX2_readAll wsX2_readAll) := goodIn_app (goodIn_of _ (by decide +kernel)) ggX5_readRows_X2_readAll
set_option maxRecDepth 20000 in
theorem ggX5_readRows_X2_position : GoodIn wsX5_readRows wsX2_position := goodIn_r _ [63, 9, 131, 132, 133] (by decide +kernel) (by decide +kernel)
set_option maxRecDepth 20000 in
theorem gX5_readRows_X2_position : GoodIn wsX5_readRows (wsV RX5 81 RX2 yX2_position wsX2_position) := goodIn_app (goodIn_of _ (by decide +kernel)) ggX5_readRows_X2_position
set_option maxRecDepth 20000 in
theorem ggX5_readRows_X3_room : GoodIn wsX5_readRows wsX3_room := goodIn_r _ [52, 17, 134, 135, 136, 137, 138, 139] (by decide +kernel) (by decide +kernel)
set_option maxRecDepth 20000 in
theorem gX5_readRows_X3_room : GoodIn wsX5_readRows (wsV RX5 63 RX3 yX3_room wsX3_room) := goodIn_app (goodIn_of _ (by decide +kernel)) ggX5_readRows_X3_room
set_option maxRecDepth 20000 in
theorem ggX5_readRows_X2_rowsRead : GoodIn wsX5_readRows wsX2_rowsRead := goodIn_r _ [68, 10, 131, 132, 133] (by decide +kernel) (by decide +kernel)
set_option maxRecDepth 20000 in
theorem gX5_readRows_X2_rowsRead : GoodIn wsX5_readRows (wsV RX5 84 RX2 yX2_rowsRead wsX2_rowsRead) := goodIn_app (goodIn_of _ (by decide +kernel)) ggX5_readRows_X2_rowsRead
set_option maxRecDepth 20000 in
theorem ggX5_readRows_X3_size : GoodIn wsX5_readRows wsX3_size := goodIn_r _ [72, 17, 134, 135, 136, 137, 138, 139] (by decide +kernel) (by decide +kernel)
set_option maxRecDepth 20000 in
theorem gX5_readRows_X3_size : GoodIn wsX5_readRows (wsV RX5 74 RX3 yX3_size wsX3_size) := goodIn_app (goodIn_of _ (by decide +kernel)) ggX5_readRows_X3_size
set_option maxRecDepth 20000 in
theorem ggX5_readRows_X1_remember : GoodIn wsX5_readRows wsX1_remember := goodIn_r _ [77, 78, 79, 80, 81, 82, 83, 84, 85, 86, 76, 87, 88, 89, 90, 91, 15, 92, 45, 46, 47, 48, 17, 93, 94, 54, 95, 96, 97, 98, 99, 100, 142, 143, 144, 134, 135, 136, 137, 138, 139] (by decide +kernel) (by decide +kernel)
set_option maxRecDepth 20000 in
theorem gX5_readRows_X1_remember : GoodIn wsX5_readRows (wsV RX5 67 RX1 yX1_remember wsX1_remember) := goodIn_app (goodIn_of _ (by decide +kernel)) ggX5_readRows_X1_remember
set_option maxRecDepth 20000 in
theorem ggX5_readRows_X3_appendAll : GoodIn wsX5_readRows wsX3_appendAll := goodIn_r _ [104, 17, 105, 106, 107, 15, 108, 45, 109, 54, 110, 111, 112, 113, 114, 46, 115, 116, 117, 118, 47, 119, 120, 121, 122, 48, 123, 42, 43, 44, 49, 50, 51, 52, 53, 55, 134, 135, 136, 137, 138, 139] (by decide +kernel) (by decide +kernel)
set_option maxRecDepth 20000 in
theorem gX5_readRows_X3_appendAll : GoodIn wsX5_readRows (wsV RX5 88 RX3 yX3_appendAll wsX3_appendAll) := goodIn_app (goodIn_of _ (by decide +kernel)) ggX5_readRows_X3_appendAll
theorem dX5_readRows_0 : decode cX5_readRows 0 = .ok (.aload_n 0, 1) := by decide +kernel
theorem dX5_readRows_1 : decode cX5_readRows 1 = .ok (.getfield 51, 3) := by decide +kernel
theorem dX5_readRows_4 : decode cX5_readRows 4 = .ok (.invokevirtual 77, 3) := by decide +kernel
theorem dX5_readRows_7 : decode cX5_readRows 7 = .ok (.ifCond .ne 14, 3) := by decide +kernel
theorem dX5_readRows_10 : decode cX5_readRows 10 = .ok (.bipush (-100), 2) := by decide +kernel
theorem dX5_readRows_12 : decode cX5_readRows 12 = .ok (.aload_n 0, 1) := by decide +kernel
theorem dX5_readRows_13 : decode cX5_readRows 13 = .ok (.getfield 51, 3) := by decide +kernel
theorem dX5_readRows_16 : decode cX5_readRows 16 = .ok (.invokevirtual 81, 3) := by decide +kernel
theorem dX5_readRows_19 : decode cX5_readRows 19 = .ok (.isub, 1) := by decide +kernel
theorem dX5_readRows_20 : decode cX5_readRows 20 = .ok (.ireturn, 1) := by decide +kernel
theorem dX5_readRows_21 : decode cX5_readRows 21 = .ok (.aload_n 0, 1) := by decide +kernel
theorem dX5_readRows_22 : decode cX5_readRows 22 = .ok (.getfield 10, 3) := by decide +kernel
theorem dX5_readRows_25 : decode cX5_readRows 25 = .ok (.invokevirtual 63, 3) := by decide +kernel
theorem dX5_readRows_28 : decode cX5_readRows 28 = .ok (.aload_n 0, 1) := by decide +kernel
theorem dX5_readRows_29 : decode cX5_readRows 29 = .ok (.getfield 51, 3) := by decide +kernel
theorem dX5_readRows_32 : decode cX5_readRows 32 = .ok (.invokevirtual 84, 3) := by decide +kernel
theorem dX5_readRows_35 : decode cX5_readRows 35 = .ok (.invokevirtual 74, 3) := by decide +kernel
theorem dX5_readRows_38 : decode cX5_readRows 38 = .ok (.if_icmp .ge 6, 3) := by decide +kernel
theorem dX5_readRows_41 : decode cX5_readRows 41 = .ok (.bipush (-3), 2) := by decide +kernel
theorem dX5_readRows_43 : decode cX5_readRows 43 = .ok (.ireturn, 1) := by decide +kernel
theorem dX5_readRows_44 : decode cX5_readRows 44 = .ok (.aload_n 0, 1) := by decide +kernel
theorem dX5_readRows_45 : decode cX5_readRows 45 = .ok (.getfield 28, 3) := by decide +kernel
theorem dX5_readRows_48 : decode cX5_readRows 48 = .ok (.aload_n 0, 1) := by decide +kernel
theorem dX5_readRows_49 : decode cX5_readRows 49 = .ok (.getfield 10, 3) := by decide +kernel
theorem dX5_readRows_52 : decode cX5_readRows 52 = .ok (.invokevirtual 67, 3) := by decide +kernel
theorem dX5_readRows_55 : decode cX5_readRows 55 = .ok (.aload_n 0, 1) := by decide +kernel
theorem dX5_readRows_56 : decode cX5_readRows 56 = .ok (.getfield 10, 3) := by decide +kernel
theorem dX5_readRows_59 : decode cX5_readRows 59 = .ok (.aload_n 0, 1) := by decide +kernel
theorem dX5_readRows_60 : decode cX5_readRows 60 = .ok (.getfield 51, 3) := by decide +kernel
theorem dX5_readRows_63 : decode cX5_readRows 63 = .ok (.invokevirtual 84, 3) := by decide +kernel
theorem dX5_readRows_66 : decode cX5_readRows 66 = .ok (.invokevirtual 88, 3) := by decide +kernel
theorem dX5_readRows_69 : decode cX5_readRows 69 = .ok (.aload_n 0, 1) := by decide +kernel
theorem dX5_readRows_70 : decode cX5_readRows 70 = .ok (.getfield 10, 3) := by decide +kernel
theorem dX5_readRows_73 : decode cX5_readRows 73 = .ok (.invokevirtual 74, 3) := by decide +kernel
theorem dX5_readRows_76 : decode cX5_readRows 76 = .ok (.ireturn, 1) := by decide +kernel
set_option maxRecDepth 20000 in
theorem ggX5_remove_X3_has : GoodIn wsX5_remove wsX3_has := goodIn_r _ [7, 8, 82, 83, 84, 85, 86, 87] (by decide +kernel) (by decide +kernel)
set_option maxRecDepth 20000 in
theorem gX5_remove_X3_has : GoodIn wsX5_remove (wsV RX5 91 RX3 yX3_has wsX3_has) := goodIn_app (goodIn_of _ (by decide +kernel)) ggX5_remove_X3_has
set_option maxRecDepth 20000 in
theorem ggX5_remove_X1_remember : GoodIn wsX5_remove wsX1_remember := goodIn_r _ [13, 14, 15, 16, 17, 18, 19, 20, 21, 22, 12, 23, 24, 25, 26, 27, 6, 28, 29, 30, 31, 32, 8, 33, 34, 35, 36, 37, 38, 39, 40, 41, 88, 89, 90, 82, 83, 84, 85, 86, 87] (by decide +kernel) (by decide +kernel)
set_option maxRecDepth 20000 in
theorem gX5_remove_X1_remember : GoodIn wsX5_remove (wsV RX5 67 RX1 yX1_remember wsX1_remember) := goodIn_app (goodIn_of _ (by decide +kernel)) ggX5_remove_X1_remember
set_option maxRecDepth 20000 in
theorem ggX5_remove_X3_drop : GoodIn wsX5_remove wsX3_drop := goodIn_r _ [45, 8, 46, 4, 5, 6, 7, 47, 48, 49, 50, 29, 30, 31, 32, 51, 52, 53, 54, 55, 35, 56, 57, 58, 59, 60, 61, 62, 63, 64, 65, 66, 67, 68, 69, 70, 82, 83, 84, 85, 86, 87] (by decide +kernel) (by decide +kernel)
set_option maxRecDepth 20000 in
theorem gX5_remove_X3_drop : GoodIn wsX5_remove (wsV RX5 94 RX3 yX3_drop wsX3_drop) := goodIn_app (goodIn_of _ (by decide +kernel)) ggX5_remove_X3_drop
set_option maxRecDepth 20000 in
theorem ggX5_remove_X3_size : GoodIn wsX5_remove wsX3_size := goodIn_r _ [74, 8, 82, 83, 84, 85, 86, 87] (by decide +kernel) (by decide +kernel)
set_option maxRecDepth 20000 in
theorem gX5_remove_X3_size : GoodIn wsX5_remove (wsV RX5 74 RX3 yX3_size wsX3_size) := goodIn_app (goodIn_of _ (by decide +kernel)) ggX5_remove_X3_size
theorem dX5_remove_0 : decode cX5_remove 0 = .ok (.aload_n 0, 1) := by decide +kernel
theorem dX5_remove_1 : decode cX5_remove 1 = .ok (.getfield 10, 3) := by decide +kernel
theorem dX5_remove_4 : decode cX5_remove 4 = .ok (.iload_n 1, 1) := by decide +kernel
theorem dX5_remove_5 : decode cX5_remove 5 = .ok (.invokevirtual 91, 3) := by decide +kernel
theorem dX5_remove_8 : decode cX5_remove 8 = .ok (.ifCond .ne 5, 3) := by decide +kernel
theorem dX5_remove_11 : decode cX5_remove 11 = .ok (.iconst (-1), 1) := by decide +kernel
theorem dX5_remove_12 : decode cX5_remove 12 = .ok (.ireturn, 1) := by decide +kernel
theorem dX5_remove_13 : decode cX5_remove 13 = .ok (.aload_n 0, 1) := by decide +kernel
theorem dX5_remove_14 : decode cX5_remove 14 = .ok (.getfield 28, 3) := by decide +kernel
theorem dX5_remove_17 : decode cX5_remove 17 = .ok (.aload_n 0, 1) := by decide +kernel
theorem dX5_remove_18 : decode cX5_remove 18 = .ok (.getfield 10, 3) := by decide +kernel
theorem dX5_remove_21 : decode cX5_remove 21 = .ok (.invokevirtual 67, 3) := by decide +kernel
theorem dX5_remove_24 : decode cX5_remove 24 = .ok (.aload_n 0, 1) := by decide +kernel
theorem dX5_remove_25 : decode cX5_remove 25 = .ok (.getfield 10, 3) := by decide +kernel
theorem dX5_remove_28 : decode cX5_remove 28 = .ok (.iload_n 1, 1) := by decide +kernel
theorem dX5_remove_29 : decode cX5_remove 29 = .ok (.invokevirtual 94, 3) := by decide +kernel
theorem dX5_remove_32 : decode cX5_remove 32 = .ok (.aload_n 0, 1) := by decide +kernel
theorem dX5_remove_33 : decode cX5_remove 33 = .ok (.getfield 10, 3) := by decide +kernel
theorem dX5_remove_36 : decode cX5_remove 36 = .ok (.invokevirtual 74, 3) := by decide +kernel
theorem dX5_remove_39 : decode cX5_remove 39 = .ok (.ireturn, 1) := by decide +kernel
set_option maxRecDepth 20000 in
theorem ggX5_mend_X3_has : GoodIn wsX5_mend wsX3_has := goodIn_r _ [7, 8, 83, 84, 85, 86, 87, 88] (by decide +kernel) (by decide +kernel)
set_option maxRecDepth 20000 in
theorem gX5_mend_X3_has : GoodIn wsX5_mend (wsV RX5 91 RX3 yX3_has wsX3_has) := goodIn_app (goodIn_of _ (by decide +kernel)) ggX5_mend_X3_has
set_option maxRecDepth 20000 in
theorem ggX5_mend_X3_keyAt : GoodIn wsX5_mend wsX3_keyAt := goodIn_r _ [12, 13, 14, 15, 16, 83, 84, 85, 86, 87, 88] (by decide +kernel) (by decide +kernel)
set_option maxRecDepth 20000 in
theorem gX5_mend_X3_keyAt : GoodIn wsX5_mend (wsV RX5 98 RX3 yX3_keyAt wsX3_keyAt) := goodIn_app (goodIn_of _ (by decide +kernel)) ggX5_mend_X3_keyAt
set_option maxRecDepth 20000 in
theorem ggX5_mend_X3_rowsWith : GoodIn wsX5_mend wsX3_rowsWith := goodIn_r _ [20, 8, 21, 10, 11, 6, 12, 13, 14, 15, 16, 83, 84, 85, 86, 87, 88] (by decide +kernel) (by decide +kernel)
set_option maxRecDepth 20000 in
theorem gX5_mend_X3_rowsWith : GoodIn wsX5_mend (wsV RX5 102 RX3 yX3_rowsWith wsX3_rowsWith) := goodIn_app (goodIn_of _ (by decide +kernel)) ggX5_mend_X3_rowsWith
set_option maxRecDepth 20000 in
theorem ggX5_mend_X1_remember : GoodIn wsX5_mend wsX1_remember := goodIn_r _ [26, 27, 28, 29, 30, 31, 32, 33, 34, 35, 25, 36, 37, 38, 39, 40, 6, 41, 13, 42, 43, 44, 8, 45, 46, 15, 47, 48, 49, 50, 51, 52, 89, 90, 91, 83, 84, 85, 86, 87, 88] (by decide +kernel) (by decide +kernel)
set_option maxRecDepth 20000 in
theorem gX5_mend_X1_remember : GoodIn wsX5_mend (wsV RX5 67 RX1 yX1_remember wsX1_remember) := goodIn_app (goodIn_of _ (by decide +kernel)) ggX5_mend_X1_remember
set_option maxRecDepth 20000 in
theorem ggX5_mend_X3_dropOthersLike : GoodIn wsX5_mend wsX3_dropOthersLike := goodIn_r _ [56, 8, 57, 4, 5, 6, 7, 21, 10, 11, 12, 13, 14, 15, 16, 58, 59, 60, 61, 42, 43, 44, 62, 63, 64, 65, 66, 67, 68, 69, 70, 71, 72, 73, 74, 75, 83, 84, 85, 86, 87, 88] (by decide +kernel) (by decide +kernel)
set_option maxRecDepth 20000 in
theorem gX5_mend_X3_dropOthersLike : GoodIn wsX5_mend (wsV RX5 105 RX3 yX3_dropOthersLike wsX3_dropOthersLike) := goodIn_app (goodIn_of _ (by decide +kernel)) ggX5_mend_X3_dropOthersLike
theorem dX5_mend_0 : decode cX5_mend 0 = .ok (.aload_n 0, 1) := by decide +kernel
theorem dX5_mend_1 : decode cX5_mend 1 = .ok (.getfield 10, 3) := by decide +kernel
theorem dX5_mend_4 : decode cX5_mend 4 = .ok (.iload_n 1, 1) := by decide +kernel
theorem dX5_mend_5 : decode cX5_mend 5 = .ok (.invokevirtual 91, 3) := by decide +kernel
theorem dX5_mend_8 : decode cX5_mend 8 = .ok (.ifCond .ne 5, 3) := by decide +kernel
theorem dX5_mend_11 : decode cX5_mend 11 = .ok (.iconst (-1), 1) := by decide +kernel
theorem dX5_mend_12 : decode cX5_mend 12 = .ok (.ireturn, 1) := by decide +kernel
theorem dX5_mend_13 : decode cX5_mend 13 = .ok (.aload_n 0, 1) := by decide +kernel
theorem dX5_mend_14 : decode cX5_mend 14 = .ok (.getfield 10, 3) := by decide +kernel
theorem dX5_mend_17 : decode cX5_mend 17 = .ok (.aload_n 0, 1) := by decide +kernel
theorem dX5_mend_18 : decode cX5_mend 18 = .ok (.getfield 10, 3) := by decide +kernel
theorem dX5_mend_21 : decode cX5_mend 21 = .ok (.iload_n 1, 1) := by decide +kernel
theorem dX5_mend_22 : decode cX5_mend 22 = .ok (.invokevirtual 98, 3) := by decide +kernel
theorem dX5_mend_25 : decode cX5_mend 25 = .ok (.invokevirtual 102, 3) := by decide +kernel
theorem dX5_mend_28 : decode cX5_mend 28 = .ok (.iconst 1, 1) := by decide +kernel
theorem dX5_mend_29 : decode cX5_mend 29 = .ok (.isub, 1) := by decide +kernel
theorem dX5_mend_30 : decode cX5_mend 30 = .ok (.istore_n 2, 1) := by decide +kernel
theorem dX5_mend_31 : decode cX5_mend 31 = .ok (.iload_n 2, 1) := by decide +kernel
theorem dX5_mend_32 : decode cX5_mend 32 = .ok (.ifCond .ne 6, 3) := by decide +kernel
theorem dX5_mend_35 : decode cX5_mend 35 = .ok (.bipush (-5), 2) := by decide +kernel
theorem dX5_mend_37 : decode cX5_mend 37 = .ok (.ireturn, 1) := by decide +kernel
theorem dX5_mend_38 : decode cX5_mend 38 = .ok (.aload_n 0, 1) := by decide +kernel
theorem dX5_mend_39 : decode cX5_mend 39 = .ok (.getfield 28, 3) := by decide +kernel
theorem dX5_mend_42 : decode cX5_mend 42 = .ok (.aload_n 0, 1) := by decide +kernel
theorem dX5_mend_43 : decode cX5_mend 43 = .ok (.getfield 10, 3) := by decide +kernel
theorem dX5_mend_46 : decode cX5_mend 46 = .ok (.invokevirtual 67, 3) := by decide +kernel
theorem dX5_mend_49 : decode cX5_mend 49 = .ok (.aload_n 0, 1) := by decide +kernel
theorem dX5_mend_50 : decode cX5_mend 50 = .ok (.getfield 10, 3) := by decide +kernel
theorem dX5_mend_53 : decode cX5_mend 53 = .ok (.iload_n 1, 1) := by decide +kernel
theorem dX5_mend_54 : decode cX5_mend 54 = .ok (.invokevirtual 105, 3) := by decide +kernel
theorem dX5_mend_57 : decode cX5_mend 57 = .ok (.iload_n 2, 1) := by decide +kernel
theorem dX5_mend_58 : decode cX5_mend 58 = .ok (.ireturn, 1) := by decide +kernel
set_option maxRecDepth 20000 in
theorem ggX5_mendAll_X3_doubledKeys : GoodIn wsX5_mendAll wsX3_doubledKeys := goodIn_r _ [7, 8, 9, 10, 6, 11, 12, 13, 14, 15, 16, 17, 18, 19, 20, 21, 22, 23, 24, 109, 110, 111, 112, 113, 114] (by decide +kernel) (by decide +kernel)
set_option maxRecDepth 20000 in
theorem gX5_mendAll_X3_doubledKeys : GoodIn wsX5_mendAll (wsV RX5 108 RX3 yX3_doubledKeys wsX3_doubledKeys) := goodIn_app (goodIn_of _ (by decide +kernel)) ggX5_mendAll_X3_doubledKeys
set_option maxRecDepth 20000 in
theorem ggX5_mendAll_X1_remember : GoodIn wsX5_mendAll wsX1_remember := goodIn_r _ [29, 30, 31, 32, 33, 34, 35, 36, 37, 38, 28, 39, 40, 41, 42, 43, 6, 44, 21, 45, 46, 47, 16, 48, 49, 23, 50, 51, 52, 53, 54, 55, 115, 116, 117, 109, 110, 111, 112, 113, 114] (by decide +kernel) (by decide +kernel)
set_option maxRecDepth 20000 in
theorem gX5_mendAll_X1_remember : GoodIn wsX5_mendAll (wsV RX5 67 RX1 yX1_remember wsX1_remember) := goodIn_app (goodIn_of _ (by decide +kernel)) ggX5_mendAll_X1_remember
set_option maxRecDepth 20000 in
theorem ggX5_mendAll_X3_size : GoodIn wsX5_mendAll wsX3_size := goodIn_r _ [59, 16, 109, 110, 111, 112, 113, 114] (by decide +kernel) (by decide +kernel)
set_option maxRecDepth 20000 in
theorem gX5_mendAll_X3_size : GoodIn wsX5_mendAll (wsV RX5 74 RX3 yX3_size wsX3_size) := goodIn_app (goodIn_of _ (by decide +kernel)) ggX5_mendAll_X3_size
set_option maxRecDepth 20000 in
theorem ggX5_mendAll_X5_chosenBy : GoodIn wsX5_mendAll wsX5_chosenBy := goodIn_r _ [63, 1, 64, 65, 66, 6, 67, 16, 17, 18, 19, 20, 21, 22, 23, 24, 68, 69, 70, 71, 72, 73, 74, 75, 76, 77, 78, 79, 46, 102, 103, 104, 105, 106, 107, 108, 109, 110, 111, 112, 113, 114] (by decide +kernel) (by decide +kernel)
set_option maxRecDepth 20000 in
theorem gX5_mendAll_X5_chosenBy : GoodIn wsX5_mendAll (wsV RX5 111 RX5 yX5_chosenBy wsX5_chosenBy) := goodIn_app (goodIn_of _ (by decide +kernel)) ggX5_mendAll_X5_chosenBy
set_option maxRecDepth 20000 in
theorem ggX5_mendAll_X3_dropOthersLike : GoodIn wsX5_mendAll wsX3_dropOthersLike := goodIn_r _ [83, 16, 84, 85, 86, 6, 87, 17, 18, 19, 20, 21, 22, 23, 24, 88, 89, 90, 91, 45, 46, 47, 92, 93, 94, 95, 96, 97, 76, 77, 78, 79, 98, 99, 100, 101, 109, 110, 111, 112, 113, 114] (by decide +kernel) (by decide +kernel)
set_option maxRecDepth 20000 in
theorem gX5_mendAll_X3_dropOthersLike : GoodIn wsX5_mendAll (wsV RX5 105 RX3 yX3_dropOthersLike wsX3_dropOthersLike) := goodIn_app (goodIn_of _ (by decide +kernel)) ggX5_mendAll_X3_dropOthersLike
theorem dX5_mendAll_0 : decode cX5_mendAll 0 = .ok (.iload_n 1, 1) := by decide +kernel
theorem dX5_mendAll_1 : decode cX5_mendAll 1 = .ok (.ifCond .lt 8, 3) := by decide +kernel
theorem dX5_mendAll_4 : decode cX5_mendAll 4 = .ok (.iload_n 1, 1) := by decide +kernel
theorem dX5_mendAll_5 : decode cX5_mendAll 5 = .ok (.iconst 2, 1) := by decide +kernel
theorem dX5_mendAll_6 : decode cX5_mendAll 6 = .ok (.if_icmp .le 6, 3) := by decide +kernel
theorem dX5_mendAll_9 : decode cX5_mendAll 9 = .ok (.bipush (-2), 2) := by decide +kernel
theorem dX5_mendAll_11 : decode cX5_mendAll 11 = .ok (.ireturn, 1) := by decide +kernel
theorem dX5_mendAll_12 : decode cX5_mendAll 12 = .ok (.aload_n 0, 1) := by decide +kernel
theorem dX5_mendAll_13 : decode cX5_mendAll 13 = .ok (.getfield 10, 3) := by decide +kernel
theorem dX5_mendAll_16 : decode cX5_mendAll 16 = .ok (.invokevirtual 108, 3) := by decide +kernel
theorem dX5_mendAll_19 : decode cX5_mendAll 19 = .ok (.ifCond .ne 6, 3) := by decide +kernel
theorem dX5_mendAll_22 : decode cX5_mendAll 22 = .ok (.bipush (-5), 2) := by decide +kernel
theorem dX5_mendAll_24 : decode cX5_mendAll 24 = .ok (.ireturn, 1) := by decide +kernel
theorem dX5_mendAll_25 : decode cX5_mendAll 25 = .ok (.aload_n 0, 1) := by decide +kernel
theorem dX5_mendAll_26 : decode cX5_mendAll 26 = .ok (.getfield 28, 3) := by decide +kernel
theorem dX5_mendAll_29 : decode cX5_mendAll 29 = .ok (.aload_n 0, 1) := by decide +kernel
theorem dX5_mendAll_30 : decode cX5_mendAll 30 = .ok (.getfield 10, 3) := by decide +kernel
theorem dX5_mendAll_33 : decode cX5_mendAll 33 = .ok (.invokevirtual 67, 3) := by decide +kernel
theorem dX5_mendAll_36 : decode cX5_mendAll 36 = .ok (.aload_n 0, 1) := by decide +kernel
theorem dX5_mendAll_37 : decode cX5_mendAll 37 = .ok (.getfield 10, 3) := by decide +kernel
theorem dX5_mendAll_40 : decode cX5_mendAll 40 = .ok (.invokevirtual 74, 3) := by decide +kernel
theorem dX5_mendAll_43 : decode cX5_mendAll 43 = .ok (.istore_n 2, 1) := by decide +kernel
theorem dX5_mendAll_44 : decode cX5_mendAll 44 = .ok (.iconst 0, 1) := by decide +kernel
theorem dX5_mendAll_45 : decode cX5_mendAll 45 = .ok (.istore_n 3, 1) := by decide +kernel
theorem dX5_mendAll_46 : decode cX5_mendAll 46 = .ok (.iload_n 3, 1) := by decide +kernel
theorem dX5_mendAll_47 : decode cX5_mendAll 47 = .ok (.bipush 10, 2) := by decide +kernel
theorem dX5_mendAll_49 : decode cX5_mendAll 49 = .ok (.if_icmp .ge 22, 3) := by decide +kernel
theorem dX5_mendAll_52 : decode cX5_mendAll 52 = .ok (.aload_n 0, 1) := by decide +kernel
theorem dX5_mendAll_53 : decode cX5_mendAll 53 = .ok (.getfield 10, 3) := by decide +kernel
theorem dX5_mendAll_56 : decode cX5_mendAll 56 = .ok (.aload_n 0, 1) := by decide +kernel
theorem dX5_mendAll_57 : decode cX5_mendAll 57 = .ok (.iload_n 1, 1) := by decide +kernel
theorem dX5_mendAll_58 : decode cX5_mendAll 58 = .ok (.iload_n 3, 1) := by decide +kernel
theorem dX5_mendAll_59 : decode cX5_mendAll 59 = .ok (.invokevirtual 111, 3) := by decide +kernel
theorem dX5_mendAll_62 : decode cX5_mendAll 62 = .ok (.invokevirtual 105, 3) := by decide +kernel
theorem dX5_mendAll_65 : decode cX5_mendAll 65 = .ok (.iinc 3 1, 3) := by decide +kernel
theorem dX5_mendAll_68 : decode cX5_mendAll 68 = .ok (.goto (-22), 3) := by decide +kernel
theorem dX5_mendAll_71 : decode cX5_mendAll 71 = .ok (.iload_n 2, 1) := by decide +kernel
theorem dX5_mendAll_72 : decode cX5_mendAll 72 = .ok (.aload_n 0, 1) := by decide +kernel
theorem dX5_mendAll_73 : decode cX5_mendAll 73 = .ok (.getfield 10, 3) := by decide +kernel
theorem dX5_mendAll_76 : decode cX5_mendAll 76 = .ok (.invokevirtual 74, 3) := by decide +kernel
theorem dX5_mendAll_79 : decode cX5_mendAll 79 = .ok (.isub, 1) := by decide +kernel
theorem dX5_mendAll_80 : decode cX5_mendAll 80 = .ok (.ireturn, 1) := by decide +kernel
set_option maxRecDepth 20000 in
theorem ggX5_prefer_X3_prefersHeaviest : GoodIn wsX5_prefer wsX3_prefersHeaviest := goodIn_r _ [7, 8, 124, 125, 126, 127, 128, 129] (by decide +kernel) (by decide +kernel)
set_option maxRecDepth 20000 in
theorem gX5_prefer_X3_prefersHeaviest : GoodIn wsX5_prefer (wsV RX5 115 RX3 yX3_prefersHeaviest wsX3_prefersHeaviest) := goodIn_app (goodIn_of _ (by decide +kernel)) ggX5_prefer_X3_prefersHeaviest
set_option maxRecDepth 20000 in
theorem ggX5_prefer_X1_remember : GoodIn wsX5_prefer wsX1_remember := goodIn_r _ [13, 14, 15, 16, 17, 18, 19, 20, 21, 22, 12, 23, 24, 25, 26, 27, 6, 28, 29, 30, 31, 32, 33, 8, 34, 35, 36, 37, 38, 39, 40, 41, 130, 131, 132, 124, 125, 126, 127, 128, 129] (by decide +kernel) (by decide +kernel)
set_option maxRecDepth 20000 in
theorem gX5_prefer_X1_remember : GoodIn wsX5_prefer (wsV RX5 67 RX1 yX1_remember wsX1_remember) := goodIn_app (goodIn_of _ (by decide +kernel)) ggX5_prefer_X1_remember
set_option maxRecDepth 20000 in
theorem ggX5_prefer_X3_setPreference : GoodIn wsX5_prefer wsX3_setPreference := goodIn_r _ [45, 8, 124, 125, 126, 127, 128, 129] (by decide +kernel) (by decide +kernel)
set_option maxRecDepth 20000 in
theorem gX5_prefer_X3_setPreference : GoodIn wsX5_prefer (wsV RX5 118 RX3 yX3_setPreference wsX3_setPreference) := goodIn_app (goodIn_of _ (by decide +kernel)) ggX5_prefer_X3_setPreference
set_option maxRecDepth 20000 in
theorem ggX5_prefer_X5_choicesNow : GoodIn wsX5_prefer wsX5_choicesNow := goodIn_r _ [49, 50, 51, 52, 53, 54, 55, 56, 57, 58, 59, 60, 61, 62, 63, 64, 65, 66, 67, 6, 68, 33, 69, 70, 71, 72, 8, 73, 74, 75, 76, 31, 77, 35, 78, 79, 80, 81, 82, 29, 83, 84, 85, 86, 87, 88, 89, 90, 91, 92, 93, 94, 95, 96, 97, 98, 99, 100, 101, 102, 103, 104, 105, 106, 32, 107, 108, 109, 110, 111, 112, 117, 118, 119, 120, 121, 122, 123, 133, 134, 135, 136, 137, 138, 124, 125, 126, 127, 128, 129] (by decide +kernel) (by decide +kernel)
set_option maxRecDepth 20000 in
theorem gX5_prefer_X5_choicesNow : GoodIn wsX5_prefer (wsV RX5 122 RX5 yX5_choicesNow wsX5_choicesNow) := goodIn_app (goodIn_of _ (by decide +kernel)) ggX5_prefer_X5_choicesNow
set_option maxRecDepth 20000 in
theorem ggX5_prefer_X0_mendings : GoodIn wsX5_prefer wsX0_mendings := goodIn_r _ [116, 59, 133, 134, 135, 136, 137, 138] (by decide +kernel) (by decide +kernel)
set_option maxRecDepth 20000 in
theorem gX5_prefer_X0_mendings : GoodIn wsX5_prefer (wsV RX5 126 RX0 yX0_mendings wsX0_mendings) := goodIn_app (goodIn_of _ (by decide +kernel)) ggX5_prefer_X0_mendings
theorem dX5_prefer_0 : decode cX5_prefer 0 = .ok (.iload_n 1, 1) := by decide +kernel
theorem dX5_prefer_1 : decode cX5_prefer 1 = .ok (.aload_n 0, 1) := by decide +kernel
theorem dX5_prefer_2 : decode cX5_prefer 2 = .ok (.getfield 10, 3) := by decide +kernel
theorem dX5_prefer_5 : decode cX5_prefer 5 = .ok (.invokevirtual 115, 3) := by decide +kernel
theorem dX5_prefer_8 : decode cX5_prefer 8 = .ok (.if_icmp .ne 6, 3) := by decide +kernel
theorem dX5_prefer_11 : decode cX5_prefer 11 = .ok (.bipush (-5), 2) := by decide +kernel
theorem dX5_prefer_13 : decode cX5_prefer 13 = .ok (.ireturn, 1) := by decide +kernel
theorem dX5_prefer_14 : decode cX5_prefer 14 = .ok (.aload_n 0, 1) := by decide +kernel
theorem dX5_prefer_15 : decode cX5_prefer 15 = .ok (.getfield 28, 3) := by decide +kernel
theorem dX5_prefer_18 : decode cX5_prefer 18 = .ok (.aload_n 0, 1) := by decide +kernel
theorem dX5_prefer_19 : decode cX5_prefer 19 = .ok (.getfield 10, 3) := by decide +kernel
theorem dX5_prefer_22 : decode cX5_prefer 22 = .ok (.invokevirtual 67, 3) := by decide +kernel
theorem dX5_prefer_25 : decode cX5_prefer 25 = .ok (.aload_n 0, 1) := by decide +kernel
theorem dX5_prefer_26 : decode cX5_prefer 26 = .ok (.getfield 10, 3) := by decide +kernel
theorem dX5_prefer_29 : decode cX5_prefer 29 = .ok (.iload_n 1, 1) := by decide +kernel
theorem dX5_prefer_30 : decode cX5_prefer 30 = .ok (.invokevirtual 118, 3) := by decide +kernel
theorem dX5_prefer_33 : decode cX5_prefer 33 = .ok (.aload_n 0, 1) := by decide +kernel
theorem dX5_prefer_34 : decode cX5_prefer 34 = .ok (.invokevirtual 122, 3) := by decide +kernel
theorem dX5_prefer_37 : decode cX5_prefer 37 = .ok (.invokevirtual 126, 3) := by decide +kernel
theorem dX5_prefer_40 : decode cX5_prefer 40 = .ok (.ireturn, 1) := by decide +kernel
set_option maxRecDepth 20000 in
theorem ggX5_type_X4_append : GoodIn wsX5_type wsX4_append := goodIn_r _ [6, 7, 8, 20, 21] (by decide +kernel) (by decide +kernel)
set_option maxRecDepth 20000 in
theorem gX5_type_X4_append : GoodIn wsX5_type (wsV RX5 129 RX4 yX4_append wsX4_append) := goodIn_app (goodIn_of _ (by decide +kernel)) ggX5_type_X4_append
set_option maxRecDepth 20000 in
theorem ggX5_type_X4_length : GoodIn wsX5_type wsX4_length := goodIn_r _ [12, 7, 20, 21] (by decide +kernel) (by decide +kernel)
set_option maxRecDepth 20000 in
theorem gX5_type_X4_length : GoodIn wsX5_type (wsV RX5 131 RX4 yX4_length wsX4_length) := goodIn_app (goodIn_of _ (by decide +kernel)) ggX5_type_X4_length
theorem dX5_type_0 : decode cX5_type 0 = .ok (.aload_n 0, 1) := by decide +kernel
theorem dX5_type_1 : decode cX5_type 1 = .ok (.getfield 42, 3) := by decide +kernel
theorem dX5_type_4 : decode cX5_type 4 = .ok (.iload_n 1, 1) := by decide +kernel
theorem dX5_type_5 : decode cX5_type 5 = .ok (.invokevirtual 129, 3) := by decide +kernel
theorem dX5_type_8 : decode cX5_type 8 = .ok (.ifCond .eq 13, 3) := by decide +kernel
theorem dX5_type_11 : decode cX5_type 11 = .ok (.aload_n 0, 1) := by decide +kernel
theorem dX5_type_12 : decode cX5_type 12 = .ok (.getfield 42, 3) := by decide +kernel
theorem dX5_type_15 : decode cX5_type 15 = .ok (.invokevirtual 131, 3) := by decide +kernel
theorem dX5_type_18 : decode cX5_type 18 = .ok (.goto 5, 3) := by decide +kernel
theorem dX5_type_21 : decode cX5_type 21 = .ok (.bipush (-3), 2) := by decide +kernel
theorem dX5_type_23 : decode cX5_type 23 = .ok (.ireturn, 1) := by decide +kernel
set_option maxRecDepth 20000 in
theorem ggX5_clearText_X4_length : GoodIn wsX5_clearText wsX4_length := goodIn_r _ [6, 7, 19, 20] (by decide +kernel) (by decide +kernel)
set_option maxRecDepth 20000 in
theorem gX5_clearText_X4_length : GoodIn wsX5_clearText (wsV RX5 131 RX4 yX4_length wsX4_length) := goodIn_app (goodIn_of _ (by decide +kernel)) ggX5_clearText_X4_length
set_option maxRecDepth 20000 in
theorem ggX5_clearText_X4_empty : GoodIn wsX5_clearText wsX4_empty := goodIn_r _ [11, 7, 19, 20] (by decide +kernel) (by decide +kernel)
set_option maxRecDepth 20000 in
theorem gX5_clearText_X4_empty : GoodIn wsX5_clearText (wsV RX5 134 RX4 yX4_empty wsX4_empty) := goodIn_app (goodIn_of _ (by decide +kernel)) ggX5_clearText_X4_empty
theorem dX5_clearText_0 : decode cX5_clearText 0 = .ok (.aload_n 0, 1) := by decide +kernel
theorem dX5_clearText_1 : decode cX5_clearText 1 = .ok (.getfield 42, 3) := by decide +kernel
theorem dX5_clearText_4 : decode cX5_clearText 4 = .ok (.invokevirtual 131, 3) := by decide +kernel
theorem dX5_clearText_7 : decode cX5_clearText 7 = .ok (.istore_n 1, 1) := by decide +kernel
theorem dX5_clearText_8 : decode cX5_clearText 8 = .ok (.aload_n 0, 1) := by decide +kernel
theorem dX5_clearText_9 : decode cX5_clearText 9 = .ok (.getfield 42, 3) := by decide +kernel
theorem dX5_clearText_12 : decode cX5_clearText 12 = .ok (.invokevirtual 134, 3) := by decide +kernel
theorem dX5_clearText_15 : decode cX5_clearText 15 = .ok (.iload_n 1, 1) := by decide +kernel
theorem dX5_clearText_16 : decode cX5_clearText 16 = .ok (.ireturn, 1) := by decide +kernel
set_option maxRecDepth 20000 in
theorem ggX5_undo_X1_takeBack : GoodIn wsX5_undo wsX1_takeBack := goodIn_r _ [7, 8, 9, 10, 11, 12, 6, 13, 14, 15, 16, 17, 18, 19, 20, 21, 22, 23, 24, 25, 26, 27, 28, 29, 30, 31, 32, 33, 34, 35, 36, 48, 49, 50, 51, 52, 53, 54, 55, 56] (by decide +kernel) (by decide +kernel)
set_option maxRecDepth 20000 in
theorem gX5_undo_X1_takeBack : GoodIn wsX5_undo (wsV RX5 137 RX1 yX1_takeBack wsX1_takeBack) := goodIn_app (goodIn_of _ (by decide +kernel)) ggX5_undo_X1_takeBack
set_option maxRecDepth 20000 in
theorem ggX5_undo_X1_size : GoodIn wsX5_undo wsX1_size := goodIn_r _ [40, 9, 48, 49, 50] (by decide +kernel) (by decide +kernel)
set_option maxRecDepth 20000 in
theorem gX5_undo_X1_size : GoodIn wsX5_undo (wsV RX5 141 RX1 yX1_size wsX1_size) := goodIn_app (goodIn_of _ (by decide +kernel)) ggX5_undo_X1_size
theorem dX5_undo_0 : decode cX5_undo 0 = .ok (.aload_n 0, 1) := by decide +kernel
theorem dX5_undo_1 : decode cX5_undo 1 = .ok (.getfield 28, 3) := by decide +kernel
theorem dX5_undo_4 : decode cX5_undo 4 = .ok (.aload_n 0, 1) := by decide +kernel
theorem dX5_undo_5 : decode cX5_undo 5 = .ok (.getfield 10, 3) := by decide +kernel
theorem dX5_undo_8 : decode cX5_undo 8 = .ok (.invokevirtual 137, 3) := by decide +kernel
theorem dX5_undo_11 : decode cX5_undo 11 = .ok (.ifCond .eq 13, 3) := by decide +kernel
theorem dX5_undo_14 : decode cX5_undo 14 = .ok (.aload_n 0, 1) := by decide +kernel
theorem dX5_undo_15 : decode cX5_undo 15 = .ok (.getfield 28, 3) := by decide +kernel
theorem dX5_undo_18 : decode cX5_undo 18 = .ok (.invokevirtual 141, 3) := by decide +kernel
theorem dX5_undo_21 : decode cX5_undo 21 = .ok (.goto 5, 3) := by decide +kernel
theorem dX5_undo_24 : decode cX5_undo 24 = .ok (.bipush (-5), 2) := by decide +kernel
theorem dX5_undo_26 : decode cX5_undo 26 = .ok (.ireturn, 1) := by decide +kernel
set_option maxRecDepth 20000 in
theorem ggX5_keep_X3_copyFrom : GoodIn wsX5_keep wsX3_copyFrom := goodIn_r _ [8, 9, 10, 11, 12, 13, 14, 15, 16, 17, 18, 19, 20, 21, 22, 23, 24, 25, 37, 38, 39, 40, 41, 42] (by decide +kernel) (by decide +kernel)
set_option maxRecDepth 20000 in
theorem gX5_keep_X3_copyFrom : GoodIn wsX5_keep (wsV RX5 142 RX3 yX3_copyFrom wsX3_copyFrom) := goodIn_app (goodIn_of _ (by decide +kernel)) ggX5_keep_X3_copyFrom
set_option maxRecDepth 20000 in
theorem ggX5_keep_X3_size : GoodIn wsX5_keep wsX3_size := goodIn_r _ [29, 13, 37, 38, 39, 40, 41, 42] (by decide +kernel) (by decide +kernel)
set_option maxRecDepth 20000 in
theorem gX5_keep_X3_size : GoodIn wsX5_keep (wsV RX5 74 RX3 yX3_size wsX3_size) := goodIn_app (goodIn_of _ (by decide +kernel)) ggX5_keep_X3_size
theorem dX5_keep_0 : decode cX5_keep 0 = .ok (.aload_n 0, 1) := by decide +kernel
theorem dX5_keep_1 : decode cX5_keep 1 = .ok (.getfield 32, 3) := by decide +kernel
theorem dX5_keep_4 : decode cX5_keep 4 = .ok (.aload_n 0, 1) := by decide +kernel
theorem dX5_keep_5 : decode cX5_keep 5 = .ok (.getfield 10, 3) := by decide +kernel
theorem dX5_keep_8 : decode cX5_keep 8 = .ok (.invokevirtual 142, 3) := by decide +kernel
theorem dX5_keep_11 : decode cX5_keep 11 = .ok (.aload_n 0, 1) := by decide +kernel
theorem dX5_keep_12 : decode cX5_keep 12 = .ok (.iconst 1, 1) := by decide +kernel
theorem dX5_keep_13 : decode cX5_keep 13 = .ok (.putfield 35, 3) := by decide +kernel
theorem dX5_keep_16 : decode cX5_keep 16 = .ok (.aload_n 0, 1) := by decide +kernel
theorem dX5_keep_17 : decode cX5_keep 17 = .ok (.getfield 10, 3) := by decide +kernel
theorem dX5_keep_20 : decode cX5_keep 20 = .ok (.invokevirtual 74, 3) := by decide +kernel
theorem dX5_keep_23 : decode cX5_keep 23 = .ok (.ireturn, 1) := by decide +kernel
set_option maxRecDepth 20000 in
theorem ggX5_restore_X1_remember : GoodIn wsX5_restore wsX1_remember := goodIn_r _ [9, 10, 11, 12, 13, 14, 15, 16, 17, 18, 8, 19, 20, 21, 22, 23, 24, 25, 26, 27, 28, 29, 30, 31, 32, 33, 34, 35, 36, 37, 38, 39, 52, 53, 54, 55, 56, 57, 58, 59, 60] (by decide +kernel) (by decide +kernel)
set_option maxRecDepth 20000 in
theorem gX5_restore_X1_remember : GoodIn wsX5_restore (wsV RX5 67 RX1 yX1_remember wsX1_remember) := goodIn_app (goodIn_of _ (by decide +kernel)) ggX5_restore_X1_remember
set_option maxRecDepth 20000 in
theorem ggX5_restore_X3_copyFrom : GoodIn wsX5_restore wsX3_copyFrom := goodIn_r _ [25, 26, 27, 28, 29, 30, 31, 32, 33, 34, 35, 13, 14, 15, 36, 37, 38, 39, 55, 56, 57, 58, 59, 60] (by decide +kernel) (by decide +kernel)
set_option maxRecDepth 20000 in
theorem gX5_restore_X3_copyFrom : GoodIn wsX5_restore (wsV RX5 142 RX3 yX3_copyFrom wsX3_copyFrom) := goodIn_app (goodIn_of _ (by decide +kernel)) ggX5_restore_X3_copyFrom
set_option maxRecDepth 20000 in
theorem ggX5_restore_X3_size : GoodIn wsX5_restore wsX3_size := goodIn_r _ [44, 30, 55, 56, 57, 58, 59, 60] (by decide +kernel) (by decide +kernel)
set_option maxRecDepth 20000 in
theorem gX5_restore_X3_size : GoodIn wsX5_restore (wsV RX5 74 RX3 yX3_size wsX3_size) := goodIn_app (goodIn_of _ (by decide +kernel)) ggX5_restore_X3_size
theorem dX5_restore_0 : decode cX5_restore 0 = .ok (.aload_n 0, 1) := by decide +kernel
theorem dX5_restore_1 : decode cX5_restore 1 = .ok (.getfield 35, 3) := by decide +kernel
theorem dX5_restore_4 : decode cX5_restore 4 = .ok (.ifCond .ne 6, 3) := by decide +kernel
theorem dX5_restore_7 : decode cX5_restore 7 = .ok (.bipush (-5), 2) := by decide +kernel
theorem dX5_restore_9 : decode cX5_restore 9 = .ok (.ireturn, 1) := by decide +kernel
theorem dX5_restore_10 : decode cX5_restore 10 = .ok (.aload_n 0, 1) := by decide +kernel
theorem dX5_restore_11 : decode cX5_restore 11 = .ok (.getfield 28, 3) := by decide +kernel
theorem dX5_restore_14 : decode cX5_restore 14 = .ok (.aload_n 0, 1) := by decide +kernel
theorem dX5_restore_15 : decode cX5_restore 15 = .ok (.getfield 10, 3) := by decide +kernel
theorem dX5_restore_18 : decode cX5_restore 18 = .ok (.invokevirtual 67, 3) := by decide +kernel
theorem dX5_restore_21 : decode cX5_restore 21 = .ok (.aload_n 0, 1) := by decide +kernel
theorem dX5_restore_22 : decode cX5_restore 22 = .ok (.getfield 10, 3) := by decide +kernel
theorem dX5_restore_25 : decode cX5_restore 25 = .ok (.aload_n 0, 1) := by decide +kernel
theorem dX5_restore_26 : decode cX5_restore 26 = .ok (.getfield 32, 3) := by decide +kernel
theorem dX5_restore_29 : decode cX5_restore 29 = .ok (.invokevirtual 142, 3) := by decide +kernel
theorem dX5_restore_32 : decode cX5_restore 32 = .ok (.aload_n 0, 1) := by decide +kernel
theorem dX5_restore_33 : decode cX5_restore 33 = .ok (.getfield 10, 3) := by decide +kernel
theorem dX5_restore_36 : decode cX5_restore 36 = .ok (.invokevirtual 74, 3) := by decide +kernel
theorem dX5_restore_39 : decode cX5_restore 39 = .ok (.ireturn, 1) := by decide +kernel
set_option maxRecDepth 20000 in
theorem ggX5_row_X3_has : GoodIn wsX5_row wsX3_has := goodIn_r _ [6, 7, 103, 104, 105, 106, 107, 108] (by decide +kernel) (by decide +kernel)
set_option maxRecDepth 20000 in
theorem gX5_row_X3_has : GoodIn wsX5_row (wsV RX5 91 RX3 yX3_has wsX3_has) := goodIn_app (goodIn_of _ (by decide +kernel)) ggX5_row_X3_has
set_option maxRecDepth 20000 in
theorem ggX5_row_X3_keyAt : GoodIn wsX5_row wsX3_keyAt := goodIn_r _ [11, 12, 13, 14, 15, 103, 104, 105, 106, 107, 108] (by decide +kernel) (by decide +kernel)
set_option maxRecDepth 20000 in
theorem gX5_row_X3_keyAt : GoodIn wsX5_row (wsV RX5 98 RX3 yX3_keyAt wsX3_keyAt) := goodIn_app (goodIn_of _ (by decide +kernel)) ggX5_row_X3_keyAt
set_option maxRecDepth 20000 in
theorem ggX5_row_X3_valueAt : GoodIn wsX5_row wsX3_valueAt := goodIn_r _ [19, 20, 13, 14, 15, 103, 104, 105, 106, 107, 108] (by decide +kernel) (by decide +kernel)
set_option maxRecDepth 20000 in
theorem gX5_row_X3_valueAt : GoodIn wsX5_row (wsV RX5 145 RX3 yX3_valueAt wsX3_valueAt) := goodIn_app (goodIn_of _ (by decide +kernel)) ggX5_row_X3_valueAt
set_option maxRecDepth 20000 in
theorem ggX5_row_X3_weightAt : GoodIn wsX5_row wsX3_weightAt := goodIn_r _ [24, 25, 13, 14, 15, 103, 104, 105, 106, 107, 108] (by decide +kernel) (by decide +kernel)
set_option maxRecDepth 20000 in
theorem gX5_row_X3_weightAt : GoodIn wsX5_row (wsV RX5 148 RX3 yX3_weightAt wsX3_weightAt) := goodIn_app (goodIn_of _ (by decide +kernel)) ggX5_row_X3_weightAt
set_option maxRecDepth 20000 in
theorem ggX5_row_X3_targetAt : GoodIn wsX5_row wsX3_targetAt := goodIn_r _ [29, 30, 13, 14, 15, 103, 104, 105, 106, 107, 108] (by decide +kernel) (by decide +kernel)
set_option maxRecDepth 20000 in
theorem gX5_row_X3_targetAt : GoodIn wsX5_row (wsV RX5 151 RX3 yX3_targetAt wsX3_targetAt) := goodIn_app (goodIn_of _ (by decide +kernel)) ggX5_row_X3_targetAt
set_option maxRecDepth 20000 in
theorem ggX5_row_X3_canBeKept : GoodIn wsX5_row wsX3_canBeKept := goodIn_r _ [34, 35, 36, 22, 23, 5, 24, 25, 13, 14, 15, 37, 9, 10, 11, 12, 38, 39, 40, 41, 7, 103, 104, 105, 106, 107, 108] (by decide +kernel) (by decide +kernel)
set_option maxRecDepth 20000 in
theorem gX5_row_X3_canBeKept : GoodIn wsX5_row (wsV RX5 154 RX3 yX3_canBeKept wsX3_canBeKept) := goodIn_app (goodIn_of _ (by decide +kernel)) ggX5_row_X3_canBeKept
set_option maxRecDepth 20000 in
theorem ggX5_row_X5_oneIf : GoodIn wsX5_row wsX5_oneIf := goodIn_r _ [44] (by decide +kernel) (by decide +kernel)
set_option maxRecDepth 20000 in
theorem gX5_row_X5_oneIf : GoodIn wsX5_row (va_wsS RX5 157 yX5_oneIf wsX5_oneIf) := goodIn_app (goodIn_of _ (by decide +kernel)) ggX5_row_X5_oneIf
set_option maxRecDepth 20000 in
theorem ggX5_row_X5_choicesNow : GoodIn wsX5_row wsX5_choicesNow := goodIn_r _ [48, 49, 50, 51, 52, 53, 54, 55, 56, 57, 58, 59, 60, 61, 62, 63, 64, 65, 66, 5, 67, 7, 68, 32, 33, 34, 35, 36, 22, 23, 24, 25, 13, 14, 15, 37, 9, 10, 11, 12, 38, 39, 40, 41, 69, 70, 71, 72, 73, 74, 75, 76, 77, 78, 79, 80, 81, 82, 83, 84, 85, 27, 28, 29, 30, 86, 87, 88, 89, 90, 91, 96, 97, 98, 99, 100, 101, 102, 109, 110, 111, 112, 113, 114, 103, 104, 105, 106, 107, 108] (by decide +kernel) (by decide +kernel)
set_option maxRecDepth 20000 in
theorem gX5_row_X5_choicesNow : GoodIn wsX5_row (wsV RX5 122 RX5 yX5_choicesNow wsX5_choicesNow) := goodIn_app (goodIn_of _ (by decide +kernel)) ggX5_row_X5_choicesNow
set_option maxRecDepth 20000 in
theorem ggX5_row_X0_isSureRow : GoodIn wsX5_row wsX0_isSureRow := goodIn_r _ [95, 57, 68, 32, 33, 5, 34, 35, 36, 22, 23, 24, 25, 13, 14, 15, 37, 9, 10, 11, 12, 38, 39, 40, 41, 7, 69, 75, 76, 77, 53, 78, 55, 109, 110, 111, 112, 113, 114, 103, 104, 105, 106, 107, 108] (by decide +kernel) (by decide +kernel)
set_option maxRecDepth 20000 in
theorem gX5_row_X0_isSureRow : GoodIn wsX5_row (wsV RX5 161 RX0 yX0_isSureRow wsX0_isSureRow) := goodIn_app (goodIn_of _ (by decide +kernel)) ggX5_row_X0_isSureRow
theorem dX5_row_0 : decode cX5_row 0 = .ok (.aload_n 0, 1) := by decide +kernel
theorem dX5_row_1 : decode cX5_row 1 = .ok (.getfield 10, 3) := by decide +kernel
theorem dX5_row_4 : decode cX5_row 4 = .ok (.iload_n 1, 1) := by decide +kernel
theorem dX5_row_5 : decode cX5_row 5 = .ok (.invokevirtual 91, 3) := by decide +kernel
theorem dX5_row_8 : decode cX5_row 8 = .ok (.ifCond .ne 5, 3) := by decide +kernel
theorem dX5_row_11 : decode cX5_row 11 = .ok (.iconst (-1), 1) := by decide +kernel
theorem dX5_row_12 : decode cX5_row 12 = .ok (.ireturn, 1) := by decide +kernel
theorem dX5_row_13 : decode cX5_row 13 = .ok (.iload_n 2, 1) := by decide +kernel
theorem dX5_row_14 : decode cX5_row 14 = .ok (.tableswitch 98 0 5 #[38, 47, 56, 65, 74, 86], 38) := by decide +kernel
theorem dX5_row_52 : decode cX5_row 52 = .ok (.aload_n 0, 1) := by decide +kernel
theorem dX5_row_53 : decode cX5_row 53 = .ok (.getfield 10, 3) := by decide +kernel
theorem dX5_row_56 : decode cX5_row 56 = .ok (.iload_n 1, 1) := by decide +kernel
theorem dX5_row_57 : decode cX5_row 57 = .ok (.invokevirtual 98, 3) := by decide +kernel
theorem dX5_row_60 : decode cX5_row 60 = .ok (.ireturn, 1) := by decide +kernel
theorem dX5_row_61 : decode cX5_row 61 = .ok (.aload_n 0, 1) := by decide +kernel
theorem dX5_row_62 : decode cX5_row 62 = .ok (.getfield 10, 3) := by decide +kernel
theorem dX5_row_65 : decode cX5_row 65 = .ok (.iload_n 1, 1) := by decide +kernel
theorem dX5_row_66 : decode cX5_row 66 = .ok (.invokevirtual 145, 3) := by decide +kernel
theorem dX5_row_69 : decode cX5_row 69 = .ok (.ireturn, 1) := by decide +kernel
theorem dX5_row_70 : decode cX5_row 70 = .ok (.aload_n 0, 1) := by decide +kernel
theorem dX5_row_71 : decode cX5_row 71 = .ok (.getfield 10, 3) := by decide +kernel
theorem dX5_row_74 : decode cX5_row 74 = .ok (.iload_n 1, 1) := by decide +kernel
theorem dX5_row_75 : decode cX5_row 75 = .ok (.invokevirtual 148, 3) := by decide +kernel
theorem dX5_row_78 : decode cX5_row 78 = .ok (.ireturn, 1) := by decide +kernel
theorem dX5_row_79 : decode cX5_row 79 = .ok (.aload_n 0, 1) := by decide +kernel
theorem dX5_row_80 : decode cX5_row 80 = .ok (.getfield 10, 3) := by decide +kernel
theorem dX5_row_83 : decode cX5_row 83 = .ok (.iload_n 1, 1) := by decide +kernel
theorem dX5_row_84 : decode cX5_row 84 = .ok (.invokevirtual 151, 3) := by decide +kernel
theorem dX5_row_87 : decode cX5_row 87 = .ok (.ireturn, 1) := by decide +kernel
theorem dX5_row_88 : decode cX5_row 88 = .ok (.aload_n 0, 1) := by decide +kernel
theorem dX5_row_89 : decode cX5_row 89 = .ok (.getfield 10, 3) := by decide +kernel
theorem dX5_row_92 : decode cX5_row 92 = .ok (.iload_n 1, 1) := by decide +kernel
theorem dX5_row_93 : decode cX5_row 93 = .ok (.invokevirtual 154, 3) := by decide +kernel
theorem dX5_row_96 : decode cX5_row 96 = .ok (.invokestatic 157, 3) := by decide +kernel
theorem dX5_row_99 : decode cX5_row 99 = .ok (.ireturn, 1) := by decide +kernel
theorem dX5_row_100 : decode cX5_row 100 = .ok (.aload_n 0, 1) := by decide +kernel
theorem dX5_row_101 : decode cX5_row 101 = .ok (.invokevirtual 122, 3) := by decide +kernel
theorem dX5_row_104 : decode cX5_row 104 = .ok (.iload_n 1, 1) := by decide +kernel
theorem dX5_row_105 : decode cX5_row 105 = .ok (.invokevirtual 161, 3) := by decide +kernel
theorem dX5_row_108 : decode cX5_row 108 = .ok (.invokestatic 157, 3) := by decide +kernel
theorem dX5_row_111 : decode cX5_row 111 = .ok (.ireturn, 1) := by decide +kernel
theorem dX5_row_112 : decode cX5_row 112 = .ok (.bipush (-2), 2) := by decide +kernel
theorem dX5_row_114 : decode cX5_row 114 = .ok (.ireturn, 1) := by decide +kernel
set_option maxRecDepth 20000 in
theorem ggX5_key_X5_isKey : GoodIn wsX5_key wsX5_isKey := goodIn_r _ [5] (by decide +kernel) (by decide +kernel)
end
section
set_option maxRecDepth 20000 in
theorem gX5_key_X5_isKey : GoodIn wsX5_key (va_wsS RX5 55 yX5_isKey wsX5_isKey) := goodIn_app (goodIn_of _ (by decide +kernel)) ggX5_key_X5_isKey
set_option maxRecDepth 20000 in
theorem ggX5_key_X3_rowsWith : GoodIn wsX5_key wsX3_rowsWith := goodIn_r _ [10, 11, 12, 13, 14, 9, 15, 16, 17, 4, 18, 99, 100, 101, 102, 103, 104] (by decide +kernel) (by decide +kernel)
set_option maxRecDepth 20000 in
theorem gX5_key_X3_rowsWith : GoodIn wsX5_key (wsV RX5 102 RX3 yX3_rowsWith wsX3_rowsWith) := goodIn_app (goodIn_of _ (by decide +kernel)) ggX5_key_X3_rowsWith
set_option maxRecDepth 20000 in
theorem ggX5_key_X5_choicesNow : GoodIn wsX5_key wsX5_choicesNow := goodIn_r _ [22, 23, 24, 25, 26, 27, 28, 29, 30, 31, 32, 33, 34, 35, 36, 37, 38, 39, 40, 9, 41, 11, 42, 43, 44, 45, 46, 47, 48, 49, 50, 51, 17, 4, 18, 12, 13, 14, 15, 16, 52, 53, 54, 55, 56, 57, 58, 59, 60, 61, 62, 63, 64, 65, 66, 67, 68, 69, 70, 71, 72, 73, 74, 75, 76, 3, 5, 77, 78, 79, 80, 92, 93, 94, 95, 96, 97, 98, 105, 106, 107, 108, 109, 110, 99, 100, 101, 102, 103, 104] (by decide +kernel) (by decide +kernel)
set_option maxRecDepth 20000 in
theorem gX5_key_X5_choicesNow : GoodIn wsX5_key (wsV RX5 122 RX5 yX5_choicesNow wsX5_choicesNow) := goodIn_app (goodIn_of _ (by decide +kernel)) ggX5_key_X5_choicesNow
set_option maxRecDepth 20000 in
theorem ggX5_key_X0_optionsOf : GoodIn wsX5_key wsX0_optionsOf := goodIn_r _ [65, 29, 17, 4, 18, 105, 106, 107, 108, 109, 110] (by decide +kernel) (by decide +kernel)
set_option maxRecDepth 20000 in
theorem gX5_key_X0_optionsOf : GoodIn wsX5_key (wsV RX5 164 RX0 yX0_optionsOf wsX0_optionsOf) := goodIn_app (goodIn_of _ (by decide +kernel)) ggX5_key_X0_optionsOf
set_option maxRecDepth 20000 in
theorem ggX5_key_X3_lightestWith : GoodIn wsX5_key wsX3_lightestWith := goodIn_r _ [85, 11, 12, 13, 14, 9, 15, 16, 17, 4, 18, 47, 48, 49, 50, 51, 99, 100, 101, 102, 103, 104] (by decide +kernel) (by decide +kernel)
set_option maxRecDepth 20000 in
theorem gX5_key_X3_lightestWith : GoodIn wsX5_key (wsV RX5 167 RX3 yX3_lightestWith wsX3_lightestWith) := goodIn_app (goodIn_of _ (by decide +kernel)) ggX5_key_X3_lightestWith
set_option maxRecDepth 20000 in
theorem ggX5_key_X3_heaviestWith : GoodIn wsX5_key wsX3_heaviestWith := goodIn_r _ [55, 11, 12, 13, 14, 9, 15, 16, 17, 4, 18, 47, 48, 49, 50, 51, 99, 100, 101, 102, 103, 104] (by decide +kernel) (by decide +kernel)
set_option maxRecDepth 20000 in
theorem gX5_key_X3_heaviestWith : GoodIn wsX5_key (wsV RX5 170 RX3 yX3_heaviestWith wsX3_heaviestWith) := goodIn_app (goodIn_of _ (by decide +kernel)) ggX5_key_X3_heaviestWith
set_option maxRecDepth 20000 in
theorem ggX5_key_X3_rowsPointingTo : GoodIn wsX5_key wsX3_rowsPointingTo := goodIn_r _ [90, 11, 91, 73, 74, 9, 75, 76, 17, 4, 18, 99, 100, 101, 102, 103, 104] (by decide +kernel) (by decide +kernel)
set_option maxRecDepth 20000 in
theorem gX5_key_X3_rowsPointingTo : GoodIn wsX5_key (wsV RX5 173 RX3 yX3_rowsPointingTo wsX3_rowsPointingTo) := goodIn_app (goodIn_of _ (by decide +kernel)) ggX5_key_X3_rowsPointingTo
theorem dX5_key_0 : decode cX5_key 0 = .ok (.iload_n 1, 1) := by decide +kernel
theorem dX5_key_1 : decode cX5_key 1 = .ok (.invokestatic 55, 3) := by decide +kernel
theorem dX5_key_4 : decode cX5_key 4 = .ok (.ifCond .ne 5, 3) := by decide +kernel
theorem dX5_key_7 : decode cX5_key 7 = .ok (.iconst (-1), 1) := by decide +kernel
theorem dX5_key_8 : decode cX5_key 8 = .ok (.ireturn, 1) := by decide +kernel
theorem dX5_key_9 : decode cX5_key 9 = .ok (.iload_n 2, 1) := by decide +kernel
theorem dX5_key_10 : decode cX5_key 10 = .ok (.tableswitch 79 0 4 #[34, 43, 52, 61, 70], 34) := by decide +kernel
theorem dX5_key_44 : decode cX5_key 44 = .ok (.aload_n 0, 1) := by decide +kernel
theorem dX5_key_45 : decode cX5_key 45 = .ok (.getfield 10, 3) := by decide +kernel
theorem dX5_key_48 : decode cX5_key 48 = .ok (.iload_n 1, 1) := by decide +kernel
theorem dX5_key_49 : decode cX5_key 49 = .ok (.invokevirtual 102, 3) := by decide +kernel
theorem dX5_key_52 : decode cX5_key 52 = .ok (.ireturn, 1) := by decide +kernel
theorem dX5_key_53 : decode cX5_key 53 = .ok (.aload_n 0, 1) := by decide +kernel
theorem dX5_key_54 : decode cX5_key 54 = .ok (.invokevirtual 122, 3) := by decide +kernel
theorem dX5_key_57 : decode cX5_key 57 = .ok (.iload_n 1, 1) := by decide +kernel
theorem dX5_key_58 : decode cX5_key 58 = .ok (.invokevirtual 164, 3) := by decide +kernel
theorem dX5_key_61 : decode cX5_key 61 = .ok (.ireturn, 1) := by decide +kernel
theorem dX5_key_62 : decode cX5_key 62 = .ok (.aload_n 0, 1) := by decide +kernel
theorem dX5_key_63 : decode cX5_key 63 = .ok (.getfield 10, 3) := by decide +kernel
theorem dX5_key_66 : decode cX5_key 66 = .ok (.iload_n 1, 1) := by decide +kernel
theorem dX5_key_67 : decode cX5_key 67 = .ok (.invokevirtual 167, 3) := by decide +kernel
theorem dX5_key_70 : decode cX5_key 70 = .ok (.ireturn, 1) := by decide +kernel
theorem dX5_key_71 : decode cX5_key 71 = .ok (.aload_n 0, 1) := by decide +kernel
theorem dX5_key_72 : decode cX5_key 72 = .ok (.getfield 10, 3) := by decide +kernel
theorem dX5_key_75 : decode cX5_key 75 = .ok (.iload_n 1, 1) := by decide +kernel
theorem dX5_key_76 : decode cX5_key 76 = .ok (.invokevirtual 170, 3) := by decide +kernel
theorem dX5_key_79 : decode cX5_key 79 = .ok (.ireturn, 1) := by decide +kernel
theorem dX5_key_80 : decode cX5_key 80 = .ok (.aload_n 0, 1) := by decide +kernel
theorem dX5_key_81 : decode cX5_key 81 = .ok (.getfield 10, 3) := by decide +kernel
theorem dX5_key_84 : decode cX5_key 84 = .ok (.iload_n 1, 1) := by decide +kernel
theorem dX5_key_85 : decode cX5_key 85 = .ok (.invokevirtual 173, 3) := by decide +kernel
theorem dX5_key_88 : decode cX5_key 88 = .ok (.ireturn, 1) := by decide +kernel
theorem dX5_key_89 : decode cX5_key 89 = .ok (.bipush (-2), 2) := by decide +kernel
theorem dX5_key_91 : decode cX5_key 91 = .ok (.ireturn, 1) := by decide +kernel
set_option maxRecDepth 20000 in
theorem ggX5_value_X5_isValue : GoodIn wsX5_value wsX5_isValue := goodIn_r _ [4] (by decide +kernel) (by decide +kernel)
set_option maxRecDepth 20000 in
theorem gX5_value_X5_isValue : GoodIn wsX5_value (va_wsS RX5 59 yX5_isValue wsX5_isValue) := goodIn_app (goodIn_of _ (by decide +kernel)) ggX5_value_X5_isValue
set_option maxRecDepth 20000 in
theorem ggX5_value_X5_choicesNow : GoodIn wsX5_value wsX5_choicesNow := goodIn_r _ [8, 9, 10, 11, 12, 13, 14, 15, 16, 17, 18, 19, 20, 21, 22, 23, 24, 25, 26, 27, 28, 29, 30, 31, 32, 33, 34, 35, 36, 37, 38, 39, 40, 3, 41, 42, 43, 44, 45, 46, 47, 48, 49, 50, 51, 52, 53, 54, 55, 56, 57, 58, 59, 60, 61, 62, 63, 64, 65, 66, 67, 68, 69, 70, 71, 72, 73, 74, 75, 76, 77, 110, 111, 112, 113, 114, 115, 116, 117, 118, 119, 120, 121, 122, 123, 124, 125, 126, 127, 128] (by decide +kernel) (by decide +kernel)
set_option maxRecDepth 20000 in
theorem gX5_value_X5_choicesNow : GoodIn wsX5_value (wsV RX5 122 RX5 yX5_choicesNow wsX5_choicesNow) := goodIn_app (goodIn_of _ (by decide +kernel)) ggX5_value_X5_choicesNow
set_option maxRecDepth 20000 in
theorem ggX5_value_X0_fewestKeptWith : GoodIn wsX5_value wsX0_fewestKeptWith := goodIn_r _ [81, 74, 75, 76, 13, 77, 57, 58, 59, 60, 15, 40, 3, 41, 82, 83, 84, 85, 17, 86, 87, 88, 89, 56, 90, 91, 92, 27, 93, 94, 117, 118, 119, 120, 121, 122, 123, 124, 125, 126, 127, 128] (by decide +kernel) (by decide +kernel)
set_option maxRecDepth 20000 in
theorem gX5_value_X0_fewestKeptWith : GoodIn wsX5_value (wsV RX5 176 RX0 yX0_fewestKeptWith wsX0_fewestKeptWith) := goodIn_app (goodIn_of _ (by decide +kernel)) ggX5_value_X0_fewestKeptWith
set_option maxRecDepth 20000 in
theorem ggX5_value_X5_oneIf : GoodIn wsX5_value wsX5_oneIf := goodIn_r _ [97] (by decide +kernel) (by decide +kernel)
set_option maxRecDepth 20000 in
theorem gX5_value_X5_oneIf : GoodIn wsX5_value (va_wsS RX5 157 yX5_oneIf wsX5_oneIf) := goodIn_app (goodIn_of _ (by decide +kernel)) ggX5_value_X5_oneIf
set_option maxRecDepth 20000 in
theorem ggX5_value_X0_mostKeptWith : GoodIn wsX5_value wsX0_mostKeptWith := goodIn_r _ [101, 82, 83, 84, 13, 85, 17, 57, 58, 59, 60, 15, 40, 3, 41, 86, 87, 88, 89, 56, 90, 91, 92, 27, 93, 94, 117, 118, 119, 120, 121, 122, 123, 124, 125, 126, 127, 128] (by decide +kernel) (by decide +kernel)
set_option maxRecDepth 20000 in
theorem gX5_value_X0_mostKeptWith : GoodIn wsX5_value (wsV RX5 179 RX0 yX0_mostKeptWith wsX0_mostKeptWith) := goodIn_app (goodIn_of _ (by decide +kernel)) ggX5_value_X0_mostKeptWith
set_option maxRecDepth 20000 in
theorem ggX5_value_X0_mendings : GoodIn wsX5_value wsX0_mendings := goodIn_r _ [105, 18, 117, 118, 119, 120, 121, 122] (by decide +kernel) (by decide +kernel)
set_option maxRecDepth 20000 in
theorem gX5_value_X0_mendings : GoodIn wsX5_value (wsV RX5 126 RX0 yX0_mendings wsX0_mendings) := goodIn_app (goodIn_of _ (by decide +kernel)) ggX5_value_X0_mendings
set_option maxRecDepth 20000 in
theorem ggX5_value_X0_mendingsWithout : GoodIn wsX5_value wsX0_mendingsWithout := goodIn_r _ [109, 74, 75, 76, 13, 77, 57, 58, 59, 60, 15, 40, 3, 41, 82, 83, 84, 85, 17, 86, 87, 88, 89, 56, 90, 91, 92, 27, 93, 94, 117, 118, 119, 120, 121, 122, 123, 124, 125, 126, 127, 128] (by decide +kernel) (by decide +kernel)
set_option maxRecDepth 20000 in
theorem gX5_value_X0_mendingsWithout : GoodIn wsX5_value (wsV RX5 182 RX0 yX0_mendingsWithout wsX0_mendingsWithout) := goodIn_app (goodIn_of _ (by decide +kernel)) ggX5_value_X0_mendingsWithout
theorem dX5_value_0 : decode cX5_value 0 = .ok (.iload_n 1, 1) := by decide +kernel
theorem dX5_value_1 : decode cX5_value 1 = .ok (.invokestatic 59, 3) := by decide +kernel
theorem dX5_value_4 : decode cX5_value 4 = .ok (.ifCond .ne 6, 3) := by decide +kernel
theorem dX5_value_7 : decode cX5_value 7 = .ok (.bipush (-2), 2) := by decide +kernel
theorem dX5_value_9 : decode cX5_value 9 = .ok (.ireturn, 1) := by decide +kernel
theorem dX5_value_10 : decode cX5_value 10 = .ok (.aload_n 0, 1) := by decide +kernel
theorem dX5_value_11 : decode cX5_value 11 = .ok (.invokevirtual 122, 3) := by decide +kernel
theorem dX5_value_14 : decode cX5_value 14 = .ok (.astore_n 3, 1) := by decide +kernel
theorem dX5_value_15 : decode cX5_value 15 = .ok (.iload_n 2, 1) := by decide +kernel
theorem dX5_value_16 : decode cX5_value 16 = .ok (.tableswitch 93 0 4 #[36, 53, 70, 81, 87], 36) := by decide +kernel
theorem dX5_value_52 : decode cX5_value 52 = .ok (.aload_n 3, 1) := by decide +kernel
theorem dX5_value_53 : decode cX5_value 53 = .ok (.iload_n 1, 1) := by decide +kernel
theorem dX5_value_54 : decode cX5_value 54 = .ok (.invokevirtual 176, 3) := by decide +kernel
theorem dX5_value_57 : decode cX5_value 57 = .ok (.ifCond .le 7, 3) := by decide +kernel
theorem dX5_value_60 : decode cX5_value 60 = .ok (.iconst 1, 1) := by decide +kernel
theorem dX5_value_61 : decode cX5_value 61 = .ok (.goto 4, 3) := by decide +kernel
theorem dX5_value_64 : decode cX5_value 64 = .ok (.iconst 0, 1) := by decide +kernel
theorem dX5_value_65 : decode cX5_value 65 = .ok (.invokestatic 157, 3) := by decide +kernel
theorem dX5_value_68 : decode cX5_value 68 = .ok (.ireturn, 1) := by decide +kernel
theorem dX5_value_69 : decode cX5_value 69 = .ok (.aload_n 3, 1) := by decide +kernel
theorem dX5_value_70 : decode cX5_value 70 = .ok (.iload_n 1, 1) := by decide +kernel
theorem dX5_value_71 : decode cX5_value 71 = .ok (.invokevirtual 179, 3) := by decide +kernel
theorem dX5_value_74 : decode cX5_value 74 = .ok (.ifCond .le 7, 3) := by decide +kernel
theorem dX5_value_77 : decode cX5_value 77 = .ok (.iconst 1, 1) := by decide +kernel
theorem dX5_value_78 : decode cX5_value 78 = .ok (.goto 4, 3) := by decide +kernel
theorem dX5_value_81 : decode cX5_value 81 = .ok (.iconst 0, 1) := by decide +kernel
theorem dX5_value_82 : decode cX5_value 82 = .ok (.invokestatic 157, 3) := by decide +kernel
theorem dX5_value_85 : decode cX5_value 85 = .ok (.ireturn, 1) := by decide +kernel
theorem dX5_value_86 : decode cX5_value 86 = .ok (.aload_n 3, 1) := by decide +kernel
theorem dX5_value_87 : decode cX5_value 87 = .ok (.invokevirtual 126, 3) := by decide +kernel
theorem dX5_value_90 : decode cX5_value 90 = .ok (.aload_n 3, 1) := by decide +kernel
theorem dX5_value_91 : decode cX5_value 91 = .ok (.iload_n 1, 1) := by decide +kernel
theorem dX5_value_92 : decode cX5_value 92 = .ok (.invokevirtual 182, 3) := by decide +kernel
theorem dX5_value_95 : decode cX5_value 95 = .ok (.isub, 1) := by decide +kernel
theorem dX5_value_96 : decode cX5_value 96 = .ok (.ireturn, 1) := by decide +kernel
theorem dX5_value_97 : decode cX5_value 97 = .ok (.aload_n 3, 1) := by decide +kernel
theorem dX5_value_98 : decode cX5_value 98 = .ok (.iload_n 1, 1) := by decide +kernel
theorem dX5_value_99 : decode cX5_value 99 = .ok (.invokevirtual 176, 3) := by decide +kernel
theorem dX5_value_102 : decode cX5_value 102 = .ok (.ireturn, 1) := by decide +kernel
theorem dX5_value_103 : decode cX5_value 103 = .ok (.aload_n 3, 1) := by decide +kernel
theorem dX5_value_104 : decode cX5_value 104 = .ok (.iload_n 1, 1) := by decide +kernel
theorem dX5_value_105 : decode cX5_value 105 = .ok (.invokevirtual 179, 3) := by decide +kernel
theorem dX5_value_108 : decode cX5_value 108 = .ok (.ireturn, 1) := by decide +kernel
theorem dX5_value_109 : decode cX5_value 109 = .ok (.bipush (-2), 2) := by decide +kernel
theorem dX5_value_111 : decode cX5_value 111 = .ok (.ireturn, 1) := by decide +kernel
set_option maxRecDepth 20000 in
theorem ggX5_way_X5_isKey : GoodIn wsX5_way wsX5_isKey := goodIn_r _ [4] (by decide +kernel) (by decide +kernel)
set_option maxRecDepth 20000 in
theorem gX5_way_X5_isKey : GoodIn wsX5_way (va_wsS RX5 55 yX5_isKey wsX5_isKey) := goodIn_app (goodIn_of _ (by decide +kernel)) ggX5_way_X5_isKey
set_option maxRecDepth 20000 in
theorem ggX5_way_X5_choicesNow : GoodIn wsX5_way wsX5_choicesNow := goodIn_r _ [8, 9, 10, 11, 12, 13, 14, 15, 16, 17, 18, 19, 20, 21, 22, 23, 24, 25, 26, 27, 28, 29, 30, 31, 32, 33, 34, 35, 36, 37, 38, 39, 40, 3, 41, 42, 43, 44, 45, 46, 47, 48, 49, 50, 51, 52, 53, 54, 55, 56, 57, 58, 59, 60, 61, 62, 63, 64, 65, 66, 67, 68, 69, 70, 71, 2, 4, 72, 73, 74, 75, 126, 127, 128, 129, 130, 131, 132, 133, 134, 135, 136, 137, 138, 139, 140, 141, 142, 143, 144] (by decide +kernel) (by decide +kernel)
set_option maxRecDepth 20000 in
theorem gX5_way_X5_choicesNow : GoodIn wsX5_way (wsV RX5 122 RX5 yX5_choicesNow wsX5_choicesNow) := goodIn_app (goodIn_of _ (by decide +kernel)) ggX5_way_X5_choicesNow
set_option maxRecDepth 20000 in
theorem ggX5_way_X0_isSureWay : GoodIn wsX5_way wsX0_isSureWay := goodIn_r _ [79, 80, 81, 82, 13, 83, 84, 85, 86, 87, 72, 73, 74, 75, 57, 58, 59, 60, 15, 40, 3, 41, 88, 89, 90, 91, 16, 92, 93, 94, 133, 134, 135, 136, 137, 138] (by decide +kernel) (by decide +kernel)
set_option maxRecDepth 20000 in
theorem gX5_way_X0_isSureWay : GoodIn wsX5_way (wsV RX5 185 RX0 yX0_isSureWay wsX0_isSureWay) := goodIn_app (goodIn_of _ (by decide +kernel)) ggX5_way_X0_isSureWay
set_option maxRecDepth 20000 in
theorem ggX5_way_X5_oneIf : GoodIn wsX5_way wsX5_oneIf := goodIn_r _ [97] (by decide +kernel) (by decide +kernel)
set_option maxRecDepth 20000 in
theorem gX5_way_X5_oneIf : GoodIn wsX5_way (va_wsS RX5 157 yX5_oneIf wsX5_oneIf) := goodIn_app (goodIn_of _ (by decide +kernel)) ggX5_way_X5_oneIf
set_option maxRecDepth 20000 in
theorem ggX5_way_X0_fewestPointers : GoodIn wsX5_way wsX0_fewestPointers := goodIn_r _ [101, 84, 85, 86, 13, 87, 72, 73, 74, 75, 57, 58, 59, 60, 15, 40, 3, 41, 92, 93, 94, 102, 103, 104, 105, 16, 133, 134, 135, 136, 137, 138] (by decide +kernel) (by decide +kernel)
set_option maxRecDepth 20000 in
theorem gX5_way_X0_fewestPointers : GoodIn wsX5_way (wsV RX5 189 RX0 yX0_fewestPointers wsX0_fewestPointers) := goodIn_app (goodIn_of _ (by decide +kernel)) ggX5_way_X0_fewestPointers
set_option maxRecDepth 20000 in
theorem ggX5_way_X0_mendingsWithWay : GoodIn wsX5_way wsX0_mendingsWithWay := goodIn_r _ [109, 18, 110, 111, 112, 13, 113, 17, 72, 73, 74, 75, 57, 58, 59, 60, 15, 40, 3, 41, 114, 115, 116, 117, 19, 118, 119, 120, 121, 56, 67, 68, 69, 27, 70, 71, 133, 134, 135, 136, 137, 138, 139, 140, 141, 142, 143, 144] (by decide +kernel) (by decide +kernel)
set_option maxRecDepth 20000 in
theorem gX5_way_X0_mendingsWithWay : GoodIn wsX5_way (wsV RX5 192 RX0 yX0_mendingsWithWay wsX0_mendingsWithWay) := goodIn_app (goodIn_of _ (by decide +kernel)) ggX5_way_X0_mendingsWithWay
set_option maxRecDepth 20000 in
theorem ggX5_way_X0_firstMendingWithoutWay : GoodIn wsX5_way wsX0_firstMendingWithoutWay := goodIn_r _ [125, 18, 110, 111, 112, 13, 113, 17, 72, 73, 74, 75, 57, 58, 59, 60, 15, 40, 3, 41, 114, 115, 116, 117, 19, 118, 119, 120, 121, 56, 67, 68, 69, 27, 70, 71, 133, 134, 135, 136, 137, 138, 139, 140, 141, 142, 143, 144] (by decide +kernel) (by decide +kernel)
set_option maxRecDepth 20000 in
theorem gX5_way_X0_firstMendingWithoutWay : GoodIn wsX5_way (wsV RX5 195 RX0 yX0_firstMendingWithoutWay wsX0_firstMendingWithoutWay) := goodIn_app (goodIn_of _ (by decide +kernel)) ggX5_way_X0_firstMendingWithoutWay
theorem dX5_way_0 : decode cX5_way 0 = .ok (.iload_n 1, 1) := by decide +kernel
theorem dX5_way_1 : decode cX5_way 1 = .ok (.invokestatic 55, 3) := by decide +kernel
theorem dX5_way_4 : decode cX5_way 4 = .ok (.ifCond .eq 10, 3) := by decide +kernel
theorem dX5_way_7 : decode cX5_way 7 = .ok (.iload_n 2, 1) := by decide +kernel
theorem dX5_way_8 : decode cX5_way 8 = .ok (.invokestatic 55, 3) := by decide +kernel
theorem dX5_way_11 : decode cX5_way 11 = .ok (.ifCond .ne 5, 3) := by decide +kernel
theorem dX5_way_14 : decode cX5_way 14 = .ok (.iconst (-1), 1) := by decide +kernel
theorem dX5_way_15 : decode cX5_way 15 = .ok (.ireturn, 1) := by decide +kernel
theorem dX5_way_16 : decode cX5_way 16 = .ok (.aload_n 0, 1) := by decide +kernel
theorem dX5_way_17 : decode cX5_way 17 = .ok (.invokevirtual 122, 3) := by decide +kernel
theorem dX5_way_20 : decode cX5_way 20 = .ok (.astore 4, 2) := by decide +kernel
theorem dX5_way_22 : decode cX5_way 22 = .ok (.iload_n 3, 1) := by decide +kernel
theorem dX5_way_23 : decode cX5_way 23 = .ok (.tableswitch 89 0 4 #[33, 44, 65, 73, 81], 33) := by decide +kernel
theorem dX5_way_56 : decode cX5_way 56 = .ok (.aload 4, 2) := by decide +kernel
theorem dX5_way_58 : decode cX5_way 58 = .ok (.iload_n 1, 1) := by decide +kernel
theorem dX5_way_59 : decode cX5_way 59 = .ok (.iload_n 2, 1) := by decide +kernel
theorem dX5_way_60 : decode cX5_way 60 = .ok (.invokevirtual 185, 3) := by decide +kernel
theorem dX5_way_63 : decode cX5_way 63 = .ok (.invokestatic 157, 3) := by decide +kernel
theorem dX5_way_66 : decode cX5_way 66 = .ok (.ireturn, 1) := by decide +kernel
theorem dX5_way_67 : decode cX5_way 67 = .ok (.aload 4, 2) := by decide +kernel
theorem dX5_way_69 : decode cX5_way 69 = .ok (.iload_n 1, 1) := by decide +kernel
theorem dX5_way_70 : decode cX5_way 70 = .ok (.iload_n 2, 1) := by decide +kernel
theorem dX5_way_71 : decode cX5_way 71 = .ok (.invokevirtual 189, 3) := by decide +kernel
theorem dX5_way_74 : decode cX5_way 74 = .ok (.bipush (-5), 2) := by decide +kernel
theorem dX5_way_76 : decode cX5_way 76 = .ok (.if_icmp .eq 7, 3) := by decide +kernel
theorem dX5_way_79 : decode cX5_way 79 = .ok (.iconst 1, 1) := by decide +kernel
theorem dX5_way_80 : decode cX5_way 80 = .ok (.goto 4, 3) := by decide +kernel
theorem dX5_way_83 : decode cX5_way 83 = .ok (.iconst 0, 1) := by decide +kernel
theorem dX5_way_84 : decode cX5_way 84 = .ok (.invokestatic 157, 3) := by decide +kernel
theorem dX5_way_87 : decode cX5_way 87 = .ok (.ireturn, 1) := by decide +kernel
theorem dX5_way_88 : decode cX5_way 88 = .ok (.aload 4, 2) := by decide +kernel
theorem dX5_way_90 : decode cX5_way 90 = .ok (.iload_n 1, 1) := by decide +kernel
theorem dX5_way_91 : decode cX5_way 91 = .ok (.iload_n 2, 1) := by decide +kernel
theorem dX5_way_92 : decode cX5_way 92 = .ok (.invokevirtual 192, 3) := by decide +kernel
theorem dX5_way_95 : decode cX5_way 95 = .ok (.ireturn, 1) := by decide +kernel
theorem dX5_way_96 : decode cX5_way 96 = .ok (.aload 4, 2) := by decide +kernel
theorem dX5_way_98 : decode cX5_way 98 = .ok (.iload_n 1, 1) := by decide +kernel
theorem dX5_way_99 : decode cX5_way 99 = .ok (.iload_n 2, 1) := by decide +kernel
theorem dX5_way_100 : decode cX5_way 100 = .ok (.invokevirtual 195, 3) := by decide +kernel
theorem dX5_way_103 : decode cX5_way 103 = .ok (.ireturn, 1) := by decide +kernel
theorem dX5_way_104 : decode cX5_way 104 = .ok (.aload 4, 2) := by decide +kernel
theorem dX5_way_106 : decode cX5_way 106 = .ok (.iload_n 1, 1) := by decide +kernel
theorem dX5_way_107 : decode cX5_way 107 = .ok (.iload_n 2, 1) := by decide +kernel
theorem dX5_way_108 : decode cX5_way 108 = .ok (.invokevirtual 189, 3) := by decide +kernel
theorem dX5_way_111 : decode cX5_way 111 = .ok (.ireturn, 1) := by decide +kernel
theorem dX5_way_112 : decode cX5_way 112 = .ok (.bipush (-2), 2) := by decide +kernel
theorem dX5_way_114 : decode cX5_way 114 = .ok (.ireturn, 1) := by decide +kernel
set_option maxRecDepth 20000 in
theorem ggX5_kept_X5_isKey : GoodIn wsX5_kept wsX5_isKey := goodIn_r _ [4] (by decide +kernel) (by decide +kernel)
set_option maxRecDepth 20000 in
theorem gX5_kept_X5_isKey : GoodIn wsX5_kept (va_wsS RX5 55 yX5_isKey wsX5_isKey) := goodIn_app (goodIn_of _ (by decide +kernel)) ggX5_kept_X5_isKey
set_option maxRecDepth 20000 in
theorem ggX5_kept_X5_choicesNow : GoodIn wsX5_kept wsX5_choicesNow := goodIn_r _ [8, 9, 10, 11, 12, 13, 14, 15, 16, 17, 18, 19, 20, 21, 22, 23, 24, 25, 26, 27, 28, 29, 30, 31, 32, 33, 34, 35, 36, 37, 38, 39, 40, 3, 41, 42, 43, 44, 45, 46, 47, 48, 49, 50, 51, 52, 53, 54, 55, 56, 57, 58, 59, 60, 61, 62, 63, 64, 65, 66, 67, 68, 69, 70, 71, 2, 4, 72, 73, 74, 75, 88, 89, 90, 91, 92, 93, 94, 95, 96, 97, 98, 99, 100, 101, 102, 103, 104, 105, 106] (by decide +kernel) (by decide +kernel)
set_option maxRecDepth 20000 in
theorem gX5_kept_X5_choicesNow : GoodIn wsX5_kept (wsV RX5 122 RX5 yX5_choicesNow wsX5_choicesNow) := goodIn_app (goodIn_of _ (by decide +kernel)) ggX5_kept_X5_choicesNow
set_option maxRecDepth 20000 in
theorem ggX5_kept_X0_mendings : GoodIn wsX5_kept wsX0_mendings := goodIn_r _ [79, 18, 95, 96, 97, 98, 99, 100] (by decide +kernel) (by decide +kernel)
set_option maxRecDepth 20000 in
theorem gX5_kept_X0_mendings : GoodIn wsX5_kept (wsV RX5 126 RX0 yX0_mendings wsX0_mendings) := goodIn_app (goodIn_of _ (by decide +kernel)) ggX5_kept_X0_mendings
set_option maxRecDepth 20000 in
theorem ggX5_kept_X0_rowKeptBy : GoodIn wsX5_kept wsX0_rowKeptBy := goodIn_r _ [83, 19, 57, 58, 59, 13, 60, 15, 40, 3, 41, 84, 85, 86, 87, 56, 95, 96, 97, 98, 99, 100] (by decide +kernel) (by decide +kernel)
set_option maxRecDepth 20000 in
theorem gX5_kept_X0_rowKeptBy : GoodIn wsX5_kept (wsV RX5 198 RX0 yX0_rowKeptBy wsX0_rowKeptBy) := goodIn_app (goodIn_of _ (by decide +kernel)) ggX5_kept_X0_rowKeptBy
theorem dX5_kept_0 : decode cX5_kept 0 = .ok (.iload_n 2, 1) := by decide +kernel
theorem dX5_kept_1 : decode cX5_kept 1 = .ok (.invokestatic 55, 3) := by decide +kernel
theorem dX5_kept_4 : decode cX5_kept 4 = .ok (.ifCond .ne 5, 3) := by decide +kernel
theorem dX5_kept_7 : decode cX5_kept 7 = .ok (.iconst (-1), 1) := by decide +kernel
theorem dX5_kept_8 : decode cX5_kept 8 = .ok (.ireturn, 1) := by decide +kernel
theorem dX5_kept_9 : decode cX5_kept 9 = .ok (.aload_n 0, 1) := by decide +kernel
theorem dX5_kept_10 : decode cX5_kept 10 = .ok (.invokevirtual 122, 3) := by decide +kernel
theorem dX5_kept_13 : decode cX5_kept 13 = .ok (.astore_n 3, 1) := by decide +kernel
theorem dX5_kept_14 : decode cX5_kept 14 = .ok (.iload_n 1, 1) := by decide +kernel
theorem dX5_kept_15 : decode cX5_kept 15 = .ok (.ifCond .lt 11, 3) := by decide +kernel
theorem dX5_kept_18 : decode cX5_kept 18 = .ok (.iload_n 1, 1) := by decide +kernel
theorem dX5_kept_19 : decode cX5_kept 19 = .ok (.aload_n 3, 1) := by decide +kernel
theorem dX5_kept_20 : decode cX5_kept 20 = .ok (.invokevirtual 126, 3) := by decide +kernel
theorem dX5_kept_23 : decode cX5_kept 23 = .ok (.if_icmp .lt 6, 3) := by decide +kernel
theorem dX5_kept_26 : decode cX5_kept 26 = .ok (.bipush (-2), 2) := by decide +kernel
theorem dX5_kept_28 : decode cX5_kept 28 = .ok (.ireturn, 1) := by decide +kernel
theorem dX5_kept_29 : decode cX5_kept 29 = .ok (.aload_n 3, 1) := by decide +kernel
theorem dX5_kept_30 : decode cX5_kept 30 = .ok (.iload_n 1, 1) := by decide +kernel
theorem dX5_kept_31 : decode cX5_kept 31 = .ok (.iload_n 2, 1) := by decide +kernel
theorem dX5_kept_32 : decode cX5_kept 32 = .ok (.invokevirtual 198, 3) := by decide +kernel
theorem dX5_kept_35 : decode cX5_kept 35 = .ok (.ireturn, 1) := by decide +kernel
set_option maxRecDepth 20000 in
theorem ggX5_sum_X5_choicesNow : GoodIn wsX5_sum wsX5_choicesNow := goodIn_r _ [5, 6, 7, 8, 9, 10, 11, 12, 13, 14, 15, 16, 17, 18, 19, 20, 21, 22, 23, 24, 25, 26, 27, 28, 29, 30, 31, 32, 33, 34, 35, 36, 37, 4, 38, 39, 40, 41, 42, 43, 44, 45, 46, 47, 48, 49, 50, 51, 52, 53, 54, 55, 56, 57, 58, 59, 60, 61, 62, 63, 64, 65, 66, 67, 68, 69, 70, 71, 72, 73, 74, 104, 105, 106, 107, 108, 109, 110, 111, 112, 113, 114, 115, 116, 117, 118, 119, 120, 121, 122] (by decide +kernel) (by decide +kernel)
set_option maxRecDepth 20000 in
theorem gX5_sum_X5_choicesNow : GoodIn wsX5_sum (wsV RX5 122 RX5 yX5_choicesNow wsX5_choicesNow) := goodIn_app (goodIn_of _ (by decide +kernel)) ggX5_sum_X5_choicesNow
set_option maxRecDepth 20000 in
theorem ggX5_sum_X0_firstLightestMending : GoodIn wsX5_sum wsX0_firstLightestMending := goodIn_r _ [78, 79, 80, 81, 10, 82, 16, 54, 55, 56, 57, 12, 37, 4, 38, 83, 84, 85, 86, 14, 87, 88, 89, 90, 53, 91, 33, 34, 24, 35, 36, 111, 112, 113, 114, 115, 116, 117, 118, 119, 120, 121, 122] (by decide +kernel) (by decide +kernel)
set_option maxRecDepth 20000 in
theorem gX5_sum_X0_firstLightestMending : GoodIn wsX5_sum (wsV RX5 201 RX0 yX0_firstLightestMending wsX0_firstLightestMending) := goodIn_app (goodIn_of _ (by decide +kernel)) ggX5_sum_X0_firstLightestMending
set_option maxRecDepth 20000 in
theorem ggX5_sum_X0_sumKeptBy : GoodIn wsX5_sum wsX0_sumKeptBy := goodIn_r _ [95, 14, 71, 72, 73, 10, 74, 54, 55, 56, 57, 12, 37, 4, 38, 96, 97, 98, 99, 16, 87, 88, 89, 90, 53, 91, 33, 34, 24, 35, 36, 111, 112, 113, 114, 115, 116, 117, 118, 119, 120, 121, 122] (by decide +kernel) (by decide +kernel)
set_option maxRecDepth 20000 in
theorem gX5_sum_X0_sumKeptBy : GoodIn wsX5_sum (wsV RX5 204 RX0 yX0_sumKeptBy wsX0_sumKeptBy) := goodIn_app (goodIn_of _ (by decide +kernel)) ggX5_sum_X0_sumKeptBy
set_option maxRecDepth 20000 in
theorem ggX5_sum_X0_firstHeaviestMending : GoodIn wsX5_sum wsX0_firstHeaviestMending := goodIn_r _ [103, 79, 80, 81, 10, 82, 16, 54, 55, 56, 57, 12, 37, 4, 38, 83, 84, 85, 86, 14, 87, 88, 89, 90, 53, 91, 33, 34, 24, 35, 36, 111, 112, 113, 114, 115, 116, 117, 118, 119, 120, 121, 122] (by decide +kernel) (by decide +kernel)
set_option maxRecDepth 20000 in
theorem gX5_sum_X0_firstHeaviestMending : GoodIn wsX5_sum (wsV RX5 207 RX0 yX0_firstHeaviestMending wsX0_firstHeaviestMending) := goodIn_app (goodIn_of _ (by decide +kernel)) ggX5_sum_X0_firstHeaviestMending
theorem dX5_sum_0 : decode cX5_sum 0 = .ok (.aload_n 0, 1) := by decide +kernel
theorem dX5_sum_1 : decode cX5_sum 1 = .ok (.invokevirtual 122, 3) := by decide +kernel
theorem dX5_sum_4 : decode cX5_sum 4 = .ok (.astore_n 2, 1) := by decide +kernel
theorem dX5_sum_5 : decode cX5_sum 5 = .ok (.iload_n 1, 1) := by decide +kernel
theorem dX5_sum_6 : decode cX5_sum 6 = .ok (.tableswitch 58 0 3 #[30, 39, 48, 53], 30) := by decide +kernel
theorem dX5_sum_36 : decode cX5_sum 36 = .ok (.aload_n 2, 1) := by decide +kernel
theorem dX5_sum_37 : decode cX5_sum 37 = .ok (.aload_n 2, 1) := by decide +kernel
theorem dX5_sum_38 : decode cX5_sum 38 = .ok (.invokevirtual 201, 3) := by decide +kernel
theorem dX5_sum_41 : decode cX5_sum 41 = .ok (.invokevirtual 204, 3) := by decide +kernel
theorem dX5_sum_44 : decode cX5_sum 44 = .ok (.ireturn, 1) := by decide +kernel
theorem dX5_sum_45 : decode cX5_sum 45 = .ok (.aload_n 2, 1) := by decide +kernel
theorem dX5_sum_46 : decode cX5_sum 46 = .ok (.aload_n 2, 1) := by decide +kernel
theorem dX5_sum_47 : decode cX5_sum 47 = .ok (.invokevirtual 207, 3) := by decide +kernel
theorem dX5_sum_50 : decode cX5_sum 50 = .ok (.invokevirtual 204, 3) := by decide +kernel
theorem dX5_sum_53 : decode cX5_sum 53 = .ok (.ireturn, 1) := by decide +kernel
theorem dX5_sum_54 : decode cX5_sum 54 = .ok (.aload_n 2, 1) := by decide +kernel
theorem dX5_sum_55 : decode cX5_sum 55 = .ok (.invokevirtual 201, 3) := by decide +kernel
theorem dX5_sum_58 : decode cX5_sum 58 = .ok (.ireturn, 1) := by decide +kernel
theorem dX5_sum_59 : decode cX5_sum 59 = .ok (.aload_n 2, 1) := by decide +kernel
theorem dX5_sum_60 : decode cX5_sum 60 = .ok (.invokevirtual 207, 3) := by decide +kernel
theorem dX5_sum_63 : decode cX5_sum 63 = .ok (.ireturn, 1) := by decide +kernel
theorem dX5_sum_64 : decode cX5_sum 64 = .ok (.bipush (-2), 2) := by decide +kernel
theorem dX5_sum_66 : decode cX5_sum 66 = .ok (.ireturn, 1) := by decide +kernel
set_option maxRecDepth 20000 in
theorem ggX5_bestMended_X5_isKey : GoodIn wsX5_bestMended wsX5_isKey := goodIn_r _ [5] (by decide +kernel) (by decide +kernel)
set_option maxRecDepth 20000 in
theorem gX5_bestMended_X5_isKey : GoodIn wsX5_bestMended (va_wsS RX5 55 yX5_isKey wsX5_isKey) := goodIn_app (goodIn_of _ (by decide +kernel)) ggX5_bestMended_X5_isKey
set_option maxRecDepth 20000 in
theorem ggX5_bestMended_X5_choicesNow : GoodIn wsX5_bestMended wsX5_choicesNow := goodIn_r _ [9, 10, 11, 12, 13, 14, 15, 16, 17, 18, 19, 20, 21, 22, 23, 24, 25, 26, 27, 28, 29, 30, 31, 32, 33, 34, 35, 36, 37, 38, 39, 40, 41, 4, 42, 43, 44, 45, 46, 47, 48, 49, 50, 51, 52, 53, 54, 55, 56, 57, 58, 59, 60, 61, 62, 63, 64, 65, 66, 67, 68, 69, 70, 71, 72, 3, 5, 73, 74, 75, 76, 109, 110, 111, 112, 113, 114, 115, 116, 117, 118, 119, 120, 121, 122, 123, 124, 125, 126, 127] (by decide +kernel) (by decide +kernel)
set_option maxRecDepth 20000 in
theorem gX5_bestMended_X5_choicesNow : GoodIn wsX5_bestMended (wsV RX5 122 RX5 yX5_choicesNow wsX5_choicesNow) := goodIn_app (goodIn_of _ (by decide +kernel)) ggX5_bestMended_X5_choicesNow
set_option maxRecDepth 20000 in
theorem ggX5_bestMended_X0_rowThatMakesSure : GoodIn wsX5_bestMended wsX0_rowThatMakesSure := goodIn_r _ [80, 81, 82, 83, 14, 84, 85, 86, 87, 88, 89, 90, 91, 92, 73, 74, 75, 76, 58, 59, 60, 61, 16, 41, 4, 42, 93, 94, 95, 96, 17, 97, 98, 99, 100, 101, 102, 103, 57, 104, 105, 106, 107, 64, 65, 66, 67, 18, 68, 69, 70, 28, 71, 72, 3, 5, 62, 63, 116, 117, 118, 119, 120, 121, 122, 123, 124, 125, 126, 127] (by decide +kernel) (by decide +kernel)
set_option maxRecDepth 20000 in
theorem gX5_bestMended_X0_rowThatMakesSure : GoodIn wsX5_bestMended (wsV RX5 210 RX0 yX0_rowThatMakesSure wsX0_rowThatMakesSure) := goodIn_app (goodIn_of _ (by decide +kernel)) ggX5_bestMended_X0_rowThatMakesSure
set_option maxRecDepth 20000 in
theorem ggX5_bestMended_X3_keyAt : GoodIn wsX5_bestMended wsX3_keyAt := goodIn_r _ [46, 47, 41, 4, 42, 122, 123, 124, 125, 126, 127] (by decide +kernel) (by decide +kernel)
set_option maxRecDepth 20000 in
theorem gX5_bestMended_X3_keyAt : GoodIn wsX5_bestMended (wsV RX5 98 RX3 yX3_keyAt wsX3_keyAt) := goodIn_app (goodIn_of _ (by decide +kernel)) ggX5_bestMended_X3_keyAt
theorem dX5_bestMended_0 : decode cX5_bestMended 0 = .ok (.iload_n 1, 1) := by decide +kernel
theorem dX5_bestMended_1 : decode cX5_bestMended 1 = .ok (.invokestatic 55, 3) := by decide +kernel
theorem dX5_bestMended_4 : decode cX5_bestMended 4 = .ok (.ifCond .eq 10, 3) := by decide +kernel
theorem dX5_bestMended_7 : decode cX5_bestMended 7 = .ok (.iload_n 2, 1) := by decide +kernel
theorem dX5_bestMended_8 : decode cX5_bestMended 8 = .ok (.invokestatic 55, 3) := by decide +kernel
theorem dX5_bestMended_11 : decode cX5_bestMended 11 = .ok (.ifCond .ne 5, 3) := by decide +kernel
theorem dX5_bestMended_14 : decode cX5_bestMended 14 = .ok (.iconst (-1), 1) := by decide +kernel
theorem dX5_bestMended_15 : decode cX5_bestMended 15 = .ok (.ireturn, 1) := by decide +kernel
theorem dX5_bestMended_16 : decode cX5_bestMended 16 = .ok (.iload_n 3, 1) := by decide +kernel
theorem dX5_bestMended_17 : decode cX5_bestMended 17 = .ok (.ifCond .eq 11, 3) := by decide +kernel
theorem dX5_bestMended_20 : decode cX5_bestMended 20 = .ok (.iload_n 3, 1) := by decide +kernel
theorem dX5_bestMended_21 : decode cX5_bestMended 21 = .ok (.iconst 1, 1) := by decide +kernel
theorem dX5_bestMended_22 : decode cX5_bestMended 22 = .ok (.if_icmp .eq 6, 3) := by decide +kernel
theorem dX5_bestMended_25 : decode cX5_bestMended 25 = .ok (.bipush (-2), 2) := by decide +kernel
theorem dX5_bestMended_27 : decode cX5_bestMended 27 = .ok (.ireturn, 1) := by decide +kernel
theorem dX5_bestMended_28 : decode cX5_bestMended 28 = .ok (.aload_n 0, 1) := by decide +kernel
theorem dX5_bestMended_29 : decode cX5_bestMended 29 = .ok (.invokevirtual 122, 3) := by decide +kernel
theorem dX5_bestMended_32 : decode cX5_bestMended 32 = .ok (.iload_n 1, 1) := by decide +kernel
theorem dX5_bestMended_33 : decode cX5_bestMended 33 = .ok (.iload_n 2, 1) := by decide +kernel
theorem dX5_bestMended_34 : decode cX5_bestMended 34 = .ok (.invokevirtual 210, 3) := by decide +kernel
theorem dX5_bestMended_37 : decode cX5_bestMended 37 = .ok (.istore 4, 2) := by decide +kernel
theorem dX5_bestMended_39 : decode cX5_bestMended 39 = .ok (.iload 4, 2) := by decide +kernel
theorem dX5_bestMended_41 : decode cX5_bestMended 41 = .ok (.bipush (-5), 2) := by decide +kernel
theorem dX5_bestMended_43 : decode cX5_bestMended 43 = .ok (.if_icmp .ne 6, 3) := by decide +kernel
theorem dX5_bestMended_46 : decode cX5_bestMended 46 = .ok (.bipush (-5), 2) := by decide +kernel
theorem dX5_bestMended_48 : decode cX5_bestMended 48 = .ok (.ireturn, 1) := by decide +kernel
theorem dX5_bestMended_49 : decode cX5_bestMended 49 = .ok (.iload_n 3, 1) := by decide +kernel
theorem dX5_bestMended_50 : decode cX5_bestMended 50 = .ok (.ifCond .ne 15, 3) := by decide +kernel
theorem dX5_bestMended_53 : decode cX5_bestMended 53 = .ok (.aload_n 0, 1) := by decide +kernel
theorem dX5_bestMended_54 : decode cX5_bestMended 54 = .ok (.getfield 10, 3) := by decide +kernel
theorem dX5_bestMended_57 : decode cX5_bestMended 57 = .ok (.iload 4, 2) := by decide +kernel
theorem dX5_bestMended_59 : decode cX5_bestMended 59 = .ok (.invokevirtual 98, 3) := by decide +kernel
theorem dX5_bestMended_62 : decode cX5_bestMended 62 = .ok (.goto 5, 3) := by decide +kernel
theorem dX5_bestMended_65 : decode cX5_bestMended 65 = .ok (.iload 4, 2) := by decide +kernel
theorem dX5_bestMended_67 : decode cX5_bestMended 67 = .ok (.ireturn, 1) := by decide +kernel
set_option maxRecDepth 20000 in
theorem ggX5_count_X3_size : GoodIn wsX5_count wsX3_size := goodIn_r _ [8, 9, 197, 198, 199, 200, 201, 202] (by decide +kernel) (by decide +kernel)
set_option maxRecDepth 20000 in
theorem gX5_count_X3_size : GoodIn wsX5_count (wsV RX5 74 RX3 yX3_size wsX3_size) := goodIn_app (goodIn_of _ (by decide +kernel)) ggX5_count_X3_size
set_option maxRecDepth 20000 in
theorem ggX5_count_X3_keysThere : GoodIn wsX5_count wsX3_keysThere := goodIn_r _ [13, 14, 15, 16, 7, 17, 18, 19, 20, 21, 9, 22, 23, 24, 25, 26, 27, 28, 29, 197, 198, 199, 200, 201, 202] (by decide +kernel) (by decide +kernel)
set_option maxRecDepth 20000 in
theorem gX5_count_X3_keysThere : GoodIn wsX5_count (wsV RX5 213 RX3 yX3_keysThere wsX3_keysThere) := goodIn_app (goodIn_of _ (by decide +kernel)) ggX5_count_X3_keysThere
set_option maxRecDepth 20000 in
theorem ggX5_count_X3_doubledKeys : GoodIn wsX5_count wsX3_doubledKeys := goodIn_r _ [33, 14, 15, 16, 7, 17, 18, 19, 20, 21, 9, 22, 23, 24, 25, 26, 27, 28, 29, 197, 198, 199, 200, 201, 202] (by decide +kernel) (by decide +kernel)
set_option maxRecDepth 20000 in
theorem gX5_count_X3_doubledKeys : GoodIn wsX5_count (wsV RX5 108 RX3 yX3_doubledKeys wsX3_doubledKeys) := goodIn_app (goodIn_of _ (by decide +kernel)) ggX5_count_X3_doubledKeys
set_option maxRecDepth 20000 in
theorem ggX5_count_X5_choicesNow : GoodIn wsX5_count wsX5_choicesNow := goodIn_r _ [37, 38, 39, 40, 41, 42, 43, 44, 45, 46, 47, 48, 49, 50, 51, 52, 53, 5, 6, 7, 8, 9, 54, 55, 56, 57, 58, 59, 60, 61, 62, 63, 27, 28, 29, 22, 23, 24, 25, 26, 64, 65, 66, 67, 68, 69, 70, 71, 72, 73, 74, 75, 76, 77, 78, 79, 80, 81, 82, 83, 84, 85, 86, 87, 88, 89, 90, 91, 92, 93, 94, 190, 191, 192, 193, 194, 195, 196, 203, 204, 205, 206, 207, 208, 197, 198, 199, 200, 201, 202] (by decide +kernel) (by decide +kernel)
set_option maxRecDepth 20000 in
theorem gX5_count_X5_choicesNow : GoodIn wsX5_count (wsV RX5 122 RX5 yX5_choicesNow wsX5_choicesNow) := goodIn_app (goodIn_of _ (by decide +kernel)) ggX5_count_X5_choicesNow
set_option maxRecDepth 20000 in
theorem ggX5_count_X0_mendings : GoodIn wsX5_count wsX0_mendings := goodIn_r _ [98, 47, 203, 204, 205, 206, 207, 208] (by decide +kernel) (by decide +kernel)
set_option maxRecDepth 20000 in
theorem gX5_count_X0_mendings : GoodIn wsX5_count (wsV RX5 126 RX0 yX0_mendings wsX0_mendings) := goodIn_app (goodIn_of _ (by decide +kernel)) ggX5_count_X0_mendings
set_option maxRecDepth 20000 in
theorem ggX5_count_X0_sureRows : GoodIn wsX5_count wsX0_sureRows := goodIn_r _ [102, 46, 53, 5, 6, 7, 8, 9, 103, 104, 105, 42, 106, 54, 55, 56, 57, 58, 59, 60, 61, 62, 63, 27, 28, 29, 22, 23, 24, 25, 26, 64, 65, 66, 67, 68, 74, 75, 76, 77, 44, 203, 204, 205, 206, 207, 208, 197, 198, 199, 200, 201, 202] (by decide +kernel) (by decide +kernel)
set_option maxRecDepth 20000 in
theorem gX5_count_X0_sureRows : GoodIn wsX5_count (wsV RX5 216 RX0 yX0_sureRows wsX0_sureRows) := goodIn_app (goodIn_of _ (by decide +kernel)) ggX5_count_X0_sureRows
set_option maxRecDepth 20000 in
theorem ggX5_count_X0_sureValues : GoodIn wsX5_count wsX0_sureValues := goodIn_r _ [110, 111, 112, 113, 42, 114, 91, 92, 93, 94, 74, 75, 76, 77, 44, 27, 28, 29, 115, 116, 117, 118, 46, 119, 120, 121, 122, 73, 123, 124, 125, 7, 126, 127, 203, 204, 205, 206, 207, 208, 197, 198, 199, 200, 201, 202] (by decide +kernel) (by decide +kernel)
set_option maxRecDepth 20000 in
theorem gX5_count_X0_sureValues : GoodIn wsX5_count (wsV RX5 219 RX0 yX0_sureValues wsX0_sureValues) := goodIn_app (goodIn_of _ (by decide +kernel)) ggX5_count_X0_sureValues
set_option maxRecDepth 20000 in
theorem ggX5_count_X0_possibleValues : GoodIn wsX5_count wsX0_possibleValues := goodIn_r _ [131, 132, 133, 134, 42, 135, 115, 116, 117, 118, 46, 74, 75, 76, 77, 44, 27, 28, 29, 119, 120, 121, 122, 73, 123, 124, 125, 7, 126, 127, 203, 204, 205, 206, 207, 208, 197, 198, 199, 200, 201, 202] (by decide +kernel) (by decide +kernel)
set_option maxRecDepth 20000 in
theorem gX5_count_X0_possibleValues : GoodIn wsX5_count (wsV RX5 222 RX0 yX0_possibleValues wsX0_possibleValues) := goodIn_app (goodIn_of _ (by decide +kernel)) ggX5_count_X0_possibleValues
set_option maxRecDepth 20000 in
theorem ggX5_count_X0_sureWays : GoodIn wsX5_count wsX0_sureWays := goodIn_r _ [139, 140, 141, 142, 42, 143, 144, 145, 146, 147, 91, 92, 93, 94, 74, 75, 76, 77, 44, 27, 28, 29, 148, 149, 150, 151, 45, 152, 153, 154, 155, 156, 157, 158, 203, 204, 205, 206, 207, 208] (by decide +kernel) (by decide +kernel)
set_option maxRecDepth 20000 in
theorem gX5_count_X0_sureWays : GoodIn wsX5_count (wsV RX5 225 RX0 yX0_sureWays wsX0_sureWays) := goodIn_app (goodIn_of _ (by decide +kernel)) ggX5_count_X0_sureWays
set_option maxRecDepth 20000 in
theorem ggX5_count_X0_possibleWays : GoodIn wsX5_count wsX0_possibleWays := goodIn_r _ [162, 163, 164, 165, 42, 166, 144, 145, 146, 147, 91, 92, 93, 94, 74, 75, 76, 77, 44, 27, 28, 29, 167, 168, 169, 170, 45, 152, 153, 154, 155, 156, 157, 158, 203, 204, 205, 206, 207, 208] (by decide +kernel) (by decide +kernel)
set_option maxRecDepth 20000 in
theorem gX5_count_X0_possibleWays : GoodIn wsX5_count (wsV RX5 228 RX0 yX0_possibleWays wsX0_possibleWays) := goodIn_app (goodIn_of _ (by decide +kernel)) ggX5_count_X0_possibleWays
set_option maxRecDepth 20000 in
theorem ggX5_count_X3_prefersHeaviest : GoodIn wsX5_count wsX3_prefersHeaviest := goodIn_r _ [174, 58, 197, 198, 199, 200, 201, 202] (by decide +kernel) (by decide +kernel)
set_option maxRecDepth 20000 in
theorem gX5_count_X3_prefersHeaviest : GoodIn wsX5_count (wsV RX5 115 RX3 yX3_prefersHeaviest wsX3_prefersHeaviest) := goodIn_app (goodIn_of _ (by decide +kernel)) ggX5_count_X3_prefersHeaviest
set_option maxRecDepth 20000 in
theorem ggX5_count_X5_oneIf : GoodIn wsX5_count wsX5_oneIf := goodIn_r _ [177] (by decide +kernel) (by decide +kernel)
set_option maxRecDepth 20000 in
theorem gX5_count_X5_oneIf : GoodIn wsX5_count (va_wsS RX5 157 yX5_oneIf wsX5_oneIf) := goodIn_app (goodIn_of _ (by decide +kernel)) ggX5_count_X5_oneIf
set_option maxRecDepth 20000 in
theorem ggX5_count_X1_size : GoodIn wsX5_count wsX1_size := goodIn_r _ [182, 183, 209, 210, 211] (by decide +kernel) (by decide +kernel)
set_option maxRecDepth 20000 in
theorem gX5_count_X1_size : GoodIn wsX5_count (wsV RX5 141 RX1 yX1_size wsX1_size) := goodIn_app (goodIn_of _ (by decide +kernel)) ggX5_count_X1_size
set_option maxRecDepth 20000 in
theorem ggX5_count_X4_length : GoodIn wsX5_count wsX4_length := goodIn_r _ [188, 189, 212, 213] (by decide +kernel) (by decide +kernel)
set_option maxRecDepth 20000 in
theorem gX5_count_X4_length : GoodIn wsX5_count (wsV RX5 131 RX4 yX4_length wsX4_length) := goodIn_app (goodIn_of _ (by decide +kernel)) ggX5_count_X4_length
theorem dX5_count_0 : decode cX5_count 0 = .ok (.iload_n 1, 1) := by decide +kernel
theorem dX5_count_1 : decode cX5_count 1 = .ok (.tableswitch 162 0 11 #[63, 71, 79, 87, 95, 103, 111, 119, 127, 135, 146, 154], 63) := by decide +kernel
theorem dX5_count_64 : decode cX5_count 64 = .ok (.aload_n 0, 1) := by decide +kernel
theorem dX5_count_65 : decode cX5_count 65 = .ok (.getfield 10, 3) := by decide +kernel
theorem dX5_count_68 : decode cX5_count 68 = .ok (.invokevirtual 74, 3) := by decide +kernel
theorem dX5_count_71 : decode cX5_count 71 = .ok (.ireturn, 1) := by decide +kernel
theorem dX5_count_72 : decode cX5_count 72 = .ok (.aload_n 0, 1) := by decide +kernel
theorem dX5_count_73 : decode cX5_count 73 = .ok (.getfield 10, 3) := by decide +kernel
theorem dX5_count_76 : decode cX5_count 76 = .ok (.invokevirtual 213, 3) := by decide +kernel
theorem dX5_count_79 : decode cX5_count 79 = .ok (.ireturn, 1) := by decide +kernel
theorem dX5_count_80 : decode cX5_count 80 = .ok (.aload_n 0, 1) := by decide +kernel
theorem dX5_count_81 : decode cX5_count 81 = .ok (.getfield 10, 3) := by decide +kernel
theorem dX5_count_84 : decode cX5_count 84 = .ok (.invokevirtual 108, 3) := by decide +kernel
theorem dX5_count_87 : decode cX5_count 87 = .ok (.ireturn, 1) := by decide +kernel
theorem dX5_count_88 : decode cX5_count 88 = .ok (.aload_n 0, 1) := by decide +kernel
theorem dX5_count_89 : decode cX5_count 89 = .ok (.invokevirtual 122, 3) := by decide +kernel
theorem dX5_count_92 : decode cX5_count 92 = .ok (.invokevirtual 126, 3) := by decide +kernel
theorem dX5_count_95 : decode cX5_count 95 = .ok (.ireturn, 1) := by decide +kernel
theorem dX5_count_96 : decode cX5_count 96 = .ok (.aload_n 0, 1) := by decide +kernel
theorem dX5_count_97 : decode cX5_count 97 = .ok (.invokevirtual 122, 3) := by decide +kernel
theorem dX5_count_100 : decode cX5_count 100 = .ok (.invokevirtual 216, 3) := by decide +kernel
theorem dX5_count_103 : decode cX5_count 103 = .ok (.ireturn, 1) := by decide +kernel
theorem dX5_count_104 : decode cX5_count 104 = .ok (.aload_n 0, 1) := by decide +kernel
theorem dX5_count_105 : decode cX5_count 105 = .ok (.invokevirtual 122, 3) := by decide +kernel
theorem dX5_count_108 : decode cX5_count 108 = .ok (.invokevirtual 219, 3) := by decide +kernel
theorem dX5_count_111 : decode cX5_count 111 = .ok (.ireturn, 1) := by decide +kernel
theorem dX5_count_112 : decode cX5_count 112 = .ok (.aload_n 0, 1) := by decide +kernel
theorem dX5_count_113 : decode cX5_count 113 = .ok (.invokevirtual 122, 3) := by decide +kernel
theorem dX5_count_116 : decode cX5_count 116 = .ok (.invokevirtual 222, 3) := by decide +kernel
theorem dX5_count_119 : decode cX5_count 119 = .ok (.ireturn, 1) := by decide +kernel
theorem dX5_count_120 : decode cX5_count 120 = .ok (.aload_n 0, 1) := by decide +kernel
theorem dX5_count_121 : decode cX5_count 121 = .ok (.invokevirtual 122, 3) := by decide +kernel
theorem dX5_count_124 : decode cX5_count 124 = .ok (.invokevirtual 225, 3) := by decide +kernel
theorem dX5_count_127 : decode cX5_count 127 = .ok (.ireturn, 1) := by decide +kernel
theorem dX5_count_128 : decode cX5_count 128 = .ok (.aload_n 0, 1) := by decide +kernel
theorem dX5_count_129 : decode cX5_count 129 = .ok (.invokevirtual 122, 3) := by decide +kernel
theorem dX5_count_132 : decode cX5_count 132 = .ok (.invokevirtual 228, 3) := by decide +kernel
theorem dX5_count_135 : decode cX5_count 135 = .ok (.ireturn, 1) := by decide +kernel
theorem dX5_count_136 : decode cX5_count 136 = .ok (.aload_n 0, 1) := by decide +kernel
theorem dX5_count_137 : decode cX5_count 137 = .ok (.getfield 10, 3) := by decide +kernel
theorem dX5_count_140 : decode cX5_count 140 = .ok (.invokevirtual 115, 3) := by decide +kernel
theorem dX5_count_143 : decode cX5_count 143 = .ok (.invokestatic 157, 3) := by decide +kernel
theorem dX5_count_146 : decode cX5_count 146 = .ok (.ireturn, 1) := by decide +kernel
theorem dX5_count_147 : decode cX5_count 147 = .ok (.aload_n 0, 1) := by decide +kernel
theorem dX5_count_148 : decode cX5_count 148 = .ok (.getfield 28, 3) := by decide +kernel
theorem dX5_count_151 : decode cX5_count 151 = .ok (.invokevirtual 141, 3) := by decide +kernel
theorem dX5_count_154 : decode cX5_count 154 = .ok (.ireturn, 1) := by decide +kernel
theorem dX5_count_155 : decode cX5_count 155 = .ok (.aload_n 0, 1) := by decide +kernel
theorem dX5_count_156 : decode cX5_count 156 = .ok (.getfield 42, 3) := by decide +kernel
theorem dX5_count_159 : decode cX5_count 159 = .ok (.invokevirtual 131, 3) := by decide +kernel
theorem dX5_count_162 : decode cX5_count 162 = .ok (.ireturn, 1) := by decide +kernel
theorem dX5_count_163 : decode cX5_count 163 = .ok (.bipush (-2), 2) := by decide +kernel
theorem dX5_count_165 : decode cX5_count 165 = .ok (.ireturn, 1) := by decide +kernel
set_option maxRecDepth 20000 in
theorem ggX5_choicesNow_X0_update : GoodIn wsX5_choicesNow wsX0_update := goodIn_r _ [6, 7, 8, 9, 10, 11, 12, 13, 14, 15, 16, 17, 18, 19, 20, 21, 22, 23, 24, 25, 26, 27, 28, 29, 30, 31, 32, 33, 34, 35, 36, 37, 38, 39, 40, 41, 42, 43, 44, 45, 46, 47, 5, 48, 49, 50, 51, 52, 53, 54, 55, 56, 57, 58, 59, 60, 61, 62, 63, 64, 65, 66, 67, 68, 69, 70, 78, 79, 80, 81, 82, 83, 84, 85, 86, 87, 88, 89] (by decide +kernel) (by decide +kernel)
set_option maxRecDepth 20000 in
theorem gX5_choicesNow_X0_update : GoodIn wsX5_choicesNow (wsV RX5 231 RX0 yX0_update wsX0_update) := goodIn_app (goodIn_of _ (by decide +kernel)) ggX5_choicesNow_X0_update
theorem dX5_choicesNow_0 : decode cX5_choicesNow 0 = .ok (.aload_n 0, 1) := by decide +kernel
theorem dX5_choicesNow_1 : decode cX5_choicesNow 1 = .ok (.getfield 21, 3) := by decide +kernel
theorem dX5_choicesNow_4 : decode cX5_choicesNow 4 = .ok (.invokevirtual 231, 3) := by decide +kernel
theorem dX5_choicesNow_7 : decode cX5_choicesNow 7 = .ok (.aload_n 0, 1) := by decide +kernel
theorem dX5_choicesNow_8 : decode cX5_choicesNow 8 = .ok (.getfield 21, 3) := by decide +kernel
theorem dX5_choicesNow_11 : decode cX5_choicesNow 11 = .ok (.areturn, 1) := by decide +kernel
set_option maxRecDepth 20000 in
theorem ggX5_chosenBy_X3_firstWith : GoodIn wsX5_chosenBy wsX3_firstWith := goodIn_r _ [6, 7, 8, 9, 10, 5, 11, 12, 13, 14, 15, 36, 37, 38, 39, 40, 41] (by decide +kernel) (by decide +kernel)
set_option maxRecDepth 20000 in
theorem gX5_chosenBy_X3_firstWith : GoodIn wsX5_chosenBy (wsV RX5 234 RX3 yX3_firstWith wsX3_firstWith) := goodIn_app (goodIn_of _ (by decide +kernel)) ggX5_chosenBy_X3_firstWith
set_option maxRecDepth 20000 in
theorem ggX5_chosenBy_X3_lastWith : GoodIn wsX5_chosenBy wsX3_lastWith := goodIn_r _ [19, 7, 8, 9, 10, 5, 11, 12, 13, 14, 15, 36, 37, 38, 39, 40, 41] (by decide +kernel) (by decide +kernel)
set_option maxRecDepth 20000 in
theorem gX5_chosenBy_X3_lastWith : GoodIn wsX5_chosenBy (wsV RX5 237 RX3 yX3_lastWith wsX3_lastWith) := goodIn_app (goodIn_of _ (by decide +kernel)) ggX5_chosenBy_X3_lastWith
set_option maxRecDepth 20000 in
theorem ggX5_chosenBy_X3_heaviestWith : GoodIn wsX5_chosenBy wsX3_heaviestWith := goodIn_r _ [23, 7, 8, 9, 10, 5, 11, 12, 13, 14, 15, 24, 25, 26, 27, 28, 36, 37, 38, 39, 40, 41] (by decide +kernel) (by decide +kernel)
set_option maxRecDepth 20000 in
theorem gX5_chosenBy_X3_heaviestWith : GoodIn wsX5_chosenBy (wsV RX5 170 RX3 yX3_heaviestWith wsX3_heaviestWith) := goodIn_app (goodIn_of _ (by decide +kernel)) ggX5_chosenBy_X3_heaviestWith
theorem dX5_chosenBy_0 : decode cX5_chosenBy 0 = .ok (.iload_n 1, 1) := by decide +kernel
theorem dX5_chosenBy_1 : decode cX5_chosenBy 1 = .ok (.lookupswitch 45 #[(0, 27), (1, 36)], 27) := by decide +kernel
theorem dX5_chosenBy_28 : decode cX5_chosenBy 28 = .ok (.aload_n 0, 1) := by decide +kernel
theorem dX5_chosenBy_29 : decode cX5_chosenBy 29 = .ok (.getfield 10, 3) := by decide +kernel
theorem dX5_chosenBy_32 : decode cX5_chosenBy 32 = .ok (.iload_n 2, 1) := by decide +kernel
theorem dX5_chosenBy_33 : decode cX5_chosenBy 33 = .ok (.invokevirtual 234, 3) := by decide +kernel
theorem dX5_chosenBy_36 : decode cX5_chosenBy 36 = .ok (.ireturn, 1) := by decide +kernel
theorem dX5_chosenBy_37 : decode cX5_chosenBy 37 = .ok (.aload_n 0, 1) := by decide +kernel
theorem dX5_chosenBy_38 : decode cX5_chosenBy 38 = .ok (.getfield 10, 3) := by decide +kernel
theorem dX5_chosenBy_41 : decode cX5_chosenBy 41 = .ok (.iload_n 2, 1) := by decide +kernel
theorem dX5_chosenBy_42 : decode cX5_chosenBy 42 = .ok (.invokevirtual 237, 3) := by decide +kernel
theorem dX5_chosenBy_45 : decode cX5_chosenBy 45 = .ok (.ireturn, 1) := by decide +kernel
theorem dX5_chosenBy_46 : decode cX5_chosenBy 46 = .ok (.aload_n 0, 1) := by decide +kernel
theorem dX5_chosenBy_47 : decode cX5_chosenBy 47 = .ok (.getfield 10, 3) := by decide +kernel
theorem dX5_chosenBy_50 : decode cX5_chosenBy 50 = .ok (.iload_n 2, 1) := by decide +kernel
theorem dX5_chosenBy_51 : decode cX5_chosenBy 51 = .ok (.invokevirtual 170, 3) := by decide +kernel
theorem dX5_chosenBy_54 : decode cX5_chosenBy 54 = .ok (.ireturn, 1) := by decide +kernel
theorem dX5_isKey_0 : decode cX5_isKey 0 = .ok (.iload_n 0, 1) := by decide +kernel
theorem dX5_isKey_1 : decode cX5_isKey 1 = .ok (.ifCond .lt 13, 3) := by decide +kernel
theorem dX5_isKey_4 : decode cX5_isKey 4 = .ok (.iload_n 0, 1) := by decide +kernel
theorem dX5_isKey_5 : decode cX5_isKey 5 = .ok (.bipush 10, 2) := by decide +kernel
theorem dX5_isKey_7 : decode cX5_isKey 7 = .ok (.if_icmp .ge 7, 3) := by decide +kernel
theorem dX5_isKey_10 : decode cX5_isKey 10 = .ok (.iconst 1, 1) := by decide +kernel
theorem dX5_isKey_11 : decode cX5_isKey 11 = .ok (.goto 4, 3) := by decide +kernel
theorem dX5_isKey_14 : decode cX5_isKey 14 = .ok (.iconst 0, 1) := by decide +kernel
theorem dX5_isKey_15 : decode cX5_isKey 15 = .ok (.ireturn, 1) := by decide +kernel
theorem dX5_isValue_0 : decode cX5_isValue 0 = .ok (.iload_n 0, 1) := by decide +kernel
theorem dX5_isValue_1 : decode cX5_isValue 1 = .ok (.bipush 97, 2) := by decide +kernel
theorem dX5_isValue_3 : decode cX5_isValue 3 = .ok (.if_icmp .lt 13, 3) := by decide +kernel
theorem dX5_isValue_6 : decode cX5_isValue 6 = .ok (.iload_n 0, 1) := by decide +kernel
theorem dX5_isValue_7 : decode cX5_isValue 7 = .ok (.bipush 104, 2) := by decide +kernel
theorem dX5_isValue_9 : decode cX5_isValue 9 = .ok (.if_icmp .gt 7, 3) := by decide +kernel
theorem dX5_isValue_12 : decode cX5_isValue 12 = .ok (.iconst 1, 1) := by decide +kernel
theorem dX5_isValue_13 : decode cX5_isValue 13 = .ok (.goto 4, 3) := by decide +kernel
theorem dX5_isValue_16 : decode cX5_isValue 16 = .ok (.iconst 0, 1) := by decide +kernel
theorem dX5_isValue_17 : decode cX5_isValue 17 = .ok (.ireturn, 1) := by decide +kernel
theorem dX5_oneIf_0 : decode cX5_oneIf 0 = .ok (.iload_n 0, 1) := by decide +kernel
theorem dX5_oneIf_1 : decode cX5_oneIf 1 = .ok (.ifCond .eq 7, 3) := by decide +kernel
theorem dX5_oneIf_4 : decode cX5_oneIf 4 = .ok (.iconst 1, 1) := by decide +kernel
theorem dX5_oneIf_5 : decode cX5_oneIf 5 = .ok (.goto 4, 3) := by decide +kernel
theorem dX5_oneIf_8 : decode cX5_oneIf 8 = .ok (.iconst 0, 1) := by decide +kernel
theorem dX5_oneIf_9 : decode cX5_oneIf 9 = .ok (.ireturn, 1) := by decide +kernel
theorem dX5_at_0 : decode cX5_at 0 = .ok (.iload_n 1, 1) := by decide +kernel
theorem dX5_at_1 : decode cX5_at 1 = .ok (.ifCond .lt 15, 3) := by decide +kernel
theorem dX5_at_4 : decode cX5_at 4 = .ok (.iload_n 1, 1) := by decide +kernel
theorem dX5_at_5 : decode cX5_at 5 = .ok (.aload_n 0, 1) := by decide +kernel
theorem dX5_at_6 : decode cX5_at 6 = .ok (.arraylength, 1) := by decide +kernel
theorem dX5_at_7 : decode cX5_at 7 = .ok (.if_icmp .ge 9, 3) := by decide +kernel
theorem dX5_at_10 : decode cX5_at 10 = .ok (.aload_n 0, 1) := by decide +kernel
theorem dX5_at_11 : decode cX5_at 11 = .ok (.iload_n 1, 1) := by decide +kernel
theorem dX5_at_12 : decode cX5_at 12 = .ok (.iaload, 1) := by decide +kernel
theorem dX5_at_13 : decode cX5_at 13 = .ok (.goto 5, 3) := by decide +kernel
theorem dX5_at_16 : decode cX5_at 16 = .ok (.bipush (-5), 2) := by decide +kernel
theorem dX5_at_18 : decode cX5_at 18 = .ok (.ireturn, 1) := by decide +kernel
theorem dX5_put_0 : decode cX5_put 0 = .ok (.iload_n 1, 1) := by decide +kernel
theorem dX5_put_1 : decode cX5_put 1 = .ok (.ifCond .lt 13, 3) := by decide +kernel
theorem dX5_put_4 : decode cX5_put 4 = .ok (.iload_n 1, 1) := by decide +kernel
theorem dX5_put_5 : decode cX5_put 5 = .ok (.aload_n 0, 1) := by decide +kernel
theorem dX5_put_6 : decode cX5_put 6 = .ok (.arraylength, 1) := by decide +kernel
theorem dX5_put_7 : decode cX5_put 7 = .ok (.if_icmp .ge 7, 3) := by decide +kernel
theorem dX5_put_10 : decode cX5_put 10 = .ok (.aload_n 0, 1) := by decide +kernel
theorem dX5_put_11 : decode cX5_put 11 = .ok (.iload_n 1, 1) := by decide +kernel
theorem dX5_put_12 : decode cX5_put 12 = .ok (.iload_n 2, 1) := by decide +kernel
theorem dX5_put_13 : decode cX5_put 13 = .ok (.iastore, 1) := by decide +kernel
theorem dX5_put_14 : decode cX5_put 14 = .ok (.return_, 1) := by decide +kernel
theorem dX5_copy_0 : decode cX5_copy 0 = .ok (.aload_n 0, 1) := by decide +kernel
theorem dX5_copy_1 : decode cX5_copy 1 = .ok (.iconst 0, 1) := by decide +kernel
theorem dX5_copy_2 : decode cX5_copy 2 = .ok (.aload_n 1, 1) := by decide +kernel
theorem dX5_copy_3 : decode cX5_copy 3 = .ok (.iconst 0, 1) := by decide +kernel
theorem dX5_copy_4 : decode cX5_copy 4 = .ok (.aload_n 0, 1) := by decide +kernel
theorem dX5_copy_5 : decode cX5_copy 5 = .ok (.arraylength, 1) := by decide +kernel
theorem dX5_copy_6 : decode cX5_copy 6 = .ok (.aload_n 1, 1) := by decide +kernel
theorem dX5_copy_7 : decode cX5_copy 7 = .ok (.arraylength, 1) := by decide +kernel
theorem dX5_copy_8 : decode cX5_copy 8 = .ok (.invokestatic 240, 3) := by decide +kernel
theorem dX5_copy_11 : decode cX5_copy 11 = .ok (.invokestatic 245, 3) := by decide +kernel
theorem dX5_copy_14 : decode cX5_copy 14 = .ok (.return_, 1) := by decide +kernel
theorem dX6_init_0 : decode cX6_init 0 = .ok (.aload_n 0, 1) := by decide +kernel
theorem dX6_init_1 : decode cX6_init 1 = .ok (.invokespecial 1, 3) := by decide +kernel
theorem dX6_init_4 : decode cX6_init 4 = .ok (.aload_n 0, 1) := by decide +kernel
theorem dX6_init_5 : decode cX6_init 5 = .ok (.bipush 82, 2) := by decide +kernel
theorem dX6_init_7 : decode cX6_init 7 = .ok (.newarray .int, 2) := by decide +kernel
theorem dX6_init_9 : decode cX6_init 9 = .ok (.putfield 7, 3) := by decide +kernel
theorem dX6_init_12 : decode cX6_init 12 = .ok (.aload_n 0, 1) := by decide +kernel
theorem dX6_init_13 : decode cX6_init 13 = .ok (.bipush 82, 2) := by decide +kernel
theorem dX6_init_15 : decode cX6_init 15 = .ok (.newarray .int, 2) := by decide +kernel
theorem dX6_init_17 : decode cX6_init 17 = .ok (.putfield 13, 3) := by decide +kernel
theorem dX6_init_20 : decode cX6_init 20 = .ok (.aload_n 0, 1) := by decide +kernel
theorem dX6_init_21 : decode cX6_init 21 = .ok (.sipush 328, 3) := by decide +kernel
theorem dX6_init_24 : decode cX6_init 24 = .ok (.newarray .int, 2) := by decide +kernel
theorem dX6_init_26 : decode cX6_init 26 = .ok (.putfield 16, 3) := by decide +kernel
theorem dX6_init_29 : decode cX6_init 29 = .ok (.aload_n 0, 1) := by decide +kernel
theorem dX6_init_30 : decode cX6_init 30 = .ok (.bipush 82, 2) := by decide +kernel
theorem dX6_init_32 : decode cX6_init 32 = .ok (.newarray .int, 2) := by decide +kernel
theorem dX6_init_34 : decode cX6_init 34 = .ok (.putfield 19, 3) := by decide +kernel
theorem dX6_init_37 : decode cX6_init 37 = .ok (.aload_n 0, 1) := by decide +kernel
theorem dX6_init_38 : decode cX6_init 38 = .ok (.sipush 200, 3) := by decide +kernel
theorem dX6_init_41 : decode cX6_init 41 = .ok (.newarray .int, 2) := by decide +kernel
theorem dX6_init_43 : decode cX6_init 43 = .ok (.putfield 22, 3) := by decide +kernel
theorem dX6_init_46 : decode cX6_init 46 = .ok (.aload_n 0, 1) := by decide +kernel
theorem dX6_init_47 : decode cX6_init 47 = .ok (.bipush 10, 2) := by decide +kernel
theorem dX6_init_49 : decode cX6_init 49 = .ok (.newarray .int, 2) := by decide +kernel
theorem dX6_init_51 : decode cX6_init 51 = .ok (.putfield 25, 3) := by decide +kernel
theorem dX6_init_54 : decode cX6_init 54 = .ok (.aload_n 0, 1) := by decide +kernel
theorem dX6_init_55 : decode cX6_init 55 = .ok (.bipush 10, 2) := by decide +kernel
theorem dX6_init_57 : decode cX6_init 57 = .ok (.newarray .int, 2) := by decide +kernel
theorem dX6_init_59 : decode cX6_init 59 = .ok (.putfield 28, 3) := by decide +kernel
theorem dX6_init_62 : decode cX6_init 62 = .ok (.aload_n 0, 1) := by decide +kernel
theorem dX6_init_63 : decode cX6_init 63 = .ok (.bipush (-5), 2) := by decide +kernel
theorem dX6_init_65 : decode cX6_init 65 = .ok (.putfield 31, 3) := by decide +kernel
theorem dX6_init_68 : decode cX6_init 68 = .ok (.aload_n 0, 1) := by decide +kernel
theorem dX6_init_69 : decode cX6_init 69 = .ok (.bipush 80, 2) := by decide +kernel
theorem dX6_init_71 : decode cX6_init 71 = .ok (.newarray .int, 2) := by decide +kernel
theorem dX6_init_73 : decode cX6_init 73 = .ok (.putfield 35, 3) := by decide +kernel
theorem dX6_init_76 : decode cX6_init 76 = .ok (.aload_n 0, 1) := by decide +kernel
theorem dX6_init_77 : decode cX6_init 77 = .ok (.bipush 84, 2) := by decide +kernel
theorem dX6_init_79 : decode cX6_init 79 = .ok (.newarray .int, 2) := by decide +kernel
theorem dX6_init_81 : decode cX6_init 81 = .ok (.putfield 38, 3) := by decide +kernel
theorem dX6_init_84 : decode cX6_init 84 = .ok (.aload_n 0, 1) := by decide +kernel
theorem dX6_init_85 : decode cX6_init 85 = .ok (.bipush 100, 2) := by decide +kernel
theorem dX6_init_87 : decode cX6_init 87 = .ok (.newarray .int, 2) := by decide +kernel
theorem dX6_init_89 : decode cX6_init 89 = .ok (.putfield 41, 3) := by decide +kernel
theorem dX6_init_92 : decode cX6_init 92 = .ok (.return_, 1) := by decide +kernel
theorem dX6_in_0 : decode cX6_in 0 = .ok (.lload_n 0, 1) := by decide +kernel
theorem dX6_in_1 : decode cX6_in 1 = .ok (.lload_n 2, 1) := by decide +kernel
theorem dX6_in_2 : decode cX6_in 2 = .ok (.lcmp, 1) := by decide +kernel
theorem dX6_in_3 : decode cX6_in 3 = .ok (.ifCond .lt 14, 3) := by decide +kernel
theorem dX6_in_6 : decode cX6_in 6 = .ok (.lload_n 0, 1) := by decide +kernel
theorem dX6_in_7 : decode cX6_in 7 = .ok (.lload 4, 2) := by decide +kernel
theorem dX6_in_9 : decode cX6_in 9 = .ok (.lcmp, 1) := by decide +kernel
theorem dX6_in_10 : decode cX6_in 10 = .ok (.ifCond .gt 7, 3) := by decide +kernel
theorem dX6_in_13 : decode cX6_in 13 = .ok (.iconst 1, 1) := by decide +kernel
theorem dX6_in_14 : decode cX6_in 14 = .ok (.goto 4, 3) := by decide +kernel
theorem dX6_in_17 : decode cX6_in 17 = .ok (.iconst 0, 1) := by decide +kernel
theorem dX6_in_18 : decode cX6_in 18 = .ok (.ireturn, 1) := by decide +kernel
theorem dX6_remember_0 : decode cX6_remember 0 = .ok (.iconst 0, 1) := by decide +kernel
theorem dX6_remember_1 : decode cX6_remember 1 = .ok (.istore_n 1, 1) := by decide +kernel
theorem dX6_remember_2 : decode cX6_remember 2 = .ok (.iload_n 1, 1) := by decide +kernel
theorem dX6_remember_3 : decode cX6_remember 3 = .ok (.bipush 82, 2) := by decide +kernel
theorem dX6_remember_5 : decode cX6_remember 5 = .ok (.if_icmp .ge 21, 3) := by decide +kernel
theorem dX6_remember_8 : decode cX6_remember 8 = .ok (.aload_n 0, 1) := by decide +kernel
theorem dX6_remember_9 : decode cX6_remember 9 = .ok (.getfield 13, 3) := by decide +kernel
theorem dX6_remember_12 : decode cX6_remember 12 = .ok (.iload_n 1, 1) := by decide +kernel
theorem dX6_remember_13 : decode cX6_remember 13 = .ok (.aload_n 0, 1) := by decide +kernel
theorem dX6_remember_14 : decode cX6_remember 14 = .ok (.getfield 7, 3) := by decide +kernel
theorem dX6_remember_17 : decode cX6_remember 17 = .ok (.iload_n 1, 1) := by decide +kernel
theorem dX6_remember_18 : decode cX6_remember 18 = .ok (.iaload, 1) := by decide +kernel
theorem dX6_remember_19 : decode cX6_remember 19 = .ok (.iastore, 1) := by decide +kernel
theorem dX6_remember_20 : decode cX6_remember 20 = .ok (.iinc 1 1, 3) := by decide +kernel
theorem dX6_remember_23 : decode cX6_remember 23 = .ok (.goto (-21), 3) := by decide +kernel
theorem dX6_remember_26 : decode cX6_remember 26 = .ok (.return_, 1) := by decide +kernel
theorem dX6_acted_0 : decode cX6_acted 0 = .ok (.aload_n 0, 1) := by decide +kernel
theorem dX6_acted_1 : decode cX6_acted 1 = .ok (.getfield 44, 3) := by decide +kernel
theorem dX6_acted_4 : decode cX6_acted 4 = .ok (.iconst 4, 1) := by decide +kernel
theorem dX6_acted_5 : decode cX6_acted 5 = .ok (.if_icmp .ne 43, 3) := by decide +kernel
theorem dX6_acted_8 : decode cX6_acted 8 = .ok (.iconst 0, 1) := by decide +kernel
theorem dX6_acted_9 : decode cX6_acted 9 = .ok (.istore_n 2, 1) := by decide +kernel
theorem dX6_acted_10 : decode cX6_acted 10 = .ok (.iload_n 2, 1) := by decide +kernel
theorem dX6_acted_11 : decode cX6_acted 11 = .ok (.sipush 246, 3) := by decide +kernel
theorem dX6_acted_14 : decode cX6_acted 14 = .ok (.if_icmp .ge 24, 3) := by decide +kernel
theorem dX6_acted_17 : decode cX6_acted 17 = .ok (.aload_n 0, 1) := by decide +kernel
theorem dX6_acted_18 : decode cX6_acted 18 = .ok (.getfield 16, 3) := by decide +kernel
theorem dX6_acted_21 : decode cX6_acted 21 = .ok (.iload_n 2, 1) := by decide +kernel
theorem dX6_acted_22 : decode cX6_acted 22 = .ok (.aload_n 0, 1) := by decide +kernel
theorem dX6_acted_23 : decode cX6_acted 23 = .ok (.getfield 16, 3) := by decide +kernel
theorem dX6_acted_26 : decode cX6_acted 26 = .ok (.iload_n 2, 1) := by decide +kernel
theorem dX6_acted_27 : decode cX6_acted 27 = .ok (.bipush 82, 2) := by decide +kernel
theorem dX6_acted_29 : decode cX6_acted 29 = .ok (.iadd, 1) := by decide +kernel
theorem dX6_acted_30 : decode cX6_acted 30 = .ok (.iaload, 1) := by decide +kernel
theorem dX6_acted_31 : decode cX6_acted 31 = .ok (.iastore, 1) := by decide +kernel
theorem dX6_acted_32 : decode cX6_acted 32 = .ok (.iinc 2 1, 3) := by decide +kernel
theorem dX6_acted_35 : decode cX6_acted 35 = .ok (.goto (-25), 3) := by decide +kernel
theorem dX6_acted_38 : decode cX6_acted 38 = .ok (.aload_n 0, 1) := by decide +kernel
theorem dX6_acted_39 : decode cX6_acted 39 = .ok (.dup, 1) := by decide +kernel
theorem dX6_acted_40 : decode cX6_acted 40 = .ok (.getfield 44, 3) := by decide +kernel
theorem dX6_acted_43 : decode cX6_acted 43 = .ok (.iconst 1, 1) := by decide +kernel
theorem dX6_acted_44 : decode cX6_acted 44 = .ok (.isub, 1) := by decide +kernel
theorem dX6_acted_45 : decode cX6_acted 45 = .ok (.putfield 44, 3) := by decide +kernel
theorem dX6_acted_48 : decode cX6_acted 48 = .ok (.iconst 0, 1) := by decide +kernel
theorem dX6_acted_49 : decode cX6_acted 49 = .ok (.istore_n 2, 1) := by decide +kernel
theorem dX6_acted_50 : decode cX6_acted 50 = .ok (.iload_n 2, 1) := by decide +kernel
theorem dX6_acted_51 : decode cX6_acted 51 = .ok (.bipush 82, 2) := by decide +kernel
theorem dX6_acted_53 : decode cX6_acted 53 = .ok (.if_icmp .ge 29, 3) := by decide +kernel
theorem dX6_acted_56 : decode cX6_acted 56 = .ok (.aload_n 0, 1) := by decide +kernel
theorem dX6_acted_57 : decode cX6_acted 57 = .ok (.getfield 16, 3) := by decide +kernel
theorem dX6_acted_60 : decode cX6_acted 60 = .ok (.bipush 82, 2) := by decide +kernel
theorem dX6_acted_62 : decode cX6_acted 62 = .ok (.aload_n 0, 1) := by decide +kernel
theorem dX6_acted_63 : decode cX6_acted 63 = .ok (.getfield 44, 3) := by decide +kernel
theorem dX6_acted_66 : decode cX6_acted 66 = .ok (.imul, 1) := by decide +kernel
theorem dX6_acted_67 : decode cX6_acted 67 = .ok (.iload_n 2, 1) := by decide +kernel
theorem dX6_acted_68 : decode cX6_acted 68 = .ok (.iadd, 1) := by decide +kernel
theorem dX6_acted_69 : decode cX6_acted 69 = .ok (.aload_n 0, 1) := by decide +kernel
theorem dX6_acted_70 : decode cX6_acted 70 = .ok (.getfield 13, 3) := by decide +kernel
theorem dX6_acted_73 : decode cX6_acted 73 = .ok (.iload_n 2, 1) := by decide +kernel
theorem dX6_acted_74 : decode cX6_acted 74 = .ok (.iaload, 1) := by decide +kernel
theorem dX6_acted_75 : decode cX6_acted 75 = .ok (.iastore, 1) := by decide +kernel
theorem dX6_acted_76 : decode cX6_acted 76 = .ok (.iinc 2 1, 3) := by decide +kernel
theorem dX6_acted_79 : decode cX6_acted 79 = .ok (.goto (-29), 3) := by decide +kernel
theorem dX6_acted_82 : decode cX6_acted 82 = .ok (.aload_n 0, 1) := by decide +kernel
theorem dX6_acted_83 : decode cX6_acted 83 = .ok (.dup, 1) := by decide +kernel
theorem dX6_acted_84 : decode cX6_acted 84 = .ok (.getfield 44, 3) := by decide +kernel
theorem dX6_acted_87 : decode cX6_acted 87 = .ok (.iconst 1, 1) := by decide +kernel
theorem dX6_acted_88 : decode cX6_acted 88 = .ok (.iadd, 1) := by decide +kernel
theorem dX6_acted_89 : decode cX6_acted 89 = .ok (.putfield 44, 3) := by decide +kernel
theorem dX6_acted_92 : decode cX6_acted 92 = .ok (.iload_n 1, 1) := by decide +kernel
theorem dX6_acted_93 : decode cX6_acted 93 = .ok (.ireturn, 1) := by decide +kernel
theorem dX6_of_0 : decode cX6_of 0 = .ok (.aload_n 0, 1) := by decide +kernel
theorem dX6_of_1 : decode cX6_of 1 = .ok (.getfield 7, 3) := by decide +kernel
theorem dX6_of_4 : decode cX6_of 4 = .ok (.iconst 2, 1) := by decide +kernel
theorem dX6_of_5 : decode cX6_of 5 = .ok (.iconst 4, 1) := by decide +kernel
theorem dX6_of_6 : decode cX6_of 6 = .ok (.iload_n 1, 1) := by decide +kernel
theorem dX6_of_7 : decode cX6_of 7 = .ok (.imul, 1) := by decide +kernel
theorem dX6_of_8 : decode cX6_of 8 = .ok (.iadd, 1) := by decide +kernel
theorem dX6_of_9 : decode cX6_of 9 = .ok (.iload_n 2, 1) := by decide +kernel
theorem dX6_of_10 : decode cX6_of 10 = .ok (.iadd, 1) := by decide +kernel
theorem dX6_of_11 : decode cX6_of 11 = .ok (.iaload, 1) := by decide +kernel
theorem dX6_of_12 : decode cX6_of 12 = .ok (.ireturn, 1) := by decide +kernel
set_option maxRecDepth 20000 in
theorem ggX6_isRow_X6_in : GoodIn wsX6_isRow wsX6_in := goodIn_r _ [5] (by decide +kernel) (by decide +kernel)
set_option maxRecDepth 20000 in
theorem gX6_isRow_X6_in : GoodIn wsX6_isRow (va_wsS RX6 47 yX6_in wsX6_in) := goodIn_app (goodIn_of _ (by decide +kernel)) ggX6_isRow_X6_in
theorem dX6_isRow_0 : decode cX6_isRow 0 = .ok (.iload_n 1, 1) := by decide +kernel
theorem dX6_isRow_1 : decode cX6_isRow 1 = .ok (.i2l, 1) := by decide +kernel
theorem dX6_isRow_2 : decode cX6_isRow 2 = .ok (.lconst 0, 1) := by decide +kernel
theorem dX6_isRow_3 : decode cX6_isRow 3 = .ok (.aload_n 0, 1) := by decide +kernel
theorem dX6_isRow_4 : decode cX6_isRow 4 = .ok (.getfield 7, 3) := by decide +kernel
theorem dX6_isRow_7 : decode cX6_isRow 7 = .ok (.iconst 0, 1) := by decide +kernel
theorem dX6_isRow_8 : decode cX6_isRow 8 = .ok (.iaload, 1) := by decide +kernel
theorem dX6_isRow_9 : decode cX6_isRow 9 = .ok (.i2l, 1) := by decide +kernel
theorem dX6_isRow_10 : decode cX6_isRow 10 = .ok (.lconst 1, 1) := by decide +kernel
theorem dX6_isRow_11 : decode cX6_isRow 11 = .ok (.lsub, 1) := by decide +kernel
theorem dX6_isRow_12 : decode cX6_isRow 12 = .ok (.invokestatic 47, 3) := by decide +kernel
theorem dX6_isRow_15 : decode cX6_isRow 15 = .ok (.ireturn, 1) := by decide +kernel
set_option maxRecDepth 20000 in
theorem ggX6_isKey_X6_in : GoodIn wsX6_isKey wsX6_in := goodIn_r _ [5] (by decide +kernel) (by decide +kernel)
set_option maxRecDepth 20000 in
theorem gX6_isKey_X6_in : GoodIn wsX6_isKey (va_wsS RX6 47 yX6_in wsX6_in) := goodIn_app (goodIn_of _ (by decide +kernel)) ggX6_isKey_X6_in
theorem dX6_isKey_0 : decode cX6_isKey 0 = .ok (.iload_n 0, 1) := by decide +kernel
theorem dX6_isKey_1 : decode cX6_isKey 1 = .ok (.i2l, 1) := by decide +kernel
theorem dX6_isKey_2 : decode cX6_isKey 2 = .ok (.lconst 0, 1) := by decide +kernel
theorem dX6_isKey_3 : decode cX6_isKey 3 = .ok (.ldc2_w 51, 3) := by decide +kernel
theorem dX6_isKey_6 : decode cX6_isKey 6 = .ok (.invokestatic 47, 3) := by decide +kernel
theorem dX6_isKey_9 : decode cX6_isKey 9 = .ok (.ireturn, 1) := by decide +kernel
set_option maxRecDepth 20000 in
theorem ggX6_rowsOf_X6_of : GoodIn wsX6_rowsOf wsX6_of := goodIn_r _ [6, 1, 7, 8, 9, 10, 11, 12, 13, 14, 15, 16, 17, 18, 19, 20, 21, 22, 23, 24, 25, 26] (by decide +kernel) (by decide +kernel)
set_option maxRecDepth 20000 in
theorem gX6_rowsOf_X6_of : GoodIn wsX6_rowsOf (wsV RX6 53 RX6 yX6_of wsX6_of) := goodIn_app (goodIn_of _ (by decide +kernel)) ggX6_rowsOf_X6_of
theorem dX6_rowsOf_0 : decode cX6_rowsOf 0 = .ok (.iconst 0, 1) := by decide +kernel
theorem dX6_rowsOf_1 : decode cX6_rowsOf 1 = .ok (.istore_n 2, 1) := by decide +kernel
theorem dX6_rowsOf_2 : decode cX6_rowsOf 2 = .ok (.iconst 0, 1) := by decide +kernel
theorem dX6_rowsOf_3 : decode cX6_rowsOf 3 = .ok (.istore_n 3, 1) := by decide +kernel
theorem dX6_rowsOf_4 : decode cX6_rowsOf 4 = .ok (.iload_n 3, 1) := by decide +kernel
theorem dX6_rowsOf_5 : decode cX6_rowsOf 5 = .ok (.aload_n 0, 1) := by decide +kernel
theorem dX6_rowsOf_6 : decode cX6_rowsOf 6 = .ok (.getfield 7, 3) := by decide +kernel
theorem dX6_rowsOf_9 : decode cX6_rowsOf 9 = .ok (.iconst 0, 1) := by decide +kernel
theorem dX6_rowsOf_10 : decode cX6_rowsOf 10 = .ok (.iaload, 1) := by decide +kernel
theorem dX6_rowsOf_11 : decode cX6_rowsOf 11 = .ok (.if_icmp .ge 27, 3) := by decide +kernel
theorem dX6_rowsOf_14 : decode cX6_rowsOf 14 = .ok (.iload_n 2, 1) := by decide +kernel
theorem dX6_rowsOf_15 : decode cX6_rowsOf 15 = .ok (.aload_n 0, 1) := by decide +kernel
theorem dX6_rowsOf_16 : decode cX6_rowsOf 16 = .ok (.iload_n 3, 1) := by decide +kernel
theorem dX6_rowsOf_17 : decode cX6_rowsOf 17 = .ok (.iconst 0, 1) := by decide +kernel
theorem dX6_rowsOf_18 : decode cX6_rowsOf 18 = .ok (.invokevirtual 53, 3) := by decide +kernel
theorem dX6_rowsOf_21 : decode cX6_rowsOf 21 = .ok (.iload_n 1, 1) := by decide +kernel
theorem dX6_rowsOf_22 : decode cX6_rowsOf 22 = .ok (.if_icmp .ne 7, 3) := by decide +kernel
theorem dX6_rowsOf_25 : decode cX6_rowsOf 25 = .ok (.iconst 1, 1) := by decide +kernel
theorem dX6_rowsOf_26 : decode cX6_rowsOf 26 = .ok (.goto 4, 3) := by decide +kernel
theorem dX6_rowsOf_29 : decode cX6_rowsOf 29 = .ok (.iconst 0, 1) := by decide +kernel
theorem dX6_rowsOf_30 : decode cX6_rowsOf 30 = .ok (.iadd, 1) := by decide +kernel
theorem dX6_rowsOf_31 : decode cX6_rowsOf 31 = .ok (.istore_n 2, 1) := by decide +kernel
theorem dX6_rowsOf_32 : decode cX6_rowsOf 32 = .ok (.iinc 3 1, 3) := by decide +kernel
theorem dX6_rowsOf_35 : decode cX6_rowsOf 35 = .ok (.goto (-31), 3) := by decide +kernel
theorem dX6_rowsOf_38 : decode cX6_rowsOf 38 = .ok (.iload_n 2, 1) := by decide +kernel
theorem dX6_rowsOf_39 : decode cX6_rowsOf 39 = .ok (.ireturn, 1) := by decide +kernel
set_option maxRecDepth 20000 in
theorem ggX6_outermost_X6_of : GoodIn wsX6_outermost wsX6_of := goodIn_r _ [6, 1, 7, 8, 9, 10, 11, 12, 13, 14, 15, 16, 17, 18, 19, 20, 21, 22, 23, 24, 25, 26] (by decide +kernel) (by decide +kernel)
set_option maxRecDepth 20000 in
theorem gX6_outermost_X6_of : GoodIn wsX6_outermost (wsV RX6 53 RX6 yX6_of wsX6_of) := goodIn_app (goodIn_of _ (by decide +kernel)) ggX6_outermost_X6_of
theorem dX6_outermost_0 : decode cX6_outermost 0 = .ok (.bipush (-5), 2) := by decide +kernel
theorem dX6_outermost_2 : decode cX6_outermost 2 = .ok (.istore_n 3, 1) := by decide +kernel
theorem dX6_outermost_3 : decode cX6_outermost 3 = .ok (.iconst 0, 1) := by decide +kernel
theorem dX6_outermost_4 : decode cX6_outermost 4 = .ok (.istore 4, 2) := by decide +kernel
theorem dX6_outermost_6 : decode cX6_outermost 6 = .ok (.iload 4, 2) := by decide +kernel
theorem dX6_outermost_8 : decode cX6_outermost 8 = .ok (.aload_n 0, 1) := by decide +kernel
theorem dX6_outermost_9 : decode cX6_outermost 9 = .ok (.getfield 7, 3) := by decide +kernel
theorem dX6_outermost_12 : decode cX6_outermost 12 = .ok (.iconst 0, 1) := by decide +kernel
theorem dX6_outermost_13 : decode cX6_outermost 13 = .ok (.iaload, 1) := by decide +kernel
theorem dX6_outermost_14 : decode cX6_outermost 14 = .ok (.if_icmp .ge 79, 3) := by decide +kernel
theorem dX6_outermost_17 : decode cX6_outermost 17 = .ok (.aload_n 0, 1) := by decide +kernel
theorem dX6_outermost_18 : decode cX6_outermost 18 = .ok (.iload 4, 2) := by decide +kernel
theorem dX6_outermost_20 : decode cX6_outermost 20 = .ok (.iconst 0, 1) := by decide +kernel
theorem dX6_outermost_21 : decode cX6_outermost 21 = .ok (.invokevirtual 53, 3) := by decide +kernel
theorem dX6_outermost_24 : decode cX6_outermost 24 = .ok (.iload_n 1, 1) := by decide +kernel
theorem dX6_outermost_25 : decode cX6_outermost 25 = .ok (.if_icmp .ne 62, 3) := by decide +kernel
theorem dX6_outermost_28 : decode cX6_outermost 28 = .ok (.iload_n 3, 1) := by decide +kernel
theorem dX6_outermost_29 : decode cX6_outermost 29 = .ok (.bipush (-5), 2) := by decide +kernel
theorem dX6_outermost_31 : decode cX6_outermost 31 = .ok (.if_icmp .ne 7, 3) := by decide +kernel
theorem dX6_outermost_34 : decode cX6_outermost 34 = .ok (.iconst 1, 1) := by decide +kernel
theorem dX6_outermost_35 : decode cX6_outermost 35 = .ok (.goto 38, 3) := by decide +kernel
theorem dX6_outermost_38 : decode cX6_outermost 38 = .ok (.iload_n 2, 1) := by decide +kernel
theorem dX6_outermost_39 : decode cX6_outermost 39 = .ok (.ifCond .eq 20, 3) := by decide +kernel
theorem dX6_outermost_42 : decode cX6_outermost 42 = .ok (.aload_n 0, 1) := by decide +kernel
theorem dX6_outermost_43 : decode cX6_outermost 43 = .ok (.iload 4, 2) := by decide +kernel
theorem dX6_outermost_45 : decode cX6_outermost 45 = .ok (.iconst 2, 1) := by decide +kernel
theorem dX6_outermost_46 : decode cX6_outermost 46 = .ok (.invokevirtual 53, 3) := by decide +kernel
theorem dX6_outermost_49 : decode cX6_outermost 49 = .ok (.aload_n 0, 1) := by decide +kernel
theorem dX6_outermost_50 : decode cX6_outermost 50 = .ok (.iload_n 3, 1) := by decide +kernel
theorem dX6_outermost_51 : decode cX6_outermost 51 = .ok (.iconst 2, 1) := by decide +kernel
theorem dX6_outermost_52 : decode cX6_outermost 52 = .ok (.invokevirtual 53, 3) := by decide +kernel
theorem dX6_outermost_55 : decode cX6_outermost 55 = .ok (.isub, 1) := by decide +kernel
theorem dX6_outermost_56 : decode cX6_outermost 56 = .ok (.goto 17, 3) := by decide +kernel
theorem dX6_outermost_59 : decode cX6_outermost 59 = .ok (.aload_n 0, 1) := by decide +kernel
theorem dX6_outermost_60 : decode cX6_outermost 60 = .ok (.iload_n 3, 1) := by decide +kernel
theorem dX6_outermost_61 : decode cX6_outermost 61 = .ok (.iconst 2, 1) := by decide +kernel
theorem dX6_outermost_62 : decode cX6_outermost 62 = .ok (.invokevirtual 53, 3) := by decide +kernel
theorem dX6_outermost_65 : decode cX6_outermost 65 = .ok (.aload_n 0, 1) := by decide +kernel
theorem dX6_outermost_66 : decode cX6_outermost 66 = .ok (.iload 4, 2) := by decide +kernel
theorem dX6_outermost_68 : decode cX6_outermost 68 = .ok (.iconst 2, 1) := by decide +kernel
theorem dX6_outermost_69 : decode cX6_outermost 69 = .ok (.invokevirtual 53, 3) := by decide +kernel
theorem dX6_outermost_72 : decode cX6_outermost 72 = .ok (.isub, 1) := by decide +kernel
theorem dX6_outermost_73 : decode cX6_outermost 73 = .ok (.istore 5, 2) := by decide +kernel
theorem dX6_outermost_75 : decode cX6_outermost 75 = .ok (.iload 5, 2) := by decide +kernel
theorem dX6_outermost_77 : decode cX6_outermost 77 = .ok (.ifCond .le 8, 3) := by decide +kernel
theorem dX6_outermost_80 : decode cX6_outermost 80 = .ok (.iload 4, 2) := by decide +kernel
theorem dX6_outermost_82 : decode cX6_outermost 82 = .ok (.goto 4, 3) := by decide +kernel
theorem dX6_outermost_85 : decode cX6_outermost 85 = .ok (.iload_n 3, 1) := by decide +kernel
theorem dX6_outermost_86 : decode cX6_outermost 86 = .ok (.istore_n 3, 1) := by decide +kernel
theorem dX6_outermost_87 : decode cX6_outermost 87 = .ok (.iinc 4 1, 3) := by decide +kernel
theorem dX6_outermost_90 : decode cX6_outermost 90 = .ok (.goto (-84), 3) := by decide +kernel
theorem dX6_outermost_93 : decode cX6_outermost 93 = .ok (.iload_n 3, 1) := by decide +kernel
theorem dX6_outermost_94 : decode cX6_outermost 94 = .ok (.ireturn, 1) := by decide +kernel
set_option maxRecDepth 20000 in
theorem ggX6_canBeKept_X6_of : GoodIn wsX6_canBeKept wsX6_of := goodIn_r _ [6, 1, 11, 12, 13, 14, 15, 16, 17, 18, 19, 20, 21, 22, 23, 24, 25, 26, 27, 28, 29, 30] (by decide +kernel) (by decide +kernel)
set_option maxRecDepth 20000 in
theorem gX6_canBeKept_X6_of : GoodIn wsX6_canBeKept (wsV RX6 53 RX6 yX6_of wsX6_of) := goodIn_app (goodIn_of _ (by decide +kernel)) ggX6_canBeKept_X6_of
set_option maxRecDepth 20000 in
theorem ggX6_canBeKept_X6_outermost : GoodIn wsX6_canBeKept wsX6_outermost := goodIn_r _ [10, 1, 2, 3, 4, 5, 6, 11, 12, 13, 14, 15, 16, 17, 18, 19, 20, 21, 22, 23, 24, 25, 26, 27, 28, 29, 30] (by decide +kernel) (by decide +kernel)
set_option maxRecDepth 20000 in
theorem gX6_canBeKept_X6_outermost : GoodIn wsX6_canBeKept (wsV RX6 57 RX6 yX6_outermost wsX6_outermost) := goodIn_app (goodIn_of _ (by decide +kernel)) ggX6_canBeKept_X6_outermost
theorem dX6_canBeKept_0 : decode cX6_canBeKept 0 = .ok (.aload_n 0, 1) := by decide +kernel
theorem dX6_canBeKept_1 : decode cX6_canBeKept 1 = .ok (.getfield 7, 3) := by decide +kernel
theorem dX6_canBeKept_4 : decode cX6_canBeKept 4 = .ok (.iconst 1, 1) := by decide +kernel
theorem dX6_canBeKept_5 : decode cX6_canBeKept 5 = .ok (.iaload, 1) := by decide +kernel
theorem dX6_canBeKept_6 : decode cX6_canBeKept 6 = .ok (.ifCond .eq 28, 3) := by decide +kernel
theorem dX6_canBeKept_9 : decode cX6_canBeKept 9 = .ok (.aload_n 0, 1) := by decide +kernel
theorem dX6_canBeKept_10 : decode cX6_canBeKept 10 = .ok (.iload_n 1, 1) := by decide +kernel
theorem dX6_canBeKept_11 : decode cX6_canBeKept 11 = .ok (.iconst 2, 1) := by decide +kernel
theorem dX6_canBeKept_12 : decode cX6_canBeKept 12 = .ok (.invokevirtual 53, 3) := by decide +kernel
theorem dX6_canBeKept_15 : decode cX6_canBeKept 15 = .ok (.aload_n 0, 1) := by decide +kernel
theorem dX6_canBeKept_16 : decode cX6_canBeKept 16 = .ok (.aload_n 0, 1) := by decide +kernel
theorem dX6_canBeKept_17 : decode cX6_canBeKept 17 = .ok (.aload_n 0, 1) := by decide +kernel
theorem dX6_canBeKept_18 : decode cX6_canBeKept 18 = .ok (.iload_n 1, 1) := by decide +kernel
theorem dX6_canBeKept_19 : decode cX6_canBeKept 19 = .ok (.iconst 0, 1) := by decide +kernel
theorem dX6_canBeKept_20 : decode cX6_canBeKept 20 = .ok (.invokevirtual 53, 3) := by decide +kernel
theorem dX6_canBeKept_23 : decode cX6_canBeKept 23 = .ok (.iconst 1, 1) := by decide +kernel
theorem dX6_canBeKept_24 : decode cX6_canBeKept 24 = .ok (.invokevirtual 57, 3) := by decide +kernel
theorem dX6_canBeKept_27 : decode cX6_canBeKept 27 = .ok (.iconst 2, 1) := by decide +kernel
theorem dX6_canBeKept_28 : decode cX6_canBeKept 28 = .ok (.invokevirtual 53, 3) := by decide +kernel
theorem dX6_canBeKept_31 : decode cX6_canBeKept 31 = .ok (.if_icmp .ne 7, 3) := by decide +kernel
theorem dX6_canBeKept_34 : decode cX6_canBeKept 34 = .ok (.iconst 1, 1) := by decide +kernel
theorem dX6_canBeKept_35 : decode cX6_canBeKept 35 = .ok (.goto 4, 3) := by decide +kernel
theorem dX6_canBeKept_38 : decode cX6_canBeKept 38 = .ok (.iconst 0, 1) := by decide +kernel
theorem dX6_canBeKept_39 : decode cX6_canBeKept 39 = .ok (.ireturn, 1) := by decide +kernel
theorem dX6_puts_0 : decode cX6_puts 0 = .ok (.iconst 2, 1) := by decide +kernel
theorem dX6_puts_1 : decode cX6_puts 1 = .ok (.iconst 4, 1) := by decide +kernel
theorem dX6_puts_2 : decode cX6_puts 2 = .ok (.aload_n 0, 1) := by decide +kernel
theorem dX6_puts_3 : decode cX6_puts 3 = .ok (.getfield 7, 3) := by decide +kernel
theorem dX6_puts_6 : decode cX6_puts 6 = .ok (.iconst 0, 1) := by decide +kernel
theorem dX6_puts_7 : decode cX6_puts 7 = .ok (.iaload, 1) := by decide +kernel
theorem dX6_puts_8 : decode cX6_puts 8 = .ok (.imul, 1) := by decide +kernel
theorem dX6_puts_9 : decode cX6_puts 9 = .ok (.iadd, 1) := by decide +kernel
theorem dX6_puts_10 : decode cX6_puts 10 = .ok (.istore 5, 2) := by decide +kernel
theorem dX6_puts_12 : decode cX6_puts 12 = .ok (.aload_n 0, 1) := by decide +kernel
theorem dX6_puts_13 : decode cX6_puts 13 = .ok (.getfield 7, 3) := by decide +kernel
theorem dX6_puts_16 : decode cX6_puts 16 = .ok (.iload 5, 2) := by decide +kernel
theorem dX6_puts_18 : decode cX6_puts 18 = .ok (.iconst 0, 1) := by decide +kernel
theorem dX6_puts_19 : decode cX6_puts 19 = .ok (.iadd, 1) := by decide +kernel
theorem dX6_puts_20 : decode cX6_puts 20 = .ok (.iload_n 1, 1) := by decide +kernel
theorem dX6_puts_21 : decode cX6_puts 21 = .ok (.iastore, 1) := by decide +kernel
theorem dX6_puts_22 : decode cX6_puts 22 = .ok (.aload_n 0, 1) := by decide +kernel
theorem dX6_puts_23 : decode cX6_puts 23 = .ok (.getfield 7, 3) := by decide +kernel
theorem dX6_puts_26 : decode cX6_puts 26 = .ok (.iload 5, 2) := by decide +kernel
theorem dX6_puts_28 : decode cX6_puts 28 = .ok (.iconst 1, 1) := by decide +kernel
theorem dX6_puts_29 : decode cX6_puts 29 = .ok (.iadd, 1) := by decide +kernel
theorem dX6_puts_30 : decode cX6_puts 30 = .ok (.iload_n 2, 1) := by decide +kernel
theorem dX6_puts_31 : decode cX6_puts 31 = .ok (.iastore, 1) := by decide +kernel
theorem dX6_puts_32 : decode cX6_puts 32 = .ok (.aload_n 0, 1) := by decide +kernel
theorem dX6_puts_33 : decode cX6_puts 33 = .ok (.getfield 7, 3) := by decide +kernel
theorem dX6_puts_36 : decode cX6_puts 36 = .ok (.iload 5, 2) := by decide +kernel
theorem dX6_puts_38 : decode cX6_puts 38 = .ok (.iconst 2, 1) := by decide +kernel
theorem dX6_puts_39 : decode cX6_puts 39 = .ok (.iadd, 1) := by decide +kernel
theorem dX6_puts_40 : decode cX6_puts 40 = .ok (.iload_n 3, 1) := by decide +kernel
theorem dX6_puts_41 : decode cX6_puts 41 = .ok (.iastore, 1) := by decide +kernel
theorem dX6_puts_42 : decode cX6_puts 42 = .ok (.aload_n 0, 1) := by decide +kernel
theorem dX6_puts_43 : decode cX6_puts 43 = .ok (.getfield 7, 3) := by decide +kernel
theorem dX6_puts_46 : decode cX6_puts 46 = .ok (.iload 5, 2) := by decide +kernel
theorem dX6_puts_48 : decode cX6_puts 48 = .ok (.iconst 3, 1) := by decide +kernel
theorem dX6_puts_49 : decode cX6_puts 49 = .ok (.iadd, 1) := by decide +kernel
theorem dX6_puts_50 : decode cX6_puts 50 = .ok (.iload 4, 2) := by decide +kernel
theorem dX6_puts_52 : decode cX6_puts 52 = .ok (.iastore, 1) := by decide +kernel
theorem dX6_puts_53 : decode cX6_puts 53 = .ok (.aload_n 0, 1) := by decide +kernel
theorem dX6_puts_54 : decode cX6_puts 54 = .ok (.getfield 7, 3) := by decide +kernel
theorem dX6_puts_57 : decode cX6_puts 57 = .ok (.iconst 0, 1) := by decide +kernel
theorem dX6_puts_58 : decode cX6_puts 58 = .ok (.dup2, 1) := by decide +kernel
theorem dX6_puts_59 : decode cX6_puts 59 = .ok (.iaload, 1) := by decide +kernel
theorem dX6_puts_60 : decode cX6_puts 60 = .ok (.iconst 1, 1) := by decide +kernel
theorem dX6_puts_61 : decode cX6_puts 61 = .ok (.iadd, 1) := by decide +kernel
theorem dX6_puts_62 : decode cX6_puts 62 = .ok (.iastore, 1) := by decide +kernel
theorem dX6_puts_63 : decode cX6_puts 63 = .ok (.return_, 1) := by decide +kernel
theorem dX6_takesOut_0 : decode cX6_takesOut 0 = .ok (.aload_n 0, 1) := by decide +kernel
theorem dX6_takesOut_1 : decode cX6_takesOut 1 = .ok (.getfield 7, 3) := by decide +kernel
theorem dX6_takesOut_4 : decode cX6_takesOut 4 = .ok (.iconst 0, 1) := by decide +kernel
theorem dX6_takesOut_5 : decode cX6_takesOut 5 = .ok (.dup2, 1) := by decide +kernel
theorem dX6_takesOut_6 : decode cX6_takesOut 6 = .ok (.iaload, 1) := by decide +kernel
theorem dX6_takesOut_7 : decode cX6_takesOut 7 = .ok (.iconst 1, 1) := by decide +kernel
theorem dX6_takesOut_8 : decode cX6_takesOut 8 = .ok (.isub, 1) := by decide +kernel
theorem dX6_takesOut_9 : decode cX6_takesOut 9 = .ok (.iastore, 1) := by decide +kernel
theorem dX6_takesOut_10 : decode cX6_takesOut 10 = .ok (.iconst 2, 1) := by decide +kernel
theorem dX6_takesOut_11 : decode cX6_takesOut 11 = .ok (.iconst 4, 1) := by decide +kernel
theorem dX6_takesOut_12 : decode cX6_takesOut 12 = .ok (.iload_n 1, 1) := by decide +kernel
theorem dX6_takesOut_13 : decode cX6_takesOut 13 = .ok (.imul, 1) := by decide +kernel
theorem dX6_takesOut_14 : decode cX6_takesOut 14 = .ok (.iadd, 1) := by decide +kernel
theorem dX6_takesOut_15 : decode cX6_takesOut 15 = .ok (.istore_n 2, 1) := by decide +kernel
theorem dX6_takesOut_16 : decode cX6_takesOut 16 = .ok (.iload_n 2, 1) := by decide +kernel
theorem dX6_takesOut_17 : decode cX6_takesOut 17 = .ok (.iconst 2, 1) := by decide +kernel
theorem dX6_takesOut_18 : decode cX6_takesOut 18 = .ok (.iconst 4, 1) := by decide +kernel
theorem dX6_takesOut_19 : decode cX6_takesOut 19 = .ok (.aload_n 0, 1) := by decide +kernel
theorem dX6_takesOut_20 : decode cX6_takesOut 20 = .ok (.getfield 7, 3) := by decide +kernel
theorem dX6_takesOut_23 : decode cX6_takesOut 23 = .ok (.iconst 0, 1) := by decide +kernel
theorem dX6_takesOut_24 : decode cX6_takesOut 24 = .ok (.iaload, 1) := by decide +kernel
theorem dX6_takesOut_25 : decode cX6_takesOut 25 = .ok (.imul, 1) := by decide +kernel
theorem dX6_takesOut_26 : decode cX6_takesOut 26 = .ok (.iadd, 1) := by decide +kernel
theorem dX6_takesOut_27 : decode cX6_takesOut 27 = .ok (.if_icmp .ge 23, 3) := by decide +kernel
theorem dX6_takesOut_30 : decode cX6_takesOut 30 = .ok (.aload_n 0, 1) := by decide +kernel
theorem dX6_takesOut_31 : decode cX6_takesOut 31 = .ok (.getfield 7, 3) := by decide +kernel
theorem dX6_takesOut_34 : decode cX6_takesOut 34 = .ok (.iload_n 2, 1) := by decide +kernel
theorem dX6_takesOut_35 : decode cX6_takesOut 35 = .ok (.aload_n 0, 1) := by decide +kernel
theorem dX6_takesOut_36 : decode cX6_takesOut 36 = .ok (.getfield 7, 3) := by decide +kernel
theorem dX6_takesOut_39 : decode cX6_takesOut 39 = .ok (.iload_n 2, 1) := by decide +kernel
theorem dX6_takesOut_40 : decode cX6_takesOut 40 = .ok (.iconst 4, 1) := by decide +kernel
theorem dX6_takesOut_41 : decode cX6_takesOut 41 = .ok (.iadd, 1) := by decide +kernel
theorem dX6_takesOut_42 : decode cX6_takesOut 42 = .ok (.iaload, 1) := by decide +kernel
theorem dX6_takesOut_43 : decode cX6_takesOut 43 = .ok (.iastore, 1) := by decide +kernel
theorem dX6_takesOut_44 : decode cX6_takesOut 44 = .ok (.iinc 2 1, 3) := by decide +kernel
theorem dX6_takesOut_47 : decode cX6_takesOut 47 = .ok (.goto (-31), 3) := by decide +kernel
theorem dX6_takesOut_50 : decode cX6_takesOut 50 = .ok (.return_, 1) := by decide +kernel
set_option maxRecDepth 20000 in
theorem ggX6_mends_X6_of : GoodIn wsX6_mends wsX6_of := goodIn_r _ [6, 1, 11, 12, 13, 14, 15, 16, 17, 18, 19, 20, 21, 22, 23, 24, 25, 26, 27, 28, 29, 30] (by decide +kernel) (by decide +kernel)
set_option maxRecDepth 20000 in
theorem gX6_mends_X6_of : GoodIn wsX6_mends (wsV RX6 53 RX6 yX6_of wsX6_of) := goodIn_app (goodIn_of _ (by decide +kernel)) ggX6_mends_X6_of
set_option maxRecDepth 20000 in
theorem ggX6_mends_X6_takesOut : GoodIn wsX6_mends wsX6_takesOut := goodIn_r _ [10, 1, 11, 12, 13, 14, 15, 16, 17, 18, 19, 20, 21, 22, 23, 24, 25, 26, 27, 28, 29, 30] (by decide +kernel) (by decide +kernel)
set_option maxRecDepth 20000 in
theorem gX6_mends_X6_takesOut : GoodIn wsX6_mends (wsV RX6 61 RX6 yX6_takesOut wsX6_takesOut) := goodIn_app (goodIn_of _ (by decide +kernel)) ggX6_mends_X6_takesOut
theorem dX6_mends_0 : decode cX6_mends 0 = .ok (.aload_n 0, 1) := by decide +kernel
theorem dX6_mends_1 : decode cX6_mends 1 = .ok (.iload_n 1, 1) := by decide +kernel
theorem dX6_mends_2 : decode cX6_mends 2 = .ok (.iconst 0, 1) := by decide +kernel
theorem dX6_mends_3 : decode cX6_mends 3 = .ok (.invokevirtual 53, 3) := by decide +kernel
theorem dX6_mends_6 : decode cX6_mends 6 = .ok (.istore_n 2, 1) := by decide +kernel
theorem dX6_mends_7 : decode cX6_mends 7 = .ok (.iconst 0, 1) := by decide +kernel
theorem dX6_mends_8 : decode cX6_mends 8 = .ok (.istore_n 3, 1) := by decide +kernel
theorem dX6_mends_9 : decode cX6_mends 9 = .ok (.aload_n 0, 1) := by decide +kernel
theorem dX6_mends_10 : decode cX6_mends 10 = .ok (.getfield 7, 3) := by decide +kernel
theorem dX6_mends_13 : decode cX6_mends 13 = .ok (.iconst 0, 1) := by decide +kernel
theorem dX6_mends_14 : decode cX6_mends 14 = .ok (.iaload, 1) := by decide +kernel
theorem dX6_mends_15 : decode cX6_mends 15 = .ok (.iconst 1, 1) := by decide +kernel
theorem dX6_mends_16 : decode cX6_mends 16 = .ok (.isub, 1) := by decide +kernel
theorem dX6_mends_17 : decode cX6_mends 17 = .ok (.istore 4, 2) := by decide +kernel
theorem dX6_mends_19 : decode cX6_mends 19 = .ok (.iload 4, 2) := by decide +kernel
theorem dX6_mends_21 : decode cX6_mends 21 = .ok (.ifCond .lt 35, 3) := by decide +kernel
theorem dX6_mends_24 : decode cX6_mends 24 = .ok (.iload 4, 2) := by decide +kernel
theorem dX6_mends_26 : decode cX6_mends 26 = .ok (.iload_n 1, 1) := by decide +kernel
theorem dX6_mends_27 : decode cX6_mends 27 = .ok (.if_icmp .eq 23, 3) := by decide +kernel
theorem dX6_mends_30 : decode cX6_mends 30 = .ok (.aload_n 0, 1) := by decide +kernel
theorem dX6_mends_31 : decode cX6_mends 31 = .ok (.iload 4, 2) := by decide +kernel
theorem dX6_mends_33 : decode cX6_mends 33 = .ok (.iconst 0, 1) := by decide +kernel
theorem dX6_mends_34 : decode cX6_mends 34 = .ok (.invokevirtual 53, 3) := by decide +kernel
theorem dX6_mends_37 : decode cX6_mends 37 = .ok (.iload_n 2, 1) := by decide +kernel
theorem dX6_mends_38 : decode cX6_mends 38 = .ok (.if_icmp .ne 12, 3) := by decide +kernel
theorem dX6_mends_41 : decode cX6_mends 41 = .ok (.aload_n 0, 1) := by decide +kernel
theorem dX6_mends_42 : decode cX6_mends 42 = .ok (.iload 4, 2) := by decide +kernel
theorem dX6_mends_44 : decode cX6_mends 44 = .ok (.invokevirtual 61, 3) := by decide +kernel
theorem dX6_mends_47 : decode cX6_mends 47 = .ok (.iinc 3 1, 3) := by decide +kernel
theorem dX6_mends_50 : decode cX6_mends 50 = .ok (.iinc 4 (-1), 3) := by decide +kernel
theorem dX6_mends_53 : decode cX6_mends 53 = .ok (.goto (-34), 3) := by decide +kernel
theorem dX6_mends_56 : decode cX6_mends 56 = .ok (.iload_n 3, 1) := by decide +kernel
theorem dX6_mends_57 : decode cX6_mends 57 = .ok (.ireturn, 1) := by decide +kernel
set_option maxRecDepth 20000 in
theorem ggX6_findsChoices_X6_of : GoodIn wsX6_findsChoices wsX6_of := goodIn_r _ [9, 2, 18, 19, 20, 21, 22, 23, 24, 25, 26, 27, 28, 29, 30, 31, 32, 33, 34, 35, 36, 37] (by decide +kernel) (by decide +kernel)
set_option maxRecDepth 20000 in
theorem gX6_findsChoices_X6_of : GoodIn wsX6_findsChoices (wsV RX6 53 RX6 yX6_of wsX6_of) := goodIn_app (goodIn_of _ (by decide +kernel)) ggX6_findsChoices_X6_of
set_option maxRecDepth 20000 in
theorem ggX6_findsChoices_X6_canBeKept : GoodIn wsX6_findsChoices wsX6_canBeKept := goodIn_r _ [13, 2, 5, 6, 7, 8, 9, 14, 15, 16, 17, 18, 19, 20, 21, 22, 23, 24, 25, 26, 27, 28, 29, 30, 31, 32, 33, 34, 35, 36, 37] (by decide +kernel) (by decide +kernel)
set_option maxRecDepth 20000 in
theorem gX6_findsChoices_X6_canBeKept : GoodIn wsX6_findsChoices (wsV RX6 65 RX6 yX6_canBeKept wsX6_canBeKept) := goodIn_app (goodIn_of _ (by decide +kernel)) ggX6_findsChoices_X6_canBeKept
theorem dX6_findsChoices_0 : decode cX6_findsChoices 0 = .ok (.iconst 0, 1) := by decide +kernel
theorem dX6_findsChoices_1 : decode cX6_findsChoices 1 = .ok (.istore_n 1, 1) := by decide +kernel
theorem dX6_findsChoices_2 : decode cX6_findsChoices 2 = .ok (.iload_n 1, 1) := by decide +kernel
theorem dX6_findsChoices_3 : decode cX6_findsChoices 3 = .ok (.bipush 10, 2) := by decide +kernel
theorem dX6_findsChoices_5 : decode cX6_findsChoices 5 = .ok (.if_icmp .ge 16, 3) := by decide +kernel
theorem dX6_findsChoices_8 : decode cX6_findsChoices 8 = .ok (.aload_n 0, 1) := by decide +kernel
theorem dX6_findsChoices_9 : decode cX6_findsChoices 9 = .ok (.getfield 25, 3) := by decide +kernel
theorem dX6_findsChoices_12 : decode cX6_findsChoices 12 = .ok (.iload_n 1, 1) := by decide +kernel
theorem dX6_findsChoices_13 : decode cX6_findsChoices 13 = .ok (.iconst 0, 1) := by decide +kernel
theorem dX6_findsChoices_14 : decode cX6_findsChoices 14 = .ok (.iastore, 1) := by decide +kernel
theorem dX6_findsChoices_15 : decode cX6_findsChoices 15 = .ok (.iinc 1 1, 3) := by decide +kernel
theorem dX6_findsChoices_18 : decode cX6_findsChoices 18 = .ok (.goto (-16), 3) := by decide +kernel
theorem dX6_findsChoices_21 : decode cX6_findsChoices 21 = .ok (.iconst 0, 1) := by decide +kernel
theorem dX6_findsChoices_22 : decode cX6_findsChoices 22 = .ok (.istore_n 1, 1) := by decide +kernel
theorem dX6_findsChoices_23 : decode cX6_findsChoices 23 = .ok (.iload_n 1, 1) := by decide +kernel
theorem dX6_findsChoices_24 : decode cX6_findsChoices 24 = .ok (.aload_n 0, 1) := by decide +kernel
theorem dX6_findsChoices_25 : decode cX6_findsChoices 25 = .ok (.getfield 7, 3) := by decide +kernel
theorem dX6_findsChoices_28 : decode cX6_findsChoices 28 = .ok (.iconst 0, 1) := by decide +kernel
theorem dX6_findsChoices_29 : decode cX6_findsChoices 29 = .ok (.iaload, 1) := by decide +kernel
theorem dX6_findsChoices_30 : decode cX6_findsChoices 30 = .ok (.if_icmp .ge 91, 3) := by decide +kernel
theorem dX6_findsChoices_33 : decode cX6_findsChoices 33 = .ok (.aload_n 0, 1) := by decide +kernel
theorem dX6_findsChoices_34 : decode cX6_findsChoices 34 = .ok (.iload_n 1, 1) := by decide +kernel
theorem dX6_findsChoices_35 : decode cX6_findsChoices 35 = .ok (.iconst 0, 1) := by decide +kernel
theorem dX6_findsChoices_36 : decode cX6_findsChoices 36 = .ok (.invokevirtual 53, 3) := by decide +kernel
theorem dX6_findsChoices_39 : decode cX6_findsChoices 39 = .ok (.istore_n 2, 1) := by decide +kernel
theorem dX6_findsChoices_40 : decode cX6_findsChoices 40 = .ok (.aload_n 0, 1) := by decide +kernel
theorem dX6_findsChoices_41 : decode cX6_findsChoices 41 = .ok (.getfield 31, 3) := by decide +kernel
theorem dX6_findsChoices_44 : decode cX6_findsChoices 44 = .ok (.bipush (-5), 2) := by decide +kernel
theorem dX6_findsChoices_46 : decode cX6_findsChoices 46 = .ok (.if_icmp .eq 32, 3) := by decide +kernel
theorem dX6_findsChoices_49 : decode cX6_findsChoices 49 = .ok (.aload_n 0, 1) := by decide +kernel
theorem dX6_findsChoices_50 : decode cX6_findsChoices 50 = .ok (.aload_n 0, 1) := by decide +kernel
theorem dX6_findsChoices_51 : decode cX6_findsChoices 51 = .ok (.getfield 31, 3) := by decide +kernel
theorem dX6_findsChoices_54 : decode cX6_findsChoices 54 = .ok (.iconst 0, 1) := by decide +kernel
theorem dX6_findsChoices_55 : decode cX6_findsChoices 55 = .ok (.invokevirtual 53, 3) := by decide +kernel
theorem dX6_findsChoices_58 : decode cX6_findsChoices 58 = .ok (.iload_n 2, 1) := by decide +kernel
theorem dX6_findsChoices_59 : decode cX6_findsChoices 59 = .ok (.if_icmp .ne 19, 3) := by decide +kernel
theorem dX6_findsChoices_62 : decode cX6_findsChoices 62 = .ok (.iload_n 1, 1) := by decide +kernel
theorem dX6_findsChoices_63 : decode cX6_findsChoices 63 = .ok (.aload_n 0, 1) := by decide +kernel
theorem dX6_findsChoices_64 : decode cX6_findsChoices 64 = .ok (.getfield 31, 3) := by decide +kernel
theorem dX6_findsChoices_67 : decode cX6_findsChoices 67 = .ok (.if_icmp .ne 7, 3) := by decide +kernel
theorem dX6_findsChoices_70 : decode cX6_findsChoices 70 = .ok (.iconst 1, 1) := by decide +kernel
theorem dX6_findsChoices_71 : decode cX6_findsChoices 71 = .ok (.goto 12, 3) := by decide +kernel
theorem dX6_findsChoices_74 : decode cX6_findsChoices 74 = .ok (.iconst 0, 1) := by decide +kernel
theorem dX6_findsChoices_75 : decode cX6_findsChoices 75 = .ok (.goto 8, 3) := by decide +kernel
theorem dX6_findsChoices_78 : decode cX6_findsChoices 78 = .ok (.aload_n 0, 1) := by decide +kernel
theorem dX6_findsChoices_79 : decode cX6_findsChoices 79 = .ok (.iload_n 1, 1) := by decide +kernel
theorem dX6_findsChoices_80 : decode cX6_findsChoices 80 = .ok (.invokevirtual 65, 3) := by decide +kernel
theorem dX6_findsChoices_83 : decode cX6_findsChoices 83 = .ok (.istore_n 3, 1) := by decide +kernel
theorem dX6_findsChoices_84 : decode cX6_findsChoices 84 = .ok (.iload_n 3, 1) := by decide +kernel
theorem dX6_findsChoices_85 : decode cX6_findsChoices 85 = .ok (.ifCond .eq 30, 3) := by decide +kernel
theorem dX6_findsChoices_88 : decode cX6_findsChoices 88 = .ok (.aload_n 0, 1) := by decide +kernel
theorem dX6_findsChoices_89 : decode cX6_findsChoices 89 = .ok (.getfield 22, 3) := by decide +kernel
theorem dX6_findsChoices_92 : decode cX6_findsChoices 92 = .ok (.bipush 20, 2) := by decide +kernel
theorem dX6_findsChoices_94 : decode cX6_findsChoices 94 = .ok (.iload_n 2, 1) := by decide +kernel
theorem dX6_findsChoices_95 : decode cX6_findsChoices 95 = .ok (.imul, 1) := by decide +kernel
theorem dX6_findsChoices_96 : decode cX6_findsChoices 96 = .ok (.aload_n 0, 1) := by decide +kernel
theorem dX6_findsChoices_97 : decode cX6_findsChoices 97 = .ok (.getfield 25, 3) := by decide +kernel
theorem dX6_findsChoices_100 : decode cX6_findsChoices 100 = .ok (.iload_n 2, 1) := by decide +kernel
theorem dX6_findsChoices_101 : decode cX6_findsChoices 101 = .ok (.iaload, 1) := by decide +kernel
theorem dX6_findsChoices_102 : decode cX6_findsChoices 102 = .ok (.iadd, 1) := by decide +kernel
theorem dX6_findsChoices_103 : decode cX6_findsChoices 103 = .ok (.iload_n 1, 1) := by decide +kernel
theorem dX6_findsChoices_104 : decode cX6_findsChoices 104 = .ok (.iastore, 1) := by decide +kernel
theorem dX6_findsChoices_105 : decode cX6_findsChoices 105 = .ok (.aload_n 0, 1) := by decide +kernel
theorem dX6_findsChoices_106 : decode cX6_findsChoices 106 = .ok (.getfield 25, 3) := by decide +kernel
theorem dX6_findsChoices_109 : decode cX6_findsChoices 109 = .ok (.iload_n 2, 1) := by decide +kernel
theorem dX6_findsChoices_110 : decode cX6_findsChoices 110 = .ok (.dup2, 1) := by decide +kernel
theorem dX6_findsChoices_111 : decode cX6_findsChoices 111 = .ok (.iaload, 1) := by decide +kernel
theorem dX6_findsChoices_112 : decode cX6_findsChoices 112 = .ok (.iconst 1, 1) := by decide +kernel
theorem dX6_findsChoices_113 : decode cX6_findsChoices 113 = .ok (.iadd, 1) := by decide +kernel
theorem dX6_findsChoices_114 : decode cX6_findsChoices 114 = .ok (.iastore, 1) := by decide +kernel
theorem dX6_findsChoices_115 : decode cX6_findsChoices 115 = .ok (.iinc 1 1, 3) := by decide +kernel
theorem dX6_findsChoices_118 : decode cX6_findsChoices 118 = .ok (.goto (-95), 3) := by decide +kernel
theorem dX6_findsChoices_121 : decode cX6_findsChoices 121 = .ok (.return_, 1) := by decide +kernel
theorem dX6_mendings_0 : decode cX6_mendings 0 = .ok (.iconst 1, 1) := by decide +kernel
theorem dX6_mendings_1 : decode cX6_mendings 1 = .ok (.istore_n 1, 1) := by decide +kernel
theorem dX6_mendings_2 : decode cX6_mendings 2 = .ok (.iconst 0, 1) := by decide +kernel
theorem dX6_mendings_3 : decode cX6_mendings 3 = .ok (.istore_n 2, 1) := by decide +kernel
theorem dX6_mendings_4 : decode cX6_mendings 4 = .ok (.iload_n 2, 1) := by decide +kernel
theorem dX6_mendings_5 : decode cX6_mendings 5 = .ok (.bipush 10, 2) := by decide +kernel
theorem dX6_mendings_7 : decode cX6_mendings 7 = .ok (.if_icmp .ge 31, 3) := by decide +kernel
theorem dX6_mendings_10 : decode cX6_mendings 10 = .ok (.iload_n 1, 1) := by decide +kernel
theorem dX6_mendings_11 : decode cX6_mendings 11 = .ok (.aload_n 0, 1) := by decide +kernel
theorem dX6_mendings_12 : decode cX6_mendings 12 = .ok (.getfield 25, 3) := by decide +kernel
theorem dX6_mendings_15 : decode cX6_mendings 15 = .ok (.iload_n 2, 1) := by decide +kernel
theorem dX6_mendings_16 : decode cX6_mendings 16 = .ok (.iaload, 1) := by decide +kernel
theorem dX6_mendings_17 : decode cX6_mendings 17 = .ok (.ifCond .ne 7, 3) := by decide +kernel
theorem dX6_mendings_20 : decode cX6_mendings 20 = .ok (.iconst 1, 1) := by decide +kernel
theorem dX6_mendings_21 : decode cX6_mendings 21 = .ok (.goto 9, 3) := by decide +kernel
theorem dX6_mendings_24 : decode cX6_mendings 24 = .ok (.aload_n 0, 1) := by decide +kernel
theorem dX6_mendings_25 : decode cX6_mendings 25 = .ok (.getfield 25, 3) := by decide +kernel
theorem dX6_mendings_28 : decode cX6_mendings 28 = .ok (.iload_n 2, 1) := by decide +kernel
theorem dX6_mendings_29 : decode cX6_mendings 29 = .ok (.iaload, 1) := by decide +kernel
theorem dX6_mendings_30 : decode cX6_mendings 30 = .ok (.imul, 1) := by decide +kernel
theorem dX6_mendings_31 : decode cX6_mendings 31 = .ok (.istore_n 1, 1) := by decide +kernel
theorem dX6_mendings_32 : decode cX6_mendings 32 = .ok (.iinc 2 1, 3) := by decide +kernel
theorem dX6_mendings_35 : decode cX6_mendings 35 = .ok (.goto (-31), 3) := by decide +kernel
theorem dX6_mendings_38 : decode cX6_mendings 38 = .ok (.iload_n 1, 1) := by decide +kernel
theorem dX6_mendings_39 : decode cX6_mendings 39 = .ok (.ireturn, 1) := by decide +kernel
theorem dX6_takes_0 : decode cX6_takes 0 = .ok (.iload_n 1, 1) := by decide +kernel
theorem dX6_takes_1 : decode cX6_takes 1 = .ok (.istore_n 2, 1) := by decide +kernel
theorem dX6_takes_2 : decode cX6_takes 2 = .ok (.iconst 0, 1) := by decide +kernel
theorem dX6_takes_3 : decode cX6_takes 3 = .ok (.istore_n 3, 1) := by decide +kernel
theorem dX6_takes_4 : decode cX6_takes 4 = .ok (.iload_n 3, 1) := by decide +kernel
theorem dX6_takes_5 : decode cX6_takes 5 = .ok (.bipush 10, 2) := by decide +kernel
theorem dX6_takes_7 : decode cX6_takes 7 = .ok (.if_icmp .ge 61, 3) := by decide +kernel
theorem dX6_takes_10 : decode cX6_takes 10 = .ok (.aload_n 0, 1) := by decide +kernel
theorem dX6_takes_11 : decode cX6_takes 11 = .ok (.getfield 25, 3) := by decide +kernel
theorem dX6_takes_14 : decode cX6_takes 14 = .ok (.iload_n 3, 1) := by decide +kernel
theorem dX6_takes_15 : decode cX6_takes 15 = .ok (.iaload, 1) := by decide +kernel
theorem dX6_takes_16 : decode cX6_takes 16 = .ok (.istore 4, 2) := by decide +kernel
theorem dX6_takes_18 : decode cX6_takes 18 = .ok (.aload_n 0, 1) := by decide +kernel
theorem dX6_takes_19 : decode cX6_takes 19 = .ok (.getfield 28, 3) := by decide +kernel
theorem dX6_takes_22 : decode cX6_takes 22 = .ok (.iload_n 3, 1) := by decide +kernel
theorem dX6_takes_23 : decode cX6_takes 23 = .ok (.iload 4, 2) := by decide +kernel
theorem dX6_takes_25 : decode cX6_takes 25 = .ok (.ifCond .ne 8, 3) := by decide +kernel
theorem dX6_takes_28 : decode cX6_takes 28 = .ok (.bipush (-5), 2) := by decide +kernel
theorem dX6_takes_30 : decode cX6_takes 30 = .ok (.goto 17, 3) := by decide +kernel
theorem dX6_takes_33 : decode cX6_takes 33 = .ok (.aload_n 0, 1) := by decide +kernel
theorem dX6_takes_34 : decode cX6_takes 34 = .ok (.getfield 22, 3) := by decide +kernel
theorem dX6_takes_37 : decode cX6_takes 37 = .ok (.bipush 20, 2) := by decide +kernel
theorem dX6_takes_39 : decode cX6_takes 39 = .ok (.iload_n 3, 1) := by decide +kernel
theorem dX6_takes_40 : decode cX6_takes 40 = .ok (.imul, 1) := by decide +kernel
theorem dX6_takes_41 : decode cX6_takes 41 = .ok (.iload_n 2, 1) := by decide +kernel
theorem dX6_takes_42 : decode cX6_takes 42 = .ok (.iload 4, 2) := by decide +kernel
theorem dX6_takes_44 : decode cX6_takes 44 = .ok (.irem, 1) := by decide +kernel
theorem dX6_takes_45 : decode cX6_takes 45 = .ok (.iadd, 1) := by decide +kernel
theorem dX6_takes_46 : decode cX6_takes 46 = .ok (.iaload, 1) := by decide +kernel
theorem dX6_takes_47 : decode cX6_takes 47 = .ok (.iastore, 1) := by decide +kernel
theorem dX6_takes_48 : decode cX6_takes 48 = .ok (.iload 4, 2) := by decide +kernel
theorem dX6_takes_50 : decode cX6_takes 50 = .ok (.ifCond .ne 7, 3) := by decide +kernel
theorem dX6_takes_53 : decode cX6_takes 53 = .ok (.iload_n 2, 1) := by decide +kernel
theorem dX6_takes_54 : decode cX6_takes 54 = .ok (.goto 7, 3) := by decide +kernel
theorem dX6_takes_57 : decode cX6_takes 57 = .ok (.iload_n 2, 1) := by decide +kernel
theorem dX6_takes_58 : decode cX6_takes 58 = .ok (.iload 4, 2) := by decide +kernel
theorem dX6_takes_60 : decode cX6_takes 60 = .ok (.idiv, 1) := by decide +kernel
theorem dX6_takes_61 : decode cX6_takes 61 = .ok (.istore_n 2, 1) := by decide +kernel
theorem dX6_takes_62 : decode cX6_takes 62 = .ok (.iinc 3 1, 3) := by decide +kernel
theorem dX6_takes_65 : decode cX6_takes 65 = .ok (.goto (-61), 3) := by decide +kernel
theorem dX6_takes_68 : decode cX6_takes 68 = .ok (.return_, 1) := by decide +kernel
set_option maxRecDepth 20000 in
theorem ggX6_wayLong_X6_of : GoodIn wsX6_wayLong wsX6_of := goodIn_r _ [6, 7, 8, 9, 10, 11, 12, 13, 14, 15, 16, 17, 18, 19, 20, 21, 22, 23, 24, 25, 26, 27] (by decide +kernel) (by decide +kernel)
set_option maxRecDepth 20000 in
theorem gX6_wayLong_X6_of : GoodIn wsX6_wayLong (wsV RX6 53 RX6 yX6_of wsX6_of) := goodIn_app (goodIn_of _ (by decide +kernel)) ggX6_wayLong_X6_of
theorem dX6_wayLong_0 : decode cX6_wayLong 0 = .ok (.iload_n 1, 1) := by decide +kernel
theorem dX6_wayLong_1 : decode cX6_wayLong 1 = .ok (.istore_n 3, 1) := by decide +kernel
theorem dX6_wayLong_2 : decode cX6_wayLong 2 = .ok (.iconst 0, 1) := by decide +kernel
theorem dX6_wayLong_3 : decode cX6_wayLong 3 = .ok (.istore 4, 2) := by decide +kernel
theorem dX6_wayLong_5 : decode cX6_wayLong 5 = .ok (.iload 4, 2) := by decide +kernel
theorem dX6_wayLong_7 : decode cX6_wayLong 7 = .ok (.bipush 10, 2) := by decide +kernel
theorem dX6_wayLong_9 : decode cX6_wayLong 9 = .ok (.if_icmp .ge 49, 3) := by decide +kernel
theorem dX6_wayLong_12 : decode cX6_wayLong 12 = .ok (.iload_n 3, 1) := by decide +kernel
theorem dX6_wayLong_13 : decode cX6_wayLong 13 = .ok (.bipush (-5), 2) := by decide +kernel
theorem dX6_wayLong_15 : decode cX6_wayLong 15 = .ok (.if_icmp .eq 14, 3) := by decide +kernel
theorem dX6_wayLong_18 : decode cX6_wayLong 18 = .ok (.aload_n 0, 1) := by decide +kernel
theorem dX6_wayLong_19 : decode cX6_wayLong 19 = .ok (.getfield 28, 3) := by decide +kernel
theorem dX6_wayLong_22 : decode cX6_wayLong 22 = .ok (.iload_n 3, 1) := by decide +kernel
theorem dX6_wayLong_23 : decode cX6_wayLong 23 = .ok (.iaload, 1) := by decide +kernel
theorem dX6_wayLong_24 : decode cX6_wayLong 24 = .ok (.bipush (-5), 2) := by decide +kernel
theorem dX6_wayLong_26 : decode cX6_wayLong 26 = .ok (.if_icmp .ne 6, 3) := by decide +kernel
theorem dX6_wayLong_29 : decode cX6_wayLong 29 = .ok (.bipush (-5), 2) := by decide +kernel
theorem dX6_wayLong_31 : decode cX6_wayLong 31 = .ok (.ireturn, 1) := by decide +kernel
theorem dX6_wayLong_32 : decode cX6_wayLong 32 = .ok (.iload_n 3, 1) := by decide +kernel
theorem dX6_wayLong_33 : decode cX6_wayLong 33 = .ok (.iload_n 2, 1) := by decide +kernel
theorem dX6_wayLong_34 : decode cX6_wayLong 34 = .ok (.if_icmp .ne 6, 3) := by decide +kernel
theorem dX6_wayLong_37 : decode cX6_wayLong 37 = .ok (.iload 4, 2) := by decide +kernel
theorem dX6_wayLong_39 : decode cX6_wayLong 39 = .ok (.ireturn, 1) := by decide +kernel
theorem dX6_wayLong_40 : decode cX6_wayLong 40 = .ok (.aload_n 0, 1) := by decide +kernel
theorem dX6_wayLong_41 : decode cX6_wayLong 41 = .ok (.aload_n 0, 1) := by decide +kernel
theorem dX6_wayLong_42 : decode cX6_wayLong 42 = .ok (.getfield 28, 3) := by decide +kernel
theorem dX6_wayLong_45 : decode cX6_wayLong 45 = .ok (.iload_n 3, 1) := by decide +kernel
theorem dX6_wayLong_46 : decode cX6_wayLong 46 = .ok (.iaload, 1) := by decide +kernel
theorem dX6_wayLong_47 : decode cX6_wayLong 47 = .ok (.iconst 3, 1) := by decide +kernel
theorem dX6_wayLong_48 : decode cX6_wayLong 48 = .ok (.invokevirtual 53, 3) := by decide +kernel
theorem dX6_wayLong_51 : decode cX6_wayLong 51 = .ok (.istore_n 3, 1) := by decide +kernel
theorem dX6_wayLong_52 : decode cX6_wayLong 52 = .ok (.iinc 4 1, 3) := by decide +kernel
theorem dX6_wayLong_55 : decode cX6_wayLong 55 = .ok (.goto (-50), 3) := by decide +kernel
theorem dX6_wayLong_58 : decode cX6_wayLong 58 = .ok (.bipush (-5), 2) := by decide +kernel
theorem dX6_wayLong_60 : decode cX6_wayLong 60 = .ok (.ireturn, 1) := by decide +kernel
set_option maxRecDepth 20000 in
theorem ggX6_kept_X6_of : GoodIn wsX6_kept wsX6_of := goodIn_r _ [6, 7, 8, 9, 10, 11, 12, 13, 14, 15, 16, 17, 18, 19, 20, 21, 22, 23, 24, 25, 26, 27] (by decide +kernel) (by decide +kernel)
set_option maxRecDepth 20000 in
theorem gX6_kept_X6_of : GoodIn wsX6_kept (wsV RX6 53 RX6 yX6_of wsX6_of) := goodIn_app (goodIn_of _ (by decide +kernel)) ggX6_kept_X6_of
theorem dX6_kept_0 : decode cX6_kept 0 = .ok (.iconst 0, 1) := by decide +kernel
theorem dX6_kept_1 : decode cX6_kept 1 = .ok (.istore_n 2, 1) := by decide +kernel
theorem dX6_kept_2 : decode cX6_kept 2 = .ok (.iconst 0, 1) := by decide +kernel
theorem dX6_kept_3 : decode cX6_kept 3 = .ok (.istore_n 3, 1) := by decide +kernel
theorem dX6_kept_4 : decode cX6_kept 4 = .ok (.iload_n 3, 1) := by decide +kernel
theorem dX6_kept_5 : decode cX6_kept 5 = .ok (.bipush 10, 2) := by decide +kernel
theorem dX6_kept_7 : decode cX6_kept 7 = .ok (.if_icmp .ge 43, 3) := by decide +kernel
theorem dX6_kept_10 : decode cX6_kept 10 = .ok (.iload_n 2, 1) := by decide +kernel
theorem dX6_kept_11 : decode cX6_kept 11 = .ok (.aload_n 0, 1) := by decide +kernel
theorem dX6_kept_12 : decode cX6_kept 12 = .ok (.getfield 28, 3) := by decide +kernel
theorem dX6_kept_15 : decode cX6_kept 15 = .ok (.iload_n 3, 1) := by decide +kernel
theorem dX6_kept_16 : decode cX6_kept 16 = .ok (.iaload, 1) := by decide +kernel
theorem dX6_kept_17 : decode cX6_kept 17 = .ok (.bipush (-5), 2) := by decide +kernel
theorem dX6_kept_19 : decode cX6_kept 19 = .ok (.if_icmp .eq 22, 3) := by decide +kernel
theorem dX6_kept_22 : decode cX6_kept 22 = .ok (.aload_n 0, 1) := by decide +kernel
theorem dX6_kept_23 : decode cX6_kept 23 = .ok (.aload_n 0, 1) := by decide +kernel
theorem dX6_kept_24 : decode cX6_kept 24 = .ok (.getfield 28, 3) := by decide +kernel
theorem dX6_kept_27 : decode cX6_kept 27 = .ok (.iload_n 3, 1) := by decide +kernel
theorem dX6_kept_28 : decode cX6_kept 28 = .ok (.iaload, 1) := by decide +kernel
theorem dX6_kept_29 : decode cX6_kept 29 = .ok (.iconst 1, 1) := by decide +kernel
theorem dX6_kept_30 : decode cX6_kept 30 = .ok (.invokevirtual 53, 3) := by decide +kernel
theorem dX6_kept_33 : decode cX6_kept 33 = .ok (.iload_n 1, 1) := by decide +kernel
theorem dX6_kept_34 : decode cX6_kept 34 = .ok (.if_icmp .ne 7, 3) := by decide +kernel
theorem dX6_kept_37 : decode cX6_kept 37 = .ok (.iconst 1, 1) := by decide +kernel
theorem dX6_kept_38 : decode cX6_kept 38 = .ok (.goto 4, 3) := by decide +kernel
theorem dX6_kept_41 : decode cX6_kept 41 = .ok (.iconst 0, 1) := by decide +kernel
theorem dX6_kept_42 : decode cX6_kept 42 = .ok (.iadd, 1) := by decide +kernel
theorem dX6_kept_43 : decode cX6_kept 43 = .ok (.istore_n 2, 1) := by decide +kernel
theorem dX6_kept_44 : decode cX6_kept 44 = .ok (.iinc 3 1, 3) := by decide +kernel
theorem dX6_kept_47 : decode cX6_kept 47 = .ok (.goto (-43), 3) := by decide +kernel
theorem dX6_kept_50 : decode cX6_kept 50 = .ok (.iload_n 2, 1) := by decide +kernel
theorem dX6_kept_51 : decode cX6_kept 51 = .ok (.ireturn, 1) := by decide +kernel
set_option maxRecDepth 20000 in
theorem ggX6_isValue_X6_in : GoodIn wsX6_isValue wsX6_in := goodIn_r _ [6] (by decide +kernel) (by decide +kernel)
set_option maxRecDepth 20000 in
theorem gX6_isValue_X6_in : GoodIn wsX6_isValue (va_wsS RX6 47 yX6_in wsX6_in) := goodIn_app (goodIn_of _ (by decide +kernel)) ggX6_isValue_X6_in
theorem dX6_isValue_0 : decode cX6_isValue 0 = .ok (.iload_n 0, 1) := by decide +kernel
theorem dX6_isValue_1 : decode cX6_isValue 1 = .ok (.i2l, 1) := by decide +kernel
theorem dX6_isValue_2 : decode cX6_isValue 2 = .ok (.ldc2_w 69, 3) := by decide +kernel
theorem dX6_isValue_5 : decode cX6_isValue 5 = .ok (.ldc2_w 71, 3) := by decide +kernel
theorem dX6_isValue_8 : decode cX6_isValue 8 = .ok (.invokestatic 47, 3) := by decide +kernel
theorem dX6_isValue_11 : decode cX6_isValue 11 = .ok (.ireturn, 1) := by decide +kernel
set_option maxRecDepth 20000 in
theorem ggX6_add_X6_isKey : GoodIn wsX6_add wsX6_isKey := goodIn_r _ [6, 7, 8, 9, 5, 10] (by decide +kernel) (by decide +kernel)
set_option maxRecDepth 20000 in
theorem gX6_add_X6_isKey : GoodIn wsX6_add (va_wsS RX6 73 yX6_isKey wsX6_isKey) := goodIn_app (goodIn_of _ (by decide +kernel)) ggX6_add_X6_isKey
set_option maxRecDepth 20000 in
theorem ggX6_add_X6_isValue : GoodIn wsX6_add wsX6_isValue := goodIn_r _ [13, 14, 15, 8, 9, 5, 10] (by decide +kernel) (by decide +kernel)
set_option maxRecDepth 20000 in
theorem gX6_add_X6_isValue : GoodIn wsX6_add (va_wsS RX6 76 yX6_isValue wsX6_isValue) := goodIn_app (goodIn_of _ (by decide +kernel)) ggX6_add_X6_isValue
set_option maxRecDepth 20000 in
theorem ggX6_add_X6_in : GoodIn wsX6_add wsX6_in := goodIn_r _ [10] (by decide +kernel) (by decide +kernel)
set_option maxRecDepth 20000 in
theorem gX6_add_X6_in : GoodIn wsX6_add (va_wsS RX6 47 yX6_in wsX6_in) := goodIn_app (goodIn_of _ (by decide +kernel)) ggX6_add_X6_in
set_option maxRecDepth 20000 in
theorem ggX6_add_X6_remember : GoodIn wsX6_add wsX6_remember := goodIn_r _ [19, 20, 2, 31, 32, 33, 34, 35, 36, 37, 38, 39, 40, 41, 42, 43, 44, 45, 46, 47, 48, 49, 50] (by decide +kernel) (by decide +kernel)
set_option maxRecDepth 20000 in
theorem gX6_add_X6_remember : GoodIn wsX6_add (wsV RX6 81 RX6 yX6_remember wsX6_remember) := goodIn_app (goodIn_of _ (by decide +kernel)) ggX6_add_X6_remember
set_option maxRecDepth 20000 in
theorem ggX6_add_X6_puts : GoodIn wsX6_add wsX6_puts := goodIn_r _ [24, 2, 31, 32, 33, 34, 35, 36, 37, 38, 39, 40, 41, 42, 43, 44, 45, 46, 47, 48, 49, 50] (by decide +kernel) (by decide +kernel)
set_option maxRecDepth 20000 in
theorem gX6_add_X6_puts : GoodIn wsX6_add (wsV RX6 84 RX6 yX6_puts wsX6_puts) := goodIn_app (goodIn_of _ (by decide +kernel)) ggX6_add_X6_puts
set_option maxRecDepth 20000 in
theorem ggX6_add_X6_acted : GoodIn wsX6_add wsX6_acted := goodIn_r _ [28, 29, 30, 20, 31, 32, 33, 34, 35, 36, 37, 38, 39, 40, 41, 42, 43, 44, 45, 46, 47, 48, 49, 50] (by decide +kernel) (by decide +kernel)
set_option maxRecDepth 20000 in
theorem gX6_add_X6_acted : GoodIn wsX6_add (wsV RX6 88 RX6 yX6_acted wsX6_acted) := goodIn_app (goodIn_of _ (by decide +kernel)) ggX6_add_X6_acted
theorem dX6_add_0 : decode cX6_add 0 = .ok (.iload_n 1, 1) := by decide +kernel
theorem dX6_add_1 : decode cX6_add 1 = .ok (.invokestatic 73, 3) := by decide +kernel
theorem dX6_add_4 : decode cX6_add 4 = .ok (.ifCond .eq 18, 3) := by decide +kernel
theorem dX6_add_7 : decode cX6_add 7 = .ok (.iload 4, 2) := by decide +kernel
theorem dX6_add_9 : decode cX6_add 9 = .ok (.invokestatic 73, 3) := by decide +kernel
theorem dX6_add_12 : decode cX6_add 12 = .ok (.ifCond .ne 12, 3) := by decide +kernel
theorem dX6_add_15 : decode cX6_add 15 = .ok (.iload 4, 2) := by decide +kernel
theorem dX6_add_17 : decode cX6_add 17 = .ok (.bipush (-5), 2) := by decide +kernel
theorem dX6_add_19 : decode cX6_add 19 = .ok (.if_icmp .eq 5, 3) := by decide +kernel
theorem dX6_add_22 : decode cX6_add 22 = .ok (.iconst (-1), 1) := by decide +kernel
theorem dX6_add_23 : decode cX6_add 23 = .ok (.ireturn, 1) := by decide +kernel
theorem dX6_add_24 : decode cX6_add 24 = .ok (.iload_n 2, 1) := by decide +kernel
theorem dX6_add_25 : decode cX6_add 25 = .ok (.invokestatic 76, 3) := by decide +kernel
theorem dX6_add_28 : decode cX6_add 28 = .ok (.ifCond .eq 15, 3) := by decide +kernel
theorem dX6_add_31 : decode cX6_add 31 = .ok (.iload_n 3, 1) := by decide +kernel
theorem dX6_add_32 : decode cX6_add 32 = .ok (.i2l, 1) := by decide +kernel
theorem dX6_add_33 : decode cX6_add 33 = .ok (.lconst 0, 1) := by decide +kernel
theorem dX6_add_34 : decode cX6_add 34 = .ok (.ldc2_w 79, 3) := by decide +kernel
theorem dX6_add_37 : decode cX6_add 37 = .ok (.invokestatic 47, 3) := by decide +kernel
theorem dX6_add_40 : decode cX6_add 40 = .ok (.ifCond .ne 6, 3) := by decide +kernel
theorem dX6_add_43 : decode cX6_add 43 = .ok (.bipush (-2), 2) := by decide +kernel
theorem dX6_add_45 : decode cX6_add 45 = .ok (.ireturn, 1) := by decide +kernel
theorem dX6_add_46 : decode cX6_add 46 = .ok (.aload_n 0, 1) := by decide +kernel
theorem dX6_add_47 : decode cX6_add 47 = .ok (.getfield 7, 3) := by decide +kernel
theorem dX6_add_50 : decode cX6_add 50 = .ok (.iconst 0, 1) := by decide +kernel
theorem dX6_add_51 : decode cX6_add 51 = .ok (.iaload, 1) := by decide +kernel
theorem dX6_add_52 : decode cX6_add 52 = .ok (.bipush 20, 2) := by decide +kernel
theorem dX6_add_54 : decode cX6_add 54 = .ok (.if_icmp .ne 6, 3) := by decide +kernel
theorem dX6_add_57 : decode cX6_add 57 = .ok (.bipush (-3), 2) := by decide +kernel
theorem dX6_add_59 : decode cX6_add 59 = .ok (.ireturn, 1) := by decide +kernel
theorem dX6_add_60 : decode cX6_add 60 = .ok (.aload_n 0, 1) := by decide +kernel
theorem dX6_add_61 : decode cX6_add 61 = .ok (.invokevirtual 81, 3) := by decide +kernel
theorem dX6_add_64 : decode cX6_add 64 = .ok (.aload_n 0, 1) := by decide +kernel
theorem dX6_add_65 : decode cX6_add 65 = .ok (.iload_n 1, 1) := by decide +kernel
theorem dX6_add_66 : decode cX6_add 66 = .ok (.iload_n 2, 1) := by decide +kernel
theorem dX6_add_67 : decode cX6_add 67 = .ok (.bipush 97, 2) := by decide +kernel
theorem dX6_add_69 : decode cX6_add 69 = .ok (.isub, 1) := by decide +kernel
theorem dX6_add_70 : decode cX6_add 70 = .ok (.iload_n 3, 1) := by decide +kernel
theorem dX6_add_71 : decode cX6_add 71 = .ok (.iload 4, 2) := by decide +kernel
theorem dX6_add_73 : decode cX6_add 73 = .ok (.invokevirtual 84, 3) := by decide +kernel
theorem dX6_add_76 : decode cX6_add 76 = .ok (.aload_n 0, 1) := by decide +kernel
theorem dX6_add_77 : decode cX6_add 77 = .ok (.aload_n 0, 1) := by decide +kernel
theorem dX6_add_78 : decode cX6_add 78 = .ok (.getfield 7, 3) := by decide +kernel
theorem dX6_add_81 : decode cX6_add 81 = .ok (.iconst 0, 1) := by decide +kernel
theorem dX6_add_82 : decode cX6_add 82 = .ok (.iaload, 1) := by decide +kernel
theorem dX6_add_83 : decode cX6_add 83 = .ok (.iconst 1, 1) := by decide +kernel
theorem dX6_add_84 : decode cX6_add 84 = .ok (.isub, 1) := by decide +kernel
theorem dX6_add_85 : decode cX6_add 85 = .ok (.invokevirtual 88, 3) := by decide +kernel
theorem dX6_add_88 : decode cX6_add 88 = .ok (.ireturn, 1) := by decide +kernel
set_option maxRecDepth 20000 in
theorem ggX6_remove_X6_isRow : GoodIn wsX6_remove wsX6_isRow := goodIn_r _ [6, 1, 7, 8, 5, 9, 25, 26, 27, 28, 29, 30, 31, 32, 33, 34, 35, 36, 37, 38, 39, 40, 41, 42, 43, 44] (by decide +kernel) (by decide +kernel)
set_option maxRecDepth 20000 in
theorem gX6_remove_X6_isRow : GoodIn wsX6_remove (wsV RX6 92 RX6 yX6_isRow wsX6_isRow) := goodIn_app (goodIn_of _ (by decide +kernel)) ggX6_remove_X6_isRow
set_option maxRecDepth 20000 in
theorem ggX6_remove_X6_remember : GoodIn wsX6_remove wsX6_remember := goodIn_r _ [13, 14, 1, 25, 26, 27, 28, 29, 30, 31, 32, 33, 34, 35, 36, 37, 38, 39, 40, 41, 42, 43, 44] (by decide +kernel) (by decide +kernel)
set_option maxRecDepth 20000 in
theorem gX6_remove_X6_remember : GoodIn wsX6_remove (wsV RX6 81 RX6 yX6_remember wsX6_remember) := goodIn_app (goodIn_of _ (by decide +kernel)) ggX6_remove_X6_remember
set_option maxRecDepth 20000 in
theorem ggX6_remove_X6_takesOut : GoodIn wsX6_remove wsX6_takesOut := goodIn_r _ [18, 1, 25, 26, 27, 28, 29, 30, 31, 32, 33, 34, 35, 36, 37, 38, 39, 40, 41, 42, 43, 44] (by decide +kernel) (by decide +kernel)
set_option maxRecDepth 20000 in
theorem gX6_remove_X6_takesOut : GoodIn wsX6_remove (wsV RX6 61 RX6 yX6_takesOut wsX6_takesOut) := goodIn_app (goodIn_of _ (by decide +kernel)) ggX6_remove_X6_takesOut
set_option maxRecDepth 20000 in
theorem ggX6_remove_X6_acted : GoodIn wsX6_remove wsX6_acted := goodIn_r _ [22, 23, 24, 14, 25, 26, 27, 28, 29, 30, 31, 32, 33, 34, 35, 36, 37, 38, 39, 40, 41, 42, 43, 44] (by decide +kernel) (by decide +kernel)
set_option maxRecDepth 20000 in
theorem gX6_remove_X6_acted : GoodIn wsX6_remove (wsV RX6 88 RX6 yX6_acted wsX6_acted) := goodIn_app (goodIn_of _ (by decide +kernel)) ggX6_remove_X6_acted
theorem dX6_remove_0 : decode cX6_remove 0 = .ok (.aload_n 0, 1) := by decide +kernel
theorem dX6_remove_1 : decode cX6_remove 1 = .ok (.iload_n 1, 1) := by decide +kernel
theorem dX6_remove_2 : decode cX6_remove 2 = .ok (.invokevirtual 92, 3) := by decide +kernel
theorem dX6_remove_5 : decode cX6_remove 5 = .ok (.ifCond .ne 5, 3) := by decide +kernel
theorem dX6_remove_8 : decode cX6_remove 8 = .ok (.iconst (-1), 1) := by decide +kernel
theorem dX6_remove_9 : decode cX6_remove 9 = .ok (.ireturn, 1) := by decide +kernel
theorem dX6_remove_10 : decode cX6_remove 10 = .ok (.aload_n 0, 1) := by decide +kernel
theorem dX6_remove_11 : decode cX6_remove 11 = .ok (.invokevirtual 81, 3) := by decide +kernel
theorem dX6_remove_14 : decode cX6_remove 14 = .ok (.aload_n 0, 1) := by decide +kernel
theorem dX6_remove_15 : decode cX6_remove 15 = .ok (.iload_n 1, 1) := by decide +kernel
theorem dX6_remove_16 : decode cX6_remove 16 = .ok (.invokevirtual 61, 3) := by decide +kernel
theorem dX6_remove_19 : decode cX6_remove 19 = .ok (.aload_n 0, 1) := by decide +kernel
theorem dX6_remove_20 : decode cX6_remove 20 = .ok (.aload_n 0, 1) := by decide +kernel
theorem dX6_remove_21 : decode cX6_remove 21 = .ok (.getfield 7, 3) := by decide +kernel
theorem dX6_remove_24 : decode cX6_remove 24 = .ok (.iconst 0, 1) := by decide +kernel
theorem dX6_remove_25 : decode cX6_remove 25 = .ok (.iaload, 1) := by decide +kernel
theorem dX6_remove_26 : decode cX6_remove 26 = .ok (.invokevirtual 88, 3) := by decide +kernel
theorem dX6_remove_29 : decode cX6_remove 29 = .ok (.ireturn, 1) := by decide +kernel
set_option maxRecDepth 20000 in
theorem ggX6_mend_X6_isRow : GoodIn wsX6_mend wsX6_isRow := goodIn_r _ [5, 6, 7, 8, 4, 9, 33, 34, 35, 36, 37, 38, 39, 40, 41, 42, 43, 44, 45, 46, 47, 48, 49, 50, 51, 52] (by decide +kernel) (by decide +kernel)
set_option maxRecDepth 20000 in
theorem gX6_mend_X6_isRow : GoodIn wsX6_mend (wsV RX6 92 RX6 yX6_isRow wsX6_isRow) := goodIn_app (goodIn_of _ (by decide +kernel)) ggX6_mend_X6_isRow
set_option maxRecDepth 20000 in
theorem ggX6_mend_X6_remember : GoodIn wsX6_mend wsX6_remember := goodIn_r _ [13, 14, 6, 33, 34, 35, 36, 37, 38, 39, 40, 41, 42, 43, 44, 45, 46, 47, 48, 49, 50, 51, 52] (by decide +kernel) (by decide +kernel)
set_option maxRecDepth 20000 in
theorem gX6_mend_X6_remember : GoodIn wsX6_mend (wsV RX6 81 RX6 yX6_remember wsX6_remember) := goodIn_app (goodIn_of _ (by decide +kernel)) ggX6_mend_X6_remember
set_option maxRecDepth 20000 in
theorem ggX6_mend_X6_mends : GoodIn wsX6_mend wsX6_mends := goodIn_r _ [18, 6, 19, 20, 21, 4, 22, 23, 24, 25, 26, 33, 34, 35, 36, 37, 38, 39, 40, 41, 42, 43, 44, 45, 46, 47, 48, 49, 50, 51, 52] (by decide +kernel) (by decide +kernel)
set_option maxRecDepth 20000 in
theorem gX6_mend_X6_mends : GoodIn wsX6_mend (wsV RX6 95 RX6 yX6_mends wsX6_mends) := goodIn_app (goodIn_of _ (by decide +kernel)) ggX6_mend_X6_mends
set_option maxRecDepth 20000 in
theorem ggX6_mend_X6_acted : GoodIn wsX6_mend wsX6_acted := goodIn_r _ [30, 31, 32, 14, 33, 34, 35, 36, 37, 38, 39, 40, 41, 42, 43, 44, 45, 46, 47, 48, 49, 50, 51, 52] (by decide +kernel) (by decide +kernel)
set_option maxRecDepth 20000 in
theorem gX6_mend_X6_acted : GoodIn wsX6_mend (wsV RX6 88 RX6 yX6_acted wsX6_acted) := goodIn_app (goodIn_of _ (by decide +kernel)) ggX6_mend_X6_acted
theorem dX6_mend_0 : decode cX6_mend 0 = .ok (.aload_n 0, 1) := by decide +kernel
theorem dX6_mend_1 : decode cX6_mend 1 = .ok (.iload_n 1, 1) := by decide +kernel
theorem dX6_mend_2 : decode cX6_mend 2 = .ok (.invokevirtual 92, 3) := by decide +kernel
theorem dX6_mend_5 : decode cX6_mend 5 = .ok (.ifCond .ne 5, 3) := by decide +kernel
theorem dX6_mend_8 : decode cX6_mend 8 = .ok (.iconst (-1), 1) := by decide +kernel
theorem dX6_mend_9 : decode cX6_mend 9 = .ok (.ireturn, 1) := by decide +kernel
theorem dX6_mend_10 : decode cX6_mend 10 = .ok (.aload_n 0, 1) := by decide +kernel
theorem dX6_mend_11 : decode cX6_mend 11 = .ok (.invokevirtual 81, 3) := by decide +kernel
theorem dX6_mend_14 : decode cX6_mend 14 = .ok (.aload_n 0, 1) := by decide +kernel
theorem dX6_mend_15 : decode cX6_mend 15 = .ok (.iload_n 1, 1) := by decide +kernel
theorem dX6_mend_16 : decode cX6_mend 16 = .ok (.invokevirtual 95, 3) := by decide +kernel
theorem dX6_mend_19 : decode cX6_mend 19 = .ok (.istore_n 2, 1) := by decide +kernel
theorem dX6_mend_20 : decode cX6_mend 20 = .ok (.iload_n 2, 1) := by decide +kernel
theorem dX6_mend_21 : decode cX6_mend 21 = .ok (.ifCond .ne 8, 3) := by decide +kernel
theorem dX6_mend_24 : decode cX6_mend 24 = .ok (.bipush (-5), 2) := by decide +kernel
theorem dX6_mend_26 : decode cX6_mend 26 = .ok (.goto 8, 3) := by decide +kernel
theorem dX6_mend_29 : decode cX6_mend 29 = .ok (.aload_n 0, 1) := by decide +kernel
theorem dX6_mend_30 : decode cX6_mend 30 = .ok (.iload_n 2, 1) := by decide +kernel
theorem dX6_mend_31 : decode cX6_mend 31 = .ok (.invokevirtual 88, 3) := by decide +kernel
theorem dX6_mend_34 : decode cX6_mend 34 = .ok (.ireturn, 1) := by decide +kernel
set_option maxRecDepth 20000 in
theorem ggX6_lastOf_X6_of : GoodIn wsX6_lastOf wsX6_of := goodIn_r _ [6, 1, 7, 8, 9, 10, 11, 12, 13, 14, 15, 16, 17, 18, 19, 20, 21, 22, 23, 24, 25, 26] (by decide +kernel) (by decide +kernel)
set_option maxRecDepth 20000 in
theorem gX6_lastOf_X6_of : GoodIn wsX6_lastOf (wsV RX6 53 RX6 yX6_of wsX6_of) := goodIn_app (goodIn_of _ (by decide +kernel)) ggX6_lastOf_X6_of
theorem dX6_lastOf_0 : decode cX6_lastOf 0 = .ok (.bipush (-5), 2) := by decide +kernel
theorem dX6_lastOf_2 : decode cX6_lastOf 2 = .ok (.istore_n 2, 1) := by decide +kernel
theorem dX6_lastOf_3 : decode cX6_lastOf 3 = .ok (.iconst 0, 1) := by decide +kernel
theorem dX6_lastOf_4 : decode cX6_lastOf 4 = .ok (.istore_n 3, 1) := by decide +kernel
theorem dX6_lastOf_5 : decode cX6_lastOf 5 = .ok (.iload_n 3, 1) := by decide +kernel
theorem dX6_lastOf_6 : decode cX6_lastOf 6 = .ok (.aload_n 0, 1) := by decide +kernel
theorem dX6_lastOf_7 : decode cX6_lastOf 7 = .ok (.getfield 7, 3) := by decide +kernel
theorem dX6_lastOf_10 : decode cX6_lastOf 10 = .ok (.iconst 0, 1) := by decide +kernel
theorem dX6_lastOf_11 : decode cX6_lastOf 11 = .ok (.iaload, 1) := by decide +kernel
theorem dX6_lastOf_12 : decode cX6_lastOf 12 = .ok (.if_icmp .ge 25, 3) := by decide +kernel
theorem dX6_lastOf_15 : decode cX6_lastOf 15 = .ok (.aload_n 0, 1) := by decide +kernel
theorem dX6_lastOf_16 : decode cX6_lastOf 16 = .ok (.iload_n 3, 1) := by decide +kernel
theorem dX6_lastOf_17 : decode cX6_lastOf 17 = .ok (.iconst 0, 1) := by decide +kernel
theorem dX6_lastOf_18 : decode cX6_lastOf 18 = .ok (.invokevirtual 53, 3) := by decide +kernel
theorem dX6_lastOf_21 : decode cX6_lastOf 21 = .ok (.iload_n 1, 1) := by decide +kernel
theorem dX6_lastOf_22 : decode cX6_lastOf 22 = .ok (.if_icmp .ne 7, 3) := by decide +kernel
theorem dX6_lastOf_25 : decode cX6_lastOf 25 = .ok (.iload_n 3, 1) := by decide +kernel
theorem dX6_lastOf_26 : decode cX6_lastOf 26 = .ok (.goto 4, 3) := by decide +kernel
theorem dX6_lastOf_29 : decode cX6_lastOf 29 = .ok (.iload_n 2, 1) := by decide +kernel
theorem dX6_lastOf_30 : decode cX6_lastOf 30 = .ok (.istore_n 2, 1) := by decide +kernel
theorem dX6_lastOf_31 : decode cX6_lastOf 31 = .ok (.iinc 3 1, 3) := by decide +kernel
theorem dX6_lastOf_34 : decode cX6_lastOf 34 = .ok (.goto (-29), 3) := by decide +kernel
theorem dX6_lastOf_37 : decode cX6_lastOf 37 = .ok (.iload_n 2, 1) := by decide +kernel
theorem dX6_lastOf_38 : decode cX6_lastOf 38 = .ok (.ireturn, 1) := by decide +kernel
set_option maxRecDepth 20000 in
theorem ggX6_firstOf_X6_of : GoodIn wsX6_firstOf wsX6_of := goodIn_r _ [5, 6, 7, 8, 9, 10, 11, 12, 13, 14, 15, 16, 17, 18, 19, 20, 21, 22, 23, 24, 25, 26] (by decide +kernel) (by decide +kernel)
set_option maxRecDepth 20000 in
theorem gX6_firstOf_X6_of : GoodIn wsX6_firstOf (wsV RX6 53 RX6 yX6_of wsX6_of) := goodIn_app (goodIn_of _ (by decide +kernel)) ggX6_firstOf_X6_of
theorem dX6_firstOf_0 : decode cX6_firstOf 0 = .ok (.iconst 0, 1) := by decide +kernel
theorem dX6_firstOf_1 : decode cX6_firstOf 1 = .ok (.istore_n 2, 1) := by decide +kernel
theorem dX6_firstOf_2 : decode cX6_firstOf 2 = .ok (.aload_n 0, 1) := by decide +kernel
theorem dX6_firstOf_3 : decode cX6_firstOf 3 = .ok (.iload_n 2, 1) := by decide +kernel
theorem dX6_firstOf_4 : decode cX6_firstOf 4 = .ok (.iconst 0, 1) := by decide +kernel
theorem dX6_firstOf_5 : decode cX6_firstOf 5 = .ok (.invokevirtual 53, 3) := by decide +kernel
theorem dX6_firstOf_8 : decode cX6_firstOf 8 = .ok (.iload_n 1, 1) := by decide +kernel
theorem dX6_firstOf_9 : decode cX6_firstOf 9 = .ok (.if_icmp .eq 9, 3) := by decide +kernel
theorem dX6_firstOf_12 : decode cX6_firstOf 12 = .ok (.iinc 2 1, 3) := by decide +kernel
theorem dX6_firstOf_15 : decode cX6_firstOf 15 = .ok (.goto (-13), 3) := by decide +kernel
theorem dX6_firstOf_18 : decode cX6_firstOf 18 = .ok (.iload_n 2, 1) := by decide +kernel
theorem dX6_firstOf_19 : decode cX6_firstOf 19 = .ok (.ireturn, 1) := by decide +kernel
set_option maxRecDepth 20000 in
theorem ggX6_mendAll_X6_in : GoodIn wsX6_mendAll wsX6_in := goodIn_r _ [5] (by decide +kernel) (by decide +kernel)
set_option maxRecDepth 20000 in
theorem gX6_mendAll_X6_in : GoodIn wsX6_mendAll (va_wsS RX6 47 yX6_in wsX6_in) := goodIn_app (goodIn_of _ (by decide +kernel)) ggX6_mendAll_X6_in
set_option maxRecDepth 20000 in
theorem ggX6_mendAll_X6_remember : GoodIn wsX6_mendAll wsX6_remember := goodIn_r _ [9, 10, 11, 46, 47, 48, 49, 50, 51, 52, 53, 54, 55, 56, 57, 58, 59, 60, 61, 62, 63, 64, 65] (by decide +kernel) (by decide +kernel)
set_option maxRecDepth 20000 in
theorem gX6_mendAll_X6_remember : GoodIn wsX6_mendAll (wsV RX6 81 RX6 yX6_remember wsX6_remember) := goodIn_app (goodIn_of _ (by decide +kernel)) ggX6_mendAll_X6_remember
set_option maxRecDepth 20000 in
theorem ggX6_mendAll_X6_rowsOf : GoodIn wsX6_mendAll wsX6_rowsOf := goodIn_r _ [15, 11, 16, 17, 18, 4, 19, 46, 47, 48, 49, 50, 51, 52, 53, 54, 55, 56, 57, 58, 59, 60, 61, 62, 63, 64, 65] (by decide +kernel) (by decide +kernel)
set_option maxRecDepth 20000 in
theorem gX6_mendAll_X6_rowsOf : GoodIn wsX6_mendAll (wsV RX6 100 RX6 yX6_rowsOf wsX6_rowsOf) := goodIn_app (goodIn_of _ (by decide +kernel)) ggX6_mendAll_X6_rowsOf
set_option maxRecDepth 20000 in
theorem ggX6_mendAll_X6_firstOf : GoodIn wsX6_mendAll wsX6_firstOf := goodIn_r _ [23, 16, 17, 18, 4, 19, 11, 46, 47, 48, 49, 50, 51, 52, 53, 54, 55, 56, 57, 58, 59, 60, 61, 62, 63, 64, 65] (by decide +kernel) (by decide +kernel)
set_option maxRecDepth 20000 in
theorem gX6_mendAll_X6_firstOf : GoodIn wsX6_mendAll (wsV RX6 103 RX6 yX6_firstOf wsX6_firstOf) := goodIn_app (goodIn_of _ (by decide +kernel)) ggX6_mendAll_X6_firstOf
set_option maxRecDepth 20000 in
theorem ggX6_mendAll_X6_lastOf : GoodIn wsX6_mendAll wsX6_lastOf := goodIn_r _ [27, 11, 16, 17, 18, 4, 19, 46, 47, 48, 49, 50, 51, 52, 53, 54, 55, 56, 57, 58, 59, 60, 61, 62, 63, 64, 65] (by decide +kernel) (by decide +kernel)
set_option maxRecDepth 20000 in
theorem gX6_mendAll_X6_lastOf : GoodIn wsX6_mendAll (wsV RX6 106 RX6 yX6_lastOf wsX6_lastOf) := goodIn_app (goodIn_of _ (by decide +kernel)) ggX6_mendAll_X6_lastOf
set_option maxRecDepth 20000 in
theorem ggX6_mendAll_X6_outermost : GoodIn wsX6_mendAll wsX6_outermost := goodIn_r _ [31, 11, 16, 17, 18, 4, 19, 46, 47, 48, 49, 50, 51, 52, 53, 54, 55, 56, 57, 58, 59, 60, 61, 62, 63, 64, 65] (by decide +kernel) (by decide +kernel)
set_option maxRecDepth 20000 in
theorem gX6_mendAll_X6_outermost : GoodIn wsX6_mendAll (wsV RX6 57 RX6 yX6_outermost wsX6_outermost) := goodIn_app (goodIn_of _ (by decide +kernel)) ggX6_mendAll_X6_outermost
set_option maxRecDepth 20000 in
theorem ggX6_mendAll_X6_mends : GoodIn wsX6_mendAll wsX6_mends := goodIn_r _ [35, 11, 16, 17, 18, 4, 19, 36, 37, 38, 39, 46, 47, 48, 49, 50, 51, 52, 53, 54, 55, 56, 57, 58, 59, 60, 61, 62, 63, 64, 65] (by decide +kernel) (by decide +kernel)
set_option maxRecDepth 20000 in
theorem gX6_mendAll_X6_mends : GoodIn wsX6_mendAll (wsV RX6 95 RX6 yX6_mends wsX6_mends) := goodIn_app (goodIn_of _ (by decide +kernel)) ggX6_mendAll_X6_mends
set_option maxRecDepth 20000 in
theorem ggX6_mendAll_X6_acted : GoodIn wsX6_mendAll wsX6_acted := goodIn_r _ [43, 44, 45, 10, 46, 47, 48, 49, 50, 51, 52, 53, 54, 55, 56, 57, 58, 59, 60, 61, 62, 63, 64, 65] (by decide +kernel) (by decide +kernel)
set_option maxRecDepth 20000 in
theorem gX6_mendAll_X6_acted : GoodIn wsX6_mendAll (wsV RX6 88 RX6 yX6_acted wsX6_acted) := goodIn_app (goodIn_of _ (by decide +kernel)) ggX6_mendAll_X6_acted
theorem dX6_mendAll_0 : decode cX6_mendAll 0 = .ok (.iload_n 1, 1) := by decide +kernel
theorem dX6_mendAll_1 : decode cX6_mendAll 1 = .ok (.i2l, 1) := by decide +kernel
theorem dX6_mendAll_2 : decode cX6_mendAll 2 = .ok (.lconst 0, 1) := by decide +kernel
theorem dX6_mendAll_3 : decode cX6_mendAll 3 = .ok (.ldc2_w 98, 3) := by decide +kernel
theorem dX6_mendAll_6 : decode cX6_mendAll 6 = .ok (.invokestatic 47, 3) := by decide +kernel
theorem dX6_mendAll_9 : decode cX6_mendAll 9 = .ok (.ifCond .ne 6, 3) := by decide +kernel
theorem dX6_mendAll_12 : decode cX6_mendAll 12 = .ok (.bipush (-2), 2) := by decide +kernel
theorem dX6_mendAll_14 : decode cX6_mendAll 14 = .ok (.ireturn, 1) := by decide +kernel
theorem dX6_mendAll_15 : decode cX6_mendAll 15 = .ok (.aload_n 0, 1) := by decide +kernel
theorem dX6_mendAll_16 : decode cX6_mendAll 16 = .ok (.invokevirtual 81, 3) := by decide +kernel
theorem dX6_mendAll_19 : decode cX6_mendAll 19 = .ok (.iconst 0, 1) := by decide +kernel
theorem dX6_mendAll_20 : decode cX6_mendAll 20 = .ok (.istore_n 2, 1) := by decide +kernel
theorem dX6_mendAll_21 : decode cX6_mendAll 21 = .ok (.iconst 0, 1) := by decide +kernel
theorem dX6_mendAll_22 : decode cX6_mendAll 22 = .ok (.istore_n 3, 1) := by decide +kernel
theorem dX6_mendAll_23 : decode cX6_mendAll 23 = .ok (.iload_n 3, 1) := by decide +kernel
theorem dX6_mendAll_24 : decode cX6_mendAll 24 = .ok (.bipush 10, 2) := by decide +kernel
theorem dX6_mendAll_26 : decode cX6_mendAll 26 = .ok (.if_icmp .ge 56, 3) := by decide +kernel
theorem dX6_mendAll_29 : decode cX6_mendAll 29 = .ok (.aload_n 0, 1) := by decide +kernel
theorem dX6_mendAll_30 : decode cX6_mendAll 30 = .ok (.iload_n 3, 1) := by decide +kernel
theorem dX6_mendAll_31 : decode cX6_mendAll 31 = .ok (.invokevirtual 100, 3) := by decide +kernel
theorem dX6_mendAll_34 : decode cX6_mendAll 34 = .ok (.iconst 1, 1) := by decide +kernel
theorem dX6_mendAll_35 : decode cX6_mendAll 35 = .ok (.if_icmp .le 41, 3) := by decide +kernel
theorem dX6_mendAll_38 : decode cX6_mendAll 38 = .ok (.iload_n 2, 1) := by decide +kernel
theorem dX6_mendAll_39 : decode cX6_mendAll 39 = .ok (.aload_n 0, 1) := by decide +kernel
theorem dX6_mendAll_40 : decode cX6_mendAll 40 = .ok (.iload_n 1, 1) := by decide +kernel
theorem dX6_mendAll_41 : decode cX6_mendAll 41 = .ok (.ifCond .ne 11, 3) := by decide +kernel
theorem dX6_mendAll_44 : decode cX6_mendAll 44 = .ok (.aload_n 0, 1) := by decide +kernel
theorem dX6_mendAll_45 : decode cX6_mendAll 45 = .ok (.iload_n 3, 1) := by decide +kernel
theorem dX6_mendAll_46 : decode cX6_mendAll 46 = .ok (.invokevirtual 103, 3) := by decide +kernel
theorem dX6_mendAll_49 : decode cX6_mendAll 49 = .ok (.goto 22, 3) := by decide +kernel
theorem dX6_mendAll_52 : decode cX6_mendAll 52 = .ok (.iload_n 1, 1) := by decide +kernel
theorem dX6_mendAll_53 : decode cX6_mendAll 53 = .ok (.iconst 1, 1) := by decide +kernel
theorem dX6_mendAll_54 : decode cX6_mendAll 54 = .ok (.if_icmp .ne 11, 3) := by decide +kernel
theorem dX6_mendAll_57 : decode cX6_mendAll 57 = .ok (.aload_n 0, 1) := by decide +kernel
end
section
theorem dX6_mendAll_58 : decode cX6_mendAll 58 = .ok (.iload_n 3, 1) := by decide +kernel
theorem dX6_mendAll_59 : decode cX6_mendAll 59 = .ok (.invokevirtual 106, 3) := by decide +kernel
theorem dX6_mendAll_62 : decode cX6_mendAll 62 = .ok (.goto 9, 3) := by decide +kernel
theorem dX6_mendAll_65 : decode cX6_mendAll 65 = .ok (.aload_n 0, 1) := by decide +kernel
theorem dX6_mendAll_66 : decode cX6_mendAll 66 = .ok (.iload_n 3, 1) := by decide +kernel
theorem dX6_mendAll_67 : decode cX6_mendAll 67 = .ok (.iconst 1, 1) := by decide +kernel
theorem dX6_mendAll_68 : decode cX6_mendAll 68 = .ok (.invokevirtual 57, 3) := by decide +kernel
theorem dX6_mendAll_71 : decode cX6_mendAll 71 = .ok (.invokevirtual 95, 3) := by decide +kernel
theorem dX6_mendAll_74 : decode cX6_mendAll 74 = .ok (.iadd, 1) := by decide +kernel
theorem dX6_mendAll_75 : decode cX6_mendAll 75 = .ok (.istore_n 2, 1) := by decide +kernel
theorem dX6_mendAll_76 : decode cX6_mendAll 76 = .ok (.iinc 3 1, 3) := by decide +kernel
theorem dX6_mendAll_79 : decode cX6_mendAll 79 = .ok (.goto (-56), 3) := by decide +kernel
theorem dX6_mendAll_82 : decode cX6_mendAll 82 = .ok (.iload_n 2, 1) := by decide +kernel
theorem dX6_mendAll_83 : decode cX6_mendAll 83 = .ok (.ifCond .ne 8, 3) := by decide +kernel
theorem dX6_mendAll_86 : decode cX6_mendAll 86 = .ok (.bipush (-5), 2) := by decide +kernel
theorem dX6_mendAll_88 : decode cX6_mendAll 88 = .ok (.goto 8, 3) := by decide +kernel
theorem dX6_mendAll_91 : decode cX6_mendAll 91 = .ok (.aload_n 0, 1) := by decide +kernel
theorem dX6_mendAll_92 : decode cX6_mendAll 92 = .ok (.iload_n 2, 1) := by decide +kernel
theorem dX6_mendAll_93 : decode cX6_mendAll 93 = .ok (.invokevirtual 88, 3) := by decide +kernel
theorem dX6_mendAll_96 : decode cX6_mendAll 96 = .ok (.ireturn, 1) := by decide +kernel
set_option maxRecDepth 20000 in
theorem ggX6_prefer_X6_remember : GoodIn wsX6_prefer wsX6_remember := goodIn_r _ [6, 7, 1, 37, 38, 39, 40, 41, 42, 43, 44, 45, 46, 47, 48, 49, 50, 51, 52, 53, 54, 55, 56] (by decide +kernel) (by decide +kernel)
set_option maxRecDepth 20000 in
theorem gX6_prefer_X6_remember : GoodIn wsX6_prefer (wsV RX6 81 RX6 yX6_remember wsX6_remember) := goodIn_app (goodIn_of _ (by decide +kernel)) ggX6_prefer_X6_remember
set_option maxRecDepth 20000 in
theorem ggX6_prefer_X6_findsChoices : GoodIn wsX6_prefer wsX6_findsChoices := goodIn_r _ [11, 12, 1, 13, 14, 15, 16, 17, 5, 18, 19, 20, 21, 22, 23, 24, 25, 26, 37, 38, 39, 40, 41, 42, 43, 44, 45, 46, 47, 48, 49, 50, 51, 52, 53, 54, 55, 56] (by decide +kernel) (by decide +kernel)
set_option maxRecDepth 20000 in
theorem gX6_prefer_X6_findsChoices : GoodIn wsX6_prefer (wsV RX6 109 RX6 yX6_findsChoices wsX6_findsChoices) := goodIn_app (goodIn_of _ (by decide +kernel)) ggX6_prefer_X6_findsChoices
set_option maxRecDepth 20000 in
theorem ggX6_prefer_X6_mendings : GoodIn wsX6_prefer wsX6_mendings := goodIn_r _ [30, 12, 37, 38, 39, 40, 41, 42, 43, 44, 45, 46, 47, 48, 49, 50, 51, 52, 53, 54, 55, 56] (by decide +kernel) (by decide +kernel)
set_option maxRecDepth 20000 in
theorem gX6_prefer_X6_mendings : GoodIn wsX6_prefer (wsV RX6 112 RX6 yX6_mendings wsX6_mendings) := goodIn_app (goodIn_of _ (by decide +kernel)) ggX6_prefer_X6_mendings
set_option maxRecDepth 20000 in
theorem ggX6_prefer_X6_acted : GoodIn wsX6_prefer wsX6_acted := goodIn_r _ [34, 35, 36, 7, 37, 38, 39, 40, 41, 42, 43, 44, 45, 46, 47, 48, 49, 50, 51, 52, 53, 54, 55, 56] (by decide +kernel) (by decide +kernel)
set_option maxRecDepth 20000 in
theorem gX6_prefer_X6_acted : GoodIn wsX6_prefer (wsV RX6 88 RX6 yX6_acted wsX6_acted) := goodIn_app (goodIn_of _ (by decide +kernel)) ggX6_prefer_X6_acted
theorem dX6_prefer_0 : decode cX6_prefer 0 = .ok (.iload_n 1, 1) := by decide +kernel
theorem dX6_prefer_1 : decode cX6_prefer 1 = .ok (.ifCond .eq 7, 3) := by decide +kernel
theorem dX6_prefer_4 : decode cX6_prefer 4 = .ok (.iconst 1, 1) := by decide +kernel
theorem dX6_prefer_5 : decode cX6_prefer 5 = .ok (.goto 4, 3) := by decide +kernel
theorem dX6_prefer_8 : decode cX6_prefer 8 = .ok (.iconst 0, 1) := by decide +kernel
theorem dX6_prefer_9 : decode cX6_prefer 9 = .ok (.istore_n 2, 1) := by decide +kernel
theorem dX6_prefer_10 : decode cX6_prefer 10 = .ok (.aload_n 0, 1) := by decide +kernel
theorem dX6_prefer_11 : decode cX6_prefer 11 = .ok (.getfield 7, 3) := by decide +kernel
theorem dX6_prefer_14 : decode cX6_prefer 14 = .ok (.iconst 1, 1) := by decide +kernel
theorem dX6_prefer_15 : decode cX6_prefer 15 = .ok (.iaload, 1) := by decide +kernel
theorem dX6_prefer_16 : decode cX6_prefer 16 = .ok (.iload_n 2, 1) := by decide +kernel
theorem dX6_prefer_17 : decode cX6_prefer 17 = .ok (.if_icmp .ne 6, 3) := by decide +kernel
theorem dX6_prefer_20 : decode cX6_prefer 20 = .ok (.bipush (-5), 2) := by decide +kernel
theorem dX6_prefer_22 : decode cX6_prefer 22 = .ok (.ireturn, 1) := by decide +kernel
theorem dX6_prefer_23 : decode cX6_prefer 23 = .ok (.aload_n 0, 1) := by decide +kernel
theorem dX6_prefer_24 : decode cX6_prefer 24 = .ok (.invokevirtual 81, 3) := by decide +kernel
theorem dX6_prefer_27 : decode cX6_prefer 27 = .ok (.aload_n 0, 1) := by decide +kernel
theorem dX6_prefer_28 : decode cX6_prefer 28 = .ok (.getfield 7, 3) := by decide +kernel
theorem dX6_prefer_31 : decode cX6_prefer 31 = .ok (.iconst 1, 1) := by decide +kernel
theorem dX6_prefer_32 : decode cX6_prefer 32 = .ok (.iload_n 2, 1) := by decide +kernel
theorem dX6_prefer_33 : decode cX6_prefer 33 = .ok (.iastore, 1) := by decide +kernel
theorem dX6_prefer_34 : decode cX6_prefer 34 = .ok (.aload_n 0, 1) := by decide +kernel
theorem dX6_prefer_35 : decode cX6_prefer 35 = .ok (.invokevirtual 109, 3) := by decide +kernel
theorem dX6_prefer_38 : decode cX6_prefer 38 = .ok (.aload_n 0, 1) := by decide +kernel
theorem dX6_prefer_39 : decode cX6_prefer 39 = .ok (.aload_n 0, 1) := by decide +kernel
theorem dX6_prefer_40 : decode cX6_prefer 40 = .ok (.invokevirtual 112, 3) := by decide +kernel
theorem dX6_prefer_43 : decode cX6_prefer 43 = .ok (.invokevirtual 88, 3) := by decide +kernel
theorem dX6_prefer_46 : decode cX6_prefer 46 = .ok (.ireturn, 1) := by decide +kernel
theorem dX6_type_0 : decode cX6_type 0 = .ok (.aload_n 0, 1) := by decide +kernel
theorem dX6_type_1 : decode cX6_type 1 = .ok (.getfield 116, 3) := by decide +kernel
theorem dX6_type_4 : decode cX6_type 4 = .ok (.bipush 80, 2) := by decide +kernel
theorem dX6_type_6 : decode cX6_type 6 = .ok (.if_icmp .ne 6, 3) := by decide +kernel
theorem dX6_type_9 : decode cX6_type 9 = .ok (.bipush (-3), 2) := by decide +kernel
theorem dX6_type_11 : decode cX6_type 11 = .ok (.ireturn, 1) := by decide +kernel
theorem dX6_type_12 : decode cX6_type 12 = .ok (.aload_n 0, 1) := by decide +kernel
theorem dX6_type_13 : decode cX6_type 13 = .ok (.getfield 35, 3) := by decide +kernel
theorem dX6_type_16 : decode cX6_type 16 = .ok (.aload_n 0, 1) := by decide +kernel
theorem dX6_type_17 : decode cX6_type 17 = .ok (.getfield 116, 3) := by decide +kernel
theorem dX6_type_20 : decode cX6_type 20 = .ok (.iload_n 1, 1) := by decide +kernel
theorem dX6_type_21 : decode cX6_type 21 = .ok (.iastore, 1) := by decide +kernel
theorem dX6_type_22 : decode cX6_type 22 = .ok (.aload_n 0, 1) := by decide +kernel
theorem dX6_type_23 : decode cX6_type 23 = .ok (.dup, 1) := by decide +kernel
theorem dX6_type_24 : decode cX6_type 24 = .ok (.getfield 116, 3) := by decide +kernel
theorem dX6_type_27 : decode cX6_type 27 = .ok (.iconst 1, 1) := by decide +kernel
theorem dX6_type_28 : decode cX6_type 28 = .ok (.iadd, 1) := by decide +kernel
theorem dX6_type_29 : decode cX6_type 29 = .ok (.putfield 116, 3) := by decide +kernel
theorem dX6_type_32 : decode cX6_type 32 = .ok (.aload_n 0, 1) := by decide +kernel
theorem dX6_type_33 : decode cX6_type 33 = .ok (.getfield 116, 3) := by decide +kernel
theorem dX6_type_36 : decode cX6_type 36 = .ok (.ireturn, 1) := by decide +kernel
theorem dX6_clearText_0 : decode cX6_clearText 0 = .ok (.aload_n 0, 1) := by decide +kernel
theorem dX6_clearText_1 : decode cX6_clearText 1 = .ok (.getfield 116, 3) := by decide +kernel
theorem dX6_clearText_4 : decode cX6_clearText 4 = .ok (.istore_n 1, 1) := by decide +kernel
theorem dX6_clearText_5 : decode cX6_clearText 5 = .ok (.aload_n 0, 1) := by decide +kernel
theorem dX6_clearText_6 : decode cX6_clearText 6 = .ok (.iconst 0, 1) := by decide +kernel
theorem dX6_clearText_7 : decode cX6_clearText 7 = .ok (.putfield 116, 3) := by decide +kernel
theorem dX6_clearText_10 : decode cX6_clearText 10 = .ok (.iload_n 1, 1) := by decide +kernel
theorem dX6_clearText_11 : decode cX6_clearText 11 = .ok (.ireturn, 1) := by decide +kernel
set_option maxRecDepth 20000 in
theorem ggX6_isHere_X6_in : GoodIn wsX6_isHere wsX6_in := goodIn_r _ [7] (by decide +kernel) (by decide +kernel)
set_option maxRecDepth 20000 in
theorem gX6_isHere_X6_in : GoodIn wsX6_isHere (va_wsS RX6 47 yX6_in wsX6_in) := goodIn_app (goodIn_of _ (by decide +kernel)) ggX6_isHere_X6_in
theorem dX6_isHere_0 : decode cX6_isHere 0 = .ok (.aload_n 0, 1) := by decide +kernel
theorem dX6_isHere_1 : decode cX6_isHere 1 = .ok (.getfield 119, 3) := by decide +kernel
theorem dX6_isHere_4 : decode cX6_isHere 4 = .ok (.aload_n 0, 1) := by decide +kernel
theorem dX6_isHere_5 : decode cX6_isHere 5 = .ok (.getfield 116, 3) := by decide +kernel
theorem dX6_isHere_8 : decode cX6_isHere 8 = .ok (.if_icmp .ge 27, 3) := by decide +kernel
theorem dX6_isHere_11 : decode cX6_isHere 11 = .ok (.aload_n 0, 1) := by decide +kernel
theorem dX6_isHere_12 : decode cX6_isHere 12 = .ok (.getfield 35, 3) := by decide +kernel
theorem dX6_isHere_15 : decode cX6_isHere 15 = .ok (.aload_n 0, 1) := by decide +kernel
theorem dX6_isHere_16 : decode cX6_isHere 16 = .ok (.getfield 119, 3) := by decide +kernel
theorem dX6_isHere_19 : decode cX6_isHere 19 = .ok (.iaload, 1) := by decide +kernel
theorem dX6_isHere_20 : decode cX6_isHere 20 = .ok (.i2l, 1) := by decide +kernel
theorem dX6_isHere_21 : decode cX6_isHere 21 = .ok (.iload_n 1, 1) := by decide +kernel
theorem dX6_isHere_22 : decode cX6_isHere 22 = .ok (.i2l, 1) := by decide +kernel
theorem dX6_isHere_23 : decode cX6_isHere 23 = .ok (.iload_n 2, 1) := by decide +kernel
theorem dX6_isHere_24 : decode cX6_isHere 24 = .ok (.i2l, 1) := by decide +kernel
theorem dX6_isHere_25 : decode cX6_isHere 25 = .ok (.invokestatic 47, 3) := by decide +kernel
theorem dX6_isHere_28 : decode cX6_isHere 28 = .ok (.ifCond .eq 7, 3) := by decide +kernel
theorem dX6_isHere_31 : decode cX6_isHere 31 = .ok (.iconst 1, 1) := by decide +kernel
theorem dX6_isHere_32 : decode cX6_isHere 32 = .ok (.goto 4, 3) := by decide +kernel
theorem dX6_isHere_35 : decode cX6_isHere 35 = .ok (.iconst 0, 1) := by decide +kernel
theorem dX6_isHere_36 : decode cX6_isHere 36 = .ok (.ireturn, 1) := by decide +kernel
set_option maxRecDepth 20000 in
theorem ggX6_takesSign_X6_isHere : GoodIn wsX6_takesSign wsX6_isHere := goodIn_r _ [6, 1, 7, 8, 9, 10, 5, 11, 12, 13, 14, 15, 16, 17, 18, 19, 20, 21, 22, 23, 24, 25, 26, 27, 28, 29, 30, 31] (by decide +kernel) (by decide +kernel)
set_option maxRecDepth 20000 in
theorem gX6_takesSign_X6_isHere : GoodIn wsX6_takesSign (wsV RX6 122 RX6 yX6_isHere wsX6_isHere) := goodIn_app (goodIn_of _ (by decide +kernel)) ggX6_takesSign_X6_isHere
theorem dX6_takesSign_0 : decode cX6_takesSign 0 = .ok (.aload_n 0, 1) := by decide +kernel
theorem dX6_takesSign_1 : decode cX6_takesSign 1 = .ok (.iload_n 1, 1) := by decide +kernel
theorem dX6_takesSign_2 : decode cX6_takesSign 2 = .ok (.iload_n 1, 1) := by decide +kernel
theorem dX6_takesSign_3 : decode cX6_takesSign 3 = .ok (.invokevirtual 122, 3) := by decide +kernel
theorem dX6_takesSign_6 : decode cX6_takesSign 6 = .ok (.istore_n 2, 1) := by decide +kernel
theorem dX6_takesSign_7 : decode cX6_takesSign 7 = .ok (.aload_n 0, 1) := by decide +kernel
theorem dX6_takesSign_8 : decode cX6_takesSign 8 = .ok (.dup, 1) := by decide +kernel
theorem dX6_takesSign_9 : decode cX6_takesSign 9 = .ok (.getfield 119, 3) := by decide +kernel
theorem dX6_takesSign_12 : decode cX6_takesSign 12 = .ok (.iload_n 2, 1) := by decide +kernel
theorem dX6_takesSign_13 : decode cX6_takesSign 13 = .ok (.ifCond .eq 7, 3) := by decide +kernel
theorem dX6_takesSign_16 : decode cX6_takesSign 16 = .ok (.iconst 1, 1) := by decide +kernel
theorem dX6_takesSign_17 : decode cX6_takesSign 17 = .ok (.goto 4, 3) := by decide +kernel
theorem dX6_takesSign_20 : decode cX6_takesSign 20 = .ok (.iconst 0, 1) := by decide +kernel
theorem dX6_takesSign_21 : decode cX6_takesSign 21 = .ok (.iadd, 1) := by decide +kernel
theorem dX6_takesSign_22 : decode cX6_takesSign 22 = .ok (.putfield 119, 3) := by decide +kernel
theorem dX6_takesSign_25 : decode cX6_takesSign 25 = .ok (.iload_n 2, 1) := by decide +kernel
theorem dX6_takesSign_26 : decode cX6_takesSign 26 = .ok (.ireturn, 1) := by decide +kernel
set_option maxRecDepth 20000 in
theorem ggX6_reads_X6_isHere : GoodIn wsX6_reads wsX6_isHere := goodIn_r _ [9, 4, 10, 3, 11, 12, 8, 13, 14, 15, 16, 17, 18, 19, 20, 21, 22, 23, 24, 25, 26, 27, 28, 29, 30, 31, 32, 33] (by decide +kernel) (by decide +kernel)
set_option maxRecDepth 20000 in
theorem gX6_reads_X6_isHere : GoodIn wsX6_reads (wsV RX6 122 RX6 yX6_isHere wsX6_isHere) := goodIn_app (goodIn_of _ (by decide +kernel)) ggX6_reads_X6_isHere
theorem dX6_reads_0 : decode cX6_reads 0 = .ok (.aload_n 0, 1) := by decide +kernel
theorem dX6_reads_1 : decode cX6_reads 1 = .ok (.iload_n 1, 1) := by decide +kernel
theorem dX6_reads_2 : decode cX6_reads 2 = .ok (.iload_n 2, 1) := by decide +kernel
theorem dX6_reads_3 : decode cX6_reads 3 = .ok (.invokevirtual 122, 3) := by decide +kernel
theorem dX6_reads_6 : decode cX6_reads 6 = .ok (.ifCond .ne 5, 3) := by decide +kernel
theorem dX6_reads_9 : decode cX6_reads 9 = .ok (.iconst 0, 1) := by decide +kernel
theorem dX6_reads_10 : decode cX6_reads 10 = .ok (.ireturn, 1) := by decide +kernel
theorem dX6_reads_11 : decode cX6_reads 11 = .ok (.aload_n 0, 1) := by decide +kernel
theorem dX6_reads_12 : decode cX6_reads 12 = .ok (.getfield 38, 3) := by decide +kernel
theorem dX6_reads_15 : decode cX6_reads 15 = .ok (.iconst 4, 1) := by decide +kernel
theorem dX6_reads_16 : decode cX6_reads 16 = .ok (.aload_n 0, 1) := by decide +kernel
theorem dX6_reads_17 : decode cX6_reads 17 = .ok (.getfield 126, 3) := by decide +kernel
theorem dX6_reads_20 : decode cX6_reads 20 = .ok (.imul, 1) := by decide +kernel
theorem dX6_reads_21 : decode cX6_reads 21 = .ok (.iload_n 3, 1) := by decide +kernel
theorem dX6_reads_22 : decode cX6_reads 22 = .ok (.iadd, 1) := by decide +kernel
theorem dX6_reads_23 : decode cX6_reads 23 = .ok (.aload_n 0, 1) := by decide +kernel
theorem dX6_reads_24 : decode cX6_reads 24 = .ok (.getfield 35, 3) := by decide +kernel
theorem dX6_reads_27 : decode cX6_reads 27 = .ok (.aload_n 0, 1) := by decide +kernel
theorem dX6_reads_28 : decode cX6_reads 28 = .ok (.getfield 119, 3) := by decide +kernel
theorem dX6_reads_31 : decode cX6_reads 31 = .ok (.iaload, 1) := by decide +kernel
theorem dX6_reads_32 : decode cX6_reads 32 = .ok (.iload_n 1, 1) := by decide +kernel
theorem dX6_reads_33 : decode cX6_reads 33 = .ok (.isub, 1) := by decide +kernel
theorem dX6_reads_34 : decode cX6_reads 34 = .ok (.iastore, 1) := by decide +kernel
theorem dX6_reads_35 : decode cX6_reads 35 = .ok (.aload_n 0, 1) := by decide +kernel
theorem dX6_reads_36 : decode cX6_reads 36 = .ok (.dup, 1) := by decide +kernel
theorem dX6_reads_37 : decode cX6_reads 37 = .ok (.getfield 119, 3) := by decide +kernel
theorem dX6_reads_40 : decode cX6_reads 40 = .ok (.iconst 1, 1) := by decide +kernel
theorem dX6_reads_41 : decode cX6_reads 41 = .ok (.iadd, 1) := by decide +kernel
theorem dX6_reads_42 : decode cX6_reads 42 = .ok (.putfield 119, 3) := by decide +kernel
theorem dX6_reads_45 : decode cX6_reads 45 = .ok (.iconst 1, 1) := by decide +kernel
theorem dX6_reads_46 : decode cX6_reads 46 = .ok (.ireturn, 1) := by decide +kernel
set_option maxRecDepth 20000 in
theorem ggX6_readsRow_X6_reads : GoodIn wsX6_readsRow wsX6_reads := goodIn_r _ [9, 3, 4, 1, 2, 10, 11, 12, 8, 13, 14, 15, 16, 17, 22, 23, 24, 25, 26, 27, 28, 29, 30, 31, 32, 33, 34, 35, 36, 37, 38, 39, 40, 41] (by decide +kernel) (by decide +kernel)
set_option maxRecDepth 20000 in
theorem gX6_readsRow_X6_reads : GoodIn wsX6_readsRow (wsV RX6 129 RX6 yX6_reads wsX6_reads) := goodIn_app (goodIn_of _ (by decide +kernel)) ggX6_readsRow_X6_reads
set_option maxRecDepth 20000 in
theorem ggX6_readsRow_X6_takesSign : GoodIn wsX6_readsRow wsX6_takesSign := goodIn_r _ [21, 2, 10, 11, 12, 8, 13, 14, 1, 15, 16, 17, 22, 23, 24, 25, 26, 27, 28, 29, 30, 31, 32, 33, 34, 35, 36, 37, 38, 39, 40, 41] (by decide +kernel) (by decide +kernel)
set_option maxRecDepth 20000 in
theorem gX6_readsRow_X6_takesSign : GoodIn wsX6_readsRow (wsV RX6 133 RX6 yX6_takesSign wsX6_takesSign) := goodIn_app (goodIn_of _ (by decide +kernel)) ggX6_readsRow_X6_takesSign
set_option maxRecDepth 20000 in
theorem ggX6_readsRow_X6_isHere : GoodIn wsX6_readsRow wsX6_isHere := goodIn_r _ [13, 2, 14, 1, 15, 16, 8, 17, 22, 23, 24, 25, 26, 27, 28, 29, 30, 31, 32, 33, 34, 35, 36, 37, 38, 39, 40, 41] (by decide +kernel) (by decide +kernel)
set_option maxRecDepth 20000 in
theorem gX6_readsRow_X6_isHere : GoodIn wsX6_readsRow (wsV RX6 122 RX6 yX6_isHere wsX6_isHere) := goodIn_app (goodIn_of _ (by decide +kernel)) ggX6_readsRow_X6_isHere
theorem dX6_readsRow_0 : decode cX6_readsRow 0 = .ok (.aload_n 0, 1) := by decide +kernel
theorem dX6_readsRow_1 : decode cX6_readsRow 1 = .ok (.bipush 48, 2) := by decide +kernel
theorem dX6_readsRow_3 : decode cX6_readsRow 3 = .ok (.bipush 57, 2) := by decide +kernel
theorem dX6_readsRow_5 : decode cX6_readsRow 5 = .ok (.iconst 0, 1) := by decide +kernel
theorem dX6_readsRow_6 : decode cX6_readsRow 6 = .ok (.invokevirtual 129, 3) := by decide +kernel
theorem dX6_readsRow_9 : decode cX6_readsRow 9 = .ok (.ifCond .eq 24, 3) := by decide +kernel
theorem dX6_readsRow_12 : decode cX6_readsRow 12 = .ok (.aload_n 0, 1) := by decide +kernel
theorem dX6_readsRow_13 : decode cX6_readsRow 13 = .ok (.bipush 61, 2) := by decide +kernel
theorem dX6_readsRow_15 : decode cX6_readsRow 15 = .ok (.invokevirtual 133, 3) := by decide +kernel
theorem dX6_readsRow_18 : decode cX6_readsRow 18 = .ok (.ifCond .eq 15, 3) := by decide +kernel
theorem dX6_readsRow_21 : decode cX6_readsRow 21 = .ok (.aload_n 0, 1) := by decide +kernel
theorem dX6_readsRow_22 : decode cX6_readsRow 22 = .ok (.bipush 97, 2) := by decide +kernel
theorem dX6_readsRow_24 : decode cX6_readsRow 24 = .ok (.bipush 104, 2) := by decide +kernel
theorem dX6_readsRow_26 : decode cX6_readsRow 26 = .ok (.iconst 1, 1) := by decide +kernel
theorem dX6_readsRow_27 : decode cX6_readsRow 27 = .ok (.invokevirtual 129, 3) := by decide +kernel
theorem dX6_readsRow_30 : decode cX6_readsRow 30 = .ok (.ifCond .ne 5, 3) := by decide +kernel
theorem dX6_readsRow_33 : decode cX6_readsRow 33 = .ok (.iconst 0, 1) := by decide +kernel
theorem dX6_readsRow_34 : decode cX6_readsRow 34 = .ok (.ireturn, 1) := by decide +kernel
theorem dX6_readsRow_35 : decode cX6_readsRow 35 = .ok (.iconst 0, 1) := by decide +kernel
theorem dX6_readsRow_36 : decode cX6_readsRow 36 = .ok (.istore_n 1, 1) := by decide +kernel
theorem dX6_readsRow_37 : decode cX6_readsRow 37 = .ok (.aload_n 0, 1) := by decide +kernel
theorem dX6_readsRow_38 : decode cX6_readsRow 38 = .ok (.bipush 49, 2) := by decide +kernel
theorem dX6_readsRow_40 : decode cX6_readsRow 40 = .ok (.bipush 57, 2) := by decide +kernel
theorem dX6_readsRow_42 : decode cX6_readsRow 42 = .ok (.invokevirtual 122, 3) := by decide +kernel
theorem dX6_readsRow_45 : decode cX6_readsRow 45 = .ok (.ifCond .eq 65, 3) := by decide +kernel
theorem dX6_readsRow_48 : decode cX6_readsRow 48 = .ok (.aload_n 0, 1) := by decide +kernel
theorem dX6_readsRow_49 : decode cX6_readsRow 49 = .ok (.getfield 35, 3) := by decide +kernel
theorem dX6_readsRow_52 : decode cX6_readsRow 52 = .ok (.aload_n 0, 1) := by decide +kernel
theorem dX6_readsRow_53 : decode cX6_readsRow 53 = .ok (.getfield 119, 3) := by decide +kernel
theorem dX6_readsRow_56 : decode cX6_readsRow 56 = .ok (.iaload, 1) := by decide +kernel
theorem dX6_readsRow_57 : decode cX6_readsRow 57 = .ok (.bipush 48, 2) := by decide +kernel
theorem dX6_readsRow_59 : decode cX6_readsRow 59 = .ok (.isub, 1) := by decide +kernel
theorem dX6_readsRow_60 : decode cX6_readsRow 60 = .ok (.istore_n 1, 1) := by decide +kernel
theorem dX6_readsRow_61 : decode cX6_readsRow 61 = .ok (.aload_n 0, 1) := by decide +kernel
theorem dX6_readsRow_62 : decode cX6_readsRow 62 = .ok (.dup, 1) := by decide +kernel
theorem dX6_readsRow_63 : decode cX6_readsRow 63 = .ok (.getfield 119, 3) := by decide +kernel
theorem dX6_readsRow_66 : decode cX6_readsRow 66 = .ok (.iconst 1, 1) := by decide +kernel
theorem dX6_readsRow_67 : decode cX6_readsRow 67 = .ok (.iadd, 1) := by decide +kernel
theorem dX6_readsRow_68 : decode cX6_readsRow 68 = .ok (.putfield 119, 3) := by decide +kernel
theorem dX6_readsRow_71 : decode cX6_readsRow 71 = .ok (.aload_n 0, 1) := by decide +kernel
theorem dX6_readsRow_72 : decode cX6_readsRow 72 = .ok (.bipush 48, 2) := by decide +kernel
theorem dX6_readsRow_74 : decode cX6_readsRow 74 = .ok (.bipush 57, 2) := by decide +kernel
theorem dX6_readsRow_76 : decode cX6_readsRow 76 = .ok (.invokevirtual 122, 3) := by decide +kernel
theorem dX6_readsRow_79 : decode cX6_readsRow 79 = .ok (.ifCond .eq 31, 3) := by decide +kernel
theorem dX6_readsRow_82 : decode cX6_readsRow 82 = .ok (.bipush 10, 2) := by decide +kernel
theorem dX6_readsRow_84 : decode cX6_readsRow 84 = .ok (.iload_n 1, 1) := by decide +kernel
theorem dX6_readsRow_85 : decode cX6_readsRow 85 = .ok (.imul, 1) := by decide +kernel
theorem dX6_readsRow_86 : decode cX6_readsRow 86 = .ok (.aload_n 0, 1) := by decide +kernel
theorem dX6_readsRow_87 : decode cX6_readsRow 87 = .ok (.getfield 35, 3) := by decide +kernel
theorem dX6_readsRow_90 : decode cX6_readsRow 90 = .ok (.aload_n 0, 1) := by decide +kernel
theorem dX6_readsRow_91 : decode cX6_readsRow 91 = .ok (.getfield 119, 3) := by decide +kernel
theorem dX6_readsRow_94 : decode cX6_readsRow 94 = .ok (.iaload, 1) := by decide +kernel
theorem dX6_readsRow_95 : decode cX6_readsRow 95 = .ok (.iadd, 1) := by decide +kernel
theorem dX6_readsRow_96 : decode cX6_readsRow 96 = .ok (.bipush 48, 2) := by decide +kernel
theorem dX6_readsRow_98 : decode cX6_readsRow 98 = .ok (.isub, 1) := by decide +kernel
theorem dX6_readsRow_99 : decode cX6_readsRow 99 = .ok (.istore_n 1, 1) := by decide +kernel
theorem dX6_readsRow_100 : decode cX6_readsRow 100 = .ok (.aload_n 0, 1) := by decide +kernel
theorem dX6_readsRow_101 : decode cX6_readsRow 101 = .ok (.dup, 1) := by decide +kernel
theorem dX6_readsRow_102 : decode cX6_readsRow 102 = .ok (.getfield 119, 3) := by decide +kernel
theorem dX6_readsRow_105 : decode cX6_readsRow 105 = .ok (.iconst 1, 1) := by decide +kernel
theorem dX6_readsRow_106 : decode cX6_readsRow 106 = .ok (.iadd, 1) := by decide +kernel
theorem dX6_readsRow_107 : decode cX6_readsRow 107 = .ok (.putfield 119, 3) := by decide +kernel
theorem dX6_readsRow_110 : decode cX6_readsRow 110 = .ok (.aload_n 0, 1) := by decide +kernel
theorem dX6_readsRow_111 : decode cX6_readsRow 111 = .ok (.getfield 38, 3) := by decide +kernel
theorem dX6_readsRow_114 : decode cX6_readsRow 114 = .ok (.iconst 4, 1) := by decide +kernel
theorem dX6_readsRow_115 : decode cX6_readsRow 115 = .ok (.aload_n 0, 1) := by decide +kernel
theorem dX6_readsRow_116 : decode cX6_readsRow 116 = .ok (.getfield 126, 3) := by decide +kernel
theorem dX6_readsRow_119 : decode cX6_readsRow 119 = .ok (.imul, 1) := by decide +kernel
theorem dX6_readsRow_120 : decode cX6_readsRow 120 = .ok (.iconst 2, 1) := by decide +kernel
theorem dX6_readsRow_121 : decode cX6_readsRow 121 = .ok (.iadd, 1) := by decide +kernel
theorem dX6_readsRow_122 : decode cX6_readsRow 122 = .ok (.iload_n 1, 1) := by decide +kernel
theorem dX6_readsRow_123 : decode cX6_readsRow 123 = .ok (.iastore, 1) := by decide +kernel
theorem dX6_readsRow_124 : decode cX6_readsRow 124 = .ok (.aload_n 0, 1) := by decide +kernel
theorem dX6_readsRow_125 : decode cX6_readsRow 125 = .ok (.getfield 38, 3) := by decide +kernel
theorem dX6_readsRow_128 : decode cX6_readsRow 128 = .ok (.iconst 4, 1) := by decide +kernel
theorem dX6_readsRow_129 : decode cX6_readsRow 129 = .ok (.aload_n 0, 1) := by decide +kernel
theorem dX6_readsRow_130 : decode cX6_readsRow 130 = .ok (.getfield 126, 3) := by decide +kernel
theorem dX6_readsRow_133 : decode cX6_readsRow 133 = .ok (.imul, 1) := by decide +kernel
theorem dX6_readsRow_134 : decode cX6_readsRow 134 = .ok (.iconst 3, 1) := by decide +kernel
theorem dX6_readsRow_135 : decode cX6_readsRow 135 = .ok (.iadd, 1) := by decide +kernel
theorem dX6_readsRow_136 : decode cX6_readsRow 136 = .ok (.bipush (-5), 2) := by decide +kernel
theorem dX6_readsRow_138 : decode cX6_readsRow 138 = .ok (.iastore, 1) := by decide +kernel
theorem dX6_readsRow_139 : decode cX6_readsRow 139 = .ok (.aload_n 0, 1) := by decide +kernel
theorem dX6_readsRow_140 : decode cX6_readsRow 140 = .ok (.bipush 62, 2) := by decide +kernel
theorem dX6_readsRow_142 : decode cX6_readsRow 142 = .ok (.invokevirtual 133, 3) := by decide +kernel
theorem dX6_readsRow_145 : decode cX6_readsRow 145 = .ok (.ifCond .eq 17, 3) := by decide +kernel
theorem dX6_readsRow_148 : decode cX6_readsRow 148 = .ok (.aload_n 0, 1) := by decide +kernel
theorem dX6_readsRow_149 : decode cX6_readsRow 149 = .ok (.bipush 48, 2) := by decide +kernel
theorem dX6_readsRow_151 : decode cX6_readsRow 151 = .ok (.bipush 57, 2) := by decide +kernel
theorem dX6_readsRow_153 : decode cX6_readsRow 153 = .ok (.iconst 3, 1) := by decide +kernel
theorem dX6_readsRow_154 : decode cX6_readsRow 154 = .ok (.invokevirtual 129, 3) := by decide +kernel
theorem dX6_readsRow_157 : decode cX6_readsRow 157 = .ok (.ifCond .ne 5, 3) := by decide +kernel
theorem dX6_readsRow_160 : decode cX6_readsRow 160 = .ok (.iconst 0, 1) := by decide +kernel
theorem dX6_readsRow_161 : decode cX6_readsRow 161 = .ok (.ireturn, 1) := by decide +kernel
theorem dX6_readsRow_162 : decode cX6_readsRow 162 = .ok (.aload_n 0, 1) := by decide +kernel
theorem dX6_readsRow_163 : decode cX6_readsRow 163 = .ok (.dup, 1) := by decide +kernel
theorem dX6_readsRow_164 : decode cX6_readsRow 164 = .ok (.getfield 126, 3) := by decide +kernel
theorem dX6_readsRow_167 : decode cX6_readsRow 167 = .ok (.iconst 1, 1) := by decide +kernel
theorem dX6_readsRow_168 : decode cX6_readsRow 168 = .ok (.iadd, 1) := by decide +kernel
theorem dX6_readsRow_169 : decode cX6_readsRow 169 = .ok (.putfield 126, 3) := by decide +kernel
theorem dX6_readsRow_172 : decode cX6_readsRow 172 = .ok (.iconst 1, 1) := by decide +kernel
theorem dX6_readsRow_173 : decode cX6_readsRow 173 = .ok (.ireturn, 1) := by decide +kernel
set_option maxRecDepth 20000 in
theorem ggX6_fault_X6_readsRow : GoodIn wsX6_fault wsX6_readsRow := goodIn_r _ [8, 9, 1, 10, 2, 11, 12, 13, 7, 14, 15, 16, 17, 18, 3, 19, 20, 21, 22, 23, 24, 25, 26, 27, 28, 29, 30, 31, 32, 33, 34, 35, 36, 37, 38, 39, 40, 41, 42, 43, 44, 45] (by decide +kernel) (by decide +kernel)
set_option maxRecDepth 20000 in
theorem gX6_fault_X6_readsRow : GoodIn wsX6_fault (wsV RX6 136 RX6 yX6_readsRow wsX6_readsRow) := goodIn_app (goodIn_of _ (by decide +kernel)) ggX6_fault_X6_readsRow
set_option maxRecDepth 20000 in
theorem ggX6_fault_X6_takesSign : GoodIn wsX6_fault wsX6_takesSign := goodIn_r _ [25, 1, 15, 16, 17, 7, 18, 3, 9, 19, 20, 21, 26, 27, 28, 29, 30, 31, 32, 33, 34, 35, 36, 37, 38, 39, 40, 41, 42, 43, 44, 45] (by decide +kernel) (by decide +kernel)
set_option maxRecDepth 20000 in
theorem gX6_fault_X6_takesSign : GoodIn wsX6_fault (wsV RX6 133 RX6 yX6_takesSign wsX6_takesSign) := goodIn_app (goodIn_of _ (by decide +kernel)) ggX6_fault_X6_takesSign
theorem dX6_fault_0 : decode cX6_fault 0 = .ok (.aload_n 0, 1) := by decide +kernel
theorem dX6_fault_1 : decode cX6_fault 1 = .ok (.iconst 0, 1) := by decide +kernel
theorem dX6_fault_2 : decode cX6_fault 2 = .ok (.putfield 119, 3) := by decide +kernel
theorem dX6_fault_5 : decode cX6_fault 5 = .ok (.aload_n 0, 1) := by decide +kernel
theorem dX6_fault_6 : decode cX6_fault 6 = .ok (.iconst 0, 1) := by decide +kernel
theorem dX6_fault_7 : decode cX6_fault 7 = .ok (.putfield 126, 3) := by decide +kernel
theorem dX6_fault_10 : decode cX6_fault 10 = .ok (.iconst 1, 1) := by decide +kernel
theorem dX6_fault_11 : decode cX6_fault 11 = .ok (.istore_n 1, 1) := by decide +kernel
theorem dX6_fault_12 : decode cX6_fault 12 = .ok (.iload_n 1, 1) := by decide +kernel
theorem dX6_fault_13 : decode cX6_fault 13 = .ok (.ifCond .eq 25, 3) := by decide +kernel
theorem dX6_fault_16 : decode cX6_fault 16 = .ok (.aload_n 0, 1) := by decide +kernel
theorem dX6_fault_17 : decode cX6_fault 17 = .ok (.invokevirtual 136, 3) := by decide +kernel
theorem dX6_fault_20 : decode cX6_fault 20 = .ok (.ifCond .ne 8, 3) := by decide +kernel
theorem dX6_fault_23 : decode cX6_fault 23 = .ok (.aload_n 0, 1) := by decide +kernel
theorem dX6_fault_24 : decode cX6_fault 24 = .ok (.getfield 119, 3) := by decide +kernel
theorem dX6_fault_27 : decode cX6_fault 27 = .ok (.ireturn, 1) := by decide +kernel
theorem dX6_fault_28 : decode cX6_fault 28 = .ok (.aload_n 0, 1) := by decide +kernel
theorem dX6_fault_29 : decode cX6_fault 29 = .ok (.bipush 44, 2) := by decide +kernel
theorem dX6_fault_31 : decode cX6_fault 31 = .ok (.invokevirtual 133, 3) := by decide +kernel
theorem dX6_fault_34 : decode cX6_fault 34 = .ok (.istore_n 1, 1) := by decide +kernel
theorem dX6_fault_35 : decode cX6_fault 35 = .ok (.goto (-23), 3) := by decide +kernel
theorem dX6_fault_38 : decode cX6_fault 38 = .ok (.aload_n 0, 1) := by decide +kernel
theorem dX6_fault_39 : decode cX6_fault 39 = .ok (.getfield 119, 3) := by decide +kernel
theorem dX6_fault_42 : decode cX6_fault 42 = .ok (.aload_n 0, 1) := by decide +kernel
theorem dX6_fault_43 : decode cX6_fault 43 = .ok (.getfield 116, 3) := by decide +kernel
theorem dX6_fault_46 : decode cX6_fault 46 = .ok (.if_icmp .ne 8, 3) := by decide +kernel
theorem dX6_fault_49 : decode cX6_fault 49 = .ok (.bipush (-5), 2) := by decide +kernel
theorem dX6_fault_51 : decode cX6_fault 51 = .ok (.goto 7, 3) := by decide +kernel
theorem dX6_fault_54 : decode cX6_fault 54 = .ok (.aload_n 0, 1) := by decide +kernel
theorem dX6_fault_55 : decode cX6_fault 55 = .ok (.getfield 119, 3) := by decide +kernel
theorem dX6_fault_58 : decode cX6_fault 58 = .ok (.ireturn, 1) := by decide +kernel
set_option maxRecDepth 20000 in
theorem ggX6_readRows_X6_fault : GoodIn wsX6_readRows wsX6_fault := goodIn_r _ [8, 9, 2, 10, 11, 12, 13, 7, 14, 15, 3, 16, 17, 18, 19, 20, 21, 22, 23, 24, 25, 26, 27, 28, 29, 30, 46, 47, 48, 49, 50, 51, 52, 53, 54, 55, 56, 57, 58, 59, 60, 61, 62, 63, 64, 65] (by decide +kernel) (by decide +kernel)
set_option maxRecDepth 20000 in
theorem gX6_readRows_X6_fault : GoodIn wsX6_readRows (wsV RX6 140 RX6 yX6_fault wsX6_fault) := goodIn_app (goodIn_of _ (by decide +kernel)) ggX6_readRows_X6_fault
set_option maxRecDepth 20000 in
theorem ggX6_readRows_X6_remember : GoodIn wsX6_readRows wsX6_remember := goodIn_r _ [34, 35, 1, 46, 47, 48, 49, 50, 51, 52, 53, 54, 55, 56, 57, 58, 59, 60, 61, 62, 63, 64, 65] (by decide +kernel) (by decide +kernel)
set_option maxRecDepth 20000 in
theorem gX6_readRows_X6_remember : GoodIn wsX6_readRows (wsV RX6 81 RX6 yX6_remember wsX6_remember) := goodIn_app (goodIn_of _ (by decide +kernel)) ggX6_readRows_X6_remember
set_option maxRecDepth 20000 in
theorem ggX6_readRows_X6_puts : GoodIn wsX6_readRows wsX6_puts := goodIn_r _ [39, 1, 46, 47, 48, 49, 50, 51, 52, 53, 54, 55, 56, 57, 58, 59, 60, 61, 62, 63, 64, 65] (by decide +kernel) (by decide +kernel)
set_option maxRecDepth 20000 in
theorem gX6_readRows_X6_puts : GoodIn wsX6_readRows (wsV RX6 84 RX6 yX6_puts wsX6_puts) := goodIn_app (goodIn_of _ (by decide +kernel)) ggX6_readRows_X6_puts
set_option maxRecDepth 20000 in
theorem ggX6_readRows_X6_acted : GoodIn wsX6_readRows wsX6_acted := goodIn_r _ [43, 44, 45, 35, 46, 47, 48, 49, 50, 51, 52, 53, 54, 55, 56, 57, 58, 59, 60, 61, 62, 63, 64, 65] (by decide +kernel) (by decide +kernel)
set_option maxRecDepth 20000 in
theorem gX6_readRows_X6_acted : GoodIn wsX6_readRows (wsV RX6 88 RX6 yX6_acted wsX6_acted) := goodIn_app (goodIn_of _ (by decide +kernel)) ggX6_readRows_X6_acted
theorem dX6_readRows_0 : decode cX6_readRows 0 = .ok (.aload_n 0, 1) := by decide +kernel
theorem dX6_readRows_1 : decode cX6_readRows 1 = .ok (.invokevirtual 140, 3) := by decide +kernel
theorem dX6_readRows_4 : decode cX6_readRows 4 = .ok (.istore_n 1, 1) := by decide +kernel
theorem dX6_readRows_5 : decode cX6_readRows 5 = .ok (.iload_n 1, 1) := by decide +kernel
theorem dX6_readRows_6 : decode cX6_readRows 6 = .ok (.bipush (-5), 2) := by decide +kernel
theorem dX6_readRows_8 : decode cX6_readRows 8 = .ok (.if_icmp .eq 8, 3) := by decide +kernel
theorem dX6_readRows_11 : decode cX6_readRows 11 = .ok (.bipush (-100), 2) := by decide +kernel
theorem dX6_readRows_13 : decode cX6_readRows 13 = .ok (.iload_n 1, 1) := by decide +kernel
theorem dX6_readRows_14 : decode cX6_readRows 14 = .ok (.isub, 1) := by decide +kernel
theorem dX6_readRows_15 : decode cX6_readRows 15 = .ok (.ireturn, 1) := by decide +kernel
theorem dX6_readRows_16 : decode cX6_readRows 16 = .ok (.aload_n 0, 1) := by decide +kernel
theorem dX6_readRows_17 : decode cX6_readRows 17 = .ok (.getfield 7, 3) := by decide +kernel
theorem dX6_readRows_20 : decode cX6_readRows 20 = .ok (.iconst 0, 1) := by decide +kernel
theorem dX6_readRows_21 : decode cX6_readRows 21 = .ok (.iaload, 1) := by decide +kernel
theorem dX6_readRows_22 : decode cX6_readRows 22 = .ok (.aload_n 0, 1) := by decide +kernel
theorem dX6_readRows_23 : decode cX6_readRows 23 = .ok (.getfield 126, 3) := by decide +kernel
theorem dX6_readRows_26 : decode cX6_readRows 26 = .ok (.iadd, 1) := by decide +kernel
theorem dX6_readRows_27 : decode cX6_readRows 27 = .ok (.bipush 20, 2) := by decide +kernel
theorem dX6_readRows_29 : decode cX6_readRows 29 = .ok (.if_icmp .le 6, 3) := by decide +kernel
theorem dX6_readRows_32 : decode cX6_readRows 32 = .ok (.bipush (-3), 2) := by decide +kernel
theorem dX6_readRows_34 : decode cX6_readRows 34 = .ok (.ireturn, 1) := by decide +kernel
theorem dX6_readRows_35 : decode cX6_readRows 35 = .ok (.aload_n 0, 1) := by decide +kernel
theorem dX6_readRows_36 : decode cX6_readRows 36 = .ok (.invokevirtual 81, 3) := by decide +kernel
theorem dX6_readRows_39 : decode cX6_readRows 39 = .ok (.iconst 0, 1) := by decide +kernel
theorem dX6_readRows_40 : decode cX6_readRows 40 = .ok (.istore_n 2, 1) := by decide +kernel
theorem dX6_readRows_41 : decode cX6_readRows 41 = .ok (.iload_n 2, 1) := by decide +kernel
theorem dX6_readRows_42 : decode cX6_readRows 42 = .ok (.iconst 4, 1) := by decide +kernel
theorem dX6_readRows_43 : decode cX6_readRows 43 = .ok (.aload_n 0, 1) := by decide +kernel
theorem dX6_readRows_44 : decode cX6_readRows 44 = .ok (.getfield 126, 3) := by decide +kernel
theorem dX6_readRows_47 : decode cX6_readRows 47 = .ok (.imul, 1) := by decide +kernel
theorem dX6_readRows_48 : decode cX6_readRows 48 = .ok (.if_icmp .ge 43, 3) := by decide +kernel
theorem dX6_readRows_51 : decode cX6_readRows 51 = .ok (.aload_n 0, 1) := by decide +kernel
theorem dX6_readRows_52 : decode cX6_readRows 52 = .ok (.aload_n 0, 1) := by decide +kernel
theorem dX6_readRows_53 : decode cX6_readRows 53 = .ok (.getfield 38, 3) := by decide +kernel
theorem dX6_readRows_56 : decode cX6_readRows 56 = .ok (.iload_n 2, 1) := by decide +kernel
theorem dX6_readRows_57 : decode cX6_readRows 57 = .ok (.iaload, 1) := by decide +kernel
theorem dX6_readRows_58 : decode cX6_readRows 58 = .ok (.aload_n 0, 1) := by decide +kernel
theorem dX6_readRows_59 : decode cX6_readRows 59 = .ok (.getfield 38, 3) := by decide +kernel
theorem dX6_readRows_62 : decode cX6_readRows 62 = .ok (.iload_n 2, 1) := by decide +kernel
theorem dX6_readRows_63 : decode cX6_readRows 63 = .ok (.iconst 1, 1) := by decide +kernel
theorem dX6_readRows_64 : decode cX6_readRows 64 = .ok (.iadd, 1) := by decide +kernel
theorem dX6_readRows_65 : decode cX6_readRows 65 = .ok (.iaload, 1) := by decide +kernel
theorem dX6_readRows_66 : decode cX6_readRows 66 = .ok (.aload_n 0, 1) := by decide +kernel
theorem dX6_readRows_67 : decode cX6_readRows 67 = .ok (.getfield 38, 3) := by decide +kernel
theorem dX6_readRows_70 : decode cX6_readRows 70 = .ok (.iload_n 2, 1) := by decide +kernel
theorem dX6_readRows_71 : decode cX6_readRows 71 = .ok (.iconst 2, 1) := by decide +kernel
theorem dX6_readRows_72 : decode cX6_readRows 72 = .ok (.iadd, 1) := by decide +kernel
theorem dX6_readRows_73 : decode cX6_readRows 73 = .ok (.iaload, 1) := by decide +kernel
theorem dX6_readRows_74 : decode cX6_readRows 74 = .ok (.aload_n 0, 1) := by decide +kernel
theorem dX6_readRows_75 : decode cX6_readRows 75 = .ok (.getfield 38, 3) := by decide +kernel
theorem dX6_readRows_78 : decode cX6_readRows 78 = .ok (.iload_n 2, 1) := by decide +kernel
theorem dX6_readRows_79 : decode cX6_readRows 79 = .ok (.iconst 3, 1) := by decide +kernel
theorem dX6_readRows_80 : decode cX6_readRows 80 = .ok (.iadd, 1) := by decide +kernel
theorem dX6_readRows_81 : decode cX6_readRows 81 = .ok (.iaload, 1) := by decide +kernel
theorem dX6_readRows_82 : decode cX6_readRows 82 = .ok (.invokevirtual 84, 3) := by decide +kernel
theorem dX6_readRows_85 : decode cX6_readRows 85 = .ok (.iinc 2 4, 3) := by decide +kernel
theorem dX6_readRows_88 : decode cX6_readRows 88 = .ok (.goto (-47), 3) := by decide +kernel
theorem dX6_readRows_91 : decode cX6_readRows 91 = .ok (.aload_n 0, 1) := by decide +kernel
theorem dX6_readRows_92 : decode cX6_readRows 92 = .ok (.aload_n 0, 1) := by decide +kernel
theorem dX6_readRows_93 : decode cX6_readRows 93 = .ok (.getfield 7, 3) := by decide +kernel
theorem dX6_readRows_96 : decode cX6_readRows 96 = .ok (.iconst 0, 1) := by decide +kernel
theorem dX6_readRows_97 : decode cX6_readRows 97 = .ok (.iaload, 1) := by decide +kernel
theorem dX6_readRows_98 : decode cX6_readRows 98 = .ok (.invokevirtual 88, 3) := by decide +kernel
theorem dX6_readRows_101 : decode cX6_readRows 101 = .ok (.ireturn, 1) := by decide +kernel
theorem dX6_undo_0 : decode cX6_undo 0 = .ok (.aload_n 0, 1) := by decide +kernel
theorem dX6_undo_1 : decode cX6_undo 1 = .ok (.getfield 44, 3) := by decide +kernel
theorem dX6_undo_4 : decode cX6_undo 4 = .ok (.ifCond .ne 6, 3) := by decide +kernel
theorem dX6_undo_7 : decode cX6_undo 7 = .ok (.bipush (-5), 2) := by decide +kernel
theorem dX6_undo_9 : decode cX6_undo 9 = .ok (.ireturn, 1) := by decide +kernel
theorem dX6_undo_10 : decode cX6_undo 10 = .ok (.aload_n 0, 1) := by decide +kernel
theorem dX6_undo_11 : decode cX6_undo 11 = .ok (.dup, 1) := by decide +kernel
theorem dX6_undo_12 : decode cX6_undo 12 = .ok (.getfield 44, 3) := by decide +kernel
theorem dX6_undo_15 : decode cX6_undo 15 = .ok (.iconst 1, 1) := by decide +kernel
theorem dX6_undo_16 : decode cX6_undo 16 = .ok (.isub, 1) := by decide +kernel
theorem dX6_undo_17 : decode cX6_undo 17 = .ok (.putfield 44, 3) := by decide +kernel
theorem dX6_undo_20 : decode cX6_undo 20 = .ok (.iconst 0, 1) := by decide +kernel
theorem dX6_undo_21 : decode cX6_undo 21 = .ok (.istore_n 1, 1) := by decide +kernel
theorem dX6_undo_22 : decode cX6_undo 22 = .ok (.iload_n 1, 1) := by decide +kernel
theorem dX6_undo_23 : decode cX6_undo 23 = .ok (.bipush 82, 2) := by decide +kernel
theorem dX6_undo_25 : decode cX6_undo 25 = .ok (.if_icmp .ge 29, 3) := by decide +kernel
theorem dX6_undo_28 : decode cX6_undo 28 = .ok (.aload_n 0, 1) := by decide +kernel
theorem dX6_undo_29 : decode cX6_undo 29 = .ok (.getfield 7, 3) := by decide +kernel
theorem dX6_undo_32 : decode cX6_undo 32 = .ok (.iload_n 1, 1) := by decide +kernel
theorem dX6_undo_33 : decode cX6_undo 33 = .ok (.aload_n 0, 1) := by decide +kernel
theorem dX6_undo_34 : decode cX6_undo 34 = .ok (.getfield 16, 3) := by decide +kernel
theorem dX6_undo_37 : decode cX6_undo 37 = .ok (.bipush 82, 2) := by decide +kernel
theorem dX6_undo_39 : decode cX6_undo 39 = .ok (.aload_n 0, 1) := by decide +kernel
theorem dX6_undo_40 : decode cX6_undo 40 = .ok (.getfield 44, 3) := by decide +kernel
theorem dX6_undo_43 : decode cX6_undo 43 = .ok (.imul, 1) := by decide +kernel
theorem dX6_undo_44 : decode cX6_undo 44 = .ok (.iload_n 1, 1) := by decide +kernel
theorem dX6_undo_45 : decode cX6_undo 45 = .ok (.iadd, 1) := by decide +kernel
theorem dX6_undo_46 : decode cX6_undo 46 = .ok (.iaload, 1) := by decide +kernel
theorem dX6_undo_47 : decode cX6_undo 47 = .ok (.iastore, 1) := by decide +kernel
theorem dX6_undo_48 : decode cX6_undo 48 = .ok (.iinc 1 1, 3) := by decide +kernel
theorem dX6_undo_51 : decode cX6_undo 51 = .ok (.goto (-29), 3) := by decide +kernel
theorem dX6_undo_54 : decode cX6_undo 54 = .ok (.aload_n 0, 1) := by decide +kernel
theorem dX6_undo_55 : decode cX6_undo 55 = .ok (.getfield 44, 3) := by decide +kernel
theorem dX6_undo_58 : decode cX6_undo 58 = .ok (.ireturn, 1) := by decide +kernel
theorem dX6_keep_0 : decode cX6_keep 0 = .ok (.iconst 0, 1) := by decide +kernel
theorem dX6_keep_1 : decode cX6_keep 1 = .ok (.istore_n 1, 1) := by decide +kernel
theorem dX6_keep_2 : decode cX6_keep 2 = .ok (.iload_n 1, 1) := by decide +kernel
theorem dX6_keep_3 : decode cX6_keep 3 = .ok (.bipush 82, 2) := by decide +kernel
theorem dX6_keep_5 : decode cX6_keep 5 = .ok (.if_icmp .ge 21, 3) := by decide +kernel
theorem dX6_keep_8 : decode cX6_keep 8 = .ok (.aload_n 0, 1) := by decide +kernel
theorem dX6_keep_9 : decode cX6_keep 9 = .ok (.getfield 19, 3) := by decide +kernel
theorem dX6_keep_12 : decode cX6_keep 12 = .ok (.iload_n 1, 1) := by decide +kernel
theorem dX6_keep_13 : decode cX6_keep 13 = .ok (.aload_n 0, 1) := by decide +kernel
theorem dX6_keep_14 : decode cX6_keep 14 = .ok (.getfield 7, 3) := by decide +kernel
theorem dX6_keep_17 : decode cX6_keep 17 = .ok (.iload_n 1, 1) := by decide +kernel
theorem dX6_keep_18 : decode cX6_keep 18 = .ok (.iaload, 1) := by decide +kernel
theorem dX6_keep_19 : decode cX6_keep 19 = .ok (.iastore, 1) := by decide +kernel
theorem dX6_keep_20 : decode cX6_keep 20 = .ok (.iinc 1 1, 3) := by decide +kernel
theorem dX6_keep_23 : decode cX6_keep 23 = .ok (.goto (-21), 3) := by decide +kernel
theorem dX6_keep_26 : decode cX6_keep 26 = .ok (.aload_n 0, 1) := by decide +kernel
theorem dX6_keep_27 : decode cX6_keep 27 = .ok (.iconst 1, 1) := by decide +kernel
theorem dX6_keep_28 : decode cX6_keep 28 = .ok (.putfield 143, 3) := by decide +kernel
theorem dX6_keep_31 : decode cX6_keep 31 = .ok (.aload_n 0, 1) := by decide +kernel
theorem dX6_keep_32 : decode cX6_keep 32 = .ok (.getfield 7, 3) := by decide +kernel
theorem dX6_keep_35 : decode cX6_keep 35 = .ok (.iconst 0, 1) := by decide +kernel
theorem dX6_keep_36 : decode cX6_keep 36 = .ok (.iaload, 1) := by decide +kernel
theorem dX6_keep_37 : decode cX6_keep 37 = .ok (.ireturn, 1) := by decide +kernel
set_option maxRecDepth 20000 in
theorem ggX6_restore_X6_remember : GoodIn wsX6_restore wsX6_remember := goodIn_r _ [8, 9, 2, 16, 17, 18, 19, 20, 21, 22, 23, 24, 25, 26, 27, 28, 29, 30, 31, 32, 33, 34, 35] (by decide +kernel) (by decide +kernel)
set_option maxRecDepth 20000 in
theorem gX6_restore_X6_remember : GoodIn wsX6_restore (wsV RX6 81 RX6 yX6_remember wsX6_remember) := goodIn_app (goodIn_of _ (by decide +kernel)) ggX6_restore_X6_remember
set_option maxRecDepth 20000 in
theorem ggX6_restore_X6_acted : GoodIn wsX6_restore wsX6_acted := goodIn_r _ [13, 14, 15, 9, 16, 17, 18, 19, 20, 21, 22, 23, 24, 25, 26, 27, 28, 29, 30, 31, 32, 33, 34, 35] (by decide +kernel) (by decide +kernel)
set_option maxRecDepth 20000 in
theorem gX6_restore_X6_acted : GoodIn wsX6_restore (wsV RX6 88 RX6 yX6_acted wsX6_acted) := goodIn_app (goodIn_of _ (by decide +kernel)) ggX6_restore_X6_acted
theorem dX6_restore_0 : decode cX6_restore 0 = .ok (.aload_n 0, 1) := by decide +kernel
theorem dX6_restore_1 : decode cX6_restore 1 = .ok (.getfield 143, 3) := by decide +kernel
theorem dX6_restore_4 : decode cX6_restore 4 = .ok (.ifCond .ne 6, 3) := by decide +kernel
theorem dX6_restore_7 : decode cX6_restore 7 = .ok (.bipush (-5), 2) := by decide +kernel
theorem dX6_restore_9 : decode cX6_restore 9 = .ok (.ireturn, 1) := by decide +kernel
theorem dX6_restore_10 : decode cX6_restore 10 = .ok (.aload_n 0, 1) := by decide +kernel
theorem dX6_restore_11 : decode cX6_restore 11 = .ok (.invokevirtual 81, 3) := by decide +kernel
theorem dX6_restore_14 : decode cX6_restore 14 = .ok (.iconst 0, 1) := by decide +kernel
theorem dX6_restore_15 : decode cX6_restore 15 = .ok (.istore_n 1, 1) := by decide +kernel
theorem dX6_restore_16 : decode cX6_restore 16 = .ok (.iload_n 1, 1) := by decide +kernel
theorem dX6_restore_17 : decode cX6_restore 17 = .ok (.bipush 82, 2) := by decide +kernel
theorem dX6_restore_19 : decode cX6_restore 19 = .ok (.if_icmp .ge 21, 3) := by decide +kernel
theorem dX6_restore_22 : decode cX6_restore 22 = .ok (.aload_n 0, 1) := by decide +kernel
theorem dX6_restore_23 : decode cX6_restore 23 = .ok (.getfield 7, 3) := by decide +kernel
theorem dX6_restore_26 : decode cX6_restore 26 = .ok (.iload_n 1, 1) := by decide +kernel
theorem dX6_restore_27 : decode cX6_restore 27 = .ok (.aload_n 0, 1) := by decide +kernel
theorem dX6_restore_28 : decode cX6_restore 28 = .ok (.getfield 19, 3) := by decide +kernel
theorem dX6_restore_31 : decode cX6_restore 31 = .ok (.iload_n 1, 1) := by decide +kernel
theorem dX6_restore_32 : decode cX6_restore 32 = .ok (.iaload, 1) := by decide +kernel
theorem dX6_restore_33 : decode cX6_restore 33 = .ok (.iastore, 1) := by decide +kernel
theorem dX6_restore_34 : decode cX6_restore 34 = .ok (.iinc 1 1, 3) := by decide +kernel
theorem dX6_restore_37 : decode cX6_restore 37 = .ok (.goto (-21), 3) := by decide +kernel
theorem dX6_restore_40 : decode cX6_restore 40 = .ok (.aload_n 0, 1) := by decide +kernel
theorem dX6_restore_41 : decode cX6_restore 41 = .ok (.aload_n 0, 1) := by decide +kernel
theorem dX6_restore_42 : decode cX6_restore 42 = .ok (.getfield 7, 3) := by decide +kernel
theorem dX6_restore_45 : decode cX6_restore 45 = .ok (.iconst 0, 1) := by decide +kernel
theorem dX6_restore_46 : decode cX6_restore 46 = .ok (.iaload, 1) := by decide +kernel
theorem dX6_restore_47 : decode cX6_restore 47 = .ok (.invokevirtual 88, 3) := by decide +kernel
theorem dX6_restore_50 : decode cX6_restore 50 = .ok (.ireturn, 1) := by decide +kernel
set_option maxRecDepth 20000 in
theorem ggX6_isSure_X6_findsChoices : GoodIn wsX6_isSure wsX6_findsChoices := goodIn_r _ [6, 1, 7, 8, 9, 10, 11, 12, 5, 13, 14, 15, 16, 17, 18, 19, 20, 21, 22, 23, 24, 25, 26, 27, 28, 29, 30, 31, 32, 33, 34, 35, 36, 37, 38, 39, 40, 41] (by decide +kernel) (by decide +kernel)
set_option maxRecDepth 20000 in
theorem gX6_isSure_X6_findsChoices : GoodIn wsX6_isSure (wsV RX6 109 RX6 yX6_findsChoices wsX6_findsChoices) := goodIn_app (goodIn_of _ (by decide +kernel)) ggX6_isSure_X6_findsChoices
set_option maxRecDepth 20000 in
theorem ggX6_isSure_X6_canBeKept : GoodIn wsX6_isSure wsX6_canBeKept := goodIn_r _ [17, 7, 10, 11, 12, 5, 13, 18, 19, 20, 21, 22, 23, 24, 25, 26, 27, 28, 29, 30, 31, 32, 33, 34, 35, 36, 37, 38, 39, 40, 41] (by decide +kernel) (by decide +kernel)
set_option maxRecDepth 20000 in
theorem gX6_isSure_X6_canBeKept : GoodIn wsX6_isSure (wsV RX6 65 RX6 yX6_canBeKept wsX6_canBeKept) := goodIn_app (goodIn_of _ (by decide +kernel)) ggX6_isSure_X6_canBeKept
set_option maxRecDepth 20000 in
theorem ggX6_isSure_X6_of : GoodIn wsX6_isSure wsX6_of := goodIn_r _ [13, 7, 22, 23, 24, 25, 26, 27, 28, 29, 30, 31, 32, 33, 34, 35, 36, 37, 38, 39, 40, 41] (by decide +kernel) (by decide +kernel)
set_option maxRecDepth 20000 in
theorem gX6_isSure_X6_of : GoodIn wsX6_isSure (wsV RX6 53 RX6 yX6_of wsX6_of) := goodIn_app (goodIn_of _ (by decide +kernel)) ggX6_isSure_X6_of
theorem dX6_isSure_0 : decode cX6_isSure 0 = .ok (.aload_n 0, 1) := by decide +kernel
theorem dX6_isSure_1 : decode cX6_isSure 1 = .ok (.invokevirtual 109, 3) := by decide +kernel
theorem dX6_isSure_4 : decode cX6_isSure 4 = .ok (.aload_n 0, 1) := by decide +kernel
theorem dX6_isSure_5 : decode cX6_isSure 5 = .ok (.iload_n 1, 1) := by decide +kernel
theorem dX6_isSure_6 : decode cX6_isSure 6 = .ok (.invokevirtual 65, 3) := by decide +kernel
theorem dX6_isSure_9 : decode cX6_isSure 9 = .ok (.ifCond .eq 22, 3) := by decide +kernel
theorem dX6_isSure_12 : decode cX6_isSure 12 = .ok (.aload_n 0, 1) := by decide +kernel
theorem dX6_isSure_13 : decode cX6_isSure 13 = .ok (.getfield 25, 3) := by decide +kernel
theorem dX6_isSure_16 : decode cX6_isSure 16 = .ok (.aload_n 0, 1) := by decide +kernel
theorem dX6_isSure_17 : decode cX6_isSure 17 = .ok (.iload_n 1, 1) := by decide +kernel
theorem dX6_isSure_18 : decode cX6_isSure 18 = .ok (.iconst 0, 1) := by decide +kernel
theorem dX6_isSure_19 : decode cX6_isSure 19 = .ok (.invokevirtual 53, 3) := by decide +kernel
theorem dX6_isSure_22 : decode cX6_isSure 22 = .ok (.iaload, 1) := by decide +kernel
theorem dX6_isSure_23 : decode cX6_isSure 23 = .ok (.iconst 1, 1) := by decide +kernel
theorem dX6_isSure_24 : decode cX6_isSure 24 = .ok (.if_icmp .ne 7, 3) := by decide +kernel
theorem dX6_isSure_27 : decode cX6_isSure 27 = .ok (.iconst 1, 1) := by decide +kernel
theorem dX6_isSure_28 : decode cX6_isSure 28 = .ok (.goto 4, 3) := by decide +kernel
theorem dX6_isSure_31 : decode cX6_isSure 31 = .ok (.iconst 0, 1) := by decide +kernel
theorem dX6_isSure_32 : decode cX6_isSure 32 = .ok (.ireturn, 1) := by decide +kernel
set_option maxRecDepth 20000 in
theorem ggX6_row_X6_isRow : GoodIn wsX6_row wsX6_isRow := goodIn_r _ [5, 6, 7, 8, 4, 9, 33, 34, 35, 36, 37, 38, 39, 40, 41, 42, 43, 44, 45, 46, 47, 48, 49, 50, 51, 52] (by decide +kernel) (by decide +kernel)
set_option maxRecDepth 20000 in
theorem gX6_row_X6_isRow : GoodIn wsX6_row (wsV RX6 92 RX6 yX6_isRow wsX6_isRow) := goodIn_app (goodIn_of _ (by decide +kernel)) ggX6_row_X6_isRow
set_option maxRecDepth 20000 in
theorem ggX6_row_X6_of : GoodIn wsX6_row wsX6_of := goodIn_r _ [13, 6, 33, 34, 35, 36, 37, 38, 39, 40, 41, 42, 43, 44, 45, 46, 47, 48, 49, 50, 51, 52] (by decide +kernel) (by decide +kernel)
set_option maxRecDepth 20000 in
theorem gX6_row_X6_of : GoodIn wsX6_row (wsV RX6 53 RX6 yX6_of wsX6_of) := goodIn_app (goodIn_of _ (by decide +kernel)) ggX6_row_X6_of
set_option maxRecDepth 20000 in
theorem ggX6_row_X6_canBeKept : GoodIn wsX6_row wsX6_canBeKept := goodIn_r _ [17, 6, 10, 11, 12, 4, 13, 18, 19, 20, 21, 33, 34, 35, 36, 37, 38, 39, 40, 41, 42, 43, 44, 45, 46, 47, 48, 49, 50, 51, 52] (by decide +kernel) (by decide +kernel)
set_option maxRecDepth 20000 in
theorem gX6_row_X6_canBeKept : GoodIn wsX6_row (wsV RX6 65 RX6 yX6_canBeKept wsX6_canBeKept) := goodIn_app (goodIn_of _ (by decide +kernel)) ggX6_row_X6_canBeKept
set_option maxRecDepth 20000 in
theorem ggX6_row_X6_isSure : GoodIn wsX6_row wsX6_isSure := goodIn_r _ [25, 26, 27, 28, 29, 4, 30, 6, 31, 32, 10, 11, 12, 13, 14, 15, 16, 17, 18, 19, 20, 21, 33, 34, 35, 36, 37, 38, 39, 40, 41, 42, 43, 44, 45, 46, 47, 48, 49, 50, 51, 52] (by decide +kernel) (by decide +kernel)
set_option maxRecDepth 20000 in
theorem gX6_row_X6_isSure : GoodIn wsX6_row (wsV RX6 146 RX6 yX6_isSure wsX6_isSure) := goodIn_app (goodIn_of _ (by decide +kernel)) ggX6_row_X6_isSure
theorem dX6_row_0 : decode cX6_row 0 = .ok (.aload_n 0, 1) := by decide +kernel
theorem dX6_row_1 : decode cX6_row 1 = .ok (.iload_n 1, 1) := by decide +kernel
theorem dX6_row_2 : decode cX6_row 2 = .ok (.invokevirtual 92, 3) := by decide +kernel
theorem dX6_row_5 : decode cX6_row 5 = .ok (.ifCond .ne 5, 3) := by decide +kernel
theorem dX6_row_8 : decode cX6_row 8 = .ok (.iconst (-1), 1) := by decide +kernel
theorem dX6_row_9 : decode cX6_row 9 = .ok (.ireturn, 1) := by decide +kernel
theorem dX6_row_10 : decode cX6_row 10 = .ok (.iload_n 2, 1) := by decide +kernel
theorem dX6_row_11 : decode cX6_row 11 = .ok (.tableswitch 82 0 5 #[37, 44, 37, 37, 54, 68], 37) := by decide +kernel
theorem dX6_row_48 : decode cX6_row 48 = .ok (.aload_n 0, 1) := by decide +kernel
theorem dX6_row_49 : decode cX6_row 49 = .ok (.iload_n 1, 1) := by decide +kernel
theorem dX6_row_50 : decode cX6_row 50 = .ok (.iload_n 2, 1) := by decide +kernel
theorem dX6_row_51 : decode cX6_row 51 = .ok (.invokevirtual 53, 3) := by decide +kernel
theorem dX6_row_54 : decode cX6_row 54 = .ok (.ireturn, 1) := by decide +kernel
theorem dX6_row_55 : decode cX6_row 55 = .ok (.bipush 97, 2) := by decide +kernel
theorem dX6_row_57 : decode cX6_row 57 = .ok (.aload_n 0, 1) := by decide +kernel
theorem dX6_row_58 : decode cX6_row 58 = .ok (.iload_n 1, 1) := by decide +kernel
theorem dX6_row_59 : decode cX6_row 59 = .ok (.iconst 1, 1) := by decide +kernel
theorem dX6_row_60 : decode cX6_row 60 = .ok (.invokevirtual 53, 3) := by decide +kernel
theorem dX6_row_63 : decode cX6_row 63 = .ok (.iadd, 1) := by decide +kernel
theorem dX6_row_64 : decode cX6_row 64 = .ok (.ireturn, 1) := by decide +kernel
theorem dX6_row_65 : decode cX6_row 65 = .ok (.aload_n 0, 1) := by decide +kernel
theorem dX6_row_66 : decode cX6_row 66 = .ok (.iload_n 1, 1) := by decide +kernel
theorem dX6_row_67 : decode cX6_row 67 = .ok (.invokevirtual 65, 3) := by decide +kernel
theorem dX6_row_70 : decode cX6_row 70 = .ok (.ifCond .eq 7, 3) := by decide +kernel
theorem dX6_row_73 : decode cX6_row 73 = .ok (.iconst 1, 1) := by decide +kernel
theorem dX6_row_74 : decode cX6_row 74 = .ok (.goto 4, 3) := by decide +kernel
theorem dX6_row_77 : decode cX6_row 77 = .ok (.iconst 0, 1) := by decide +kernel
theorem dX6_row_78 : decode cX6_row 78 = .ok (.ireturn, 1) := by decide +kernel
theorem dX6_row_79 : decode cX6_row 79 = .ok (.aload_n 0, 1) := by decide +kernel
theorem dX6_row_80 : decode cX6_row 80 = .ok (.iload_n 1, 1) := by decide +kernel
theorem dX6_row_81 : decode cX6_row 81 = .ok (.invokevirtual 146, 3) := by decide +kernel
theorem dX6_row_84 : decode cX6_row 84 = .ok (.ifCond .eq 7, 3) := by decide +kernel
theorem dX6_row_87 : decode cX6_row 87 = .ok (.iconst 1, 1) := by decide +kernel
theorem dX6_row_88 : decode cX6_row 88 = .ok (.goto 4, 3) := by decide +kernel
theorem dX6_row_91 : decode cX6_row 91 = .ok (.iconst 0, 1) := by decide +kernel
theorem dX6_row_92 : decode cX6_row 92 = .ok (.ireturn, 1) := by decide +kernel
theorem dX6_row_93 : decode cX6_row 93 = .ok (.bipush (-2), 2) := by decide +kernel
theorem dX6_row_95 : decode cX6_row 95 = .ok (.ireturn, 1) := by decide +kernel
set_option maxRecDepth 20000 in
theorem ggX6_pointing_X6_of : GoodIn wsX6_pointing wsX6_of := goodIn_r _ [6, 1, 7, 8, 9, 10, 11, 12, 13, 14, 15, 16, 17, 18, 19, 20, 21, 22, 23, 24, 25, 26] (by decide +kernel) (by decide +kernel)
set_option maxRecDepth 20000 in
theorem gX6_pointing_X6_of : GoodIn wsX6_pointing (wsV RX6 53 RX6 yX6_of wsX6_of) := goodIn_app (goodIn_of _ (by decide +kernel)) ggX6_pointing_X6_of
theorem dX6_pointing_0 : decode cX6_pointing 0 = .ok (.iconst 0, 1) := by decide +kernel
theorem dX6_pointing_1 : decode cX6_pointing 1 = .ok (.istore_n 2, 1) := by decide +kernel
theorem dX6_pointing_2 : decode cX6_pointing 2 = .ok (.iconst 0, 1) := by decide +kernel
theorem dX6_pointing_3 : decode cX6_pointing 3 = .ok (.istore_n 3, 1) := by decide +kernel
theorem dX6_pointing_4 : decode cX6_pointing 4 = .ok (.iload_n 3, 1) := by decide +kernel
theorem dX6_pointing_5 : decode cX6_pointing 5 = .ok (.aload_n 0, 1) := by decide +kernel
theorem dX6_pointing_6 : decode cX6_pointing 6 = .ok (.getfield 7, 3) := by decide +kernel
theorem dX6_pointing_9 : decode cX6_pointing 9 = .ok (.iconst 0, 1) := by decide +kernel
theorem dX6_pointing_10 : decode cX6_pointing 10 = .ok (.iaload, 1) := by decide +kernel
theorem dX6_pointing_11 : decode cX6_pointing 11 = .ok (.if_icmp .ge 27, 3) := by decide +kernel
theorem dX6_pointing_14 : decode cX6_pointing 14 = .ok (.iload_n 2, 1) := by decide +kernel
theorem dX6_pointing_15 : decode cX6_pointing 15 = .ok (.aload_n 0, 1) := by decide +kernel
theorem dX6_pointing_16 : decode cX6_pointing 16 = .ok (.iload_n 3, 1) := by decide +kernel
theorem dX6_pointing_17 : decode cX6_pointing 17 = .ok (.iconst 3, 1) := by decide +kernel
theorem dX6_pointing_18 : decode cX6_pointing 18 = .ok (.invokevirtual 53, 3) := by decide +kernel
theorem dX6_pointing_21 : decode cX6_pointing 21 = .ok (.iload_n 1, 1) := by decide +kernel
theorem dX6_pointing_22 : decode cX6_pointing 22 = .ok (.if_icmp .ne 7, 3) := by decide +kernel
theorem dX6_pointing_25 : decode cX6_pointing 25 = .ok (.iconst 1, 1) := by decide +kernel
theorem dX6_pointing_26 : decode cX6_pointing 26 = .ok (.goto 4, 3) := by decide +kernel
theorem dX6_pointing_29 : decode cX6_pointing 29 = .ok (.iconst 0, 1) := by decide +kernel
theorem dX6_pointing_30 : decode cX6_pointing 30 = .ok (.iadd, 1) := by decide +kernel
theorem dX6_pointing_31 : decode cX6_pointing 31 = .ok (.istore_n 2, 1) := by decide +kernel
theorem dX6_pointing_32 : decode cX6_pointing 32 = .ok (.iinc 3 1, 3) := by decide +kernel
theorem dX6_pointing_35 : decode cX6_pointing 35 = .ok (.goto (-31), 3) := by decide +kernel
theorem dX6_pointing_38 : decode cX6_pointing 38 = .ok (.iload_n 2, 1) := by decide +kernel
theorem dX6_pointing_39 : decode cX6_pointing 39 = .ok (.ireturn, 1) := by decide +kernel
set_option maxRecDepth 20000 in
theorem ggX6_key_X6_isKey : GoodIn wsX6_key wsX6_isKey := goodIn_r _ [5, 6, 7, 8, 4, 9] (by decide +kernel) (by decide +kernel)
set_option maxRecDepth 20000 in
theorem gX6_key_X6_isKey : GoodIn wsX6_key (va_wsS RX6 73 yX6_isKey wsX6_isKey) := goodIn_app (goodIn_of _ (by decide +kernel)) ggX6_key_X6_isKey
set_option maxRecDepth 20000 in
theorem ggX6_key_X6_findsChoices : GoodIn wsX6_key wsX6_findsChoices := goodIn_r _ [13, 1, 14, 15, 16, 17, 18, 19, 4, 20, 21, 22, 23, 24, 25, 26, 27, 28, 37, 38, 39, 40, 41, 42, 43, 44, 45, 46, 47, 48, 49, 50, 51, 52, 53, 54, 55, 56] (by decide +kernel) (by decide +kernel)
set_option maxRecDepth 20000 in
theorem gX6_key_X6_findsChoices : GoodIn wsX6_key (wsV RX6 109 RX6 yX6_findsChoices wsX6_findsChoices) := goodIn_app (goodIn_of _ (by decide +kernel)) ggX6_key_X6_findsChoices
set_option maxRecDepth 20000 in
theorem ggX6_key_X6_rowsOf : GoodIn wsX6_key wsX6_rowsOf := goodIn_r _ [32, 14, 17, 18, 19, 4, 20, 37, 38, 39, 40, 41, 42, 43, 44, 45, 46, 47, 48, 49, 50, 51, 52, 53, 54, 55, 56] (by decide +kernel) (by decide +kernel)
set_option maxRecDepth 20000 in
theorem gX6_key_X6_rowsOf : GoodIn wsX6_key (wsV RX6 100 RX6 yX6_rowsOf wsX6_rowsOf) := goodIn_app (goodIn_of _ (by decide +kernel)) ggX6_key_X6_rowsOf
set_option maxRecDepth 20000 in
theorem ggX6_key_X6_outermost : GoodIn wsX6_key wsX6_outermost := goodIn_r _ [28, 14, 17, 18, 19, 4, 20, 37, 38, 39, 40, 41, 42, 43, 44, 45, 46, 47, 48, 49, 50, 51, 52, 53, 54, 55, 56] (by decide +kernel) (by decide +kernel)
set_option maxRecDepth 20000 in
theorem gX6_key_X6_outermost : GoodIn wsX6_key (wsV RX6 57 RX6 yX6_outermost wsX6_outermost) := goodIn_app (goodIn_of _ (by decide +kernel)) ggX6_key_X6_outermost
set_option maxRecDepth 20000 in
theorem ggX6_key_X6_pointing : GoodIn wsX6_key wsX6_pointing := goodIn_r _ [36, 14, 17, 18, 19, 4, 20, 37, 38, 39, 40, 41, 42, 43, 44, 45, 46, 47, 48, 49, 50, 51, 52, 53, 54, 55, 56] (by decide +kernel) (by decide +kernel)
set_option maxRecDepth 20000 in
theorem gX6_key_X6_pointing : GoodIn wsX6_key (wsV RX6 149 RX6 yX6_pointing wsX6_pointing) := goodIn_app (goodIn_of _ (by decide +kernel)) ggX6_key_X6_pointing
theorem dX6_key_0 : decode cX6_key 0 = .ok (.iload_n 1, 1) := by decide +kernel
theorem dX6_key_1 : decode cX6_key 1 = .ok (.invokestatic 73, 3) := by decide +kernel
theorem dX6_key_4 : decode cX6_key 4 = .ok (.ifCond .ne 5, 3) := by decide +kernel
theorem dX6_key_7 : decode cX6_key 7 = .ok (.iconst (-1), 1) := by decide +kernel
theorem dX6_key_8 : decode cX6_key 8 = .ok (.ireturn, 1) := by decide +kernel
theorem dX6_key_9 : decode cX6_key 9 = .ok (.aload_n 0, 1) := by decide +kernel
theorem dX6_key_10 : decode cX6_key 10 = .ok (.invokevirtual 109, 3) := by decide +kernel
theorem dX6_key_13 : decode cX6_key 13 = .ok (.iload_n 2, 1) := by decide +kernel
theorem dX6_key_14 : decode cX6_key 14 = .ok (.tableswitch 67 0 4 #[34, 40, 47, 54, 61], 34) := by decide +kernel
theorem dX6_key_48 : decode cX6_key 48 = .ok (.aload_n 0, 1) := by decide +kernel
theorem dX6_key_49 : decode cX6_key 49 = .ok (.iload_n 1, 1) := by decide +kernel
theorem dX6_key_50 : decode cX6_key 50 = .ok (.invokevirtual 100, 3) := by decide +kernel
theorem dX6_key_53 : decode cX6_key 53 = .ok (.ireturn, 1) := by decide +kernel
theorem dX6_key_54 : decode cX6_key 54 = .ok (.aload_n 0, 1) := by decide +kernel
theorem dX6_key_55 : decode cX6_key 55 = .ok (.getfield 25, 3) := by decide +kernel
theorem dX6_key_58 : decode cX6_key 58 = .ok (.iload_n 1, 1) := by decide +kernel
theorem dX6_key_59 : decode cX6_key 59 = .ok (.iaload, 1) := by decide +kernel
theorem dX6_key_60 : decode cX6_key 60 = .ok (.ireturn, 1) := by decide +kernel
theorem dX6_key_61 : decode cX6_key 61 = .ok (.aload_n 0, 1) := by decide +kernel
theorem dX6_key_62 : decode cX6_key 62 = .ok (.iload_n 1, 1) := by decide +kernel
theorem dX6_key_63 : decode cX6_key 63 = .ok (.iconst 0, 1) := by decide +kernel
theorem dX6_key_64 : decode cX6_key 64 = .ok (.invokevirtual 57, 3) := by decide +kernel
theorem dX6_key_67 : decode cX6_key 67 = .ok (.ireturn, 1) := by decide +kernel
theorem dX6_key_68 : decode cX6_key 68 = .ok (.aload_n 0, 1) := by decide +kernel
theorem dX6_key_69 : decode cX6_key 69 = .ok (.iload_n 1, 1) := by decide +kernel
theorem dX6_key_70 : decode cX6_key 70 = .ok (.iconst 1, 1) := by decide +kernel
theorem dX6_key_71 : decode cX6_key 71 = .ok (.invokevirtual 57, 3) := by decide +kernel
theorem dX6_key_74 : decode cX6_key 74 = .ok (.ireturn, 1) := by decide +kernel
theorem dX6_key_75 : decode cX6_key 75 = .ok (.aload_n 0, 1) := by decide +kernel
theorem dX6_key_76 : decode cX6_key 76 = .ok (.iload_n 1, 1) := by decide +kernel
theorem dX6_key_77 : decode cX6_key 77 = .ok (.invokevirtual 149, 3) := by decide +kernel
theorem dX6_key_80 : decode cX6_key 80 = .ok (.ireturn, 1) := by decide +kernel
theorem dX6_key_81 : decode cX6_key 81 = .ok (.bipush (-2), 2) := by decide +kernel
theorem dX6_key_83 : decode cX6_key 83 = .ok (.ireturn, 1) := by decide +kernel
set_option maxRecDepth 20000 in
theorem ggX6_begins_X6_findsChoices : GoodIn wsX6_begins wsX6_findsChoices := goodIn_r _ [9, 10, 11, 12, 13, 14, 15, 16, 8, 17, 18, 19, 20, 21, 22, 23, 24, 25, 26, 27, 28, 29, 30, 31, 32, 33, 34, 35, 36, 37, 38, 39, 40, 41, 42, 43, 44, 45] (by decide +kernel) (by decide +kernel)
set_option maxRecDepth 20000 in
theorem gX6_begins_X6_findsChoices : GoodIn wsX6_begins (wsV RX6 109 RX6 yX6_findsChoices wsX6_findsChoices) := goodIn_app (goodIn_of _ (by decide +kernel)) ggX6_begins_X6_findsChoices
theorem dX6_begins_0 : decode cX6_begins 0 = .ok (.aload_n 0, 1) := by decide +kernel
theorem dX6_begins_1 : decode cX6_begins 1 = .ok (.invokevirtual 109, 3) := by decide +kernel
theorem dX6_begins_4 : decode cX6_begins 4 = .ok (.aload_n 0, 1) := by decide +kernel
theorem dX6_begins_5 : decode cX6_begins 5 = .ok (.iconst 0, 1) := by decide +kernel
theorem dX6_begins_6 : decode cX6_begins 6 = .ok (.putfield 152, 3) := by decide +kernel
theorem dX6_begins_9 : decode cX6_begins 9 = .ok (.aload_n 0, 1) := by decide +kernel
theorem dX6_begins_10 : decode cX6_begins 10 = .ok (.bipush (-5), 2) := by decide +kernel
theorem dX6_begins_12 : decode cX6_begins 12 = .ok (.putfield 155, 3) := by decide +kernel
theorem dX6_begins_15 : decode cX6_begins 15 = .ok (.aload_n 0, 1) := by decide +kernel
theorem dX6_begins_16 : decode cX6_begins 16 = .ok (.bipush (-5), 2) := by decide +kernel
theorem dX6_begins_18 : decode cX6_begins 18 = .ok (.putfield 158, 3) := by decide +kernel
theorem dX6_begins_21 : decode cX6_begins 21 = .ok (.aload_n 0, 1) := by decide +kernel
theorem dX6_begins_22 : decode cX6_begins 22 = .ok (.bipush (-5), 2) := by decide +kernel
theorem dX6_begins_24 : decode cX6_begins 24 = .ok (.putfield 161, 3) := by decide +kernel
theorem dX6_begins_27 : decode cX6_begins 27 = .ok (.return_, 1) := by decide +kernel
theorem dX6_counts_0 : decode cX6_counts 0 = .ok (.aload_n 0, 1) := by decide +kernel
theorem dX6_counts_1 : decode cX6_counts 1 = .ok (.dup, 1) := by decide +kernel
theorem dX6_counts_2 : decode cX6_counts 2 = .ok (.getfield 152, 3) := by decide +kernel
theorem dX6_counts_5 : decode cX6_counts 5 = .ok (.iload_n 2, 1) := by decide +kernel
theorem dX6_counts_6 : decode cX6_counts 6 = .ok (.ifCond .eq 7, 3) := by decide +kernel
theorem dX6_counts_9 : decode cX6_counts 9 = .ok (.iconst 1, 1) := by decide +kernel
theorem dX6_counts_10 : decode cX6_counts 10 = .ok (.goto 4, 3) := by decide +kernel
theorem dX6_counts_13 : decode cX6_counts 13 = .ok (.iconst 0, 1) := by decide +kernel
theorem dX6_counts_14 : decode cX6_counts 14 = .ok (.iadd, 1) := by decide +kernel
theorem dX6_counts_15 : decode cX6_counts 15 = .ok (.putfield 152, 3) := by decide +kernel
theorem dX6_counts_18 : decode cX6_counts 18 = .ok (.aload_n 0, 1) := by decide +kernel
theorem dX6_counts_19 : decode cX6_counts 19 = .ok (.iload_n 2, 1) := by decide +kernel
theorem dX6_counts_20 : decode cX6_counts 20 = .ok (.ifCond .ne 12, 3) := by decide +kernel
theorem dX6_counts_23 : decode cX6_counts 23 = .ok (.aload_n 0, 1) := by decide +kernel
theorem dX6_counts_24 : decode cX6_counts 24 = .ok (.getfield 161, 3) := by decide +kernel
theorem dX6_counts_27 : decode cX6_counts 27 = .ok (.bipush (-5), 2) := by decide +kernel
theorem dX6_counts_29 : decode cX6_counts 29 = .ok (.if_icmp .eq 10, 3) := by decide +kernel
theorem dX6_counts_32 : decode cX6_counts 32 = .ok (.aload_n 0, 1) := by decide +kernel
theorem dX6_counts_33 : decode cX6_counts 33 = .ok (.getfield 161, 3) := by decide +kernel
theorem dX6_counts_36 : decode cX6_counts 36 = .ok (.goto 4, 3) := by decide +kernel
theorem dX6_counts_39 : decode cX6_counts 39 = .ok (.iload_n 1, 1) := by decide +kernel
theorem dX6_counts_40 : decode cX6_counts 40 = .ok (.putfield 161, 3) := by decide +kernel
theorem dX6_counts_43 : decode cX6_counts 43 = .ok (.aload_n 0, 1) := by decide +kernel
theorem dX6_counts_44 : decode cX6_counts 44 = .ok (.iload_n 2, 1) := by decide +kernel
theorem dX6_counts_45 : decode cX6_counts 45 = .ok (.ifCond .eq 24, 3) := by decide +kernel
theorem dX6_counts_48 : decode cX6_counts 48 = .ok (.aload_n 0, 1) := by decide +kernel
theorem dX6_counts_49 : decode cX6_counts 49 = .ok (.getfield 155, 3) := by decide +kernel
theorem dX6_counts_52 : decode cX6_counts 52 = .ok (.bipush (-5), 2) := by decide +kernel
theorem dX6_counts_54 : decode cX6_counts 54 = .ok (.if_icmp .eq 11, 3) := by decide +kernel
theorem dX6_counts_57 : decode cX6_counts 57 = .ok (.iload_n 3, 1) := by decide +kernel
theorem dX6_counts_58 : decode cX6_counts 58 = .ok (.aload_n 0, 1) := by decide +kernel
theorem dX6_counts_59 : decode cX6_counts 59 = .ok (.getfield 155, 3) := by decide +kernel
theorem dX6_counts_62 : decode cX6_counts 62 = .ok (.if_icmp .ge 7, 3) := by decide +kernel
theorem dX6_counts_65 : decode cX6_counts 65 = .ok (.iload_n 3, 1) := by decide +kernel
theorem dX6_counts_66 : decode cX6_counts 66 = .ok (.goto 7, 3) := by decide +kernel
theorem dX6_counts_69 : decode cX6_counts 69 = .ok (.aload_n 0, 1) := by decide +kernel
theorem dX6_counts_70 : decode cX6_counts 70 = .ok (.getfield 155, 3) := by decide +kernel
theorem dX6_counts_73 : decode cX6_counts 73 = .ok (.putfield 155, 3) := by decide +kernel
theorem dX6_counts_76 : decode cX6_counts 76 = .ok (.aload_n 0, 1) := by decide +kernel
theorem dX6_counts_77 : decode cX6_counts 77 = .ok (.iload_n 3, 1) := by decide +kernel
theorem dX6_counts_78 : decode cX6_counts 78 = .ok (.aload_n 0, 1) := by decide +kernel
theorem dX6_counts_79 : decode cX6_counts 79 = .ok (.getfield 158, 3) := by decide +kernel
theorem dX6_counts_82 : decode cX6_counts 82 = .ok (.if_icmp .le 7, 3) := by decide +kernel
theorem dX6_counts_85 : decode cX6_counts 85 = .ok (.iload_n 3, 1) := by decide +kernel
theorem dX6_counts_86 : decode cX6_counts 86 = .ok (.goto 7, 3) := by decide +kernel
theorem dX6_counts_89 : decode cX6_counts 89 = .ok (.aload_n 0, 1) := by decide +kernel
theorem dX6_counts_90 : decode cX6_counts 90 = .ok (.getfield 158, 3) := by decide +kernel
theorem dX6_counts_93 : decode cX6_counts 93 = .ok (.putfield 158, 3) := by decide +kernel
theorem dX6_counts_96 : decode cX6_counts 96 = .ok (.return_, 1) := by decide +kernel
set_option maxRecDepth 20000 in
theorem ggX6_asksValue_X6_begins : GoodIn wsX6_asksValue wsX6_begins := goodIn_r _ [6, 7, 1, 8, 9, 10, 11, 12, 5, 13, 14, 15, 16, 17, 18, 19, 20, 21, 22, 23, 24, 25, 26, 27, 28, 29, 47, 48, 49, 50, 51, 52, 53, 54, 55, 56, 57, 58, 59, 60, 61, 62, 63, 64, 65, 66] (by decide +kernel) (by decide +kernel)
set_option maxRecDepth 20000 in
theorem gX6_asksValue_X6_begins : GoodIn wsX6_asksValue (wsV RX6 164 RX6 yX6_begins wsX6_begins) := goodIn_app (goodIn_of _ (by decide +kernel)) ggX6_asksValue_X6_begins
set_option maxRecDepth 20000 in
theorem ggX6_asksValue_X6_mendings : GoodIn wsX6_asksValue wsX6_mendings := goodIn_r _ [33, 14, 47, 48, 49, 50, 51, 52, 53, 54, 55, 56, 57, 58, 59, 60, 61, 62, 63, 64, 65, 66] (by decide +kernel) (by decide +kernel)
set_option maxRecDepth 20000 in
theorem gX6_asksValue_X6_mendings : GoodIn wsX6_asksValue (wsV RX6 112 RX6 yX6_mendings wsX6_mendings) := goodIn_app (goodIn_of _ (by decide +kernel)) ggX6_asksValue_X6_mendings
set_option maxRecDepth 20000 in
theorem ggX6_asksValue_X6_takes : GoodIn wsX6_asksValue wsX6_takes := goodIn_r _ [37, 14, 38, 17, 47, 48, 49, 50, 51, 52, 53, 54, 55, 56, 57, 58, 59, 60, 61, 62, 63, 64, 65, 66] (by decide +kernel) (by decide +kernel)
set_option maxRecDepth 20000 in
theorem gX6_asksValue_X6_takes : GoodIn wsX6_asksValue (wsV RX6 167 RX6 yX6_takes wsX6_takes) := goodIn_app (goodIn_of _ (by decide +kernel)) ggX6_asksValue_X6_takes
set_option maxRecDepth 20000 in
theorem ggX6_asksValue_X6_kept : GoodIn wsX6_asksValue wsX6_kept := goodIn_r _ [42, 38, 18, 19, 20, 5, 21, 15, 47, 48, 49, 50, 51, 52, 53, 54, 55, 56, 57, 58, 59, 60, 61, 62, 63, 64, 65, 66] (by decide +kernel) (by decide +kernel)
set_option maxRecDepth 20000 in
theorem gX6_asksValue_X6_kept : GoodIn wsX6_asksValue (wsV RX6 170 RX6 yX6_kept wsX6_kept) := goodIn_app (goodIn_of _ (by decide +kernel)) ggX6_asksValue_X6_kept
set_option maxRecDepth 20000 in
theorem ggX6_asksValue_X6_counts : GoodIn wsX6_asksValue wsX6_counts := goodIn_r _ [46, 7, 9, 1, 8, 47, 48, 49, 50, 51, 52, 53, 54, 55, 56, 57, 58, 59, 60, 61, 62, 63, 64, 65, 66] (by decide +kernel) (by decide +kernel)
set_option maxRecDepth 20000 in
theorem gX6_asksValue_X6_counts : GoodIn wsX6_asksValue (wsV RX6 172 RX6 yX6_counts wsX6_counts) := goodIn_app (goodIn_of _ (by decide +kernel)) ggX6_asksValue_X6_counts
theorem dX6_asksValue_0 : decode cX6_asksValue 0 = .ok (.aload_n 0, 1) := by decide +kernel
theorem dX6_asksValue_1 : decode cX6_asksValue 1 = .ok (.invokevirtual 164, 3) := by decide +kernel
theorem dX6_asksValue_4 : decode cX6_asksValue 4 = .ok (.bipush 10, 2) := by decide +kernel
theorem dX6_asksValue_6 : decode cX6_asksValue 6 = .ok (.istore_n 2, 1) := by decide +kernel
theorem dX6_asksValue_7 : decode cX6_asksValue 7 = .ok (.iconst 0, 1) := by decide +kernel
theorem dX6_asksValue_8 : decode cX6_asksValue 8 = .ok (.istore_n 3, 1) := by decide +kernel
theorem dX6_asksValue_9 : decode cX6_asksValue 9 = .ok (.iload_n 3, 1) := by decide +kernel
theorem dX6_asksValue_10 : decode cX6_asksValue 10 = .ok (.aload_n 0, 1) := by decide +kernel
theorem dX6_asksValue_11 : decode cX6_asksValue 11 = .ok (.invokevirtual 112, 3) := by decide +kernel
theorem dX6_asksValue_14 : decode cX6_asksValue 14 = .ok (.if_icmp .ge 51, 3) := by decide +kernel
theorem dX6_asksValue_17 : decode cX6_asksValue 17 = .ok (.aload_n 0, 1) := by decide +kernel
theorem dX6_asksValue_18 : decode cX6_asksValue 18 = .ok (.iload_n 3, 1) := by decide +kernel
theorem dX6_asksValue_19 : decode cX6_asksValue 19 = .ok (.invokevirtual 167, 3) := by decide +kernel
theorem dX6_asksValue_22 : decode cX6_asksValue 22 = .ok (.aload_n 0, 1) := by decide +kernel
theorem dX6_asksValue_23 : decode cX6_asksValue 23 = .ok (.iload_n 1, 1) := by decide +kernel
theorem dX6_asksValue_24 : decode cX6_asksValue 24 = .ok (.invokevirtual 170, 3) := by decide +kernel
theorem dX6_asksValue_27 : decode cX6_asksValue 27 = .ok (.istore 4, 2) := by decide +kernel
theorem dX6_asksValue_29 : decode cX6_asksValue 29 = .ok (.aload_n 0, 1) := by decide +kernel
theorem dX6_asksValue_30 : decode cX6_asksValue 30 = .ok (.iload_n 3, 1) := by decide +kernel
theorem dX6_asksValue_31 : decode cX6_asksValue 31 = .ok (.iload 4, 2) := by decide +kernel
theorem dX6_asksValue_33 : decode cX6_asksValue 33 = .ok (.ifCond .le 7, 3) := by decide +kernel
theorem dX6_asksValue_36 : decode cX6_asksValue 36 = .ok (.iconst 1, 1) := by decide +kernel
theorem dX6_asksValue_37 : decode cX6_asksValue 37 = .ok (.goto 4, 3) := by decide +kernel
theorem dX6_asksValue_40 : decode cX6_asksValue 40 = .ok (.iconst 0, 1) := by decide +kernel
theorem dX6_asksValue_41 : decode cX6_asksValue 41 = .ok (.iload 4, 2) := by decide +kernel
theorem dX6_asksValue_43 : decode cX6_asksValue 43 = .ok (.invokevirtual 172, 3) := by decide +kernel
theorem dX6_asksValue_46 : decode cX6_asksValue 46 = .ok (.iload 4, 2) := by decide +kernel
theorem dX6_asksValue_48 : decode cX6_asksValue 48 = .ok (.iload_n 2, 1) := by decide +kernel
theorem dX6_asksValue_49 : decode cX6_asksValue 49 = .ok (.if_icmp .ge 8, 3) := by decide +kernel
theorem dX6_asksValue_52 : decode cX6_asksValue 52 = .ok (.iload 4, 2) := by decide +kernel
theorem dX6_asksValue_54 : decode cX6_asksValue 54 = .ok (.goto 4, 3) := by decide +kernel
theorem dX6_asksValue_57 : decode cX6_asksValue 57 = .ok (.iload_n 2, 1) := by decide +kernel
theorem dX6_asksValue_58 : decode cX6_asksValue 58 = .ok (.istore_n 2, 1) := by decide +kernel
theorem dX6_asksValue_59 : decode cX6_asksValue 59 = .ok (.iinc 3 1, 3) := by decide +kernel
theorem dX6_asksValue_62 : decode cX6_asksValue 62 = .ok (.goto (-53), 3) := by decide +kernel
theorem dX6_asksValue_65 : decode cX6_asksValue 65 = .ok (.aload_n 0, 1) := by decide +kernel
theorem dX6_asksValue_66 : decode cX6_asksValue 66 = .ok (.iload_n 2, 1) := by decide +kernel
theorem dX6_asksValue_67 : decode cX6_asksValue 67 = .ok (.putfield 155, 3) := by decide +kernel
theorem dX6_asksValue_70 : decode cX6_asksValue 70 = .ok (.return_, 1) := by decide +kernel
set_option maxRecDepth 20000 in
theorem ggX6_asksWay_X6_begins : GoodIn wsX6_asksWay wsX6_begins := goodIn_r _ [5, 6, 7, 8, 9, 10, 11, 12, 4, 13, 14, 15, 16, 17, 18, 19, 20, 21, 22, 23, 24, 25, 26, 27, 28, 29, 47, 48, 49, 50, 51, 52, 53, 54, 55, 56, 57, 58, 59, 60, 61, 62, 63, 64, 65, 66] (by decide +kernel) (by decide +kernel)
set_option maxRecDepth 20000 in
theorem gX6_asksWay_X6_begins : GoodIn wsX6_asksWay (wsV RX6 164 RX6 yX6_begins wsX6_begins) := goodIn_app (goodIn_of _ (by decide +kernel)) ggX6_asksWay_X6_begins
set_option maxRecDepth 20000 in
theorem ggX6_asksWay_X6_mendings : GoodIn wsX6_asksWay wsX6_mendings := goodIn_r _ [33, 14, 47, 48, 49, 50, 51, 52, 53, 54, 55, 56, 57, 58, 59, 60, 61, 62, 63, 64, 65, 66] (by decide +kernel) (by decide +kernel)
set_option maxRecDepth 20000 in
theorem gX6_asksWay_X6_mendings : GoodIn wsX6_asksWay (wsV RX6 112 RX6 yX6_mendings wsX6_mendings) := goodIn_app (goodIn_of _ (by decide +kernel)) ggX6_asksWay_X6_mendings
set_option maxRecDepth 20000 in
theorem ggX6_asksWay_X6_takes : GoodIn wsX6_asksWay wsX6_takes := goodIn_r _ [37, 14, 38, 17, 47, 48, 49, 50, 51, 52, 53, 54, 55, 56, 57, 58, 59, 60, 61, 62, 63, 64, 65, 66] (by decide +kernel) (by decide +kernel)
set_option maxRecDepth 20000 in
theorem gX6_asksWay_X6_takes : GoodIn wsX6_asksWay (wsV RX6 167 RX6 yX6_takes wsX6_takes) := goodIn_app (goodIn_of _ (by decide +kernel)) ggX6_asksWay_X6_takes
set_option maxRecDepth 20000 in
theorem ggX6_asksWay_X6_wayLong : GoodIn wsX6_asksWay wsX6_wayLong := goodIn_r _ [42, 38, 18, 19, 20, 4, 21, 15, 47, 48, 49, 50, 51, 52, 53, 54, 55, 56, 57, 58, 59, 60, 61, 62, 63, 64, 65, 66] (by decide +kernel) (by decide +kernel)
set_option maxRecDepth 20000 in
theorem gX6_asksWay_X6_wayLong : GoodIn wsX6_asksWay (wsV RX6 176 RX6 yX6_wayLong wsX6_wayLong) := goodIn_app (goodIn_of _ (by decide +kernel)) ggX6_asksWay_X6_wayLong
set_option maxRecDepth 20000 in
theorem ggX6_asksWay_X6_counts : GoodIn wsX6_asksWay wsX6_counts := goodIn_r _ [46, 6, 9, 7, 8, 47, 48, 49, 50, 51, 52, 53, 54, 55, 56, 57, 58, 59, 60, 61, 62, 63, 64, 65, 66] (by decide +kernel) (by decide +kernel)
set_option maxRecDepth 20000 in
theorem gX6_asksWay_X6_counts : GoodIn wsX6_asksWay (wsV RX6 172 RX6 yX6_counts wsX6_counts) := goodIn_app (goodIn_of _ (by decide +kernel)) ggX6_asksWay_X6_counts
theorem dX6_asksWay_0 : decode cX6_asksWay 0 = .ok (.aload_n 0, 1) := by decide +kernel
theorem dX6_asksWay_1 : decode cX6_asksWay 1 = .ok (.invokevirtual 164, 3) := by decide +kernel
theorem dX6_asksWay_4 : decode cX6_asksWay 4 = .ok (.iconst 0, 1) := by decide +kernel
theorem dX6_asksWay_5 : decode cX6_asksWay 5 = .ok (.istore_n 3, 1) := by decide +kernel
theorem dX6_asksWay_6 : decode cX6_asksWay 6 = .ok (.iload_n 3, 1) := by decide +kernel
theorem dX6_asksWay_7 : decode cX6_asksWay 7 = .ok (.aload_n 0, 1) := by decide +kernel
theorem dX6_asksWay_8 : decode cX6_asksWay 8 = .ok (.invokevirtual 112, 3) := by decide +kernel
theorem dX6_asksWay_11 : decode cX6_asksWay 11 = .ok (.if_icmp .ge 41, 3) := by decide +kernel
theorem dX6_asksWay_14 : decode cX6_asksWay 14 = .ok (.aload_n 0, 1) := by decide +kernel
theorem dX6_asksWay_15 : decode cX6_asksWay 15 = .ok (.iload_n 3, 1) := by decide +kernel
theorem dX6_asksWay_16 : decode cX6_asksWay 16 = .ok (.invokevirtual 167, 3) := by decide +kernel
theorem dX6_asksWay_19 : decode cX6_asksWay 19 = .ok (.aload_n 0, 1) := by decide +kernel
theorem dX6_asksWay_20 : decode cX6_asksWay 20 = .ok (.iload_n 1, 1) := by decide +kernel
theorem dX6_asksWay_21 : decode cX6_asksWay 21 = .ok (.iload_n 2, 1) := by decide +kernel
theorem dX6_asksWay_22 : decode cX6_asksWay 22 = .ok (.invokevirtual 176, 3) := by decide +kernel
theorem dX6_asksWay_25 : decode cX6_asksWay 25 = .ok (.istore 4, 2) := by decide +kernel
theorem dX6_asksWay_27 : decode cX6_asksWay 27 = .ok (.aload_n 0, 1) := by decide +kernel
theorem dX6_asksWay_28 : decode cX6_asksWay 28 = .ok (.iload_n 3, 1) := by decide +kernel
theorem dX6_asksWay_29 : decode cX6_asksWay 29 = .ok (.iload 4, 2) := by decide +kernel
theorem dX6_asksWay_31 : decode cX6_asksWay 31 = .ok (.bipush (-5), 2) := by decide +kernel
theorem dX6_asksWay_33 : decode cX6_asksWay 33 = .ok (.if_icmp .eq 7, 3) := by decide +kernel
theorem dX6_asksWay_36 : decode cX6_asksWay 36 = .ok (.iconst 1, 1) := by decide +kernel
theorem dX6_asksWay_37 : decode cX6_asksWay 37 = .ok (.goto 4, 3) := by decide +kernel
theorem dX6_asksWay_40 : decode cX6_asksWay 40 = .ok (.iconst 0, 1) := by decide +kernel
theorem dX6_asksWay_41 : decode cX6_asksWay 41 = .ok (.iload 4, 2) := by decide +kernel
theorem dX6_asksWay_43 : decode cX6_asksWay 43 = .ok (.invokevirtual 172, 3) := by decide +kernel
theorem dX6_asksWay_46 : decode cX6_asksWay 46 = .ok (.iinc 3 1, 3) := by decide +kernel
theorem dX6_asksWay_49 : decode cX6_asksWay 49 = .ok (.goto (-43), 3) := by decide +kernel
theorem dX6_asksWay_52 : decode cX6_asksWay 52 = .ok (.return_, 1) := by decide +kernel
set_option maxRecDepth 20000 in
theorem ggX6_value_X6_isValue : GoodIn wsX6_value wsX6_isValue := goodIn_r _ [9, 10, 11, 12, 13, 8, 14] (by decide +kernel) (by decide +kernel)
set_option maxRecDepth 20000 in
theorem gX6_value_X6_isValue : GoodIn wsX6_value (va_wsS RX6 76 yX6_isValue wsX6_isValue) := goodIn_app (goodIn_of _ (by decide +kernel)) ggX6_value_X6_isValue
set_option maxRecDepth 20000 in
theorem ggX6_value_X6_in : GoodIn wsX6_value wsX6_in := goodIn_r _ [14] (by decide +kernel) (by decide +kernel)
set_option maxRecDepth 20000 in
theorem gX6_value_X6_in : GoodIn wsX6_value (va_wsS RX6 47 yX6_in wsX6_in) := goodIn_app (goodIn_of _ (by decide +kernel)) ggX6_value_X6_in
set_option maxRecDepth 20000 in
theorem ggX6_value_X6_asksValue : GoodIn wsX6_value wsX6_asksValue := goodIn_r _ [18, 4, 19, 20, 21, 8, 22, 3, 5, 2, 23, 24, 25, 26, 27, 28, 29, 30, 31, 32, 33, 34, 35, 36, 37, 38, 39, 40, 41, 42, 43, 44, 45, 46, 47, 48, 49, 50, 51, 52, 53, 54, 55, 56, 57, 58, 59, 60, 61, 62, 63, 64, 65, 66, 67, 68, 69, 70, 71, 72, 73, 74, 75, 76, 77, 78, 79] (by decide +kernel) (by decide +kernel)
set_option maxRecDepth 20000 in
theorem gX6_value_X6_asksValue : GoodIn wsX6_value (wsV RX6 181 RX6 yX6_asksValue wsX6_asksValue) := goodIn_app (goodIn_of _ (by decide +kernel)) ggX6_value_X6_asksValue
theorem dX6_value_0 : decode cX6_value 0 = .ok (.iload_n 1, 1) := by decide +kernel
theorem dX6_value_1 : decode cX6_value 1 = .ok (.invokestatic 76, 3) := by decide +kernel
theorem dX6_value_4 : decode cX6_value 4 = .ok (.ifCond .eq 15, 3) := by decide +kernel
theorem dX6_value_7 : decode cX6_value 7 = .ok (.iload_n 2, 1) := by decide +kernel
theorem dX6_value_8 : decode cX6_value 8 = .ok (.i2l, 1) := by decide +kernel
theorem dX6_value_9 : decode cX6_value 9 = .ok (.lconst 0, 1) := by decide +kernel
theorem dX6_value_10 : decode cX6_value 10 = .ok (.ldc2_w 179, 3) := by decide +kernel
theorem dX6_value_13 : decode cX6_value 13 = .ok (.invokestatic 47, 3) := by decide +kernel
theorem dX6_value_16 : decode cX6_value 16 = .ok (.ifCond .ne 6, 3) := by decide +kernel
theorem dX6_value_19 : decode cX6_value 19 = .ok (.bipush (-2), 2) := by decide +kernel
theorem dX6_value_21 : decode cX6_value 21 = .ok (.ireturn, 1) := by decide +kernel
theorem dX6_value_22 : decode cX6_value 22 = .ok (.aload_n 0, 1) := by decide +kernel
theorem dX6_value_23 : decode cX6_value 23 = .ok (.iload_n 1, 1) := by decide +kernel
theorem dX6_value_24 : decode cX6_value 24 = .ok (.bipush 97, 2) := by decide +kernel
theorem dX6_value_26 : decode cX6_value 26 = .ok (.isub, 1) := by decide +kernel
theorem dX6_value_27 : decode cX6_value 27 = .ok (.invokevirtual 181, 3) := by decide +kernel
theorem dX6_value_30 : decode cX6_value 30 = .ok (.iload_n 2, 1) := by decide +kernel
theorem dX6_value_31 : decode cX6_value 31 = .ok (.ifCond .ne 20, 3) := by decide +kernel
theorem dX6_value_34 : decode cX6_value 34 = .ok (.aload_n 0, 1) := by decide +kernel
theorem dX6_value_35 : decode cX6_value 35 = .ok (.getfield 161, 3) := by decide +kernel
theorem dX6_value_38 : decode cX6_value 38 = .ok (.bipush (-5), 2) := by decide +kernel
theorem dX6_value_40 : decode cX6_value 40 = .ok (.if_icmp .ne 7, 3) := by decide +kernel
theorem dX6_value_43 : decode cX6_value 43 = .ok (.iconst 1, 1) := by decide +kernel
theorem dX6_value_44 : decode cX6_value 44 = .ok (.goto 55, 3) := by decide +kernel
theorem dX6_value_47 : decode cX6_value 47 = .ok (.iconst 0, 1) := by decide +kernel
theorem dX6_value_48 : decode cX6_value 48 = .ok (.goto 51, 3) := by decide +kernel
theorem dX6_value_51 : decode cX6_value 51 = .ok (.iload_n 2, 1) := by decide +kernel
theorem dX6_value_52 : decode cX6_value 52 = .ok (.iconst 1, 1) := by decide +kernel
theorem dX6_value_53 : decode cX6_value 53 = .ok (.if_icmp .ne 18, 3) := by decide +kernel
theorem dX6_value_56 : decode cX6_value 56 = .ok (.aload_n 0, 1) := by decide +kernel
theorem dX6_value_57 : decode cX6_value 57 = .ok (.getfield 152, 3) := by decide +kernel
theorem dX6_value_60 : decode cX6_value 60 = .ok (.ifCond .le 7, 3) := by decide +kernel
theorem dX6_value_63 : decode cX6_value 63 = .ok (.iconst 1, 1) := by decide +kernel
theorem dX6_value_64 : decode cX6_value 64 = .ok (.goto 35, 3) := by decide +kernel
theorem dX6_value_67 : decode cX6_value 67 = .ok (.iconst 0, 1) := by decide +kernel
theorem dX6_value_68 : decode cX6_value 68 = .ok (.goto 31, 3) := by decide +kernel
theorem dX6_value_71 : decode cX6_value 71 = .ok (.iload_n 2, 1) := by decide +kernel
theorem dX6_value_72 : decode cX6_value 72 = .ok (.iconst 2, 1) := by decide +kernel
theorem dX6_value_73 : decode cX6_value 73 = .ok (.if_icmp .ne 10, 3) := by decide +kernel
theorem dX6_value_76 : decode cX6_value 76 = .ok (.aload_n 0, 1) := by decide +kernel
theorem dX6_value_77 : decode cX6_value 77 = .ok (.getfield 152, 3) := by decide +kernel
theorem dX6_value_80 : decode cX6_value 80 = .ok (.goto 19, 3) := by decide +kernel
theorem dX6_value_83 : decode cX6_value 83 = .ok (.iload_n 2, 1) := by decide +kernel
theorem dX6_value_84 : decode cX6_value 84 = .ok (.iconst 3, 1) := by decide +kernel
theorem dX6_value_85 : decode cX6_value 85 = .ok (.if_icmp .ne 10, 3) := by decide +kernel
theorem dX6_value_88 : decode cX6_value 88 = .ok (.aload_n 0, 1) := by decide +kernel
theorem dX6_value_89 : decode cX6_value 89 = .ok (.getfield 155, 3) := by decide +kernel
theorem dX6_value_92 : decode cX6_value 92 = .ok (.goto 7, 3) := by decide +kernel
theorem dX6_value_95 : decode cX6_value 95 = .ok (.aload_n 0, 1) := by decide +kernel
theorem dX6_value_96 : decode cX6_value 96 = .ok (.getfield 158, 3) := by decide +kernel
theorem dX6_value_99 : decode cX6_value 99 = .ok (.ireturn, 1) := by decide +kernel
set_option maxRecDepth 20000 in
theorem ggX6_way_X6_isKey : GoodIn wsX6_way wsX6_isKey := goodIn_r _ [8, 9, 10, 11, 7, 12] (by decide +kernel) (by decide +kernel)
set_option maxRecDepth 20000 in
theorem gX6_way_X6_isKey : GoodIn wsX6_way (va_wsS RX6 73 yX6_isKey wsX6_isKey) := goodIn_app (goodIn_of _ (by decide +kernel)) ggX6_way_X6_isKey
set_option maxRecDepth 20000 in
theorem ggX6_way_X6_in : GoodIn wsX6_way wsX6_in := goodIn_r _ [12] (by decide +kernel) (by decide +kernel)
set_option maxRecDepth 20000 in
theorem gX6_way_X6_in : GoodIn wsX6_way (va_wsS RX6 47 yX6_in wsX6_in) := goodIn_app (goodIn_of _ (by decide +kernel)) ggX6_way_X6_in
set_option maxRecDepth 20000 in
theorem ggX6_way_X6_asksWay : GoodIn wsX6_way wsX6_asksWay := goodIn_r _ [16, 17, 18, 19, 7, 20, 3, 4, 21, 2, 22, 23, 24, 25, 26, 27, 28, 29, 30, 31, 32, 33, 34, 35, 36, 37, 38, 39, 40, 41, 42, 43, 44, 45, 46, 47, 48, 49, 50, 51, 52, 53, 54, 55, 56, 57, 58, 59, 60, 61, 62, 63, 64, 65, 66, 67, 68, 69, 70, 71, 72, 73, 74, 75, 76, 77, 78] (by decide +kernel) (by decide +kernel)
set_option maxRecDepth 20000 in
theorem gX6_way_X6_asksWay : GoodIn wsX6_way (wsV RX6 184 RX6 yX6_asksWay wsX6_asksWay) := goodIn_app (goodIn_of _ (by decide +kernel)) ggX6_way_X6_asksWay
theorem dX6_way_0 : decode cX6_way 0 = .ok (.iload_n 1, 1) := by decide +kernel
theorem dX6_way_1 : decode cX6_way 1 = .ok (.invokestatic 73, 3) := by decide +kernel
theorem dX6_way_4 : decode cX6_way 4 = .ok (.ifCond .eq 10, 3) := by decide +kernel
theorem dX6_way_7 : decode cX6_way 7 = .ok (.iload_n 2, 1) := by decide +kernel
theorem dX6_way_8 : decode cX6_way 8 = .ok (.invokestatic 73, 3) := by decide +kernel
theorem dX6_way_11 : decode cX6_way 11 = .ok (.ifCond .ne 5, 3) := by decide +kernel
theorem dX6_way_14 : decode cX6_way 14 = .ok (.iconst (-1), 1) := by decide +kernel
theorem dX6_way_15 : decode cX6_way 15 = .ok (.ireturn, 1) := by decide +kernel
theorem dX6_way_16 : decode cX6_way 16 = .ok (.iload_n 3, 1) := by decide +kernel
theorem dX6_way_17 : decode cX6_way 17 = .ok (.i2l, 1) := by decide +kernel
theorem dX6_way_18 : decode cX6_way 18 = .ok (.lconst 0, 1) := by decide +kernel
theorem dX6_way_19 : decode cX6_way 19 = .ok (.ldc2_w 179, 3) := by decide +kernel
theorem dX6_way_22 : decode cX6_way 22 = .ok (.invokestatic 47, 3) := by decide +kernel
theorem dX6_way_25 : decode cX6_way 25 = .ok (.ifCond .ne 6, 3) := by decide +kernel
theorem dX6_way_28 : decode cX6_way 28 = .ok (.bipush (-2), 2) := by decide +kernel
theorem dX6_way_30 : decode cX6_way 30 = .ok (.ireturn, 1) := by decide +kernel
theorem dX6_way_31 : decode cX6_way 31 = .ok (.aload_n 0, 1) := by decide +kernel
theorem dX6_way_32 : decode cX6_way 32 = .ok (.iload_n 1, 1) := by decide +kernel
theorem dX6_way_33 : decode cX6_way 33 = .ok (.iload_n 2, 1) := by decide +kernel
theorem dX6_way_34 : decode cX6_way 34 = .ok (.invokevirtual 184, 3) := by decide +kernel
theorem dX6_way_37 : decode cX6_way 37 = .ok (.iload_n 3, 1) := by decide +kernel
theorem dX6_way_38 : decode cX6_way 38 = .ok (.ifCond .ne 20, 3) := by decide +kernel
theorem dX6_way_41 : decode cX6_way 41 = .ok (.aload_n 0, 1) := by decide +kernel
theorem dX6_way_42 : decode cX6_way 42 = .ok (.getfield 161, 3) := by decide +kernel
theorem dX6_way_45 : decode cX6_way 45 = .ok (.bipush (-5), 2) := by decide +kernel
theorem dX6_way_47 : decode cX6_way 47 = .ok (.if_icmp .ne 7, 3) := by decide +kernel
theorem dX6_way_50 : decode cX6_way 50 = .ok (.iconst 1, 1) := by decide +kernel
theorem dX6_way_51 : decode cX6_way 51 = .ok (.goto 55, 3) := by decide +kernel
theorem dX6_way_54 : decode cX6_way 54 = .ok (.iconst 0, 1) := by decide +kernel
theorem dX6_way_55 : decode cX6_way 55 = .ok (.goto 51, 3) := by decide +kernel
theorem dX6_way_58 : decode cX6_way 58 = .ok (.iload_n 3, 1) := by decide +kernel
theorem dX6_way_59 : decode cX6_way 59 = .ok (.iconst 1, 1) := by decide +kernel
theorem dX6_way_60 : decode cX6_way 60 = .ok (.if_icmp .ne 18, 3) := by decide +kernel
theorem dX6_way_63 : decode cX6_way 63 = .ok (.aload_n 0, 1) := by decide +kernel
theorem dX6_way_64 : decode cX6_way 64 = .ok (.getfield 152, 3) := by decide +kernel
theorem dX6_way_67 : decode cX6_way 67 = .ok (.ifCond .le 7, 3) := by decide +kernel
theorem dX6_way_70 : decode cX6_way 70 = .ok (.iconst 1, 1) := by decide +kernel
theorem dX6_way_71 : decode cX6_way 71 = .ok (.goto 35, 3) := by decide +kernel
theorem dX6_way_74 : decode cX6_way 74 = .ok (.iconst 0, 1) := by decide +kernel
theorem dX6_way_75 : decode cX6_way 75 = .ok (.goto 31, 3) := by decide +kernel
theorem dX6_way_78 : decode cX6_way 78 = .ok (.iload_n 3, 1) := by decide +kernel
theorem dX6_way_79 : decode cX6_way 79 = .ok (.iconst 2, 1) := by decide +kernel
theorem dX6_way_80 : decode cX6_way 80 = .ok (.if_icmp .ne 10, 3) := by decide +kernel
theorem dX6_way_83 : decode cX6_way 83 = .ok (.aload_n 0, 1) := by decide +kernel
theorem dX6_way_84 : decode cX6_way 84 = .ok (.getfield 152, 3) := by decide +kernel
theorem dX6_way_87 : decode cX6_way 87 = .ok (.goto 19, 3) := by decide +kernel
theorem dX6_way_90 : decode cX6_way 90 = .ok (.iload_n 3, 1) := by decide +kernel
theorem dX6_way_91 : decode cX6_way 91 = .ok (.iconst 3, 1) := by decide +kernel
theorem dX6_way_92 : decode cX6_way 92 = .ok (.if_icmp .ne 10, 3) := by decide +kernel
theorem dX6_way_95 : decode cX6_way 95 = .ok (.aload_n 0, 1) := by decide +kernel
theorem dX6_way_96 : decode cX6_way 96 = .ok (.getfield 161, 3) := by decide +kernel
theorem dX6_way_99 : decode cX6_way 99 = .ok (.goto 7, 3) := by decide +kernel
theorem dX6_way_102 : decode cX6_way 102 = .ok (.aload_n 0, 1) := by decide +kernel
theorem dX6_way_103 : decode cX6_way 103 = .ok (.getfield 155, 3) := by decide +kernel
theorem dX6_way_106 : decode cX6_way 106 = .ok (.ireturn, 1) := by decide +kernel
set_option maxRecDepth 20000 in
theorem ggX6_kept__X6_isKey : GoodIn wsX6_kept_ wsX6_isKey := goodIn_r _ [5, 6, 7, 8, 4, 9] (by decide +kernel) (by decide +kernel)
set_option maxRecDepth 20000 in
theorem gX6_kept__X6_isKey : GoodIn wsX6_kept_ (va_wsS RX6 73 yX6_isKey wsX6_isKey) := goodIn_app (goodIn_of _ (by decide +kernel)) ggX6_kept__X6_isKey
set_option maxRecDepth 20000 in
theorem ggX6_kept__X6_findsChoices : GoodIn wsX6_kept_ wsX6_findsChoices := goodIn_r _ [13, 14, 15, 16, 17, 18, 19, 20, 4, 21, 22, 23, 24, 25, 26, 27, 28, 29, 38, 39, 40, 41, 42, 43, 44, 45, 46, 47, 48, 49, 50, 51, 52, 53, 54, 55, 56, 57] (by decide +kernel) (by decide +kernel)
set_option maxRecDepth 20000 in
theorem gX6_kept__X6_findsChoices : GoodIn wsX6_kept_ (wsV RX6 109 RX6 yX6_findsChoices wsX6_findsChoices) := goodIn_app (goodIn_of _ (by decide +kernel)) ggX6_kept__X6_findsChoices
set_option maxRecDepth 20000 in
theorem ggX6_kept__X6_mendings : GoodIn wsX6_kept_ wsX6_mendings := goodIn_r _ [33, 14, 38, 39, 40, 41, 42, 43, 44, 45, 46, 47, 48, 49, 50, 51, 52, 53, 54, 55, 56, 57] (by decide +kernel) (by decide +kernel)
set_option maxRecDepth 20000 in
theorem gX6_kept__X6_mendings : GoodIn wsX6_kept_ (wsV RX6 112 RX6 yX6_mendings wsX6_mendings) := goodIn_app (goodIn_of _ (by decide +kernel)) ggX6_kept__X6_mendings
set_option maxRecDepth 20000 in
theorem ggX6_kept__X6_in : GoodIn wsX6_kept_ wsX6_in := goodIn_r _ [9] (by decide +kernel) (by decide +kernel)
set_option maxRecDepth 20000 in
theorem gX6_kept__X6_in : GoodIn wsX6_kept_ (va_wsS RX6 47 yX6_in wsX6_in) := goodIn_app (goodIn_of _ (by decide +kernel)) ggX6_kept__X6_in
set_option maxRecDepth 20000 in
theorem ggX6_kept__X6_takes : GoodIn wsX6_kept_ wsX6_takes := goodIn_r _ [37, 14, 1, 17, 38, 39, 40, 41, 42, 43, 44, 45, 46, 47, 48, 49, 50, 51, 52, 53, 54, 55, 56, 57] (by decide +kernel) (by decide +kernel)
set_option maxRecDepth 20000 in
theorem gX6_kept__X6_takes : GoodIn wsX6_kept_ (wsV RX6 167 RX6 yX6_takes wsX6_takes) := goodIn_app (goodIn_of _ (by decide +kernel)) ggX6_kept__X6_takes
theorem dX6_kept__0 : decode cX6_kept_ 0 = .ok (.iload_n 2, 1) := by decide +kernel
theorem dX6_kept__1 : decode cX6_kept_ 1 = .ok (.invokestatic 73, 3) := by decide +kernel
theorem dX6_kept__4 : decode cX6_kept_ 4 = .ok (.ifCond .ne 5, 3) := by decide +kernel
theorem dX6_kept__7 : decode cX6_kept_ 7 = .ok (.iconst (-1), 1) := by decide +kernel
theorem dX6_kept__8 : decode cX6_kept_ 8 = .ok (.ireturn, 1) := by decide +kernel
theorem dX6_kept__9 : decode cX6_kept_ 9 = .ok (.aload_n 0, 1) := by decide +kernel
theorem dX6_kept__10 : decode cX6_kept_ 10 = .ok (.invokevirtual 109, 3) := by decide +kernel
theorem dX6_kept__13 : decode cX6_kept_ 13 = .ok (.iload_n 1, 1) := by decide +kernel
theorem dX6_kept__14 : decode cX6_kept_ 14 = .ok (.i2l, 1) := by decide +kernel
theorem dX6_kept__15 : decode cX6_kept_ 15 = .ok (.lconst 0, 1) := by decide +kernel
theorem dX6_kept__16 : decode cX6_kept_ 16 = .ok (.aload_n 0, 1) := by decide +kernel
theorem dX6_kept__17 : decode cX6_kept_ 17 = .ok (.invokevirtual 112, 3) := by decide +kernel
theorem dX6_kept__20 : decode cX6_kept_ 20 = .ok (.i2l, 1) := by decide +kernel
theorem dX6_kept__21 : decode cX6_kept_ 21 = .ok (.lconst 1, 1) := by decide +kernel
theorem dX6_kept__22 : decode cX6_kept_ 22 = .ok (.lsub, 1) := by decide +kernel
theorem dX6_kept__23 : decode cX6_kept_ 23 = .ok (.invokestatic 47, 3) := by decide +kernel
theorem dX6_kept__26 : decode cX6_kept_ 26 = .ok (.ifCond .ne 6, 3) := by decide +kernel
theorem dX6_kept__29 : decode cX6_kept_ 29 = .ok (.bipush (-2), 2) := by decide +kernel
theorem dX6_kept__31 : decode cX6_kept_ 31 = .ok (.ireturn, 1) := by decide +kernel
theorem dX6_kept__32 : decode cX6_kept_ 32 = .ok (.aload_n 0, 1) := by decide +kernel
theorem dX6_kept__33 : decode cX6_kept_ 33 = .ok (.iload_n 1, 1) := by decide +kernel
theorem dX6_kept__34 : decode cX6_kept_ 34 = .ok (.invokevirtual 167, 3) := by decide +kernel
theorem dX6_kept__37 : decode cX6_kept_ 37 = .ok (.aload_n 0, 1) := by decide +kernel
theorem dX6_kept__38 : decode cX6_kept_ 38 = .ok (.getfield 28, 3) := by decide +kernel
theorem dX6_kept__41 : decode cX6_kept_ 41 = .ok (.iload_n 2, 1) := by decide +kernel
theorem dX6_kept__42 : decode cX6_kept_ 42 = .ok (.iaload, 1) := by decide +kernel
theorem dX6_kept__43 : decode cX6_kept_ 43 = .ok (.ireturn, 1) := by decide +kernel
set_option maxRecDepth 20000 in
theorem ggX6_weightOf_X6_of : GoodIn wsX6_weightOf wsX6_of := goodIn_r _ [6, 7, 8, 9, 10, 11, 12, 13, 14, 15, 16, 17, 18, 19, 20, 21, 22, 23, 24, 25, 26, 27] (by decide +kernel) (by decide +kernel)
set_option maxRecDepth 20000 in
theorem gX6_weightOf_X6_of : GoodIn wsX6_weightOf (wsV RX6 53 RX6 yX6_of wsX6_of) := goodIn_app (goodIn_of _ (by decide +kernel)) ggX6_weightOf_X6_of
theorem dX6_weightOf_0 : decode cX6_weightOf 0 = .ok (.iconst 0, 1) := by decide +kernel
theorem dX6_weightOf_1 : decode cX6_weightOf 1 = .ok (.istore_n 1, 1) := by decide +kernel
theorem dX6_weightOf_2 : decode cX6_weightOf 2 = .ok (.iconst 0, 1) := by decide +kernel
theorem dX6_weightOf_3 : decode cX6_weightOf 3 = .ok (.istore_n 2, 1) := by decide +kernel
theorem dX6_weightOf_4 : decode cX6_weightOf 4 = .ok (.iload_n 2, 1) := by decide +kernel
theorem dX6_weightOf_5 : decode cX6_weightOf 5 = .ok (.bipush 10, 2) := by decide +kernel
theorem dX6_weightOf_7 : decode cX6_weightOf 7 = .ok (.if_icmp .ge 38, 3) := by decide +kernel
theorem dX6_weightOf_10 : decode cX6_weightOf 10 = .ok (.iload_n 1, 1) := by decide +kernel
theorem dX6_weightOf_11 : decode cX6_weightOf 11 = .ok (.aload_n 0, 1) := by decide +kernel
theorem dX6_weightOf_12 : decode cX6_weightOf 12 = .ok (.getfield 28, 3) := by decide +kernel
theorem dX6_weightOf_15 : decode cX6_weightOf 15 = .ok (.iload_n 2, 1) := by decide +kernel
theorem dX6_weightOf_16 : decode cX6_weightOf 16 = .ok (.iaload, 1) := by decide +kernel
theorem dX6_weightOf_17 : decode cX6_weightOf 17 = .ok (.bipush (-5), 2) := by decide +kernel
theorem dX6_weightOf_19 : decode cX6_weightOf 19 = .ok (.if_icmp .ne 7, 3) := by decide +kernel
theorem dX6_weightOf_22 : decode cX6_weightOf 22 = .ok (.iconst 0, 1) := by decide +kernel
theorem dX6_weightOf_23 : decode cX6_weightOf 23 = .ok (.goto 14, 3) := by decide +kernel
theorem dX6_weightOf_26 : decode cX6_weightOf 26 = .ok (.aload_n 0, 1) := by decide +kernel
theorem dX6_weightOf_27 : decode cX6_weightOf 27 = .ok (.aload_n 0, 1) := by decide +kernel
theorem dX6_weightOf_28 : decode cX6_weightOf 28 = .ok (.getfield 28, 3) := by decide +kernel
theorem dX6_weightOf_31 : decode cX6_weightOf 31 = .ok (.iload_n 2, 1) := by decide +kernel
theorem dX6_weightOf_32 : decode cX6_weightOf 32 = .ok (.iaload, 1) := by decide +kernel
theorem dX6_weightOf_33 : decode cX6_weightOf 33 = .ok (.iconst 2, 1) := by decide +kernel
theorem dX6_weightOf_34 : decode cX6_weightOf 34 = .ok (.invokevirtual 53, 3) := by decide +kernel
theorem dX6_weightOf_37 : decode cX6_weightOf 37 = .ok (.iadd, 1) := by decide +kernel
theorem dX6_weightOf_38 : decode cX6_weightOf 38 = .ok (.istore_n 1, 1) := by decide +kernel
theorem dX6_weightOf_39 : decode cX6_weightOf 39 = .ok (.iinc 2 1, 3) := by decide +kernel
theorem dX6_weightOf_42 : decode cX6_weightOf 42 = .ok (.goto (-38), 3) := by decide +kernel
theorem dX6_weightOf_45 : decode cX6_weightOf 45 = .ok (.iload_n 1, 1) := by decide +kernel
theorem dX6_weightOf_46 : decode cX6_weightOf 46 = .ok (.ireturn, 1) := by decide +kernel
set_option maxRecDepth 20000 in
theorem ggX6_sum_X6_in : GoodIn wsX6_sum wsX6_in := goodIn_r _ [5] (by decide +kernel) (by decide +kernel)
set_option maxRecDepth 20000 in
theorem gX6_sum_X6_in : GoodIn wsX6_sum (va_wsS RX6 47 yX6_in wsX6_in) := goodIn_app (goodIn_of _ (by decide +kernel)) ggX6_sum_X6_in
set_option maxRecDepth 20000 in
theorem ggX6_sum_X6_findsChoices : GoodIn wsX6_sum wsX6_findsChoices := goodIn_r _ [9, 10, 11, 12, 13, 14, 15, 16, 4, 17, 18, 19, 20, 21, 22, 23, 24, 25, 39, 40, 41, 42, 43, 44, 45, 46, 47, 48, 49, 50, 51, 52, 53, 54, 55, 56, 57, 58] (by decide +kernel) (by decide +kernel)
set_option maxRecDepth 20000 in
theorem gX6_sum_X6_findsChoices : GoodIn wsX6_sum (wsV RX6 109 RX6 yX6_findsChoices wsX6_findsChoices) := goodIn_app (goodIn_of _ (by decide +kernel)) ggX6_sum_X6_findsChoices
set_option maxRecDepth 20000 in
theorem ggX6_sum_X6_takes : GoodIn wsX6_sum wsX6_takes := goodIn_r _ [29, 10, 30, 13, 39, 40, 41, 42, 43, 44, 45, 46, 47, 48, 49, 50, 51, 52, 53, 54, 55, 56, 57, 58] (by decide +kernel) (by decide +kernel)
set_option maxRecDepth 20000 in
theorem gX6_sum_X6_takes : GoodIn wsX6_sum (wsV RX6 167 RX6 yX6_takes wsX6_takes) := goodIn_app (goodIn_of _ (by decide +kernel)) ggX6_sum_X6_takes
set_option maxRecDepth 20000 in
theorem ggX6_sum_X6_weightOf : GoodIn wsX6_sum wsX6_weightOf := goodIn_r _ [34, 30, 14, 15, 16, 4, 17, 11, 39, 40, 41, 42, 43, 44, 45, 46, 47, 48, 49, 50, 51, 52, 53, 54, 55, 56, 57, 58] (by decide +kernel) (by decide +kernel)
set_option maxRecDepth 20000 in
theorem gX6_sum_X6_weightOf : GoodIn wsX6_sum (wsV RX6 190 RX6 yX6_weightOf wsX6_weightOf) := goodIn_app (goodIn_of _ (by decide +kernel)) ggX6_sum_X6_weightOf
set_option maxRecDepth 20000 in
theorem ggX6_sum_X6_mendings : GoodIn wsX6_sum wsX6_mendings := goodIn_r _ [38, 10, 39, 40, 41, 42, 43, 44, 45, 46, 47, 48, 49, 50, 51, 52, 53, 54, 55, 56, 57, 58] (by decide +kernel) (by decide +kernel)
set_option maxRecDepth 20000 in
theorem gX6_sum_X6_mendings : GoodIn wsX6_sum (wsV RX6 112 RX6 yX6_mendings wsX6_mendings) := goodIn_app (goodIn_of _ (by decide +kernel)) ggX6_sum_X6_mendings
theorem dX6_sum_0 : decode cX6_sum 0 = .ok (.iload_n 1, 1) := by decide +kernel
theorem dX6_sum_1 : decode cX6_sum 1 = .ok (.i2l, 1) := by decide +kernel
theorem dX6_sum_2 : decode cX6_sum 2 = .ok (.lconst 0, 1) := by decide +kernel
theorem dX6_sum_3 : decode cX6_sum 3 = .ok (.ldc2_w 188, 3) := by decide +kernel
theorem dX6_sum_6 : decode cX6_sum 6 = .ok (.invokestatic 47, 3) := by decide +kernel
theorem dX6_sum_9 : decode cX6_sum 9 = .ok (.ifCond .ne 6, 3) := by decide +kernel
theorem dX6_sum_12 : decode cX6_sum 12 = .ok (.bipush (-2), 2) := by decide +kernel
theorem dX6_sum_14 : decode cX6_sum 14 = .ok (.ireturn, 1) := by decide +kernel
theorem dX6_sum_15 : decode cX6_sum 15 = .ok (.aload_n 0, 1) := by decide +kernel
theorem dX6_sum_16 : decode cX6_sum 16 = .ok (.invokevirtual 109, 3) := by decide +kernel
theorem dX6_sum_19 : decode cX6_sum 19 = .ok (.aload_n 0, 1) := by decide +kernel
theorem dX6_sum_20 : decode cX6_sum 20 = .ok (.iconst 0, 1) := by decide +kernel
theorem dX6_sum_21 : decode cX6_sum 21 = .ok (.invokevirtual 167, 3) := by decide +kernel
theorem dX6_sum_24 : decode cX6_sum 24 = .ok (.aload_n 0, 1) := by decide +kernel
theorem dX6_sum_25 : decode cX6_sum 25 = .ok (.invokevirtual 190, 3) := by decide +kernel
theorem dX6_sum_28 : decode cX6_sum 28 = .ok (.istore_n 2, 1) := by decide +kernel
theorem dX6_sum_29 : decode cX6_sum 29 = .ok (.iload_n 2, 1) := by decide +kernel
theorem dX6_sum_30 : decode cX6_sum 30 = .ok (.istore_n 3, 1) := by decide +kernel
theorem dX6_sum_31 : decode cX6_sum 31 = .ok (.iconst 0, 1) := by decide +kernel
theorem dX6_sum_32 : decode cX6_sum 32 = .ok (.istore 4, 2) := by decide +kernel
theorem dX6_sum_34 : decode cX6_sum 34 = .ok (.iconst 0, 1) := by decide +kernel
theorem dX6_sum_35 : decode cX6_sum 35 = .ok (.istore 5, 2) := by decide +kernel
theorem dX6_sum_37 : decode cX6_sum 37 = .ok (.iconst 1, 1) := by decide +kernel
theorem dX6_sum_38 : decode cX6_sum 38 = .ok (.istore 6, 2) := by decide +kernel
theorem dX6_sum_40 : decode cX6_sum 40 = .ok (.iload 6, 2) := by decide +kernel
theorem dX6_sum_42 : decode cX6_sum 42 = .ok (.aload_n 0, 1) := by decide +kernel
theorem dX6_sum_43 : decode cX6_sum 43 = .ok (.invokevirtual 112, 3) := by decide +kernel
theorem dX6_sum_46 : decode cX6_sum 46 = .ok (.if_icmp .ge 77, 3) := by decide +kernel
theorem dX6_sum_49 : decode cX6_sum 49 = .ok (.aload_n 0, 1) := by decide +kernel
theorem dX6_sum_50 : decode cX6_sum 50 = .ok (.iload 6, 2) := by decide +kernel
theorem dX6_sum_52 : decode cX6_sum 52 = .ok (.invokevirtual 167, 3) := by decide +kernel
theorem dX6_sum_55 : decode cX6_sum 55 = .ok (.aload_n 0, 1) := by decide +kernel
theorem dX6_sum_56 : decode cX6_sum 56 = .ok (.invokevirtual 190, 3) := by decide +kernel
theorem dX6_sum_59 : decode cX6_sum 59 = .ok (.istore 7, 2) := by decide +kernel
theorem dX6_sum_61 : decode cX6_sum 61 = .ok (.iload 7, 2) := by decide +kernel
theorem dX6_sum_63 : decode cX6_sum 63 = .ok (.iload_n 2, 1) := by decide +kernel
theorem dX6_sum_64 : decode cX6_sum 64 = .ok (.if_icmp .ge 8, 3) := by decide +kernel
theorem dX6_sum_67 : decode cX6_sum 67 = .ok (.iload 6, 2) := by decide +kernel
theorem dX6_sum_69 : decode cX6_sum 69 = .ok (.goto 5, 3) := by decide +kernel
theorem dX6_sum_72 : decode cX6_sum 72 = .ok (.iload 4, 2) := by decide +kernel
theorem dX6_sum_74 : decode cX6_sum 74 = .ok (.istore 4, 2) := by decide +kernel
theorem dX6_sum_76 : decode cX6_sum 76 = .ok (.iload 7, 2) := by decide +kernel
theorem dX6_sum_78 : decode cX6_sum 78 = .ok (.iload_n 2, 1) := by decide +kernel
theorem dX6_sum_79 : decode cX6_sum 79 = .ok (.if_icmp .ge 8, 3) := by decide +kernel
theorem dX6_sum_82 : decode cX6_sum 82 = .ok (.iload 7, 2) := by decide +kernel
theorem dX6_sum_84 : decode cX6_sum 84 = .ok (.goto 4, 3) := by decide +kernel
theorem dX6_sum_87 : decode cX6_sum 87 = .ok (.iload_n 2, 1) := by decide +kernel
theorem dX6_sum_88 : decode cX6_sum 88 = .ok (.istore_n 2, 1) := by decide +kernel
theorem dX6_sum_89 : decode cX6_sum 89 = .ok (.iload 7, 2) := by decide +kernel
theorem dX6_sum_91 : decode cX6_sum 91 = .ok (.iload_n 3, 1) := by decide +kernel
theorem dX6_sum_92 : decode cX6_sum 92 = .ok (.if_icmp .le 8, 3) := by decide +kernel
theorem dX6_sum_95 : decode cX6_sum 95 = .ok (.iload 6, 2) := by decide +kernel
theorem dX6_sum_97 : decode cX6_sum 97 = .ok (.goto 5, 3) := by decide +kernel
theorem dX6_sum_100 : decode cX6_sum 100 = .ok (.iload 5, 2) := by decide +kernel
theorem dX6_sum_102 : decode cX6_sum 102 = .ok (.istore 5, 2) := by decide +kernel
theorem dX6_sum_104 : decode cX6_sum 104 = .ok (.iload 7, 2) := by decide +kernel
theorem dX6_sum_106 : decode cX6_sum 106 = .ok (.iload_n 3, 1) := by decide +kernel
theorem dX6_sum_107 : decode cX6_sum 107 = .ok (.if_icmp .le 8, 3) := by decide +kernel
theorem dX6_sum_110 : decode cX6_sum 110 = .ok (.iload 7, 2) := by decide +kernel
theorem dX6_sum_112 : decode cX6_sum 112 = .ok (.goto 4, 3) := by decide +kernel
theorem dX6_sum_115 : decode cX6_sum 115 = .ok (.iload_n 3, 1) := by decide +kernel
theorem dX6_sum_116 : decode cX6_sum 116 = .ok (.istore_n 3, 1) := by decide +kernel
theorem dX6_sum_117 : decode cX6_sum 117 = .ok (.iinc 6 1, 3) := by decide +kernel
theorem dX6_sum_120 : decode cX6_sum 120 = .ok (.goto (-80), 3) := by decide +kernel
theorem dX6_sum_123 : decode cX6_sum 123 = .ok (.iload_n 1, 1) := by decide +kernel
theorem dX6_sum_124 : decode cX6_sum 124 = .ok (.ifCond .ne 7, 3) := by decide +kernel
theorem dX6_sum_127 : decode cX6_sum 127 = .ok (.iload_n 2, 1) := by decide +kernel
theorem dX6_sum_128 : decode cX6_sum 128 = .ok (.goto 24, 3) := by decide +kernel
theorem dX6_sum_131 : decode cX6_sum 131 = .ok (.iload_n 1, 1) := by decide +kernel
theorem dX6_sum_132 : decode cX6_sum 132 = .ok (.iconst 1, 1) := by decide +kernel
theorem dX6_sum_133 : decode cX6_sum 133 = .ok (.if_icmp .ne 7, 3) := by decide +kernel
theorem dX6_sum_136 : decode cX6_sum 136 = .ok (.iload_n 3, 1) := by decide +kernel
theorem dX6_sum_137 : decode cX6_sum 137 = .ok (.goto 15, 3) := by decide +kernel
theorem dX6_sum_140 : decode cX6_sum 140 = .ok (.iload_n 1, 1) := by decide +kernel
theorem dX6_sum_141 : decode cX6_sum 141 = .ok (.iconst 2, 1) := by decide +kernel
theorem dX6_sum_142 : decode cX6_sum 142 = .ok (.if_icmp .ne 8, 3) := by decide +kernel
theorem dX6_sum_145 : decode cX6_sum 145 = .ok (.iload 4, 2) := by decide +kernel
theorem dX6_sum_147 : decode cX6_sum 147 = .ok (.goto 5, 3) := by decide +kernel
theorem dX6_sum_150 : decode cX6_sum 150 = .ok (.iload 5, 2) := by decide +kernel
theorem dX6_sum_152 : decode cX6_sum 152 = .ok (.ireturn, 1) := by decide +kernel
set_option maxRecDepth 20000 in
theorem ggX6_isSureWay_X6_asksWay : GoodIn wsX6_isSureWay wsX6_asksWay := goodIn_r _ [6, 7, 8, 9, 5, 10, 11, 12, 13, 1, 14, 15, 16, 17, 18, 19, 20, 21, 22, 23, 24, 25, 26, 27, 28, 29, 30, 31, 32, 33, 34, 35, 36, 37, 38, 39, 40, 41, 42, 43, 44, 45, 46, 47, 48, 49, 50, 51, 52, 53, 54, 55, 56, 57, 58, 59, 60, 61, 62, 63, 64, 65, 66, 67, 68, 69, 70] (by decide +kernel) (by decide +kernel)
set_option maxRecDepth 20000 in
theorem gX6_isSureWay_X6_asksWay : GoodIn wsX6_isSureWay (wsV RX6 184 RX6 yX6_asksWay wsX6_asksWay) := goodIn_app (goodIn_of _ (by decide +kernel)) ggX6_isSureWay_X6_asksWay
theorem dX6_isSureWay_0 : decode cX6_isSureWay 0 = .ok (.aload_n 0, 1) := by decide +kernel
theorem dX6_isSureWay_1 : decode cX6_isSureWay 1 = .ok (.iload_n 1, 1) := by decide +kernel
theorem dX6_isSureWay_2 : decode cX6_isSureWay 2 = .ok (.iload_n 2, 1) := by decide +kernel
theorem dX6_isSureWay_3 : decode cX6_isSureWay 3 = .ok (.invokevirtual 184, 3) := by decide +kernel
theorem dX6_isSureWay_6 : decode cX6_isSureWay 6 = .ok (.aload_n 0, 1) := by decide +kernel
theorem dX6_isSureWay_7 : decode cX6_isSureWay 7 = .ok (.getfield 161, 3) := by decide +kernel
theorem dX6_isSureWay_10 : decode cX6_isSureWay 10 = .ok (.bipush (-5), 2) := by decide +kernel
theorem dX6_isSureWay_12 : decode cX6_isSureWay 12 = .ok (.if_icmp .ne 7, 3) := by decide +kernel
theorem dX6_isSureWay_15 : decode cX6_isSureWay 15 = .ok (.iconst 1, 1) := by decide +kernel
theorem dX6_isSureWay_16 : decode cX6_isSureWay 16 = .ok (.goto 4, 3) := by decide +kernel
theorem dX6_isSureWay_19 : decode cX6_isSureWay 19 = .ok (.iconst 0, 1) := by decide +kernel
theorem dX6_isSureWay_20 : decode cX6_isSureWay 20 = .ok (.ireturn, 1) := by decide +kernel
set_option maxRecDepth 20000 in
theorem ggX6_bestRow_X6_isSureWay : GoodIn wsX6_bestRow wsX6_isSureWay := goodIn_r _ [7, 8, 9, 10, 11, 6, 12, 13, 14, 15, 16, 17, 18, 19, 20, 21, 22, 23, 24, 1, 2, 25, 26, 27, 28, 29, 30, 31, 32, 33, 34, 35, 36, 37, 38, 39, 40, 41, 42, 43, 44, 45, 46, 47, 48, 49, 50, 51, 52, 53, 54, 59, 60, 61, 62, 63, 64, 65, 66, 67, 68, 69, 70, 71, 72, 73, 74, 75, 76, 77, 78] (by decide +kernel) (by decide +kernel)
set_option maxRecDepth 20000 in
theorem gX6_bestRow_X6_isSureWay : GoodIn wsX6_bestRow (wsV RX6 193 RX6 yX6_isSureWay wsX6_isSureWay) := goodIn_app (goodIn_of _ (by decide +kernel)) ggX6_bestRow_X6_isSureWay
set_option maxRecDepth 20000 in
theorem ggX6_bestRow_X6_rowsOf : GoodIn wsX6_bestRow wsX6_rowsOf := goodIn_r _ [58, 1, 26, 27, 28, 6, 29, 59, 60, 61, 62, 63, 64, 65, 66, 67, 68, 69, 70, 71, 72, 73, 74, 75, 76, 77, 78] (by decide +kernel) (by decide +kernel)
set_option maxRecDepth 20000 in
theorem gX6_bestRow_X6_rowsOf : GoodIn wsX6_bestRow (wsV RX6 100 RX6 yX6_rowsOf wsX6_rowsOf) := goodIn_app (goodIn_of _ (by decide +kernel)) ggX6_bestRow_X6_rowsOf
set_option maxRecDepth 20000 in
theorem ggX6_bestRow_X6_of : GoodIn wsX6_bestRow wsX6_of := goodIn_r _ [29, 1, 59, 60, 61, 62, 63, 64, 65, 66, 67, 68, 69, 70, 71, 72, 73, 74, 75, 76, 77, 78] (by decide +kernel) (by decide +kernel)
set_option maxRecDepth 20000 in
theorem gX6_bestRow_X6_of : GoodIn wsX6_bestRow (wsV RX6 53 RX6 yX6_of wsX6_of) := goodIn_app (goodIn_of _ (by decide +kernel)) ggX6_bestRow_X6_of
set_option maxRecDepth 20000 in
theorem ggX6_bestRow_X6_canBeKept : GoodIn wsX6_bestRow wsX6_canBeKept := goodIn_r _ [33, 1, 26, 27, 28, 6, 29, 34, 35, 36, 37, 59, 60, 61, 62, 63, 64, 65, 66, 67, 68, 69, 70, 71, 72, 73, 74, 75, 76, 77, 78] (by decide +kernel) (by decide +kernel)
set_option maxRecDepth 20000 in
theorem gX6_bestRow_X6_canBeKept : GoodIn wsX6_bestRow (wsV RX6 65 RX6 yX6_canBeKept wsX6_canBeKept) := goodIn_app (goodIn_of _ (by decide +kernel)) ggX6_bestRow_X6_canBeKept
theorem dX6_bestRow_0 : decode cX6_bestRow 0 = .ok (.aload_n 0, 1) := by decide +kernel
theorem dX6_bestRow_1 : decode cX6_bestRow 1 = .ok (.iload_n 1, 1) := by decide +kernel
theorem dX6_bestRow_2 : decode cX6_bestRow 2 = .ok (.iload_n 2, 1) := by decide +kernel
theorem dX6_bestRow_3 : decode cX6_bestRow 3 = .ok (.invokevirtual 193, 3) := by decide +kernel
theorem dX6_bestRow_6 : decode cX6_bestRow 6 = .ok (.ifCond .eq 6, 3) := by decide +kernel
theorem dX6_bestRow_9 : decode cX6_bestRow 9 = .ok (.bipush (-5), 2) := by decide +kernel
theorem dX6_bestRow_11 : decode cX6_bestRow 11 = .ok (.ireturn, 1) := by decide +kernel
theorem dX6_bestRow_12 : decode cX6_bestRow 12 = .ok (.iconst 0, 1) := by decide +kernel
theorem dX6_bestRow_13 : decode cX6_bestRow 13 = .ok (.istore_n 3, 1) := by decide +kernel
theorem dX6_bestRow_14 : decode cX6_bestRow 14 = .ok (.iload_n 3, 1) := by decide +kernel
theorem dX6_bestRow_15 : decode cX6_bestRow 15 = .ok (.bipush 10, 2) := by decide +kernel
theorem dX6_bestRow_17 : decode cX6_bestRow 17 = .ok (.if_icmp .ge 86, 3) := by decide +kernel
theorem dX6_bestRow_20 : decode cX6_bestRow 20 = .ok (.iconst 0, 1) := by decide +kernel
theorem dX6_bestRow_21 : decode cX6_bestRow 21 = .ok (.istore 4, 2) := by decide +kernel
theorem dX6_bestRow_23 : decode cX6_bestRow 23 = .ok (.iload 4, 2) := by decide +kernel
theorem dX6_bestRow_25 : decode cX6_bestRow 25 = .ok (.aload_n 0, 1) := by decide +kernel
theorem dX6_bestRow_26 : decode cX6_bestRow 26 = .ok (.getfield 7, 3) := by decide +kernel
theorem dX6_bestRow_29 : decode cX6_bestRow 29 = .ok (.iconst 0, 1) := by decide +kernel
theorem dX6_bestRow_30 : decode cX6_bestRow 30 = .ok (.iaload, 1) := by decide +kernel
theorem dX6_bestRow_31 : decode cX6_bestRow 31 = .ok (.if_icmp .ge 66, 3) := by decide +kernel
theorem dX6_bestRow_34 : decode cX6_bestRow 34 = .ok (.aload_n 0, 1) := by decide +kernel
theorem dX6_bestRow_35 : decode cX6_bestRow 35 = .ok (.iload_n 3, 1) := by decide +kernel
theorem dX6_bestRow_36 : decode cX6_bestRow 36 = .ok (.invokevirtual 100, 3) := by decide +kernel
theorem dX6_bestRow_39 : decode cX6_bestRow 39 = .ok (.iconst 1, 1) := by decide +kernel
theorem dX6_bestRow_40 : decode cX6_bestRow 40 = .ok (.if_icmp .le 57, 3) := by decide +kernel
theorem dX6_bestRow_43 : decode cX6_bestRow 43 = .ok (.aload_n 0, 1) := by decide +kernel
theorem dX6_bestRow_44 : decode cX6_bestRow 44 = .ok (.iload 4, 2) := by decide +kernel
theorem dX6_bestRow_46 : decode cX6_bestRow 46 = .ok (.iconst 0, 1) := by decide +kernel
theorem dX6_bestRow_47 : decode cX6_bestRow 47 = .ok (.invokevirtual 53, 3) := by decide +kernel
theorem dX6_bestRow_50 : decode cX6_bestRow 50 = .ok (.iload_n 3, 1) := by decide +kernel
theorem dX6_bestRow_51 : decode cX6_bestRow 51 = .ok (.if_icmp .ne 40, 3) := by decide +kernel
theorem dX6_bestRow_54 : decode cX6_bestRow 54 = .ok (.aload_n 0, 1) := by decide +kernel
theorem dX6_bestRow_55 : decode cX6_bestRow 55 = .ok (.iload 4, 2) := by decide +kernel
theorem dX6_bestRow_57 : decode cX6_bestRow 57 = .ok (.invokevirtual 65, 3) := by decide +kernel
theorem dX6_bestRow_60 : decode cX6_bestRow 60 = .ok (.ifCond .eq 31, 3) := by decide +kernel
theorem dX6_bestRow_63 : decode cX6_bestRow 63 = .ok (.aload_n 0, 1) := by decide +kernel
theorem dX6_bestRow_64 : decode cX6_bestRow 64 = .ok (.iload 4, 2) := by decide +kernel
theorem dX6_bestRow_66 : decode cX6_bestRow 66 = .ok (.putfield 31, 3) := by decide +kernel
theorem dX6_bestRow_69 : decode cX6_bestRow 69 = .ok (.aload_n 0, 1) := by decide +kernel
theorem dX6_bestRow_70 : decode cX6_bestRow 70 = .ok (.iload_n 1, 1) := by decide +kernel
theorem dX6_bestRow_71 : decode cX6_bestRow 71 = .ok (.iload_n 2, 1) := by decide +kernel
theorem dX6_bestRow_72 : decode cX6_bestRow 72 = .ok (.invokevirtual 193, 3) := by decide +kernel
theorem dX6_bestRow_75 : decode cX6_bestRow 75 = .ok (.istore 5, 2) := by decide +kernel
theorem dX6_bestRow_77 : decode cX6_bestRow 77 = .ok (.aload_n 0, 1) := by decide +kernel
theorem dX6_bestRow_78 : decode cX6_bestRow 78 = .ok (.bipush (-5), 2) := by decide +kernel
theorem dX6_bestRow_80 : decode cX6_bestRow 80 = .ok (.putfield 31, 3) := by decide +kernel
theorem dX6_bestRow_83 : decode cX6_bestRow 83 = .ok (.iload 5, 2) := by decide +kernel
theorem dX6_bestRow_85 : decode cX6_bestRow 85 = .ok (.ifCond .eq 6, 3) := by decide +kernel
theorem dX6_bestRow_88 : decode cX6_bestRow 88 = .ok (.iload 4, 2) := by decide +kernel
theorem dX6_bestRow_90 : decode cX6_bestRow 90 = .ok (.ireturn, 1) := by decide +kernel
theorem dX6_bestRow_91 : decode cX6_bestRow 91 = .ok (.iinc 4 1, 3) := by decide +kernel
theorem dX6_bestRow_94 : decode cX6_bestRow 94 = .ok (.goto (-71), 3) := by decide +kernel
theorem dX6_bestRow_97 : decode cX6_bestRow 97 = .ok (.iinc 3 1, 3) := by decide +kernel
theorem dX6_bestRow_100 : decode cX6_bestRow 100 = .ok (.goto (-86), 3) := by decide +kernel
theorem dX6_bestRow_103 : decode cX6_bestRow 103 = .ok (.bipush (-5), 2) := by decide +kernel
theorem dX6_bestRow_105 : decode cX6_bestRow 105 = .ok (.ireturn, 1) := by decide +kernel
set_option maxRecDepth 20000 in
theorem ggX6_bestMended_X6_isKey : GoodIn wsX6_bestMended wsX6_isKey := goodIn_r _ [4, 5, 6, 7, 3, 8] (by decide +kernel) (by decide +kernel)
set_option maxRecDepth 20000 in
theorem gX6_bestMended_X6_isKey : GoodIn wsX6_bestMended (va_wsS RX6 73 yX6_isKey wsX6_isKey) := goodIn_app (goodIn_of _ (by decide +kernel)) ggX6_bestMended_X6_isKey
set_option maxRecDepth 20000 in
theorem ggX6_bestMended_X6_in : GoodIn wsX6_bestMended wsX6_in := goodIn_r _ [8] (by decide +kernel) (by decide +kernel)
set_option maxRecDepth 20000 in
theorem gX6_bestMended_X6_in : GoodIn wsX6_bestMended (va_wsS RX6 47 yX6_in wsX6_in) := goodIn_app (goodIn_of _ (by decide +kernel)) ggX6_bestMended_X6_in
set_option maxRecDepth 20000 in
theorem ggX6_bestMended_X6_bestRow : GoodIn wsX6_bestMended wsX6_bestRow := goodIn_r _ [12, 13, 14, 15, 16, 17, 3, 18, 19, 20, 21, 22, 23, 24, 25, 26, 27, 28, 29, 30, 31, 32, 33, 34, 35, 36, 37, 38, 39, 40, 41, 42, 43, 44, 45, 46, 47, 48, 49, 50, 51, 52, 53, 54, 55, 56, 57, 58, 59, 60, 61, 62, 63, 64, 65, 66, 67, 68, 69, 70, 71, 72, 73, 74, 75, 76, 77, 78, 79, 80, 81, 82, 83, 84, 85, 86, 87, 88, 89] (by decide +kernel) (by decide +kernel)
set_option maxRecDepth 20000 in
theorem gX6_bestMended_X6_bestRow : GoodIn wsX6_bestMended (wsV RX6 196 RX6 yX6_bestRow wsX6_bestRow) := goodIn_app (goodIn_of _ (by decide +kernel)) ggX6_bestMended_X6_bestRow
set_option maxRecDepth 20000 in
theorem ggX6_bestMended_X6_of : GoodIn wsX6_bestMended wsX6_of := goodIn_r _ [40, 13, 70, 71, 72, 73, 74, 75, 76, 77, 78, 79, 80, 81, 82, 83, 84, 85, 86, 87, 88, 89] (by decide +kernel) (by decide +kernel)
set_option maxRecDepth 20000 in
theorem gX6_bestMended_X6_of : GoodIn wsX6_bestMended (wsV RX6 53 RX6 yX6_of wsX6_of) := goodIn_app (goodIn_of _ (by decide +kernel)) ggX6_bestMended_X6_of
theorem dX6_bestMended_0 : decode cX6_bestMended 0 = .ok (.iload_n 1, 1) := by decide +kernel
theorem dX6_bestMended_1 : decode cX6_bestMended 1 = .ok (.invokestatic 73, 3) := by decide +kernel
theorem dX6_bestMended_4 : decode cX6_bestMended 4 = .ok (.ifCond .eq 10, 3) := by decide +kernel
theorem dX6_bestMended_7 : decode cX6_bestMended 7 = .ok (.iload_n 2, 1) := by decide +kernel
theorem dX6_bestMended_8 : decode cX6_bestMended 8 = .ok (.invokestatic 73, 3) := by decide +kernel
theorem dX6_bestMended_11 : decode cX6_bestMended 11 = .ok (.ifCond .ne 5, 3) := by decide +kernel
theorem dX6_bestMended_14 : decode cX6_bestMended 14 = .ok (.iconst (-1), 1) := by decide +kernel
theorem dX6_bestMended_15 : decode cX6_bestMended 15 = .ok (.ireturn, 1) := by decide +kernel
theorem dX6_bestMended_16 : decode cX6_bestMended 16 = .ok (.iload_n 3, 1) := by decide +kernel
theorem dX6_bestMended_17 : decode cX6_bestMended 17 = .ok (.i2l, 1) := by decide +kernel
theorem dX6_bestMended_18 : decode cX6_bestMended 18 = .ok (.lconst 0, 1) := by decide +kernel
theorem dX6_bestMended_19 : decode cX6_bestMended 19 = .ok (.lconst 1, 1) := by decide +kernel
theorem dX6_bestMended_20 : decode cX6_bestMended 20 = .ok (.invokestatic 47, 3) := by decide +kernel
theorem dX6_bestMended_23 : decode cX6_bestMended 23 = .ok (.ifCond .ne 6, 3) := by decide +kernel
theorem dX6_bestMended_26 : decode cX6_bestMended 26 = .ok (.bipush (-2), 2) := by decide +kernel
theorem dX6_bestMended_28 : decode cX6_bestMended 28 = .ok (.ireturn, 1) := by decide +kernel
theorem dX6_bestMended_29 : decode cX6_bestMended 29 = .ok (.aload_n 0, 1) := by decide +kernel
theorem dX6_bestMended_30 : decode cX6_bestMended 30 = .ok (.iload_n 1, 1) := by decide +kernel
theorem dX6_bestMended_31 : decode cX6_bestMended 31 = .ok (.iload_n 2, 1) := by decide +kernel
theorem dX6_bestMended_32 : decode cX6_bestMended 32 = .ok (.invokevirtual 196, 3) := by decide +kernel
theorem dX6_bestMended_35 : decode cX6_bestMended 35 = .ok (.istore 4, 2) := by decide +kernel
theorem dX6_bestMended_37 : decode cX6_bestMended 37 = .ok (.iload 4, 2) := by decide +kernel
theorem dX6_bestMended_39 : decode cX6_bestMended 39 = .ok (.bipush (-5), 2) := by decide +kernel
theorem dX6_bestMended_41 : decode cX6_bestMended 41 = .ok (.if_icmp .eq 8, 3) := by decide +kernel
theorem dX6_bestMended_44 : decode cX6_bestMended 44 = .ok (.iload_n 3, 1) := by decide +kernel
theorem dX6_bestMended_45 : decode cX6_bestMended 45 = .ok (.iconst 1, 1) := by decide +kernel
theorem dX6_bestMended_46 : decode cX6_bestMended 46 = .ok (.if_icmp .ne 8, 3) := by decide +kernel
theorem dX6_bestMended_49 : decode cX6_bestMended 49 = .ok (.iload 4, 2) := by decide +kernel
theorem dX6_bestMended_51 : decode cX6_bestMended 51 = .ok (.goto 10, 3) := by decide +kernel
theorem dX6_bestMended_54 : decode cX6_bestMended 54 = .ok (.aload_n 0, 1) := by decide +kernel
theorem dX6_bestMended_55 : decode cX6_bestMended 55 = .ok (.iload 4, 2) := by decide +kernel
theorem dX6_bestMended_57 : decode cX6_bestMended 57 = .ok (.iconst 0, 1) := by decide +kernel
theorem dX6_bestMended_58 : decode cX6_bestMended 58 = .ok (.invokevirtual 53, 3) := by decide +kernel
theorem dX6_bestMended_61 : decode cX6_bestMended 61 = .ok (.ireturn, 1) := by decide +kernel
set_option maxRecDepth 20000 in
theorem ggX6_keysWith_X6_rowsOf : GoodIn wsX6_keysWith wsX6_rowsOf := goodIn_r _ [5, 6, 7, 8, 9, 4, 10, 11, 12, 13, 14, 15, 16, 17, 18, 19, 20, 21, 22, 23, 24, 25, 26, 27, 28, 29, 30] (by decide +kernel) (by decide +kernel)
set_option maxRecDepth 20000 in
theorem gX6_keysWith_X6_rowsOf : GoodIn wsX6_keysWith (wsV RX6 100 RX6 yX6_rowsOf wsX6_rowsOf) := goodIn_app (goodIn_of _ (by decide +kernel)) ggX6_keysWith_X6_rowsOf
theorem dX6_keysWith_0 : decode cX6_keysWith 0 = .ok (.iconst 0, 1) := by decide +kernel
theorem dX6_keysWith_1 : decode cX6_keysWith 1 = .ok (.istore_n 2, 1) := by decide +kernel
theorem dX6_keysWith_2 : decode cX6_keysWith 2 = .ok (.iconst 0, 1) := by decide +kernel
theorem dX6_keysWith_3 : decode cX6_keysWith 3 = .ok (.istore_n 3, 1) := by decide +kernel
theorem dX6_keysWith_4 : decode cX6_keysWith 4 = .ok (.iload_n 3, 1) := by decide +kernel
theorem dX6_keysWith_5 : decode cX6_keysWith 5 = .ok (.bipush 10, 2) := by decide +kernel
theorem dX6_keysWith_7 : decode cX6_keysWith 7 = .ok (.if_icmp .ge 26, 3) := by decide +kernel
theorem dX6_keysWith_10 : decode cX6_keysWith 10 = .ok (.iload_n 2, 1) := by decide +kernel
theorem dX6_keysWith_11 : decode cX6_keysWith 11 = .ok (.aload_n 0, 1) := by decide +kernel
theorem dX6_keysWith_12 : decode cX6_keysWith 12 = .ok (.iload_n 3, 1) := by decide +kernel
theorem dX6_keysWith_13 : decode cX6_keysWith 13 = .ok (.invokevirtual 100, 3) := by decide +kernel
theorem dX6_keysWith_16 : decode cX6_keysWith 16 = .ok (.iload_n 1, 1) := by decide +kernel
theorem dX6_keysWith_17 : decode cX6_keysWith 17 = .ok (.if_icmp .lt 7, 3) := by decide +kernel
theorem dX6_keysWith_20 : decode cX6_keysWith 20 = .ok (.iconst 1, 1) := by decide +kernel
theorem dX6_keysWith_21 : decode cX6_keysWith 21 = .ok (.goto 4, 3) := by decide +kernel
theorem dX6_keysWith_24 : decode cX6_keysWith 24 = .ok (.iconst 0, 1) := by decide +kernel
theorem dX6_keysWith_25 : decode cX6_keysWith 25 = .ok (.iadd, 1) := by decide +kernel
theorem dX6_keysWith_26 : decode cX6_keysWith 26 = .ok (.istore_n 2, 1) := by decide +kernel
theorem dX6_keysWith_27 : decode cX6_keysWith 27 = .ok (.iinc 3 1, 3) := by decide +kernel
theorem dX6_keysWith_30 : decode cX6_keysWith 30 = .ok (.goto (-26), 3) := by decide +kernel
theorem dX6_keysWith_33 : decode cX6_keysWith 33 = .ok (.iload_n 2, 1) := by decide +kernel
theorem dX6_keysWith_34 : decode cX6_keysWith 34 = .ok (.ireturn, 1) := by decide +kernel
set_option maxRecDepth 20000 in
theorem ggX6_sureRows_X6_isSure : GoodIn wsX6_sureRows wsX6_isSure := goodIn_r _ [6, 7, 8, 9, 10, 5, 11, 1, 12, 13, 14, 15, 16, 17, 18, 19, 20, 21, 22, 23, 24, 25, 26, 27, 28, 29, 30, 31, 32, 33, 34, 35, 36, 37, 38, 39, 40, 41, 42, 43, 44, 45] (by decide +kernel) (by decide +kernel)
set_option maxRecDepth 20000 in
theorem gX6_sureRows_X6_isSure : GoodIn wsX6_sureRows (wsV RX6 146 RX6 yX6_isSure wsX6_isSure) := goodIn_app (goodIn_of _ (by decide +kernel)) ggX6_sureRows_X6_isSure
theorem dX6_sureRows_0 : decode cX6_sureRows 0 = .ok (.iconst 0, 1) := by decide +kernel
theorem dX6_sureRows_1 : decode cX6_sureRows 1 = .ok (.istore_n 1, 1) := by decide +kernel
theorem dX6_sureRows_2 : decode cX6_sureRows 2 = .ok (.iconst 0, 1) := by decide +kernel
theorem dX6_sureRows_3 : decode cX6_sureRows 3 = .ok (.istore_n 2, 1) := by decide +kernel
theorem dX6_sureRows_4 : decode cX6_sureRows 4 = .ok (.iload_n 2, 1) := by decide +kernel
theorem dX6_sureRows_5 : decode cX6_sureRows 5 = .ok (.aload_n 0, 1) := by decide +kernel
theorem dX6_sureRows_6 : decode cX6_sureRows 6 = .ok (.getfield 7, 3) := by decide +kernel
theorem dX6_sureRows_9 : decode cX6_sureRows 9 = .ok (.iconst 0, 1) := by decide +kernel
theorem dX6_sureRows_10 : decode cX6_sureRows 10 = .ok (.iaload, 1) := by decide +kernel
theorem dX6_sureRows_11 : decode cX6_sureRows 11 = .ok (.if_icmp .ge 25, 3) := by decide +kernel
theorem dX6_sureRows_14 : decode cX6_sureRows 14 = .ok (.iload_n 1, 1) := by decide +kernel
theorem dX6_sureRows_15 : decode cX6_sureRows 15 = .ok (.aload_n 0, 1) := by decide +kernel
theorem dX6_sureRows_16 : decode cX6_sureRows 16 = .ok (.iload_n 2, 1) := by decide +kernel
theorem dX6_sureRows_17 : decode cX6_sureRows 17 = .ok (.invokevirtual 146, 3) := by decide +kernel
theorem dX6_sureRows_20 : decode cX6_sureRows 20 = .ok (.ifCond .eq 7, 3) := by decide +kernel
theorem dX6_sureRows_23 : decode cX6_sureRows 23 = .ok (.iconst 1, 1) := by decide +kernel
theorem dX6_sureRows_24 : decode cX6_sureRows 24 = .ok (.goto 4, 3) := by decide +kernel
theorem dX6_sureRows_27 : decode cX6_sureRows 27 = .ok (.iconst 0, 1) := by decide +kernel
theorem dX6_sureRows_28 : decode cX6_sureRows 28 = .ok (.iadd, 1) := by decide +kernel
theorem dX6_sureRows_29 : decode cX6_sureRows 29 = .ok (.istore_n 1, 1) := by decide +kernel
theorem dX6_sureRows_30 : decode cX6_sureRows 30 = .ok (.iinc 2 1, 3) := by decide +kernel
theorem dX6_sureRows_33 : decode cX6_sureRows 33 = .ok (.goto (-29), 3) := by decide +kernel
theorem dX6_sureRows_36 : decode cX6_sureRows 36 = .ok (.iload_n 1, 1) := by decide +kernel
theorem dX6_sureRows_37 : decode cX6_sureRows 37 = .ok (.ireturn, 1) := by decide +kernel
set_option maxRecDepth 20000 in
theorem ggX6_values_X6_asksValue : GoodIn wsX6_values wsX6_asksValue := goodIn_r _ [7, 8, 9, 10, 11, 6, 12, 2, 13, 1, 14, 15, 16, 17, 18, 19, 20, 21, 22, 23, 24, 25, 26, 27, 28, 29, 30, 31, 32, 33, 34, 35, 36, 37, 38, 39, 40, 41, 42, 43, 44, 45, 46, 47, 48, 49, 50, 51, 52, 53, 54, 55, 56, 57, 58, 59, 60, 61, 62, 63, 64, 65, 66, 67, 68, 69, 70] (by decide +kernel) (by decide +kernel)
set_option maxRecDepth 20000 in
theorem gX6_values_X6_asksValue : GoodIn wsX6_values (wsV RX6 181 RX6 yX6_asksValue wsX6_asksValue) := goodIn_app (goodIn_of _ (by decide +kernel)) ggX6_values_X6_asksValue
theorem dX6_values_0 : decode cX6_values 0 = .ok (.iconst 0, 1) := by decide +kernel
theorem dX6_values_1 : decode cX6_values 1 = .ok (.istore_n 2, 1) := by decide +kernel
theorem dX6_values_2 : decode cX6_values 2 = .ok (.iconst 0, 1) := by decide +kernel
theorem dX6_values_3 : decode cX6_values 3 = .ok (.istore_n 3, 1) := by decide +kernel
theorem dX6_values_4 : decode cX6_values 4 = .ok (.iload_n 3, 1) := by decide +kernel
theorem dX6_values_5 : decode cX6_values 5 = .ok (.bipush 8, 2) := by decide +kernel
theorem dX6_values_7 : decode cX6_values 7 = .ok (.if_icmp .ge 45, 3) := by decide +kernel
theorem dX6_values_10 : decode cX6_values 10 = .ok (.aload_n 0, 1) := by decide +kernel
theorem dX6_values_11 : decode cX6_values 11 = .ok (.iload_n 3, 1) := by decide +kernel
theorem dX6_values_12 : decode cX6_values 12 = .ok (.invokevirtual 181, 3) := by decide +kernel
theorem dX6_values_15 : decode cX6_values 15 = .ok (.iload_n 2, 1) := by decide +kernel
theorem dX6_values_16 : decode cX6_values 16 = .ok (.iload_n 1, 1) := by decide +kernel
theorem dX6_values_17 : decode cX6_values 17 = .ok (.ifCond .eq 15, 3) := by decide +kernel
theorem dX6_values_20 : decode cX6_values 20 = .ok (.aload_n 0, 1) := by decide +kernel
theorem dX6_values_21 : decode cX6_values 21 = .ok (.getfield 161, 3) := by decide +kernel
theorem dX6_values_24 : decode cX6_values 24 = .ok (.bipush (-5), 2) := by decide +kernel
theorem dX6_values_26 : decode cX6_values 26 = .ok (.if_icmp .ne 17, 3) := by decide +kernel
theorem dX6_values_29 : decode cX6_values 29 = .ok (.goto 10, 3) := by decide +kernel
theorem dX6_values_32 : decode cX6_values 32 = .ok (.aload_n 0, 1) := by decide +kernel
theorem dX6_values_33 : decode cX6_values 33 = .ok (.getfield 152, 3) := by decide +kernel
theorem dX6_values_36 : decode cX6_values 36 = .ok (.ifCond .le 7, 3) := by decide +kernel
theorem dX6_values_39 : decode cX6_values 39 = .ok (.iconst 1, 1) := by decide +kernel
theorem dX6_values_40 : decode cX6_values 40 = .ok (.goto 4, 3) := by decide +kernel
theorem dX6_values_43 : decode cX6_values 43 = .ok (.iconst 0, 1) := by decide +kernel
theorem dX6_values_44 : decode cX6_values 44 = .ok (.iadd, 1) := by decide +kernel
theorem dX6_values_45 : decode cX6_values 45 = .ok (.istore_n 2, 1) := by decide +kernel
theorem dX6_values_46 : decode cX6_values 46 = .ok (.iinc 3 1, 3) := by decide +kernel
theorem dX6_values_49 : decode cX6_values 49 = .ok (.goto (-45), 3) := by decide +kernel
theorem dX6_values_52 : decode cX6_values 52 = .ok (.iload_n 2, 1) := by decide +kernel
theorem dX6_values_53 : decode cX6_values 53 = .ok (.ireturn, 1) := by decide +kernel
set_option maxRecDepth 20000 in
theorem ggX6_waysThat_X6_findsChoices : GoodIn wsX6_waysThat wsX6_findsChoices := goodIn_r _ [6, 7, 8, 9, 10, 11, 12, 13, 5, 14, 15, 16, 17, 18, 19, 20, 21, 22, 36, 37, 38, 39, 40, 41, 42, 43, 44, 45, 46, 47, 48, 49, 50, 51, 52, 53, 54, 55] (by decide +kernel) (by decide +kernel)
set_option maxRecDepth 20000 in
theorem gX6_waysThat_X6_findsChoices : GoodIn wsX6_waysThat (wsV RX6 109 RX6 yX6_findsChoices wsX6_findsChoices) := goodIn_app (goodIn_of _ (by decide +kernel)) ggX6_waysThat_X6_findsChoices
set_option maxRecDepth 20000 in
theorem ggX6_waysThat_X6_mendings : GoodIn wsX6_waysThat wsX6_mendings := goodIn_r _ [26, 7, 36, 37, 38, 39, 40, 41, 42, 43, 44, 45, 46, 47, 48, 49, 50, 51, 52, 53, 54, 55] (by decide +kernel) (by decide +kernel)
set_option maxRecDepth 20000 in
theorem gX6_waysThat_X6_mendings : GoodIn wsX6_waysThat (wsV RX6 112 RX6 yX6_mendings wsX6_mendings) := goodIn_app (goodIn_of _ (by decide +kernel)) ggX6_waysThat_X6_mendings
set_option maxRecDepth 20000 in
theorem ggX6_waysThat_X6_takes : GoodIn wsX6_waysThat wsX6_takes := goodIn_r _ [30, 7, 31, 10, 36, 37, 38, 39, 40, 41, 42, 43, 44, 45, 46, 47, 48, 49, 50, 51, 52, 53, 54, 55] (by decide +kernel) (by decide +kernel)
set_option maxRecDepth 20000 in
theorem gX6_waysThat_X6_takes : GoodIn wsX6_waysThat (wsV RX6 167 RX6 yX6_takes wsX6_takes) := goodIn_app (goodIn_of _ (by decide +kernel)) ggX6_waysThat_X6_takes
set_option maxRecDepth 20000 in
theorem ggX6_waysThat_X6_wayLong : GoodIn wsX6_waysThat wsX6_wayLong := goodIn_r _ [35, 31, 11, 12, 13, 5, 14, 8, 36, 37, 38, 39, 40, 41, 42, 43, 44, 45, 46, 47, 48, 49, 50, 51, 52, 53, 54, 55] (by decide +kernel) (by decide +kernel)
set_option maxRecDepth 20000 in
theorem gX6_waysThat_X6_wayLong : GoodIn wsX6_waysThat (wsV RX6 176 RX6 yX6_wayLong wsX6_wayLong) := goodIn_app (goodIn_of _ (by decide +kernel)) ggX6_waysThat_X6_wayLong
theorem dX6_waysThat_0 : decode cX6_waysThat 0 = .ok (.aload_n 0, 1) := by decide +kernel
theorem dX6_waysThat_1 : decode cX6_waysThat 1 = .ok (.invokevirtual 109, 3) := by decide +kernel
theorem dX6_waysThat_4 : decode cX6_waysThat 4 = .ok (.iconst 0, 1) := by decide +kernel
theorem dX6_waysThat_5 : decode cX6_waysThat 5 = .ok (.istore_n 2, 1) := by decide +kernel
theorem dX6_waysThat_6 : decode cX6_waysThat 6 = .ok (.iconst 0, 1) := by decide +kernel
theorem dX6_waysThat_7 : decode cX6_waysThat 7 = .ok (.istore_n 3, 1) := by decide +kernel
theorem dX6_waysThat_8 : decode cX6_waysThat 8 = .ok (.iload_n 3, 1) := by decide +kernel
theorem dX6_waysThat_9 : decode cX6_waysThat 9 = .ok (.bipush 100, 2) := by decide +kernel
theorem dX6_waysThat_11 : decode cX6_waysThat 11 = .ok (.if_icmp .ge 16, 3) := by decide +kernel
theorem dX6_waysThat_14 : decode cX6_waysThat 14 = .ok (.aload_n 0, 1) := by decide +kernel
theorem dX6_waysThat_15 : decode cX6_waysThat 15 = .ok (.getfield 41, 3) := by decide +kernel
theorem dX6_waysThat_18 : decode cX6_waysThat 18 = .ok (.iload_n 3, 1) := by decide +kernel
theorem dX6_waysThat_19 : decode cX6_waysThat 19 = .ok (.iconst 0, 1) := by decide +kernel
theorem dX6_waysThat_20 : decode cX6_waysThat 20 = .ok (.iastore, 1) := by decide +kernel
theorem dX6_waysThat_21 : decode cX6_waysThat 21 = .ok (.iinc 3 1, 3) := by decide +kernel
theorem dX6_waysThat_24 : decode cX6_waysThat 24 = .ok (.goto (-16), 3) := by decide +kernel
theorem dX6_waysThat_27 : decode cX6_waysThat 27 = .ok (.iconst 0, 1) := by decide +kernel
theorem dX6_waysThat_28 : decode cX6_waysThat 28 = .ok (.istore_n 2, 1) := by decide +kernel
theorem dX6_waysThat_29 : decode cX6_waysThat 29 = .ok (.iload_n 2, 1) := by decide +kernel
theorem dX6_waysThat_30 : decode cX6_waysThat 30 = .ok (.aload_n 0, 1) := by decide +kernel
theorem dX6_waysThat_31 : decode cX6_waysThat 31 = .ok (.invokevirtual 112, 3) := by decide +kernel
theorem dX6_waysThat_34 : decode cX6_waysThat 34 = .ok (.if_icmp .ge 59, 3) := by decide +kernel
theorem dX6_waysThat_37 : decode cX6_waysThat 37 = .ok (.aload_n 0, 1) := by decide +kernel
theorem dX6_waysThat_38 : decode cX6_waysThat 38 = .ok (.iload_n 2, 1) := by decide +kernel
theorem dX6_waysThat_39 : decode cX6_waysThat 39 = .ok (.invokevirtual 167, 3) := by decide +kernel
theorem dX6_waysThat_42 : decode cX6_waysThat 42 = .ok (.iconst 0, 1) := by decide +kernel
theorem dX6_waysThat_43 : decode cX6_waysThat 43 = .ok (.istore_n 3, 1) := by decide +kernel
theorem dX6_waysThat_44 : decode cX6_waysThat 44 = .ok (.iload_n 3, 1) := by decide +kernel
theorem dX6_waysThat_45 : decode cX6_waysThat 45 = .ok (.bipush 100, 2) := by decide +kernel
theorem dX6_waysThat_47 : decode cX6_waysThat 47 = .ok (.if_icmp .ge 40, 3) := by decide +kernel
theorem dX6_waysThat_50 : decode cX6_waysThat 50 = .ok (.aload_n 0, 1) := by decide +kernel
theorem dX6_waysThat_51 : decode cX6_waysThat 51 = .ok (.getfield 41, 3) := by decide +kernel
theorem dX6_waysThat_54 : decode cX6_waysThat 54 = .ok (.iload_n 3, 1) := by decide +kernel
theorem dX6_waysThat_55 : decode cX6_waysThat 55 = .ok (.dup2, 1) := by decide +kernel
theorem dX6_waysThat_56 : decode cX6_waysThat 56 = .ok (.iaload, 1) := by decide +kernel
theorem dX6_waysThat_57 : decode cX6_waysThat 57 = .ok (.aload_n 0, 1) := by decide +kernel
theorem dX6_waysThat_58 : decode cX6_waysThat 58 = .ok (.iload_n 3, 1) := by decide +kernel
theorem dX6_waysThat_59 : decode cX6_waysThat 59 = .ok (.bipush 10, 2) := by decide +kernel
theorem dX6_waysThat_61 : decode cX6_waysThat 61 = .ok (.idiv, 1) := by decide +kernel
theorem dX6_waysThat_62 : decode cX6_waysThat 62 = .ok (.iload_n 3, 1) := by decide +kernel
theorem dX6_waysThat_63 : decode cX6_waysThat 63 = .ok (.bipush 10, 2) := by decide +kernel
theorem dX6_waysThat_65 : decode cX6_waysThat 65 = .ok (.irem, 1) := by decide +kernel
theorem dX6_waysThat_66 : decode cX6_waysThat 66 = .ok (.invokevirtual 176, 3) := by decide +kernel
theorem dX6_waysThat_69 : decode cX6_waysThat 69 = .ok (.bipush (-5), 2) := by decide +kernel
theorem dX6_waysThat_71 : decode cX6_waysThat 71 = .ok (.if_icmp .ne 7, 3) := by decide +kernel
theorem dX6_waysThat_74 : decode cX6_waysThat 74 = .ok (.iconst 0, 1) := by decide +kernel
theorem dX6_waysThat_75 : decode cX6_waysThat 75 = .ok (.goto 4, 3) := by decide +kernel
theorem dX6_waysThat_78 : decode cX6_waysThat 78 = .ok (.iconst 1, 1) := by decide +kernel
theorem dX6_waysThat_79 : decode cX6_waysThat 79 = .ok (.iadd, 1) := by decide +kernel
theorem dX6_waysThat_80 : decode cX6_waysThat 80 = .ok (.iastore, 1) := by decide +kernel
theorem dX6_waysThat_81 : decode cX6_waysThat 81 = .ok (.iinc 3 1, 3) := by decide +kernel
theorem dX6_waysThat_84 : decode cX6_waysThat 84 = .ok (.goto (-40), 3) := by decide +kernel
theorem dX6_waysThat_87 : decode cX6_waysThat 87 = .ok (.iinc 2 1, 3) := by decide +kernel
theorem dX6_waysThat_90 : decode cX6_waysThat 90 = .ok (.goto (-61), 3) := by decide +kernel
theorem dX6_waysThat_93 : decode cX6_waysThat 93 = .ok (.iconst 0, 1) := by decide +kernel
theorem dX6_waysThat_94 : decode cX6_waysThat 94 = .ok (.istore_n 3, 1) := by decide +kernel
theorem dX6_waysThat_95 : decode cX6_waysThat 95 = .ok (.iconst 0, 1) := by decide +kernel
theorem dX6_waysThat_96 : decode cX6_waysThat 96 = .ok (.istore 4, 2) := by decide +kernel
theorem dX6_waysThat_98 : decode cX6_waysThat 98 = .ok (.iload 4, 2) := by decide +kernel
theorem dX6_waysThat_100 : decode cX6_waysThat 100 = .ok (.bipush 100, 2) := by decide +kernel
theorem dX6_waysThat_102 : decode cX6_waysThat 102 = .ok (.if_icmp .ge 42, 3) := by decide +kernel
theorem dX6_waysThat_105 : decode cX6_waysThat 105 = .ok (.iload_n 3, 1) := by decide +kernel
theorem dX6_waysThat_106 : decode cX6_waysThat 106 = .ok (.aload_n 0, 1) := by decide +kernel
theorem dX6_waysThat_107 : decode cX6_waysThat 107 = .ok (.getfield 41, 3) := by decide +kernel
theorem dX6_waysThat_110 : decode cX6_waysThat 110 = .ok (.iload 4, 2) := by decide +kernel
theorem dX6_waysThat_112 : decode cX6_waysThat 112 = .ok (.iaload, 1) := by decide +kernel
theorem dX6_waysThat_113 : decode cX6_waysThat 113 = .ok (.ifCond .le 22, 3) := by decide +kernel
theorem dX6_waysThat_116 : decode cX6_waysThat 116 = .ok (.iload_n 1, 1) := by decide +kernel
theorem dX6_waysThat_117 : decode cX6_waysThat 117 = .ok (.ifCond .eq 14, 3) := by decide +kernel
theorem dX6_waysThat_120 : decode cX6_waysThat 120 = .ok (.aload_n 0, 1) := by decide +kernel
theorem dX6_waysThat_121 : decode cX6_waysThat 121 = .ok (.getfield 41, 3) := by decide +kernel
theorem dX6_waysThat_124 : decode cX6_waysThat 124 = .ok (.iload 4, 2) := by decide +kernel
theorem dX6_waysThat_126 : decode cX6_waysThat 126 = .ok (.iaload, 1) := by decide +kernel
theorem dX6_waysThat_127 : decode cX6_waysThat 127 = .ok (.iload_n 2, 1) := by decide +kernel
theorem dX6_waysThat_128 : decode cX6_waysThat 128 = .ok (.if_icmp .ne 7, 3) := by decide +kernel
theorem dX6_waysThat_131 : decode cX6_waysThat 131 = .ok (.iconst 1, 1) := by decide +kernel
theorem dX6_waysThat_132 : decode cX6_waysThat 132 = .ok (.goto 4, 3) := by decide +kernel
theorem dX6_waysThat_135 : decode cX6_waysThat 135 = .ok (.iconst 0, 1) := by decide +kernel
theorem dX6_waysThat_136 : decode cX6_waysThat 136 = .ok (.iadd, 1) := by decide +kernel
theorem dX6_waysThat_137 : decode cX6_waysThat 137 = .ok (.istore_n 3, 1) := by decide +kernel
theorem dX6_waysThat_138 : decode cX6_waysThat 138 = .ok (.iinc 4 1, 3) := by decide +kernel
theorem dX6_waysThat_141 : decode cX6_waysThat 141 = .ok (.goto (-43), 3) := by decide +kernel
theorem dX6_waysThat_144 : decode cX6_waysThat 144 = .ok (.iload_n 3, 1) := by decide +kernel
theorem dX6_waysThat_145 : decode cX6_waysThat 145 = .ok (.ireturn, 1) := by decide +kernel
set_option maxRecDepth 20000 in
theorem ggX6_count_X6_keysWith : GoodIn wsX6_count wsX6_keysWith := goodIn_r _ [8, 9, 10, 11, 7, 12, 1, 13, 14, 15, 16, 82, 83, 84, 85, 86, 87, 88, 89, 90, 91, 92, 93, 94, 95, 96, 97, 98, 99, 100, 101] (by decide +kernel) (by decide +kernel)
set_option maxRecDepth 20000 in
theorem gX6_count_X6_keysWith : GoodIn wsX6_count (wsV RX6 199 RX6 yX6_keysWith wsX6_keysWith) := goodIn_app (goodIn_of _ (by decide +kernel)) ggX6_count_X6_keysWith
set_option maxRecDepth 20000 in
theorem ggX6_count_X6_findsChoices : GoodIn wsX6_count wsX6_findsChoices := goodIn_r _ [20, 21, 1, 22, 23, 13, 14, 15, 7, 16, 24, 25, 26, 27, 28, 29, 30, 31, 82, 83, 84, 85, 86, 87, 88, 89, 90, 91, 92, 93, 94, 95, 96, 97, 98, 99, 100, 101] (by decide +kernel) (by decide +kernel)
set_option maxRecDepth 20000 in
theorem gX6_count_X6_findsChoices : GoodIn wsX6_count (wsV RX6 109 RX6 yX6_findsChoices wsX6_findsChoices) := goodIn_app (goodIn_of _ (by decide +kernel)) ggX6_count_X6_findsChoices
set_option maxRecDepth 20000 in
theorem ggX6_count_X6_mendings : GoodIn wsX6_count wsX6_mendings := goodIn_r _ [35, 21, 82, 83, 84, 85, 86, 87, 88, 89, 90, 91, 92, 93, 94, 95, 96, 97, 98, 99, 100, 101] (by decide +kernel) (by decide +kernel)
set_option maxRecDepth 20000 in
theorem gX6_count_X6_mendings : GoodIn wsX6_count (wsV RX6 112 RX6 yX6_mendings wsX6_mendings) := goodIn_app (goodIn_of _ (by decide +kernel)) ggX6_count_X6_mendings
set_option maxRecDepth 20000 in
theorem ggX6_count_X6_sureRows : GoodIn wsX6_count wsX6_sureRows := goodIn_r _ [39, 1, 40, 41, 42, 7, 43, 21, 17, 18, 19, 20, 22, 23, 13, 14, 15, 16, 24, 25, 26, 27, 28, 29, 30, 31, 82, 83, 84, 85, 86, 87, 88, 89, 90, 91, 92, 93, 94, 95, 96, 97, 98, 99, 100, 101] (by decide +kernel) (by decide +kernel)
set_option maxRecDepth 20000 in
theorem gX6_count_X6_sureRows : GoodIn wsX6_count (wsV RX6 202 RX6 yX6_sureRows wsX6_sureRows) := goodIn_app (goodIn_of _ (by decide +kernel)) ggX6_count_X6_sureRows
set_option maxRecDepth 20000 in
theorem ggX6_count_X6_values : GoodIn wsX6_count wsX6_values := goodIn_r _ [47, 48, 49, 50, 51, 52, 7, 53, 54, 55, 56, 57, 58, 59, 17, 18, 19, 20, 21, 1, 22, 23, 13, 14, 15, 16, 24, 25, 26, 27, 28, 29, 30, 31, 32, 33, 34, 35, 60, 61, 62, 63, 64, 65, 66, 67, 68, 69, 70, 71, 72, 82, 83, 84, 85, 86, 87, 88, 89, 90, 91, 92, 93, 94, 95, 96, 97, 98, 99, 100, 101] (by decide +kernel) (by decide +kernel)
set_option maxRecDepth 20000 in
theorem gX6_count_X6_values : GoodIn wsX6_count (wsV RX6 205 RX6 yX6_values wsX6_values) := goodIn_app (goodIn_of _ (by decide +kernel)) ggX6_count_X6_values
set_option maxRecDepth 20000 in
theorem ggX6_count_X6_waysThat : GoodIn wsX6_count wsX6_waysThat := goodIn_r _ [76, 77, 17, 18, 19, 7, 20, 21, 1, 22, 23, 13, 14, 15, 16, 24, 25, 26, 27, 28, 29, 30, 31, 32, 33, 34, 35, 60, 61, 62, 63, 64, 78, 79, 80, 81, 82, 83, 84, 85, 86, 87, 88, 89, 90, 91, 92, 93, 94, 95, 96, 97, 98, 99, 100, 101] (by decide +kernel) (by decide +kernel)
set_option maxRecDepth 20000 in
theorem gX6_count_X6_waysThat : GoodIn wsX6_count (wsV RX6 209 RX6 yX6_waysThat wsX6_waysThat) := goodIn_app (goodIn_of _ (by decide +kernel)) ggX6_count_X6_waysThat
theorem dX6_count_0 : decode cX6_count 0 = .ok (.iload_n 1, 1) := by decide +kernel
theorem dX6_count_1 : decode cX6_count 1 = .ok (.tableswitch 144 0 11 #[63, 70, 76, 82, 91, 96, 96, 111, 111, 127, 134, 139], 63) := by decide +kernel
theorem dX6_count_64 : decode cX6_count 64 = .ok (.aload_n 0, 1) := by decide +kernel
theorem dX6_count_65 : decode cX6_count 65 = .ok (.getfield 7, 3) := by decide +kernel
theorem dX6_count_68 : decode cX6_count 68 = .ok (.iconst 0, 1) := by decide +kernel
theorem dX6_count_69 : decode cX6_count 69 = .ok (.iaload, 1) := by decide +kernel
theorem dX6_count_70 : decode cX6_count 70 = .ok (.ireturn, 1) := by decide +kernel
theorem dX6_count_71 : decode cX6_count 71 = .ok (.aload_n 0, 1) := by decide +kernel
theorem dX6_count_72 : decode cX6_count 72 = .ok (.iconst 1, 1) := by decide +kernel
theorem dX6_count_73 : decode cX6_count 73 = .ok (.invokevirtual 199, 3) := by decide +kernel
theorem dX6_count_76 : decode cX6_count 76 = .ok (.ireturn, 1) := by decide +kernel
theorem dX6_count_77 : decode cX6_count 77 = .ok (.aload_n 0, 1) := by decide +kernel
theorem dX6_count_78 : decode cX6_count 78 = .ok (.iconst 2, 1) := by decide +kernel
theorem dX6_count_79 : decode cX6_count 79 = .ok (.invokevirtual 199, 3) := by decide +kernel
theorem dX6_count_82 : decode cX6_count 82 = .ok (.ireturn, 1) := by decide +kernel
theorem dX6_count_83 : decode cX6_count 83 = .ok (.aload_n 0, 1) := by decide +kernel
theorem dX6_count_84 : decode cX6_count 84 = .ok (.invokevirtual 109, 3) := by decide +kernel
theorem dX6_count_87 : decode cX6_count 87 = .ok (.aload_n 0, 1) := by decide +kernel
theorem dX6_count_88 : decode cX6_count 88 = .ok (.invokevirtual 112, 3) := by decide +kernel
theorem dX6_count_91 : decode cX6_count 91 = .ok (.ireturn, 1) := by decide +kernel
theorem dX6_count_92 : decode cX6_count 92 = .ok (.aload_n 0, 1) := by decide +kernel
theorem dX6_count_93 : decode cX6_count 93 = .ok (.invokevirtual 202, 3) := by decide +kernel
theorem dX6_count_96 : decode cX6_count 96 = .ok (.ireturn, 1) := by decide +kernel
theorem dX6_count_97 : decode cX6_count 97 = .ok (.aload_n 0, 1) := by decide +kernel
theorem dX6_count_98 : decode cX6_count 98 = .ok (.iload_n 1, 1) := by decide +kernel
theorem dX6_count_99 : decode cX6_count 99 = .ok (.iconst 5, 1) := by decide +kernel
theorem dX6_count_100 : decode cX6_count 100 = .ok (.if_icmp .ne 7, 3) := by decide +kernel
theorem dX6_count_103 : decode cX6_count 103 = .ok (.iconst 1, 1) := by decide +kernel
theorem dX6_count_104 : decode cX6_count 104 = .ok (.goto 4, 3) := by decide +kernel
theorem dX6_count_107 : decode cX6_count 107 = .ok (.iconst 0, 1) := by decide +kernel
theorem dX6_count_108 : decode cX6_count 108 = .ok (.invokevirtual 205, 3) := by decide +kernel
theorem dX6_count_111 : decode cX6_count 111 = .ok (.ireturn, 1) := by decide +kernel
theorem dX6_count_112 : decode cX6_count 112 = .ok (.aload_n 0, 1) := by decide +kernel
theorem dX6_count_113 : decode cX6_count 113 = .ok (.iload_n 1, 1) := by decide +kernel
theorem dX6_count_114 : decode cX6_count 114 = .ok (.bipush 7, 2) := by decide +kernel
theorem dX6_count_116 : decode cX6_count 116 = .ok (.if_icmp .ne 7, 3) := by decide +kernel
theorem dX6_count_119 : decode cX6_count 119 = .ok (.iconst 1, 1) := by decide +kernel
theorem dX6_count_120 : decode cX6_count 120 = .ok (.goto 4, 3) := by decide +kernel
theorem dX6_count_123 : decode cX6_count 123 = .ok (.iconst 0, 1) := by decide +kernel
theorem dX6_count_124 : decode cX6_count 124 = .ok (.invokevirtual 209, 3) := by decide +kernel
theorem dX6_count_127 : decode cX6_count 127 = .ok (.ireturn, 1) := by decide +kernel
theorem dX6_count_128 : decode cX6_count 128 = .ok (.aload_n 0, 1) := by decide +kernel
theorem dX6_count_129 : decode cX6_count 129 = .ok (.getfield 7, 3) := by decide +kernel
theorem dX6_count_132 : decode cX6_count 132 = .ok (.iconst 1, 1) := by decide +kernel
theorem dX6_count_133 : decode cX6_count 133 = .ok (.iaload, 1) := by decide +kernel
theorem dX6_count_134 : decode cX6_count 134 = .ok (.ireturn, 1) := by decide +kernel
theorem dX6_count_135 : decode cX6_count 135 = .ok (.aload_n 0, 1) := by decide +kernel
theorem dX6_count_136 : decode cX6_count 136 = .ok (.getfield 44, 3) := by decide +kernel
theorem dX6_count_139 : decode cX6_count 139 = .ok (.ireturn, 1) := by decide +kernel
theorem dX6_count_140 : decode cX6_count 140 = .ok (.aload_n 0, 1) := by decide +kernel
theorem dX6_count_141 : decode cX6_count 141 = .ok (.getfield 116, 3) := by decide +kernel
theorem dX6_count_144 : decode cX6_count 144 = .ok (.ireturn, 1) := by decide +kernel
theorem dX6_count_145 : decode cX6_count 145 = .ok (.bipush (-2), 2) := by decide +kernel
theorem dX6_count_147 : decode cX6_count 147 = .ok (.ireturn, 1) := by decide +kernel
theorem dJ6_bitCount_0f7a4_0 : decode cJ6_bitCount_0f7a4 0 = .ok (.iload_n 0, 1) := by decide +kernel
theorem dJ6_bitCount_0f7a4_1 : decode cJ6_bitCount_0f7a4 1 = .ok (.iload_n 0, 1) := by decide +kernel
theorem dJ6_bitCount_0f7a4_2 : decode cJ6_bitCount_0f7a4 2 = .ok (.iconst 1, 1) := by decide +kernel
theorem dJ6_bitCount_0f7a4_3 : decode cJ6_bitCount_0f7a4 3 = .ok (.iushr, 1) := by decide +kernel
theorem dJ6_bitCount_0f7a4_4 : decode cJ6_bitCount_0f7a4 4 = .ok (.ldc_w 265, 3) := by decide +kernel
theorem dJ6_bitCount_0f7a4_7 : decode cJ6_bitCount_0f7a4 7 = .ok (.iand, 1) := by decide +kernel
theorem dJ6_bitCount_0f7a4_8 : decode cJ6_bitCount_0f7a4 8 = .ok (.isub, 1) := by decide +kernel
theorem dJ6_bitCount_0f7a4_9 : decode cJ6_bitCount_0f7a4 9 = .ok (.istore_n 0, 1) := by decide +kernel
theorem dJ6_bitCount_0f7a4_10 : decode cJ6_bitCount_0f7a4 10 = .ok (.iload_n 0, 1) := by decide +kernel
theorem dJ6_bitCount_0f7a4_11 : decode cJ6_bitCount_0f7a4 11 = .ok (.ldc_w 266, 3) := by decide +kernel
theorem dJ6_bitCount_0f7a4_14 : decode cJ6_bitCount_0f7a4 14 = .ok (.iand, 1) := by decide +kernel
theorem dJ6_bitCount_0f7a4_15 : decode cJ6_bitCount_0f7a4 15 = .ok (.iload_n 0, 1) := by decide +kernel
theorem dJ6_bitCount_0f7a4_16 : decode cJ6_bitCount_0f7a4 16 = .ok (.iconst 2, 1) := by decide +kernel
theorem dJ6_bitCount_0f7a4_17 : decode cJ6_bitCount_0f7a4 17 = .ok (.iushr, 1) := by decide +kernel
theorem dJ6_bitCount_0f7a4_18 : decode cJ6_bitCount_0f7a4 18 = .ok (.ldc_w 266, 3) := by decide +kernel
theorem dJ6_bitCount_0f7a4_21 : decode cJ6_bitCount_0f7a4 21 = .ok (.iand, 1) := by decide +kernel
theorem dJ6_bitCount_0f7a4_22 : decode cJ6_bitCount_0f7a4 22 = .ok (.iadd, 1) := by decide +kernel
theorem dJ6_bitCount_0f7a4_23 : decode cJ6_bitCount_0f7a4 23 = .ok (.istore_n 0, 1) := by decide +kernel
theorem dJ6_bitCount_0f7a4_24 : decode cJ6_bitCount_0f7a4 24 = .ok (.iload_n 0, 1) := by decide +kernel
theorem dJ6_bitCount_0f7a4_25 : decode cJ6_bitCount_0f7a4 25 = .ok (.iload_n 0, 1) := by decide +kernel
theorem dJ6_bitCount_0f7a4_26 : decode cJ6_bitCount_0f7a4 26 = .ok (.iconst 4, 1) := by decide +kernel
theorem dJ6_bitCount_0f7a4_27 : decode cJ6_bitCount_0f7a4 27 = .ok (.iushr, 1) := by decide +kernel
theorem dJ6_bitCount_0f7a4_28 : decode cJ6_bitCount_0f7a4 28 = .ok (.iadd, 1) := by decide +kernel
theorem dJ6_bitCount_0f7a4_29 : decode cJ6_bitCount_0f7a4 29 = .ok (.ldc_w 267, 3) := by decide +kernel
theorem dJ6_bitCount_0f7a4_32 : decode cJ6_bitCount_0f7a4 32 = .ok (.iand, 1) := by decide +kernel
theorem dJ6_bitCount_0f7a4_33 : decode cJ6_bitCount_0f7a4 33 = .ok (.istore_n 0, 1) := by decide +kernel
theorem dJ6_bitCount_0f7a4_34 : decode cJ6_bitCount_0f7a4 34 = .ok (.iload_n 0, 1) := by decide +kernel
theorem dJ6_bitCount_0f7a4_35 : decode cJ6_bitCount_0f7a4 35 = .ok (.iload_n 0, 1) := by decide +kernel
theorem dJ6_bitCount_0f7a4_36 : decode cJ6_bitCount_0f7a4 36 = .ok (.bipush 8, 2) := by decide +kernel
theorem dJ6_bitCount_0f7a4_38 : decode cJ6_bitCount_0f7a4 38 = .ok (.iushr, 1) := by decide +kernel
theorem dJ6_bitCount_0f7a4_39 : decode cJ6_bitCount_0f7a4 39 = .ok (.iadd, 1) := by decide +kernel
theorem dJ6_bitCount_0f7a4_40 : decode cJ6_bitCount_0f7a4 40 = .ok (.istore_n 0, 1) := by decide +kernel
theorem dJ6_bitCount_0f7a4_41 : decode cJ6_bitCount_0f7a4 41 = .ok (.iload_n 0, 1) := by decide +kernel
theorem dJ6_bitCount_0f7a4_42 : decode cJ6_bitCount_0f7a4 42 = .ok (.iload_n 0, 1) := by decide +kernel
theorem dJ6_bitCount_0f7a4_43 : decode cJ6_bitCount_0f7a4 43 = .ok (.bipush 16, 2) := by decide +kernel
theorem dJ6_bitCount_0f7a4_45 : decode cJ6_bitCount_0f7a4 45 = .ok (.iushr, 1) := by decide +kernel
theorem dJ6_bitCount_0f7a4_46 : decode cJ6_bitCount_0f7a4 46 = .ok (.iadd, 1) := by decide +kernel
theorem dJ6_bitCount_0f7a4_47 : decode cJ6_bitCount_0f7a4 47 = .ok (.istore_n 0, 1) := by decide +kernel
theorem dJ6_bitCount_0f7a4_48 : decode cJ6_bitCount_0f7a4 48 = .ok (.iload_n 0, 1) := by decide +kernel
theorem dJ6_bitCount_0f7a4_49 : decode cJ6_bitCount_0f7a4 49 = .ok (.bipush 63, 2) := by decide +kernel
theorem dJ6_bitCount_0f7a4_51 : decode cJ6_bitCount_0f7a4 51 = .ok (.iand, 1) := by decide +kernel
theorem dJ6_bitCount_0f7a4_52 : decode cJ6_bitCount_0f7a4 52 = .ok (.ireturn, 1) := by decide +kernel
theorem dJ9_min_7cf53_0 : decode cJ9_min_7cf53 0 = .ok (.iload_n 0, 1) := by decide +kernel
theorem dJ9_min_7cf53_1 : decode cJ9_min_7cf53 1 = .ok (.iload_n 1, 1) := by decide +kernel
theorem dJ9_min_7cf53_2 : decode cJ9_min_7cf53 2 = .ok (.if_icmp .gt 7, 3) := by decide +kernel
theorem dJ9_min_7cf53_5 : decode cJ9_min_7cf53 5 = .ok (.iload_n 0, 1) := by decide +kernel
theorem dJ9_min_7cf53_6 : decode cJ9_min_7cf53 6 = .ok (.goto 4, 3) := by decide +kernel
theorem dJ9_min_7cf53_9 : decode cJ9_min_7cf53 9 = .ok (.iload_n 1, 1) := by decide +kernel
theorem dJ9_min_7cf53_10 : decode cJ9_min_7cf53 10 = .ok (.ireturn, 1) := by decide +kernel
theorem dJ7_fill_53178_0 : decode cJ7_fill_53178 0 = .ok (.iconst 0, 1) := by decide +kernel
theorem dJ7_fill_53178_1 : decode cJ7_fill_53178 1 = .ok (.istore_n 2, 1) := by decide +kernel
theorem dJ7_fill_53178_2 : decode cJ7_fill_53178 2 = .ok (.aload_n 0, 1) := by decide +kernel
theorem dJ7_fill_53178_3 : decode cJ7_fill_53178 3 = .ok (.arraylength, 1) := by decide +kernel
theorem dJ7_fill_53178_4 : decode cJ7_fill_53178 4 = .ok (.istore_n 3, 1) := by decide +kernel
theorem dJ7_fill_53178_5 : decode cJ7_fill_53178 5 = .ok (.iload_n 2, 1) := by decide +kernel
theorem dJ7_fill_53178_6 : decode cJ7_fill_53178 6 = .ok (.iload_n 3, 1) := by decide +kernel
theorem dJ7_fill_53178_7 : decode cJ7_fill_53178 7 = .ok (.if_icmp .ge 13, 3) := by decide +kernel
theorem dJ7_fill_53178_10 : decode cJ7_fill_53178 10 = .ok (.aload_n 0, 1) := by decide +kernel
theorem dJ7_fill_53178_11 : decode cJ7_fill_53178 11 = .ok (.iload_n 2, 1) := by decide +kernel
theorem dJ7_fill_53178_12 : decode cJ7_fill_53178 12 = .ok (.iload_n 1, 1) := by decide +kernel
theorem dJ7_fill_53178_13 : decode cJ7_fill_53178 13 = .ok (.iastore, 1) := by decide +kernel
theorem dJ7_fill_53178_14 : decode cJ7_fill_53178 14 = .ok (.iinc 2 1, 3) := by decide +kernel
theorem dJ7_fill_53178_17 : decode cJ7_fill_53178 17 = .ok (.goto (-12), 3) := by decide +kernel
theorem dJ7_fill_53178_20 : decode cJ7_fill_53178 20 = .ok (.return_, 1) := by decide +kernel
end
section
/-! my own rows over the kit: contracts of one form (heap picture in, heap picture out), entry, calls, returns -/
def nbW : List (String × Nat × MethodName × String) := [
  ("SureMendings", 9, yX3_init, "SureMendings"), ("SureMendings$History", 17, yX3_init, "SureMendings"), ("SureMendings", 41, yX4_init, "SureMendings"),
  ("SureMendings$Reader", 11, yX3_init, "SureMendings"), ("SureMendings$Table", 36, yX5_copy, "SureMendings"), ("SureMendings$Table", 44, yX5_put, "SureMendings"),
  ("SureMendings$Table", 28, yX5_at, "SureMendings"), ("SureMendings$Choices", 66, yX5_at, "SureMendings"), ("SureMendings$Choices", 56, yX5_put, "SureMendings"),
  ("SureMendings$Choices", 76, yX5_isKey, "SureMendings")]
def nW (U : State) : Prop := ∀ q ∈ nbW, va_Nw (.methodLinkNest q.1 q.2.1 q.2.2.1 q.2.2.2) U
theorem nW_warm {s U : State} (hW : s.WarmedH U.vm) (h : nW s) : nW U := fun q hq => va_Nw.warmM hW (h q hq)
theorem nW_same {u U : State} (hv : u.vm = U.vm) (h : nW u) : nW U := fun q hq => va_Nw.same rfl hv (h q hq)
theorem nW_at {U : State} (h : nW U) (i : Nat) {q : String × Nat × MethodName × String} (hi : nbW[i]? = some q) : va_Nw (.methodLinkNest q.1 q.2.1 q.2.2.1 q.2.2.2) U := h q (List.mem_of_getElem? hi)
abbrev mTY (cI cC cT : ClassId) : List (ClassId × FieldType) := [(cI, .int), (cC, .char), (cT, .object "SureMendings$Table")]
def mPw (D : va_G) (ty : List (ClassId × FieldType)) (W : va_W) (sz : Nat) (U : State) : Prop := U.heap.size = sz ∧ va_P D vwCl W U.heap ∧ va_K D vwCl ty U ∧ va_D (fun _ => True) W ∧ nW U
abbrev mP (D : va_G) (ty : List (ClassId × FieldType)) (av : List Value) (W : va_W) (sz : Nat) : Array Value → State → Prop := va_Pc av (mPw D ty W sz)
def mBw (D : va_G) (ty : List (ClassId × FieldType)) (A : Nat → Prop) (W : va_W) (t : State) : Prop := va_P D vwCl W t.heap ∧ va_K D vwCl ty t ∧ va_D A W
abbrev mQi (D : va_G) (ty : List (ClassId × FieldType)) (F : Int32) (A : Nat → Prop) (W : va_W) : Array Value → State → Outcome → State → Prop := va_Qi (fun (r : Int32) (_ : Unit) => r = F) (fun _ => mBw D ty A W) A
abbrev mQv (D : va_G) (ty : List (ClassId × FieldType)) (A : Nat → Prop) (W : va_W) : Array Value → State → Outcome → State → Prop := va_Qv (fun (_ : Unit) => True) (fun _ => mBw D ty A W) A
abbrev mQr (D : va_G) (ty : List (ClassId × FieldType)) (F : Nat) (A : Nat → Prop) (W : va_W) : Array Value → State → Outcome → State → Prop := va_Qr (fun (_ : Unit) => True) (fun _ a t => a = F ∧ mBw D ty A W t) A
theorem mP_blind {D : va_G} {ty : List (ClassId × FieldType)} {av : List Value} {W : va_W} {sz : Nat} : FrameBlind (mP D ty av W sz) := by
  intro a U g mk h
  obtain ⟨h1, h2, h3, h4, h5, h6⟩ := h
  exact ⟨h1, h2, h3, va_K.moved (u := U) (U := U.calling g mk a) (Vm.Alike.refl U.vm) h4, h5, nW_same (u := U) (U := U.calling g mk a) rfl h6⟩
theorem mCut {D : va_G} {ws wc : va_W} {H : Heap} (hP : va_P D vwCl ws H) (isC : List Nat) (hC : isC.map (fun i => ws[i]?) = wc.map some) : va_P D vwCl wc H := by
  intro k q hk
  have h1 : (isC.map (fun i => ws[i]?))[k]? = some (some q) := by rw [hC, List.getElem?_map, hk]; rfl
  rw [List.getElem?_map] at h1
  cases hi : isC[k]? with
  | none => rw [hi] at h1; cases h1
  | some i =>
    rw [hi] at h1
    exact hP i q (Option.some.inj h1)
theorem mPreV {D : va_G} {ty : List (ClassId × FieldType)} {s : State} {H : Heap} {A : Nat → Prop} {ws wc : va_W} {C : String} {b : Addr} {As : List Value} (hP : va_P D vwCl ws H) (hD : va_D A ws) (hK : va_K D vwCl ty s) (hN : nW s) (isC : List Nat) (hC : isC.map (fun i => ws[i]?) = wc.map some) (hn : va_nd isC = true)
    (hr : ∃ cell : Cell, H[b]? = some cell ∧ cell.vm.isStatics = false ∧ s.vm.findClass C = some cell.cls) : PreV s H C b (mP D ty (.ref b :: As) wc H.size) As :=
  ⟨mP_blind, hr, fun U hU hW => ⟨rfl, by rw [hU], by rw [hU]; exact mCut hP isC hC, va_K.moved hW.alike hK, (hD.sub isC hn hC).weaken (fun _ _ _ _ => trivial), nW_warm hW hN⟩⟩
theorem mPreS {D : va_G} {ty : List (ClassId × FieldType)} {s : State} {H : Heap} {A : Nat → Prop} {ws wc : va_W} {As : List Value} (hP : va_P D vwCl ws H) (hD : va_D A ws) (hK : va_K D vwCl ty s) (hN : nW s) (isC : List Nat) (hC : isC.map (fun i => ws[i]?) = wc.map some) (hn : va_nd isC = true) : PreS s H (mP D ty As wc H.size) As :=
  ⟨mP_blind, fun U hU hW => ⟨rfl, by rw [hU], by rw [hU]; exact mCut hP isC hC, va_K.moved hW.alike hK, (hD.sub isC hn hC).weaken (fun _ _ _ _ => trivial), nW_warm hW hN⟩⟩
theorem mJoin {A0 : Nat → Prop} {D : va_G} {ws wc wr w1 w2 : va_W} {H H1 : Heap} (hP : va_P D vwCl ws H) (hD : va_D A0 ws) (isC isR pm : List Nat) (hC : isC.map (fun i => ws[i]?) = wc.map some) (hR : isR.map (fun i => ws[i]?) = wr.map some) (hn : va_nd isR = true) (hdis : ∀ i ∈ isR, i ∉ isC)
    (hk : ∀ q : Nat, q < H.size → ¬ va_A wc H.size q → H1[q]? = H[q]?) (hF : ∀ q, va_A wc H.size q → A0 q) (hP1 : va_P D vwCl w1 H1) (hD1 : va_D (va_A wc H.size) w1) (hpn : va_nd pm = true) (hp : pm.map (fun i => (wr ++ w1)[i]?) = w2.map some) : va_P D vwCl w2 H1 ∧ va_D A0 w2 := by
  obtain ⟨h1, h2⟩ := va_join hP hD isC isR hC hR hn hdis hk hF hP1 hD1
  exact ⟨mCut h1 pm hp, h2.sub pm hpn hp⟩
section MK
variable {p : Program} {l : Launch} {e : Env} {R : Room} {s : State} {m : MethodId} {args : Array Value} {below : List Frame} {meth : Method} {c : Code} {H : Heap} {locs : List Loc} {cells slots : Nat} {Q : State → Prop} {cc : ByteArray} {pc : Nat} {ls : Array Slot} {rest st0 : List Value} {D : va_G} {ty : List (ClassId × FieldType)} {A : Nat → Prop} {H0 : Heap} {ws wc wr w1 w2 : va_W} {a : Array Value}
theorem mGoi {F : Int32} (hr : va_Run p l e R s m args below meth c H locs cells slots 0 0 (F0 m pc ls st0) rest (mQi D ty F (va_A wc H.size) w1 a) (va_A wc H.size))
    (hP : va_P D vwCl ws H) (hD : va_D A ws) (hS : va_S A H0 H locs) (hA : ∀ q, H0.size ≤ q → A q) (isC isR pm : List Nat) (hC : isC.map (fun i => ws[i]?) = wc.map some) (hR : isR.map (fun i => ws[i]?) = wr.map some) (hn : va_nd isR = true) (hdis : ∀ i ∈ isR, i ∉ isC) (hpn : va_nd pm = true) (hp : pm.map (fun i => (wr ++ w1)[i]?) = w2.map some)
    (kk : ∀ (H1 : Heap) (locs1 : List Loc), va_P D vwCl w2 H1 → va_D A w2 → va_S A H0 H1 locs1 → W p l e R s m args below meth c H1 locs1 cells slots Q (F0 m (pc + 3) ls (.int F :: rest))) : W p l e R s m args below meth c H locs cells slots Q (F0 m pc ls st0) := by
  have hF := va_free (wc := wc) hD hS hA isC hC
  refine va_calli hr hS (fun q _ h => hF q h) hF (fun r u t H1 locs1 ht hvm hw hB hz1 hk1 hS1 => ?_)
  obtain ⟨hP1, hK1, hD1⟩ := hB
  rw [ht] at hP1
  obtain ⟨hP2, hD2⟩ := mJoin hP hD isC isR pm hC hR hn hdis hk1 hF hP1 hD1 hpn hp
  rw [hw]
  exact kk H1 locs1 hP2 hD2 hS1
theorem mGov (hr : va_Run p l e R s m args below meth c H locs cells slots 0 0 (F0 m pc ls st0) rest (mQv D ty (va_A wc H.size) w1 a) (va_A wc H.size))
    (hP : va_P D vwCl ws H) (hD : va_D A ws) (hS : va_S A H0 H locs) (hA : ∀ q, H0.size ≤ q → A q) (isC isR pm : List Nat) (hC : isC.map (fun i => ws[i]?) = wc.map some) (hR : isR.map (fun i => ws[i]?) = wr.map some) (hn : va_nd isR = true) (hdis : ∀ i ∈ isR, i ∉ isC) (hpn : va_nd pm = true) (hp : pm.map (fun i => (wr ++ w1)[i]?) = w2.map some)
    (kk : ∀ (H1 : Heap) (locs1 : List Loc), va_P D vwCl w2 H1 → va_D A w2 → va_S A H0 H1 locs1 → W p l e R s m args below meth c H1 locs1 cells slots Q (F0 m (pc + 3) ls rest)) : W p l e R s m args below meth c H locs cells slots Q (F0 m pc ls st0) := by
  have hF := va_free (wc := wc) hD hS hA isC hC
  refine va_callv hr hS (fun q _ h => hF q h) hF (fun u t H1 locs1 ht hvm hw hB hz1 hk1 hS1 => ?_)
  obtain ⟨hP1, hK1, hD1⟩ := hB
  rw [ht] at hP1
  obtain ⟨hP2, hD2⟩ := mJoin hP hD isC isR pm hC hR hn hdis hk1 hF hP1 hD1 hpn hp
  exact kk H1 locs1 hP2 hD2 hS1
theorem mGor {F : Nat} (hr : va_Run p l e R s m args below meth c H locs cells slots 0 0 (F0 m pc ls st0) rest (mQr D ty F (va_A wc H.size) w1 a) (va_A wc H.size))
    (hP : va_P D vwCl ws H) (hD : va_D A ws) (hS : va_S A H0 H locs) (hA : ∀ q, H0.size ≤ q → A q) (isC isR pm : List Nat) (hC : isC.map (fun i => ws[i]?) = wc.map some) (hR : isR.map (fun i => ws[i]?) = wr.map some) (hn : va_nd isR = true) (hdis : ∀ i ∈ isR, i ∉ isC) (hpn : va_nd pm = true) (hp : pm.map (fun i => (wr ++ w1)[i]?) = w2.map some)
    (kk : ∀ (H1 : Heap) (locs1 : List Loc), va_P D vwCl w2 H1 → va_D A w2 → va_S A H0 H1 locs1 → W p l e R s m args below meth c H1 locs1 cells slots Q (F0 m (pc + 3) ls (.ref F :: rest))) : W p l e R s m args below meth c H locs cells slots Q (F0 m pc ls st0) := by
  have hF := va_free (wc := wc) hD hS hA isC hC
  refine va_callr hr hS (fun q _ h => hF q h) hF (fun u ra t H1 locs1 ht hvm hw hB hz1 hk1 hS1 => ?_)
  obtain ⟨hra, hP1, hK1, hD1⟩ := hB
  rw [ht] at hP1
  obtain ⟨hP2, hD2⟩ := mJoin hP hD isC isR pm hC hR hn hdis hk1 hF hP1 hD1 hpn hp
  rw [hra]
  exact kk H1 locs1 hP2 hD2 hS1
theorem mIret {v : Int32} {W' : va_W} (hx : p.tables.exec = Jvm.exec) (hb : c.code = cc) (hr : meth.sig.returnType = some .int) (hlocks : meth.locks = false) (hP : va_P D vwCl W' H) (hD : va_D A W') (hK : va_K D vwCl ty s) (hS : va_S A s.heap H locs) (hdg : decode cc pc = .ok (.ireturn, 1)) : W p l e R s m args below meth c H locs cells slots (MQ below (mQi D ty v A W') args s cells slots A) (F0 m pc ls [.int v]) :=
  W.iret (v := v) hx hb hr (fun t ht hW => ⟨⟨v, (), rfl, rfl, by rw [ht]; exact hP, va_K.moved hW.alike hK, hD⟩, hS.F ht⟩) hS.2.2 hdg hlocks
theorem mZret {v : Int32} {W' : va_W} {rt : FieldType} (hx : p.tables.exec = Jvm.exec) (hb : c.code = cc) (hr : meth.sig.returnType = some rt) (hn : narrow rt (.int v) = .int v) (hlocks : meth.locks = false) (hP : va_P D vwCl W' H) (hD : va_D A W') (hK : va_K D vwCl ty s) (hS : va_S A s.heap H locs) (hdg : decode cc pc = .ok (.ireturn, 1)) : W p l e R s m args below meth c H locs cells slots (MQ below (mQi D ty v A W') args s cells slots A) (F0 m pc ls [.int v]) :=
  W.zret (v := v) hx hb hr hn (fun t ht hW => ⟨⟨v, (), rfl, rfl, by rw [ht]; exact hP, va_K.moved hW.alike hK, hD⟩, hS.F ht⟩) hS.2.2 hdg hlocks
theorem mVret {W' : va_W} (hx : p.tables.exec = Jvm.exec) (hb : c.code = cc) (hr : meth.sig.returnType = none) (hlocks : meth.locks = false) (hP : va_P D vwCl W' H) (hD : va_D A W') (hK : va_K D vwCl ty s) (hS : va_S A s.heap H locs) (hdg : decode cc pc = .ok (.return_, 1)) : W p l e R s m args below meth c H locs cells slots (MQ below (mQv D ty A W') args s cells slots A) (F0 m pc ls []) :=
  W.vret hx hb hr (fun t ht hW => ⟨⟨(), rfl, trivial, by rw [ht]; exact hP, va_K.moved hW.alike hK, hD⟩, hS.F ht⟩) hS.2.2 hdg hlocks
theorem mAret {v : Nat} {W' : va_W} {C : String} (hx : p.tables.exec = Jvm.exec) (hb : c.code = cc) (hr : meth.sig.returnType = some (.object C)) (hlocks : meth.locks = false) (hP : va_P D vwCl W' H) (hD : va_D A W') (hK : va_K D vwCl ty s) (hS : va_S A s.heap H locs) (hdg : decode cc pc = .ok (.areturn, 1)) : W p l e R s m args below meth c H locs cells slots (MQ below (mQr D ty v A W') args s cells slots A) (F0 m pc ls [.ref v]) :=
  W.aret (v := .ref v) hx hb hr (Or.inl ⟨C, rfl⟩) (Or.inr ⟨v, rfl⟩) (fun t ht hW => ⟨⟨(), v, rfl, trivial, rfl, by rw [ht]; exact hP, va_K.moved hW.alike hK, hD⟩, hS.F ht⟩) hS.2.2 hdg hlocks
end MK
theorem mEnt {l : Launch} {y : MethodName} {ws ws' : List Cond} {rm : Room} {cc : ByteArray} {maxL : Nat} {ret : Option FieldType} {D : va_G} {ty : List (ClassId × FieldType)} {av : List Value} {W0 : va_W} {sz : Nat} {own : String} {Qq : (Nat → Prop) → Array Value → State → Outcome → State → Prop}
    (hy : plainName y.cls = true) (hw : ws = Cond.code y cc maxL ret :: ws') (hown : y.cls = own) (hle : (lg_sl av).length ≤ maxL)
    (body : ∀ (p : Program) (e : Env) (s : State) (m : MethodId) (below : List Frame) (meth : Method) (c : Code) (A : Nat → Prop) (ls : Array Slot), p.tables.exec = Jvm.exec → c.code = cc → meth.sig.returnType = ret → c.maxLocals = maxL → meth.locks = false → s.vm.findClass own = some m.cls → (∀ w ∈ ws, w.before av.toArray s = true) → nW s → (∀ q : Nat, s.heap.size ≤ q → A q) → va_P D vwCl W0 s.heap → va_K D vwCl ty s → va_D A W0 → va_S A s.heap s.heap [] → lv_has ls maxL (lv_args 0 av) → W p l e rm s m av.toArray below meth c s.heap [] 0 0 (MQ below (Qq A) av.toArray s 0 0 A) (F0 m 0 ls [])) :
    Met l y ws rm (mP D ty av W0 sz) (Qq (va_A W0 sz)) 0 0 (va_A W0 sz) := by
  refine Met.ofW (cc := cc) (maxL := maxL) (ret := ret) hy hw ?_
  intro p e s m args below meth c s₁ B hml hv
  obtain ⟨rfl, hsz, hP, hK, hD0, hN⟩ := hv
  have hts := atoms_spec (ws := ws) B.pre
  have hown' : s.vm.findClass own = some m.cls := by rw [← hown]; exact findClass_of_methodNamed B.named
  subst hsz
  have hD := hD0.self (sz := s.heap.size)
  rw [lg_entry_eq]
  exact body p e s m below meth c _ _ B.exec B.bytes B.returns hml B.notSynchronized hown' hts hN (fun q h => Or.inr h) hP hK hD va_S.rf (lv_entry av hle)
/-! pure side: loops and options -/
def fuel : Nat := 4294967296
def iter {σ ρ : Type} : Nat → (σ → Option (σ ⊕ ρ)) → σ → Option ρ
  | 0, _, _ => none
  | n + 1, b, s => match b s with
    | none => none
    | some (.inl t) => iter n b t
    | some (.inr r) => some r
theorem iter_zero {σ ρ : Type} {b : σ → Option (σ ⊕ ρ)} {s : σ} {r : ρ} (h : iter 0 b s = some r) : False := by simp [iter] at h
theorem iter_succ {σ ρ : Type} {n : Nat} {b : σ → Option (σ ⊕ ρ)} {s : σ} {r : ρ} (h : iter (n + 1) b s = some r) : ∃ o, b s = some o ∧ (∀ t, o = .inl t → iter n b t = some r) ∧ (∀ q, o = .inr q → q = r) := by
  unfold iter at h
  cases hb : b s with
  | none => rw [hb] at h; cases h
  | some o =>
    rw [hb] at h
    cases o with
    | inl t => exact ⟨_, rfl, fun t' ht => by cases ht; exact h, fun q hq => by cases hq⟩
    | inr q => exact ⟨_, rfl, fun t' ht => by cases ht, fun q' hq => by cases hq; exact Option.some.inj h⟩
theorem bnd {α β : Type} {x : Option α} {k : α → Option β} {o : β} (h : x.bind k = some o) : ∃ r, x = some r ∧ k r = some o := by
  cases x with
  | none => cases h
  | some r => exact ⟨r, rfl, h⟩
theorem ite_t {α : Type} {P : Prop} [inst : Decidable P] {a b : Option α} {o : α} (h : (if P then a else b) = some o) (hc : P) : a = some o := by rw [if_pos hc] at h; exact h
theorem ite_f {α : Type} {P : Prop} [inst : Decidable P] {a b : Option α} {o : α} (h : (if P then a else b) = some o) (hc : ¬ P) : b = some o := by rw [if_neg hc] at h; exact h
theorem grd {α : Type} {P : Prop} [inst : Decidable P] {a : Option α} {o : α} (h : (if P then a else none) = some o) : P ∧ a = some o := by
  by_cases hc : P
  · rw [if_pos hc] at h; exact ⟨hc, h⟩
  · rw [if_neg hc] at h; cases h
abbrev isB (v : Int32) : Prop := v = 0 ∨ v = 1
theorem isB_narrow {v : Int32} (h : isB v) : narrow .boolean (.int v) = .int v := by rcases h with rfl | rfl <;> rfl
theorem isB_fits {v : Int32} (h : isB v) : fits .boolean (.int v) = true := by rcases h with rfl | rfl <;> rfl
theorem tsw_out {x : Int32} (n : Nat) (hn : n < 1000) (h : ∀ j : Nat, j ≤ n → ¬ x = Int32.ofNat j) : x.toInt < 0 ∨ (n : Int) < x.toInt := by
  rcases Int.lt_or_le x.toInt 0 with h0 | h0
  · exact Or.inl h0
  · refine Or.inr (Int.lt_of_not_ge fun h1 => ?_)
    have hj : x.toInt.toNat ≤ n := by omega
    refine h _ hj (Int32.toInt_inj.mp ?_)
    rw [Int32.toInt_ofNat_of_lt (by omega)]
    omega
end
